section
-- ===== PART A: goes FIRST, ahead of the names: the tables' words, and 'selects' of the private methods out of them =====
/-- a private method of a class that the tables say can be made, by its rows of tables_1 -/
def lw_okq (q : MethodName × Nat) : Prop := (q.1.cls ≠ "java/lang/invoke/MethodHandle" ∧ q.1.cls ≠ "java/lang/invoke/VarHandle") ∧ Cond.instantiable q.1.cls q.2 ∈ tables_1 ∧ Cond.privateMethod q.1 ∈ tables_1 ∧ Cond.instanceMethod q.1 ∈ tables_1
theorem lw_p0 : lw_okq (⟨"BoughtAhead$Book", "boughtWithin", "(III)I"⟩, 9) := ⟨⟨by decide +kernel, by decide +kernel⟩, List.mem_of_getElem? (i := 19) (by decide +kernel), List.mem_of_getElem? (i := 261) (by decide +kernel), List.mem_of_getElem? (i := 262) (by decide +kernel)⟩
theorem lw_p1 : lw_okq (⟨"BoughtAhead", "tellOfOne", "(III)I"⟩, 5) := ⟨⟨by decide +kernel, by decide +kernel⟩, List.mem_of_getElem? (i := 11) (by decide +kernel), List.mem_of_getElem? (i := 276) (by decide +kernel), List.mem_of_getElem? (i := 277) (by decide +kernel)⟩
theorem lw_p2 : lw_okq (⟨"BoughtAhead$Flow", "layWays", "(LBoughtAhead$Book;I)V"⟩, 9) := ⟨⟨by decide +kernel, by decide +kernel⟩, List.mem_of_getElem? (i := 75) (by decide +kernel), List.mem_of_getElem? (i := 313) (by decide +kernel), List.mem_of_getElem? (i := 314) (by decide +kernel)⟩
theorem lw_p3 : lw_okq (⟨"BoughtAhead$Flow", "addWay", "(II)V"⟩, 9) := ⟨⟨by decide +kernel, by decide +kernel⟩, List.mem_of_getElem? (i := 75) (by decide +kernel), List.mem_of_getElem? (i := 317) (by decide +kernel), List.mem_of_getElem? (i := 318) (by decide +kernel)⟩
theorem lw_p4 : lw_okq (⟨"BoughtAhead$Flow", "carry", "(III)J"⟩, 9) := ⟨⟨by decide +kernel, by decide +kernel⟩, List.mem_of_getElem? (i := 75) (by decide +kernel), List.mem_of_getElem? (i := 332) (by decide +kernel), List.mem_of_getElem? (i := 333) (by decide +kernel)⟩
theorem lw_p5 : lw_okq (⟨"BoughtAhead$Flow", "raiseWorth", "(II)V"⟩, 9) := ⟨⟨by decide +kernel, by decide +kernel⟩, List.mem_of_getElem? (i := 75) (by decide +kernel), List.mem_of_getElem? (i := 336) (by decide +kernel), List.mem_of_getElem? (i := 337) (by decide +kernel)⟩
theorem lw_p6 : lw_okq (⟨"BoughtAhead$Flow", "reachThose", "(I)V"⟩, 9) := ⟨⟨by decide +kernel, by decide +kernel⟩, List.mem_of_getElem? (i := 75) (by decide +kernel), List.mem_of_getElem? (i := 341) (by decide +kernel), List.mem_of_getElem? (i := 342) (by decide +kernel)⟩
theorem lw_p7 : lw_okq (⟨"BoughtAhead$Flow", "reach", "(IIII)V"⟩, 9) := ⟨⟨by decide +kernel, by decide +kernel⟩, List.mem_of_getElem? (i := 75) (by decide +kernel), List.mem_of_getElem? (i := 345) (by decide +kernel), List.mem_of_getElem? (i := 346) (by decide +kernel)⟩
theorem lw_p8 : lw_okq (⟨"BoughtAhead$Flow", "nearest", "()I"⟩, 9) := ⟨⟨by decide +kernel, by decide +kernel⟩, List.mem_of_getElem? (i := 75) (by decide +kernel), List.mem_of_getElem? (i := 349) (by decide +kernel), List.mem_of_getElem? (i := 350) (by decide +kernel)⟩
theorem lw_p9 : lw_okq (⟨"BoughtAhead$Flow", "roomOnPath", "(III)I"⟩, 9) := ⟨⟨by decide +kernel, by decide +kernel⟩, List.mem_of_getElem? (i := 75) (by decide +kernel), List.mem_of_getElem? (i := 353) (by decide +kernel), List.mem_of_getElem? (i := 354) (by decide +kernel)⟩
theorem lw_p10 : lw_okq (⟨"BoughtAhead$Flow", "after", "(I)I"⟩, 9) := ⟨⟨by decide +kernel, by decide +kernel⟩, List.mem_of_getElem? (i := 75) (by decide +kernel), List.mem_of_getElem? (i := 357) (by decide +kernel), List.mem_of_getElem? (i := 358) (by decide +kernel)⟩
theorem lw_p11 : lw_okq (⟨"BoughtAhead$Flow", "takesBack", "(I)Z"⟩, 9) := ⟨⟨by decide +kernel, by decide +kernel⟩, List.mem_of_getElem? (i := 75) (by decide +kernel), List.mem_of_getElem? (i := 361) (by decide +kernel), List.mem_of_getElem? (i := 362) (by decide +kernel)⟩
theorem lw_p12 : lw_okq (⟨"BoughtAhead$Flow", "sendOnPath", "(III)V"⟩, 9) := ⟨⟨by decide +kernel, by decide +kernel⟩, List.mem_of_getElem? (i := 75) (by decide +kernel), List.mem_of_getElem? (i := 365) (by decide +kernel), List.mem_of_getElem? (i := 366) (by decide +kernel)⟩
theorem lw_p13 : lw_okq (⟨"BoughtAhead$BlindRule", "buyAt", "(LBoughtAhead$Book;II)I"⟩, 1) := ⟨⟨by decide +kernel, by decide +kernel⟩, List.mem_of_getElem? (i := 110) (by decide +kernel), List.mem_of_getElem? (i := 392) (by decide +kernel), List.mem_of_getElem? (i := 393) (by decide +kernel)⟩
theorem lw_p14 : lw_okq (⟨"BoughtAhead$BlindRule", "isSpent", "(LBoughtAhead$Book;II)Z"⟩, 1) := ⟨⟨by decide +kernel, by decide +kernel⟩, List.mem_of_getElem? (i := 110) (by decide +kernel), List.mem_of_getElem? (i := 396) (by decide +kernel), List.mem_of_getElem? (i := 397) (by decide +kernel)⟩
theorem lw_p15 : lw_okq (⟨"BoughtAhead$BlindRule", "countOneMore", "(LBoughtAhead$Book;II)V"⟩, 1) := ⟨⟨by decide +kernel, by decide +kernel⟩, List.mem_of_getElem? (i := 110) (by decide +kernel), List.mem_of_getElem? (i := 405) (by decide +kernel), List.mem_of_getElem? (i := 406) (by decide +kernel)⟩
def lw_privs_1 : List (MethodName × Nat) := [(⟨"BoughtAhead$Book", "boughtWithin", "(III)I"⟩, 9), (⟨"BoughtAhead", "tellOfOne", "(III)I"⟩, 5), (⟨"BoughtAhead$Flow", "layWays", "(LBoughtAhead$Book;I)V"⟩, 9), (⟨"BoughtAhead$Flow", "addWay", "(II)V"⟩, 9), (⟨"BoughtAhead$Flow", "carry", "(III)J"⟩, 9), (⟨"BoughtAhead$Flow", "raiseWorth", "(II)V"⟩, 9), (⟨"BoughtAhead$Flow", "reachThose", "(I)V"⟩, 9), (⟨"BoughtAhead$Flow", "reach", "(IIII)V"⟩, 9), (⟨"BoughtAhead$Flow", "nearest", "()I"⟩, 9), (⟨"BoughtAhead$Flow", "roomOnPath", "(III)I"⟩, 9), (⟨"BoughtAhead$Flow", "after", "(I)I"⟩, 9), (⟨"BoughtAhead$Flow", "takesBack", "(I)Z"⟩, 9), (⟨"BoughtAhead$Flow", "sendOnPath", "(III)V"⟩, 9), (⟨"BoughtAhead$BlindRule", "buyAt", "(LBoughtAhead$Book;II)I"⟩, 1), (⟨"BoughtAhead$BlindRule", "isSpent", "(LBoughtAhead$Book;II)Z"⟩, 1), (⟨"BoughtAhead$BlindRule", "countOneMore", "(LBoughtAhead$Book;II)V"⟩, 1)]
theorem lw_r1 : ∀ q ∈ lw_privs_1, lw_okq q := List.forall_mem_cons.mpr ⟨lw_p0, List.forall_mem_cons.mpr ⟨lw_p1, List.forall_mem_cons.mpr ⟨lw_p2, List.forall_mem_cons.mpr ⟨lw_p3, List.forall_mem_cons.mpr ⟨lw_p4, List.forall_mem_cons.mpr ⟨lw_p5, List.forall_mem_cons.mpr ⟨lw_p6, List.forall_mem_cons.mpr ⟨lw_p7, List.forall_mem_cons.mpr ⟨lw_p8, List.forall_mem_cons.mpr ⟨lw_p9, List.forall_mem_cons.mpr ⟨lw_p10, List.forall_mem_cons.mpr ⟨lw_p11, List.forall_mem_cons.mpr ⟨lw_p12, List.forall_mem_cons.mpr ⟨lw_p13, List.forall_mem_cons.mpr ⟨lw_p14, List.forall_mem_cons.mpr ⟨lw_p15, fun _ h => absurd h List.not_mem_nil⟩⟩⟩⟩⟩⟩⟩⟩⟩⟩⟩⟩⟩⟩⟩⟩
theorem lw_p16 : lw_okq (⟨"BoughtAhead$Shares", "handOut", "(LBoughtAhead$Book;II)V"⟩, 3) := ⟨⟨by decide +kernel, by decide +kernel⟩, List.mem_of_getElem? (i := 120) (by decide +kernel), List.mem_of_getElem? (i := 420) (by decide +kernel), List.mem_of_getElem? (i := 421) (by decide +kernel)⟩
theorem lw_p17 : lw_okq (⟨"BoughtAhead$Shares", "partOf", "(JI)J"⟩, 3) := ⟨⟨by decide +kernel, by decide +kernel⟩, List.mem_of_getElem? (i := 120) (by decide +kernel), List.mem_of_getElem? (i := 432) (by decide +kernel), List.mem_of_getElem? (i := 433) (by decide +kernel)⟩
theorem lw_p18 : lw_okq (⟨"BoughtAhead", "aboutKind", "(II)I"⟩, 5) := ⟨⟨by decide +kernel, by decide +kernel⟩, List.mem_of_getElem? (i := 11) (by decide +kernel), List.mem_of_getElem? (i := 443) (by decide +kernel), List.mem_of_getElem? (i := 444) (by decide +kernel)⟩
theorem lw_p19 : lw_okq (⟨"BoughtAhead", "aboutOffer", "(II)I"⟩, 5) := ⟨⟨by decide +kernel, by decide +kernel⟩, List.mem_of_getElem? (i := 11) (by decide +kernel), List.mem_of_getElem? (i := 459) (by decide +kernel), List.mem_of_getElem? (i := 460) (by decide +kernel)⟩
theorem lw_p20 : lw_okq (⟨"BoughtAheadModel", "isKind", "(I)Z"⟩, 21) := ⟨⟨by decide +kernel, by decide +kernel⟩, List.mem_of_getElem? (i := 483) (by decide +kernel), List.mem_of_getElem? (i := 569) (by decide +kernel), List.mem_of_getElem? (i := 570) (by decide +kernel)⟩
theorem lw_p21 : lw_okq (⟨"BoughtAheadModel", "isOffer", "(I)Z"⟩, 21) := ⟨⟨by decide +kernel, by decide +kernel⟩, List.mem_of_getElem? (i := 483) (by decide +kernel), List.mem_of_getElem? (i := 578) (by decide +kernel), List.mem_of_getElem? (i := 579) (by decide +kernel)⟩
theorem lw_p22 : lw_okq (⟨"BoughtAheadModel", "isHour", "(I)Z"⟩, 21) := ⟨⟨by decide +kernel, by decide +kernel⟩, List.mem_of_getElem? (i := 483) (by decide +kernel), List.mem_of_getElem? (i := 586) (by decide +kernel), List.mem_of_getElem? (i := 587) (by decide +kernel)⟩
theorem lw_p23 : lw_okq (⟨"BoughtAheadModel", "clearKind", "(I)V"⟩, 21) := ⟨⟨by decide +kernel, by decide +kernel⟩, List.mem_of_getElem? (i := 483) (by decide +kernel), List.mem_of_getElem? (i := 605) (by decide +kernel), List.mem_of_getElem? (i := 606) (by decide +kernel)⟩
theorem lw_p24 : lw_okq (⟨"BoughtAheadModel", "needOf", "(II)I"⟩, 21) := ⟨⟨by decide +kernel, by decide +kernel⟩, List.mem_of_getElem? (i := 483) (by decide +kernel), List.mem_of_getElem? (i := 613) (by decide +kernel), List.mem_of_getElem? (i := 614) (by decide +kernel)⟩
theorem lw_p25 : lw_okq (⟨"BoughtAheadModel", "aheadOf", "(II)I"⟩, 21) := ⟨⟨by decide +kernel, by decide +kernel⟩, List.mem_of_getElem? (i := 483) (by decide +kernel), List.mem_of_getElem? (i := 617) (by decide +kernel), List.mem_of_getElem? (i := 618) (by decide +kernel)⟩
theorem lw_p26 : lw_okq (⟨"BoughtAheadModel", "besideOf", "(II)I"⟩, 21) := ⟨⟨by decide +kernel, by decide +kernel⟩, List.mem_of_getElem? (i := 483) (by decide +kernel), List.mem_of_getElem? (i := 621) (by decide +kernel), List.mem_of_getElem? (i := 622) (by decide +kernel)⟩
theorem lw_p27 : lw_okq (⟨"BoughtAheadModel", "planCost", "(I)J"⟩, 21) := ⟨⟨by decide +kernel, by decide +kernel⟩, List.mem_of_getElem? (i := 483) (by decide +kernel), List.mem_of_getElem? (i := 629) (by decide +kernel), List.mem_of_getElem? (i := 630) (by decide +kernel)⟩
theorem lw_p28 : lw_okq (⟨"BoughtAheadModel", "offersCost", "(I)J"⟩, 21) := ⟨⟨by decide +kernel, by decide +kernel⟩, List.mem_of_getElem? (i := 483) (by decide +kernel), List.mem_of_getElem? (i := 633) (by decide +kernel), List.mem_of_getElem? (i := 634) (by decide +kernel)⟩
theorem lw_p29 : lw_okq (⟨"BoughtAheadModel", "bestOf", "(III)J"⟩, 21) := ⟨⟨by decide +kernel, by decide +kernel⟩, List.mem_of_getElem? (i := 483) (by decide +kernel), List.mem_of_getElem? (i := 642) (by decide +kernel), List.mem_of_getElem? (i := 643) (by decide +kernel)⟩
theorem lw_p30 : lw_okq (⟨"BoughtAheadModel", "findWays", "(I)V"⟩, 21) := ⟨⟨by decide +kernel, by decide +kernel⟩, List.mem_of_getElem? (i := 483) (by decide +kernel), List.mem_of_getElem? (i := 646) (by decide +kernel), List.mem_of_getElem? (i := 647) (by decide +kernel)⟩
theorem lw_p31 : lw_okq (⟨"BoughtAheadModel", "shorter", "(III)V"⟩, 21) := ⟨⟨by decide +kernel, by decide +kernel⟩, List.mem_of_getElem? (i := 483) (by decide +kernel), List.mem_of_getElem? (i := 651) (by decide +kernel), List.mem_of_getElem? (i := 652) (by decide +kernel)⟩
def lw_privs_2 : List (MethodName × Nat) := [(⟨"BoughtAhead$Shares", "handOut", "(LBoughtAhead$Book;II)V"⟩, 3), (⟨"BoughtAhead$Shares", "partOf", "(JI)J"⟩, 3), (⟨"BoughtAhead", "aboutKind", "(II)I"⟩, 5), (⟨"BoughtAhead", "aboutOffer", "(II)I"⟩, 5), (⟨"BoughtAheadModel", "isKind", "(I)Z"⟩, 21), (⟨"BoughtAheadModel", "isOffer", "(I)Z"⟩, 21), (⟨"BoughtAheadModel", "isHour", "(I)Z"⟩, 21), (⟨"BoughtAheadModel", "clearKind", "(I)V"⟩, 21), (⟨"BoughtAheadModel", "needOf", "(II)I"⟩, 21), (⟨"BoughtAheadModel", "aheadOf", "(II)I"⟩, 21), (⟨"BoughtAheadModel", "besideOf", "(II)I"⟩, 21), (⟨"BoughtAheadModel", "planCost", "(I)J"⟩, 21), (⟨"BoughtAheadModel", "offersCost", "(I)J"⟩, 21), (⟨"BoughtAheadModel", "bestOf", "(III)J"⟩, 21), (⟨"BoughtAheadModel", "findWays", "(I)V"⟩, 21), (⟨"BoughtAheadModel", "shorter", "(III)V"⟩, 21)]
theorem lw_r2 : ∀ q ∈ lw_privs_2, lw_okq q := List.forall_mem_cons.mpr ⟨lw_p16, List.forall_mem_cons.mpr ⟨lw_p17, List.forall_mem_cons.mpr ⟨lw_p18, List.forall_mem_cons.mpr ⟨lw_p19, List.forall_mem_cons.mpr ⟨lw_p20, List.forall_mem_cons.mpr ⟨lw_p21, List.forall_mem_cons.mpr ⟨lw_p22, List.forall_mem_cons.mpr ⟨lw_p23, List.forall_mem_cons.mpr ⟨lw_p24, List.forall_mem_cons.mpr ⟨lw_p25, List.forall_mem_cons.mpr ⟨lw_p26, List.forall_mem_cons.mpr ⟨lw_p27, List.forall_mem_cons.mpr ⟨lw_p28, List.forall_mem_cons.mpr ⟨lw_p29, List.forall_mem_cons.mpr ⟨lw_p30, List.forall_mem_cons.mpr ⟨lw_p31, fun _ h => absurd h List.not_mem_nil⟩⟩⟩⟩⟩⟩⟩⟩⟩⟩⟩⟩⟩⟩⟩⟩
theorem lw_p32 : lw_okq (⟨"BoughtAheadModel", "findSends", "(III)V"⟩, 21) := ⟨⟨by decide +kernel, by decide +kernel⟩, List.mem_of_getElem? (i := 483) (by decide +kernel), List.mem_of_getElem? (i := 655) (by decide +kernel), List.mem_of_getElem? (i := 656) (by decide +kernel)⟩
theorem lw_p33 : lw_okq (⟨"BoughtAheadModel", "nextEnd", "()I"⟩, 21) := ⟨⟨by decide +kernel, by decide +kernel⟩, List.mem_of_getElem? (i := 483) (by decide +kernel), List.mem_of_getElem? (i := 659) (by decide +kernel), List.mem_of_getElem? (i := 660) (by decide +kernel)⟩
theorem lw_p34 : lw_okq (⟨"BoughtAheadModel", "sendOn", "(I)V"⟩, 21) := ⟨⟨by decide +kernel, by decide +kernel⟩, List.mem_of_getElem? (i := 483) (by decide +kernel), List.mem_of_getElem? (i := 663) (by decide +kernel), List.mem_of_getElem? (i := 664) (by decide +kernel)⟩
theorem lw_p35 : lw_okq (⟨"BoughtAheadModel", "findPrices", "()V"⟩, 21) := ⟨⟨by decide +kernel, by decide +kernel⟩, List.mem_of_getElem? (i := 483) (by decide +kernel), List.mem_of_getElem? (i := 671) (by decide +kernel), List.mem_of_getElem? (i := 672) (by decide +kernel)⟩
theorem lw_p36 : lw_okq (⟨"BoughtAheadModel", "spent", "(III)I"⟩, 21) := ⟨⟨by decide +kernel, by decide +kernel⟩, List.mem_of_getElem? (i := 483) (by decide +kernel), List.mem_of_getElem? (i := 684) (by decide +kernel), List.mem_of_getElem? (i := 685) (by decide +kernel)⟩
theorem lw_p37 : lw_okq (⟨"BoughtAheadModel", "part", "(I)V"⟩, 21) := ⟨⟨by decide +kernel, by decide +kernel⟩, List.mem_of_getElem? (i := 483) (by decide +kernel), List.mem_of_getElem? (i := 692) (by decide +kernel), List.mem_of_getElem? (i := 693) (by decide +kernel)⟩
theorem lw_p38 : lw_okq (⟨"BoughtAheadModel", "copy", "(II)V"⟩, 21) := ⟨⟨by decide +kernel, by decide +kernel⟩, List.mem_of_getElem? (i := 483) (by decide +kernel), List.mem_of_getElem? (i := 708) (by decide +kernel), List.mem_of_getElem? (i := 709) (by decide +kernel)⟩
def lw_privs_3 : List (MethodName × Nat) := [(⟨"BoughtAheadModel", "findSends", "(III)V"⟩, 21), (⟨"BoughtAheadModel", "nextEnd", "()I"⟩, 21), (⟨"BoughtAheadModel", "sendOn", "(I)V"⟩, 21), (⟨"BoughtAheadModel", "findPrices", "()V"⟩, 21), (⟨"BoughtAheadModel", "spent", "(III)I"⟩, 21), (⟨"BoughtAheadModel", "part", "(I)V"⟩, 21), (⟨"BoughtAheadModel", "copy", "(II)V"⟩, 21)]
theorem lw_r3 : ∀ q ∈ lw_privs_3, lw_okq q := List.forall_mem_cons.mpr ⟨lw_p32, List.forall_mem_cons.mpr ⟨lw_p33, List.forall_mem_cons.mpr ⟨lw_p34, List.forall_mem_cons.mpr ⟨lw_p35, List.forall_mem_cons.mpr ⟨lw_p36, List.forall_mem_cons.mpr ⟨lw_p37, List.forall_mem_cons.mpr ⟨lw_p38, fun _ h => absurd h List.not_mem_nil⟩⟩⟩⟩⟩⟩⟩
def lw_privs : List (MethodName × Nat) := lw_privs_1 ++ (lw_privs_2 ++ (lw_privs_3))
def lw_tbl : List Cond := k2_sels lw_privs ++ tables_1
theorem lw_privs_ok : ∀ q ∈ lw_privs, lw_okq q := by
  show ∀ q ∈ lw_privs_1 ++ (lw_privs_2 ++ (lw_privs_3)), lw_okq q
  exact List.forall_mem_append.mpr ⟨lw_r1, List.forall_mem_append.mpr ⟨lw_r2, lw_r3⟩⟩
end
section
/-! ===== BEGIN printed: names, fields, word lists, decode rows ===== -/
def RX0 : String := "BoughtAhead$BlindRule"
def TX0 : u_T := fun k => match k with
  | _ => ("BoughtAhead$BlindRule", "counted", "[I", true)
def tyX0 : Nat → FieldType := fun k => match k with
  | _ => .array .int
theorem nmX0 : ∀ a, a < 1 → ∀ b, b < 1 → a ≠ b → (TX0 a).2.1 ≠ (TX0 b).2.1 := by decide +kernel
theorem tyX0_ok : ∀ k, k < 1 → parseFieldDescriptor (TX0 k).2.2.1 = some (tyX0 k) := by decide +kernel
abbrev cX0_init : ByteArray := prog_2_method_1_code
def yX0_init : MethodName := ⟨RX0, "<init>", "()V"⟩
abbrev cX0_buyBlindly : ByteArray := prog_2_method_2_code
def yX0_buyBlindly : MethodName := ⟨RX0, "buyBlindly", "(LBoughtAhead$Book;I)V"⟩
abbrev cX0_buyAt : ByteArray := prog_2_method_3_code
def yX0_buyAt : MethodName := ⟨RX0, "buyAt", "(LBoughtAhead$Book;II)I"⟩
abbrev cX0_isSpent : ByteArray := prog_2_method_4_code
def yX0_isSpent : MethodName := ⟨RX0, "isSpent", "(LBoughtAhead$Book;II)Z"⟩
abbrev cX0_countOneMore : ByteArray := prog_2_method_5_code
def yX0_countOneMore : MethodName := ⟨RX0, "countOneMore", "(LBoughtAhead$Book;II)V"⟩
abbrev cX0_firstOfLatest : ByteArray := prog_2_method_6_code
def yX0_firstOfLatest : MethodName := ⟨RX0, "firstOfLatest", "(LBoughtAhead$Book;II)I"⟩
def RX1 : String := "BoughtAhead$Book"
def TX1 : u_T := fun k => match k with
  | 0 => ("BoughtAhead$Book", "hours", "I", false)
  | 1 => ("BoughtAhead$Book", "kinds", "I", false)
  | 2 => ("BoughtAhead$Book", "offers", "I", false)
  | 3 => ("BoughtAhead$Book", "rates", "[I", true)
  | 4 => ("BoughtAhead$Book", "kindOf", "[I", true)
  | 5 => ("BoughtAhead$Book", "terms", "[I", true)
  | 6 => ("BoughtAhead$Book", "costs", "[I", true)
  | 7 => ("BoughtAhead$Book", "needs", "[I", true)
  | _ => ("BoughtAhead$Book", "bought", "[I", true)
def tyX1 : Nat → FieldType := fun k => match k with
  | 0 => .int
  | 1 => .int
  | 2 => .int
  | 3 => .array .int
  | 4 => .array .int
  | 5 => .array .int
  | 6 => .array .int
  | 7 => .array .int
  | _ => .array .int
theorem nmX1 : ∀ a, a < 9 → ∀ b, b < 9 → a ≠ b → (TX1 a).2.1 ≠ (TX1 b).2.1 := by decide +kernel
theorem tyX1_ok : ∀ k, k < 9 → parseFieldDescriptor (TX1 k).2.2.1 = some (tyX1 k) := by decide +kernel
abbrev cX1_init : ByteArray := prog_3_method_1_code
def yX1_init : MethodName := ⟨RX1, "<init>", "()V"⟩
abbrev cX1_takeOver : ByteArray := prog_3_method_2_code
def yX1_takeOver : MethodName := ⟨RX1, "takeOver", "(LBoughtAhead$Book;)V"⟩
abbrev cX1_hasHour : ByteArray := prog_3_method_3_code
def yX1_hasHour : MethodName := ⟨RX1, "hasHour", "(I)Z"⟩
abbrev cX1_hasKind : ByteArray := prog_3_method_4_code
def yX1_hasKind : MethodName := ⟨RX1, "hasKind", "(I)Z"⟩
abbrev cX1_hasOffer : ByteArray := prog_3_method_5_code
def yX1_hasOffer : MethodName := ⟨RX1, "hasOffer", "(I)Z"⟩
abbrev cX1_isOfferOf : ByteArray := prog_3_method_6_code
def yX1_isOfferOf : MethodName := ⟨RX1, "isOfferOf", "(II)Z"⟩
abbrev cX1_setHours : ByteArray := prog_3_method_7_code
def yX1_setHours : MethodName := ⟨RX1, "setHours", "(I)V"⟩
abbrev cX1_forgetFrom : ByteArray := prog_3_method_8_code
def yX1_forgetFrom : MethodName := ⟨RX1, "forgetFrom", "([II)V"⟩
abbrev cX1_addKind : ByteArray := prog_3_method_9_code
def yX1_addKind : MethodName := ⟨RX1, "addKind", "(I)I"⟩
abbrev cX1_addOffer : ByteArray := prog_3_method_10_code
def yX1_addOffer : MethodName := ⟨RX1, "addOffer", "(III)I"⟩
abbrev cX1_setNeed : ByteArray := prog_3_method_11_code
def yX1_setNeed : MethodName := ⟨RX1, "setNeed", "(IIII)V"⟩
abbrev cX1_needOf : ByteArray := prog_3_method_12_code
def yX1_needOf : MethodName := ⟨RX1, "needOf", "(III)I"⟩
abbrev cX1_needOfAll : ByteArray := prog_3_method_13_code
def yX1_needOfAll : MethodName := ⟨RX1, "needOfAll", "(II)I"⟩
abbrev cX1_needInAll : ByteArray := prog_3_method_14_code
def yX1_needInAll : MethodName := ⟨RX1, "needInAll", "(I)I"⟩
abbrev cX1_mostNeed : ByteArray := prog_3_method_15_code
def yX1_mostNeed : MethodName := ⟨RX1, "mostNeed", "(I)I"⟩
abbrev cX1_offersOf : ByteArray := prog_3_method_16_code
def yX1_offersOf : MethodName := ⟨RX1, "offersOf", "(I)I"⟩
abbrev cX1_setBought : ByteArray := prog_3_method_17_code
def yX1_setBought : MethodName := ⟨RX1, "setBought", "(III)V"⟩
abbrev cX1_boughtAt : ByteArray := prog_3_method_18_code
def yX1_boughtAt : MethodName := ⟨RX1, "boughtAt", "(II)I"⟩
abbrev cX1_boughtInAll : ByteArray := prog_3_method_19_code
def yX1_boughtInAll : MethodName := ⟨RX1, "boughtInAll", "(I)I"⟩
abbrev cX1_buyNothing : ByteArray := prog_3_method_20_code
def yX1_buyNothing : MethodName := ⟨RX1, "buyNothing", "(I)V"⟩
abbrev cX1_ahead : ByteArray := prog_3_method_21_code
def yX1_ahead : MethodName := ⟨RX1, "ahead", "(II)I"⟩
abbrev cX1_notAhead : ByteArray := prog_3_method_22_code
def yX1_notAhead : MethodName := ⟨RX1, "notAhead", "(II)I"⟩
abbrev cX1_offersCost : ByteArray := prog_3_method_23_code
def yX1_offersCost : MethodName := ⟨RX1, "offersCost", "(I)J"⟩
abbrev cX1_planCost : ByteArray := prog_3_method_24_code
def yX1_planCost : MethodName := ⟨RX1, "planCost", "(I)J"⟩
abbrev cX1_boughtWithin : ByteArray := prog_3_method_25_code
def yX1_boughtWithin : MethodName := ⟨RX1, "boughtWithin", "(III)I"⟩
def RX2 : String := "BoughtAhead$Flow"
def TX2 : u_T := fun k => match k with
  | 0 => ("BoughtAhead$Flow", "last", "I", false)
  | 1 => ("BoughtAhead$Flow", "ways", "I", false)
  | 2 => ("BoughtAhead$Flow", "lengths", "[I", true)
  | 3 => ("BoughtAhead$Flow", "fees", "[I", true)
  | 4 => ("BoughtAhead$Flow", "carried", "[I", true)
  | 5 => ("BoughtAhead$Flow", "worth", "[I", true)
  | 6 => ("BoughtAhead$Flow", "far", "[I", true)
  | 7 => ("BoughtAhead$Flow", "step", "[I", true)
  | _ => ("BoughtAhead$Flow", "settled", "[Z", true)
def tyX2 : Nat → FieldType := fun k => match k with
  | 0 => .int
  | 1 => .int
  | 2 => .array .int
  | 3 => .array .int
  | 4 => .array .int
  | 5 => .array .int
  | 6 => .array .int
  | 7 => .array .int
  | _ => .array .boolean
theorem nmX2 : ∀ a, a < 9 → ∀ b, b < 9 → a ≠ b → (TX2 a).2.1 ≠ (TX2 b).2.1 := by decide +kernel
theorem tyX2_ok : ∀ k, k < 9 → parseFieldDescriptor (TX2 k).2.2.1 = some (tyX2 k) := by decide +kernel
abbrev cX2_init : ByteArray := prog_4_method_1_code
def yX2_init : MethodName := ⟨RX2, "<init>", "()V"⟩
abbrev cX2_least : ByteArray := prog_4_method_2_code
def yX2_least : MethodName := ⟨RX2, "least", "(LBoughtAhead$Book;I)J"⟩
abbrev cX2_change : ByteArray := prog_4_method_3_code
def yX2_change : MethodName := ⟨RX2, "change", "(II)J"⟩
abbrev cX2_priceOf : ByteArray := prog_4_method_4_code
def yX2_priceOf : MethodName := ⟨RX2, "priceOf", "(I)I"⟩
abbrev cX2_layWays : ByteArray := prog_4_method_5_code
def yX2_layWays : MethodName := ⟨RX2, "layWays", "(LBoughtAhead$Book;I)V"⟩
abbrev cX2_addWay : ByteArray := prog_4_method_6_code
def yX2_addWay : MethodName := ⟨RX2, "addWay", "(II)V"⟩
abbrev cX2_carry : ByteArray := prog_4_method_7_code
def yX2_carry : MethodName := ⟨RX2, "carry", "(III)J"⟩
abbrev cX2_raiseWorth : ByteArray := prog_4_method_8_code
def yX2_raiseWorth : MethodName := ⟨RX2, "raiseWorth", "(II)V"⟩
abbrev cX2_nearest : ByteArray := prog_4_method_9_code
def yX2_nearest : MethodName := ⟨RX2, "nearest", "()I"⟩
abbrev cX2_reachThose : ByteArray := prog_4_method_10_code
def yX2_reachThose : MethodName := ⟨RX2, "reachThose", "(I)V"⟩
abbrev cX2_reach : ByteArray := prog_4_method_11_code
def yX2_reach : MethodName := ⟨RX2, "reach", "(IIII)V"⟩
abbrev cX2_takesBack : ByteArray := prog_4_method_12_code
def yX2_takesBack : MethodName := ⟨RX2, "takesBack", "(I)Z"⟩
abbrev cX2_after : ByteArray := prog_4_method_13_code
def yX2_after : MethodName := ⟨RX2, "after", "(I)I"⟩
abbrev cX2_roomOnPath : ByteArray := prog_4_method_14_code
def yX2_roomOnPath : MethodName := ⟨RX2, "roomOnPath", "(III)I"⟩
abbrev cX2_sendOnPath : ByteArray := prog_4_method_15_code
def yX2_sendOnPath : MethodName := ⟨RX2, "sendOnPath", "(III)V"⟩
def RX3 : String := "BoughtAhead$Shares"
def TX3 : u_T := fun k => match k with
  | 0 => ("BoughtAhead$Shares", "yet", "[I", true)
  | 1 => ("BoughtAhead$Shares", "had", "[I", true)
  | _ => ("BoughtAhead$Shares", "besides", "[I", true)
def tyX3 : Nat → FieldType := fun k => match k with
  | 0 => .array .int
  | 1 => .array .int
  | _ => .array .int
theorem nmX3 : ∀ a, a < 3 → ∀ b, b < 3 → a ≠ b → (TX3 a).2.1 ≠ (TX3 b).2.1 := by decide +kernel
theorem tyX3_ok : ∀ k, k < 3 → parseFieldDescriptor (TX3 k).2.2.1 = some (tyX3 k) := by decide +kernel
abbrev cX3_init : ByteArray := prog_5_method_1_code
def yX3_init : MethodName := ⟨RX3, "<init>", "()V"⟩
abbrev cX3_shareOf : ByteArray := prog_5_method_2_code
def yX3_shareOf : MethodName := ⟨RX3, "shareOf", "(LBoughtAhead$Book;II)J"⟩
abbrev cX3_handOut : ByteArray := prog_5_method_3_code
def yX3_handOut : MethodName := ⟨RX3, "handOut", "(LBoughtAhead$Book;II)V"⟩
abbrev cX3_partOf : ByteArray := prog_5_method_4_code
def yX3_partOf : MethodName := ⟨RX3, "partOf", "(JI)J"⟩
abbrev cX3_cut : ByteArray := prog_5_method_5_code
def yX3_cut : MethodName := ⟨RX3, "cut", "(JIJ)J"⟩
abbrev cX3_firstWithMost : ByteArray := prog_5_method_6_code
def yX3_firstWithMost : MethodName := ⟨RX3, "firstWithMost", "([I)I"⟩
def RX4 : String := "BoughtAhead"
def TX4 : u_T := fun k => match k with
  | 0 => ("BoughtAhead", "book", "LBoughtAhead$Book;", true)
  | 1 => ("BoughtAhead", "images", "[LBoughtAhead$Book;", true)
  | 2 => ("BoughtAhead", "flow", "LBoughtAhead$Flow;", true)
  | 3 => ("BoughtAhead", "blindRule", "LBoughtAhead$BlindRule;", true)
  | _ => ("BoughtAhead", "shares", "LBoughtAhead$Shares;", true)
def tyX4 : Nat → FieldType := fun k => match k with
  | 0 => .object "BoughtAhead$Book"
  | 1 => .array (.object "BoughtAhead$Book")
  | 2 => .object "BoughtAhead$Flow"
  | 3 => .object "BoughtAhead$BlindRule"
  | _ => .object "BoughtAhead$Shares"
theorem nmX4 : ∀ a, a < 5 → ∀ b, b < 5 → a ≠ b → (TX4 a).2.1 ≠ (TX4 b).2.1 := by decide +kernel
theorem tyX4_ok : ∀ k, k < 5 → parseFieldDescriptor (TX4 k).2.2.1 = some (tyX4 k) := by decide +kernel
abbrev cX4_init : ByteArray := prog_1_method_1_code
def yX4_init : MethodName := ⟨RX4, "<init>", "()V"⟩
abbrev cX4_hours : ByteArray := prog_1_method_2_code
def yX4_hours : MethodName := ⟨RX4, "hours", "(I)Z"⟩
abbrev cX4_kind : ByteArray := prog_1_method_3_code
def yX4_kind : MethodName := ⟨RX4, "kind", "(I)I"⟩
abbrev cX4_offer : ByteArray := prog_1_method_4_code
def yX4_offer : MethodName := ⟨RX4, "offer", "(III)I"⟩
abbrev cX4_reprice : ByteArray := prog_1_method_5_code
def yX4_reprice : MethodName := ⟨RX4, "reprice", "(II)Z"⟩
abbrev cX4_need : ByteArray := prog_1_method_6_code
def yX4_need : MethodName := ⟨RX4, "need", "(IIII)Z"⟩
abbrev cX4_needs : ByteArray := prog_1_method_7_code
def yX4_needs : MethodName := ⟨RX4, "needs", "(IIII)Z"⟩
abbrev cX4_buy : ByteArray := prog_1_method_8_code
def yX4_buy : MethodName := ⟨RX4, "buy", "(III)Z"⟩
abbrev cX4_clear : ByteArray := prog_1_method_9_code
def yX4_clear : MethodName := ⟨RX4, "clear", "(I)Z"⟩
abbrev cX4_tell : ByteArray := prog_1_method_10_code
def yX4_tell : MethodName := ⟨RX4, "tell", "(III)I"⟩
abbrev cX4_cost : ByteArray := prog_1_method_11_code
def yX4_cost : MethodName := ⟨RX4, "cost", "(I)J"⟩
abbrev cX4_best : ByteArray := prog_1_method_12_code
def yX4_best : MethodName := ⟨RX4, "best", "(I)J"⟩
abbrev cX4_price : ByteArray := prog_1_method_13_code
def yX4_price : MethodName := ⟨RX4, "price", "(II)I"⟩
abbrev cX4_more : ByteArray := prog_1_method_14_code
def yX4_more : MethodName := ⟨RX4, "more", "(III)I"⟩
abbrev cX4_blind : ByteArray := prog_1_method_15_code
def yX4_blind : MethodName := ⟨RX4, "blind", "(I)J"⟩
abbrev cX4_pays : ByteArray := prog_1_method_16_code
def yX4_pays : MethodName := ⟨RX4, "pays", "(II)J"⟩
abbrev cX4_about : ByteArray := prog_1_method_17_code
def yX4_about : MethodName := ⟨RX4, "about", "(II)I"⟩
abbrev cX4_count : ByteArray := prog_1_method_18_code
def yX4_count : MethodName := ⟨RX4, "count", "(I)I"⟩
abbrev cX4_image : ByteArray := prog_1_method_19_code
def yX4_image : MethodName := ⟨RX4, "image", "(I)Z"⟩
abbrev cX4_again : ByteArray := prog_1_method_20_code
def yX4_again : MethodName := ⟨RX4, "again", "(I)Z"⟩
abbrev cX4_tellOfOne : ByteArray := prog_1_method_21_code
def yX4_tellOfOne : MethodName := ⟨RX4, "tellOfOne", "(III)I"⟩
abbrev cX4_aboutOffer : ByteArray := prog_1_method_22_code
def yX4_aboutOffer : MethodName := ⟨RX4, "aboutOffer", "(II)I"⟩
abbrev cX4_aboutKind : ByteArray := prog_1_method_23_code
def yX4_aboutKind : MethodName := ⟨RX4, "aboutKind", "(II)I"⟩
abbrev cX4_isOwner : ByteArray := prog_1_method_24_code
def yX4_isOwner : MethodName := ⟨RX4, "isOwner", "(I)Z"⟩
abbrev cX4_isCost : ByteArray := prog_1_method_25_code
def yX4_isCost : MethodName := ⟨RX4, "isCost", "(I)Z"⟩
abbrev cX4_areNeeds : ByteArray := prog_1_method_26_code
def yX4_areNeeds : MethodName := ⟨RX4, "areNeeds", "(I)Z"⟩
abbrev cX4_halfByte : ByteArray := prog_1_method_27_code
def yX4_halfByte : MethodName := ⟨RX4, "halfByte", "(II)I"⟩
def RX5 : String := "BoughtAheadModel"
def TX5 : u_T := fun k => match k with
  | 0 => ("BoughtAheadModel", "code", "I", false)
  | 1 => ("BoughtAheadModel", "hours", "[I", true)
  | 2 => ("BoughtAheadModel", "kinds", "[I", true)
  | 3 => ("BoughtAheadModel", "rate", "[I", true)
  | 4 => ("BoughtAheadModel", "offers", "[I", true)
  | 5 => ("BoughtAheadModel", "of", "[I", true)
  | 6 => ("BoughtAheadModel", "term", "[I", true)
  | 7 => ("BoughtAheadModel", "cost", "[I", true)
  | 8 => ("BoughtAheadModel", "needed", "[I", true)
  | 9 => ("BoughtAheadModel", "bought", "[I", true)
  | 10 => ("BoughtAheadModel", "way", "[I", true)
  | 11 => ("BoughtAheadModel", "sends", "[I", true)
  | 12 => ("BoughtAheadModel", "left", "[I", true)
  | 13 => ("BoughtAheadModel", "flow", "[I", true)
  | 14 => ("BoughtAheadModel", "far", "[I", true)
  | 15 => ("BoughtAheadModel", "from", "[I", true)
  | 16 => ("BoughtAheadModel", "counted", "[I", true)
  | 17 => ("BoughtAheadModel", "has", "[I", true)
  | 18 => ("BoughtAheadModel", "hadAll", "[I", true)
  | 19 => ("BoughtAheadModel", "beside", "[J", true)
  | _ => ("BoughtAheadModel", "kept", "[Z", true)
def tyX5 : Nat → FieldType := fun k => match k with
  | 0 => .int
  | 1 => .array .int
  | 2 => .array .int
  | 3 => .array .int
  | 4 => .array .int
  | 5 => .array .int
  | 6 => .array .int
  | 7 => .array .int
  | 8 => .array .int
  | 9 => .array .int
  | 10 => .array .int
  | 11 => .array .int
  | 12 => .array .int
  | 13 => .array .int
  | 14 => .array .int
  | 15 => .array .int
  | 16 => .array .int
  | 17 => .array .int
  | 18 => .array .int
  | 19 => .array .long
  | _ => .array .boolean
theorem nmX5 : ∀ a, a < 21 → ∀ b, b < 21 → a ≠ b → (TX5 a).2.1 ≠ (TX5 b).2.1 := by decide +kernel
theorem tyX5_ok : ∀ k, k < 21 → parseFieldDescriptor (TX5 k).2.2.1 = some (tyX5 k) := by decide +kernel
abbrev cX5_init : ByteArray := prog_7_method_1_code
def yX5_init : MethodName := ⟨RX5, "<init>", "()V"⟩
abbrev cX5_in : ByteArray := prog_7_method_3_code
def yX5_in : MethodName := ⟨RX5, "in", "(III)Z"⟩
abbrev cX5_move : ByteArray := prog_7_method_4_code
def yX5_move : MethodName := ⟨RX5, "move", "([IIII)V"⟩
abbrev cX5_copy : ByteArray := prog_7_method_5_code
def yX5_copy : MethodName := ⟨RX5, "copy", "(II)V"⟩
abbrev cX5_cell : ByteArray := prog_7_method_6_code
def yX5_cell : MethodName := ⟨RX5, "cell", "(III)I"⟩
abbrev cX5_isKind : ByteArray := prog_7_method_7_code
def yX5_isKind : MethodName := ⟨RX5, "isKind", "(I)Z"⟩
abbrev cX5_isHour : ByteArray := prog_7_method_8_code
def yX5_isHour : MethodName := ⟨RX5, "isHour", "(I)Z"⟩
abbrev cX5_isOffer : ByteArray := prog_7_method_9_code
def yX5_isOffer : MethodName := ⟨RX5, "isOffer", "(I)Z"⟩
abbrev cX5_hours : ByteArray := prog_7_method_10_code
def yX5_hours : MethodName := ⟨RX5, "hours", "(I)Z"⟩
abbrev cX5_kind : ByteArray := prog_7_method_11_code
def yX5_kind : MethodName := ⟨RX5, "kind", "(I)I"⟩
abbrev cX5_offer : ByteArray := prog_7_method_12_code
def yX5_offer : MethodName := ⟨RX5, "offer", "(III)I"⟩
abbrev cX5_reprice : ByteArray := prog_7_method_13_code
def yX5_reprice : MethodName := ⟨RX5, "reprice", "(II)Z"⟩
abbrev cX5_need : ByteArray := prog_7_method_14_code
def yX5_need : MethodName := ⟨RX5, "need", "(IIII)Z"⟩
abbrev cX5_needs : ByteArray := prog_7_method_15_code
def yX5_needs : MethodName := ⟨RX5, "needs", "(IIII)Z"⟩
abbrev cX5_buy : ByteArray := prog_7_method_16_code
def yX5_buy : MethodName := ⟨RX5, "buy", "(III)Z"⟩
abbrev cX5_clearKind : ByteArray := prog_7_method_17_code
def yX5_clearKind : MethodName := ⟨RX5, "clearKind", "(I)V"⟩
abbrev cX5_clear : ByteArray := prog_7_method_18_code
def yX5_clear : MethodName := ⟨RX5, "clear", "(I)Z"⟩
abbrev cX5_needOf : ByteArray := prog_7_method_19_code
def yX5_needOf : MethodName := ⟨RX5, "needOf", "(II)I"⟩
abbrev cX5_aheadOf : ByteArray := prog_7_method_20_code
def yX5_aheadOf : MethodName := ⟨RX5, "aheadOf", "(II)I"⟩
abbrev cX5_besideOf : ByteArray := prog_7_method_21_code
def yX5_besideOf : MethodName := ⟨RX5, "besideOf", "(II)I"⟩
abbrev cX5_tell : ByteArray := prog_7_method_22_code
def yX5_tell : MethodName := ⟨RX5, "tell", "(III)I"⟩
abbrev cX5_offersCost : ByteArray := prog_7_method_23_code
def yX5_offersCost : MethodName := ⟨RX5, "offersCost", "(I)J"⟩
abbrev cX5_planCost : ByteArray := prog_7_method_24_code
def yX5_planCost : MethodName := ⟨RX5, "planCost", "(I)J"⟩
abbrev cX5_cost : ByteArray := prog_7_method_25_code
def yX5_cost : MethodName := ⟨RX5, "cost", "(I)J"⟩
abbrev cX5_shorter : ByteArray := prog_7_method_26_code
def yX5_shorter : MethodName := ⟨RX5, "shorter", "(III)V"⟩
abbrev cX5_findWays : ByteArray := prog_7_method_27_code
def yX5_findWays : MethodName := ⟨RX5, "findWays", "(I)V"⟩
abbrev cX5_findSends : ByteArray := prog_7_method_28_code
def yX5_findSends : MethodName := ⟨RX5, "findSends", "(III)V"⟩
abbrev cX5_nextEnd : ByteArray := prog_7_method_29_code
def yX5_nextEnd : MethodName := ⟨RX5, "nextEnd", "()I"⟩
abbrev cX5_sendOn : ByteArray := prog_7_method_30_code
def yX5_sendOn : MethodName := ⟨RX5, "sendOn", "(I)V"⟩
abbrev cX5_bestOf : ByteArray := prog_7_method_31_code
def yX5_bestOf : MethodName := ⟨RX5, "bestOf", "(III)J"⟩
abbrev cX5_best : ByteArray := prog_7_method_32_code
def yX5_best : MethodName := ⟨RX5, "best", "(I)J"⟩
abbrev cX5_findPrices : ByteArray := prog_7_method_33_code
def yX5_findPrices : MethodName := ⟨RX5, "findPrices", "()V"⟩
abbrev cX5_price : ByteArray := prog_7_method_34_code
def yX5_price : MethodName := ⟨RX5, "price", "(II)I"⟩
abbrev cX5_more : ByteArray := prog_7_method_35_code
def yX5_more : MethodName := ⟨RX5, "more", "(III)I"⟩
abbrev cX5_spent : ByteArray := prog_7_method_36_code
def yX5_spent : MethodName := ⟨RX5, "spent", "(III)I"⟩
abbrev cX5_blind : ByteArray := prog_7_method_37_code
def yX5_blind : MethodName := ⟨RX5, "blind", "(I)J"⟩
abbrev cX5_part : ByteArray := prog_7_method_38_code
def yX5_part : MethodName := ⟨RX5, "part", "(I)V"⟩
abbrev cX5_pays : ByteArray := prog_7_method_39_code
def yX5_pays : MethodName := ⟨RX5, "pays", "(II)J"⟩
abbrev cX5_about : ByteArray := prog_7_method_40_code
def yX5_about : MethodName := ⟨RX5, "about", "(II)I"⟩
abbrev cX5_count : ByteArray := prog_7_method_41_code
def yX5_count : MethodName := ⟨RX5, "count", "(I)I"⟩
abbrev cX5_image : ByteArray := prog_7_method_42_code
def yX5_image : MethodName := ⟨RX5, "image", "(I)Z"⟩
abbrev cX5_again : ByteArray := prog_7_method_43_code
def yX5_again : MethodName := ⟨RX5, "again", "(I)Z"⟩
def RJ9 : String := "java/lang/Math"
def TJ9 : u_T := fun k => match k with
  | _ => ("", "", "", false)
def tyJ9 : Nat → FieldType := fun k => match k with
  | _ => .int
theorem nmJ9 : ∀ a, a < 0 → ∀ b, b < 0 → a ≠ b → (TJ9 a).2.1 ≠ (TJ9 b).2.1 := by decide +kernel
theorem tyJ9_ok : ∀ k, k < 0 → parseFieldDescriptor (TJ9 k).2.2.1 = some (tyJ9 k) := by decide +kernel
abbrev cJ9_max_7cf53 : ByteArray := prog_8_method_65_code
def yJ9_max_7cf53 : MethodName := ⟨RJ9, "max", "(II)I"⟩
abbrev cJ9_min_7cf53 : ByteArray := prog_8_method_69_code
def yJ9_min_7cf53 : MethodName := ⟨RJ9, "min", "(II)I"⟩
def RJ10 : String := "java/lang/System"
def TJ10 : u_T := fun k => match k with
  | _ => ("", "", "", false)
def tyJ10 : Nat → FieldType := fun k => match k with
  | _ => .int
theorem nmJ10 : ∀ a, a < 0 → ∀ b, b < 0 → a ≠ b → (TJ10 a).2.1 ≠ (TJ10 b).2.1 := by decide +kernel
theorem tyJ10_ok : ∀ k, k < 0 → parseFieldDescriptor (TJ10 k).2.2.1 = some (tyJ10 k) := by decide +kernel
def RJ7 : String := "java/util/Arrays"
def TJ7 : u_T := fun k => match k with
  | _ => ("", "", "", false)
def tyJ7 : Nat → FieldType := fun k => match k with
  | _ => .int
theorem nmJ7 : ∀ a, a < 0 → ∀ b, b < 0 → a ≠ b → (TJ7 a).2.1 ≠ (TJ7 b).2.1 := by decide +kernel
theorem tyJ7_ok : ∀ k, k < 0 → parseFieldDescriptor (TJ7 k).2.2.1 = some (tyJ7 k) := by decide +kernel
abbrev cJ7_rangeCheck_23922 : ByteArray := prog_10_method_30_code
def yJ7_rangeCheck_23922 : MethodName := ⟨RJ7, "rangeCheck", "(III)V"⟩
abbrev cJ7_fill_53178 : ByteArray := prog_10_method_103_code
def yJ7_fill_53178 : MethodName := ⟨RJ7, "fill", "([II)V"⟩
abbrev cJ7_fill_fda19 : ByteArray := prog_10_method_104_code
def yJ7_fill_fda19 : MethodName := ⟨RJ7, "fill", "([IIII)V"⟩
def RL : String := "BoughtAheadLaw"
abbrev cL_law : ByteArray := code
def yL_law : MethodName := ⟨RL, "law", "([I)Z"⟩
end
section
theorem dX0_init_0 : decode cX0_init 0 = .ok (.aload_n 0, 1) := by decide +kernel
theorem dX0_init_1 : decode cX0_init 1 = .ok (.invokespecial 3, 3) := by decide +kernel
theorem dX0_init_4 : decode cX0_init 4 = .ok (.aload_n 0, 1) := by decide +kernel
theorem dX0_init_5 : decode cX0_init 5 = .ok (.bipush 40, 2) := by decide +kernel
theorem dX0_init_7 : decode cX0_init 7 = .ok (.newarray .int, 2) := by decide +kernel
theorem dX0_init_9 : decode cX0_init 9 = .ok (.putfield 9, 3) := by decide +kernel
theorem dX0_init_12 : decode cX0_init 12 = .ok (.return_, 1) := by decide +kernel
theorem dX0_buyBlindly_0 : decode cX0_buyBlindly 0 = .ok (.aload_n 0, 1) := by decide +kernel
theorem dX0_buyBlindly_1 : decode cX0_buyBlindly 1 = .ok (.getfield 9, 3) := by decide +kernel
theorem dX0_buyBlindly_4 : decode cX0_buyBlindly 4 = .ok (.iconst 0, 1) := by decide +kernel
theorem dX0_buyBlindly_5 : decode cX0_buyBlindly 5 = .ok (.invokestatic 15, 3) := by decide +kernel
theorem dX0_buyBlindly_8 : decode cX0_buyBlindly 8 = .ok (.iconst 0, 1) := by decide +kernel
theorem dX0_buyBlindly_9 : decode cX0_buyBlindly 9 = .ok (.istore_n 3, 1) := by decide +kernel
theorem dX0_buyBlindly_10 : decode cX0_buyBlindly 10 = .ok (.iload_n 3, 1) := by decide +kernel
theorem dX0_buyBlindly_11 : decode cX0_buyBlindly 11 = .ok (.aload_n 1, 1) := by decide +kernel
theorem dX0_buyBlindly_12 : decode cX0_buyBlindly 12 = .ok (.getfield 21, 3) := by decide +kernel
theorem dX0_buyBlindly_15 : decode cX0_buyBlindly 15 = .ok (.if_icmp .ge 22, 3) := by decide +kernel
theorem dX0_buyBlindly_18 : decode cX0_buyBlindly 18 = .ok (.aload_n 1, 1) := by decide +kernel
theorem dX0_buyBlindly_19 : decode cX0_buyBlindly 19 = .ok (.iload_n 2, 1) := by decide +kernel
theorem dX0_buyBlindly_20 : decode cX0_buyBlindly 20 = .ok (.iload_n 3, 1) := by decide +kernel
theorem dX0_buyBlindly_21 : decode cX0_buyBlindly 21 = .ok (.aload_n 0, 1) := by decide +kernel
theorem dX0_buyBlindly_22 : decode cX0_buyBlindly 22 = .ok (.aload_n 1, 1) := by decide +kernel
theorem dX0_buyBlindly_23 : decode cX0_buyBlindly 23 = .ok (.iload_n 2, 1) := by decide +kernel
theorem dX0_buyBlindly_24 : decode cX0_buyBlindly 24 = .ok (.iload_n 3, 1) := by decide +kernel
theorem dX0_buyBlindly_25 : decode cX0_buyBlindly 25 = .ok (.invokevirtual 27, 3) := by decide +kernel
theorem dX0_buyBlindly_28 : decode cX0_buyBlindly 28 = .ok (.invokevirtual 31, 3) := by decide +kernel
theorem dX0_buyBlindly_31 : decode cX0_buyBlindly 31 = .ok (.iinc 3 1, 3) := by decide +kernel
theorem dX0_buyBlindly_34 : decode cX0_buyBlindly 34 = .ok (.goto (-24), 3) := by decide +kernel
theorem dX0_buyBlindly_37 : decode cX0_buyBlindly 37 = .ok (.return_, 1) := by decide +kernel
theorem dX0_buyAt_0 : decode cX0_buyAt 0 = .ok (.iconst 0, 1) := by decide +kernel
theorem dX0_buyAt_1 : decode cX0_buyAt 1 = .ok (.istore 4, 2) := by decide +kernel
theorem dX0_buyAt_3 : decode cX0_buyAt 3 = .ok (.iload 4, 2) := by decide +kernel
theorem dX0_buyAt_5 : decode cX0_buyAt 5 = .ok (.bipush 60, 2) := by decide +kernel
theorem dX0_buyAt_7 : decode cX0_buyAt 7 = .ok (.if_icmp .ge 26, 3) := by decide +kernel
theorem dX0_buyAt_10 : decode cX0_buyAt 10 = .ok (.aload_n 0, 1) := by decide +kernel
theorem dX0_buyAt_11 : decode cX0_buyAt 11 = .ok (.aload_n 1, 1) := by decide +kernel
theorem dX0_buyAt_12 : decode cX0_buyAt 12 = .ok (.iload_n 2, 1) := by decide +kernel
theorem dX0_buyAt_13 : decode cX0_buyAt 13 = .ok (.iload_n 3, 1) := by decide +kernel
theorem dX0_buyAt_14 : decode cX0_buyAt 14 = .ok (.invokevirtual 35, 3) := by decide +kernel
theorem dX0_buyAt_17 : decode cX0_buyAt 17 = .ok (.ifCond .eq 16, 3) := by decide +kernel
theorem dX0_buyAt_20 : decode cX0_buyAt 20 = .ok (.aload_n 0, 1) := by decide +kernel
theorem dX0_buyAt_21 : decode cX0_buyAt 21 = .ok (.aload_n 1, 1) := by decide +kernel
theorem dX0_buyAt_22 : decode cX0_buyAt 22 = .ok (.iload_n 2, 1) := by decide +kernel
theorem dX0_buyAt_23 : decode cX0_buyAt 23 = .ok (.iload_n 3, 1) := by decide +kernel
theorem dX0_buyAt_24 : decode cX0_buyAt 24 = .ok (.invokevirtual 39, 3) := by decide +kernel
theorem dX0_buyAt_27 : decode cX0_buyAt 27 = .ok (.iinc 4 1, 3) := by decide +kernel
theorem dX0_buyAt_30 : decode cX0_buyAt 30 = .ok (.goto (-27), 3) := by decide +kernel
theorem dX0_buyAt_33 : decode cX0_buyAt 33 = .ok (.iload 4, 2) := by decide +kernel
theorem dX0_buyAt_35 : decode cX0_buyAt 35 = .ok (.ireturn, 1) := by decide +kernel
theorem dX0_isSpent_0 : decode cX0_isSpent 0 = .ok (.aload_n 1, 1) := by decide +kernel
theorem dX0_isSpent_1 : decode cX0_isSpent 1 = .ok (.getfield 43, 3) := by decide +kernel
theorem dX0_isSpent_4 : decode cX0_isSpent 4 = .ok (.iload_n 2, 1) := by decide +kernel
theorem dX0_isSpent_5 : decode cX0_isSpent 5 = .ok (.iaload, 1) := by decide +kernel
theorem dX0_isSpent_6 : decode cX0_isSpent 6 = .ok (.istore 4, 2) := by decide +kernel
theorem dX0_isSpent_8 : decode cX0_isSpent 8 = .ok (.iconst 0, 1) := by decide +kernel
theorem dX0_isSpent_9 : decode cX0_isSpent 9 = .ok (.istore 5, 2) := by decide +kernel
theorem dX0_isSpent_11 : decode cX0_isSpent 11 = .ok (.aload_n 1, 1) := by decide +kernel
theorem dX0_isSpent_12 : decode cX0_isSpent 12 = .ok (.iload_n 2, 1) := by decide +kernel
theorem dX0_isSpent_13 : decode cX0_isSpent 13 = .ok (.iload_n 3, 1) := by decide +kernel
theorem dX0_isSpent_14 : decode cX0_isSpent 14 = .ok (.invokestatic 46, 3) := by decide +kernel
theorem dX0_isSpent_17 : decode cX0_isSpent 17 = .ok (.istore 6, 2) := by decide +kernel
theorem dX0_isSpent_19 : decode cX0_isSpent 19 = .ok (.iload 6, 2) := by decide +kernel
theorem dX0_isSpent_21 : decode cX0_isSpent 21 = .ok (.iload_n 3, 1) := by decide +kernel
theorem dX0_isSpent_22 : decode cX0_isSpent 22 = .ok (.if_icmp .gt 37, 3) := by decide +kernel
theorem dX0_isSpent_25 : decode cX0_isSpent 25 = .ok (.iload 5, 2) := by decide +kernel
theorem dX0_isSpent_27 : decode cX0_isSpent 27 = .ok (.aload_n 1, 1) := by decide +kernel
theorem dX0_isSpent_28 : decode cX0_isSpent 28 = .ok (.iload 4, 2) := by decide +kernel
theorem dX0_isSpent_30 : decode cX0_isSpent 30 = .ok (.iload 6, 2) := by decide +kernel
theorem dX0_isSpent_32 : decode cX0_isSpent 32 = .ok (.invokevirtual 49, 3) := by decide +kernel
theorem dX0_isSpent_35 : decode cX0_isSpent 35 = .ok (.aload_n 0, 1) := by decide +kernel
theorem dX0_isSpent_36 : decode cX0_isSpent 36 = .ok (.getfield 9, 3) := by decide +kernel
theorem dX0_isSpent_39 : decode cX0_isSpent 39 = .ok (.iload 6, 2) := by decide +kernel
theorem dX0_isSpent_41 : decode cX0_isSpent 41 = .ok (.iaload, 1) := by decide +kernel
theorem dX0_isSpent_42 : decode cX0_isSpent 42 = .ok (.if_icmp .le 7, 3) := by decide +kernel
theorem dX0_isSpent_45 : decode cX0_isSpent 45 = .ok (.iconst 1, 1) := by decide +kernel
theorem dX0_isSpent_46 : decode cX0_isSpent 46 = .ok (.goto 4, 3) := by decide +kernel
theorem dX0_isSpent_49 : decode cX0_isSpent 49 = .ok (.iconst 0, 1) := by decide +kernel
theorem dX0_isSpent_50 : decode cX0_isSpent 50 = .ok (.iadd, 1) := by decide +kernel
theorem dX0_isSpent_51 : decode cX0_isSpent 51 = .ok (.istore 5, 2) := by decide +kernel
theorem dX0_isSpent_53 : decode cX0_isSpent 53 = .ok (.iinc 6 1, 3) := by decide +kernel
theorem dX0_isSpent_56 : decode cX0_isSpent 56 = .ok (.goto (-37), 3) := by decide +kernel
theorem dX0_isSpent_59 : decode cX0_isSpent 59 = .ok (.aload_n 1, 1) := by decide +kernel
theorem dX0_isSpent_60 : decode cX0_isSpent 60 = .ok (.getfield 53, 3) := by decide +kernel
theorem dX0_isSpent_63 : decode cX0_isSpent 63 = .ok (.iload_n 2, 1) := by decide +kernel
theorem dX0_isSpent_64 : decode cX0_isSpent 64 = .ok (.iaload, 1) := by decide +kernel
theorem dX0_isSpent_65 : decode cX0_isSpent 65 = .ok (.ifCond .le 26, 3) := by decide +kernel
theorem dX0_isSpent_68 : decode cX0_isSpent 68 = .ok (.iload 5, 2) := by decide +kernel
theorem dX0_isSpent_70 : decode cX0_isSpent 70 = .ok (.aload_n 1, 1) := by decide +kernel
theorem dX0_isSpent_71 : decode cX0_isSpent 71 = .ok (.getfield 56, 3) := by decide +kernel
theorem dX0_isSpent_74 : decode cX0_isSpent 74 = .ok (.iload 4, 2) := by decide +kernel
theorem dX0_isSpent_76 : decode cX0_isSpent 76 = .ok (.iaload, 1) := by decide +kernel
theorem dX0_isSpent_77 : decode cX0_isSpent 77 = .ok (.imul, 1) := by decide +kernel
theorem dX0_isSpent_78 : decode cX0_isSpent 78 = .ok (.aload_n 1, 1) := by decide +kernel
theorem dX0_isSpent_79 : decode cX0_isSpent 79 = .ok (.getfield 53, 3) := by decide +kernel
theorem dX0_isSpent_82 : decode cX0_isSpent 82 = .ok (.iload_n 2, 1) := by decide +kernel
theorem dX0_isSpent_83 : decode cX0_isSpent 83 = .ok (.iaload, 1) := by decide +kernel
theorem dX0_isSpent_84 : decode cX0_isSpent 84 = .ok (.if_icmp .lt 7, 3) := by decide +kernel
theorem dX0_isSpent_87 : decode cX0_isSpent 87 = .ok (.iconst 1, 1) := by decide +kernel
theorem dX0_isSpent_88 : decode cX0_isSpent 88 = .ok (.goto 4, 3) := by decide +kernel
theorem dX0_isSpent_91 : decode cX0_isSpent 91 = .ok (.iconst 0, 1) := by decide +kernel
theorem dX0_isSpent_92 : decode cX0_isSpent 92 = .ok (.ireturn, 1) := by decide +kernel
theorem dX0_countOneMore_0 : decode cX0_countOneMore 0 = .ok (.aload_n 1, 1) := by decide +kernel
theorem dX0_countOneMore_1 : decode cX0_countOneMore 1 = .ok (.getfield 21, 3) := by decide +kernel
theorem dX0_countOneMore_4 : decode cX0_countOneMore 4 = .ok (.iload_n 3, 1) := by decide +kernel
theorem dX0_countOneMore_5 : decode cX0_countOneMore 5 = .ok (.aload_n 1, 1) := by decide +kernel
theorem dX0_countOneMore_6 : decode cX0_countOneMore 6 = .ok (.getfield 59, 3) := by decide +kernel
theorem dX0_countOneMore_9 : decode cX0_countOneMore 9 = .ok (.iload_n 2, 1) := by decide +kernel
theorem dX0_countOneMore_10 : decode cX0_countOneMore 10 = .ok (.iaload, 1) := by decide +kernel
theorem dX0_countOneMore_11 : decode cX0_countOneMore 11 = .ok (.iadd, 1) := by decide +kernel
theorem dX0_countOneMore_12 : decode cX0_countOneMore 12 = .ok (.invokestatic 62, 3) := by decide +kernel
theorem dX0_countOneMore_15 : decode cX0_countOneMore 15 = .ok (.istore 4, 2) := by decide +kernel
theorem dX0_countOneMore_17 : decode cX0_countOneMore 17 = .ok (.aload_n 1, 1) := by decide +kernel
theorem dX0_countOneMore_18 : decode cX0_countOneMore 18 = .ok (.iload_n 2, 1) := by decide +kernel
theorem dX0_countOneMore_19 : decode cX0_countOneMore 19 = .ok (.iload_n 3, 1) := by decide +kernel
theorem dX0_countOneMore_20 : decode cX0_countOneMore 20 = .ok (.invokestatic 46, 3) := by decide +kernel
theorem dX0_countOneMore_23 : decode cX0_countOneMore 23 = .ok (.istore 5, 2) := by decide +kernel
theorem dX0_countOneMore_25 : decode cX0_countOneMore 25 = .ok (.iload 5, 2) := by decide +kernel
theorem dX0_countOneMore_27 : decode cX0_countOneMore 27 = .ok (.iload 4, 2) := by decide +kernel
theorem dX0_countOneMore_29 : decode cX0_countOneMore 29 = .ok (.if_icmp .ge 20, 3) := by decide +kernel
theorem dX0_countOneMore_32 : decode cX0_countOneMore 32 = .ok (.aload_n 0, 1) := by decide +kernel
theorem dX0_countOneMore_33 : decode cX0_countOneMore 33 = .ok (.getfield 9, 3) := by decide +kernel
theorem dX0_countOneMore_36 : decode cX0_countOneMore 36 = .ok (.iload 5, 2) := by decide +kernel
theorem dX0_countOneMore_38 : decode cX0_countOneMore 38 = .ok (.dup2, 1) := by decide +kernel
theorem dX0_countOneMore_39 : decode cX0_countOneMore 39 = .ok (.iaload, 1) := by decide +kernel
theorem dX0_countOneMore_40 : decode cX0_countOneMore 40 = .ok (.iconst 1, 1) := by decide +kernel
theorem dX0_countOneMore_41 : decode cX0_countOneMore 41 = .ok (.iadd, 1) := by decide +kernel
theorem dX0_countOneMore_42 : decode cX0_countOneMore 42 = .ok (.iastore, 1) := by decide +kernel
theorem dX0_countOneMore_43 : decode cX0_countOneMore 43 = .ok (.iinc 5 1, 3) := by decide +kernel
theorem dX0_countOneMore_46 : decode cX0_countOneMore 46 = .ok (.goto (-21), 3) := by decide +kernel
theorem dX0_countOneMore_49 : decode cX0_countOneMore 49 = .ok (.return_, 1) := by decide +kernel
theorem dX0_firstOfLatest_0 : decode cX0_firstOfLatest 0 = .ok (.iconst 0, 1) := by decide +kernel
theorem dX0_firstOfLatest_1 : decode cX0_firstOfLatest 1 = .ok (.iload_n 2, 1) := by decide +kernel
theorem dX0_firstOfLatest_2 : decode cX0_firstOfLatest 2 = .ok (.aload_n 0, 1) := by decide +kernel
theorem dX0_firstOfLatest_3 : decode cX0_firstOfLatest 3 = .ok (.getfield 59, 3) := by decide +kernel
theorem dX0_firstOfLatest_6 : decode cX0_firstOfLatest 6 = .ok (.iload_n 1, 1) := by decide +kernel
theorem dX0_firstOfLatest_7 : decode cX0_firstOfLatest 7 = .ok (.iaload, 1) := by decide +kernel
theorem dX0_firstOfLatest_8 : decode cX0_firstOfLatest 8 = .ok (.isub, 1) := by decide +kernel
theorem dX0_firstOfLatest_9 : decode cX0_firstOfLatest 9 = .ok (.iconst 1, 1) := by decide +kernel
theorem dX0_firstOfLatest_10 : decode cX0_firstOfLatest 10 = .ok (.iadd, 1) := by decide +kernel
theorem dX0_firstOfLatest_11 : decode cX0_firstOfLatest 11 = .ok (.invokestatic 67, 3) := by decide +kernel
theorem dX0_firstOfLatest_14 : decode cX0_firstOfLatest 14 = .ok (.ireturn, 1) := by decide +kernel
theorem dX1_init_0 : decode cX1_init 0 = .ok (.aload_n 0, 1) := by decide +kernel
theorem dX1_init_1 : decode cX1_init 1 = .ok (.invokespecial 3, 3) := by decide +kernel
theorem dX1_init_4 : decode cX1_init 4 = .ok (.aload_n 0, 1) := by decide +kernel
theorem dX1_init_5 : decode cX1_init 5 = .ok (.bipush 24, 2) := by decide +kernel
theorem dX1_init_7 : decode cX1_init 7 = .ok (.putfield 9, 3) := by decide +kernel
theorem dX1_init_10 : decode cX1_init 10 = .ok (.aload_n 0, 1) := by decide +kernel
theorem dX1_init_11 : decode cX1_init 11 = .ok (.iconst 3, 1) := by decide +kernel
theorem dX1_init_12 : decode cX1_init 12 = .ok (.newarray .int, 2) := by decide +kernel
theorem dX1_init_14 : decode cX1_init 14 = .ok (.putfield 15, 3) := by decide +kernel
theorem dX1_init_17 : decode cX1_init 17 = .ok (.aload_n 0, 1) := by decide +kernel
theorem dX1_init_18 : decode cX1_init 18 = .ok (.bipush 6, 2) := by decide +kernel
theorem dX1_init_20 : decode cX1_init 20 = .ok (.newarray .int, 2) := by decide +kernel
theorem dX1_init_22 : decode cX1_init 22 = .ok (.putfield 19, 3) := by decide +kernel
theorem dX1_init_25 : decode cX1_init 25 = .ok (.aload_n 0, 1) := by decide +kernel
theorem dX1_init_26 : decode cX1_init 26 = .ok (.bipush 6, 2) := by decide +kernel
theorem dX1_init_28 : decode cX1_init 28 = .ok (.newarray .int, 2) := by decide +kernel
theorem dX1_init_30 : decode cX1_init 30 = .ok (.putfield 22, 3) := by decide +kernel
theorem dX1_init_33 : decode cX1_init 33 = .ok (.aload_n 0, 1) := by decide +kernel
theorem dX1_init_34 : decode cX1_init 34 = .ok (.bipush 6, 2) := by decide +kernel
theorem dX1_init_36 : decode cX1_init 36 = .ok (.newarray .int, 2) := by decide +kernel
theorem dX1_init_38 : decode cX1_init 38 = .ok (.putfield 25, 3) := by decide +kernel
theorem dX1_init_41 : decode cX1_init 41 = .ok (.aload_n 0, 1) := by decide +kernel
theorem dX1_init_42 : decode cX1_init 42 = .ok (.sipush 480, 3) := by decide +kernel
theorem dX1_init_45 : decode cX1_init 45 = .ok (.newarray .int, 2) := by decide +kernel
theorem dX1_init_47 : decode cX1_init 47 = .ok (.putfield 28, 3) := by decide +kernel
theorem dX1_init_50 : decode cX1_init 50 = .ok (.aload_n 0, 1) := by decide +kernel
theorem dX1_init_51 : decode cX1_init 51 = .ok (.sipush 240, 3) := by decide +kernel
theorem dX1_init_54 : decode cX1_init 54 = .ok (.newarray .int, 2) := by decide +kernel
theorem dX1_init_56 : decode cX1_init 56 = .ok (.putfield 31, 3) := by decide +kernel
theorem dX1_init_59 : decode cX1_init 59 = .ok (.return_, 1) := by decide +kernel
theorem dX1_takeOver_0 : decode cX1_takeOver 0 = .ok (.aload_n 0, 1) := by decide +kernel
theorem dX1_takeOver_1 : decode cX1_takeOver 1 = .ok (.aload_n 1, 1) := by decide +kernel
theorem dX1_takeOver_2 : decode cX1_takeOver 2 = .ok (.getfield 9, 3) := by decide +kernel
theorem dX1_takeOver_5 : decode cX1_takeOver 5 = .ok (.putfield 9, 3) := by decide +kernel
theorem dX1_takeOver_8 : decode cX1_takeOver 8 = .ok (.aload_n 0, 1) := by decide +kernel
theorem dX1_takeOver_9 : decode cX1_takeOver 9 = .ok (.aload_n 1, 1) := by decide +kernel
theorem dX1_takeOver_10 : decode cX1_takeOver 10 = .ok (.getfield 34, 3) := by decide +kernel
theorem dX1_takeOver_13 : decode cX1_takeOver 13 = .ok (.putfield 34, 3) := by decide +kernel
theorem dX1_takeOver_16 : decode cX1_takeOver 16 = .ok (.aload_n 0, 1) := by decide +kernel
theorem dX1_takeOver_17 : decode cX1_takeOver 17 = .ok (.aload_n 1, 1) := by decide +kernel
theorem dX1_takeOver_18 : decode cX1_takeOver 18 = .ok (.getfield 37, 3) := by decide +kernel
theorem dX1_takeOver_21 : decode cX1_takeOver 21 = .ok (.putfield 37, 3) := by decide +kernel
theorem dX1_takeOver_24 : decode cX1_takeOver 24 = .ok (.aload_n 1, 1) := by decide +kernel
theorem dX1_takeOver_25 : decode cX1_takeOver 25 = .ok (.getfield 15, 3) := by decide +kernel
theorem dX1_takeOver_28 : decode cX1_takeOver 28 = .ok (.iconst 0, 1) := by decide +kernel
theorem dX1_takeOver_29 : decode cX1_takeOver 29 = .ok (.aload_n 0, 1) := by decide +kernel
theorem dX1_takeOver_30 : decode cX1_takeOver 30 = .ok (.getfield 15, 3) := by decide +kernel
theorem dX1_takeOver_33 : decode cX1_takeOver 33 = .ok (.iconst 0, 1) := by decide +kernel
theorem dX1_takeOver_34 : decode cX1_takeOver 34 = .ok (.aload_n 0, 1) := by decide +kernel
theorem dX1_takeOver_35 : decode cX1_takeOver 35 = .ok (.getfield 15, 3) := by decide +kernel
theorem dX1_takeOver_38 : decode cX1_takeOver 38 = .ok (.arraylength, 1) := by decide +kernel
theorem dX1_takeOver_39 : decode cX1_takeOver 39 = .ok (.invokestatic 40, 3) := by decide +kernel
theorem dX1_takeOver_42 : decode cX1_takeOver 42 = .ok (.aload_n 1, 1) := by decide +kernel
theorem dX1_takeOver_43 : decode cX1_takeOver 43 = .ok (.getfield 19, 3) := by decide +kernel
theorem dX1_takeOver_46 : decode cX1_takeOver 46 = .ok (.iconst 0, 1) := by decide +kernel
theorem dX1_takeOver_47 : decode cX1_takeOver 47 = .ok (.aload_n 0, 1) := by decide +kernel
theorem dX1_takeOver_48 : decode cX1_takeOver 48 = .ok (.getfield 19, 3) := by decide +kernel
theorem dX1_takeOver_51 : decode cX1_takeOver 51 = .ok (.iconst 0, 1) := by decide +kernel
theorem dX1_takeOver_52 : decode cX1_takeOver 52 = .ok (.aload_n 0, 1) := by decide +kernel
theorem dX1_takeOver_53 : decode cX1_takeOver 53 = .ok (.getfield 19, 3) := by decide +kernel
theorem dX1_takeOver_56 : decode cX1_takeOver 56 = .ok (.arraylength, 1) := by decide +kernel
theorem dX1_takeOver_57 : decode cX1_takeOver 57 = .ok (.invokestatic 40, 3) := by decide +kernel
theorem dX1_takeOver_60 : decode cX1_takeOver 60 = .ok (.aload_n 1, 1) := by decide +kernel
theorem dX1_takeOver_61 : decode cX1_takeOver 61 = .ok (.getfield 22, 3) := by decide +kernel
theorem dX1_takeOver_64 : decode cX1_takeOver 64 = .ok (.iconst 0, 1) := by decide +kernel
theorem dX1_takeOver_65 : decode cX1_takeOver 65 = .ok (.aload_n 0, 1) := by decide +kernel
theorem dX1_takeOver_66 : decode cX1_takeOver 66 = .ok (.getfield 22, 3) := by decide +kernel
theorem dX1_takeOver_69 : decode cX1_takeOver 69 = .ok (.iconst 0, 1) := by decide +kernel
theorem dX1_takeOver_70 : decode cX1_takeOver 70 = .ok (.aload_n 0, 1) := by decide +kernel
theorem dX1_takeOver_71 : decode cX1_takeOver 71 = .ok (.getfield 22, 3) := by decide +kernel
theorem dX1_takeOver_74 : decode cX1_takeOver 74 = .ok (.arraylength, 1) := by decide +kernel
theorem dX1_takeOver_75 : decode cX1_takeOver 75 = .ok (.invokestatic 40, 3) := by decide +kernel
theorem dX1_takeOver_78 : decode cX1_takeOver 78 = .ok (.aload_n 1, 1) := by decide +kernel
theorem dX1_takeOver_79 : decode cX1_takeOver 79 = .ok (.getfield 25, 3) := by decide +kernel
theorem dX1_takeOver_82 : decode cX1_takeOver 82 = .ok (.iconst 0, 1) := by decide +kernel
theorem dX1_takeOver_83 : decode cX1_takeOver 83 = .ok (.aload_n 0, 1) := by decide +kernel
theorem dX1_takeOver_84 : decode cX1_takeOver 84 = .ok (.getfield 25, 3) := by decide +kernel
theorem dX1_takeOver_87 : decode cX1_takeOver 87 = .ok (.iconst 0, 1) := by decide +kernel
theorem dX1_takeOver_88 : decode cX1_takeOver 88 = .ok (.aload_n 0, 1) := by decide +kernel
theorem dX1_takeOver_89 : decode cX1_takeOver 89 = .ok (.getfield 25, 3) := by decide +kernel
theorem dX1_takeOver_92 : decode cX1_takeOver 92 = .ok (.arraylength, 1) := by decide +kernel
theorem dX1_takeOver_93 : decode cX1_takeOver 93 = .ok (.invokestatic 40, 3) := by decide +kernel
theorem dX1_takeOver_96 : decode cX1_takeOver 96 = .ok (.aload_n 1, 1) := by decide +kernel
theorem dX1_takeOver_97 : decode cX1_takeOver 97 = .ok (.getfield 28, 3) := by decide +kernel
theorem dX1_takeOver_100 : decode cX1_takeOver 100 = .ok (.iconst 0, 1) := by decide +kernel
theorem dX1_takeOver_101 : decode cX1_takeOver 101 = .ok (.aload_n 0, 1) := by decide +kernel
theorem dX1_takeOver_102 : decode cX1_takeOver 102 = .ok (.getfield 28, 3) := by decide +kernel
theorem dX1_takeOver_105 : decode cX1_takeOver 105 = .ok (.iconst 0, 1) := by decide +kernel
theorem dX1_takeOver_106 : decode cX1_takeOver 106 = .ok (.aload_n 0, 1) := by decide +kernel
theorem dX1_takeOver_107 : decode cX1_takeOver 107 = .ok (.getfield 28, 3) := by decide +kernel
theorem dX1_takeOver_110 : decode cX1_takeOver 110 = .ok (.arraylength, 1) := by decide +kernel
theorem dX1_takeOver_111 : decode cX1_takeOver 111 = .ok (.invokestatic 40, 3) := by decide +kernel
theorem dX1_takeOver_114 : decode cX1_takeOver 114 = .ok (.aload_n 1, 1) := by decide +kernel
theorem dX1_takeOver_115 : decode cX1_takeOver 115 = .ok (.getfield 31, 3) := by decide +kernel
theorem dX1_takeOver_118 : decode cX1_takeOver 118 = .ok (.iconst 0, 1) := by decide +kernel
theorem dX1_takeOver_119 : decode cX1_takeOver 119 = .ok (.aload_n 0, 1) := by decide +kernel
theorem dX1_takeOver_120 : decode cX1_takeOver 120 = .ok (.getfield 31, 3) := by decide +kernel
theorem dX1_takeOver_123 : decode cX1_takeOver 123 = .ok (.iconst 0, 1) := by decide +kernel
theorem dX1_takeOver_124 : decode cX1_takeOver 124 = .ok (.aload_n 0, 1) := by decide +kernel
theorem dX1_takeOver_125 : decode cX1_takeOver 125 = .ok (.getfield 31, 3) := by decide +kernel
theorem dX1_takeOver_128 : decode cX1_takeOver 128 = .ok (.arraylength, 1) := by decide +kernel
theorem dX1_takeOver_129 : decode cX1_takeOver 129 = .ok (.invokestatic 40, 3) := by decide +kernel
theorem dX1_takeOver_132 : decode cX1_takeOver 132 = .ok (.return_, 1) := by decide +kernel
theorem dX1_hasHour_0 : decode cX1_hasHour 0 = .ok (.iload_n 1, 1) := by decide +kernel
theorem dX1_hasHour_1 : decode cX1_hasHour 1 = .ok (.ifCond .lt 15, 3) := by decide +kernel
theorem dX1_hasHour_4 : decode cX1_hasHour 4 = .ok (.iload_n 1, 1) := by decide +kernel
theorem dX1_hasHour_5 : decode cX1_hasHour 5 = .ok (.aload_n 0, 1) := by decide +kernel
theorem dX1_hasHour_6 : decode cX1_hasHour 6 = .ok (.getfield 9, 3) := by decide +kernel
theorem dX1_hasHour_9 : decode cX1_hasHour 9 = .ok (.if_icmp .ge 7, 3) := by decide +kernel
theorem dX1_hasHour_12 : decode cX1_hasHour 12 = .ok (.iconst 1, 1) := by decide +kernel
theorem dX1_hasHour_13 : decode cX1_hasHour 13 = .ok (.goto 4, 3) := by decide +kernel
theorem dX1_hasHour_16 : decode cX1_hasHour 16 = .ok (.iconst 0, 1) := by decide +kernel
theorem dX1_hasHour_17 : decode cX1_hasHour 17 = .ok (.ireturn, 1) := by decide +kernel
theorem dX1_hasKind_0 : decode cX1_hasKind 0 = .ok (.iload_n 1, 1) := by decide +kernel
theorem dX1_hasKind_1 : decode cX1_hasKind 1 = .ok (.ifCond .lt 15, 3) := by decide +kernel
theorem dX1_hasKind_4 : decode cX1_hasKind 4 = .ok (.iload_n 1, 1) := by decide +kernel
theorem dX1_hasKind_5 : decode cX1_hasKind 5 = .ok (.aload_n 0, 1) := by decide +kernel
theorem dX1_hasKind_6 : decode cX1_hasKind 6 = .ok (.getfield 34, 3) := by decide +kernel
theorem dX1_hasKind_9 : decode cX1_hasKind 9 = .ok (.if_icmp .ge 7, 3) := by decide +kernel
theorem dX1_hasKind_12 : decode cX1_hasKind 12 = .ok (.iconst 1, 1) := by decide +kernel
theorem dX1_hasKind_13 : decode cX1_hasKind 13 = .ok (.goto 4, 3) := by decide +kernel
theorem dX1_hasKind_16 : decode cX1_hasKind 16 = .ok (.iconst 0, 1) := by decide +kernel
theorem dX1_hasKind_17 : decode cX1_hasKind 17 = .ok (.ireturn, 1) := by decide +kernel
theorem dX1_hasOffer_0 : decode cX1_hasOffer 0 = .ok (.iload_n 1, 1) := by decide +kernel
theorem dX1_hasOffer_1 : decode cX1_hasOffer 1 = .ok (.ifCond .lt 15, 3) := by decide +kernel
theorem dX1_hasOffer_4 : decode cX1_hasOffer 4 = .ok (.iload_n 1, 1) := by decide +kernel
theorem dX1_hasOffer_5 : decode cX1_hasOffer 5 = .ok (.aload_n 0, 1) := by decide +kernel
theorem dX1_hasOffer_6 : decode cX1_hasOffer 6 = .ok (.getfield 37, 3) := by decide +kernel
theorem dX1_hasOffer_9 : decode cX1_hasOffer 9 = .ok (.if_icmp .ge 7, 3) := by decide +kernel
theorem dX1_hasOffer_12 : decode cX1_hasOffer 12 = .ok (.iconst 1, 1) := by decide +kernel
theorem dX1_hasOffer_13 : decode cX1_hasOffer 13 = .ok (.goto 4, 3) := by decide +kernel
theorem dX1_hasOffer_16 : decode cX1_hasOffer 16 = .ok (.iconst 0, 1) := by decide +kernel
theorem dX1_hasOffer_17 : decode cX1_hasOffer 17 = .ok (.ireturn, 1) := by decide +kernel
theorem dX1_isOfferOf_0 : decode cX1_isOfferOf 0 = .ok (.aload_n 0, 1) := by decide +kernel
theorem dX1_isOfferOf_1 : decode cX1_isOfferOf 1 = .ok (.iload_n 1, 1) := by decide +kernel
theorem dX1_isOfferOf_2 : decode cX1_isOfferOf 2 = .ok (.invokevirtual 46, 3) := by decide +kernel
theorem dX1_isOfferOf_5 : decode cX1_isOfferOf 5 = .ok (.ifCond .eq 17, 3) := by decide +kernel
theorem dX1_isOfferOf_8 : decode cX1_isOfferOf 8 = .ok (.aload_n 0, 1) := by decide +kernel
theorem dX1_isOfferOf_9 : decode cX1_isOfferOf 9 = .ok (.getfield 19, 3) := by decide +kernel
theorem dX1_isOfferOf_12 : decode cX1_isOfferOf 12 = .ok (.iload_n 1, 1) := by decide +kernel
theorem dX1_isOfferOf_13 : decode cX1_isOfferOf 13 = .ok (.iaload, 1) := by decide +kernel
theorem dX1_isOfferOf_14 : decode cX1_isOfferOf 14 = .ok (.iload_n 2, 1) := by decide +kernel
theorem dX1_isOfferOf_15 : decode cX1_isOfferOf 15 = .ok (.if_icmp .ne 7, 3) := by decide +kernel
theorem dX1_isOfferOf_18 : decode cX1_isOfferOf 18 = .ok (.iconst 1, 1) := by decide +kernel
theorem dX1_isOfferOf_19 : decode cX1_isOfferOf 19 = .ok (.goto 4, 3) := by decide +kernel
theorem dX1_isOfferOf_22 : decode cX1_isOfferOf 22 = .ok (.iconst 0, 1) := by decide +kernel
theorem dX1_isOfferOf_23 : decode cX1_isOfferOf 23 = .ok (.ireturn, 1) := by decide +kernel
theorem dX1_setHours_0 : decode cX1_setHours 0 = .ok (.aload_n 0, 1) := by decide +kernel
theorem dX1_setHours_1 : decode cX1_setHours 1 = .ok (.getfield 28, 3) := by decide +kernel
theorem dX1_setHours_4 : decode cX1_setHours 4 = .ok (.iload_n 1, 1) := by decide +kernel
theorem dX1_setHours_5 : decode cX1_setHours 5 = .ok (.invokestatic 50, 3) := by decide +kernel
theorem dX1_setHours_8 : decode cX1_setHours 8 = .ok (.aload_n 0, 1) := by decide +kernel
theorem dX1_setHours_9 : decode cX1_setHours 9 = .ok (.getfield 31, 3) := by decide +kernel
theorem dX1_setHours_12 : decode cX1_setHours 12 = .ok (.iload_n 1, 1) := by decide +kernel
theorem dX1_setHours_13 : decode cX1_setHours 13 = .ok (.invokestatic 50, 3) := by decide +kernel
theorem dX1_setHours_16 : decode cX1_setHours 16 = .ok (.aload_n 0, 1) := by decide +kernel
theorem dX1_setHours_17 : decode cX1_setHours 17 = .ok (.iload_n 1, 1) := by decide +kernel
theorem dX1_setHours_18 : decode cX1_setHours 18 = .ok (.putfield 9, 3) := by decide +kernel
theorem dX1_setHours_21 : decode cX1_setHours 21 = .ok (.return_, 1) := by decide +kernel
theorem dX1_forgetFrom_0 : decode cX1_forgetFrom 0 = .ok (.iconst 0, 1) := by decide +kernel
theorem dX1_forgetFrom_1 : decode cX1_forgetFrom 1 = .ok (.istore_n 2, 1) := by decide +kernel
theorem dX1_forgetFrom_2 : decode cX1_forgetFrom 2 = .ok (.iload_n 2, 1) := by decide +kernel
theorem dX1_forgetFrom_3 : decode cX1_forgetFrom 3 = .ok (.aload_n 0, 1) := by decide +kernel
theorem dX1_forgetFrom_4 : decode cX1_forgetFrom 4 = .ok (.arraylength, 1) := by decide +kernel
theorem dX1_forgetFrom_5 : decode cX1_forgetFrom 5 = .ok (.if_icmp .ge 21, 3) := by decide +kernel
theorem dX1_forgetFrom_8 : decode cX1_forgetFrom 8 = .ok (.aload_n 0, 1) := by decide +kernel
theorem dX1_forgetFrom_9 : decode cX1_forgetFrom 9 = .ok (.iload_n 2, 1) := by decide +kernel
theorem dX1_forgetFrom_10 : decode cX1_forgetFrom 10 = .ok (.iload_n 1, 1) := by decide +kernel
theorem dX1_forgetFrom_11 : decode cX1_forgetFrom 11 = .ok (.iadd, 1) := by decide +kernel
theorem dX1_forgetFrom_12 : decode cX1_forgetFrom 12 = .ok (.iload_n 2, 1) := by decide +kernel
theorem dX1_forgetFrom_13 : decode cX1_forgetFrom 13 = .ok (.bipush 40, 2) := by decide +kernel
theorem dX1_forgetFrom_15 : decode cX1_forgetFrom 15 = .ok (.iadd, 1) := by decide +kernel
theorem dX1_forgetFrom_16 : decode cX1_forgetFrom 16 = .ok (.iconst 0, 1) := by decide +kernel
theorem dX1_forgetFrom_17 : decode cX1_forgetFrom 17 = .ok (.invokestatic 54, 3) := by decide +kernel
theorem dX1_forgetFrom_20 : decode cX1_forgetFrom 20 = .ok (.iinc 2 40, 3) := by decide +kernel
theorem dX1_forgetFrom_23 : decode cX1_forgetFrom 23 = .ok (.goto (-21), 3) := by decide +kernel
theorem dX1_forgetFrom_26 : decode cX1_forgetFrom 26 = .ok (.return_, 1) := by decide +kernel
theorem dX1_addKind_0 : decode cX1_addKind 0 = .ok (.aload_n 0, 1) := by decide +kernel
theorem dX1_addKind_1 : decode cX1_addKind 1 = .ok (.getfield 15, 3) := by decide +kernel
theorem dX1_addKind_4 : decode cX1_addKind 4 = .ok (.aload_n 0, 1) := by decide +kernel
theorem dX1_addKind_5 : decode cX1_addKind 5 = .ok (.getfield 34, 3) := by decide +kernel
theorem dX1_addKind_8 : decode cX1_addKind 8 = .ok (.iload_n 1, 1) := by decide +kernel
theorem dX1_addKind_9 : decode cX1_addKind 9 = .ok (.iastore, 1) := by decide +kernel
theorem dX1_addKind_10 : decode cX1_addKind 10 = .ok (.aload_n 0, 1) := by decide +kernel
theorem dX1_addKind_11 : decode cX1_addKind 11 = .ok (.dup, 1) := by decide +kernel
theorem dX1_addKind_12 : decode cX1_addKind 12 = .ok (.getfield 34, 3) := by decide +kernel
theorem dX1_addKind_15 : decode cX1_addKind 15 = .ok (.iconst 1, 1) := by decide +kernel
theorem dX1_addKind_16 : decode cX1_addKind 16 = .ok (.iadd, 1) := by decide +kernel
theorem dX1_addKind_17 : decode cX1_addKind 17 = .ok (.putfield 34, 3) := by decide +kernel
theorem dX1_addKind_20 : decode cX1_addKind 20 = .ok (.aload_n 0, 1) := by decide +kernel
theorem dX1_addKind_21 : decode cX1_addKind 21 = .ok (.getfield 34, 3) := by decide +kernel
theorem dX1_addKind_24 : decode cX1_addKind 24 = .ok (.iconst 1, 1) := by decide +kernel
theorem dX1_addKind_25 : decode cX1_addKind 25 = .ok (.isub, 1) := by decide +kernel
theorem dX1_addKind_26 : decode cX1_addKind 26 = .ok (.ireturn, 1) := by decide +kernel
theorem dX1_addOffer_0 : decode cX1_addOffer 0 = .ok (.aload_n 0, 1) := by decide +kernel
theorem dX1_addOffer_1 : decode cX1_addOffer 1 = .ok (.getfield 19, 3) := by decide +kernel
theorem dX1_addOffer_4 : decode cX1_addOffer 4 = .ok (.aload_n 0, 1) := by decide +kernel
theorem dX1_addOffer_5 : decode cX1_addOffer 5 = .ok (.getfield 37, 3) := by decide +kernel
theorem dX1_addOffer_8 : decode cX1_addOffer 8 = .ok (.iload_n 1, 1) := by decide +kernel
theorem dX1_addOffer_9 : decode cX1_addOffer 9 = .ok (.iastore, 1) := by decide +kernel
theorem dX1_addOffer_10 : decode cX1_addOffer 10 = .ok (.aload_n 0, 1) := by decide +kernel
theorem dX1_addOffer_11 : decode cX1_addOffer 11 = .ok (.getfield 22, 3) := by decide +kernel
theorem dX1_addOffer_14 : decode cX1_addOffer 14 = .ok (.aload_n 0, 1) := by decide +kernel
theorem dX1_addOffer_15 : decode cX1_addOffer 15 = .ok (.getfield 37, 3) := by decide +kernel
theorem dX1_addOffer_18 : decode cX1_addOffer 18 = .ok (.iload_n 2, 1) := by decide +kernel
theorem dX1_addOffer_19 : decode cX1_addOffer 19 = .ok (.iastore, 1) := by decide +kernel
theorem dX1_addOffer_20 : decode cX1_addOffer 20 = .ok (.aload_n 0, 1) := by decide +kernel
theorem dX1_addOffer_21 : decode cX1_addOffer 21 = .ok (.getfield 25, 3) := by decide +kernel
theorem dX1_addOffer_24 : decode cX1_addOffer 24 = .ok (.aload_n 0, 1) := by decide +kernel
theorem dX1_addOffer_25 : decode cX1_addOffer 25 = .ok (.getfield 37, 3) := by decide +kernel
theorem dX1_addOffer_28 : decode cX1_addOffer 28 = .ok (.iload_n 3, 1) := by decide +kernel
theorem dX1_addOffer_29 : decode cX1_addOffer 29 = .ok (.iastore, 1) := by decide +kernel
theorem dX1_addOffer_30 : decode cX1_addOffer 30 = .ok (.aload_n 0, 1) := by decide +kernel
theorem dX1_addOffer_31 : decode cX1_addOffer 31 = .ok (.dup, 1) := by decide +kernel
theorem dX1_addOffer_32 : decode cX1_addOffer 32 = .ok (.getfield 37, 3) := by decide +kernel
theorem dX1_addOffer_35 : decode cX1_addOffer 35 = .ok (.iconst 1, 1) := by decide +kernel
theorem dX1_addOffer_36 : decode cX1_addOffer 36 = .ok (.iadd, 1) := by decide +kernel
theorem dX1_addOffer_37 : decode cX1_addOffer 37 = .ok (.putfield 37, 3) := by decide +kernel
theorem dX1_addOffer_40 : decode cX1_addOffer 40 = .ok (.aload_n 0, 1) := by decide +kernel
theorem dX1_addOffer_41 : decode cX1_addOffer 41 = .ok (.getfield 37, 3) := by decide +kernel
theorem dX1_addOffer_44 : decode cX1_addOffer 44 = .ok (.iconst 1, 1) := by decide +kernel
theorem dX1_addOffer_45 : decode cX1_addOffer 45 = .ok (.isub, 1) := by decide +kernel
theorem dX1_addOffer_46 : decode cX1_addOffer 46 = .ok (.ireturn, 1) := by decide +kernel
theorem dX1_setNeed_0 : decode cX1_setNeed 0 = .ok (.aload_n 0, 1) := by decide +kernel
theorem dX1_setNeed_1 : decode cX1_setNeed 1 = .ok (.getfield 28, 3) := by decide +kernel
theorem dX1_setNeed_4 : decode cX1_setNeed 4 = .ok (.iload_n 2, 1) := by decide +kernel
theorem dX1_setNeed_5 : decode cX1_setNeed 5 = .ok (.iconst 4, 1) := by decide +kernel
theorem dX1_setNeed_6 : decode cX1_setNeed 6 = .ok (.imul, 1) := by decide +kernel
theorem dX1_setNeed_7 : decode cX1_setNeed 7 = .ok (.iload_n 1, 1) := by decide +kernel
theorem dX1_setNeed_8 : decode cX1_setNeed 8 = .ok (.iadd, 1) := by decide +kernel
theorem dX1_setNeed_9 : decode cX1_setNeed 9 = .ok (.bipush 40, 2) := by decide +kernel
theorem dX1_setNeed_11 : decode cX1_setNeed 11 = .ok (.imul, 1) := by decide +kernel
theorem dX1_setNeed_12 : decode cX1_setNeed 12 = .ok (.iload_n 3, 1) := by decide +kernel
theorem dX1_setNeed_13 : decode cX1_setNeed 13 = .ok (.iadd, 1) := by decide +kernel
theorem dX1_setNeed_14 : decode cX1_setNeed 14 = .ok (.iload 4, 2) := by decide +kernel
theorem dX1_setNeed_16 : decode cX1_setNeed 16 = .ok (.iastore, 1) := by decide +kernel
theorem dX1_setNeed_17 : decode cX1_setNeed 17 = .ok (.return_, 1) := by decide +kernel
theorem dX1_needOf_0 : decode cX1_needOf 0 = .ok (.aload_n 0, 1) := by decide +kernel
theorem dX1_needOf_1 : decode cX1_needOf 1 = .ok (.getfield 28, 3) := by decide +kernel
theorem dX1_needOf_4 : decode cX1_needOf 4 = .ok (.iload_n 2, 1) := by decide +kernel
theorem dX1_needOf_5 : decode cX1_needOf 5 = .ok (.iconst 4, 1) := by decide +kernel
theorem dX1_needOf_6 : decode cX1_needOf 6 = .ok (.imul, 1) := by decide +kernel
theorem dX1_needOf_7 : decode cX1_needOf 7 = .ok (.iload_n 1, 1) := by decide +kernel
theorem dX1_needOf_8 : decode cX1_needOf 8 = .ok (.iadd, 1) := by decide +kernel
theorem dX1_needOf_9 : decode cX1_needOf 9 = .ok (.bipush 40, 2) := by decide +kernel
theorem dX1_needOf_11 : decode cX1_needOf 11 = .ok (.imul, 1) := by decide +kernel
theorem dX1_needOf_12 : decode cX1_needOf 12 = .ok (.iload_n 3, 1) := by decide +kernel
theorem dX1_needOf_13 : decode cX1_needOf 13 = .ok (.iadd, 1) := by decide +kernel
theorem dX1_needOf_14 : decode cX1_needOf 14 = .ok (.iaload, 1) := by decide +kernel
theorem dX1_needOf_15 : decode cX1_needOf 15 = .ok (.ireturn, 1) := by decide +kernel
theorem dX1_needOfAll_0 : decode cX1_needOfAll 0 = .ok (.iconst 0, 1) := by decide +kernel
theorem dX1_needOfAll_1 : decode cX1_needOfAll 1 = .ok (.istore_n 3, 1) := by decide +kernel
theorem dX1_needOfAll_2 : decode cX1_needOfAll 2 = .ok (.iconst 0, 1) := by decide +kernel
theorem dX1_needOfAll_3 : decode cX1_needOfAll 3 = .ok (.istore 4, 2) := by decide +kernel
theorem dX1_needOfAll_5 : decode cX1_needOfAll 5 = .ok (.iload 4, 2) := by decide +kernel
theorem dX1_needOfAll_7 : decode cX1_needOfAll 7 = .ok (.iconst 4, 1) := by decide +kernel
theorem dX1_needOfAll_8 : decode cX1_needOfAll 8 = .ok (.if_icmp .ge 20, 3) := by decide +kernel
theorem dX1_needOfAll_11 : decode cX1_needOfAll 11 = .ok (.iload_n 3, 1) := by decide +kernel
theorem dX1_needOfAll_12 : decode cX1_needOfAll 12 = .ok (.aload_n 0, 1) := by decide +kernel
theorem dX1_needOfAll_13 : decode cX1_needOfAll 13 = .ok (.iload 4, 2) := by decide +kernel
theorem dX1_needOfAll_15 : decode cX1_needOfAll 15 = .ok (.iload_n 1, 1) := by decide +kernel
theorem dX1_needOfAll_16 : decode cX1_needOfAll 16 = .ok (.iload_n 2, 1) := by decide +kernel
theorem dX1_needOfAll_17 : decode cX1_needOfAll 17 = .ok (.invokevirtual 60, 3) := by decide +kernel
theorem dX1_needOfAll_20 : decode cX1_needOfAll 20 = .ok (.iadd, 1) := by decide +kernel
theorem dX1_needOfAll_21 : decode cX1_needOfAll 21 = .ok (.istore_n 3, 1) := by decide +kernel
theorem dX1_needOfAll_22 : decode cX1_needOfAll 22 = .ok (.iinc 4 1, 3) := by decide +kernel
theorem dX1_needOfAll_25 : decode cX1_needOfAll 25 = .ok (.goto (-20), 3) := by decide +kernel
theorem dX1_needOfAll_28 : decode cX1_needOfAll 28 = .ok (.iload_n 3, 1) := by decide +kernel
theorem dX1_needOfAll_29 : decode cX1_needOfAll 29 = .ok (.ireturn, 1) := by decide +kernel
theorem dX1_needInAll_0 : decode cX1_needInAll 0 = .ok (.iconst 0, 1) := by decide +kernel
theorem dX1_needInAll_1 : decode cX1_needInAll 1 = .ok (.istore_n 2, 1) := by decide +kernel
theorem dX1_needInAll_2 : decode cX1_needInAll 2 = .ok (.iconst 0, 1) := by decide +kernel
theorem dX1_needInAll_3 : decode cX1_needInAll 3 = .ok (.istore_n 3, 1) := by decide +kernel
theorem dX1_needInAll_4 : decode cX1_needInAll 4 = .ok (.iload_n 3, 1) := by decide +kernel
theorem dX1_needInAll_5 : decode cX1_needInAll 5 = .ok (.aload_n 0, 1) := by decide +kernel
theorem dX1_needInAll_6 : decode cX1_needInAll 6 = .ok (.getfield 9, 3) := by decide +kernel
theorem dX1_needInAll_9 : decode cX1_needInAll 9 = .ok (.if_icmp .ge 18, 3) := by decide +kernel
theorem dX1_needInAll_12 : decode cX1_needInAll 12 = .ok (.iload_n 2, 1) := by decide +kernel
theorem dX1_needInAll_13 : decode cX1_needInAll 13 = .ok (.aload_n 0, 1) := by decide +kernel
theorem dX1_needInAll_14 : decode cX1_needInAll 14 = .ok (.iload_n 1, 1) := by decide +kernel
theorem dX1_needInAll_15 : decode cX1_needInAll 15 = .ok (.iload_n 3, 1) := by decide +kernel
theorem dX1_needInAll_16 : decode cX1_needInAll 16 = .ok (.invokevirtual 64, 3) := by decide +kernel
theorem dX1_needInAll_19 : decode cX1_needInAll 19 = .ok (.iadd, 1) := by decide +kernel
theorem dX1_needInAll_20 : decode cX1_needInAll 20 = .ok (.istore_n 2, 1) := by decide +kernel
theorem dX1_needInAll_21 : decode cX1_needInAll 21 = .ok (.iinc 3 1, 3) := by decide +kernel
theorem dX1_needInAll_24 : decode cX1_needInAll 24 = .ok (.goto (-20), 3) := by decide +kernel
theorem dX1_needInAll_27 : decode cX1_needInAll 27 = .ok (.iload_n 2, 1) := by decide +kernel
theorem dX1_needInAll_28 : decode cX1_needInAll 28 = .ok (.ireturn, 1) := by decide +kernel
theorem dX1_mostNeed_0 : decode cX1_mostNeed 0 = .ok (.iconst 0, 1) := by decide +kernel
theorem dX1_mostNeed_1 : decode cX1_mostNeed 1 = .ok (.istore_n 2, 1) := by decide +kernel
theorem dX1_mostNeed_2 : decode cX1_mostNeed 2 = .ok (.iconst 0, 1) := by decide +kernel
theorem dX1_mostNeed_3 : decode cX1_mostNeed 3 = .ok (.istore_n 3, 1) := by decide +kernel
theorem dX1_mostNeed_4 : decode cX1_mostNeed 4 = .ok (.iload_n 3, 1) := by decide +kernel
theorem dX1_mostNeed_5 : decode cX1_mostNeed 5 = .ok (.aload_n 0, 1) := by decide +kernel
theorem dX1_mostNeed_6 : decode cX1_mostNeed 6 = .ok (.getfield 9, 3) := by decide +kernel
theorem dX1_mostNeed_9 : decode cX1_mostNeed 9 = .ok (.if_icmp .ge 20, 3) := by decide +kernel
theorem dX1_mostNeed_12 : decode cX1_mostNeed 12 = .ok (.iload_n 2, 1) := by decide +kernel
theorem dX1_mostNeed_13 : decode cX1_mostNeed 13 = .ok (.aload_n 0, 1) := by decide +kernel
theorem dX1_mostNeed_14 : decode cX1_mostNeed 14 = .ok (.iload_n 1, 1) := by decide +kernel
theorem dX1_mostNeed_15 : decode cX1_mostNeed 15 = .ok (.iload_n 3, 1) := by decide +kernel
theorem dX1_mostNeed_16 : decode cX1_mostNeed 16 = .ok (.invokevirtual 64, 3) := by decide +kernel
theorem dX1_mostNeed_19 : decode cX1_mostNeed 19 = .ok (.invokestatic 68, 3) := by decide +kernel
theorem dX1_mostNeed_22 : decode cX1_mostNeed 22 = .ok (.istore_n 2, 1) := by decide +kernel
theorem dX1_mostNeed_23 : decode cX1_mostNeed 23 = .ok (.iinc 3 1, 3) := by decide +kernel
theorem dX1_mostNeed_26 : decode cX1_mostNeed 26 = .ok (.goto (-22), 3) := by decide +kernel
theorem dX1_mostNeed_29 : decode cX1_mostNeed 29 = .ok (.iload_n 2, 1) := by decide +kernel
theorem dX1_mostNeed_30 : decode cX1_mostNeed 30 = .ok (.ireturn, 1) := by decide +kernel
theorem dX1_offersOf_0 : decode cX1_offersOf 0 = .ok (.iconst 0, 1) := by decide +kernel
theorem dX1_offersOf_1 : decode cX1_offersOf 1 = .ok (.istore_n 2, 1) := by decide +kernel
theorem dX1_offersOf_2 : decode cX1_offersOf 2 = .ok (.iconst 0, 1) := by decide +kernel
theorem dX1_offersOf_3 : decode cX1_offersOf 3 = .ok (.istore_n 3, 1) := by decide +kernel
theorem dX1_offersOf_4 : decode cX1_offersOf 4 = .ok (.iload_n 3, 1) := by decide +kernel
theorem dX1_offersOf_5 : decode cX1_offersOf 5 = .ok (.aload_n 0, 1) := by decide +kernel
theorem dX1_offersOf_6 : decode cX1_offersOf 6 = .ok (.getfield 37, 3) := by decide +kernel
theorem dX1_offersOf_9 : decode cX1_offersOf 9 = .ok (.if_icmp .ge 27, 3) := by decide +kernel
theorem dX1_offersOf_12 : decode cX1_offersOf 12 = .ok (.iload_n 2, 1) := by decide +kernel
theorem dX1_offersOf_13 : decode cX1_offersOf 13 = .ok (.aload_n 0, 1) := by decide +kernel
theorem dX1_offersOf_14 : decode cX1_offersOf 14 = .ok (.getfield 19, 3) := by decide +kernel
theorem dX1_offersOf_17 : decode cX1_offersOf 17 = .ok (.iload_n 3, 1) := by decide +kernel
theorem dX1_offersOf_18 : decode cX1_offersOf 18 = .ok (.iaload, 1) := by decide +kernel
theorem dX1_offersOf_19 : decode cX1_offersOf 19 = .ok (.iload_n 1, 1) := by decide +kernel
theorem dX1_offersOf_20 : decode cX1_offersOf 20 = .ok (.if_icmp .ne 7, 3) := by decide +kernel
theorem dX1_offersOf_23 : decode cX1_offersOf 23 = .ok (.iconst 1, 1) := by decide +kernel
theorem dX1_offersOf_24 : decode cX1_offersOf 24 = .ok (.goto 4, 3) := by decide +kernel
theorem dX1_offersOf_27 : decode cX1_offersOf 27 = .ok (.iconst 0, 1) := by decide +kernel
theorem dX1_offersOf_28 : decode cX1_offersOf 28 = .ok (.iadd, 1) := by decide +kernel
theorem dX1_offersOf_29 : decode cX1_offersOf 29 = .ok (.istore_n 2, 1) := by decide +kernel
theorem dX1_offersOf_30 : decode cX1_offersOf 30 = .ok (.iinc 3 1, 3) := by decide +kernel
theorem dX1_offersOf_33 : decode cX1_offersOf 33 = .ok (.goto (-29), 3) := by decide +kernel
theorem dX1_offersOf_36 : decode cX1_offersOf 36 = .ok (.iload_n 2, 1) := by decide +kernel
theorem dX1_offersOf_37 : decode cX1_offersOf 37 = .ok (.ireturn, 1) := by decide +kernel
theorem dX1_setBought_0 : decode cX1_setBought 0 = .ok (.aload_n 0, 1) := by decide +kernel
theorem dX1_setBought_1 : decode cX1_setBought 1 = .ok (.getfield 31, 3) := by decide +kernel
theorem dX1_setBought_4 : decode cX1_setBought 4 = .ok (.iload_n 1, 1) := by decide +kernel
theorem dX1_setBought_5 : decode cX1_setBought 5 = .ok (.bipush 40, 2) := by decide +kernel
theorem dX1_setBought_7 : decode cX1_setBought 7 = .ok (.imul, 1) := by decide +kernel
theorem dX1_setBought_8 : decode cX1_setBought 8 = .ok (.iload_n 2, 1) := by decide +kernel
theorem dX1_setBought_9 : decode cX1_setBought 9 = .ok (.iadd, 1) := by decide +kernel
theorem dX1_setBought_10 : decode cX1_setBought 10 = .ok (.iload_n 3, 1) := by decide +kernel
theorem dX1_setBought_11 : decode cX1_setBought 11 = .ok (.iastore, 1) := by decide +kernel
theorem dX1_setBought_12 : decode cX1_setBought 12 = .ok (.return_, 1) := by decide +kernel
theorem dX1_boughtAt_0 : decode cX1_boughtAt 0 = .ok (.aload_n 0, 1) := by decide +kernel
theorem dX1_boughtAt_1 : decode cX1_boughtAt 1 = .ok (.getfield 31, 3) := by decide +kernel
theorem dX1_boughtAt_4 : decode cX1_boughtAt 4 = .ok (.iload_n 1, 1) := by decide +kernel
theorem dX1_boughtAt_5 : decode cX1_boughtAt 5 = .ok (.bipush 40, 2) := by decide +kernel
theorem dX1_boughtAt_7 : decode cX1_boughtAt 7 = .ok (.imul, 1) := by decide +kernel
theorem dX1_boughtAt_8 : decode cX1_boughtAt 8 = .ok (.iload_n 2, 1) := by decide +kernel
theorem dX1_boughtAt_9 : decode cX1_boughtAt 9 = .ok (.iadd, 1) := by decide +kernel
theorem dX1_boughtAt_10 : decode cX1_boughtAt 10 = .ok (.iaload, 1) := by decide +kernel
theorem dX1_boughtAt_11 : decode cX1_boughtAt 11 = .ok (.ireturn, 1) := by decide +kernel
theorem dX1_boughtInAll_0 : decode cX1_boughtInAll 0 = .ok (.aload_n 0, 1) := by decide +kernel
theorem dX1_boughtInAll_1 : decode cX1_boughtInAll 1 = .ok (.iload_n 1, 1) := by decide +kernel
theorem dX1_boughtInAll_2 : decode cX1_boughtInAll 2 = .ok (.iconst 0, 1) := by decide +kernel
theorem dX1_boughtInAll_3 : decode cX1_boughtInAll 3 = .ok (.aload_n 0, 1) := by decide +kernel
theorem dX1_boughtInAll_4 : decode cX1_boughtInAll 4 = .ok (.getfield 9, 3) := by decide +kernel
theorem dX1_boughtInAll_7 : decode cX1_boughtInAll 7 = .ok (.iconst 1, 1) := by decide +kernel
theorem dX1_boughtInAll_8 : decode cX1_boughtInAll 8 = .ok (.isub, 1) := by decide +kernel
theorem dX1_boughtInAll_9 : decode cX1_boughtInAll 9 = .ok (.invokevirtual 73, 3) := by decide +kernel
theorem dX1_boughtInAll_12 : decode cX1_boughtInAll 12 = .ok (.ireturn, 1) := by decide +kernel
theorem dX1_buyNothing_0 : decode cX1_buyNothing 0 = .ok (.iconst 0, 1) := by decide +kernel
theorem dX1_buyNothing_1 : decode cX1_buyNothing 1 = .ok (.istore_n 2, 1) := by decide +kernel
theorem dX1_buyNothing_2 : decode cX1_buyNothing 2 = .ok (.iload_n 2, 1) := by decide +kernel
theorem dX1_buyNothing_3 : decode cX1_buyNothing 3 = .ok (.aload_n 0, 1) := by decide +kernel
theorem dX1_buyNothing_4 : decode cX1_buyNothing 4 = .ok (.getfield 37, 3) := by decide +kernel
theorem dX1_buyNothing_7 : decode cX1_buyNothing 7 = .ok (.if_icmp .ge 37, 3) := by decide +kernel
theorem dX1_buyNothing_10 : decode cX1_buyNothing 10 = .ok (.aload_n 0, 1) := by decide +kernel
theorem dX1_buyNothing_11 : decode cX1_buyNothing 11 = .ok (.getfield 19, 3) := by decide +kernel
theorem dX1_buyNothing_14 : decode cX1_buyNothing 14 = .ok (.iload_n 2, 1) := by decide +kernel
theorem dX1_buyNothing_15 : decode cX1_buyNothing 15 = .ok (.iaload, 1) := by decide +kernel
theorem dX1_buyNothing_16 : decode cX1_buyNothing 16 = .ok (.iload_n 1, 1) := by decide +kernel
theorem dX1_buyNothing_17 : decode cX1_buyNothing 17 = .ok (.if_icmp .ne 21, 3) := by decide +kernel
theorem dX1_buyNothing_20 : decode cX1_buyNothing 20 = .ok (.iload_n 2, 1) := by decide +kernel
theorem dX1_buyNothing_21 : decode cX1_buyNothing 21 = .ok (.bipush 40, 2) := by decide +kernel
theorem dX1_buyNothing_23 : decode cX1_buyNothing 23 = .ok (.imul, 1) := by decide +kernel
theorem dX1_buyNothing_24 : decode cX1_buyNothing 24 = .ok (.istore_n 3, 1) := by decide +kernel
theorem dX1_buyNothing_25 : decode cX1_buyNothing 25 = .ok (.aload_n 0, 1) := by decide +kernel
theorem dX1_buyNothing_26 : decode cX1_buyNothing 26 = .ok (.getfield 31, 3) := by decide +kernel
theorem dX1_buyNothing_29 : decode cX1_buyNothing 29 = .ok (.iload_n 3, 1) := by decide +kernel
theorem dX1_buyNothing_30 : decode cX1_buyNothing 30 = .ok (.iload_n 3, 1) := by decide +kernel
theorem dX1_buyNothing_31 : decode cX1_buyNothing 31 = .ok (.bipush 40, 2) := by decide +kernel
theorem dX1_buyNothing_33 : decode cX1_buyNothing 33 = .ok (.iadd, 1) := by decide +kernel
theorem dX1_buyNothing_34 : decode cX1_buyNothing 34 = .ok (.iconst 0, 1) := by decide +kernel
theorem dX1_buyNothing_35 : decode cX1_buyNothing 35 = .ok (.invokestatic 54, 3) := by decide +kernel
theorem dX1_buyNothing_38 : decode cX1_buyNothing 38 = .ok (.iinc 2 1, 3) := by decide +kernel
theorem dX1_buyNothing_41 : decode cX1_buyNothing 41 = .ok (.goto (-39), 3) := by decide +kernel
theorem dX1_buyNothing_44 : decode cX1_buyNothing 44 = .ok (.return_, 1) := by decide +kernel
theorem dX1_ahead_0 : decode cX1_ahead 0 = .ok (.iconst 0, 1) := by decide +kernel
theorem dX1_ahead_1 : decode cX1_ahead 1 = .ok (.istore_n 3, 1) := by decide +kernel
theorem dX1_ahead_2 : decode cX1_ahead 2 = .ok (.iconst 0, 1) := by decide +kernel
theorem dX1_ahead_3 : decode cX1_ahead 3 = .ok (.istore 4, 2) := by decide +kernel
theorem dX1_ahead_5 : decode cX1_ahead 5 = .ok (.iload 4, 2) := by decide +kernel
theorem dX1_ahead_7 : decode cX1_ahead 7 = .ok (.aload_n 0, 1) := by decide +kernel
theorem dX1_ahead_8 : decode cX1_ahead 8 = .ok (.getfield 37, 3) := by decide +kernel
theorem dX1_ahead_11 : decode cX1_ahead 11 = .ok (.if_icmp .ge 45, 3) := by decide +kernel
theorem dX1_ahead_14 : decode cX1_ahead 14 = .ok (.aload_n 0, 1) := by decide +kernel
theorem dX1_ahead_15 : decode cX1_ahead 15 = .ok (.getfield 19, 3) := by decide +kernel
theorem dX1_ahead_18 : decode cX1_ahead 18 = .ok (.iload 4, 2) := by decide +kernel
theorem dX1_ahead_20 : decode cX1_ahead 20 = .ok (.iaload, 1) := by decide +kernel
theorem dX1_ahead_21 : decode cX1_ahead 21 = .ok (.iload_n 1, 1) := by decide +kernel
theorem dX1_ahead_22 : decode cX1_ahead 22 = .ok (.if_icmp .ne 28, 3) := by decide +kernel
theorem dX1_ahead_25 : decode cX1_ahead 25 = .ok (.iload_n 3, 1) := by decide +kernel
theorem dX1_ahead_26 : decode cX1_ahead 26 = .ok (.aload_n 0, 1) := by decide +kernel
theorem dX1_ahead_27 : decode cX1_ahead 27 = .ok (.iload 4, 2) := by decide +kernel
theorem dX1_ahead_29 : decode cX1_ahead 29 = .ok (.iconst 0, 1) := by decide +kernel
theorem dX1_ahead_30 : decode cX1_ahead 30 = .ok (.iload_n 2, 1) := by decide +kernel
theorem dX1_ahead_31 : decode cX1_ahead 31 = .ok (.aload_n 0, 1) := by decide +kernel
theorem dX1_ahead_32 : decode cX1_ahead 32 = .ok (.getfield 22, 3) := by decide +kernel
theorem dX1_ahead_35 : decode cX1_ahead 35 = .ok (.iload 4, 2) := by decide +kernel
theorem dX1_ahead_37 : decode cX1_ahead 37 = .ok (.iaload, 1) := by decide +kernel
theorem dX1_ahead_38 : decode cX1_ahead 38 = .ok (.isub, 1) := by decide +kernel
theorem dX1_ahead_39 : decode cX1_ahead 39 = .ok (.iconst 1, 1) := by decide +kernel
theorem dX1_ahead_40 : decode cX1_ahead 40 = .ok (.iadd, 1) := by decide +kernel
theorem dX1_ahead_41 : decode cX1_ahead 41 = .ok (.invokestatic 68, 3) := by decide +kernel
theorem dX1_ahead_44 : decode cX1_ahead 44 = .ok (.iload_n 2, 1) := by decide +kernel
theorem dX1_ahead_45 : decode cX1_ahead 45 = .ok (.invokevirtual 73, 3) := by decide +kernel
theorem dX1_ahead_48 : decode cX1_ahead 48 = .ok (.iadd, 1) := by decide +kernel
theorem dX1_ahead_49 : decode cX1_ahead 49 = .ok (.istore_n 3, 1) := by decide +kernel
theorem dX1_ahead_50 : decode cX1_ahead 50 = .ok (.iinc 4 1, 3) := by decide +kernel
theorem dX1_ahead_53 : decode cX1_ahead 53 = .ok (.goto (-48), 3) := by decide +kernel
theorem dX1_ahead_56 : decode cX1_ahead 56 = .ok (.iload_n 3, 1) := by decide +kernel
theorem dX1_ahead_57 : decode cX1_ahead 57 = .ok (.ireturn, 1) := by decide +kernel
theorem dX1_notAhead_0 : decode cX1_notAhead 0 = .ok (.iconst 0, 1) := by decide +kernel
theorem dX1_notAhead_1 : decode cX1_notAhead 1 = .ok (.aload_n 0, 1) := by decide +kernel
theorem dX1_notAhead_2 : decode cX1_notAhead 2 = .ok (.iload_n 1, 1) := by decide +kernel
theorem dX1_notAhead_3 : decode cX1_notAhead 3 = .ok (.iload_n 2, 1) := by decide +kernel
theorem dX1_notAhead_4 : decode cX1_notAhead 4 = .ok (.invokevirtual 64, 3) := by decide +kernel
theorem dX1_notAhead_7 : decode cX1_notAhead 7 = .ok (.aload_n 0, 1) := by decide +kernel
theorem dX1_notAhead_8 : decode cX1_notAhead 8 = .ok (.iload_n 1, 1) := by decide +kernel
theorem dX1_notAhead_9 : decode cX1_notAhead 9 = .ok (.iload_n 2, 1) := by decide +kernel
theorem dX1_notAhead_10 : decode cX1_notAhead 10 = .ok (.invokevirtual 76, 3) := by decide +kernel
theorem dX1_notAhead_13 : decode cX1_notAhead 13 = .ok (.isub, 1) := by decide +kernel
theorem dX1_notAhead_14 : decode cX1_notAhead 14 = .ok (.invokestatic 68, 3) := by decide +kernel
theorem dX1_notAhead_17 : decode cX1_notAhead 17 = .ok (.ireturn, 1) := by decide +kernel
theorem dX1_offersCost_0 : decode cX1_offersCost 0 = .ok (.lconst 0, 1) := by decide +kernel
theorem dX1_offersCost_1 : decode cX1_offersCost 1 = .ok (.lstore_n 2, 1) := by decide +kernel
theorem dX1_offersCost_2 : decode cX1_offersCost 2 = .ok (.iconst 0, 1) := by decide +kernel
theorem dX1_offersCost_3 : decode cX1_offersCost 3 = .ok (.istore 4, 2) := by decide +kernel
theorem dX1_offersCost_5 : decode cX1_offersCost 5 = .ok (.iload 4, 2) := by decide +kernel
theorem dX1_offersCost_7 : decode cX1_offersCost 7 = .ok (.aload_n 0, 1) := by decide +kernel
theorem dX1_offersCost_8 : decode cX1_offersCost 8 = .ok (.getfield 37, 3) := by decide +kernel
theorem dX1_offersCost_11 : decode cX1_offersCost 11 = .ok (.if_icmp .ge 39, 3) := by decide +kernel
theorem dX1_offersCost_14 : decode cX1_offersCost 14 = .ok (.aload_n 0, 1) := by decide +kernel
theorem dX1_offersCost_15 : decode cX1_offersCost 15 = .ok (.getfield 19, 3) := by decide +kernel
theorem dX1_offersCost_18 : decode cX1_offersCost 18 = .ok (.iload 4, 2) := by decide +kernel
theorem dX1_offersCost_20 : decode cX1_offersCost 20 = .ok (.iaload, 1) := by decide +kernel
theorem dX1_offersCost_21 : decode cX1_offersCost 21 = .ok (.iload_n 1, 1) := by decide +kernel
theorem dX1_offersCost_22 : decode cX1_offersCost 22 = .ok (.if_icmp .ne 22, 3) := by decide +kernel
theorem dX1_offersCost_25 : decode cX1_offersCost 25 = .ok (.lload_n 2, 1) := by decide +kernel
theorem dX1_offersCost_26 : decode cX1_offersCost 26 = .ok (.aload_n 0, 1) := by decide +kernel
theorem dX1_offersCost_27 : decode cX1_offersCost 27 = .ok (.iload 4, 2) := by decide +kernel
theorem dX1_offersCost_29 : decode cX1_offersCost 29 = .ok (.invokevirtual 79, 3) := by decide +kernel
theorem dX1_offersCost_32 : decode cX1_offersCost 32 = .ok (.i2l, 1) := by decide +kernel
theorem dX1_offersCost_33 : decode cX1_offersCost 33 = .ok (.aload_n 0, 1) := by decide +kernel
theorem dX1_offersCost_34 : decode cX1_offersCost 34 = .ok (.getfield 25, 3) := by decide +kernel
theorem dX1_offersCost_37 : decode cX1_offersCost 37 = .ok (.iload 4, 2) := by decide +kernel
theorem dX1_offersCost_39 : decode cX1_offersCost 39 = .ok (.iaload, 1) := by decide +kernel
theorem dX1_offersCost_40 : decode cX1_offersCost 40 = .ok (.i2l, 1) := by decide +kernel
theorem dX1_offersCost_41 : decode cX1_offersCost 41 = .ok (.lmul, 1) := by decide +kernel
theorem dX1_offersCost_42 : decode cX1_offersCost 42 = .ok (.ladd, 1) := by decide +kernel
theorem dX1_offersCost_43 : decode cX1_offersCost 43 = .ok (.lstore_n 2, 1) := by decide +kernel
theorem dX1_offersCost_44 : decode cX1_offersCost 44 = .ok (.iinc 4 1, 3) := by decide +kernel
theorem dX1_offersCost_47 : decode cX1_offersCost 47 = .ok (.goto (-42), 3) := by decide +kernel
theorem dX1_offersCost_50 : decode cX1_offersCost 50 = .ok (.lload_n 2, 1) := by decide +kernel
theorem dX1_offersCost_51 : decode cX1_offersCost 51 = .ok (.lreturn, 1) := by decide +kernel
theorem dX1_planCost_0 : decode cX1_planCost 0 = .ok (.aload_n 0, 1) := by decide +kernel
theorem dX1_planCost_1 : decode cX1_planCost 1 = .ok (.iload_n 1, 1) := by decide +kernel
theorem dX1_planCost_2 : decode cX1_planCost 2 = .ok (.invokevirtual 83, 3) := by decide +kernel
theorem dX1_planCost_5 : decode cX1_planCost 5 = .ok (.lstore_n 2, 1) := by decide +kernel
theorem dX1_planCost_6 : decode cX1_planCost 6 = .ok (.iconst 0, 1) := by decide +kernel
theorem dX1_planCost_7 : decode cX1_planCost 7 = .ok (.istore 4, 2) := by decide +kernel
theorem dX1_planCost_9 : decode cX1_planCost 9 = .ok (.iload 4, 2) := by decide +kernel
theorem dX1_planCost_11 : decode cX1_planCost 11 = .ok (.aload_n 0, 1) := by decide +kernel
theorem dX1_planCost_12 : decode cX1_planCost 12 = .ok (.getfield 9, 3) := by decide +kernel
theorem dX1_planCost_15 : decode cX1_planCost 15 = .ok (.if_icmp .ge 28, 3) := by decide +kernel
theorem dX1_planCost_18 : decode cX1_planCost 18 = .ok (.lload_n 2, 1) := by decide +kernel
theorem dX1_planCost_19 : decode cX1_planCost 19 = .ok (.aload_n 0, 1) := by decide +kernel
theorem dX1_planCost_20 : decode cX1_planCost 20 = .ok (.iload_n 1, 1) := by decide +kernel
theorem dX1_planCost_21 : decode cX1_planCost 21 = .ok (.iload 4, 2) := by decide +kernel
theorem dX1_planCost_23 : decode cX1_planCost 23 = .ok (.invokevirtual 87, 3) := by decide +kernel
theorem dX1_planCost_26 : decode cX1_planCost 26 = .ok (.i2l, 1) := by decide +kernel
theorem dX1_planCost_27 : decode cX1_planCost 27 = .ok (.aload_n 0, 1) := by decide +kernel
theorem dX1_planCost_28 : decode cX1_planCost 28 = .ok (.getfield 15, 3) := by decide +kernel
theorem dX1_planCost_31 : decode cX1_planCost 31 = .ok (.iload_n 1, 1) := by decide +kernel
theorem dX1_planCost_32 : decode cX1_planCost 32 = .ok (.iaload, 1) := by decide +kernel
theorem dX1_planCost_33 : decode cX1_planCost 33 = .ok (.i2l, 1) := by decide +kernel
theorem dX1_planCost_34 : decode cX1_planCost 34 = .ok (.lmul, 1) := by decide +kernel
theorem dX1_planCost_35 : decode cX1_planCost 35 = .ok (.ladd, 1) := by decide +kernel
theorem dX1_planCost_36 : decode cX1_planCost 36 = .ok (.lstore_n 2, 1) := by decide +kernel
theorem dX1_planCost_37 : decode cX1_planCost 37 = .ok (.iinc 4 1, 3) := by decide +kernel
theorem dX1_planCost_40 : decode cX1_planCost 40 = .ok (.goto (-31), 3) := by decide +kernel
theorem dX1_planCost_43 : decode cX1_planCost 43 = .ok (.lload_n 2, 1) := by decide +kernel
theorem dX1_planCost_44 : decode cX1_planCost 44 = .ok (.lreturn, 1) := by decide +kernel
theorem dX1_boughtWithin_0 : decode cX1_boughtWithin 0 = .ok (.iconst 0, 1) := by decide +kernel
theorem dX1_boughtWithin_1 : decode cX1_boughtWithin 1 = .ok (.istore 4, 2) := by decide +kernel
theorem dX1_boughtWithin_3 : decode cX1_boughtWithin 3 = .ok (.iload_n 2, 1) := by decide +kernel
theorem dX1_boughtWithin_4 : decode cX1_boughtWithin 4 = .ok (.istore 5, 2) := by decide +kernel
theorem dX1_boughtWithin_6 : decode cX1_boughtWithin 6 = .ok (.iload 5, 2) := by decide +kernel
theorem dX1_boughtWithin_8 : decode cX1_boughtWithin 8 = .ok (.iload_n 3, 1) := by decide +kernel
theorem dX1_boughtWithin_9 : decode cX1_boughtWithin 9 = .ok (.if_icmp .gt 21, 3) := by decide +kernel
theorem dX1_boughtWithin_12 : decode cX1_boughtWithin 12 = .ok (.iload 4, 2) := by decide +kernel
theorem dX1_boughtWithin_14 : decode cX1_boughtWithin 14 = .ok (.aload_n 0, 1) := by decide +kernel
theorem dX1_boughtWithin_15 : decode cX1_boughtWithin 15 = .ok (.iload_n 1, 1) := by decide +kernel
theorem dX1_boughtWithin_16 : decode cX1_boughtWithin 16 = .ok (.iload 5, 2) := by decide +kernel
theorem dX1_boughtWithin_18 : decode cX1_boughtWithin 18 = .ok (.invokevirtual 90, 3) := by decide +kernel
theorem dX1_boughtWithin_21 : decode cX1_boughtWithin 21 = .ok (.iadd, 1) := by decide +kernel
theorem dX1_boughtWithin_22 : decode cX1_boughtWithin 22 = .ok (.istore 4, 2) := by decide +kernel
theorem dX1_boughtWithin_24 : decode cX1_boughtWithin 24 = .ok (.iinc 5 1, 3) := by decide +kernel
theorem dX1_boughtWithin_27 : decode cX1_boughtWithin 27 = .ok (.goto (-21), 3) := by decide +kernel
theorem dX1_boughtWithin_30 : decode cX1_boughtWithin 30 = .ok (.iload 4, 2) := by decide +kernel
theorem dX1_boughtWithin_32 : decode cX1_boughtWithin 32 = .ok (.ireturn, 1) := by decide +kernel
theorem dX2_init_0 : decode cX2_init 0 = .ok (.aload_n 0, 1) := by decide +kernel
theorem dX2_init_1 : decode cX2_init 1 = .ok (.invokespecial 3, 3) := by decide +kernel
theorem dX2_init_4 : decode cX2_init 4 = .ok (.aload_n 0, 1) := by decide +kernel
theorem dX2_init_5 : decode cX2_init 5 = .ok (.bipush 8, 2) := by decide +kernel
theorem dX2_init_7 : decode cX2_init 7 = .ok (.newarray .int, 2) := by decide +kernel
theorem dX2_init_9 : decode cX2_init 9 = .ok (.putfield 11, 3) := by decide +kernel
theorem dX2_init_12 : decode cX2_init 12 = .ok (.aload_n 0, 1) := by decide +kernel
theorem dX2_init_13 : decode cX2_init 13 = .ok (.bipush 8, 2) := by decide +kernel
theorem dX2_init_15 : decode cX2_init 15 = .ok (.newarray .int, 2) := by decide +kernel
theorem dX2_init_17 : decode cX2_init 17 = .ok (.putfield 15, 3) := by decide +kernel
theorem dX2_init_20 : decode cX2_init 20 = .ok (.aload_n 0, 1) := by decide +kernel
theorem dX2_init_21 : decode cX2_init 21 = .ok (.sipush 328, 3) := by decide +kernel
theorem dX2_init_24 : decode cX2_init 24 = .ok (.newarray .int, 2) := by decide +kernel
theorem dX2_init_26 : decode cX2_init 26 = .ok (.putfield 18, 3) := by decide +kernel
theorem dX2_init_29 : decode cX2_init 29 = .ok (.aload_n 0, 1) := by decide +kernel
theorem dX2_init_30 : decode cX2_init 30 = .ok (.bipush 41, 2) := by decide +kernel
theorem dX2_init_32 : decode cX2_init 32 = .ok (.newarray .int, 2) := by decide +kernel
theorem dX2_init_34 : decode cX2_init 34 = .ok (.putfield 21, 3) := by decide +kernel
theorem dX2_init_37 : decode cX2_init 37 = .ok (.aload_n 0, 1) := by decide +kernel
theorem dX2_init_38 : decode cX2_init 38 = .ok (.bipush 41, 2) := by decide +kernel
theorem dX2_init_40 : decode cX2_init 40 = .ok (.newarray .int, 2) := by decide +kernel
theorem dX2_init_42 : decode cX2_init 42 = .ok (.putfield 24, 3) := by decide +kernel
theorem dX2_init_45 : decode cX2_init 45 = .ok (.aload_n 0, 1) := by decide +kernel
theorem dX2_init_46 : decode cX2_init 46 = .ok (.bipush 41, 2) := by decide +kernel
theorem dX2_init_48 : decode cX2_init 48 = .ok (.newarray .int, 2) := by decide +kernel
theorem dX2_init_50 : decode cX2_init 50 = .ok (.putfield 27, 3) := by decide +kernel
theorem dX2_init_53 : decode cX2_init 53 = .ok (.aload_n 0, 1) := by decide +kernel
theorem dX2_init_54 : decode cX2_init 54 = .ok (.bipush 41, 2) := by decide +kernel
theorem dX2_init_56 : decode cX2_init 56 = .ok (.newarray .boolean, 2) := by decide +kernel
theorem dX2_init_58 : decode cX2_init 58 = .ok (.putfield 30, 3) := by decide +kernel
theorem dX2_init_61 : decode cX2_init 61 = .ok (.return_, 1) := by decide +kernel
theorem dX2_least_0 : decode cX2_least 0 = .ok (.aload_n 0, 1) := by decide +kernel
theorem dX2_least_1 : decode cX2_least 1 = .ok (.aload_n 1, 1) := by decide +kernel
theorem dX2_least_2 : decode cX2_least 2 = .ok (.iload_n 2, 1) := by decide +kernel
theorem dX2_least_3 : decode cX2_least 3 = .ok (.invokevirtual 34, 3) := by decide +kernel
theorem dX2_least_6 : decode cX2_least 6 = .ok (.aload_n 0, 1) := by decide +kernel
theorem dX2_least_7 : decode cX2_least 7 = .ok (.getfield 18, 3) := by decide +kernel
theorem dX2_least_10 : decode cX2_least 10 = .ok (.iconst 0, 1) := by decide +kernel
theorem dX2_least_11 : decode cX2_least 11 = .ok (.invokestatic 38, 3) := by decide +kernel
theorem dX2_least_14 : decode cX2_least 14 = .ok (.aload_n 0, 1) := by decide +kernel
theorem dX2_least_15 : decode cX2_least 15 = .ok (.getfield 21, 3) := by decide +kernel
theorem dX2_least_18 : decode cX2_least 18 = .ok (.iconst 0, 1) := by decide +kernel
theorem dX2_least_19 : decode cX2_least 19 = .ok (.invokestatic 38, 3) := by decide +kernel
theorem dX2_least_22 : decode cX2_least 22 = .ok (.lconst 0, 1) := by decide +kernel
theorem dX2_least_23 : decode cX2_least 23 = .ok (.lstore_n 3, 1) := by decide +kernel
theorem dX2_least_24 : decode cX2_least 24 = .ok (.iconst 0, 1) := by decide +kernel
theorem dX2_least_25 : decode cX2_least 25 = .ok (.istore 5, 2) := by decide +kernel
theorem dX2_least_27 : decode cX2_least 27 = .ok (.iload 5, 2) := by decide +kernel
theorem dX2_least_29 : decode cX2_least 29 = .ok (.aload_n 0, 1) := by decide +kernel
theorem dX2_least_30 : decode cX2_least 30 = .ok (.getfield 44, 3) := by decide +kernel
theorem dX2_least_33 : decode cX2_least 33 = .ok (.if_icmp .ge 25, 3) := by decide +kernel
theorem dX2_least_36 : decode cX2_least 36 = .ok (.lload_n 3, 1) := by decide +kernel
theorem dX2_least_37 : decode cX2_least 37 = .ok (.aload_n 0, 1) := by decide +kernel
theorem dX2_least_38 : decode cX2_least 38 = .ok (.iload 5, 2) := by decide +kernel
theorem dX2_least_40 : decode cX2_least 40 = .ok (.aload_n 1, 1) := by decide +kernel
theorem dX2_least_41 : decode cX2_least 41 = .ok (.iload_n 2, 1) := by decide +kernel
theorem dX2_least_42 : decode cX2_least 42 = .ok (.iload 5, 2) := by decide +kernel
theorem dX2_least_44 : decode cX2_least 44 = .ok (.invokevirtual 48, 3) := by decide +kernel
theorem dX2_least_47 : decode cX2_least 47 = .ok (.invokevirtual 54, 3) := by decide +kernel
theorem dX2_least_50 : decode cX2_least 50 = .ok (.ladd, 1) := by decide +kernel
theorem dX2_least_51 : decode cX2_least 51 = .ok (.lstore_n 3, 1) := by decide +kernel
theorem dX2_least_52 : decode cX2_least 52 = .ok (.iinc 5 1, 3) := by decide +kernel
theorem dX2_least_55 : decode cX2_least 55 = .ok (.goto (-28), 3) := by decide +kernel
theorem dX2_least_58 : decode cX2_least 58 = .ok (.lload_n 3, 1) := by decide +kernel
theorem dX2_least_59 : decode cX2_least 59 = .ok (.lreturn, 1) := by decide +kernel
theorem dX2_change_0 : decode cX2_change 0 = .ok (.iload_n 2, 1) := by decide +kernel
theorem dX2_change_1 : decode cX2_change 1 = .ok (.ifCond .ge 16, 3) := by decide +kernel
theorem dX2_change_4 : decode cX2_change 4 = .ok (.aload_n 0, 1) := by decide +kernel
theorem dX2_change_5 : decode cX2_change 5 = .ok (.iload_n 1, 1) := by decide +kernel
theorem dX2_change_6 : decode cX2_change 6 = .ok (.iconst 1, 1) := by decide +kernel
theorem dX2_change_7 : decode cX2_change 7 = .ok (.iadd, 1) := by decide +kernel
theorem dX2_change_8 : decode cX2_change 8 = .ok (.iload_n 1, 1) := by decide +kernel
theorem dX2_change_9 : decode cX2_change 9 = .ok (.iload_n 2, 1) := by decide +kernel
theorem dX2_change_10 : decode cX2_change 10 = .ok (.ineg, 1) := by decide +kernel
theorem dX2_change_11 : decode cX2_change 11 = .ok (.invokevirtual 58, 3) := by decide +kernel
theorem dX2_change_14 : decode cX2_change 14 = .ok (.goto 12, 3) := by decide +kernel
theorem dX2_change_17 : decode cX2_change 17 = .ok (.aload_n 0, 1) := by decide +kernel
theorem dX2_change_18 : decode cX2_change 18 = .ok (.iload_n 1, 1) := by decide +kernel
theorem dX2_change_19 : decode cX2_change 19 = .ok (.iload_n 1, 1) := by decide +kernel
theorem dX2_change_20 : decode cX2_change 20 = .ok (.iconst 1, 1) := by decide +kernel
theorem dX2_change_21 : decode cX2_change 21 = .ok (.iadd, 1) := by decide +kernel
theorem dX2_change_22 : decode cX2_change 22 = .ok (.iload_n 2, 1) := by decide +kernel
theorem dX2_change_23 : decode cX2_change 23 = .ok (.invokevirtual 58, 3) := by decide +kernel
theorem dX2_change_26 : decode cX2_change 26 = .ok (.lreturn, 1) := by decide +kernel
theorem dX2_priceOf_0 : decode cX2_priceOf 0 = .ok (.aload_n 0, 1) := by decide +kernel
theorem dX2_priceOf_1 : decode cX2_priceOf 1 = .ok (.aload_n 0, 1) := by decide +kernel
theorem dX2_priceOf_2 : decode cX2_priceOf 2 = .ok (.getfield 44, 3) := by decide +kernel
theorem dX2_priceOf_5 : decode cX2_priceOf 5 = .ok (.iconst (-1), 1) := by decide +kernel
theorem dX2_priceOf_6 : decode cX2_priceOf 6 = .ok (.invokevirtual 62, 3) := by decide +kernel
theorem dX2_priceOf_9 : decode cX2_priceOf 9 = .ok (.aload_n 0, 1) := by decide +kernel
theorem dX2_priceOf_10 : decode cX2_priceOf 10 = .ok (.getfield 21, 3) := by decide +kernel
theorem dX2_priceOf_13 : decode cX2_priceOf 13 = .ok (.iload_n 1, 1) := by decide +kernel
theorem dX2_priceOf_14 : decode cX2_priceOf 14 = .ok (.iaload, 1) := by decide +kernel
theorem dX2_priceOf_15 : decode cX2_priceOf 15 = .ok (.aload_n 0, 1) := by decide +kernel
theorem dX2_priceOf_16 : decode cX2_priceOf 16 = .ok (.getfield 21, 3) := by decide +kernel
theorem dX2_priceOf_19 : decode cX2_priceOf 19 = .ok (.iload_n 1, 1) := by decide +kernel
theorem dX2_priceOf_20 : decode cX2_priceOf 20 = .ok (.iconst 1, 1) := by decide +kernel
theorem dX2_priceOf_21 : decode cX2_priceOf 21 = .ok (.iadd, 1) := by decide +kernel
theorem dX2_priceOf_22 : decode cX2_priceOf 22 = .ok (.iaload, 1) := by decide +kernel
theorem dX2_priceOf_23 : decode cX2_priceOf 23 = .ok (.isub, 1) := by decide +kernel
theorem dX2_priceOf_24 : decode cX2_priceOf 24 = .ok (.ireturn, 1) := by decide +kernel
theorem dX2_layWays_0 : decode cX2_layWays 0 = .ok (.aload_n 0, 1) := by decide +kernel
theorem dX2_layWays_1 : decode cX2_layWays 1 = .ok (.aload_n 1, 1) := by decide +kernel
theorem dX2_layWays_2 : decode cX2_layWays 2 = .ok (.getfield 66, 3) := by decide +kernel
theorem dX2_layWays_5 : decode cX2_layWays 5 = .ok (.putfield 44, 3) := by decide +kernel
theorem dX2_layWays_8 : decode cX2_layWays 8 = .ok (.aload_n 0, 1) := by decide +kernel
theorem dX2_layWays_9 : decode cX2_layWays 9 = .ok (.iconst 0, 1) := by decide +kernel
theorem dX2_layWays_10 : decode cX2_layWays 10 = .ok (.putfield 69, 3) := by decide +kernel
theorem dX2_layWays_13 : decode cX2_layWays 13 = .ok (.aload_n 0, 1) := by decide +kernel
theorem dX2_layWays_14 : decode cX2_layWays 14 = .ok (.iconst (-1), 1) := by decide +kernel
theorem dX2_layWays_15 : decode cX2_layWays 15 = .ok (.iconst 0, 1) := by decide +kernel
theorem dX2_layWays_16 : decode cX2_layWays 16 = .ok (.invokevirtual 72, 3) := by decide +kernel
theorem dX2_layWays_19 : decode cX2_layWays 19 = .ok (.aload_n 0, 1) := by decide +kernel
theorem dX2_layWays_20 : decode cX2_layWays 20 = .ok (.iconst 1, 1) := by decide +kernel
theorem dX2_layWays_21 : decode cX2_layWays 21 = .ok (.aload_n 1, 1) := by decide +kernel
theorem dX2_layWays_22 : decode cX2_layWays 22 = .ok (.getfield 75, 3) := by decide +kernel
theorem dX2_layWays_25 : decode cX2_layWays 25 = .ok (.iload_n 2, 1) := by decide +kernel
theorem dX2_layWays_26 : decode cX2_layWays 26 = .ok (.iaload, 1) := by decide +kernel
theorem dX2_layWays_27 : decode cX2_layWays 27 = .ok (.invokevirtual 72, 3) := by decide +kernel
theorem dX2_layWays_30 : decode cX2_layWays 30 = .ok (.iconst 0, 1) := by decide +kernel
theorem dX2_layWays_31 : decode cX2_layWays 31 = .ok (.istore_n 3, 1) := by decide +kernel
theorem dX2_layWays_32 : decode cX2_layWays 32 = .ok (.iload_n 3, 1) := by decide +kernel
theorem dX2_layWays_33 : decode cX2_layWays 33 = .ok (.aload_n 1, 1) := by decide +kernel
theorem dX2_layWays_34 : decode cX2_layWays 34 = .ok (.getfield 78, 3) := by decide +kernel
theorem dX2_layWays_37 : decode cX2_layWays 37 = .ok (.if_icmp .ge 64, 3) := by decide +kernel
theorem dX2_layWays_40 : decode cX2_layWays 40 = .ok (.aload_n 1, 1) := by decide +kernel
theorem dX2_layWays_41 : decode cX2_layWays 41 = .ok (.getfield 81, 3) := by decide +kernel
theorem dX2_layWays_44 : decode cX2_layWays 44 = .ok (.iload_n 3, 1) := by decide +kernel
theorem dX2_layWays_45 : decode cX2_layWays 45 = .ok (.iaload, 1) := by decide +kernel
theorem dX2_layWays_46 : decode cX2_layWays 46 = .ok (.aload_n 0, 1) := by decide +kernel
theorem dX2_layWays_47 : decode cX2_layWays 47 = .ok (.getfield 44, 3) := by decide +kernel
theorem dX2_layWays_50 : decode cX2_layWays 50 = .ok (.invokestatic 84, 3) := by decide +kernel
theorem dX2_layWays_53 : decode cX2_layWays 53 = .ok (.istore 4, 2) := by decide +kernel
theorem dX2_layWays_55 : decode cX2_layWays 55 = .ok (.aload_n 1, 1) := by decide +kernel
theorem dX2_layWays_56 : decode cX2_layWays 56 = .ok (.getfield 89, 3) := by decide +kernel
theorem dX2_layWays_59 : decode cX2_layWays 59 = .ok (.iload_n 3, 1) := by decide +kernel
theorem dX2_layWays_60 : decode cX2_layWays 60 = .ok (.iaload, 1) := by decide +kernel
theorem dX2_layWays_61 : decode cX2_layWays 61 = .ok (.iload_n 2, 1) := by decide +kernel
theorem dX2_layWays_62 : decode cX2_layWays 62 = .ok (.if_icmp .ne 33, 3) := by decide +kernel
theorem dX2_layWays_65 : decode cX2_layWays 65 = .ok (.aload_n 1, 1) := by decide +kernel
theorem dX2_layWays_66 : decode cX2_layWays 66 = .ok (.getfield 92, 3) := by decide +kernel
theorem dX2_layWays_69 : decode cX2_layWays 69 = .ok (.iload_n 3, 1) := by decide +kernel
theorem dX2_layWays_70 : decode cX2_layWays 70 = .ok (.iaload, 1) := by decide +kernel
theorem dX2_layWays_71 : decode cX2_layWays 71 = .ok (.iload 4, 2) := by decide +kernel
theorem dX2_layWays_73 : decode cX2_layWays 73 = .ok (.aload_n 1, 1) := by decide +kernel
theorem dX2_layWays_74 : decode cX2_layWays 74 = .ok (.getfield 75, 3) := by decide +kernel
theorem dX2_layWays_77 : decode cX2_layWays 77 = .ok (.iload_n 2, 1) := by decide +kernel
theorem dX2_layWays_78 : decode cX2_layWays 78 = .ok (.iaload, 1) := by decide +kernel
theorem dX2_layWays_79 : decode cX2_layWays 79 = .ok (.imul, 1) := by decide +kernel
theorem dX2_layWays_80 : decode cX2_layWays 80 = .ok (.if_icmp .ge 15, 3) := by decide +kernel
theorem dX2_layWays_83 : decode cX2_layWays 83 = .ok (.aload_n 0, 1) := by decide +kernel
theorem dX2_layWays_84 : decode cX2_layWays 84 = .ok (.iload 4, 2) := by decide +kernel
theorem dX2_layWays_86 : decode cX2_layWays 86 = .ok (.aload_n 1, 1) := by decide +kernel
theorem dX2_layWays_87 : decode cX2_layWays 87 = .ok (.getfield 92, 3) := by decide +kernel
theorem dX2_layWays_90 : decode cX2_layWays 90 = .ok (.iload_n 3, 1) := by decide +kernel
theorem dX2_layWays_91 : decode cX2_layWays 91 = .ok (.iaload, 1) := by decide +kernel
theorem dX2_layWays_92 : decode cX2_layWays 92 = .ok (.invokevirtual 72, 3) := by decide +kernel
theorem dX2_layWays_95 : decode cX2_layWays 95 = .ok (.iinc 3 1, 3) := by decide +kernel
theorem dX2_layWays_98 : decode cX2_layWays 98 = .ok (.goto (-66), 3) := by decide +kernel
theorem dX2_layWays_101 : decode cX2_layWays 101 = .ok (.return_, 1) := by decide +kernel
theorem dX2_addWay_0 : decode cX2_addWay 0 = .ok (.aload_n 0, 1) := by decide +kernel
theorem dX2_addWay_1 : decode cX2_addWay 1 = .ok (.getfield 11, 3) := by decide +kernel
theorem dX2_addWay_4 : decode cX2_addWay 4 = .ok (.aload_n 0, 1) := by decide +kernel
theorem dX2_addWay_5 : decode cX2_addWay 5 = .ok (.getfield 69, 3) := by decide +kernel
theorem dX2_addWay_8 : decode cX2_addWay 8 = .ok (.iload_n 1, 1) := by decide +kernel
theorem dX2_addWay_9 : decode cX2_addWay 9 = .ok (.iastore, 1) := by decide +kernel
theorem dX2_addWay_10 : decode cX2_addWay 10 = .ok (.aload_n 0, 1) := by decide +kernel
theorem dX2_addWay_11 : decode cX2_addWay 11 = .ok (.getfield 15, 3) := by decide +kernel
theorem dX2_addWay_14 : decode cX2_addWay 14 = .ok (.aload_n 0, 1) := by decide +kernel
theorem dX2_addWay_15 : decode cX2_addWay 15 = .ok (.getfield 69, 3) := by decide +kernel
theorem dX2_addWay_18 : decode cX2_addWay 18 = .ok (.iload_n 2, 1) := by decide +kernel
theorem dX2_addWay_19 : decode cX2_addWay 19 = .ok (.iastore, 1) := by decide +kernel
theorem dX2_addWay_20 : decode cX2_addWay 20 = .ok (.aload_n 0, 1) := by decide +kernel
theorem dX2_addWay_21 : decode cX2_addWay 21 = .ok (.dup, 1) := by decide +kernel
theorem dX2_addWay_22 : decode cX2_addWay 22 = .ok (.getfield 69, 3) := by decide +kernel
theorem dX2_addWay_25 : decode cX2_addWay 25 = .ok (.iconst 1, 1) := by decide +kernel
theorem dX2_addWay_26 : decode cX2_addWay 26 = .ok (.iadd, 1) := by decide +kernel
theorem dX2_addWay_27 : decode cX2_addWay 27 = .ok (.putfield 69, 3) := by decide +kernel
theorem dX2_addWay_30 : decode cX2_addWay 30 = .ok (.return_, 1) := by decide +kernel
theorem dX2_carry_0 : decode cX2_carry 0 = .ok (.lconst 0, 1) := by decide +kernel
theorem dX2_carry_1 : decode cX2_carry 1 = .ok (.lstore 4, 2) := by decide +kernel
theorem dX2_carry_3 : decode cX2_carry 3 = .ok (.iload_n 3, 1) := by decide +kernel
theorem dX2_carry_4 : decode cX2_carry 4 = .ok (.istore 6, 2) := by decide +kernel
theorem dX2_carry_6 : decode cX2_carry 6 = .ok (.iconst 0, 1) := by decide +kernel
theorem dX2_carry_7 : decode cX2_carry 7 = .ok (.istore 7, 2) := by decide +kernel
theorem dX2_carry_9 : decode cX2_carry 9 = .ok (.iload 7, 2) := by decide +kernel
theorem dX2_carry_11 : decode cX2_carry 11 = .ok (.iload_n 3, 1) := by decide +kernel
theorem dX2_carry_12 : decode cX2_carry 12 = .ok (.if_icmp .ge 68, 3) := by decide +kernel
theorem dX2_carry_15 : decode cX2_carry 15 = .ok (.iload 6, 2) := by decide +kernel
theorem dX2_carry_17 : decode cX2_carry 17 = .ok (.ifCond .le 63, 3) := by decide +kernel
theorem dX2_carry_20 : decode cX2_carry 20 = .ok (.aload_n 0, 1) := by decide +kernel
theorem dX2_carry_21 : decode cX2_carry 21 = .ok (.iload_n 2, 1) := by decide +kernel
theorem dX2_carry_22 : decode cX2_carry 22 = .ok (.iload_n 1, 1) := by decide +kernel
theorem dX2_carry_23 : decode cX2_carry 23 = .ok (.invokevirtual 62, 3) := by decide +kernel
theorem dX2_carry_26 : decode cX2_carry 26 = .ok (.aload_n 0, 1) := by decide +kernel
theorem dX2_carry_27 : decode cX2_carry 27 = .ok (.iload_n 1, 1) := by decide +kernel
theorem dX2_carry_28 : decode cX2_carry 28 = .ok (.iload_n 2, 1) := by decide +kernel
theorem dX2_carry_29 : decode cX2_carry 29 = .ok (.iload 6, 2) := by decide +kernel
theorem dX2_carry_31 : decode cX2_carry 31 = .ok (.invokevirtual 95, 3) := by decide +kernel
theorem dX2_carry_34 : decode cX2_carry 34 = .ok (.istore 8, 2) := by decide +kernel
theorem dX2_carry_36 : decode cX2_carry 36 = .ok (.aload_n 0, 1) := by decide +kernel
theorem dX2_carry_37 : decode cX2_carry 37 = .ok (.iload_n 1, 1) := by decide +kernel
theorem dX2_carry_38 : decode cX2_carry 38 = .ok (.iload_n 2, 1) := by decide +kernel
theorem dX2_carry_39 : decode cX2_carry 39 = .ok (.iload 8, 2) := by decide +kernel
theorem dX2_carry_41 : decode cX2_carry 41 = .ok (.invokevirtual 99, 3) := by decide +kernel
theorem dX2_carry_44 : decode cX2_carry 44 = .ok (.lload 4, 2) := by decide +kernel
theorem dX2_carry_46 : decode cX2_carry 46 = .ok (.iload 8, 2) := by decide +kernel
theorem dX2_carry_48 : decode cX2_carry 48 = .ok (.i2l, 1) := by decide +kernel
theorem dX2_carry_49 : decode cX2_carry 49 = .ok (.aload_n 0, 1) := by decide +kernel
theorem dX2_carry_50 : decode cX2_carry 50 = .ok (.getfield 21, 3) := by decide +kernel
theorem dX2_carry_53 : decode cX2_carry 53 = .ok (.iload_n 1, 1) := by decide +kernel
theorem dX2_carry_54 : decode cX2_carry 54 = .ok (.iaload, 1) := by decide +kernel
theorem dX2_carry_55 : decode cX2_carry 55 = .ok (.aload_n 0, 1) := by decide +kernel
theorem dX2_carry_56 : decode cX2_carry 56 = .ok (.getfield 21, 3) := by decide +kernel
theorem dX2_carry_59 : decode cX2_carry 59 = .ok (.iload_n 2, 1) := by decide +kernel
theorem dX2_carry_60 : decode cX2_carry 60 = .ok (.iaload, 1) := by decide +kernel
theorem dX2_carry_61 : decode cX2_carry 61 = .ok (.isub, 1) := by decide +kernel
theorem dX2_carry_62 : decode cX2_carry 62 = .ok (.i2l, 1) := by decide +kernel
theorem dX2_carry_63 : decode cX2_carry 63 = .ok (.lmul, 1) := by decide +kernel
theorem dX2_carry_64 : decode cX2_carry 64 = .ok (.ladd, 1) := by decide +kernel
theorem dX2_carry_65 : decode cX2_carry 65 = .ok (.lstore 4, 2) := by decide +kernel
theorem dX2_carry_67 : decode cX2_carry 67 = .ok (.iload 6, 2) := by decide +kernel
theorem dX2_carry_69 : decode cX2_carry 69 = .ok (.iload 8, 2) := by decide +kernel
theorem dX2_carry_71 : decode cX2_carry 71 = .ok (.isub, 1) := by decide +kernel
theorem dX2_carry_72 : decode cX2_carry 72 = .ok (.istore 6, 2) := by decide +kernel
theorem dX2_carry_74 : decode cX2_carry 74 = .ok (.iinc 7 1, 3) := by decide +kernel
theorem dX2_carry_77 : decode cX2_carry 77 = .ok (.goto (-68), 3) := by decide +kernel
theorem dX2_carry_80 : decode cX2_carry 80 = .ok (.lload 4, 2) := by decide +kernel
theorem dX2_carry_82 : decode cX2_carry 82 = .ok (.lreturn, 1) := by decide +kernel
theorem dX2_raiseWorth_0 : decode cX2_raiseWorth 0 = .ok (.iconst 0, 1) := by decide +kernel
theorem dX2_raiseWorth_1 : decode cX2_raiseWorth 1 = .ok (.istore_n 3, 1) := by decide +kernel
theorem dX2_raiseWorth_2 : decode cX2_raiseWorth 2 = .ok (.iload_n 3, 1) := by decide +kernel
theorem dX2_raiseWorth_3 : decode cX2_raiseWorth 3 = .ok (.aload_n 0, 1) := by decide +kernel
theorem dX2_raiseWorth_4 : decode cX2_raiseWorth 4 = .ok (.getfield 44, 3) := by decide +kernel
theorem dX2_raiseWorth_7 : decode cX2_raiseWorth 7 = .ok (.if_icmp .gt 24, 3) := by decide +kernel
theorem dX2_raiseWorth_10 : decode cX2_raiseWorth 10 = .ok (.aload_n 0, 1) := by decide +kernel
theorem dX2_raiseWorth_11 : decode cX2_raiseWorth 11 = .ok (.getfield 24, 3) := by decide +kernel
theorem dX2_raiseWorth_14 : decode cX2_raiseWorth 14 = .ok (.iload_n 3, 1) := by decide +kernel
theorem dX2_raiseWorth_15 : decode cX2_raiseWorth 15 = .ok (.ldc 103, 2) := by decide +kernel
theorem dX2_raiseWorth_17 : decode cX2_raiseWorth 17 = .ok (.iastore, 1) := by decide +kernel
theorem dX2_raiseWorth_18 : decode cX2_raiseWorth 18 = .ok (.aload_n 0, 1) := by decide +kernel
theorem dX2_raiseWorth_19 : decode cX2_raiseWorth 19 = .ok (.getfield 30, 3) := by decide +kernel
theorem dX2_raiseWorth_22 : decode cX2_raiseWorth 22 = .ok (.iload_n 3, 1) := by decide +kernel
theorem dX2_raiseWorth_23 : decode cX2_raiseWorth 23 = .ok (.iconst 0, 1) := by decide +kernel
theorem dX2_raiseWorth_24 : decode cX2_raiseWorth 24 = .ok (.bastore, 1) := by decide +kernel
theorem dX2_raiseWorth_25 : decode cX2_raiseWorth 25 = .ok (.iinc 3 1, 3) := by decide +kernel
theorem dX2_raiseWorth_28 : decode cX2_raiseWorth 28 = .ok (.goto (-26), 3) := by decide +kernel
theorem dX2_raiseWorth_31 : decode cX2_raiseWorth 31 = .ok (.aload_n 0, 1) := by decide +kernel
theorem dX2_raiseWorth_32 : decode cX2_raiseWorth 32 = .ok (.getfield 24, 3) := by decide +kernel
theorem dX2_raiseWorth_35 : decode cX2_raiseWorth 35 = .ok (.iload_n 1, 1) := by decide +kernel
theorem dX2_raiseWorth_36 : decode cX2_raiseWorth 36 = .ok (.iconst 0, 1) := by decide +kernel
theorem dX2_raiseWorth_37 : decode cX2_raiseWorth 37 = .ok (.iastore, 1) := by decide +kernel
theorem dX2_raiseWorth_38 : decode cX2_raiseWorth 38 = .ok (.iload_n 1, 1) := by decide +kernel
theorem dX2_raiseWorth_39 : decode cX2_raiseWorth 39 = .ok (.istore_n 3, 1) := by decide +kernel
theorem dX2_raiseWorth_40 : decode cX2_raiseWorth 40 = .ok (.iconst 0, 1) := by decide +kernel
theorem dX2_raiseWorth_41 : decode cX2_raiseWorth 41 = .ok (.istore 4, 2) := by decide +kernel
theorem dX2_raiseWorth_43 : decode cX2_raiseWorth 43 = .ok (.iload 4, 2) := by decide +kernel
theorem dX2_raiseWorth_45 : decode cX2_raiseWorth 45 = .ok (.aload_n 0, 1) := by decide +kernel
theorem dX2_raiseWorth_46 : decode cX2_raiseWorth 46 = .ok (.getfield 44, 3) := by decide +kernel
theorem dX2_raiseWorth_49 : decode cX2_raiseWorth 49 = .ok (.if_icmp .gt 39, 3) := by decide +kernel
theorem dX2_raiseWorth_52 : decode cX2_raiseWorth 52 = .ok (.iload_n 3, 1) := by decide +kernel
theorem dX2_raiseWorth_53 : decode cX2_raiseWorth 53 = .ok (.iconst (-1), 1) := by decide +kernel
theorem dX2_raiseWorth_54 : decode cX2_raiseWorth 54 = .ok (.if_icmp .eq 34, 3) := by decide +kernel
theorem dX2_raiseWorth_57 : decode cX2_raiseWorth 57 = .ok (.aload_n 0, 1) := by decide +kernel
theorem dX2_raiseWorth_58 : decode cX2_raiseWorth 58 = .ok (.getfield 30, 3) := by decide +kernel
theorem dX2_raiseWorth_61 : decode cX2_raiseWorth 61 = .ok (.iload_n 3, 1) := by decide +kernel
theorem dX2_raiseWorth_62 : decode cX2_raiseWorth 62 = .ok (.iconst 1, 1) := by decide +kernel
theorem dX2_raiseWorth_63 : decode cX2_raiseWorth 63 = .ok (.bastore, 1) := by decide +kernel
theorem dX2_raiseWorth_64 : decode cX2_raiseWorth 64 = .ok (.iload_n 3, 1) := by decide +kernel
theorem dX2_raiseWorth_65 : decode cX2_raiseWorth 65 = .ok (.iload_n 2, 1) := by decide +kernel
theorem dX2_raiseWorth_66 : decode cX2_raiseWorth 66 = .ok (.if_icmp .ne 6, 3) := by decide +kernel
theorem dX2_raiseWorth_69 : decode cX2_raiseWorth 69 = .ok (.goto 19, 3) := by decide +kernel
theorem dX2_raiseWorth_72 : decode cX2_raiseWorth 72 = .ok (.aload_n 0, 1) := by decide +kernel
theorem dX2_raiseWorth_73 : decode cX2_raiseWorth 73 = .ok (.iload_n 3, 1) := by decide +kernel
theorem dX2_raiseWorth_74 : decode cX2_raiseWorth 74 = .ok (.invokevirtual 104, 3) := by decide +kernel
theorem dX2_raiseWorth_77 : decode cX2_raiseWorth 77 = .ok (.aload_n 0, 1) := by decide +kernel
theorem dX2_raiseWorth_78 : decode cX2_raiseWorth 78 = .ok (.invokevirtual 108, 3) := by decide +kernel
theorem dX2_raiseWorth_81 : decode cX2_raiseWorth 81 = .ok (.istore_n 3, 1) := by decide +kernel
theorem dX2_raiseWorth_82 : decode cX2_raiseWorth 82 = .ok (.iinc 4 1, 3) := by decide +kernel
theorem dX2_raiseWorth_85 : decode cX2_raiseWorth 85 = .ok (.goto (-42), 3) := by decide +kernel
theorem dX2_raiseWorth_88 : decode cX2_raiseWorth 88 = .ok (.iload_n 2, 1) := by decide +kernel
theorem dX2_raiseWorth_89 : decode cX2_raiseWorth 89 = .ok (.iconst (-1), 1) := by decide +kernel
theorem dX2_raiseWorth_90 : decode cX2_raiseWorth 90 = .ok (.if_icmp .ne 8, 3) := by decide +kernel
theorem dX2_raiseWorth_93 : decode cX2_raiseWorth 93 = .ok (.ldc 103, 2) := by decide +kernel
theorem dX2_raiseWorth_95 : decode cX2_raiseWorth 95 = .ok (.goto 9, 3) := by decide +kernel
theorem dX2_raiseWorth_98 : decode cX2_raiseWorth 98 = .ok (.aload_n 0, 1) := by decide +kernel
theorem dX2_raiseWorth_99 : decode cX2_raiseWorth 99 = .ok (.getfield 24, 3) := by decide +kernel
theorem dX2_raiseWorth_102 : decode cX2_raiseWorth 102 = .ok (.iload_n 2, 1) := by decide +kernel
theorem dX2_raiseWorth_103 : decode cX2_raiseWorth 103 = .ok (.iaload, 1) := by decide +kernel
theorem dX2_raiseWorth_104 : decode cX2_raiseWorth 104 = .ok (.istore 4, 2) := by decide +kernel
theorem dX2_raiseWorth_106 : decode cX2_raiseWorth 106 = .ok (.iconst 0, 1) := by decide +kernel
theorem dX2_raiseWorth_107 : decode cX2_raiseWorth 107 = .ok (.istore 5, 2) := by decide +kernel
theorem dX2_raiseWorth_109 : decode cX2_raiseWorth 109 = .ok (.iload 5, 2) := by decide +kernel
theorem dX2_raiseWorth_111 : decode cX2_raiseWorth 111 = .ok (.aload_n 0, 1) := by decide +kernel
theorem dX2_raiseWorth_112 : decode cX2_raiseWorth 112 = .ok (.getfield 44, 3) := by decide +kernel
theorem dX2_raiseWorth_115 : decode cX2_raiseWorth 115 = .ok (.if_icmp .gt 31, 3) := by decide +kernel
theorem dX2_raiseWorth_118 : decode cX2_raiseWorth 118 = .ok (.aload_n 0, 1) := by decide +kernel
theorem dX2_raiseWorth_119 : decode cX2_raiseWorth 119 = .ok (.getfield 21, 3) := by decide +kernel
theorem dX2_raiseWorth_122 : decode cX2_raiseWorth 122 = .ok (.iload 5, 2) := by decide +kernel
theorem dX2_raiseWorth_124 : decode cX2_raiseWorth 124 = .ok (.dup2, 1) := by decide +kernel
theorem dX2_raiseWorth_125 : decode cX2_raiseWorth 125 = .ok (.iaload, 1) := by decide +kernel
theorem dX2_raiseWorth_126 : decode cX2_raiseWorth 126 = .ok (.aload_n 0, 1) := by decide +kernel
theorem dX2_raiseWorth_127 : decode cX2_raiseWorth 127 = .ok (.getfield 24, 3) := by decide +kernel
theorem dX2_raiseWorth_130 : decode cX2_raiseWorth 130 = .ok (.iload 5, 2) := by decide +kernel
theorem dX2_raiseWorth_132 : decode cX2_raiseWorth 132 = .ok (.iaload, 1) := by decide +kernel
theorem dX2_raiseWorth_133 : decode cX2_raiseWorth 133 = .ok (.iload 4, 2) := by decide +kernel
theorem dX2_raiseWorth_135 : decode cX2_raiseWorth 135 = .ok (.invokestatic 84, 3) := by decide +kernel
theorem dX2_raiseWorth_138 : decode cX2_raiseWorth 138 = .ok (.iadd, 1) := by decide +kernel
theorem dX2_raiseWorth_139 : decode cX2_raiseWorth 139 = .ok (.iastore, 1) := by decide +kernel
theorem dX2_raiseWorth_140 : decode cX2_raiseWorth 140 = .ok (.iinc 5 1, 3) := by decide +kernel
theorem dX2_raiseWorth_143 : decode cX2_raiseWorth 143 = .ok (.goto (-34), 3) := by decide +kernel
theorem dX2_raiseWorth_146 : decode cX2_raiseWorth 146 = .ok (.return_, 1) := by decide +kernel
theorem dX2_nearest_0 : decode cX2_nearest 0 = .ok (.iconst (-1), 1) := by decide +kernel
theorem dX2_nearest_1 : decode cX2_nearest 1 = .ok (.istore_n 1, 1) := by decide +kernel
theorem dX2_nearest_2 : decode cX2_nearest 2 = .ok (.iconst 0, 1) := by decide +kernel
theorem dX2_nearest_3 : decode cX2_nearest 3 = .ok (.istore_n 2, 1) := by decide +kernel
theorem dX2_nearest_4 : decode cX2_nearest 4 = .ok (.iload_n 2, 1) := by decide +kernel
theorem dX2_nearest_5 : decode cX2_nearest 5 = .ok (.aload_n 0, 1) := by decide +kernel
theorem dX2_nearest_6 : decode cX2_nearest 6 = .ok (.getfield 44, 3) := by decide +kernel
theorem dX2_nearest_9 : decode cX2_nearest 9 = .ok (.if_icmp .gt 40, 3) := by decide +kernel
theorem dX2_nearest_12 : decode cX2_nearest 12 = .ok (.aload_n 0, 1) := by decide +kernel
theorem dX2_nearest_13 : decode cX2_nearest 13 = .ok (.getfield 30, 3) := by decide +kernel
theorem dX2_nearest_16 : decode cX2_nearest 16 = .ok (.iload_n 2, 1) := by decide +kernel
theorem dX2_nearest_17 : decode cX2_nearest 17 = .ok (.baload, 1) := by decide +kernel
theorem dX2_nearest_18 : decode cX2_nearest 18 = .ok (.ifCond .ne 25, 3) := by decide +kernel
theorem dX2_nearest_21 : decode cX2_nearest 21 = .ok (.iload_n 1, 1) := by decide +kernel
theorem dX2_nearest_22 : decode cX2_nearest 22 = .ok (.iconst (-1), 1) := by decide +kernel
theorem dX2_nearest_23 : decode cX2_nearest 23 = .ok (.if_icmp .eq 18, 3) := by decide +kernel
theorem dX2_nearest_26 : decode cX2_nearest 26 = .ok (.aload_n 0, 1) := by decide +kernel
theorem dX2_nearest_27 : decode cX2_nearest 27 = .ok (.getfield 24, 3) := by decide +kernel
theorem dX2_nearest_30 : decode cX2_nearest 30 = .ok (.iload_n 2, 1) := by decide +kernel
theorem dX2_nearest_31 : decode cX2_nearest 31 = .ok (.iaload, 1) := by decide +kernel
theorem dX2_nearest_32 : decode cX2_nearest 32 = .ok (.aload_n 0, 1) := by decide +kernel
theorem dX2_nearest_33 : decode cX2_nearest 33 = .ok (.getfield 24, 3) := by decide +kernel
theorem dX2_nearest_36 : decode cX2_nearest 36 = .ok (.iload_n 1, 1) := by decide +kernel
theorem dX2_nearest_37 : decode cX2_nearest 37 = .ok (.iaload, 1) := by decide +kernel
theorem dX2_nearest_38 : decode cX2_nearest 38 = .ok (.if_icmp .ge 5, 3) := by decide +kernel
theorem dX2_nearest_41 : decode cX2_nearest 41 = .ok (.iload_n 2, 1) := by decide +kernel
theorem dX2_nearest_42 : decode cX2_nearest 42 = .ok (.istore_n 1, 1) := by decide +kernel
theorem dX2_nearest_43 : decode cX2_nearest 43 = .ok (.iinc 2 1, 3) := by decide +kernel
theorem dX2_nearest_46 : decode cX2_nearest 46 = .ok (.goto (-42), 3) := by decide +kernel
theorem dX2_nearest_49 : decode cX2_nearest 49 = .ok (.iload_n 1, 1) := by decide +kernel
theorem dX2_nearest_50 : decode cX2_nearest 50 = .ok (.ireturn, 1) := by decide +kernel
theorem dX2_reachThose_0 : decode cX2_reachThose 0 = .ok (.iconst 0, 1) := by decide +kernel
theorem dX2_reachThose_1 : decode cX2_reachThose 1 = .ok (.istore_n 2, 1) := by decide +kernel
theorem dX2_reachThose_2 : decode cX2_reachThose 2 = .ok (.iload_n 2, 1) := by decide +kernel
theorem dX2_reachThose_3 : decode cX2_reachThose 3 = .ok (.aload_n 0, 1) := by decide +kernel
theorem dX2_reachThose_4 : decode cX2_reachThose 4 = .ok (.getfield 69, 3) := by decide +kernel
theorem dX2_reachThose_7 : decode cX2_reachThose 7 = .ok (.if_icmp .ge 67, 3) := by decide +kernel
theorem dX2_reachThose_10 : decode cX2_reachThose 10 = .ok (.aload_n 0, 1) := by decide +kernel
theorem dX2_reachThose_11 : decode cX2_reachThose 11 = .ok (.iload_n 1, 1) := by decide +kernel
theorem dX2_reachThose_12 : decode cX2_reachThose 12 = .ok (.aload_n 0, 1) := by decide +kernel
theorem dX2_reachThose_13 : decode cX2_reachThose 13 = .ok (.getfield 11, 3) := by decide +kernel
theorem dX2_reachThose_16 : decode cX2_reachThose 16 = .ok (.iload_n 2, 1) := by decide +kernel
theorem dX2_reachThose_17 : decode cX2_reachThose 17 = .ok (.iaload, 1) := by decide +kernel
theorem dX2_reachThose_18 : decode cX2_reachThose 18 = .ok (.isub, 1) := by decide +kernel
theorem dX2_reachThose_19 : decode cX2_reachThose 19 = .ok (.iload_n 1, 1) := by decide +kernel
theorem dX2_reachThose_20 : decode cX2_reachThose 20 = .ok (.aload_n 0, 1) := by decide +kernel
theorem dX2_reachThose_21 : decode cX2_reachThose 21 = .ok (.getfield 15, 3) := by decide +kernel
theorem dX2_reachThose_24 : decode cX2_reachThose 24 = .ok (.iload_n 2, 1) := by decide +kernel
theorem dX2_reachThose_25 : decode cX2_reachThose 25 = .ok (.iaload, 1) := by decide +kernel
theorem dX2_reachThose_26 : decode cX2_reachThose 26 = .ok (.iload_n 2, 1) := by decide +kernel
theorem dX2_reachThose_27 : decode cX2_reachThose 27 = .ok (.invokevirtual 112, 3) := by decide +kernel
theorem dX2_reachThose_30 : decode cX2_reachThose 30 = .ok (.aload_n 0, 1) := by decide +kernel
theorem dX2_reachThose_31 : decode cX2_reachThose 31 = .ok (.getfield 18, 3) := by decide +kernel
theorem dX2_reachThose_34 : decode cX2_reachThose 34 = .ok (.iload_n 2, 1) := by decide +kernel
theorem dX2_reachThose_35 : decode cX2_reachThose 35 = .ok (.bipush 41, 2) := by decide +kernel
theorem dX2_reachThose_37 : decode cX2_reachThose 37 = .ok (.imul, 1) := by decide +kernel
theorem dX2_reachThose_38 : decode cX2_reachThose 38 = .ok (.iload_n 1, 1) := by decide +kernel
theorem dX2_reachThose_39 : decode cX2_reachThose 39 = .ok (.iadd, 1) := by decide +kernel
theorem dX2_reachThose_40 : decode cX2_reachThose 40 = .ok (.iaload, 1) := by decide +kernel
theorem dX2_reachThose_41 : decode cX2_reachThose 41 = .ok (.ifCond .le 27, 3) := by decide +kernel
theorem dX2_reachThose_44 : decode cX2_reachThose 44 = .ok (.aload_n 0, 1) := by decide +kernel
theorem dX2_reachThose_45 : decode cX2_reachThose 45 = .ok (.iload_n 1, 1) := by decide +kernel
theorem dX2_reachThose_46 : decode cX2_reachThose 46 = .ok (.aload_n 0, 1) := by decide +kernel
theorem dX2_reachThose_47 : decode cX2_reachThose 47 = .ok (.getfield 11, 3) := by decide +kernel
theorem dX2_reachThose_50 : decode cX2_reachThose 50 = .ok (.iload_n 2, 1) := by decide +kernel
theorem dX2_reachThose_51 : decode cX2_reachThose 51 = .ok (.iaload, 1) := by decide +kernel
theorem dX2_reachThose_52 : decode cX2_reachThose 52 = .ok (.iadd, 1) := by decide +kernel
theorem dX2_reachThose_53 : decode cX2_reachThose 53 = .ok (.iload_n 1, 1) := by decide +kernel
theorem dX2_reachThose_54 : decode cX2_reachThose 54 = .ok (.aload_n 0, 1) := by decide +kernel
theorem dX2_reachThose_55 : decode cX2_reachThose 55 = .ok (.getfield 15, 3) := by decide +kernel
theorem dX2_reachThose_58 : decode cX2_reachThose 58 = .ok (.iload_n 2, 1) := by decide +kernel
theorem dX2_reachThose_59 : decode cX2_reachThose 59 = .ok (.iaload, 1) := by decide +kernel
theorem dX2_reachThose_60 : decode cX2_reachThose 60 = .ok (.ineg, 1) := by decide +kernel
theorem dX2_reachThose_61 : decode cX2_reachThose 61 = .ok (.iload_n 2, 1) := by decide +kernel
theorem dX2_reachThose_62 : decode cX2_reachThose 62 = .ok (.bipush 8, 2) := by decide +kernel
theorem dX2_reachThose_64 : decode cX2_reachThose 64 = .ok (.iadd, 1) := by decide +kernel
theorem dX2_reachThose_65 : decode cX2_reachThose 65 = .ok (.invokevirtual 112, 3) := by decide +kernel
theorem dX2_reachThose_68 : decode cX2_reachThose 68 = .ok (.iinc 2 1, 3) := by decide +kernel
theorem dX2_reachThose_71 : decode cX2_reachThose 71 = .ok (.goto (-69), 3) := by decide +kernel
theorem dX2_reachThose_74 : decode cX2_reachThose 74 = .ok (.return_, 1) := by decide +kernel
theorem dX2_reach_0 : decode cX2_reach 0 = .ok (.iload_n 1, 1) := by decide +kernel
theorem dX2_reach_1 : decode cX2_reach 1 = .ok (.ifCond .lt 20, 3) := by decide +kernel
theorem dX2_reach_4 : decode cX2_reach 4 = .ok (.iload_n 1, 1) := by decide +kernel
theorem dX2_reach_5 : decode cX2_reach 5 = .ok (.aload_n 0, 1) := by decide +kernel
theorem dX2_reach_6 : decode cX2_reach 6 = .ok (.getfield 44, 3) := by decide +kernel
theorem dX2_reach_9 : decode cX2_reach 9 = .ok (.if_icmp .gt 12, 3) := by decide +kernel
theorem dX2_reach_12 : decode cX2_reach 12 = .ok (.aload_n 0, 1) := by decide +kernel
theorem dX2_reach_13 : decode cX2_reach 13 = .ok (.getfield 30, 3) := by decide +kernel
theorem dX2_reach_16 : decode cX2_reach 16 = .ok (.iload_n 1, 1) := by decide +kernel
theorem dX2_reach_17 : decode cX2_reach 17 = .ok (.baload, 1) := by decide +kernel
theorem dX2_reach_18 : decode cX2_reach 18 = .ok (.ifCond .eq 4, 3) := by decide +kernel
theorem dX2_reach_21 : decode cX2_reach 21 = .ok (.return_, 1) := by decide +kernel
theorem dX2_reach_22 : decode cX2_reach 22 = .ok (.aload_n 0, 1) := by decide +kernel
theorem dX2_reach_23 : decode cX2_reach 23 = .ok (.getfield 24, 3) := by decide +kernel
theorem dX2_reach_26 : decode cX2_reach 26 = .ok (.iload_n 2, 1) := by decide +kernel
theorem dX2_reach_27 : decode cX2_reach 27 = .ok (.iaload, 1) := by decide +kernel
theorem dX2_reach_28 : decode cX2_reach 28 = .ok (.iload_n 3, 1) := by decide +kernel
theorem dX2_reach_29 : decode cX2_reach 29 = .ok (.iadd, 1) := by decide +kernel
theorem dX2_reach_30 : decode cX2_reach 30 = .ok (.aload_n 0, 1) := by decide +kernel
theorem dX2_reach_31 : decode cX2_reach 31 = .ok (.getfield 21, 3) := by decide +kernel
theorem dX2_reach_34 : decode cX2_reach 34 = .ok (.iload_n 1, 1) := by decide +kernel
theorem dX2_reach_35 : decode cX2_reach 35 = .ok (.iaload, 1) := by decide +kernel
theorem dX2_reach_36 : decode cX2_reach 36 = .ok (.isub, 1) := by decide +kernel
theorem dX2_reach_37 : decode cX2_reach 37 = .ok (.aload_n 0, 1) := by decide +kernel
theorem dX2_reach_38 : decode cX2_reach 38 = .ok (.getfield 21, 3) := by decide +kernel
theorem dX2_reach_41 : decode cX2_reach 41 = .ok (.iload_n 2, 1) := by decide +kernel
theorem dX2_reach_42 : decode cX2_reach 42 = .ok (.iaload, 1) := by decide +kernel
theorem dX2_reach_43 : decode cX2_reach 43 = .ok (.iadd, 1) := by decide +kernel
theorem dX2_reach_44 : decode cX2_reach 44 = .ok (.istore 5, 2) := by decide +kernel
theorem dX2_reach_46 : decode cX2_reach 46 = .ok (.iload 5, 2) := by decide +kernel
theorem dX2_reach_48 : decode cX2_reach 48 = .ok (.aload_n 0, 1) := by decide +kernel
theorem dX2_reach_49 : decode cX2_reach 49 = .ok (.getfield 24, 3) := by decide +kernel
theorem dX2_reach_52 : decode cX2_reach 52 = .ok (.iload_n 1, 1) := by decide +kernel
theorem dX2_reach_53 : decode cX2_reach 53 = .ok (.iaload, 1) := by decide +kernel
theorem dX2_reach_54 : decode cX2_reach 54 = .ok (.if_icmp .ge 19, 3) := by decide +kernel
theorem dX2_reach_57 : decode cX2_reach 57 = .ok (.aload_n 0, 1) := by decide +kernel
theorem dX2_reach_58 : decode cX2_reach 58 = .ok (.getfield 24, 3) := by decide +kernel
theorem dX2_reach_61 : decode cX2_reach 61 = .ok (.iload_n 1, 1) := by decide +kernel
theorem dX2_reach_62 : decode cX2_reach 62 = .ok (.iload 5, 2) := by decide +kernel
theorem dX2_reach_64 : decode cX2_reach 64 = .ok (.iastore, 1) := by decide +kernel
theorem dX2_reach_65 : decode cX2_reach 65 = .ok (.aload_n 0, 1) := by decide +kernel
theorem dX2_reach_66 : decode cX2_reach 66 = .ok (.getfield 27, 3) := by decide +kernel
theorem dX2_reach_69 : decode cX2_reach 69 = .ok (.iload_n 1, 1) := by decide +kernel
theorem dX2_reach_70 : decode cX2_reach 70 = .ok (.iload 4, 2) := by decide +kernel
theorem dX2_reach_72 : decode cX2_reach 72 = .ok (.iastore, 1) := by decide +kernel
theorem dX2_reach_73 : decode cX2_reach 73 = .ok (.return_, 1) := by decide +kernel
theorem dX2_takesBack_0 : decode cX2_takesBack 0 = .ok (.aload_n 0, 1) := by decide +kernel
theorem dX2_takesBack_1 : decode cX2_takesBack 1 = .ok (.getfield 27, 3) := by decide +kernel
theorem dX2_takesBack_4 : decode cX2_takesBack 4 = .ok (.iload_n 1, 1) := by decide +kernel
theorem dX2_takesBack_5 : decode cX2_takesBack 5 = .ok (.iaload, 1) := by decide +kernel
theorem dX2_takesBack_6 : decode cX2_takesBack 6 = .ok (.bipush 8, 2) := by decide +kernel
theorem dX2_takesBack_8 : decode cX2_takesBack 8 = .ok (.if_icmp .lt 7, 3) := by decide +kernel
theorem dX2_takesBack_11 : decode cX2_takesBack 11 = .ok (.iconst 1, 1) := by decide +kernel
theorem dX2_takesBack_12 : decode cX2_takesBack 12 = .ok (.goto 4, 3) := by decide +kernel
theorem dX2_takesBack_15 : decode cX2_takesBack 15 = .ok (.iconst 0, 1) := by decide +kernel
theorem dX2_takesBack_16 : decode cX2_takesBack 16 = .ok (.ireturn, 1) := by decide +kernel
theorem dX2_after_0 : decode cX2_after 0 = .ok (.aload_n 0, 1) := by decide +kernel
theorem dX2_after_1 : decode cX2_after 1 = .ok (.getfield 27, 3) := by decide +kernel
theorem dX2_after_4 : decode cX2_after 4 = .ok (.iload_n 1, 1) := by decide +kernel
theorem dX2_after_5 : decode cX2_after 5 = .ok (.iaload, 1) := by decide +kernel
theorem dX2_after_6 : decode cX2_after 6 = .ok (.istore_n 2, 1) := by decide +kernel
theorem dX2_after_7 : decode cX2_after 7 = .ok (.iload_n 2, 1) := by decide +kernel
theorem dX2_after_8 : decode cX2_after 8 = .ok (.bipush 8, 2) := by decide +kernel
theorem dX2_after_10 : decode cX2_after 10 = .ok (.if_icmp .lt 17, 3) := by decide +kernel
theorem dX2_after_13 : decode cX2_after 13 = .ok (.iload_n 1, 1) := by decide +kernel
theorem dX2_after_14 : decode cX2_after 14 = .ok (.aload_n 0, 1) := by decide +kernel
theorem dX2_after_15 : decode cX2_after 15 = .ok (.getfield 11, 3) := by decide +kernel
theorem dX2_after_18 : decode cX2_after 18 = .ok (.iload_n 2, 1) := by decide +kernel
theorem dX2_after_19 : decode cX2_after 19 = .ok (.bipush 8, 2) := by decide +kernel
theorem dX2_after_21 : decode cX2_after 21 = .ok (.isub, 1) := by decide +kernel
theorem dX2_after_22 : decode cX2_after 22 = .ok (.iaload, 1) := by decide +kernel
theorem dX2_after_23 : decode cX2_after 23 = .ok (.isub, 1) := by decide +kernel
theorem dX2_after_24 : decode cX2_after 24 = .ok (.goto 11, 3) := by decide +kernel
theorem dX2_after_27 : decode cX2_after 27 = .ok (.iload_n 1, 1) := by decide +kernel
theorem dX2_after_28 : decode cX2_after 28 = .ok (.aload_n 0, 1) := by decide +kernel
theorem dX2_after_29 : decode cX2_after 29 = .ok (.getfield 11, 3) := by decide +kernel
theorem dX2_after_32 : decode cX2_after 32 = .ok (.iload_n 2, 1) := by decide +kernel
theorem dX2_after_33 : decode cX2_after 33 = .ok (.iaload, 1) := by decide +kernel
theorem dX2_after_34 : decode cX2_after 34 = .ok (.iadd, 1) := by decide +kernel
theorem dX2_after_35 : decode cX2_after 35 = .ok (.ireturn, 1) := by decide +kernel
theorem dX2_roomOnPath_0 : decode cX2_roomOnPath 0 = .ok (.iload_n 3, 1) := by decide +kernel
theorem dX2_roomOnPath_1 : decode cX2_roomOnPath 1 = .ok (.istore 4, 2) := by decide +kernel
theorem dX2_roomOnPath_3 : decode cX2_roomOnPath 3 = .ok (.iload_n 1, 1) := by decide +kernel
theorem dX2_roomOnPath_4 : decode cX2_roomOnPath 4 = .ok (.istore 5, 2) := by decide +kernel
theorem dX2_roomOnPath_6 : decode cX2_roomOnPath 6 = .ok (.iconst 0, 1) := by decide +kernel
theorem dX2_roomOnPath_7 : decode cX2_roomOnPath 7 = .ok (.istore 6, 2) := by decide +kernel
theorem dX2_roomOnPath_9 : decode cX2_roomOnPath 9 = .ok (.iload 6, 2) := by decide +kernel
theorem dX2_roomOnPath_11 : decode cX2_roomOnPath 11 = .ok (.aload_n 0, 1) := by decide +kernel
theorem dX2_roomOnPath_12 : decode cX2_roomOnPath 12 = .ok (.getfield 44, 3) := by decide +kernel
theorem dX2_roomOnPath_15 : decode cX2_roomOnPath 15 = .ok (.if_icmp .ge 64, 3) := by decide +kernel
theorem dX2_roomOnPath_18 : decode cX2_roomOnPath 18 = .ok (.iload 5, 2) := by decide +kernel
theorem dX2_roomOnPath_20 : decode cX2_roomOnPath 20 = .ok (.iload_n 2, 1) := by decide +kernel
theorem dX2_roomOnPath_21 : decode cX2_roomOnPath 21 = .ok (.if_icmp .eq 58, 3) := by decide +kernel
theorem dX2_roomOnPath_24 : decode cX2_roomOnPath 24 = .ok (.aload_n 0, 1) := by decide +kernel
theorem dX2_roomOnPath_25 : decode cX2_roomOnPath 25 = .ok (.iload 5, 2) := by decide +kernel
theorem dX2_roomOnPath_27 : decode cX2_roomOnPath 27 = .ok (.invokevirtual 116, 3) := by decide +kernel
theorem dX2_roomOnPath_30 : decode cX2_roomOnPath 30 = .ok (.istore 7, 2) := by decide +kernel
theorem dX2_roomOnPath_32 : decode cX2_roomOnPath 32 = .ok (.aload_n 0, 1) := by decide +kernel
theorem dX2_roomOnPath_33 : decode cX2_roomOnPath 33 = .ok (.iload 5, 2) := by decide +kernel
theorem dX2_roomOnPath_35 : decode cX2_roomOnPath 35 = .ok (.invokevirtual 120, 3) := by decide +kernel
theorem dX2_roomOnPath_38 : decode cX2_roomOnPath 38 = .ok (.ifCond .eq 31, 3) := by decide +kernel
theorem dX2_roomOnPath_41 : decode cX2_roomOnPath 41 = .ok (.iload 4, 2) := by decide +kernel
theorem dX2_roomOnPath_43 : decode cX2_roomOnPath 43 = .ok (.aload_n 0, 1) := by decide +kernel
theorem dX2_roomOnPath_44 : decode cX2_roomOnPath 44 = .ok (.getfield 18, 3) := by decide +kernel
theorem dX2_roomOnPath_47 : decode cX2_roomOnPath 47 = .ok (.aload_n 0, 1) := by decide +kernel
theorem dX2_roomOnPath_48 : decode cX2_roomOnPath 48 = .ok (.getfield 27, 3) := by decide +kernel
theorem dX2_roomOnPath_51 : decode cX2_roomOnPath 51 = .ok (.iload 5, 2) := by decide +kernel
theorem dX2_roomOnPath_53 : decode cX2_roomOnPath 53 = .ok (.iaload, 1) := by decide +kernel
theorem dX2_roomOnPath_54 : decode cX2_roomOnPath 54 = .ok (.bipush 8, 2) := by decide +kernel
theorem dX2_roomOnPath_56 : decode cX2_roomOnPath 56 = .ok (.isub, 1) := by decide +kernel
theorem dX2_roomOnPath_57 : decode cX2_roomOnPath 57 = .ok (.bipush 41, 2) := by decide +kernel
theorem dX2_roomOnPath_59 : decode cX2_roomOnPath 59 = .ok (.imul, 1) := by decide +kernel
theorem dX2_roomOnPath_60 : decode cX2_roomOnPath 60 = .ok (.iload 7, 2) := by decide +kernel
theorem dX2_roomOnPath_62 : decode cX2_roomOnPath 62 = .ok (.iadd, 1) := by decide +kernel
theorem dX2_roomOnPath_63 : decode cX2_roomOnPath 63 = .ok (.iaload, 1) := by decide +kernel
theorem dX2_roomOnPath_64 : decode cX2_roomOnPath 64 = .ok (.invokestatic 84, 3) := by decide +kernel
theorem dX2_roomOnPath_67 : decode cX2_roomOnPath 67 = .ok (.istore 4, 2) := by decide +kernel
theorem dX2_roomOnPath_69 : decode cX2_roomOnPath 69 = .ok (.iload 7, 2) := by decide +kernel
theorem dX2_roomOnPath_71 : decode cX2_roomOnPath 71 = .ok (.istore 5, 2) := by decide +kernel
theorem dX2_roomOnPath_73 : decode cX2_roomOnPath 73 = .ok (.iinc 6 1, 3) := by decide +kernel
theorem dX2_roomOnPath_76 : decode cX2_roomOnPath 76 = .ok (.goto (-67), 3) := by decide +kernel
theorem dX2_roomOnPath_79 : decode cX2_roomOnPath 79 = .ok (.iload 4, 2) := by decide +kernel
theorem dX2_roomOnPath_81 : decode cX2_roomOnPath 81 = .ok (.ireturn, 1) := by decide +kernel
theorem dX2_sendOnPath_0 : decode cX2_sendOnPath 0 = .ok (.iload_n 1, 1) := by decide +kernel
theorem dX2_sendOnPath_1 : decode cX2_sendOnPath 1 = .ok (.istore 4, 2) := by decide +kernel
theorem dX2_sendOnPath_3 : decode cX2_sendOnPath 3 = .ok (.iconst 0, 1) := by decide +kernel
theorem dX2_sendOnPath_4 : decode cX2_sendOnPath 4 = .ok (.istore 5, 2) := by decide +kernel
theorem dX2_sendOnPath_6 : decode cX2_sendOnPath 6 = .ok (.iload 5, 2) := by decide +kernel
theorem dX2_sendOnPath_8 : decode cX2_sendOnPath 8 = .ok (.aload_n 0, 1) := by decide +kernel
theorem dX2_sendOnPath_9 : decode cX2_sendOnPath 9 = .ok (.getfield 44, 3) := by decide +kernel
theorem dX2_sendOnPath_12 : decode cX2_sendOnPath 12 = .ok (.if_icmp .ge 86, 3) := by decide +kernel
theorem dX2_sendOnPath_15 : decode cX2_sendOnPath 15 = .ok (.iload 4, 2) := by decide +kernel
theorem dX2_sendOnPath_17 : decode cX2_sendOnPath 17 = .ok (.iload_n 2, 1) := by decide +kernel
theorem dX2_sendOnPath_18 : decode cX2_sendOnPath 18 = .ok (.if_icmp .eq 80, 3) := by decide +kernel
theorem dX2_sendOnPath_21 : decode cX2_sendOnPath 21 = .ok (.aload_n 0, 1) := by decide +kernel
theorem dX2_sendOnPath_22 : decode cX2_sendOnPath 22 = .ok (.iload 4, 2) := by decide +kernel
theorem dX2_sendOnPath_24 : decode cX2_sendOnPath 24 = .ok (.invokevirtual 116, 3) := by decide +kernel
theorem dX2_sendOnPath_27 : decode cX2_sendOnPath 27 = .ok (.istore 6, 2) := by decide +kernel
theorem dX2_sendOnPath_29 : decode cX2_sendOnPath 29 = .ok (.aload_n 0, 1) := by decide +kernel
theorem dX2_sendOnPath_30 : decode cX2_sendOnPath 30 = .ok (.iload 4, 2) := by decide +kernel
theorem dX2_sendOnPath_32 : decode cX2_sendOnPath 32 = .ok (.invokevirtual 120, 3) := by decide +kernel
theorem dX2_sendOnPath_35 : decode cX2_sendOnPath 35 = .ok (.ifCond .eq 31, 3) := by decide +kernel
theorem dX2_sendOnPath_38 : decode cX2_sendOnPath 38 = .ok (.aload_n 0, 1) := by decide +kernel
theorem dX2_sendOnPath_39 : decode cX2_sendOnPath 39 = .ok (.getfield 18, 3) := by decide +kernel
theorem dX2_sendOnPath_42 : decode cX2_sendOnPath 42 = .ok (.aload_n 0, 1) := by decide +kernel
theorem dX2_sendOnPath_43 : decode cX2_sendOnPath 43 = .ok (.getfield 27, 3) := by decide +kernel
theorem dX2_sendOnPath_46 : decode cX2_sendOnPath 46 = .ok (.iload 4, 2) := by decide +kernel
theorem dX2_sendOnPath_48 : decode cX2_sendOnPath 48 = .ok (.iaload, 1) := by decide +kernel
theorem dX2_sendOnPath_49 : decode cX2_sendOnPath 49 = .ok (.bipush 8, 2) := by decide +kernel
theorem dX2_sendOnPath_51 : decode cX2_sendOnPath 51 = .ok (.isub, 1) := by decide +kernel
theorem dX2_sendOnPath_52 : decode cX2_sendOnPath 52 = .ok (.bipush 41, 2) := by decide +kernel
theorem dX2_sendOnPath_54 : decode cX2_sendOnPath 54 = .ok (.imul, 1) := by decide +kernel
theorem dX2_sendOnPath_55 : decode cX2_sendOnPath 55 = .ok (.iload 6, 2) := by decide +kernel
theorem dX2_sendOnPath_57 : decode cX2_sendOnPath 57 = .ok (.iadd, 1) := by decide +kernel
theorem dX2_sendOnPath_58 : decode cX2_sendOnPath 58 = .ok (.dup2, 1) := by decide +kernel
theorem dX2_sendOnPath_59 : decode cX2_sendOnPath 59 = .ok (.iaload, 1) := by decide +kernel
theorem dX2_sendOnPath_60 : decode cX2_sendOnPath 60 = .ok (.iload_n 3, 1) := by decide +kernel
theorem dX2_sendOnPath_61 : decode cX2_sendOnPath 61 = .ok (.isub, 1) := by decide +kernel
theorem dX2_sendOnPath_62 : decode cX2_sendOnPath 62 = .ok (.iastore, 1) := by decide +kernel
theorem dX2_sendOnPath_63 : decode cX2_sendOnPath 63 = .ok (.goto 25, 3) := by decide +kernel
theorem dX2_sendOnPath_66 : decode cX2_sendOnPath 66 = .ok (.aload_n 0, 1) := by decide +kernel
theorem dX2_sendOnPath_67 : decode cX2_sendOnPath 67 = .ok (.getfield 18, 3) := by decide +kernel
theorem dX2_sendOnPath_70 : decode cX2_sendOnPath 70 = .ok (.aload_n 0, 1) := by decide +kernel
theorem dX2_sendOnPath_71 : decode cX2_sendOnPath 71 = .ok (.getfield 27, 3) := by decide +kernel
theorem dX2_sendOnPath_74 : decode cX2_sendOnPath 74 = .ok (.iload 4, 2) := by decide +kernel
theorem dX2_sendOnPath_76 : decode cX2_sendOnPath 76 = .ok (.iaload, 1) := by decide +kernel
theorem dX2_sendOnPath_77 : decode cX2_sendOnPath 77 = .ok (.bipush 41, 2) := by decide +kernel
theorem dX2_sendOnPath_79 : decode cX2_sendOnPath 79 = .ok (.imul, 1) := by decide +kernel
theorem dX2_sendOnPath_80 : decode cX2_sendOnPath 80 = .ok (.iload 4, 2) := by decide +kernel
theorem dX2_sendOnPath_82 : decode cX2_sendOnPath 82 = .ok (.iadd, 1) := by decide +kernel
theorem dX2_sendOnPath_83 : decode cX2_sendOnPath 83 = .ok (.dup2, 1) := by decide +kernel
theorem dX2_sendOnPath_84 : decode cX2_sendOnPath 84 = .ok (.iaload, 1) := by decide +kernel
theorem dX2_sendOnPath_85 : decode cX2_sendOnPath 85 = .ok (.iload_n 3, 1) := by decide +kernel
theorem dX2_sendOnPath_86 : decode cX2_sendOnPath 86 = .ok (.iadd, 1) := by decide +kernel
theorem dX2_sendOnPath_87 : decode cX2_sendOnPath 87 = .ok (.iastore, 1) := by decide +kernel
theorem dX2_sendOnPath_88 : decode cX2_sendOnPath 88 = .ok (.iload 6, 2) := by decide +kernel
theorem dX2_sendOnPath_90 : decode cX2_sendOnPath 90 = .ok (.istore 4, 2) := by decide +kernel
theorem dX2_sendOnPath_92 : decode cX2_sendOnPath 92 = .ok (.iinc 5 1, 3) := by decide +kernel
theorem dX2_sendOnPath_95 : decode cX2_sendOnPath 95 = .ok (.goto (-89), 3) := by decide +kernel
theorem dX2_sendOnPath_98 : decode cX2_sendOnPath 98 = .ok (.return_, 1) := by decide +kernel
theorem dX3_init_0 : decode cX3_init 0 = .ok (.aload_n 0, 1) := by decide +kernel
theorem dX3_init_1 : decode cX3_init 1 = .ok (.invokespecial 3, 3) := by decide +kernel
theorem dX3_init_4 : decode cX3_init 4 = .ok (.aload_n 0, 1) := by decide +kernel
theorem dX3_init_5 : decode cX3_init 5 = .ok (.iconst 4, 1) := by decide +kernel
theorem dX3_init_6 : decode cX3_init 6 = .ok (.newarray .int, 2) := by decide +kernel
theorem dX3_init_8 : decode cX3_init 8 = .ok (.putfield 9, 3) := by decide +kernel
theorem dX3_init_11 : decode cX3_init 11 = .ok (.aload_n 0, 1) := by decide +kernel
theorem dX3_init_12 : decode cX3_init 12 = .ok (.iconst 4, 1) := by decide +kernel
theorem dX3_init_13 : decode cX3_init 13 = .ok (.newarray .int, 2) := by decide +kernel
theorem dX3_init_15 : decode cX3_init 15 = .ok (.putfield 15, 3) := by decide +kernel
theorem dX3_init_18 : decode cX3_init 18 = .ok (.aload_n 0, 1) := by decide +kernel
theorem dX3_init_19 : decode cX3_init 19 = .ok (.iconst 4, 1) := by decide +kernel
theorem dX3_init_20 : decode cX3_init 20 = .ok (.newarray .int, 2) := by decide +kernel
theorem dX3_init_22 : decode cX3_init 22 = .ok (.putfield 18, 3) := by decide +kernel
theorem dX3_init_25 : decode cX3_init 25 = .ok (.return_, 1) := by decide +kernel
theorem dX3_shareOf_0 : decode cX3_shareOf 0 = .ok (.aload_n 0, 1) := by decide +kernel
theorem dX3_shareOf_1 : decode cX3_shareOf 1 = .ok (.getfield 15, 3) := by decide +kernel
theorem dX3_shareOf_4 : decode cX3_shareOf 4 = .ok (.iconst 0, 1) := by decide +kernel
theorem dX3_shareOf_5 : decode cX3_shareOf 5 = .ok (.invokestatic 21, 3) := by decide +kernel
theorem dX3_shareOf_8 : decode cX3_shareOf 8 = .ok (.aload_n 0, 1) := by decide +kernel
theorem dX3_shareOf_9 : decode cX3_shareOf 9 = .ok (.getfield 18, 3) := by decide +kernel
theorem dX3_shareOf_12 : decode cX3_shareOf 12 = .ok (.iconst 0, 1) := by decide +kernel
theorem dX3_shareOf_13 : decode cX3_shareOf 13 = .ok (.invokestatic 21, 3) := by decide +kernel
theorem dX3_shareOf_16 : decode cX3_shareOf 16 = .ok (.iconst 0, 1) := by decide +kernel
theorem dX3_shareOf_17 : decode cX3_shareOf 17 = .ok (.istore 4, 2) := by decide +kernel
theorem dX3_shareOf_19 : decode cX3_shareOf 19 = .ok (.iload 4, 2) := by decide +kernel
theorem dX3_shareOf_21 : decode cX3_shareOf 21 = .ok (.aload_n 1, 1) := by decide +kernel
theorem dX3_shareOf_22 : decode cX3_shareOf 22 = .ok (.getfield 27, 3) := by decide +kernel
theorem dX3_shareOf_25 : decode cX3_shareOf 25 = .ok (.if_icmp .ge 17, 3) := by decide +kernel
theorem dX3_shareOf_28 : decode cX3_shareOf 28 = .ok (.aload_n 0, 1) := by decide +kernel
theorem dX3_shareOf_29 : decode cX3_shareOf 29 = .ok (.aload_n 1, 1) := by decide +kernel
theorem dX3_shareOf_30 : decode cX3_shareOf 30 = .ok (.iload_n 2, 1) := by decide +kernel
theorem dX3_shareOf_31 : decode cX3_shareOf 31 = .ok (.iload 4, 2) := by decide +kernel
theorem dX3_shareOf_33 : decode cX3_shareOf 33 = .ok (.invokevirtual 33, 3) := by decide +kernel
theorem dX3_shareOf_36 : decode cX3_shareOf 36 = .ok (.iinc 4 1, 3) := by decide +kernel
theorem dX3_shareOf_39 : decode cX3_shareOf 39 = .ok (.goto (-20), 3) := by decide +kernel
theorem dX3_shareOf_42 : decode cX3_shareOf 42 = .ok (.aload_n 0, 1) := by decide +kernel
theorem dX3_shareOf_43 : decode cX3_shareOf 43 = .ok (.getfield 18, 3) := by decide +kernel
theorem dX3_shareOf_46 : decode cX3_shareOf 46 = .ok (.iload_n 3, 1) := by decide +kernel
theorem dX3_shareOf_47 : decode cX3_shareOf 47 = .ok (.iaload, 1) := by decide +kernel
theorem dX3_shareOf_48 : decode cX3_shareOf 48 = .ok (.i2l, 1) := by decide +kernel
theorem dX3_shareOf_49 : decode cX3_shareOf 49 = .ok (.aload_n 1, 1) := by decide +kernel
theorem dX3_shareOf_50 : decode cX3_shareOf 50 = .ok (.getfield 37, 3) := by decide +kernel
theorem dX3_shareOf_53 : decode cX3_shareOf 53 = .ok (.iload_n 2, 1) := by decide +kernel
theorem dX3_shareOf_54 : decode cX3_shareOf 54 = .ok (.iaload, 1) := by decide +kernel
theorem dX3_shareOf_55 : decode cX3_shareOf 55 = .ok (.i2l, 1) := by decide +kernel
theorem dX3_shareOf_56 : decode cX3_shareOf 56 = .ok (.lmul, 1) := by decide +kernel
theorem dX3_shareOf_57 : decode cX3_shareOf 57 = .ok (.aload_n 0, 1) := by decide +kernel
theorem dX3_shareOf_58 : decode cX3_shareOf 58 = .ok (.aload_n 1, 1) := by decide +kernel
theorem dX3_shareOf_59 : decode cX3_shareOf 59 = .ok (.iload_n 2, 1) := by decide +kernel
theorem dX3_shareOf_60 : decode cX3_shareOf 60 = .ok (.invokevirtual 40, 3) := by decide +kernel
theorem dX3_shareOf_63 : decode cX3_shareOf 63 = .ok (.iload_n 3, 1) := by decide +kernel
theorem dX3_shareOf_64 : decode cX3_shareOf 64 = .ok (.invokevirtual 44, 3) := by decide +kernel
theorem dX3_shareOf_67 : decode cX3_shareOf 67 = .ok (.ladd, 1) := by decide +kernel
theorem dX3_shareOf_68 : decode cX3_shareOf 68 = .ok (.lreturn, 1) := by decide +kernel
theorem dX3_handOut_0 : decode cX3_handOut 0 = .ok (.iconst 0, 1) := by decide +kernel
theorem dX3_handOut_1 : decode cX3_handOut 1 = .ok (.istore 4, 2) := by decide +kernel
theorem dX3_handOut_3 : decode cX3_handOut 3 = .ok (.iload 4, 2) := by decide +kernel
theorem dX3_handOut_5 : decode cX3_handOut 5 = .ok (.iconst 4, 1) := by decide +kernel
theorem dX3_handOut_6 : decode cX3_handOut 6 = .ok (.if_icmp .ge 24, 3) := by decide +kernel
theorem dX3_handOut_9 : decode cX3_handOut 9 = .ok (.aload_n 0, 1) := by decide +kernel
theorem dX3_handOut_10 : decode cX3_handOut 10 = .ok (.getfield 9, 3) := by decide +kernel
theorem dX3_handOut_13 : decode cX3_handOut 13 = .ok (.iload 4, 2) := by decide +kernel
theorem dX3_handOut_15 : decode cX3_handOut 15 = .ok (.aload_n 1, 1) := by decide +kernel
theorem dX3_handOut_16 : decode cX3_handOut 16 = .ok (.iload 4, 2) := by decide +kernel
theorem dX3_handOut_18 : decode cX3_handOut 18 = .ok (.iload_n 2, 1) := by decide +kernel
theorem dX3_handOut_19 : decode cX3_handOut 19 = .ok (.iload_n 3, 1) := by decide +kernel
theorem dX3_handOut_20 : decode cX3_handOut 20 = .ok (.invokevirtual 48, 3) := by decide +kernel
theorem dX3_handOut_23 : decode cX3_handOut 23 = .ok (.iastore, 1) := by decide +kernel
theorem dX3_handOut_24 : decode cX3_handOut 24 = .ok (.iinc 4 1, 3) := by decide +kernel
theorem dX3_handOut_27 : decode cX3_handOut 27 = .ok (.goto (-24), 3) := by decide +kernel
theorem dX3_handOut_30 : decode cX3_handOut 30 = .ok (.aload_n 1, 1) := by decide +kernel
theorem dX3_handOut_31 : decode cX3_handOut 31 = .ok (.iload_n 2, 1) := by decide +kernel
theorem dX3_handOut_32 : decode cX3_handOut 32 = .ok (.iload_n 3, 1) := by decide +kernel
theorem dX3_handOut_33 : decode cX3_handOut 33 = .ok (.invokevirtual 52, 3) := by decide +kernel
theorem dX3_handOut_36 : decode cX3_handOut 36 = .ok (.aload_n 1, 1) := by decide +kernel
theorem dX3_handOut_37 : decode cX3_handOut 37 = .ok (.iload_n 2, 1) := by decide +kernel
theorem dX3_handOut_38 : decode cX3_handOut 38 = .ok (.iload_n 3, 1) := by decide +kernel
theorem dX3_handOut_39 : decode cX3_handOut 39 = .ok (.invokevirtual 56, 3) := by decide +kernel
theorem dX3_handOut_42 : decode cX3_handOut 42 = .ok (.invokestatic 59, 3) := by decide +kernel
theorem dX3_handOut_45 : decode cX3_handOut 45 = .ok (.istore 4, 2) := by decide +kernel
theorem dX3_handOut_47 : decode cX3_handOut 47 = .ok (.iconst 0, 1) := by decide +kernel
theorem dX3_handOut_48 : decode cX3_handOut 48 = .ok (.istore 5, 2) := by decide +kernel
theorem dX3_handOut_50 : decode cX3_handOut 50 = .ok (.iload 5, 2) := by decide +kernel
theorem dX3_handOut_52 : decode cX3_handOut 52 = .ok (.iload 4, 2) := by decide +kernel
theorem dX3_handOut_54 : decode cX3_handOut 54 = .ok (.if_icmp .ge 40, 3) := by decide +kernel
theorem dX3_handOut_57 : decode cX3_handOut 57 = .ok (.aload_n 0, 1) := by decide +kernel
theorem dX3_handOut_58 : decode cX3_handOut 58 = .ok (.getfield 9, 3) := by decide +kernel
theorem dX3_handOut_61 : decode cX3_handOut 61 = .ok (.invokestatic 64, 3) := by decide +kernel
theorem dX3_handOut_64 : decode cX3_handOut 64 = .ok (.istore 6, 2) := by decide +kernel
theorem dX3_handOut_66 : decode cX3_handOut 66 = .ok (.aload_n 0, 1) := by decide +kernel
theorem dX3_handOut_67 : decode cX3_handOut 67 = .ok (.getfield 9, 3) := by decide +kernel
theorem dX3_handOut_70 : decode cX3_handOut 70 = .ok (.iload 6, 2) := by decide +kernel
theorem dX3_handOut_72 : decode cX3_handOut 72 = .ok (.dup2, 1) := by decide +kernel
theorem dX3_handOut_73 : decode cX3_handOut 73 = .ok (.iaload, 1) := by decide +kernel
theorem dX3_handOut_74 : decode cX3_handOut 74 = .ok (.iconst 1, 1) := by decide +kernel
theorem dX3_handOut_75 : decode cX3_handOut 75 = .ok (.isub, 1) := by decide +kernel
theorem dX3_handOut_76 : decode cX3_handOut 76 = .ok (.iastore, 1) := by decide +kernel
theorem dX3_handOut_77 : decode cX3_handOut 77 = .ok (.aload_n 0, 1) := by decide +kernel
theorem dX3_handOut_78 : decode cX3_handOut 78 = .ok (.getfield 15, 3) := by decide +kernel
theorem dX3_handOut_81 : decode cX3_handOut 81 = .ok (.iload 6, 2) := by decide +kernel
theorem dX3_handOut_83 : decode cX3_handOut 83 = .ok (.dup2, 1) := by decide +kernel
theorem dX3_handOut_84 : decode cX3_handOut 84 = .ok (.iaload, 1) := by decide +kernel
theorem dX3_handOut_85 : decode cX3_handOut 85 = .ok (.iconst 1, 1) := by decide +kernel
theorem dX3_handOut_86 : decode cX3_handOut 86 = .ok (.iadd, 1) := by decide +kernel
theorem dX3_handOut_87 : decode cX3_handOut 87 = .ok (.iastore, 1) := by decide +kernel
theorem dX3_handOut_88 : decode cX3_handOut 88 = .ok (.iinc 5 1, 3) := by decide +kernel
theorem dX3_handOut_91 : decode cX3_handOut 91 = .ok (.goto (-41), 3) := by decide +kernel
theorem dX3_handOut_94 : decode cX3_handOut 94 = .ok (.iconst 0, 1) := by decide +kernel
theorem dX3_handOut_95 : decode cX3_handOut 95 = .ok (.istore 5, 2) := by decide +kernel
theorem dX3_handOut_97 : decode cX3_handOut 97 = .ok (.iload 5, 2) := by decide +kernel
theorem dX3_handOut_99 : decode cX3_handOut 99 = .ok (.iconst 4, 1) := by decide +kernel
theorem dX3_handOut_100 : decode cX3_handOut 100 = .ok (.if_icmp .ge 26, 3) := by decide +kernel
theorem dX3_handOut_103 : decode cX3_handOut 103 = .ok (.aload_n 0, 1) := by decide +kernel
theorem dX3_handOut_104 : decode cX3_handOut 104 = .ok (.getfield 18, 3) := by decide +kernel
theorem dX3_handOut_107 : decode cX3_handOut 107 = .ok (.iload 5, 2) := by decide +kernel
theorem dX3_handOut_109 : decode cX3_handOut 109 = .ok (.dup2, 1) := by decide +kernel
theorem dX3_handOut_110 : decode cX3_handOut 110 = .ok (.iaload, 1) := by decide +kernel
theorem dX3_handOut_111 : decode cX3_handOut 111 = .ok (.aload_n 0, 1) := by decide +kernel
theorem dX3_handOut_112 : decode cX3_handOut 112 = .ok (.getfield 9, 3) := by decide +kernel
theorem dX3_handOut_115 : decode cX3_handOut 115 = .ok (.iload 5, 2) := by decide +kernel
theorem dX3_handOut_117 : decode cX3_handOut 117 = .ok (.iaload, 1) := by decide +kernel
theorem dX3_handOut_118 : decode cX3_handOut 118 = .ok (.iadd, 1) := by decide +kernel
theorem dX3_handOut_119 : decode cX3_handOut 119 = .ok (.iastore, 1) := by decide +kernel
theorem dX3_handOut_120 : decode cX3_handOut 120 = .ok (.iinc 5 1, 3) := by decide +kernel
theorem dX3_handOut_123 : decode cX3_handOut 123 = .ok (.goto (-26), 3) := by decide +kernel
theorem dX3_handOut_126 : decode cX3_handOut 126 = .ok (.return_, 1) := by decide +kernel
theorem dX3_partOf_0 : decode cX3_partOf 0 = .ok (.lconst 0, 1) := by decide +kernel
theorem dX3_partOf_1 : decode cX3_partOf 1 = .ok (.lstore 4, 2) := by decide +kernel
theorem dX3_partOf_3 : decode cX3_partOf 3 = .ok (.iconst 0, 1) := by decide +kernel
theorem dX3_partOf_4 : decode cX3_partOf 4 = .ok (.istore 6, 2) := by decide +kernel
theorem dX3_partOf_6 : decode cX3_partOf 6 = .ok (.iload 6, 2) := by decide +kernel
theorem dX3_partOf_8 : decode cX3_partOf 8 = .ok (.iconst 4, 1) := by decide +kernel
theorem dX3_partOf_9 : decode cX3_partOf 9 = .ok (.if_icmp .ge 22, 3) := by decide +kernel
theorem dX3_partOf_12 : decode cX3_partOf 12 = .ok (.lload 4, 2) := by decide +kernel
theorem dX3_partOf_14 : decode cX3_partOf 14 = .ok (.aload_n 0, 1) := by decide +kernel
theorem dX3_partOf_15 : decode cX3_partOf 15 = .ok (.getfield 15, 3) := by decide +kernel
theorem dX3_partOf_18 : decode cX3_partOf 18 = .ok (.iload 6, 2) := by decide +kernel
theorem dX3_partOf_20 : decode cX3_partOf 20 = .ok (.iaload, 1) := by decide +kernel
theorem dX3_partOf_21 : decode cX3_partOf 21 = .ok (.i2l, 1) := by decide +kernel
theorem dX3_partOf_22 : decode cX3_partOf 22 = .ok (.ladd, 1) := by decide +kernel
theorem dX3_partOf_23 : decode cX3_partOf 23 = .ok (.lstore 4, 2) := by decide +kernel
theorem dX3_partOf_25 : decode cX3_partOf 25 = .ok (.iinc 6 1, 3) := by decide +kernel
theorem dX3_partOf_28 : decode cX3_partOf 28 = .ok (.goto (-22), 3) := by decide +kernel
theorem dX3_partOf_31 : decode cX3_partOf 31 = .ok (.lload_n 1, 1) := by decide +kernel
theorem dX3_partOf_32 : decode cX3_partOf 32 = .ok (.lstore 6, 2) := by decide +kernel
theorem dX3_partOf_34 : decode cX3_partOf 34 = .ok (.iconst 0, 1) := by decide +kernel
theorem dX3_partOf_35 : decode cX3_partOf 35 = .ok (.istore 8, 2) := by decide +kernel
theorem dX3_partOf_37 : decode cX3_partOf 37 = .ok (.iload 8, 2) := by decide +kernel
theorem dX3_partOf_39 : decode cX3_partOf 39 = .ok (.iconst 4, 1) := by decide +kernel
theorem dX3_partOf_40 : decode cX3_partOf 40 = .ok (.if_icmp .ge 27, 3) := by decide +kernel
theorem dX3_partOf_43 : decode cX3_partOf 43 = .ok (.lload 6, 2) := by decide +kernel
theorem dX3_partOf_45 : decode cX3_partOf 45 = .ok (.lload_n 1, 1) := by decide +kernel
theorem dX3_partOf_46 : decode cX3_partOf 46 = .ok (.aload_n 0, 1) := by decide +kernel
theorem dX3_partOf_47 : decode cX3_partOf 47 = .ok (.getfield 15, 3) := by decide +kernel
theorem dX3_partOf_50 : decode cX3_partOf 50 = .ok (.iload 8, 2) := by decide +kernel
theorem dX3_partOf_52 : decode cX3_partOf 52 = .ok (.iaload, 1) := by decide +kernel
theorem dX3_partOf_53 : decode cX3_partOf 53 = .ok (.lload 4, 2) := by decide +kernel
theorem dX3_partOf_55 : decode cX3_partOf 55 = .ok (.invokestatic 68, 3) := by decide +kernel
theorem dX3_partOf_58 : decode cX3_partOf 58 = .ok (.lsub, 1) := by decide +kernel
theorem dX3_partOf_59 : decode cX3_partOf 59 = .ok (.lstore 6, 2) := by decide +kernel
theorem dX3_partOf_61 : decode cX3_partOf 61 = .ok (.iinc 8 1, 3) := by decide +kernel
theorem dX3_partOf_64 : decode cX3_partOf 64 = .ok (.goto (-27), 3) := by decide +kernel
theorem dX3_partOf_67 : decode cX3_partOf 67 = .ok (.lload_n 1, 1) := by decide +kernel
theorem dX3_partOf_68 : decode cX3_partOf 68 = .ok (.aload_n 0, 1) := by decide +kernel
theorem dX3_partOf_69 : decode cX3_partOf 69 = .ok (.getfield 15, 3) := by decide +kernel
theorem dX3_partOf_72 : decode cX3_partOf 72 = .ok (.iload_n 3, 1) := by decide +kernel
theorem dX3_partOf_73 : decode cX3_partOf 73 = .ok (.iaload, 1) := by decide +kernel
theorem dX3_partOf_74 : decode cX3_partOf 74 = .ok (.lload 4, 2) := by decide +kernel
theorem dX3_partOf_76 : decode cX3_partOf 76 = .ok (.invokestatic 68, 3) := by decide +kernel
theorem dX3_partOf_79 : decode cX3_partOf 79 = .ok (.iload_n 3, 1) := by decide +kernel
theorem dX3_partOf_80 : decode cX3_partOf 80 = .ok (.aload_n 0, 1) := by decide +kernel
theorem dX3_partOf_81 : decode cX3_partOf 81 = .ok (.getfield 15, 3) := by decide +kernel
theorem dX3_partOf_84 : decode cX3_partOf 84 = .ok (.invokestatic 64, 3) := by decide +kernel
theorem dX3_partOf_87 : decode cX3_partOf 87 = .ok (.if_icmp .ne 8, 3) := by decide +kernel
theorem dX3_partOf_90 : decode cX3_partOf 90 = .ok (.lload 6, 2) := by decide +kernel
theorem dX3_partOf_92 : decode cX3_partOf 92 = .ok (.goto 4, 3) := by decide +kernel
theorem dX3_partOf_95 : decode cX3_partOf 95 = .ok (.lconst 0, 1) := by decide +kernel
theorem dX3_partOf_96 : decode cX3_partOf 96 = .ok (.ladd, 1) := by decide +kernel
theorem dX3_partOf_97 : decode cX3_partOf 97 = .ok (.lreturn, 1) := by decide +kernel
theorem dX3_cut_0 : decode cX3_cut 0 = .ok (.lload_n 3, 1) := by decide +kernel
theorem dX3_cut_1 : decode cX3_cut 1 = .ok (.lconst 0, 1) := by decide +kernel
theorem dX3_cut_2 : decode cX3_cut 2 = .ok (.lcmp, 1) := by decide +kernel
theorem dX3_cut_3 : decode cX3_cut 3 = .ok (.ifCond .le 12, 3) := by decide +kernel
theorem dX3_cut_6 : decode cX3_cut 6 = .ok (.lload_n 0, 1) := by decide +kernel
theorem dX3_cut_7 : decode cX3_cut 7 = .ok (.iload_n 2, 1) := by decide +kernel
theorem dX3_cut_8 : decode cX3_cut 8 = .ok (.i2l, 1) := by decide +kernel
theorem dX3_cut_9 : decode cX3_cut 9 = .ok (.lmul, 1) := by decide +kernel
theorem dX3_cut_10 : decode cX3_cut 10 = .ok (.lload_n 3, 1) := by decide +kernel
theorem dX3_cut_11 : decode cX3_cut 11 = .ok (.ldiv, 1) := by decide +kernel
theorem dX3_cut_12 : decode cX3_cut 12 = .ok (.goto 4, 3) := by decide +kernel
theorem dX3_cut_15 : decode cX3_cut 15 = .ok (.lconst 0, 1) := by decide +kernel
theorem dX3_cut_16 : decode cX3_cut 16 = .ok (.lreturn, 1) := by decide +kernel
theorem dX3_firstWithMost_0 : decode cX3_firstWithMost 0 = .ok (.iconst 0, 1) := by decide +kernel
theorem dX3_firstWithMost_1 : decode cX3_firstWithMost 1 = .ok (.istore_n 1, 1) := by decide +kernel
theorem dX3_firstWithMost_2 : decode cX3_firstWithMost 2 = .ok (.iconst 1, 1) := by decide +kernel
theorem dX3_firstWithMost_3 : decode cX3_firstWithMost 3 = .ok (.istore_n 2, 1) := by decide +kernel
theorem dX3_firstWithMost_4 : decode cX3_firstWithMost 4 = .ok (.iload_n 2, 1) := by decide +kernel
theorem dX3_firstWithMost_5 : decode cX3_firstWithMost 5 = .ok (.iconst 4, 1) := by decide +kernel
theorem dX3_firstWithMost_6 : decode cX3_firstWithMost 6 = .ok (.if_icmp .ge 20, 3) := by decide +kernel
theorem dX3_firstWithMost_9 : decode cX3_firstWithMost 9 = .ok (.aload_n 0, 1) := by decide +kernel
theorem dX3_firstWithMost_10 : decode cX3_firstWithMost 10 = .ok (.iload_n 2, 1) := by decide +kernel
theorem dX3_firstWithMost_11 : decode cX3_firstWithMost 11 = .ok (.iaload, 1) := by decide +kernel
theorem dX3_firstWithMost_12 : decode cX3_firstWithMost 12 = .ok (.aload_n 0, 1) := by decide +kernel
theorem dX3_firstWithMost_13 : decode cX3_firstWithMost 13 = .ok (.iload_n 1, 1) := by decide +kernel
theorem dX3_firstWithMost_14 : decode cX3_firstWithMost 14 = .ok (.iaload, 1) := by decide +kernel
theorem dX3_firstWithMost_15 : decode cX3_firstWithMost 15 = .ok (.if_icmp .le 5, 3) := by decide +kernel
theorem dX3_firstWithMost_18 : decode cX3_firstWithMost 18 = .ok (.iload_n 2, 1) := by decide +kernel
theorem dX3_firstWithMost_19 : decode cX3_firstWithMost 19 = .ok (.istore_n 1, 1) := by decide +kernel
theorem dX3_firstWithMost_20 : decode cX3_firstWithMost 20 = .ok (.iinc 2 1, 3) := by decide +kernel
theorem dX3_firstWithMost_23 : decode cX3_firstWithMost 23 = .ok (.goto (-19), 3) := by decide +kernel
theorem dX3_firstWithMost_26 : decode cX3_firstWithMost 26 = .ok (.iload_n 1, 1) := by decide +kernel
theorem dX3_firstWithMost_27 : decode cX3_firstWithMost 27 = .ok (.ireturn, 1) := by decide +kernel
theorem dJ7_rangeCheck_23922_0 : decode cJ7_rangeCheck_23922 0 = .ok (.iload_n 1, 1) := by decide +kernel
theorem dJ7_rangeCheck_23922_1 : decode cJ7_rangeCheck_23922 1 = .ok (.iload_n 2, 1) := by decide +kernel
theorem dJ7_rangeCheck_23922_2 : decode cJ7_rangeCheck_23922 2 = .ok (.if_icmp .le 44, 3) := by decide +kernel
theorem dJ7_rangeCheck_23922_5 : decode cJ7_rangeCheck_23922 5 = .ok (.new 43, 3) := by decide +kernel
theorem dJ7_rangeCheck_23922_8 : decode cJ7_rangeCheck_23922 8 = .ok (.dup, 1) := by decide +kernel
theorem dJ7_rangeCheck_23922_9 : decode cJ7_rangeCheck_23922 9 = .ok (.new 45, 3) := by decide +kernel
theorem dJ7_rangeCheck_23922_12 : decode cJ7_rangeCheck_23922 12 = .ok (.dup, 1) := by decide +kernel
theorem dJ7_rangeCheck_23922_13 : decode cJ7_rangeCheck_23922 13 = .ok (.invokespecial 47, 3) := by decide +kernel
theorem dJ7_rangeCheck_23922_16 : decode cJ7_rangeCheck_23922 16 = .ok (.ldc 48, 2) := by decide +kernel
theorem dJ7_rangeCheck_23922_18 : decode cJ7_rangeCheck_23922 18 = .ok (.invokevirtual 50, 3) := by decide +kernel
theorem dJ7_rangeCheck_23922_21 : decode cJ7_rangeCheck_23922 21 = .ok (.iload_n 1, 1) := by decide +kernel
theorem dJ7_rangeCheck_23922_22 : decode cJ7_rangeCheck_23922 22 = .ok (.invokevirtual 54, 3) := by decide +kernel
theorem dJ7_rangeCheck_23922_25 : decode cJ7_rangeCheck_23922 25 = .ok (.ldc 57, 2) := by decide +kernel
theorem dJ7_rangeCheck_23922_27 : decode cJ7_rangeCheck_23922 27 = .ok (.invokevirtual 50, 3) := by decide +kernel
theorem dJ7_rangeCheck_23922_30 : decode cJ7_rangeCheck_23922 30 = .ok (.iload_n 2, 1) := by decide +kernel
theorem dJ7_rangeCheck_23922_31 : decode cJ7_rangeCheck_23922 31 = .ok (.invokevirtual 54, 3) := by decide +kernel
theorem dJ7_rangeCheck_23922_34 : decode cJ7_rangeCheck_23922 34 = .ok (.ldc 59, 2) := by decide +kernel
theorem dJ7_rangeCheck_23922_36 : decode cJ7_rangeCheck_23922 36 = .ok (.invokevirtual 50, 3) := by decide +kernel
theorem dJ7_rangeCheck_23922_39 : decode cJ7_rangeCheck_23922 39 = .ok (.invokevirtual 61, 3) := by decide +kernel
theorem dJ7_rangeCheck_23922_42 : decode cJ7_rangeCheck_23922 42 = .ok (.invokespecial 65, 3) := by decide +kernel
theorem dJ7_rangeCheck_23922_45 : decode cJ7_rangeCheck_23922 45 = .ok (.athrow, 1) := by decide +kernel
theorem dJ7_rangeCheck_23922_46 : decode cJ7_rangeCheck_23922 46 = .ok (.iload_n 1, 1) := by decide +kernel
theorem dJ7_rangeCheck_23922_47 : decode cJ7_rangeCheck_23922 47 = .ok (.ifCond .ge 12, 3) := by decide +kernel
theorem dJ7_rangeCheck_23922_50 : decode cJ7_rangeCheck_23922 50 = .ok (.new 68, 3) := by decide +kernel
theorem dJ7_rangeCheck_23922_53 : decode cJ7_rangeCheck_23922 53 = .ok (.dup, 1) := by decide +kernel
theorem dJ7_rangeCheck_23922_54 : decode cJ7_rangeCheck_23922 54 = .ok (.iload_n 1, 1) := by decide +kernel
theorem dJ7_rangeCheck_23922_55 : decode cJ7_rangeCheck_23922 55 = .ok (.invokespecial 70, 3) := by decide +kernel
theorem dJ7_rangeCheck_23922_58 : decode cJ7_rangeCheck_23922 58 = .ok (.athrow, 1) := by decide +kernel
theorem dJ7_rangeCheck_23922_59 : decode cJ7_rangeCheck_23922 59 = .ok (.iload_n 2, 1) := by decide +kernel
theorem dJ7_rangeCheck_23922_60 : decode cJ7_rangeCheck_23922 60 = .ok (.iload_n 0, 1) := by decide +kernel
theorem dJ7_rangeCheck_23922_61 : decode cJ7_rangeCheck_23922 61 = .ok (.if_icmp .le 12, 3) := by decide +kernel
theorem dJ7_rangeCheck_23922_64 : decode cJ7_rangeCheck_23922 64 = .ok (.new 68, 3) := by decide +kernel
theorem dJ7_rangeCheck_23922_67 : decode cJ7_rangeCheck_23922 67 = .ok (.dup, 1) := by decide +kernel
theorem dJ7_rangeCheck_23922_68 : decode cJ7_rangeCheck_23922 68 = .ok (.iload_n 2, 1) := by decide +kernel
theorem dJ7_rangeCheck_23922_69 : decode cJ7_rangeCheck_23922 69 = .ok (.invokespecial 70, 3) := by decide +kernel
theorem dJ7_rangeCheck_23922_72 : decode cJ7_rangeCheck_23922 72 = .ok (.athrow, 1) := by decide +kernel
theorem dJ7_rangeCheck_23922_73 : decode cJ7_rangeCheck_23922 73 = .ok (.return_, 1) := by decide +kernel
theorem dJ7_fill_53178_0 : decode cJ7_fill_53178 0 = .ok (.iconst 0, 1) := by decide +kernel
theorem dJ7_fill_53178_1 : decode cJ7_fill_53178 1 = .ok (.istore_n 2, 1) := by decide +kernel
theorem dJ7_fill_53178_2 : decode cJ7_fill_53178 2 = .ok (.aload_n 0, 1) := by decide +kernel
theorem dJ7_fill_53178_3 : decode cJ7_fill_53178 3 = .ok (.arraylength, 1) := by decide +kernel
theorem dJ7_fill_53178_4 : decode cJ7_fill_53178 4 = .ok (.istore_n 3, 1) := by decide +kernel
theorem dJ7_fill_53178_5 : decode cJ7_fill_53178 5 = .ok (.iload_n 2, 1) := by decide +kernel
theorem dJ7_fill_53178_6 : decode cJ7_fill_53178 6 = .ok (.iload_n 3, 1) := by decide +kernel
theorem dJ7_fill_53178_7 : decode cJ7_fill_53178 7 = .ok (.if_icmp .ge 13, 3) := by decide +kernel
theorem dJ7_fill_53178_10 : decode cJ7_fill_53178 10 = .ok (.aload_n 0, 1) := by decide +kernel
theorem dJ7_fill_53178_11 : decode cJ7_fill_53178 11 = .ok (.iload_n 2, 1) := by decide +kernel
theorem dJ7_fill_53178_12 : decode cJ7_fill_53178 12 = .ok (.iload_n 1, 1) := by decide +kernel
theorem dJ7_fill_53178_13 : decode cJ7_fill_53178 13 = .ok (.iastore, 1) := by decide +kernel
theorem dJ7_fill_53178_14 : decode cJ7_fill_53178 14 = .ok (.iinc 2 1, 3) := by decide +kernel
theorem dJ7_fill_53178_17 : decode cJ7_fill_53178 17 = .ok (.goto (-12), 3) := by decide +kernel
theorem dJ7_fill_53178_20 : decode cJ7_fill_53178 20 = .ok (.return_, 1) := by decide +kernel
theorem dJ7_fill_fda19_0 : decode cJ7_fill_fda19 0 = .ok (.aload_n 0, 1) := by decide +kernel
theorem dJ7_fill_fda19_1 : decode cJ7_fill_fda19 1 = .ok (.arraylength, 1) := by decide +kernel
theorem dJ7_fill_fda19_2 : decode cJ7_fill_fda19 2 = .ok (.iload_n 1, 1) := by decide +kernel
theorem dJ7_fill_fda19_3 : decode cJ7_fill_fda19 3 = .ok (.iload_n 2, 1) := by decide +kernel
theorem dJ7_fill_fda19_4 : decode cJ7_fill_fda19 4 = .ok (.invokestatic 13, 3) := by decide +kernel
theorem dJ7_fill_fda19_7 : decode cJ7_fill_fda19 7 = .ok (.iload_n 1, 1) := by decide +kernel
theorem dJ7_fill_fda19_8 : decode cJ7_fill_fda19 8 = .ok (.istore 4, 2) := by decide +kernel
theorem dJ7_fill_fda19_10 : decode cJ7_fill_fda19 10 = .ok (.iload 4, 2) := by decide +kernel
theorem dJ7_fill_fda19_12 : decode cJ7_fill_fda19 12 = .ok (.iload_n 2, 1) := by decide +kernel
theorem dJ7_fill_fda19_13 : decode cJ7_fill_fda19 13 = .ok (.if_icmp .ge 14, 3) := by decide +kernel
theorem dJ7_fill_fda19_16 : decode cJ7_fill_fda19 16 = .ok (.aload_n 0, 1) := by decide +kernel
theorem dJ7_fill_fda19_17 : decode cJ7_fill_fda19 17 = .ok (.iload 4, 2) := by decide +kernel
theorem dJ7_fill_fda19_19 : decode cJ7_fill_fda19 19 = .ok (.iload_n 3, 1) := by decide +kernel
theorem dJ7_fill_fda19_20 : decode cJ7_fill_fda19 20 = .ok (.iastore, 1) := by decide +kernel
theorem dJ7_fill_fda19_21 : decode cJ7_fill_fda19 21 = .ok (.iinc 4 1, 3) := by decide +kernel
theorem dJ7_fill_fda19_24 : decode cJ7_fill_fda19 24 = .ok (.goto (-14), 3) := by decide +kernel
theorem dJ7_fill_fda19_27 : decode cJ7_fill_fda19 27 = .ok (.return_, 1) := by decide +kernel
theorem dJ9_max_7cf53_0 : decode cJ9_max_7cf53 0 = .ok (.iload_n 0, 1) := by decide +kernel
theorem dJ9_max_7cf53_1 : decode cJ9_max_7cf53 1 = .ok (.iload_n 1, 1) := by decide +kernel
theorem dJ9_max_7cf53_2 : decode cJ9_max_7cf53 2 = .ok (.if_icmp .lt 7, 3) := by decide +kernel
theorem dJ9_max_7cf53_5 : decode cJ9_max_7cf53 5 = .ok (.iload_n 0, 1) := by decide +kernel
theorem dJ9_max_7cf53_6 : decode cJ9_max_7cf53 6 = .ok (.goto 4, 3) := by decide +kernel
theorem dJ9_max_7cf53_9 : decode cJ9_max_7cf53 9 = .ok (.iload_n 1, 1) := by decide +kernel
theorem dJ9_max_7cf53_10 : decode cJ9_max_7cf53 10 = .ok (.ireturn, 1) := by decide +kernel
theorem dJ9_min_7cf53_0 : decode cJ9_min_7cf53 0 = .ok (.iload_n 0, 1) := by decide +kernel
theorem dJ9_min_7cf53_1 : decode cJ9_min_7cf53 1 = .ok (.iload_n 1, 1) := by decide +kernel
theorem dJ9_min_7cf53_2 : decode cJ9_min_7cf53 2 = .ok (.if_icmp .gt 7, 3) := by decide +kernel
theorem dJ9_min_7cf53_5 : decode cJ9_min_7cf53 5 = .ok (.iload_n 0, 1) := by decide +kernel
theorem dJ9_min_7cf53_6 : decode cJ9_min_7cf53 6 = .ok (.goto 4, 3) := by decide +kernel
theorem dJ9_min_7cf53_9 : decode cJ9_min_7cf53 9 = .ok (.iload_n 1, 1) := by decide +kernel
theorem dJ9_min_7cf53_10 : decode cJ9_min_7cf53 10 = .ok (.ireturn, 1) := by decide +kernel
end
section
theorem dX4_init_0 : decode cX4_init 0 = .ok (.aload_n 0, 1) := by decide +kernel
theorem dX4_init_1 : decode cX4_init 1 = .ok (.invokespecial 1, 3) := by decide +kernel
theorem dX4_init_4 : decode cX4_init 4 = .ok (.aload_n 0, 1) := by decide +kernel
theorem dX4_init_5 : decode cX4_init 5 = .ok (.new 7, 3) := by decide +kernel
theorem dX4_init_8 : decode cX4_init 8 = .ok (.dup, 1) := by decide +kernel
theorem dX4_init_9 : decode cX4_init 9 = .ok (.invokespecial 9, 3) := by decide +kernel
theorem dX4_init_12 : decode cX4_init 12 = .ok (.putfield 10, 3) := by decide +kernel
theorem dX4_init_15 : decode cX4_init 15 = .ok (.aload_n 0, 1) := by decide +kernel
theorem dX4_init_16 : decode cX4_init 16 = .ok (.iconst 3, 1) := by decide +kernel
theorem dX4_init_17 : decode cX4_init 17 = .ok (.anewarray 7, 3) := by decide +kernel
theorem dX4_init_20 : decode cX4_init 20 = .ok (.putfield 16, 3) := by decide +kernel
theorem dX4_init_23 : decode cX4_init 23 = .ok (.aload_n 0, 1) := by decide +kernel
theorem dX4_init_24 : decode cX4_init 24 = .ok (.new 20, 3) := by decide +kernel
theorem dX4_init_27 : decode cX4_init 27 = .ok (.dup, 1) := by decide +kernel
theorem dX4_init_28 : decode cX4_init 28 = .ok (.invokespecial 22, 3) := by decide +kernel
theorem dX4_init_31 : decode cX4_init 31 = .ok (.putfield 23, 3) := by decide +kernel
theorem dX4_init_34 : decode cX4_init 34 = .ok (.aload_n 0, 1) := by decide +kernel
theorem dX4_init_35 : decode cX4_init 35 = .ok (.new 27, 3) := by decide +kernel
theorem dX4_init_38 : decode cX4_init 38 = .ok (.dup, 1) := by decide +kernel
theorem dX4_init_39 : decode cX4_init 39 = .ok (.invokespecial 29, 3) := by decide +kernel
theorem dX4_init_42 : decode cX4_init 42 = .ok (.putfield 30, 3) := by decide +kernel
theorem dX4_init_45 : decode cX4_init 45 = .ok (.aload_n 0, 1) := by decide +kernel
theorem dX4_init_46 : decode cX4_init 46 = .ok (.new 34, 3) := by decide +kernel
theorem dX4_init_49 : decode cX4_init 49 = .ok (.dup, 1) := by decide +kernel
theorem dX4_init_50 : decode cX4_init 50 = .ok (.invokespecial 36, 3) := by decide +kernel
theorem dX4_init_53 : decode cX4_init 53 = .ok (.putfield 37, 3) := by decide +kernel
theorem dX4_init_56 : decode cX4_init 56 = .ok (.return_, 1) := by decide +kernel
theorem dX4_hours_0 : decode cX4_hours 0 = .ok (.iload_n 1, 1) := by decide +kernel
theorem dX4_hours_1 : decode cX4_hours 1 = .ok (.iconst 1, 1) := by decide +kernel
theorem dX4_hours_2 : decode cX4_hours 2 = .ok (.if_icmp .lt 9, 3) := by decide +kernel
theorem dX4_hours_5 : decode cX4_hours 5 = .ok (.iload_n 1, 1) := by decide +kernel
theorem dX4_hours_6 : decode cX4_hours 6 = .ok (.bipush 40, 2) := by decide +kernel
theorem dX4_hours_8 : decode cX4_hours 8 = .ok (.if_icmp .le 5, 3) := by decide +kernel
theorem dX4_hours_11 : decode cX4_hours 11 = .ok (.iconst 0, 1) := by decide +kernel
theorem dX4_hours_12 : decode cX4_hours 12 = .ok (.ireturn, 1) := by decide +kernel
theorem dX4_hours_13 : decode cX4_hours 13 = .ok (.aload_n 0, 1) := by decide +kernel
theorem dX4_hours_14 : decode cX4_hours 14 = .ok (.getfield 10, 3) := by decide +kernel
theorem dX4_hours_17 : decode cX4_hours 17 = .ok (.iload_n 1, 1) := by decide +kernel
theorem dX4_hours_18 : decode cX4_hours 18 = .ok (.invokevirtual 41, 3) := by decide +kernel
theorem dX4_hours_21 : decode cX4_hours 21 = .ok (.iconst 1, 1) := by decide +kernel
theorem dX4_hours_22 : decode cX4_hours 22 = .ok (.ireturn, 1) := by decide +kernel
theorem dX4_kind_0 : decode cX4_kind 0 = .ok (.aload_n 0, 1) := by decide +kernel
theorem dX4_kind_1 : decode cX4_kind 1 = .ok (.getfield 10, 3) := by decide +kernel
theorem dX4_kind_4 : decode cX4_kind 4 = .ok (.getfield 45, 3) := by decide +kernel
theorem dX4_kind_7 : decode cX4_kind 7 = .ok (.iconst 3, 1) := by decide +kernel
theorem dX4_kind_8 : decode cX4_kind 8 = .ok (.if_icmp .ge 15, 3) := by decide +kernel
theorem dX4_kind_11 : decode cX4_kind 11 = .ok (.iload_n 1, 1) := by decide +kernel
theorem dX4_kind_12 : decode cX4_kind 12 = .ok (.iconst 1, 1) := by decide +kernel
theorem dX4_kind_13 : decode cX4_kind 13 = .ok (.if_icmp .lt 10, 3) := by decide +kernel
theorem dX4_kind_16 : decode cX4_kind 16 = .ok (.iload_n 1, 1) := by decide +kernel
theorem dX4_kind_17 : decode cX4_kind 17 = .ok (.sipush 1000, 3) := by decide +kernel
theorem dX4_kind_20 : decode cX4_kind 20 = .ok (.if_icmp .le 5, 3) := by decide +kernel
theorem dX4_kind_23 : decode cX4_kind 23 = .ok (.iconst (-1), 1) := by decide +kernel
theorem dX4_kind_24 : decode cX4_kind 24 = .ok (.ireturn, 1) := by decide +kernel
theorem dX4_kind_25 : decode cX4_kind 25 = .ok (.aload_n 0, 1) := by decide +kernel
theorem dX4_kind_26 : decode cX4_kind 26 = .ok (.getfield 10, 3) := by decide +kernel
theorem dX4_kind_29 : decode cX4_kind 29 = .ok (.iload_n 1, 1) := by decide +kernel
theorem dX4_kind_30 : decode cX4_kind 30 = .ok (.invokevirtual 49, 3) := by decide +kernel
theorem dX4_kind_33 : decode cX4_kind 33 = .ok (.ireturn, 1) := by decide +kernel
theorem dX4_offer_0 : decode cX4_offer 0 = .ok (.aload_n 0, 1) := by decide +kernel
theorem dX4_offer_1 : decode cX4_offer 1 = .ok (.getfield 10, 3) := by decide +kernel
theorem dX4_offer_4 : decode cX4_offer 4 = .ok (.getfield 53, 3) := by decide +kernel
theorem dX4_offer_7 : decode cX4_offer 7 = .ok (.bipush 6, 2) := by decide +kernel
theorem dX4_offer_9 : decode cX4_offer 9 = .ok (.if_icmp .ge 14, 3) := by decide +kernel
theorem dX4_offer_12 : decode cX4_offer 12 = .ok (.aload_n 0, 1) := by decide +kernel
theorem dX4_offer_13 : decode cX4_offer 13 = .ok (.getfield 10, 3) := by decide +kernel
theorem dX4_offer_16 : decode cX4_offer 16 = .ok (.iload_n 1, 1) := by decide +kernel
theorem dX4_offer_17 : decode cX4_offer 17 = .ok (.invokevirtual 56, 3) := by decide +kernel
theorem dX4_offer_20 : decode cX4_offer 20 = .ok (.ifCond .ne 5, 3) := by decide +kernel
theorem dX4_offer_23 : decode cX4_offer 23 = .ok (.iconst (-1), 1) := by decide +kernel
theorem dX4_offer_24 : decode cX4_offer 24 = .ok (.ireturn, 1) := by decide +kernel
theorem dX4_offer_25 : decode cX4_offer 25 = .ok (.iload_n 2, 1) := by decide +kernel
theorem dX4_offer_26 : decode cX4_offer 26 = .ok (.iconst 1, 1) := by decide +kernel
theorem dX4_offer_27 : decode cX4_offer 27 = .ok (.if_icmp .lt 16, 3) := by decide +kernel
theorem dX4_offer_30 : decode cX4_offer 30 = .ok (.iload_n 2, 1) := by decide +kernel
theorem dX4_offer_31 : decode cX4_offer 31 = .ok (.bipush 40, 2) := by decide +kernel
theorem dX4_offer_33 : decode cX4_offer 33 = .ok (.if_icmp .gt 10, 3) := by decide +kernel
theorem dX4_offer_36 : decode cX4_offer 36 = .ok (.iload_n 3, 1) := by decide +kernel
theorem dX4_offer_37 : decode cX4_offer 37 = .ok (.invokestatic 60, 3) := by decide +kernel
theorem dX4_offer_40 : decode cX4_offer 40 = .ok (.ifCond .ne 5, 3) := by decide +kernel
theorem dX4_offer_43 : decode cX4_offer 43 = .ok (.iconst (-1), 1) := by decide +kernel
theorem dX4_offer_44 : decode cX4_offer 44 = .ok (.ireturn, 1) := by decide +kernel
theorem dX4_offer_45 : decode cX4_offer 45 = .ok (.aload_n 0, 1) := by decide +kernel
theorem dX4_offer_46 : decode cX4_offer 46 = .ok (.getfield 10, 3) := by decide +kernel
theorem dX4_offer_49 : decode cX4_offer 49 = .ok (.iload_n 1, 1) := by decide +kernel
theorem dX4_offer_50 : decode cX4_offer 50 = .ok (.iload_n 2, 1) := by decide +kernel
theorem dX4_offer_51 : decode cX4_offer 51 = .ok (.iload_n 3, 1) := by decide +kernel
theorem dX4_offer_52 : decode cX4_offer 52 = .ok (.invokevirtual 63, 3) := by decide +kernel
theorem dX4_offer_55 : decode cX4_offer 55 = .ok (.ireturn, 1) := by decide +kernel
theorem dX4_reprice_0 : decode cX4_reprice 0 = .ok (.aload_n 0, 1) := by decide +kernel
theorem dX4_reprice_1 : decode cX4_reprice 1 = .ok (.getfield 10, 3) := by decide +kernel
theorem dX4_reprice_4 : decode cX4_reprice 4 = .ok (.iload_n 1, 1) := by decide +kernel
theorem dX4_reprice_5 : decode cX4_reprice 5 = .ok (.invokevirtual 67, 3) := by decide +kernel
theorem dX4_reprice_8 : decode cX4_reprice 8 = .ok (.ifCond .eq 10, 3) := by decide +kernel
theorem dX4_reprice_11 : decode cX4_reprice 11 = .ok (.iload_n 2, 1) := by decide +kernel
theorem dX4_reprice_12 : decode cX4_reprice 12 = .ok (.invokestatic 60, 3) := by decide +kernel
theorem dX4_reprice_15 : decode cX4_reprice 15 = .ok (.ifCond .ne 5, 3) := by decide +kernel
theorem dX4_reprice_18 : decode cX4_reprice 18 = .ok (.iconst 0, 1) := by decide +kernel
theorem dX4_reprice_19 : decode cX4_reprice 19 = .ok (.ireturn, 1) := by decide +kernel
theorem dX4_reprice_20 : decode cX4_reprice 20 = .ok (.aload_n 0, 1) := by decide +kernel
theorem dX4_reprice_21 : decode cX4_reprice 21 = .ok (.getfield 10, 3) := by decide +kernel
theorem dX4_reprice_24 : decode cX4_reprice 24 = .ok (.getfield 70, 3) := by decide +kernel
theorem dX4_reprice_27 : decode cX4_reprice 27 = .ok (.iload_n 1, 1) := by decide +kernel
theorem dX4_reprice_28 : decode cX4_reprice 28 = .ok (.iload_n 2, 1) := by decide +kernel
theorem dX4_reprice_29 : decode cX4_reprice 29 = .ok (.iastore, 1) := by decide +kernel
theorem dX4_reprice_30 : decode cX4_reprice 30 = .ok (.iconst 1, 1) := by decide +kernel
theorem dX4_reprice_31 : decode cX4_reprice 31 = .ok (.ireturn, 1) := by decide +kernel
theorem dX4_need_0 : decode cX4_need 0 = .ok (.iload_n 1, 1) := by decide +kernel
theorem dX4_need_1 : decode cX4_need 1 = .ok (.invokestatic 74, 3) := by decide +kernel
theorem dX4_need_4 : decode cX4_need 4 = .ok (.ifCond .eq 25, 3) := by decide +kernel
theorem dX4_need_7 : decode cX4_need 7 = .ok (.aload_n 0, 1) := by decide +kernel
theorem dX4_need_8 : decode cX4_need 8 = .ok (.getfield 10, 3) := by decide +kernel
theorem dX4_need_11 : decode cX4_need 11 = .ok (.iload_n 2, 1) := by decide +kernel
theorem dX4_need_12 : decode cX4_need 12 = .ok (.invokevirtual 56, 3) := by decide +kernel
theorem dX4_need_15 : decode cX4_need 15 = .ok (.ifCond .eq 14, 3) := by decide +kernel
theorem dX4_need_18 : decode cX4_need 18 = .ok (.aload_n 0, 1) := by decide +kernel
theorem dX4_need_19 : decode cX4_need 19 = .ok (.getfield 10, 3) := by decide +kernel
theorem dX4_need_22 : decode cX4_need 22 = .ok (.iload_n 3, 1) := by decide +kernel
theorem dX4_need_23 : decode cX4_need 23 = .ok (.invokevirtual 77, 3) := by decide +kernel
theorem dX4_need_26 : decode cX4_need 26 = .ok (.ifCond .ne 5, 3) := by decide +kernel
theorem dX4_need_29 : decode cX4_need 29 = .ok (.iconst 0, 1) := by decide +kernel
theorem dX4_need_30 : decode cX4_need 30 = .ok (.ireturn, 1) := by decide +kernel
theorem dX4_need_31 : decode cX4_need 31 = .ok (.iload 4, 2) := by decide +kernel
theorem dX4_need_33 : decode cX4_need 33 = .ok (.ifCond .lt 10, 3) := by decide +kernel
theorem dX4_need_36 : decode cX4_need 36 = .ok (.iload 4, 2) := by decide +kernel
theorem dX4_need_38 : decode cX4_need 38 = .ok (.bipush 9, 2) := by decide +kernel
theorem dX4_need_40 : decode cX4_need 40 = .ok (.if_icmp .le 5, 3) := by decide +kernel
theorem dX4_need_43 : decode cX4_need 43 = .ok (.iconst 0, 1) := by decide +kernel
theorem dX4_need_44 : decode cX4_need 44 = .ok (.ireturn, 1) := by decide +kernel
theorem dX4_need_45 : decode cX4_need 45 = .ok (.aload_n 0, 1) := by decide +kernel
theorem dX4_need_46 : decode cX4_need 46 = .ok (.getfield 10, 3) := by decide +kernel
theorem dX4_need_49 : decode cX4_need 49 = .ok (.iload_n 1, 1) := by decide +kernel
theorem dX4_need_50 : decode cX4_need 50 = .ok (.iload_n 2, 1) := by decide +kernel
theorem dX4_need_51 : decode cX4_need 51 = .ok (.iload_n 3, 1) := by decide +kernel
theorem dX4_need_52 : decode cX4_need 52 = .ok (.iload 4, 2) := by decide +kernel
theorem dX4_need_54 : decode cX4_need 54 = .ok (.invokevirtual 80, 3) := by decide +kernel
theorem dX4_need_57 : decode cX4_need 57 = .ok (.iconst 1, 1) := by decide +kernel
theorem dX4_need_58 : decode cX4_need 58 = .ok (.ireturn, 1) := by decide +kernel
theorem dX4_needs_0 : decode cX4_needs 0 = .ok (.iload_n 1, 1) := by decide +kernel
theorem dX4_needs_1 : decode cX4_needs 1 = .ok (.invokestatic 74, 3) := by decide +kernel
theorem dX4_needs_4 : decode cX4_needs 4 = .ok (.ifCond .eq 14, 3) := by decide +kernel
theorem dX4_needs_7 : decode cX4_needs 7 = .ok (.aload_n 0, 1) := by decide +kernel
theorem dX4_needs_8 : decode cX4_needs 8 = .ok (.getfield 10, 3) := by decide +kernel
theorem dX4_needs_11 : decode cX4_needs 11 = .ok (.iload_n 2, 1) := by decide +kernel
theorem dX4_needs_12 : decode cX4_needs 12 = .ok (.invokevirtual 56, 3) := by decide +kernel
theorem dX4_needs_15 : decode cX4_needs 15 = .ok (.ifCond .ne 5, 3) := by decide +kernel
theorem dX4_needs_18 : decode cX4_needs 18 = .ok (.iconst 0, 1) := by decide +kernel
theorem dX4_needs_19 : decode cX4_needs 19 = .ok (.ireturn, 1) := by decide +kernel
theorem dX4_needs_20 : decode cX4_needs 20 = .ok (.iload_n 3, 1) := by decide +kernel
theorem dX4_needs_21 : decode cX4_needs 21 = .ok (.ifCond .lt 25, 3) := by decide +kernel
theorem dX4_needs_24 : decode cX4_needs 24 = .ok (.iload_n 3, 1) := by decide +kernel
theorem dX4_needs_25 : decode cX4_needs 25 = .ok (.aload_n 0, 1) := by decide +kernel
theorem dX4_needs_26 : decode cX4_needs 26 = .ok (.getfield 10, 3) := by decide +kernel
theorem dX4_needs_29 : decode cX4_needs 29 = .ok (.getfield 84, 3) := by decide +kernel
theorem dX4_needs_32 : decode cX4_needs 32 = .ok (.bipush 8, 2) := by decide +kernel
theorem dX4_needs_34 : decode cX4_needs 34 = .ok (.isub, 1) := by decide +kernel
theorem dX4_needs_35 : decode cX4_needs 35 = .ok (.if_icmp .gt 11, 3) := by decide +kernel
theorem dX4_needs_38 : decode cX4_needs 38 = .ok (.iload 4, 2) := by decide +kernel
theorem dX4_needs_40 : decode cX4_needs 40 = .ok (.invokestatic 87, 3) := by decide +kernel
theorem dX4_needs_43 : decode cX4_needs 43 = .ok (.ifCond .ne 5, 3) := by decide +kernel
theorem dX4_needs_46 : decode cX4_needs 46 = .ok (.iconst 0, 1) := by decide +kernel
theorem dX4_needs_47 : decode cX4_needs 47 = .ok (.ireturn, 1) := by decide +kernel
theorem dX4_needs_48 : decode cX4_needs 48 = .ok (.iconst 0, 1) := by decide +kernel
theorem dX4_needs_49 : decode cX4_needs 49 = .ok (.istore 5, 2) := by decide +kernel
theorem dX4_needs_51 : decode cX4_needs 51 = .ok (.iload 5, 2) := by decide +kernel
theorem dX4_needs_53 : decode cX4_needs 53 = .ok (.bipush 8, 2) := by decide +kernel
theorem dX4_needs_55 : decode cX4_needs 55 = .ok (.if_icmp .ge 29, 3) := by decide +kernel
theorem dX4_needs_58 : decode cX4_needs 58 = .ok (.aload_n 0, 1) := by decide +kernel
theorem dX4_needs_59 : decode cX4_needs 59 = .ok (.getfield 10, 3) := by decide +kernel
theorem dX4_needs_62 : decode cX4_needs 62 = .ok (.iload_n 1, 1) := by decide +kernel
theorem dX4_needs_63 : decode cX4_needs 63 = .ok (.iload_n 2, 1) := by decide +kernel
theorem dX4_needs_64 : decode cX4_needs 64 = .ok (.iload_n 3, 1) := by decide +kernel
theorem dX4_needs_65 : decode cX4_needs 65 = .ok (.iload 5, 2) := by decide +kernel
theorem dX4_needs_67 : decode cX4_needs 67 = .ok (.iadd, 1) := by decide +kernel
theorem dX4_needs_68 : decode cX4_needs 68 = .ok (.iload 4, 2) := by decide +kernel
theorem dX4_needs_70 : decode cX4_needs 70 = .ok (.iload 5, 2) := by decide +kernel
theorem dX4_needs_72 : decode cX4_needs 72 = .ok (.invokestatic 90, 3) := by decide +kernel
theorem dX4_needs_75 : decode cX4_needs 75 = .ok (.invokevirtual 80, 3) := by decide +kernel
theorem dX4_needs_78 : decode cX4_needs 78 = .ok (.iinc 5 1, 3) := by decide +kernel
theorem dX4_needs_81 : decode cX4_needs 81 = .ok (.goto (-30), 3) := by decide +kernel
theorem dX4_needs_84 : decode cX4_needs 84 = .ok (.iconst 1, 1) := by decide +kernel
theorem dX4_needs_85 : decode cX4_needs 85 = .ok (.ireturn, 1) := by decide +kernel
theorem dX4_buy_0 : decode cX4_buy 0 = .ok (.aload_n 0, 1) := by decide +kernel
theorem dX4_buy_1 : decode cX4_buy 1 = .ok (.getfield 10, 3) := by decide +kernel
theorem dX4_buy_4 : decode cX4_buy 4 = .ok (.iload_n 1, 1) := by decide +kernel
theorem dX4_buy_5 : decode cX4_buy 5 = .ok (.invokevirtual 67, 3) := by decide +kernel
theorem dX4_buy_8 : decode cX4_buy 8 = .ok (.ifCond .eq 24, 3) := by decide +kernel
theorem dX4_buy_11 : decode cX4_buy 11 = .ok (.aload_n 0, 1) := by decide +kernel
theorem dX4_buy_12 : decode cX4_buy 12 = .ok (.getfield 10, 3) := by decide +kernel
theorem dX4_buy_15 : decode cX4_buy 15 = .ok (.iload_n 2, 1) := by decide +kernel
theorem dX4_buy_16 : decode cX4_buy 16 = .ok (.invokevirtual 77, 3) := by decide +kernel
theorem dX4_buy_19 : decode cX4_buy 19 = .ok (.ifCond .eq 13, 3) := by decide +kernel
theorem dX4_buy_22 : decode cX4_buy 22 = .ok (.iload_n 3, 1) := by decide +kernel
theorem dX4_buy_23 : decode cX4_buy 23 = .ok (.ifCond .lt 9, 3) := by decide +kernel
theorem dX4_buy_26 : decode cX4_buy 26 = .ok (.iload_n 3, 1) := by decide +kernel
theorem dX4_buy_27 : decode cX4_buy 27 = .ok (.bipush 60, 2) := by decide +kernel
theorem dX4_buy_29 : decode cX4_buy 29 = .ok (.if_icmp .le 5, 3) := by decide +kernel
theorem dX4_buy_32 : decode cX4_buy 32 = .ok (.iconst 0, 1) := by decide +kernel
theorem dX4_buy_33 : decode cX4_buy 33 = .ok (.ireturn, 1) := by decide +kernel
theorem dX4_buy_34 : decode cX4_buy 34 = .ok (.aload_n 0, 1) := by decide +kernel
theorem dX4_buy_35 : decode cX4_buy 35 = .ok (.getfield 10, 3) := by decide +kernel
theorem dX4_buy_38 : decode cX4_buy 38 = .ok (.iload_n 1, 1) := by decide +kernel
theorem dX4_buy_39 : decode cX4_buy 39 = .ok (.iload_n 2, 1) := by decide +kernel
theorem dX4_buy_40 : decode cX4_buy 40 = .ok (.iload_n 3, 1) := by decide +kernel
theorem dX4_buy_41 : decode cX4_buy 41 = .ok (.invokevirtual 94, 3) := by decide +kernel
theorem dX4_buy_44 : decode cX4_buy 44 = .ok (.iconst 1, 1) := by decide +kernel
theorem dX4_buy_45 : decode cX4_buy 45 = .ok (.ireturn, 1) := by decide +kernel
theorem dX4_clear_0 : decode cX4_clear 0 = .ok (.aload_n 0, 1) := by decide +kernel
theorem dX4_clear_1 : decode cX4_clear 1 = .ok (.getfield 10, 3) := by decide +kernel
theorem dX4_clear_4 : decode cX4_clear 4 = .ok (.iload_n 1, 1) := by decide +kernel
theorem dX4_clear_5 : decode cX4_clear 5 = .ok (.invokevirtual 56, 3) := by decide +kernel
theorem dX4_clear_8 : decode cX4_clear 8 = .ok (.ifCond .ne 5, 3) := by decide +kernel
theorem dX4_clear_11 : decode cX4_clear 11 = .ok (.iconst 0, 1) := by decide +kernel
theorem dX4_clear_12 : decode cX4_clear 12 = .ok (.ireturn, 1) := by decide +kernel
theorem dX4_clear_13 : decode cX4_clear 13 = .ok (.aload_n 0, 1) := by decide +kernel
theorem dX4_clear_14 : decode cX4_clear 14 = .ok (.getfield 10, 3) := by decide +kernel
theorem dX4_clear_17 : decode cX4_clear 17 = .ok (.iload_n 1, 1) := by decide +kernel
theorem dX4_clear_18 : decode cX4_clear 18 = .ok (.invokevirtual 98, 3) := by decide +kernel
theorem dX4_clear_21 : decode cX4_clear 21 = .ok (.iconst 1, 1) := by decide +kernel
theorem dX4_clear_22 : decode cX4_clear 22 = .ok (.ireturn, 1) := by decide +kernel
theorem dX4_tell_0 : decode cX4_tell 0 = .ok (.aload_n 0, 1) := by decide +kernel
theorem dX4_tell_1 : decode cX4_tell 1 = .ok (.getfield 10, 3) := by decide +kernel
theorem dX4_tell_4 : decode cX4_tell 4 = .ok (.iload_n 1, 1) := by decide +kernel
theorem dX4_tell_5 : decode cX4_tell 5 = .ok (.invokevirtual 56, 3) := by decide +kernel
theorem dX4_tell_8 : decode cX4_tell 8 = .ok (.ifCond .eq 14, 3) := by decide +kernel
theorem dX4_tell_11 : decode cX4_tell 11 = .ok (.aload_n 0, 1) := by decide +kernel
theorem dX4_tell_12 : decode cX4_tell 12 = .ok (.getfield 10, 3) := by decide +kernel
theorem dX4_tell_15 : decode cX4_tell 15 = .ok (.iload_n 2, 1) := by decide +kernel
theorem dX4_tell_16 : decode cX4_tell 16 = .ok (.invokevirtual 77, 3) := by decide +kernel
theorem dX4_tell_19 : decode cX4_tell 19 = .ok (.ifCond .ne 5, 3) := by decide +kernel
theorem dX4_tell_22 : decode cX4_tell 22 = .ok (.iconst (-1), 1) := by decide +kernel
theorem dX4_tell_23 : decode cX4_tell 23 = .ok (.ireturn, 1) := by decide +kernel
theorem dX4_tell_24 : decode cX4_tell 24 = .ok (.iload_n 3, 1) := by decide +kernel
theorem dX4_tell_25 : decode cX4_tell 25 = .ok (.tableswitch 85 0 3 #[31, 41, 51, 61], 31) := by decide +kernel
theorem dX4_tell_56 : decode cX4_tell 56 = .ok (.aload_n 0, 1) := by decide +kernel
theorem dX4_tell_57 : decode cX4_tell 57 = .ok (.getfield 10, 3) := by decide +kernel
theorem dX4_tell_60 : decode cX4_tell 60 = .ok (.iload_n 1, 1) := by decide +kernel
theorem dX4_tell_61 : decode cX4_tell 61 = .ok (.iload_n 2, 1) := by decide +kernel
theorem dX4_tell_62 : decode cX4_tell 62 = .ok (.invokevirtual 101, 3) := by decide +kernel
theorem dX4_tell_65 : decode cX4_tell 65 = .ok (.ireturn, 1) := by decide +kernel
theorem dX4_tell_66 : decode cX4_tell 66 = .ok (.aload_n 0, 1) := by decide +kernel
theorem dX4_tell_67 : decode cX4_tell 67 = .ok (.getfield 10, 3) := by decide +kernel
theorem dX4_tell_70 : decode cX4_tell 70 = .ok (.iload_n 1, 1) := by decide +kernel
theorem dX4_tell_71 : decode cX4_tell 71 = .ok (.iload_n 2, 1) := by decide +kernel
theorem dX4_tell_72 : decode cX4_tell 72 = .ok (.invokevirtual 104, 3) := by decide +kernel
theorem dX4_tell_75 : decode cX4_tell 75 = .ok (.ireturn, 1) := by decide +kernel
theorem dX4_tell_76 : decode cX4_tell 76 = .ok (.aload_n 0, 1) := by decide +kernel
theorem dX4_tell_77 : decode cX4_tell 77 = .ok (.getfield 10, 3) := by decide +kernel
theorem dX4_tell_80 : decode cX4_tell 80 = .ok (.iload_n 1, 1) := by decide +kernel
theorem dX4_tell_81 : decode cX4_tell 81 = .ok (.iload_n 2, 1) := by decide +kernel
theorem dX4_tell_82 : decode cX4_tell 82 = .ok (.invokevirtual 107, 3) := by decide +kernel
theorem dX4_tell_85 : decode cX4_tell 85 = .ok (.ireturn, 1) := by decide +kernel
theorem dX4_tell_86 : decode cX4_tell 86 = .ok (.iconst 0, 1) := by decide +kernel
theorem dX4_tell_87 : decode cX4_tell 87 = .ok (.aload_n 0, 1) := by decide +kernel
theorem dX4_tell_88 : decode cX4_tell 88 = .ok (.getfield 10, 3) := by decide +kernel
theorem dX4_tell_91 : decode cX4_tell 91 = .ok (.iload_n 1, 1) := by decide +kernel
theorem dX4_tell_92 : decode cX4_tell 92 = .ok (.iload_n 2, 1) := by decide +kernel
theorem dX4_tell_93 : decode cX4_tell 93 = .ok (.invokevirtual 104, 3) := by decide +kernel
theorem dX4_tell_96 : decode cX4_tell 96 = .ok (.aload_n 0, 1) := by decide +kernel
theorem dX4_tell_97 : decode cX4_tell 97 = .ok (.getfield 10, 3) := by decide +kernel
theorem dX4_tell_100 : decode cX4_tell 100 = .ok (.iload_n 1, 1) := by decide +kernel
theorem dX4_tell_101 : decode cX4_tell 101 = .ok (.iload_n 2, 1) := by decide +kernel
theorem dX4_tell_102 : decode cX4_tell 102 = .ok (.invokevirtual 101, 3) := by decide +kernel
theorem dX4_tell_105 : decode cX4_tell 105 = .ok (.isub, 1) := by decide +kernel
theorem dX4_tell_106 : decode cX4_tell 106 = .ok (.invokestatic 110, 3) := by decide +kernel
theorem dX4_tell_109 : decode cX4_tell 109 = .ok (.ireturn, 1) := by decide +kernel
theorem dX4_tell_110 : decode cX4_tell 110 = .ok (.aload_n 0, 1) := by decide +kernel
theorem dX4_tell_111 : decode cX4_tell 111 = .ok (.iload_n 1, 1) := by decide +kernel
theorem dX4_tell_112 : decode cX4_tell 112 = .ok (.iload_n 2, 1) := by decide +kernel
theorem dX4_tell_113 : decode cX4_tell 113 = .ok (.iload_n 3, 1) := by decide +kernel
theorem dX4_tell_114 : decode cX4_tell 114 = .ok (.invokevirtual 115, 3) := by decide +kernel
theorem dX4_tell_117 : decode cX4_tell 117 = .ok (.ireturn, 1) := by decide +kernel
theorem dX4_cost_0 : decode cX4_cost 0 = .ok (.aload_n 0, 1) := by decide +kernel
theorem dX4_cost_1 : decode cX4_cost 1 = .ok (.getfield 10, 3) := by decide +kernel
theorem dX4_cost_4 : decode cX4_cost 4 = .ok (.iload_n 1, 1) := by decide +kernel
theorem dX4_cost_5 : decode cX4_cost 5 = .ok (.invokevirtual 56, 3) := by decide +kernel
theorem dX4_cost_8 : decode cX4_cost 8 = .ok (.ifCond .eq 14, 3) := by decide +kernel
theorem dX4_cost_11 : decode cX4_cost 11 = .ok (.aload_n 0, 1) := by decide +kernel
theorem dX4_cost_12 : decode cX4_cost 12 = .ok (.getfield 10, 3) := by decide +kernel
theorem dX4_cost_15 : decode cX4_cost 15 = .ok (.iload_n 1, 1) := by decide +kernel
theorem dX4_cost_16 : decode cX4_cost 16 = .ok (.invokevirtual 118, 3) := by decide +kernel
theorem dX4_cost_19 : decode cX4_cost 19 = .ok (.goto 6, 3) := by decide +kernel
theorem dX4_cost_22 : decode cX4_cost 22 = .ok (.ldc2_w 122, 3) := by decide +kernel
theorem dX4_cost_25 : decode cX4_cost 25 = .ok (.lreturn, 1) := by decide +kernel
theorem dX4_best_0 : decode cX4_best 0 = .ok (.aload_n 0, 1) := by decide +kernel
theorem dX4_best_1 : decode cX4_best 1 = .ok (.getfield 10, 3) := by decide +kernel
theorem dX4_best_4 : decode cX4_best 4 = .ok (.iload_n 1, 1) := by decide +kernel
theorem dX4_best_5 : decode cX4_best 5 = .ok (.invokevirtual 56, 3) := by decide +kernel
theorem dX4_best_8 : decode cX4_best 8 = .ok (.ifCond .eq 18, 3) := by decide +kernel
theorem dX4_best_11 : decode cX4_best 11 = .ok (.aload_n 0, 1) := by decide +kernel
theorem dX4_best_12 : decode cX4_best 12 = .ok (.getfield 23, 3) := by decide +kernel
theorem dX4_best_15 : decode cX4_best 15 = .ok (.aload_n 0, 1) := by decide +kernel
theorem dX4_best_16 : decode cX4_best 16 = .ok (.getfield 10, 3) := by decide +kernel
theorem dX4_best_19 : decode cX4_best 19 = .ok (.iload_n 1, 1) := by decide +kernel
theorem dX4_best_20 : decode cX4_best 20 = .ok (.invokevirtual 124, 3) := by decide +kernel
theorem dX4_best_23 : decode cX4_best 23 = .ok (.goto 6, 3) := by decide +kernel
theorem dX4_best_26 : decode cX4_best 26 = .ok (.ldc2_w 122, 3) := by decide +kernel
theorem dX4_best_29 : decode cX4_best 29 = .ok (.lreturn, 1) := by decide +kernel
theorem dX4_price_0 : decode cX4_price 0 = .ok (.aload_n 0, 1) := by decide +kernel
theorem dX4_price_1 : decode cX4_price 1 = .ok (.getfield 10, 3) := by decide +kernel
theorem dX4_price_4 : decode cX4_price 4 = .ok (.iload_n 1, 1) := by decide +kernel
theorem dX4_price_5 : decode cX4_price 5 = .ok (.invokevirtual 56, 3) := by decide +kernel
theorem dX4_price_8 : decode cX4_price 8 = .ok (.ifCond .eq 14, 3) := by decide +kernel
theorem dX4_price_11 : decode cX4_price 11 = .ok (.aload_n 0, 1) := by decide +kernel
theorem dX4_price_12 : decode cX4_price 12 = .ok (.getfield 10, 3) := by decide +kernel
theorem dX4_price_15 : decode cX4_price 15 = .ok (.iload_n 2, 1) := by decide +kernel
theorem dX4_price_16 : decode cX4_price 16 = .ok (.invokevirtual 77, 3) := by decide +kernel
theorem dX4_price_19 : decode cX4_price 19 = .ok (.ifCond .ne 5, 3) := by decide +kernel
theorem dX4_price_22 : decode cX4_price 22 = .ok (.iconst (-1), 1) := by decide +kernel
theorem dX4_price_23 : decode cX4_price 23 = .ok (.ireturn, 1) := by decide +kernel
theorem dX4_price_24 : decode cX4_price 24 = .ok (.aload_n 0, 1) := by decide +kernel
theorem dX4_price_25 : decode cX4_price 25 = .ok (.getfield 23, 3) := by decide +kernel
theorem dX4_price_28 : decode cX4_price 28 = .ok (.aload_n 0, 1) := by decide +kernel
theorem dX4_price_29 : decode cX4_price 29 = .ok (.getfield 10, 3) := by decide +kernel
theorem dX4_price_32 : decode cX4_price 32 = .ok (.iload_n 1, 1) := by decide +kernel
theorem dX4_price_33 : decode cX4_price 33 = .ok (.invokevirtual 124, 3) := by decide +kernel
theorem dX4_price_36 : decode cX4_price 36 = .ok (.pop2, 1) := by decide +kernel
theorem dX4_price_37 : decode cX4_price 37 = .ok (.aload_n 0, 1) := by decide +kernel
theorem dX4_price_38 : decode cX4_price 38 = .ok (.getfield 23, 3) := by decide +kernel
theorem dX4_price_41 : decode cX4_price 41 = .ok (.iload_n 2, 1) := by decide +kernel
theorem dX4_price_42 : decode cX4_price 42 = .ok (.invokevirtual 128, 3) := by decide +kernel
theorem dX4_price_45 : decode cX4_price 45 = .ok (.ireturn, 1) := by decide +kernel
theorem dX4_more_0 : decode cX4_more 0 = .ok (.aload_n 0, 1) := by decide +kernel
theorem dX4_more_1 : decode cX4_more 1 = .ok (.getfield 10, 3) := by decide +kernel
theorem dX4_more_4 : decode cX4_more 4 = .ok (.iload_n 1, 1) := by decide +kernel
theorem dX4_more_5 : decode cX4_more 5 = .ok (.invokevirtual 56, 3) := by decide +kernel
theorem dX4_more_8 : decode cX4_more 8 = .ok (.ifCond .eq 26, 3) := by decide +kernel
theorem dX4_more_11 : decode cX4_more 11 = .ok (.aload_n 0, 1) := by decide +kernel
theorem dX4_more_12 : decode cX4_more 12 = .ok (.getfield 10, 3) := by decide +kernel
theorem dX4_more_15 : decode cX4_more 15 = .ok (.iload_n 2, 1) := by decide +kernel
theorem dX4_more_16 : decode cX4_more 16 = .ok (.invokevirtual 77, 3) := by decide +kernel
theorem dX4_more_19 : decode cX4_more 19 = .ok (.ifCond .eq 15, 3) := by decide +kernel
theorem dX4_more_22 : decode cX4_more 22 = .ok (.iload_n 3, 1) := by decide +kernel
theorem dX4_more_23 : decode cX4_more 23 = .ok (.bipush (-60), 2) := by decide +kernel
theorem dX4_more_25 : decode cX4_more 25 = .ok (.if_icmp .lt 9, 3) := by decide +kernel
theorem dX4_more_28 : decode cX4_more 28 = .ok (.iload_n 3, 1) := by decide +kernel
theorem dX4_more_29 : decode cX4_more 29 = .ok (.bipush 60, 2) := by decide +kernel
theorem dX4_more_31 : decode cX4_more 31 = .ok (.if_icmp .le 6, 3) := by decide +kernel
theorem dX4_more_34 : decode cX4_more 34 = .ok (.ldc 131, 2) := by decide +kernel
theorem dX4_more_36 : decode cX4_more 36 = .ok (.ireturn, 1) := by decide +kernel
theorem dX4_more_37 : decode cX4_more 37 = .ok (.aload_n 0, 1) := by decide +kernel
theorem dX4_more_38 : decode cX4_more 38 = .ok (.getfield 23, 3) := by decide +kernel
theorem dX4_more_41 : decode cX4_more 41 = .ok (.aload_n 0, 1) := by decide +kernel
theorem dX4_more_42 : decode cX4_more 42 = .ok (.getfield 10, 3) := by decide +kernel
theorem dX4_more_45 : decode cX4_more 45 = .ok (.iload_n 1, 1) := by decide +kernel
theorem dX4_more_46 : decode cX4_more 46 = .ok (.invokevirtual 124, 3) := by decide +kernel
theorem dX4_more_49 : decode cX4_more 49 = .ok (.pop2, 1) := by decide +kernel
theorem dX4_more_50 : decode cX4_more 50 = .ok (.aload_n 0, 1) := by decide +kernel
theorem dX4_more_51 : decode cX4_more 51 = .ok (.getfield 10, 3) := by decide +kernel
theorem dX4_more_54 : decode cX4_more 54 = .ok (.iload_n 1, 1) := by decide +kernel
theorem dX4_more_55 : decode cX4_more 55 = .ok (.iload_n 2, 1) := by decide +kernel
theorem dX4_more_56 : decode cX4_more 56 = .ok (.invokevirtual 101, 3) := by decide +kernel
theorem dX4_more_59 : decode cX4_more 59 = .ok (.istore 4, 2) := by decide +kernel
theorem dX4_more_61 : decode cX4_more 61 = .ok (.aload_n 0, 1) := by decide +kernel
theorem dX4_more_62 : decode cX4_more 62 = .ok (.getfield 23, 3) := by decide +kernel
theorem dX4_more_65 : decode cX4_more 65 = .ok (.iload_n 2, 1) := by decide +kernel
theorem dX4_more_66 : decode cX4_more 66 = .ok (.iload_n 3, 1) := by decide +kernel
theorem dX4_more_67 : decode cX4_more 67 = .ok (.iload 4, 2) := by decide +kernel
theorem dX4_more_69 : decode cX4_more 69 = .ok (.ineg, 1) := by decide +kernel
theorem dX4_more_70 : decode cX4_more 70 = .ok (.invokestatic 110, 3) := by decide +kernel
theorem dX4_more_73 : decode cX4_more 73 = .ok (.invokevirtual 132, 3) := by decide +kernel
theorem dX4_more_76 : decode cX4_more 76 = .ok (.l2i, 1) := by decide +kernel
theorem dX4_more_77 : decode cX4_more 77 = .ok (.ireturn, 1) := by decide +kernel
theorem dX4_blind_0 : decode cX4_blind 0 = .ok (.aload_n 0, 1) := by decide +kernel
theorem dX4_blind_1 : decode cX4_blind 1 = .ok (.getfield 10, 3) := by decide +kernel
theorem dX4_blind_4 : decode cX4_blind 4 = .ok (.iload_n 1, 1) := by decide +kernel
theorem dX4_blind_5 : decode cX4_blind 5 = .ok (.invokevirtual 67, 3) := by decide +kernel
theorem dX4_blind_8 : decode cX4_blind 8 = .ok (.ifCond .ne 7, 3) := by decide +kernel
theorem dX4_blind_11 : decode cX4_blind 11 = .ok (.ldc2_w 122, 3) := by decide +kernel
theorem dX4_blind_14 : decode cX4_blind 14 = .ok (.lreturn, 1) := by decide +kernel
theorem dX4_blind_15 : decode cX4_blind 15 = .ok (.aload_n 0, 1) := by decide +kernel
theorem dX4_blind_16 : decode cX4_blind 16 = .ok (.getfield 10, 3) := by decide +kernel
theorem dX4_blind_19 : decode cX4_blind 19 = .ok (.getfield 136, 3) := by decide +kernel
theorem dX4_blind_22 : decode cX4_blind 22 = .ok (.iload_n 1, 1) := by decide +kernel
theorem dX4_blind_23 : decode cX4_blind 23 = .ok (.iaload, 1) := by decide +kernel
theorem dX4_blind_24 : decode cX4_blind 24 = .ok (.istore_n 2, 1) := by decide +kernel
theorem dX4_blind_25 : decode cX4_blind 25 = .ok (.aload_n 0, 1) := by decide +kernel
theorem dX4_blind_26 : decode cX4_blind 26 = .ok (.getfield 10, 3) := by decide +kernel
theorem dX4_blind_29 : decode cX4_blind 29 = .ok (.iload_n 2, 1) := by decide +kernel
theorem dX4_blind_30 : decode cX4_blind 30 = .ok (.invokevirtual 98, 3) := by decide +kernel
theorem dX4_blind_33 : decode cX4_blind 33 = .ok (.aload_n 0, 1) := by decide +kernel
theorem dX4_blind_34 : decode cX4_blind 34 = .ok (.getfield 30, 3) := by decide +kernel
theorem dX4_blind_37 : decode cX4_blind 37 = .ok (.aload_n 0, 1) := by decide +kernel
theorem dX4_blind_38 : decode cX4_blind 38 = .ok (.getfield 10, 3) := by decide +kernel
theorem dX4_blind_41 : decode cX4_blind 41 = .ok (.iload_n 1, 1) := by decide +kernel
theorem dX4_blind_42 : decode cX4_blind 42 = .ok (.invokevirtual 139, 3) := by decide +kernel
theorem dX4_blind_45 : decode cX4_blind 45 = .ok (.aload_n 0, 1) := by decide +kernel
theorem dX4_blind_46 : decode cX4_blind 46 = .ok (.getfield 10, 3) := by decide +kernel
theorem dX4_blind_49 : decode cX4_blind 49 = .ok (.iload_n 2, 1) := by decide +kernel
theorem dX4_blind_50 : decode cX4_blind 50 = .ok (.invokevirtual 118, 3) := by decide +kernel
theorem dX4_blind_53 : decode cX4_blind 53 = .ok (.lreturn, 1) := by decide +kernel
theorem dX4_pays_0 : decode cX4_pays 0 = .ok (.iload_n 1, 1) := by decide +kernel
theorem dX4_pays_1 : decode cX4_pays 1 = .ok (.invokestatic 74, 3) := by decide +kernel
theorem dX4_pays_4 : decode cX4_pays 4 = .ok (.ifCond .eq 14, 3) := by decide +kernel
theorem dX4_pays_7 : decode cX4_pays 7 = .ok (.aload_n 0, 1) := by decide +kernel
theorem dX4_pays_8 : decode cX4_pays 8 = .ok (.getfield 10, 3) := by decide +kernel
theorem dX4_pays_11 : decode cX4_pays 11 = .ok (.iload_n 2, 1) := by decide +kernel
theorem dX4_pays_12 : decode cX4_pays 12 = .ok (.invokevirtual 56, 3) := by decide +kernel
theorem dX4_pays_15 : decode cX4_pays 15 = .ok (.ifCond .ne 7, 3) := by decide +kernel
theorem dX4_pays_18 : decode cX4_pays 18 = .ok (.ldc2_w 122, 3) := by decide +kernel
theorem dX4_pays_21 : decode cX4_pays 21 = .ok (.lreturn, 1) := by decide +kernel
theorem dX4_pays_22 : decode cX4_pays 22 = .ok (.aload_n 0, 1) := by decide +kernel
theorem dX4_pays_23 : decode cX4_pays 23 = .ok (.getfield 37, 3) := by decide +kernel
theorem dX4_pays_26 : decode cX4_pays 26 = .ok (.aload_n 0, 1) := by decide +kernel
theorem dX4_pays_27 : decode cX4_pays 27 = .ok (.getfield 10, 3) := by decide +kernel
theorem dX4_pays_30 : decode cX4_pays 30 = .ok (.iload_n 2, 1) := by decide +kernel
theorem dX4_pays_31 : decode cX4_pays 31 = .ok (.iload_n 1, 1) := by decide +kernel
theorem dX4_pays_32 : decode cX4_pays 32 = .ok (.invokevirtual 143, 3) := by decide +kernel
theorem dX4_pays_35 : decode cX4_pays 35 = .ok (.lreturn, 1) := by decide +kernel
theorem dX4_about_0 : decode cX4_about 0 = .ok (.iload_n 2, 1) := by decide +kernel
theorem dX4_about_1 : decode cX4_about 1 = .ok (.bipush 10, 2) := by decide +kernel
theorem dX4_about_3 : decode cX4_about 3 = .ok (.if_icmp .lt 25, 3) := by decide +kernel
theorem dX4_about_6 : decode cX4_about 6 = .ok (.aload_n 0, 1) := by decide +kernel
theorem dX4_about_7 : decode cX4_about 7 = .ok (.getfield 10, 3) := by decide +kernel
theorem dX4_about_10 : decode cX4_about 10 = .ok (.iload_n 1, 1) := by decide +kernel
theorem dX4_about_11 : decode cX4_about 11 = .ok (.invokevirtual 56, 3) := by decide +kernel
theorem dX4_about_14 : decode cX4_about 14 = .ok (.ifCond .eq 12, 3) := by decide +kernel
theorem dX4_about_17 : decode cX4_about 17 = .ok (.aload_n 0, 1) := by decide +kernel
theorem dX4_about_18 : decode cX4_about 18 = .ok (.iload_n 1, 1) := by decide +kernel
theorem dX4_about_19 : decode cX4_about 19 = .ok (.iload_n 2, 1) := by decide +kernel
theorem dX4_about_20 : decode cX4_about 20 = .ok (.invokevirtual 147, 3) := by decide +kernel
theorem dX4_about_23 : decode cX4_about 23 = .ok (.goto 4, 3) := by decide +kernel
theorem dX4_about_26 : decode cX4_about 26 = .ok (.iconst (-1), 1) := by decide +kernel
theorem dX4_about_27 : decode cX4_about 27 = .ok (.ireturn, 1) := by decide +kernel
theorem dX4_about_28 : decode cX4_about 28 = .ok (.aload_n 0, 1) := by decide +kernel
theorem dX4_about_29 : decode cX4_about 29 = .ok (.getfield 10, 3) := by decide +kernel
theorem dX4_about_32 : decode cX4_about 32 = .ok (.iload_n 1, 1) := by decide +kernel
theorem dX4_about_33 : decode cX4_about 33 = .ok (.invokevirtual 67, 3) := by decide +kernel
theorem dX4_about_36 : decode cX4_about 36 = .ok (.ifCond .eq 12, 3) := by decide +kernel
theorem dX4_about_39 : decode cX4_about 39 = .ok (.aload_n 0, 1) := by decide +kernel
theorem dX4_about_40 : decode cX4_about 40 = .ok (.iload_n 1, 1) := by decide +kernel
theorem dX4_about_41 : decode cX4_about 41 = .ok (.iload_n 2, 1) := by decide +kernel
theorem dX4_about_42 : decode cX4_about 42 = .ok (.invokevirtual 150, 3) := by decide +kernel
theorem dX4_about_45 : decode cX4_about 45 = .ok (.goto 4, 3) := by decide +kernel
theorem dX4_about_48 : decode cX4_about 48 = .ok (.iconst (-1), 1) := by decide +kernel
theorem dX4_about_49 : decode cX4_about 49 = .ok (.ireturn, 1) := by decide +kernel
theorem dX4_count_0 : decode cX4_count 0 = .ok (.iload_n 1, 1) := by decide +kernel
theorem dX4_count_1 : decode cX4_count 1 = .ok (.tableswitch 51 0 2 #[27, 35, 43], 27) := by decide +kernel
theorem dX4_count_28 : decode cX4_count 28 = .ok (.aload_n 0, 1) := by decide +kernel
theorem dX4_count_29 : decode cX4_count 29 = .ok (.getfield 10, 3) := by decide +kernel
theorem dX4_count_32 : decode cX4_count 32 = .ok (.getfield 84, 3) := by decide +kernel
theorem dX4_count_35 : decode cX4_count 35 = .ok (.ireturn, 1) := by decide +kernel
theorem dX4_count_36 : decode cX4_count 36 = .ok (.aload_n 0, 1) := by decide +kernel
theorem dX4_count_37 : decode cX4_count 37 = .ok (.getfield 10, 3) := by decide +kernel
theorem dX4_count_40 : decode cX4_count 40 = .ok (.getfield 45, 3) := by decide +kernel
theorem dX4_count_43 : decode cX4_count 43 = .ok (.ireturn, 1) := by decide +kernel
theorem dX4_count_44 : decode cX4_count 44 = .ok (.aload_n 0, 1) := by decide +kernel
theorem dX4_count_45 : decode cX4_count 45 = .ok (.getfield 10, 3) := by decide +kernel
theorem dX4_count_48 : decode cX4_count 48 = .ok (.getfield 53, 3) := by decide +kernel
theorem dX4_count_51 : decode cX4_count 51 = .ok (.ireturn, 1) := by decide +kernel
theorem dX4_count_52 : decode cX4_count 52 = .ok (.iconst (-1), 1) := by decide +kernel
theorem dX4_count_53 : decode cX4_count 53 = .ok (.ireturn, 1) := by decide +kernel
theorem dX4_image_0 : decode cX4_image 0 = .ok (.iload_n 1, 1) := by decide +kernel
theorem dX4_image_1 : decode cX4_image 1 = .ok (.ifCond .lt 8, 3) := by decide +kernel
theorem dX4_image_4 : decode cX4_image 4 = .ok (.iload_n 1, 1) := by decide +kernel
theorem dX4_image_5 : decode cX4_image 5 = .ok (.iconst 3, 1) := by decide +kernel
theorem dX4_image_6 : decode cX4_image 6 = .ok (.if_icmp .lt 5, 3) := by decide +kernel
theorem dX4_image_9 : decode cX4_image 9 = .ok (.iconst 0, 1) := by decide +kernel
theorem dX4_image_10 : decode cX4_image 10 = .ok (.ireturn, 1) := by decide +kernel
theorem dX4_image_11 : decode cX4_image 11 = .ok (.aload_n 0, 1) := by decide +kernel
theorem dX4_image_12 : decode cX4_image 12 = .ok (.getfield 16, 3) := by decide +kernel
theorem dX4_image_15 : decode cX4_image 15 = .ok (.iload_n 1, 1) := by decide +kernel
theorem dX4_image_16 : decode cX4_image 16 = .ok (.aaload, 1) := by decide +kernel
theorem dX4_image_17 : decode cX4_image 17 = .ok (.ifnonnull 16, 3) := by decide +kernel
theorem dX4_image_20 : decode cX4_image 20 = .ok (.aload_n 0, 1) := by decide +kernel
theorem dX4_image_21 : decode cX4_image 21 = .ok (.getfield 16, 3) := by decide +kernel
theorem dX4_image_24 : decode cX4_image 24 = .ok (.iload_n 1, 1) := by decide +kernel
theorem dX4_image_25 : decode cX4_image 25 = .ok (.new 7, 3) := by decide +kernel
theorem dX4_image_28 : decode cX4_image 28 = .ok (.dup, 1) := by decide +kernel
theorem dX4_image_29 : decode cX4_image 29 = .ok (.invokespecial 9, 3) := by decide +kernel
theorem dX4_image_32 : decode cX4_image 32 = .ok (.aastore, 1) := by decide +kernel
theorem dX4_image_33 : decode cX4_image 33 = .ok (.aload_n 0, 1) := by decide +kernel
theorem dX4_image_34 : decode cX4_image 34 = .ok (.getfield 16, 3) := by decide +kernel
theorem dX4_image_37 : decode cX4_image 37 = .ok (.iload_n 1, 1) := by decide +kernel
theorem dX4_image_38 : decode cX4_image 38 = .ok (.aaload, 1) := by decide +kernel
theorem dX4_image_39 : decode cX4_image 39 = .ok (.aload_n 0, 1) := by decide +kernel
theorem dX4_image_40 : decode cX4_image 40 = .ok (.getfield 10, 3) := by decide +kernel
theorem dX4_image_43 : decode cX4_image 43 = .ok (.invokevirtual 153, 3) := by decide +kernel
theorem dX4_image_46 : decode cX4_image 46 = .ok (.iconst 1, 1) := by decide +kernel
theorem dX4_image_47 : decode cX4_image 47 = .ok (.ireturn, 1) := by decide +kernel
theorem dX4_again_0 : decode cX4_again 0 = .ok (.iload_n 1, 1) := by decide +kernel
theorem dX4_again_1 : decode cX4_again 1 = .ok (.ifCond .lt 17, 3) := by decide +kernel
theorem dX4_again_4 : decode cX4_again 4 = .ok (.iload_n 1, 1) := by decide +kernel
theorem dX4_again_5 : decode cX4_again 5 = .ok (.iconst 3, 1) := by decide +kernel
theorem dX4_again_6 : decode cX4_again 6 = .ok (.if_icmp .ge 12, 3) := by decide +kernel
theorem dX4_again_9 : decode cX4_again 9 = .ok (.aload_n 0, 1) := by decide +kernel
theorem dX4_again_10 : decode cX4_again 10 = .ok (.getfield 16, 3) := by decide +kernel
theorem dX4_again_13 : decode cX4_again 13 = .ok (.iload_n 1, 1) := by decide +kernel
theorem dX4_again_14 : decode cX4_again 14 = .ok (.aaload, 1) := by decide +kernel
theorem dX4_again_15 : decode cX4_again 15 = .ok (.ifnonnull 5, 3) := by decide +kernel
theorem dX4_again_18 : decode cX4_again 18 = .ok (.iconst 0, 1) := by decide +kernel
theorem dX4_again_19 : decode cX4_again 19 = .ok (.ireturn, 1) := by decide +kernel
theorem dX4_again_20 : decode cX4_again 20 = .ok (.aload_n 0, 1) := by decide +kernel
theorem dX4_again_21 : decode cX4_again 21 = .ok (.getfield 10, 3) := by decide +kernel
theorem dX4_again_24 : decode cX4_again 24 = .ok (.aload_n 0, 1) := by decide +kernel
theorem dX4_again_25 : decode cX4_again 25 = .ok (.getfield 16, 3) := by decide +kernel
theorem dX4_again_28 : decode cX4_again 28 = .ok (.iload_n 1, 1) := by decide +kernel
theorem dX4_again_29 : decode cX4_again 29 = .ok (.aaload, 1) := by decide +kernel
theorem dX4_again_30 : decode cX4_again 30 = .ok (.invokevirtual 153, 3) := by decide +kernel
theorem dX4_again_33 : decode cX4_again 33 = .ok (.iconst 1, 1) := by decide +kernel
theorem dX4_again_34 : decode cX4_again 34 = .ok (.ireturn, 1) := by decide +kernel
theorem dX4_tellOfOne_0 : decode cX4_tellOfOne 0 = .ok (.iload_n 3, 1) := by decide +kernel
theorem dX4_tellOfOne_1 : decode cX4_tellOfOne 1 = .ok (.bipush 10, 2) := by decide +kernel
theorem dX4_tellOfOne_3 : decode cX4_tellOfOne 3 = .ok (.if_icmp .lt 23, 3) := by decide +kernel
theorem dX4_tellOfOne_6 : decode cX4_tellOfOne 6 = .ok (.iload_n 3, 1) := by decide +kernel
theorem dX4_tellOfOne_7 : decode cX4_tellOfOne 7 = .ok (.bipush 14, 2) := by decide +kernel
theorem dX4_tellOfOne_9 : decode cX4_tellOfOne 9 = .ok (.if_icmp .ge 17, 3) := by decide +kernel
theorem dX4_tellOfOne_12 : decode cX4_tellOfOne 12 = .ok (.aload_n 0, 1) := by decide +kernel
theorem dX4_tellOfOne_13 : decode cX4_tellOfOne 13 = .ok (.getfield 10, 3) := by decide +kernel
theorem dX4_tellOfOne_16 : decode cX4_tellOfOne 16 = .ok (.iload_n 3, 1) := by decide +kernel
theorem dX4_tellOfOne_17 : decode cX4_tellOfOne 17 = .ok (.bipush 10, 2) := by decide +kernel
theorem dX4_tellOfOne_19 : decode cX4_tellOfOne 19 = .ok (.isub, 1) := by decide +kernel
theorem dX4_tellOfOne_20 : decode cX4_tellOfOne 20 = .ok (.iload_n 1, 1) := by decide +kernel
theorem dX4_tellOfOne_21 : decode cX4_tellOfOne 21 = .ok (.iload_n 2, 1) := by decide +kernel
theorem dX4_tellOfOne_22 : decode cX4_tellOfOne 22 = .ok (.invokevirtual 157, 3) := by decide +kernel
theorem dX4_tellOfOne_25 : decode cX4_tellOfOne 25 = .ok (.ireturn, 1) := by decide +kernel
theorem dX4_tellOfOne_26 : decode cX4_tellOfOne 26 = .ok (.iload_n 3, 1) := by decide +kernel
theorem dX4_tellOfOne_27 : decode cX4_tellOfOne 27 = .ok (.bipush 20, 2) := by decide +kernel
theorem dX4_tellOfOne_29 : decode cX4_tellOfOne 29 = .ok (.if_icmp .lt 37, 3) := by decide +kernel
theorem dX4_tellOfOne_32 : decode cX4_tellOfOne 32 = .ok (.iload_n 3, 1) := by decide +kernel
theorem dX4_tellOfOne_33 : decode cX4_tellOfOne 33 = .ok (.bipush 26, 2) := by decide +kernel
theorem dX4_tellOfOne_35 : decode cX4_tellOfOne 35 = .ok (.if_icmp .ge 31, 3) := by decide +kernel
theorem dX4_tellOfOne_38 : decode cX4_tellOfOne 38 = .ok (.aload_n 0, 1) := by decide +kernel
theorem dX4_tellOfOne_39 : decode cX4_tellOfOne 39 = .ok (.getfield 10, 3) := by decide +kernel
theorem dX4_tellOfOne_42 : decode cX4_tellOfOne 42 = .ok (.iload_n 3, 1) := by decide +kernel
theorem dX4_tellOfOne_43 : decode cX4_tellOfOne 43 = .ok (.bipush 20, 2) := by decide +kernel
theorem dX4_tellOfOne_45 : decode cX4_tellOfOne 45 = .ok (.isub, 1) := by decide +kernel
theorem dX4_tellOfOne_46 : decode cX4_tellOfOne 46 = .ok (.iload_n 1, 1) := by decide +kernel
theorem dX4_tellOfOne_47 : decode cX4_tellOfOne 47 = .ok (.invokevirtual 160, 3) := by decide +kernel
theorem dX4_tellOfOne_50 : decode cX4_tellOfOne 50 = .ok (.ifCond .eq 16, 3) := by decide +kernel
theorem dX4_tellOfOne_53 : decode cX4_tellOfOne 53 = .ok (.aload_n 0, 1) := by decide +kernel
theorem dX4_tellOfOne_54 : decode cX4_tellOfOne 54 = .ok (.getfield 10, 3) := by decide +kernel
theorem dX4_tellOfOne_57 : decode cX4_tellOfOne 57 = .ok (.iload_n 3, 1) := by decide +kernel
theorem dX4_tellOfOne_58 : decode cX4_tellOfOne 58 = .ok (.bipush 20, 2) := by decide +kernel
theorem dX4_tellOfOne_60 : decode cX4_tellOfOne 60 = .ok (.isub, 1) := by decide +kernel
theorem dX4_tellOfOne_61 : decode cX4_tellOfOne 61 = .ok (.iload_n 2, 1) := by decide +kernel
theorem dX4_tellOfOne_62 : decode cX4_tellOfOne 62 = .ok (.invokevirtual 164, 3) := by decide +kernel
theorem dX4_tellOfOne_65 : decode cX4_tellOfOne 65 = .ok (.ireturn, 1) := by decide +kernel
theorem dX4_tellOfOne_66 : decode cX4_tellOfOne 66 = .ok (.iconst (-1), 1) := by decide +kernel
theorem dX4_tellOfOne_67 : decode cX4_tellOfOne 67 = .ok (.ireturn, 1) := by decide +kernel
theorem dX4_aboutOffer_0 : decode cX4_aboutOffer 0 = .ok (.iload_n 2, 1) := by decide +kernel
theorem dX4_aboutOffer_1 : decode cX4_aboutOffer 1 = .ok (.tableswitch 70 0 3 #[31, 41, 51, 61], 31) := by decide +kernel
theorem dX4_aboutOffer_32 : decode cX4_aboutOffer 32 = .ok (.aload_n 0, 1) := by decide +kernel
theorem dX4_aboutOffer_33 : decode cX4_aboutOffer 33 = .ok (.getfield 10, 3) := by decide +kernel
theorem dX4_aboutOffer_36 : decode cX4_aboutOffer 36 = .ok (.getfield 136, 3) := by decide +kernel
theorem dX4_aboutOffer_39 : decode cX4_aboutOffer 39 = .ok (.iload_n 1, 1) := by decide +kernel
theorem dX4_aboutOffer_40 : decode cX4_aboutOffer 40 = .ok (.iaload, 1) := by decide +kernel
theorem dX4_aboutOffer_41 : decode cX4_aboutOffer 41 = .ok (.ireturn, 1) := by decide +kernel
theorem dX4_aboutOffer_42 : decode cX4_aboutOffer 42 = .ok (.aload_n 0, 1) := by decide +kernel
theorem dX4_aboutOffer_43 : decode cX4_aboutOffer 43 = .ok (.getfield 10, 3) := by decide +kernel
theorem dX4_aboutOffer_46 : decode cX4_aboutOffer 46 = .ok (.getfield 167, 3) := by decide +kernel
theorem dX4_aboutOffer_49 : decode cX4_aboutOffer 49 = .ok (.iload_n 1, 1) := by decide +kernel
theorem dX4_aboutOffer_50 : decode cX4_aboutOffer 50 = .ok (.iaload, 1) := by decide +kernel
theorem dX4_aboutOffer_51 : decode cX4_aboutOffer 51 = .ok (.ireturn, 1) := by decide +kernel
theorem dX4_aboutOffer_52 : decode cX4_aboutOffer 52 = .ok (.aload_n 0, 1) := by decide +kernel
theorem dX4_aboutOffer_53 : decode cX4_aboutOffer 53 = .ok (.getfield 10, 3) := by decide +kernel
theorem dX4_aboutOffer_56 : decode cX4_aboutOffer 56 = .ok (.getfield 70, 3) := by decide +kernel
theorem dX4_aboutOffer_59 : decode cX4_aboutOffer 59 = .ok (.iload_n 1, 1) := by decide +kernel
theorem dX4_aboutOffer_60 : decode cX4_aboutOffer 60 = .ok (.iaload, 1) := by decide +kernel
theorem dX4_aboutOffer_61 : decode cX4_aboutOffer 61 = .ok (.ireturn, 1) := by decide +kernel
theorem dX4_aboutOffer_62 : decode cX4_aboutOffer 62 = .ok (.aload_n 0, 1) := by decide +kernel
theorem dX4_aboutOffer_63 : decode cX4_aboutOffer 63 = .ok (.getfield 10, 3) := by decide +kernel
theorem dX4_aboutOffer_66 : decode cX4_aboutOffer 66 = .ok (.iload_n 1, 1) := by decide +kernel
theorem dX4_aboutOffer_67 : decode cX4_aboutOffer 67 = .ok (.invokevirtual 170, 3) := by decide +kernel
theorem dX4_aboutOffer_70 : decode cX4_aboutOffer 70 = .ok (.ireturn, 1) := by decide +kernel
theorem dX4_aboutOffer_71 : decode cX4_aboutOffer 71 = .ok (.iconst (-1), 1) := by decide +kernel
theorem dX4_aboutOffer_72 : decode cX4_aboutOffer 72 = .ok (.ireturn, 1) := by decide +kernel
theorem dX4_aboutKind_0 : decode cX4_aboutKind 0 = .ok (.iload_n 2, 1) := by decide +kernel
theorem dX4_aboutKind_1 : decode cX4_aboutKind 1 = .ok (.tableswitch 68 10 13 #[31, 41, 50, 59], 31) := by decide +kernel
theorem dX4_aboutKind_32 : decode cX4_aboutKind 32 = .ok (.aload_n 0, 1) := by decide +kernel
theorem dX4_aboutKind_33 : decode cX4_aboutKind 33 = .ok (.getfield 10, 3) := by decide +kernel
theorem dX4_aboutKind_36 : decode cX4_aboutKind 36 = .ok (.getfield 173, 3) := by decide +kernel
theorem dX4_aboutKind_39 : decode cX4_aboutKind 39 = .ok (.iload_n 1, 1) := by decide +kernel
theorem dX4_aboutKind_40 : decode cX4_aboutKind 40 = .ok (.iaload, 1) := by decide +kernel
theorem dX4_aboutKind_41 : decode cX4_aboutKind 41 = .ok (.ireturn, 1) := by decide +kernel
theorem dX4_aboutKind_42 : decode cX4_aboutKind 42 = .ok (.aload_n 0, 1) := by decide +kernel
theorem dX4_aboutKind_43 : decode cX4_aboutKind 43 = .ok (.getfield 10, 3) := by decide +kernel
theorem dX4_aboutKind_46 : decode cX4_aboutKind 46 = .ok (.iload_n 1, 1) := by decide +kernel
theorem dX4_aboutKind_47 : decode cX4_aboutKind 47 = .ok (.invokevirtual 176, 3) := by decide +kernel
theorem dX4_aboutKind_50 : decode cX4_aboutKind 50 = .ok (.ireturn, 1) := by decide +kernel
theorem dX4_aboutKind_51 : decode cX4_aboutKind 51 = .ok (.aload_n 0, 1) := by decide +kernel
theorem dX4_aboutKind_52 : decode cX4_aboutKind 52 = .ok (.getfield 10, 3) := by decide +kernel
theorem dX4_aboutKind_55 : decode cX4_aboutKind 55 = .ok (.iload_n 1, 1) := by decide +kernel
theorem dX4_aboutKind_56 : decode cX4_aboutKind 56 = .ok (.invokevirtual 179, 3) := by decide +kernel
theorem dX4_aboutKind_59 : decode cX4_aboutKind 59 = .ok (.ireturn, 1) := by decide +kernel
theorem dX4_aboutKind_60 : decode cX4_aboutKind 60 = .ok (.aload_n 0, 1) := by decide +kernel
theorem dX4_aboutKind_61 : decode cX4_aboutKind 61 = .ok (.getfield 10, 3) := by decide +kernel
theorem dX4_aboutKind_64 : decode cX4_aboutKind 64 = .ok (.iload_n 1, 1) := by decide +kernel
theorem dX4_aboutKind_65 : decode cX4_aboutKind 65 = .ok (.invokevirtual 182, 3) := by decide +kernel
theorem dX4_aboutKind_68 : decode cX4_aboutKind 68 = .ok (.ireturn, 1) := by decide +kernel
theorem dX4_aboutKind_69 : decode cX4_aboutKind 69 = .ok (.iconst (-1), 1) := by decide +kernel
theorem dX4_aboutKind_70 : decode cX4_aboutKind 70 = .ok (.ireturn, 1) := by decide +kernel
theorem dX4_isOwner_0 : decode cX4_isOwner 0 = .ok (.iload_n 0, 1) := by decide +kernel
theorem dX4_isOwner_1 : decode cX4_isOwner 1 = .ok (.ifCond .lt 12, 3) := by decide +kernel
theorem dX4_isOwner_4 : decode cX4_isOwner 4 = .ok (.iload_n 0, 1) := by decide +kernel
theorem dX4_isOwner_5 : decode cX4_isOwner 5 = .ok (.iconst 4, 1) := by decide +kernel
theorem dX4_isOwner_6 : decode cX4_isOwner 6 = .ok (.if_icmp .ge 7, 3) := by decide +kernel
theorem dX4_isOwner_9 : decode cX4_isOwner 9 = .ok (.iconst 1, 1) := by decide +kernel
theorem dX4_isOwner_10 : decode cX4_isOwner 10 = .ok (.goto 4, 3) := by decide +kernel
theorem dX4_isOwner_13 : decode cX4_isOwner 13 = .ok (.iconst 0, 1) := by decide +kernel
theorem dX4_isOwner_14 : decode cX4_isOwner 14 = .ok (.ireturn, 1) := by decide +kernel
theorem dX4_isCost_0 : decode cX4_isCost 0 = .ok (.iload_n 0, 1) := by decide +kernel
theorem dX4_isCost_1 : decode cX4_isCost 1 = .ok (.ifCond .lt 13, 3) := by decide +kernel
theorem dX4_isCost_4 : decode cX4_isCost 4 = .ok (.iload_n 0, 1) := by decide +kernel
theorem dX4_isCost_5 : decode cX4_isCost 5 = .ok (.ldc 185, 2) := by decide +kernel
theorem dX4_isCost_7 : decode cX4_isCost 7 = .ok (.if_icmp .gt 7, 3) := by decide +kernel
theorem dX4_isCost_10 : decode cX4_isCost 10 = .ok (.iconst 1, 1) := by decide +kernel
theorem dX4_isCost_11 : decode cX4_isCost 11 = .ok (.goto 4, 3) := by decide +kernel
theorem dX4_isCost_14 : decode cX4_isCost 14 = .ok (.iconst 0, 1) := by decide +kernel
theorem dX4_isCost_15 : decode cX4_isCost 15 = .ok (.ireturn, 1) := by decide +kernel
theorem dX4_areNeeds_0 : decode cX4_areNeeds 0 = .ok (.iconst 0, 1) := by decide +kernel
theorem dX4_areNeeds_1 : decode cX4_areNeeds 1 = .ok (.istore_n 1, 1) := by decide +kernel
theorem dX4_areNeeds_2 : decode cX4_areNeeds 2 = .ok (.iload_n 1, 1) := by decide +kernel
theorem dX4_areNeeds_3 : decode cX4_areNeeds 3 = .ok (.bipush 8, 2) := by decide +kernel
theorem dX4_areNeeds_5 : decode cX4_areNeeds 5 = .ok (.if_icmp .ge 21, 3) := by decide +kernel
theorem dX4_areNeeds_8 : decode cX4_areNeeds 8 = .ok (.iload_n 0, 1) := by decide +kernel
theorem dX4_areNeeds_9 : decode cX4_areNeeds 9 = .ok (.iload_n 1, 1) := by decide +kernel
theorem dX4_areNeeds_10 : decode cX4_areNeeds 10 = .ok (.invokestatic 90, 3) := by decide +kernel
theorem dX4_areNeeds_13 : decode cX4_areNeeds 13 = .ok (.bipush 9, 2) := by decide +kernel
theorem dX4_areNeeds_15 : decode cX4_areNeeds 15 = .ok (.if_icmp .le 5, 3) := by decide +kernel
theorem dX4_areNeeds_18 : decode cX4_areNeeds 18 = .ok (.iconst 0, 1) := by decide +kernel
theorem dX4_areNeeds_19 : decode cX4_areNeeds 19 = .ok (.ireturn, 1) := by decide +kernel
theorem dX4_areNeeds_20 : decode cX4_areNeeds 20 = .ok (.iinc 1 1, 3) := by decide +kernel
theorem dX4_areNeeds_23 : decode cX4_areNeeds 23 = .ok (.goto (-21), 3) := by decide +kernel
theorem dX4_areNeeds_26 : decode cX4_areNeeds 26 = .ok (.iconst 1, 1) := by decide +kernel
theorem dX4_areNeeds_27 : decode cX4_areNeeds 27 = .ok (.ireturn, 1) := by decide +kernel
theorem dX4_halfByte_0 : decode cX4_halfByte 0 = .ok (.iload_n 0, 1) := by decide +kernel
theorem dX4_halfByte_1 : decode cX4_halfByte 1 = .ok (.bipush 28, 2) := by decide +kernel
theorem dX4_halfByte_3 : decode cX4_halfByte 3 = .ok (.iconst 4, 1) := by decide +kernel
theorem dX4_halfByte_4 : decode cX4_halfByte 4 = .ok (.iload_n 1, 1) := by decide +kernel
theorem dX4_halfByte_5 : decode cX4_halfByte 5 = .ok (.imul, 1) := by decide +kernel
theorem dX4_halfByte_6 : decode cX4_halfByte 6 = .ok (.isub, 1) := by decide +kernel
theorem dX4_halfByte_7 : decode cX4_halfByte 7 = .ok (.iushr, 1) := by decide +kernel
theorem dX4_halfByte_8 : decode cX4_halfByte 8 = .ok (.bipush 15, 2) := by decide +kernel
theorem dX4_halfByte_10 : decode cX4_halfByte 10 = .ok (.iand, 1) := by decide +kernel
theorem dX4_halfByte_11 : decode cX4_halfByte 11 = .ok (.ireturn, 1) := by decide +kernel
end
section
theorem dX5_init_0 : decode cX5_init 0 = .ok (.aload_n 0, 1) := by decide +kernel
theorem dX5_init_1 : decode cX5_init 1 = .ok (.invokespecial 1, 3) := by decide +kernel
theorem dX5_init_4 : decode cX5_init 4 = .ok (.aload_n 0, 1) := by decide +kernel
theorem dX5_init_5 : decode cX5_init 5 = .ok (.iconst 4, 1) := by decide +kernel
theorem dX5_init_6 : decode cX5_init 6 = .ok (.newarray .int, 2) := by decide +kernel
theorem dX5_init_8 : decode cX5_init 8 = .ok (.putfield 7, 3) := by decide +kernel
theorem dX5_init_11 : decode cX5_init 11 = .ok (.aload_n 0, 1) := by decide +kernel
theorem dX5_init_12 : decode cX5_init 12 = .ok (.iconst 4, 1) := by decide +kernel
theorem dX5_init_13 : decode cX5_init 13 = .ok (.newarray .int, 2) := by decide +kernel
theorem dX5_init_15 : decode cX5_init 15 = .ok (.putfield 13, 3) := by decide +kernel
theorem dX5_init_18 : decode cX5_init 18 = .ok (.aload_n 0, 1) := by decide +kernel
theorem dX5_init_19 : decode cX5_init 19 = .ok (.bipush 12, 2) := by decide +kernel
theorem dX5_init_21 : decode cX5_init 21 = .ok (.newarray .int, 2) := by decide +kernel
theorem dX5_init_23 : decode cX5_init 23 = .ok (.putfield 16, 3) := by decide +kernel
theorem dX5_init_26 : decode cX5_init 26 = .ok (.aload_n 0, 1) := by decide +kernel
theorem dX5_init_27 : decode cX5_init 27 = .ok (.iconst 4, 1) := by decide +kernel
theorem dX5_init_28 : decode cX5_init 28 = .ok (.newarray .int, 2) := by decide +kernel
theorem dX5_init_30 : decode cX5_init 30 = .ok (.putfield 19, 3) := by decide +kernel
theorem dX5_init_33 : decode cX5_init 33 = .ok (.aload_n 0, 1) := by decide +kernel
theorem dX5_init_34 : decode cX5_init 34 = .ok (.bipush 24, 2) := by decide +kernel
theorem dX5_init_36 : decode cX5_init 36 = .ok (.newarray .int, 2) := by decide +kernel
theorem dX5_init_38 : decode cX5_init 38 = .ok (.putfield 22, 3) := by decide +kernel
theorem dX5_init_41 : decode cX5_init 41 = .ok (.aload_n 0, 1) := by decide +kernel
theorem dX5_init_42 : decode cX5_init 42 = .ok (.bipush 24, 2) := by decide +kernel
theorem dX5_init_44 : decode cX5_init 44 = .ok (.newarray .int, 2) := by decide +kernel
theorem dX5_init_46 : decode cX5_init 46 = .ok (.putfield 25, 3) := by decide +kernel
theorem dX5_init_49 : decode cX5_init 49 = .ok (.aload_n 0, 1) := by decide +kernel
theorem dX5_init_50 : decode cX5_init 50 = .ok (.bipush 24, 2) := by decide +kernel
theorem dX5_init_52 : decode cX5_init 52 = .ok (.newarray .int, 2) := by decide +kernel
theorem dX5_init_54 : decode cX5_init 54 = .ok (.putfield 28, 3) := by decide +kernel
theorem dX5_init_57 : decode cX5_init 57 = .ok (.aload_n 0, 1) := by decide +kernel
theorem dX5_init_58 : decode cX5_init 58 = .ok (.sipush 1920, 3) := by decide +kernel
theorem dX5_init_61 : decode cX5_init 61 = .ok (.newarray .int, 2) := by decide +kernel
theorem dX5_init_63 : decode cX5_init 63 = .ok (.putfield 31, 3) := by decide +kernel
theorem dX5_init_66 : decode cX5_init 66 = .ok (.aload_n 0, 1) := by decide +kernel
theorem dX5_init_67 : decode cX5_init 67 = .ok (.sipush 960, 3) := by decide +kernel
theorem dX5_init_70 : decode cX5_init 70 = .ok (.newarray .int, 2) := by decide +kernel
theorem dX5_init_72 : decode cX5_init 72 = .ok (.putfield 34, 3) := by decide +kernel
theorem dX5_init_75 : decode cX5_init 75 = .ok (.aload_n 0, 1) := by decide +kernel
theorem dX5_init_76 : decode cX5_init 76 = .ok (.sipush 1681, 3) := by decide +kernel
theorem dX5_init_79 : decode cX5_init 79 = .ok (.newarray .int, 2) := by decide +kernel
theorem dX5_init_81 : decode cX5_init 81 = .ok (.putfield 37, 3) := by decide +kernel
theorem dX5_init_84 : decode cX5_init 84 = .ok (.aload_n 0, 1) := by decide +kernel
theorem dX5_init_85 : decode cX5_init 85 = .ok (.bipush 41, 2) := by decide +kernel
theorem dX5_init_87 : decode cX5_init 87 = .ok (.newarray .int, 2) := by decide +kernel
theorem dX5_init_89 : decode cX5_init 89 = .ok (.putfield 40, 3) := by decide +kernel
theorem dX5_init_92 : decode cX5_init 92 = .ok (.aload_n 0, 1) := by decide +kernel
theorem dX5_init_93 : decode cX5_init 93 = .ok (.bipush 41, 2) := by decide +kernel
theorem dX5_init_95 : decode cX5_init 95 = .ok (.newarray .int, 2) := by decide +kernel
theorem dX5_init_97 : decode cX5_init 97 = .ok (.putfield 43, 3) := by decide +kernel
theorem dX5_init_100 : decode cX5_init 100 = .ok (.aload_n 0, 1) := by decide +kernel
theorem dX5_init_101 : decode cX5_init 101 = .ok (.sipush 1681, 3) := by decide +kernel
theorem dX5_init_104 : decode cX5_init 104 = .ok (.newarray .int, 2) := by decide +kernel
theorem dX5_init_106 : decode cX5_init 106 = .ok (.putfield 46, 3) := by decide +kernel
theorem dX5_init_109 : decode cX5_init 109 = .ok (.aload_n 0, 1) := by decide +kernel
theorem dX5_init_110 : decode cX5_init 110 = .ok (.bipush 41, 2) := by decide +kernel
theorem dX5_init_112 : decode cX5_init 112 = .ok (.newarray .int, 2) := by decide +kernel
theorem dX5_init_114 : decode cX5_init 114 = .ok (.putfield 49, 3) := by decide +kernel
theorem dX5_init_117 : decode cX5_init 117 = .ok (.aload_n 0, 1) := by decide +kernel
theorem dX5_init_118 : decode cX5_init 118 = .ok (.bipush 41, 2) := by decide +kernel
theorem dX5_init_120 : decode cX5_init 120 = .ok (.newarray .int, 2) := by decide +kernel
theorem dX5_init_122 : decode cX5_init 122 = .ok (.putfield 52, 3) := by decide +kernel
theorem dX5_init_125 : decode cX5_init 125 = .ok (.aload_n 0, 1) := by decide +kernel
theorem dX5_init_126 : decode cX5_init 126 = .ok (.bipush 40, 2) := by decide +kernel
theorem dX5_init_128 : decode cX5_init 128 = .ok (.newarray .int, 2) := by decide +kernel
theorem dX5_init_130 : decode cX5_init 130 = .ok (.putfield 55, 3) := by decide +kernel
theorem dX5_init_133 : decode cX5_init 133 = .ok (.aload_n 0, 1) := by decide +kernel
theorem dX5_init_134 : decode cX5_init 134 = .ok (.iconst 4, 1) := by decide +kernel
theorem dX5_init_135 : decode cX5_init 135 = .ok (.newarray .int, 2) := by decide +kernel
theorem dX5_init_137 : decode cX5_init 137 = .ok (.putfield 58, 3) := by decide +kernel
theorem dX5_init_140 : decode cX5_init 140 = .ok (.aload_n 0, 1) := by decide +kernel
theorem dX5_init_141 : decode cX5_init 141 = .ok (.iconst 4, 1) := by decide +kernel
theorem dX5_init_142 : decode cX5_init 142 = .ok (.newarray .int, 2) := by decide +kernel
theorem dX5_init_144 : decode cX5_init 144 = .ok (.putfield 61, 3) := by decide +kernel
theorem dX5_init_147 : decode cX5_init 147 = .ok (.aload_n 0, 1) := by decide +kernel
theorem dX5_init_148 : decode cX5_init 148 = .ok (.iconst 4, 1) := by decide +kernel
theorem dX5_init_149 : decode cX5_init 149 = .ok (.newarray .long, 2) := by decide +kernel
theorem dX5_init_151 : decode cX5_init 151 = .ok (.putfield 64, 3) := by decide +kernel
theorem dX5_init_154 : decode cX5_init 154 = .ok (.aload_n 0, 1) := by decide +kernel
theorem dX5_init_155 : decode cX5_init 155 = .ok (.iconst 3, 1) := by decide +kernel
theorem dX5_init_156 : decode cX5_init 156 = .ok (.newarray .boolean, 2) := by decide +kernel
theorem dX5_init_158 : decode cX5_init 158 = .ok (.putfield 68, 3) := by decide +kernel
theorem dX5_init_161 : decode cX5_init 161 = .ok (.aload_n 0, 1) := by decide +kernel
theorem dX5_init_162 : decode cX5_init 162 = .ok (.getfield 7, 3) := by decide +kernel
theorem dX5_init_165 : decode cX5_init 165 = .ok (.iconst 0, 1) := by decide +kernel
theorem dX5_init_166 : decode cX5_init 166 = .ok (.bipush 24, 2) := by decide +kernel
theorem dX5_init_168 : decode cX5_init 168 = .ok (.iastore, 1) := by decide +kernel
theorem dX5_init_169 : decode cX5_init 169 = .ok (.return_, 1) := by decide +kernel
theorem dX5_in_0 : decode cX5_in 0 = .ok (.iload_n 0, 1) := by decide +kernel
theorem dX5_in_1 : decode cX5_in 1 = .ok (.iload_n 1, 1) := by decide +kernel
theorem dX5_in_2 : decode cX5_in 2 = .ok (.if_icmp .lt 12, 3) := by decide +kernel
theorem dX5_in_5 : decode cX5_in 5 = .ok (.iload_n 0, 1) := by decide +kernel
theorem dX5_in_6 : decode cX5_in 6 = .ok (.iload_n 2, 1) := by decide +kernel
theorem dX5_in_7 : decode cX5_in 7 = .ok (.if_icmp .gt 7, 3) := by decide +kernel
theorem dX5_in_10 : decode cX5_in 10 = .ok (.iconst 1, 1) := by decide +kernel
theorem dX5_in_11 : decode cX5_in 11 = .ok (.goto 4, 3) := by decide +kernel
theorem dX5_in_14 : decode cX5_in 14 = .ok (.iconst 0, 1) := by decide +kernel
theorem dX5_in_15 : decode cX5_in 15 = .ok (.ireturn, 1) := by decide +kernel
theorem dX5_move_0 : decode cX5_move 0 = .ok (.iconst 0, 1) := by decide +kernel
theorem dX5_move_1 : decode cX5_move 1 = .ok (.istore 4, 2) := by decide +kernel
theorem dX5_move_3 : decode cX5_move 3 = .ok (.iload 4, 2) := by decide +kernel
theorem dX5_move_5 : decode cX5_move 5 = .ok (.iload_n 1, 1) := by decide +kernel
theorem dX5_move_6 : decode cX5_move 6 = .ok (.if_icmp .ge 25, 3) := by decide +kernel
theorem dX5_move_9 : decode cX5_move 9 = .ok (.aload_n 0, 1) := by decide +kernel
theorem dX5_move_10 : decode cX5_move 10 = .ok (.iload_n 1, 1) := by decide +kernel
theorem dX5_move_11 : decode cX5_move 11 = .ok (.iload_n 3, 1) := by decide +kernel
theorem dX5_move_12 : decode cX5_move 12 = .ok (.imul, 1) := by decide +kernel
theorem dX5_move_13 : decode cX5_move 13 = .ok (.iload 4, 2) := by decide +kernel
theorem dX5_move_15 : decode cX5_move 15 = .ok (.iadd, 1) := by decide +kernel
theorem dX5_move_16 : decode cX5_move 16 = .ok (.aload_n 0, 1) := by decide +kernel
theorem dX5_move_17 : decode cX5_move 17 = .ok (.iload_n 1, 1) := by decide +kernel
theorem dX5_move_18 : decode cX5_move 18 = .ok (.iload_n 2, 1) := by decide +kernel
theorem dX5_move_19 : decode cX5_move 19 = .ok (.imul, 1) := by decide +kernel
theorem dX5_move_20 : decode cX5_move 20 = .ok (.iload 4, 2) := by decide +kernel
theorem dX5_move_22 : decode cX5_move 22 = .ok (.iadd, 1) := by decide +kernel
theorem dX5_move_23 : decode cX5_move 23 = .ok (.iaload, 1) := by decide +kernel
theorem dX5_move_24 : decode cX5_move 24 = .ok (.iastore, 1) := by decide +kernel
theorem dX5_move_25 : decode cX5_move 25 = .ok (.iinc 4 1, 3) := by decide +kernel
theorem dX5_move_28 : decode cX5_move 28 = .ok (.goto (-25), 3) := by decide +kernel
theorem dX5_move_31 : decode cX5_move 31 = .ok (.return_, 1) := by decide +kernel
theorem dX5_copy_0 : decode cX5_copy 0 = .ok (.aload_n 0, 1) := by decide +kernel
theorem dX5_copy_1 : decode cX5_copy 1 = .ok (.getfield 7, 3) := by decide +kernel
theorem dX5_copy_4 : decode cX5_copy 4 = .ok (.iconst 1, 1) := by decide +kernel
theorem dX5_copy_5 : decode cX5_copy 5 = .ok (.iload_n 1, 1) := by decide +kernel
theorem dX5_copy_6 : decode cX5_copy 6 = .ok (.iload_n 2, 1) := by decide +kernel
theorem dX5_copy_7 : decode cX5_copy 7 = .ok (.invokestatic 76, 3) := by decide +kernel
theorem dX5_copy_10 : decode cX5_copy 10 = .ok (.aload_n 0, 1) := by decide +kernel
theorem dX5_copy_11 : decode cX5_copy 11 = .ok (.getfield 13, 3) := by decide +kernel
theorem dX5_copy_14 : decode cX5_copy 14 = .ok (.iconst 1, 1) := by decide +kernel
theorem dX5_copy_15 : decode cX5_copy 15 = .ok (.iload_n 1, 1) := by decide +kernel
theorem dX5_copy_16 : decode cX5_copy 16 = .ok (.iload_n 2, 1) := by decide +kernel
theorem dX5_copy_17 : decode cX5_copy 17 = .ok (.invokestatic 76, 3) := by decide +kernel
theorem dX5_copy_20 : decode cX5_copy 20 = .ok (.aload_n 0, 1) := by decide +kernel
theorem dX5_copy_21 : decode cX5_copy 21 = .ok (.getfield 16, 3) := by decide +kernel
theorem dX5_copy_24 : decode cX5_copy 24 = .ok (.iconst 3, 1) := by decide +kernel
theorem dX5_copy_25 : decode cX5_copy 25 = .ok (.iload_n 1, 1) := by decide +kernel
theorem dX5_copy_26 : decode cX5_copy 26 = .ok (.iload_n 2, 1) := by decide +kernel
theorem dX5_copy_27 : decode cX5_copy 27 = .ok (.invokestatic 76, 3) := by decide +kernel
theorem dX5_copy_30 : decode cX5_copy 30 = .ok (.aload_n 0, 1) := by decide +kernel
theorem dX5_copy_31 : decode cX5_copy 31 = .ok (.getfield 19, 3) := by decide +kernel
theorem dX5_copy_34 : decode cX5_copy 34 = .ok (.iconst 1, 1) := by decide +kernel
theorem dX5_copy_35 : decode cX5_copy 35 = .ok (.iload_n 1, 1) := by decide +kernel
theorem dX5_copy_36 : decode cX5_copy 36 = .ok (.iload_n 2, 1) := by decide +kernel
theorem dX5_copy_37 : decode cX5_copy 37 = .ok (.invokestatic 76, 3) := by decide +kernel
theorem dX5_copy_40 : decode cX5_copy 40 = .ok (.aload_n 0, 1) := by decide +kernel
theorem dX5_copy_41 : decode cX5_copy 41 = .ok (.getfield 22, 3) := by decide +kernel
theorem dX5_copy_44 : decode cX5_copy 44 = .ok (.bipush 6, 2) := by decide +kernel
theorem dX5_copy_46 : decode cX5_copy 46 = .ok (.iload_n 1, 1) := by decide +kernel
theorem dX5_copy_47 : decode cX5_copy 47 = .ok (.iload_n 2, 1) := by decide +kernel
theorem dX5_copy_48 : decode cX5_copy 48 = .ok (.invokestatic 76, 3) := by decide +kernel
theorem dX5_copy_51 : decode cX5_copy 51 = .ok (.aload_n 0, 1) := by decide +kernel
theorem dX5_copy_52 : decode cX5_copy 52 = .ok (.getfield 25, 3) := by decide +kernel
theorem dX5_copy_55 : decode cX5_copy 55 = .ok (.bipush 6, 2) := by decide +kernel
theorem dX5_copy_57 : decode cX5_copy 57 = .ok (.iload_n 1, 1) := by decide +kernel
theorem dX5_copy_58 : decode cX5_copy 58 = .ok (.iload_n 2, 1) := by decide +kernel
theorem dX5_copy_59 : decode cX5_copy 59 = .ok (.invokestatic 76, 3) := by decide +kernel
theorem dX5_copy_62 : decode cX5_copy 62 = .ok (.aload_n 0, 1) := by decide +kernel
theorem dX5_copy_63 : decode cX5_copy 63 = .ok (.getfield 28, 3) := by decide +kernel
theorem dX5_copy_66 : decode cX5_copy 66 = .ok (.bipush 6, 2) := by decide +kernel
theorem dX5_copy_68 : decode cX5_copy 68 = .ok (.iload_n 1, 1) := by decide +kernel
theorem dX5_copy_69 : decode cX5_copy 69 = .ok (.iload_n 2, 1) := by decide +kernel
theorem dX5_copy_70 : decode cX5_copy 70 = .ok (.invokestatic 76, 3) := by decide +kernel
theorem dX5_copy_73 : decode cX5_copy 73 = .ok (.aload_n 0, 1) := by decide +kernel
theorem dX5_copy_74 : decode cX5_copy 74 = .ok (.getfield 31, 3) := by decide +kernel
theorem dX5_copy_77 : decode cX5_copy 77 = .ok (.sipush 480, 3) := by decide +kernel
theorem dX5_copy_80 : decode cX5_copy 80 = .ok (.iload_n 1, 1) := by decide +kernel
theorem dX5_copy_81 : decode cX5_copy 81 = .ok (.iload_n 2, 1) := by decide +kernel
theorem dX5_copy_82 : decode cX5_copy 82 = .ok (.invokestatic 76, 3) := by decide +kernel
theorem dX5_copy_85 : decode cX5_copy 85 = .ok (.aload_n 0, 1) := by decide +kernel
theorem dX5_copy_86 : decode cX5_copy 86 = .ok (.getfield 34, 3) := by decide +kernel
theorem dX5_copy_89 : decode cX5_copy 89 = .ok (.sipush 240, 3) := by decide +kernel
theorem dX5_copy_92 : decode cX5_copy 92 = .ok (.iload_n 1, 1) := by decide +kernel
theorem dX5_copy_93 : decode cX5_copy 93 = .ok (.iload_n 2, 1) := by decide +kernel
theorem dX5_copy_94 : decode cX5_copy 94 = .ok (.invokestatic 76, 3) := by decide +kernel
theorem dX5_copy_97 : decode cX5_copy 97 = .ok (.return_, 1) := by decide +kernel
theorem dX5_cell_0 : decode cX5_cell 0 = .ok (.bipush 40, 2) := by decide +kernel
theorem dX5_cell_2 : decode cX5_cell 2 = .ok (.iconst 3, 1) := by decide +kernel
theorem dX5_cell_3 : decode cX5_cell 3 = .ok (.iload_n 0, 1) := by decide +kernel
theorem dX5_cell_4 : decode cX5_cell 4 = .ok (.imul, 1) := by decide +kernel
theorem dX5_cell_5 : decode cX5_cell 5 = .ok (.iload_n 1, 1) := by decide +kernel
theorem dX5_cell_6 : decode cX5_cell 6 = .ok (.iadd, 1) := by decide +kernel
theorem dX5_cell_7 : decode cX5_cell 7 = .ok (.imul, 1) := by decide +kernel
theorem dX5_cell_8 : decode cX5_cell 8 = .ok (.iload_n 2, 1) := by decide +kernel
theorem dX5_cell_9 : decode cX5_cell 9 = .ok (.iadd, 1) := by decide +kernel
theorem dX5_cell_10 : decode cX5_cell 10 = .ok (.ireturn, 1) := by decide +kernel
theorem dX5_isKind_0 : decode cX5_isKind 0 = .ok (.iload_n 1, 1) := by decide +kernel
theorem dX5_isKind_1 : decode cX5_isKind 1 = .ok (.iconst 0, 1) := by decide +kernel
theorem dX5_isKind_2 : decode cX5_isKind 2 = .ok (.aload_n 0, 1) := by decide +kernel
theorem dX5_isKind_3 : decode cX5_isKind 3 = .ok (.getfield 13, 3) := by decide +kernel
theorem dX5_isKind_6 : decode cX5_isKind 6 = .ok (.iconst 0, 1) := by decide +kernel
theorem dX5_isKind_7 : decode cX5_isKind 7 = .ok (.iaload, 1) := by decide +kernel
theorem dX5_isKind_8 : decode cX5_isKind 8 = .ok (.iconst 1, 1) := by decide +kernel
theorem dX5_isKind_9 : decode cX5_isKind 9 = .ok (.isub, 1) := by decide +kernel
theorem dX5_isKind_10 : decode cX5_isKind 10 = .ok (.invokestatic 80, 3) := by decide +kernel
theorem dX5_isKind_13 : decode cX5_isKind 13 = .ok (.ireturn, 1) := by decide +kernel
theorem dX5_isHour_0 : decode cX5_isHour 0 = .ok (.iload_n 1, 1) := by decide +kernel
theorem dX5_isHour_1 : decode cX5_isHour 1 = .ok (.iconst 0, 1) := by decide +kernel
theorem dX5_isHour_2 : decode cX5_isHour 2 = .ok (.aload_n 0, 1) := by decide +kernel
theorem dX5_isHour_3 : decode cX5_isHour 3 = .ok (.getfield 7, 3) := by decide +kernel
theorem dX5_isHour_6 : decode cX5_isHour 6 = .ok (.iconst 0, 1) := by decide +kernel
theorem dX5_isHour_7 : decode cX5_isHour 7 = .ok (.iaload, 1) := by decide +kernel
theorem dX5_isHour_8 : decode cX5_isHour 8 = .ok (.iconst 1, 1) := by decide +kernel
theorem dX5_isHour_9 : decode cX5_isHour 9 = .ok (.isub, 1) := by decide +kernel
theorem dX5_isHour_10 : decode cX5_isHour 10 = .ok (.invokestatic 80, 3) := by decide +kernel
theorem dX5_isHour_13 : decode cX5_isHour 13 = .ok (.ireturn, 1) := by decide +kernel
theorem dX5_isOffer_0 : decode cX5_isOffer 0 = .ok (.iload_n 1, 1) := by decide +kernel
theorem dX5_isOffer_1 : decode cX5_isOffer 1 = .ok (.iconst 0, 1) := by decide +kernel
theorem dX5_isOffer_2 : decode cX5_isOffer 2 = .ok (.aload_n 0, 1) := by decide +kernel
theorem dX5_isOffer_3 : decode cX5_isOffer 3 = .ok (.getfield 19, 3) := by decide +kernel
theorem dX5_isOffer_6 : decode cX5_isOffer 6 = .ok (.iconst 0, 1) := by decide +kernel
theorem dX5_isOffer_7 : decode cX5_isOffer 7 = .ok (.iaload, 1) := by decide +kernel
theorem dX5_isOffer_8 : decode cX5_isOffer 8 = .ok (.iconst 1, 1) := by decide +kernel
theorem dX5_isOffer_9 : decode cX5_isOffer 9 = .ok (.isub, 1) := by decide +kernel
theorem dX5_isOffer_10 : decode cX5_isOffer 10 = .ok (.invokestatic 80, 3) := by decide +kernel
theorem dX5_isOffer_13 : decode cX5_isOffer 13 = .ok (.ireturn, 1) := by decide +kernel
theorem dX5_hours_0 : decode cX5_hours 0 = .ok (.aload_n 0, 1) := by decide +kernel
theorem dX5_hours_1 : decode cX5_hours 1 = .ok (.iconst 0, 1) := by decide +kernel
theorem dX5_hours_2 : decode cX5_hours 2 = .ok (.putfield 72, 3) := by decide +kernel
theorem dX5_hours_5 : decode cX5_hours 5 = .ok (.iload_n 1, 1) := by decide +kernel
theorem dX5_hours_6 : decode cX5_hours 6 = .ok (.iconst 1, 1) := by decide +kernel
theorem dX5_hours_7 : decode cX5_hours 7 = .ok (.bipush 40, 2) := by decide +kernel
theorem dX5_hours_9 : decode cX5_hours 9 = .ok (.invokestatic 80, 3) := by decide +kernel
theorem dX5_hours_12 : decode cX5_hours 12 = .ok (.ifCond .ne 5, 3) := by decide +kernel
theorem dX5_hours_15 : decode cX5_hours 15 = .ok (.iconst 0, 1) := by decide +kernel
theorem dX5_hours_16 : decode cX5_hours 16 = .ok (.ireturn, 1) := by decide +kernel
theorem dX5_hours_17 : decode cX5_hours 17 = .ok (.aload_n 0, 1) := by decide +kernel
theorem dX5_hours_18 : decode cX5_hours 18 = .ok (.getfield 7, 3) := by decide +kernel
theorem dX5_hours_21 : decode cX5_hours 21 = .ok (.iconst 0, 1) := by decide +kernel
theorem dX5_hours_22 : decode cX5_hours 22 = .ok (.iload_n 1, 1) := by decide +kernel
theorem dX5_hours_23 : decode cX5_hours 23 = .ok (.iastore, 1) := by decide +kernel
theorem dX5_hours_24 : decode cX5_hours 24 = .ok (.iload_n 1, 1) := by decide +kernel
theorem dX5_hours_25 : decode cX5_hours 25 = .ok (.istore_n 2, 1) := by decide +kernel
theorem dX5_hours_26 : decode cX5_hours 26 = .ok (.iload_n 2, 1) := by decide +kernel
theorem dX5_hours_27 : decode cX5_hours 27 = .ok (.bipush 40, 2) := by decide +kernel
theorem dX5_hours_29 : decode cX5_hours 29 = .ok (.if_icmp .ge 61, 3) := by decide +kernel
theorem dX5_hours_32 : decode cX5_hours 32 = .ok (.iconst 0, 1) := by decide +kernel
theorem dX5_hours_33 : decode cX5_hours 33 = .ok (.istore_n 3, 1) := by decide +kernel
theorem dX5_hours_34 : decode cX5_hours 34 = .ok (.iload_n 3, 1) := by decide +kernel
theorem dX5_hours_35 : decode cX5_hours 35 = .ok (.bipush 12, 2) := by decide +kernel
theorem dX5_hours_37 : decode cX5_hours 37 = .ok (.if_icmp .ge 21, 3) := by decide +kernel
theorem dX5_hours_40 : decode cX5_hours 40 = .ok (.aload_n 0, 1) := by decide +kernel
theorem dX5_hours_41 : decode cX5_hours 41 = .ok (.getfield 31, 3) := by decide +kernel
theorem dX5_hours_44 : decode cX5_hours 44 = .ok (.bipush 40, 2) := by decide +kernel
theorem dX5_hours_46 : decode cX5_hours 46 = .ok (.iload_n 3, 1) := by decide +kernel
theorem dX5_hours_47 : decode cX5_hours 47 = .ok (.imul, 1) := by decide +kernel
theorem dX5_hours_48 : decode cX5_hours 48 = .ok (.iload_n 2, 1) := by decide +kernel
theorem dX5_hours_49 : decode cX5_hours 49 = .ok (.iadd, 1) := by decide +kernel
theorem dX5_hours_50 : decode cX5_hours 50 = .ok (.iconst 0, 1) := by decide +kernel
theorem dX5_hours_51 : decode cX5_hours 51 = .ok (.iastore, 1) := by decide +kernel
theorem dX5_hours_52 : decode cX5_hours 52 = .ok (.iinc 3 1, 3) := by decide +kernel
theorem dX5_hours_55 : decode cX5_hours 55 = .ok (.goto (-21), 3) := by decide +kernel
theorem dX5_hours_58 : decode cX5_hours 58 = .ok (.iconst 0, 1) := by decide +kernel
theorem dX5_hours_59 : decode cX5_hours 59 = .ok (.istore_n 3, 1) := by decide +kernel
theorem dX5_hours_60 : decode cX5_hours 60 = .ok (.iload_n 3, 1) := by decide +kernel
theorem dX5_hours_61 : decode cX5_hours 61 = .ok (.bipush 6, 2) := by decide +kernel
theorem dX5_hours_63 : decode cX5_hours 63 = .ok (.if_icmp .ge 21, 3) := by decide +kernel
theorem dX5_hours_66 : decode cX5_hours 66 = .ok (.aload_n 0, 1) := by decide +kernel
theorem dX5_hours_67 : decode cX5_hours 67 = .ok (.getfield 34, 3) := by decide +kernel
theorem dX5_hours_70 : decode cX5_hours 70 = .ok (.bipush 40, 2) := by decide +kernel
theorem dX5_hours_72 : decode cX5_hours 72 = .ok (.iload_n 3, 1) := by decide +kernel
theorem dX5_hours_73 : decode cX5_hours 73 = .ok (.imul, 1) := by decide +kernel
theorem dX5_hours_74 : decode cX5_hours 74 = .ok (.iload_n 2, 1) := by decide +kernel
theorem dX5_hours_75 : decode cX5_hours 75 = .ok (.iadd, 1) := by decide +kernel
theorem dX5_hours_76 : decode cX5_hours 76 = .ok (.iconst 0, 1) := by decide +kernel
theorem dX5_hours_77 : decode cX5_hours 77 = .ok (.iastore, 1) := by decide +kernel
theorem dX5_hours_78 : decode cX5_hours 78 = .ok (.iinc 3 1, 3) := by decide +kernel
theorem dX5_hours_81 : decode cX5_hours 81 = .ok (.goto (-21), 3) := by decide +kernel
theorem dX5_hours_84 : decode cX5_hours 84 = .ok (.iinc 2 1, 3) := by decide +kernel
theorem dX5_hours_87 : decode cX5_hours 87 = .ok (.goto (-61), 3) := by decide +kernel
theorem dX5_hours_90 : decode cX5_hours 90 = .ok (.iconst 1, 1) := by decide +kernel
theorem dX5_hours_91 : decode cX5_hours 91 = .ok (.ireturn, 1) := by decide +kernel
theorem dX5_kind_0 : decode cX5_kind 0 = .ok (.aload_n 0, 1) := by decide +kernel
theorem dX5_kind_1 : decode cX5_kind 1 = .ok (.iconst 0, 1) := by decide +kernel
theorem dX5_kind_2 : decode cX5_kind 2 = .ok (.putfield 72, 3) := by decide +kernel
theorem dX5_kind_5 : decode cX5_kind 5 = .ok (.aload_n 0, 1) := by decide +kernel
theorem dX5_kind_6 : decode cX5_kind 6 = .ok (.getfield 13, 3) := by decide +kernel
theorem dX5_kind_9 : decode cX5_kind 9 = .ok (.iconst 0, 1) := by decide +kernel
theorem dX5_kind_10 : decode cX5_kind 10 = .ok (.iaload, 1) := by decide +kernel
theorem dX5_kind_11 : decode cX5_kind 11 = .ok (.iconst 3, 1) := by decide +kernel
theorem dX5_kind_12 : decode cX5_kind 12 = .ok (.if_icmp .eq 14, 3) := by decide +kernel
theorem dX5_kind_15 : decode cX5_kind 15 = .ok (.iload_n 1, 1) := by decide +kernel
theorem dX5_kind_16 : decode cX5_kind 16 = .ok (.iconst 1, 1) := by decide +kernel
theorem dX5_kind_17 : decode cX5_kind 17 = .ok (.sipush 1000, 3) := by decide +kernel
theorem dX5_kind_20 : decode cX5_kind 20 = .ok (.invokestatic 80, 3) := by decide +kernel
theorem dX5_kind_23 : decode cX5_kind 23 = .ok (.ifCond .ne 5, 3) := by decide +kernel
theorem dX5_kind_26 : decode cX5_kind 26 = .ok (.iconst (-1), 1) := by decide +kernel
theorem dX5_kind_27 : decode cX5_kind 27 = .ok (.ireturn, 1) := by decide +kernel
theorem dX5_kind_28 : decode cX5_kind 28 = .ok (.aload_n 0, 1) := by decide +kernel
theorem dX5_kind_29 : decode cX5_kind 29 = .ok (.getfield 16, 3) := by decide +kernel
theorem dX5_kind_32 : decode cX5_kind 32 = .ok (.aload_n 0, 1) := by decide +kernel
theorem dX5_kind_33 : decode cX5_kind 33 = .ok (.getfield 13, 3) := by decide +kernel
theorem dX5_kind_36 : decode cX5_kind 36 = .ok (.iconst 0, 1) := by decide +kernel
theorem dX5_kind_37 : decode cX5_kind 37 = .ok (.iaload, 1) := by decide +kernel
theorem dX5_kind_38 : decode cX5_kind 38 = .ok (.iload_n 1, 1) := by decide +kernel
theorem dX5_kind_39 : decode cX5_kind 39 = .ok (.iastore, 1) := by decide +kernel
theorem dX5_kind_40 : decode cX5_kind 40 = .ok (.aload_n 0, 1) := by decide +kernel
theorem dX5_kind_41 : decode cX5_kind 41 = .ok (.getfield 13, 3) := by decide +kernel
theorem dX5_kind_44 : decode cX5_kind 44 = .ok (.iconst 0, 1) := by decide +kernel
theorem dX5_kind_45 : decode cX5_kind 45 = .ok (.dup2, 1) := by decide +kernel
theorem dX5_kind_46 : decode cX5_kind 46 = .ok (.iaload, 1) := by decide +kernel
theorem dX5_kind_47 : decode cX5_kind 47 = .ok (.iconst 1, 1) := by decide +kernel
theorem dX5_kind_48 : decode cX5_kind 48 = .ok (.iadd, 1) := by decide +kernel
theorem dX5_kind_49 : decode cX5_kind 49 = .ok (.iastore, 1) := by decide +kernel
theorem dX5_kind_50 : decode cX5_kind 50 = .ok (.aload_n 0, 1) := by decide +kernel
theorem dX5_kind_51 : decode cX5_kind 51 = .ok (.getfield 13, 3) := by decide +kernel
theorem dX5_kind_54 : decode cX5_kind 54 = .ok (.iconst 0, 1) := by decide +kernel
theorem dX5_kind_55 : decode cX5_kind 55 = .ok (.iaload, 1) := by decide +kernel
theorem dX5_kind_56 : decode cX5_kind 56 = .ok (.iconst 1, 1) := by decide +kernel
theorem dX5_kind_57 : decode cX5_kind 57 = .ok (.isub, 1) := by decide +kernel
theorem dX5_kind_58 : decode cX5_kind 58 = .ok (.ireturn, 1) := by decide +kernel
theorem dX5_offer_0 : decode cX5_offer 0 = .ok (.aload_n 0, 1) := by decide +kernel
theorem dX5_offer_1 : decode cX5_offer 1 = .ok (.iconst 0, 1) := by decide +kernel
theorem dX5_offer_2 : decode cX5_offer 2 = .ok (.putfield 72, 3) := by decide +kernel
theorem dX5_offer_5 : decode cX5_offer 5 = .ok (.aload_n 0, 1) := by decide +kernel
theorem dX5_offer_6 : decode cX5_offer 6 = .ok (.getfield 19, 3) := by decide +kernel
theorem dX5_offer_9 : decode cX5_offer 9 = .ok (.iconst 0, 1) := by decide +kernel
theorem dX5_offer_10 : decode cX5_offer 10 = .ok (.iaload, 1) := by decide +kernel
theorem dX5_offer_11 : decode cX5_offer 11 = .ok (.bipush 6, 2) := by decide +kernel
theorem dX5_offer_13 : decode cX5_offer 13 = .ok (.if_icmp .eq 31, 3) := by decide +kernel
theorem dX5_offer_16 : decode cX5_offer 16 = .ok (.aload_n 0, 1) := by decide +kernel
theorem dX5_offer_17 : decode cX5_offer 17 = .ok (.iload_n 1, 1) := by decide +kernel
theorem dX5_offer_18 : decode cX5_offer 18 = .ok (.invokevirtual 84, 3) := by decide +kernel
theorem dX5_offer_21 : decode cX5_offer 21 = .ok (.ifCond .eq 23, 3) := by decide +kernel
theorem dX5_offer_24 : decode cX5_offer 24 = .ok (.iload_n 2, 1) := by decide +kernel
theorem dX5_offer_25 : decode cX5_offer 25 = .ok (.iconst 1, 1) := by decide +kernel
theorem dX5_offer_26 : decode cX5_offer 26 = .ok (.bipush 40, 2) := by decide +kernel
theorem dX5_offer_28 : decode cX5_offer 28 = .ok (.invokestatic 80, 3) := by decide +kernel
theorem dX5_offer_31 : decode cX5_offer 31 = .ok (.ifCond .eq 13, 3) := by decide +kernel
theorem dX5_offer_34 : decode cX5_offer 34 = .ok (.iload_n 3, 1) := by decide +kernel
theorem dX5_offer_35 : decode cX5_offer 35 = .ok (.iconst 0, 1) := by decide +kernel
theorem dX5_offer_36 : decode cX5_offer 36 = .ok (.ldc 88, 2) := by decide +kernel
theorem dX5_offer_38 : decode cX5_offer 38 = .ok (.invokestatic 80, 3) := by decide +kernel
theorem dX5_offer_41 : decode cX5_offer 41 = .ok (.ifCond .ne 5, 3) := by decide +kernel
theorem dX5_offer_44 : decode cX5_offer 44 = .ok (.iconst (-1), 1) := by decide +kernel
theorem dX5_offer_45 : decode cX5_offer 45 = .ok (.ireturn, 1) := by decide +kernel
theorem dX5_offer_46 : decode cX5_offer 46 = .ok (.aload_n 0, 1) := by decide +kernel
theorem dX5_offer_47 : decode cX5_offer 47 = .ok (.getfield 19, 3) := by decide +kernel
theorem dX5_offer_50 : decode cX5_offer 50 = .ok (.iconst 0, 1) := by decide +kernel
theorem dX5_offer_51 : decode cX5_offer 51 = .ok (.iaload, 1) := by decide +kernel
theorem dX5_offer_52 : decode cX5_offer 52 = .ok (.istore 4, 2) := by decide +kernel
theorem dX5_offer_54 : decode cX5_offer 54 = .ok (.aload_n 0, 1) := by decide +kernel
theorem dX5_offer_55 : decode cX5_offer 55 = .ok (.getfield 19, 3) := by decide +kernel
theorem dX5_offer_58 : decode cX5_offer 58 = .ok (.iconst 0, 1) := by decide +kernel
theorem dX5_offer_59 : decode cX5_offer 59 = .ok (.dup2, 1) := by decide +kernel
theorem dX5_offer_60 : decode cX5_offer 60 = .ok (.iaload, 1) := by decide +kernel
theorem dX5_offer_61 : decode cX5_offer 61 = .ok (.iconst 1, 1) := by decide +kernel
theorem dX5_offer_62 : decode cX5_offer 62 = .ok (.iadd, 1) := by decide +kernel
theorem dX5_offer_63 : decode cX5_offer 63 = .ok (.iastore, 1) := by decide +kernel
theorem dX5_offer_64 : decode cX5_offer 64 = .ok (.aload_n 0, 1) := by decide +kernel
theorem dX5_offer_65 : decode cX5_offer 65 = .ok (.getfield 22, 3) := by decide +kernel
theorem dX5_offer_68 : decode cX5_offer 68 = .ok (.iload 4, 2) := by decide +kernel
theorem dX5_offer_70 : decode cX5_offer 70 = .ok (.iload_n 1, 1) := by decide +kernel
theorem dX5_offer_71 : decode cX5_offer 71 = .ok (.iastore, 1) := by decide +kernel
theorem dX5_offer_72 : decode cX5_offer 72 = .ok (.aload_n 0, 1) := by decide +kernel
theorem dX5_offer_73 : decode cX5_offer 73 = .ok (.getfield 25, 3) := by decide +kernel
theorem dX5_offer_76 : decode cX5_offer 76 = .ok (.iload 4, 2) := by decide +kernel
theorem dX5_offer_78 : decode cX5_offer 78 = .ok (.iload_n 2, 1) := by decide +kernel
theorem dX5_offer_79 : decode cX5_offer 79 = .ok (.iastore, 1) := by decide +kernel
theorem dX5_offer_80 : decode cX5_offer 80 = .ok (.aload_n 0, 1) := by decide +kernel
theorem dX5_offer_81 : decode cX5_offer 81 = .ok (.getfield 28, 3) := by decide +kernel
theorem dX5_offer_84 : decode cX5_offer 84 = .ok (.iload 4, 2) := by decide +kernel
theorem dX5_offer_86 : decode cX5_offer 86 = .ok (.iload_n 3, 1) := by decide +kernel
theorem dX5_offer_87 : decode cX5_offer 87 = .ok (.iastore, 1) := by decide +kernel
theorem dX5_offer_88 : decode cX5_offer 88 = .ok (.iload 4, 2) := by decide +kernel
theorem dX5_offer_90 : decode cX5_offer 90 = .ok (.ireturn, 1) := by decide +kernel
theorem dX5_reprice_0 : decode cX5_reprice 0 = .ok (.aload_n 0, 1) := by decide +kernel
theorem dX5_reprice_1 : decode cX5_reprice 1 = .ok (.iconst 0, 1) := by decide +kernel
theorem dX5_reprice_2 : decode cX5_reprice 2 = .ok (.putfield 72, 3) := by decide +kernel
theorem dX5_reprice_5 : decode cX5_reprice 5 = .ok (.aload_n 0, 1) := by decide +kernel
theorem dX5_reprice_6 : decode cX5_reprice 6 = .ok (.iload_n 1, 1) := by decide +kernel
theorem dX5_reprice_7 : decode cX5_reprice 7 = .ok (.invokevirtual 89, 3) := by decide +kernel
theorem dX5_reprice_10 : decode cX5_reprice 10 = .ok (.ifCond .eq 13, 3) := by decide +kernel
theorem dX5_reprice_13 : decode cX5_reprice 13 = .ok (.iload_n 2, 1) := by decide +kernel
theorem dX5_reprice_14 : decode cX5_reprice 14 = .ok (.iconst 0, 1) := by decide +kernel
theorem dX5_reprice_15 : decode cX5_reprice 15 = .ok (.ldc 88, 2) := by decide +kernel
theorem dX5_reprice_17 : decode cX5_reprice 17 = .ok (.invokestatic 80, 3) := by decide +kernel
theorem dX5_reprice_20 : decode cX5_reprice 20 = .ok (.ifCond .ne 5, 3) := by decide +kernel
theorem dX5_reprice_23 : decode cX5_reprice 23 = .ok (.iconst 0, 1) := by decide +kernel
theorem dX5_reprice_24 : decode cX5_reprice 24 = .ok (.ireturn, 1) := by decide +kernel
theorem dX5_reprice_25 : decode cX5_reprice 25 = .ok (.aload_n 0, 1) := by decide +kernel
theorem dX5_reprice_26 : decode cX5_reprice 26 = .ok (.getfield 28, 3) := by decide +kernel
theorem dX5_reprice_29 : decode cX5_reprice 29 = .ok (.iload_n 1, 1) := by decide +kernel
theorem dX5_reprice_30 : decode cX5_reprice 30 = .ok (.iload_n 2, 1) := by decide +kernel
theorem dX5_reprice_31 : decode cX5_reprice 31 = .ok (.iastore, 1) := by decide +kernel
theorem dX5_reprice_32 : decode cX5_reprice 32 = .ok (.iconst 1, 1) := by decide +kernel
theorem dX5_reprice_33 : decode cX5_reprice 33 = .ok (.ireturn, 1) := by decide +kernel
theorem dX5_need_0 : decode cX5_need 0 = .ok (.aload_n 0, 1) := by decide +kernel
theorem dX5_need_1 : decode cX5_need 1 = .ok (.iconst 0, 1) := by decide +kernel
theorem dX5_need_2 : decode cX5_need 2 = .ok (.putfield 72, 3) := by decide +kernel
theorem dX5_need_5 : decode cX5_need 5 = .ok (.iload_n 1, 1) := by decide +kernel
theorem dX5_need_6 : decode cX5_need 6 = .ok (.iconst 0, 1) := by decide +kernel
theorem dX5_need_7 : decode cX5_need 7 = .ok (.iconst 3, 1) := by decide +kernel
theorem dX5_need_8 : decode cX5_need 8 = .ok (.invokestatic 80, 3) := by decide +kernel
theorem dX5_need_11 : decode cX5_need 11 = .ok (.ifCond .eq 30, 3) := by decide +kernel
theorem dX5_need_14 : decode cX5_need 14 = .ok (.aload_n 0, 1) := by decide +kernel
theorem dX5_need_15 : decode cX5_need 15 = .ok (.iload_n 2, 1) := by decide +kernel
theorem dX5_need_16 : decode cX5_need 16 = .ok (.invokevirtual 84, 3) := by decide +kernel
theorem dX5_need_19 : decode cX5_need 19 = .ok (.ifCond .eq 22, 3) := by decide +kernel
theorem dX5_need_22 : decode cX5_need 22 = .ok (.aload_n 0, 1) := by decide +kernel
theorem dX5_need_23 : decode cX5_need 23 = .ok (.iload_n 3, 1) := by decide +kernel
theorem dX5_need_24 : decode cX5_need 24 = .ok (.invokevirtual 92, 3) := by decide +kernel
theorem dX5_need_27 : decode cX5_need 27 = .ok (.ifCond .eq 14, 3) := by decide +kernel
theorem dX5_need_30 : decode cX5_need 30 = .ok (.iload 4, 2) := by decide +kernel
theorem dX5_need_32 : decode cX5_need 32 = .ok (.iconst 0, 1) := by decide +kernel
theorem dX5_need_33 : decode cX5_need 33 = .ok (.bipush 9, 2) := by decide +kernel
theorem dX5_need_35 : decode cX5_need 35 = .ok (.invokestatic 80, 3) := by decide +kernel
theorem dX5_need_38 : decode cX5_need 38 = .ok (.ifCond .ne 5, 3) := by decide +kernel
theorem dX5_need_41 : decode cX5_need 41 = .ok (.iconst 0, 1) := by decide +kernel
theorem dX5_need_42 : decode cX5_need 42 = .ok (.ireturn, 1) := by decide +kernel
theorem dX5_need_43 : decode cX5_need 43 = .ok (.aload_n 0, 1) := by decide +kernel
theorem dX5_need_44 : decode cX5_need 44 = .ok (.getfield 31, 3) := by decide +kernel
theorem dX5_need_47 : decode cX5_need 47 = .ok (.iload_n 1, 1) := by decide +kernel
theorem dX5_need_48 : decode cX5_need 48 = .ok (.iload_n 2, 1) := by decide +kernel
theorem dX5_need_49 : decode cX5_need 49 = .ok (.iload_n 3, 1) := by decide +kernel
theorem dX5_need_50 : decode cX5_need 50 = .ok (.invokestatic 95, 3) := by decide +kernel
theorem dX5_need_53 : decode cX5_need 53 = .ok (.iload 4, 2) := by decide +kernel
theorem dX5_need_55 : decode cX5_need 55 = .ok (.iastore, 1) := by decide +kernel
theorem dX5_need_56 : decode cX5_need 56 = .ok (.iconst 1, 1) := by decide +kernel
theorem dX5_need_57 : decode cX5_need 57 = .ok (.ireturn, 1) := by decide +kernel
theorem dX5_needs_0 : decode cX5_needs 0 = .ok (.aload_n 0, 1) := by decide +kernel
theorem dX5_needs_1 : decode cX5_needs 1 = .ok (.iconst 0, 1) := by decide +kernel
theorem dX5_needs_2 : decode cX5_needs 2 = .ok (.putfield 72, 3) := by decide +kernel
theorem dX5_needs_5 : decode cX5_needs 5 = .ok (.iload_n 1, 1) := by decide +kernel
theorem dX5_needs_6 : decode cX5_needs 6 = .ok (.iconst 0, 1) := by decide +kernel
theorem dX5_needs_7 : decode cX5_needs 7 = .ok (.iconst 3, 1) := by decide +kernel
theorem dX5_needs_8 : decode cX5_needs 8 = .ok (.invokestatic 80, 3) := by decide +kernel
theorem dX5_needs_11 : decode cX5_needs 11 = .ok (.ifCond .eq 32, 3) := by decide +kernel
theorem dX5_needs_14 : decode cX5_needs 14 = .ok (.aload_n 0, 1) := by decide +kernel
theorem dX5_needs_15 : decode cX5_needs 15 = .ok (.iload_n 2, 1) := by decide +kernel
theorem dX5_needs_16 : decode cX5_needs 16 = .ok (.invokevirtual 84, 3) := by decide +kernel
theorem dX5_needs_19 : decode cX5_needs 19 = .ok (.ifCond .eq 24, 3) := by decide +kernel
theorem dX5_needs_22 : decode cX5_needs 22 = .ok (.iload_n 3, 1) := by decide +kernel
theorem dX5_needs_23 : decode cX5_needs 23 = .ok (.iconst 0, 1) := by decide +kernel
theorem dX5_needs_24 : decode cX5_needs 24 = .ok (.aload_n 0, 1) := by decide +kernel
theorem dX5_needs_25 : decode cX5_needs 25 = .ok (.getfield 7, 3) := by decide +kernel
theorem dX5_needs_28 : decode cX5_needs 28 = .ok (.iconst 0, 1) := by decide +kernel
theorem dX5_needs_29 : decode cX5_needs 29 = .ok (.iaload, 1) := by decide +kernel
theorem dX5_needs_30 : decode cX5_needs 30 = .ok (.bipush 8, 2) := by decide +kernel
theorem dX5_needs_32 : decode cX5_needs 32 = .ok (.isub, 1) := by decide +kernel
theorem dX5_needs_33 : decode cX5_needs 33 = .ok (.invokestatic 80, 3) := by decide +kernel
theorem dX5_needs_36 : decode cX5_needs 36 = .ok (.ifCond .eq 7, 3) := by decide +kernel
theorem dX5_needs_39 : decode cX5_needs 39 = .ok (.iconst 1, 1) := by decide +kernel
theorem dX5_needs_40 : decode cX5_needs 40 = .ok (.goto 4, 3) := by decide +kernel
theorem dX5_needs_43 : decode cX5_needs 43 = .ok (.iconst 0, 1) := by decide +kernel
theorem dX5_needs_44 : decode cX5_needs 44 = .ok (.istore 5, 2) := by decide +kernel
theorem dX5_needs_46 : decode cX5_needs 46 = .ok (.iconst 0, 1) := by decide +kernel
theorem dX5_needs_47 : decode cX5_needs 47 = .ok (.istore 6, 2) := by decide +kernel
theorem dX5_needs_49 : decode cX5_needs 49 = .ok (.iload 6, 2) := by decide +kernel
theorem dX5_needs_51 : decode cX5_needs 51 = .ok (.bipush 8, 2) := by decide +kernel
theorem dX5_needs_53 : decode cX5_needs 53 = .ok (.if_icmp .ge 39, 3) := by decide +kernel
theorem dX5_needs_56 : decode cX5_needs 56 = .ok (.iload 5, 2) := by decide +kernel
theorem dX5_needs_58 : decode cX5_needs 58 = .ok (.ifCond .eq 25, 3) := by decide +kernel
theorem dX5_needs_61 : decode cX5_needs 61 = .ok (.iload 4, 2) := by decide +kernel
theorem dX5_needs_63 : decode cX5_needs 63 = .ok (.bipush 28, 2) := by decide +kernel
theorem dX5_needs_65 : decode cX5_needs 65 = .ok (.iconst 4, 1) := by decide +kernel
theorem dX5_needs_66 : decode cX5_needs 66 = .ok (.iload 6, 2) := by decide +kernel
theorem dX5_needs_68 : decode cX5_needs 68 = .ok (.imul, 1) := by decide +kernel
theorem dX5_needs_69 : decode cX5_needs 69 = .ok (.isub, 1) := by decide +kernel
theorem dX5_needs_70 : decode cX5_needs 70 = .ok (.ishr, 1) := by decide +kernel
theorem dX5_needs_71 : decode cX5_needs 71 = .ok (.bipush 15, 2) := by decide +kernel
theorem dX5_needs_73 : decode cX5_needs 73 = .ok (.iand, 1) := by decide +kernel
theorem dX5_needs_74 : decode cX5_needs 74 = .ok (.bipush 10, 2) := by decide +kernel
theorem dX5_needs_76 : decode cX5_needs 76 = .ok (.if_icmp .ge 7, 3) := by decide +kernel
theorem dX5_needs_79 : decode cX5_needs 79 = .ok (.iconst 1, 1) := by decide +kernel
theorem dX5_needs_80 : decode cX5_needs 80 = .ok (.goto 4, 3) := by decide +kernel
theorem dX5_needs_83 : decode cX5_needs 83 = .ok (.iconst 0, 1) := by decide +kernel
theorem dX5_needs_84 : decode cX5_needs 84 = .ok (.istore 5, 2) := by decide +kernel
theorem dX5_needs_86 : decode cX5_needs 86 = .ok (.iinc 6 1, 3) := by decide +kernel
theorem dX5_needs_89 : decode cX5_needs 89 = .ok (.goto (-40), 3) := by decide +kernel
theorem dX5_needs_92 : decode cX5_needs 92 = .ok (.iconst 0, 1) := by decide +kernel
theorem dX5_needs_93 : decode cX5_needs 93 = .ok (.istore 6, 2) := by decide +kernel
theorem dX5_needs_95 : decode cX5_needs 95 = .ok (.iload 6, 2) := by decide +kernel
theorem dX5_needs_97 : decode cX5_needs 97 = .ok (.bipush 8, 2) := by decide +kernel
theorem dX5_needs_99 : decode cX5_needs 99 = .ok (.if_icmp .ge 41, 3) := by decide +kernel
theorem dX5_needs_102 : decode cX5_needs 102 = .ok (.iload 5, 2) := by decide +kernel
theorem dX5_needs_104 : decode cX5_needs 104 = .ok (.ifCond .eq 36, 3) := by decide +kernel
theorem dX5_needs_107 : decode cX5_needs 107 = .ok (.aload_n 0, 1) := by decide +kernel
theorem dX5_needs_108 : decode cX5_needs 108 = .ok (.getfield 31, 3) := by decide +kernel
theorem dX5_needs_111 : decode cX5_needs 111 = .ok (.iload_n 1, 1) := by decide +kernel
theorem dX5_needs_112 : decode cX5_needs 112 = .ok (.iload_n 2, 1) := by decide +kernel
theorem dX5_needs_113 : decode cX5_needs 113 = .ok (.iload_n 3, 1) := by decide +kernel
theorem dX5_needs_114 : decode cX5_needs 114 = .ok (.iload 6, 2) := by decide +kernel
theorem dX5_needs_116 : decode cX5_needs 116 = .ok (.iadd, 1) := by decide +kernel
theorem dX5_needs_117 : decode cX5_needs 117 = .ok (.invokestatic 95, 3) := by decide +kernel
theorem dX5_needs_120 : decode cX5_needs 120 = .ok (.iload 4, 2) := by decide +kernel
theorem dX5_needs_122 : decode cX5_needs 122 = .ok (.bipush 28, 2) := by decide +kernel
theorem dX5_needs_124 : decode cX5_needs 124 = .ok (.iconst 4, 1) := by decide +kernel
theorem dX5_needs_125 : decode cX5_needs 125 = .ok (.iload 6, 2) := by decide +kernel
theorem dX5_needs_127 : decode cX5_needs 127 = .ok (.imul, 1) := by decide +kernel
theorem dX5_needs_128 : decode cX5_needs 128 = .ok (.isub, 1) := by decide +kernel
theorem dX5_needs_129 : decode cX5_needs 129 = .ok (.ishr, 1) := by decide +kernel
theorem dX5_needs_130 : decode cX5_needs 130 = .ok (.bipush 15, 2) := by decide +kernel
theorem dX5_needs_132 : decode cX5_needs 132 = .ok (.iand, 1) := by decide +kernel
theorem dX5_needs_133 : decode cX5_needs 133 = .ok (.iastore, 1) := by decide +kernel
theorem dX5_needs_134 : decode cX5_needs 134 = .ok (.iinc 6 1, 3) := by decide +kernel
theorem dX5_needs_137 : decode cX5_needs 137 = .ok (.goto (-42), 3) := by decide +kernel
theorem dX5_needs_140 : decode cX5_needs 140 = .ok (.iload 5, 2) := by decide +kernel
theorem dX5_needs_142 : decode cX5_needs 142 = .ok (.ireturn, 1) := by decide +kernel
theorem dX5_buy_0 : decode cX5_buy 0 = .ok (.aload_n 0, 1) := by decide +kernel
theorem dX5_buy_1 : decode cX5_buy 1 = .ok (.iconst 0, 1) := by decide +kernel
theorem dX5_buy_2 : decode cX5_buy 2 = .ok (.putfield 72, 3) := by decide +kernel
theorem dX5_buy_5 : decode cX5_buy 5 = .ok (.aload_n 0, 1) := by decide +kernel
theorem dX5_buy_6 : decode cX5_buy 6 = .ok (.iload_n 1, 1) := by decide +kernel
theorem dX5_buy_7 : decode cX5_buy 7 = .ok (.invokevirtual 89, 3) := by decide +kernel
theorem dX5_buy_10 : decode cX5_buy 10 = .ok (.ifCond .eq 21, 3) := by decide +kernel
theorem dX5_buy_13 : decode cX5_buy 13 = .ok (.aload_n 0, 1) := by decide +kernel
theorem dX5_buy_14 : decode cX5_buy 14 = .ok (.iload_n 2, 1) := by decide +kernel
theorem dX5_buy_15 : decode cX5_buy 15 = .ok (.invokevirtual 92, 3) := by decide +kernel
theorem dX5_buy_18 : decode cX5_buy 18 = .ok (.ifCond .eq 13, 3) := by decide +kernel
theorem dX5_buy_21 : decode cX5_buy 21 = .ok (.iload_n 3, 1) := by decide +kernel
theorem dX5_buy_22 : decode cX5_buy 22 = .ok (.iconst 0, 1) := by decide +kernel
theorem dX5_buy_23 : decode cX5_buy 23 = .ok (.bipush 60, 2) := by decide +kernel
theorem dX5_buy_25 : decode cX5_buy 25 = .ok (.invokestatic 80, 3) := by decide +kernel
theorem dX5_buy_28 : decode cX5_buy 28 = .ok (.ifCond .ne 5, 3) := by decide +kernel
theorem dX5_buy_31 : decode cX5_buy 31 = .ok (.iconst 0, 1) := by decide +kernel
theorem dX5_buy_32 : decode cX5_buy 32 = .ok (.ireturn, 1) := by decide +kernel
theorem dX5_buy_33 : decode cX5_buy 33 = .ok (.aload_n 0, 1) := by decide +kernel
theorem dX5_buy_34 : decode cX5_buy 34 = .ok (.getfield 34, 3) := by decide +kernel
theorem dX5_buy_37 : decode cX5_buy 37 = .ok (.bipush 40, 2) := by decide +kernel
theorem dX5_buy_39 : decode cX5_buy 39 = .ok (.iload_n 1, 1) := by decide +kernel
theorem dX5_buy_40 : decode cX5_buy 40 = .ok (.imul, 1) := by decide +kernel
theorem dX5_buy_41 : decode cX5_buy 41 = .ok (.iload_n 2, 1) := by decide +kernel
theorem dX5_buy_42 : decode cX5_buy 42 = .ok (.iadd, 1) := by decide +kernel
theorem dX5_buy_43 : decode cX5_buy 43 = .ok (.iload_n 3, 1) := by decide +kernel
theorem dX5_buy_44 : decode cX5_buy 44 = .ok (.iastore, 1) := by decide +kernel
theorem dX5_buy_45 : decode cX5_buy 45 = .ok (.iconst 1, 1) := by decide +kernel
theorem dX5_buy_46 : decode cX5_buy 46 = .ok (.ireturn, 1) := by decide +kernel
theorem dX5_clearKind_0 : decode cX5_clearKind 0 = .ok (.iconst 0, 1) := by decide +kernel
theorem dX5_clearKind_1 : decode cX5_clearKind 1 = .ok (.istore_n 2, 1) := by decide +kernel
theorem dX5_clearKind_2 : decode cX5_clearKind 2 = .ok (.iload_n 2, 1) := by decide +kernel
theorem dX5_clearKind_3 : decode cX5_clearKind 3 = .ok (.aload_n 0, 1) := by decide +kernel
theorem dX5_clearKind_4 : decode cX5_clearKind 4 = .ok (.getfield 19, 3) := by decide +kernel
theorem dX5_clearKind_7 : decode cX5_clearKind 7 = .ok (.iconst 0, 1) := by decide +kernel
theorem dX5_clearKind_8 : decode cX5_clearKind 8 = .ok (.iaload, 1) := by decide +kernel
theorem dX5_clearKind_9 : decode cX5_clearKind 9 = .ok (.if_icmp .ge 45, 3) := by decide +kernel
theorem dX5_clearKind_12 : decode cX5_clearKind 12 = .ok (.iconst 0, 1) := by decide +kernel
theorem dX5_clearKind_13 : decode cX5_clearKind 13 = .ok (.istore_n 3, 1) := by decide +kernel
theorem dX5_clearKind_14 : decode cX5_clearKind 14 = .ok (.iload_n 3, 1) := by decide +kernel
theorem dX5_clearKind_15 : decode cX5_clearKind 15 = .ok (.bipush 40, 2) := by decide +kernel
theorem dX5_clearKind_17 : decode cX5_clearKind 17 = .ok (.if_icmp .ge 31, 3) := by decide +kernel
theorem dX5_clearKind_20 : decode cX5_clearKind 20 = .ok (.aload_n 0, 1) := by decide +kernel
theorem dX5_clearKind_21 : decode cX5_clearKind 21 = .ok (.getfield 22, 3) := by decide +kernel
theorem dX5_clearKind_24 : decode cX5_clearKind 24 = .ok (.iload_n 2, 1) := by decide +kernel
theorem dX5_clearKind_25 : decode cX5_clearKind 25 = .ok (.iaload, 1) := by decide +kernel
theorem dX5_clearKind_26 : decode cX5_clearKind 26 = .ok (.iload_n 1, 1) := by decide +kernel
theorem dX5_clearKind_27 : decode cX5_clearKind 27 = .ok (.if_icmp .ne 21, 3) := by decide +kernel
theorem dX5_clearKind_30 : decode cX5_clearKind 30 = .ok (.aload_n 0, 1) := by decide +kernel
theorem dX5_clearKind_31 : decode cX5_clearKind 31 = .ok (.getfield 34, 3) := by decide +kernel
theorem dX5_clearKind_34 : decode cX5_clearKind 34 = .ok (.bipush 40, 2) := by decide +kernel
theorem dX5_clearKind_36 : decode cX5_clearKind 36 = .ok (.iload_n 2, 1) := by decide +kernel
theorem dX5_clearKind_37 : decode cX5_clearKind 37 = .ok (.imul, 1) := by decide +kernel
theorem dX5_clearKind_38 : decode cX5_clearKind 38 = .ok (.iload_n 3, 1) := by decide +kernel
theorem dX5_clearKind_39 : decode cX5_clearKind 39 = .ok (.iadd, 1) := by decide +kernel
theorem dX5_clearKind_40 : decode cX5_clearKind 40 = .ok (.iconst 0, 1) := by decide +kernel
theorem dX5_clearKind_41 : decode cX5_clearKind 41 = .ok (.iastore, 1) := by decide +kernel
theorem dX5_clearKind_42 : decode cX5_clearKind 42 = .ok (.iinc 3 1, 3) := by decide +kernel
theorem dX5_clearKind_45 : decode cX5_clearKind 45 = .ok (.goto (-31), 3) := by decide +kernel
theorem dX5_clearKind_48 : decode cX5_clearKind 48 = .ok (.iinc 2 1, 3) := by decide +kernel
theorem dX5_clearKind_51 : decode cX5_clearKind 51 = .ok (.goto (-49), 3) := by decide +kernel
theorem dX5_clearKind_54 : decode cX5_clearKind 54 = .ok (.return_, 1) := by decide +kernel
theorem dX5_clear_0 : decode cX5_clear 0 = .ok (.aload_n 0, 1) := by decide +kernel
theorem dX5_clear_1 : decode cX5_clear 1 = .ok (.iconst 0, 1) := by decide +kernel
theorem dX5_clear_2 : decode cX5_clear 2 = .ok (.putfield 72, 3) := by decide +kernel
theorem dX5_clear_5 : decode cX5_clear 5 = .ok (.aload_n 0, 1) := by decide +kernel
theorem dX5_clear_6 : decode cX5_clear 6 = .ok (.iload_n 1, 1) := by decide +kernel
theorem dX5_clear_7 : decode cX5_clear 7 = .ok (.invokevirtual 84, 3) := by decide +kernel
theorem dX5_clear_10 : decode cX5_clear 10 = .ok (.ifCond .ne 5, 3) := by decide +kernel
theorem dX5_clear_13 : decode cX5_clear 13 = .ok (.iconst 0, 1) := by decide +kernel
theorem dX5_clear_14 : decode cX5_clear 14 = .ok (.ireturn, 1) := by decide +kernel
theorem dX5_clear_15 : decode cX5_clear 15 = .ok (.aload_n 0, 1) := by decide +kernel
theorem dX5_clear_16 : decode cX5_clear 16 = .ok (.iload_n 1, 1) := by decide +kernel
theorem dX5_clear_17 : decode cX5_clear 17 = .ok (.invokevirtual 99, 3) := by decide +kernel
theorem dX5_clear_20 : decode cX5_clear 20 = .ok (.iconst 1, 1) := by decide +kernel
theorem dX5_clear_21 : decode cX5_clear 21 = .ok (.ireturn, 1) := by decide +kernel
theorem dX5_needOf_0 : decode cX5_needOf 0 = .ok (.iconst 0, 1) := by decide +kernel
theorem dX5_needOf_1 : decode cX5_needOf 1 = .ok (.istore_n 3, 1) := by decide +kernel
theorem dX5_needOf_2 : decode cX5_needOf 2 = .ok (.iconst 0, 1) := by decide +kernel
theorem dX5_needOf_3 : decode cX5_needOf 3 = .ok (.istore 4, 2) := by decide +kernel
theorem dX5_needOf_5 : decode cX5_needOf 5 = .ok (.iload 4, 2) := by decide +kernel
theorem dX5_needOf_7 : decode cX5_needOf 7 = .ok (.iconst 4, 1) := by decide +kernel
theorem dX5_needOf_8 : decode cX5_needOf 8 = .ok (.if_icmp .ge 24, 3) := by decide +kernel
theorem dX5_needOf_11 : decode cX5_needOf 11 = .ok (.iload_n 3, 1) := by decide +kernel
theorem dX5_needOf_12 : decode cX5_needOf 12 = .ok (.aload_n 0, 1) := by decide +kernel
theorem dX5_needOf_13 : decode cX5_needOf 13 = .ok (.getfield 31, 3) := by decide +kernel
theorem dX5_needOf_16 : decode cX5_needOf 16 = .ok (.iload 4, 2) := by decide +kernel
theorem dX5_needOf_18 : decode cX5_needOf 18 = .ok (.iload_n 1, 1) := by decide +kernel
theorem dX5_needOf_19 : decode cX5_needOf 19 = .ok (.iload_n 2, 1) := by decide +kernel
theorem dX5_needOf_20 : decode cX5_needOf 20 = .ok (.invokestatic 95, 3) := by decide +kernel
theorem dX5_needOf_23 : decode cX5_needOf 23 = .ok (.iaload, 1) := by decide +kernel
theorem dX5_needOf_24 : decode cX5_needOf 24 = .ok (.iadd, 1) := by decide +kernel
theorem dX5_needOf_25 : decode cX5_needOf 25 = .ok (.istore_n 3, 1) := by decide +kernel
theorem dX5_needOf_26 : decode cX5_needOf 26 = .ok (.iinc 4 1, 3) := by decide +kernel
theorem dX5_needOf_29 : decode cX5_needOf 29 = .ok (.goto (-24), 3) := by decide +kernel
theorem dX5_needOf_32 : decode cX5_needOf 32 = .ok (.iload_n 3, 1) := by decide +kernel
theorem dX5_needOf_33 : decode cX5_needOf 33 = .ok (.ireturn, 1) := by decide +kernel
theorem dX5_aheadOf_0 : decode cX5_aheadOf 0 = .ok (.iconst 0, 1) := by decide +kernel
theorem dX5_aheadOf_1 : decode cX5_aheadOf 1 = .ok (.istore_n 3, 1) := by decide +kernel
theorem dX5_aheadOf_2 : decode cX5_aheadOf 2 = .ok (.iconst 0, 1) := by decide +kernel
theorem dX5_aheadOf_3 : decode cX5_aheadOf 3 = .ok (.istore 4, 2) := by decide +kernel
theorem dX5_aheadOf_5 : decode cX5_aheadOf 5 = .ok (.iload 4, 2) := by decide +kernel
theorem dX5_aheadOf_7 : decode cX5_aheadOf 7 = .ok (.aload_n 0, 1) := by decide +kernel
theorem dX5_aheadOf_8 : decode cX5_aheadOf 8 = .ok (.getfield 19, 3) := by decide +kernel
theorem dX5_aheadOf_11 : decode cX5_aheadOf 11 = .ok (.iconst 0, 1) := by decide +kernel
theorem dX5_aheadOf_12 : decode cX5_aheadOf 12 = .ok (.iaload, 1) := by decide +kernel
theorem dX5_aheadOf_13 : decode cX5_aheadOf 13 = .ok (.if_icmp .ge 69, 3) := by decide +kernel
theorem dX5_aheadOf_16 : decode cX5_aheadOf 16 = .ok (.iconst 0, 1) := by decide +kernel
theorem dX5_aheadOf_17 : decode cX5_aheadOf 17 = .ok (.istore 5, 2) := by decide +kernel
theorem dX5_aheadOf_19 : decode cX5_aheadOf 19 = .ok (.iload 5, 2) := by decide +kernel
theorem dX5_aheadOf_21 : decode cX5_aheadOf 21 = .ok (.iload_n 2, 1) := by decide +kernel
theorem dX5_aheadOf_22 : decode cX5_aheadOf 22 = .ok (.if_icmp .gt 54, 3) := by decide +kernel
theorem dX5_aheadOf_25 : decode cX5_aheadOf 25 = .ok (.aload_n 0, 1) := by decide +kernel
theorem dX5_aheadOf_26 : decode cX5_aheadOf 26 = .ok (.getfield 22, 3) := by decide +kernel
theorem dX5_aheadOf_29 : decode cX5_aheadOf 29 = .ok (.iload 4, 2) := by decide +kernel
theorem dX5_aheadOf_31 : decode cX5_aheadOf 31 = .ok (.iaload, 1) := by decide +kernel
theorem dX5_aheadOf_32 : decode cX5_aheadOf 32 = .ok (.iload_n 1, 1) := by decide +kernel
theorem dX5_aheadOf_33 : decode cX5_aheadOf 33 = .ok (.if_icmp .ne 43, 3) := by decide +kernel
theorem dX5_aheadOf_36 : decode cX5_aheadOf 36 = .ok (.iload_n 3, 1) := by decide +kernel
theorem dX5_aheadOf_37 : decode cX5_aheadOf 37 = .ok (.iload 5, 2) := by decide +kernel
theorem dX5_aheadOf_39 : decode cX5_aheadOf 39 = .ok (.aload_n 0, 1) := by decide +kernel
theorem dX5_aheadOf_40 : decode cX5_aheadOf 40 = .ok (.getfield 25, 3) := by decide +kernel
theorem dX5_aheadOf_43 : decode cX5_aheadOf 43 = .ok (.iload 4, 2) := by decide +kernel
theorem dX5_aheadOf_45 : decode cX5_aheadOf 45 = .ok (.iaload, 1) := by decide +kernel
theorem dX5_aheadOf_46 : decode cX5_aheadOf 46 = .ok (.iadd, 1) := by decide +kernel
theorem dX5_aheadOf_47 : decode cX5_aheadOf 47 = .ok (.iload_n 2, 1) := by decide +kernel
theorem dX5_aheadOf_48 : decode cX5_aheadOf 48 = .ok (.if_icmp .le 19, 3) := by decide +kernel
theorem dX5_aheadOf_51 : decode cX5_aheadOf 51 = .ok (.aload_n 0, 1) := by decide +kernel
theorem dX5_aheadOf_52 : decode cX5_aheadOf 52 = .ok (.getfield 34, 3) := by decide +kernel
theorem dX5_aheadOf_55 : decode cX5_aheadOf 55 = .ok (.bipush 40, 2) := by decide +kernel
theorem dX5_aheadOf_57 : decode cX5_aheadOf 57 = .ok (.iload 4, 2) := by decide +kernel
theorem dX5_aheadOf_59 : decode cX5_aheadOf 59 = .ok (.imul, 1) := by decide +kernel
theorem dX5_aheadOf_60 : decode cX5_aheadOf 60 = .ok (.iload 5, 2) := by decide +kernel
theorem dX5_aheadOf_62 : decode cX5_aheadOf 62 = .ok (.iadd, 1) := by decide +kernel
theorem dX5_aheadOf_63 : decode cX5_aheadOf 63 = .ok (.iaload, 1) := by decide +kernel
theorem dX5_aheadOf_64 : decode cX5_aheadOf 64 = .ok (.goto 4, 3) := by decide +kernel
theorem dX5_aheadOf_67 : decode cX5_aheadOf 67 = .ok (.iconst 0, 1) := by decide +kernel
theorem dX5_aheadOf_68 : decode cX5_aheadOf 68 = .ok (.iadd, 1) := by decide +kernel
theorem dX5_aheadOf_69 : decode cX5_aheadOf 69 = .ok (.istore_n 3, 1) := by decide +kernel
theorem dX5_aheadOf_70 : decode cX5_aheadOf 70 = .ok (.iinc 5 1, 3) := by decide +kernel
theorem dX5_aheadOf_73 : decode cX5_aheadOf 73 = .ok (.goto (-54), 3) := by decide +kernel
theorem dX5_aheadOf_76 : decode cX5_aheadOf 76 = .ok (.iinc 4 1, 3) := by decide +kernel
theorem dX5_aheadOf_79 : decode cX5_aheadOf 79 = .ok (.goto (-74), 3) := by decide +kernel
theorem dX5_aheadOf_82 : decode cX5_aheadOf 82 = .ok (.iload_n 3, 1) := by decide +kernel
theorem dX5_aheadOf_83 : decode cX5_aheadOf 83 = .ok (.ireturn, 1) := by decide +kernel
theorem dX5_besideOf_0 : decode cX5_besideOf 0 = .ok (.aload_n 0, 1) := by decide +kernel
theorem dX5_besideOf_1 : decode cX5_besideOf 1 = .ok (.iload_n 1, 1) := by decide +kernel
theorem dX5_besideOf_2 : decode cX5_besideOf 2 = .ok (.iload_n 2, 1) := by decide +kernel
theorem dX5_besideOf_3 : decode cX5_besideOf 3 = .ok (.invokevirtual 103, 3) := by decide +kernel
theorem dX5_besideOf_6 : decode cX5_besideOf 6 = .ok (.aload_n 0, 1) := by decide +kernel
theorem dX5_besideOf_7 : decode cX5_besideOf 7 = .ok (.iload_n 1, 1) := by decide +kernel
theorem dX5_besideOf_8 : decode cX5_besideOf 8 = .ok (.iload_n 2, 1) := by decide +kernel
theorem dX5_besideOf_9 : decode cX5_besideOf 9 = .ok (.invokevirtual 107, 3) := by decide +kernel
theorem dX5_besideOf_12 : decode cX5_besideOf 12 = .ok (.isub, 1) := by decide +kernel
theorem dX5_besideOf_13 : decode cX5_besideOf 13 = .ok (.istore_n 3, 1) := by decide +kernel
theorem dX5_besideOf_14 : decode cX5_besideOf 14 = .ok (.iload_n 3, 1) := by decide +kernel
theorem dX5_besideOf_15 : decode cX5_besideOf 15 = .ok (.ifCond .ge 7, 3) := by decide +kernel
theorem dX5_besideOf_18 : decode cX5_besideOf 18 = .ok (.iconst 0, 1) := by decide +kernel
theorem dX5_besideOf_19 : decode cX5_besideOf 19 = .ok (.goto 4, 3) := by decide +kernel
theorem dX5_besideOf_22 : decode cX5_besideOf 22 = .ok (.iload_n 3, 1) := by decide +kernel
theorem dX5_besideOf_23 : decode cX5_besideOf 23 = .ok (.ireturn, 1) := by decide +kernel
theorem dX5_tell_0 : decode cX5_tell 0 = .ok (.aload_n 0, 1) := by decide +kernel
theorem dX5_tell_1 : decode cX5_tell 1 = .ok (.iconst 0, 1) := by decide +kernel
theorem dX5_tell_2 : decode cX5_tell 2 = .ok (.putfield 72, 3) := by decide +kernel
theorem dX5_tell_5 : decode cX5_tell 5 = .ok (.aload_n 0, 1) := by decide +kernel
theorem dX5_tell_6 : decode cX5_tell 6 = .ok (.iload_n 1, 1) := by decide +kernel
theorem dX5_tell_7 : decode cX5_tell 7 = .ok (.invokevirtual 84, 3) := by decide +kernel
theorem dX5_tell_10 : decode cX5_tell 10 = .ok (.ifCond .eq 11, 3) := by decide +kernel
theorem dX5_tell_13 : decode cX5_tell 13 = .ok (.aload_n 0, 1) := by decide +kernel
theorem dX5_tell_14 : decode cX5_tell 14 = .ok (.iload_n 2, 1) := by decide +kernel
theorem dX5_tell_15 : decode cX5_tell 15 = .ok (.invokevirtual 92, 3) := by decide +kernel
theorem dX5_tell_18 : decode cX5_tell 18 = .ok (.ifCond .ne 5, 3) := by decide +kernel
theorem dX5_tell_21 : decode cX5_tell 21 = .ok (.iconst (-1), 1) := by decide +kernel
theorem dX5_tell_22 : decode cX5_tell 22 = .ok (.ireturn, 1) := by decide +kernel
theorem dX5_tell_23 : decode cX5_tell 23 = .ok (.iload_n 3, 1) := by decide +kernel
theorem dX5_tell_24 : decode cX5_tell 24 = .ok (.tableswitch 74 0 3 #[32, 39, 46, 53], 32) := by decide +kernel
theorem dX5_tell_56 : decode cX5_tell 56 = .ok (.aload_n 0, 1) := by decide +kernel
theorem dX5_tell_57 : decode cX5_tell 57 = .ok (.iload_n 1, 1) := by decide +kernel
theorem dX5_tell_58 : decode cX5_tell 58 = .ok (.iload_n 2, 1) := by decide +kernel
theorem dX5_tell_59 : decode cX5_tell 59 = .ok (.invokevirtual 103, 3) := by decide +kernel
theorem dX5_tell_62 : decode cX5_tell 62 = .ok (.ireturn, 1) := by decide +kernel
theorem dX5_tell_63 : decode cX5_tell 63 = .ok (.aload_n 0, 1) := by decide +kernel
theorem dX5_tell_64 : decode cX5_tell 64 = .ok (.iload_n 1, 1) := by decide +kernel
theorem dX5_tell_65 : decode cX5_tell 65 = .ok (.iload_n 2, 1) := by decide +kernel
theorem dX5_tell_66 : decode cX5_tell 66 = .ok (.invokevirtual 107, 3) := by decide +kernel
theorem dX5_tell_69 : decode cX5_tell 69 = .ok (.ireturn, 1) := by decide +kernel
theorem dX5_tell_70 : decode cX5_tell 70 = .ok (.aload_n 0, 1) := by decide +kernel
theorem dX5_tell_71 : decode cX5_tell 71 = .ok (.iload_n 1, 1) := by decide +kernel
theorem dX5_tell_72 : decode cX5_tell 72 = .ok (.iload_n 2, 1) := by decide +kernel
theorem dX5_tell_73 : decode cX5_tell 73 = .ok (.invokevirtual 110, 3) := by decide +kernel
theorem dX5_tell_76 : decode cX5_tell 76 = .ok (.ireturn, 1) := by decide +kernel
theorem dX5_tell_77 : decode cX5_tell 77 = .ok (.aload_n 0, 1) := by decide +kernel
theorem dX5_tell_78 : decode cX5_tell 78 = .ok (.iload_n 1, 1) := by decide +kernel
theorem dX5_tell_79 : decode cX5_tell 79 = .ok (.iload_n 2, 1) := by decide +kernel
theorem dX5_tell_80 : decode cX5_tell 80 = .ok (.invokevirtual 110, 3) := by decide +kernel
theorem dX5_tell_83 : decode cX5_tell 83 = .ok (.aload_n 0, 1) := by decide +kernel
theorem dX5_tell_84 : decode cX5_tell 84 = .ok (.iload_n 1, 1) := by decide +kernel
theorem dX5_tell_85 : decode cX5_tell 85 = .ok (.iload_n 2, 1) := by decide +kernel
theorem dX5_tell_86 : decode cX5_tell 86 = .ok (.invokevirtual 107, 3) := by decide +kernel
theorem dX5_tell_89 : decode cX5_tell 89 = .ok (.iadd, 1) := by decide +kernel
theorem dX5_tell_90 : decode cX5_tell 90 = .ok (.aload_n 0, 1) := by decide +kernel
theorem dX5_tell_91 : decode cX5_tell 91 = .ok (.iload_n 1, 1) := by decide +kernel
theorem dX5_tell_92 : decode cX5_tell 92 = .ok (.iload_n 2, 1) := by decide +kernel
theorem dX5_tell_93 : decode cX5_tell 93 = .ok (.invokevirtual 103, 3) := by decide +kernel
theorem dX5_tell_96 : decode cX5_tell 96 = .ok (.isub, 1) := by decide +kernel
theorem dX5_tell_97 : decode cX5_tell 97 = .ok (.ireturn, 1) := by decide +kernel
theorem dX5_tell_98 : decode cX5_tell 98 = .ok (.iload_n 3, 1) := by decide +kernel
theorem dX5_tell_99 : decode cX5_tell 99 = .ok (.bipush 10, 2) := by decide +kernel
theorem dX5_tell_101 : decode cX5_tell 101 = .ok (.bipush 13, 2) := by decide +kernel
theorem dX5_tell_103 : decode cX5_tell 103 = .ok (.invokestatic 80, 3) := by decide +kernel
theorem dX5_tell_106 : decode cX5_tell 106 = .ok (.ifCond .eq 18, 3) := by decide +kernel
theorem dX5_tell_109 : decode cX5_tell 109 = .ok (.aload_n 0, 1) := by decide +kernel
theorem dX5_tell_110 : decode cX5_tell 110 = .ok (.getfield 31, 3) := by decide +kernel
theorem dX5_tell_113 : decode cX5_tell 113 = .ok (.iload_n 3, 1) := by decide +kernel
theorem dX5_tell_114 : decode cX5_tell 114 = .ok (.bipush 10, 2) := by decide +kernel
theorem dX5_tell_116 : decode cX5_tell 116 = .ok (.isub, 1) := by decide +kernel
theorem dX5_tell_117 : decode cX5_tell 117 = .ok (.iload_n 1, 1) := by decide +kernel
theorem dX5_tell_118 : decode cX5_tell 118 = .ok (.iload_n 2, 1) := by decide +kernel
theorem dX5_tell_119 : decode cX5_tell 119 = .ok (.invokestatic 95, 3) := by decide +kernel
theorem dX5_tell_122 : decode cX5_tell 122 = .ok (.iaload, 1) := by decide +kernel
theorem dX5_tell_123 : decode cX5_tell 123 = .ok (.ireturn, 1) := by decide +kernel
theorem dX5_tell_124 : decode cX5_tell 124 = .ok (.aload_n 0, 1) := by decide +kernel
theorem dX5_tell_125 : decode cX5_tell 125 = .ok (.iload_n 3, 1) := by decide +kernel
theorem dX5_tell_126 : decode cX5_tell 126 = .ok (.bipush 20, 2) := by decide +kernel
theorem dX5_tell_128 : decode cX5_tell 128 = .ok (.isub, 1) := by decide +kernel
theorem dX5_tell_129 : decode cX5_tell 129 = .ok (.invokevirtual 89, 3) := by decide +kernel
theorem dX5_tell_132 : decode cX5_tell 132 = .ok (.ifCond .eq 33, 3) := by decide +kernel
theorem dX5_tell_135 : decode cX5_tell 135 = .ok (.aload_n 0, 1) := by decide +kernel
theorem dX5_tell_136 : decode cX5_tell 136 = .ok (.getfield 22, 3) := by decide +kernel
theorem dX5_tell_139 : decode cX5_tell 139 = .ok (.iload_n 3, 1) := by decide +kernel
theorem dX5_tell_140 : decode cX5_tell 140 = .ok (.bipush 20, 2) := by decide +kernel
theorem dX5_tell_142 : decode cX5_tell 142 = .ok (.isub, 1) := by decide +kernel
theorem dX5_tell_143 : decode cX5_tell 143 = .ok (.iaload, 1) := by decide +kernel
theorem dX5_tell_144 : decode cX5_tell 144 = .ok (.iload_n 1, 1) := by decide +kernel
theorem dX5_tell_145 : decode cX5_tell 145 = .ok (.if_icmp .ne 20, 3) := by decide +kernel
theorem dX5_tell_148 : decode cX5_tell 148 = .ok (.aload_n 0, 1) := by decide +kernel
theorem dX5_tell_149 : decode cX5_tell 149 = .ok (.getfield 34, 3) := by decide +kernel
theorem dX5_tell_152 : decode cX5_tell 152 = .ok (.bipush 40, 2) := by decide +kernel
theorem dX5_tell_154 : decode cX5_tell 154 = .ok (.iload_n 3, 1) := by decide +kernel
theorem dX5_tell_155 : decode cX5_tell 155 = .ok (.bipush 20, 2) := by decide +kernel
theorem dX5_tell_157 : decode cX5_tell 157 = .ok (.isub, 1) := by decide +kernel
theorem dX5_tell_158 : decode cX5_tell 158 = .ok (.imul, 1) := by decide +kernel
theorem dX5_tell_159 : decode cX5_tell 159 = .ok (.iload_n 2, 1) := by decide +kernel
theorem dX5_tell_160 : decode cX5_tell 160 = .ok (.iadd, 1) := by decide +kernel
theorem dX5_tell_161 : decode cX5_tell 161 = .ok (.iaload, 1) := by decide +kernel
theorem dX5_tell_162 : decode cX5_tell 162 = .ok (.goto 4, 3) := by decide +kernel
theorem dX5_tell_165 : decode cX5_tell 165 = .ok (.iconst (-1), 1) := by decide +kernel
theorem dX5_tell_166 : decode cX5_tell 166 = .ok (.ireturn, 1) := by decide +kernel
theorem dX5_offersCost_0 : decode cX5_offersCost 0 = .ok (.lconst 0, 1) := by decide +kernel
theorem dX5_offersCost_1 : decode cX5_offersCost 1 = .ok (.lstore_n 2, 1) := by decide +kernel
theorem dX5_offersCost_2 : decode cX5_offersCost 2 = .ok (.iconst 0, 1) := by decide +kernel
theorem dX5_offersCost_3 : decode cX5_offersCost 3 = .ok (.istore 4, 2) := by decide +kernel
theorem dX5_offersCost_5 : decode cX5_offersCost 5 = .ok (.iload 4, 2) := by decide +kernel
theorem dX5_offersCost_7 : decode cX5_offersCost 7 = .ok (.aload_n 0, 1) := by decide +kernel
theorem dX5_offersCost_8 : decode cX5_offersCost 8 = .ok (.getfield 19, 3) := by decide +kernel
theorem dX5_offersCost_11 : decode cX5_offersCost 11 = .ok (.iconst 0, 1) := by decide +kernel
theorem dX5_offersCost_12 : decode cX5_offersCost 12 = .ok (.iaload, 1) := by decide +kernel
theorem dX5_offersCost_13 : decode cX5_offersCost 13 = .ok (.if_icmp .ge 66, 3) := by decide +kernel
theorem dX5_offersCost_16 : decode cX5_offersCost 16 = .ok (.iconst 0, 1) := by decide +kernel
theorem dX5_offersCost_17 : decode cX5_offersCost 17 = .ok (.istore 5, 2) := by decide +kernel
theorem dX5_offersCost_19 : decode cX5_offersCost 19 = .ok (.iload 5, 2) := by decide +kernel
theorem dX5_offersCost_21 : decode cX5_offersCost 21 = .ok (.aload_n 0, 1) := by decide +kernel
theorem dX5_offersCost_22 : decode cX5_offersCost 22 = .ok (.getfield 7, 3) := by decide +kernel
theorem dX5_offersCost_25 : decode cX5_offersCost 25 = .ok (.iconst 0, 1) := by decide +kernel
theorem dX5_offersCost_26 : decode cX5_offersCost 26 = .ok (.iaload, 1) := by decide +kernel
theorem dX5_offersCost_27 : decode cX5_offersCost 27 = .ok (.if_icmp .ge 46, 3) := by decide +kernel
theorem dX5_offersCost_30 : decode cX5_offersCost 30 = .ok (.aload_n 0, 1) := by decide +kernel
theorem dX5_offersCost_31 : decode cX5_offersCost 31 = .ok (.getfield 22, 3) := by decide +kernel
theorem dX5_offersCost_34 : decode cX5_offersCost 34 = .ok (.iload 4, 2) := by decide +kernel
theorem dX5_offersCost_36 : decode cX5_offersCost 36 = .ok (.iaload, 1) := by decide +kernel
theorem dX5_offersCost_37 : decode cX5_offersCost 37 = .ok (.iload_n 1, 1) := by decide +kernel
theorem dX5_offersCost_38 : decode cX5_offersCost 38 = .ok (.if_icmp .ne 35, 3) := by decide +kernel
theorem dX5_offersCost_41 : decode cX5_offersCost 41 = .ok (.lload_n 2, 1) := by decide +kernel
theorem dX5_offersCost_42 : decode cX5_offersCost 42 = .ok (.aload_n 0, 1) := by decide +kernel
theorem dX5_offersCost_43 : decode cX5_offersCost 43 = .ok (.getfield 28, 3) := by decide +kernel
theorem dX5_offersCost_46 : decode cX5_offersCost 46 = .ok (.iload 4, 2) := by decide +kernel
theorem dX5_offersCost_48 : decode cX5_offersCost 48 = .ok (.iaload, 1) := by decide +kernel
theorem dX5_offersCost_49 : decode cX5_offersCost 49 = .ok (.i2l, 1) := by decide +kernel
theorem dX5_offersCost_50 : decode cX5_offersCost 50 = .ok (.aload_n 0, 1) := by decide +kernel
theorem dX5_offersCost_51 : decode cX5_offersCost 51 = .ok (.getfield 34, 3) := by decide +kernel
theorem dX5_offersCost_54 : decode cX5_offersCost 54 = .ok (.bipush 40, 2) := by decide +kernel
theorem dX5_offersCost_56 : decode cX5_offersCost 56 = .ok (.iload 4, 2) := by decide +kernel
theorem dX5_offersCost_58 : decode cX5_offersCost 58 = .ok (.imul, 1) := by decide +kernel
theorem dX5_offersCost_59 : decode cX5_offersCost 59 = .ok (.iload 5, 2) := by decide +kernel
theorem dX5_offersCost_61 : decode cX5_offersCost 61 = .ok (.iadd, 1) := by decide +kernel
theorem dX5_offersCost_62 : decode cX5_offersCost 62 = .ok (.iaload, 1) := by decide +kernel
theorem dX5_offersCost_63 : decode cX5_offersCost 63 = .ok (.i2l, 1) := by decide +kernel
theorem dX5_offersCost_64 : decode cX5_offersCost 64 = .ok (.lmul, 1) := by decide +kernel
theorem dX5_offersCost_65 : decode cX5_offersCost 65 = .ok (.ladd, 1) := by decide +kernel
theorem dX5_offersCost_66 : decode cX5_offersCost 66 = .ok (.lstore_n 2, 1) := by decide +kernel
theorem dX5_offersCost_67 : decode cX5_offersCost 67 = .ok (.iinc 5 1, 3) := by decide +kernel
theorem dX5_offersCost_70 : decode cX5_offersCost 70 = .ok (.goto (-51), 3) := by decide +kernel
theorem dX5_offersCost_73 : decode cX5_offersCost 73 = .ok (.iinc 4 1, 3) := by decide +kernel
theorem dX5_offersCost_76 : decode cX5_offersCost 76 = .ok (.goto (-71), 3) := by decide +kernel
theorem dX5_offersCost_79 : decode cX5_offersCost 79 = .ok (.lload_n 2, 1) := by decide +kernel
theorem dX5_offersCost_80 : decode cX5_offersCost 80 = .ok (.lreturn, 1) := by decide +kernel
theorem dX5_planCost_0 : decode cX5_planCost 0 = .ok (.aload_n 0, 1) := by decide +kernel
theorem dX5_planCost_1 : decode cX5_planCost 1 = .ok (.iload_n 1, 1) := by decide +kernel
theorem dX5_planCost_2 : decode cX5_planCost 2 = .ok (.invokevirtual 113, 3) := by decide +kernel
theorem dX5_planCost_5 : decode cX5_planCost 5 = .ok (.lstore_n 2, 1) := by decide +kernel
theorem dX5_planCost_6 : decode cX5_planCost 6 = .ok (.iconst 0, 1) := by decide +kernel
theorem dX5_planCost_7 : decode cX5_planCost 7 = .ok (.istore 4, 2) := by decide +kernel
theorem dX5_planCost_9 : decode cX5_planCost 9 = .ok (.iload 4, 2) := by decide +kernel
theorem dX5_planCost_11 : decode cX5_planCost 11 = .ok (.aload_n 0, 1) := by decide +kernel
theorem dX5_planCost_12 : decode cX5_planCost 12 = .ok (.getfield 7, 3) := by decide +kernel
theorem dX5_planCost_15 : decode cX5_planCost 15 = .ok (.iconst 0, 1) := by decide +kernel
theorem dX5_planCost_16 : decode cX5_planCost 16 = .ok (.iaload, 1) := by decide +kernel
theorem dX5_planCost_17 : decode cX5_planCost 17 = .ok (.if_icmp .ge 28, 3) := by decide +kernel
theorem dX5_planCost_20 : decode cX5_planCost 20 = .ok (.lload_n 2, 1) := by decide +kernel
theorem dX5_planCost_21 : decode cX5_planCost 21 = .ok (.aload_n 0, 1) := by decide +kernel
theorem dX5_planCost_22 : decode cX5_planCost 22 = .ok (.getfield 16, 3) := by decide +kernel
theorem dX5_planCost_25 : decode cX5_planCost 25 = .ok (.iload_n 1, 1) := by decide +kernel
theorem dX5_planCost_26 : decode cX5_planCost 26 = .ok (.iaload, 1) := by decide +kernel
theorem dX5_planCost_27 : decode cX5_planCost 27 = .ok (.i2l, 1) := by decide +kernel
theorem dX5_planCost_28 : decode cX5_planCost 28 = .ok (.aload_n 0, 1) := by decide +kernel
theorem dX5_planCost_29 : decode cX5_planCost 29 = .ok (.iload_n 1, 1) := by decide +kernel
theorem dX5_planCost_30 : decode cX5_planCost 30 = .ok (.iload 4, 2) := by decide +kernel
theorem dX5_planCost_32 : decode cX5_planCost 32 = .ok (.invokevirtual 110, 3) := by decide +kernel
theorem dX5_planCost_35 : decode cX5_planCost 35 = .ok (.i2l, 1) := by decide +kernel
theorem dX5_planCost_36 : decode cX5_planCost 36 = .ok (.lmul, 1) := by decide +kernel
theorem dX5_planCost_37 : decode cX5_planCost 37 = .ok (.ladd, 1) := by decide +kernel
theorem dX5_planCost_38 : decode cX5_planCost 38 = .ok (.lstore_n 2, 1) := by decide +kernel
theorem dX5_planCost_39 : decode cX5_planCost 39 = .ok (.iinc 4 1, 3) := by decide +kernel
theorem dX5_planCost_42 : decode cX5_planCost 42 = .ok (.goto (-33), 3) := by decide +kernel
theorem dX5_planCost_45 : decode cX5_planCost 45 = .ok (.lload_n 2, 1) := by decide +kernel
theorem dX5_planCost_46 : decode cX5_planCost 46 = .ok (.lreturn, 1) := by decide +kernel
theorem dX5_cost_0 : decode cX5_cost 0 = .ok (.aload_n 0, 1) := by decide +kernel
theorem dX5_cost_1 : decode cX5_cost 1 = .ok (.iconst 0, 1) := by decide +kernel
theorem dX5_cost_2 : decode cX5_cost 2 = .ok (.putfield 72, 3) := by decide +kernel
theorem dX5_cost_5 : decode cX5_cost 5 = .ok (.aload_n 0, 1) := by decide +kernel
theorem dX5_cost_6 : decode cX5_cost 6 = .ok (.iload_n 1, 1) := by decide +kernel
theorem dX5_cost_7 : decode cX5_cost 7 = .ok (.invokevirtual 84, 3) := by decide +kernel
theorem dX5_cost_10 : decode cX5_cost 10 = .ok (.ifCond .eq 11, 3) := by decide +kernel
theorem dX5_cost_13 : decode cX5_cost 13 = .ok (.aload_n 0, 1) := by decide +kernel
theorem dX5_cost_14 : decode cX5_cost 14 = .ok (.iload_n 1, 1) := by decide +kernel
theorem dX5_cost_15 : decode cX5_cost 15 = .ok (.invokevirtual 117, 3) := by decide +kernel
theorem dX5_cost_18 : decode cX5_cost 18 = .ok (.goto 6, 3) := by decide +kernel
theorem dX5_cost_21 : decode cX5_cost 21 = .ok (.ldc2_w 120, 3) := by decide +kernel
theorem dX5_cost_24 : decode cX5_cost 24 = .ok (.lreturn, 1) := by decide +kernel
theorem dX5_shorter_0 : decode cX5_shorter 0 = .ok (.aload_n 0, 1) := by decide +kernel
theorem dX5_shorter_1 : decode cX5_shorter 1 = .ok (.getfield 37, 3) := by decide +kernel
theorem dX5_shorter_4 : decode cX5_shorter 4 = .ok (.bipush 41, 2) := by decide +kernel
theorem dX5_shorter_6 : decode cX5_shorter 6 = .ok (.iload_n 1, 1) := by decide +kernel
theorem dX5_shorter_7 : decode cX5_shorter 7 = .ok (.imul, 1) := by decide +kernel
theorem dX5_shorter_8 : decode cX5_shorter 8 = .ok (.iload_n 2, 1) := by decide +kernel
theorem dX5_shorter_9 : decode cX5_shorter 9 = .ok (.iadd, 1) := by decide +kernel
theorem dX5_shorter_10 : decode cX5_shorter 10 = .ok (.iload_n 3, 1) := by decide +kernel
theorem dX5_shorter_11 : decode cX5_shorter 11 = .ok (.aload_n 0, 1) := by decide +kernel
theorem dX5_shorter_12 : decode cX5_shorter 12 = .ok (.getfield 37, 3) := by decide +kernel
theorem dX5_shorter_15 : decode cX5_shorter 15 = .ok (.bipush 41, 2) := by decide +kernel
theorem dX5_shorter_17 : decode cX5_shorter 17 = .ok (.iload_n 1, 1) := by decide +kernel
theorem dX5_shorter_18 : decode cX5_shorter 18 = .ok (.imul, 1) := by decide +kernel
theorem dX5_shorter_19 : decode cX5_shorter 19 = .ok (.iload_n 2, 1) := by decide +kernel
theorem dX5_shorter_20 : decode cX5_shorter 20 = .ok (.iadd, 1) := by decide +kernel
theorem dX5_shorter_21 : decode cX5_shorter 21 = .ok (.iaload, 1) := by decide +kernel
theorem dX5_shorter_22 : decode cX5_shorter 22 = .ok (.if_icmp .ge 7, 3) := by decide +kernel
theorem dX5_shorter_25 : decode cX5_shorter 25 = .ok (.iload_n 3, 1) := by decide +kernel
theorem dX5_shorter_26 : decode cX5_shorter 26 = .ok (.goto 14, 3) := by decide +kernel
theorem dX5_shorter_29 : decode cX5_shorter 29 = .ok (.aload_n 0, 1) := by decide +kernel
theorem dX5_shorter_30 : decode cX5_shorter 30 = .ok (.getfield 37, 3) := by decide +kernel
theorem dX5_shorter_33 : decode cX5_shorter 33 = .ok (.bipush 41, 2) := by decide +kernel
theorem dX5_shorter_35 : decode cX5_shorter 35 = .ok (.iload_n 1, 1) := by decide +kernel
theorem dX5_shorter_36 : decode cX5_shorter 36 = .ok (.imul, 1) := by decide +kernel
theorem dX5_shorter_37 : decode cX5_shorter 37 = .ok (.iload_n 2, 1) := by decide +kernel
theorem dX5_shorter_38 : decode cX5_shorter 38 = .ok (.iadd, 1) := by decide +kernel
theorem dX5_shorter_39 : decode cX5_shorter 39 = .ok (.iaload, 1) := by decide +kernel
theorem dX5_shorter_40 : decode cX5_shorter 40 = .ok (.iastore, 1) := by decide +kernel
theorem dX5_shorter_41 : decode cX5_shorter 41 = .ok (.return_, 1) := by decide +kernel
theorem dX5_findWays_0 : decode cX5_findWays 0 = .ok (.aload_n 0, 1) := by decide +kernel
theorem dX5_findWays_1 : decode cX5_findWays 1 = .ok (.getfield 7, 3) := by decide +kernel
theorem dX5_findWays_4 : decode cX5_findWays 4 = .ok (.iconst 0, 1) := by decide +kernel
theorem dX5_findWays_5 : decode cX5_findWays 5 = .ok (.iaload, 1) := by decide +kernel
theorem dX5_findWays_6 : decode cX5_findWays 6 = .ok (.istore_n 2, 1) := by decide +kernel
theorem dX5_findWays_7 : decode cX5_findWays 7 = .ok (.iconst 0, 1) := by decide +kernel
theorem dX5_findWays_8 : decode cX5_findWays 8 = .ok (.istore_n 3, 1) := by decide +kernel
theorem dX5_findWays_9 : decode cX5_findWays 9 = .ok (.iload_n 3, 1) := by decide +kernel
theorem dX5_findWays_10 : decode cX5_findWays 10 = .ok (.iload_n 2, 1) := by decide +kernel
theorem dX5_findWays_11 : decode cX5_findWays 11 = .ok (.if_icmp .gt 48, 3) := by decide +kernel
theorem dX5_findWays_14 : decode cX5_findWays 14 = .ok (.iconst 0, 1) := by decide +kernel
theorem dX5_findWays_15 : decode cX5_findWays 15 = .ok (.istore 4, 2) := by decide +kernel
theorem dX5_findWays_17 : decode cX5_findWays 17 = .ok (.iload 4, 2) := by decide +kernel
theorem dX5_findWays_19 : decode cX5_findWays 19 = .ok (.iload_n 2, 1) := by decide +kernel
theorem dX5_findWays_20 : decode cX5_findWays 20 = .ok (.if_icmp .gt 33, 3) := by decide +kernel
theorem dX5_findWays_23 : decode cX5_findWays 23 = .ok (.aload_n 0, 1) := by decide +kernel
theorem dX5_findWays_24 : decode cX5_findWays 24 = .ok (.getfield 37, 3) := by decide +kernel
theorem dX5_findWays_27 : decode cX5_findWays 27 = .ok (.bipush 41, 2) := by decide +kernel
theorem dX5_findWays_29 : decode cX5_findWays 29 = .ok (.iload_n 3, 1) := by decide +kernel
theorem dX5_findWays_30 : decode cX5_findWays 30 = .ok (.imul, 1) := by decide +kernel
theorem dX5_findWays_31 : decode cX5_findWays 31 = .ok (.iload 4, 2) := by decide +kernel
theorem dX5_findWays_33 : decode cX5_findWays 33 = .ok (.iadd, 1) := by decide +kernel
theorem dX5_findWays_34 : decode cX5_findWays 34 = .ok (.iload_n 3, 1) := by decide +kernel
theorem dX5_findWays_35 : decode cX5_findWays 35 = .ok (.iload 4, 2) := by decide +kernel
theorem dX5_findWays_37 : decode cX5_findWays 37 = .ok (.if_icmp .ne 7, 3) := by decide +kernel
theorem dX5_findWays_40 : decode cX5_findWays 40 = .ok (.iconst 0, 1) := by decide +kernel
theorem dX5_findWays_41 : decode cX5_findWays 41 = .ok (.goto 5, 3) := by decide +kernel
theorem dX5_findWays_44 : decode cX5_findWays 44 = .ok (.ldc 122, 2) := by decide +kernel
theorem dX5_findWays_46 : decode cX5_findWays 46 = .ok (.iastore, 1) := by decide +kernel
theorem dX5_findWays_47 : decode cX5_findWays 47 = .ok (.iinc 4 1, 3) := by decide +kernel
theorem dX5_findWays_50 : decode cX5_findWays 50 = .ok (.goto (-33), 3) := by decide +kernel
theorem dX5_findWays_53 : decode cX5_findWays 53 = .ok (.iinc 3 1, 3) := by decide +kernel
theorem dX5_findWays_56 : decode cX5_findWays 56 = .ok (.goto (-47), 3) := by decide +kernel
theorem dX5_findWays_59 : decode cX5_findWays 59 = .ok (.iconst 0, 1) := by decide +kernel
theorem dX5_findWays_60 : decode cX5_findWays 60 = .ok (.istore_n 3, 1) := by decide +kernel
theorem dX5_findWays_61 : decode cX5_findWays 61 = .ok (.iload_n 3, 1) := by decide +kernel
theorem dX5_findWays_62 : decode cX5_findWays 62 = .ok (.iload_n 2, 1) := by decide +kernel
theorem dX5_findWays_63 : decode cX5_findWays 63 = .ok (.if_icmp .ge 101, 3) := by decide +kernel
theorem dX5_findWays_66 : decode cX5_findWays 66 = .ok (.aload_n 0, 1) := by decide +kernel
theorem dX5_findWays_67 : decode cX5_findWays 67 = .ok (.iload_n 3, 1) := by decide +kernel
theorem dX5_findWays_68 : decode cX5_findWays 68 = .ok (.iload_n 3, 1) := by decide +kernel
theorem dX5_findWays_69 : decode cX5_findWays 69 = .ok (.iconst 1, 1) := by decide +kernel
theorem dX5_findWays_70 : decode cX5_findWays 70 = .ok (.iadd, 1) := by decide +kernel
theorem dX5_findWays_71 : decode cX5_findWays 71 = .ok (.aload_n 0, 1) := by decide +kernel
theorem dX5_findWays_72 : decode cX5_findWays 72 = .ok (.getfield 16, 3) := by decide +kernel
theorem dX5_findWays_75 : decode cX5_findWays 75 = .ok (.iload_n 1, 1) := by decide +kernel
theorem dX5_findWays_76 : decode cX5_findWays 76 = .ok (.iaload, 1) := by decide +kernel
theorem dX5_findWays_77 : decode cX5_findWays 77 = .ok (.invokevirtual 123, 3) := by decide +kernel
theorem dX5_findWays_80 : decode cX5_findWays 80 = .ok (.aload_n 0, 1) := by decide +kernel
theorem dX5_findWays_81 : decode cX5_findWays 81 = .ok (.iload_n 3, 1) := by decide +kernel
theorem dX5_findWays_82 : decode cX5_findWays 82 = .ok (.iconst 1, 1) := by decide +kernel
theorem dX5_findWays_83 : decode cX5_findWays 83 = .ok (.iadd, 1) := by decide +kernel
theorem dX5_findWays_84 : decode cX5_findWays 84 = .ok (.iload_n 3, 1) := by decide +kernel
theorem dX5_findWays_85 : decode cX5_findWays 85 = .ok (.iconst 0, 1) := by decide +kernel
theorem dX5_findWays_86 : decode cX5_findWays 86 = .ok (.invokevirtual 123, 3) := by decide +kernel
theorem dX5_findWays_89 : decode cX5_findWays 89 = .ok (.iconst 0, 1) := by decide +kernel
theorem dX5_findWays_90 : decode cX5_findWays 90 = .ok (.istore 4, 2) := by decide +kernel
theorem dX5_findWays_92 : decode cX5_findWays 92 = .ok (.iload 4, 2) := by decide +kernel
theorem dX5_findWays_94 : decode cX5_findWays 94 = .ok (.aload_n 0, 1) := by decide +kernel
theorem dX5_findWays_95 : decode cX5_findWays 95 = .ok (.getfield 19, 3) := by decide +kernel
theorem dX5_findWays_98 : decode cX5_findWays 98 = .ok (.iconst 0, 1) := by decide +kernel
theorem dX5_findWays_99 : decode cX5_findWays 99 = .ok (.iaload, 1) := by decide +kernel
theorem dX5_findWays_100 : decode cX5_findWays 100 = .ok (.if_icmp .ge 58, 3) := by decide +kernel
theorem dX5_findWays_103 : decode cX5_findWays 103 = .ok (.aload_n 0, 1) := by decide +kernel
theorem dX5_findWays_104 : decode cX5_findWays 104 = .ok (.getfield 22, 3) := by decide +kernel
theorem dX5_findWays_107 : decode cX5_findWays 107 = .ok (.iload 4, 2) := by decide +kernel
theorem dX5_findWays_109 : decode cX5_findWays 109 = .ok (.iaload, 1) := by decide +kernel
theorem dX5_findWays_110 : decode cX5_findWays 110 = .ok (.iload_n 1, 1) := by decide +kernel
theorem dX5_findWays_111 : decode cX5_findWays 111 = .ok (.if_icmp .ne 41, 3) := by decide +kernel
theorem dX5_findWays_114 : decode cX5_findWays 114 = .ok (.aload_n 0, 1) := by decide +kernel
theorem dX5_findWays_115 : decode cX5_findWays 115 = .ok (.iload_n 3, 1) := by decide +kernel
theorem dX5_findWays_116 : decode cX5_findWays 116 = .ok (.iload_n 3, 1) := by decide +kernel
theorem dX5_findWays_117 : decode cX5_findWays 117 = .ok (.aload_n 0, 1) := by decide +kernel
theorem dX5_findWays_118 : decode cX5_findWays 118 = .ok (.getfield 25, 3) := by decide +kernel
theorem dX5_findWays_121 : decode cX5_findWays 121 = .ok (.iload 4, 2) := by decide +kernel
theorem dX5_findWays_123 : decode cX5_findWays 123 = .ok (.iaload, 1) := by decide +kernel
theorem dX5_findWays_124 : decode cX5_findWays 124 = .ok (.iadd, 1) := by decide +kernel
theorem dX5_findWays_125 : decode cX5_findWays 125 = .ok (.iload_n 2, 1) := by decide +kernel
theorem dX5_findWays_126 : decode cX5_findWays 126 = .ok (.if_icmp .ge 15, 3) := by decide +kernel
theorem dX5_findWays_129 : decode cX5_findWays 129 = .ok (.iload_n 3, 1) := by decide +kernel
theorem dX5_findWays_130 : decode cX5_findWays 130 = .ok (.aload_n 0, 1) := by decide +kernel
theorem dX5_findWays_131 : decode cX5_findWays 131 = .ok (.getfield 25, 3) := by decide +kernel
theorem dX5_findWays_134 : decode cX5_findWays 134 = .ok (.iload 4, 2) := by decide +kernel
theorem dX5_findWays_136 : decode cX5_findWays 136 = .ok (.iaload, 1) := by decide +kernel
theorem dX5_findWays_137 : decode cX5_findWays 137 = .ok (.iadd, 1) := by decide +kernel
theorem dX5_findWays_138 : decode cX5_findWays 138 = .ok (.goto 4, 3) := by decide +kernel
theorem dX5_findWays_141 : decode cX5_findWays 141 = .ok (.iload_n 2, 1) := by decide +kernel
theorem dX5_findWays_142 : decode cX5_findWays 142 = .ok (.aload_n 0, 1) := by decide +kernel
theorem dX5_findWays_143 : decode cX5_findWays 143 = .ok (.getfield 28, 3) := by decide +kernel
theorem dX5_findWays_146 : decode cX5_findWays 146 = .ok (.iload 4, 2) := by decide +kernel
theorem dX5_findWays_148 : decode cX5_findWays 148 = .ok (.iaload, 1) := by decide +kernel
theorem dX5_findWays_149 : decode cX5_findWays 149 = .ok (.invokevirtual 123, 3) := by decide +kernel
theorem dX5_findWays_152 : decode cX5_findWays 152 = .ok (.iinc 4 1, 3) := by decide +kernel
theorem dX5_findWays_155 : decode cX5_findWays 155 = .ok (.goto (-63), 3) := by decide +kernel
theorem dX5_findWays_158 : decode cX5_findWays 158 = .ok (.iinc 3 1, 3) := by decide +kernel
theorem dX5_findWays_161 : decode cX5_findWays 161 = .ok (.goto (-100), 3) := by decide +kernel
theorem dX5_findWays_164 : decode cX5_findWays 164 = .ok (.iconst 0, 1) := by decide +kernel
theorem dX5_findWays_165 : decode cX5_findWays 165 = .ok (.istore_n 3, 1) := by decide +kernel
theorem dX5_findWays_166 : decode cX5_findWays 166 = .ok (.iload_n 3, 1) := by decide +kernel
theorem dX5_findWays_167 : decode cX5_findWays 167 = .ok (.iload_n 2, 1) := by decide +kernel
theorem dX5_findWays_168 : decode cX5_findWays 168 = .ok (.if_icmp .gt 72, 3) := by decide +kernel
theorem dX5_findWays_171 : decode cX5_findWays 171 = .ok (.iconst 0, 1) := by decide +kernel
theorem dX5_findWays_172 : decode cX5_findWays 172 = .ok (.istore 4, 2) := by decide +kernel
theorem dX5_findWays_174 : decode cX5_findWays 174 = .ok (.iload 4, 2) := by decide +kernel
theorem dX5_findWays_176 : decode cX5_findWays 176 = .ok (.iload_n 2, 1) := by decide +kernel
theorem dX5_findWays_177 : decode cX5_findWays 177 = .ok (.if_icmp .gt 57, 3) := by decide +kernel
theorem dX5_findWays_180 : decode cX5_findWays 180 = .ok (.iconst 0, 1) := by decide +kernel
theorem dX5_findWays_181 : decode cX5_findWays 181 = .ok (.istore 5, 2) := by decide +kernel
theorem dX5_findWays_183 : decode cX5_findWays 183 = .ok (.iload 5, 2) := by decide +kernel
theorem dX5_findWays_185 : decode cX5_findWays 185 = .ok (.iload_n 2, 1) := by decide +kernel
theorem dX5_findWays_186 : decode cX5_findWays 186 = .ok (.if_icmp .gt 42, 3) := by decide +kernel
theorem dX5_findWays_189 : decode cX5_findWays 189 = .ok (.aload_n 0, 1) := by decide +kernel
theorem dX5_findWays_190 : decode cX5_findWays 190 = .ok (.iload 4, 2) := by decide +kernel
theorem dX5_findWays_192 : decode cX5_findWays 192 = .ok (.iload 5, 2) := by decide +kernel
theorem dX5_findWays_194 : decode cX5_findWays 194 = .ok (.aload_n 0, 1) := by decide +kernel
theorem dX5_findWays_195 : decode cX5_findWays 195 = .ok (.getfield 37, 3) := by decide +kernel
theorem dX5_findWays_198 : decode cX5_findWays 198 = .ok (.bipush 41, 2) := by decide +kernel
theorem dX5_findWays_200 : decode cX5_findWays 200 = .ok (.iload 4, 2) := by decide +kernel
theorem dX5_findWays_202 : decode cX5_findWays 202 = .ok (.imul, 1) := by decide +kernel
theorem dX5_findWays_203 : decode cX5_findWays 203 = .ok (.iload_n 3, 1) := by decide +kernel
theorem dX5_findWays_204 : decode cX5_findWays 204 = .ok (.iadd, 1) := by decide +kernel
theorem dX5_findWays_205 : decode cX5_findWays 205 = .ok (.iaload, 1) := by decide +kernel
theorem dX5_findWays_206 : decode cX5_findWays 206 = .ok (.aload_n 0, 1) := by decide +kernel
theorem dX5_findWays_207 : decode cX5_findWays 207 = .ok (.getfield 37, 3) := by decide +kernel
theorem dX5_findWays_210 : decode cX5_findWays 210 = .ok (.bipush 41, 2) := by decide +kernel
theorem dX5_findWays_212 : decode cX5_findWays 212 = .ok (.iload_n 3, 1) := by decide +kernel
theorem dX5_findWays_213 : decode cX5_findWays 213 = .ok (.imul, 1) := by decide +kernel
theorem dX5_findWays_214 : decode cX5_findWays 214 = .ok (.iload 5, 2) := by decide +kernel
theorem dX5_findWays_216 : decode cX5_findWays 216 = .ok (.iadd, 1) := by decide +kernel
theorem dX5_findWays_217 : decode cX5_findWays 217 = .ok (.iaload, 1) := by decide +kernel
theorem dX5_findWays_218 : decode cX5_findWays 218 = .ok (.iadd, 1) := by decide +kernel
theorem dX5_findWays_219 : decode cX5_findWays 219 = .ok (.invokevirtual 123, 3) := by decide +kernel
theorem dX5_findWays_222 : decode cX5_findWays 222 = .ok (.iinc 5 1, 3) := by decide +kernel
theorem dX5_findWays_225 : decode cX5_findWays 225 = .ok (.goto (-42), 3) := by decide +kernel
theorem dX5_findWays_228 : decode cX5_findWays 228 = .ok (.iinc 4 1, 3) := by decide +kernel
theorem dX5_findWays_231 : decode cX5_findWays 231 = .ok (.goto (-57), 3) := by decide +kernel
theorem dX5_findWays_234 : decode cX5_findWays 234 = .ok (.iinc 3 1, 3) := by decide +kernel
theorem dX5_findWays_237 : decode cX5_findWays 237 = .ok (.goto (-71), 3) := by decide +kernel
theorem dX5_findWays_240 : decode cX5_findWays 240 = .ok (.return_, 1) := by decide +kernel
theorem dX5_findSends_0 : decode cX5_findSends 0 = .ok (.aload_n 0, 1) := by decide +kernel
theorem dX5_findSends_1 : decode cX5_findSends 1 = .ok (.getfield 7, 3) := by decide +kernel
theorem dX5_findSends_4 : decode cX5_findSends 4 = .ok (.iconst 0, 1) := by decide +kernel
theorem dX5_findSends_5 : decode cX5_findSends 5 = .ok (.iaload, 1) := by decide +kernel
theorem dX5_findSends_6 : decode cX5_findSends 6 = .ok (.istore 4, 2) := by decide +kernel
theorem dX5_findSends_8 : decode cX5_findSends 8 = .ok (.iconst 0, 1) := by decide +kernel
theorem dX5_findSends_9 : decode cX5_findSends 9 = .ok (.istore 5, 2) := by decide +kernel
theorem dX5_findSends_11 : decode cX5_findSends 11 = .ok (.iconst 0, 1) := by decide +kernel
theorem dX5_findSends_12 : decode cX5_findSends 12 = .ok (.istore 6, 2) := by decide +kernel
theorem dX5_findSends_14 : decode cX5_findSends 14 = .ok (.iload 6, 2) := by decide +kernel
theorem dX5_findSends_16 : decode cX5_findSends 16 = .ok (.iload 4, 2) := by decide +kernel
theorem dX5_findSends_18 : decode cX5_findSends 18 = .ok (.if_icmp .gt 70, 3) := by decide +kernel
theorem dX5_findSends_21 : decode cX5_findSends 21 = .ok (.iload 6, 2) := by decide +kernel
theorem dX5_findSends_23 : decode cX5_findSends 23 = .ok (.iload 4, 2) := by decide +kernel
theorem dX5_findSends_25 : decode cX5_findSends 25 = .ok (.if_icmp .ge 25, 3) := by decide +kernel
theorem dX5_findSends_28 : decode cX5_findSends 28 = .ok (.aload_n 0, 1) := by decide +kernel
theorem dX5_findSends_29 : decode cX5_findSends 29 = .ok (.iload_n 1, 1) := by decide +kernel
theorem dX5_findSends_30 : decode cX5_findSends 30 = .ok (.iload 6, 2) := by decide +kernel
theorem dX5_findSends_32 : decode cX5_findSends 32 = .ok (.invokevirtual 103, 3) := by decide +kernel
theorem dX5_findSends_35 : decode cX5_findSends 35 = .ok (.iload 6, 2) := by decide +kernel
theorem dX5_findSends_37 : decode cX5_findSends 37 = .ok (.iload_n 2, 1) := by decide +kernel
theorem dX5_findSends_38 : decode cX5_findSends 38 = .ok (.if_icmp .ne 7, 3) := by decide +kernel
theorem dX5_findSends_41 : decode cX5_findSends 41 = .ok (.iload_n 3, 1) := by decide +kernel
theorem dX5_findSends_42 : decode cX5_findSends 42 = .ok (.goto 4, 3) := by decide +kernel
theorem dX5_findSends_45 : decode cX5_findSends 45 = .ok (.iconst 0, 1) := by decide +kernel
theorem dX5_findSends_46 : decode cX5_findSends 46 = .ok (.iadd, 1) := by decide +kernel
theorem dX5_findSends_47 : decode cX5_findSends 47 = .ok (.goto 4, 3) := by decide +kernel
theorem dX5_findSends_50 : decode cX5_findSends 50 = .ok (.iconst 0, 1) := by decide +kernel
theorem dX5_findSends_51 : decode cX5_findSends 51 = .ok (.istore 7, 2) := by decide +kernel
theorem dX5_findSends_53 : decode cX5_findSends 53 = .ok (.iload 7, 2) := by decide +kernel
theorem dX5_findSends_55 : decode cX5_findSends 55 = .ok (.ifCond .ge 7, 3) := by decide +kernel
theorem dX5_findSends_58 : decode cX5_findSends 58 = .ok (.iconst 0, 1) := by decide +kernel
theorem dX5_findSends_59 : decode cX5_findSends 59 = .ok (.goto 5, 3) := by decide +kernel
theorem dX5_findSends_62 : decode cX5_findSends 62 = .ok (.iload 7, 2) := by decide +kernel
theorem dX5_findSends_64 : decode cX5_findSends 64 = .ok (.istore 7, 2) := by decide +kernel
theorem dX5_findSends_66 : decode cX5_findSends 66 = .ok (.aload_n 0, 1) := by decide +kernel
theorem dX5_findSends_67 : decode cX5_findSends 67 = .ok (.getfield 40, 3) := by decide +kernel
theorem dX5_findSends_70 : decode cX5_findSends 70 = .ok (.iload 6, 2) := by decide +kernel
theorem dX5_findSends_72 : decode cX5_findSends 72 = .ok (.iload 7, 2) := by decide +kernel
theorem dX5_findSends_74 : decode cX5_findSends 74 = .ok (.iload 5, 2) := by decide +kernel
theorem dX5_findSends_76 : decode cX5_findSends 76 = .ok (.isub, 1) := by decide +kernel
theorem dX5_findSends_77 : decode cX5_findSends 77 = .ok (.iastore, 1) := by decide +kernel
theorem dX5_findSends_78 : decode cX5_findSends 78 = .ok (.iload 7, 2) := by decide +kernel
theorem dX5_findSends_80 : decode cX5_findSends 80 = .ok (.istore 5, 2) := by decide +kernel
theorem dX5_findSends_82 : decode cX5_findSends 82 = .ok (.iinc 6 1, 3) := by decide +kernel
theorem dX5_findSends_85 : decode cX5_findSends 85 = .ok (.goto (-71), 3) := by decide +kernel
theorem dX5_findSends_88 : decode cX5_findSends 88 = .ok (.return_, 1) := by decide +kernel
theorem dX5_nextEnd_0 : decode cX5_nextEnd 0 = .ok (.aload_n 0, 1) := by decide +kernel
theorem dX5_nextEnd_1 : decode cX5_nextEnd 1 = .ok (.getfield 7, 3) := by decide +kernel
theorem dX5_nextEnd_4 : decode cX5_nextEnd 4 = .ok (.iconst 0, 1) := by decide +kernel
theorem dX5_nextEnd_5 : decode cX5_nextEnd 5 = .ok (.iaload, 1) := by decide +kernel
theorem dX5_nextEnd_6 : decode cX5_nextEnd 6 = .ok (.istore_n 1, 1) := by decide +kernel
theorem dX5_nextEnd_7 : decode cX5_nextEnd 7 = .ok (.iconst 0, 1) := by decide +kernel
theorem dX5_nextEnd_8 : decode cX5_nextEnd 8 = .ok (.istore_n 2, 1) := by decide +kernel
theorem dX5_nextEnd_9 : decode cX5_nextEnd 9 = .ok (.iload_n 2, 1) := by decide +kernel
theorem dX5_nextEnd_10 : decode cX5_nextEnd 10 = .ok (.iload_n 1, 1) := by decide +kernel
theorem dX5_nextEnd_11 : decode cX5_nextEnd 11 = .ok (.if_icmp .gt 37, 3) := by decide +kernel
theorem dX5_nextEnd_14 : decode cX5_nextEnd 14 = .ok (.aload_n 0, 1) := by decide +kernel
theorem dX5_nextEnd_15 : decode cX5_nextEnd 15 = .ok (.getfield 49, 3) := by decide +kernel
theorem dX5_nextEnd_18 : decode cX5_nextEnd 18 = .ok (.iload_n 2, 1) := by decide +kernel
theorem dX5_nextEnd_19 : decode cX5_nextEnd 19 = .ok (.aload_n 0, 1) := by decide +kernel
theorem dX5_nextEnd_20 : decode cX5_nextEnd 20 = .ok (.getfield 43, 3) := by decide +kernel
theorem dX5_nextEnd_23 : decode cX5_nextEnd 23 = .ok (.iload_n 2, 1) := by decide +kernel
theorem dX5_nextEnd_24 : decode cX5_nextEnd 24 = .ok (.iaload, 1) := by decide +kernel
theorem dX5_nextEnd_25 : decode cX5_nextEnd 25 = .ok (.ifCond .le 7, 3) := by decide +kernel
theorem dX5_nextEnd_28 : decode cX5_nextEnd 28 = .ok (.iconst 0, 1) := by decide +kernel
theorem dX5_nextEnd_29 : decode cX5_nextEnd 29 = .ok (.goto 5, 3) := by decide +kernel
theorem dX5_nextEnd_32 : decode cX5_nextEnd 32 = .ok (.ldc 122, 2) := by decide +kernel
theorem dX5_nextEnd_34 : decode cX5_nextEnd 34 = .ok (.iastore, 1) := by decide +kernel
theorem dX5_nextEnd_35 : decode cX5_nextEnd 35 = .ok (.aload_n 0, 1) := by decide +kernel
theorem dX5_nextEnd_36 : decode cX5_nextEnd 36 = .ok (.getfield 52, 3) := by decide +kernel
theorem dX5_nextEnd_39 : decode cX5_nextEnd 39 = .ok (.iload_n 2, 1) := by decide +kernel
theorem dX5_nextEnd_40 : decode cX5_nextEnd 40 = .ok (.iconst (-1), 1) := by decide +kernel
theorem dX5_nextEnd_41 : decode cX5_nextEnd 41 = .ok (.iastore, 1) := by decide +kernel
theorem dX5_nextEnd_42 : decode cX5_nextEnd 42 = .ok (.iinc 2 1, 3) := by decide +kernel
theorem dX5_nextEnd_45 : decode cX5_nextEnd 45 = .ok (.goto (-36), 3) := by decide +kernel
theorem dX5_nextEnd_48 : decode cX5_nextEnd 48 = .ok (.iconst 1, 1) := by decide +kernel
theorem dX5_nextEnd_49 : decode cX5_nextEnd 49 = .ok (.istore_n 2, 1) := by decide +kernel
theorem dX5_nextEnd_50 : decode cX5_nextEnd 50 = .ok (.iload_n 2, 1) := by decide +kernel
theorem dX5_nextEnd_51 : decode cX5_nextEnd 51 = .ok (.ifCond .eq 220, 3) := by decide +kernel
theorem dX5_nextEnd_54 : decode cX5_nextEnd 54 = .ok (.iconst 0, 1) := by decide +kernel
theorem dX5_nextEnd_55 : decode cX5_nextEnd 55 = .ok (.istore_n 2, 1) := by decide +kernel
theorem dX5_nextEnd_56 : decode cX5_nextEnd 56 = .ok (.iconst 0, 1) := by decide +kernel
theorem dX5_nextEnd_57 : decode cX5_nextEnd 57 = .ok (.istore_n 3, 1) := by decide +kernel
theorem dX5_nextEnd_58 : decode cX5_nextEnd 58 = .ok (.iload_n 3, 1) := by decide +kernel
theorem dX5_nextEnd_59 : decode cX5_nextEnd 59 = .ok (.iload_n 1, 1) := by decide +kernel
theorem dX5_nextEnd_60 : decode cX5_nextEnd 60 = .ok (.if_icmp .gt 208, 3) := by decide +kernel
theorem dX5_nextEnd_63 : decode cX5_nextEnd 63 = .ok (.iconst 0, 1) := by decide +kernel
theorem dX5_nextEnd_64 : decode cX5_nextEnd 64 = .ok (.istore 4, 2) := by decide +kernel
theorem dX5_nextEnd_66 : decode cX5_nextEnd 66 = .ok (.iload 4, 2) := by decide +kernel
theorem dX5_nextEnd_68 : decode cX5_nextEnd 68 = .ok (.iload_n 1, 1) := by decide +kernel
theorem dX5_nextEnd_69 : decode cX5_nextEnd 69 = .ok (.if_icmp .gt 193, 3) := by decide +kernel
theorem dX5_nextEnd_72 : decode cX5_nextEnd 72 = .ok (.aload_n 0, 1) := by decide +kernel
theorem dX5_nextEnd_73 : decode cX5_nextEnd 73 = .ok (.getfield 49, 3) := by decide +kernel
theorem dX5_nextEnd_76 : decode cX5_nextEnd 76 = .ok (.iload_n 3, 1) := by decide +kernel
theorem dX5_nextEnd_77 : decode cX5_nextEnd 77 = .ok (.iaload, 1) := by decide +kernel
theorem dX5_nextEnd_78 : decode cX5_nextEnd 78 = .ok (.ldc 122, 2) := by decide +kernel
theorem dX5_nextEnd_80 : decode cX5_nextEnd 80 = .ok (.if_icmp .ge 176, 3) := by decide +kernel
theorem dX5_nextEnd_83 : decode cX5_nextEnd 83 = .ok (.iload_n 3, 1) := by decide +kernel
theorem dX5_nextEnd_84 : decode cX5_nextEnd 84 = .ok (.iload 4, 2) := by decide +kernel
theorem dX5_nextEnd_86 : decode cX5_nextEnd 86 = .ok (.if_icmp .ne 6, 3) := by decide +kernel
theorem dX5_nextEnd_89 : decode cX5_nextEnd 89 = .ok (.goto 167, 3) := by decide +kernel
theorem dX5_nextEnd_92 : decode cX5_nextEnd 92 = .ok (.aload_n 0, 1) := by decide +kernel
theorem dX5_nextEnd_93 : decode cX5_nextEnd 93 = .ok (.getfield 40, 3) := by decide +kernel
theorem dX5_nextEnd_96 : decode cX5_nextEnd 96 = .ok (.iload_n 3, 1) := by decide +kernel
theorem dX5_nextEnd_97 : decode cX5_nextEnd 97 = .ok (.iaload, 1) := by decide +kernel
theorem dX5_nextEnd_98 : decode cX5_nextEnd 98 = .ok (.ifCond .le 17, 3) := by decide +kernel
theorem dX5_nextEnd_101 : decode cX5_nextEnd 101 = .ok (.aload_n 0, 1) := by decide +kernel
theorem dX5_nextEnd_102 : decode cX5_nextEnd 102 = .ok (.getfield 40, 3) := by decide +kernel
theorem dX5_nextEnd_105 : decode cX5_nextEnd 105 = .ok (.iload 4, 2) := by decide +kernel
theorem dX5_nextEnd_107 : decode cX5_nextEnd 107 = .ok (.iaload, 1) := by decide +kernel
theorem dX5_nextEnd_108 : decode cX5_nextEnd 108 = .ok (.ifCond .ge 7, 3) := by decide +kernel
theorem dX5_nextEnd_111 : decode cX5_nextEnd 111 = .ok (.iconst 1, 1) := by decide +kernel
theorem dX5_nextEnd_112 : decode cX5_nextEnd 112 = .ok (.goto 4, 3) := by decide +kernel
theorem dX5_nextEnd_115 : decode cX5_nextEnd 115 = .ok (.iconst 0, 1) := by decide +kernel
theorem dX5_nextEnd_116 : decode cX5_nextEnd 116 = .ok (.istore 5, 2) := by decide +kernel
theorem dX5_nextEnd_118 : decode cX5_nextEnd 118 = .ok (.aload_n 0, 1) := by decide +kernel
theorem dX5_nextEnd_119 : decode cX5_nextEnd 119 = .ok (.getfield 40, 3) := by decide +kernel
theorem dX5_nextEnd_122 : decode cX5_nextEnd 122 = .ok (.iload_n 3, 1) := by decide +kernel
theorem dX5_nextEnd_123 : decode cX5_nextEnd 123 = .ok (.iaload, 1) := by decide +kernel
theorem dX5_nextEnd_124 : decode cX5_nextEnd 124 = .ok (.ifCond .ge 32, 3) := by decide +kernel
theorem dX5_nextEnd_127 : decode cX5_nextEnd 127 = .ok (.aload_n 0, 1) := by decide +kernel
theorem dX5_nextEnd_128 : decode cX5_nextEnd 128 = .ok (.getfield 40, 3) := by decide +kernel
theorem dX5_nextEnd_131 : decode cX5_nextEnd 131 = .ok (.iload 4, 2) := by decide +kernel
theorem dX5_nextEnd_133 : decode cX5_nextEnd 133 = .ok (.iaload, 1) := by decide +kernel
theorem dX5_nextEnd_134 : decode cX5_nextEnd 134 = .ok (.ifCond .le 22, 3) := by decide +kernel
theorem dX5_nextEnd_137 : decode cX5_nextEnd 137 = .ok (.aload_n 0, 1) := by decide +kernel
theorem dX5_nextEnd_138 : decode cX5_nextEnd 138 = .ok (.getfield 46, 3) := by decide +kernel
theorem dX5_nextEnd_141 : decode cX5_nextEnd 141 = .ok (.bipush 41, 2) := by decide +kernel
theorem dX5_nextEnd_143 : decode cX5_nextEnd 143 = .ok (.iload 4, 2) := by decide +kernel
theorem dX5_nextEnd_145 : decode cX5_nextEnd 145 = .ok (.imul, 1) := by decide +kernel
theorem dX5_nextEnd_146 : decode cX5_nextEnd 146 = .ok (.iload_n 3, 1) := by decide +kernel
theorem dX5_nextEnd_147 : decode cX5_nextEnd 147 = .ok (.iadd, 1) := by decide +kernel
theorem dX5_nextEnd_148 : decode cX5_nextEnd 148 = .ok (.iaload, 1) := by decide +kernel
theorem dX5_nextEnd_149 : decode cX5_nextEnd 149 = .ok (.ifCond .le 7, 3) := by decide +kernel
theorem dX5_nextEnd_152 : decode cX5_nextEnd 152 = .ok (.iconst 1, 1) := by decide +kernel
theorem dX5_nextEnd_153 : decode cX5_nextEnd 153 = .ok (.goto 4, 3) := by decide +kernel
theorem dX5_nextEnd_156 : decode cX5_nextEnd 156 = .ok (.iconst 0, 1) := by decide +kernel
theorem dX5_nextEnd_157 : decode cX5_nextEnd 157 = .ok (.istore 6, 2) := by decide +kernel
theorem dX5_nextEnd_159 : decode cX5_nextEnd 159 = .ok (.iload 5, 2) := by decide +kernel
theorem dX5_nextEnd_161 : decode cX5_nextEnd 161 = .ok (.ifCond .eq 18, 3) := by decide +kernel
theorem dX5_nextEnd_164 : decode cX5_nextEnd 164 = .ok (.aload_n 0, 1) := by decide +kernel
theorem dX5_nextEnd_165 : decode cX5_nextEnd 165 = .ok (.getfield 37, 3) := by decide +kernel
theorem dX5_nextEnd_168 : decode cX5_nextEnd 168 = .ok (.bipush 41, 2) := by decide +kernel
theorem dX5_nextEnd_170 : decode cX5_nextEnd 170 = .ok (.iload_n 3, 1) := by decide +kernel
theorem dX5_nextEnd_171 : decode cX5_nextEnd 171 = .ok (.imul, 1) := by decide +kernel
theorem dX5_nextEnd_172 : decode cX5_nextEnd 172 = .ok (.iload 4, 2) := by decide +kernel
theorem dX5_nextEnd_174 : decode cX5_nextEnd 174 = .ok (.iadd, 1) := by decide +kernel
theorem dX5_nextEnd_175 : decode cX5_nextEnd 175 = .ok (.iaload, 1) := by decide +kernel
theorem dX5_nextEnd_176 : decode cX5_nextEnd 176 = .ok (.goto 26, 3) := by decide +kernel
theorem dX5_nextEnd_179 : decode cX5_nextEnd 179 = .ok (.iload 6, 2) := by decide +kernel
theorem dX5_nextEnd_181 : decode cX5_nextEnd 181 = .ok (.ifCond .eq 19, 3) := by decide +kernel
theorem dX5_nextEnd_184 : decode cX5_nextEnd 184 = .ok (.aload_n 0, 1) := by decide +kernel
theorem dX5_nextEnd_185 : decode cX5_nextEnd 185 = .ok (.getfield 37, 3) := by decide +kernel
theorem dX5_nextEnd_188 : decode cX5_nextEnd 188 = .ok (.bipush 41, 2) := by decide +kernel
theorem dX5_nextEnd_190 : decode cX5_nextEnd 190 = .ok (.iload 4, 2) := by decide +kernel
theorem dX5_nextEnd_192 : decode cX5_nextEnd 192 = .ok (.imul, 1) := by decide +kernel
theorem dX5_nextEnd_193 : decode cX5_nextEnd 193 = .ok (.iload_n 3, 1) := by decide +kernel
theorem dX5_nextEnd_194 : decode cX5_nextEnd 194 = .ok (.iadd, 1) := by decide +kernel
theorem dX5_nextEnd_195 : decode cX5_nextEnd 195 = .ok (.iaload, 1) := by decide +kernel
theorem dX5_nextEnd_196 : decode cX5_nextEnd 196 = .ok (.ineg, 1) := by decide +kernel
theorem dX5_nextEnd_197 : decode cX5_nextEnd 197 = .ok (.goto 5, 3) := by decide +kernel
theorem dX5_nextEnd_200 : decode cX5_nextEnd 200 = .ok (.ldc 122, 2) := by decide +kernel
theorem dX5_nextEnd_202 : decode cX5_nextEnd 202 = .ok (.istore 7, 2) := by decide +kernel
theorem dX5_nextEnd_204 : decode cX5_nextEnd 204 = .ok (.iload 7, 2) := by decide +kernel
theorem dX5_nextEnd_206 : decode cX5_nextEnd 206 = .ok (.ldc 122, 2) := by decide +kernel
theorem dX5_nextEnd_208 : decode cX5_nextEnd 208 = .ok (.if_icmp .ge 48, 3) := by decide +kernel
theorem dX5_nextEnd_211 : decode cX5_nextEnd 211 = .ok (.aload_n 0, 1) := by decide +kernel
theorem dX5_nextEnd_212 : decode cX5_nextEnd 212 = .ok (.getfield 49, 3) := by decide +kernel
theorem dX5_nextEnd_215 : decode cX5_nextEnd 215 = .ok (.iload_n 3, 1) := by decide +kernel
theorem dX5_nextEnd_216 : decode cX5_nextEnd 216 = .ok (.iaload, 1) := by decide +kernel
theorem dX5_nextEnd_217 : decode cX5_nextEnd 217 = .ok (.iload 7, 2) := by decide +kernel
theorem dX5_nextEnd_219 : decode cX5_nextEnd 219 = .ok (.iadd, 1) := by decide +kernel
theorem dX5_nextEnd_220 : decode cX5_nextEnd 220 = .ok (.aload_n 0, 1) := by decide +kernel
theorem dX5_nextEnd_221 : decode cX5_nextEnd 221 = .ok (.getfield 49, 3) := by decide +kernel
theorem dX5_nextEnd_224 : decode cX5_nextEnd 224 = .ok (.iload 4, 2) := by decide +kernel
theorem dX5_nextEnd_226 : decode cX5_nextEnd 226 = .ok (.iaload, 1) := by decide +kernel
theorem dX5_nextEnd_227 : decode cX5_nextEnd 227 = .ok (.if_icmp .ge 29, 3) := by decide +kernel
theorem dX5_nextEnd_230 : decode cX5_nextEnd 230 = .ok (.aload_n 0, 1) := by decide +kernel
theorem dX5_nextEnd_231 : decode cX5_nextEnd 231 = .ok (.getfield 49, 3) := by decide +kernel
theorem dX5_nextEnd_234 : decode cX5_nextEnd 234 = .ok (.iload 4, 2) := by decide +kernel
theorem dX5_nextEnd_236 : decode cX5_nextEnd 236 = .ok (.aload_n 0, 1) := by decide +kernel
theorem dX5_nextEnd_237 : decode cX5_nextEnd 237 = .ok (.getfield 49, 3) := by decide +kernel
theorem dX5_nextEnd_240 : decode cX5_nextEnd 240 = .ok (.iload_n 3, 1) := by decide +kernel
theorem dX5_nextEnd_241 : decode cX5_nextEnd 241 = .ok (.iaload, 1) := by decide +kernel
theorem dX5_nextEnd_242 : decode cX5_nextEnd 242 = .ok (.iload 7, 2) := by decide +kernel
theorem dX5_nextEnd_244 : decode cX5_nextEnd 244 = .ok (.iadd, 1) := by decide +kernel
theorem dX5_nextEnd_245 : decode cX5_nextEnd 245 = .ok (.iastore, 1) := by decide +kernel
theorem dX5_nextEnd_246 : decode cX5_nextEnd 246 = .ok (.aload_n 0, 1) := by decide +kernel
theorem dX5_nextEnd_247 : decode cX5_nextEnd 247 = .ok (.getfield 52, 3) := by decide +kernel
theorem dX5_nextEnd_250 : decode cX5_nextEnd 250 = .ok (.iload 4, 2) := by decide +kernel
theorem dX5_nextEnd_252 : decode cX5_nextEnd 252 = .ok (.iload_n 3, 1) := by decide +kernel
theorem dX5_nextEnd_253 : decode cX5_nextEnd 253 = .ok (.iastore, 1) := by decide +kernel
theorem dX5_nextEnd_254 : decode cX5_nextEnd 254 = .ok (.iconst 1, 1) := by decide +kernel
theorem dX5_nextEnd_255 : decode cX5_nextEnd 255 = .ok (.istore_n 2, 1) := by decide +kernel
theorem dX5_nextEnd_256 : decode cX5_nextEnd 256 = .ok (.iinc 4 1, 3) := by decide +kernel
theorem dX5_nextEnd_259 : decode cX5_nextEnd 259 = .ok (.goto (-193), 3) := by decide +kernel
theorem dX5_nextEnd_262 : decode cX5_nextEnd 262 = .ok (.iinc 3 1, 3) := by decide +kernel
theorem dX5_nextEnd_265 : decode cX5_nextEnd 265 = .ok (.goto (-207), 3) := by decide +kernel
theorem dX5_nextEnd_268 : decode cX5_nextEnd 268 = .ok (.goto (-218), 3) := by decide +kernel
theorem dX5_nextEnd_271 : decode cX5_nextEnd 271 = .ok (.iconst (-1), 1) := by decide +kernel
theorem dX5_nextEnd_272 : decode cX5_nextEnd 272 = .ok (.istore_n 3, 1) := by decide +kernel
theorem dX5_nextEnd_273 : decode cX5_nextEnd 273 = .ok (.iconst 0, 1) := by decide +kernel
theorem dX5_nextEnd_274 : decode cX5_nextEnd 274 = .ok (.istore 4, 2) := by decide +kernel
theorem dX5_nextEnd_276 : decode cX5_nextEnd 276 = .ok (.iload 4, 2) := by decide +kernel
theorem dX5_nextEnd_278 : decode cX5_nextEnd 278 = .ok (.iload_n 1, 1) := by decide +kernel
theorem dX5_nextEnd_279 : decode cX5_nextEnd 279 = .ok (.if_icmp .gt 55, 3) := by decide +kernel
theorem dX5_nextEnd_282 : decode cX5_nextEnd 282 = .ok (.aload_n 0, 1) := by decide +kernel
theorem dX5_nextEnd_283 : decode cX5_nextEnd 283 = .ok (.getfield 43, 3) := by decide +kernel
theorem dX5_nextEnd_286 : decode cX5_nextEnd 286 = .ok (.iload 4, 2) := by decide +kernel
theorem dX5_nextEnd_288 : decode cX5_nextEnd 288 = .ok (.iaload, 1) := by decide +kernel
theorem dX5_nextEnd_289 : decode cX5_nextEnd 289 = .ok (.ifCond .ge 39, 3) := by decide +kernel
theorem dX5_nextEnd_292 : decode cX5_nextEnd 292 = .ok (.aload_n 0, 1) := by decide +kernel
theorem dX5_nextEnd_293 : decode cX5_nextEnd 293 = .ok (.getfield 49, 3) := by decide +kernel
theorem dX5_nextEnd_296 : decode cX5_nextEnd 296 = .ok (.iload 4, 2) := by decide +kernel
theorem dX5_nextEnd_298 : decode cX5_nextEnd 298 = .ok (.iaload, 1) := by decide +kernel
theorem dX5_nextEnd_299 : decode cX5_nextEnd 299 = .ok (.ldc 122, 2) := by decide +kernel
theorem dX5_nextEnd_301 : decode cX5_nextEnd 301 = .ok (.if_icmp .ge 27, 3) := by decide +kernel
theorem dX5_nextEnd_304 : decode cX5_nextEnd 304 = .ok (.iload_n 3, 1) := by decide +kernel
theorem dX5_nextEnd_305 : decode cX5_nextEnd 305 = .ok (.iconst (-1), 1) := by decide +kernel
theorem dX5_nextEnd_306 : decode cX5_nextEnd 306 = .ok (.if_icmp .eq 19, 3) := by decide +kernel
theorem dX5_nextEnd_309 : decode cX5_nextEnd 309 = .ok (.aload_n 0, 1) := by decide +kernel
theorem dX5_nextEnd_310 : decode cX5_nextEnd 310 = .ok (.getfield 49, 3) := by decide +kernel
theorem dX5_nextEnd_313 : decode cX5_nextEnd 313 = .ok (.iload 4, 2) := by decide +kernel
theorem dX5_nextEnd_315 : decode cX5_nextEnd 315 = .ok (.iaload, 1) := by decide +kernel
theorem dX5_nextEnd_316 : decode cX5_nextEnd 316 = .ok (.aload_n 0, 1) := by decide +kernel
theorem dX5_nextEnd_317 : decode cX5_nextEnd 317 = .ok (.getfield 49, 3) := by decide +kernel
theorem dX5_nextEnd_320 : decode cX5_nextEnd 320 = .ok (.iload_n 3, 1) := by decide +kernel
theorem dX5_nextEnd_321 : decode cX5_nextEnd 321 = .ok (.iaload, 1) := by decide +kernel
theorem dX5_nextEnd_322 : decode cX5_nextEnd 322 = .ok (.if_icmp .ge 6, 3) := by decide +kernel
theorem dX5_nextEnd_325 : decode cX5_nextEnd 325 = .ok (.iload 4, 2) := by decide +kernel
theorem dX5_nextEnd_327 : decode cX5_nextEnd 327 = .ok (.istore_n 3, 1) := by decide +kernel
theorem dX5_nextEnd_328 : decode cX5_nextEnd 328 = .ok (.iinc 4 1, 3) := by decide +kernel
theorem dX5_nextEnd_331 : decode cX5_nextEnd 331 = .ok (.goto (-55), 3) := by decide +kernel
theorem dX5_nextEnd_334 : decode cX5_nextEnd 334 = .ok (.iload_n 3, 1) := by decide +kernel
theorem dX5_nextEnd_335 : decode cX5_nextEnd 335 = .ok (.ireturn, 1) := by decide +kernel
theorem dX5_sendOn_0 : decode cX5_sendOn 0 = .ok (.aload_n 0, 1) := by decide +kernel
theorem dX5_sendOn_1 : decode cX5_sendOn 1 = .ok (.getfield 43, 3) := by decide +kernel
theorem dX5_sendOn_4 : decode cX5_sendOn 4 = .ok (.iload_n 1, 1) := by decide +kernel
theorem dX5_sendOn_5 : decode cX5_sendOn 5 = .ok (.iaload, 1) := by decide +kernel
theorem dX5_sendOn_6 : decode cX5_sendOn 6 = .ok (.ineg, 1) := by decide +kernel
theorem dX5_sendOn_7 : decode cX5_sendOn 7 = .ok (.istore_n 2, 1) := by decide +kernel
theorem dX5_sendOn_8 : decode cX5_sendOn 8 = .ok (.iload_n 1, 1) := by decide +kernel
theorem dX5_sendOn_9 : decode cX5_sendOn 9 = .ok (.istore_n 3, 1) := by decide +kernel
theorem dX5_sendOn_10 : decode cX5_sendOn 10 = .ok (.aload_n 0, 1) := by decide +kernel
theorem dX5_sendOn_11 : decode cX5_sendOn 11 = .ok (.getfield 52, 3) := by decide +kernel
theorem dX5_sendOn_14 : decode cX5_sendOn 14 = .ok (.iload_n 3, 1) := by decide +kernel
theorem dX5_sendOn_15 : decode cX5_sendOn 15 = .ok (.iaload, 1) := by decide +kernel
theorem dX5_sendOn_16 : decode cX5_sendOn 16 = .ok (.iconst (-1), 1) := by decide +kernel
theorem dX5_sendOn_17 : decode cX5_sendOn 17 = .ok (.if_icmp .eq 60, 3) := by decide +kernel
theorem dX5_sendOn_20 : decode cX5_sendOn 20 = .ok (.aload_n 0, 1) := by decide +kernel
theorem dX5_sendOn_21 : decode cX5_sendOn 21 = .ok (.getfield 52, 3) := by decide +kernel
theorem dX5_sendOn_24 : decode cX5_sendOn 24 = .ok (.iload_n 3, 1) := by decide +kernel
theorem dX5_sendOn_25 : decode cX5_sendOn 25 = .ok (.iaload, 1) := by decide +kernel
theorem dX5_sendOn_26 : decode cX5_sendOn 26 = .ok (.istore 4, 2) := by decide +kernel
theorem dX5_sendOn_28 : decode cX5_sendOn 28 = .ok (.aload_n 0, 1) := by decide +kernel
theorem dX5_sendOn_29 : decode cX5_sendOn 29 = .ok (.getfield 40, 3) := by decide +kernel
theorem dX5_sendOn_32 : decode cX5_sendOn 32 = .ok (.iload 4, 2) := by decide +kernel
theorem dX5_sendOn_34 : decode cX5_sendOn 34 = .ok (.iaload, 1) := by decide +kernel
theorem dX5_sendOn_35 : decode cX5_sendOn 35 = .ok (.ifCond .ge 36, 3) := by decide +kernel
theorem dX5_sendOn_38 : decode cX5_sendOn 38 = .ok (.aload_n 0, 1) := by decide +kernel
theorem dX5_sendOn_39 : decode cX5_sendOn 39 = .ok (.getfield 46, 3) := by decide +kernel
theorem dX5_sendOn_42 : decode cX5_sendOn 42 = .ok (.bipush 41, 2) := by decide +kernel
theorem dX5_sendOn_44 : decode cX5_sendOn 44 = .ok (.iload_n 3, 1) := by decide +kernel
theorem dX5_sendOn_45 : decode cX5_sendOn 45 = .ok (.imul, 1) := by decide +kernel
theorem dX5_sendOn_46 : decode cX5_sendOn 46 = .ok (.iload 4, 2) := by decide +kernel
theorem dX5_sendOn_48 : decode cX5_sendOn 48 = .ok (.iadd, 1) := by decide +kernel
theorem dX5_sendOn_49 : decode cX5_sendOn 49 = .ok (.iaload, 1) := by decide +kernel
theorem dX5_sendOn_50 : decode cX5_sendOn 50 = .ok (.iload_n 2, 1) := by decide +kernel
theorem dX5_sendOn_51 : decode cX5_sendOn 51 = .ok (.if_icmp .ge 18, 3) := by decide +kernel
theorem dX5_sendOn_54 : decode cX5_sendOn 54 = .ok (.aload_n 0, 1) := by decide +kernel
theorem dX5_sendOn_55 : decode cX5_sendOn 55 = .ok (.getfield 46, 3) := by decide +kernel
theorem dX5_sendOn_58 : decode cX5_sendOn 58 = .ok (.bipush 41, 2) := by decide +kernel
theorem dX5_sendOn_60 : decode cX5_sendOn 60 = .ok (.iload_n 3, 1) := by decide +kernel
theorem dX5_sendOn_61 : decode cX5_sendOn 61 = .ok (.imul, 1) := by decide +kernel
theorem dX5_sendOn_62 : decode cX5_sendOn 62 = .ok (.iload 4, 2) := by decide +kernel
theorem dX5_sendOn_64 : decode cX5_sendOn 64 = .ok (.iadd, 1) := by decide +kernel
theorem dX5_sendOn_65 : decode cX5_sendOn 65 = .ok (.iaload, 1) := by decide +kernel
theorem dX5_sendOn_66 : decode cX5_sendOn 66 = .ok (.goto 4, 3) := by decide +kernel
theorem dX5_sendOn_69 : decode cX5_sendOn 69 = .ok (.iload_n 2, 1) := by decide +kernel
theorem dX5_sendOn_70 : decode cX5_sendOn 70 = .ok (.istore_n 2, 1) := by decide +kernel
theorem dX5_sendOn_71 : decode cX5_sendOn 71 = .ok (.iload 4, 2) := by decide +kernel
theorem dX5_sendOn_73 : decode cX5_sendOn 73 = .ok (.istore_n 3, 1) := by decide +kernel
theorem dX5_sendOn_74 : decode cX5_sendOn 74 = .ok (.goto (-64), 3) := by decide +kernel
theorem dX5_sendOn_77 : decode cX5_sendOn 77 = .ok (.aload_n 0, 1) := by decide +kernel
theorem dX5_sendOn_78 : decode cX5_sendOn 78 = .ok (.getfield 43, 3) := by decide +kernel
theorem dX5_sendOn_81 : decode cX5_sendOn 81 = .ok (.iload_n 3, 1) := by decide +kernel
theorem dX5_sendOn_82 : decode cX5_sendOn 82 = .ok (.iaload, 1) := by decide +kernel
theorem dX5_sendOn_83 : decode cX5_sendOn 83 = .ok (.iload_n 2, 1) := by decide +kernel
theorem dX5_sendOn_84 : decode cX5_sendOn 84 = .ok (.if_icmp .ge 12, 3) := by decide +kernel
theorem dX5_sendOn_87 : decode cX5_sendOn 87 = .ok (.aload_n 0, 1) := by decide +kernel
theorem dX5_sendOn_88 : decode cX5_sendOn 88 = .ok (.getfield 43, 3) := by decide +kernel
theorem dX5_sendOn_91 : decode cX5_sendOn 91 = .ok (.iload_n 3, 1) := by decide +kernel
theorem dX5_sendOn_92 : decode cX5_sendOn 92 = .ok (.iaload, 1) := by decide +kernel
theorem dX5_sendOn_93 : decode cX5_sendOn 93 = .ok (.goto 4, 3) := by decide +kernel
theorem dX5_sendOn_96 : decode cX5_sendOn 96 = .ok (.iload_n 2, 1) := by decide +kernel
theorem dX5_sendOn_97 : decode cX5_sendOn 97 = .ok (.istore_n 2, 1) := by decide +kernel
theorem dX5_sendOn_98 : decode cX5_sendOn 98 = .ok (.aload_n 0, 1) := by decide +kernel
theorem dX5_sendOn_99 : decode cX5_sendOn 99 = .ok (.getfield 43, 3) := by decide +kernel
theorem dX5_sendOn_102 : decode cX5_sendOn 102 = .ok (.iload_n 3, 1) := by decide +kernel
theorem dX5_sendOn_103 : decode cX5_sendOn 103 = .ok (.dup2, 1) := by decide +kernel
theorem dX5_sendOn_104 : decode cX5_sendOn 104 = .ok (.iaload, 1) := by decide +kernel
theorem dX5_sendOn_105 : decode cX5_sendOn 105 = .ok (.iload_n 2, 1) := by decide +kernel
theorem dX5_sendOn_106 : decode cX5_sendOn 106 = .ok (.isub, 1) := by decide +kernel
theorem dX5_sendOn_107 : decode cX5_sendOn 107 = .ok (.iastore, 1) := by decide +kernel
theorem dX5_sendOn_108 : decode cX5_sendOn 108 = .ok (.aload_n 0, 1) := by decide +kernel
theorem dX5_sendOn_109 : decode cX5_sendOn 109 = .ok (.getfield 43, 3) := by decide +kernel
theorem dX5_sendOn_112 : decode cX5_sendOn 112 = .ok (.iload_n 1, 1) := by decide +kernel
theorem dX5_sendOn_113 : decode cX5_sendOn 113 = .ok (.dup2, 1) := by decide +kernel
theorem dX5_sendOn_114 : decode cX5_sendOn 114 = .ok (.iaload, 1) := by decide +kernel
theorem dX5_sendOn_115 : decode cX5_sendOn 115 = .ok (.iload_n 2, 1) := by decide +kernel
theorem dX5_sendOn_116 : decode cX5_sendOn 116 = .ok (.iadd, 1) := by decide +kernel
theorem dX5_sendOn_117 : decode cX5_sendOn 117 = .ok (.iastore, 1) := by decide +kernel
theorem dX5_sendOn_118 : decode cX5_sendOn 118 = .ok (.iload_n 1, 1) := by decide +kernel
theorem dX5_sendOn_119 : decode cX5_sendOn 119 = .ok (.istore_n 3, 1) := by decide +kernel
theorem dX5_sendOn_120 : decode cX5_sendOn 120 = .ok (.aload_n 0, 1) := by decide +kernel
theorem dX5_sendOn_121 : decode cX5_sendOn 121 = .ok (.getfield 52, 3) := by decide +kernel
theorem dX5_sendOn_124 : decode cX5_sendOn 124 = .ok (.iload_n 3, 1) := by decide +kernel
theorem dX5_sendOn_125 : decode cX5_sendOn 125 = .ok (.iaload, 1) := by decide +kernel
theorem dX5_sendOn_126 : decode cX5_sendOn 126 = .ok (.iconst (-1), 1) := by decide +kernel
theorem dX5_sendOn_127 : decode cX5_sendOn 127 = .ok (.if_icmp .eq 62, 3) := by decide +kernel
theorem dX5_sendOn_130 : decode cX5_sendOn 130 = .ok (.aload_n 0, 1) := by decide +kernel
theorem dX5_sendOn_131 : decode cX5_sendOn 131 = .ok (.getfield 52, 3) := by decide +kernel
theorem dX5_sendOn_134 : decode cX5_sendOn 134 = .ok (.iload_n 3, 1) := by decide +kernel
theorem dX5_sendOn_135 : decode cX5_sendOn 135 = .ok (.iaload, 1) := by decide +kernel
theorem dX5_sendOn_136 : decode cX5_sendOn 136 = .ok (.istore 4, 2) := by decide +kernel
theorem dX5_sendOn_138 : decode cX5_sendOn 138 = .ok (.aload_n 0, 1) := by decide +kernel
theorem dX5_sendOn_139 : decode cX5_sendOn 139 = .ok (.getfield 40, 3) := by decide +kernel
theorem dX5_sendOn_142 : decode cX5_sendOn 142 = .ok (.iload 4, 2) := by decide +kernel
theorem dX5_sendOn_144 : decode cX5_sendOn 144 = .ok (.iaload, 1) := by decide +kernel
theorem dX5_sendOn_145 : decode cX5_sendOn 145 = .ok (.ifCond .le 22, 3) := by decide +kernel
theorem dX5_sendOn_148 : decode cX5_sendOn 148 = .ok (.aload_n 0, 1) := by decide +kernel
theorem dX5_sendOn_149 : decode cX5_sendOn 149 = .ok (.getfield 46, 3) := by decide +kernel
theorem dX5_sendOn_152 : decode cX5_sendOn 152 = .ok (.bipush 41, 2) := by decide +kernel
theorem dX5_sendOn_154 : decode cX5_sendOn 154 = .ok (.iload 4, 2) := by decide +kernel
theorem dX5_sendOn_156 : decode cX5_sendOn 156 = .ok (.imul, 1) := by decide +kernel
theorem dX5_sendOn_157 : decode cX5_sendOn 157 = .ok (.iload_n 3, 1) := by decide +kernel
theorem dX5_sendOn_158 : decode cX5_sendOn 158 = .ok (.iadd, 1) := by decide +kernel
theorem dX5_sendOn_159 : decode cX5_sendOn 159 = .ok (.dup2, 1) := by decide +kernel
theorem dX5_sendOn_160 : decode cX5_sendOn 160 = .ok (.iaload, 1) := by decide +kernel
theorem dX5_sendOn_161 : decode cX5_sendOn 161 = .ok (.iload_n 2, 1) := by decide +kernel
theorem dX5_sendOn_162 : decode cX5_sendOn 162 = .ok (.iadd, 1) := by decide +kernel
theorem dX5_sendOn_163 : decode cX5_sendOn 163 = .ok (.iastore, 1) := by decide +kernel
theorem dX5_sendOn_164 : decode cX5_sendOn 164 = .ok (.goto 19, 3) := by decide +kernel
theorem dX5_sendOn_167 : decode cX5_sendOn 167 = .ok (.aload_n 0, 1) := by decide +kernel
theorem dX5_sendOn_168 : decode cX5_sendOn 168 = .ok (.getfield 46, 3) := by decide +kernel
theorem dX5_sendOn_171 : decode cX5_sendOn 171 = .ok (.bipush 41, 2) := by decide +kernel
theorem dX5_sendOn_173 : decode cX5_sendOn 173 = .ok (.iload_n 3, 1) := by decide +kernel
theorem dX5_sendOn_174 : decode cX5_sendOn 174 = .ok (.imul, 1) := by decide +kernel
theorem dX5_sendOn_175 : decode cX5_sendOn 175 = .ok (.iload 4, 2) := by decide +kernel
theorem dX5_sendOn_177 : decode cX5_sendOn 177 = .ok (.iadd, 1) := by decide +kernel
theorem dX5_sendOn_178 : decode cX5_sendOn 178 = .ok (.dup2, 1) := by decide +kernel
theorem dX5_sendOn_179 : decode cX5_sendOn 179 = .ok (.iaload, 1) := by decide +kernel
theorem dX5_sendOn_180 : decode cX5_sendOn 180 = .ok (.iload_n 2, 1) := by decide +kernel
theorem dX5_sendOn_181 : decode cX5_sendOn 181 = .ok (.isub, 1) := by decide +kernel
theorem dX5_sendOn_182 : decode cX5_sendOn 182 = .ok (.iastore, 1) := by decide +kernel
theorem dX5_sendOn_183 : decode cX5_sendOn 183 = .ok (.iload 4, 2) := by decide +kernel
theorem dX5_sendOn_185 : decode cX5_sendOn 185 = .ok (.istore_n 3, 1) := by decide +kernel
theorem dX5_sendOn_186 : decode cX5_sendOn 186 = .ok (.goto (-66), 3) := by decide +kernel
theorem dX5_sendOn_189 : decode cX5_sendOn 189 = .ok (.return_, 1) := by decide +kernel
theorem dX5_bestOf_0 : decode cX5_bestOf 0 = .ok (.aload_n 0, 1) := by decide +kernel
theorem dX5_bestOf_1 : decode cX5_bestOf 1 = .ok (.getfield 7, 3) := by decide +kernel
theorem dX5_bestOf_4 : decode cX5_bestOf 4 = .ok (.iconst 0, 1) := by decide +kernel
theorem dX5_bestOf_5 : decode cX5_bestOf 5 = .ok (.iaload, 1) := by decide +kernel
theorem dX5_bestOf_6 : decode cX5_bestOf 6 = .ok (.istore 4, 2) := by decide +kernel
theorem dX5_bestOf_8 : decode cX5_bestOf 8 = .ok (.aload_n 0, 1) := by decide +kernel
theorem dX5_bestOf_9 : decode cX5_bestOf 9 = .ok (.iload_n 1, 1) := by decide +kernel
theorem dX5_bestOf_10 : decode cX5_bestOf 10 = .ok (.invokevirtual 127, 3) := by decide +kernel
theorem dX5_bestOf_13 : decode cX5_bestOf 13 = .ok (.aload_n 0, 1) := by decide +kernel
theorem dX5_bestOf_14 : decode cX5_bestOf 14 = .ok (.iload_n 1, 1) := by decide +kernel
theorem dX5_bestOf_15 : decode cX5_bestOf 15 = .ok (.iload_n 2, 1) := by decide +kernel
theorem dX5_bestOf_16 : decode cX5_bestOf 16 = .ok (.iload_n 3, 1) := by decide +kernel
theorem dX5_bestOf_17 : decode cX5_bestOf 17 = .ok (.invokevirtual 130, 3) := by decide +kernel
theorem dX5_bestOf_20 : decode cX5_bestOf 20 = .ok (.iconst 0, 1) := by decide +kernel
theorem dX5_bestOf_21 : decode cX5_bestOf 21 = .ok (.istore 5, 2) := by decide +kernel
theorem dX5_bestOf_23 : decode cX5_bestOf 23 = .ok (.iload 5, 2) := by decide +kernel
theorem dX5_bestOf_25 : decode cX5_bestOf 25 = .ok (.iload 4, 2) := by decide +kernel
theorem dX5_bestOf_27 : decode cX5_bestOf 27 = .ok (.if_icmp .gt 23, 3) := by decide +kernel
theorem dX5_bestOf_30 : decode cX5_bestOf 30 = .ok (.aload_n 0, 1) := by decide +kernel
theorem dX5_bestOf_31 : decode cX5_bestOf 31 = .ok (.getfield 43, 3) := by decide +kernel
theorem dX5_bestOf_34 : decode cX5_bestOf 34 = .ok (.iload 5, 2) := by decide +kernel
theorem dX5_bestOf_36 : decode cX5_bestOf 36 = .ok (.aload_n 0, 1) := by decide +kernel
theorem dX5_bestOf_37 : decode cX5_bestOf 37 = .ok (.getfield 40, 3) := by decide +kernel
theorem dX5_bestOf_40 : decode cX5_bestOf 40 = .ok (.iload 5, 2) := by decide +kernel
theorem dX5_bestOf_42 : decode cX5_bestOf 42 = .ok (.iaload, 1) := by decide +kernel
theorem dX5_bestOf_43 : decode cX5_bestOf 43 = .ok (.iastore, 1) := by decide +kernel
theorem dX5_bestOf_44 : decode cX5_bestOf 44 = .ok (.iinc 5 1, 3) := by decide +kernel
theorem dX5_bestOf_47 : decode cX5_bestOf 47 = .ok (.goto (-24), 3) := by decide +kernel
theorem dX5_bestOf_50 : decode cX5_bestOf 50 = .ok (.iconst 0, 1) := by decide +kernel
theorem dX5_bestOf_51 : decode cX5_bestOf 51 = .ok (.istore 5, 2) := by decide +kernel
theorem dX5_bestOf_53 : decode cX5_bestOf 53 = .ok (.iload 5, 2) := by decide +kernel
theorem dX5_bestOf_55 : decode cX5_bestOf 55 = .ok (.sipush 1681, 3) := by decide +kernel
theorem dX5_bestOf_58 : decode cX5_bestOf 58 = .ok (.if_icmp .ge 17, 3) := by decide +kernel
theorem dX5_bestOf_61 : decode cX5_bestOf 61 = .ok (.aload_n 0, 1) := by decide +kernel
theorem dX5_bestOf_62 : decode cX5_bestOf 62 = .ok (.getfield 46, 3) := by decide +kernel
theorem dX5_bestOf_65 : decode cX5_bestOf 65 = .ok (.iload 5, 2) := by decide +kernel
theorem dX5_bestOf_67 : decode cX5_bestOf 67 = .ok (.iconst 0, 1) := by decide +kernel
theorem dX5_bestOf_68 : decode cX5_bestOf 68 = .ok (.iastore, 1) := by decide +kernel
theorem dX5_bestOf_69 : decode cX5_bestOf 69 = .ok (.iinc 5 1, 3) := by decide +kernel
theorem dX5_bestOf_72 : decode cX5_bestOf 72 = .ok (.goto (-19), 3) := by decide +kernel
theorem dX5_bestOf_75 : decode cX5_bestOf 75 = .ok (.aload_n 0, 1) := by decide +kernel
theorem dX5_bestOf_76 : decode cX5_bestOf 76 = .ok (.invokevirtual 133, 3) := by decide +kernel
theorem dX5_bestOf_79 : decode cX5_bestOf 79 = .ok (.istore 5, 2) := by decide +kernel
theorem dX5_bestOf_81 : decode cX5_bestOf 81 = .ok (.iload 5, 2) := by decide +kernel
theorem dX5_bestOf_83 : decode cX5_bestOf 83 = .ok (.iconst (-1), 1) := by decide +kernel
theorem dX5_bestOf_84 : decode cX5_bestOf 84 = .ok (.if_icmp .eq 18, 3) := by decide +kernel
theorem dX5_bestOf_87 : decode cX5_bestOf 87 = .ok (.aload_n 0, 1) := by decide +kernel
theorem dX5_bestOf_88 : decode cX5_bestOf 88 = .ok (.iload 5, 2) := by decide +kernel
theorem dX5_bestOf_90 : decode cX5_bestOf 90 = .ok (.invokevirtual 137, 3) := by decide +kernel
theorem dX5_bestOf_93 : decode cX5_bestOf 93 = .ok (.aload_n 0, 1) := by decide +kernel
theorem dX5_bestOf_94 : decode cX5_bestOf 94 = .ok (.invokevirtual 133, 3) := by decide +kernel
theorem dX5_bestOf_97 : decode cX5_bestOf 97 = .ok (.istore 5, 2) := by decide +kernel
theorem dX5_bestOf_99 : decode cX5_bestOf 99 = .ok (.goto (-18), 3) := by decide +kernel
theorem dX5_bestOf_102 : decode cX5_bestOf 102 = .ok (.lconst 0, 1) := by decide +kernel
theorem dX5_bestOf_103 : decode cX5_bestOf 103 = .ok (.lstore 6, 2) := by decide +kernel
theorem dX5_bestOf_105 : decode cX5_bestOf 105 = .ok (.iconst 0, 1) := by decide +kernel
theorem dX5_bestOf_106 : decode cX5_bestOf 106 = .ok (.istore 8, 2) := by decide +kernel
theorem dX5_bestOf_108 : decode cX5_bestOf 108 = .ok (.iload 8, 2) := by decide +kernel
theorem dX5_bestOf_110 : decode cX5_bestOf 110 = .ok (.sipush 1681, 3) := by decide +kernel
theorem dX5_bestOf_113 : decode cX5_bestOf 113 = .ok (.if_icmp .ge 45, 3) := by decide +kernel
theorem dX5_bestOf_116 : decode cX5_bestOf 116 = .ok (.lload 6, 2) := by decide +kernel
theorem dX5_bestOf_118 : decode cX5_bestOf 118 = .ok (.aload_n 0, 1) := by decide +kernel
theorem dX5_bestOf_119 : decode cX5_bestOf 119 = .ok (.getfield 46, 3) := by decide +kernel
theorem dX5_bestOf_122 : decode cX5_bestOf 122 = .ok (.iload 8, 2) := by decide +kernel
theorem dX5_bestOf_124 : decode cX5_bestOf 124 = .ok (.iaload, 1) := by decide +kernel
theorem dX5_bestOf_125 : decode cX5_bestOf 125 = .ok (.ifCond .le 23, 3) := by decide +kernel
theorem dX5_bestOf_128 : decode cX5_bestOf 128 = .ok (.aload_n 0, 1) := by decide +kernel
theorem dX5_bestOf_129 : decode cX5_bestOf 129 = .ok (.getfield 46, 3) := by decide +kernel
theorem dX5_bestOf_132 : decode cX5_bestOf 132 = .ok (.iload 8, 2) := by decide +kernel
theorem dX5_bestOf_134 : decode cX5_bestOf 134 = .ok (.iaload, 1) := by decide +kernel
theorem dX5_bestOf_135 : decode cX5_bestOf 135 = .ok (.i2l, 1) := by decide +kernel
theorem dX5_bestOf_136 : decode cX5_bestOf 136 = .ok (.aload_n 0, 1) := by decide +kernel
theorem dX5_bestOf_137 : decode cX5_bestOf 137 = .ok (.getfield 37, 3) := by decide +kernel
theorem dX5_bestOf_140 : decode cX5_bestOf 140 = .ok (.iload 8, 2) := by decide +kernel
theorem dX5_bestOf_142 : decode cX5_bestOf 142 = .ok (.iaload, 1) := by decide +kernel
theorem dX5_bestOf_143 : decode cX5_bestOf 143 = .ok (.i2l, 1) := by decide +kernel
theorem dX5_bestOf_144 : decode cX5_bestOf 144 = .ok (.lmul, 1) := by decide +kernel
theorem dX5_bestOf_145 : decode cX5_bestOf 145 = .ok (.goto 4, 3) := by decide +kernel
theorem dX5_bestOf_148 : decode cX5_bestOf 148 = .ok (.lconst 0, 1) := by decide +kernel
theorem dX5_bestOf_149 : decode cX5_bestOf 149 = .ok (.ladd, 1) := by decide +kernel
theorem dX5_bestOf_150 : decode cX5_bestOf 150 = .ok (.lstore 6, 2) := by decide +kernel
theorem dX5_bestOf_152 : decode cX5_bestOf 152 = .ok (.iinc 8 1, 3) := by decide +kernel
theorem dX5_bestOf_155 : decode cX5_bestOf 155 = .ok (.goto (-47), 3) := by decide +kernel
theorem dX5_bestOf_158 : decode cX5_bestOf 158 = .ok (.lload 6, 2) := by decide +kernel
theorem dX5_bestOf_160 : decode cX5_bestOf 160 = .ok (.lreturn, 1) := by decide +kernel
theorem dX5_best_0 : decode cX5_best 0 = .ok (.aload_n 0, 1) := by decide +kernel
theorem dX5_best_1 : decode cX5_best 1 = .ok (.iconst 0, 1) := by decide +kernel
theorem dX5_best_2 : decode cX5_best 2 = .ok (.putfield 72, 3) := by decide +kernel
theorem dX5_best_5 : decode cX5_best 5 = .ok (.aload_n 0, 1) := by decide +kernel
theorem dX5_best_6 : decode cX5_best 6 = .ok (.iload_n 1, 1) := by decide +kernel
theorem dX5_best_7 : decode cX5_best 7 = .ok (.invokevirtual 84, 3) := by decide +kernel
theorem dX5_best_10 : decode cX5_best 10 = .ok (.ifCond .eq 13, 3) := by decide +kernel
theorem dX5_best_13 : decode cX5_best 13 = .ok (.aload_n 0, 1) := by decide +kernel
theorem dX5_best_14 : decode cX5_best 14 = .ok (.iload_n 1, 1) := by decide +kernel
theorem dX5_best_15 : decode cX5_best 15 = .ok (.iconst (-1), 1) := by decide +kernel
theorem dX5_best_16 : decode cX5_best 16 = .ok (.iconst 0, 1) := by decide +kernel
theorem dX5_best_17 : decode cX5_best 17 = .ok (.invokevirtual 140, 3) := by decide +kernel
theorem dX5_best_20 : decode cX5_best 20 = .ok (.goto 6, 3) := by decide +kernel
theorem dX5_best_23 : decode cX5_best 23 = .ok (.ldc2_w 120, 3) := by decide +kernel
theorem dX5_best_26 : decode cX5_best 26 = .ok (.lreturn, 1) := by decide +kernel
theorem dX5_findPrices_0 : decode cX5_findPrices 0 = .ok (.aload_n 0, 1) := by decide +kernel
theorem dX5_findPrices_1 : decode cX5_findPrices 1 = .ok (.getfield 7, 3) := by decide +kernel
theorem dX5_findPrices_4 : decode cX5_findPrices 4 = .ok (.iconst 0, 1) := by decide +kernel
theorem dX5_findPrices_5 : decode cX5_findPrices 5 = .ok (.iaload, 1) := by decide +kernel
theorem dX5_findPrices_6 : decode cX5_findPrices 6 = .ok (.istore_n 1, 1) := by decide +kernel
theorem dX5_findPrices_7 : decode cX5_findPrices 7 = .ok (.iconst 0, 1) := by decide +kernel
theorem dX5_findPrices_8 : decode cX5_findPrices 8 = .ok (.istore_n 2, 1) := by decide +kernel
theorem dX5_findPrices_9 : decode cX5_findPrices 9 = .ok (.iload_n 2, 1) := by decide +kernel
theorem dX5_findPrices_10 : decode cX5_findPrices 10 = .ok (.iload_n 1, 1) := by decide +kernel
theorem dX5_findPrices_11 : decode cX5_findPrices 11 = .ok (.if_icmp .gt 26, 3) := by decide +kernel
theorem dX5_findPrices_14 : decode cX5_findPrices 14 = .ok (.aload_n 0, 1) := by decide +kernel
theorem dX5_findPrices_15 : decode cX5_findPrices 15 = .ok (.getfield 49, 3) := by decide +kernel
theorem dX5_findPrices_18 : decode cX5_findPrices 18 = .ok (.iload_n 2, 1) := by decide +kernel
theorem dX5_findPrices_19 : decode cX5_findPrices 19 = .ok (.aload_n 0, 1) := by decide +kernel
theorem dX5_findPrices_20 : decode cX5_findPrices 20 = .ok (.getfield 37, 3) := by decide +kernel
theorem dX5_findPrices_23 : decode cX5_findPrices 23 = .ok (.bipush 41, 2) := by decide +kernel
theorem dX5_findPrices_25 : decode cX5_findPrices 25 = .ok (.iload_n 2, 1) := by decide +kernel
theorem dX5_findPrices_26 : decode cX5_findPrices 26 = .ok (.imul, 1) := by decide +kernel
theorem dX5_findPrices_27 : decode cX5_findPrices 27 = .ok (.iload_n 1, 1) := by decide +kernel
theorem dX5_findPrices_28 : decode cX5_findPrices 28 = .ok (.iadd, 1) := by decide +kernel
theorem dX5_findPrices_29 : decode cX5_findPrices 29 = .ok (.iaload, 1) := by decide +kernel
theorem dX5_findPrices_30 : decode cX5_findPrices 30 = .ok (.iastore, 1) := by decide +kernel
theorem dX5_findPrices_31 : decode cX5_findPrices 31 = .ok (.iinc 2 1, 3) := by decide +kernel
theorem dX5_findPrices_34 : decode cX5_findPrices 34 = .ok (.goto (-25), 3) := by decide +kernel
theorem dX5_findPrices_37 : decode cX5_findPrices 37 = .ok (.iconst 1, 1) := by decide +kernel
theorem dX5_findPrices_38 : decode cX5_findPrices 38 = .ok (.istore_n 2, 1) := by decide +kernel
theorem dX5_findPrices_39 : decode cX5_findPrices 39 = .ok (.iload_n 2, 1) := by decide +kernel
theorem dX5_findPrices_40 : decode cX5_findPrices 40 = .ok (.ifCond .eq 140, 3) := by decide +kernel
theorem dX5_findPrices_43 : decode cX5_findPrices 43 = .ok (.iconst 0, 1) := by decide +kernel
theorem dX5_findPrices_44 : decode cX5_findPrices 44 = .ok (.istore_n 2, 1) := by decide +kernel
theorem dX5_findPrices_45 : decode cX5_findPrices 45 = .ok (.iconst 0, 1) := by decide +kernel
theorem dX5_findPrices_46 : decode cX5_findPrices 46 = .ok (.istore_n 3, 1) := by decide +kernel
theorem dX5_findPrices_47 : decode cX5_findPrices 47 = .ok (.iload_n 3, 1) := by decide +kernel
theorem dX5_findPrices_48 : decode cX5_findPrices 48 = .ok (.iload_n 1, 1) := by decide +kernel
theorem dX5_findPrices_49 : decode cX5_findPrices 49 = .ok (.if_icmp .gt 128, 3) := by decide +kernel
theorem dX5_findPrices_52 : decode cX5_findPrices 52 = .ok (.iconst 0, 1) := by decide +kernel
theorem dX5_findPrices_53 : decode cX5_findPrices 53 = .ok (.istore 4, 2) := by decide +kernel
theorem dX5_findPrices_55 : decode cX5_findPrices 55 = .ok (.iload 4, 2) := by decide +kernel
theorem dX5_findPrices_57 : decode cX5_findPrices 57 = .ok (.iload_n 1, 1) := by decide +kernel
theorem dX5_findPrices_58 : decode cX5_findPrices 58 = .ok (.if_icmp .gt 113, 3) := by decide +kernel
theorem dX5_findPrices_61 : decode cX5_findPrices 61 = .ok (.aload_n 0, 1) := by decide +kernel
theorem dX5_findPrices_62 : decode cX5_findPrices 62 = .ok (.getfield 37, 3) := by decide +kernel
theorem dX5_findPrices_65 : decode cX5_findPrices 65 = .ok (.bipush 41, 2) := by decide +kernel
theorem dX5_findPrices_67 : decode cX5_findPrices 67 = .ok (.iload_n 3, 1) := by decide +kernel
theorem dX5_findPrices_68 : decode cX5_findPrices 68 = .ok (.imul, 1) := by decide +kernel
theorem dX5_findPrices_69 : decode cX5_findPrices 69 = .ok (.iload 4, 2) := by decide +kernel
theorem dX5_findPrices_71 : decode cX5_findPrices 71 = .ok (.iadd, 1) := by decide +kernel
theorem dX5_findPrices_72 : decode cX5_findPrices 72 = .ok (.iaload, 1) := by decide +kernel
theorem dX5_findPrices_73 : decode cX5_findPrices 73 = .ok (.istore 5, 2) := by decide +kernel
theorem dX5_findPrices_75 : decode cX5_findPrices 75 = .ok (.aload_n 0, 1) := by decide +kernel
theorem dX5_findPrices_76 : decode cX5_findPrices 76 = .ok (.getfield 46, 3) := by decide +kernel
theorem dX5_findPrices_79 : decode cX5_findPrices 79 = .ok (.bipush 41, 2) := by decide +kernel
theorem dX5_findPrices_81 : decode cX5_findPrices 81 = .ok (.iload 4, 2) := by decide +kernel
theorem dX5_findPrices_83 : decode cX5_findPrices 83 = .ok (.imul, 1) := by decide +kernel
theorem dX5_findPrices_84 : decode cX5_findPrices 84 = .ok (.iload_n 3, 1) := by decide +kernel
theorem dX5_findPrices_85 : decode cX5_findPrices 85 = .ok (.iadd, 1) := by decide +kernel
theorem dX5_findPrices_86 : decode cX5_findPrices 86 = .ok (.iaload, 1) := by decide +kernel
theorem dX5_findPrices_87 : decode cX5_findPrices 87 = .ok (.ifCond .le 37, 3) := by decide +kernel
theorem dX5_findPrices_90 : decode cX5_findPrices 90 = .ok (.aload_n 0, 1) := by decide +kernel
theorem dX5_findPrices_91 : decode cX5_findPrices 91 = .ok (.getfield 37, 3) := by decide +kernel
theorem dX5_findPrices_94 : decode cX5_findPrices 94 = .ok (.bipush 41, 2) := by decide +kernel
theorem dX5_findPrices_96 : decode cX5_findPrices 96 = .ok (.iload 4, 2) := by decide +kernel
theorem dX5_findPrices_98 : decode cX5_findPrices 98 = .ok (.imul, 1) := by decide +kernel
theorem dX5_findPrices_99 : decode cX5_findPrices 99 = .ok (.iload_n 3, 1) := by decide +kernel
theorem dX5_findPrices_100 : decode cX5_findPrices 100 = .ok (.iadd, 1) := by decide +kernel
theorem dX5_findPrices_101 : decode cX5_findPrices 101 = .ok (.iaload, 1) := by decide +kernel
theorem dX5_findPrices_102 : decode cX5_findPrices 102 = .ok (.ineg, 1) := by decide +kernel
theorem dX5_findPrices_103 : decode cX5_findPrices 103 = .ok (.iload 5, 2) := by decide +kernel
theorem dX5_findPrices_105 : decode cX5_findPrices 105 = .ok (.if_icmp .ge 19, 3) := by decide +kernel
theorem dX5_findPrices_108 : decode cX5_findPrices 108 = .ok (.aload_n 0, 1) := by decide +kernel
theorem dX5_findPrices_109 : decode cX5_findPrices 109 = .ok (.getfield 37, 3) := by decide +kernel
theorem dX5_findPrices_112 : decode cX5_findPrices 112 = .ok (.bipush 41, 2) := by decide +kernel
theorem dX5_findPrices_114 : decode cX5_findPrices 114 = .ok (.iload 4, 2) := by decide +kernel
theorem dX5_findPrices_116 : decode cX5_findPrices 116 = .ok (.imul, 1) := by decide +kernel
theorem dX5_findPrices_117 : decode cX5_findPrices 117 = .ok (.iload_n 3, 1) := by decide +kernel
theorem dX5_findPrices_118 : decode cX5_findPrices 118 = .ok (.iadd, 1) := by decide +kernel
theorem dX5_findPrices_119 : decode cX5_findPrices 119 = .ok (.iaload, 1) := by decide +kernel
theorem dX5_findPrices_120 : decode cX5_findPrices 120 = .ok (.ineg, 1) := by decide +kernel
theorem dX5_findPrices_121 : decode cX5_findPrices 121 = .ok (.goto 5, 3) := by decide +kernel
theorem dX5_findPrices_124 : decode cX5_findPrices 124 = .ok (.iload 5, 2) := by decide +kernel
theorem dX5_findPrices_126 : decode cX5_findPrices 126 = .ok (.istore 5, 2) := by decide +kernel
theorem dX5_findPrices_128 : decode cX5_findPrices 128 = .ok (.iload 5, 2) := by decide +kernel
theorem dX5_findPrices_130 : decode cX5_findPrices 130 = .ok (.aload_n 0, 1) := by decide +kernel
theorem dX5_findPrices_131 : decode cX5_findPrices 131 = .ok (.getfield 49, 3) := by decide +kernel
theorem dX5_findPrices_134 : decode cX5_findPrices 134 = .ok (.iload 4, 2) := by decide +kernel
theorem dX5_findPrices_136 : decode cX5_findPrices 136 = .ok (.iaload, 1) := by decide +kernel
theorem dX5_findPrices_137 : decode cX5_findPrices 137 = .ok (.iadd, 1) := by decide +kernel
theorem dX5_findPrices_138 : decode cX5_findPrices 138 = .ok (.aload_n 0, 1) := by decide +kernel
theorem dX5_findPrices_139 : decode cX5_findPrices 139 = .ok (.getfield 49, 3) := by decide +kernel
theorem dX5_findPrices_142 : decode cX5_findPrices 142 = .ok (.iload_n 3, 1) := by decide +kernel
theorem dX5_findPrices_143 : decode cX5_findPrices 143 = .ok (.iaload, 1) := by decide +kernel
theorem dX5_findPrices_144 : decode cX5_findPrices 144 = .ok (.if_icmp .ge 21, 3) := by decide +kernel
theorem dX5_findPrices_147 : decode cX5_findPrices 147 = .ok (.aload_n 0, 1) := by decide +kernel
theorem dX5_findPrices_148 : decode cX5_findPrices 148 = .ok (.getfield 49, 3) := by decide +kernel
theorem dX5_findPrices_151 : decode cX5_findPrices 151 = .ok (.iload_n 3, 1) := by decide +kernel
theorem dX5_findPrices_152 : decode cX5_findPrices 152 = .ok (.iload 5, 2) := by decide +kernel
theorem dX5_findPrices_154 : decode cX5_findPrices 154 = .ok (.aload_n 0, 1) := by decide +kernel
theorem dX5_findPrices_155 : decode cX5_findPrices 155 = .ok (.getfield 49, 3) := by decide +kernel
theorem dX5_findPrices_158 : decode cX5_findPrices 158 = .ok (.iload 4, 2) := by decide +kernel
theorem dX5_findPrices_160 : decode cX5_findPrices 160 = .ok (.iaload, 1) := by decide +kernel
theorem dX5_findPrices_161 : decode cX5_findPrices 161 = .ok (.iadd, 1) := by decide +kernel
theorem dX5_findPrices_162 : decode cX5_findPrices 162 = .ok (.iastore, 1) := by decide +kernel
theorem dX5_findPrices_163 : decode cX5_findPrices 163 = .ok (.iconst 1, 1) := by decide +kernel
theorem dX5_findPrices_164 : decode cX5_findPrices 164 = .ok (.istore_n 2, 1) := by decide +kernel
theorem dX5_findPrices_165 : decode cX5_findPrices 165 = .ok (.iinc 4 1, 3) := by decide +kernel
theorem dX5_findPrices_168 : decode cX5_findPrices 168 = .ok (.goto (-113), 3) := by decide +kernel
theorem dX5_findPrices_171 : decode cX5_findPrices 171 = .ok (.iinc 3 1, 3) := by decide +kernel
theorem dX5_findPrices_174 : decode cX5_findPrices 174 = .ok (.goto (-127), 3) := by decide +kernel
theorem dX5_findPrices_177 : decode cX5_findPrices 177 = .ok (.goto (-138), 3) := by decide +kernel
theorem dX5_findPrices_180 : decode cX5_findPrices 180 = .ok (.return_, 1) := by decide +kernel
theorem dX5_price_0 : decode cX5_price 0 = .ok (.aload_n 0, 1) := by decide +kernel
theorem dX5_price_1 : decode cX5_price 1 = .ok (.iconst 0, 1) := by decide +kernel
theorem dX5_price_2 : decode cX5_price 2 = .ok (.putfield 72, 3) := by decide +kernel
theorem dX5_price_5 : decode cX5_price 5 = .ok (.aload_n 0, 1) := by decide +kernel
theorem dX5_price_6 : decode cX5_price 6 = .ok (.iload_n 1, 1) := by decide +kernel
theorem dX5_price_7 : decode cX5_price 7 = .ok (.invokevirtual 84, 3) := by decide +kernel
theorem dX5_price_10 : decode cX5_price 10 = .ok (.ifCond .eq 11, 3) := by decide +kernel
theorem dX5_price_13 : decode cX5_price 13 = .ok (.aload_n 0, 1) := by decide +kernel
theorem dX5_price_14 : decode cX5_price 14 = .ok (.iload_n 2, 1) := by decide +kernel
theorem dX5_price_15 : decode cX5_price 15 = .ok (.invokevirtual 92, 3) := by decide +kernel
theorem dX5_price_18 : decode cX5_price 18 = .ok (.ifCond .ne 5, 3) := by decide +kernel
theorem dX5_price_21 : decode cX5_price 21 = .ok (.iconst (-1), 1) := by decide +kernel
theorem dX5_price_22 : decode cX5_price 22 = .ok (.ireturn, 1) := by decide +kernel
theorem dX5_price_23 : decode cX5_price 23 = .ok (.aload_n 0, 1) := by decide +kernel
theorem dX5_price_24 : decode cX5_price 24 = .ok (.iload_n 1, 1) := by decide +kernel
theorem dX5_price_25 : decode cX5_price 25 = .ok (.iconst (-1), 1) := by decide +kernel
theorem dX5_price_26 : decode cX5_price 26 = .ok (.iconst 0, 1) := by decide +kernel
theorem dX5_price_27 : decode cX5_price 27 = .ok (.invokevirtual 140, 3) := by decide +kernel
theorem dX5_price_30 : decode cX5_price 30 = .ok (.lstore_n 3, 1) := by decide +kernel
theorem dX5_price_31 : decode cX5_price 31 = .ok (.aload_n 0, 1) := by decide +kernel
theorem dX5_price_32 : decode cX5_price 32 = .ok (.invokevirtual 144, 3) := by decide +kernel
theorem dX5_price_35 : decode cX5_price 35 = .ok (.aload_n 0, 1) := by decide +kernel
theorem dX5_price_36 : decode cX5_price 36 = .ok (.getfield 49, 3) := by decide +kernel
theorem dX5_price_39 : decode cX5_price 39 = .ok (.iload_n 2, 1) := by decide +kernel
theorem dX5_price_40 : decode cX5_price 40 = .ok (.iaload, 1) := by decide +kernel
theorem dX5_price_41 : decode cX5_price 41 = .ok (.aload_n 0, 1) := by decide +kernel
theorem dX5_price_42 : decode cX5_price 42 = .ok (.getfield 49, 3) := by decide +kernel
theorem dX5_price_45 : decode cX5_price 45 = .ok (.iload_n 2, 1) := by decide +kernel
theorem dX5_price_46 : decode cX5_price 46 = .ok (.iconst 1, 1) := by decide +kernel
theorem dX5_price_47 : decode cX5_price 47 = .ok (.iadd, 1) := by decide +kernel
theorem dX5_price_48 : decode cX5_price 48 = .ok (.iaload, 1) := by decide +kernel
theorem dX5_price_49 : decode cX5_price 49 = .ok (.isub, 1) := by decide +kernel
theorem dX5_price_50 : decode cX5_price 50 = .ok (.ireturn, 1) := by decide +kernel
theorem dX5_more_0 : decode cX5_more 0 = .ok (.aload_n 0, 1) := by decide +kernel
theorem dX5_more_1 : decode cX5_more 1 = .ok (.iconst 0, 1) := by decide +kernel
theorem dX5_more_2 : decode cX5_more 2 = .ok (.putfield 72, 3) := by decide +kernel
theorem dX5_more_5 : decode cX5_more 5 = .ok (.aload_n 0, 1) := by decide +kernel
theorem dX5_more_6 : decode cX5_more 6 = .ok (.iload_n 1, 1) := by decide +kernel
theorem dX5_more_7 : decode cX5_more 7 = .ok (.invokevirtual 84, 3) := by decide +kernel
theorem dX5_more_10 : decode cX5_more 10 = .ok (.ifCond .eq 22, 3) := by decide +kernel
theorem dX5_more_13 : decode cX5_more 13 = .ok (.aload_n 0, 1) := by decide +kernel
theorem dX5_more_14 : decode cX5_more 14 = .ok (.iload_n 2, 1) := by decide +kernel
theorem dX5_more_15 : decode cX5_more 15 = .ok (.invokevirtual 92, 3) := by decide +kernel
theorem dX5_more_18 : decode cX5_more 18 = .ok (.ifCond .eq 14, 3) := by decide +kernel
theorem dX5_more_21 : decode cX5_more 21 = .ok (.iload_n 3, 1) := by decide +kernel
theorem dX5_more_22 : decode cX5_more 22 = .ok (.bipush (-60), 2) := by decide +kernel
theorem dX5_more_24 : decode cX5_more 24 = .ok (.bipush 60, 2) := by decide +kernel
theorem dX5_more_26 : decode cX5_more 26 = .ok (.invokestatic 80, 3) := by decide +kernel
theorem dX5_more_29 : decode cX5_more 29 = .ok (.ifCond .ne 6, 3) := by decide +kernel
theorem dX5_more_32 : decode cX5_more 32 = .ok (.ldc 147, 2) := by decide +kernel
theorem dX5_more_34 : decode cX5_more 34 = .ok (.ireturn, 1) := by decide +kernel
theorem dX5_more_35 : decode cX5_more 35 = .ok (.aload_n 0, 1) := by decide +kernel
theorem dX5_more_36 : decode cX5_more 36 = .ok (.iload_n 1, 1) := by decide +kernel
theorem dX5_more_37 : decode cX5_more 37 = .ok (.iconst (-1), 1) := by decide +kernel
theorem dX5_more_38 : decode cX5_more 38 = .ok (.iconst 0, 1) := by decide +kernel
theorem dX5_more_39 : decode cX5_more 39 = .ok (.invokevirtual 140, 3) := by decide +kernel
theorem dX5_more_42 : decode cX5_more 42 = .ok (.lstore 4, 2) := by decide +kernel
theorem dX5_more_44 : decode cX5_more 44 = .ok (.aload_n 0, 1) := by decide +kernel
theorem dX5_more_45 : decode cX5_more 45 = .ok (.iload_n 1, 1) := by decide +kernel
theorem dX5_more_46 : decode cX5_more 46 = .ok (.iload_n 2, 1) := by decide +kernel
theorem dX5_more_47 : decode cX5_more 47 = .ok (.iload_n 3, 1) := by decide +kernel
theorem dX5_more_48 : decode cX5_more 48 = .ok (.invokevirtual 140, 3) := by decide +kernel
theorem dX5_more_51 : decode cX5_more 51 = .ok (.lload 4, 2) := by decide +kernel
theorem dX5_more_53 : decode cX5_more 53 = .ok (.lsub, 1) := by decide +kernel
theorem dX5_more_54 : decode cX5_more 54 = .ok (.l2i, 1) := by decide +kernel
theorem dX5_more_55 : decode cX5_more 55 = .ok (.ireturn, 1) := by decide +kernel
theorem dX5_spent_0 : decode cX5_spent 0 = .ok (.iconst 0, 1) := by decide +kernel
theorem dX5_spent_1 : decode cX5_spent 1 = .ok (.istore 4, 2) := by decide +kernel
theorem dX5_spent_3 : decode cX5_spent 3 = .ok (.iload_n 2, 1) := by decide +kernel
theorem dX5_spent_4 : decode cX5_spent 4 = .ok (.istore 5, 2) := by decide +kernel
theorem dX5_spent_6 : decode cX5_spent 6 = .ok (.iload 5, 2) := by decide +kernel
theorem dX5_spent_8 : decode cX5_spent 8 = .ok (.iload_n 3, 1) := by decide +kernel
theorem dX5_spent_9 : decode cX5_spent 9 = .ok (.if_icmp .gt 36, 3) := by decide +kernel
theorem dX5_spent_12 : decode cX5_spent 12 = .ok (.iload 4, 2) := by decide +kernel
theorem dX5_spent_14 : decode cX5_spent 14 = .ok (.aload_n 0, 1) := by decide +kernel
theorem dX5_spent_15 : decode cX5_spent 15 = .ok (.iload_n 1, 1) := by decide +kernel
theorem dX5_spent_16 : decode cX5_spent 16 = .ok (.iload 5, 2) := by decide +kernel
theorem dX5_spent_18 : decode cX5_spent 18 = .ok (.invokevirtual 103, 3) := by decide +kernel
theorem dX5_spent_21 : decode cX5_spent 21 = .ok (.aload_n 0, 1) := by decide +kernel
theorem dX5_spent_22 : decode cX5_spent 22 = .ok (.getfield 55, 3) := by decide +kernel
theorem dX5_spent_25 : decode cX5_spent 25 = .ok (.iload 5, 2) := by decide +kernel
theorem dX5_spent_27 : decode cX5_spent 27 = .ok (.iaload, 1) := by decide +kernel
theorem dX5_spent_28 : decode cX5_spent 28 = .ok (.if_icmp .le 7, 3) := by decide +kernel
theorem dX5_spent_31 : decode cX5_spent 31 = .ok (.iconst 1, 1) := by decide +kernel
theorem dX5_spent_32 : decode cX5_spent 32 = .ok (.goto 4, 3) := by decide +kernel
theorem dX5_spent_35 : decode cX5_spent 35 = .ok (.iconst 0, 1) := by decide +kernel
theorem dX5_spent_36 : decode cX5_spent 36 = .ok (.iadd, 1) := by decide +kernel
theorem dX5_spent_37 : decode cX5_spent 37 = .ok (.istore 4, 2) := by decide +kernel
theorem dX5_spent_39 : decode cX5_spent 39 = .ok (.iinc 5 1, 3) := by decide +kernel
theorem dX5_spent_42 : decode cX5_spent 42 = .ok (.goto (-36), 3) := by decide +kernel
theorem dX5_spent_45 : decode cX5_spent 45 = .ok (.iload 4, 2) := by decide +kernel
theorem dX5_spent_47 : decode cX5_spent 47 = .ok (.ireturn, 1) := by decide +kernel
theorem dX5_blind_0 : decode cX5_blind 0 = .ok (.aload_n 0, 1) := by decide +kernel
theorem dX5_blind_1 : decode cX5_blind 1 = .ok (.iconst 0, 1) := by decide +kernel
theorem dX5_blind_2 : decode cX5_blind 2 = .ok (.putfield 72, 3) := by decide +kernel
theorem dX5_blind_5 : decode cX5_blind 5 = .ok (.aload_n 0, 1) := by decide +kernel
theorem dX5_blind_6 : decode cX5_blind 6 = .ok (.iload_n 1, 1) := by decide +kernel
theorem dX5_blind_7 : decode cX5_blind 7 = .ok (.invokevirtual 89, 3) := by decide +kernel
theorem dX5_blind_10 : decode cX5_blind 10 = .ok (.ifCond .ne 7, 3) := by decide +kernel
theorem dX5_blind_13 : decode cX5_blind 13 = .ok (.ldc2_w 120, 3) := by decide +kernel
theorem dX5_blind_16 : decode cX5_blind 16 = .ok (.lreturn, 1) := by decide +kernel
theorem dX5_blind_17 : decode cX5_blind 17 = .ok (.aload_n 0, 1) := by decide +kernel
theorem dX5_blind_18 : decode cX5_blind 18 = .ok (.getfield 22, 3) := by decide +kernel
theorem dX5_blind_21 : decode cX5_blind 21 = .ok (.iload_n 1, 1) := by decide +kernel
theorem dX5_blind_22 : decode cX5_blind 22 = .ok (.iaload, 1) := by decide +kernel
theorem dX5_blind_23 : decode cX5_blind 23 = .ok (.istore_n 2, 1) := by decide +kernel
theorem dX5_blind_24 : decode cX5_blind 24 = .ok (.aload_n 0, 1) := by decide +kernel
theorem dX5_blind_25 : decode cX5_blind 25 = .ok (.iload_n 2, 1) := by decide +kernel
theorem dX5_blind_26 : decode cX5_blind 26 = .ok (.invokevirtual 99, 3) := by decide +kernel
theorem dX5_blind_29 : decode cX5_blind 29 = .ok (.iconst 0, 1) := by decide +kernel
theorem dX5_blind_30 : decode cX5_blind 30 = .ok (.istore_n 3, 1) := by decide +kernel
theorem dX5_blind_31 : decode cX5_blind 31 = .ok (.iload_n 3, 1) := by decide +kernel
theorem dX5_blind_32 : decode cX5_blind 32 = .ok (.bipush 40, 2) := by decide +kernel
theorem dX5_blind_34 : decode cX5_blind 34 = .ok (.if_icmp .ge 16, 3) := by decide +kernel
theorem dX5_blind_37 : decode cX5_blind 37 = .ok (.aload_n 0, 1) := by decide +kernel
theorem dX5_blind_38 : decode cX5_blind 38 = .ok (.getfield 55, 3) := by decide +kernel
theorem dX5_blind_41 : decode cX5_blind 41 = .ok (.iload_n 3, 1) := by decide +kernel
theorem dX5_blind_42 : decode cX5_blind 42 = .ok (.iconst 0, 1) := by decide +kernel
theorem dX5_blind_43 : decode cX5_blind 43 = .ok (.iastore, 1) := by decide +kernel
theorem dX5_blind_44 : decode cX5_blind 44 = .ok (.iinc 3 1, 3) := by decide +kernel
theorem dX5_blind_47 : decode cX5_blind 47 = .ok (.goto (-16), 3) := by decide +kernel
theorem dX5_blind_50 : decode cX5_blind 50 = .ok (.iconst 0, 1) := by decide +kernel
theorem dX5_blind_51 : decode cX5_blind 51 = .ok (.istore_n 3, 1) := by decide +kernel
theorem dX5_blind_52 : decode cX5_blind 52 = .ok (.iload_n 3, 1) := by decide +kernel
theorem dX5_blind_53 : decode cX5_blind 53 = .ok (.aload_n 0, 1) := by decide +kernel
theorem dX5_blind_54 : decode cX5_blind 54 = .ok (.getfield 7, 3) := by decide +kernel
theorem dX5_blind_57 : decode cX5_blind 57 = .ok (.iconst 0, 1) := by decide +kernel
theorem dX5_blind_58 : decode cX5_blind 58 = .ok (.iaload, 1) := by decide +kernel
theorem dX5_blind_59 : decode cX5_blind 59 = .ok (.if_icmp .ge 161, 3) := by decide +kernel
theorem dX5_blind_62 : decode cX5_blind 62 = .ok (.iload_n 3, 1) := by decide +kernel
theorem dX5_blind_63 : decode cX5_blind 63 = .ok (.aload_n 0, 1) := by decide +kernel
theorem dX5_blind_64 : decode cX5_blind 64 = .ok (.getfield 25, 3) := by decide +kernel
theorem dX5_blind_67 : decode cX5_blind 67 = .ok (.iload_n 1, 1) := by decide +kernel
theorem dX5_blind_68 : decode cX5_blind 68 = .ok (.iaload, 1) := by decide +kernel
theorem dX5_blind_69 : decode cX5_blind 69 = .ok (.isub, 1) := by decide +kernel
theorem dX5_blind_70 : decode cX5_blind 70 = .ok (.iconst 1, 1) := by decide +kernel
theorem dX5_blind_71 : decode cX5_blind 71 = .ok (.iadd, 1) := by decide +kernel
theorem dX5_blind_72 : decode cX5_blind 72 = .ok (.ifCond .ge 7, 3) := by decide +kernel
theorem dX5_blind_75 : decode cX5_blind 75 = .ok (.iconst 0, 1) := by decide +kernel
theorem dX5_blind_76 : decode cX5_blind 76 = .ok (.goto 13, 3) := by decide +kernel
theorem dX5_blind_79 : decode cX5_blind 79 = .ok (.iload_n 3, 1) := by decide +kernel
theorem dX5_blind_80 : decode cX5_blind 80 = .ok (.aload_n 0, 1) := by decide +kernel
theorem dX5_blind_81 : decode cX5_blind 81 = .ok (.getfield 25, 3) := by decide +kernel
theorem dX5_blind_84 : decode cX5_blind 84 = .ok (.iload_n 1, 1) := by decide +kernel
theorem dX5_blind_85 : decode cX5_blind 85 = .ok (.iaload, 1) := by decide +kernel
theorem dX5_blind_86 : decode cX5_blind 86 = .ok (.isub, 1) := by decide +kernel
theorem dX5_blind_87 : decode cX5_blind 87 = .ok (.iconst 1, 1) := by decide +kernel
theorem dX5_blind_88 : decode cX5_blind 88 = .ok (.iadd, 1) := by decide +kernel
theorem dX5_blind_89 : decode cX5_blind 89 = .ok (.istore 4, 2) := by decide +kernel
theorem dX5_blind_91 : decode cX5_blind 91 = .ok (.iload_n 3, 1) := by decide +kernel
theorem dX5_blind_92 : decode cX5_blind 92 = .ok (.aload_n 0, 1) := by decide +kernel
theorem dX5_blind_93 : decode cX5_blind 93 = .ok (.getfield 25, 3) := by decide +kernel
theorem dX5_blind_96 : decode cX5_blind 96 = .ok (.iload_n 1, 1) := by decide +kernel
theorem dX5_blind_97 : decode cX5_blind 97 = .ok (.iaload, 1) := by decide +kernel
theorem dX5_blind_98 : decode cX5_blind 98 = .ok (.iadd, 1) := by decide +kernel
theorem dX5_blind_99 : decode cX5_blind 99 = .ok (.iconst 1, 1) := by decide +kernel
theorem dX5_blind_100 : decode cX5_blind 100 = .ok (.isub, 1) := by decide +kernel
theorem dX5_blind_101 : decode cX5_blind 101 = .ok (.aload_n 0, 1) := by decide +kernel
theorem dX5_blind_102 : decode cX5_blind 102 = .ok (.getfield 7, 3) := by decide +kernel
theorem dX5_blind_105 : decode cX5_blind 105 = .ok (.iconst 0, 1) := by decide +kernel
theorem dX5_blind_106 : decode cX5_blind 106 = .ok (.iaload, 1) := by decide +kernel
theorem dX5_blind_107 : decode cX5_blind 107 = .ok (.iconst 1, 1) := by decide +kernel
theorem dX5_blind_108 : decode cX5_blind 108 = .ok (.isub, 1) := by decide +kernel
theorem dX5_blind_109 : decode cX5_blind 109 = .ok (.if_icmp .ge 16, 3) := by decide +kernel
theorem dX5_blind_112 : decode cX5_blind 112 = .ok (.iload_n 3, 1) := by decide +kernel
theorem dX5_blind_113 : decode cX5_blind 113 = .ok (.aload_n 0, 1) := by decide +kernel
theorem dX5_blind_114 : decode cX5_blind 114 = .ok (.getfield 25, 3) := by decide +kernel
theorem dX5_blind_117 : decode cX5_blind 117 = .ok (.iload_n 1, 1) := by decide +kernel
theorem dX5_blind_118 : decode cX5_blind 118 = .ok (.iaload, 1) := by decide +kernel
theorem dX5_blind_119 : decode cX5_blind 119 = .ok (.iadd, 1) := by decide +kernel
theorem dX5_blind_120 : decode cX5_blind 120 = .ok (.iconst 1, 1) := by decide +kernel
theorem dX5_blind_121 : decode cX5_blind 121 = .ok (.isub, 1) := by decide +kernel
theorem dX5_blind_122 : decode cX5_blind 122 = .ok (.goto 11, 3) := by decide +kernel
theorem dX5_blind_125 : decode cX5_blind 125 = .ok (.aload_n 0, 1) := by decide +kernel
theorem dX5_blind_126 : decode cX5_blind 126 = .ok (.getfield 7, 3) := by decide +kernel
theorem dX5_blind_129 : decode cX5_blind 129 = .ok (.iconst 0, 1) := by decide +kernel
theorem dX5_blind_130 : decode cX5_blind 130 = .ok (.iaload, 1) := by decide +kernel
theorem dX5_blind_131 : decode cX5_blind 131 = .ok (.iconst 1, 1) := by decide +kernel
theorem dX5_blind_132 : decode cX5_blind 132 = .ok (.isub, 1) := by decide +kernel
theorem dX5_blind_133 : decode cX5_blind 133 = .ok (.istore 5, 2) := by decide +kernel
theorem dX5_blind_135 : decode cX5_blind 135 = .ok (.aload_n 0, 1) := by decide +kernel
theorem dX5_blind_136 : decode cX5_blind 136 = .ok (.getfield 28, 3) := by decide +kernel
theorem dX5_blind_139 : decode cX5_blind 139 = .ok (.iload_n 1, 1) := by decide +kernel
theorem dX5_blind_140 : decode cX5_blind 140 = .ok (.iaload, 1) := by decide +kernel
theorem dX5_blind_141 : decode cX5_blind 141 = .ok (.ifCond .le 73, 3) := by decide +kernel
theorem dX5_blind_144 : decode cX5_blind 144 = .ok (.aload_n 0, 1) := by decide +kernel
theorem dX5_blind_145 : decode cX5_blind 145 = .ok (.iload_n 2, 1) := by decide +kernel
theorem dX5_blind_146 : decode cX5_blind 146 = .ok (.iload 4, 2) := by decide +kernel
theorem dX5_blind_148 : decode cX5_blind 148 = .ok (.iload_n 3, 1) := by decide +kernel
theorem dX5_blind_149 : decode cX5_blind 149 = .ok (.invokevirtual 148, 3) := by decide +kernel
theorem dX5_blind_152 : decode cX5_blind 152 = .ok (.aload_n 0, 1) := by decide +kernel
theorem dX5_blind_153 : decode cX5_blind 153 = .ok (.getfield 16, 3) := by decide +kernel
theorem dX5_blind_156 : decode cX5_blind 156 = .ok (.iload_n 2, 1) := by decide +kernel
theorem dX5_blind_157 : decode cX5_blind 157 = .ok (.iaload, 1) := by decide +kernel
theorem dX5_blind_158 : decode cX5_blind 158 = .ok (.imul, 1) := by decide +kernel
theorem dX5_blind_159 : decode cX5_blind 159 = .ok (.aload_n 0, 1) := by decide +kernel
theorem dX5_blind_160 : decode cX5_blind 160 = .ok (.getfield 28, 3) := by decide +kernel
theorem dX5_blind_163 : decode cX5_blind 163 = .ok (.iload_n 1, 1) := by decide +kernel
theorem dX5_blind_164 : decode cX5_blind 164 = .ok (.iaload, 1) := by decide +kernel
theorem dX5_blind_165 : decode cX5_blind 165 = .ok (.if_icmp .lt 49, 3) := by decide +kernel
theorem dX5_blind_168 : decode cX5_blind 168 = .ok (.aload_n 0, 1) := by decide +kernel
theorem dX5_blind_169 : decode cX5_blind 169 = .ok (.getfield 34, 3) := by decide +kernel
theorem dX5_blind_172 : decode cX5_blind 172 = .ok (.bipush 40, 2) := by decide +kernel
theorem dX5_blind_174 : decode cX5_blind 174 = .ok (.iload_n 1, 1) := by decide +kernel
theorem dX5_blind_175 : decode cX5_blind 175 = .ok (.imul, 1) := by decide +kernel
theorem dX5_blind_176 : decode cX5_blind 176 = .ok (.iload_n 3, 1) := by decide +kernel
theorem dX5_blind_177 : decode cX5_blind 177 = .ok (.iadd, 1) := by decide +kernel
theorem dX5_blind_178 : decode cX5_blind 178 = .ok (.dup2, 1) := by decide +kernel
theorem dX5_blind_179 : decode cX5_blind 179 = .ok (.iaload, 1) := by decide +kernel
theorem dX5_blind_180 : decode cX5_blind 180 = .ok (.iconst 1, 1) := by decide +kernel
theorem dX5_blind_181 : decode cX5_blind 181 = .ok (.iadd, 1) := by decide +kernel
theorem dX5_blind_182 : decode cX5_blind 182 = .ok (.iastore, 1) := by decide +kernel
theorem dX5_blind_183 : decode cX5_blind 183 = .ok (.iload 4, 2) := by decide +kernel
theorem dX5_blind_185 : decode cX5_blind 185 = .ok (.istore 6, 2) := by decide +kernel
theorem dX5_blind_187 : decode cX5_blind 187 = .ok (.iload 6, 2) := by decide +kernel
theorem dX5_blind_189 : decode cX5_blind 189 = .ok (.iload 5, 2) := by decide +kernel
theorem dX5_blind_191 : decode cX5_blind 191 = .ok (.if_icmp .gt 20, 3) := by decide +kernel
theorem dX5_blind_194 : decode cX5_blind 194 = .ok (.aload_n 0, 1) := by decide +kernel
theorem dX5_blind_195 : decode cX5_blind 195 = .ok (.getfield 55, 3) := by decide +kernel
theorem dX5_blind_198 : decode cX5_blind 198 = .ok (.iload 6, 2) := by decide +kernel
theorem dX5_blind_200 : decode cX5_blind 200 = .ok (.dup2, 1) := by decide +kernel
theorem dX5_blind_201 : decode cX5_blind 201 = .ok (.iaload, 1) := by decide +kernel
theorem dX5_blind_202 : decode cX5_blind 202 = .ok (.iconst 1, 1) := by decide +kernel
theorem dX5_blind_203 : decode cX5_blind 203 = .ok (.iadd, 1) := by decide +kernel
theorem dX5_blind_204 : decode cX5_blind 204 = .ok (.iastore, 1) := by decide +kernel
theorem dX5_blind_205 : decode cX5_blind 205 = .ok (.iinc 6 1, 3) := by decide +kernel
theorem dX5_blind_208 : decode cX5_blind 208 = .ok (.goto (-21), 3) := by decide +kernel
theorem dX5_blind_211 : decode cX5_blind 211 = .ok (.goto (-76), 3) := by decide +kernel
theorem dX5_blind_214 : decode cX5_blind 214 = .ok (.iinc 3 1, 3) := by decide +kernel
theorem dX5_blind_217 : decode cX5_blind 217 = .ok (.goto (-165), 3) := by decide +kernel
theorem dX5_blind_220 : decode cX5_blind 220 = .ok (.aload_n 0, 1) := by decide +kernel
theorem dX5_blind_221 : decode cX5_blind 221 = .ok (.iload_n 2, 1) := by decide +kernel
theorem dX5_blind_222 : decode cX5_blind 222 = .ok (.invokevirtual 117, 3) := by decide +kernel
theorem dX5_blind_225 : decode cX5_blind 225 = .ok (.lreturn, 1) := by decide +kernel
theorem dX5_part_0 : decode cX5_part 0 = .ok (.iconst 0, 1) := by decide +kernel
theorem dX5_part_1 : decode cX5_part 1 = .ok (.istore_n 2, 1) := by decide +kernel
theorem dX5_part_2 : decode cX5_part 2 = .ok (.iload_n 2, 1) := by decide +kernel
theorem dX5_part_3 : decode cX5_part 3 = .ok (.iconst 4, 1) := by decide +kernel
theorem dX5_part_4 : decode cX5_part 4 = .ok (.if_icmp .ge 23, 3) := by decide +kernel
theorem dX5_part_7 : decode cX5_part 7 = .ok (.aload_n 0, 1) := by decide +kernel
theorem dX5_part_8 : decode cX5_part 8 = .ok (.getfield 61, 3) := by decide +kernel
theorem dX5_part_11 : decode cX5_part 11 = .ok (.iload_n 2, 1) := by decide +kernel
theorem dX5_part_12 : decode cX5_part 12 = .ok (.iconst 0, 1) := by decide +kernel
theorem dX5_part_13 : decode cX5_part 13 = .ok (.iastore, 1) := by decide +kernel
theorem dX5_part_14 : decode cX5_part 14 = .ok (.aload_n 0, 1) := by decide +kernel
theorem dX5_part_15 : decode cX5_part 15 = .ok (.getfield 64, 3) := by decide +kernel
theorem dX5_part_18 : decode cX5_part 18 = .ok (.iload_n 2, 1) := by decide +kernel
theorem dX5_part_19 : decode cX5_part 19 = .ok (.lconst 0, 1) := by decide +kernel
theorem dX5_part_20 : decode cX5_part 20 = .ok (.lastore, 1) := by decide +kernel
theorem dX5_part_21 : decode cX5_part 21 = .ok (.iinc 2 1, 3) := by decide +kernel
theorem dX5_part_24 : decode cX5_part 24 = .ok (.goto (-22), 3) := by decide +kernel
theorem dX5_part_27 : decode cX5_part 27 = .ok (.iconst 0, 1) := by decide +kernel
theorem dX5_part_28 : decode cX5_part 28 = .ok (.istore_n 2, 1) := by decide +kernel
theorem dX5_part_29 : decode cX5_part 29 = .ok (.iload_n 2, 1) := by decide +kernel
theorem dX5_part_30 : decode cX5_part 30 = .ok (.aload_n 0, 1) := by decide +kernel
theorem dX5_part_31 : decode cX5_part 31 = .ok (.getfield 7, 3) := by decide +kernel
theorem dX5_part_34 : decode cX5_part 34 = .ok (.iconst 0, 1) := by decide +kernel
theorem dX5_part_35 : decode cX5_part 35 = .ok (.iaload, 1) := by decide +kernel
theorem dX5_part_36 : decode cX5_part 36 = .ok (.if_icmp .ge 197, 3) := by decide +kernel
theorem dX5_part_39 : decode cX5_part 39 = .ok (.iconst 0, 1) := by decide +kernel
theorem dX5_part_40 : decode cX5_part 40 = .ok (.istore_n 3, 1) := by decide +kernel
theorem dX5_part_41 : decode cX5_part 41 = .ok (.iload_n 3, 1) := by decide +kernel
theorem dX5_part_42 : decode cX5_part 42 = .ok (.iconst 4, 1) := by decide +kernel
theorem dX5_part_43 : decode cX5_part 43 = .ok (.if_icmp .ge 16, 3) := by decide +kernel
theorem dX5_part_46 : decode cX5_part 46 = .ok (.aload_n 0, 1) := by decide +kernel
theorem dX5_part_47 : decode cX5_part 47 = .ok (.getfield 58, 3) := by decide +kernel
theorem dX5_part_50 : decode cX5_part 50 = .ok (.iload_n 3, 1) := by decide +kernel
theorem dX5_part_51 : decode cX5_part 51 = .ok (.iconst 0, 1) := by decide +kernel
theorem dX5_part_52 : decode cX5_part 52 = .ok (.iastore, 1) := by decide +kernel
theorem dX5_part_53 : decode cX5_part 53 = .ok (.iinc 3 1, 3) := by decide +kernel
theorem dX5_part_56 : decode cX5_part 56 = .ok (.goto (-15), 3) := by decide +kernel
theorem dX5_part_59 : decode cX5_part 59 = .ok (.iconst 0, 1) := by decide +kernel
theorem dX5_part_60 : decode cX5_part 60 = .ok (.istore_n 3, 1) := by decide +kernel
theorem dX5_part_61 : decode cX5_part 61 = .ok (.aload_n 0, 1) := by decide +kernel
theorem dX5_part_62 : decode cX5_part 62 = .ok (.iload_n 1, 1) := by decide +kernel
theorem dX5_part_63 : decode cX5_part 63 = .ok (.iload_n 2, 1) := by decide +kernel
theorem dX5_part_64 : decode cX5_part 64 = .ok (.invokevirtual 107, 3) := by decide +kernel
theorem dX5_part_67 : decode cX5_part 67 = .ok (.istore 4, 2) := by decide +kernel
theorem dX5_part_69 : decode cX5_part 69 = .ok (.iload 4, 2) := by decide +kernel
theorem dX5_part_71 : decode cX5_part 71 = .ok (.ifCond .le 85, 3) := by decide +kernel
theorem dX5_part_74 : decode cX5_part 74 = .ok (.iload_n 3, 1) := by decide +kernel
theorem dX5_part_75 : decode cX5_part 75 = .ok (.iconst (-1), 1) := by decide +kernel
theorem dX5_part_76 : decode cX5_part 76 = .ok (.if_icmp .eq 80, 3) := by decide +kernel
theorem dX5_part_79 : decode cX5_part 79 = .ok (.iconst (-1), 1) := by decide +kernel
theorem dX5_part_80 : decode cX5_part 80 = .ok (.istore_n 3, 1) := by decide +kernel
theorem dX5_part_81 : decode cX5_part 81 = .ok (.iconst 0, 1) := by decide +kernel
theorem dX5_part_82 : decode cX5_part 82 = .ok (.istore 5, 2) := by decide +kernel
theorem dX5_part_84 : decode cX5_part 84 = .ok (.iconst 0, 1) := by decide +kernel
theorem dX5_part_85 : decode cX5_part 85 = .ok (.istore 6, 2) := by decide +kernel
theorem dX5_part_87 : decode cX5_part 87 = .ok (.iload 6, 2) := by decide +kernel
theorem dX5_part_89 : decode cX5_part 89 = .ok (.iconst 4, 1) := by decide +kernel
theorem dX5_part_90 : decode cX5_part 90 = .ok (.if_icmp .ge 45, 3) := by decide +kernel
theorem dX5_part_93 : decode cX5_part 93 = .ok (.aload_n 0, 1) := by decide +kernel
theorem dX5_part_94 : decode cX5_part 94 = .ok (.getfield 31, 3) := by decide +kernel
theorem dX5_part_97 : decode cX5_part 97 = .ok (.iload 6, 2) := by decide +kernel
theorem dX5_part_99 : decode cX5_part 99 = .ok (.iload_n 1, 1) := by decide +kernel
theorem dX5_part_100 : decode cX5_part 100 = .ok (.iload_n 2, 1) := by decide +kernel
theorem dX5_part_101 : decode cX5_part 101 = .ok (.invokestatic 95, 3) := by decide +kernel
theorem dX5_part_104 : decode cX5_part 104 = .ok (.iaload, 1) := by decide +kernel
theorem dX5_part_105 : decode cX5_part 105 = .ok (.aload_n 0, 1) := by decide +kernel
theorem dX5_part_106 : decode cX5_part 106 = .ok (.getfield 58, 3) := by decide +kernel
theorem dX5_part_109 : decode cX5_part 109 = .ok (.iload 6, 2) := by decide +kernel
theorem dX5_part_111 : decode cX5_part 111 = .ok (.iaload, 1) := by decide +kernel
theorem dX5_part_112 : decode cX5_part 112 = .ok (.isub, 1) := by decide +kernel
theorem dX5_part_113 : decode cX5_part 113 = .ok (.istore 7, 2) := by decide +kernel
theorem dX5_part_115 : decode cX5_part 115 = .ok (.iload 7, 2) := by decide +kernel
theorem dX5_part_117 : decode cX5_part 117 = .ok (.iload 5, 2) := by decide +kernel
theorem dX5_part_119 : decode cX5_part 119 = .ok (.if_icmp .le 10, 3) := by decide +kernel
theorem dX5_part_122 : decode cX5_part 122 = .ok (.iload 7, 2) := by decide +kernel
theorem dX5_part_124 : decode cX5_part 124 = .ok (.istore 5, 2) := by decide +kernel
theorem dX5_part_126 : decode cX5_part 126 = .ok (.iload 6, 2) := by decide +kernel
theorem dX5_part_128 : decode cX5_part 128 = .ok (.istore_n 3, 1) := by decide +kernel
theorem dX5_part_129 : decode cX5_part 129 = .ok (.iinc 6 1, 3) := by decide +kernel
theorem dX5_part_132 : decode cX5_part 132 = .ok (.goto (-45), 3) := by decide +kernel
theorem dX5_part_135 : decode cX5_part 135 = .ok (.iload_n 3, 1) := by decide +kernel
theorem dX5_part_136 : decode cX5_part 136 = .ok (.iconst (-1), 1) := by decide +kernel
theorem dX5_part_137 : decode cX5_part 137 = .ok (.if_icmp .eq 13, 3) := by decide +kernel
theorem dX5_part_140 : decode cX5_part 140 = .ok (.aload_n 0, 1) := by decide +kernel
theorem dX5_part_141 : decode cX5_part 141 = .ok (.getfield 58, 3) := by decide +kernel
theorem dX5_part_144 : decode cX5_part 144 = .ok (.iload_n 3, 1) := by decide +kernel
theorem dX5_part_145 : decode cX5_part 145 = .ok (.dup2, 1) := by decide +kernel
theorem dX5_part_146 : decode cX5_part 146 = .ok (.iaload, 1) := by decide +kernel
theorem dX5_part_147 : decode cX5_part 147 = .ok (.iconst 1, 1) := by decide +kernel
theorem dX5_part_148 : decode cX5_part 148 = .ok (.iadd, 1) := by decide +kernel
theorem dX5_part_149 : decode cX5_part 149 = .ok (.iastore, 1) := by decide +kernel
theorem dX5_part_150 : decode cX5_part 150 = .ok (.iinc 4 (-1), 3) := by decide +kernel
theorem dX5_part_153 : decode cX5_part 153 = .ok (.goto (-84), 3) := by decide +kernel
theorem dX5_part_156 : decode cX5_part 156 = .ok (.iconst 0, 1) := by decide +kernel
theorem dX5_part_157 : decode cX5_part 157 = .ok (.istore 4, 2) := by decide +kernel
theorem dX5_part_159 : decode cX5_part 159 = .ok (.iload 4, 2) := by decide +kernel
theorem dX5_part_161 : decode cX5_part 161 = .ok (.iconst 4, 1) := by decide +kernel
theorem dX5_part_162 : decode cX5_part 162 = .ok (.if_icmp .ge 65, 3) := by decide +kernel
theorem dX5_part_165 : decode cX5_part 165 = .ok (.aload_n 0, 1) := by decide +kernel
theorem dX5_part_166 : decode cX5_part 166 = .ok (.getfield 61, 3) := by decide +kernel
theorem dX5_part_169 : decode cX5_part 169 = .ok (.iload 4, 2) := by decide +kernel
theorem dX5_part_171 : decode cX5_part 171 = .ok (.dup2, 1) := by decide +kernel
theorem dX5_part_172 : decode cX5_part 172 = .ok (.iaload, 1) := by decide +kernel
theorem dX5_part_173 : decode cX5_part 173 = .ok (.aload_n 0, 1) := by decide +kernel
theorem dX5_part_174 : decode cX5_part 174 = .ok (.getfield 58, 3) := by decide +kernel
theorem dX5_part_177 : decode cX5_part 177 = .ok (.iload 4, 2) := by decide +kernel
theorem dX5_part_179 : decode cX5_part 179 = .ok (.iaload, 1) := by decide +kernel
theorem dX5_part_180 : decode cX5_part 180 = .ok (.iadd, 1) := by decide +kernel
theorem dX5_part_181 : decode cX5_part 181 = .ok (.iastore, 1) := by decide +kernel
theorem dX5_part_182 : decode cX5_part 182 = .ok (.aload_n 0, 1) := by decide +kernel
theorem dX5_part_183 : decode cX5_part 183 = .ok (.getfield 64, 3) := by decide +kernel
theorem dX5_part_186 : decode cX5_part 186 = .ok (.iload 4, 2) := by decide +kernel
theorem dX5_part_188 : decode cX5_part 188 = .ok (.dup2, 1) := by decide +kernel
theorem dX5_part_189 : decode cX5_part 189 = .ok (.laload, 1) := by decide +kernel
theorem dX5_part_190 : decode cX5_part 190 = .ok (.aload_n 0, 1) := by decide +kernel
theorem dX5_part_191 : decode cX5_part 191 = .ok (.getfield 16, 3) := by decide +kernel
theorem dX5_part_194 : decode cX5_part 194 = .ok (.iload_n 1, 1) := by decide +kernel
theorem dX5_part_195 : decode cX5_part 195 = .ok (.iaload, 1) := by decide +kernel
theorem dX5_part_196 : decode cX5_part 196 = .ok (.i2l, 1) := by decide +kernel
theorem dX5_part_197 : decode cX5_part 197 = .ok (.aload_n 0, 1) := by decide +kernel
theorem dX5_part_198 : decode cX5_part 198 = .ok (.getfield 31, 3) := by decide +kernel
theorem dX5_part_201 : decode cX5_part 201 = .ok (.iload 4, 2) := by decide +kernel
theorem dX5_part_203 : decode cX5_part 203 = .ok (.iload_n 1, 1) := by decide +kernel
theorem dX5_part_204 : decode cX5_part 204 = .ok (.iload_n 2, 1) := by decide +kernel
theorem dX5_part_205 : decode cX5_part 205 = .ok (.invokestatic 95, 3) := by decide +kernel
theorem dX5_part_208 : decode cX5_part 208 = .ok (.iaload, 1) := by decide +kernel
theorem dX5_part_209 : decode cX5_part 209 = .ok (.aload_n 0, 1) := by decide +kernel
theorem dX5_part_210 : decode cX5_part 210 = .ok (.getfield 58, 3) := by decide +kernel
theorem dX5_part_213 : decode cX5_part 213 = .ok (.iload 4, 2) := by decide +kernel
theorem dX5_part_215 : decode cX5_part 215 = .ok (.iaload, 1) := by decide +kernel
theorem dX5_part_216 : decode cX5_part 216 = .ok (.isub, 1) := by decide +kernel
theorem dX5_part_217 : decode cX5_part 217 = .ok (.i2l, 1) := by decide +kernel
theorem dX5_part_218 : decode cX5_part 218 = .ok (.lmul, 1) := by decide +kernel
theorem dX5_part_219 : decode cX5_part 219 = .ok (.ladd, 1) := by decide +kernel
theorem dX5_part_220 : decode cX5_part 220 = .ok (.lastore, 1) := by decide +kernel
theorem dX5_part_221 : decode cX5_part 221 = .ok (.iinc 4 1, 3) := by decide +kernel
theorem dX5_part_224 : decode cX5_part 224 = .ok (.goto (-65), 3) := by decide +kernel
theorem dX5_part_227 : decode cX5_part 227 = .ok (.iinc 2 1, 3) := by decide +kernel
theorem dX5_part_230 : decode cX5_part 230 = .ok (.goto (-201), 3) := by decide +kernel
theorem dX5_part_233 : decode cX5_part 233 = .ok (.return_, 1) := by decide +kernel
theorem dX5_pays_0 : decode cX5_pays 0 = .ok (.aload_n 0, 1) := by decide +kernel
theorem dX5_pays_1 : decode cX5_pays 1 = .ok (.iconst 0, 1) := by decide +kernel
theorem dX5_pays_2 : decode cX5_pays 2 = .ok (.putfield 72, 3) := by decide +kernel
theorem dX5_pays_5 : decode cX5_pays 5 = .ok (.iload_n 1, 1) := by decide +kernel
theorem dX5_pays_6 : decode cX5_pays 6 = .ok (.iconst 0, 1) := by decide +kernel
theorem dX5_pays_7 : decode cX5_pays 7 = .ok (.iconst 3, 1) := by decide +kernel
theorem dX5_pays_8 : decode cX5_pays 8 = .ok (.invokestatic 80, 3) := by decide +kernel
theorem dX5_pays_11 : decode cX5_pays 11 = .ok (.ifCond .eq 11, 3) := by decide +kernel
theorem dX5_pays_14 : decode cX5_pays 14 = .ok (.aload_n 0, 1) := by decide +kernel
theorem dX5_pays_15 : decode cX5_pays 15 = .ok (.iload_n 2, 1) := by decide +kernel
theorem dX5_pays_16 : decode cX5_pays 16 = .ok (.invokevirtual 84, 3) := by decide +kernel
theorem dX5_pays_19 : decode cX5_pays 19 = .ok (.ifCond .ne 7, 3) := by decide +kernel
theorem dX5_pays_22 : decode cX5_pays 22 = .ok (.ldc2_w 120, 3) := by decide +kernel
theorem dX5_pays_25 : decode cX5_pays 25 = .ok (.lreturn, 1) := by decide +kernel
theorem dX5_pays_26 : decode cX5_pays 26 = .ok (.aload_n 0, 1) := by decide +kernel
theorem dX5_pays_27 : decode cX5_pays 27 = .ok (.iload_n 2, 1) := by decide +kernel
theorem dX5_pays_28 : decode cX5_pays 28 = .ok (.invokevirtual 151, 3) := by decide +kernel
theorem dX5_pays_31 : decode cX5_pays 31 = .ok (.aload_n 0, 1) := by decide +kernel
theorem dX5_pays_32 : decode cX5_pays 32 = .ok (.iload_n 2, 1) := by decide +kernel
theorem dX5_pays_33 : decode cX5_pays 33 = .ok (.invokevirtual 113, 3) := by decide +kernel
theorem dX5_pays_36 : decode cX5_pays 36 = .ok (.lstore_n 3, 1) := by decide +kernel
theorem dX5_pays_37 : decode cX5_pays 37 = .ok (.aload_n 0, 1) := by decide +kernel
theorem dX5_pays_38 : decode cX5_pays 38 = .ok (.getfield 61, 3) := by decide +kernel
theorem dX5_pays_41 : decode cX5_pays 41 = .ok (.iconst 0, 1) := by decide +kernel
theorem dX5_pays_42 : decode cX5_pays 42 = .ok (.iaload, 1) := by decide +kernel
theorem dX5_pays_43 : decode cX5_pays 43 = .ok (.aload_n 0, 1) := by decide +kernel
theorem dX5_pays_44 : decode cX5_pays 44 = .ok (.getfield 61, 3) := by decide +kernel
theorem dX5_pays_47 : decode cX5_pays 47 = .ok (.iconst 1, 1) := by decide +kernel
theorem dX5_pays_48 : decode cX5_pays 48 = .ok (.iaload, 1) := by decide +kernel
theorem dX5_pays_49 : decode cX5_pays 49 = .ok (.iadd, 1) := by decide +kernel
theorem dX5_pays_50 : decode cX5_pays 50 = .ok (.aload_n 0, 1) := by decide +kernel
theorem dX5_pays_51 : decode cX5_pays 51 = .ok (.getfield 61, 3) := by decide +kernel
theorem dX5_pays_54 : decode cX5_pays 54 = .ok (.iconst 2, 1) := by decide +kernel
theorem dX5_pays_55 : decode cX5_pays 55 = .ok (.iaload, 1) := by decide +kernel
theorem dX5_pays_56 : decode cX5_pays 56 = .ok (.iadd, 1) := by decide +kernel
theorem dX5_pays_57 : decode cX5_pays 57 = .ok (.aload_n 0, 1) := by decide +kernel
theorem dX5_pays_58 : decode cX5_pays 58 = .ok (.getfield 61, 3) := by decide +kernel
theorem dX5_pays_61 : decode cX5_pays 61 = .ok (.iconst 3, 1) := by decide +kernel
theorem dX5_pays_62 : decode cX5_pays 62 = .ok (.iaload, 1) := by decide +kernel
theorem dX5_pays_63 : decode cX5_pays 63 = .ok (.iadd, 1) := by decide +kernel
theorem dX5_pays_64 : decode cX5_pays 64 = .ok (.istore 5, 2) := by decide +kernel
theorem dX5_pays_66 : decode cX5_pays 66 = .ok (.iconst 0, 1) := by decide +kernel
theorem dX5_pays_67 : decode cX5_pays 67 = .ok (.istore 6, 2) := by decide +kernel
theorem dX5_pays_69 : decode cX5_pays 69 = .ok (.lconst 0, 1) := by decide +kernel
theorem dX5_pays_70 : decode cX5_pays 70 = .ok (.lstore 7, 2) := by decide +kernel
theorem dX5_pays_72 : decode cX5_pays 72 = .ok (.iconst 0, 1) := by decide +kernel
theorem dX5_pays_73 : decode cX5_pays 73 = .ok (.istore 9, 2) := by decide +kernel
theorem dX5_pays_75 : decode cX5_pays 75 = .ok (.iload 9, 2) := by decide +kernel
theorem dX5_pays_77 : decode cX5_pays 77 = .ok (.iconst 4, 1) := by decide +kernel
theorem dX5_pays_78 : decode cX5_pays 78 = .ok (.if_icmp .ge 63, 3) := by decide +kernel
theorem dX5_pays_81 : decode cX5_pays 81 = .ok (.aload_n 0, 1) := by decide +kernel
theorem dX5_pays_82 : decode cX5_pays 82 = .ok (.getfield 61, 3) := by decide +kernel
theorem dX5_pays_85 : decode cX5_pays 85 = .ok (.iload 9, 2) := by decide +kernel
theorem dX5_pays_87 : decode cX5_pays 87 = .ok (.iaload, 1) := by decide +kernel
theorem dX5_pays_88 : decode cX5_pays 88 = .ok (.aload_n 0, 1) := by decide +kernel
theorem dX5_pays_89 : decode cX5_pays 89 = .ok (.getfield 61, 3) := by decide +kernel
theorem dX5_pays_92 : decode cX5_pays 92 = .ok (.iload 6, 2) := by decide +kernel
theorem dX5_pays_94 : decode cX5_pays 94 = .ok (.iaload, 1) := by decide +kernel
theorem dX5_pays_95 : decode cX5_pays 95 = .ok (.if_icmp .le 8, 3) := by decide +kernel
theorem dX5_pays_98 : decode cX5_pays 98 = .ok (.iload 9, 2) := by decide +kernel
theorem dX5_pays_100 : decode cX5_pays 100 = .ok (.goto 5, 3) := by decide +kernel
theorem dX5_pays_103 : decode cX5_pays 103 = .ok (.iload 6, 2) := by decide +kernel
theorem dX5_pays_105 : decode cX5_pays 105 = .ok (.istore 6, 2) := by decide +kernel
theorem dX5_pays_107 : decode cX5_pays 107 = .ok (.lload 7, 2) := by decide +kernel
theorem dX5_pays_109 : decode cX5_pays 109 = .ok (.iload 5, 2) := by decide +kernel
theorem dX5_pays_111 : decode cX5_pays 111 = .ok (.ifCond .ne 7, 3) := by decide +kernel
theorem dX5_pays_114 : decode cX5_pays 114 = .ok (.lconst 0, 1) := by decide +kernel
theorem dX5_pays_115 : decode cX5_pays 115 = .ok (.goto 17, 3) := by decide +kernel
theorem dX5_pays_118 : decode cX5_pays 118 = .ok (.lload_n 3, 1) := by decide +kernel
theorem dX5_pays_119 : decode cX5_pays 119 = .ok (.aload_n 0, 1) := by decide +kernel
theorem dX5_pays_120 : decode cX5_pays 120 = .ok (.getfield 61, 3) := by decide +kernel
theorem dX5_pays_123 : decode cX5_pays 123 = .ok (.iload 9, 2) := by decide +kernel
theorem dX5_pays_125 : decode cX5_pays 125 = .ok (.iaload, 1) := by decide +kernel
theorem dX5_pays_126 : decode cX5_pays 126 = .ok (.i2l, 1) := by decide +kernel
theorem dX5_pays_127 : decode cX5_pays 127 = .ok (.lmul, 1) := by decide +kernel
theorem dX5_pays_128 : decode cX5_pays 128 = .ok (.iload 5, 2) := by decide +kernel
theorem dX5_pays_130 : decode cX5_pays 130 = .ok (.i2l, 1) := by decide +kernel
theorem dX5_pays_131 : decode cX5_pays 131 = .ok (.ldiv, 1) := by decide +kernel
theorem dX5_pays_132 : decode cX5_pays 132 = .ok (.ladd, 1) := by decide +kernel
theorem dX5_pays_133 : decode cX5_pays 133 = .ok (.lstore 7, 2) := by decide +kernel
theorem dX5_pays_135 : decode cX5_pays 135 = .ok (.iinc 9 1, 3) := by decide +kernel
theorem dX5_pays_138 : decode cX5_pays 138 = .ok (.goto (-63), 3) := by decide +kernel
theorem dX5_pays_141 : decode cX5_pays 141 = .ok (.iload 5, 2) := by decide +kernel
theorem dX5_pays_143 : decode cX5_pays 143 = .ok (.ifCond .ne 7, 3) := by decide +kernel
theorem dX5_pays_146 : decode cX5_pays 146 = .ok (.lconst 0, 1) := by decide +kernel
theorem dX5_pays_147 : decode cX5_pays 147 = .ok (.goto 16, 3) := by decide +kernel
theorem dX5_pays_150 : decode cX5_pays 150 = .ok (.lload_n 3, 1) := by decide +kernel
theorem dX5_pays_151 : decode cX5_pays 151 = .ok (.aload_n 0, 1) := by decide +kernel
theorem dX5_pays_152 : decode cX5_pays 152 = .ok (.getfield 61, 3) := by decide +kernel
theorem dX5_pays_155 : decode cX5_pays 155 = .ok (.iload_n 1, 1) := by decide +kernel
theorem dX5_pays_156 : decode cX5_pays 156 = .ok (.iaload, 1) := by decide +kernel
theorem dX5_pays_157 : decode cX5_pays 157 = .ok (.i2l, 1) := by decide +kernel
theorem dX5_pays_158 : decode cX5_pays 158 = .ok (.lmul, 1) := by decide +kernel
theorem dX5_pays_159 : decode cX5_pays 159 = .ok (.iload 5, 2) := by decide +kernel
theorem dX5_pays_161 : decode cX5_pays 161 = .ok (.i2l, 1) := by decide +kernel
theorem dX5_pays_162 : decode cX5_pays 162 = .ok (.ldiv, 1) := by decide +kernel
theorem dX5_pays_163 : decode cX5_pays 163 = .ok (.lstore 9, 2) := by decide +kernel
theorem dX5_pays_165 : decode cX5_pays 165 = .ok (.aload_n 0, 1) := by decide +kernel
theorem dX5_pays_166 : decode cX5_pays 166 = .ok (.getfield 64, 3) := by decide +kernel
theorem dX5_pays_169 : decode cX5_pays 169 = .ok (.iload_n 1, 1) := by decide +kernel
theorem dX5_pays_170 : decode cX5_pays 170 = .ok (.laload, 1) := by decide +kernel
theorem dX5_pays_171 : decode cX5_pays 171 = .ok (.lload 9, 2) := by decide +kernel
theorem dX5_pays_173 : decode cX5_pays 173 = .ok (.ladd, 1) := by decide +kernel
theorem dX5_pays_174 : decode cX5_pays 174 = .ok (.iload_n 1, 1) := by decide +kernel
theorem dX5_pays_175 : decode cX5_pays 175 = .ok (.iload 6, 2) := by decide +kernel
theorem dX5_pays_177 : decode cX5_pays 177 = .ok (.if_icmp .ne 10, 3) := by decide +kernel
theorem dX5_pays_180 : decode cX5_pays 180 = .ok (.lload_n 3, 1) := by decide +kernel
theorem dX5_pays_181 : decode cX5_pays 181 = .ok (.lload 7, 2) := by decide +kernel
theorem dX5_pays_183 : decode cX5_pays 183 = .ok (.lsub, 1) := by decide +kernel
theorem dX5_pays_184 : decode cX5_pays 184 = .ok (.goto 4, 3) := by decide +kernel
theorem dX5_pays_187 : decode cX5_pays 187 = .ok (.lconst 0, 1) := by decide +kernel
theorem dX5_pays_188 : decode cX5_pays 188 = .ok (.ladd, 1) := by decide +kernel
theorem dX5_pays_189 : decode cX5_pays 189 = .ok (.lreturn, 1) := by decide +kernel
theorem dX5_about_0 : decode cX5_about 0 = .ok (.aload_n 0, 1) := by decide +kernel
theorem dX5_about_1 : decode cX5_about 1 = .ok (.iconst 0, 1) := by decide +kernel
theorem dX5_about_2 : decode cX5_about 2 = .ok (.putfield 72, 3) := by decide +kernel
theorem dX5_about_5 : decode cX5_about 5 = .ok (.iconst 0, 1) := by decide +kernel
theorem dX5_about_6 : decode cX5_about 6 = .ok (.istore_n 3, 1) := by decide +kernel
theorem dX5_about_7 : decode cX5_about 7 = .ok (.iload_n 2, 1) := by decide +kernel
theorem dX5_about_8 : decode cX5_about 8 = .ok (.iconst 0, 1) := by decide +kernel
theorem dX5_about_9 : decode cX5_about 9 = .ok (.iconst 3, 1) := by decide +kernel
theorem dX5_about_10 : decode cX5_about 10 = .ok (.invokestatic 80, 3) := by decide +kernel
theorem dX5_about_13 : decode cX5_about 13 = .ok (.ifCond .eq 87, 3) := by decide +kernel
theorem dX5_about_16 : decode cX5_about 16 = .ok (.aload_n 0, 1) := by decide +kernel
theorem dX5_about_17 : decode cX5_about 17 = .ok (.iload_n 1, 1) := by decide +kernel
theorem dX5_about_18 : decode cX5_about 18 = .ok (.invokevirtual 89, 3) := by decide +kernel
theorem dX5_about_21 : decode cX5_about 21 = .ok (.ifCond .ne 5, 3) := by decide +kernel
theorem dX5_about_24 : decode cX5_about 24 = .ok (.iconst (-1), 1) := by decide +kernel
theorem dX5_about_25 : decode cX5_about 25 = .ok (.ireturn, 1) := by decide +kernel
theorem dX5_about_26 : decode cX5_about 26 = .ok (.iconst 0, 1) := by decide +kernel
theorem dX5_about_27 : decode cX5_about 27 = .ok (.istore 4, 2) := by decide +kernel
theorem dX5_about_29 : decode cX5_about 29 = .ok (.iload 4, 2) := by decide +kernel
theorem dX5_about_31 : decode cX5_about 31 = .ok (.bipush 40, 2) := by decide +kernel
theorem dX5_about_33 : decode cX5_about 33 = .ok (.if_icmp .ge 24, 3) := by decide +kernel
theorem dX5_about_36 : decode cX5_about 36 = .ok (.iload_n 3, 1) := by decide +kernel
theorem dX5_about_37 : decode cX5_about 37 = .ok (.aload_n 0, 1) := by decide +kernel
theorem dX5_about_38 : decode cX5_about 38 = .ok (.getfield 34, 3) := by decide +kernel
theorem dX5_about_41 : decode cX5_about 41 = .ok (.bipush 40, 2) := by decide +kernel
theorem dX5_about_43 : decode cX5_about 43 = .ok (.iload_n 1, 1) := by decide +kernel
theorem dX5_about_44 : decode cX5_about 44 = .ok (.imul, 1) := by decide +kernel
theorem dX5_about_45 : decode cX5_about 45 = .ok (.iload 4, 2) := by decide +kernel
theorem dX5_about_47 : decode cX5_about 47 = .ok (.iadd, 1) := by decide +kernel
theorem dX5_about_48 : decode cX5_about 48 = .ok (.iaload, 1) := by decide +kernel
theorem dX5_about_49 : decode cX5_about 49 = .ok (.iadd, 1) := by decide +kernel
theorem dX5_about_50 : decode cX5_about 50 = .ok (.istore_n 3, 1) := by decide +kernel
theorem dX5_about_51 : decode cX5_about 51 = .ok (.iinc 4 1, 3) := by decide +kernel
theorem dX5_about_54 : decode cX5_about 54 = .ok (.goto (-25), 3) := by decide +kernel
theorem dX5_about_57 : decode cX5_about 57 = .ok (.iload_n 2, 1) := by decide +kernel
theorem dX5_about_58 : decode cX5_about 58 = .ok (.ifCond .ne 12, 3) := by decide +kernel
theorem dX5_about_61 : decode cX5_about 61 = .ok (.aload_n 0, 1) := by decide +kernel
theorem dX5_about_62 : decode cX5_about 62 = .ok (.getfield 22, 3) := by decide +kernel
theorem dX5_about_65 : decode cX5_about 65 = .ok (.iload_n 1, 1) := by decide +kernel
theorem dX5_about_66 : decode cX5_about 66 = .ok (.iaload, 1) := by decide +kernel
theorem dX5_about_67 : decode cX5_about 67 = .ok (.goto 32, 3) := by decide +kernel
theorem dX5_about_70 : decode cX5_about 70 = .ok (.iload_n 2, 1) := by decide +kernel
theorem dX5_about_71 : decode cX5_about 71 = .ok (.iconst 1, 1) := by decide +kernel
theorem dX5_about_72 : decode cX5_about 72 = .ok (.if_icmp .ne 12, 3) := by decide +kernel
theorem dX5_about_75 : decode cX5_about 75 = .ok (.aload_n 0, 1) := by decide +kernel
theorem dX5_about_76 : decode cX5_about 76 = .ok (.getfield 25, 3) := by decide +kernel
theorem dX5_about_79 : decode cX5_about 79 = .ok (.iload_n 1, 1) := by decide +kernel
theorem dX5_about_80 : decode cX5_about 80 = .ok (.iaload, 1) := by decide +kernel
theorem dX5_about_81 : decode cX5_about 81 = .ok (.goto 18, 3) := by decide +kernel
theorem dX5_about_84 : decode cX5_about 84 = .ok (.iload_n 2, 1) := by decide +kernel
theorem dX5_about_85 : decode cX5_about 85 = .ok (.iconst 2, 1) := by decide +kernel
theorem dX5_about_86 : decode cX5_about 86 = .ok (.if_icmp .ne 12, 3) := by decide +kernel
theorem dX5_about_89 : decode cX5_about 89 = .ok (.aload_n 0, 1) := by decide +kernel
theorem dX5_about_90 : decode cX5_about 90 = .ok (.getfield 28, 3) := by decide +kernel
theorem dX5_about_93 : decode cX5_about 93 = .ok (.iload_n 1, 1) := by decide +kernel
theorem dX5_about_94 : decode cX5_about 94 = .ok (.iaload, 1) := by decide +kernel
theorem dX5_about_95 : decode cX5_about 95 = .ok (.goto 4, 3) := by decide +kernel
theorem dX5_about_98 : decode cX5_about 98 = .ok (.iload_n 3, 1) := by decide +kernel
theorem dX5_about_99 : decode cX5_about 99 = .ok (.ireturn, 1) := by decide +kernel
theorem dX5_about_100 : decode cX5_about 100 = .ok (.iload_n 2, 1) := by decide +kernel
theorem dX5_about_101 : decode cX5_about 101 = .ok (.bipush 10, 2) := by decide +kernel
theorem dX5_about_103 : decode cX5_about 103 = .ok (.bipush 13, 2) := by decide +kernel
theorem dX5_about_105 : decode cX5_about 105 = .ok (.invokestatic 80, 3) := by decide +kernel
theorem dX5_about_108 : decode cX5_about 108 = .ok (.ifCond .eq 11, 3) := by decide +kernel
theorem dX5_about_111 : decode cX5_about 111 = .ok (.aload_n 0, 1) := by decide +kernel
theorem dX5_about_112 : decode cX5_about 112 = .ok (.iload_n 1, 1) := by decide +kernel
theorem dX5_about_113 : decode cX5_about 113 = .ok (.invokevirtual 84, 3) := by decide +kernel
theorem dX5_about_116 : decode cX5_about 116 = .ok (.ifCond .ne 5, 3) := by decide +kernel
theorem dX5_about_119 : decode cX5_about 119 = .ok (.iconst (-1), 1) := by decide +kernel
theorem dX5_about_120 : decode cX5_about 120 = .ok (.ireturn, 1) := by decide +kernel
theorem dX5_about_121 : decode cX5_about 121 = .ok (.iconst 0, 1) := by decide +kernel
theorem dX5_about_122 : decode cX5_about 122 = .ok (.istore 4, 2) := by decide +kernel
theorem dX5_about_124 : decode cX5_about 124 = .ok (.iconst 0, 1) := by decide +kernel
theorem dX5_about_125 : decode cX5_about 125 = .ok (.istore 5, 2) := by decide +kernel
theorem dX5_about_127 : decode cX5_about 127 = .ok (.iconst 0, 1) := by decide +kernel
theorem dX5_about_128 : decode cX5_about 128 = .ok (.istore 6, 2) := by decide +kernel
theorem dX5_about_130 : decode cX5_about 130 = .ok (.iload 6, 2) := by decide +kernel
theorem dX5_about_132 : decode cX5_about 132 = .ok (.aload_n 0, 1) := by decide +kernel
theorem dX5_about_133 : decode cX5_about 133 = .ok (.getfield 7, 3) := by decide +kernel
theorem dX5_about_136 : decode cX5_about 136 = .ok (.iconst 0, 1) := by decide +kernel
theorem dX5_about_137 : decode cX5_about 137 = .ok (.iaload, 1) := by decide +kernel
theorem dX5_about_138 : decode cX5_about 138 = .ok (.if_icmp .ge 47, 3) := by decide +kernel
theorem dX5_about_141 : decode cX5_about 141 = .ok (.iload 4, 2) := by decide +kernel
theorem dX5_about_143 : decode cX5_about 143 = .ok (.aload_n 0, 1) := by decide +kernel
theorem dX5_about_144 : decode cX5_about 144 = .ok (.iload_n 1, 1) := by decide +kernel
theorem dX5_about_145 : decode cX5_about 145 = .ok (.iload 6, 2) := by decide +kernel
theorem dX5_about_147 : decode cX5_about 147 = .ok (.invokevirtual 103, 3) := by decide +kernel
theorem dX5_about_150 : decode cX5_about 150 = .ok (.iadd, 1) := by decide +kernel
theorem dX5_about_151 : decode cX5_about 151 = .ok (.istore 4, 2) := by decide +kernel
theorem dX5_about_153 : decode cX5_about 153 = .ok (.aload_n 0, 1) := by decide +kernel
theorem dX5_about_154 : decode cX5_about 154 = .ok (.iload_n 1, 1) := by decide +kernel
theorem dX5_about_155 : decode cX5_about 155 = .ok (.iload 6, 2) := by decide +kernel
theorem dX5_about_157 : decode cX5_about 157 = .ok (.invokevirtual 103, 3) := by decide +kernel
theorem dX5_about_160 : decode cX5_about 160 = .ok (.iload 5, 2) := by decide +kernel
theorem dX5_about_162 : decode cX5_about 162 = .ok (.if_icmp .le 13, 3) := by decide +kernel
theorem dX5_about_165 : decode cX5_about 165 = .ok (.aload_n 0, 1) := by decide +kernel
theorem dX5_about_166 : decode cX5_about 166 = .ok (.iload_n 1, 1) := by decide +kernel
theorem dX5_about_167 : decode cX5_about 167 = .ok (.iload 6, 2) := by decide +kernel
theorem dX5_about_169 : decode cX5_about 169 = .ok (.invokevirtual 103, 3) := by decide +kernel
theorem dX5_about_172 : decode cX5_about 172 = .ok (.goto 5, 3) := by decide +kernel
theorem dX5_about_175 : decode cX5_about 175 = .ok (.iload 5, 2) := by decide +kernel
theorem dX5_about_177 : decode cX5_about 177 = .ok (.istore 5, 2) := by decide +kernel
theorem dX5_about_179 : decode cX5_about 179 = .ok (.iinc 6 1, 3) := by decide +kernel
theorem dX5_about_182 : decode cX5_about 182 = .ok (.goto (-52), 3) := by decide +kernel
theorem dX5_about_185 : decode cX5_about 185 = .ok (.iconst 0, 1) := by decide +kernel
theorem dX5_about_186 : decode cX5_about 186 = .ok (.istore 6, 2) := by decide +kernel
theorem dX5_about_188 : decode cX5_about 188 = .ok (.iload 6, 2) := by decide +kernel
theorem dX5_about_190 : decode cX5_about 190 = .ok (.aload_n 0, 1) := by decide +kernel
theorem dX5_about_191 : decode cX5_about 191 = .ok (.getfield 19, 3) := by decide +kernel
theorem dX5_about_194 : decode cX5_about 194 = .ok (.iconst 0, 1) := by decide +kernel
theorem dX5_about_195 : decode cX5_about 195 = .ok (.iaload, 1) := by decide +kernel
theorem dX5_about_196 : decode cX5_about 196 = .ok (.if_icmp .ge 28, 3) := by decide +kernel
theorem dX5_about_199 : decode cX5_about 199 = .ok (.iload_n 3, 1) := by decide +kernel
theorem dX5_about_200 : decode cX5_about 200 = .ok (.aload_n 0, 1) := by decide +kernel
theorem dX5_about_201 : decode cX5_about 201 = .ok (.getfield 22, 3) := by decide +kernel
theorem dX5_about_204 : decode cX5_about 204 = .ok (.iload 6, 2) := by decide +kernel
theorem dX5_about_206 : decode cX5_about 206 = .ok (.iaload, 1) := by decide +kernel
theorem dX5_about_207 : decode cX5_about 207 = .ok (.iload_n 1, 1) := by decide +kernel
theorem dX5_about_208 : decode cX5_about 208 = .ok (.if_icmp .ne 7, 3) := by decide +kernel
theorem dX5_about_211 : decode cX5_about 211 = .ok (.iconst 1, 1) := by decide +kernel
theorem dX5_about_212 : decode cX5_about 212 = .ok (.goto 4, 3) := by decide +kernel
theorem dX5_about_215 : decode cX5_about 215 = .ok (.iconst 0, 1) := by decide +kernel
theorem dX5_about_216 : decode cX5_about 216 = .ok (.iadd, 1) := by decide +kernel
theorem dX5_about_217 : decode cX5_about 217 = .ok (.istore_n 3, 1) := by decide +kernel
theorem dX5_about_218 : decode cX5_about 218 = .ok (.iinc 6 1, 3) := by decide +kernel
theorem dX5_about_221 : decode cX5_about 221 = .ok (.goto (-33), 3) := by decide +kernel
theorem dX5_about_224 : decode cX5_about 224 = .ok (.iload_n 2, 1) := by decide +kernel
theorem dX5_about_225 : decode cX5_about 225 = .ok (.bipush 10, 2) := by decide +kernel
theorem dX5_about_227 : decode cX5_about 227 = .ok (.if_icmp .ne 12, 3) := by decide +kernel
theorem dX5_about_230 : decode cX5_about 230 = .ok (.aload_n 0, 1) := by decide +kernel
theorem dX5_about_231 : decode cX5_about 231 = .ok (.getfield 16, 3) := by decide +kernel
theorem dX5_about_234 : decode cX5_about 234 = .ok (.iload_n 1, 1) := by decide +kernel
theorem dX5_about_235 : decode cX5_about 235 = .ok (.iaload, 1) := by decide +kernel
theorem dX5_about_236 : decode cX5_about 236 = .ok (.goto 26, 3) := by decide +kernel
theorem dX5_about_239 : decode cX5_about 239 = .ok (.iload_n 2, 1) := by decide +kernel
theorem dX5_about_240 : decode cX5_about 240 = .ok (.bipush 11, 2) := by decide +kernel
theorem dX5_about_242 : decode cX5_about 242 = .ok (.if_icmp .ne 7, 3) := by decide +kernel
theorem dX5_about_245 : decode cX5_about 245 = .ok (.iload_n 3, 1) := by decide +kernel
theorem dX5_about_246 : decode cX5_about 246 = .ok (.goto 16, 3) := by decide +kernel
theorem dX5_about_249 : decode cX5_about 249 = .ok (.iload_n 2, 1) := by decide +kernel
theorem dX5_about_250 : decode cX5_about 250 = .ok (.bipush 12, 2) := by decide +kernel
theorem dX5_about_252 : decode cX5_about 252 = .ok (.if_icmp .ne 8, 3) := by decide +kernel
theorem dX5_about_255 : decode cX5_about 255 = .ok (.iload 4, 2) := by decide +kernel
theorem dX5_about_257 : decode cX5_about 257 = .ok (.goto 5, 3) := by decide +kernel
theorem dX5_about_260 : decode cX5_about 260 = .ok (.iload 5, 2) := by decide +kernel
theorem dX5_about_262 : decode cX5_about 262 = .ok (.ireturn, 1) := by decide +kernel
theorem dX5_count_0 : decode cX5_count 0 = .ok (.aload_n 0, 1) := by decide +kernel
theorem dX5_count_1 : decode cX5_count 1 = .ok (.iconst 0, 1) := by decide +kernel
theorem dX5_count_2 : decode cX5_count 2 = .ok (.putfield 72, 3) := by decide +kernel
theorem dX5_count_5 : decode cX5_count 5 = .ok (.iload_n 1, 1) := by decide +kernel
theorem dX5_count_6 : decode cX5_count 6 = .ok (.ifCond .ne 12, 3) := by decide +kernel
theorem dX5_count_9 : decode cX5_count 9 = .ok (.aload_n 0, 1) := by decide +kernel
theorem dX5_count_10 : decode cX5_count 10 = .ok (.getfield 7, 3) := by decide +kernel
theorem dX5_count_13 : decode cX5_count 13 = .ok (.iconst 0, 1) := by decide +kernel
theorem dX5_count_14 : decode cX5_count 14 = .ok (.iaload, 1) := by decide +kernel
theorem dX5_count_15 : decode cX5_count 15 = .ok (.goto 32, 3) := by decide +kernel
theorem dX5_count_18 : decode cX5_count 18 = .ok (.iload_n 1, 1) := by decide +kernel
theorem dX5_count_19 : decode cX5_count 19 = .ok (.iconst 1, 1) := by decide +kernel
theorem dX5_count_20 : decode cX5_count 20 = .ok (.if_icmp .ne 12, 3) := by decide +kernel
theorem dX5_count_23 : decode cX5_count 23 = .ok (.aload_n 0, 1) := by decide +kernel
theorem dX5_count_24 : decode cX5_count 24 = .ok (.getfield 13, 3) := by decide +kernel
theorem dX5_count_27 : decode cX5_count 27 = .ok (.iconst 0, 1) := by decide +kernel
theorem dX5_count_28 : decode cX5_count 28 = .ok (.iaload, 1) := by decide +kernel
theorem dX5_count_29 : decode cX5_count 29 = .ok (.goto 18, 3) := by decide +kernel
theorem dX5_count_32 : decode cX5_count 32 = .ok (.iload_n 1, 1) := by decide +kernel
theorem dX5_count_33 : decode cX5_count 33 = .ok (.iconst 2, 1) := by decide +kernel
theorem dX5_count_34 : decode cX5_count 34 = .ok (.if_icmp .ne 12, 3) := by decide +kernel
theorem dX5_count_37 : decode cX5_count 37 = .ok (.aload_n 0, 1) := by decide +kernel
theorem dX5_count_38 : decode cX5_count 38 = .ok (.getfield 19, 3) := by decide +kernel
theorem dX5_count_41 : decode cX5_count 41 = .ok (.iconst 0, 1) := by decide +kernel
theorem dX5_count_42 : decode cX5_count 42 = .ok (.iaload, 1) := by decide +kernel
theorem dX5_count_43 : decode cX5_count 43 = .ok (.goto 4, 3) := by decide +kernel
theorem dX5_count_46 : decode cX5_count 46 = .ok (.iconst (-1), 1) := by decide +kernel
theorem dX5_count_47 : decode cX5_count 47 = .ok (.ireturn, 1) := by decide +kernel
theorem dX5_image_0 : decode cX5_image 0 = .ok (.aload_n 0, 1) := by decide +kernel
theorem dX5_image_1 : decode cX5_image 1 = .ok (.iconst 0, 1) := by decide +kernel
theorem dX5_image_2 : decode cX5_image 2 = .ok (.putfield 72, 3) := by decide +kernel
theorem dX5_image_5 : decode cX5_image 5 = .ok (.iload_n 1, 1) := by decide +kernel
theorem dX5_image_6 : decode cX5_image 6 = .ok (.iconst 0, 1) := by decide +kernel
theorem dX5_image_7 : decode cX5_image 7 = .ok (.iconst 2, 1) := by decide +kernel
theorem dX5_image_8 : decode cX5_image 8 = .ok (.invokestatic 80, 3) := by decide +kernel
theorem dX5_image_11 : decode cX5_image 11 = .ok (.ifCond .ne 5, 3) := by decide +kernel
theorem dX5_image_14 : decode cX5_image 14 = .ok (.iconst 0, 1) := by decide +kernel
theorem dX5_image_15 : decode cX5_image 15 = .ok (.ireturn, 1) := by decide +kernel
theorem dX5_image_16 : decode cX5_image 16 = .ok (.aload_n 0, 1) := by decide +kernel
theorem dX5_image_17 : decode cX5_image 17 = .ok (.iconst 0, 1) := by decide +kernel
theorem dX5_image_18 : decode cX5_image 18 = .ok (.iload_n 1, 1) := by decide +kernel
theorem dX5_image_19 : decode cX5_image 19 = .ok (.iconst 1, 1) := by decide +kernel
theorem dX5_image_20 : decode cX5_image 20 = .ok (.iadd, 1) := by decide +kernel
theorem dX5_image_21 : decode cX5_image 21 = .ok (.invokevirtual 154, 3) := by decide +kernel
theorem dX5_image_24 : decode cX5_image 24 = .ok (.aload_n 0, 1) := by decide +kernel
theorem dX5_image_25 : decode cX5_image 25 = .ok (.getfield 68, 3) := by decide +kernel
theorem dX5_image_28 : decode cX5_image 28 = .ok (.iload_n 1, 1) := by decide +kernel
theorem dX5_image_29 : decode cX5_image 29 = .ok (.iconst 1, 1) := by decide +kernel
theorem dX5_image_30 : decode cX5_image 30 = .ok (.bastore, 1) := by decide +kernel
theorem dX5_image_31 : decode cX5_image 31 = .ok (.iconst 1, 1) := by decide +kernel
theorem dX5_image_32 : decode cX5_image 32 = .ok (.ireturn, 1) := by decide +kernel
theorem dX5_again_0 : decode cX5_again 0 = .ok (.aload_n 0, 1) := by decide +kernel
theorem dX5_again_1 : decode cX5_again 1 = .ok (.iconst 0, 1) := by decide +kernel
theorem dX5_again_2 : decode cX5_again 2 = .ok (.putfield 72, 3) := by decide +kernel
theorem dX5_again_5 : decode cX5_again 5 = .ok (.iload_n 1, 1) := by decide +kernel
theorem dX5_again_6 : decode cX5_again 6 = .ok (.iconst 0, 1) := by decide +kernel
theorem dX5_again_7 : decode cX5_again 7 = .ok (.iconst 2, 1) := by decide +kernel
theorem dX5_again_8 : decode cX5_again 8 = .ok (.invokestatic 80, 3) := by decide +kernel
theorem dX5_again_11 : decode cX5_again 11 = .ok (.ifCond .eq 12, 3) := by decide +kernel
theorem dX5_again_14 : decode cX5_again 14 = .ok (.aload_n 0, 1) := by decide +kernel
theorem dX5_again_15 : decode cX5_again 15 = .ok (.getfield 68, 3) := by decide +kernel
theorem dX5_again_18 : decode cX5_again 18 = .ok (.iload_n 1, 1) := by decide +kernel
theorem dX5_again_19 : decode cX5_again 19 = .ok (.baload, 1) := by decide +kernel
theorem dX5_again_20 : decode cX5_again 20 = .ok (.ifCond .ne 5, 3) := by decide +kernel
theorem dX5_again_23 : decode cX5_again 23 = .ok (.iconst 0, 1) := by decide +kernel
theorem dX5_again_24 : decode cX5_again 24 = .ok (.ireturn, 1) := by decide +kernel
theorem dX5_again_25 : decode cX5_again 25 = .ok (.aload_n 0, 1) := by decide +kernel
theorem dX5_again_26 : decode cX5_again 26 = .ok (.iload_n 1, 1) := by decide +kernel
theorem dX5_again_27 : decode cX5_again 27 = .ok (.iconst 1, 1) := by decide +kernel
theorem dX5_again_28 : decode cX5_again 28 = .ok (.iadd, 1) := by decide +kernel
theorem dX5_again_29 : decode cX5_again 29 = .ok (.iconst 0, 1) := by decide +kernel
theorem dX5_again_30 : decode cX5_again 30 = .ok (.invokevirtual 154, 3) := by decide +kernel
theorem dX5_again_33 : decode cX5_again 33 = .ok (.iconst 1, 1) := by decide +kernel
theorem dX5_again_34 : decode cX5_again 34 = .ok (.ireturn, 1) := by decide +kernel
end
section
theorem dL_law_0 : decode cL_law 0 = .ok (.new 7, 3) := by decide +kernel
theorem dL_law_3 : decode cL_law 3 = .ok (.dup, 1) := by decide +kernel
theorem dL_law_4 : decode cL_law 4 = .ok (.invokespecial 9, 3) := by decide +kernel
theorem dL_law_7 : decode cL_law 7 = .ok (.astore_n 1, 1) := by decide +kernel
theorem dL_law_8 : decode cL_law 8 = .ok (.new 10, 3) := by decide +kernel
theorem dL_law_11 : decode cL_law 11 = .ok (.dup, 1) := by decide +kernel
theorem dL_law_12 : decode cL_law 12 = .ok (.invokespecial 12, 3) := by decide +kernel
theorem dL_law_15 : decode cL_law 15 = .ok (.astore_n 2, 1) := by decide +kernel
theorem dL_law_16 : decode cL_law 16 = .ok (.iconst 0, 1) := by decide +kernel
theorem dL_law_17 : decode cL_law 17 = .ok (.istore_n 3, 1) := by decide +kernel
theorem dL_law_18 : decode cL_law 18 = .ok (.iload_n 3, 1) := by decide +kernel
theorem dL_law_19 : decode cL_law 19 = .ok (.aload_n 0, 1) := by decide +kernel
theorem dL_law_20 : decode cL_law 20 = .ok (.arraylength, 1) := by decide +kernel
theorem dL_law_21 : decode cL_law 21 = .ok (.iconst 5, 1) := by decide +kernel
theorem dL_law_22 : decode cL_law 22 = .ok (.isub, 1) := by decide +kernel
theorem dL_law_23 : decode cL_law 23 = .ok (.if_icmp .gt 728, 3) := by decide +kernel
theorem dL_law_26 : decode cL_law 26 = .ok (.aload_n 0, 1) := by decide +kernel
theorem dL_law_27 : decode cL_law 27 = .ok (.iload_n 3, 1) := by decide +kernel
theorem dL_law_28 : decode cL_law 28 = .ok (.iaload, 1) := by decide +kernel
theorem dL_law_29 : decode cL_law 29 = .ok (.bipush 31, 2) := by decide +kernel
theorem dL_law_31 : decode cL_law 31 = .ok (.iand, 1) := by decide +kernel
theorem dL_law_32 : decode cL_law 32 = .ok (.tableswitch 713 0 18 #[92, 115, 138, 181, 214, 267, 320, 363, 386, 429, 453, 477, 510, 553, 577, 611, 644, 667, 690], 92) := by decide +kernel
theorem dL_law_124 : decode cL_law 124 = .ok (.aload_n 1, 1) := by decide +kernel
theorem dL_law_125 : decode cL_law 125 = .ok (.aload_n 0, 1) := by decide +kernel
theorem dL_law_126 : decode cL_law 126 = .ok (.iload_n 3, 1) := by decide +kernel
theorem dL_law_127 : decode cL_law 127 = .ok (.iconst 1, 1) := by decide +kernel
theorem dL_law_128 : decode cL_law 128 = .ok (.iadd, 1) := by decide +kernel
theorem dL_law_129 : decode cL_law 129 = .ok (.iaload, 1) := by decide +kernel
theorem dL_law_130 : decode cL_law 130 = .ok (.invokevirtual 13, 3) := by decide +kernel
theorem dL_law_133 : decode cL_law 133 = .ok (.aload_n 2, 1) := by decide +kernel
theorem dL_law_134 : decode cL_law 134 = .ok (.aload_n 0, 1) := by decide +kernel
theorem dL_law_135 : decode cL_law 135 = .ok (.iload_n 3, 1) := by decide +kernel
theorem dL_law_136 : decode cL_law 136 = .ok (.iconst 1, 1) := by decide +kernel
theorem dL_law_137 : decode cL_law 137 = .ok (.iadd, 1) := by decide +kernel
theorem dL_law_138 : decode cL_law 138 = .ok (.iaload, 1) := by decide +kernel
theorem dL_law_139 : decode cL_law 139 = .ok (.invokevirtual 17, 3) := by decide +kernel
theorem dL_law_142 : decode cL_law 142 = .ok (.if_icmp .eq 603, 3) := by decide +kernel
theorem dL_law_145 : decode cL_law 145 = .ok (.iconst 0, 1) := by decide +kernel
theorem dL_law_146 : decode cL_law 146 = .ok (.ireturn, 1) := by decide +kernel
theorem dL_law_147 : decode cL_law 147 = .ok (.aload_n 1, 1) := by decide +kernel
theorem dL_law_148 : decode cL_law 148 = .ok (.aload_n 0, 1) := by decide +kernel
theorem dL_law_149 : decode cL_law 149 = .ok (.iload_n 3, 1) := by decide +kernel
theorem dL_law_150 : decode cL_law 150 = .ok (.iconst 1, 1) := by decide +kernel
theorem dL_law_151 : decode cL_law 151 = .ok (.iadd, 1) := by decide +kernel
theorem dL_law_152 : decode cL_law 152 = .ok (.iaload, 1) := by decide +kernel
theorem dL_law_153 : decode cL_law 153 = .ok (.invokevirtual 18, 3) := by decide +kernel
theorem dL_law_156 : decode cL_law 156 = .ok (.aload_n 2, 1) := by decide +kernel
theorem dL_law_157 : decode cL_law 157 = .ok (.aload_n 0, 1) := by decide +kernel
theorem dL_law_158 : decode cL_law 158 = .ok (.iload_n 3, 1) := by decide +kernel
theorem dL_law_159 : decode cL_law 159 = .ok (.iconst 1, 1) := by decide +kernel
theorem dL_law_160 : decode cL_law 160 = .ok (.iadd, 1) := by decide +kernel
theorem dL_law_161 : decode cL_law 161 = .ok (.iaload, 1) := by decide +kernel
theorem dL_law_162 : decode cL_law 162 = .ok (.invokevirtual 22, 3) := by decide +kernel
theorem dL_law_165 : decode cL_law 165 = .ok (.if_icmp .eq 580, 3) := by decide +kernel
theorem dL_law_168 : decode cL_law 168 = .ok (.iconst 0, 1) := by decide +kernel
theorem dL_law_169 : decode cL_law 169 = .ok (.ireturn, 1) := by decide +kernel
theorem dL_law_170 : decode cL_law 170 = .ok (.aload_n 1, 1) := by decide +kernel
theorem dL_law_171 : decode cL_law 171 = .ok (.aload_n 0, 1) := by decide +kernel
theorem dL_law_172 : decode cL_law 172 = .ok (.iload_n 3, 1) := by decide +kernel
theorem dL_law_173 : decode cL_law 173 = .ok (.iconst 1, 1) := by decide +kernel
theorem dL_law_174 : decode cL_law 174 = .ok (.iadd, 1) := by decide +kernel
theorem dL_law_175 : decode cL_law 175 = .ok (.iaload, 1) := by decide +kernel
theorem dL_law_176 : decode cL_law 176 = .ok (.aload_n 0, 1) := by decide +kernel
theorem dL_law_177 : decode cL_law 177 = .ok (.iload_n 3, 1) := by decide +kernel
theorem dL_law_178 : decode cL_law 178 = .ok (.iconst 2, 1) := by decide +kernel
theorem dL_law_179 : decode cL_law 179 = .ok (.iadd, 1) := by decide +kernel
theorem dL_law_180 : decode cL_law 180 = .ok (.iaload, 1) := by decide +kernel
theorem dL_law_181 : decode cL_law 181 = .ok (.aload_n 0, 1) := by decide +kernel
theorem dL_law_182 : decode cL_law 182 = .ok (.iload_n 3, 1) := by decide +kernel
theorem dL_law_183 : decode cL_law 183 = .ok (.iconst 3, 1) := by decide +kernel
theorem dL_law_184 : decode cL_law 184 = .ok (.iadd, 1) := by decide +kernel
theorem dL_law_185 : decode cL_law 185 = .ok (.iaload, 1) := by decide +kernel
theorem dL_law_186 : decode cL_law 186 = .ok (.invokevirtual 23, 3) := by decide +kernel
theorem dL_law_189 : decode cL_law 189 = .ok (.aload_n 2, 1) := by decide +kernel
theorem dL_law_190 : decode cL_law 190 = .ok (.aload_n 0, 1) := by decide +kernel
theorem dL_law_191 : decode cL_law 191 = .ok (.iload_n 3, 1) := by decide +kernel
theorem dL_law_192 : decode cL_law 192 = .ok (.iconst 1, 1) := by decide +kernel
theorem dL_law_193 : decode cL_law 193 = .ok (.iadd, 1) := by decide +kernel
theorem dL_law_194 : decode cL_law 194 = .ok (.iaload, 1) := by decide +kernel
theorem dL_law_195 : decode cL_law 195 = .ok (.aload_n 0, 1) := by decide +kernel
theorem dL_law_196 : decode cL_law 196 = .ok (.iload_n 3, 1) := by decide +kernel
theorem dL_law_197 : decode cL_law 197 = .ok (.iconst 2, 1) := by decide +kernel
theorem dL_law_198 : decode cL_law 198 = .ok (.iadd, 1) := by decide +kernel
theorem dL_law_199 : decode cL_law 199 = .ok (.iaload, 1) := by decide +kernel
theorem dL_law_200 : decode cL_law 200 = .ok (.aload_n 0, 1) := by decide +kernel
theorem dL_law_201 : decode cL_law 201 = .ok (.iload_n 3, 1) := by decide +kernel
theorem dL_law_202 : decode cL_law 202 = .ok (.iconst 3, 1) := by decide +kernel
theorem dL_law_203 : decode cL_law 203 = .ok (.iadd, 1) := by decide +kernel
theorem dL_law_204 : decode cL_law 204 = .ok (.iaload, 1) := by decide +kernel
theorem dL_law_205 : decode cL_law 205 = .ok (.invokevirtual 27, 3) := by decide +kernel
theorem dL_law_208 : decode cL_law 208 = .ok (.if_icmp .eq 537, 3) := by decide +kernel
theorem dL_law_211 : decode cL_law 211 = .ok (.iconst 0, 1) := by decide +kernel
theorem dL_law_212 : decode cL_law 212 = .ok (.ireturn, 1) := by decide +kernel
theorem dL_law_213 : decode cL_law 213 = .ok (.aload_n 1, 1) := by decide +kernel
theorem dL_law_214 : decode cL_law 214 = .ok (.aload_n 0, 1) := by decide +kernel
theorem dL_law_215 : decode cL_law 215 = .ok (.iload_n 3, 1) := by decide +kernel
theorem dL_law_216 : decode cL_law 216 = .ok (.iconst 1, 1) := by decide +kernel
theorem dL_law_217 : decode cL_law 217 = .ok (.iadd, 1) := by decide +kernel
theorem dL_law_218 : decode cL_law 218 = .ok (.iaload, 1) := by decide +kernel
theorem dL_law_219 : decode cL_law 219 = .ok (.aload_n 0, 1) := by decide +kernel
theorem dL_law_220 : decode cL_law 220 = .ok (.iload_n 3, 1) := by decide +kernel
theorem dL_law_221 : decode cL_law 221 = .ok (.iconst 2, 1) := by decide +kernel
theorem dL_law_222 : decode cL_law 222 = .ok (.iadd, 1) := by decide +kernel
theorem dL_law_223 : decode cL_law 223 = .ok (.iaload, 1) := by decide +kernel
theorem dL_law_224 : decode cL_law 224 = .ok (.invokevirtual 28, 3) := by decide +kernel
theorem dL_law_227 : decode cL_law 227 = .ok (.aload_n 2, 1) := by decide +kernel
theorem dL_law_228 : decode cL_law 228 = .ok (.aload_n 0, 1) := by decide +kernel
theorem dL_law_229 : decode cL_law 229 = .ok (.iload_n 3, 1) := by decide +kernel
theorem dL_law_230 : decode cL_law 230 = .ok (.iconst 1, 1) := by decide +kernel
theorem dL_law_231 : decode cL_law 231 = .ok (.iadd, 1) := by decide +kernel
theorem dL_law_232 : decode cL_law 232 = .ok (.iaload, 1) := by decide +kernel
theorem dL_law_233 : decode cL_law 233 = .ok (.aload_n 0, 1) := by decide +kernel
theorem dL_law_234 : decode cL_law 234 = .ok (.iload_n 3, 1) := by decide +kernel
theorem dL_law_235 : decode cL_law 235 = .ok (.iconst 2, 1) := by decide +kernel
theorem dL_law_236 : decode cL_law 236 = .ok (.iadd, 1) := by decide +kernel
theorem dL_law_237 : decode cL_law 237 = .ok (.iaload, 1) := by decide +kernel
theorem dL_law_238 : decode cL_law 238 = .ok (.invokevirtual 32, 3) := by decide +kernel
theorem dL_law_241 : decode cL_law 241 = .ok (.if_icmp .eq 504, 3) := by decide +kernel
theorem dL_law_244 : decode cL_law 244 = .ok (.iconst 0, 1) := by decide +kernel
theorem dL_law_245 : decode cL_law 245 = .ok (.ireturn, 1) := by decide +kernel
theorem dL_law_246 : decode cL_law 246 = .ok (.aload_n 1, 1) := by decide +kernel
theorem dL_law_247 : decode cL_law 247 = .ok (.aload_n 0, 1) := by decide +kernel
theorem dL_law_248 : decode cL_law 248 = .ok (.iload_n 3, 1) := by decide +kernel
theorem dL_law_249 : decode cL_law 249 = .ok (.iconst 1, 1) := by decide +kernel
theorem dL_law_250 : decode cL_law 250 = .ok (.iadd, 1) := by decide +kernel
theorem dL_law_251 : decode cL_law 251 = .ok (.iaload, 1) := by decide +kernel
theorem dL_law_252 : decode cL_law 252 = .ok (.aload_n 0, 1) := by decide +kernel
theorem dL_law_253 : decode cL_law 253 = .ok (.iload_n 3, 1) := by decide +kernel
theorem dL_law_254 : decode cL_law 254 = .ok (.iconst 2, 1) := by decide +kernel
theorem dL_law_255 : decode cL_law 255 = .ok (.iadd, 1) := by decide +kernel
theorem dL_law_256 : decode cL_law 256 = .ok (.iaload, 1) := by decide +kernel
theorem dL_law_257 : decode cL_law 257 = .ok (.aload_n 0, 1) := by decide +kernel
theorem dL_law_258 : decode cL_law 258 = .ok (.iload_n 3, 1) := by decide +kernel
theorem dL_law_259 : decode cL_law 259 = .ok (.iconst 3, 1) := by decide +kernel
theorem dL_law_260 : decode cL_law 260 = .ok (.iadd, 1) := by decide +kernel
theorem dL_law_261 : decode cL_law 261 = .ok (.iaload, 1) := by decide +kernel
theorem dL_law_262 : decode cL_law 262 = .ok (.aload_n 0, 1) := by decide +kernel
theorem dL_law_263 : decode cL_law 263 = .ok (.iload_n 3, 1) := by decide +kernel
theorem dL_law_264 : decode cL_law 264 = .ok (.iconst 4, 1) := by decide +kernel
theorem dL_law_265 : decode cL_law 265 = .ok (.iadd, 1) := by decide +kernel
theorem dL_law_266 : decode cL_law 266 = .ok (.iaload, 1) := by decide +kernel
theorem dL_law_267 : decode cL_law 267 = .ok (.invokevirtual 33, 3) := by decide +kernel
theorem dL_law_270 : decode cL_law 270 = .ok (.aload_n 2, 1) := by decide +kernel
theorem dL_law_271 : decode cL_law 271 = .ok (.aload_n 0, 1) := by decide +kernel
theorem dL_law_272 : decode cL_law 272 = .ok (.iload_n 3, 1) := by decide +kernel
theorem dL_law_273 : decode cL_law 273 = .ok (.iconst 1, 1) := by decide +kernel
theorem dL_law_274 : decode cL_law 274 = .ok (.iadd, 1) := by decide +kernel
theorem dL_law_275 : decode cL_law 275 = .ok (.iaload, 1) := by decide +kernel
theorem dL_law_276 : decode cL_law 276 = .ok (.aload_n 0, 1) := by decide +kernel
theorem dL_law_277 : decode cL_law 277 = .ok (.iload_n 3, 1) := by decide +kernel
theorem dL_law_278 : decode cL_law 278 = .ok (.iconst 2, 1) := by decide +kernel
theorem dL_law_279 : decode cL_law 279 = .ok (.iadd, 1) := by decide +kernel
theorem dL_law_280 : decode cL_law 280 = .ok (.iaload, 1) := by decide +kernel
theorem dL_law_281 : decode cL_law 281 = .ok (.aload_n 0, 1) := by decide +kernel
theorem dL_law_282 : decode cL_law 282 = .ok (.iload_n 3, 1) := by decide +kernel
theorem dL_law_283 : decode cL_law 283 = .ok (.iconst 3, 1) := by decide +kernel
theorem dL_law_284 : decode cL_law 284 = .ok (.iadd, 1) := by decide +kernel
theorem dL_law_285 : decode cL_law 285 = .ok (.iaload, 1) := by decide +kernel
theorem dL_law_286 : decode cL_law 286 = .ok (.aload_n 0, 1) := by decide +kernel
theorem dL_law_287 : decode cL_law 287 = .ok (.iload_n 3, 1) := by decide +kernel
theorem dL_law_288 : decode cL_law 288 = .ok (.iconst 4, 1) := by decide +kernel
theorem dL_law_289 : decode cL_law 289 = .ok (.iadd, 1) := by decide +kernel
theorem dL_law_290 : decode cL_law 290 = .ok (.iaload, 1) := by decide +kernel
theorem dL_law_291 : decode cL_law 291 = .ok (.invokevirtual 37, 3) := by decide +kernel
theorem dL_law_294 : decode cL_law 294 = .ok (.if_icmp .eq 451, 3) := by decide +kernel
theorem dL_law_297 : decode cL_law 297 = .ok (.iconst 0, 1) := by decide +kernel
theorem dL_law_298 : decode cL_law 298 = .ok (.ireturn, 1) := by decide +kernel
theorem dL_law_299 : decode cL_law 299 = .ok (.aload_n 1, 1) := by decide +kernel
theorem dL_law_300 : decode cL_law 300 = .ok (.aload_n 0, 1) := by decide +kernel
theorem dL_law_301 : decode cL_law 301 = .ok (.iload_n 3, 1) := by decide +kernel
theorem dL_law_302 : decode cL_law 302 = .ok (.iconst 1, 1) := by decide +kernel
theorem dL_law_303 : decode cL_law 303 = .ok (.iadd, 1) := by decide +kernel
theorem dL_law_304 : decode cL_law 304 = .ok (.iaload, 1) := by decide +kernel
theorem dL_law_305 : decode cL_law 305 = .ok (.aload_n 0, 1) := by decide +kernel
theorem dL_law_306 : decode cL_law 306 = .ok (.iload_n 3, 1) := by decide +kernel
theorem dL_law_307 : decode cL_law 307 = .ok (.iconst 2, 1) := by decide +kernel
theorem dL_law_308 : decode cL_law 308 = .ok (.iadd, 1) := by decide +kernel
theorem dL_law_309 : decode cL_law 309 = .ok (.iaload, 1) := by decide +kernel
theorem dL_law_310 : decode cL_law 310 = .ok (.aload_n 0, 1) := by decide +kernel
theorem dL_law_311 : decode cL_law 311 = .ok (.iload_n 3, 1) := by decide +kernel
theorem dL_law_312 : decode cL_law 312 = .ok (.iconst 3, 1) := by decide +kernel
theorem dL_law_313 : decode cL_law 313 = .ok (.iadd, 1) := by decide +kernel
theorem dL_law_314 : decode cL_law 314 = .ok (.iaload, 1) := by decide +kernel
theorem dL_law_315 : decode cL_law 315 = .ok (.aload_n 0, 1) := by decide +kernel
theorem dL_law_316 : decode cL_law 316 = .ok (.iload_n 3, 1) := by decide +kernel
theorem dL_law_317 : decode cL_law 317 = .ok (.iconst 4, 1) := by decide +kernel
theorem dL_law_318 : decode cL_law 318 = .ok (.iadd, 1) := by decide +kernel
theorem dL_law_319 : decode cL_law 319 = .ok (.iaload, 1) := by decide +kernel
theorem dL_law_320 : decode cL_law 320 = .ok (.invokevirtual 38, 3) := by decide +kernel
theorem dL_law_323 : decode cL_law 323 = .ok (.aload_n 2, 1) := by decide +kernel
theorem dL_law_324 : decode cL_law 324 = .ok (.aload_n 0, 1) := by decide +kernel
theorem dL_law_325 : decode cL_law 325 = .ok (.iload_n 3, 1) := by decide +kernel
theorem dL_law_326 : decode cL_law 326 = .ok (.iconst 1, 1) := by decide +kernel
theorem dL_law_327 : decode cL_law 327 = .ok (.iadd, 1) := by decide +kernel
theorem dL_law_328 : decode cL_law 328 = .ok (.iaload, 1) := by decide +kernel
theorem dL_law_329 : decode cL_law 329 = .ok (.aload_n 0, 1) := by decide +kernel
theorem dL_law_330 : decode cL_law 330 = .ok (.iload_n 3, 1) := by decide +kernel
theorem dL_law_331 : decode cL_law 331 = .ok (.iconst 2, 1) := by decide +kernel
theorem dL_law_332 : decode cL_law 332 = .ok (.iadd, 1) := by decide +kernel
theorem dL_law_333 : decode cL_law 333 = .ok (.iaload, 1) := by decide +kernel
theorem dL_law_334 : decode cL_law 334 = .ok (.aload_n 0, 1) := by decide +kernel
theorem dL_law_335 : decode cL_law 335 = .ok (.iload_n 3, 1) := by decide +kernel
theorem dL_law_336 : decode cL_law 336 = .ok (.iconst 3, 1) := by decide +kernel
theorem dL_law_337 : decode cL_law 337 = .ok (.iadd, 1) := by decide +kernel
theorem dL_law_338 : decode cL_law 338 = .ok (.iaload, 1) := by decide +kernel
theorem dL_law_339 : decode cL_law 339 = .ok (.aload_n 0, 1) := by decide +kernel
theorem dL_law_340 : decode cL_law 340 = .ok (.iload_n 3, 1) := by decide +kernel
theorem dL_law_341 : decode cL_law 341 = .ok (.iconst 4, 1) := by decide +kernel
theorem dL_law_342 : decode cL_law 342 = .ok (.iadd, 1) := by decide +kernel
theorem dL_law_343 : decode cL_law 343 = .ok (.iaload, 1) := by decide +kernel
theorem dL_law_344 : decode cL_law 344 = .ok (.invokevirtual 41, 3) := by decide +kernel
theorem dL_law_347 : decode cL_law 347 = .ok (.if_icmp .eq 398, 3) := by decide +kernel
theorem dL_law_350 : decode cL_law 350 = .ok (.iconst 0, 1) := by decide +kernel
theorem dL_law_351 : decode cL_law 351 = .ok (.ireturn, 1) := by decide +kernel
theorem dL_law_352 : decode cL_law 352 = .ok (.aload_n 1, 1) := by decide +kernel
theorem dL_law_353 : decode cL_law 353 = .ok (.aload_n 0, 1) := by decide +kernel
theorem dL_law_354 : decode cL_law 354 = .ok (.iload_n 3, 1) := by decide +kernel
theorem dL_law_355 : decode cL_law 355 = .ok (.iconst 1, 1) := by decide +kernel
theorem dL_law_356 : decode cL_law 356 = .ok (.iadd, 1) := by decide +kernel
theorem dL_law_357 : decode cL_law 357 = .ok (.iaload, 1) := by decide +kernel
theorem dL_law_358 : decode cL_law 358 = .ok (.aload_n 0, 1) := by decide +kernel
theorem dL_law_359 : decode cL_law 359 = .ok (.iload_n 3, 1) := by decide +kernel
theorem dL_law_360 : decode cL_law 360 = .ok (.iconst 2, 1) := by decide +kernel
theorem dL_law_361 : decode cL_law 361 = .ok (.iadd, 1) := by decide +kernel
theorem dL_law_362 : decode cL_law 362 = .ok (.iaload, 1) := by decide +kernel
theorem dL_law_363 : decode cL_law 363 = .ok (.aload_n 0, 1) := by decide +kernel
theorem dL_law_364 : decode cL_law 364 = .ok (.iload_n 3, 1) := by decide +kernel
theorem dL_law_365 : decode cL_law 365 = .ok (.iconst 3, 1) := by decide +kernel
theorem dL_law_366 : decode cL_law 366 = .ok (.iadd, 1) := by decide +kernel
theorem dL_law_367 : decode cL_law 367 = .ok (.iaload, 1) := by decide +kernel
theorem dL_law_368 : decode cL_law 368 = .ok (.invokevirtual 42, 3) := by decide +kernel
theorem dL_law_371 : decode cL_law 371 = .ok (.aload_n 2, 1) := by decide +kernel
theorem dL_law_372 : decode cL_law 372 = .ok (.aload_n 0, 1) := by decide +kernel
theorem dL_law_373 : decode cL_law 373 = .ok (.iload_n 3, 1) := by decide +kernel
theorem dL_law_374 : decode cL_law 374 = .ok (.iconst 1, 1) := by decide +kernel
theorem dL_law_375 : decode cL_law 375 = .ok (.iadd, 1) := by decide +kernel
theorem dL_law_376 : decode cL_law 376 = .ok (.iaload, 1) := by decide +kernel
theorem dL_law_377 : decode cL_law 377 = .ok (.aload_n 0, 1) := by decide +kernel
theorem dL_law_378 : decode cL_law 378 = .ok (.iload_n 3, 1) := by decide +kernel
theorem dL_law_379 : decode cL_law 379 = .ok (.iconst 2, 1) := by decide +kernel
theorem dL_law_380 : decode cL_law 380 = .ok (.iadd, 1) := by decide +kernel
theorem dL_law_381 : decode cL_law 381 = .ok (.iaload, 1) := by decide +kernel
theorem dL_law_382 : decode cL_law 382 = .ok (.aload_n 0, 1) := by decide +kernel
theorem dL_law_383 : decode cL_law 383 = .ok (.iload_n 3, 1) := by decide +kernel
theorem dL_law_384 : decode cL_law 384 = .ok (.iconst 3, 1) := by decide +kernel
theorem dL_law_385 : decode cL_law 385 = .ok (.iadd, 1) := by decide +kernel
theorem dL_law_386 : decode cL_law 386 = .ok (.iaload, 1) := by decide +kernel
theorem dL_law_387 : decode cL_law 387 = .ok (.invokevirtual 46, 3) := by decide +kernel
theorem dL_law_390 : decode cL_law 390 = .ok (.if_icmp .eq 355, 3) := by decide +kernel
theorem dL_law_393 : decode cL_law 393 = .ok (.iconst 0, 1) := by decide +kernel
theorem dL_law_394 : decode cL_law 394 = .ok (.ireturn, 1) := by decide +kernel
theorem dL_law_395 : decode cL_law 395 = .ok (.aload_n 1, 1) := by decide +kernel
theorem dL_law_396 : decode cL_law 396 = .ok (.aload_n 0, 1) := by decide +kernel
theorem dL_law_397 : decode cL_law 397 = .ok (.iload_n 3, 1) := by decide +kernel
theorem dL_law_398 : decode cL_law 398 = .ok (.iconst 1, 1) := by decide +kernel
theorem dL_law_399 : decode cL_law 399 = .ok (.iadd, 1) := by decide +kernel
theorem dL_law_400 : decode cL_law 400 = .ok (.iaload, 1) := by decide +kernel
theorem dL_law_401 : decode cL_law 401 = .ok (.invokevirtual 47, 3) := by decide +kernel
theorem dL_law_404 : decode cL_law 404 = .ok (.aload_n 2, 1) := by decide +kernel
theorem dL_law_405 : decode cL_law 405 = .ok (.aload_n 0, 1) := by decide +kernel
theorem dL_law_406 : decode cL_law 406 = .ok (.iload_n 3, 1) := by decide +kernel
theorem dL_law_407 : decode cL_law 407 = .ok (.iconst 1, 1) := by decide +kernel
theorem dL_law_408 : decode cL_law 408 = .ok (.iadd, 1) := by decide +kernel
theorem dL_law_409 : decode cL_law 409 = .ok (.iaload, 1) := by decide +kernel
theorem dL_law_410 : decode cL_law 410 = .ok (.invokevirtual 50, 3) := by decide +kernel
theorem dL_law_413 : decode cL_law 413 = .ok (.if_icmp .eq 332, 3) := by decide +kernel
theorem dL_law_416 : decode cL_law 416 = .ok (.iconst 0, 1) := by decide +kernel
theorem dL_law_417 : decode cL_law 417 = .ok (.ireturn, 1) := by decide +kernel
theorem dL_law_418 : decode cL_law 418 = .ok (.aload_n 1, 1) := by decide +kernel
theorem dL_law_419 : decode cL_law 419 = .ok (.aload_n 0, 1) := by decide +kernel
theorem dL_law_420 : decode cL_law 420 = .ok (.iload_n 3, 1) := by decide +kernel
theorem dL_law_421 : decode cL_law 421 = .ok (.iconst 1, 1) := by decide +kernel
theorem dL_law_422 : decode cL_law 422 = .ok (.iadd, 1) := by decide +kernel
theorem dL_law_423 : decode cL_law 423 = .ok (.iaload, 1) := by decide +kernel
theorem dL_law_424 : decode cL_law 424 = .ok (.aload_n 0, 1) := by decide +kernel
theorem dL_law_425 : decode cL_law 425 = .ok (.iload_n 3, 1) := by decide +kernel
theorem dL_law_426 : decode cL_law 426 = .ok (.iconst 2, 1) := by decide +kernel
theorem dL_law_427 : decode cL_law 427 = .ok (.iadd, 1) := by decide +kernel
theorem dL_law_428 : decode cL_law 428 = .ok (.iaload, 1) := by decide +kernel
theorem dL_law_429 : decode cL_law 429 = .ok (.aload_n 0, 1) := by decide +kernel
theorem dL_law_430 : decode cL_law 430 = .ok (.iload_n 3, 1) := by decide +kernel
theorem dL_law_431 : decode cL_law 431 = .ok (.iconst 3, 1) := by decide +kernel
theorem dL_law_432 : decode cL_law 432 = .ok (.iadd, 1) := by decide +kernel
theorem dL_law_433 : decode cL_law 433 = .ok (.iaload, 1) := by decide +kernel
theorem dL_law_434 : decode cL_law 434 = .ok (.invokevirtual 51, 3) := by decide +kernel
theorem dL_law_437 : decode cL_law 437 = .ok (.aload_n 2, 1) := by decide +kernel
theorem dL_law_438 : decode cL_law 438 = .ok (.aload_n 0, 1) := by decide +kernel
theorem dL_law_439 : decode cL_law 439 = .ok (.iload_n 3, 1) := by decide +kernel
theorem dL_law_440 : decode cL_law 440 = .ok (.iconst 1, 1) := by decide +kernel
theorem dL_law_441 : decode cL_law 441 = .ok (.iadd, 1) := by decide +kernel
theorem dL_law_442 : decode cL_law 442 = .ok (.iaload, 1) := by decide +kernel
theorem dL_law_443 : decode cL_law 443 = .ok (.aload_n 0, 1) := by decide +kernel
theorem dL_law_444 : decode cL_law 444 = .ok (.iload_n 3, 1) := by decide +kernel
theorem dL_law_445 : decode cL_law 445 = .ok (.iconst 2, 1) := by decide +kernel
theorem dL_law_446 : decode cL_law 446 = .ok (.iadd, 1) := by decide +kernel
theorem dL_law_447 : decode cL_law 447 = .ok (.iaload, 1) := by decide +kernel
theorem dL_law_448 : decode cL_law 448 = .ok (.aload_n 0, 1) := by decide +kernel
theorem dL_law_449 : decode cL_law 449 = .ok (.iload_n 3, 1) := by decide +kernel
theorem dL_law_450 : decode cL_law 450 = .ok (.iconst 3, 1) := by decide +kernel
theorem dL_law_451 : decode cL_law 451 = .ok (.iadd, 1) := by decide +kernel
theorem dL_law_452 : decode cL_law 452 = .ok (.iaload, 1) := by decide +kernel
theorem dL_law_453 : decode cL_law 453 = .ok (.invokevirtual 54, 3) := by decide +kernel
theorem dL_law_456 : decode cL_law 456 = .ok (.if_icmp .eq 289, 3) := by decide +kernel
theorem dL_law_459 : decode cL_law 459 = .ok (.iconst 0, 1) := by decide +kernel
theorem dL_law_460 : decode cL_law 460 = .ok (.ireturn, 1) := by decide +kernel
theorem dL_law_461 : decode cL_law 461 = .ok (.aload_n 1, 1) := by decide +kernel
theorem dL_law_462 : decode cL_law 462 = .ok (.aload_n 0, 1) := by decide +kernel
theorem dL_law_463 : decode cL_law 463 = .ok (.iload_n 3, 1) := by decide +kernel
theorem dL_law_464 : decode cL_law 464 = .ok (.iconst 1, 1) := by decide +kernel
theorem dL_law_465 : decode cL_law 465 = .ok (.iadd, 1) := by decide +kernel
theorem dL_law_466 : decode cL_law 466 = .ok (.iaload, 1) := by decide +kernel
theorem dL_law_467 : decode cL_law 467 = .ok (.invokevirtual 55, 3) := by decide +kernel
theorem dL_law_470 : decode cL_law 470 = .ok (.aload_n 2, 1) := by decide +kernel
theorem dL_law_471 : decode cL_law 471 = .ok (.aload_n 0, 1) := by decide +kernel
theorem dL_law_472 : decode cL_law 472 = .ok (.iload_n 3, 1) := by decide +kernel
theorem dL_law_473 : decode cL_law 473 = .ok (.iconst 1, 1) := by decide +kernel
theorem dL_law_474 : decode cL_law 474 = .ok (.iadd, 1) := by decide +kernel
theorem dL_law_475 : decode cL_law 475 = .ok (.iaload, 1) := by decide +kernel
theorem dL_law_476 : decode cL_law 476 = .ok (.invokevirtual 59, 3) := by decide +kernel
theorem dL_law_479 : decode cL_law 479 = .ok (.lcmp, 1) := by decide +kernel
theorem dL_law_480 : decode cL_law 480 = .ok (.ifCond .eq 265, 3) := by decide +kernel
theorem dL_law_483 : decode cL_law 483 = .ok (.iconst 0, 1) := by decide +kernel
theorem dL_law_484 : decode cL_law 484 = .ok (.ireturn, 1) := by decide +kernel
theorem dL_law_485 : decode cL_law 485 = .ok (.aload_n 1, 1) := by decide +kernel
theorem dL_law_486 : decode cL_law 486 = .ok (.aload_n 0, 1) := by decide +kernel
theorem dL_law_487 : decode cL_law 487 = .ok (.iload_n 3, 1) := by decide +kernel
theorem dL_law_488 : decode cL_law 488 = .ok (.iconst 1, 1) := by decide +kernel
theorem dL_law_489 : decode cL_law 489 = .ok (.iadd, 1) := by decide +kernel
theorem dL_law_490 : decode cL_law 490 = .ok (.iaload, 1) := by decide +kernel
theorem dL_law_491 : decode cL_law 491 = .ok (.invokevirtual 60, 3) := by decide +kernel
theorem dL_law_494 : decode cL_law 494 = .ok (.aload_n 2, 1) := by decide +kernel
theorem dL_law_495 : decode cL_law 495 = .ok (.aload_n 0, 1) := by decide +kernel
theorem dL_law_496 : decode cL_law 496 = .ok (.iload_n 3, 1) := by decide +kernel
theorem dL_law_497 : decode cL_law 497 = .ok (.iconst 1, 1) := by decide +kernel
theorem dL_law_498 : decode cL_law 498 = .ok (.iadd, 1) := by decide +kernel
theorem dL_law_499 : decode cL_law 499 = .ok (.iaload, 1) := by decide +kernel
theorem dL_law_500 : decode cL_law 500 = .ok (.invokevirtual 63, 3) := by decide +kernel
theorem dL_law_503 : decode cL_law 503 = .ok (.lcmp, 1) := by decide +kernel
theorem dL_law_504 : decode cL_law 504 = .ok (.ifCond .eq 241, 3) := by decide +kernel
theorem dL_law_507 : decode cL_law 507 = .ok (.iconst 0, 1) := by decide +kernel
theorem dL_law_508 : decode cL_law 508 = .ok (.ireturn, 1) := by decide +kernel
theorem dL_law_509 : decode cL_law 509 = .ok (.aload_n 1, 1) := by decide +kernel
theorem dL_law_510 : decode cL_law 510 = .ok (.aload_n 0, 1) := by decide +kernel
theorem dL_law_511 : decode cL_law 511 = .ok (.iload_n 3, 1) := by decide +kernel
theorem dL_law_512 : decode cL_law 512 = .ok (.iconst 1, 1) := by decide +kernel
theorem dL_law_513 : decode cL_law 513 = .ok (.iadd, 1) := by decide +kernel
theorem dL_law_514 : decode cL_law 514 = .ok (.iaload, 1) := by decide +kernel
theorem dL_law_515 : decode cL_law 515 = .ok (.aload_n 0, 1) := by decide +kernel
theorem dL_law_516 : decode cL_law 516 = .ok (.iload_n 3, 1) := by decide +kernel
theorem dL_law_517 : decode cL_law 517 = .ok (.iconst 2, 1) := by decide +kernel
theorem dL_law_518 : decode cL_law 518 = .ok (.iadd, 1) := by decide +kernel
theorem dL_law_519 : decode cL_law 519 = .ok (.iaload, 1) := by decide +kernel
theorem dL_law_520 : decode cL_law 520 = .ok (.invokevirtual 64, 3) := by decide +kernel
theorem dL_law_523 : decode cL_law 523 = .ok (.aload_n 2, 1) := by decide +kernel
theorem dL_law_524 : decode cL_law 524 = .ok (.aload_n 0, 1) := by decide +kernel
theorem dL_law_525 : decode cL_law 525 = .ok (.iload_n 3, 1) := by decide +kernel
theorem dL_law_526 : decode cL_law 526 = .ok (.iconst 1, 1) := by decide +kernel
theorem dL_law_527 : decode cL_law 527 = .ok (.iadd, 1) := by decide +kernel
theorem dL_law_528 : decode cL_law 528 = .ok (.iaload, 1) := by decide +kernel
theorem dL_law_529 : decode cL_law 529 = .ok (.aload_n 0, 1) := by decide +kernel
theorem dL_law_530 : decode cL_law 530 = .ok (.iload_n 3, 1) := by decide +kernel
theorem dL_law_531 : decode cL_law 531 = .ok (.iconst 2, 1) := by decide +kernel
theorem dL_law_532 : decode cL_law 532 = .ok (.iadd, 1) := by decide +kernel
theorem dL_law_533 : decode cL_law 533 = .ok (.iaload, 1) := by decide +kernel
theorem dL_law_534 : decode cL_law 534 = .ok (.invokevirtual 68, 3) := by decide +kernel
theorem dL_law_537 : decode cL_law 537 = .ok (.if_icmp .eq 208, 3) := by decide +kernel
theorem dL_law_540 : decode cL_law 540 = .ok (.iconst 0, 1) := by decide +kernel
theorem dL_law_541 : decode cL_law 541 = .ok (.ireturn, 1) := by decide +kernel
theorem dL_law_542 : decode cL_law 542 = .ok (.aload_n 1, 1) := by decide +kernel
theorem dL_law_543 : decode cL_law 543 = .ok (.aload_n 0, 1) := by decide +kernel
theorem dL_law_544 : decode cL_law 544 = .ok (.iload_n 3, 1) := by decide +kernel
theorem dL_law_545 : decode cL_law 545 = .ok (.iconst 1, 1) := by decide +kernel
theorem dL_law_546 : decode cL_law 546 = .ok (.iadd, 1) := by decide +kernel
theorem dL_law_547 : decode cL_law 547 = .ok (.iaload, 1) := by decide +kernel
theorem dL_law_548 : decode cL_law 548 = .ok (.aload_n 0, 1) := by decide +kernel
theorem dL_law_549 : decode cL_law 549 = .ok (.iload_n 3, 1) := by decide +kernel
theorem dL_law_550 : decode cL_law 550 = .ok (.iconst 2, 1) := by decide +kernel
theorem dL_law_551 : decode cL_law 551 = .ok (.iadd, 1) := by decide +kernel
theorem dL_law_552 : decode cL_law 552 = .ok (.iaload, 1) := by decide +kernel
theorem dL_law_553 : decode cL_law 553 = .ok (.aload_n 0, 1) := by decide +kernel
theorem dL_law_554 : decode cL_law 554 = .ok (.iload_n 3, 1) := by decide +kernel
theorem dL_law_555 : decode cL_law 555 = .ok (.iconst 3, 1) := by decide +kernel
theorem dL_law_556 : decode cL_law 556 = .ok (.iadd, 1) := by decide +kernel
theorem dL_law_557 : decode cL_law 557 = .ok (.iaload, 1) := by decide +kernel
theorem dL_law_558 : decode cL_law 558 = .ok (.invokevirtual 69, 3) := by decide +kernel
theorem dL_law_561 : decode cL_law 561 = .ok (.aload_n 2, 1) := by decide +kernel
theorem dL_law_562 : decode cL_law 562 = .ok (.aload_n 0, 1) := by decide +kernel
theorem dL_law_563 : decode cL_law 563 = .ok (.iload_n 3, 1) := by decide +kernel
theorem dL_law_564 : decode cL_law 564 = .ok (.iconst 1, 1) := by decide +kernel
theorem dL_law_565 : decode cL_law 565 = .ok (.iadd, 1) := by decide +kernel
theorem dL_law_566 : decode cL_law 566 = .ok (.iaload, 1) := by decide +kernel
theorem dL_law_567 : decode cL_law 567 = .ok (.aload_n 0, 1) := by decide +kernel
theorem dL_law_568 : decode cL_law 568 = .ok (.iload_n 3, 1) := by decide +kernel
theorem dL_law_569 : decode cL_law 569 = .ok (.iconst 2, 1) := by decide +kernel
theorem dL_law_570 : decode cL_law 570 = .ok (.iadd, 1) := by decide +kernel
theorem dL_law_571 : decode cL_law 571 = .ok (.iaload, 1) := by decide +kernel
theorem dL_law_572 : decode cL_law 572 = .ok (.aload_n 0, 1) := by decide +kernel
theorem dL_law_573 : decode cL_law 573 = .ok (.iload_n 3, 1) := by decide +kernel
theorem dL_law_574 : decode cL_law 574 = .ok (.iconst 3, 1) := by decide +kernel
theorem dL_law_575 : decode cL_law 575 = .ok (.iadd, 1) := by decide +kernel
theorem dL_law_576 : decode cL_law 576 = .ok (.iaload, 1) := by decide +kernel
theorem dL_law_577 : decode cL_law 577 = .ok (.invokevirtual 72, 3) := by decide +kernel
theorem dL_law_580 : decode cL_law 580 = .ok (.if_icmp .eq 165, 3) := by decide +kernel
theorem dL_law_583 : decode cL_law 583 = .ok (.iconst 0, 1) := by decide +kernel
theorem dL_law_584 : decode cL_law 584 = .ok (.ireturn, 1) := by decide +kernel
theorem dL_law_585 : decode cL_law 585 = .ok (.aload_n 1, 1) := by decide +kernel
theorem dL_law_586 : decode cL_law 586 = .ok (.aload_n 0, 1) := by decide +kernel
theorem dL_law_587 : decode cL_law 587 = .ok (.iload_n 3, 1) := by decide +kernel
theorem dL_law_588 : decode cL_law 588 = .ok (.iconst 1, 1) := by decide +kernel
theorem dL_law_589 : decode cL_law 589 = .ok (.iadd, 1) := by decide +kernel
theorem dL_law_590 : decode cL_law 590 = .ok (.iaload, 1) := by decide +kernel
theorem dL_law_591 : decode cL_law 591 = .ok (.invokevirtual 73, 3) := by decide +kernel
theorem dL_law_594 : decode cL_law 594 = .ok (.aload_n 2, 1) := by decide +kernel
theorem dL_law_595 : decode cL_law 595 = .ok (.aload_n 0, 1) := by decide +kernel
theorem dL_law_596 : decode cL_law 596 = .ok (.iload_n 3, 1) := by decide +kernel
theorem dL_law_597 : decode cL_law 597 = .ok (.iconst 1, 1) := by decide +kernel
theorem dL_law_598 : decode cL_law 598 = .ok (.iadd, 1) := by decide +kernel
theorem dL_law_599 : decode cL_law 599 = .ok (.iaload, 1) := by decide +kernel
theorem dL_law_600 : decode cL_law 600 = .ok (.invokevirtual 76, 3) := by decide +kernel
theorem dL_law_603 : decode cL_law 603 = .ok (.lcmp, 1) := by decide +kernel
theorem dL_law_604 : decode cL_law 604 = .ok (.ifCond .eq 141, 3) := by decide +kernel
theorem dL_law_607 : decode cL_law 607 = .ok (.iconst 0, 1) := by decide +kernel
theorem dL_law_608 : decode cL_law 608 = .ok (.ireturn, 1) := by decide +kernel
theorem dL_law_609 : decode cL_law 609 = .ok (.aload_n 1, 1) := by decide +kernel
theorem dL_law_610 : decode cL_law 610 = .ok (.aload_n 0, 1) := by decide +kernel
theorem dL_law_611 : decode cL_law 611 = .ok (.iload_n 3, 1) := by decide +kernel
theorem dL_law_612 : decode cL_law 612 = .ok (.iconst 1, 1) := by decide +kernel
theorem dL_law_613 : decode cL_law 613 = .ok (.iadd, 1) := by decide +kernel
theorem dL_law_614 : decode cL_law 614 = .ok (.iaload, 1) := by decide +kernel
theorem dL_law_615 : decode cL_law 615 = .ok (.aload_n 0, 1) := by decide +kernel
theorem dL_law_616 : decode cL_law 616 = .ok (.iload_n 3, 1) := by decide +kernel
theorem dL_law_617 : decode cL_law 617 = .ok (.iconst 2, 1) := by decide +kernel
theorem dL_law_618 : decode cL_law 618 = .ok (.iadd, 1) := by decide +kernel
theorem dL_law_619 : decode cL_law 619 = .ok (.iaload, 1) := by decide +kernel
theorem dL_law_620 : decode cL_law 620 = .ok (.invokevirtual 77, 3) := by decide +kernel
theorem dL_law_623 : decode cL_law 623 = .ok (.aload_n 2, 1) := by decide +kernel
theorem dL_law_624 : decode cL_law 624 = .ok (.aload_n 0, 1) := by decide +kernel
theorem dL_law_625 : decode cL_law 625 = .ok (.iload_n 3, 1) := by decide +kernel
theorem dL_law_626 : decode cL_law 626 = .ok (.iconst 1, 1) := by decide +kernel
theorem dL_law_627 : decode cL_law 627 = .ok (.iadd, 1) := by decide +kernel
theorem dL_law_628 : decode cL_law 628 = .ok (.iaload, 1) := by decide +kernel
theorem dL_law_629 : decode cL_law 629 = .ok (.aload_n 0, 1) := by decide +kernel
theorem dL_law_630 : decode cL_law 630 = .ok (.iload_n 3, 1) := by decide +kernel
theorem dL_law_631 : decode cL_law 631 = .ok (.iconst 2, 1) := by decide +kernel
theorem dL_law_632 : decode cL_law 632 = .ok (.iadd, 1) := by decide +kernel
theorem dL_law_633 : decode cL_law 633 = .ok (.iaload, 1) := by decide +kernel
theorem dL_law_634 : decode cL_law 634 = .ok (.invokevirtual 81, 3) := by decide +kernel
theorem dL_law_637 : decode cL_law 637 = .ok (.lcmp, 1) := by decide +kernel
theorem dL_law_638 : decode cL_law 638 = .ok (.ifCond .eq 107, 3) := by decide +kernel
theorem dL_law_641 : decode cL_law 641 = .ok (.iconst 0, 1) := by decide +kernel
theorem dL_law_642 : decode cL_law 642 = .ok (.ireturn, 1) := by decide +kernel
theorem dL_law_643 : decode cL_law 643 = .ok (.aload_n 1, 1) := by decide +kernel
theorem dL_law_644 : decode cL_law 644 = .ok (.aload_n 0, 1) := by decide +kernel
theorem dL_law_645 : decode cL_law 645 = .ok (.iload_n 3, 1) := by decide +kernel
theorem dL_law_646 : decode cL_law 646 = .ok (.iconst 1, 1) := by decide +kernel
theorem dL_law_647 : decode cL_law 647 = .ok (.iadd, 1) := by decide +kernel
theorem dL_law_648 : decode cL_law 648 = .ok (.iaload, 1) := by decide +kernel
theorem dL_law_649 : decode cL_law 649 = .ok (.aload_n 0, 1) := by decide +kernel
theorem dL_law_650 : decode cL_law 650 = .ok (.iload_n 3, 1) := by decide +kernel
theorem dL_law_651 : decode cL_law 651 = .ok (.iconst 2, 1) := by decide +kernel
theorem dL_law_652 : decode cL_law 652 = .ok (.iadd, 1) := by decide +kernel
theorem dL_law_653 : decode cL_law 653 = .ok (.iaload, 1) := by decide +kernel
theorem dL_law_654 : decode cL_law 654 = .ok (.invokevirtual 82, 3) := by decide +kernel
theorem dL_law_657 : decode cL_law 657 = .ok (.aload_n 2, 1) := by decide +kernel
theorem dL_law_658 : decode cL_law 658 = .ok (.aload_n 0, 1) := by decide +kernel
theorem dL_law_659 : decode cL_law 659 = .ok (.iload_n 3, 1) := by decide +kernel
theorem dL_law_660 : decode cL_law 660 = .ok (.iconst 1, 1) := by decide +kernel
theorem dL_law_661 : decode cL_law 661 = .ok (.iadd, 1) := by decide +kernel
theorem dL_law_662 : decode cL_law 662 = .ok (.iaload, 1) := by decide +kernel
theorem dL_law_663 : decode cL_law 663 = .ok (.aload_n 0, 1) := by decide +kernel
theorem dL_law_664 : decode cL_law 664 = .ok (.iload_n 3, 1) := by decide +kernel
theorem dL_law_665 : decode cL_law 665 = .ok (.iconst 2, 1) := by decide +kernel
theorem dL_law_666 : decode cL_law 666 = .ok (.iadd, 1) := by decide +kernel
theorem dL_law_667 : decode cL_law 667 = .ok (.iaload, 1) := by decide +kernel
theorem dL_law_668 : decode cL_law 668 = .ok (.invokevirtual 85, 3) := by decide +kernel
theorem dL_law_671 : decode cL_law 671 = .ok (.if_icmp .eq 74, 3) := by decide +kernel
theorem dL_law_674 : decode cL_law 674 = .ok (.iconst 0, 1) := by decide +kernel
theorem dL_law_675 : decode cL_law 675 = .ok (.ireturn, 1) := by decide +kernel
theorem dL_law_676 : decode cL_law 676 = .ok (.aload_n 1, 1) := by decide +kernel
theorem dL_law_677 : decode cL_law 677 = .ok (.aload_n 0, 1) := by decide +kernel
theorem dL_law_678 : decode cL_law 678 = .ok (.iload_n 3, 1) := by decide +kernel
theorem dL_law_679 : decode cL_law 679 = .ok (.iconst 1, 1) := by decide +kernel
theorem dL_law_680 : decode cL_law 680 = .ok (.iadd, 1) := by decide +kernel
theorem dL_law_681 : decode cL_law 681 = .ok (.iaload, 1) := by decide +kernel
theorem dL_law_682 : decode cL_law 682 = .ok (.invokevirtual 86, 3) := by decide +kernel
theorem dL_law_685 : decode cL_law 685 = .ok (.aload_n 2, 1) := by decide +kernel
theorem dL_law_686 : decode cL_law 686 = .ok (.aload_n 0, 1) := by decide +kernel
theorem dL_law_687 : decode cL_law 687 = .ok (.iload_n 3, 1) := by decide +kernel
theorem dL_law_688 : decode cL_law 688 = .ok (.iconst 1, 1) := by decide +kernel
theorem dL_law_689 : decode cL_law 689 = .ok (.iadd, 1) := by decide +kernel
theorem dL_law_690 : decode cL_law 690 = .ok (.iaload, 1) := by decide +kernel
theorem dL_law_691 : decode cL_law 691 = .ok (.invokevirtual 89, 3) := by decide +kernel
theorem dL_law_694 : decode cL_law 694 = .ok (.if_icmp .eq 51, 3) := by decide +kernel
theorem dL_law_697 : decode cL_law 697 = .ok (.iconst 0, 1) := by decide +kernel
theorem dL_law_698 : decode cL_law 698 = .ok (.ireturn, 1) := by decide +kernel
theorem dL_law_699 : decode cL_law 699 = .ok (.aload_n 1, 1) := by decide +kernel
theorem dL_law_700 : decode cL_law 700 = .ok (.aload_n 0, 1) := by decide +kernel
theorem dL_law_701 : decode cL_law 701 = .ok (.iload_n 3, 1) := by decide +kernel
theorem dL_law_702 : decode cL_law 702 = .ok (.iconst 1, 1) := by decide +kernel
theorem dL_law_703 : decode cL_law 703 = .ok (.iadd, 1) := by decide +kernel
theorem dL_law_704 : decode cL_law 704 = .ok (.iaload, 1) := by decide +kernel
theorem dL_law_705 : decode cL_law 705 = .ok (.invokevirtual 90, 3) := by decide +kernel
theorem dL_law_708 : decode cL_law 708 = .ok (.aload_n 2, 1) := by decide +kernel
theorem dL_law_709 : decode cL_law 709 = .ok (.aload_n 0, 1) := by decide +kernel
theorem dL_law_710 : decode cL_law 710 = .ok (.iload_n 3, 1) := by decide +kernel
theorem dL_law_711 : decode cL_law 711 = .ok (.iconst 1, 1) := by decide +kernel
theorem dL_law_712 : decode cL_law 712 = .ok (.iadd, 1) := by decide +kernel
theorem dL_law_713 : decode cL_law 713 = .ok (.iaload, 1) := by decide +kernel
theorem dL_law_714 : decode cL_law 714 = .ok (.invokevirtual 93, 3) := by decide +kernel
theorem dL_law_717 : decode cL_law 717 = .ok (.if_icmp .eq 28, 3) := by decide +kernel
theorem dL_law_720 : decode cL_law 720 = .ok (.iconst 0, 1) := by decide +kernel
theorem dL_law_721 : decode cL_law 721 = .ok (.ireturn, 1) := by decide +kernel
theorem dL_law_722 : decode cL_law 722 = .ok (.aload_n 1, 1) := by decide +kernel
theorem dL_law_723 : decode cL_law 723 = .ok (.aload_n 0, 1) := by decide +kernel
theorem dL_law_724 : decode cL_law 724 = .ok (.iload_n 3, 1) := by decide +kernel
theorem dL_law_725 : decode cL_law 725 = .ok (.iconst 1, 1) := by decide +kernel
theorem dL_law_726 : decode cL_law 726 = .ok (.iadd, 1) := by decide +kernel
theorem dL_law_727 : decode cL_law 727 = .ok (.iaload, 1) := by decide +kernel
theorem dL_law_728 : decode cL_law 728 = .ok (.invokevirtual 94, 3) := by decide +kernel
theorem dL_law_731 : decode cL_law 731 = .ok (.aload_n 2, 1) := by decide +kernel
theorem dL_law_732 : decode cL_law 732 = .ok (.aload_n 0, 1) := by decide +kernel
theorem dL_law_733 : decode cL_law 733 = .ok (.iload_n 3, 1) := by decide +kernel
theorem dL_law_734 : decode cL_law 734 = .ok (.iconst 1, 1) := by decide +kernel
theorem dL_law_735 : decode cL_law 735 = .ok (.iadd, 1) := by decide +kernel
theorem dL_law_736 : decode cL_law 736 = .ok (.iaload, 1) := by decide +kernel
theorem dL_law_737 : decode cL_law 737 = .ok (.invokevirtual 97, 3) := by decide +kernel
theorem dL_law_740 : decode cL_law 740 = .ok (.if_icmp .eq 5, 3) := by decide +kernel
theorem dL_law_743 : decode cL_law 743 = .ok (.iconst 0, 1) := by decide +kernel
theorem dL_law_744 : decode cL_law 744 = .ok (.ireturn, 1) := by decide +kernel
theorem dL_law_745 : decode cL_law 745 = .ok (.iinc 3 5, 3) := by decide +kernel
theorem dL_law_748 : decode cL_law 748 = .ok (.goto (-730), 3) := by decide +kernel
theorem dL_law_751 : decode cL_law 751 = .ok (.iconst 1, 1) := by decide +kernel
theorem dL_law_752 : decode cL_law 752 = .ok (.ireturn, 1) := by decide +kernel
end
section
/-! ===== numbers: Java's int and long as images of whole numbers ===== -/
def iz (z : Int) : Int32 := Int32.ofInt z
def lz (z : Int) : Int64 := Int64.ofInt z
abbrev ir (z : Int) : Prop := -2147483648 ≤ z ∧ z ≤ 2147483647
abbrev lr (z : Int) : Prop := -9223372036854775808 ≤ z ∧ z ≤ 9223372036854775807
theorem iz_add (a b : Int) : iz a + iz b = iz (a + b) := (Int32.ofInt_add a b).symm
theorem iz_sub (a b : Int) : iz a - iz b = iz (a - b) := (Int32.ofInt_sub a b).symm
theorem iz_mul (a b : Int) : iz a * iz b = iz (a * b) := (Int32.ofInt_mul a b).symm
theorem iz_neg (a : Int) : -iz a = iz (-a) := (Int32.ofInt_neg a).symm
theorem lz_add (a b : Int) : lz a + lz b = lz (a + b) := (Int64.ofInt_add a b).symm
theorem lz_sub (a b : Int) : lz a - lz b = lz (a - b) := (Int64.ofInt_sub a b).symm
theorem lz_mul (a b : Int) : lz a * lz b = lz (a * b) := (Int64.ofInt_mul a b).symm
theorem iz_toInt {z : Int} (h : ir z) : (iz z).toInt = z := Int32.toInt_ofInt_of_le (by have := h.1; omega) (by have := h.2; omega)
theorem lz_toInt {z : Int} (h : lr z) : (lz z).toInt = z := Int64.toInt_ofInt_of_le (by have := h.1; omega) (by have := h.2; omega)
theorem iz_of (x : Int32) : x = iz x.toInt := (Int32.ofInt_toInt x).symm
theorem ir_toInt (x : Int32) : ir x.toInt := ⟨by have := x.le_toInt; omega, by have := x.toInt_lt; omega⟩
theorem iz_lt {a b : Int} (ha : ir a) (hb : ir b) : iz a < iz b ↔ a < b := by rw [Int32.lt_iff_toInt_lt, iz_toInt ha, iz_toInt hb]
theorem iz_le {a b : Int} (ha : ir a) (hb : ir b) : iz a ≤ iz b ↔ a ≤ b := by rw [Int32.le_iff_toInt_le, iz_toInt ha, iz_toInt hb]
theorem iz_eq {a b : Int} (ha : ir a) (hb : ir b) : iz a = iz b ↔ a = b := by rw [← Int32.toInt_inj, iz_toInt ha, iz_toInt hb]
theorem lz_lt {a b : Int} (ha : lr a) (hb : lr b) : lz a < lz b ↔ a < b := by rw [Int64.lt_iff_toInt_lt, lz_toInt ha, lz_toInt hb]
theorem lz_eq {a b : Int} (ha : lr a) (hb : lr b) : lz a = lz b ↔ a = b := by rw [← Int64.toInt_inj, lz_toInt ha, lz_toInt hb]
theorem ir_0 : ir 0 := ⟨by decide, by decide⟩
theorem iz_0 : iz 0 = 0 := rfl
theorem iz_cl {z : Int} (h : ir z) : (iz z).toNatClampNeg = z.toNat := by
  show (iz z).toInt.toNat = z.toNat
  rw [iz_toInt h]
theorem iz_in {z : Int} {n : Nat} (hn : n ≤ 2147483647) (h0 : 0 ≤ z) (h1 : z < n) : vp_in (iz z) n ∧ (iz z).toNatClampNeg = z.toNat := by
  have hr : ir z := ⟨by omega, by omega⟩
  refine ⟨fun h => ?_, iz_cl hr⟩
  rcases h with h | h
  · rw [← iz_0, iz_lt hr ir_0] at h
    omega
  · rw [iz_cl hr] at h
    omega
theorem iz_l {z : Int} (h : ir z) : (iz z).toInt64 = lz z := by
  rw [← Int64.toInt_inj, Int32.toInt_toInt64, iz_toInt h, lz_toInt ⟨by have := h.1; omega, by have := h.2; omega⟩]
theorem lz_i (z : Int) : (lz z).toInt32 = iz z := Int64.toInt32_ofInt
theorem lz_div {a b : Int} (ha : lr a) (h0 : 0 ≤ a) (hb : lr b) (h1 : 0 < b) : lz a / lz b = lz (a / b) := by
  have e : a.tdiv b = a / b := Int.tdiv_eq_ediv_of_nonneg h0
  have h2 : 0 ≤ a / b := Int.ediv_nonneg h0 (Int.le_of_lt h1)
  have h3 : a / b ≤ a := Int.ediv_le_self b h0
  rw [← Int64.toInt_inj, Int64.toInt_div, lz_toInt ha, lz_toInt hb, e, lz_toInt ⟨by omega, by have := ha.2; omega⟩]
  exact Int.bmod_eq_of_le (by omega) (by have := ha.2; omega)
/-! ===== cells, worlds ===== -/
abbrev zE : Type := va_E
abbrev zG : Type := va_G × Nat × (Nat → ClassId)
abbrev zA (g : zG) (n : Nat) (f : Nat → Int) : va_E := .inl (g.2.2 0, n, .inl (fun j => iz (f j)))
abbrev zB (g : zG) (n : Nat) (f : Nat → Int) : va_E := .inl (g.2.2 1, n, .inl (fun j => iz (f j)))
abbrev zL (g : zG) (n : Nat) (f : Nat → Int) : va_E := .inl (g.2.2 2, n, .inr (.inl (fun j => lz (f j))))
abbrev zR (g : zG) (n : Nat) (f : Nat → Option Nat) : va_E := .inl (g.2.2 3, n, .inr (.inr (.inr (.inr f))))
abbrev zcl : List vw_C := [(RX0, TX0, 1), (RX1, TX1, 9), (RX2, TX2, 9), (RX3, TX3, 3), (RX4, TX4, 5), (RX5, TX5, 21)]
abbrev ztys (g : zG) : List (ClassId × FieldType) := [(g.2.2 0, .int), (g.2.2 1, .boolean), (g.2.2 2, .long), (g.2.2 3, .object "BoughtAhead$Book")]
def zws : Nat → List va_E → va_W
  | _, [] => []
  | b, e :: t => (b, e) :: zws (b + 1) t
theorem zws_get : ∀ (h : List va_E) (b k : Nat), (zws b h)[k]? = (h[k]?).map (fun e => (b + k, e))
  | [], b, k => by simp [zws]
  | e :: t, b, 0 => by simp [zws]
  | e :: t, b, k + 1 => by
    simp only [zws, List.getElem?_cons_succ]
    rw [zws_get t (b + 1) k]
    have : b + 1 + k = b + (k + 1) := by omega
    rw [this]
theorem zws_len : ∀ (h : List va_E) (b : Nat), (zws b h).length = h.length
  | [], b => rfl
  | e :: t, b => by simp [zws, zws_len t (b + 1)]
theorem zws_at {h : List va_E} {b k : Nat} {e : va_E} (hk : h[k]? = some e) : (zws b h)[k]? = some (b + k, e) := by rw [zws_get, hk]; rfl
theorem zws_inv {h : List va_E} {b k : Nat} {q : Nat × va_E} (hk : (zws b h)[k]? = some q) : q.1 = b + k ∧ h[k]? = some q.2 := by
  rw [zws_get] at hk
  cases hh : h[k]? with
  | none => rw [hh] at hk; cases hk
  | some e => rw [hh] at hk; cases hk; exact ⟨rfl, rfl⟩
theorem zws_D (b : Nat) (h : List va_E) : va_D (fun q => b ≤ q) (zws b h) := by
  refine ⟨fun i j x y hi hj hxy => ?_, fun k q hk => ?_⟩
  · have h1 := (zws_inv hi).1
    have h2 := (zws_inv hj).1
    omega
  · have h1 := (zws_inv hk).1
    show b ≤ q.1
    omega
theorem zws_set : ∀ (h : List va_E) (b k : Nat) (e : va_E), zws b (h.set k e) = (zws b h).set k (b + k, e)
  | [], b, k, e => by simp [zws]
  | x :: t, b, 0, e => by simp [zws]
  | x :: t, b, k + 1, e => by
    simp only [zws, List.set_cons_succ]
    rw [zws_set t (b + 1) k e]
    have : b + 1 + k = b + (k + 1) := by omega
    rw [this]
theorem zws_app : ∀ (h : List va_E) (b : Nat) (e : va_E), zws b (h ++ [e]) = zws b h ++ [(b + h.length, e)]
  | [], b, e => by simp [zws]
  | x :: t, b, e => by
    simp only [zws, List.cons_append, List.length_cons]
    rw [zws_app t (b + 1) e]
    have : b + 1 + t.length = b + (t.length + 1) := by omega
    rw [this]
/-- the world: the cells from g.2.1 on are those of h, and there are no others -/
def zw (g : zG) (h : List va_E) (U : State) (H : Heap) : Prop := va_P g.1 zcl (zws g.2.1 h) H ∧ H.size = g.2.1 + h.length ∧ va_K g.1 zcl (ztys g) U
abbrev zF (g : zG) : Nat → Prop := fun q => g.2.1 ≤ q
theorem zw_set {g : zG} {h : List va_E} {U : State} {H H1 : Heap} {q : Nat} {e0 e : va_E} (hw : zw g h U H) (hq : h[q]? = some e0) (he : va_at g.1 zcl (g.2.1 + q, e) H1) (z : H1.size = H.size) (oq : ∀ x : Nat, x ≠ g.2.1 + q → H1[x]? = H[x]?) : zw g (h.set q e) U H1 := by
  refine ⟨?_, by rw [z, hw.2.1, List.length_set], hw.2.2⟩
  rw [zws_set]
  exact va_P.set hw.1 (zws_D g.2.1 h) (zws_at hq) he oq
theorem zw_push {g : zG} {h : List va_E} {U : State} {H H1 : Heap} {e : va_E} (hw : zw g h U H) (he : va_at g.1 zcl (H.size, e) H1) (z : H1.size = H.size + 1) (oq : ∀ x : Nat, x < H.size → H1[x]? = H[x]?) : zw g (h ++ [e]) U H1 := by
  refine ⟨?_, by rw [z, hw.2.1, List.length_append]; simp; omega, hw.2.2⟩
  rw [zws_app]
  refine va_P.app (hw.1.kept (fun k x hx => oq x.1 ((hw.1 k x hx).lt))) (fun k x hx => ?_)
  have hz : k < 1 := (List.getElem?_eq_some_iff.mp hx).1
  rw [show k = 0 by omega] at hx
  cases hx
  rw [← hw.2.1]
  exact he
/-! ===== locals ===== -/
def zpr (ls : List (Option Value)) : List (Nat × Value) := (List.range ls.length).filterMap (fun i => (ls[i]?.join).map (fun v => (i, v)))
theorem zpr_mem {ls : List (Option Value)} {i : Nat} {v : Value} : (i, v) ∈ zpr ls ↔ ls[i]? = some (some v) := by
  unfold zpr
  rw [List.mem_filterMap]
  constructor
  · rintro ⟨j, hj, h⟩
    cases h1 : ls[j]? with
    | none => rw [h1] at h; cases h
    | some o =>
      rw [h1] at h
      cases o with
      | none => cases h
      | some w => cases h; exact h1
  · intro h
    exact ⟨i, List.mem_range.mpr (List.getElem?_eq_some_iff.mp h).1, by rw [h]; rfl⟩
def zl (la : Array Slot) (nL : Nat) (ls : List (Option Value)) : Prop := lv_has la nL (zpr ls) ∧ ls.length = nL
theorem zl_at {la : Array Slot} {nL : Nat} {ls : List (Option Value)} (h : zl la nL ls) {i : Nat} {v : Value} (hi : ls[i]? = some (some v)) : la[i]? = some (.val v) := h.1.2.2 (i, v) (zpr_mem.mpr hi)
def zk1 (ls : List (Option Value)) : Nat → Bool
  | 0 => true
  | i + 1 => match ls[i]? with
    | some (some v) => v.category == 1
    | _ => true
theorem zl_put1 {la : Array Slot} {nL : Nat} {ls : List (Option Value)} {i : Nat} {v : Value} (hk : zk1 ls i = true) (hn : ls.length = nL) (h : lv_has la nL ((i, v) :: (zpr ls).filter (fun q => !(q.1 == i) && !(q.1 + 1 == i && q.2.category == 2)))) : zl la nL (ls.set i (some v)) := by
  refine ⟨⟨h.1, h.2.1, fun q hq => ?_⟩, by rw [List.length_set]; exact hn⟩
  obtain ⟨j, w⟩ := q
  rw [zpr_mem] at hq
  by_cases hij : i = j
  · subst hij
    have hl : i < ls.length := by
      have := (List.getElem?_eq_some_iff.mp hq).1
      rwa [List.length_set] at this
    rw [List.getElem?_set_self hl] at hq
    cases hq
    exact h.2.2 _ List.mem_cons_self
  · rw [List.getElem?_set_ne hij] at hq
    refine h.2.2 _ (List.mem_cons_of_mem _ (List.mem_filter.mpr ⟨zpr_mem.mpr hq, ?_⟩))
    have h1 : (j == i) = false := by simp; omega
    simp only [h1, Bool.not_false, Bool.true_and]
    by_cases hj : j + 1 = i
    · subst hj
      simp only [zk1, hq] at hk
      have hc : w.category = 1 := by simpa using hk
      simp [hc]
    · simp [hj]
theorem zl_put2 {la : Array Slot} {nL : Nat} {ls : List (Option Value)} {i : Nat} {v : Value} (hk : zk1 ls i = true) (hn : ls.length = nL) (h : lv_has la nL ((i, v) :: (zpr ls).filter (fun q => !(q.1 == i) && (!(q.1 == i + 1) && !(q.1 + 1 == i && q.2.category == 2))))) : zl la nL ((ls.set i (some v)).set (i + 1) none) := by
  refine ⟨⟨h.1, h.2.1, fun q hq => ?_⟩, by rw [List.length_set, List.length_set]; exact hn⟩
  obtain ⟨j, w⟩ := q
  rw [zpr_mem] at hq
  have hj1 : ¬ i + 1 = j := by
    intro e
    subst e
    have hl : i + 1 < (ls.set i (some v)).length := by
      have := (List.getElem?_eq_some_iff.mp hq).1
      rwa [List.length_set] at this
    rw [List.getElem?_set_self hl] at hq
    cases hq
  rw [List.getElem?_set_ne hj1] at hq
  by_cases hij : i = j
  · subst hij
    have hl : i < ls.length := by
      have := (List.getElem?_eq_some_iff.mp hq).1
      rwa [List.length_set] at this
    rw [List.getElem?_set_self hl] at hq
    cases hq
    exact h.2.2 _ List.mem_cons_self
  · rw [List.getElem?_set_ne hij] at hq
    refine h.2.2 _ (List.mem_cons_of_mem _ (List.mem_filter.mpr ⟨zpr_mem.mpr hq, ?_⟩))
    have h1 : (j == i) = false := by simp; omega
    have h2 : (j == i + 1) = false := by simp; omega
    simp only [h1, h2, Bool.not_false, Bool.true_and]
    by_cases hj : j + 1 = i
    · subst hj
      simp only [zk1, hq] at hk
      have hc : w.category = 1 := by simpa using hk
      simp [hc]
    · simp [hj]
/-- the locals at a method's entry -/
def zen : List Value → List (Option Value)
  | [] => []
  | v :: t => if v.category = 2 then some v :: none :: zen t else some v :: zen t
theorem zen_mem : ∀ (vs : List Value) (b : Nat) (i : Nat) (v : Value), (zen vs)[i]? = some (some v) → (b + i, v) ∈ lv_args b vs
  | [], b, i, v, h => by simp [zen] at h
  | w :: t, b, i, v, h => by
    unfold lv_args
    by_cases hc : w.category = 2
    · simp only [zen, if_pos hc] at h
      rw [if_pos hc]
      match i, h with
      | 0, h => cases h; exact List.mem_cons_self
      | 1, h => cases h
      | i + 2, h =>
        have h1 := zen_mem t (b + 2) i v (by simpa using h)
        rw [show b + (i + 2) = b + 2 + i by omega]
        exact List.mem_cons_of_mem _ h1
    · simp only [zen, if_neg hc] at h
      rw [if_neg hc]
      match i, h with
      | 0, h => cases h; exact List.mem_cons_self
      | i + 1, h =>
        have h1 := zen_mem t (b + 1) i v (by simpa using h)
        rw [show b + (i + 1) = b + 1 + i by omega]
        exact List.mem_cons_of_mem _ h1
theorem zen_entry {vs : List Value} {nL : Nat} {la : Array Slot} (h : lv_has la nL (lv_args 0 vs)) {k : Nat} (hk : (zen vs ++ List.replicate k none).length = nL) : zl la nL (zen vs ++ List.replicate k none) := by
  refine ⟨⟨h.1, h.2.1, fun q hq => ?_⟩, hk⟩
  obtain ⟨i, v⟩ := q
  rw [zpr_mem] at hq
  by_cases hi : i < (zen vs).length
  · rw [List.getElem?_append_left hi] at hq
    have := zen_mem vs 0 i v hq
    rw [Nat.zero_add] at this
    exact h.2.2 _ this
  · rw [List.getElem?_append_right (by omega)] at hq
    have := List.eq_of_mem_replicate (List.mem_of_getElem? hq)
    cases this
end
section
/-! ===== the judgement: from a frame over the world h the method comes to its end with Q ===== -/
/-- the tables' words that a callee may take over as they are, and those (links to a nest mate's fields) that it may take over by their own law -/
def zT : List Cond := lw_tbl.filter goodWord
def zisN : Cond → Bool
  | .fieldLinkNest .. => true
  | _ => false
def zN : List Cond := lw_tbl.filter zisN
def zNs (U : State) : Prop := (∀ w ∈ zN, va_Nw w U) ∧ va_AO "BoughtAhead$Book" U
theorem zisN_of {w : Cond} (h : w ∈ zN) : ∃ a i b n d hs, w = Cond.fieldLinkNest a i b n d hs := by
  have h1 := (List.mem_filter.mp h).2
  cases w <;> first | exact ⟨_, _, _, _, _, _, rfl⟩ | cases h1
theorem zNs_same {u U : State} (h : u.vm = U.vm) (hZ : zNs u) : zNs U := by
  refine ⟨fun w hw => ?_, va_AO.moved (by rw [h]; exact Vm.Alike.refl U.vm) hZ.2⟩
  obtain ⟨a, i, b, n, d, hs, rfl⟩ := zisN_of hw
  exact va_Nw.same rfl h (hZ.1 _ hw)
theorem zNs_warm {s U : State} (hW : s.WarmedH U.vm) (hZ : zNs s) : zNs U := by
  refine ⟨fun w hw => ?_, va_AO.moved hW.alike hZ.2⟩
  obtain ⟨a, i, b, n, d, hs, rfl⟩ := zisN_of hw
  exact va_Nw.warmF hW (hZ.1 _ hw)
def zC (own : String) (cc : ByteArray) (nL : Nat) (rt : Option FieldType) (nm : String) (p : Program) (s : State) (m : MethodId) (args : Array Value) (meth : Method) (c : Code) : Prop :=
  p.tables.exec = Jvm.exec ∧ c.code = cc ∧ c.maxLocals = nL ∧ s.vm.findClass own = some m.cls ∧ (∀ w ∈ zT, w.before args s = true) ∧ meth.sig.returnType = rt ∧ meth.locks = false ∧ meth.name = nm ∧ zNs s
def zQ (g : zG) (Q : Option Value → List va_E → Prop) : Array Value → State → Outcome → State → Prop := fun _ st oc t => (∃ (r : Option Value) (h : List va_E), oc = .returned r ∧ Q r h ∧ zw g h t t.heap) ∧ va_F (zF g) st t
def zJ (l : Launch) (g : zG) (own : String) (cc : ByteArray) (nL : Nat) (rt : Option FieldType) (nm : String) (R : Room) (mc ms : Nat) (Q : Option Value → List va_E → Prop) (k n pc : Nat) (ls : List (Option Value)) (st : List Value) (h : List va_E) : Prop :=
  ∀ (p : Program) (e : Env) (s : State) (m : MethodId) (args : Array Value) (below : List Frame) (meth : Method) (c : Code) (H : Heap) (locs : List Loc) (la : Array Slot), zC own cc nL rt nm p s m args meth c → zw g h s H → va_S (zF g) s.heap H locs → zl la nL ls →
    W p l e R s m args below meth c H locs k n (MQ below (zQ g Q) args s mc ms (zF g)) (F0 m pc la st)
abbrev zRm (d mc ms : Nat) : Room := { frames := d, cells := mc, slots := ms, locals := 38 * d }
/-- a contract: from the world h, with these arguments, the method returns, and Q holds of answer and world -/
def zM (l : Launch) (g : zG) (y : MethodName) (cc : ByteArray) (nL : Nat) (rt : Option FieldType) (d mc ms : Nat) (As : List Value) (h : List va_E) (Q : Option Value → List va_E → Prop) : Prop :=
  Met l y (Cond.code y cc nL rt :: zT) (zRm d mc ms) (va_Pc As (fun U => zw g h U U.heap ∧ zNs U)) (zQ g Q) mc ms (zF g)
theorem zen_len : ∀ vs : List Value, (lg_sl vs).length = (zen vs).length
  | [] => rfl
  | v :: t => by
    have ih := zen_len t
    unfold lg_sl at ih ⊢
    by_cases hc : v.category = 2
    · simp only [zen, if_pos hc, List.flatMap_cons, List.length_append, List.length_cons, List.length_nil, ih]; omega
    · simp only [zen, if_neg hc, List.flatMap_cons, List.length_append, List.length_cons, List.length_nil, ih]; omega
theorem zw_moved {g : zG} {h : List va_E} {s t : State} {H : Heap} (hw : zw g h s H) (hvm : s.vm.Alike t.vm) (ht : t.heap = H) : zw g h t t.heap := by
  rw [ht]
  exact ⟨hw.1, hw.2.1, va_K.moved hvm hw.2.2⟩
theorem zM_of {l : Launch} {g : zG} {y : MethodName} {cc : ByteArray} {nL : Nat} {rt : Option FieldType} {d mc ms : Nat} {As : List Value} {h : List va_E} {Q : Option Value → List va_E → Prop} (j : Nat) (hy : plainName y.cls = true) (hj : (zen As).length + j = nL) (hJ : zJ l g y.cls cc nL rt y.name (zRm d mc ms) mc ms Q 0 0 0 (zen As ++ List.replicate j none) [] h) : zM l g y cc nL rt d mc ms As h Q := by
  refine Met.ofW (cc := cc) (maxL := nL) (ret := rt) hy rfl ?_
  intro p e s m args below meth c s₁ B hml hv
  obtain ⟨rfl, hw, hZ⟩ := hv
  have hts := atoms_spec (ws := Cond.code y cc nL rt :: zT) B.pre
  have hC : zC y.cls cc nL rt y.name p s m As.toArray meth c := ⟨B.exec, B.bytes, hml, findClass_of_methodNamed B.named, fun w h => hts w (List.mem_cons_of_mem _ h), B.returns, B.notSynchronized, (name_of_methodNamed B.named B.method).1, hZ⟩
  rw [lg_entry_eq]
  exact hJ p e s m As.toArray below meth c s.heap [] _ hC hw va_S.rf (zen_entry (lv_entry As (by rw [zen_len]; omega)) (by rw [List.length_append, List.length_replicate]; exact hj))
section ZROWS
variable {l : Launch} {g : zG} {own : String} {cc : ByteArray} {nL : Nat} {rt : Option FieldType} {nm : String} {R : Room} {mc ms : Nat} {Q : Option Value → List va_E → Prop} {k n pc : Nat} {ls : List (Option Value)} {st : List Value} {h : List va_E}

theorem z_iconst {z : Int} (hd : decode cc pc = .ok (.iconst z, 1)) (kk : zJ l g own cc nL rt nm R mc ms Q k n (pc + 1) ls (.int (iz z) :: st) h) : zJ l g own cc nL rt nm R mc ms Q k n pc ls st h := by
  intro p e s m args below meth c H locs la hC hw hS hl
  exact lv_iconst hC.1 hC.2.1 hd rfl (kk p e s m args below meth c H locs la hC hw hS hl)
theorem z_bipush {z : Int} (hz : (Int8.ofInt z).toInt32 = iz z) (hd : decode cc pc = .ok (.bipush z, 2)) (kk : zJ l g own cc nL rt nm R mc ms Q k n (pc + 2) ls (.int (iz z) :: st) h) : zJ l g own cc nL rt nm R mc ms Q k n pc ls st h := by
  intro p e s m args below meth c H locs la hC hw hS hl
  exact lv_bipush hC.1 hC.2.1 hd hz (kk p e s m args below meth c H locs la hC hw hS hl)
theorem z_sipush {z : Int} (hz : (Int16.ofInt z).toInt32 = iz z) (hd : decode cc pc = .ok (.sipush z, 3)) (kk : zJ l g own cc nL rt nm R mc ms Q k n (pc + 3) ls (.int (iz z) :: st) h) : zJ l g own cc nL rt nm R mc ms Q k n pc ls st h := by
  intro p e s m args below meth c H locs la hC hw hS hl
  exact lv_sipush hC.1 hC.2.1 hd hz (kk p e s m args below meth c H locs la hC hw hS hl)
theorem z_lconst {z : Fin 2} {v : Int} (hz : Int64.ofNat (z : Nat) = lz v) (hd : decode cc pc = .ok (.lconst z, 1)) (kk : zJ l g own cc nL rt nm R mc ms Q k n (pc + 1) ls (.long (lz v) :: st) h) : zJ l g own cc nL rt nm R mc ms Q k n pc ls st h := by
  intro p e s m args below meth c H locs la hC hw hS hl
  exact lv_lconst hC.1 hC.2.1 hd hz (kk p e s m args below meth c H locs la hC hw hS hl)
theorem z_ldc {i : Nat} {z : Int} (hm : Cond.constant own i (iz z) ∈ zT) (hd : decode cc pc = .ok (.ldc i, 2)) (kk : zJ l g own cc nL rt nm R mc ms Q k n (pc + 2) ls (.int (iz z) :: st) h) : zJ l g own cc nL rt nm R mc ms Q k n pc ls st h := by
  intro p e s m args below meth c H locs la hC hw hS hl
  exact lv_ldc hC.1 hC.2.1 hC.2.2.2.1 (hC.2.2.2.2.1 _ hm) hd (kk p e s m args below meth c H locs la hC hw hS hl)
theorem z_ldc2 {i : Nat} {z : Int} (hm : Cond.constantLong own i (lz z) ∈ zT) (hd : decode cc pc = .ok (.ldc2_w i, 3)) (kk : zJ l g own cc nL rt nm R mc ms Q k n (pc + 3) ls (.long (lz z) :: st) h) : zJ l g own cc nL rt nm R mc ms Q k n pc ls st h := by
  intro p e s m args below meth c H locs la hC hw hS hl
  exact lv_ldc2 hC.1 hC.2.1 hC.2.2.2.1 (hC.2.2.2.2.1 _ hm) hd (kk p e s m args below meth c H locs la hC hw hS hl)
theorem z_iload_n {j : Fin 4} {x : Int32} (hv : ls[(j : Nat)]? = some (some (.int x))) (hd : decode cc pc = .ok (.iload_n j, 1)) (kk : zJ l g own cc nL rt nm R mc ms Q k n (pc + 1) ls (.int x :: st) h) : zJ l g own cc nL rt nm R mc ms Q k n pc ls st h := by
  intro p e s m args below meth c H locs la hC hw hS hl
  exact lv_iload_n hC.1 hC.2.1 hd rfl (zl_at hl hv) (kk p e s m args below meth c H locs la hC hw hS hl)
theorem z_iload {j : Nat} {x : Int32} (hv : ls[j]? = some (some (.int x))) (hd : decode cc pc = .ok (.iload j, 2)) (kk : zJ l g own cc nL rt nm R mc ms Q k n (pc + 2) ls (.int x :: st) h) : zJ l g own cc nL rt nm R mc ms Q k n pc ls st h := by
  intro p e s m args below meth c H locs la hC hw hS hl
  exact lv_iload hC.1 hC.2.1 hd (zl_at hl hv) (kk p e s m args below meth c H locs la hC hw hS hl)
theorem z_aload_n {j : Fin 4} {x : Nat} (hv : ls[(j : Nat)]? = some (some (.ref x))) (hd : decode cc pc = .ok (.aload_n j, 1)) (kk : zJ l g own cc nL rt nm R mc ms Q k n (pc + 1) ls (.ref x :: st) h) : zJ l g own cc nL rt nm R mc ms Q k n pc ls st h := by
  intro p e s m args below meth c H locs la hC hw hS hl
  exact lv_aload_n hC.1 hC.2.1 hd rfl (zl_at hl hv) (kk p e s m args below meth c H locs la hC hw hS hl)
theorem z_aload {j : Nat} {x : Nat} (hv : ls[j]? = some (some (.ref x))) (hd : decode cc pc = .ok (.aload j, 2)) (kk : zJ l g own cc nL rt nm R mc ms Q k n (pc + 2) ls (.ref x :: st) h) : zJ l g own cc nL rt nm R mc ms Q k n pc ls st h := by
  intro p e s m args below meth c H locs la hC hw hS hl
  exact lv_aload hC.1 hC.2.1 hd (zl_at hl hv) (kk p e s m args below meth c H locs la hC hw hS hl)
theorem z_lload_n {j : Fin 4} {x : Int64} (hv : ls[(j : Nat)]? = some (some (.long x))) (hd : decode cc pc = .ok (.lload_n j, 1)) (kk : zJ l g own cc nL rt nm R mc ms Q k n (pc + 1) ls (.long x :: st) h) : zJ l g own cc nL rt nm R mc ms Q k n pc ls st h := by
  intro p e s m args below meth c H locs la hC hw hS hl
  exact lv_lload_n hC.1 hC.2.1 hd rfl (zl_at hl hv) (kk p e s m args below meth c H locs la hC hw hS hl)
theorem z_lload {j : Nat} {x : Int64} (hv : ls[j]? = some (some (.long x))) (hd : decode cc pc = .ok (.lload j, 2)) (kk : zJ l g own cc nL rt nm R mc ms Q k n (pc + 2) ls (.long x :: st) h) : zJ l g own cc nL rt nm R mc ms Q k n pc ls st h := by
  intro p e s m args below meth c H locs la hC hw hS hl
  exact lv_lload hC.1 hC.2.1 hd (zl_at hl hv) (kk p e s m args below meth c H locs la hC hw hS hl)
theorem z_istore_n {j : Fin 4} {x : Int32} (hj : (j : Nat) < nL) (h1 : zk1 ls (j : Nat) = true) (hd : decode cc pc = .ok (.istore_n j, 1)) (kk : zJ l g own cc nL rt nm R mc ms Q k n (pc + 1) (ls.set (j : Nat) (some (.int x))) st h) : zJ l g own cc nL rt nm R mc ms Q k n pc ls (.int x :: st) h := by
  intro p e s m args below meth c H locs la hC hw hS hl
  exact lv_istore_n hC.1 hC.2.1 hd rfl hl.1 hj rfl (fun la2 hl2 => kk p e s m args below meth c H locs la2 hC hw hS (zl_put1 h1 hl.2 hl2))
theorem z_istore {j : Nat} {x : Int32} (hj : j < nL) (h1 : zk1 ls j = true) (hd : decode cc pc = .ok (.istore j, 2)) (kk : zJ l g own cc nL rt nm R mc ms Q k n (pc + 2) (ls.set j (some (.int x))) st h) : zJ l g own cc nL rt nm R mc ms Q k n pc ls (.int x :: st) h := by
  intro p e s m args below meth c H locs la hC hw hS hl
  exact lv_istore hC.1 hC.2.1 hd hl.1 hj rfl (fun la2 hl2 => kk p e s m args below meth c H locs la2 hC hw hS (zl_put1 h1 hl.2 hl2))
theorem z_astore_n {j : Fin 4} {x : Nat} (hj : (j : Nat) < nL) (h1 : zk1 ls (j : Nat) = true) (hd : decode cc pc = .ok (.astore_n j, 1)) (kk : zJ l g own cc nL rt nm R mc ms Q k n (pc + 1) (ls.set (j : Nat) (some (.ref x))) st h) : zJ l g own cc nL rt nm R mc ms Q k n pc ls (.ref x :: st) h := by
  intro p e s m args below meth c H locs la hC hw hS hl
  exact lv_astore_n hC.1 hC.2.1 hd rfl hl.1 hj rfl (fun la2 hl2 => kk p e s m args below meth c H locs la2 hC hw hS (zl_put1 h1 hl.2 hl2))
theorem z_astore {j : Nat} {x : Nat} (hj : j < nL) (h1 : zk1 ls j = true) (hd : decode cc pc = .ok (.astore j, 2)) (kk : zJ l g own cc nL rt nm R mc ms Q k n (pc + 2) (ls.set j (some (.ref x))) st h) : zJ l g own cc nL rt nm R mc ms Q k n pc ls (.ref x :: st) h := by
  intro p e s m args below meth c H locs la hC hw hS hl
  exact lv_astore hC.1 hC.2.1 hd hl.1 hj rfl (fun la2 hl2 => kk p e s m args below meth c H locs la2 hC hw hS (zl_put1 h1 hl.2 hl2))
theorem z_lstore_n {j : Fin 4} {x : Int64} (hj : (j : Nat) + 1 < nL) (h1 : zk1 ls (j : Nat) = true) (hd : decode cc pc = .ok (.lstore_n j, 1)) (kk : zJ l g own cc nL rt nm R mc ms Q k n (pc + 1) ((ls.set (j : Nat) (some (.long x))).set ((j : Nat) + 1) none) st h) : zJ l g own cc nL rt nm R mc ms Q k n pc ls (.long x :: st) h := by
  intro p e s m args below meth c H locs la hC hw hS hl
  exact lv_lstore_n hC.1 hC.2.1 hd rfl hl.1 hj rfl (fun la2 hl2 => kk p e s m args below meth c H locs la2 hC hw hS (zl_put2 h1 hl.2 hl2))
theorem z_lstore {j : Nat} {x : Int64} (hj : j + 1 < nL) (h1 : zk1 ls j = true) (hd : decode cc pc = .ok (.lstore j, 2)) (kk : zJ l g own cc nL rt nm R mc ms Q k n (pc + 2) ((ls.set j (some (.long x))).set (j + 1) none) st h) : zJ l g own cc nL rt nm R mc ms Q k n pc ls (.long x :: st) h := by
  intro p e s m args below meth c H locs la hC hw hS hl
  exact lv_lstore hC.1 hC.2.1 hd hl.1 hj rfl (fun la2 hl2 => kk p e s m args below meth c H locs la2 hC hw hS (zl_put2 h1 hl.2 hl2))
theorem z_iinc {j : Nat} {d x : Int} (hv : ls[j]? = some (some (.int (iz x)))) (hj : j < nL) (h1 : zk1 ls j = true) (hd : decode cc pc = .ok (.iinc j d, 3)) (kk : zJ l g own cc nL rt nm R mc ms Q k n (pc + 3) (ls.set j (some (.int (iz (x + d))))) st h) : zJ l g own cc nL rt nm R mc ms Q k n pc ls st h := by
  intro p e s m args below meth c H locs la hC hw hS hl
  obtain ⟨i, hi⟩ := List.getElem?_of_mem (zpr_mem.mpr hv)
  exact lv_iinc hC.1 hC.2.1 hd hl.1 hi (iz_add x d) hj rfl (fun la2 hl2 => kk p e s m args below meth c H locs la2 hC hw hS (zl_put1 h1 hl.2 hl2))
theorem z_is0 {a0 : Option Value} {t : List (Option Value)} {x : Int32} (hj : 0 < nL) (hd : decode cc pc = .ok (.istore_n 0, 1)) (kk : zJ l g own cc nL rt nm R mc ms Q k n (pc + 1) (some (.int x) :: t) st h) : zJ l g own cc nL rt nm R mc ms Q k n pc (a0 :: t) (.int x :: st) h := z_istore_n (j := 0) hj rfl hd kk
theorem z_as0 {a0 : Option Value} {t : List (Option Value)} {x : Nat} (hj : 0 < nL) (hd : decode cc pc = .ok (.astore_n 0, 1)) (kk : zJ l g own cc nL rt nm R mc ms Q k n (pc + 1) (some (.ref x) :: t) st h) : zJ l g own cc nL rt nm R mc ms Q k n pc (a0 :: t) (.ref x :: st) h := z_astore_n (j := 0) hj rfl hd kk
theorem z_ii0  {t : List (Option Value)} {d x : Int} (hj : 0 < nL) (hd : decode cc pc = .ok (.iinc 0 d, 3)) (kk : zJ l g own cc nL rt nm R mc ms Q k n (pc + 3) (some (.int (iz (x + d))) :: t) st h) : zJ l g own cc nL rt nm R mc ms Q k n pc (some (.int (iz x)) :: t) st h := z_iinc rfl hj rfl hd kk
theorem z_ls0 {a0 a1 : Option Value} {t : List (Option Value)} {x : Int64} (hj : 0 + 1 < nL) (hd : decode cc pc = .ok (.lstore_n 0, 1)) (kk : zJ l g own cc nL rt nm R mc ms Q k n (pc + 1) (some (.long x) :: none :: t) st h) : zJ l g own cc nL rt nm R mc ms Q k n pc (a0 :: a1 :: t) (.long x :: st) h := z_lstore_n (j := 0) hj rfl hd kk
theorem z_is1 {a0 a1 : Option Value} {t : List (Option Value)} {x : Int32} (hj : 1 < nL) (h1 : zk1 (a0 :: a1 :: t) 1 = true) (hd : decode cc pc = .ok (.istore_n 1, 1)) (kk : zJ l g own cc nL rt nm R mc ms Q k n (pc + 1) (a0 :: some (.int x) :: t) st h) : zJ l g own cc nL rt nm R mc ms Q k n pc (a0 :: a1 :: t) (.int x :: st) h := z_istore_n (j := 1) hj h1 hd kk
theorem z_as1 {a0 a1 : Option Value} {t : List (Option Value)} {x : Nat} (hj : 1 < nL) (h1 : zk1 (a0 :: a1 :: t) 1 = true) (hd : decode cc pc = .ok (.astore_n 1, 1)) (kk : zJ l g own cc nL rt nm R mc ms Q k n (pc + 1) (a0 :: some (.ref x) :: t) st h) : zJ l g own cc nL rt nm R mc ms Q k n pc (a0 :: a1 :: t) (.ref x :: st) h := z_astore_n (j := 1) hj h1 hd kk
theorem z_ii1 {a0 : Option Value} {t : List (Option Value)} {d x : Int} (hj : 1 < nL) (h1 : zk1 (a0 :: some (.int (iz x)) :: t) 1 = true) (hd : decode cc pc = .ok (.iinc 1 d, 3)) (kk : zJ l g own cc nL rt nm R mc ms Q k n (pc + 3) (a0 :: some (.int (iz (x + d))) :: t) st h) : zJ l g own cc nL rt nm R mc ms Q k n pc (a0 :: some (.int (iz x)) :: t) st h := z_iinc rfl hj h1 hd kk
theorem z_ls1 {a0 a1 a2 : Option Value} {t : List (Option Value)} {x : Int64} (hj : 1 + 1 < nL) (h1 : zk1 (a0 :: a1 :: a2 :: t) 1 = true) (hd : decode cc pc = .ok (.lstore_n 1, 1)) (kk : zJ l g own cc nL rt nm R mc ms Q k n (pc + 1) (a0 :: some (.long x) :: none :: t) st h) : zJ l g own cc nL rt nm R mc ms Q k n pc (a0 :: a1 :: a2 :: t) (.long x :: st) h := z_lstore_n (j := 1) hj h1 hd kk
theorem z_is2 {a0 a1 a2 : Option Value} {t : List (Option Value)} {x : Int32} (hj : 2 < nL) (h1 : zk1 (a0 :: a1 :: a2 :: t) 2 = true) (hd : decode cc pc = .ok (.istore_n 2, 1)) (kk : zJ l g own cc nL rt nm R mc ms Q k n (pc + 1) (a0 :: a1 :: some (.int x) :: t) st h) : zJ l g own cc nL rt nm R mc ms Q k n pc (a0 :: a1 :: a2 :: t) (.int x :: st) h := z_istore_n (j := 2) hj h1 hd kk
theorem z_as2 {a0 a1 a2 : Option Value} {t : List (Option Value)} {x : Nat} (hj : 2 < nL) (h1 : zk1 (a0 :: a1 :: a2 :: t) 2 = true) (hd : decode cc pc = .ok (.astore_n 2, 1)) (kk : zJ l g own cc nL rt nm R mc ms Q k n (pc + 1) (a0 :: a1 :: some (.ref x) :: t) st h) : zJ l g own cc nL rt nm R mc ms Q k n pc (a0 :: a1 :: a2 :: t) (.ref x :: st) h := z_astore_n (j := 2) hj h1 hd kk
theorem z_ii2 {a0 a1 : Option Value} {t : List (Option Value)} {d x : Int} (hj : 2 < nL) (h1 : zk1 (a0 :: a1 :: some (.int (iz x)) :: t) 2 = true) (hd : decode cc pc = .ok (.iinc 2 d, 3)) (kk : zJ l g own cc nL rt nm R mc ms Q k n (pc + 3) (a0 :: a1 :: some (.int (iz (x + d))) :: t) st h) : zJ l g own cc nL rt nm R mc ms Q k n pc (a0 :: a1 :: some (.int (iz x)) :: t) st h := z_iinc rfl hj h1 hd kk
theorem z_ls2 {a0 a1 a2 a3 : Option Value} {t : List (Option Value)} {x : Int64} (hj : 2 + 1 < nL) (h1 : zk1 (a0 :: a1 :: a2 :: a3 :: t) 2 = true) (hd : decode cc pc = .ok (.lstore_n 2, 1)) (kk : zJ l g own cc nL rt nm R mc ms Q k n (pc + 1) (a0 :: a1 :: some (.long x) :: none :: t) st h) : zJ l g own cc nL rt nm R mc ms Q k n pc (a0 :: a1 :: a2 :: a3 :: t) (.long x :: st) h := z_lstore_n (j := 2) hj h1 hd kk
theorem z_is3 {a0 a1 a2 a3 : Option Value} {t : List (Option Value)} {x : Int32} (hj : 3 < nL) (h1 : zk1 (a0 :: a1 :: a2 :: a3 :: t) 3 = true) (hd : decode cc pc = .ok (.istore_n 3, 1)) (kk : zJ l g own cc nL rt nm R mc ms Q k n (pc + 1) (a0 :: a1 :: a2 :: some (.int x) :: t) st h) : zJ l g own cc nL rt nm R mc ms Q k n pc (a0 :: a1 :: a2 :: a3 :: t) (.int x :: st) h := z_istore_n (j := 3) hj h1 hd kk
theorem z_as3 {a0 a1 a2 a3 : Option Value} {t : List (Option Value)} {x : Nat} (hj : 3 < nL) (h1 : zk1 (a0 :: a1 :: a2 :: a3 :: t) 3 = true) (hd : decode cc pc = .ok (.astore_n 3, 1)) (kk : zJ l g own cc nL rt nm R mc ms Q k n (pc + 1) (a0 :: a1 :: a2 :: some (.ref x) :: t) st h) : zJ l g own cc nL rt nm R mc ms Q k n pc (a0 :: a1 :: a2 :: a3 :: t) (.ref x :: st) h := z_astore_n (j := 3) hj h1 hd kk
theorem z_ii3 {a0 a1 a2 : Option Value} {t : List (Option Value)} {d x : Int} (hj : 3 < nL) (h1 : zk1 (a0 :: a1 :: a2 :: some (.int (iz x)) :: t) 3 = true) (hd : decode cc pc = .ok (.iinc 3 d, 3)) (kk : zJ l g own cc nL rt nm R mc ms Q k n (pc + 3) (a0 :: a1 :: a2 :: some (.int (iz (x + d))) :: t) st h) : zJ l g own cc nL rt nm R mc ms Q k n pc (a0 :: a1 :: a2 :: some (.int (iz x)) :: t) st h := z_iinc rfl hj h1 hd kk
theorem z_ls3 {a0 a1 a2 a3 a4 : Option Value} {t : List (Option Value)} {x : Int64} (hj : 3 + 1 < nL) (h1 : zk1 (a0 :: a1 :: a2 :: a3 :: a4 :: t) 3 = true) (hd : decode cc pc = .ok (.lstore_n 3, 1)) (kk : zJ l g own cc nL rt nm R mc ms Q k n (pc + 1) (a0 :: a1 :: a2 :: some (.long x) :: none :: t) st h) : zJ l g own cc nL rt nm R mc ms Q k n pc (a0 :: a1 :: a2 :: a3 :: a4 :: t) (.long x :: st) h := z_lstore_n (j := 3) hj h1 hd kk
theorem z_is4 {a0 a1 a2 a3 a4 : Option Value} {t : List (Option Value)} {x : Int32} (hj : 4 < nL) (h1 : zk1 (a0 :: a1 :: a2 :: a3 :: a4 :: t) 4 = true) (hd : decode cc pc = .ok (.istore 4, 2)) (kk : zJ l g own cc nL rt nm R mc ms Q k n (pc + 2) (a0 :: a1 :: a2 :: a3 :: some (.int x) :: t) st h) : zJ l g own cc nL rt nm R mc ms Q k n pc (a0 :: a1 :: a2 :: a3 :: a4 :: t) (.int x :: st) h := z_istore hj h1 hd kk
theorem z_ii4 {a0 a1 a2 a3 : Option Value} {t : List (Option Value)} {d x : Int} (hj : 4 < nL) (h1 : zk1 (a0 :: a1 :: a2 :: a3 :: some (.int (iz x)) :: t) 4 = true) (hd : decode cc pc = .ok (.iinc 4 d, 3)) (kk : zJ l g own cc nL rt nm R mc ms Q k n (pc + 3) (a0 :: a1 :: a2 :: a3 :: some (.int (iz (x + d))) :: t) st h) : zJ l g own cc nL rt nm R mc ms Q k n pc (a0 :: a1 :: a2 :: a3 :: some (.int (iz x)) :: t) st h := z_iinc rfl hj h1 hd kk
theorem z_ls4 {a0 a1 a2 a3 a4 a5 : Option Value} {t : List (Option Value)} {x : Int64} (hj : 4 + 1 < nL) (h1 : zk1 (a0 :: a1 :: a2 :: a3 :: a4 :: a5 :: t) 4 = true) (hd : decode cc pc = .ok (.lstore 4, 2)) (kk : zJ l g own cc nL rt nm R mc ms Q k n (pc + 2) (a0 :: a1 :: a2 :: a3 :: some (.long x) :: none :: t) st h) : zJ l g own cc nL rt nm R mc ms Q k n pc (a0 :: a1 :: a2 :: a3 :: a4 :: a5 :: t) (.long x :: st) h := z_lstore hj h1 hd kk
theorem z_is5 {a0 a1 a2 a3 a4 a5 : Option Value} {t : List (Option Value)} {x : Int32} (hj : 5 < nL) (h1 : zk1 (a0 :: a1 :: a2 :: a3 :: a4 :: a5 :: t) 5 = true) (hd : decode cc pc = .ok (.istore 5, 2)) (kk : zJ l g own cc nL rt nm R mc ms Q k n (pc + 2) (a0 :: a1 :: a2 :: a3 :: a4 :: some (.int x) :: t) st h) : zJ l g own cc nL rt nm R mc ms Q k n pc (a0 :: a1 :: a2 :: a3 :: a4 :: a5 :: t) (.int x :: st) h := z_istore hj h1 hd kk
theorem z_ii5 {a0 a1 a2 a3 a4 : Option Value} {t : List (Option Value)} {d x : Int} (hj : 5 < nL) (h1 : zk1 (a0 :: a1 :: a2 :: a3 :: a4 :: some (.int (iz x)) :: t) 5 = true) (hd : decode cc pc = .ok (.iinc 5 d, 3)) (kk : zJ l g own cc nL rt nm R mc ms Q k n (pc + 3) (a0 :: a1 :: a2 :: a3 :: a4 :: some (.int (iz (x + d))) :: t) st h) : zJ l g own cc nL rt nm R mc ms Q k n pc (a0 :: a1 :: a2 :: a3 :: a4 :: some (.int (iz x)) :: t) st h := z_iinc rfl hj h1 hd kk
theorem z_ls5 {a0 a1 a2 a3 a4 a5 a6 : Option Value} {t : List (Option Value)} {x : Int64} (hj : 5 + 1 < nL) (h1 : zk1 (a0 :: a1 :: a2 :: a3 :: a4 :: a5 :: a6 :: t) 5 = true) (hd : decode cc pc = .ok (.lstore 5, 2)) (kk : zJ l g own cc nL rt nm R mc ms Q k n (pc + 2) (a0 :: a1 :: a2 :: a3 :: a4 :: some (.long x) :: none :: t) st h) : zJ l g own cc nL rt nm R mc ms Q k n pc (a0 :: a1 :: a2 :: a3 :: a4 :: a5 :: a6 :: t) (.long x :: st) h := z_lstore hj h1 hd kk
theorem z_is6 {a0 a1 a2 a3 a4 a5 a6 : Option Value} {t : List (Option Value)} {x : Int32} (hj : 6 < nL) (h1 : zk1 (a0 :: a1 :: a2 :: a3 :: a4 :: a5 :: a6 :: t) 6 = true) (hd : decode cc pc = .ok (.istore 6, 2)) (kk : zJ l g own cc nL rt nm R mc ms Q k n (pc + 2) (a0 :: a1 :: a2 :: a3 :: a4 :: a5 :: some (.int x) :: t) st h) : zJ l g own cc nL rt nm R mc ms Q k n pc (a0 :: a1 :: a2 :: a3 :: a4 :: a5 :: a6 :: t) (.int x :: st) h := z_istore hj h1 hd kk
theorem z_ii6 {a0 a1 a2 a3 a4 a5 : Option Value} {t : List (Option Value)} {d x : Int} (hj : 6 < nL) (h1 : zk1 (a0 :: a1 :: a2 :: a3 :: a4 :: a5 :: some (.int (iz x)) :: t) 6 = true) (hd : decode cc pc = .ok (.iinc 6 d, 3)) (kk : zJ l g own cc nL rt nm R mc ms Q k n (pc + 3) (a0 :: a1 :: a2 :: a3 :: a4 :: a5 :: some (.int (iz (x + d))) :: t) st h) : zJ l g own cc nL rt nm R mc ms Q k n pc (a0 :: a1 :: a2 :: a3 :: a4 :: a5 :: some (.int (iz x)) :: t) st h := z_iinc rfl hj h1 hd kk
theorem z_ls6 {a0 a1 a2 a3 a4 a5 a6 a7 : Option Value} {t : List (Option Value)} {x : Int64} (hj : 6 + 1 < nL) (h1 : zk1 (a0 :: a1 :: a2 :: a3 :: a4 :: a5 :: a6 :: a7 :: t) 6 = true) (hd : decode cc pc = .ok (.lstore 6, 2)) (kk : zJ l g own cc nL rt nm R mc ms Q k n (pc + 2) (a0 :: a1 :: a2 :: a3 :: a4 :: a5 :: some (.long x) :: none :: t) st h) : zJ l g own cc nL rt nm R mc ms Q k n pc (a0 :: a1 :: a2 :: a3 :: a4 :: a5 :: a6 :: a7 :: t) (.long x :: st) h := z_lstore hj h1 hd kk
theorem z_is7 {a0 a1 a2 a3 a4 a5 a6 a7 : Option Value} {t : List (Option Value)} {x : Int32} (hj : 7 < nL) (h1 : zk1 (a0 :: a1 :: a2 :: a3 :: a4 :: a5 :: a6 :: a7 :: t) 7 = true) (hd : decode cc pc = .ok (.istore 7, 2)) (kk : zJ l g own cc nL rt nm R mc ms Q k n (pc + 2) (a0 :: a1 :: a2 :: a3 :: a4 :: a5 :: a6 :: some (.int x) :: t) st h) : zJ l g own cc nL rt nm R mc ms Q k n pc (a0 :: a1 :: a2 :: a3 :: a4 :: a5 :: a6 :: a7 :: t) (.int x :: st) h := z_istore hj h1 hd kk
theorem z_ii7 {a0 a1 a2 a3 a4 a5 a6 : Option Value} {t : List (Option Value)} {d x : Int} (hj : 7 < nL) (h1 : zk1 (a0 :: a1 :: a2 :: a3 :: a4 :: a5 :: a6 :: some (.int (iz x)) :: t) 7 = true) (hd : decode cc pc = .ok (.iinc 7 d, 3)) (kk : zJ l g own cc nL rt nm R mc ms Q k n (pc + 3) (a0 :: a1 :: a2 :: a3 :: a4 :: a5 :: a6 :: some (.int (iz (x + d))) :: t) st h) : zJ l g own cc nL rt nm R mc ms Q k n pc (a0 :: a1 :: a2 :: a3 :: a4 :: a5 :: a6 :: some (.int (iz x)) :: t) st h := z_iinc rfl hj h1 hd kk
theorem z_ls7 {a0 a1 a2 a3 a4 a5 a6 a7 a8 : Option Value} {t : List (Option Value)} {x : Int64} (hj : 7 + 1 < nL) (h1 : zk1 (a0 :: a1 :: a2 :: a3 :: a4 :: a5 :: a6 :: a7 :: a8 :: t) 7 = true) (hd : decode cc pc = .ok (.lstore 7, 2)) (kk : zJ l g own cc nL rt nm R mc ms Q k n (pc + 2) (a0 :: a1 :: a2 :: a3 :: a4 :: a5 :: a6 :: some (.long x) :: none :: t) st h) : zJ l g own cc nL rt nm R mc ms Q k n pc (a0 :: a1 :: a2 :: a3 :: a4 :: a5 :: a6 :: a7 :: a8 :: t) (.long x :: st) h := z_lstore hj h1 hd kk
theorem z_is8 {a0 a1 a2 a3 a4 a5 a6 a7 a8 : Option Value} {t : List (Option Value)} {x : Int32} (hj : 8 < nL) (h1 : zk1 (a0 :: a1 :: a2 :: a3 :: a4 :: a5 :: a6 :: a7 :: a8 :: t) 8 = true) (hd : decode cc pc = .ok (.istore 8, 2)) (kk : zJ l g own cc nL rt nm R mc ms Q k n (pc + 2) (a0 :: a1 :: a2 :: a3 :: a4 :: a5 :: a6 :: a7 :: some (.int x) :: t) st h) : zJ l g own cc nL rt nm R mc ms Q k n pc (a0 :: a1 :: a2 :: a3 :: a4 :: a5 :: a6 :: a7 :: a8 :: t) (.int x :: st) h := z_istore hj h1 hd kk
theorem z_ii8 {a0 a1 a2 a3 a4 a5 a6 a7 : Option Value} {t : List (Option Value)} {d x : Int} (hj : 8 < nL) (h1 : zk1 (a0 :: a1 :: a2 :: a3 :: a4 :: a5 :: a6 :: a7 :: some (.int (iz x)) :: t) 8 = true) (hd : decode cc pc = .ok (.iinc 8 d, 3)) (kk : zJ l g own cc nL rt nm R mc ms Q k n (pc + 3) (a0 :: a1 :: a2 :: a3 :: a4 :: a5 :: a6 :: a7 :: some (.int (iz (x + d))) :: t) st h) : zJ l g own cc nL rt nm R mc ms Q k n pc (a0 :: a1 :: a2 :: a3 :: a4 :: a5 :: a6 :: a7 :: some (.int (iz x)) :: t) st h := z_iinc rfl hj h1 hd kk
theorem z_ls8 {a0 a1 a2 a3 a4 a5 a6 a7 a8 a9 : Option Value} {t : List (Option Value)} {x : Int64} (hj : 8 + 1 < nL) (h1 : zk1 (a0 :: a1 :: a2 :: a3 :: a4 :: a5 :: a6 :: a7 :: a8 :: a9 :: t) 8 = true) (hd : decode cc pc = .ok (.lstore 8, 2)) (kk : zJ l g own cc nL rt nm R mc ms Q k n (pc + 2) (a0 :: a1 :: a2 :: a3 :: a4 :: a5 :: a6 :: a7 :: some (.long x) :: none :: t) st h) : zJ l g own cc nL rt nm R mc ms Q k n pc (a0 :: a1 :: a2 :: a3 :: a4 :: a5 :: a6 :: a7 :: a8 :: a9 :: t) (.long x :: st) h := z_lstore hj h1 hd kk
theorem z_is9 {a0 a1 a2 a3 a4 a5 a6 a7 a8 a9 : Option Value} {t : List (Option Value)} {x : Int32} (hj : 9 < nL) (h1 : zk1 (a0 :: a1 :: a2 :: a3 :: a4 :: a5 :: a6 :: a7 :: a8 :: a9 :: t) 9 = true) (hd : decode cc pc = .ok (.istore 9, 2)) (kk : zJ l g own cc nL rt nm R mc ms Q k n (pc + 2) (a0 :: a1 :: a2 :: a3 :: a4 :: a5 :: a6 :: a7 :: a8 :: some (.int x) :: t) st h) : zJ l g own cc nL rt nm R mc ms Q k n pc (a0 :: a1 :: a2 :: a3 :: a4 :: a5 :: a6 :: a7 :: a8 :: a9 :: t) (.int x :: st) h := z_istore hj h1 hd kk
theorem z_ii9 {a0 a1 a2 a3 a4 a5 a6 a7 a8 : Option Value} {t : List (Option Value)} {d x : Int} (hj : 9 < nL) (h1 : zk1 (a0 :: a1 :: a2 :: a3 :: a4 :: a5 :: a6 :: a7 :: a8 :: some (.int (iz x)) :: t) 9 = true) (hd : decode cc pc = .ok (.iinc 9 d, 3)) (kk : zJ l g own cc nL rt nm R mc ms Q k n (pc + 3) (a0 :: a1 :: a2 :: a3 :: a4 :: a5 :: a6 :: a7 :: a8 :: some (.int (iz (x + d))) :: t) st h) : zJ l g own cc nL rt nm R mc ms Q k n pc (a0 :: a1 :: a2 :: a3 :: a4 :: a5 :: a6 :: a7 :: a8 :: some (.int (iz x)) :: t) st h := z_iinc rfl hj h1 hd kk
theorem z_ls9 {a0 a1 a2 a3 a4 a5 a6 a7 a8 a9 a10 : Option Value} {t : List (Option Value)} {x : Int64} (hj : 9 + 1 < nL) (h1 : zk1 (a0 :: a1 :: a2 :: a3 :: a4 :: a5 :: a6 :: a7 :: a8 :: a9 :: a10 :: t) 9 = true) (hd : decode cc pc = .ok (.lstore 9, 2)) (kk : zJ l g own cc nL rt nm R mc ms Q k n (pc + 2) (a0 :: a1 :: a2 :: a3 :: a4 :: a5 :: a6 :: a7 :: a8 :: some (.long x) :: none :: t) st h) : zJ l g own cc nL rt nm R mc ms Q k n pc (a0 :: a1 :: a2 :: a3 :: a4 :: a5 :: a6 :: a7 :: a8 :: a9 :: a10 :: t) (.long x :: st) h := z_lstore hj h1 hd kk
theorem z_is10 {a0 a1 a2 a3 a4 a5 a6 a7 a8 a9 a10 : Option Value} {t : List (Option Value)} {x : Int32} (hj : 10 < nL) (h1 : zk1 (a0 :: a1 :: a2 :: a3 :: a4 :: a5 :: a6 :: a7 :: a8 :: a9 :: a10 :: t) 10 = true) (hd : decode cc pc = .ok (.istore 10, 2)) (kk : zJ l g own cc nL rt nm R mc ms Q k n (pc + 2) (a0 :: a1 :: a2 :: a3 :: a4 :: a5 :: a6 :: a7 :: a8 :: a9 :: some (.int x) :: t) st h) : zJ l g own cc nL rt nm R mc ms Q k n pc (a0 :: a1 :: a2 :: a3 :: a4 :: a5 :: a6 :: a7 :: a8 :: a9 :: a10 :: t) (.int x :: st) h := z_istore hj h1 hd kk
theorem z_ii10 {a0 a1 a2 a3 a4 a5 a6 a7 a8 a9 : Option Value} {t : List (Option Value)} {d x : Int} (hj : 10 < nL) (h1 : zk1 (a0 :: a1 :: a2 :: a3 :: a4 :: a5 :: a6 :: a7 :: a8 :: a9 :: some (.int (iz x)) :: t) 10 = true) (hd : decode cc pc = .ok (.iinc 10 d, 3)) (kk : zJ l g own cc nL rt nm R mc ms Q k n (pc + 3) (a0 :: a1 :: a2 :: a3 :: a4 :: a5 :: a6 :: a7 :: a8 :: a9 :: some (.int (iz (x + d))) :: t) st h) : zJ l g own cc nL rt nm R mc ms Q k n pc (a0 :: a1 :: a2 :: a3 :: a4 :: a5 :: a6 :: a7 :: a8 :: a9 :: some (.int (iz x)) :: t) st h := z_iinc rfl hj h1 hd kk
theorem z_ls10 {a0 a1 a2 a3 a4 a5 a6 a7 a8 a9 a10 a11 : Option Value} {t : List (Option Value)} {x : Int64} (hj : 10 + 1 < nL) (h1 : zk1 (a0 :: a1 :: a2 :: a3 :: a4 :: a5 :: a6 :: a7 :: a8 :: a9 :: a10 :: a11 :: t) 10 = true) (hd : decode cc pc = .ok (.lstore 10, 2)) (kk : zJ l g own cc nL rt nm R mc ms Q k n (pc + 2) (a0 :: a1 :: a2 :: a3 :: a4 :: a5 :: a6 :: a7 :: a8 :: a9 :: some (.long x) :: none :: t) st h) : zJ l g own cc nL rt nm R mc ms Q k n pc (a0 :: a1 :: a2 :: a3 :: a4 :: a5 :: a6 :: a7 :: a8 :: a9 :: a10 :: a11 :: t) (.long x :: st) h := z_lstore hj h1 hd kk
theorem z_is11 {a0 a1 a2 a3 a4 a5 a6 a7 a8 a9 a10 a11 : Option Value} {t : List (Option Value)} {x : Int32} (hj : 11 < nL) (h1 : zk1 (a0 :: a1 :: a2 :: a3 :: a4 :: a5 :: a6 :: a7 :: a8 :: a9 :: a10 :: a11 :: t) 11 = true) (hd : decode cc pc = .ok (.istore 11, 2)) (kk : zJ l g own cc nL rt nm R mc ms Q k n (pc + 2) (a0 :: a1 :: a2 :: a3 :: a4 :: a5 :: a6 :: a7 :: a8 :: a9 :: a10 :: some (.int x) :: t) st h) : zJ l g own cc nL rt nm R mc ms Q k n pc (a0 :: a1 :: a2 :: a3 :: a4 :: a5 :: a6 :: a7 :: a8 :: a9 :: a10 :: a11 :: t) (.int x :: st) h := z_istore hj h1 hd kk
theorem z_ii11 {a0 a1 a2 a3 a4 a5 a6 a7 a8 a9 a10 : Option Value} {t : List (Option Value)} {d x : Int} (hj : 11 < nL) (h1 : zk1 (a0 :: a1 :: a2 :: a3 :: a4 :: a5 :: a6 :: a7 :: a8 :: a9 :: a10 :: some (.int (iz x)) :: t) 11 = true) (hd : decode cc pc = .ok (.iinc 11 d, 3)) (kk : zJ l g own cc nL rt nm R mc ms Q k n (pc + 3) (a0 :: a1 :: a2 :: a3 :: a4 :: a5 :: a6 :: a7 :: a8 :: a9 :: a10 :: some (.int (iz (x + d))) :: t) st h) : zJ l g own cc nL rt nm R mc ms Q k n pc (a0 :: a1 :: a2 :: a3 :: a4 :: a5 :: a6 :: a7 :: a8 :: a9 :: a10 :: some (.int (iz x)) :: t) st h := z_iinc rfl hj h1 hd kk
theorem z_ls11 {a0 a1 a2 a3 a4 a5 a6 a7 a8 a9 a10 a11 a12 : Option Value} {t : List (Option Value)} {x : Int64} (hj : 11 + 1 < nL) (h1 : zk1 (a0 :: a1 :: a2 :: a3 :: a4 :: a5 :: a6 :: a7 :: a8 :: a9 :: a10 :: a11 :: a12 :: t) 11 = true) (hd : decode cc pc = .ok (.lstore 11, 2)) (kk : zJ l g own cc nL rt nm R mc ms Q k n (pc + 2) (a0 :: a1 :: a2 :: a3 :: a4 :: a5 :: a6 :: a7 :: a8 :: a9 :: a10 :: some (.long x) :: none :: t) st h) : zJ l g own cc nL rt nm R mc ms Q k n pc (a0 :: a1 :: a2 :: a3 :: a4 :: a5 :: a6 :: a7 :: a8 :: a9 :: a10 :: a11 :: a12 :: t) (.long x :: st) h := z_lstore hj h1 hd kk
theorem z_is12 {a0 a1 a2 a3 a4 a5 a6 a7 a8 a9 a10 a11 a12 : Option Value} {t : List (Option Value)} {x : Int32} (hj : 12 < nL) (h1 : zk1 (a0 :: a1 :: a2 :: a3 :: a4 :: a5 :: a6 :: a7 :: a8 :: a9 :: a10 :: a11 :: a12 :: t) 12 = true) (hd : decode cc pc = .ok (.istore 12, 2)) (kk : zJ l g own cc nL rt nm R mc ms Q k n (pc + 2) (a0 :: a1 :: a2 :: a3 :: a4 :: a5 :: a6 :: a7 :: a8 :: a9 :: a10 :: a11 :: some (.int x) :: t) st h) : zJ l g own cc nL rt nm R mc ms Q k n pc (a0 :: a1 :: a2 :: a3 :: a4 :: a5 :: a6 :: a7 :: a8 :: a9 :: a10 :: a11 :: a12 :: t) (.int x :: st) h := z_istore hj h1 hd kk
theorem z_ii12 {a0 a1 a2 a3 a4 a5 a6 a7 a8 a9 a10 a11 : Option Value} {t : List (Option Value)} {d x : Int} (hj : 12 < nL) (h1 : zk1 (a0 :: a1 :: a2 :: a3 :: a4 :: a5 :: a6 :: a7 :: a8 :: a9 :: a10 :: a11 :: some (.int (iz x)) :: t) 12 = true) (hd : decode cc pc = .ok (.iinc 12 d, 3)) (kk : zJ l g own cc nL rt nm R mc ms Q k n (pc + 3) (a0 :: a1 :: a2 :: a3 :: a4 :: a5 :: a6 :: a7 :: a8 :: a9 :: a10 :: a11 :: some (.int (iz (x + d))) :: t) st h) : zJ l g own cc nL rt nm R mc ms Q k n pc (a0 :: a1 :: a2 :: a3 :: a4 :: a5 :: a6 :: a7 :: a8 :: a9 :: a10 :: a11 :: some (.int (iz x)) :: t) st h := z_iinc rfl hj h1 hd kk
theorem z_ls12 {a0 a1 a2 a3 a4 a5 a6 a7 a8 a9 a10 a11 a12 a13 : Option Value} {t : List (Option Value)} {x : Int64} (hj : 12 + 1 < nL) (h1 : zk1 (a0 :: a1 :: a2 :: a3 :: a4 :: a5 :: a6 :: a7 :: a8 :: a9 :: a10 :: a11 :: a12 :: a13 :: t) 12 = true) (hd : decode cc pc = .ok (.lstore 12, 2)) (kk : zJ l g own cc nL rt nm R mc ms Q k n (pc + 2) (a0 :: a1 :: a2 :: a3 :: a4 :: a5 :: a6 :: a7 :: a8 :: a9 :: a10 :: a11 :: some (.long x) :: none :: t) st h) : zJ l g own cc nL rt nm R mc ms Q k n pc (a0 :: a1 :: a2 :: a3 :: a4 :: a5 :: a6 :: a7 :: a8 :: a9 :: a10 :: a11 :: a12 :: a13 :: t) (.long x :: st) h := z_lstore hj h1 hd kk
theorem z_is13 {a0 a1 a2 a3 a4 a5 a6 a7 a8 a9 a10 a11 a12 a13 : Option Value} {t : List (Option Value)} {x : Int32} (hj : 13 < nL) (h1 : zk1 (a0 :: a1 :: a2 :: a3 :: a4 :: a5 :: a6 :: a7 :: a8 :: a9 :: a10 :: a11 :: a12 :: a13 :: t) 13 = true) (hd : decode cc pc = .ok (.istore 13, 2)) (kk : zJ l g own cc nL rt nm R mc ms Q k n (pc + 2) (a0 :: a1 :: a2 :: a3 :: a4 :: a5 :: a6 :: a7 :: a8 :: a9 :: a10 :: a11 :: a12 :: some (.int x) :: t) st h) : zJ l g own cc nL rt nm R mc ms Q k n pc (a0 :: a1 :: a2 :: a3 :: a4 :: a5 :: a6 :: a7 :: a8 :: a9 :: a10 :: a11 :: a12 :: a13 :: t) (.int x :: st) h := z_istore hj h1 hd kk
theorem z_ii13 {a0 a1 a2 a3 a4 a5 a6 a7 a8 a9 a10 a11 a12 : Option Value} {t : List (Option Value)} {d x : Int} (hj : 13 < nL) (h1 : zk1 (a0 :: a1 :: a2 :: a3 :: a4 :: a5 :: a6 :: a7 :: a8 :: a9 :: a10 :: a11 :: a12 :: some (.int (iz x)) :: t) 13 = true) (hd : decode cc pc = .ok (.iinc 13 d, 3)) (kk : zJ l g own cc nL rt nm R mc ms Q k n (pc + 3) (a0 :: a1 :: a2 :: a3 :: a4 :: a5 :: a6 :: a7 :: a8 :: a9 :: a10 :: a11 :: a12 :: some (.int (iz (x + d))) :: t) st h) : zJ l g own cc nL rt nm R mc ms Q k n pc (a0 :: a1 :: a2 :: a3 :: a4 :: a5 :: a6 :: a7 :: a8 :: a9 :: a10 :: a11 :: a12 :: some (.int (iz x)) :: t) st h := z_iinc rfl hj h1 hd kk
theorem z_ls13 {a0 a1 a2 a3 a4 a5 a6 a7 a8 a9 a10 a11 a12 a13 a14 : Option Value} {t : List (Option Value)} {x : Int64} (hj : 13 + 1 < nL) (h1 : zk1 (a0 :: a1 :: a2 :: a3 :: a4 :: a5 :: a6 :: a7 :: a8 :: a9 :: a10 :: a11 :: a12 :: a13 :: a14 :: t) 13 = true) (hd : decode cc pc = .ok (.lstore 13, 2)) (kk : zJ l g own cc nL rt nm R mc ms Q k n (pc + 2) (a0 :: a1 :: a2 :: a3 :: a4 :: a5 :: a6 :: a7 :: a8 :: a9 :: a10 :: a11 :: a12 :: some (.long x) :: none :: t) st h) : zJ l g own cc nL rt nm R mc ms Q k n pc (a0 :: a1 :: a2 :: a3 :: a4 :: a5 :: a6 :: a7 :: a8 :: a9 :: a10 :: a11 :: a12 :: a13 :: a14 :: t) (.long x :: st) h := z_lstore hj h1 hd kk
theorem z_is14 {a0 a1 a2 a3 a4 a5 a6 a7 a8 a9 a10 a11 a12 a13 a14 : Option Value} {t : List (Option Value)} {x : Int32} (hj : 14 < nL) (h1 : zk1 (a0 :: a1 :: a2 :: a3 :: a4 :: a5 :: a6 :: a7 :: a8 :: a9 :: a10 :: a11 :: a12 :: a13 :: a14 :: t) 14 = true) (hd : decode cc pc = .ok (.istore 14, 2)) (kk : zJ l g own cc nL rt nm R mc ms Q k n (pc + 2) (a0 :: a1 :: a2 :: a3 :: a4 :: a5 :: a6 :: a7 :: a8 :: a9 :: a10 :: a11 :: a12 :: a13 :: some (.int x) :: t) st h) : zJ l g own cc nL rt nm R mc ms Q k n pc (a0 :: a1 :: a2 :: a3 :: a4 :: a5 :: a6 :: a7 :: a8 :: a9 :: a10 :: a11 :: a12 :: a13 :: a14 :: t) (.int x :: st) h := z_istore hj h1 hd kk
theorem z_ii14 {a0 a1 a2 a3 a4 a5 a6 a7 a8 a9 a10 a11 a12 a13 : Option Value} {t : List (Option Value)} {d x : Int} (hj : 14 < nL) (h1 : zk1 (a0 :: a1 :: a2 :: a3 :: a4 :: a5 :: a6 :: a7 :: a8 :: a9 :: a10 :: a11 :: a12 :: a13 :: some (.int (iz x)) :: t) 14 = true) (hd : decode cc pc = .ok (.iinc 14 d, 3)) (kk : zJ l g own cc nL rt nm R mc ms Q k n (pc + 3) (a0 :: a1 :: a2 :: a3 :: a4 :: a5 :: a6 :: a7 :: a8 :: a9 :: a10 :: a11 :: a12 :: a13 :: some (.int (iz (x + d))) :: t) st h) : zJ l g own cc nL rt nm R mc ms Q k n pc (a0 :: a1 :: a2 :: a3 :: a4 :: a5 :: a6 :: a7 :: a8 :: a9 :: a10 :: a11 :: a12 :: a13 :: some (.int (iz x)) :: t) st h := z_iinc rfl hj h1 hd kk
theorem z_ls14 {a0 a1 a2 a3 a4 a5 a6 a7 a8 a9 a10 a11 a12 a13 a14 a15 : Option Value} {t : List (Option Value)} {x : Int64} (hj : 14 + 1 < nL) (h1 : zk1 (a0 :: a1 :: a2 :: a3 :: a4 :: a5 :: a6 :: a7 :: a8 :: a9 :: a10 :: a11 :: a12 :: a13 :: a14 :: a15 :: t) 14 = true) (hd : decode cc pc = .ok (.lstore 14, 2)) (kk : zJ l g own cc nL rt nm R mc ms Q k n (pc + 2) (a0 :: a1 :: a2 :: a3 :: a4 :: a5 :: a6 :: a7 :: a8 :: a9 :: a10 :: a11 :: a12 :: a13 :: some (.long x) :: none :: t) st h) : zJ l g own cc nL rt nm R mc ms Q k n pc (a0 :: a1 :: a2 :: a3 :: a4 :: a5 :: a6 :: a7 :: a8 :: a9 :: a10 :: a11 :: a12 :: a13 :: a14 :: a15 :: t) (.long x :: st) h := z_lstore hj h1 hd kk
theorem z_iadd {a b : Int} (hd : decode cc pc = .ok (.iadd, 1)) (kk : zJ l g own cc nL rt nm R mc ms Q k n (pc + 1) ls (.int (iz (a + b)) :: st) h) : zJ l g own cc nL rt nm R mc ms Q k n pc ls (.int (iz b) :: .int (iz a) :: st) h := by
  intro p e s m args below meth c H locs la hC hw hS hl
  exact lv_iadd hC.1 hC.2.1 hd (by rw [iz_add]; exact kk p e s m args below meth c H locs la hC hw hS hl)
theorem z_isub {a b : Int} (hd : decode cc pc = .ok (.isub, 1)) (kk : zJ l g own cc nL rt nm R mc ms Q k n (pc + 1) ls (.int (iz (a - b)) :: st) h) : zJ l g own cc nL rt nm R mc ms Q k n pc ls (.int (iz b) :: .int (iz a) :: st) h := by
  intro p e s m args below meth c H locs la hC hw hS hl
  exact lv_isub hC.1 hC.2.1 hd (by rw [iz_sub]; exact kk p e s m args below meth c H locs la hC hw hS hl)
theorem z_imul {a b : Int} (hd : decode cc pc = .ok (.imul, 1)) (kk : zJ l g own cc nL rt nm R mc ms Q k n (pc + 1) ls (.int (iz (a * b)) :: st) h) : zJ l g own cc nL rt nm R mc ms Q k n pc ls (.int (iz b) :: .int (iz a) :: st) h := by
  intro p e s m args below meth c H locs la hC hw hS hl
  exact lv_imul hC.1 hC.2.1 hd (by rw [iz_mul]; exact kk p e s m args below meth c H locs la hC hw hS hl)
theorem z_ladd {a b : Int} (hd : decode cc pc = .ok (.ladd, 1)) (kk : zJ l g own cc nL rt nm R mc ms Q k n (pc + 1) ls (.long (lz (a + b)) :: st) h) : zJ l g own cc nL rt nm R mc ms Q k n pc ls (.long (lz b) :: .long (lz a) :: st) h := by
  intro p e s m args below meth c H locs la hC hw hS hl
  exact lv_ladd hC.1 hC.2.1 hd (by rw [lz_add]; exact kk p e s m args below meth c H locs la hC hw hS hl)
theorem z_lsub {a b : Int} (hd : decode cc pc = .ok (.lsub, 1)) (kk : zJ l g own cc nL rt nm R mc ms Q k n (pc + 1) ls (.long (lz (a - b)) :: st) h) : zJ l g own cc nL rt nm R mc ms Q k n pc ls (.long (lz b) :: .long (lz a) :: st) h := by
  intro p e s m args below meth c H locs la hC hw hS hl
  exact lv_lsub hC.1 hC.2.1 hd (by rw [lz_sub]; exact kk p e s m args below meth c H locs la hC hw hS hl)
theorem z_lmul {a b : Int} (hd : decode cc pc = .ok (.lmul, 1)) (kk : zJ l g own cc nL rt nm R mc ms Q k n (pc + 1) ls (.long (lz (a * b)) :: st) h) : zJ l g own cc nL rt nm R mc ms Q k n pc ls (.long (lz b) :: .long (lz a) :: st) h := by
  intro p e s m args below meth c H locs la hC hw hS hl
  exact lv_lmul hC.1 hC.2.1 hd (by rw [lz_mul]; exact kk p e s m args below meth c H locs la hC hw hS hl)
theorem z_ineg {a : Int} (hd : decode cc pc = .ok (.ineg, 1)) (kk : zJ l g own cc nL rt nm R mc ms Q k n (pc + 1) ls (.int (iz (-a)) :: st) h) : zJ l g own cc nL rt nm R mc ms Q k n pc ls (.int (iz a) :: st) h := by
  intro p e s m args below meth c H locs la hC hw hS hl
  exact lv_ineg hC.1 hC.2.1 hd (by rw [iz_neg]; exact kk p e s m args below meth c H locs la hC hw hS hl)
theorem z_ldiv {a b : Int} (ha : lr a) (h0 : 0 ≤ a) (hb : lr b) (h1 : 0 < b) (hd : decode cc pc = .ok (.ldiv, 1)) (kk : zJ l g own cc nL rt nm R mc ms Q k n (pc + 1) ls (.long (lz (a / b)) :: st) h) : zJ l g own cc nL rt nm R mc ms Q k n pc ls (.long (lz b) :: .long (lz a) :: st) h := by
  intro p e s m args below meth c H locs la hC hw hS hl
  exact lv_ldiv hC.1 hC.2.1 hd (fun e0 => by have := (lz_eq hb (show lr 0 from ⟨by decide, by decide⟩)).mp e0; omega) (by rw [lz_div ha h0 hb h1]; exact kk p e s m args below meth c H locs la hC hw hS hl)
theorem z_iand {x y : Int32} (hd : decode cc pc = .ok (.iand, 1)) (kk : zJ l g own cc nL rt nm R mc ms Q k n (pc + 1) ls (.int (x &&& y) :: st) h) : zJ l g own cc nL rt nm R mc ms Q k n pc ls (.int y :: .int x :: st) h := by
  intro p e s m args below meth c H locs la hC hw hS hl
  exact lv_iand hC.1 hC.2.1 hd (kk p e s m args below meth c H locs la hC hw hS hl)
theorem z_ishr {x y : Int32} (hd : decode cc pc = .ok (.ishr, 1)) (kk : zJ l g own cc nL rt nm R mc ms Q k n (pc + 1) ls (.int (x >>> (y &&& 31)) :: st) h) : zJ l g own cc nL rt nm R mc ms Q k n pc ls (.int y :: .int x :: st) h := by
  intro p e s m args below meth c H locs la hC hw hS hl
  exact lv_ishr hC.1 hC.2.1 hd (kk p e s m args below meth c H locs la hC hw hS hl)
theorem z_iushr {x y : Int32} (hd : decode cc pc = .ok (.iushr, 1)) (kk : zJ l g own cc nL rt nm R mc ms Q k n (pc + 1) ls (.int (x.toUInt32 >>> (y.toUInt32 &&& Int32.toUInt32 31)).toInt32 :: st) h) : zJ l g own cc nL rt nm R mc ms Q k n pc ls (.int y :: .int x :: st) h := by
  intro p e s m args below meth c H locs la hC hw hS hl
  exact lv_iushr hC.1 hC.2.1 hd rfl (kk p e s m args below meth c H locs la hC hw hS hl)
theorem z_i2l {a : Int} (ha : ir a) (hd : decode cc pc = .ok (.i2l, 1)) (kk : zJ l g own cc nL rt nm R mc ms Q k n (pc + 1) ls (.long (lz a) :: st) h) : zJ l g own cc nL rt nm R mc ms Q k n pc ls (.int (iz a) :: st) h := by
  intro p e s m args below meth c H locs la hC hw hS hl
  exact lv_i2l hC.1 hC.2.1 hd (iz_l ha) (kk p e s m args below meth c H locs la hC hw hS hl)
theorem z_l2i {a : Int} (hd : decode cc pc = .ok (.l2i, 1)) (kk : zJ l g own cc nL rt nm R mc ms Q k n (pc + 1) ls (.int (iz a) :: st) h) : zJ l g own cc nL rt nm R mc ms Q k n pc ls (.long (lz a) :: st) h := by
  intro p e s m args below meth c H locs la hC hw hS hl
  exact lv_l2i hC.1 hC.2.1 hd (lz_i a) (kk p e s m args below meth c H locs la hC hw hS hl)
theorem z_lcmp {a b : Int} (ha : lr a) (hb : lr b) (hd : decode cc pc = .ok (.lcmp, 1)) (kk : zJ l g own cc nL rt nm R mc ms Q k n (pc + 1) ls (.int (iz (if b < a then 1 else if a = b then 0 else -1)) :: st) h) : zJ l g own cc nL rt nm R mc ms Q k n pc ls (.long (lz b) :: .long (lz a) :: st) h := by
  intro p e s m args below meth c H locs la hC hw hS hl
  refine W.lcmp hC.1 hC.2.1 hd ?_
  have e9 : lg_cmp (lz a) (lz b) = iz (if b < a then 1 else if a = b then 0 else -1) := by
    unfold lg_cmp
    by_cases h1 : b < a
    · simp [(lz_lt hb ha).mpr h1, h1]; rfl
    · by_cases h2 : a = b
      · subst h2; simp; rfl
      · have h3 : ¬ lz b < lz a := fun q => h1 ((lz_lt hb ha).mp q)
        have h4 : ¬ lz a = lz b := fun q => h2 ((lz_eq ha hb).mp q)
        simp [h1, h2, h3, h4]; rfl
  rw [e9]
  exact kk p e s m args below meth c H locs la hC hw hS hl
theorem z_dup {v : Value} (hv : v.category = 1) (hd : decode cc pc = .ok (.dup, 1)) (kk : zJ l g own cc nL rt nm R mc ms Q k n (pc + 1) ls (v :: v :: st) h) : zJ l g own cc nL rt nm R mc ms Q k n pc ls (v :: st) h := by
  intro p e s m args below meth c H locs la hC hw hS hl
  exact lv_dup hC.1 hC.2.1 hd hv (kk p e s m args below meth c H locs la hC hw hS hl)
theorem z_dup2 {v u : Value} (hv : v.category = 1) (hu : u.category = 1) (hd : decode cc pc = .ok (.dup2, 1)) (kk : zJ l g own cc nL rt nm R mc ms Q k n (pc + 1) ls (v :: u :: v :: u :: st) h) : zJ l g own cc nL rt nm R mc ms Q k n pc ls (v :: u :: st) h := by
  intro p e s m args below meth c H locs la hC hw hS hl
  exact lv_dup2_11 hC.1 hC.2.1 hd hv hu (kk p e s m args below meth c H locs la hC hw hS hl)
theorem z_dup2l {v : Value} (hv : v.category = 2) (hd : decode cc pc = .ok (.dup2, 1)) (kk : zJ l g own cc nL rt nm R mc ms Q k n (pc + 1) ls (v :: v :: st) h) : zJ l g own cc nL rt nm R mc ms Q k n pc ls (v :: st) h := by
  intro p e s m args below meth c H locs la hC hw hS hl
  exact lv_dup2_2 hC.1 hC.2.1 hd hv (kk p e s m args below meth c H locs la hC hw hS hl)
theorem z_pop2 {v : Value} (hv : v.category = 2) (hd : decode cc pc = .ok (.pop2, 1)) (kk : zJ l g own cc nL rt nm R mc ms Q k n (pc + 1) ls st h) : zJ l g own cc nL rt nm R mc ms Q k n pc ls (v :: st) h := by
  intro p e s m args below meth c H locs la hC hw hS hl
  exact lv_pop2_2 hC.1 hC.2.1 hd hv (kk p e s m args below meth c H locs la hC hw hS hl)
theorem z_icmp_eq {a b : Int} (ha : ir a) (hb : ir b) {off : Int} (tgt : Nat) (ht : (pc : Int) + off = (tgt : Int)) (hd : decode cc pc = .ok (.if_icmp .eq off, 3)) (kt : a = b → zJ l g own cc nL rt nm R mc ms Q k n tgt ls st h) (kf : ¬ a = b → zJ l g own cc nL rt nm R mc ms Q k n (pc + 3) ls st h) : zJ l g own cc nL rt nm R mc ms Q k n pc ls (.int (iz b) :: .int (iz a) :: st) h := by
  intro p e s m args below meth c H locs la hC hw hS hl
  exact lv_icmp_eq hC.1 hC.2.1 hd ht (fun q => kt ((iz_eq ha hb).mp q) p e s m args below meth c H locs la hC hw hS hl) (fun q => kf (fun z => q ((iz_eq ha hb).mpr z)) p e s m args below meth c H locs la hC hw hS hl)
theorem z_if_eq {a : Int} (ha : ir a) {off : Int} (tgt : Nat) (ht : (pc : Int) + off = (tgt : Int)) (hd : decode cc pc = .ok (.ifCond .eq off, 3)) (kt : a = 0 → zJ l g own cc nL rt nm R mc ms Q k n tgt ls st h) (kf : ¬ a = 0 → zJ l g own cc nL rt nm R mc ms Q k n (pc + 3) ls st h) : zJ l g own cc nL rt nm R mc ms Q k n pc ls (.int (iz a) :: st) h := by
  intro p e s m args below meth c H locs la hC hw hS hl
  have hb : ir 0 := ir_0
  exact lv_if_eq hC.1 hC.2.1 hd ht (fun q => kt ((iz_eq ha hb).mp q) p e s m args below meth c H locs la hC hw hS hl) (fun q => kf (fun z => q ((iz_eq ha hb).mpr z)) p e s m args below meth c H locs la hC hw hS hl)
theorem z_icmp_ne {a b : Int} (ha : ir a) (hb : ir b) {off : Int} (tgt : Nat) (ht : (pc : Int) + off = (tgt : Int)) (hd : decode cc pc = .ok (.if_icmp .ne off, 3)) (kt : ¬ a = b → zJ l g own cc nL rt nm R mc ms Q k n tgt ls st h) (kf : a = b → zJ l g own cc nL rt nm R mc ms Q k n (pc + 3) ls st h) : zJ l g own cc nL rt nm R mc ms Q k n pc ls (.int (iz b) :: .int (iz a) :: st) h := by
  intro p e s m args below meth c H locs la hC hw hS hl
  exact lv_icmp_ne hC.1 hC.2.1 hd ht (fun q => kt (fun z => q ((iz_eq ha hb).mpr z)) p e s m args below meth c H locs la hC hw hS hl) (fun q => kf ((iz_eq ha hb).mp q) p e s m args below meth c H locs la hC hw hS hl)
theorem z_if_ne {a : Int} (ha : ir a) {off : Int} (tgt : Nat) (ht : (pc : Int) + off = (tgt : Int)) (hd : decode cc pc = .ok (.ifCond .ne off, 3)) (kt : ¬ a = 0 → zJ l g own cc nL rt nm R mc ms Q k n tgt ls st h) (kf : a = 0 → zJ l g own cc nL rt nm R mc ms Q k n (pc + 3) ls st h) : zJ l g own cc nL rt nm R mc ms Q k n pc ls (.int (iz a) :: st) h := by
  intro p e s m args below meth c H locs la hC hw hS hl
  have hb : ir 0 := ir_0
  exact lv_if_ne hC.1 hC.2.1 hd ht (fun q => kt (fun z => q ((iz_eq ha hb).mpr z)) p e s m args below meth c H locs la hC hw hS hl) (fun q => kf ((iz_eq ha hb).mp q) p e s m args below meth c H locs la hC hw hS hl)
theorem z_icmp_lt {a b : Int} (ha : ir a) (hb : ir b) {off : Int} (tgt : Nat) (ht : (pc : Int) + off = (tgt : Int)) (hd : decode cc pc = .ok (.if_icmp .lt off, 3)) (kt : a < b → zJ l g own cc nL rt nm R mc ms Q k n tgt ls st h) (kf : b ≤ a → zJ l g own cc nL rt nm R mc ms Q k n (pc + 3) ls st h) : zJ l g own cc nL rt nm R mc ms Q k n pc ls (.int (iz b) :: .int (iz a) :: st) h := by
  intro p e s m args below meth c H locs la hC hw hS hl
  exact lv_icmp_lt hC.1 hC.2.1 hd ht (fun q => kt ((iz_lt ha hb).mp q) p e s m args below meth c H locs la hC hw hS hl) (fun q => kf (Int.not_lt.mp fun z => q ((iz_lt ha hb).mpr z)) p e s m args below meth c H locs la hC hw hS hl)
theorem z_if_lt {a : Int} (ha : ir a) {off : Int} (tgt : Nat) (ht : (pc : Int) + off = (tgt : Int)) (hd : decode cc pc = .ok (.ifCond .lt off, 3)) (kt : a < 0 → zJ l g own cc nL rt nm R mc ms Q k n tgt ls st h) (kf : 0 ≤ a → zJ l g own cc nL rt nm R mc ms Q k n (pc + 3) ls st h) : zJ l g own cc nL rt nm R mc ms Q k n pc ls (.int (iz a) :: st) h := by
  intro p e s m args below meth c H locs la hC hw hS hl
  have hb : ir 0 := ir_0
  exact lv_if_lt hC.1 hC.2.1 hd ht (fun q => kt ((iz_lt ha hb).mp q) p e s m args below meth c H locs la hC hw hS hl) (fun q => kf (Int.not_lt.mp fun z => q ((iz_lt ha hb).mpr z)) p e s m args below meth c H locs la hC hw hS hl)
theorem z_icmp_ge {a b : Int} (ha : ir a) (hb : ir b) {off : Int} (tgt : Nat) (ht : (pc : Int) + off = (tgt : Int)) (hd : decode cc pc = .ok (.if_icmp .ge off, 3)) (kt : b ≤ a → zJ l g own cc nL rt nm R mc ms Q k n tgt ls st h) (kf : a < b → zJ l g own cc nL rt nm R mc ms Q k n (pc + 3) ls st h) : zJ l g own cc nL rt nm R mc ms Q k n pc ls (.int (iz b) :: .int (iz a) :: st) h := by
  intro p e s m args below meth c H locs la hC hw hS hl
  exact lv_icmp_ge hC.1 hC.2.1 hd ht (fun q => kt ((iz_le hb ha).mp q) p e s m args below meth c H locs la hC hw hS hl) (fun q => kf (Int.not_le.mp fun z => q ((iz_le hb ha).mpr z)) p e s m args below meth c H locs la hC hw hS hl)
theorem z_if_ge {a : Int} (ha : ir a) {off : Int} (tgt : Nat) (ht : (pc : Int) + off = (tgt : Int)) (hd : decode cc pc = .ok (.ifCond .ge off, 3)) (kt : 0 ≤ a → zJ l g own cc nL rt nm R mc ms Q k n tgt ls st h) (kf : a < 0 → zJ l g own cc nL rt nm R mc ms Q k n (pc + 3) ls st h) : zJ l g own cc nL rt nm R mc ms Q k n pc ls (.int (iz a) :: st) h := by
  intro p e s m args below meth c H locs la hC hw hS hl
  have hb : ir 0 := ir_0
  exact lv_if_ge hC.1 hC.2.1 hd ht (fun q => kt ((iz_le hb ha).mp q) p e s m args below meth c H locs la hC hw hS hl) (fun q => kf (Int.not_le.mp fun z => q ((iz_le hb ha).mpr z)) p e s m args below meth c H locs la hC hw hS hl)
theorem z_icmp_gt {a b : Int} (ha : ir a) (hb : ir b) {off : Int} (tgt : Nat) (ht : (pc : Int) + off = (tgt : Int)) (hd : decode cc pc = .ok (.if_icmp .gt off, 3)) (kt : b < a → zJ l g own cc nL rt nm R mc ms Q k n tgt ls st h) (kf : a ≤ b → zJ l g own cc nL rt nm R mc ms Q k n (pc + 3) ls st h) : zJ l g own cc nL rt nm R mc ms Q k n pc ls (.int (iz b) :: .int (iz a) :: st) h := by
  intro p e s m args below meth c H locs la hC hw hS hl
  exact lv_icmp_gt hC.1 hC.2.1 hd ht (fun q => kt ((iz_lt hb ha).mp q) p e s m args below meth c H locs la hC hw hS hl) (fun q => kf (Int.not_lt.mp fun z => q ((iz_lt hb ha).mpr z)) p e s m args below meth c H locs la hC hw hS hl)
theorem z_if_gt {a : Int} (ha : ir a) {off : Int} (tgt : Nat) (ht : (pc : Int) + off = (tgt : Int)) (hd : decode cc pc = .ok (.ifCond .gt off, 3)) (kt : 0 < a → zJ l g own cc nL rt nm R mc ms Q k n tgt ls st h) (kf : a ≤ 0 → zJ l g own cc nL rt nm R mc ms Q k n (pc + 3) ls st h) : zJ l g own cc nL rt nm R mc ms Q k n pc ls (.int (iz a) :: st) h := by
  intro p e s m args below meth c H locs la hC hw hS hl
  have hb : ir 0 := ir_0
  exact lv_if_gt hC.1 hC.2.1 hd ht (fun q => kt ((iz_lt hb ha).mp q) p e s m args below meth c H locs la hC hw hS hl) (fun q => kf (Int.not_lt.mp fun z => q ((iz_lt hb ha).mpr z)) p e s m args below meth c H locs la hC hw hS hl)
theorem z_icmp_le {a b : Int} (ha : ir a) (hb : ir b) {off : Int} (tgt : Nat) (ht : (pc : Int) + off = (tgt : Int)) (hd : decode cc pc = .ok (.if_icmp .le off, 3)) (kt : a ≤ b → zJ l g own cc nL rt nm R mc ms Q k n tgt ls st h) (kf : b < a → zJ l g own cc nL rt nm R mc ms Q k n (pc + 3) ls st h) : zJ l g own cc nL rt nm R mc ms Q k n pc ls (.int (iz b) :: .int (iz a) :: st) h := by
  intro p e s m args below meth c H locs la hC hw hS hl
  exact lv_icmp_le hC.1 hC.2.1 hd ht (fun q => kt ((iz_le ha hb).mp q) p e s m args below meth c H locs la hC hw hS hl) (fun q => kf (Int.not_le.mp fun z => q ((iz_le ha hb).mpr z)) p e s m args below meth c H locs la hC hw hS hl)
theorem z_if_le {a : Int} (ha : ir a) {off : Int} (tgt : Nat) (ht : (pc : Int) + off = (tgt : Int)) (hd : decode cc pc = .ok (.ifCond .le off, 3)) (kt : a ≤ 0 → zJ l g own cc nL rt nm R mc ms Q k n tgt ls st h) (kf : 0 < a → zJ l g own cc nL rt nm R mc ms Q k n (pc + 3) ls st h) : zJ l g own cc nL rt nm R mc ms Q k n pc ls (.int (iz a) :: st) h := by
  intro p e s m args below meth c H locs la hC hw hS hl
  have hb : ir 0 := ir_0
  exact lv_if_le hC.1 hC.2.1 hd ht (fun q => kt ((iz_le ha hb).mp q) p e s m args below meth c H locs la hC hw hS hl) (fun q => kf (Int.not_le.mp fun z => q ((iz_le ha hb).mpr z)) p e s m args below meth c H locs la hC hw hS hl)
theorem z_goto {off : Int} (tgt : Nat) (ht : (pc : Int) + off = (tgt : Int)) (hd : decode cc pc = .ok (.goto off, 3)) (kk : zJ l g own cc nL rt nm R mc ms Q k n tgt ls st h) : zJ l g own cc nL rt nm R mc ms Q k n pc ls st h := by
  intro p e s m args below meth c H locs la hC hw hS hl
  exact lv_goto hC.1 hC.2.1 hd ht (kk p e s m args below meth c H locs la hC hw hS hl)
theorem z_ifnn {off : Int} {x : Nat} (tgt : Nat) (ht : (pc : Int) + off = (tgt : Int)) (hd : decode cc pc = .ok (.ifnonnull off, 3)) (kk : zJ l g own cc nL rt nm R mc ms Q k n tgt ls st h) : zJ l g own cc nL rt nm R mc ms Q k n pc ls (.ref x :: st) h := by
  intro p e s m args below meth c H locs la hC hw hS hl
  exact lv_ifnonnull hC.1 hC.2.1 hd ht (kk p e s m args below meth c H locs la hC hw hS hl)
theorem z_ifnnN {off : Int} (hd : decode cc pc = .ok (.ifnonnull off, 3)) (kk : zJ l g own cc nL rt nm R mc ms Q k n (pc + 3) ls st h) : zJ l g own cc nL rt nm R mc ms Q k n pc ls (.null :: st) h := by
  intro p e s m args below meth c H locs la hC hw hS hl
  exact lv_ifnonnullN hC.1 hC.2.1 hd (kk p e s m args below meth c H locs la hC hw hS hl)
theorem z_tsIn {dflt lo hi : Int} {offs : Array Int} {len : Nat} {a off : Int} (tgt : Nat) (ha : ir a) (h1 : lo ≤ a) (h2 : a ≤ hi) (ho : offs[(a - lo).toNat]? = some off) (ht : (pc : Int) + off = (tgt : Int)) (hd : decode cc pc = .ok (.tableswitch dflt lo hi offs, len)) (kk : zJ l g own cc nL rt nm R mc ms Q k n tgt ls st h) : zJ l g own cc nL rt nm R mc ms Q k n pc ls (.int (iz a) :: st) h := by
  intro p e s m args below meth c H locs la hC hw hS hl
  exact lv_tableIn hC.1 hC.2.1 hd (by rw [iz_toInt ha]; omega) (by rw [iz_toInt ha]; omega) (by rw [iz_toInt ha]; exact ho) ht (kk p e s m args below meth c H locs la hC hw hS hl)
theorem z_tsOut {dflt lo hi : Int} {offs : Array Int} {len : Nat} {a : Int} (tgt : Nat) (ha : ir a) (h1 : a < lo ∨ hi < a) (ht : (pc : Int) + dflt = (tgt : Int)) (hd : decode cc pc = .ok (.tableswitch dflt lo hi offs, len)) (kk : zJ l g own cc nL rt nm R mc ms Q k n tgt ls st h) : zJ l g own cc nL rt nm R mc ms Q k n pc ls (.int (iz a) :: st) h := by
  intro p e s m args below meth c H locs la hC hw hS hl
  exact lv_tableOut hC.1 hC.2.1 hd (by rw [iz_toInt ha]; exact h1) ht (kk p e s m args below meth c H locs la hC hw hS hl)
theorem z_top {x y : Int32} (e0 : x = y) (kk : zJ l g own cc nL rt nm R mc ms Q k n pc ls (.int y :: st) h) : zJ l g own cc nL rt nm R mc ms Q k n pc ls (.int x :: st) h := by rw [e0]; exact kk
theorem z_topL {x y : Int64} (e0 : x = y) (kk : zJ l g own cc nL rt nm R mc ms Q k n pc ls (.long y :: st) h) : zJ l g own cc nL rt nm R mc ms Q k n pc ls (.long x :: st) h := by rw [e0]; exact kk
theorem z_hp {h2 : List va_E} (e0 : h = h2) (kk : zJ l g own cc nL rt nm R mc ms Q k n pc ls st h2) : zJ l g own cc nL rt nm R mc ms Q k n pc ls st h := by rw [e0]; exact kk
theorem z_pc {pc2 : Nat} (e0 : pc = pc2) (kk : zJ l g own cc nL rt nm R mc ms Q k n pc2 ls st h) : zJ l g own cc nL rt nm R mc ms Q k n pc ls st h := by rw [e0]; exact kk
theorem z_get {C : String} {T : u_T} {N ci i : Nat} (hin : ∀ w ∈ u_ws C T N, w ∈ zT) (hc : zcl[ci]? = some (C, T, N)) (kf : Nat) (hk : kf < N) (hm : Cond.fieldLink own i C (T kf).2.1 (T kf).2.2.1 ∈ zT) (hdc : (T kf).1 = C) {q0 : Nat} {fs : List Value} {v : Value} (he : h[q0]? = some (.inr (ci, fs))) (hv : fs[kf]? = some v) (hd : decode cc pc = .ok (.getfield i, 3)) (kk : zJ l g own cc nL rt nm R mc ms Q k n (pc + 3) ls (v :: st) h) : zJ l g own cc nL rt nm R mc ms Q k n pc ls (.ref (g.2.1 + q0) :: st) h := by
  intro p e s m args below meth c H locs la hC hw hS hl
  exact va_get hC.1 hC.2.1 hC.2.2.2.2.1 hin hC.2.2.2.1 hw.2.2 hw.1 q0 (zws_at he) hc kf hk (hC.2.2.2.2.1 _ hm) (fun x h9 => by rw [← hdc]; exact h9) hv hd (kk p e s m args below meth c H locs la hC hw hS hl)
theorem z_getN {C host : String} {T : u_T} {N ci i : Nat} (hin : ∀ w ∈ u_ws C T N, w ∈ zT) (hc : zcl[ci]? = some (C, T, N)) (kf : Nat) (hk : kf < N) (hm : Cond.fieldLinkNest own i C (T kf).2.1 (T kf).2.2.1 host ∈ zN) (hdc : (T kf).1 = C) {q0 : Nat} {fs : List Value} {v : Value} (he : h[q0]? = some (.inr (ci, fs))) (hv : fs[kf]? = some v) (hd : decode cc pc = .ok (.getfield i, 3)) (kk : zJ l g own cc nL rt nm R mc ms Q k n (pc + 3) ls (v :: st) h) : zJ l g own cc nL rt nm R mc ms Q k n pc ls (.ref (g.2.1 + q0) :: st) h := by
  intro p e s m args below meth c H locs la hC hw hS hl
  exact va_getN hC.1 hC.2.1 hC.2.2.2.2.1 hin hC.2.2.2.1 hw.2.2 hw.1 q0 (zws_at he) hc kf hk (va_Nw.use rfl (hC.2.2.2.2.2.2.2.2.1 _ hm)) (fun x h9 => by rw [← hdc]; exact h9) hv hd (kk p e s m args below meth c H locs la hC hw hS hl)
theorem z_put {C : String} {T : u_T} {N ci i : Nat} (hin : ∀ w ∈ u_ws C T N, w ∈ zT) (ty0 : Nat → FieldType) (hty : ∀ k, k < N → parseFieldDescriptor (T k).2.2.1 = some (ty0 k)) (hnm : ∀ a, a < N → ∀ b, b < N → a ≠ b → (T a).2.1 ≠ (T b).2.1) (hc : zcl[ci]? = some (C, T, N)) (kf : Nat) (hk : kf < N) (hm : Cond.fieldLink own i C (T kf).2.1 (T kf).2.2.1 ∈ zT) (hdc : (T kf).1 = C) (hfin : (T kf).2.2.2 = false) {ty : FieldType} (hdd : parseFieldDescriptor (T kf).2.2.1 = some ty) {q0 : Nat} {fs : List Value} {v : Value} (hn : narrow ty v = v) (hfit : fits ty v = true) (he : h[q0]? = some (.inr (ci, fs))) (hlf : kf < fs.length) (hd : decode cc pc = .ok (.putfield i, 3)) (kk : zJ l g own cc nL rt nm R mc ms Q k n (pc + 3) ls st (h.set q0 (.inr (ci, fs.set kf v)))) : zJ l g own cc nL rt nm R mc ms Q k n pc ls (v :: .ref (g.2.1 + q0) :: st) h := by
  intro p e s m args below meth c H locs la hC hw hS hl
  have hap := va_apart (own := own) hC.2.2.2.2.1 hin ty0 hty hnm hw.2.2 hc
  obtain ⟨r, h1, cell, q1, q2, q3, q4⟩ := hw.1 q0 _ (zws_at he)
  have hr : r = (C, T, N) := Option.some.inj (h1.symm.trans hc)
  subst hr
  obtain ⟨hS1, hfc, kC, hkC, hkind⟩ := hw.2.2.1 ci _ hc
  obtain ⟨cf, kfd, fi, f, hi, hsl⟩ := hS1 kf hk
  have hlay := hC.2.2.2.2.1 _ (hin _ (u_in_lay hk))
  unfold u_lay at hlay
  rw [if_neg (by rw [hfin]; decide)] at hlay
  have hst := (u_facts hfc hkC (u_lays hC.2.2.2.2.1 hin hk) hi).1
  have h6 := u_store hfc hkC hkind hlay hi hdd hn hfit
  refine W.putK hC.1 hC.2.1 (f := f) ⟨hC.2.2.2.1, hC.2.2.2.2.1 _ hm, ⟨_, _, _, (by rw [← hdc]; exact hi)⟩, hst⟩ (by rw [q2]; exact h6) q1 q3 (by rw [hsl]; exact k2_hasslot (q4 kf hk)) rfl rfl hd fun H1 e1 e2 e3 => ?_
  rw [hsl] at e1 ⊢
  refine kk p e s m args below meth c H1 _ la hC (zw_set hw he ?_ e2 e3) (hS.put e2 e3 (Nat.le_add_right _ _)) hl
  exact ⟨_, hc, t_OB.to (V := updV (vp_V fs) kf v) ⟨_, e1, q2, q3, t_set q4 hap hk v⟩ (fun j _ => vp_updV_set hlf v j)⟩
theorem z_putF {C : String} {T : u_T} {N ci i : Nat} (hin : ∀ w ∈ u_ws C T N, w ∈ zT) (ty0 : Nat → FieldType) (hty : ∀ k, k < N → parseFieldDescriptor (T k).2.2.1 = some (ty0 k)) (hnm : ∀ a, a < N → ∀ b, b < N → a ≠ b → (T a).2.1 ≠ (T b).2.1) (hc : zcl[ci]? = some (C, T, N)) (kf : Nat) (hk : kf < N) (hm : Cond.fieldLink own i C (T kf).2.1 (T kf).2.2.1 ∈ zT) (hdc : (T kf).1 = C) (hfin : (T kf).2.2.2 = true) (hin2 : nm = "<init>") (hdo : C = own) {ty : FieldType} (hdd : parseFieldDescriptor (T kf).2.2.1 = some ty) {q0 : Nat} {fs : List Value} {v : Value} (hn : narrow ty v = v) (hfit : fits ty v = true) (he : h[q0]? = some (.inr (ci, fs))) (hlf : kf < fs.length) (hd : decode cc pc = .ok (.putfield i, 3)) (kk : zJ l g own cc nL rt nm R mc ms Q k n (pc + 3) ls st (h.set q0 (.inr (ci, fs.set kf v)))) : zJ l g own cc nL rt nm R mc ms Q k n pc ls (v :: .ref (g.2.1 + q0) :: st) h := by
  intro p e s m args below meth c H locs la hC hw hS hl
  have hap := va_apart (own := own) hC.2.2.2.2.1 hin ty0 hty hnm hw.2.2 hc
  obtain ⟨r, h1, cell, q1, q2, q3, q4⟩ := hw.1 q0 _ (zws_at he)
  have hr : r = (C, T, N) := Option.some.inj (h1.symm.trans hc)
  subst hr
  obtain ⟨hS1, hfc, kC, hkC, hkind⟩ := hw.2.2.1 ci _ hc
  obtain ⟨cf, kfd, fi, f, hi, hsl⟩ := hS1 kf hk
  have hlay := hC.2.2.2.2.1 _ (hin _ (u_in_lay hk))
  unfold u_lay at hlay
  rw [if_pos hfin] at hlay
  have hst := (u_facts hfc hkC (u_lays hC.2.2.2.2.1 hin hk) hi).1
  have hcf : m.cls = cf := by
    obtain ⟨_, _, c', _, _, _, -, -, hf', -, -, -, hown2, -⟩ := Cond.laysFinal_spec hlay
    have e1 : c' = cf := by have := hi.symm.trans hf'; simp at this; exact this.1.symm
    rw [hdc, hdo] at hown2
    rw [← e1]; exact Option.some.inj (hC.2.2.2.1.symm.trans hown2)
  have h6 := u_fits hfc hkC hkind (Or.inr hlay) hi hdd hn hfit
  refine W.putFinK hC.1 hC.2.1 hC.2.2.2.1 (hC.2.2.2.2.1 _ hm) (by rw [← hdc]; exact hi) hst hcf (hC.2.2.2.2.2.2.2.1.trans hin2) (by rw [q2]; exact h6) q1 q3 (by rw [hsl]; exact k2_hasslot (q4 kf hk)) rfl rfl hd fun H1 e1 e2 e3 => ?_
  rw [hsl] at e1 ⊢
  refine kk p e s m args below meth c H1 _ la hC (zw_set hw he ?_ e2 e3) (hS.put e2 e3 (Nat.le_add_right _ _)) hl
  exact ⟨_, hc, t_OB.to (V := updV (vp_V fs) kf v) ⟨_, e1, q2, q3, t_set q4 hap hk v⟩ (fun j _ => vp_updV_set hlf v j)⟩
theorem z_iald {q0 n2 : Nat} {f : Nat → Int} {z : Int} (he : h[q0]? = some (zA g n2 f)) (hn2 : n2 ≤ 2147483647) (h0 : 0 ≤ z) (h1 : z < n2) (hd : decode cc pc = .ok (.iaload, 1)) (kk : zJ l g own cc nL rt nm R mc ms Q k n (pc + 1) ls (.int (iz (f z.toNat)) :: st) h) : zJ l g own cc nL rt nm R mc ms Q k n pc ls (.int (iz z) :: .ref (g.2.1 + q0) :: st) h := by
  intro p e s m args below meth c H locs la hC hw hS hl
  obtain ⟨hi, hcl⟩ := iz_in hn2 h0 h1
  exact va_iald hC.1 hC.2.1 hw.2.2 hw.1 q0 0 (zws_at he) rfl hi hd (by rw [hcl]; exact kk p e s m args below meth c H locs la hC hw hS hl)
theorem z_zald {q0 n2 : Nat} {f : Nat → Int} {z : Int} (he : h[q0]? = some (zB g n2 f)) (hn2 : n2 ≤ 2147483647) (h0 : 0 ≤ z) (h1 : z < n2) (hd : decode cc pc = .ok (.baload, 1)) (kk : zJ l g own cc nL rt nm R mc ms Q k n (pc + 1) ls (.int (iz (f z.toNat)) :: st) h) : zJ l g own cc nL rt nm R mc ms Q k n pc ls (.int (iz z) :: .ref (g.2.1 + q0) :: st) h := by
  intro p e s m args below meth c H locs la hC hw hS hl
  obtain ⟨hi, hcl⟩ := iz_in hn2 h0 h1
  exact va_zald hC.1 hC.2.1 hw.2.2 hw.1 q0 1 (zws_at he) rfl hi hd (by rw [hcl]; exact kk p e s m args below meth c H locs la hC hw hS hl)
theorem z_lald {q0 n2 : Nat} {f : Nat → Int} {z : Int} (he : h[q0]? = some (zL g n2 f)) (hn2 : n2 ≤ 2147483647) (h0 : 0 ≤ z) (h1 : z < n2) (hd : decode cc pc = .ok (.laload, 1)) (kk : zJ l g own cc nL rt nm R mc ms Q k n (pc + 1) ls (.long (lz (f z.toNat)) :: st) h) : zJ l g own cc nL rt nm R mc ms Q k n pc ls (.int (iz z) :: .ref (g.2.1 + q0) :: st) h := by
  intro p e s m args below meth c H locs la hC hw hS hl
  obtain ⟨hi, hcl⟩ := iz_in hn2 h0 h1
  exact va_lald hC.1 hC.2.1 hw.2.2 hw.1 q0 2 (zws_at he) rfl hi hd (by rw [hcl]; exact kk p e s m args below meth c H locs la hC hw hS hl)
theorem z_aald {q0 n2 : Nat} {f : Nat → Option Nat} {z : Int} (he : h[q0]? = some (zR g n2 f)) (hn2 : n2 ≤ 2147483647) (h0 : 0 ≤ z) (h1 : z < n2) (hd : decode cc pc = .ok (.aaload, 1)) (kk : zJ l g own cc nL rt nm R mc ms Q k n (pc + 1) ls (va_rf (f z.toNat) :: st) h) : zJ l g own cc nL rt nm R mc ms Q k n pc ls (.int (iz z) :: .ref (g.2.1 + q0) :: st) h := by
  intro p e s m args below meth c H locs la hC hw hS hl
  obtain ⟨hi, hcl⟩ := iz_in hn2 h0 h1
  exact va_aldq hC.1 hC.2.1 hw.2.2 hw.1 q0 3 (zws_at he) rfl hi hd (by rw [hcl]; exact kk p e s m args below meth c H locs la hC hw hS hl)
theorem z_alen {q0 n2 : Nat} {f : Nat → Int} (he : h[q0]? = some (zA g n2 f)) (hd : decode cc pc = .ok (.arraylength, 1)) (kk : zJ l g own cc nL rt nm R mc ms Q k n (pc + 1) ls (.int (iz n2) :: st) h) : zJ l g own cc nL rt nm R mc ms Q k n pc ls (.ref (g.2.1 + q0) :: st) h := by
  intro p e s m args below meth c H locs la hC hw hS hl
  exact va_alen hC.1 hC.2.1 hw.2.2 hw.1 q0 0 (zws_at he) (ty := .int) rfl (v := iz n2) Int32.ofInt_eq_ofNat.symm hd (kk p e s m args below meth c H locs la hC hw hS hl)
theorem z_iast {q0 n2 : Nat} {f : Nat → Int} {z v : Int} (he : h[q0]? = some (zA g n2 f)) (hn2 : n2 ≤ 2147483647) (h0 : 0 ≤ z) (h1 : z < n2) (hd : decode cc pc = .ok (.iastore, 1)) (kk : zJ l g own cc nL rt nm R mc ms Q k n (pc + 1) ls st (h.set q0 (zA g n2 (vf_upd f z.toNat v)))) : zJ l g own cc nL rt nm R mc ms Q k n pc ls (.int (iz v) :: .int (iz z) :: .ref (g.2.1 + q0) :: st) h := by
  intro p e s m args below meth c H locs la hC hw hS hl
  obtain ⟨hi, hcl⟩ := iz_in hn2 h0 h1
  have ha := hw.1 q0 _ (zws_at he)
  refine W.iast hC.1 hC.2.1 ha ((hw.2.2.2 0 _ rfl).1 n2 (fun j => .int (iz (f j)))) (fun q => by cases q) (by show ¬ (iz z < 0 ∨ (arrV _ _ _).slots.size ≤ _); rw [arrV_size]; exact hi) rfl rfl hd fun H1 e1 e2 e3 => ?_
  refine kk p e s m args below meth c H1 _ la hC (zw_set hw he ?_ e2 e3) (hS.put e2 e3 (Nat.le_add_right _ _)) hl
  show H1[_]? = some (vp_cell _ _)
  rw [e1, vp_cell_i, vp_cell_i, arrV_store, hcl]
  congr 2
  funext q
  by_cases hq : q = z.toNat
  · subst hq
    simp [updV, vf_upd]
  · simp [updV, vf_upd, hq]
theorem z_zast {q0 n2 : Nat} {f : Nat → Int} {z v : Int} (he : h[q0]? = some (zB g n2 f)) (hn2 : n2 ≤ 2147483647) (h0 : 0 ≤ z) (h1 : z < n2) (hv : v = 0 ∨ v = 1) (hd : decode cc pc = .ok (.bastore, 1)) (kk : zJ l g own cc nL rt nm R mc ms Q k n (pc + 1) ls st (h.set q0 (zB g n2 (vf_upd f z.toNat v)))) : zJ l g own cc nL rt nm R mc ms Q k n pc ls (.int (iz v) :: .int (iz z) :: .ref (g.2.1 + q0) :: st) h := by
  intro p e s m args below meth c H locs la hC hw hS hl
  obtain ⟨hi, hcl⟩ := iz_in hn2 h0 h1
  have ha := hw.1 q0 _ (zws_at he)
  refine W.zast hC.1 hC.2.1 ha ((hw.2.2.2 1 _ rfl).1 n2 (fun j => .int (iz (f j)))) (fun q => by cases q) (by show ¬ (iz z < 0 ∨ (arrV _ _ _).slots.size ≤ _); rw [arrV_size]; exact hi) rfl rfl hd fun H1 e1 e2 e3 => ?_
  refine kk p e s m args below meth c H1 _ la hC (zw_set hw he ?_ e2 e3) (hS.put e2 e3 (Nat.le_add_right _ _)) hl
  show H1[_]? = some (vp_cell _ _)
  rw [e1, vp_cell_i, vp_cell_i, arrV_store, hcl]
  congr 2
  funext q
  by_cases hq : q = z.toNat
  · subst hq
    simp [updV, vf_upd]
    rcases hv with rfl | rfl <;> rfl
  · simp [updV, vf_upd, hq]
theorem z_last {q0 n2 : Nat} {f : Nat → Int} {z v : Int} (he : h[q0]? = some (zL g n2 f)) (hn2 : n2 ≤ 2147483647) (h0 : 0 ≤ z) (h1 : z < n2) (hd : decode cc pc = .ok (.lastore, 1)) (kk : zJ l g own cc nL rt nm R mc ms Q k n (pc + 1) ls st (h.set q0 (zL g n2 (vf_upd f z.toNat v)))) : zJ l g own cc nL rt nm R mc ms Q k n pc ls (.long (lz v) :: .int (iz z) :: .ref (g.2.1 + q0) :: st) h := by
  intro p e s m args below meth c H locs la hC hw hS hl
  obtain ⟨hi, hcl⟩ := iz_in hn2 h0 h1
  have ha := hw.1 q0 _ (zws_at he)
  refine W.last hC.1 hC.2.1 ha ((hw.2.2.2 2 _ rfl).1 n2 (fun j => .long (lz (f j)))) (fun q => by cases q) (by show ¬ (iz z < 0 ∨ (arrV _ _ _).slots.size ≤ _); rw [arrV_size]; exact hi) rfl rfl hd fun H1 e1 e2 e3 => ?_
  refine kk p e s m args below meth c H1 _ la hC (zw_set hw he ?_ e2 e3) (hS.put e2 e3 (Nat.le_add_right _ _)) hl
  show H1[_]? = some (vp_cell _ _)
  rw [e1, vp_cell_l, vp_cell_l, arrV_store, hcl]
  congr 2
  funext q
  by_cases hq : q = z.toNat
  · subst hq
    simp [updV, vf_upd]
  · simp [updV, vf_upd, hq]
theorem z_reti {x : Int32} (hr : rt = some .int) (hk : k ≤ mc) (hn : n ≤ ms) (hd : decode cc pc = .ok (.ireturn, 1)) (hQ : Q (some (.int x)) h) : zJ l g own cc nL rt nm R mc ms Q k n pc ls ([.int x]) h := by
  intro p e s m args below meth c H locs la hC hw hS hl
  refine W.widen hk hn ?_
  exact W.iret hC.1 hC.2.1 (hC.2.2.2.2.2.1.trans hr) (fun t ht hW => ⟨⟨_, h, rfl, hQ, zw_moved hw hW.alike ht⟩, hS.F ht⟩) hS.2.2 hd hC.2.2.2.2.2.2.1
theorem z_retl {x : Int64} (hr : rt = some .long) (hk : k ≤ mc) (hn : n ≤ ms) (hd : decode cc pc = .ok (.lreturn, 1)) (hQ : Q (some (.long x)) h) : zJ l g own cc nL rt nm R mc ms Q k n pc ls ([.long x]) h := by
  intro p e s m args below meth c H locs la hC hw hS hl
  refine W.widen hk hn ?_
  exact W.lret hC.1 hC.2.1 (hC.2.2.2.2.2.1.trans hr) (fun t ht hW => ⟨⟨_, h, rfl, hQ, zw_moved hw hW.alike ht⟩, hS.F ht⟩) hS.2.2 hd hC.2.2.2.2.2.2.1
theorem z_retz {v : Int} (hr : rt = some .boolean) (hv : v = 0 ∨ v = 1) (hk : k ≤ mc) (hn : n ≤ ms) (hd : decode cc pc = .ok (.ireturn, 1)) (hQ : Q (some (.int (iz v))) h) : zJ l g own cc nL rt nm R mc ms Q k n pc ls ([.int (iz v)]) h := by
  intro p e s m args below meth c H locs la hC hw hS hl
  refine W.widen hk hn ?_
  exact W.zret hC.1 hC.2.1 (hC.2.2.2.2.2.1.trans hr) (by rcases hv with rfl | rfl <;> rfl) (fun t ht hW => ⟨⟨_, h, rfl, hQ, zw_moved hw hW.alike ht⟩, hS.F ht⟩) hS.2.2 hd hC.2.2.2.2.2.2.1
theorem z_retv (hr : rt = none) (hk : k ≤ mc) (hn : n ≤ ms) (hd : decode cc pc = .ok (.return_, 1)) (hQ : Q none h) : zJ l g own cc nL rt nm R mc ms Q k n pc ls ([]) h := by
  intro p e s m args below meth c H locs la hC hw hS hl
  refine W.widen hk hn ?_
  exact W.vret hC.1 hC.2.1 (hC.2.2.2.2.2.1.trans hr) (fun t ht hW => ⟨⟨_, h, rfl, hQ, zw_moved hw hW.alike ht⟩, hS.F ht⟩) hS.2.2 hd hC.2.2.2.2.2.2.1
end ZROWS
end
section
/-! ===== calls ===== -/
theorem z_goodIn {y : MethodName} {cc : ByteArray} {nL : Nat} {rt : Option FieldType} (hc : Cond.code y cc nL rt ∈ zT) : GoodIn zT (Cond.code y cc nL rt :: zT) := by
  intro w hw
  have hm : w ∈ zT := by
    rcases List.mem_cons.mp hw with h | h
    · rw [h]; exact hc
    · exact h
  exact ⟨hm, good_of_word (List.mem_filter.mp hm).2⟩
/-- what the tables say of a call by an entry of own's pool: np arguments behind the receiver, if there is one -/
def zLk (own : String) (i : Nat) (y : MethodName) (cc : ByteArray) (nL : Nat) (rt : Option FieldType) (np : Nat) : Prop :=
  Cond.code y cc nL rt ∈ zT ∧ Cond.initialized y.cls ∈ zT ∧ Cond.methodLink own i y ∈ zT ∧ y.cls ≠ "java/lang/invoke/MethodHandle" ∧ y.cls ≠ "java/lang/invoke/VarHandle" ∧ (parseMethodDescriptor y.desc).map (fun d => d.parameters.length) = some np
theorem zM_blind {g : zG} {As : List Value} {h : List va_E} : FrameBlind (va_Pc As (fun U => zw g h U U.heap ∧ zNs U)) := by
  intro a U gf mk hq
  obtain ⟨h1, ⟨h2, h3, h4⟩, h5⟩ := hq
  exact ⟨h1, ⟨h2, h3, va_K.moved (u := U) (U := U.calling gf mk a) (Vm.Alike.refl U.vm) h4⟩, zNs_same (u := U) (U := U.calling gf mk a) rfl h5⟩
theorem z_go {p : Program} {l : Launch} {e : Env} {R : Room} {s : State} {m : MethodId} {args : Array Value} {below : List Frame} {meth : Method} {c : Code} {H : Heap} {locs : List Loc} {k n mc' ms' pc : Nat} {la : Array Slot} {st0 rest : List Value} {Qw : State → Prop} {g : zG} {Q' : Option Value → List va_E → Prop} {a : Array Value}
    (hr : va_Run p l e R s m args below meth c H locs k n mc' ms' (F0 m pc la st0) rest (zQ g Q' a) (zF g)) (hS : va_S (zF g) s.heap H locs)
    (kk : ∀ (r : Option Value) (h' : List va_E) (H1 : Heap) (locs1 : List Loc), Q' r h' → zw g h' s H1 → va_S (zF g) s.heap H1 locs1 → W p l e R s m args below meth c H1 locs1 (k + mc') (n + ms') Qw (F0 m (pc + 3) la (r.toList ++ rest))) :
    W p l e R s m args below meth c H locs k n Qw (F0 m pc la st0) := by
  intro T hT X
  obtain ⟨v, st₀, t, T', L, h0, X', hL, e1, e2, ⟨⟨r, h', hv, hq, hw'⟩, hz, hk⟩, st⟩ := hr T hT X
  cases hv
  rw [h0] at hz hk
  have hal : s.vm.Alike t.vm := by rw [← e2]; exact X'.warmed.alike
  obtain ⟨t2, a1, b1⟩ := kk v h' T'.heap (locs ++ L) hq (by rw [e1]; exact ⟨hw'.1, hw'.2.1, va_K.moved hal.symm hw'.2.2⟩)
    ⟨Nat.le_trans hS.1 (by rw [e1]; exact hz), fun x h1 h2 => by rw [e1, hk x (Nat.lt_of_lt_of_le h1 hS.1) h2]; exact hS.2.1 x h1 h2, fun x hx => by
      rcases List.mem_append.mp hx with h | h
      · exact hS.2.2 x h
      · exact hL x h⟩ T' rfl X'
  exact ⟨t2, st t2 a1, b1⟩
section ZCALLS
variable {l : Launch} {g : zG} {own : String} {cc : ByteArray} {nL : Nat} {rt : Option FieldType} {nm : String} {R : Room} {mc ms : Nat} {Q : Option Value → List va_E → Prop} {k n pc : Nat} {ls : List (Option Value)} {st : List Value} {h : List va_E}
variable {y : MethodName} {cc' : ByteArray} {nL' : Nat} {rt' : Option FieldType} {d mc' ms' i : Nat} {Q' : Option Value → List va_E → Prop} {rest : List Value}

theorem z_callV {np q0 ci N : Nat} {T : u_T} {fs As : List Value} (hM : zM l g y cc' nL' rt' d mc' ms' (.ref (g.2.1 + q0) :: As) h Q') (hk : zLk own i y cc' nL' rt' np) (hiv : Cond.instanceMethod y ∈ zT ∧ Cond.selects y.cls y y ∈ zT) (hn : As.length = np) (he : h[q0]? = some (.inr (ci, fs))) (hc : zcl[ci]? = some (y.cls, T, N)) (hR : d + 1 ≤ R.frames ∧ 8 + (nL' + 11) + 38 * d ≤ R.locals) (hcat : (rest.map fun v => v.category).sum ≤ 8) (hf : k + mc' ≤ R.cells ∧ n + ms' ≤ R.slots) (hd : decode cc pc = .ok (.invokevirtual i, 3)) (kk : ∀ (r : Option Value) (h' : List va_E), Q' r h' → zJ l g own cc nL rt nm R mc ms Q (k + mc') (n + ms') (pc + 3) ls (r.toList ++ rest) (h')) : zJ l g own cc nL rt nm R mc ms Q k n pc ls (As.reverse ++ .ref (g.2.1 + q0) :: rest) h := by
  intro p e s m args below meth c H locs la hC hw hS hl
  refine z_go (va_runV (C := y.cls) (b := g.2.1 + q0) (As := As) (rest := rest) ⟨hC.1, hC.2.1, hC.2.2.1, hC.2.2.2.1, hC.2.2.2.2.1⟩ hM ⟨callB_of (rm := zRm d mc' ms') np hC.2.2.2.2.1 (z_goodIn hk.1) rfl rfl rfl (hC.2.2.2.2.1 _ hk.2.1) (hC.2.2.2.2.1 _ hk.2.2.1) hk.2.2.2 hR, hC.2.2.2.2.1 _ hiv.1, hC.2.2.2.2.1 _ hiv.2⟩ ⟨zM_blind, va_recv hw.2.2 hw.1 hc (zws_at he), fun U hU hW => ⟨rfl, zw_moved hw hW.alike hU, zNs_warm hW hC.2.2.2.2.2.2.2.2⟩⟩ rfl hn hl.1.1 rfl (by show 2 * 0 + _ ≤ 8; omega) hd hf) hS (fun r h' H1 locs1 hq hw1 hS1 => kk r h' hq p e s m args below meth c H1 locs1 la hC hw1 hS1 hl)
theorem z_callS {np : Nat} {As : List Value} (hM : zM l g y cc' nL' rt' d mc' ms' As h Q') (hk : zLk own i y cc' nL' rt' np) (hst : Cond.static y ∈ zT) (hn : As.length = np) (hR : d + 1 ≤ R.frames ∧ 8 + (nL' + 11) + 38 * d ≤ R.locals) (hcat : (rest.map fun v => v.category).sum ≤ 8) (hf : k + mc' ≤ R.cells ∧ n + ms' ≤ R.slots) (hd : decode cc pc = .ok (.invokestatic i, 3)) (kk : ∀ (r : Option Value) (h' : List va_E), Q' r h' → zJ l g own cc nL rt nm R mc ms Q (k + mc') (n + ms') (pc + 3) ls (r.toList ++ rest) (h')) : zJ l g own cc nL rt nm R mc ms Q k n pc ls (As.reverse ++ rest) h := by
  intro p e s m args below meth c H locs la hC hw hS hl
  refine z_go (va_runS (As := As) (rest := rest) ⟨hC.1, hC.2.1, hC.2.2.1, hC.2.2.2.1, hC.2.2.2.2.1⟩ hM ⟨callB_of (rm := zRm d mc' ms') np hC.2.2.2.2.1 (z_goodIn hk.1) rfl rfl rfl (hC.2.2.2.2.1 _ hk.2.1) (hC.2.2.2.2.1 _ hk.2.2.1) hk.2.2.2 hR, hC.2.2.2.2.1 _ hst⟩ ⟨zM_blind, fun U hU hW => ⟨rfl, zw_moved hw hW.alike hU, zNs_warm hW hC.2.2.2.2.2.2.2.2⟩⟩ rfl hn hl.1.1 rfl (by show 2 * 0 + _ ≤ 8; omega) hd hf) hS (fun r h' H1 locs1 hq hw1 hS1 => kk r h' hq p e s m args below meth c H1 locs1 la hC hw1 hS1 hl)
theorem z_callI {np q0 : Nat} {As : List Value} (hM : zM l g y cc' nL' none d mc' ms' (.ref (g.2.1 + q0) :: As) h Q') (hk : zLk own i y cc' nL' none np) (hin : Cond.instanceMethod y ∈ zT) (hy : y.name = "<init>") (hn : As.length = np) (hR : d + 1 ≤ R.frames ∧ 8 + (nL' + 11) + 38 * d ≤ R.locals) (hcat : (rest.map fun v => v.category).sum ≤ 8) (hf : k + mc' ≤ R.cells ∧ n + ms' ≤ R.slots) (hd : decode cc pc = .ok (.invokespecial i, 3)) (kk : ∀ (r : Option Value) (h' : List va_E), Q' r h' → zJ l g own cc nL rt nm R mc ms Q (k + mc') (n + ms') (pc + 3) ls (r.toList ++ rest) (h')) : zJ l g own cc nL rt nm R mc ms Q k n pc ls (As.reverse ++ .ref (g.2.1 + q0) :: rest) h := by
  intro p e s m args below meth c H locs la hC hw hS hl
  refine z_go (va_runI (b := g.2.1 + q0) (As := As) (rest := rest) ⟨hC.1, hC.2.1, hC.2.2.1, hC.2.2.2.1, hC.2.2.2.2.1⟩ hM ⟨callB_of (rm := zRm d mc' ms') np hC.2.2.2.2.1 (z_goodIn hk.1) rfl rfl rfl (hC.2.2.2.2.1 _ hk.2.1) (hC.2.2.2.2.1 _ hk.2.2.1) hk.2.2.2 hR, hy, hC.2.2.2.2.1 _ hin⟩ ⟨zM_blind, fun U hU hW => ⟨rfl, zw_moved hw hW.alike hU, zNs_warm hW hC.2.2.2.2.2.2.2.2⟩⟩ rfl hn hl.1.1 rfl (by show 2 * 0 + _ ≤ 8; omega) hd hf) hS (fun r h' H1 locs1 hq hw1 hS1 => kk r h' hq p e s m args below meth c H1 locs1 la hC hw1 hS1 hl)
theorem z_objInit {q0 : Nat} (hm : Cond.methodLink own i objectInit ∈ zT) (hin : Cond.instanceMethod objectInit ∈ zT) (hcd : Cond.code objectInit ⟨#[0xb1]⟩ 1 none ∈ zT) (hR : 1 ≤ R.frames ∧ 20 ≤ R.locals) (hcat : (st.map fun v => v.category).sum ≤ 8) (hd : decode cc pc = .ok (.invokespecial i, 3)) (kk : zJ l g own cc nL rt nm R mc ms Q k n (pc + 3) ls st h) : zJ l g own cc nL rt nm R mc ms Q k n pc ls (.ref (g.2.1 + q0) :: st) h := by
  intro p e s m args below meth c H locs la hC hw hS hl
  refine W.objInit hC.1 hC.2.1 hC.2.2.2.1 (hC.2.2.2.2.1 _ hm) (hC.2.2.2.2.1 _ hin) (hC.2.2.2.2.1 _ hcd) rfl (hl.1.1.trans hC.2.2.1.symm) rfl hd hR.1 (by show 2 * 0 + _ + 12 ≤ _; have := hR.2; omega) ?_
  exact kk p e s m args below meth c H locs la hC hw hS hl
theorem z_V0 {q0 ci N : Nat} {T : u_T} {fs : List Value} (hM : zM l g y cc' nL' rt' d mc' ms' [.ref (g.2.1 + q0)] h Q') (hk : zLk own i y cc' nL' rt' 0) (hiv : Cond.instanceMethod y ∈ zT ∧ Cond.selects y.cls y y ∈ zT) (he : h[q0]? = some (.inr (ci, fs))) (hc : zcl[ci]? = some (y.cls, T, N)) (hR : d + 1 ≤ R.frames ∧ 8 + (nL' + 11) + 38 * d ≤ R.locals) (hcat : (rest.map fun v => v.category).sum ≤ 8) (hf : k + mc' ≤ R.cells ∧ n + ms' ≤ R.slots) (hd : decode cc pc = .ok (.invokevirtual i, 3)) (kk : ∀ (r : Option Value) (h' : List va_E), Q' r h' → zJ l g own cc nL rt nm R mc ms Q (k + mc') (n + ms') (pc + 3) ls (r.toList ++ rest) (h')) : zJ l g own cc nL rt nm R mc ms Q k n pc ls (.ref (g.2.1 + q0) :: rest) h := z_callV (As := []) hM hk hiv rfl he hc hR hcat hf hd kk
theorem z_S0 (hM : zM l g y cc' nL' rt' d mc' ms' [] h Q') (hk : zLk own i y cc' nL' rt' 0) (hst : Cond.static y ∈ zT) (hR : d + 1 ≤ R.frames ∧ 8 + (nL' + 11) + 38 * d ≤ R.locals) (hcat : (rest.map fun v => v.category).sum ≤ 8) (hf : k + mc' ≤ R.cells ∧ n + ms' ≤ R.slots) (hd : decode cc pc = .ok (.invokestatic i, 3)) (kk : ∀ (r : Option Value) (h' : List va_E), Q' r h' → zJ l g own cc nL rt nm R mc ms Q (k + mc') (n + ms') (pc + 3) ls (r.toList ++ rest) (h')) : zJ l g own cc nL rt nm R mc ms Q k n pc ls rest h := z_callS (As := []) hM hk hst rfl hR hcat hf hd kk
theorem z_V1 {q0 ci N : Nat} {T : u_T} {fs : List Value} {v1 : Value} (hM : zM l g y cc' nL' rt' d mc' ms' [.ref (g.2.1 + q0), v1] h Q') (hk : zLk own i y cc' nL' rt' 1) (hiv : Cond.instanceMethod y ∈ zT ∧ Cond.selects y.cls y y ∈ zT) (he : h[q0]? = some (.inr (ci, fs))) (hc : zcl[ci]? = some (y.cls, T, N)) (hR : d + 1 ≤ R.frames ∧ 8 + (nL' + 11) + 38 * d ≤ R.locals) (hcat : (rest.map fun v => v.category).sum ≤ 8) (hf : k + mc' ≤ R.cells ∧ n + ms' ≤ R.slots) (hd : decode cc pc = .ok (.invokevirtual i, 3)) (kk : ∀ (r : Option Value) (h' : List va_E), Q' r h' → zJ l g own cc nL rt nm R mc ms Q (k + mc') (n + ms') (pc + 3) ls (r.toList ++ rest) (h')) : zJ l g own cc nL rt nm R mc ms Q k n pc ls (v1 :: .ref (g.2.1 + q0) :: rest) h := z_callV (As := [v1]) hM hk hiv rfl he hc hR hcat hf hd kk
theorem z_S1 {v1 : Value} (hM : zM l g y cc' nL' rt' d mc' ms' [v1] h Q') (hk : zLk own i y cc' nL' rt' 1) (hst : Cond.static y ∈ zT) (hR : d + 1 ≤ R.frames ∧ 8 + (nL' + 11) + 38 * d ≤ R.locals) (hcat : (rest.map fun v => v.category).sum ≤ 8) (hf : k + mc' ≤ R.cells ∧ n + ms' ≤ R.slots) (hd : decode cc pc = .ok (.invokestatic i, 3)) (kk : ∀ (r : Option Value) (h' : List va_E), Q' r h' → zJ l g own cc nL rt nm R mc ms Q (k + mc') (n + ms') (pc + 3) ls (r.toList ++ rest) (h')) : zJ l g own cc nL rt nm R mc ms Q k n pc ls (v1 :: rest) h := z_callS (As := [v1]) hM hk hst rfl hR hcat hf hd kk
theorem z_V2 {q0 ci N : Nat} {T : u_T} {fs : List Value} {v1 v2 : Value} (hM : zM l g y cc' nL' rt' d mc' ms' [.ref (g.2.1 + q0), v1, v2] h Q') (hk : zLk own i y cc' nL' rt' 2) (hiv : Cond.instanceMethod y ∈ zT ∧ Cond.selects y.cls y y ∈ zT) (he : h[q0]? = some (.inr (ci, fs))) (hc : zcl[ci]? = some (y.cls, T, N)) (hR : d + 1 ≤ R.frames ∧ 8 + (nL' + 11) + 38 * d ≤ R.locals) (hcat : (rest.map fun v => v.category).sum ≤ 8) (hf : k + mc' ≤ R.cells ∧ n + ms' ≤ R.slots) (hd : decode cc pc = .ok (.invokevirtual i, 3)) (kk : ∀ (r : Option Value) (h' : List va_E), Q' r h' → zJ l g own cc nL rt nm R mc ms Q (k + mc') (n + ms') (pc + 3) ls (r.toList ++ rest) (h')) : zJ l g own cc nL rt nm R mc ms Q k n pc ls (v2 :: v1 :: .ref (g.2.1 + q0) :: rest) h := z_callV (As := [v1, v2]) hM hk hiv rfl he hc hR hcat hf hd kk
theorem z_S2 {v1 v2 : Value} (hM : zM l g y cc' nL' rt' d mc' ms' [v1, v2] h Q') (hk : zLk own i y cc' nL' rt' 2) (hst : Cond.static y ∈ zT) (hR : d + 1 ≤ R.frames ∧ 8 + (nL' + 11) + 38 * d ≤ R.locals) (hcat : (rest.map fun v => v.category).sum ≤ 8) (hf : k + mc' ≤ R.cells ∧ n + ms' ≤ R.slots) (hd : decode cc pc = .ok (.invokestatic i, 3)) (kk : ∀ (r : Option Value) (h' : List va_E), Q' r h' → zJ l g own cc nL rt nm R mc ms Q (k + mc') (n + ms') (pc + 3) ls (r.toList ++ rest) (h')) : zJ l g own cc nL rt nm R mc ms Q k n pc ls (v2 :: v1 :: rest) h := z_callS (As := [v1, v2]) hM hk hst rfl hR hcat hf hd kk
theorem z_V3 {q0 ci N : Nat} {T : u_T} {fs : List Value} {v1 v2 v3 : Value} (hM : zM l g y cc' nL' rt' d mc' ms' [.ref (g.2.1 + q0), v1, v2, v3] h Q') (hk : zLk own i y cc' nL' rt' 3) (hiv : Cond.instanceMethod y ∈ zT ∧ Cond.selects y.cls y y ∈ zT) (he : h[q0]? = some (.inr (ci, fs))) (hc : zcl[ci]? = some (y.cls, T, N)) (hR : d + 1 ≤ R.frames ∧ 8 + (nL' + 11) + 38 * d ≤ R.locals) (hcat : (rest.map fun v => v.category).sum ≤ 8) (hf : k + mc' ≤ R.cells ∧ n + ms' ≤ R.slots) (hd : decode cc pc = .ok (.invokevirtual i, 3)) (kk : ∀ (r : Option Value) (h' : List va_E), Q' r h' → zJ l g own cc nL rt nm R mc ms Q (k + mc') (n + ms') (pc + 3) ls (r.toList ++ rest) (h')) : zJ l g own cc nL rt nm R mc ms Q k n pc ls (v3 :: v2 :: v1 :: .ref (g.2.1 + q0) :: rest) h := z_callV (As := [v1, v2, v3]) hM hk hiv rfl he hc hR hcat hf hd kk
theorem z_S3 {v1 v2 v3 : Value} (hM : zM l g y cc' nL' rt' d mc' ms' [v1, v2, v3] h Q') (hk : zLk own i y cc' nL' rt' 3) (hst : Cond.static y ∈ zT) (hR : d + 1 ≤ R.frames ∧ 8 + (nL' + 11) + 38 * d ≤ R.locals) (hcat : (rest.map fun v => v.category).sum ≤ 8) (hf : k + mc' ≤ R.cells ∧ n + ms' ≤ R.slots) (hd : decode cc pc = .ok (.invokestatic i, 3)) (kk : ∀ (r : Option Value) (h' : List va_E), Q' r h' → zJ l g own cc nL rt nm R mc ms Q (k + mc') (n + ms') (pc + 3) ls (r.toList ++ rest) (h')) : zJ l g own cc nL rt nm R mc ms Q k n pc ls (v3 :: v2 :: v1 :: rest) h := z_callS (As := [v1, v2, v3]) hM hk hst rfl hR hcat hf hd kk
theorem z_V4 {q0 ci N : Nat} {T : u_T} {fs : List Value} {v1 v2 v3 v4 : Value} (hM : zM l g y cc' nL' rt' d mc' ms' [.ref (g.2.1 + q0), v1, v2, v3, v4] h Q') (hk : zLk own i y cc' nL' rt' 4) (hiv : Cond.instanceMethod y ∈ zT ∧ Cond.selects y.cls y y ∈ zT) (he : h[q0]? = some (.inr (ci, fs))) (hc : zcl[ci]? = some (y.cls, T, N)) (hR : d + 1 ≤ R.frames ∧ 8 + (nL' + 11) + 38 * d ≤ R.locals) (hcat : (rest.map fun v => v.category).sum ≤ 8) (hf : k + mc' ≤ R.cells ∧ n + ms' ≤ R.slots) (hd : decode cc pc = .ok (.invokevirtual i, 3)) (kk : ∀ (r : Option Value) (h' : List va_E), Q' r h' → zJ l g own cc nL rt nm R mc ms Q (k + mc') (n + ms') (pc + 3) ls (r.toList ++ rest) (h')) : zJ l g own cc nL rt nm R mc ms Q k n pc ls (v4 :: v3 :: v2 :: v1 :: .ref (g.2.1 + q0) :: rest) h := z_callV (As := [v1, v2, v3, v4]) hM hk hiv rfl he hc hR hcat hf hd kk
theorem z_S4 {v1 v2 v3 v4 : Value} (hM : zM l g y cc' nL' rt' d mc' ms' [v1, v2, v3, v4] h Q') (hk : zLk own i y cc' nL' rt' 4) (hst : Cond.static y ∈ zT) (hR : d + 1 ≤ R.frames ∧ 8 + (nL' + 11) + 38 * d ≤ R.locals) (hcat : (rest.map fun v => v.category).sum ≤ 8) (hf : k + mc' ≤ R.cells ∧ n + ms' ≤ R.slots) (hd : decode cc pc = .ok (.invokestatic i, 3)) (kk : ∀ (r : Option Value) (h' : List va_E), Q' r h' → zJ l g own cc nL rt nm R mc ms Q (k + mc') (n + ms') (pc + 3) ls (r.toList ++ rest) (h')) : zJ l g own cc nL rt nm R mc ms Q k n pc ls (v4 :: v3 :: v2 :: v1 :: rest) h := z_callS (As := [v1, v2, v3, v4]) hM hk hst rfl hR hcat hf hd kk
theorem z_new {C : String} {T : u_T} {N ci : Nat} (hin : ∀ w ∈ u_ws C T N, w ∈ zT) (ty0 : Nat → FieldType) (hty : ∀ k, k < N → parseFieldDescriptor (T k).2.2.1 = some (ty0 k)) (hc : zcl[ci]? = some (C, T, N)) (hcl : Cond.classLink own i C ∈ zT) (hit : Cond.instantiable C N ∈ zT) (hini : Cond.initialized C ∈ zT) {fs : List Value} (hfs : ∀ j, j < N → defaultValue (ty0 j) = vp_V fs j) (hf : k + 1 ≤ R.cells ∧ n + N ≤ R.slots) (hd : decode cc pc = .ok (.new i, 3)) (kk : zJ l g own cc nL rt nm R mc ms Q (k + 1) (n + N) (pc + 3) ls (.ref (g.2.1 + h.length) :: st) (h ++ [.inr (ci, fs)])) : zJ l g own cc nL rt nm R mc ms Q k n pc ls st h := by
  intro p e s m args below meth c H locs la hC hw hS hl
  have hKn := hw.2.2.1 ci _ hc
  refine W.newcK hC.1 hC.2.1 hC.2.2.2.1 (hC.2.2.2.2.1 _ hcl) (hC.2.2.2.2.1 _ hit) (hC.2.2.2.2.1 _ hini) rfl hd hf.1 hf.2 hKn.2.1 rfl fun H1 kC hkC e1 z1 o1 => ?_
  have hb : va_at g.1 zcl (H.size, .inr (ci, fs)) H1 := ⟨_, hc, (u_born ty0 hC.2.2.2.2.1 hin hKn hkC e1 hty).to hfs⟩
  have hw1 := zw_push (e := .inr (ci, fs)) hw hb z1 o1
  have kk2 := kk p e s m args below meth c H1 locs la hC hw1 ⟨Nat.le_trans hS.1 (by omega), fun x h1 h2 => (o1 x (Nat.lt_of_lt_of_le h1 hS.1)).trans (hS.2.1 x h1 h2), hS.2.2⟩ hl
  rw [← hw.2.1] at kk2
  exact kk2
theorem z_newI {N2 : Nat} {z : Int} (hz : z = N2) (hN : N2 ≤ 60000000) (harr : Cond.arrayClass .int ∈ zT) (hf : k + 1 ≤ R.cells ∧ n + N2 ≤ R.slots) (hd : decode cc pc = .ok (.newarray .int, 2)) (kk : zJ l g own cc nL rt nm R mc ms Q (k + 1) (n + N2) (pc + 2) ls (.ref (g.2.1 + h.length) :: st) (h ++ [zA g N2 (fun _ => 0)])) : zJ l g own cc nL rt nm R mc ms Q k n pc ls (.int (iz z) :: st) h := by
  intro p e s m args below meth c H locs la hC hw hS hl
  subst hz
  have hr : ir (N2 : Int) := ⟨by omega, by omega⟩
  refine va_newaK (atype := .int) (N := N2) hC.1 hC.2.1 (hC.2.2.2.2.1 _ harr) rfl hd rfl (fun q => by rw [← iz_0, iz_lt hr ir_0] at q; omega) (by rw [iz_cl hr]; simp) (by show N2 * _ ≤ _; simp [newarray.typeOf, componentBytes]; omega) hf.1 hf.2 rfl fun H1 cA e1 z1 o1 hAr hNm => ?_
  have hcA : cA = g.2.2 0 := Option.some.inj (hNm.symm.trans (hw.2.2.2 0 _ rfl).2)
  subst hcA
  have hb : va_at g.1 zcl (H.size, zA g N2 (fun _ => 0)) H1 := by
    show H1[H.size]? = some (vp_cell _ _)
    rw [e1, vp_cell_i]
    rfl
  have hw1 := zw_push hw hb z1 o1
  have kk2 := kk p e s m args below meth c H1 locs la hC hw1 ⟨Nat.le_trans hS.1 (by omega), fun x h1 h2 => (o1 x (Nat.lt_of_lt_of_le h1 hS.1)).trans (hS.2.1 x h1 h2), hS.2.2⟩ hl
  rw [← hw.2.1] at kk2
  exact kk2
theorem z_newZ {N2 : Nat} {z : Int} (hz : z = N2) (hN : N2 ≤ 60000000) (harr : Cond.arrayClass .boolean ∈ zT) (hf : k + 1 ≤ R.cells ∧ n + N2 ≤ R.slots) (hd : decode cc pc = .ok (.newarray .boolean, 2)) (kk : zJ l g own cc nL rt nm R mc ms Q (k + 1) (n + N2) (pc + 2) ls (.ref (g.2.1 + h.length) :: st) (h ++ [zB g N2 (fun _ => 0)])) : zJ l g own cc nL rt nm R mc ms Q k n pc ls (.int (iz z) :: st) h := by
  intro p e s m args below meth c H locs la hC hw hS hl
  subst hz
  have hr : ir (N2 : Int) := ⟨by omega, by omega⟩
  refine va_newaK (atype := .boolean) (N := N2) hC.1 hC.2.1 (hC.2.2.2.2.1 _ harr) rfl hd rfl (fun q => by rw [← iz_0, iz_lt hr ir_0] at q; omega) (by rw [iz_cl hr]; simp) (by show N2 * _ ≤ _; simp [newarray.typeOf, componentBytes]; omega) hf.1 hf.2 rfl fun H1 cA e1 z1 o1 hAr hNm => ?_
  have hcA : cA = g.2.2 1 := Option.some.inj (hNm.symm.trans (hw.2.2.2 1 _ rfl).2)
  subst hcA
  have hb : va_at g.1 zcl (H.size, zB g N2 (fun _ => 0)) H1 := by
    show H1[H.size]? = some (vp_cell _ _)
    rw [e1, vp_cell_i]
    rfl
  have hw1 := zw_push hw hb z1 o1
  have kk2 := kk p e s m args below meth c H1 locs la hC hw1 ⟨Nat.le_trans hS.1 (by omega), fun x h1 h2 => (o1 x (Nat.lt_of_lt_of_le h1 hS.1)).trans (hS.2.1 x h1 h2), hS.2.2⟩ hl
  rw [← hw.2.1] at kk2
  exact kk2
theorem z_newL {N2 : Nat} {z : Int} (hz : z = N2) (hN : N2 ≤ 60000000) (harr : Cond.arrayClass .long ∈ zT) (hf : k + 1 ≤ R.cells ∧ n + N2 ≤ R.slots) (hd : decode cc pc = .ok (.newarray .long, 2)) (kk : zJ l g own cc nL rt nm R mc ms Q (k + 1) (n + N2) (pc + 2) ls (.ref (g.2.1 + h.length) :: st) (h ++ [zL g N2 (fun _ => 0)])) : zJ l g own cc nL rt nm R mc ms Q k n pc ls (.int (iz z) :: st) h := by
  intro p e s m args below meth c H locs la hC hw hS hl
  subst hz
  have hr : ir (N2 : Int) := ⟨by omega, by omega⟩
  refine va_newaK (atype := .long) (N := N2) hC.1 hC.2.1 (hC.2.2.2.2.1 _ harr) rfl hd rfl (fun q => by rw [← iz_0, iz_lt hr ir_0] at q; omega) (by rw [iz_cl hr]; simp) (by show N2 * _ ≤ _; simp [newarray.typeOf, componentBytes]; omega) hf.1 hf.2 rfl fun H1 cA e1 z1 o1 hAr hNm => ?_
  have hcA : cA = g.2.2 2 := Option.some.inj (hNm.symm.trans (hw.2.2.2 2 _ rfl).2)
  subst hcA
  have hb : va_at g.1 zcl (H.size, zL g N2 (fun _ => 0)) H1 := by
    show H1[H.size]? = some (vp_cell _ _)
    rw [e1, vp_cell_l]
    rfl
  have hw1 := zw_push hw hb z1 o1
  have kk2 := kk p e s m args below meth c H1 locs la hC hw1 ⟨Nat.le_trans hS.1 (by omega), fun x h1 h2 => (o1 x (Nat.lt_of_lt_of_le h1 hS.1)).trans (hS.2.1 x h1 h2), hS.2.2⟩ hl
  rw [← hw.2.1] at kk2
  exact kk2
theorem z_newB {N2 : Nat} {z : Int} (hz : z = N2) (hN : N2 ≤ 60000000) (hcl : Cond.classLink own i "BoughtAhead$Book" ∈ zT) (hf : k + 1 ≤ R.cells ∧ n + N2 ≤ R.slots) (hd : decode cc pc = .ok (.anewarray i, 3)) (kk : zJ l g own cc nL rt nm R mc ms Q (k + 1) (n + N2) (pc + 3) ls (.ref (g.2.1 + h.length) :: st) (h ++ [zR g N2 (fun _ => none)])) : zJ l g own cc nL rt nm R mc ms Q k n pc ls (.int (iz z) :: st) h := by
  intro p e s m args below meth c H locs la hC hw hS hl
  subst hz
  have hr : ir (N2 : Int) := ⟨by omega, by omega⟩
  have hcl2 : (iz (N2 : Int)).toNatClampNeg = N2 := by rw [iz_cl hr]; simp
  refine W.anew hC.1 hC.2.1 hC.2.2.2.1 (hC.2.2.2.2.1 _ hcl) (va_AO.use hC.2.2.2.2.2.2.2.2.2) rfl hd rfl (fun q => by rw [← iz_0, iz_lt hr ir_0] at q; omega) (by rw [hcl2]; omega) hf.1 (by rw [hcl2]; exact hf.2) fun cA kA comp f1 f2 f3 f4 => ?_
  rw [hcl2]
  generalize hH1 : H.push ({ cls := cA, slots := Array.replicate N2 .null, vm := .none } : Cell) = H1
  have z1 : H1.size = H.size + 1 := by rw [← hH1, Array.size_push]
  have e1 : H1[H.size]? = some (arrV cA N2 (fun _ => .null)) := by rw [← hH1, Array.getElem?_push_size, ← arrV_new]
  have o1 : ∀ q : Nat, q < H.size → H1[q]? = H[q]? := fun q hq => by rw [← hH1, Array.getElem?_push, if_neg (Nat.ne_of_lt hq)]
  obtain ⟨kA2, comp2, j1, j2, j3, j4⟩ := (hw.2.2.2 3 _ rfl).2
  have hcA : cA = g.2.2 3 := by first | exact Option.some.inj (f1.symm.trans j4) | exact Option.some.inj (f4.symm.trans j4)
  subst hcA
  have hb : va_at g.1 zcl (H.size, zR g N2 (fun _ => none)) H1 := by
    show H1[H.size]? = some (vp_cell _ _)
    rw [e1, vp_cell_q]
    rfl
  have hw1 := zw_push hw hb z1 o1
  have kk2 := kk p e s m args below meth c H1 locs la hC hw1 ⟨Nat.le_trans hS.1 (by omega), fun x h1 h2 => (o1 x (Nat.lt_of_lt_of_le h1 hS.1)).trans (hS.2.1 x h1 h2), hS.2.2⟩ hl
  rw [← hw.2.1] at kk2
  exact kk2
theorem z_aast {q0 q1 n2 : Nat} {vs : List Value} {f : Nat → Option Nat} {z : Int} (he : h[q0]? = some (zR g n2 f)) (hv : h[q1]? = some (.inr (1, vs))) (hn2 : n2 ≤ 2147483647) (h0 : 0 ≤ z) (h1 : z < n2) (hd : decode cc pc = .ok (.aastore, 1)) (kk : zJ l g own cc nL rt nm R mc ms Q k n (pc + 1) ls st (h.set q0 (zR g n2 (vf_upd f z.toNat (some (g.2.1 + q1)))))) : zJ l g own cc nL rt nm R mc ms Q k n pc ls (.ref (g.2.1 + q1) :: .int (iz z) :: .ref (g.2.1 + q0) :: st) h := by
  intro p e s m args below meth c H locs la hC hw hS hl
  obtain ⟨hi, hcl⟩ := iz_in hn2 h0 h1
  have hlt : (iz z).toNatClampNeg < n2 := Nat.not_le.mp fun q => hi (Or.inr q)
  obtain ⟨r', hr', cellV, g1, g2, g3, -⟩ := hw.1 q1 _ (zws_at hv)
  have hcls := (hw.2.2.1 1 _ rfl).2
  obtain ⟨kA, comp, k1, k2, k3, -⟩ := (hw.2.2.2 3 _ rfl).2
  have hcomp : comp = g.1.1 1 := Option.some.inj (k3.symm.trans hcls.1)
  subst hcomp
  obtain ⟨kC, hkC, -⟩ := hcls.2
  refine W.aast hC.1 hC.2.1 (hw.1 q0 _ (zws_at he)) (fun q h => by cases h) (fun h => by cases h) k1 k2 rfl hkC ⟨fun q => hi (Or.inl q), by show _ < (arrV _ _ _).slots.size; rw [arrV_size]; exact hlt⟩ g1 (fun q h => by rw [g3] at h; cases h) (by rw [g2]; exact hkC) (by rw [g2]; exact va_assign hcls) rfl rfl hd fun H1 e1 e2 e3 => ?_
  refine kk p e s m args below meth c H1 _ la hC (zw_set hw he ?_ e2 e3) (hS.put e2 e3 (Nat.le_add_right _ _)) hl
  show H1[_]? = some (vp_cell _ _)
  rw [e1, vp_cell_q, vp_cell_q, arrV_store, hcl]
  congr 2
  funext q
  by_cases hq : q = z.toNat
  · subst hq
    simp [updV, vf_upd, va_rf]
  · simp [updV, vf_upd, hq]
end ZCALLS
end
section
/-! ===== what the tables say, by place ===== -/
theorem zin_X0 : ∀ w ∈ u_ws RX0 TX0 1, w ∈ zT := by decide +kernel
theorem zin_X1 : ∀ w ∈ u_ws RX1 TX1 9, w ∈ zT := by decide +kernel
theorem zin_X2 : ∀ w ∈ u_ws RX2 TX2 9, w ∈ zT := by decide +kernel
theorem zin_X3 : ∀ w ∈ u_ws RX3 TX3 3, w ∈ zT := by decide +kernel
theorem zin_X4 : ∀ w ∈ u_ws RX4 TX4 5, w ∈ zT := by decide +kernel
theorem zin_X5 : ∀ w ∈ u_ws RX5 TX5 21, w ∈ zT := by decide +kernel
theorem lk_L_9 : zLk RL 9 yX4_init cX4_init 1 none 0 := ⟨List.mem_filter.mpr ⟨List.mem_append_right _ (List.mem_of_getElem? (i := 14) (by decide +kernel)), rfl⟩, List.mem_filter.mpr ⟨List.mem_append_right _ (List.mem_of_getElem? (i := 1) (by decide +kernel)), rfl⟩, List.mem_filter.mpr ⟨List.mem_append_right _ (List.mem_of_getElem? (i := 12) (by decide +kernel)), rfl⟩, by decide, by decide, by decide +kernel⟩
theorem in_X4_init : Cond.instanceMethod yX4_init ∈ zT := List.mem_filter.mpr ⟨List.mem_append_right _ (List.mem_of_getElem? (i := 13) (by decide +kernel)), rfl⟩
theorem lk_X4_9 : zLk RX4 9 yX1_init cX1_init 1 none 0 := ⟨List.mem_filter.mpr ⟨List.mem_append_right _ (List.mem_of_getElem? (i := 22) (by decide +kernel)), rfl⟩, List.mem_filter.mpr ⟨List.mem_append_right _ (List.mem_of_getElem? (i := 2) (by decide +kernel)), rfl⟩, List.mem_filter.mpr ⟨List.mem_append_right _ (List.mem_of_getElem? (i := 20) (by decide +kernel)), rfl⟩, by decide, by decide, by decide +kernel⟩
theorem in_X1_init : Cond.instanceMethod yX1_init ∈ zT := List.mem_filter.mpr ⟨List.mem_append_right _ (List.mem_of_getElem? (i := 21) (by decide +kernel)), rfl⟩
theorem lk_X4_22 : zLk RX4 22 yX2_init cX2_init 1 none 0 := ⟨List.mem_filter.mpr ⟨List.mem_append_right _ (List.mem_of_getElem? (i := 78) (by decide +kernel)), rfl⟩, List.mem_filter.mpr ⟨List.mem_append_right _ (List.mem_of_getElem? (i := 3) (by decide +kernel)), rfl⟩, List.mem_filter.mpr ⟨List.mem_append_right _ (List.mem_of_getElem? (i := 76) (by decide +kernel)), rfl⟩, by decide, by decide, by decide +kernel⟩
theorem in_X2_init : Cond.instanceMethod yX2_init ∈ zT := List.mem_filter.mpr ⟨List.mem_append_right _ (List.mem_of_getElem? (i := 77) (by decide +kernel)), rfl⟩
theorem lk_X4_29 : zLk RX4 29 yX0_init cX0_init 1 none 0 := ⟨List.mem_filter.mpr ⟨List.mem_append_right _ (List.mem_of_getElem? (i := 113) (by decide +kernel)), rfl⟩, List.mem_filter.mpr ⟨List.mem_append_right _ (List.mem_of_getElem? (i := 4) (by decide +kernel)), rfl⟩, List.mem_filter.mpr ⟨List.mem_append_right _ (List.mem_of_getElem? (i := 111) (by decide +kernel)), rfl⟩, by decide, by decide, by decide +kernel⟩
theorem in_X0_init : Cond.instanceMethod yX0_init ∈ zT := List.mem_filter.mpr ⟨List.mem_append_right _ (List.mem_of_getElem? (i := 112) (by decide +kernel)), rfl⟩
theorem lk_X4_36 : zLk RX4 36 yX3_init cX3_init 1 none 0 := ⟨List.mem_filter.mpr ⟨List.mem_append_right _ (List.mem_of_getElem? (i := 123) (by decide +kernel)), rfl⟩, List.mem_filter.mpr ⟨List.mem_append_right _ (List.mem_of_getElem? (i := 5) (by decide +kernel)), rfl⟩, List.mem_filter.mpr ⟨List.mem_append_right _ (List.mem_of_getElem? (i := 121) (by decide +kernel)), rfl⟩, by decide, by decide, by decide +kernel⟩
theorem in_X3_init : Cond.instanceMethod yX3_init ∈ zT := List.mem_filter.mpr ⟨List.mem_append_right _ (List.mem_of_getElem? (i := 122) (by decide +kernel)), rfl⟩
theorem lk_L_13 : zLk RL 13 yX4_hours cX4_hours 2 (some .boolean) 1 := ⟨List.mem_filter.mpr ⟨List.mem_append_right _ (List.mem_of_getElem? (i := 154) (by decide +kernel)), rfl⟩, List.mem_filter.mpr ⟨List.mem_append_right _ (List.mem_of_getElem? (i := 1) (by decide +kernel)), rfl⟩, List.mem_filter.mpr ⟨List.mem_append_right _ (List.mem_of_getElem? (i := 151) (by decide +kernel)), rfl⟩, by decide, by decide, by decide +kernel⟩
theorem iv_X4_hours : Cond.instanceMethod yX4_hours ∈ zT ∧ Cond.selects yX4_hours.cls yX4_hours yX4_hours ∈ zT := ⟨List.mem_filter.mpr ⟨List.mem_append_right _ (List.mem_of_getElem? (i := 152) (by decide +kernel)), rfl⟩, List.mem_filter.mpr ⟨List.mem_append_right _ (List.mem_of_getElem? (i := 153) (by decide +kernel)), rfl⟩⟩
theorem lk_X4_41 : zLk RX4 41 yX1_setHours cX1_setHours 2 none 1 := ⟨List.mem_filter.mpr ⟨List.mem_append_right _ (List.mem_of_getElem? (i := 158) (by decide +kernel)), rfl⟩, List.mem_filter.mpr ⟨List.mem_append_right _ (List.mem_of_getElem? (i := 2) (by decide +kernel)), rfl⟩, List.mem_filter.mpr ⟨List.mem_append_right _ (List.mem_of_getElem? (i := 155) (by decide +kernel)), rfl⟩, by decide, by decide, by decide +kernel⟩
theorem iv_X1_setHours : Cond.instanceMethod yX1_setHours ∈ zT ∧ Cond.selects yX1_setHours.cls yX1_setHours yX1_setHours ∈ zT := ⟨List.mem_filter.mpr ⟨List.mem_append_right _ (List.mem_of_getElem? (i := 156) (by decide +kernel)), rfl⟩, List.mem_filter.mpr ⟨List.mem_append_right _ (List.mem_of_getElem? (i := 157) (by decide +kernel)), rfl⟩⟩
theorem lk_X1_50 : zLk RX1 50 yX1_forgetFrom cX1_forgetFrom 3 none 2 := ⟨List.mem_filter.mpr ⟨List.mem_append_right _ (List.mem_of_getElem? (i := 161) (by decide +kernel)), rfl⟩, List.mem_filter.mpr ⟨List.mem_append_right _ (List.mem_of_getElem? (i := 2) (by decide +kernel)), rfl⟩, List.mem_filter.mpr ⟨List.mem_append_right _ (List.mem_of_getElem? (i := 159) (by decide +kernel)), rfl⟩, by decide, by decide, by decide +kernel⟩
theorem st_X1_forgetFrom : Cond.static yX1_forgetFrom ∈ zT := List.mem_filter.mpr ⟨List.mem_append_right _ (List.mem_of_getElem? (i := 160) (by decide +kernel)), rfl⟩
theorem lk_X1_54 : zLk RX1 54 yJ7_fill_fda19 cJ7_fill_fda19 5 none 4 := ⟨List.mem_filter.mpr ⟨List.mem_append_right _ (List.mem_of_getElem? (i := 164) (by decide +kernel)), rfl⟩, List.mem_filter.mpr ⟨List.mem_append_right _ (List.mem_of_getElem? (i := 7) (by decide +kernel)), rfl⟩, List.mem_filter.mpr ⟨List.mem_append_right _ (List.mem_of_getElem? (i := 162) (by decide +kernel)), rfl⟩, by decide, by decide, by decide +kernel⟩
theorem st_J7_fill_fda19 : Cond.static yJ7_fill_fda19 ∈ zT := List.mem_filter.mpr ⟨List.mem_append_right _ (List.mem_of_getElem? (i := 163) (by decide +kernel)), rfl⟩
theorem lk_J7_13 : zLk RJ7 13 yJ7_rangeCheck_23922 cJ7_rangeCheck_23922 3 none 3 := ⟨List.mem_filter.mpr ⟨List.mem_append_right _ (List.mem_of_getElem? (i := 167) (by decide +kernel)), rfl⟩, List.mem_filter.mpr ⟨List.mem_append_right _ (List.mem_of_getElem? (i := 7) (by decide +kernel)), rfl⟩, List.mem_filter.mpr ⟨List.mem_append_right _ (List.mem_of_getElem? (i := 165) (by decide +kernel)), rfl⟩, by decide, by decide, by decide +kernel⟩
theorem st_J7_rangeCheck_23922 : Cond.static yJ7_rangeCheck_23922 ∈ zT := List.mem_filter.mpr ⟨List.mem_append_right _ (List.mem_of_getElem? (i := 166) (by decide +kernel)), rfl⟩
theorem lk_L_18 : zLk RL 18 yX4_kind cX4_kind 2 (some .int) 1 := ⟨List.mem_filter.mpr ⟨List.mem_append_right _ (List.mem_of_getElem? (i := 171) (by decide +kernel)), rfl⟩, List.mem_filter.mpr ⟨List.mem_append_right _ (List.mem_of_getElem? (i := 1) (by decide +kernel)), rfl⟩, List.mem_filter.mpr ⟨List.mem_append_right _ (List.mem_of_getElem? (i := 168) (by decide +kernel)), rfl⟩, by decide, by decide, by decide +kernel⟩
theorem iv_X4_kind : Cond.instanceMethod yX4_kind ∈ zT ∧ Cond.selects yX4_kind.cls yX4_kind yX4_kind ∈ zT := ⟨List.mem_filter.mpr ⟨List.mem_append_right _ (List.mem_of_getElem? (i := 169) (by decide +kernel)), rfl⟩, List.mem_filter.mpr ⟨List.mem_append_right _ (List.mem_of_getElem? (i := 170) (by decide +kernel)), rfl⟩⟩
theorem lk_X4_49 : zLk RX4 49 yX1_addKind cX1_addKind 2 (some .int) 1 := ⟨List.mem_filter.mpr ⟨List.mem_append_right _ (List.mem_of_getElem? (i := 175) (by decide +kernel)), rfl⟩, List.mem_filter.mpr ⟨List.mem_append_right _ (List.mem_of_getElem? (i := 2) (by decide +kernel)), rfl⟩, List.mem_filter.mpr ⟨List.mem_append_right _ (List.mem_of_getElem? (i := 172) (by decide +kernel)), rfl⟩, by decide, by decide, by decide +kernel⟩
theorem iv_X1_addKind : Cond.instanceMethod yX1_addKind ∈ zT ∧ Cond.selects yX1_addKind.cls yX1_addKind yX1_addKind ∈ zT := ⟨List.mem_filter.mpr ⟨List.mem_append_right _ (List.mem_of_getElem? (i := 173) (by decide +kernel)), rfl⟩, List.mem_filter.mpr ⟨List.mem_append_right _ (List.mem_of_getElem? (i := 174) (by decide +kernel)), rfl⟩⟩
theorem lk_L_23 : zLk RL 23 yX4_offer cX4_offer 4 (some .int) 3 := ⟨List.mem_filter.mpr ⟨List.mem_append_right _ (List.mem_of_getElem? (i := 179) (by decide +kernel)), rfl⟩, List.mem_filter.mpr ⟨List.mem_append_right _ (List.mem_of_getElem? (i := 1) (by decide +kernel)), rfl⟩, List.mem_filter.mpr ⟨List.mem_append_right _ (List.mem_of_getElem? (i := 176) (by decide +kernel)), rfl⟩, by decide, by decide, by decide +kernel⟩
theorem iv_X4_offer : Cond.instanceMethod yX4_offer ∈ zT ∧ Cond.selects yX4_offer.cls yX4_offer yX4_offer ∈ zT := ⟨List.mem_filter.mpr ⟨List.mem_append_right _ (List.mem_of_getElem? (i := 177) (by decide +kernel)), rfl⟩, List.mem_filter.mpr ⟨List.mem_append_right _ (List.mem_of_getElem? (i := 178) (by decide +kernel)), rfl⟩⟩
theorem lk_X4_56 : zLk RX4 56 yX1_hasKind cX1_hasKind 2 (some .boolean) 1 := ⟨List.mem_filter.mpr ⟨List.mem_append_right _ (List.mem_of_getElem? (i := 183) (by decide +kernel)), rfl⟩, List.mem_filter.mpr ⟨List.mem_append_right _ (List.mem_of_getElem? (i := 2) (by decide +kernel)), rfl⟩, List.mem_filter.mpr ⟨List.mem_append_right _ (List.mem_of_getElem? (i := 180) (by decide +kernel)), rfl⟩, by decide, by decide, by decide +kernel⟩
theorem iv_X1_hasKind : Cond.instanceMethod yX1_hasKind ∈ zT ∧ Cond.selects yX1_hasKind.cls yX1_hasKind yX1_hasKind ∈ zT := ⟨List.mem_filter.mpr ⟨List.mem_append_right _ (List.mem_of_getElem? (i := 181) (by decide +kernel)), rfl⟩, List.mem_filter.mpr ⟨List.mem_append_right _ (List.mem_of_getElem? (i := 182) (by decide +kernel)), rfl⟩⟩
theorem lk_X4_60 : zLk RX4 60 yX4_isCost cX4_isCost 1 (some .boolean) 1 := ⟨List.mem_filter.mpr ⟨List.mem_append_right _ (List.mem_of_getElem? (i := 186) (by decide +kernel)), rfl⟩, List.mem_filter.mpr ⟨List.mem_append_right _ (List.mem_of_getElem? (i := 1) (by decide +kernel)), rfl⟩, List.mem_filter.mpr ⟨List.mem_append_right _ (List.mem_of_getElem? (i := 184) (by decide +kernel)), rfl⟩, by decide, by decide, by decide +kernel⟩
theorem st_X4_isCost : Cond.static yX4_isCost ∈ zT := List.mem_filter.mpr ⟨List.mem_append_right _ (List.mem_of_getElem? (i := 185) (by decide +kernel)), rfl⟩
theorem lk_X4_63 : zLk RX4 63 yX1_addOffer cX1_addOffer 4 (some .int) 3 := ⟨List.mem_filter.mpr ⟨List.mem_append_right _ (List.mem_of_getElem? (i := 191) (by decide +kernel)), rfl⟩, List.mem_filter.mpr ⟨List.mem_append_right _ (List.mem_of_getElem? (i := 2) (by decide +kernel)), rfl⟩, List.mem_filter.mpr ⟨List.mem_append_right _ (List.mem_of_getElem? (i := 188) (by decide +kernel)), rfl⟩, by decide, by decide, by decide +kernel⟩
theorem iv_X1_addOffer : Cond.instanceMethod yX1_addOffer ∈ zT ∧ Cond.selects yX1_addOffer.cls yX1_addOffer yX1_addOffer ∈ zT := ⟨List.mem_filter.mpr ⟨List.mem_append_right _ (List.mem_of_getElem? (i := 189) (by decide +kernel)), rfl⟩, List.mem_filter.mpr ⟨List.mem_append_right _ (List.mem_of_getElem? (i := 190) (by decide +kernel)), rfl⟩⟩
theorem lk_L_28 : zLk RL 28 yX4_reprice cX4_reprice 3 (some .boolean) 2 := ⟨List.mem_filter.mpr ⟨List.mem_append_right _ (List.mem_of_getElem? (i := 195) (by decide +kernel)), rfl⟩, List.mem_filter.mpr ⟨List.mem_append_right _ (List.mem_of_getElem? (i := 1) (by decide +kernel)), rfl⟩, List.mem_filter.mpr ⟨List.mem_append_right _ (List.mem_of_getElem? (i := 192) (by decide +kernel)), rfl⟩, by decide, by decide, by decide +kernel⟩
theorem iv_X4_reprice : Cond.instanceMethod yX4_reprice ∈ zT ∧ Cond.selects yX4_reprice.cls yX4_reprice yX4_reprice ∈ zT := ⟨List.mem_filter.mpr ⟨List.mem_append_right _ (List.mem_of_getElem? (i := 193) (by decide +kernel)), rfl⟩, List.mem_filter.mpr ⟨List.mem_append_right _ (List.mem_of_getElem? (i := 194) (by decide +kernel)), rfl⟩⟩
theorem lk_X4_67 : zLk RX4 67 yX1_hasOffer cX1_hasOffer 2 (some .boolean) 1 := ⟨List.mem_filter.mpr ⟨List.mem_append_right _ (List.mem_of_getElem? (i := 199) (by decide +kernel)), rfl⟩, List.mem_filter.mpr ⟨List.mem_append_right _ (List.mem_of_getElem? (i := 2) (by decide +kernel)), rfl⟩, List.mem_filter.mpr ⟨List.mem_append_right _ (List.mem_of_getElem? (i := 196) (by decide +kernel)), rfl⟩, by decide, by decide, by decide +kernel⟩
theorem iv_X1_hasOffer : Cond.instanceMethod yX1_hasOffer ∈ zT ∧ Cond.selects yX1_hasOffer.cls yX1_hasOffer yX1_hasOffer ∈ zT := ⟨List.mem_filter.mpr ⟨List.mem_append_right _ (List.mem_of_getElem? (i := 197) (by decide +kernel)), rfl⟩, List.mem_filter.mpr ⟨List.mem_append_right _ (List.mem_of_getElem? (i := 198) (by decide +kernel)), rfl⟩⟩
theorem lk_L_33 : zLk RL 33 yX4_need cX4_need 5 (some .boolean) 4 := ⟨List.mem_filter.mpr ⟨List.mem_append_right _ (List.mem_of_getElem? (i := 203) (by decide +kernel)), rfl⟩, List.mem_filter.mpr ⟨List.mem_append_right _ (List.mem_of_getElem? (i := 1) (by decide +kernel)), rfl⟩, List.mem_filter.mpr ⟨List.mem_append_right _ (List.mem_of_getElem? (i := 200) (by decide +kernel)), rfl⟩, by decide, by decide, by decide +kernel⟩
theorem iv_X4_need : Cond.instanceMethod yX4_need ∈ zT ∧ Cond.selects yX4_need.cls yX4_need yX4_need ∈ zT := ⟨List.mem_filter.mpr ⟨List.mem_append_right _ (List.mem_of_getElem? (i := 201) (by decide +kernel)), rfl⟩, List.mem_filter.mpr ⟨List.mem_append_right _ (List.mem_of_getElem? (i := 202) (by decide +kernel)), rfl⟩⟩
theorem lk_X4_74 : zLk RX4 74 yX4_isOwner cX4_isOwner 1 (some .boolean) 1 := ⟨List.mem_filter.mpr ⟨List.mem_append_right _ (List.mem_of_getElem? (i := 206) (by decide +kernel)), rfl⟩, List.mem_filter.mpr ⟨List.mem_append_right _ (List.mem_of_getElem? (i := 1) (by decide +kernel)), rfl⟩, List.mem_filter.mpr ⟨List.mem_append_right _ (List.mem_of_getElem? (i := 204) (by decide +kernel)), rfl⟩, by decide, by decide, by decide +kernel⟩
theorem st_X4_isOwner : Cond.static yX4_isOwner ∈ zT := List.mem_filter.mpr ⟨List.mem_append_right _ (List.mem_of_getElem? (i := 205) (by decide +kernel)), rfl⟩
theorem lk_X4_77 : zLk RX4 77 yX1_hasHour cX1_hasHour 2 (some .boolean) 1 := ⟨List.mem_filter.mpr ⟨List.mem_append_right _ (List.mem_of_getElem? (i := 210) (by decide +kernel)), rfl⟩, List.mem_filter.mpr ⟨List.mem_append_right _ (List.mem_of_getElem? (i := 2) (by decide +kernel)), rfl⟩, List.mem_filter.mpr ⟨List.mem_append_right _ (List.mem_of_getElem? (i := 207) (by decide +kernel)), rfl⟩, by decide, by decide, by decide +kernel⟩
theorem iv_X1_hasHour : Cond.instanceMethod yX1_hasHour ∈ zT ∧ Cond.selects yX1_hasHour.cls yX1_hasHour yX1_hasHour ∈ zT := ⟨List.mem_filter.mpr ⟨List.mem_append_right _ (List.mem_of_getElem? (i := 208) (by decide +kernel)), rfl⟩, List.mem_filter.mpr ⟨List.mem_append_right _ (List.mem_of_getElem? (i := 209) (by decide +kernel)), rfl⟩⟩
theorem lk_X4_80 : zLk RX4 80 yX1_setNeed cX1_setNeed 5 none 4 := ⟨List.mem_filter.mpr ⟨List.mem_append_right _ (List.mem_of_getElem? (i := 214) (by decide +kernel)), rfl⟩, List.mem_filter.mpr ⟨List.mem_append_right _ (List.mem_of_getElem? (i := 2) (by decide +kernel)), rfl⟩, List.mem_filter.mpr ⟨List.mem_append_right _ (List.mem_of_getElem? (i := 211) (by decide +kernel)), rfl⟩, by decide, by decide, by decide +kernel⟩
theorem iv_X1_setNeed : Cond.instanceMethod yX1_setNeed ∈ zT ∧ Cond.selects yX1_setNeed.cls yX1_setNeed yX1_setNeed ∈ zT := ⟨List.mem_filter.mpr ⟨List.mem_append_right _ (List.mem_of_getElem? (i := 212) (by decide +kernel)), rfl⟩, List.mem_filter.mpr ⟨List.mem_append_right _ (List.mem_of_getElem? (i := 213) (by decide +kernel)), rfl⟩⟩
theorem lk_L_38 : zLk RL 38 yX4_needs cX4_needs 6 (some .boolean) 4 := ⟨List.mem_filter.mpr ⟨List.mem_append_right _ (List.mem_of_getElem? (i := 218) (by decide +kernel)), rfl⟩, List.mem_filter.mpr ⟨List.mem_append_right _ (List.mem_of_getElem? (i := 1) (by decide +kernel)), rfl⟩, List.mem_filter.mpr ⟨List.mem_append_right _ (List.mem_of_getElem? (i := 215) (by decide +kernel)), rfl⟩, by decide, by decide, by decide +kernel⟩
theorem iv_X4_needs : Cond.instanceMethod yX4_needs ∈ zT ∧ Cond.selects yX4_needs.cls yX4_needs yX4_needs ∈ zT := ⟨List.mem_filter.mpr ⟨List.mem_append_right _ (List.mem_of_getElem? (i := 216) (by decide +kernel)), rfl⟩, List.mem_filter.mpr ⟨List.mem_append_right _ (List.mem_of_getElem? (i := 217) (by decide +kernel)), rfl⟩⟩
theorem lk_X4_87 : zLk RX4 87 yX4_areNeeds cX4_areNeeds 2 (some .boolean) 1 := ⟨List.mem_filter.mpr ⟨List.mem_append_right _ (List.mem_of_getElem? (i := 221) (by decide +kernel)), rfl⟩, List.mem_filter.mpr ⟨List.mem_append_right _ (List.mem_of_getElem? (i := 1) (by decide +kernel)), rfl⟩, List.mem_filter.mpr ⟨List.mem_append_right _ (List.mem_of_getElem? (i := 219) (by decide +kernel)), rfl⟩, by decide, by decide, by decide +kernel⟩
theorem st_X4_areNeeds : Cond.static yX4_areNeeds ∈ zT := List.mem_filter.mpr ⟨List.mem_append_right _ (List.mem_of_getElem? (i := 220) (by decide +kernel)), rfl⟩
theorem lk_X4_90 : zLk RX4 90 yX4_halfByte cX4_halfByte 2 (some .int) 2 := ⟨List.mem_filter.mpr ⟨List.mem_append_right _ (List.mem_of_getElem? (i := 224) (by decide +kernel)), rfl⟩, List.mem_filter.mpr ⟨List.mem_append_right _ (List.mem_of_getElem? (i := 1) (by decide +kernel)), rfl⟩, List.mem_filter.mpr ⟨List.mem_append_right _ (List.mem_of_getElem? (i := 222) (by decide +kernel)), rfl⟩, by decide, by decide, by decide +kernel⟩
theorem st_X4_halfByte : Cond.static yX4_halfByte ∈ zT := List.mem_filter.mpr ⟨List.mem_append_right _ (List.mem_of_getElem? (i := 223) (by decide +kernel)), rfl⟩
theorem lk_L_42 : zLk RL 42 yX4_buy cX4_buy 4 (some .boolean) 3 := ⟨List.mem_filter.mpr ⟨List.mem_append_right _ (List.mem_of_getElem? (i := 228) (by decide +kernel)), rfl⟩, List.mem_filter.mpr ⟨List.mem_append_right _ (List.mem_of_getElem? (i := 1) (by decide +kernel)), rfl⟩, List.mem_filter.mpr ⟨List.mem_append_right _ (List.mem_of_getElem? (i := 225) (by decide +kernel)), rfl⟩, by decide, by decide, by decide +kernel⟩
theorem iv_X4_buy : Cond.instanceMethod yX4_buy ∈ zT ∧ Cond.selects yX4_buy.cls yX4_buy yX4_buy ∈ zT := ⟨List.mem_filter.mpr ⟨List.mem_append_right _ (List.mem_of_getElem? (i := 226) (by decide +kernel)), rfl⟩, List.mem_filter.mpr ⟨List.mem_append_right _ (List.mem_of_getElem? (i := 227) (by decide +kernel)), rfl⟩⟩
theorem lk_X4_94 : zLk RX4 94 yX1_setBought cX1_setBought 4 none 3 := ⟨List.mem_filter.mpr ⟨List.mem_append_right _ (List.mem_of_getElem? (i := 232) (by decide +kernel)), rfl⟩, List.mem_filter.mpr ⟨List.mem_append_right _ (List.mem_of_getElem? (i := 2) (by decide +kernel)), rfl⟩, List.mem_filter.mpr ⟨List.mem_append_right _ (List.mem_of_getElem? (i := 229) (by decide +kernel)), rfl⟩, by decide, by decide, by decide +kernel⟩
theorem iv_X1_setBought : Cond.instanceMethod yX1_setBought ∈ zT ∧ Cond.selects yX1_setBought.cls yX1_setBought yX1_setBought ∈ zT := ⟨List.mem_filter.mpr ⟨List.mem_append_right _ (List.mem_of_getElem? (i := 230) (by decide +kernel)), rfl⟩, List.mem_filter.mpr ⟨List.mem_append_right _ (List.mem_of_getElem? (i := 231) (by decide +kernel)), rfl⟩⟩
theorem lk_L_47 : zLk RL 47 yX4_clear cX4_clear 2 (some .boolean) 1 := ⟨List.mem_filter.mpr ⟨List.mem_append_right _ (List.mem_of_getElem? (i := 236) (by decide +kernel)), rfl⟩, List.mem_filter.mpr ⟨List.mem_append_right _ (List.mem_of_getElem? (i := 1) (by decide +kernel)), rfl⟩, List.mem_filter.mpr ⟨List.mem_append_right _ (List.mem_of_getElem? (i := 233) (by decide +kernel)), rfl⟩, by decide, by decide, by decide +kernel⟩
theorem iv_X4_clear : Cond.instanceMethod yX4_clear ∈ zT ∧ Cond.selects yX4_clear.cls yX4_clear yX4_clear ∈ zT := ⟨List.mem_filter.mpr ⟨List.mem_append_right _ (List.mem_of_getElem? (i := 234) (by decide +kernel)), rfl⟩, List.mem_filter.mpr ⟨List.mem_append_right _ (List.mem_of_getElem? (i := 235) (by decide +kernel)), rfl⟩⟩
theorem lk_X4_98 : zLk RX4 98 yX1_buyNothing cX1_buyNothing 4 none 1 := ⟨List.mem_filter.mpr ⟨List.mem_append_right _ (List.mem_of_getElem? (i := 240) (by decide +kernel)), rfl⟩, List.mem_filter.mpr ⟨List.mem_append_right _ (List.mem_of_getElem? (i := 2) (by decide +kernel)), rfl⟩, List.mem_filter.mpr ⟨List.mem_append_right _ (List.mem_of_getElem? (i := 237) (by decide +kernel)), rfl⟩, by decide, by decide, by decide +kernel⟩
theorem iv_X1_buyNothing : Cond.instanceMethod yX1_buyNothing ∈ zT ∧ Cond.selects yX1_buyNothing.cls yX1_buyNothing yX1_buyNothing ∈ zT := ⟨List.mem_filter.mpr ⟨List.mem_append_right _ (List.mem_of_getElem? (i := 238) (by decide +kernel)), rfl⟩, List.mem_filter.mpr ⟨List.mem_append_right _ (List.mem_of_getElem? (i := 239) (by decide +kernel)), rfl⟩⟩
theorem lk_L_51 : zLk RL 51 yX4_tell cX4_tell 4 (some .int) 3 := ⟨List.mem_filter.mpr ⟨List.mem_append_right _ (List.mem_of_getElem? (i := 244) (by decide +kernel)), rfl⟩, List.mem_filter.mpr ⟨List.mem_append_right _ (List.mem_of_getElem? (i := 1) (by decide +kernel)), rfl⟩, List.mem_filter.mpr ⟨List.mem_append_right _ (List.mem_of_getElem? (i := 241) (by decide +kernel)), rfl⟩, by decide, by decide, by decide +kernel⟩
theorem iv_X4_tell : Cond.instanceMethod yX4_tell ∈ zT ∧ Cond.selects yX4_tell.cls yX4_tell yX4_tell ∈ zT := ⟨List.mem_filter.mpr ⟨List.mem_append_right _ (List.mem_of_getElem? (i := 242) (by decide +kernel)), rfl⟩, List.mem_filter.mpr ⟨List.mem_append_right _ (List.mem_of_getElem? (i := 243) (by decide +kernel)), rfl⟩⟩
theorem lk_X4_101 : zLk RX4 101 yX1_needOfAll cX1_needOfAll 5 (some .int) 2 := ⟨List.mem_filter.mpr ⟨List.mem_append_right _ (List.mem_of_getElem? (i := 248) (by decide +kernel)), rfl⟩, List.mem_filter.mpr ⟨List.mem_append_right _ (List.mem_of_getElem? (i := 2) (by decide +kernel)), rfl⟩, List.mem_filter.mpr ⟨List.mem_append_right _ (List.mem_of_getElem? (i := 245) (by decide +kernel)), rfl⟩, by decide, by decide, by decide +kernel⟩
theorem iv_X1_needOfAll : Cond.instanceMethod yX1_needOfAll ∈ zT ∧ Cond.selects yX1_needOfAll.cls yX1_needOfAll yX1_needOfAll ∈ zT := ⟨List.mem_filter.mpr ⟨List.mem_append_right _ (List.mem_of_getElem? (i := 246) (by decide +kernel)), rfl⟩, List.mem_filter.mpr ⟨List.mem_append_right _ (List.mem_of_getElem? (i := 247) (by decide +kernel)), rfl⟩⟩
theorem lk_X1_60 : zLk RX1 60 yX1_needOf cX1_needOf 4 (some .int) 3 := ⟨List.mem_filter.mpr ⟨List.mem_append_right _ (List.mem_of_getElem? (i := 252) (by decide +kernel)), rfl⟩, List.mem_filter.mpr ⟨List.mem_append_right _ (List.mem_of_getElem? (i := 2) (by decide +kernel)), rfl⟩, List.mem_filter.mpr ⟨List.mem_append_right _ (List.mem_of_getElem? (i := 249) (by decide +kernel)), rfl⟩, by decide, by decide, by decide +kernel⟩
theorem iv_X1_needOf : Cond.instanceMethod yX1_needOf ∈ zT ∧ Cond.selects yX1_needOf.cls yX1_needOf yX1_needOf ∈ zT := ⟨List.mem_filter.mpr ⟨List.mem_append_right _ (List.mem_of_getElem? (i := 250) (by decide +kernel)), rfl⟩, List.mem_filter.mpr ⟨List.mem_append_right _ (List.mem_of_getElem? (i := 251) (by decide +kernel)), rfl⟩⟩
theorem lk_X4_104 : zLk RX4 104 yX1_ahead cX1_ahead 5 (some .int) 2 := ⟨List.mem_filter.mpr ⟨List.mem_append_right _ (List.mem_of_getElem? (i := 256) (by decide +kernel)), rfl⟩, List.mem_filter.mpr ⟨List.mem_append_right _ (List.mem_of_getElem? (i := 2) (by decide +kernel)), rfl⟩, List.mem_filter.mpr ⟨List.mem_append_right _ (List.mem_of_getElem? (i := 253) (by decide +kernel)), rfl⟩, by decide, by decide, by decide +kernel⟩
theorem iv_X1_ahead : Cond.instanceMethod yX1_ahead ∈ zT ∧ Cond.selects yX1_ahead.cls yX1_ahead yX1_ahead ∈ zT := ⟨List.mem_filter.mpr ⟨List.mem_append_right _ (List.mem_of_getElem? (i := 254) (by decide +kernel)), rfl⟩, List.mem_filter.mpr ⟨List.mem_append_right _ (List.mem_of_getElem? (i := 255) (by decide +kernel)), rfl⟩⟩
theorem lk_X1_68 : zLk RX1 68 yJ9_max_7cf53 cJ9_max_7cf53 2 (some .int) 2 := ⟨List.mem_filter.mpr ⟨List.mem_append_right _ (List.mem_of_getElem? (i := 259) (by decide +kernel)), rfl⟩, List.mem_filter.mpr ⟨List.mem_append_right _ (List.mem_of_getElem? (i := 8) (by decide +kernel)), rfl⟩, List.mem_filter.mpr ⟨List.mem_append_right _ (List.mem_of_getElem? (i := 257) (by decide +kernel)), rfl⟩, by decide, by decide, by decide +kernel⟩
theorem st_J9_max_7cf53 : Cond.static yJ9_max_7cf53 ∈ zT := List.mem_filter.mpr ⟨List.mem_append_right _ (List.mem_of_getElem? (i := 258) (by decide +kernel)), rfl⟩
theorem lk_X1_73 : zLk RX1 73 yX1_boughtWithin cX1_boughtWithin 6 (some .int) 3 := ⟨List.mem_filter.mpr ⟨List.mem_append_right _ (List.mem_of_getElem? (i := 263) (by decide +kernel)), rfl⟩, List.mem_filter.mpr ⟨List.mem_append_right _ (List.mem_of_getElem? (i := 2) (by decide +kernel)), rfl⟩, List.mem_filter.mpr ⟨List.mem_append_right _ (List.mem_of_getElem? (i := 260) (by decide +kernel)), rfl⟩, by decide, by decide, by decide +kernel⟩
theorem iv_X1_boughtWithin : Cond.instanceMethod yX1_boughtWithin ∈ zT ∧ Cond.selects yX1_boughtWithin.cls yX1_boughtWithin yX1_boughtWithin ∈ zT := ⟨List.mem_filter.mpr ⟨List.mem_append_right _ (List.mem_of_getElem? (i := 262) (by decide +kernel)), rfl⟩, List.mem_filter.mpr ⟨List.mem_append_left _ (List.mem_of_getElem? (i := 0) (by decide +kernel)), rfl⟩⟩
theorem lk_X1_90 : zLk RX1 90 yX1_boughtAt cX1_boughtAt 3 (some .int) 2 := ⟨List.mem_filter.mpr ⟨List.mem_append_right _ (List.mem_of_getElem? (i := 267) (by decide +kernel)), rfl⟩, List.mem_filter.mpr ⟨List.mem_append_right _ (List.mem_of_getElem? (i := 2) (by decide +kernel)), rfl⟩, List.mem_filter.mpr ⟨List.mem_append_right _ (List.mem_of_getElem? (i := 264) (by decide +kernel)), rfl⟩, by decide, by decide, by decide +kernel⟩
theorem iv_X1_boughtAt : Cond.instanceMethod yX1_boughtAt ∈ zT ∧ Cond.selects yX1_boughtAt.cls yX1_boughtAt yX1_boughtAt ∈ zT := ⟨List.mem_filter.mpr ⟨List.mem_append_right _ (List.mem_of_getElem? (i := 265) (by decide +kernel)), rfl⟩, List.mem_filter.mpr ⟨List.mem_append_right _ (List.mem_of_getElem? (i := 266) (by decide +kernel)), rfl⟩⟩
theorem lk_X4_107 : zLk RX4 107 yX1_notAhead cX1_notAhead 3 (some .int) 2 := ⟨List.mem_filter.mpr ⟨List.mem_append_right _ (List.mem_of_getElem? (i := 271) (by decide +kernel)), rfl⟩, List.mem_filter.mpr ⟨List.mem_append_right _ (List.mem_of_getElem? (i := 2) (by decide +kernel)), rfl⟩, List.mem_filter.mpr ⟨List.mem_append_right _ (List.mem_of_getElem? (i := 268) (by decide +kernel)), rfl⟩, by decide, by decide, by decide +kernel⟩
theorem iv_X1_notAhead : Cond.instanceMethod yX1_notAhead ∈ zT ∧ Cond.selects yX1_notAhead.cls yX1_notAhead yX1_notAhead ∈ zT := ⟨List.mem_filter.mpr ⟨List.mem_append_right _ (List.mem_of_getElem? (i := 269) (by decide +kernel)), rfl⟩, List.mem_filter.mpr ⟨List.mem_append_right _ (List.mem_of_getElem? (i := 270) (by decide +kernel)), rfl⟩⟩
theorem lk_X1_64 : zLk RX1 64 yX1_needOfAll cX1_needOfAll 5 (some .int) 2 := ⟨List.mem_filter.mpr ⟨List.mem_append_right _ (List.mem_of_getElem? (i := 248) (by decide +kernel)), rfl⟩, List.mem_filter.mpr ⟨List.mem_append_right _ (List.mem_of_getElem? (i := 2) (by decide +kernel)), rfl⟩, List.mem_filter.mpr ⟨List.mem_append_right _ (List.mem_of_getElem? (i := 272) (by decide +kernel)), rfl⟩, by decide, by decide, by decide +kernel⟩
theorem lk_X1_76 : zLk RX1 76 yX1_ahead cX1_ahead 5 (some .int) 2 := ⟨List.mem_filter.mpr ⟨List.mem_append_right _ (List.mem_of_getElem? (i := 256) (by decide +kernel)), rfl⟩, List.mem_filter.mpr ⟨List.mem_append_right _ (List.mem_of_getElem? (i := 2) (by decide +kernel)), rfl⟩, List.mem_filter.mpr ⟨List.mem_append_right _ (List.mem_of_getElem? (i := 273) (by decide +kernel)), rfl⟩, by decide, by decide, by decide +kernel⟩
theorem lk_X4_110 : zLk RX4 110 yJ9_max_7cf53 cJ9_max_7cf53 2 (some .int) 2 := ⟨List.mem_filter.mpr ⟨List.mem_append_right _ (List.mem_of_getElem? (i := 259) (by decide +kernel)), rfl⟩, List.mem_filter.mpr ⟨List.mem_append_right _ (List.mem_of_getElem? (i := 8) (by decide +kernel)), rfl⟩, List.mem_filter.mpr ⟨List.mem_append_right _ (List.mem_of_getElem? (i := 274) (by decide +kernel)), rfl⟩, by decide, by decide, by decide +kernel⟩
theorem lk_X4_115 : zLk RX4 115 yX4_tellOfOne cX4_tellOfOne 4 (some .int) 3 := ⟨List.mem_filter.mpr ⟨List.mem_append_right _ (List.mem_of_getElem? (i := 278) (by decide +kernel)), rfl⟩, List.mem_filter.mpr ⟨List.mem_append_right _ (List.mem_of_getElem? (i := 1) (by decide +kernel)), rfl⟩, List.mem_filter.mpr ⟨List.mem_append_right _ (List.mem_of_getElem? (i := 275) (by decide +kernel)), rfl⟩, by decide, by decide, by decide +kernel⟩
theorem iv_X4_tellOfOne : Cond.instanceMethod yX4_tellOfOne ∈ zT ∧ Cond.selects yX4_tellOfOne.cls yX4_tellOfOne yX4_tellOfOne ∈ zT := ⟨List.mem_filter.mpr ⟨List.mem_append_right _ (List.mem_of_getElem? (i := 277) (by decide +kernel)), rfl⟩, List.mem_filter.mpr ⟨List.mem_append_left _ (List.mem_of_getElem? (i := 1) (by decide +kernel)), rfl⟩⟩
theorem lk_X4_157 : zLk RX4 157 yX1_needOf cX1_needOf 4 (some .int) 3 := ⟨List.mem_filter.mpr ⟨List.mem_append_right _ (List.mem_of_getElem? (i := 252) (by decide +kernel)), rfl⟩, List.mem_filter.mpr ⟨List.mem_append_right _ (List.mem_of_getElem? (i := 2) (by decide +kernel)), rfl⟩, List.mem_filter.mpr ⟨List.mem_append_right _ (List.mem_of_getElem? (i := 279) (by decide +kernel)), rfl⟩, by decide, by decide, by decide +kernel⟩
theorem lk_X4_160 : zLk RX4 160 yX1_isOfferOf cX1_isOfferOf 3 (some .boolean) 2 := ⟨List.mem_filter.mpr ⟨List.mem_append_right _ (List.mem_of_getElem? (i := 283) (by decide +kernel)), rfl⟩, List.mem_filter.mpr ⟨List.mem_append_right _ (List.mem_of_getElem? (i := 2) (by decide +kernel)), rfl⟩, List.mem_filter.mpr ⟨List.mem_append_right _ (List.mem_of_getElem? (i := 280) (by decide +kernel)), rfl⟩, by decide, by decide, by decide +kernel⟩
theorem iv_X1_isOfferOf : Cond.instanceMethod yX1_isOfferOf ∈ zT ∧ Cond.selects yX1_isOfferOf.cls yX1_isOfferOf yX1_isOfferOf ∈ zT := ⟨List.mem_filter.mpr ⟨List.mem_append_right _ (List.mem_of_getElem? (i := 281) (by decide +kernel)), rfl⟩, List.mem_filter.mpr ⟨List.mem_append_right _ (List.mem_of_getElem? (i := 282) (by decide +kernel)), rfl⟩⟩
theorem lk_X1_46 : zLk RX1 46 yX1_hasOffer cX1_hasOffer 2 (some .boolean) 1 := ⟨List.mem_filter.mpr ⟨List.mem_append_right _ (List.mem_of_getElem? (i := 199) (by decide +kernel)), rfl⟩, List.mem_filter.mpr ⟨List.mem_append_right _ (List.mem_of_getElem? (i := 2) (by decide +kernel)), rfl⟩, List.mem_filter.mpr ⟨List.mem_append_right _ (List.mem_of_getElem? (i := 284) (by decide +kernel)), rfl⟩, by decide, by decide, by decide +kernel⟩
theorem lk_X4_164 : zLk RX4 164 yX1_boughtAt cX1_boughtAt 3 (some .int) 2 := ⟨List.mem_filter.mpr ⟨List.mem_append_right _ (List.mem_of_getElem? (i := 267) (by decide +kernel)), rfl⟩, List.mem_filter.mpr ⟨List.mem_append_right _ (List.mem_of_getElem? (i := 2) (by decide +kernel)), rfl⟩, List.mem_filter.mpr ⟨List.mem_append_right _ (List.mem_of_getElem? (i := 285) (by decide +kernel)), rfl⟩, by decide, by decide, by decide +kernel⟩
theorem lk_L_55 : zLk RL 55 yX4_cost cX4_cost 2 (some .long) 1 := ⟨List.mem_filter.mpr ⟨List.mem_append_right _ (List.mem_of_getElem? (i := 289) (by decide +kernel)), rfl⟩, List.mem_filter.mpr ⟨List.mem_append_right _ (List.mem_of_getElem? (i := 1) (by decide +kernel)), rfl⟩, List.mem_filter.mpr ⟨List.mem_append_right _ (List.mem_of_getElem? (i := 286) (by decide +kernel)), rfl⟩, by decide, by decide, by decide +kernel⟩
theorem iv_X4_cost : Cond.instanceMethod yX4_cost ∈ zT ∧ Cond.selects yX4_cost.cls yX4_cost yX4_cost ∈ zT := ⟨List.mem_filter.mpr ⟨List.mem_append_right _ (List.mem_of_getElem? (i := 287) (by decide +kernel)), rfl⟩, List.mem_filter.mpr ⟨List.mem_append_right _ (List.mem_of_getElem? (i := 288) (by decide +kernel)), rfl⟩⟩
theorem lk_X4_118 : zLk RX4 118 yX1_planCost cX1_planCost 5 (some .long) 1 := ⟨List.mem_filter.mpr ⟨List.mem_append_right _ (List.mem_of_getElem? (i := 293) (by decide +kernel)), rfl⟩, List.mem_filter.mpr ⟨List.mem_append_right _ (List.mem_of_getElem? (i := 2) (by decide +kernel)), rfl⟩, List.mem_filter.mpr ⟨List.mem_append_right _ (List.mem_of_getElem? (i := 290) (by decide +kernel)), rfl⟩, by decide, by decide, by decide +kernel⟩
theorem iv_X1_planCost : Cond.instanceMethod yX1_planCost ∈ zT ∧ Cond.selects yX1_planCost.cls yX1_planCost yX1_planCost ∈ zT := ⟨List.mem_filter.mpr ⟨List.mem_append_right _ (List.mem_of_getElem? (i := 291) (by decide +kernel)), rfl⟩, List.mem_filter.mpr ⟨List.mem_append_right _ (List.mem_of_getElem? (i := 292) (by decide +kernel)), rfl⟩⟩
theorem lk_X1_83 : zLk RX1 83 yX1_offersCost cX1_offersCost 5 (some .long) 1 := ⟨List.mem_filter.mpr ⟨List.mem_append_right _ (List.mem_of_getElem? (i := 297) (by decide +kernel)), rfl⟩, List.mem_filter.mpr ⟨List.mem_append_right _ (List.mem_of_getElem? (i := 2) (by decide +kernel)), rfl⟩, List.mem_filter.mpr ⟨List.mem_append_right _ (List.mem_of_getElem? (i := 294) (by decide +kernel)), rfl⟩, by decide, by decide, by decide +kernel⟩
theorem iv_X1_offersCost : Cond.instanceMethod yX1_offersCost ∈ zT ∧ Cond.selects yX1_offersCost.cls yX1_offersCost yX1_offersCost ∈ zT := ⟨List.mem_filter.mpr ⟨List.mem_append_right _ (List.mem_of_getElem? (i := 295) (by decide +kernel)), rfl⟩, List.mem_filter.mpr ⟨List.mem_append_right _ (List.mem_of_getElem? (i := 296) (by decide +kernel)), rfl⟩⟩
theorem lk_X1_79 : zLk RX1 79 yX1_boughtInAll cX1_boughtInAll 2 (some .int) 1 := ⟨List.mem_filter.mpr ⟨List.mem_append_right _ (List.mem_of_getElem? (i := 301) (by decide +kernel)), rfl⟩, List.mem_filter.mpr ⟨List.mem_append_right _ (List.mem_of_getElem? (i := 2) (by decide +kernel)), rfl⟩, List.mem_filter.mpr ⟨List.mem_append_right _ (List.mem_of_getElem? (i := 298) (by decide +kernel)), rfl⟩, by decide, by decide, by decide +kernel⟩
theorem iv_X1_boughtInAll : Cond.instanceMethod yX1_boughtInAll ∈ zT ∧ Cond.selects yX1_boughtInAll.cls yX1_boughtInAll yX1_boughtInAll ∈ zT := ⟨List.mem_filter.mpr ⟨List.mem_append_right _ (List.mem_of_getElem? (i := 299) (by decide +kernel)), rfl⟩, List.mem_filter.mpr ⟨List.mem_append_right _ (List.mem_of_getElem? (i := 300) (by decide +kernel)), rfl⟩⟩
theorem lk_X1_87 : zLk RX1 87 yX1_notAhead cX1_notAhead 3 (some .int) 2 := ⟨List.mem_filter.mpr ⟨List.mem_append_right _ (List.mem_of_getElem? (i := 271) (by decide +kernel)), rfl⟩, List.mem_filter.mpr ⟨List.mem_append_right _ (List.mem_of_getElem? (i := 2) (by decide +kernel)), rfl⟩, List.mem_filter.mpr ⟨List.mem_append_right _ (List.mem_of_getElem? (i := 302) (by decide +kernel)), rfl⟩, by decide, by decide, by decide +kernel⟩
theorem lk_L_60 : zLk RL 60 yX4_best cX4_best 2 (some .long) 1 := ⟨List.mem_filter.mpr ⟨List.mem_append_right _ (List.mem_of_getElem? (i := 307) (by decide +kernel)), rfl⟩, List.mem_filter.mpr ⟨List.mem_append_right _ (List.mem_of_getElem? (i := 1) (by decide +kernel)), rfl⟩, List.mem_filter.mpr ⟨List.mem_append_right _ (List.mem_of_getElem? (i := 304) (by decide +kernel)), rfl⟩, by decide, by decide, by decide +kernel⟩
theorem iv_X4_best : Cond.instanceMethod yX4_best ∈ zT ∧ Cond.selects yX4_best.cls yX4_best yX4_best ∈ zT := ⟨List.mem_filter.mpr ⟨List.mem_append_right _ (List.mem_of_getElem? (i := 305) (by decide +kernel)), rfl⟩, List.mem_filter.mpr ⟨List.mem_append_right _ (List.mem_of_getElem? (i := 306) (by decide +kernel)), rfl⟩⟩
theorem lk_X4_124 : zLk RX4 124 yX2_least cX2_least 6 (some .long) 2 := ⟨List.mem_filter.mpr ⟨List.mem_append_right _ (List.mem_of_getElem? (i := 311) (by decide +kernel)), rfl⟩, List.mem_filter.mpr ⟨List.mem_append_right _ (List.mem_of_getElem? (i := 3) (by decide +kernel)), rfl⟩, List.mem_filter.mpr ⟨List.mem_append_right _ (List.mem_of_getElem? (i := 308) (by decide +kernel)), rfl⟩, by decide, by decide, by decide +kernel⟩
theorem iv_X2_least : Cond.instanceMethod yX2_least ∈ zT ∧ Cond.selects yX2_least.cls yX2_least yX2_least ∈ zT := ⟨List.mem_filter.mpr ⟨List.mem_append_right _ (List.mem_of_getElem? (i := 309) (by decide +kernel)), rfl⟩, List.mem_filter.mpr ⟨List.mem_append_right _ (List.mem_of_getElem? (i := 310) (by decide +kernel)), rfl⟩⟩
theorem lk_X2_34 : zLk RX2 34 yX2_layWays cX2_layWays 5 none 2 := ⟨List.mem_filter.mpr ⟨List.mem_append_right _ (List.mem_of_getElem? (i := 315) (by decide +kernel)), rfl⟩, List.mem_filter.mpr ⟨List.mem_append_right _ (List.mem_of_getElem? (i := 3) (by decide +kernel)), rfl⟩, List.mem_filter.mpr ⟨List.mem_append_right _ (List.mem_of_getElem? (i := 312) (by decide +kernel)), rfl⟩, by decide, by decide, by decide +kernel⟩
theorem iv_X2_layWays : Cond.instanceMethod yX2_layWays ∈ zT ∧ Cond.selects yX2_layWays.cls yX2_layWays yX2_layWays ∈ zT := ⟨List.mem_filter.mpr ⟨List.mem_append_right _ (List.mem_of_getElem? (i := 314) (by decide +kernel)), rfl⟩, List.mem_filter.mpr ⟨List.mem_append_left _ (List.mem_of_getElem? (i := 2) (by decide +kernel)), rfl⟩⟩
theorem lk_X2_72 : zLk RX2 72 yX2_addWay cX2_addWay 3 none 2 := ⟨List.mem_filter.mpr ⟨List.mem_append_right _ (List.mem_of_getElem? (i := 319) (by decide +kernel)), rfl⟩, List.mem_filter.mpr ⟨List.mem_append_right _ (List.mem_of_getElem? (i := 3) (by decide +kernel)), rfl⟩, List.mem_filter.mpr ⟨List.mem_append_right _ (List.mem_of_getElem? (i := 316) (by decide +kernel)), rfl⟩, by decide, by decide, by decide +kernel⟩
theorem iv_X2_addWay : Cond.instanceMethod yX2_addWay ∈ zT ∧ Cond.selects yX2_addWay.cls yX2_addWay yX2_addWay ∈ zT := ⟨List.mem_filter.mpr ⟨List.mem_append_right _ (List.mem_of_getElem? (i := 318) (by decide +kernel)), rfl⟩, List.mem_filter.mpr ⟨List.mem_append_left _ (List.mem_of_getElem? (i := 3) (by decide +kernel)), rfl⟩⟩
theorem lk_X2_84 : zLk RX2 84 yJ9_min_7cf53 cJ9_min_7cf53 2 (some .int) 2 := ⟨List.mem_filter.mpr ⟨List.mem_append_right _ (List.mem_of_getElem? (i := 322) (by decide +kernel)), rfl⟩, List.mem_filter.mpr ⟨List.mem_append_right _ (List.mem_of_getElem? (i := 8) (by decide +kernel)), rfl⟩, List.mem_filter.mpr ⟨List.mem_append_right _ (List.mem_of_getElem? (i := 320) (by decide +kernel)), rfl⟩, by decide, by decide, by decide +kernel⟩
theorem st_J9_min_7cf53 : Cond.static yJ9_min_7cf53 ∈ zT := List.mem_filter.mpr ⟨List.mem_append_right _ (List.mem_of_getElem? (i := 321) (by decide +kernel)), rfl⟩
theorem lk_X2_38 : zLk RX2 38 yJ7_fill_53178 cJ7_fill_53178 4 none 2 := ⟨List.mem_filter.mpr ⟨List.mem_append_right _ (List.mem_of_getElem? (i := 325) (by decide +kernel)), rfl⟩, List.mem_filter.mpr ⟨List.mem_append_right _ (List.mem_of_getElem? (i := 7) (by decide +kernel)), rfl⟩, List.mem_filter.mpr ⟨List.mem_append_right _ (List.mem_of_getElem? (i := 323) (by decide +kernel)), rfl⟩, by decide, by decide, by decide +kernel⟩
theorem st_J7_fill_53178 : Cond.static yJ7_fill_53178 ∈ zT := List.mem_filter.mpr ⟨List.mem_append_right _ (List.mem_of_getElem? (i := 324) (by decide +kernel)), rfl⟩
theorem lk_X2_48 : zLk RX2 48 yX1_needOfAll cX1_needOfAll 5 (some .int) 2 := ⟨List.mem_filter.mpr ⟨List.mem_append_right _ (List.mem_of_getElem? (i := 248) (by decide +kernel)), rfl⟩, List.mem_filter.mpr ⟨List.mem_append_right _ (List.mem_of_getElem? (i := 2) (by decide +kernel)), rfl⟩, List.mem_filter.mpr ⟨List.mem_append_right _ (List.mem_of_getElem? (i := 326) (by decide +kernel)), rfl⟩, by decide, by decide, by decide +kernel⟩
theorem lk_X2_54 : zLk RX2 54 yX2_change cX2_change 3 (some .long) 2 := ⟨List.mem_filter.mpr ⟨List.mem_append_right _ (List.mem_of_getElem? (i := 330) (by decide +kernel)), rfl⟩, List.mem_filter.mpr ⟨List.mem_append_right _ (List.mem_of_getElem? (i := 3) (by decide +kernel)), rfl⟩, List.mem_filter.mpr ⟨List.mem_append_right _ (List.mem_of_getElem? (i := 327) (by decide +kernel)), rfl⟩, by decide, by decide, by decide +kernel⟩
theorem iv_X2_change : Cond.instanceMethod yX2_change ∈ zT ∧ Cond.selects yX2_change.cls yX2_change yX2_change ∈ zT := ⟨List.mem_filter.mpr ⟨List.mem_append_right _ (List.mem_of_getElem? (i := 328) (by decide +kernel)), rfl⟩, List.mem_filter.mpr ⟨List.mem_append_right _ (List.mem_of_getElem? (i := 329) (by decide +kernel)), rfl⟩⟩
theorem lk_X2_58 : zLk RX2 58 yX2_carry cX2_carry 9 (some .long) 3 := ⟨List.mem_filter.mpr ⟨List.mem_append_right _ (List.mem_of_getElem? (i := 334) (by decide +kernel)), rfl⟩, List.mem_filter.mpr ⟨List.mem_append_right _ (List.mem_of_getElem? (i := 3) (by decide +kernel)), rfl⟩, List.mem_filter.mpr ⟨List.mem_append_right _ (List.mem_of_getElem? (i := 331) (by decide +kernel)), rfl⟩, by decide, by decide, by decide +kernel⟩
theorem iv_X2_carry : Cond.instanceMethod yX2_carry ∈ zT ∧ Cond.selects yX2_carry.cls yX2_carry yX2_carry ∈ zT := ⟨List.mem_filter.mpr ⟨List.mem_append_right _ (List.mem_of_getElem? (i := 333) (by decide +kernel)), rfl⟩, List.mem_filter.mpr ⟨List.mem_append_left _ (List.mem_of_getElem? (i := 4) (by decide +kernel)), rfl⟩⟩
theorem lk_X2_62 : zLk RX2 62 yX2_raiseWorth cX2_raiseWorth 6 none 2 := ⟨List.mem_filter.mpr ⟨List.mem_append_right _ (List.mem_of_getElem? (i := 338) (by decide +kernel)), rfl⟩, List.mem_filter.mpr ⟨List.mem_append_right _ (List.mem_of_getElem? (i := 3) (by decide +kernel)), rfl⟩, List.mem_filter.mpr ⟨List.mem_append_right _ (List.mem_of_getElem? (i := 335) (by decide +kernel)), rfl⟩, by decide, by decide, by decide +kernel⟩
theorem iv_X2_raiseWorth : Cond.instanceMethod yX2_raiseWorth ∈ zT ∧ Cond.selects yX2_raiseWorth.cls yX2_raiseWorth yX2_raiseWorth ∈ zT := ⟨List.mem_filter.mpr ⟨List.mem_append_right _ (List.mem_of_getElem? (i := 337) (by decide +kernel)), rfl⟩, List.mem_filter.mpr ⟨List.mem_append_left _ (List.mem_of_getElem? (i := 5) (by decide +kernel)), rfl⟩⟩
theorem lk_X2_104 : zLk RX2 104 yX2_reachThose cX2_reachThose 3 none 1 := ⟨List.mem_filter.mpr ⟨List.mem_append_right _ (List.mem_of_getElem? (i := 343) (by decide +kernel)), rfl⟩, List.mem_filter.mpr ⟨List.mem_append_right _ (List.mem_of_getElem? (i := 3) (by decide +kernel)), rfl⟩, List.mem_filter.mpr ⟨List.mem_append_right _ (List.mem_of_getElem? (i := 340) (by decide +kernel)), rfl⟩, by decide, by decide, by decide +kernel⟩
theorem iv_X2_reachThose : Cond.instanceMethod yX2_reachThose ∈ zT ∧ Cond.selects yX2_reachThose.cls yX2_reachThose yX2_reachThose ∈ zT := ⟨List.mem_filter.mpr ⟨List.mem_append_right _ (List.mem_of_getElem? (i := 342) (by decide +kernel)), rfl⟩, List.mem_filter.mpr ⟨List.mem_append_left _ (List.mem_of_getElem? (i := 6) (by decide +kernel)), rfl⟩⟩
theorem lk_X2_112 : zLk RX2 112 yX2_reach cX2_reach 6 none 4 := ⟨List.mem_filter.mpr ⟨List.mem_append_right _ (List.mem_of_getElem? (i := 347) (by decide +kernel)), rfl⟩, List.mem_filter.mpr ⟨List.mem_append_right _ (List.mem_of_getElem? (i := 3) (by decide +kernel)), rfl⟩, List.mem_filter.mpr ⟨List.mem_append_right _ (List.mem_of_getElem? (i := 344) (by decide +kernel)), rfl⟩, by decide, by decide, by decide +kernel⟩
theorem iv_X2_reach : Cond.instanceMethod yX2_reach ∈ zT ∧ Cond.selects yX2_reach.cls yX2_reach yX2_reach ∈ zT := ⟨List.mem_filter.mpr ⟨List.mem_append_right _ (List.mem_of_getElem? (i := 346) (by decide +kernel)), rfl⟩, List.mem_filter.mpr ⟨List.mem_append_left _ (List.mem_of_getElem? (i := 7) (by decide +kernel)), rfl⟩⟩
theorem lk_X2_108 : zLk RX2 108 yX2_nearest cX2_nearest 3 (some .int) 0 := ⟨List.mem_filter.mpr ⟨List.mem_append_right _ (List.mem_of_getElem? (i := 351) (by decide +kernel)), rfl⟩, List.mem_filter.mpr ⟨List.mem_append_right _ (List.mem_of_getElem? (i := 3) (by decide +kernel)), rfl⟩, List.mem_filter.mpr ⟨List.mem_append_right _ (List.mem_of_getElem? (i := 348) (by decide +kernel)), rfl⟩, by decide, by decide, by decide +kernel⟩
theorem iv_X2_nearest : Cond.instanceMethod yX2_nearest ∈ zT ∧ Cond.selects yX2_nearest.cls yX2_nearest yX2_nearest ∈ zT := ⟨List.mem_filter.mpr ⟨List.mem_append_right _ (List.mem_of_getElem? (i := 350) (by decide +kernel)), rfl⟩, List.mem_filter.mpr ⟨List.mem_append_left _ (List.mem_of_getElem? (i := 8) (by decide +kernel)), rfl⟩⟩
theorem lk_X2_95 : zLk RX2 95 yX2_roomOnPath cX2_roomOnPath 8 (some .int) 3 := ⟨List.mem_filter.mpr ⟨List.mem_append_right _ (List.mem_of_getElem? (i := 355) (by decide +kernel)), rfl⟩, List.mem_filter.mpr ⟨List.mem_append_right _ (List.mem_of_getElem? (i := 3) (by decide +kernel)), rfl⟩, List.mem_filter.mpr ⟨List.mem_append_right _ (List.mem_of_getElem? (i := 352) (by decide +kernel)), rfl⟩, by decide, by decide, by decide +kernel⟩
theorem iv_X2_roomOnPath : Cond.instanceMethod yX2_roomOnPath ∈ zT ∧ Cond.selects yX2_roomOnPath.cls yX2_roomOnPath yX2_roomOnPath ∈ zT := ⟨List.mem_filter.mpr ⟨List.mem_append_right _ (List.mem_of_getElem? (i := 354) (by decide +kernel)), rfl⟩, List.mem_filter.mpr ⟨List.mem_append_left _ (List.mem_of_getElem? (i := 9) (by decide +kernel)), rfl⟩⟩
theorem lk_X2_116 : zLk RX2 116 yX2_after cX2_after 3 (some .int) 1 := ⟨List.mem_filter.mpr ⟨List.mem_append_right _ (List.mem_of_getElem? (i := 359) (by decide +kernel)), rfl⟩, List.mem_filter.mpr ⟨List.mem_append_right _ (List.mem_of_getElem? (i := 3) (by decide +kernel)), rfl⟩, List.mem_filter.mpr ⟨List.mem_append_right _ (List.mem_of_getElem? (i := 356) (by decide +kernel)), rfl⟩, by decide, by decide, by decide +kernel⟩
theorem iv_X2_after : Cond.instanceMethod yX2_after ∈ zT ∧ Cond.selects yX2_after.cls yX2_after yX2_after ∈ zT := ⟨List.mem_filter.mpr ⟨List.mem_append_right _ (List.mem_of_getElem? (i := 358) (by decide +kernel)), rfl⟩, List.mem_filter.mpr ⟨List.mem_append_left _ (List.mem_of_getElem? (i := 10) (by decide +kernel)), rfl⟩⟩
theorem lk_X2_120 : zLk RX2 120 yX2_takesBack cX2_takesBack 2 (some .boolean) 1 := ⟨List.mem_filter.mpr ⟨List.mem_append_right _ (List.mem_of_getElem? (i := 363) (by decide +kernel)), rfl⟩, List.mem_filter.mpr ⟨List.mem_append_right _ (List.mem_of_getElem? (i := 3) (by decide +kernel)), rfl⟩, List.mem_filter.mpr ⟨List.mem_append_right _ (List.mem_of_getElem? (i := 360) (by decide +kernel)), rfl⟩, by decide, by decide, by decide +kernel⟩
theorem iv_X2_takesBack : Cond.instanceMethod yX2_takesBack ∈ zT ∧ Cond.selects yX2_takesBack.cls yX2_takesBack yX2_takesBack ∈ zT := ⟨List.mem_filter.mpr ⟨List.mem_append_right _ (List.mem_of_getElem? (i := 362) (by decide +kernel)), rfl⟩, List.mem_filter.mpr ⟨List.mem_append_left _ (List.mem_of_getElem? (i := 11) (by decide +kernel)), rfl⟩⟩
theorem lk_X2_99 : zLk RX2 99 yX2_sendOnPath cX2_sendOnPath 7 none 3 := ⟨List.mem_filter.mpr ⟨List.mem_append_right _ (List.mem_of_getElem? (i := 367) (by decide +kernel)), rfl⟩, List.mem_filter.mpr ⟨List.mem_append_right _ (List.mem_of_getElem? (i := 3) (by decide +kernel)), rfl⟩, List.mem_filter.mpr ⟨List.mem_append_right _ (List.mem_of_getElem? (i := 364) (by decide +kernel)), rfl⟩, by decide, by decide, by decide +kernel⟩
theorem iv_X2_sendOnPath : Cond.instanceMethod yX2_sendOnPath ∈ zT ∧ Cond.selects yX2_sendOnPath.cls yX2_sendOnPath yX2_sendOnPath ∈ zT := ⟨List.mem_filter.mpr ⟨List.mem_append_right _ (List.mem_of_getElem? (i := 366) (by decide +kernel)), rfl⟩, List.mem_filter.mpr ⟨List.mem_append_left _ (List.mem_of_getElem? (i := 12) (by decide +kernel)), rfl⟩⟩
theorem lk_L_64 : zLk RL 64 yX4_price cX4_price 3 (some .int) 2 := ⟨List.mem_filter.mpr ⟨List.mem_append_right _ (List.mem_of_getElem? (i := 371) (by decide +kernel)), rfl⟩, List.mem_filter.mpr ⟨List.mem_append_right _ (List.mem_of_getElem? (i := 1) (by decide +kernel)), rfl⟩, List.mem_filter.mpr ⟨List.mem_append_right _ (List.mem_of_getElem? (i := 368) (by decide +kernel)), rfl⟩, by decide, by decide, by decide +kernel⟩
theorem iv_X4_price : Cond.instanceMethod yX4_price ∈ zT ∧ Cond.selects yX4_price.cls yX4_price yX4_price ∈ zT := ⟨List.mem_filter.mpr ⟨List.mem_append_right _ (List.mem_of_getElem? (i := 369) (by decide +kernel)), rfl⟩, List.mem_filter.mpr ⟨List.mem_append_right _ (List.mem_of_getElem? (i := 370) (by decide +kernel)), rfl⟩⟩
theorem lk_X4_128 : zLk RX4 128 yX2_priceOf cX2_priceOf 2 (some .int) 1 := ⟨List.mem_filter.mpr ⟨List.mem_append_right _ (List.mem_of_getElem? (i := 375) (by decide +kernel)), rfl⟩, List.mem_filter.mpr ⟨List.mem_append_right _ (List.mem_of_getElem? (i := 3) (by decide +kernel)), rfl⟩, List.mem_filter.mpr ⟨List.mem_append_right _ (List.mem_of_getElem? (i := 372) (by decide +kernel)), rfl⟩, by decide, by decide, by decide +kernel⟩
theorem iv_X2_priceOf : Cond.instanceMethod yX2_priceOf ∈ zT ∧ Cond.selects yX2_priceOf.cls yX2_priceOf yX2_priceOf ∈ zT := ⟨List.mem_filter.mpr ⟨List.mem_append_right _ (List.mem_of_getElem? (i := 373) (by decide +kernel)), rfl⟩, List.mem_filter.mpr ⟨List.mem_append_right _ (List.mem_of_getElem? (i := 374) (by decide +kernel)), rfl⟩⟩
theorem lk_L_69 : zLk RL 69 yX4_more cX4_more 5 (some .int) 3 := ⟨List.mem_filter.mpr ⟨List.mem_append_right _ (List.mem_of_getElem? (i := 379) (by decide +kernel)), rfl⟩, List.mem_filter.mpr ⟨List.mem_append_right _ (List.mem_of_getElem? (i := 1) (by decide +kernel)), rfl⟩, List.mem_filter.mpr ⟨List.mem_append_right _ (List.mem_of_getElem? (i := 376) (by decide +kernel)), rfl⟩, by decide, by decide, by decide +kernel⟩
theorem iv_X4_more : Cond.instanceMethod yX4_more ∈ zT ∧ Cond.selects yX4_more.cls yX4_more yX4_more ∈ zT := ⟨List.mem_filter.mpr ⟨List.mem_append_right _ (List.mem_of_getElem? (i := 377) (by decide +kernel)), rfl⟩, List.mem_filter.mpr ⟨List.mem_append_right _ (List.mem_of_getElem? (i := 378) (by decide +kernel)), rfl⟩⟩
theorem lk_X4_132 : zLk RX4 132 yX2_change cX2_change 3 (some .long) 2 := ⟨List.mem_filter.mpr ⟨List.mem_append_right _ (List.mem_of_getElem? (i := 330) (by decide +kernel)), rfl⟩, List.mem_filter.mpr ⟨List.mem_append_right _ (List.mem_of_getElem? (i := 3) (by decide +kernel)), rfl⟩, List.mem_filter.mpr ⟨List.mem_append_right _ (List.mem_of_getElem? (i := 381) (by decide +kernel)), rfl⟩, by decide, by decide, by decide +kernel⟩
theorem lk_L_73 : zLk RL 73 yX4_blind cX4_blind 3 (some .long) 1 := ⟨List.mem_filter.mpr ⟨List.mem_append_right _ (List.mem_of_getElem? (i := 385) (by decide +kernel)), rfl⟩, List.mem_filter.mpr ⟨List.mem_append_right _ (List.mem_of_getElem? (i := 1) (by decide +kernel)), rfl⟩, List.mem_filter.mpr ⟨List.mem_append_right _ (List.mem_of_getElem? (i := 382) (by decide +kernel)), rfl⟩, by decide, by decide, by decide +kernel⟩
theorem iv_X4_blind : Cond.instanceMethod yX4_blind ∈ zT ∧ Cond.selects yX4_blind.cls yX4_blind yX4_blind ∈ zT := ⟨List.mem_filter.mpr ⟨List.mem_append_right _ (List.mem_of_getElem? (i := 383) (by decide +kernel)), rfl⟩, List.mem_filter.mpr ⟨List.mem_append_right _ (List.mem_of_getElem? (i := 384) (by decide +kernel)), rfl⟩⟩
theorem lk_X4_139 : zLk RX4 139 yX0_buyBlindly cX0_buyBlindly 4 none 2 := ⟨List.mem_filter.mpr ⟨List.mem_append_right _ (List.mem_of_getElem? (i := 389) (by decide +kernel)), rfl⟩, List.mem_filter.mpr ⟨List.mem_append_right _ (List.mem_of_getElem? (i := 4) (by decide +kernel)), rfl⟩, List.mem_filter.mpr ⟨List.mem_append_right _ (List.mem_of_getElem? (i := 386) (by decide +kernel)), rfl⟩, by decide, by decide, by decide +kernel⟩
theorem iv_X0_buyBlindly : Cond.instanceMethod yX0_buyBlindly ∈ zT ∧ Cond.selects yX0_buyBlindly.cls yX0_buyBlindly yX0_buyBlindly ∈ zT := ⟨List.mem_filter.mpr ⟨List.mem_append_right _ (List.mem_of_getElem? (i := 387) (by decide +kernel)), rfl⟩, List.mem_filter.mpr ⟨List.mem_append_right _ (List.mem_of_getElem? (i := 388) (by decide +kernel)), rfl⟩⟩
theorem lk_X0_15 : zLk RX0 15 yJ7_fill_53178 cJ7_fill_53178 4 none 2 := ⟨List.mem_filter.mpr ⟨List.mem_append_right _ (List.mem_of_getElem? (i := 325) (by decide +kernel)), rfl⟩, List.mem_filter.mpr ⟨List.mem_append_right _ (List.mem_of_getElem? (i := 7) (by decide +kernel)), rfl⟩, List.mem_filter.mpr ⟨List.mem_append_right _ (List.mem_of_getElem? (i := 390) (by decide +kernel)), rfl⟩, by decide, by decide, by decide +kernel⟩
theorem lk_X0_27 : zLk RX0 27 yX0_buyAt cX0_buyAt 5 (some .int) 3 := ⟨List.mem_filter.mpr ⟨List.mem_append_right _ (List.mem_of_getElem? (i := 394) (by decide +kernel)), rfl⟩, List.mem_filter.mpr ⟨List.mem_append_right _ (List.mem_of_getElem? (i := 4) (by decide +kernel)), rfl⟩, List.mem_filter.mpr ⟨List.mem_append_right _ (List.mem_of_getElem? (i := 391) (by decide +kernel)), rfl⟩, by decide, by decide, by decide +kernel⟩
theorem iv_X0_buyAt : Cond.instanceMethod yX0_buyAt ∈ zT ∧ Cond.selects yX0_buyAt.cls yX0_buyAt yX0_buyAt ∈ zT := ⟨List.mem_filter.mpr ⟨List.mem_append_right _ (List.mem_of_getElem? (i := 393) (by decide +kernel)), rfl⟩, List.mem_filter.mpr ⟨List.mem_append_left _ (List.mem_of_getElem? (i := 13) (by decide +kernel)), rfl⟩⟩
theorem lk_X0_35 : zLk RX0 35 yX0_isSpent cX0_isSpent 7 (some .boolean) 3 := ⟨List.mem_filter.mpr ⟨List.mem_append_right _ (List.mem_of_getElem? (i := 398) (by decide +kernel)), rfl⟩, List.mem_filter.mpr ⟨List.mem_append_right _ (List.mem_of_getElem? (i := 4) (by decide +kernel)), rfl⟩, List.mem_filter.mpr ⟨List.mem_append_right _ (List.mem_of_getElem? (i := 395) (by decide +kernel)), rfl⟩, by decide, by decide, by decide +kernel⟩
theorem iv_X0_isSpent : Cond.instanceMethod yX0_isSpent ∈ zT ∧ Cond.selects yX0_isSpent.cls yX0_isSpent yX0_isSpent ∈ zT := ⟨List.mem_filter.mpr ⟨List.mem_append_right _ (List.mem_of_getElem? (i := 397) (by decide +kernel)), rfl⟩, List.mem_filter.mpr ⟨List.mem_append_left _ (List.mem_of_getElem? (i := 14) (by decide +kernel)), rfl⟩⟩
theorem lk_X0_46 : zLk RX0 46 yX0_firstOfLatest cX0_firstOfLatest 3 (some .int) 3 := ⟨List.mem_filter.mpr ⟨List.mem_append_right _ (List.mem_of_getElem? (i := 401) (by decide +kernel)), rfl⟩, List.mem_filter.mpr ⟨List.mem_append_right _ (List.mem_of_getElem? (i := 4) (by decide +kernel)), rfl⟩, List.mem_filter.mpr ⟨List.mem_append_right _ (List.mem_of_getElem? (i := 399) (by decide +kernel)), rfl⟩, by decide, by decide, by decide +kernel⟩
theorem st_X0_firstOfLatest : Cond.static yX0_firstOfLatest ∈ zT := List.mem_filter.mpr ⟨List.mem_append_right _ (List.mem_of_getElem? (i := 400) (by decide +kernel)), rfl⟩
theorem lk_X0_67 : zLk RX0 67 yJ9_max_7cf53 cJ9_max_7cf53 2 (some .int) 2 := ⟨List.mem_filter.mpr ⟨List.mem_append_right _ (List.mem_of_getElem? (i := 259) (by decide +kernel)), rfl⟩, List.mem_filter.mpr ⟨List.mem_append_right _ (List.mem_of_getElem? (i := 8) (by decide +kernel)), rfl⟩, List.mem_filter.mpr ⟨List.mem_append_right _ (List.mem_of_getElem? (i := 402) (by decide +kernel)), rfl⟩, by decide, by decide, by decide +kernel⟩
theorem lk_X0_49 : zLk RX0 49 yX1_needOfAll cX1_needOfAll 5 (some .int) 2 := ⟨List.mem_filter.mpr ⟨List.mem_append_right _ (List.mem_of_getElem? (i := 248) (by decide +kernel)), rfl⟩, List.mem_filter.mpr ⟨List.mem_append_right _ (List.mem_of_getElem? (i := 2) (by decide +kernel)), rfl⟩, List.mem_filter.mpr ⟨List.mem_append_right _ (List.mem_of_getElem? (i := 403) (by decide +kernel)), rfl⟩, by decide, by decide, by decide +kernel⟩
theorem lk_X0_39 : zLk RX0 39 yX0_countOneMore cX0_countOneMore 6 none 3 := ⟨List.mem_filter.mpr ⟨List.mem_append_right _ (List.mem_of_getElem? (i := 407) (by decide +kernel)), rfl⟩, List.mem_filter.mpr ⟨List.mem_append_right _ (List.mem_of_getElem? (i := 4) (by decide +kernel)), rfl⟩, List.mem_filter.mpr ⟨List.mem_append_right _ (List.mem_of_getElem? (i := 404) (by decide +kernel)), rfl⟩, by decide, by decide, by decide +kernel⟩
theorem iv_X0_countOneMore : Cond.instanceMethod yX0_countOneMore ∈ zT ∧ Cond.selects yX0_countOneMore.cls yX0_countOneMore yX0_countOneMore ∈ zT := ⟨List.mem_filter.mpr ⟨List.mem_append_right _ (List.mem_of_getElem? (i := 406) (by decide +kernel)), rfl⟩, List.mem_filter.mpr ⟨List.mem_append_left _ (List.mem_of_getElem? (i := 15) (by decide +kernel)), rfl⟩⟩
theorem lk_X0_62 : zLk RX0 62 yJ9_min_7cf53 cJ9_min_7cf53 2 (some .int) 2 := ⟨List.mem_filter.mpr ⟨List.mem_append_right _ (List.mem_of_getElem? (i := 322) (by decide +kernel)), rfl⟩, List.mem_filter.mpr ⟨List.mem_append_right _ (List.mem_of_getElem? (i := 8) (by decide +kernel)), rfl⟩, List.mem_filter.mpr ⟨List.mem_append_right _ (List.mem_of_getElem? (i := 408) (by decide +kernel)), rfl⟩, by decide, by decide, by decide +kernel⟩
theorem lk_X0_31 : zLk RX0 31 yX1_setBought cX1_setBought 4 none 3 := ⟨List.mem_filter.mpr ⟨List.mem_append_right _ (List.mem_of_getElem? (i := 232) (by decide +kernel)), rfl⟩, List.mem_filter.mpr ⟨List.mem_append_right _ (List.mem_of_getElem? (i := 2) (by decide +kernel)), rfl⟩, List.mem_filter.mpr ⟨List.mem_append_right _ (List.mem_of_getElem? (i := 409) (by decide +kernel)), rfl⟩, by decide, by decide, by decide +kernel⟩
theorem lk_L_77 : zLk RL 77 yX4_pays cX4_pays 3 (some .long) 2 := ⟨List.mem_filter.mpr ⟨List.mem_append_right _ (List.mem_of_getElem? (i := 413) (by decide +kernel)), rfl⟩, List.mem_filter.mpr ⟨List.mem_append_right _ (List.mem_of_getElem? (i := 1) (by decide +kernel)), rfl⟩, List.mem_filter.mpr ⟨List.mem_append_right _ (List.mem_of_getElem? (i := 410) (by decide +kernel)), rfl⟩, by decide, by decide, by decide +kernel⟩
theorem iv_X4_pays : Cond.instanceMethod yX4_pays ∈ zT ∧ Cond.selects yX4_pays.cls yX4_pays yX4_pays ∈ zT := ⟨List.mem_filter.mpr ⟨List.mem_append_right _ (List.mem_of_getElem? (i := 411) (by decide +kernel)), rfl⟩, List.mem_filter.mpr ⟨List.mem_append_right _ (List.mem_of_getElem? (i := 412) (by decide +kernel)), rfl⟩⟩
theorem lk_X4_143 : zLk RX4 143 yX3_shareOf cX3_shareOf 5 (some .long) 3 := ⟨List.mem_filter.mpr ⟨List.mem_append_right _ (List.mem_of_getElem? (i := 417) (by decide +kernel)), rfl⟩, List.mem_filter.mpr ⟨List.mem_append_right _ (List.mem_of_getElem? (i := 5) (by decide +kernel)), rfl⟩, List.mem_filter.mpr ⟨List.mem_append_right _ (List.mem_of_getElem? (i := 414) (by decide +kernel)), rfl⟩, by decide, by decide, by decide +kernel⟩
theorem iv_X3_shareOf : Cond.instanceMethod yX3_shareOf ∈ zT ∧ Cond.selects yX3_shareOf.cls yX3_shareOf yX3_shareOf ∈ zT := ⟨List.mem_filter.mpr ⟨List.mem_append_right _ (List.mem_of_getElem? (i := 415) (by decide +kernel)), rfl⟩, List.mem_filter.mpr ⟨List.mem_append_right _ (List.mem_of_getElem? (i := 416) (by decide +kernel)), rfl⟩⟩
theorem lk_X3_21 : zLk RX3 21 yJ7_fill_53178 cJ7_fill_53178 4 none 2 := ⟨List.mem_filter.mpr ⟨List.mem_append_right _ (List.mem_of_getElem? (i := 325) (by decide +kernel)), rfl⟩, List.mem_filter.mpr ⟨List.mem_append_right _ (List.mem_of_getElem? (i := 7) (by decide +kernel)), rfl⟩, List.mem_filter.mpr ⟨List.mem_append_right _ (List.mem_of_getElem? (i := 418) (by decide +kernel)), rfl⟩, by decide, by decide, by decide +kernel⟩
theorem lk_X3_33 : zLk RX3 33 yX3_handOut cX3_handOut 7 none 3 := ⟨List.mem_filter.mpr ⟨List.mem_append_right _ (List.mem_of_getElem? (i := 422) (by decide +kernel)), rfl⟩, List.mem_filter.mpr ⟨List.mem_append_right _ (List.mem_of_getElem? (i := 5) (by decide +kernel)), rfl⟩, List.mem_filter.mpr ⟨List.mem_append_right _ (List.mem_of_getElem? (i := 419) (by decide +kernel)), rfl⟩, by decide, by decide, by decide +kernel⟩
theorem iv_X3_handOut : Cond.instanceMethod yX3_handOut ∈ zT ∧ Cond.selects yX3_handOut.cls yX3_handOut yX3_handOut ∈ zT := ⟨List.mem_filter.mpr ⟨List.mem_append_right _ (List.mem_of_getElem? (i := 421) (by decide +kernel)), rfl⟩, List.mem_filter.mpr ⟨List.mem_append_left _ (List.mem_of_getElem? (i := 16) (by decide +kernel)), rfl⟩⟩
theorem lk_X3_48 : zLk RX3 48 yX1_needOf cX1_needOf 4 (some .int) 3 := ⟨List.mem_filter.mpr ⟨List.mem_append_right _ (List.mem_of_getElem? (i := 252) (by decide +kernel)), rfl⟩, List.mem_filter.mpr ⟨List.mem_append_right _ (List.mem_of_getElem? (i := 2) (by decide +kernel)), rfl⟩, List.mem_filter.mpr ⟨List.mem_append_right _ (List.mem_of_getElem? (i := 423) (by decide +kernel)), rfl⟩, by decide, by decide, by decide +kernel⟩
theorem lk_X3_52 : zLk RX3 52 yX1_ahead cX1_ahead 5 (some .int) 2 := ⟨List.mem_filter.mpr ⟨List.mem_append_right _ (List.mem_of_getElem? (i := 256) (by decide +kernel)), rfl⟩, List.mem_filter.mpr ⟨List.mem_append_right _ (List.mem_of_getElem? (i := 2) (by decide +kernel)), rfl⟩, List.mem_filter.mpr ⟨List.mem_append_right _ (List.mem_of_getElem? (i := 424) (by decide +kernel)), rfl⟩, by decide, by decide, by decide +kernel⟩
theorem lk_X3_56 : zLk RX3 56 yX1_needOfAll cX1_needOfAll 5 (some .int) 2 := ⟨List.mem_filter.mpr ⟨List.mem_append_right _ (List.mem_of_getElem? (i := 248) (by decide +kernel)), rfl⟩, List.mem_filter.mpr ⟨List.mem_append_right _ (List.mem_of_getElem? (i := 2) (by decide +kernel)), rfl⟩, List.mem_filter.mpr ⟨List.mem_append_right _ (List.mem_of_getElem? (i := 425) (by decide +kernel)), rfl⟩, by decide, by decide, by decide +kernel⟩
theorem lk_X3_59 : zLk RX3 59 yJ9_min_7cf53 cJ9_min_7cf53 2 (some .int) 2 := ⟨List.mem_filter.mpr ⟨List.mem_append_right _ (List.mem_of_getElem? (i := 322) (by decide +kernel)), rfl⟩, List.mem_filter.mpr ⟨List.mem_append_right _ (List.mem_of_getElem? (i := 8) (by decide +kernel)), rfl⟩, List.mem_filter.mpr ⟨List.mem_append_right _ (List.mem_of_getElem? (i := 426) (by decide +kernel)), rfl⟩, by decide, by decide, by decide +kernel⟩
theorem lk_X3_64 : zLk RX3 64 yX3_firstWithMost cX3_firstWithMost 3 (some .int) 1 := ⟨List.mem_filter.mpr ⟨List.mem_append_right _ (List.mem_of_getElem? (i := 429) (by decide +kernel)), rfl⟩, List.mem_filter.mpr ⟨List.mem_append_right _ (List.mem_of_getElem? (i := 5) (by decide +kernel)), rfl⟩, List.mem_filter.mpr ⟨List.mem_append_right _ (List.mem_of_getElem? (i := 427) (by decide +kernel)), rfl⟩, by decide, by decide, by decide +kernel⟩
theorem st_X3_firstWithMost : Cond.static yX3_firstWithMost ∈ zT := List.mem_filter.mpr ⟨List.mem_append_right _ (List.mem_of_getElem? (i := 428) (by decide +kernel)), rfl⟩
theorem lk_X3_40 : zLk RX3 40 yX1_offersCost cX1_offersCost 5 (some .long) 1 := ⟨List.mem_filter.mpr ⟨List.mem_append_right _ (List.mem_of_getElem? (i := 297) (by decide +kernel)), rfl⟩, List.mem_filter.mpr ⟨List.mem_append_right _ (List.mem_of_getElem? (i := 2) (by decide +kernel)), rfl⟩, List.mem_filter.mpr ⟨List.mem_append_right _ (List.mem_of_getElem? (i := 430) (by decide +kernel)), rfl⟩, by decide, by decide, by decide +kernel⟩
theorem lk_X3_44 : zLk RX3 44 yX3_partOf cX3_partOf 9 (some .long) 2 := ⟨List.mem_filter.mpr ⟨List.mem_append_right _ (List.mem_of_getElem? (i := 434) (by decide +kernel)), rfl⟩, List.mem_filter.mpr ⟨List.mem_append_right _ (List.mem_of_getElem? (i := 5) (by decide +kernel)), rfl⟩, List.mem_filter.mpr ⟨List.mem_append_right _ (List.mem_of_getElem? (i := 431) (by decide +kernel)), rfl⟩, by decide, by decide, by decide +kernel⟩
theorem iv_X3_partOf : Cond.instanceMethod yX3_partOf ∈ zT ∧ Cond.selects yX3_partOf.cls yX3_partOf yX3_partOf ∈ zT := ⟨List.mem_filter.mpr ⟨List.mem_append_right _ (List.mem_of_getElem? (i := 433) (by decide +kernel)), rfl⟩, List.mem_filter.mpr ⟨List.mem_append_left _ (List.mem_of_getElem? (i := 17) (by decide +kernel)), rfl⟩⟩
theorem lk_X3_68 : zLk RX3 68 yX3_cut cX3_cut 5 (some .long) 3 := ⟨List.mem_filter.mpr ⟨List.mem_append_right _ (List.mem_of_getElem? (i := 437) (by decide +kernel)), rfl⟩, List.mem_filter.mpr ⟨List.mem_append_right _ (List.mem_of_getElem? (i := 5) (by decide +kernel)), rfl⟩, List.mem_filter.mpr ⟨List.mem_append_right _ (List.mem_of_getElem? (i := 435) (by decide +kernel)), rfl⟩, by decide, by decide, by decide +kernel⟩
theorem st_X3_cut : Cond.static yX3_cut ∈ zT := List.mem_filter.mpr ⟨List.mem_append_right _ (List.mem_of_getElem? (i := 436) (by decide +kernel)), rfl⟩
theorem lk_L_82 : zLk RL 82 yX4_about cX4_about 3 (some .int) 2 := ⟨List.mem_filter.mpr ⟨List.mem_append_right _ (List.mem_of_getElem? (i := 441) (by decide +kernel)), rfl⟩, List.mem_filter.mpr ⟨List.mem_append_right _ (List.mem_of_getElem? (i := 1) (by decide +kernel)), rfl⟩, List.mem_filter.mpr ⟨List.mem_append_right _ (List.mem_of_getElem? (i := 438) (by decide +kernel)), rfl⟩, by decide, by decide, by decide +kernel⟩
theorem iv_X4_about : Cond.instanceMethod yX4_about ∈ zT ∧ Cond.selects yX4_about.cls yX4_about yX4_about ∈ zT := ⟨List.mem_filter.mpr ⟨List.mem_append_right _ (List.mem_of_getElem? (i := 439) (by decide +kernel)), rfl⟩, List.mem_filter.mpr ⟨List.mem_append_right _ (List.mem_of_getElem? (i := 440) (by decide +kernel)), rfl⟩⟩
theorem lk_X4_147 : zLk RX4 147 yX4_aboutKind cX4_aboutKind 3 (some .int) 2 := ⟨List.mem_filter.mpr ⟨List.mem_append_right _ (List.mem_of_getElem? (i := 445) (by decide +kernel)), rfl⟩, List.mem_filter.mpr ⟨List.mem_append_right _ (List.mem_of_getElem? (i := 1) (by decide +kernel)), rfl⟩, List.mem_filter.mpr ⟨List.mem_append_right _ (List.mem_of_getElem? (i := 442) (by decide +kernel)), rfl⟩, by decide, by decide, by decide +kernel⟩
theorem iv_X4_aboutKind : Cond.instanceMethod yX4_aboutKind ∈ zT ∧ Cond.selects yX4_aboutKind.cls yX4_aboutKind yX4_aboutKind ∈ zT := ⟨List.mem_filter.mpr ⟨List.mem_append_right _ (List.mem_of_getElem? (i := 444) (by decide +kernel)), rfl⟩, List.mem_filter.mpr ⟨List.mem_append_left _ (List.mem_of_getElem? (i := 18) (by decide +kernel)), rfl⟩⟩
theorem lk_X4_176 : zLk RX4 176 yX1_offersOf cX1_offersOf 4 (some .int) 1 := ⟨List.mem_filter.mpr ⟨List.mem_append_right _ (List.mem_of_getElem? (i := 449) (by decide +kernel)), rfl⟩, List.mem_filter.mpr ⟨List.mem_append_right _ (List.mem_of_getElem? (i := 2) (by decide +kernel)), rfl⟩, List.mem_filter.mpr ⟨List.mem_append_right _ (List.mem_of_getElem? (i := 446) (by decide +kernel)), rfl⟩, by decide, by decide, by decide +kernel⟩
theorem iv_X1_offersOf : Cond.instanceMethod yX1_offersOf ∈ zT ∧ Cond.selects yX1_offersOf.cls yX1_offersOf yX1_offersOf ∈ zT := ⟨List.mem_filter.mpr ⟨List.mem_append_right _ (List.mem_of_getElem? (i := 447) (by decide +kernel)), rfl⟩, List.mem_filter.mpr ⟨List.mem_append_right _ (List.mem_of_getElem? (i := 448) (by decide +kernel)), rfl⟩⟩
theorem lk_X4_179 : zLk RX4 179 yX1_needInAll cX1_needInAll 4 (some .int) 1 := ⟨List.mem_filter.mpr ⟨List.mem_append_right _ (List.mem_of_getElem? (i := 453) (by decide +kernel)), rfl⟩, List.mem_filter.mpr ⟨List.mem_append_right _ (List.mem_of_getElem? (i := 2) (by decide +kernel)), rfl⟩, List.mem_filter.mpr ⟨List.mem_append_right _ (List.mem_of_getElem? (i := 450) (by decide +kernel)), rfl⟩, by decide, by decide, by decide +kernel⟩
theorem iv_X1_needInAll : Cond.instanceMethod yX1_needInAll ∈ zT ∧ Cond.selects yX1_needInAll.cls yX1_needInAll yX1_needInAll ∈ zT := ⟨List.mem_filter.mpr ⟨List.mem_append_right _ (List.mem_of_getElem? (i := 451) (by decide +kernel)), rfl⟩, List.mem_filter.mpr ⟨List.mem_append_right _ (List.mem_of_getElem? (i := 452) (by decide +kernel)), rfl⟩⟩
theorem lk_X4_182 : zLk RX4 182 yX1_mostNeed cX1_mostNeed 4 (some .int) 1 := ⟨List.mem_filter.mpr ⟨List.mem_append_right _ (List.mem_of_getElem? (i := 457) (by decide +kernel)), rfl⟩, List.mem_filter.mpr ⟨List.mem_append_right _ (List.mem_of_getElem? (i := 2) (by decide +kernel)), rfl⟩, List.mem_filter.mpr ⟨List.mem_append_right _ (List.mem_of_getElem? (i := 454) (by decide +kernel)), rfl⟩, by decide, by decide, by decide +kernel⟩
theorem iv_X1_mostNeed : Cond.instanceMethod yX1_mostNeed ∈ zT ∧ Cond.selects yX1_mostNeed.cls yX1_mostNeed yX1_mostNeed ∈ zT := ⟨List.mem_filter.mpr ⟨List.mem_append_right _ (List.mem_of_getElem? (i := 455) (by decide +kernel)), rfl⟩, List.mem_filter.mpr ⟨List.mem_append_right _ (List.mem_of_getElem? (i := 456) (by decide +kernel)), rfl⟩⟩
theorem lk_X4_150 : zLk RX4 150 yX4_aboutOffer cX4_aboutOffer 3 (some .int) 2 := ⟨List.mem_filter.mpr ⟨List.mem_append_right _ (List.mem_of_getElem? (i := 461) (by decide +kernel)), rfl⟩, List.mem_filter.mpr ⟨List.mem_append_right _ (List.mem_of_getElem? (i := 1) (by decide +kernel)), rfl⟩, List.mem_filter.mpr ⟨List.mem_append_right _ (List.mem_of_getElem? (i := 458) (by decide +kernel)), rfl⟩, by decide, by decide, by decide +kernel⟩
theorem iv_X4_aboutOffer : Cond.instanceMethod yX4_aboutOffer ∈ zT ∧ Cond.selects yX4_aboutOffer.cls yX4_aboutOffer yX4_aboutOffer ∈ zT := ⟨List.mem_filter.mpr ⟨List.mem_append_right _ (List.mem_of_getElem? (i := 460) (by decide +kernel)), rfl⟩, List.mem_filter.mpr ⟨List.mem_append_left _ (List.mem_of_getElem? (i := 19) (by decide +kernel)), rfl⟩⟩
theorem lk_X4_170 : zLk RX4 170 yX1_boughtInAll cX1_boughtInAll 2 (some .int) 1 := ⟨List.mem_filter.mpr ⟨List.mem_append_right _ (List.mem_of_getElem? (i := 301) (by decide +kernel)), rfl⟩, List.mem_filter.mpr ⟨List.mem_append_right _ (List.mem_of_getElem? (i := 2) (by decide +kernel)), rfl⟩, List.mem_filter.mpr ⟨List.mem_append_right _ (List.mem_of_getElem? (i := 462) (by decide +kernel)), rfl⟩, by decide, by decide, by decide +kernel⟩
theorem lk_L_86 : zLk RL 86 yX4_count cX4_count 2 (some .int) 1 := ⟨List.mem_filter.mpr ⟨List.mem_append_right _ (List.mem_of_getElem? (i := 466) (by decide +kernel)), rfl⟩, List.mem_filter.mpr ⟨List.mem_append_right _ (List.mem_of_getElem? (i := 1) (by decide +kernel)), rfl⟩, List.mem_filter.mpr ⟨List.mem_append_right _ (List.mem_of_getElem? (i := 463) (by decide +kernel)), rfl⟩, by decide, by decide, by decide +kernel⟩
theorem iv_X4_count : Cond.instanceMethod yX4_count ∈ zT ∧ Cond.selects yX4_count.cls yX4_count yX4_count ∈ zT := ⟨List.mem_filter.mpr ⟨List.mem_append_right _ (List.mem_of_getElem? (i := 464) (by decide +kernel)), rfl⟩, List.mem_filter.mpr ⟨List.mem_append_right _ (List.mem_of_getElem? (i := 465) (by decide +kernel)), rfl⟩⟩
theorem lk_L_90 : zLk RL 90 yX4_image cX4_image 2 (some .boolean) 1 := ⟨List.mem_filter.mpr ⟨List.mem_append_right _ (List.mem_of_getElem? (i := 470) (by decide +kernel)), rfl⟩, List.mem_filter.mpr ⟨List.mem_append_right _ (List.mem_of_getElem? (i := 1) (by decide +kernel)), rfl⟩, List.mem_filter.mpr ⟨List.mem_append_right _ (List.mem_of_getElem? (i := 467) (by decide +kernel)), rfl⟩, by decide, by decide, by decide +kernel⟩
theorem iv_X4_image : Cond.instanceMethod yX4_image ∈ zT ∧ Cond.selects yX4_image.cls yX4_image yX4_image ∈ zT := ⟨List.mem_filter.mpr ⟨List.mem_append_right _ (List.mem_of_getElem? (i := 468) (by decide +kernel)), rfl⟩, List.mem_filter.mpr ⟨List.mem_append_right _ (List.mem_of_getElem? (i := 469) (by decide +kernel)), rfl⟩⟩
theorem lk_X4_153 : zLk RX4 153 yX1_takeOver cX1_takeOver 2 none 1 := ⟨List.mem_filter.mpr ⟨List.mem_append_right _ (List.mem_of_getElem? (i := 474) (by decide +kernel)), rfl⟩, List.mem_filter.mpr ⟨List.mem_append_right _ (List.mem_of_getElem? (i := 2) (by decide +kernel)), rfl⟩, List.mem_filter.mpr ⟨List.mem_append_right _ (List.mem_of_getElem? (i := 471) (by decide +kernel)), rfl⟩, by decide, by decide, by decide +kernel⟩
theorem iv_X1_takeOver : Cond.instanceMethod yX1_takeOver ∈ zT ∧ Cond.selects yX1_takeOver.cls yX1_takeOver yX1_takeOver ∈ zT := ⟨List.mem_filter.mpr ⟨List.mem_append_right _ (List.mem_of_getElem? (i := 472) (by decide +kernel)), rfl⟩, List.mem_filter.mpr ⟨List.mem_append_right _ (List.mem_of_getElem? (i := 473) (by decide +kernel)), rfl⟩⟩
theorem lk_L_94 : zLk RL 94 yX4_again cX4_again 2 (some .boolean) 1 := ⟨List.mem_filter.mpr ⟨List.mem_append_right _ (List.mem_of_getElem? (i := 481) (by decide +kernel)), rfl⟩, List.mem_filter.mpr ⟨List.mem_append_right _ (List.mem_of_getElem? (i := 1) (by decide +kernel)), rfl⟩, List.mem_filter.mpr ⟨List.mem_append_right _ (List.mem_of_getElem? (i := 478) (by decide +kernel)), rfl⟩, by decide, by decide, by decide +kernel⟩
theorem iv_X4_again : Cond.instanceMethod yX4_again ∈ zT ∧ Cond.selects yX4_again.cls yX4_again yX4_again ∈ zT := ⟨List.mem_filter.mpr ⟨List.mem_append_right _ (List.mem_of_getElem? (i := 479) (by decide +kernel)), rfl⟩, List.mem_filter.mpr ⟨List.mem_append_right _ (List.mem_of_getElem? (i := 480) (by decide +kernel)), rfl⟩⟩
theorem lk_L_12 : zLk RL 12 yX5_init cX5_init 1 none 0 := ⟨List.mem_filter.mpr ⟨List.mem_append_right _ (List.mem_of_getElem? (i := 486) (by decide +kernel)), rfl⟩, List.mem_filter.mpr ⟨List.mem_append_right _ (List.mem_of_getElem? (i := 6) (by decide +kernel)), rfl⟩, List.mem_filter.mpr ⟨List.mem_append_right _ (List.mem_of_getElem? (i := 484) (by decide +kernel)), rfl⟩, by decide, by decide, by decide +kernel⟩
theorem in_X5_init : Cond.instanceMethod yX5_init ∈ zT := List.mem_filter.mpr ⟨List.mem_append_right _ (List.mem_of_getElem? (i := 485) (by decide +kernel)), rfl⟩
theorem lk_L_17 : zLk RL 17 yX5_hours cX5_hours 4 (some .boolean) 1 := ⟨List.mem_filter.mpr ⟨List.mem_append_right _ (List.mem_of_getElem? (i := 556) (by decide +kernel)), rfl⟩, List.mem_filter.mpr ⟨List.mem_append_right _ (List.mem_of_getElem? (i := 6) (by decide +kernel)), rfl⟩, List.mem_filter.mpr ⟨List.mem_append_right _ (List.mem_of_getElem? (i := 553) (by decide +kernel)), rfl⟩, by decide, by decide, by decide +kernel⟩
theorem iv_X5_hours : Cond.instanceMethod yX5_hours ∈ zT ∧ Cond.selects yX5_hours.cls yX5_hours yX5_hours ∈ zT := ⟨List.mem_filter.mpr ⟨List.mem_append_right _ (List.mem_of_getElem? (i := 554) (by decide +kernel)), rfl⟩, List.mem_filter.mpr ⟨List.mem_append_right _ (List.mem_of_getElem? (i := 555) (by decide +kernel)), rfl⟩⟩
theorem lk_X5_80 : zLk RX5 80 yX5_in cX5_in 3 (some .boolean) 3 := ⟨List.mem_filter.mpr ⟨List.mem_append_right _ (List.mem_of_getElem? (i := 559) (by decide +kernel)), rfl⟩, List.mem_filter.mpr ⟨List.mem_append_right _ (List.mem_of_getElem? (i := 6) (by decide +kernel)), rfl⟩, List.mem_filter.mpr ⟨List.mem_append_right _ (List.mem_of_getElem? (i := 557) (by decide +kernel)), rfl⟩, by decide, by decide, by decide +kernel⟩
theorem st_X5_in : Cond.static yX5_in ∈ zT := List.mem_filter.mpr ⟨List.mem_append_right _ (List.mem_of_getElem? (i := 558) (by decide +kernel)), rfl⟩
theorem lk_L_22 : zLk RL 22 yX5_kind cX5_kind 2 (some .int) 1 := ⟨List.mem_filter.mpr ⟨List.mem_append_right _ (List.mem_of_getElem? (i := 563) (by decide +kernel)), rfl⟩, List.mem_filter.mpr ⟨List.mem_append_right _ (List.mem_of_getElem? (i := 6) (by decide +kernel)), rfl⟩, List.mem_filter.mpr ⟨List.mem_append_right _ (List.mem_of_getElem? (i := 560) (by decide +kernel)), rfl⟩, by decide, by decide, by decide +kernel⟩
theorem iv_X5_kind : Cond.instanceMethod yX5_kind ∈ zT ∧ Cond.selects yX5_kind.cls yX5_kind yX5_kind ∈ zT := ⟨List.mem_filter.mpr ⟨List.mem_append_right _ (List.mem_of_getElem? (i := 561) (by decide +kernel)), rfl⟩, List.mem_filter.mpr ⟨List.mem_append_right _ (List.mem_of_getElem? (i := 562) (by decide +kernel)), rfl⟩⟩
theorem lk_L_27 : zLk RL 27 yX5_offer cX5_offer 5 (some .int) 3 := ⟨List.mem_filter.mpr ⟨List.mem_append_right _ (List.mem_of_getElem? (i := 567) (by decide +kernel)), rfl⟩, List.mem_filter.mpr ⟨List.mem_append_right _ (List.mem_of_getElem? (i := 6) (by decide +kernel)), rfl⟩, List.mem_filter.mpr ⟨List.mem_append_right _ (List.mem_of_getElem? (i := 564) (by decide +kernel)), rfl⟩, by decide, by decide, by decide +kernel⟩
theorem iv_X5_offer : Cond.instanceMethod yX5_offer ∈ zT ∧ Cond.selects yX5_offer.cls yX5_offer yX5_offer ∈ zT := ⟨List.mem_filter.mpr ⟨List.mem_append_right _ (List.mem_of_getElem? (i := 565) (by decide +kernel)), rfl⟩, List.mem_filter.mpr ⟨List.mem_append_right _ (List.mem_of_getElem? (i := 566) (by decide +kernel)), rfl⟩⟩
theorem lk_X5_84 : zLk RX5 84 yX5_isKind cX5_isKind 2 (some .boolean) 1 := ⟨List.mem_filter.mpr ⟨List.mem_append_right _ (List.mem_of_getElem? (i := 571) (by decide +kernel)), rfl⟩, List.mem_filter.mpr ⟨List.mem_append_right _ (List.mem_of_getElem? (i := 6) (by decide +kernel)), rfl⟩, List.mem_filter.mpr ⟨List.mem_append_right _ (List.mem_of_getElem? (i := 568) (by decide +kernel)), rfl⟩, by decide, by decide, by decide +kernel⟩
theorem iv_X5_isKind : Cond.instanceMethod yX5_isKind ∈ zT ∧ Cond.selects yX5_isKind.cls yX5_isKind yX5_isKind ∈ zT := ⟨List.mem_filter.mpr ⟨List.mem_append_right _ (List.mem_of_getElem? (i := 570) (by decide +kernel)), rfl⟩, List.mem_filter.mpr ⟨List.mem_append_left _ (List.mem_of_getElem? (i := 20) (by decide +kernel)), rfl⟩⟩
theorem lk_L_32 : zLk RL 32 yX5_reprice cX5_reprice 3 (some .boolean) 2 := ⟨List.mem_filter.mpr ⟨List.mem_append_right _ (List.mem_of_getElem? (i := 576) (by decide +kernel)), rfl⟩, List.mem_filter.mpr ⟨List.mem_append_right _ (List.mem_of_getElem? (i := 6) (by decide +kernel)), rfl⟩, List.mem_filter.mpr ⟨List.mem_append_right _ (List.mem_of_getElem? (i := 573) (by decide +kernel)), rfl⟩, by decide, by decide, by decide +kernel⟩
theorem iv_X5_reprice : Cond.instanceMethod yX5_reprice ∈ zT ∧ Cond.selects yX5_reprice.cls yX5_reprice yX5_reprice ∈ zT := ⟨List.mem_filter.mpr ⟨List.mem_append_right _ (List.mem_of_getElem? (i := 574) (by decide +kernel)), rfl⟩, List.mem_filter.mpr ⟨List.mem_append_right _ (List.mem_of_getElem? (i := 575) (by decide +kernel)), rfl⟩⟩
theorem lk_X5_89 : zLk RX5 89 yX5_isOffer cX5_isOffer 2 (some .boolean) 1 := ⟨List.mem_filter.mpr ⟨List.mem_append_right _ (List.mem_of_getElem? (i := 580) (by decide +kernel)), rfl⟩, List.mem_filter.mpr ⟨List.mem_append_right _ (List.mem_of_getElem? (i := 6) (by decide +kernel)), rfl⟩, List.mem_filter.mpr ⟨List.mem_append_right _ (List.mem_of_getElem? (i := 577) (by decide +kernel)), rfl⟩, by decide, by decide, by decide +kernel⟩
theorem iv_X5_isOffer : Cond.instanceMethod yX5_isOffer ∈ zT ∧ Cond.selects yX5_isOffer.cls yX5_isOffer yX5_isOffer ∈ zT := ⟨List.mem_filter.mpr ⟨List.mem_append_right _ (List.mem_of_getElem? (i := 579) (by decide +kernel)), rfl⟩, List.mem_filter.mpr ⟨List.mem_append_left _ (List.mem_of_getElem? (i := 21) (by decide +kernel)), rfl⟩⟩
theorem lk_L_37 : zLk RL 37 yX5_need cX5_need 5 (some .boolean) 4 := ⟨List.mem_filter.mpr ⟨List.mem_append_right _ (List.mem_of_getElem? (i := 584) (by decide +kernel)), rfl⟩, List.mem_filter.mpr ⟨List.mem_append_right _ (List.mem_of_getElem? (i := 6) (by decide +kernel)), rfl⟩, List.mem_filter.mpr ⟨List.mem_append_right _ (List.mem_of_getElem? (i := 581) (by decide +kernel)), rfl⟩, by decide, by decide, by decide +kernel⟩
theorem iv_X5_need : Cond.instanceMethod yX5_need ∈ zT ∧ Cond.selects yX5_need.cls yX5_need yX5_need ∈ zT := ⟨List.mem_filter.mpr ⟨List.mem_append_right _ (List.mem_of_getElem? (i := 582) (by decide +kernel)), rfl⟩, List.mem_filter.mpr ⟨List.mem_append_right _ (List.mem_of_getElem? (i := 583) (by decide +kernel)), rfl⟩⟩
theorem lk_X5_92 : zLk RX5 92 yX5_isHour cX5_isHour 2 (some .boolean) 1 := ⟨List.mem_filter.mpr ⟨List.mem_append_right _ (List.mem_of_getElem? (i := 588) (by decide +kernel)), rfl⟩, List.mem_filter.mpr ⟨List.mem_append_right _ (List.mem_of_getElem? (i := 6) (by decide +kernel)), rfl⟩, List.mem_filter.mpr ⟨List.mem_append_right _ (List.mem_of_getElem? (i := 585) (by decide +kernel)), rfl⟩, by decide, by decide, by decide +kernel⟩
theorem iv_X5_isHour : Cond.instanceMethod yX5_isHour ∈ zT ∧ Cond.selects yX5_isHour.cls yX5_isHour yX5_isHour ∈ zT := ⟨List.mem_filter.mpr ⟨List.mem_append_right _ (List.mem_of_getElem? (i := 587) (by decide +kernel)), rfl⟩, List.mem_filter.mpr ⟨List.mem_append_left _ (List.mem_of_getElem? (i := 22) (by decide +kernel)), rfl⟩⟩
theorem lk_X5_95 : zLk RX5 95 yX5_cell cX5_cell 3 (some .int) 3 := ⟨List.mem_filter.mpr ⟨List.mem_append_right _ (List.mem_of_getElem? (i := 591) (by decide +kernel)), rfl⟩, List.mem_filter.mpr ⟨List.mem_append_right _ (List.mem_of_getElem? (i := 6) (by decide +kernel)), rfl⟩, List.mem_filter.mpr ⟨List.mem_append_right _ (List.mem_of_getElem? (i := 589) (by decide +kernel)), rfl⟩, by decide, by decide, by decide +kernel⟩
theorem st_X5_cell : Cond.static yX5_cell ∈ zT := List.mem_filter.mpr ⟨List.mem_append_right _ (List.mem_of_getElem? (i := 590) (by decide +kernel)), rfl⟩
theorem lk_L_41 : zLk RL 41 yX5_needs cX5_needs 7 (some .boolean) 4 := ⟨List.mem_filter.mpr ⟨List.mem_append_right _ (List.mem_of_getElem? (i := 595) (by decide +kernel)), rfl⟩, List.mem_filter.mpr ⟨List.mem_append_right _ (List.mem_of_getElem? (i := 6) (by decide +kernel)), rfl⟩, List.mem_filter.mpr ⟨List.mem_append_right _ (List.mem_of_getElem? (i := 592) (by decide +kernel)), rfl⟩, by decide, by decide, by decide +kernel⟩
theorem iv_X5_needs : Cond.instanceMethod yX5_needs ∈ zT ∧ Cond.selects yX5_needs.cls yX5_needs yX5_needs ∈ zT := ⟨List.mem_filter.mpr ⟨List.mem_append_right _ (List.mem_of_getElem? (i := 593) (by decide +kernel)), rfl⟩, List.mem_filter.mpr ⟨List.mem_append_right _ (List.mem_of_getElem? (i := 594) (by decide +kernel)), rfl⟩⟩
theorem lk_L_46 : zLk RL 46 yX5_buy cX5_buy 4 (some .boolean) 3 := ⟨List.mem_filter.mpr ⟨List.mem_append_right _ (List.mem_of_getElem? (i := 599) (by decide +kernel)), rfl⟩, List.mem_filter.mpr ⟨List.mem_append_right _ (List.mem_of_getElem? (i := 6) (by decide +kernel)), rfl⟩, List.mem_filter.mpr ⟨List.mem_append_right _ (List.mem_of_getElem? (i := 596) (by decide +kernel)), rfl⟩, by decide, by decide, by decide +kernel⟩
theorem iv_X5_buy : Cond.instanceMethod yX5_buy ∈ zT ∧ Cond.selects yX5_buy.cls yX5_buy yX5_buy ∈ zT := ⟨List.mem_filter.mpr ⟨List.mem_append_right _ (List.mem_of_getElem? (i := 597) (by decide +kernel)), rfl⟩, List.mem_filter.mpr ⟨List.mem_append_right _ (List.mem_of_getElem? (i := 598) (by decide +kernel)), rfl⟩⟩
theorem lk_L_50 : zLk RL 50 yX5_clear cX5_clear 2 (some .boolean) 1 := ⟨List.mem_filter.mpr ⟨List.mem_append_right _ (List.mem_of_getElem? (i := 603) (by decide +kernel)), rfl⟩, List.mem_filter.mpr ⟨List.mem_append_right _ (List.mem_of_getElem? (i := 6) (by decide +kernel)), rfl⟩, List.mem_filter.mpr ⟨List.mem_append_right _ (List.mem_of_getElem? (i := 600) (by decide +kernel)), rfl⟩, by decide, by decide, by decide +kernel⟩
theorem iv_X5_clear : Cond.instanceMethod yX5_clear ∈ zT ∧ Cond.selects yX5_clear.cls yX5_clear yX5_clear ∈ zT := ⟨List.mem_filter.mpr ⟨List.mem_append_right _ (List.mem_of_getElem? (i := 601) (by decide +kernel)), rfl⟩, List.mem_filter.mpr ⟨List.mem_append_right _ (List.mem_of_getElem? (i := 602) (by decide +kernel)), rfl⟩⟩
theorem lk_X5_99 : zLk RX5 99 yX5_clearKind cX5_clearKind 4 none 1 := ⟨List.mem_filter.mpr ⟨List.mem_append_right _ (List.mem_of_getElem? (i := 607) (by decide +kernel)), rfl⟩, List.mem_filter.mpr ⟨List.mem_append_right _ (List.mem_of_getElem? (i := 6) (by decide +kernel)), rfl⟩, List.mem_filter.mpr ⟨List.mem_append_right _ (List.mem_of_getElem? (i := 604) (by decide +kernel)), rfl⟩, by decide, by decide, by decide +kernel⟩
theorem iv_X5_clearKind : Cond.instanceMethod yX5_clearKind ∈ zT ∧ Cond.selects yX5_clearKind.cls yX5_clearKind yX5_clearKind ∈ zT := ⟨List.mem_filter.mpr ⟨List.mem_append_right _ (List.mem_of_getElem? (i := 606) (by decide +kernel)), rfl⟩, List.mem_filter.mpr ⟨List.mem_append_left _ (List.mem_of_getElem? (i := 23) (by decide +kernel)), rfl⟩⟩
theorem lk_L_54 : zLk RL 54 yX5_tell cX5_tell 4 (some .int) 3 := ⟨List.mem_filter.mpr ⟨List.mem_append_right _ (List.mem_of_getElem? (i := 611) (by decide +kernel)), rfl⟩, List.mem_filter.mpr ⟨List.mem_append_right _ (List.mem_of_getElem? (i := 6) (by decide +kernel)), rfl⟩, List.mem_filter.mpr ⟨List.mem_append_right _ (List.mem_of_getElem? (i := 608) (by decide +kernel)), rfl⟩, by decide, by decide, by decide +kernel⟩
theorem iv_X5_tell : Cond.instanceMethod yX5_tell ∈ zT ∧ Cond.selects yX5_tell.cls yX5_tell yX5_tell ∈ zT := ⟨List.mem_filter.mpr ⟨List.mem_append_right _ (List.mem_of_getElem? (i := 609) (by decide +kernel)), rfl⟩, List.mem_filter.mpr ⟨List.mem_append_right _ (List.mem_of_getElem? (i := 610) (by decide +kernel)), rfl⟩⟩
theorem lk_X5_103 : zLk RX5 103 yX5_needOf cX5_needOf 5 (some .int) 2 := ⟨List.mem_filter.mpr ⟨List.mem_append_right _ (List.mem_of_getElem? (i := 615) (by decide +kernel)), rfl⟩, List.mem_filter.mpr ⟨List.mem_append_right _ (List.mem_of_getElem? (i := 6) (by decide +kernel)), rfl⟩, List.mem_filter.mpr ⟨List.mem_append_right _ (List.mem_of_getElem? (i := 612) (by decide +kernel)), rfl⟩, by decide, by decide, by decide +kernel⟩
theorem iv_X5_needOf : Cond.instanceMethod yX5_needOf ∈ zT ∧ Cond.selects yX5_needOf.cls yX5_needOf yX5_needOf ∈ zT := ⟨List.mem_filter.mpr ⟨List.mem_append_right _ (List.mem_of_getElem? (i := 614) (by decide +kernel)), rfl⟩, List.mem_filter.mpr ⟨List.mem_append_left _ (List.mem_of_getElem? (i := 24) (by decide +kernel)), rfl⟩⟩
theorem lk_X5_107 : zLk RX5 107 yX5_aheadOf cX5_aheadOf 6 (some .int) 2 := ⟨List.mem_filter.mpr ⟨List.mem_append_right _ (List.mem_of_getElem? (i := 619) (by decide +kernel)), rfl⟩, List.mem_filter.mpr ⟨List.mem_append_right _ (List.mem_of_getElem? (i := 6) (by decide +kernel)), rfl⟩, List.mem_filter.mpr ⟨List.mem_append_right _ (List.mem_of_getElem? (i := 616) (by decide +kernel)), rfl⟩, by decide, by decide, by decide +kernel⟩
theorem iv_X5_aheadOf : Cond.instanceMethod yX5_aheadOf ∈ zT ∧ Cond.selects yX5_aheadOf.cls yX5_aheadOf yX5_aheadOf ∈ zT := ⟨List.mem_filter.mpr ⟨List.mem_append_right _ (List.mem_of_getElem? (i := 618) (by decide +kernel)), rfl⟩, List.mem_filter.mpr ⟨List.mem_append_left _ (List.mem_of_getElem? (i := 25) (by decide +kernel)), rfl⟩⟩
theorem lk_X5_110 : zLk RX5 110 yX5_besideOf cX5_besideOf 4 (some .int) 2 := ⟨List.mem_filter.mpr ⟨List.mem_append_right _ (List.mem_of_getElem? (i := 623) (by decide +kernel)), rfl⟩, List.mem_filter.mpr ⟨List.mem_append_right _ (List.mem_of_getElem? (i := 6) (by decide +kernel)), rfl⟩, List.mem_filter.mpr ⟨List.mem_append_right _ (List.mem_of_getElem? (i := 620) (by decide +kernel)), rfl⟩, by decide, by decide, by decide +kernel⟩
theorem iv_X5_besideOf : Cond.instanceMethod yX5_besideOf ∈ zT ∧ Cond.selects yX5_besideOf.cls yX5_besideOf yX5_besideOf ∈ zT := ⟨List.mem_filter.mpr ⟨List.mem_append_right _ (List.mem_of_getElem? (i := 622) (by decide +kernel)), rfl⟩, List.mem_filter.mpr ⟨List.mem_append_left _ (List.mem_of_getElem? (i := 26) (by decide +kernel)), rfl⟩⟩
theorem lk_L_59 : zLk RL 59 yX5_cost cX5_cost 2 (some .long) 1 := ⟨List.mem_filter.mpr ⟨List.mem_append_right _ (List.mem_of_getElem? (i := 627) (by decide +kernel)), rfl⟩, List.mem_filter.mpr ⟨List.mem_append_right _ (List.mem_of_getElem? (i := 6) (by decide +kernel)), rfl⟩, List.mem_filter.mpr ⟨List.mem_append_right _ (List.mem_of_getElem? (i := 624) (by decide +kernel)), rfl⟩, by decide, by decide, by decide +kernel⟩
theorem iv_X5_cost : Cond.instanceMethod yX5_cost ∈ zT ∧ Cond.selects yX5_cost.cls yX5_cost yX5_cost ∈ zT := ⟨List.mem_filter.mpr ⟨List.mem_append_right _ (List.mem_of_getElem? (i := 625) (by decide +kernel)), rfl⟩, List.mem_filter.mpr ⟨List.mem_append_right _ (List.mem_of_getElem? (i := 626) (by decide +kernel)), rfl⟩⟩
theorem lk_X5_117 : zLk RX5 117 yX5_planCost cX5_planCost 5 (some .long) 1 := ⟨List.mem_filter.mpr ⟨List.mem_append_right _ (List.mem_of_getElem? (i := 631) (by decide +kernel)), rfl⟩, List.mem_filter.mpr ⟨List.mem_append_right _ (List.mem_of_getElem? (i := 6) (by decide +kernel)), rfl⟩, List.mem_filter.mpr ⟨List.mem_append_right _ (List.mem_of_getElem? (i := 628) (by decide +kernel)), rfl⟩, by decide, by decide, by decide +kernel⟩
theorem iv_X5_planCost : Cond.instanceMethod yX5_planCost ∈ zT ∧ Cond.selects yX5_planCost.cls yX5_planCost yX5_planCost ∈ zT := ⟨List.mem_filter.mpr ⟨List.mem_append_right _ (List.mem_of_getElem? (i := 630) (by decide +kernel)), rfl⟩, List.mem_filter.mpr ⟨List.mem_append_left _ (List.mem_of_getElem? (i := 27) (by decide +kernel)), rfl⟩⟩
theorem lk_X5_113 : zLk RX5 113 yX5_offersCost cX5_offersCost 6 (some .long) 1 := ⟨List.mem_filter.mpr ⟨List.mem_append_right _ (List.mem_of_getElem? (i := 635) (by decide +kernel)), rfl⟩, List.mem_filter.mpr ⟨List.mem_append_right _ (List.mem_of_getElem? (i := 6) (by decide +kernel)), rfl⟩, List.mem_filter.mpr ⟨List.mem_append_right _ (List.mem_of_getElem? (i := 632) (by decide +kernel)), rfl⟩, by decide, by decide, by decide +kernel⟩
theorem iv_X5_offersCost : Cond.instanceMethod yX5_offersCost ∈ zT ∧ Cond.selects yX5_offersCost.cls yX5_offersCost yX5_offersCost ∈ zT := ⟨List.mem_filter.mpr ⟨List.mem_append_right _ (List.mem_of_getElem? (i := 634) (by decide +kernel)), rfl⟩, List.mem_filter.mpr ⟨List.mem_append_left _ (List.mem_of_getElem? (i := 28) (by decide +kernel)), rfl⟩⟩
theorem lk_L_63 : zLk RL 63 yX5_best cX5_best 2 (some .long) 1 := ⟨List.mem_filter.mpr ⟨List.mem_append_right _ (List.mem_of_getElem? (i := 640) (by decide +kernel)), rfl⟩, List.mem_filter.mpr ⟨List.mem_append_right _ (List.mem_of_getElem? (i := 6) (by decide +kernel)), rfl⟩, List.mem_filter.mpr ⟨List.mem_append_right _ (List.mem_of_getElem? (i := 637) (by decide +kernel)), rfl⟩, by decide, by decide, by decide +kernel⟩
theorem iv_X5_best : Cond.instanceMethod yX5_best ∈ zT ∧ Cond.selects yX5_best.cls yX5_best yX5_best ∈ zT := ⟨List.mem_filter.mpr ⟨List.mem_append_right _ (List.mem_of_getElem? (i := 638) (by decide +kernel)), rfl⟩, List.mem_filter.mpr ⟨List.mem_append_right _ (List.mem_of_getElem? (i := 639) (by decide +kernel)), rfl⟩⟩
theorem lk_X5_140 : zLk RX5 140 yX5_bestOf cX5_bestOf 9 (some .long) 3 := ⟨List.mem_filter.mpr ⟨List.mem_append_right _ (List.mem_of_getElem? (i := 644) (by decide +kernel)), rfl⟩, List.mem_filter.mpr ⟨List.mem_append_right _ (List.mem_of_getElem? (i := 6) (by decide +kernel)), rfl⟩, List.mem_filter.mpr ⟨List.mem_append_right _ (List.mem_of_getElem? (i := 641) (by decide +kernel)), rfl⟩, by decide, by decide, by decide +kernel⟩
theorem iv_X5_bestOf : Cond.instanceMethod yX5_bestOf ∈ zT ∧ Cond.selects yX5_bestOf.cls yX5_bestOf yX5_bestOf ∈ zT := ⟨List.mem_filter.mpr ⟨List.mem_append_right _ (List.mem_of_getElem? (i := 643) (by decide +kernel)), rfl⟩, List.mem_filter.mpr ⟨List.mem_append_left _ (List.mem_of_getElem? (i := 29) (by decide +kernel)), rfl⟩⟩
theorem lk_X5_127 : zLk RX5 127 yX5_findWays cX5_findWays 6 none 1 := ⟨List.mem_filter.mpr ⟨List.mem_append_right _ (List.mem_of_getElem? (i := 648) (by decide +kernel)), rfl⟩, List.mem_filter.mpr ⟨List.mem_append_right _ (List.mem_of_getElem? (i := 6) (by decide +kernel)), rfl⟩, List.mem_filter.mpr ⟨List.mem_append_right _ (List.mem_of_getElem? (i := 645) (by decide +kernel)), rfl⟩, by decide, by decide, by decide +kernel⟩
theorem iv_X5_findWays : Cond.instanceMethod yX5_findWays ∈ zT ∧ Cond.selects yX5_findWays.cls yX5_findWays yX5_findWays ∈ zT := ⟨List.mem_filter.mpr ⟨List.mem_append_right _ (List.mem_of_getElem? (i := 647) (by decide +kernel)), rfl⟩, List.mem_filter.mpr ⟨List.mem_append_left _ (List.mem_of_getElem? (i := 30) (by decide +kernel)), rfl⟩⟩
theorem lk_X5_123 : zLk RX5 123 yX5_shorter cX5_shorter 4 none 3 := ⟨List.mem_filter.mpr ⟨List.mem_append_right _ (List.mem_of_getElem? (i := 653) (by decide +kernel)), rfl⟩, List.mem_filter.mpr ⟨List.mem_append_right _ (List.mem_of_getElem? (i := 6) (by decide +kernel)), rfl⟩, List.mem_filter.mpr ⟨List.mem_append_right _ (List.mem_of_getElem? (i := 650) (by decide +kernel)), rfl⟩, by decide, by decide, by decide +kernel⟩
theorem iv_X5_shorter : Cond.instanceMethod yX5_shorter ∈ zT ∧ Cond.selects yX5_shorter.cls yX5_shorter yX5_shorter ∈ zT := ⟨List.mem_filter.mpr ⟨List.mem_append_right _ (List.mem_of_getElem? (i := 652) (by decide +kernel)), rfl⟩, List.mem_filter.mpr ⟨List.mem_append_left _ (List.mem_of_getElem? (i := 31) (by decide +kernel)), rfl⟩⟩
theorem lk_X5_130 : zLk RX5 130 yX5_findSends cX5_findSends 8 none 3 := ⟨List.mem_filter.mpr ⟨List.mem_append_right _ (List.mem_of_getElem? (i := 657) (by decide +kernel)), rfl⟩, List.mem_filter.mpr ⟨List.mem_append_right _ (List.mem_of_getElem? (i := 6) (by decide +kernel)), rfl⟩, List.mem_filter.mpr ⟨List.mem_append_right _ (List.mem_of_getElem? (i := 654) (by decide +kernel)), rfl⟩, by decide, by decide, by decide +kernel⟩
theorem iv_X5_findSends : Cond.instanceMethod yX5_findSends ∈ zT ∧ Cond.selects yX5_findSends.cls yX5_findSends yX5_findSends ∈ zT := ⟨List.mem_filter.mpr ⟨List.mem_append_right _ (List.mem_of_getElem? (i := 656) (by decide +kernel)), rfl⟩, List.mem_filter.mpr ⟨List.mem_append_left _ (List.mem_of_getElem? (i := 32) (by decide +kernel)), rfl⟩⟩
theorem lk_X5_133 : zLk RX5 133 yX5_nextEnd cX5_nextEnd 8 (some .int) 0 := ⟨List.mem_filter.mpr ⟨List.mem_append_right _ (List.mem_of_getElem? (i := 661) (by decide +kernel)), rfl⟩, List.mem_filter.mpr ⟨List.mem_append_right _ (List.mem_of_getElem? (i := 6) (by decide +kernel)), rfl⟩, List.mem_filter.mpr ⟨List.mem_append_right _ (List.mem_of_getElem? (i := 658) (by decide +kernel)), rfl⟩, by decide, by decide, by decide +kernel⟩
theorem iv_X5_nextEnd : Cond.instanceMethod yX5_nextEnd ∈ zT ∧ Cond.selects yX5_nextEnd.cls yX5_nextEnd yX5_nextEnd ∈ zT := ⟨List.mem_filter.mpr ⟨List.mem_append_right _ (List.mem_of_getElem? (i := 660) (by decide +kernel)), rfl⟩, List.mem_filter.mpr ⟨List.mem_append_left _ (List.mem_of_getElem? (i := 33) (by decide +kernel)), rfl⟩⟩
theorem lk_X5_137 : zLk RX5 137 yX5_sendOn cX5_sendOn 5 none 1 := ⟨List.mem_filter.mpr ⟨List.mem_append_right _ (List.mem_of_getElem? (i := 665) (by decide +kernel)), rfl⟩, List.mem_filter.mpr ⟨List.mem_append_right _ (List.mem_of_getElem? (i := 6) (by decide +kernel)), rfl⟩, List.mem_filter.mpr ⟨List.mem_append_right _ (List.mem_of_getElem? (i := 662) (by decide +kernel)), rfl⟩, by decide, by decide, by decide +kernel⟩
theorem iv_X5_sendOn : Cond.instanceMethod yX5_sendOn ∈ zT ∧ Cond.selects yX5_sendOn.cls yX5_sendOn yX5_sendOn ∈ zT := ⟨List.mem_filter.mpr ⟨List.mem_append_right _ (List.mem_of_getElem? (i := 664) (by decide +kernel)), rfl⟩, List.mem_filter.mpr ⟨List.mem_append_left _ (List.mem_of_getElem? (i := 34) (by decide +kernel)), rfl⟩⟩
theorem lk_L_68 : zLk RL 68 yX5_price cX5_price 5 (some .int) 2 := ⟨List.mem_filter.mpr ⟨List.mem_append_right _ (List.mem_of_getElem? (i := 669) (by decide +kernel)), rfl⟩, List.mem_filter.mpr ⟨List.mem_append_right _ (List.mem_of_getElem? (i := 6) (by decide +kernel)), rfl⟩, List.mem_filter.mpr ⟨List.mem_append_right _ (List.mem_of_getElem? (i := 666) (by decide +kernel)), rfl⟩, by decide, by decide, by decide +kernel⟩
theorem iv_X5_price : Cond.instanceMethod yX5_price ∈ zT ∧ Cond.selects yX5_price.cls yX5_price yX5_price ∈ zT := ⟨List.mem_filter.mpr ⟨List.mem_append_right _ (List.mem_of_getElem? (i := 667) (by decide +kernel)), rfl⟩, List.mem_filter.mpr ⟨List.mem_append_right _ (List.mem_of_getElem? (i := 668) (by decide +kernel)), rfl⟩⟩
theorem lk_X5_144 : zLk RX5 144 yX5_findPrices cX5_findPrices 6 none 0 := ⟨List.mem_filter.mpr ⟨List.mem_append_right _ (List.mem_of_getElem? (i := 673) (by decide +kernel)), rfl⟩, List.mem_filter.mpr ⟨List.mem_append_right _ (List.mem_of_getElem? (i := 6) (by decide +kernel)), rfl⟩, List.mem_filter.mpr ⟨List.mem_append_right _ (List.mem_of_getElem? (i := 670) (by decide +kernel)), rfl⟩, by decide, by decide, by decide +kernel⟩
theorem iv_X5_findPrices : Cond.instanceMethod yX5_findPrices ∈ zT ∧ Cond.selects yX5_findPrices.cls yX5_findPrices yX5_findPrices ∈ zT := ⟨List.mem_filter.mpr ⟨List.mem_append_right _ (List.mem_of_getElem? (i := 672) (by decide +kernel)), rfl⟩, List.mem_filter.mpr ⟨List.mem_append_left _ (List.mem_of_getElem? (i := 35) (by decide +kernel)), rfl⟩⟩
theorem lk_L_72 : zLk RL 72 yX5_more cX5_more 6 (some .int) 3 := ⟨List.mem_filter.mpr ⟨List.mem_append_right _ (List.mem_of_getElem? (i := 677) (by decide +kernel)), rfl⟩, List.mem_filter.mpr ⟨List.mem_append_right _ (List.mem_of_getElem? (i := 6) (by decide +kernel)), rfl⟩, List.mem_filter.mpr ⟨List.mem_append_right _ (List.mem_of_getElem? (i := 674) (by decide +kernel)), rfl⟩, by decide, by decide, by decide +kernel⟩
theorem iv_X5_more : Cond.instanceMethod yX5_more ∈ zT ∧ Cond.selects yX5_more.cls yX5_more yX5_more ∈ zT := ⟨List.mem_filter.mpr ⟨List.mem_append_right _ (List.mem_of_getElem? (i := 675) (by decide +kernel)), rfl⟩, List.mem_filter.mpr ⟨List.mem_append_right _ (List.mem_of_getElem? (i := 676) (by decide +kernel)), rfl⟩⟩
theorem lk_L_76 : zLk RL 76 yX5_blind cX5_blind 7 (some .long) 1 := ⟨List.mem_filter.mpr ⟨List.mem_append_right _ (List.mem_of_getElem? (i := 682) (by decide +kernel)), rfl⟩, List.mem_filter.mpr ⟨List.mem_append_right _ (List.mem_of_getElem? (i := 6) (by decide +kernel)), rfl⟩, List.mem_filter.mpr ⟨List.mem_append_right _ (List.mem_of_getElem? (i := 679) (by decide +kernel)), rfl⟩, by decide, by decide, by decide +kernel⟩
theorem iv_X5_blind : Cond.instanceMethod yX5_blind ∈ zT ∧ Cond.selects yX5_blind.cls yX5_blind yX5_blind ∈ zT := ⟨List.mem_filter.mpr ⟨List.mem_append_right _ (List.mem_of_getElem? (i := 680) (by decide +kernel)), rfl⟩, List.mem_filter.mpr ⟨List.mem_append_right _ (List.mem_of_getElem? (i := 681) (by decide +kernel)), rfl⟩⟩
theorem lk_X5_148 : zLk RX5 148 yX5_spent cX5_spent 6 (some .int) 3 := ⟨List.mem_filter.mpr ⟨List.mem_append_right _ (List.mem_of_getElem? (i := 686) (by decide +kernel)), rfl⟩, List.mem_filter.mpr ⟨List.mem_append_right _ (List.mem_of_getElem? (i := 6) (by decide +kernel)), rfl⟩, List.mem_filter.mpr ⟨List.mem_append_right _ (List.mem_of_getElem? (i := 683) (by decide +kernel)), rfl⟩, by decide, by decide, by decide +kernel⟩
theorem iv_X5_spent : Cond.instanceMethod yX5_spent ∈ zT ∧ Cond.selects yX5_spent.cls yX5_spent yX5_spent ∈ zT := ⟨List.mem_filter.mpr ⟨List.mem_append_right _ (List.mem_of_getElem? (i := 685) (by decide +kernel)), rfl⟩, List.mem_filter.mpr ⟨List.mem_append_left _ (List.mem_of_getElem? (i := 36) (by decide +kernel)), rfl⟩⟩
theorem lk_L_81 : zLk RL 81 yX5_pays cX5_pays 11 (some .long) 2 := ⟨List.mem_filter.mpr ⟨List.mem_append_right _ (List.mem_of_getElem? (i := 690) (by decide +kernel)), rfl⟩, List.mem_filter.mpr ⟨List.mem_append_right _ (List.mem_of_getElem? (i := 6) (by decide +kernel)), rfl⟩, List.mem_filter.mpr ⟨List.mem_append_right _ (List.mem_of_getElem? (i := 687) (by decide +kernel)), rfl⟩, by decide, by decide, by decide +kernel⟩
theorem iv_X5_pays : Cond.instanceMethod yX5_pays ∈ zT ∧ Cond.selects yX5_pays.cls yX5_pays yX5_pays ∈ zT := ⟨List.mem_filter.mpr ⟨List.mem_append_right _ (List.mem_of_getElem? (i := 688) (by decide +kernel)), rfl⟩, List.mem_filter.mpr ⟨List.mem_append_right _ (List.mem_of_getElem? (i := 689) (by decide +kernel)), rfl⟩⟩
theorem lk_X5_151 : zLk RX5 151 yX5_part cX5_part 8 none 1 := ⟨List.mem_filter.mpr ⟨List.mem_append_right _ (List.mem_of_getElem? (i := 694) (by decide +kernel)), rfl⟩, List.mem_filter.mpr ⟨List.mem_append_right _ (List.mem_of_getElem? (i := 6) (by decide +kernel)), rfl⟩, List.mem_filter.mpr ⟨List.mem_append_right _ (List.mem_of_getElem? (i := 691) (by decide +kernel)), rfl⟩, by decide, by decide, by decide +kernel⟩
theorem iv_X5_part : Cond.instanceMethod yX5_part ∈ zT ∧ Cond.selects yX5_part.cls yX5_part yX5_part ∈ zT := ⟨List.mem_filter.mpr ⟨List.mem_append_right _ (List.mem_of_getElem? (i := 693) (by decide +kernel)), rfl⟩, List.mem_filter.mpr ⟨List.mem_append_left _ (List.mem_of_getElem? (i := 37) (by decide +kernel)), rfl⟩⟩
theorem lk_L_85 : zLk RL 85 yX5_about cX5_about 7 (some .int) 2 := ⟨List.mem_filter.mpr ⟨List.mem_append_right _ (List.mem_of_getElem? (i := 698) (by decide +kernel)), rfl⟩, List.mem_filter.mpr ⟨List.mem_append_right _ (List.mem_of_getElem? (i := 6) (by decide +kernel)), rfl⟩, List.mem_filter.mpr ⟨List.mem_append_right _ (List.mem_of_getElem? (i := 695) (by decide +kernel)), rfl⟩, by decide, by decide, by decide +kernel⟩
theorem iv_X5_about : Cond.instanceMethod yX5_about ∈ zT ∧ Cond.selects yX5_about.cls yX5_about yX5_about ∈ zT := ⟨List.mem_filter.mpr ⟨List.mem_append_right _ (List.mem_of_getElem? (i := 696) (by decide +kernel)), rfl⟩, List.mem_filter.mpr ⟨List.mem_append_right _ (List.mem_of_getElem? (i := 697) (by decide +kernel)), rfl⟩⟩
theorem lk_L_89 : zLk RL 89 yX5_count cX5_count 2 (some .int) 1 := ⟨List.mem_filter.mpr ⟨List.mem_append_right _ (List.mem_of_getElem? (i := 702) (by decide +kernel)), rfl⟩, List.mem_filter.mpr ⟨List.mem_append_right _ (List.mem_of_getElem? (i := 6) (by decide +kernel)), rfl⟩, List.mem_filter.mpr ⟨List.mem_append_right _ (List.mem_of_getElem? (i := 699) (by decide +kernel)), rfl⟩, by decide, by decide, by decide +kernel⟩
theorem iv_X5_count : Cond.instanceMethod yX5_count ∈ zT ∧ Cond.selects yX5_count.cls yX5_count yX5_count ∈ zT := ⟨List.mem_filter.mpr ⟨List.mem_append_right _ (List.mem_of_getElem? (i := 700) (by decide +kernel)), rfl⟩, List.mem_filter.mpr ⟨List.mem_append_right _ (List.mem_of_getElem? (i := 701) (by decide +kernel)), rfl⟩⟩
theorem lk_L_93 : zLk RL 93 yX5_image cX5_image 2 (some .boolean) 1 := ⟨List.mem_filter.mpr ⟨List.mem_append_right _ (List.mem_of_getElem? (i := 706) (by decide +kernel)), rfl⟩, List.mem_filter.mpr ⟨List.mem_append_right _ (List.mem_of_getElem? (i := 6) (by decide +kernel)), rfl⟩, List.mem_filter.mpr ⟨List.mem_append_right _ (List.mem_of_getElem? (i := 703) (by decide +kernel)), rfl⟩, by decide, by decide, by decide +kernel⟩
theorem iv_X5_image : Cond.instanceMethod yX5_image ∈ zT ∧ Cond.selects yX5_image.cls yX5_image yX5_image ∈ zT := ⟨List.mem_filter.mpr ⟨List.mem_append_right _ (List.mem_of_getElem? (i := 704) (by decide +kernel)), rfl⟩, List.mem_filter.mpr ⟨List.mem_append_right _ (List.mem_of_getElem? (i := 705) (by decide +kernel)), rfl⟩⟩
theorem lk_X5_154 : zLk RX5 154 yX5_copy cX5_copy 3 none 2 := ⟨List.mem_filter.mpr ⟨List.mem_append_right _ (List.mem_of_getElem? (i := 710) (by decide +kernel)), rfl⟩, List.mem_filter.mpr ⟨List.mem_append_right _ (List.mem_of_getElem? (i := 6) (by decide +kernel)), rfl⟩, List.mem_filter.mpr ⟨List.mem_append_right _ (List.mem_of_getElem? (i := 707) (by decide +kernel)), rfl⟩, by decide, by decide, by decide +kernel⟩
theorem iv_X5_copy : Cond.instanceMethod yX5_copy ∈ zT ∧ Cond.selects yX5_copy.cls yX5_copy yX5_copy ∈ zT := ⟨List.mem_filter.mpr ⟨List.mem_append_right _ (List.mem_of_getElem? (i := 709) (by decide +kernel)), rfl⟩, List.mem_filter.mpr ⟨List.mem_append_left _ (List.mem_of_getElem? (i := 38) (by decide +kernel)), rfl⟩⟩
theorem lk_X5_76 : zLk RX5 76 yX5_move cX5_move 5 none 4 := ⟨List.mem_filter.mpr ⟨List.mem_append_right _ (List.mem_of_getElem? (i := 713) (by decide +kernel)), rfl⟩, List.mem_filter.mpr ⟨List.mem_append_right _ (List.mem_of_getElem? (i := 6) (by decide +kernel)), rfl⟩, List.mem_filter.mpr ⟨List.mem_append_right _ (List.mem_of_getElem? (i := 711) (by decide +kernel)), rfl⟩, by decide, by decide, by decide +kernel⟩
theorem st_X5_move : Cond.static yX5_move ∈ zT := List.mem_filter.mpr ⟨List.mem_append_right _ (List.mem_of_getElem? (i := 712) (by decide +kernel)), rfl⟩
theorem lk_L_97 : zLk RL 97 yX5_again cX5_again 2 (some .boolean) 1 := ⟨List.mem_filter.mpr ⟨List.mem_append_right _ (List.mem_of_getElem? (i := 717) (by decide +kernel)), rfl⟩, List.mem_filter.mpr ⟨List.mem_append_right _ (List.mem_of_getElem? (i := 6) (by decide +kernel)), rfl⟩, List.mem_filter.mpr ⟨List.mem_append_right _ (List.mem_of_getElem? (i := 714) (by decide +kernel)), rfl⟩, by decide, by decide, by decide +kernel⟩
theorem iv_X5_again : Cond.instanceMethod yX5_again ∈ zT ∧ Cond.selects yX5_again.cls yX5_again yX5_again ∈ zT := ⟨List.mem_filter.mpr ⟨List.mem_append_right _ (List.mem_of_getElem? (i := 715) (by decide +kernel)), rfl⟩, List.mem_filter.mpr ⟨List.mem_append_right _ (List.mem_of_getElem? (i := 716) (by decide +kernel)), rfl⟩⟩
theorem ob_X4_1 : Cond.methodLink RX4 1 objectInit ∈ zT := List.mem_filter.mpr ⟨List.mem_append_right _ (List.mem_of_getElem? (i := 15) (by decide +kernel)), rfl⟩
theorem ob_X1_3 : Cond.methodLink RX1 3 objectInit ∈ zT := List.mem_filter.mpr ⟨List.mem_append_right _ (List.mem_of_getElem? (i := 23) (by decide +kernel)), rfl⟩
theorem ob_X2_3 : Cond.methodLink RX2 3 objectInit ∈ zT := List.mem_filter.mpr ⟨List.mem_append_right _ (List.mem_of_getElem? (i := 79) (by decide +kernel)), rfl⟩
theorem ob_X0_3 : Cond.methodLink RX0 3 objectInit ∈ zT := List.mem_filter.mpr ⟨List.mem_append_right _ (List.mem_of_getElem? (i := 114) (by decide +kernel)), rfl⟩
theorem ob_X3_3 : Cond.methodLink RX3 3 objectInit ∈ zT := List.mem_filter.mpr ⟨List.mem_append_right _ (List.mem_of_getElem? (i := 124) (by decide +kernel)), rfl⟩
theorem ac_X1_40 : Cond.methodLink RX1 40 arraycopyName ∈ zT := List.mem_filter.mpr ⟨List.mem_append_right _ (List.mem_of_getElem? (i := 475) (by decide +kernel)), rfl⟩
theorem ob_X5_1 : Cond.methodLink RX5 1 objectInit ∈ zT := List.mem_filter.mpr ⟨List.mem_append_right _ (List.mem_of_getElem? (i := 487) (by decide +kernel)), rfl⟩
theorem ob_in : Cond.instanceMethod objectInit ∈ zT := List.mem_filter.mpr ⟨List.mem_append_right _ (List.mem_of_getElem? (i := 16) (by decide +kernel)), rfl⟩
theorem ob_cd : Cond.code objectInit ⟨#[0xb1]⟩ 1 none ∈ zT := List.mem_filter.mpr ⟨List.mem_append_right _ (List.mem_of_getElem? (i := 17) (by decide +kernel)), rfl⟩
theorem ac_nat : Cond.native arraycopyName ∈ zT := List.mem_filter.mpr ⟨List.mem_append_right _ (List.mem_of_getElem? (i := 477) (by decide +kernel)), rfl⟩
theorem ac_st : Cond.static arraycopyName ∈ zT := List.mem_filter.mpr ⟨List.mem_append_right _ (List.mem_of_getElem? (i := 476) (by decide +kernel)), rfl⟩
theorem ac_ini : Cond.initialized "java/lang/System" ∈ zT := List.mem_filter.mpr ⟨List.mem_append_right _ (List.mem_of_getElem? (i := 9) (by decide +kernel)), rfl⟩
theorem ar_int : Cond.arrayClass .int ∈ zT := List.mem_filter.mpr ⟨List.mem_append_right _ (List.mem_of_getElem? (i := 72) (by decide +kernel)), rfl⟩
theorem ar_boolean : Cond.arrayClass .boolean ∈ zT := List.mem_filter.mpr ⟨List.mem_append_right _ (List.mem_of_getElem? (i := 108) (by decide +kernel)), rfl⟩
theorem ar_long : Cond.arrayClass .long ∈ zT := List.mem_filter.mpr ⟨List.mem_append_right _ (List.mem_of_getElem? (i := 552) (by decide +kernel)), rfl⟩
theorem cl_L_7 : Cond.classLink RL 7 RX4 ∈ zT := List.mem_filter.mpr ⟨List.mem_append_right _ (List.mem_of_getElem? (i := 10) (by decide +kernel)), rfl⟩
theorem cl_X4_7 : Cond.classLink RX4 7 RX1 ∈ zT := List.mem_filter.mpr ⟨List.mem_append_right _ (List.mem_of_getElem? (i := 18) (by decide +kernel)), rfl⟩
theorem cl_X4_20 : Cond.classLink RX4 20 RX2 ∈ zT := List.mem_filter.mpr ⟨List.mem_append_right _ (List.mem_of_getElem? (i := 74) (by decide +kernel)), rfl⟩
theorem cl_X4_27 : Cond.classLink RX4 27 RX0 ∈ zT := List.mem_filter.mpr ⟨List.mem_append_right _ (List.mem_of_getElem? (i := 109) (by decide +kernel)), rfl⟩
theorem cl_X4_34 : Cond.classLink RX4 34 RX3 ∈ zT := List.mem_filter.mpr ⟨List.mem_append_right _ (List.mem_of_getElem? (i := 119) (by decide +kernel)), rfl⟩
theorem cl_L_10 : Cond.classLink RL 10 RX5 ∈ zT := List.mem_filter.mpr ⟨List.mem_append_right _ (List.mem_of_getElem? (i := 482) (by decide +kernel)), rfl⟩
theorem nw_X4 : Cond.instantiable RX4 5 ∈ zT := List.mem_filter.mpr ⟨List.mem_append_right _ (List.mem_of_getElem? (i := 11) (by decide +kernel)), rfl⟩
theorem nwi_X4 : Cond.initialized RX4 ∈ zT := List.mem_filter.mpr ⟨List.mem_append_right _ (List.mem_of_getElem? (i := 1) (by decide +kernel)), rfl⟩
theorem nw_X1 : Cond.instantiable RX1 9 ∈ zT := List.mem_filter.mpr ⟨List.mem_append_right _ (List.mem_of_getElem? (i := 19) (by decide +kernel)), rfl⟩
theorem nwi_X1 : Cond.initialized RX1 ∈ zT := List.mem_filter.mpr ⟨List.mem_append_right _ (List.mem_of_getElem? (i := 2) (by decide +kernel)), rfl⟩
theorem nw_X2 : Cond.instantiable RX2 9 ∈ zT := List.mem_filter.mpr ⟨List.mem_append_right _ (List.mem_of_getElem? (i := 75) (by decide +kernel)), rfl⟩
theorem nwi_X2 : Cond.initialized RX2 ∈ zT := List.mem_filter.mpr ⟨List.mem_append_right _ (List.mem_of_getElem? (i := 3) (by decide +kernel)), rfl⟩
theorem nw_X0 : Cond.instantiable RX0 1 ∈ zT := List.mem_filter.mpr ⟨List.mem_append_right _ (List.mem_of_getElem? (i := 110) (by decide +kernel)), rfl⟩
theorem nwi_X0 : Cond.initialized RX0 ∈ zT := List.mem_filter.mpr ⟨List.mem_append_right _ (List.mem_of_getElem? (i := 4) (by decide +kernel)), rfl⟩
theorem nw_X3 : Cond.instantiable RX3 3 ∈ zT := List.mem_filter.mpr ⟨List.mem_append_right _ (List.mem_of_getElem? (i := 120) (by decide +kernel)), rfl⟩
theorem nwi_X3 : Cond.initialized RX3 ∈ zT := List.mem_filter.mpr ⟨List.mem_append_right _ (List.mem_of_getElem? (i := 5) (by decide +kernel)), rfl⟩
theorem nw_X5 : Cond.instantiable RX5 21 ∈ zT := List.mem_filter.mpr ⟨List.mem_append_right _ (List.mem_of_getElem? (i := 483) (by decide +kernel)), rfl⟩
theorem nwi_X5 : Cond.initialized RX5 ∈ zT := List.mem_filter.mpr ⟨List.mem_append_right _ (List.mem_of_getElem? (i := 6) (by decide +kernel)), rfl⟩
theorem kc_X4_185 : Cond.constant RX4 185 (iz (100000)) ∈ zT := List.mem_filter.mpr ⟨List.mem_append_right _ (List.mem_of_getElem? (i := 187) (by decide +kernel)), rfl⟩
theorem kc_X2_103 : Cond.constant RX2 103 (iz (1000000000)) ∈ zT := List.mem_filter.mpr ⟨List.mem_append_right _ (List.mem_of_getElem? (i := 339) (by decide +kernel)), rfl⟩
theorem kc_X4_131 : Cond.constant RX4 131 (iz (-1000000000)) ∈ zT := List.mem_filter.mpr ⟨List.mem_append_right _ (List.mem_of_getElem? (i := 380) (by decide +kernel)), rfl⟩
theorem kc_X5_88 : Cond.constant RX5 88 (iz (100000)) ∈ zT := List.mem_filter.mpr ⟨List.mem_append_right _ (List.mem_of_getElem? (i := 572) (by decide +kernel)), rfl⟩
theorem kc_X5_122 : Cond.constant RX5 122 (iz (1000000000)) ∈ zT := List.mem_filter.mpr ⟨List.mem_append_right _ (List.mem_of_getElem? (i := 649) (by decide +kernel)), rfl⟩
theorem kc_X5_147 : Cond.constant RX5 147 (iz (-1000000000)) ∈ zT := List.mem_filter.mpr ⟨List.mem_append_right _ (List.mem_of_getElem? (i := 678) (by decide +kernel)), rfl⟩
theorem kl_X4_122 : Cond.constantLong RX4 122 (lz (-1)) ∈ zT := List.mem_filter.mpr ⟨List.mem_append_right _ (List.mem_of_getElem? (i := 303) (by decide +kernel)), rfl⟩
theorem kl_X5_120 : Cond.constantLong RX5 120 (lz (-1)) ∈ zT := List.mem_filter.mpr ⟨List.mem_append_right _ (List.mem_of_getElem? (i := 636) (by decide +kernel)), rfl⟩
section ZFIELDS
variable {l : Launch} {g : zG} {cc : ByteArray} {nL : Nat} {rt : Option FieldType} {nm : String} {R : Room} {mc ms : Nat} {Q : Option Value → List va_E → Prop} {k n pc : Nat} {ls : List (Option Value)} {st : List Value} {h : List va_E}
theorem zf_X1_9 {q0 : Nat} {fs : List Value} {v : Value} (he : h[q0]? = some (.inr (1, fs))) (hv : fs[0]? = some v) (hd : decode cc pc = .ok (.getfield 9, 3)) (kk : zJ l g RX1 cc nL rt nm R mc ms Q k n (pc + 3) ls (v :: st) h) : zJ l g RX1 cc nL rt nm R mc ms Q k n pc ls (.ref (g.2.1 + q0) :: st) h := z_get (C := RX1) (T := TX1) (N := 9) (ci := 1) zin_X1 rfl 0 (by decide) (List.mem_filter.mpr ⟨List.mem_append_right _ (List.mem_of_getElem? (i := 24) (by decide +kernel)), rfl⟩) rfl he hv hd kk
theorem zp_X1_9 {q0 : Nat} {fs : List Value} {x : Int32} (he : h[q0]? = some (.inr (1, fs))) (hlf : 0 < fs.length) (hd : decode cc pc = .ok (.putfield 9, 3)) (kk : zJ l g RX1 cc nL rt nm R mc ms Q k n (pc + 3) ls st (h.set q0 (.inr (1, fs.set 0 (.int x))))) : zJ l g RX1 cc nL rt nm R mc ms Q k n pc ls (.int x :: .ref (g.2.1 + q0) :: st) h := z_put (C := RX1) (T := TX1) (N := 9) (ci := 1) zin_X1 tyX1 tyX1_ok nmX1 rfl 0 (by decide) (List.mem_filter.mpr ⟨List.mem_append_right _ (List.mem_of_getElem? (i := 24) (by decide +kernel)), rfl⟩) rfl rfl (ty := tyX1 0) (tyX1_ok 0 (by decide)) rfl rfl he hlf hd kk
theorem zf_X1_34 {q0 : Nat} {fs : List Value} {v : Value} (he : h[q0]? = some (.inr (1, fs))) (hv : fs[1]? = some v) (hd : decode cc pc = .ok (.getfield 34, 3)) (kk : zJ l g RX1 cc nL rt nm R mc ms Q k n (pc + 3) ls (v :: st) h) : zJ l g RX1 cc nL rt nm R mc ms Q k n pc ls (.ref (g.2.1 + q0) :: st) h := z_get (C := RX1) (T := TX1) (N := 9) (ci := 1) zin_X1 rfl 1 (by decide) (List.mem_filter.mpr ⟨List.mem_append_right _ (List.mem_of_getElem? (i := 29) (by decide +kernel)), rfl⟩) rfl he hv hd kk
theorem zp_X1_34 {q0 : Nat} {fs : List Value} {x : Int32} (he : h[q0]? = some (.inr (1, fs))) (hlf : 1 < fs.length) (hd : decode cc pc = .ok (.putfield 34, 3)) (kk : zJ l g RX1 cc nL rt nm R mc ms Q k n (pc + 3) ls st (h.set q0 (.inr (1, fs.set 1 (.int x))))) : zJ l g RX1 cc nL rt nm R mc ms Q k n pc ls (.int x :: .ref (g.2.1 + q0) :: st) h := z_put (C := RX1) (T := TX1) (N := 9) (ci := 1) zin_X1 tyX1 tyX1_ok nmX1 rfl 1 (by decide) (List.mem_filter.mpr ⟨List.mem_append_right _ (List.mem_of_getElem? (i := 29) (by decide +kernel)), rfl⟩) rfl rfl (ty := tyX1 1) (tyX1_ok 1 (by decide)) rfl rfl he hlf hd kk
theorem zf_X1_37 {q0 : Nat} {fs : List Value} {v : Value} (he : h[q0]? = some (.inr (1, fs))) (hv : fs[2]? = some v) (hd : decode cc pc = .ok (.getfield 37, 3)) (kk : zJ l g RX1 cc nL rt nm R mc ms Q k n (pc + 3) ls (v :: st) h) : zJ l g RX1 cc nL rt nm R mc ms Q k n pc ls (.ref (g.2.1 + q0) :: st) h := z_get (C := RX1) (T := TX1) (N := 9) (ci := 1) zin_X1 rfl 2 (by decide) (List.mem_filter.mpr ⟨List.mem_append_right _ (List.mem_of_getElem? (i := 31) (by decide +kernel)), rfl⟩) rfl he hv hd kk
theorem zp_X1_37 {q0 : Nat} {fs : List Value} {x : Int32} (he : h[q0]? = some (.inr (1, fs))) (hlf : 2 < fs.length) (hd : decode cc pc = .ok (.putfield 37, 3)) (kk : zJ l g RX1 cc nL rt nm R mc ms Q k n (pc + 3) ls st (h.set q0 (.inr (1, fs.set 2 (.int x))))) : zJ l g RX1 cc nL rt nm R mc ms Q k n pc ls (.int x :: .ref (g.2.1 + q0) :: st) h := z_put (C := RX1) (T := TX1) (N := 9) (ci := 1) zin_X1 tyX1 tyX1_ok nmX1 rfl 2 (by decide) (List.mem_filter.mpr ⟨List.mem_append_right _ (List.mem_of_getElem? (i := 31) (by decide +kernel)), rfl⟩) rfl rfl (ty := tyX1 2) (tyX1_ok 2 (by decide)) rfl rfl he hlf hd kk
theorem zf_X1_15 {q0 : Nat} {fs : List Value} {v : Value} (he : h[q0]? = some (.inr (1, fs))) (hv : fs[3]? = some v) (hd : decode cc pc = .ok (.getfield 15, 3)) (kk : zJ l g RX1 cc nL rt nm R mc ms Q k n (pc + 3) ls (v :: st) h) : zJ l g RX1 cc nL rt nm R mc ms Q k n pc ls (.ref (g.2.1 + q0) :: st) h := z_get (C := RX1) (T := TX1) (N := 9) (ci := 1) zin_X1 rfl 3 (by decide) (List.mem_filter.mpr ⟨List.mem_append_right _ (List.mem_of_getElem? (i := 34) (by decide +kernel)), rfl⟩) rfl he hv hd kk
theorem zp_X1_15 {q0 : Nat} {fs : List Value} {x : Nat} (hnm : nm = "<init>") (he : h[q0]? = some (.inr (1, fs))) (hlf : 3 < fs.length) (hd : decode cc pc = .ok (.putfield 15, 3)) (kk : zJ l g RX1 cc nL rt nm R mc ms Q k n (pc + 3) ls st (h.set q0 (.inr (1, fs.set 3 (.ref x))))) : zJ l g RX1 cc nL rt nm R mc ms Q k n pc ls (.ref x :: .ref (g.2.1 + q0) :: st) h := z_putF (C := RX1) (T := TX1) (N := 9) (ci := 1) zin_X1 tyX1 tyX1_ok nmX1 rfl 3 (by decide) (List.mem_filter.mpr ⟨List.mem_append_right _ (List.mem_of_getElem? (i := 34) (by decide +kernel)), rfl⟩) rfl rfl hnm rfl (ty := tyX1 3) (tyX1_ok 3 (by decide)) rfl rfl he hlf hd kk
theorem zf_X1_19 {q0 : Nat} {fs : List Value} {v : Value} (he : h[q0]? = some (.inr (1, fs))) (hv : fs[4]? = some v) (hd : decode cc pc = .ok (.getfield 19, 3)) (kk : zJ l g RX1 cc nL rt nm R mc ms Q k n (pc + 3) ls (v :: st) h) : zJ l g RX1 cc nL rt nm R mc ms Q k n pc ls (.ref (g.2.1 + q0) :: st) h := z_get (C := RX1) (T := TX1) (N := 9) (ci := 1) zin_X1 rfl 4 (by decide) (List.mem_filter.mpr ⟨List.mem_append_right _ (List.mem_of_getElem? (i := 39) (by decide +kernel)), rfl⟩) rfl he hv hd kk
theorem zp_X1_19 {q0 : Nat} {fs : List Value} {x : Nat} (hnm : nm = "<init>") (he : h[q0]? = some (.inr (1, fs))) (hlf : 4 < fs.length) (hd : decode cc pc = .ok (.putfield 19, 3)) (kk : zJ l g RX1 cc nL rt nm R mc ms Q k n (pc + 3) ls st (h.set q0 (.inr (1, fs.set 4 (.ref x))))) : zJ l g RX1 cc nL rt nm R mc ms Q k n pc ls (.ref x :: .ref (g.2.1 + q0) :: st) h := z_putF (C := RX1) (T := TX1) (N := 9) (ci := 1) zin_X1 tyX1 tyX1_ok nmX1 rfl 4 (by decide) (List.mem_filter.mpr ⟨List.mem_append_right _ (List.mem_of_getElem? (i := 39) (by decide +kernel)), rfl⟩) rfl rfl hnm rfl (ty := tyX1 4) (tyX1_ok 4 (by decide)) rfl rfl he hlf hd kk
theorem zf_X1_22 {q0 : Nat} {fs : List Value} {v : Value} (he : h[q0]? = some (.inr (1, fs))) (hv : fs[5]? = some v) (hd : decode cc pc = .ok (.getfield 22, 3)) (kk : zJ l g RX1 cc nL rt nm R mc ms Q k n (pc + 3) ls (v :: st) h) : zJ l g RX1 cc nL rt nm R mc ms Q k n pc ls (.ref (g.2.1 + q0) :: st) h := z_get (C := RX1) (T := TX1) (N := 9) (ci := 1) zin_X1 rfl 5 (by decide) (List.mem_filter.mpr ⟨List.mem_append_right _ (List.mem_of_getElem? (i := 43) (by decide +kernel)), rfl⟩) rfl he hv hd kk
theorem zp_X1_22 {q0 : Nat} {fs : List Value} {x : Nat} (hnm : nm = "<init>") (he : h[q0]? = some (.inr (1, fs))) (hlf : 5 < fs.length) (hd : decode cc pc = .ok (.putfield 22, 3)) (kk : zJ l g RX1 cc nL rt nm R mc ms Q k n (pc + 3) ls st (h.set q0 (.inr (1, fs.set 5 (.ref x))))) : zJ l g RX1 cc nL rt nm R mc ms Q k n pc ls (.ref x :: .ref (g.2.1 + q0) :: st) h := z_putF (C := RX1) (T := TX1) (N := 9) (ci := 1) zin_X1 tyX1 tyX1_ok nmX1 rfl 5 (by decide) (List.mem_filter.mpr ⟨List.mem_append_right _ (List.mem_of_getElem? (i := 43) (by decide +kernel)), rfl⟩) rfl rfl hnm rfl (ty := tyX1 5) (tyX1_ok 5 (by decide)) rfl rfl he hlf hd kk
theorem zf_X1_25 {q0 : Nat} {fs : List Value} {v : Value} (he : h[q0]? = some (.inr (1, fs))) (hv : fs[6]? = some v) (hd : decode cc pc = .ok (.getfield 25, 3)) (kk : zJ l g RX1 cc nL rt nm R mc ms Q k n (pc + 3) ls (v :: st) h) : zJ l g RX1 cc nL rt nm R mc ms Q k n pc ls (.ref (g.2.1 + q0) :: st) h := z_get (C := RX1) (T := TX1) (N := 9) (ci := 1) zin_X1 rfl 6 (by decide) (List.mem_filter.mpr ⟨List.mem_append_right _ (List.mem_of_getElem? (i := 47) (by decide +kernel)), rfl⟩) rfl he hv hd kk
theorem zp_X1_25 {q0 : Nat} {fs : List Value} {x : Nat} (hnm : nm = "<init>") (he : h[q0]? = some (.inr (1, fs))) (hlf : 6 < fs.length) (hd : decode cc pc = .ok (.putfield 25, 3)) (kk : zJ l g RX1 cc nL rt nm R mc ms Q k n (pc + 3) ls st (h.set q0 (.inr (1, fs.set 6 (.ref x))))) : zJ l g RX1 cc nL rt nm R mc ms Q k n pc ls (.ref x :: .ref (g.2.1 + q0) :: st) h := z_putF (C := RX1) (T := TX1) (N := 9) (ci := 1) zin_X1 tyX1 tyX1_ok nmX1 rfl 6 (by decide) (List.mem_filter.mpr ⟨List.mem_append_right _ (List.mem_of_getElem? (i := 47) (by decide +kernel)), rfl⟩) rfl rfl hnm rfl (ty := tyX1 6) (tyX1_ok 6 (by decide)) rfl rfl he hlf hd kk
theorem zf_X1_28 {q0 : Nat} {fs : List Value} {v : Value} (he : h[q0]? = some (.inr (1, fs))) (hv : fs[7]? = some v) (hd : decode cc pc = .ok (.getfield 28, 3)) (kk : zJ l g RX1 cc nL rt nm R mc ms Q k n (pc + 3) ls (v :: st) h) : zJ l g RX1 cc nL rt nm R mc ms Q k n pc ls (.ref (g.2.1 + q0) :: st) h := z_get (C := RX1) (T := TX1) (N := 9) (ci := 1) zin_X1 rfl 7 (by decide) (List.mem_filter.mpr ⟨List.mem_append_right _ (List.mem_of_getElem? (i := 51) (by decide +kernel)), rfl⟩) rfl he hv hd kk
theorem zp_X1_28 {q0 : Nat} {fs : List Value} {x : Nat} (hnm : nm = "<init>") (he : h[q0]? = some (.inr (1, fs))) (hlf : 7 < fs.length) (hd : decode cc pc = .ok (.putfield 28, 3)) (kk : zJ l g RX1 cc nL rt nm R mc ms Q k n (pc + 3) ls st (h.set q0 (.inr (1, fs.set 7 (.ref x))))) : zJ l g RX1 cc nL rt nm R mc ms Q k n pc ls (.ref x :: .ref (g.2.1 + q0) :: st) h := z_putF (C := RX1) (T := TX1) (N := 9) (ci := 1) zin_X1 tyX1 tyX1_ok nmX1 rfl 7 (by decide) (List.mem_filter.mpr ⟨List.mem_append_right _ (List.mem_of_getElem? (i := 51) (by decide +kernel)), rfl⟩) rfl rfl hnm rfl (ty := tyX1 7) (tyX1_ok 7 (by decide)) rfl rfl he hlf hd kk
theorem zf_X1_31 {q0 : Nat} {fs : List Value} {v : Value} (he : h[q0]? = some (.inr (1, fs))) (hv : fs[8]? = some v) (hd : decode cc pc = .ok (.getfield 31, 3)) (kk : zJ l g RX1 cc nL rt nm R mc ms Q k n (pc + 3) ls (v :: st) h) : zJ l g RX1 cc nL rt nm R mc ms Q k n pc ls (.ref (g.2.1 + q0) :: st) h := z_get (C := RX1) (T := TX1) (N := 9) (ci := 1) zin_X1 rfl 8 (by decide) (List.mem_filter.mpr ⟨List.mem_append_right _ (List.mem_of_getElem? (i := 52) (by decide +kernel)), rfl⟩) rfl he hv hd kk
theorem zp_X1_31 {q0 : Nat} {fs : List Value} {x : Nat} (hnm : nm = "<init>") (he : h[q0]? = some (.inr (1, fs))) (hlf : 8 < fs.length) (hd : decode cc pc = .ok (.putfield 31, 3)) (kk : zJ l g RX1 cc nL rt nm R mc ms Q k n (pc + 3) ls st (h.set q0 (.inr (1, fs.set 8 (.ref x))))) : zJ l g RX1 cc nL rt nm R mc ms Q k n pc ls (.ref x :: .ref (g.2.1 + q0) :: st) h := z_putF (C := RX1) (T := TX1) (N := 9) (ci := 1) zin_X1 tyX1 tyX1_ok nmX1 rfl 8 (by decide) (List.mem_filter.mpr ⟨List.mem_append_right _ (List.mem_of_getElem? (i := 52) (by decide +kernel)), rfl⟩) rfl rfl hnm rfl (ty := tyX1 8) (tyX1_ok 8 (by decide)) rfl rfl he hlf hd kk
theorem zf_X2_44 {q0 : Nat} {fs : List Value} {v : Value} (he : h[q0]? = some (.inr (2, fs))) (hv : fs[0]? = some v) (hd : decode cc pc = .ok (.getfield 44, 3)) (kk : zJ l g RX2 cc nL rt nm R mc ms Q k n (pc + 3) ls (v :: st) h) : zJ l g RX2 cc nL rt nm R mc ms Q k n pc ls (.ref (g.2.1 + q0) :: st) h := z_get (C := RX2) (T := TX2) (N := 9) (ci := 2) zin_X2 rfl 0 (by decide) (List.mem_filter.mpr ⟨List.mem_append_right _ (List.mem_of_getElem? (i := 80) (by decide +kernel)), rfl⟩) rfl he hv hd kk
theorem zp_X2_44 {q0 : Nat} {fs : List Value} {x : Int32} (he : h[q0]? = some (.inr (2, fs))) (hlf : 0 < fs.length) (hd : decode cc pc = .ok (.putfield 44, 3)) (kk : zJ l g RX2 cc nL rt nm R mc ms Q k n (pc + 3) ls st (h.set q0 (.inr (2, fs.set 0 (.int x))))) : zJ l g RX2 cc nL rt nm R mc ms Q k n pc ls (.int x :: .ref (g.2.1 + q0) :: st) h := z_put (C := RX2) (T := TX2) (N := 9) (ci := 2) zin_X2 tyX2 tyX2_ok nmX2 rfl 0 (by decide) (List.mem_filter.mpr ⟨List.mem_append_right _ (List.mem_of_getElem? (i := 80) (by decide +kernel)), rfl⟩) rfl rfl (ty := tyX2 0) (tyX2_ok 0 (by decide)) rfl rfl he hlf hd kk
theorem zf_X2_69 {q0 : Nat} {fs : List Value} {v : Value} (he : h[q0]? = some (.inr (2, fs))) (hv : fs[1]? = some v) (hd : decode cc pc = .ok (.getfield 69, 3)) (kk : zJ l g RX2 cc nL rt nm R mc ms Q k n (pc + 3) ls (v :: st) h) : zJ l g RX2 cc nL rt nm R mc ms Q k n pc ls (.ref (g.2.1 + q0) :: st) h := z_get (C := RX2) (T := TX2) (N := 9) (ci := 2) zin_X2 rfl 1 (by decide) (List.mem_filter.mpr ⟨List.mem_append_right _ (List.mem_of_getElem? (i := 81) (by decide +kernel)), rfl⟩) rfl he hv hd kk
theorem zp_X2_69 {q0 : Nat} {fs : List Value} {x : Int32} (he : h[q0]? = some (.inr (2, fs))) (hlf : 1 < fs.length) (hd : decode cc pc = .ok (.putfield 69, 3)) (kk : zJ l g RX2 cc nL rt nm R mc ms Q k n (pc + 3) ls st (h.set q0 (.inr (2, fs.set 1 (.int x))))) : zJ l g RX2 cc nL rt nm R mc ms Q k n pc ls (.int x :: .ref (g.2.1 + q0) :: st) h := z_put (C := RX2) (T := TX2) (N := 9) (ci := 2) zin_X2 tyX2 tyX2_ok nmX2 rfl 1 (by decide) (List.mem_filter.mpr ⟨List.mem_append_right _ (List.mem_of_getElem? (i := 81) (by decide +kernel)), rfl⟩) rfl rfl (ty := tyX2 1) (tyX2_ok 1 (by decide)) rfl rfl he hlf hd kk
theorem zf_X2_11 {q0 : Nat} {fs : List Value} {v : Value} (he : h[q0]? = some (.inr (2, fs))) (hv : fs[2]? = some v) (hd : decode cc pc = .ok (.getfield 11, 3)) (kk : zJ l g RX2 cc nL rt nm R mc ms Q k n (pc + 3) ls (v :: st) h) : zJ l g RX2 cc nL rt nm R mc ms Q k n pc ls (.ref (g.2.1 + q0) :: st) h := z_get (C := RX2) (T := TX2) (N := 9) (ci := 2) zin_X2 rfl 2 (by decide) (List.mem_filter.mpr ⟨List.mem_append_right _ (List.mem_of_getElem? (i := 82) (by decide +kernel)), rfl⟩) rfl he hv hd kk
theorem zp_X2_11 {q0 : Nat} {fs : List Value} {x : Nat} (hnm : nm = "<init>") (he : h[q0]? = some (.inr (2, fs))) (hlf : 2 < fs.length) (hd : decode cc pc = .ok (.putfield 11, 3)) (kk : zJ l g RX2 cc nL rt nm R mc ms Q k n (pc + 3) ls st (h.set q0 (.inr (2, fs.set 2 (.ref x))))) : zJ l g RX2 cc nL rt nm R mc ms Q k n pc ls (.ref x :: .ref (g.2.1 + q0) :: st) h := z_putF (C := RX2) (T := TX2) (N := 9) (ci := 2) zin_X2 tyX2 tyX2_ok nmX2 rfl 2 (by decide) (List.mem_filter.mpr ⟨List.mem_append_right _ (List.mem_of_getElem? (i := 82) (by decide +kernel)), rfl⟩) rfl rfl hnm rfl (ty := tyX2 2) (tyX2_ok 2 (by decide)) rfl rfl he hlf hd kk
theorem zf_X2_15 {q0 : Nat} {fs : List Value} {v : Value} (he : h[q0]? = some (.inr (2, fs))) (hv : fs[3]? = some v) (hd : decode cc pc = .ok (.getfield 15, 3)) (kk : zJ l g RX2 cc nL rt nm R mc ms Q k n (pc + 3) ls (v :: st) h) : zJ l g RX2 cc nL rt nm R mc ms Q k n pc ls (.ref (g.2.1 + q0) :: st) h := z_get (C := RX2) (T := TX2) (N := 9) (ci := 2) zin_X2 rfl 3 (by decide) (List.mem_filter.mpr ⟨List.mem_append_right _ (List.mem_of_getElem? (i := 83) (by decide +kernel)), rfl⟩) rfl he hv hd kk
theorem zp_X2_15 {q0 : Nat} {fs : List Value} {x : Nat} (hnm : nm = "<init>") (he : h[q0]? = some (.inr (2, fs))) (hlf : 3 < fs.length) (hd : decode cc pc = .ok (.putfield 15, 3)) (kk : zJ l g RX2 cc nL rt nm R mc ms Q k n (pc + 3) ls st (h.set q0 (.inr (2, fs.set 3 (.ref x))))) : zJ l g RX2 cc nL rt nm R mc ms Q k n pc ls (.ref x :: .ref (g.2.1 + q0) :: st) h := z_putF (C := RX2) (T := TX2) (N := 9) (ci := 2) zin_X2 tyX2 tyX2_ok nmX2 rfl 3 (by decide) (List.mem_filter.mpr ⟨List.mem_append_right _ (List.mem_of_getElem? (i := 83) (by decide +kernel)), rfl⟩) rfl rfl hnm rfl (ty := tyX2 3) (tyX2_ok 3 (by decide)) rfl rfl he hlf hd kk
theorem zf_X2_18 {q0 : Nat} {fs : List Value} {v : Value} (he : h[q0]? = some (.inr (2, fs))) (hv : fs[4]? = some v) (hd : decode cc pc = .ok (.getfield 18, 3)) (kk : zJ l g RX2 cc nL rt nm R mc ms Q k n (pc + 3) ls (v :: st) h) : zJ l g RX2 cc nL rt nm R mc ms Q k n pc ls (.ref (g.2.1 + q0) :: st) h := z_get (C := RX2) (T := TX2) (N := 9) (ci := 2) zin_X2 rfl 4 (by decide) (List.mem_filter.mpr ⟨List.mem_append_right _ (List.mem_of_getElem? (i := 84) (by decide +kernel)), rfl⟩) rfl he hv hd kk
theorem zp_X2_18 {q0 : Nat} {fs : List Value} {x : Nat} (hnm : nm = "<init>") (he : h[q0]? = some (.inr (2, fs))) (hlf : 4 < fs.length) (hd : decode cc pc = .ok (.putfield 18, 3)) (kk : zJ l g RX2 cc nL rt nm R mc ms Q k n (pc + 3) ls st (h.set q0 (.inr (2, fs.set 4 (.ref x))))) : zJ l g RX2 cc nL rt nm R mc ms Q k n pc ls (.ref x :: .ref (g.2.1 + q0) :: st) h := z_putF (C := RX2) (T := TX2) (N := 9) (ci := 2) zin_X2 tyX2 tyX2_ok nmX2 rfl 4 (by decide) (List.mem_filter.mpr ⟨List.mem_append_right _ (List.mem_of_getElem? (i := 84) (by decide +kernel)), rfl⟩) rfl rfl hnm rfl (ty := tyX2 4) (tyX2_ok 4 (by decide)) rfl rfl he hlf hd kk
theorem zf_X2_21 {q0 : Nat} {fs : List Value} {v : Value} (he : h[q0]? = some (.inr (2, fs))) (hv : fs[5]? = some v) (hd : decode cc pc = .ok (.getfield 21, 3)) (kk : zJ l g RX2 cc nL rt nm R mc ms Q k n (pc + 3) ls (v :: st) h) : zJ l g RX2 cc nL rt nm R mc ms Q k n pc ls (.ref (g.2.1 + q0) :: st) h := z_get (C := RX2) (T := TX2) (N := 9) (ci := 2) zin_X2 rfl 5 (by decide) (List.mem_filter.mpr ⟨List.mem_append_right _ (List.mem_of_getElem? (i := 85) (by decide +kernel)), rfl⟩) rfl he hv hd kk
theorem zp_X2_21 {q0 : Nat} {fs : List Value} {x : Nat} (hnm : nm = "<init>") (he : h[q0]? = some (.inr (2, fs))) (hlf : 5 < fs.length) (hd : decode cc pc = .ok (.putfield 21, 3)) (kk : zJ l g RX2 cc nL rt nm R mc ms Q k n (pc + 3) ls st (h.set q0 (.inr (2, fs.set 5 (.ref x))))) : zJ l g RX2 cc nL rt nm R mc ms Q k n pc ls (.ref x :: .ref (g.2.1 + q0) :: st) h := z_putF (C := RX2) (T := TX2) (N := 9) (ci := 2) zin_X2 tyX2 tyX2_ok nmX2 rfl 5 (by decide) (List.mem_filter.mpr ⟨List.mem_append_right _ (List.mem_of_getElem? (i := 85) (by decide +kernel)), rfl⟩) rfl rfl hnm rfl (ty := tyX2 5) (tyX2_ok 5 (by decide)) rfl rfl he hlf hd kk
theorem zf_X2_24 {q0 : Nat} {fs : List Value} {v : Value} (he : h[q0]? = some (.inr (2, fs))) (hv : fs[6]? = some v) (hd : decode cc pc = .ok (.getfield 24, 3)) (kk : zJ l g RX2 cc nL rt nm R mc ms Q k n (pc + 3) ls (v :: st) h) : zJ l g RX2 cc nL rt nm R mc ms Q k n pc ls (.ref (g.2.1 + q0) :: st) h := z_get (C := RX2) (T := TX2) (N := 9) (ci := 2) zin_X2 rfl 6 (by decide) (List.mem_filter.mpr ⟨List.mem_append_right _ (List.mem_of_getElem? (i := 86) (by decide +kernel)), rfl⟩) rfl he hv hd kk
theorem zp_X2_24 {q0 : Nat} {fs : List Value} {x : Nat} (hnm : nm = "<init>") (he : h[q0]? = some (.inr (2, fs))) (hlf : 6 < fs.length) (hd : decode cc pc = .ok (.putfield 24, 3)) (kk : zJ l g RX2 cc nL rt nm R mc ms Q k n (pc + 3) ls st (h.set q0 (.inr (2, fs.set 6 (.ref x))))) : zJ l g RX2 cc nL rt nm R mc ms Q k n pc ls (.ref x :: .ref (g.2.1 + q0) :: st) h := z_putF (C := RX2) (T := TX2) (N := 9) (ci := 2) zin_X2 tyX2 tyX2_ok nmX2 rfl 6 (by decide) (List.mem_filter.mpr ⟨List.mem_append_right _ (List.mem_of_getElem? (i := 86) (by decide +kernel)), rfl⟩) rfl rfl hnm rfl (ty := tyX2 6) (tyX2_ok 6 (by decide)) rfl rfl he hlf hd kk
theorem zf_X2_27 {q0 : Nat} {fs : List Value} {v : Value} (he : h[q0]? = some (.inr (2, fs))) (hv : fs[7]? = some v) (hd : decode cc pc = .ok (.getfield 27, 3)) (kk : zJ l g RX2 cc nL rt nm R mc ms Q k n (pc + 3) ls (v :: st) h) : zJ l g RX2 cc nL rt nm R mc ms Q k n pc ls (.ref (g.2.1 + q0) :: st) h := z_get (C := RX2) (T := TX2) (N := 9) (ci := 2) zin_X2 rfl 7 (by decide) (List.mem_filter.mpr ⟨List.mem_append_right _ (List.mem_of_getElem? (i := 87) (by decide +kernel)), rfl⟩) rfl he hv hd kk
theorem zp_X2_27 {q0 : Nat} {fs : List Value} {x : Nat} (hnm : nm = "<init>") (he : h[q0]? = some (.inr (2, fs))) (hlf : 7 < fs.length) (hd : decode cc pc = .ok (.putfield 27, 3)) (kk : zJ l g RX2 cc nL rt nm R mc ms Q k n (pc + 3) ls st (h.set q0 (.inr (2, fs.set 7 (.ref x))))) : zJ l g RX2 cc nL rt nm R mc ms Q k n pc ls (.ref x :: .ref (g.2.1 + q0) :: st) h := z_putF (C := RX2) (T := TX2) (N := 9) (ci := 2) zin_X2 tyX2 tyX2_ok nmX2 rfl 7 (by decide) (List.mem_filter.mpr ⟨List.mem_append_right _ (List.mem_of_getElem? (i := 87) (by decide +kernel)), rfl⟩) rfl rfl hnm rfl (ty := tyX2 7) (tyX2_ok 7 (by decide)) rfl rfl he hlf hd kk
theorem zf_X2_30 {q0 : Nat} {fs : List Value} {v : Value} (he : h[q0]? = some (.inr (2, fs))) (hv : fs[8]? = some v) (hd : decode cc pc = .ok (.getfield 30, 3)) (kk : zJ l g RX2 cc nL rt nm R mc ms Q k n (pc + 3) ls (v :: st) h) : zJ l g RX2 cc nL rt nm R mc ms Q k n pc ls (.ref (g.2.1 + q0) :: st) h := z_get (C := RX2) (T := TX2) (N := 9) (ci := 2) zin_X2 rfl 8 (by decide) (List.mem_filter.mpr ⟨List.mem_append_right _ (List.mem_of_getElem? (i := 88) (by decide +kernel)), rfl⟩) rfl he hv hd kk
theorem zp_X2_30 {q0 : Nat} {fs : List Value} {x : Nat} (hnm : nm = "<init>") (he : h[q0]? = some (.inr (2, fs))) (hlf : 8 < fs.length) (hd : decode cc pc = .ok (.putfield 30, 3)) (kk : zJ l g RX2 cc nL rt nm R mc ms Q k n (pc + 3) ls st (h.set q0 (.inr (2, fs.set 8 (.ref x))))) : zJ l g RX2 cc nL rt nm R mc ms Q k n pc ls (.ref x :: .ref (g.2.1 + q0) :: st) h := z_putF (C := RX2) (T := TX2) (N := 9) (ci := 2) zin_X2 tyX2 tyX2_ok nmX2 rfl 8 (by decide) (List.mem_filter.mpr ⟨List.mem_append_right _ (List.mem_of_getElem? (i := 88) (by decide +kernel)), rfl⟩) rfl rfl hnm rfl (ty := tyX2 8) (tyX2_ok 8 (by decide)) rfl rfl he hlf hd kk
theorem zf_X0_9 {q0 : Nat} {fs : List Value} {v : Value} (he : h[q0]? = some (.inr (0, fs))) (hv : fs[0]? = some v) (hd : decode cc pc = .ok (.getfield 9, 3)) (kk : zJ l g RX0 cc nL rt nm R mc ms Q k n (pc + 3) ls (v :: st) h) : zJ l g RX0 cc nL rt nm R mc ms Q k n pc ls (.ref (g.2.1 + q0) :: st) h := z_get (C := RX0) (T := TX0) (N := 1) (ci := 0) zin_X0 rfl 0 (by decide) (List.mem_filter.mpr ⟨List.mem_append_right _ (List.mem_of_getElem? (i := 115) (by decide +kernel)), rfl⟩) rfl he hv hd kk
theorem zp_X0_9 {q0 : Nat} {fs : List Value} {x : Nat} (hnm : nm = "<init>") (he : h[q0]? = some (.inr (0, fs))) (hlf : 0 < fs.length) (hd : decode cc pc = .ok (.putfield 9, 3)) (kk : zJ l g RX0 cc nL rt nm R mc ms Q k n (pc + 3) ls st (h.set q0 (.inr (0, fs.set 0 (.ref x))))) : zJ l g RX0 cc nL rt nm R mc ms Q k n pc ls (.ref x :: .ref (g.2.1 + q0) :: st) h := z_putF (C := RX0) (T := TX0) (N := 1) (ci := 0) zin_X0 tyX0 tyX0_ok nmX0 rfl 0 (by decide) (List.mem_filter.mpr ⟨List.mem_append_right _ (List.mem_of_getElem? (i := 115) (by decide +kernel)), rfl⟩) rfl rfl hnm rfl (ty := tyX0 0) (tyX0_ok 0 (by decide)) rfl rfl he hlf hd kk
theorem zf_X3_9 {q0 : Nat} {fs : List Value} {v : Value} (he : h[q0]? = some (.inr (3, fs))) (hv : fs[0]? = some v) (hd : decode cc pc = .ok (.getfield 9, 3)) (kk : zJ l g RX3 cc nL rt nm R mc ms Q k n (pc + 3) ls (v :: st) h) : zJ l g RX3 cc nL rt nm R mc ms Q k n pc ls (.ref (g.2.1 + q0) :: st) h := z_get (C := RX3) (T := TX3) (N := 3) (ci := 3) zin_X3 rfl 0 (by decide) (List.mem_filter.mpr ⟨List.mem_append_right _ (List.mem_of_getElem? (i := 125) (by decide +kernel)), rfl⟩) rfl he hv hd kk
theorem zp_X3_9 {q0 : Nat} {fs : List Value} {x : Nat} (hnm : nm = "<init>") (he : h[q0]? = some (.inr (3, fs))) (hlf : 0 < fs.length) (hd : decode cc pc = .ok (.putfield 9, 3)) (kk : zJ l g RX3 cc nL rt nm R mc ms Q k n (pc + 3) ls st (h.set q0 (.inr (3, fs.set 0 (.ref x))))) : zJ l g RX3 cc nL rt nm R mc ms Q k n pc ls (.ref x :: .ref (g.2.1 + q0) :: st) h := z_putF (C := RX3) (T := TX3) (N := 3) (ci := 3) zin_X3 tyX3 tyX3_ok nmX3 rfl 0 (by decide) (List.mem_filter.mpr ⟨List.mem_append_right _ (List.mem_of_getElem? (i := 125) (by decide +kernel)), rfl⟩) rfl rfl hnm rfl (ty := tyX3 0) (tyX3_ok 0 (by decide)) rfl rfl he hlf hd kk
theorem zf_X3_15 {q0 : Nat} {fs : List Value} {v : Value} (he : h[q0]? = some (.inr (3, fs))) (hv : fs[1]? = some v) (hd : decode cc pc = .ok (.getfield 15, 3)) (kk : zJ l g RX3 cc nL rt nm R mc ms Q k n (pc + 3) ls (v :: st) h) : zJ l g RX3 cc nL rt nm R mc ms Q k n pc ls (.ref (g.2.1 + q0) :: st) h := z_get (C := RX3) (T := TX3) (N := 3) (ci := 3) zin_X3 rfl 1 (by decide) (List.mem_filter.mpr ⟨List.mem_append_right _ (List.mem_of_getElem? (i := 126) (by decide +kernel)), rfl⟩) rfl he hv hd kk
theorem zp_X3_15 {q0 : Nat} {fs : List Value} {x : Nat} (hnm : nm = "<init>") (he : h[q0]? = some (.inr (3, fs))) (hlf : 1 < fs.length) (hd : decode cc pc = .ok (.putfield 15, 3)) (kk : zJ l g RX3 cc nL rt nm R mc ms Q k n (pc + 3) ls st (h.set q0 (.inr (3, fs.set 1 (.ref x))))) : zJ l g RX3 cc nL rt nm R mc ms Q k n pc ls (.ref x :: .ref (g.2.1 + q0) :: st) h := z_putF (C := RX3) (T := TX3) (N := 3) (ci := 3) zin_X3 tyX3 tyX3_ok nmX3 rfl 1 (by decide) (List.mem_filter.mpr ⟨List.mem_append_right _ (List.mem_of_getElem? (i := 126) (by decide +kernel)), rfl⟩) rfl rfl hnm rfl (ty := tyX3 1) (tyX3_ok 1 (by decide)) rfl rfl he hlf hd kk
theorem zf_X3_18 {q0 : Nat} {fs : List Value} {v : Value} (he : h[q0]? = some (.inr (3, fs))) (hv : fs[2]? = some v) (hd : decode cc pc = .ok (.getfield 18, 3)) (kk : zJ l g RX3 cc nL rt nm R mc ms Q k n (pc + 3) ls (v :: st) h) : zJ l g RX3 cc nL rt nm R mc ms Q k n pc ls (.ref (g.2.1 + q0) :: st) h := z_get (C := RX3) (T := TX3) (N := 3) (ci := 3) zin_X3 rfl 2 (by decide) (List.mem_filter.mpr ⟨List.mem_append_right _ (List.mem_of_getElem? (i := 127) (by decide +kernel)), rfl⟩) rfl he hv hd kk
theorem zp_X3_18 {q0 : Nat} {fs : List Value} {x : Nat} (hnm : nm = "<init>") (he : h[q0]? = some (.inr (3, fs))) (hlf : 2 < fs.length) (hd : decode cc pc = .ok (.putfield 18, 3)) (kk : zJ l g RX3 cc nL rt nm R mc ms Q k n (pc + 3) ls st (h.set q0 (.inr (3, fs.set 2 (.ref x))))) : zJ l g RX3 cc nL rt nm R mc ms Q k n pc ls (.ref x :: .ref (g.2.1 + q0) :: st) h := z_putF (C := RX3) (T := TX3) (N := 3) (ci := 3) zin_X3 tyX3 tyX3_ok nmX3 rfl 2 (by decide) (List.mem_filter.mpr ⟨List.mem_append_right _ (List.mem_of_getElem? (i := 127) (by decide +kernel)), rfl⟩) rfl rfl hnm rfl (ty := tyX3 2) (tyX3_ok 2 (by decide)) rfl rfl he hlf hd kk
theorem zf_X4_10 {q0 : Nat} {fs : List Value} {v : Value} (he : h[q0]? = some (.inr (4, fs))) (hv : fs[0]? = some v) (hd : decode cc pc = .ok (.getfield 10, 3)) (kk : zJ l g RX4 cc nL rt nm R mc ms Q k n (pc + 3) ls (v :: st) h) : zJ l g RX4 cc nL rt nm R mc ms Q k n pc ls (.ref (g.2.1 + q0) :: st) h := z_get (C := RX4) (T := TX4) (N := 5) (ci := 4) zin_X4 rfl 0 (by decide) (List.mem_filter.mpr ⟨List.mem_append_right _ (List.mem_of_getElem? (i := 135) (by decide +kernel)), rfl⟩) rfl he hv hd kk
theorem zp_X4_10 {q0 : Nat} {fs : List Value} {x : Nat} (hnm : nm = "<init>") (he : h[q0]? = some (.inr (4, fs))) (hlf : 0 < fs.length) (hd : decode cc pc = .ok (.putfield 10, 3)) (kk : zJ l g RX4 cc nL rt nm R mc ms Q k n (pc + 3) ls st (h.set q0 (.inr (4, fs.set 0 (.ref x))))) : zJ l g RX4 cc nL rt nm R mc ms Q k n pc ls (.ref x :: .ref (g.2.1 + q0) :: st) h := z_putF (C := RX4) (T := TX4) (N := 5) (ci := 4) zin_X4 tyX4 tyX4_ok nmX4 rfl 0 (by decide) (List.mem_filter.mpr ⟨List.mem_append_right _ (List.mem_of_getElem? (i := 135) (by decide +kernel)), rfl⟩) rfl rfl hnm rfl (ty := tyX4 0) (tyX4_ok 0 (by decide)) rfl rfl he hlf hd kk
theorem zf_X4_16 {q0 : Nat} {fs : List Value} {v : Value} (he : h[q0]? = some (.inr (4, fs))) (hv : fs[1]? = some v) (hd : decode cc pc = .ok (.getfield 16, 3)) (kk : zJ l g RX4 cc nL rt nm R mc ms Q k n (pc + 3) ls (v :: st) h) : zJ l g RX4 cc nL rt nm R mc ms Q k n pc ls (.ref (g.2.1 + q0) :: st) h := z_get (C := RX4) (T := TX4) (N := 5) (ci := 4) zin_X4 rfl 1 (by decide) (List.mem_filter.mpr ⟨List.mem_append_right _ (List.mem_of_getElem? (i := 136) (by decide +kernel)), rfl⟩) rfl he hv hd kk
theorem zp_X4_16 {q0 : Nat} {fs : List Value} {x : Nat} (hnm : nm = "<init>") (he : h[q0]? = some (.inr (4, fs))) (hlf : 1 < fs.length) (hd : decode cc pc = .ok (.putfield 16, 3)) (kk : zJ l g RX4 cc nL rt nm R mc ms Q k n (pc + 3) ls st (h.set q0 (.inr (4, fs.set 1 (.ref x))))) : zJ l g RX4 cc nL rt nm R mc ms Q k n pc ls (.ref x :: .ref (g.2.1 + q0) :: st) h := z_putF (C := RX4) (T := TX4) (N := 5) (ci := 4) zin_X4 tyX4 tyX4_ok nmX4 rfl 1 (by decide) (List.mem_filter.mpr ⟨List.mem_append_right _ (List.mem_of_getElem? (i := 136) (by decide +kernel)), rfl⟩) rfl rfl hnm rfl (ty := tyX4 1) (tyX4_ok 1 (by decide)) rfl rfl he hlf hd kk
theorem zf_X4_23 {q0 : Nat} {fs : List Value} {v : Value} (he : h[q0]? = some (.inr (4, fs))) (hv : fs[2]? = some v) (hd : decode cc pc = .ok (.getfield 23, 3)) (kk : zJ l g RX4 cc nL rt nm R mc ms Q k n (pc + 3) ls (v :: st) h) : zJ l g RX4 cc nL rt nm R mc ms Q k n pc ls (.ref (g.2.1 + q0) :: st) h := z_get (C := RX4) (T := TX4) (N := 5) (ci := 4) zin_X4 rfl 2 (by decide) (List.mem_filter.mpr ⟨List.mem_append_right _ (List.mem_of_getElem? (i := 137) (by decide +kernel)), rfl⟩) rfl he hv hd kk
theorem zp_X4_23 {q0 : Nat} {fs : List Value} {x : Nat} (hnm : nm = "<init>") (he : h[q0]? = some (.inr (4, fs))) (hlf : 2 < fs.length) (hd : decode cc pc = .ok (.putfield 23, 3)) (kk : zJ l g RX4 cc nL rt nm R mc ms Q k n (pc + 3) ls st (h.set q0 (.inr (4, fs.set 2 (.ref x))))) : zJ l g RX4 cc nL rt nm R mc ms Q k n pc ls (.ref x :: .ref (g.2.1 + q0) :: st) h := z_putF (C := RX4) (T := TX4) (N := 5) (ci := 4) zin_X4 tyX4 tyX4_ok nmX4 rfl 2 (by decide) (List.mem_filter.mpr ⟨List.mem_append_right _ (List.mem_of_getElem? (i := 137) (by decide +kernel)), rfl⟩) rfl rfl hnm rfl (ty := tyX4 2) (tyX4_ok 2 (by decide)) rfl rfl he hlf hd kk
theorem zf_X4_30 {q0 : Nat} {fs : List Value} {v : Value} (he : h[q0]? = some (.inr (4, fs))) (hv : fs[3]? = some v) (hd : decode cc pc = .ok (.getfield 30, 3)) (kk : zJ l g RX4 cc nL rt nm R mc ms Q k n (pc + 3) ls (v :: st) h) : zJ l g RX4 cc nL rt nm R mc ms Q k n pc ls (.ref (g.2.1 + q0) :: st) h := z_get (C := RX4) (T := TX4) (N := 5) (ci := 4) zin_X4 rfl 3 (by decide) (List.mem_filter.mpr ⟨List.mem_append_right _ (List.mem_of_getElem? (i := 138) (by decide +kernel)), rfl⟩) rfl he hv hd kk
theorem zp_X4_30 {q0 : Nat} {fs : List Value} {x : Nat} (hnm : nm = "<init>") (he : h[q0]? = some (.inr (4, fs))) (hlf : 3 < fs.length) (hd : decode cc pc = .ok (.putfield 30, 3)) (kk : zJ l g RX4 cc nL rt nm R mc ms Q k n (pc + 3) ls st (h.set q0 (.inr (4, fs.set 3 (.ref x))))) : zJ l g RX4 cc nL rt nm R mc ms Q k n pc ls (.ref x :: .ref (g.2.1 + q0) :: st) h := z_putF (C := RX4) (T := TX4) (N := 5) (ci := 4) zin_X4 tyX4 tyX4_ok nmX4 rfl 3 (by decide) (List.mem_filter.mpr ⟨List.mem_append_right _ (List.mem_of_getElem? (i := 138) (by decide +kernel)), rfl⟩) rfl rfl hnm rfl (ty := tyX4 3) (tyX4_ok 3 (by decide)) rfl rfl he hlf hd kk
theorem zf_X4_37 {q0 : Nat} {fs : List Value} {v : Value} (he : h[q0]? = some (.inr (4, fs))) (hv : fs[4]? = some v) (hd : decode cc pc = .ok (.getfield 37, 3)) (kk : zJ l g RX4 cc nL rt nm R mc ms Q k n (pc + 3) ls (v :: st) h) : zJ l g RX4 cc nL rt nm R mc ms Q k n pc ls (.ref (g.2.1 + q0) :: st) h := z_get (C := RX4) (T := TX4) (N := 5) (ci := 4) zin_X4 rfl 4 (by decide) (List.mem_filter.mpr ⟨List.mem_append_right _ (List.mem_of_getElem? (i := 139) (by decide +kernel)), rfl⟩) rfl he hv hd kk
theorem zp_X4_37 {q0 : Nat} {fs : List Value} {x : Nat} (hnm : nm = "<init>") (he : h[q0]? = some (.inr (4, fs))) (hlf : 4 < fs.length) (hd : decode cc pc = .ok (.putfield 37, 3)) (kk : zJ l g RX4 cc nL rt nm R mc ms Q k n (pc + 3) ls st (h.set q0 (.inr (4, fs.set 4 (.ref x))))) : zJ l g RX4 cc nL rt nm R mc ms Q k n pc ls (.ref x :: .ref (g.2.1 + q0) :: st) h := z_putF (C := RX4) (T := TX4) (N := 5) (ci := 4) zin_X4 tyX4 tyX4_ok nmX4 rfl 4 (by decide) (List.mem_filter.mpr ⟨List.mem_append_right _ (List.mem_of_getElem? (i := 139) (by decide +kernel)), rfl⟩) rfl rfl hnm rfl (ty := tyX4 4) (tyX4_ok 4 (by decide)) rfl rfl he hlf hd kk
theorem zf_X5_72 {q0 : Nat} {fs : List Value} {v : Value} (he : h[q0]? = some (.inr (5, fs))) (hv : fs[0]? = some v) (hd : decode cc pc = .ok (.getfield 72, 3)) (kk : zJ l g RX5 cc nL rt nm R mc ms Q k n (pc + 3) ls (v :: st) h) : zJ l g RX5 cc nL rt nm R mc ms Q k n pc ls (.ref (g.2.1 + q0) :: st) h := z_get (C := RX5) (T := TX5) (N := 21) (ci := 5) zin_X5 rfl 0 (by decide) (List.mem_filter.mpr ⟨List.mem_append_right _ (List.mem_of_getElem? (i := 488) (by decide +kernel)), rfl⟩) rfl he hv hd kk
theorem zp_X5_72 {q0 : Nat} {fs : List Value} {x : Int32} (he : h[q0]? = some (.inr (5, fs))) (hlf : 0 < fs.length) (hd : decode cc pc = .ok (.putfield 72, 3)) (kk : zJ l g RX5 cc nL rt nm R mc ms Q k n (pc + 3) ls st (h.set q0 (.inr (5, fs.set 0 (.int x))))) : zJ l g RX5 cc nL rt nm R mc ms Q k n pc ls (.int x :: .ref (g.2.1 + q0) :: st) h := z_put (C := RX5) (T := TX5) (N := 21) (ci := 5) zin_X5 tyX5 tyX5_ok nmX5 rfl 0 (by decide) (List.mem_filter.mpr ⟨List.mem_append_right _ (List.mem_of_getElem? (i := 488) (by decide +kernel)), rfl⟩) rfl rfl (ty := tyX5 0) (tyX5_ok 0 (by decide)) rfl rfl he hlf hd kk
theorem zf_X5_7 {q0 : Nat} {fs : List Value} {v : Value} (he : h[q0]? = some (.inr (5, fs))) (hv : fs[1]? = some v) (hd : decode cc pc = .ok (.getfield 7, 3)) (kk : zJ l g RX5 cc nL rt nm R mc ms Q k n (pc + 3) ls (v :: st) h) : zJ l g RX5 cc nL rt nm R mc ms Q k n pc ls (.ref (g.2.1 + q0) :: st) h := z_get (C := RX5) (T := TX5) (N := 21) (ci := 5) zin_X5 rfl 1 (by decide) (List.mem_filter.mpr ⟨List.mem_append_right _ (List.mem_of_getElem? (i := 489) (by decide +kernel)), rfl⟩) rfl he hv hd kk
theorem zp_X5_7 {q0 : Nat} {fs : List Value} {x : Nat} (hnm : nm = "<init>") (he : h[q0]? = some (.inr (5, fs))) (hlf : 1 < fs.length) (hd : decode cc pc = .ok (.putfield 7, 3)) (kk : zJ l g RX5 cc nL rt nm R mc ms Q k n (pc + 3) ls st (h.set q0 (.inr (5, fs.set 1 (.ref x))))) : zJ l g RX5 cc nL rt nm R mc ms Q k n pc ls (.ref x :: .ref (g.2.1 + q0) :: st) h := z_putF (C := RX5) (T := TX5) (N := 21) (ci := 5) zin_X5 tyX5 tyX5_ok nmX5 rfl 1 (by decide) (List.mem_filter.mpr ⟨List.mem_append_right _ (List.mem_of_getElem? (i := 489) (by decide +kernel)), rfl⟩) rfl rfl hnm rfl (ty := tyX5 1) (tyX5_ok 1 (by decide)) rfl rfl he hlf hd kk
theorem zf_X5_13 {q0 : Nat} {fs : List Value} {v : Value} (he : h[q0]? = some (.inr (5, fs))) (hv : fs[2]? = some v) (hd : decode cc pc = .ok (.getfield 13, 3)) (kk : zJ l g RX5 cc nL rt nm R mc ms Q k n (pc + 3) ls (v :: st) h) : zJ l g RX5 cc nL rt nm R mc ms Q k n pc ls (.ref (g.2.1 + q0) :: st) h := z_get (C := RX5) (T := TX5) (N := 21) (ci := 5) zin_X5 rfl 2 (by decide) (List.mem_filter.mpr ⟨List.mem_append_right _ (List.mem_of_getElem? (i := 490) (by decide +kernel)), rfl⟩) rfl he hv hd kk
theorem zp_X5_13 {q0 : Nat} {fs : List Value} {x : Nat} (hnm : nm = "<init>") (he : h[q0]? = some (.inr (5, fs))) (hlf : 2 < fs.length) (hd : decode cc pc = .ok (.putfield 13, 3)) (kk : zJ l g RX5 cc nL rt nm R mc ms Q k n (pc + 3) ls st (h.set q0 (.inr (5, fs.set 2 (.ref x))))) : zJ l g RX5 cc nL rt nm R mc ms Q k n pc ls (.ref x :: .ref (g.2.1 + q0) :: st) h := z_putF (C := RX5) (T := TX5) (N := 21) (ci := 5) zin_X5 tyX5 tyX5_ok nmX5 rfl 2 (by decide) (List.mem_filter.mpr ⟨List.mem_append_right _ (List.mem_of_getElem? (i := 490) (by decide +kernel)), rfl⟩) rfl rfl hnm rfl (ty := tyX5 2) (tyX5_ok 2 (by decide)) rfl rfl he hlf hd kk
theorem zf_X5_16 {q0 : Nat} {fs : List Value} {v : Value} (he : h[q0]? = some (.inr (5, fs))) (hv : fs[3]? = some v) (hd : decode cc pc = .ok (.getfield 16, 3)) (kk : zJ l g RX5 cc nL rt nm R mc ms Q k n (pc + 3) ls (v :: st) h) : zJ l g RX5 cc nL rt nm R mc ms Q k n pc ls (.ref (g.2.1 + q0) :: st) h := z_get (C := RX5) (T := TX5) (N := 21) (ci := 5) zin_X5 rfl 3 (by decide) (List.mem_filter.mpr ⟨List.mem_append_right _ (List.mem_of_getElem? (i := 491) (by decide +kernel)), rfl⟩) rfl he hv hd kk
theorem zp_X5_16 {q0 : Nat} {fs : List Value} {x : Nat} (hnm : nm = "<init>") (he : h[q0]? = some (.inr (5, fs))) (hlf : 3 < fs.length) (hd : decode cc pc = .ok (.putfield 16, 3)) (kk : zJ l g RX5 cc nL rt nm R mc ms Q k n (pc + 3) ls st (h.set q0 (.inr (5, fs.set 3 (.ref x))))) : zJ l g RX5 cc nL rt nm R mc ms Q k n pc ls (.ref x :: .ref (g.2.1 + q0) :: st) h := z_putF (C := RX5) (T := TX5) (N := 21) (ci := 5) zin_X5 tyX5 tyX5_ok nmX5 rfl 3 (by decide) (List.mem_filter.mpr ⟨List.mem_append_right _ (List.mem_of_getElem? (i := 491) (by decide +kernel)), rfl⟩) rfl rfl hnm rfl (ty := tyX5 3) (tyX5_ok 3 (by decide)) rfl rfl he hlf hd kk
theorem zf_X5_19 {q0 : Nat} {fs : List Value} {v : Value} (he : h[q0]? = some (.inr (5, fs))) (hv : fs[4]? = some v) (hd : decode cc pc = .ok (.getfield 19, 3)) (kk : zJ l g RX5 cc nL rt nm R mc ms Q k n (pc + 3) ls (v :: st) h) : zJ l g RX5 cc nL rt nm R mc ms Q k n pc ls (.ref (g.2.1 + q0) :: st) h := z_get (C := RX5) (T := TX5) (N := 21) (ci := 5) zin_X5 rfl 4 (by decide) (List.mem_filter.mpr ⟨List.mem_append_right _ (List.mem_of_getElem? (i := 492) (by decide +kernel)), rfl⟩) rfl he hv hd kk
theorem zp_X5_19 {q0 : Nat} {fs : List Value} {x : Nat} (hnm : nm = "<init>") (he : h[q0]? = some (.inr (5, fs))) (hlf : 4 < fs.length) (hd : decode cc pc = .ok (.putfield 19, 3)) (kk : zJ l g RX5 cc nL rt nm R mc ms Q k n (pc + 3) ls st (h.set q0 (.inr (5, fs.set 4 (.ref x))))) : zJ l g RX5 cc nL rt nm R mc ms Q k n pc ls (.ref x :: .ref (g.2.1 + q0) :: st) h := z_putF (C := RX5) (T := TX5) (N := 21) (ci := 5) zin_X5 tyX5 tyX5_ok nmX5 rfl 4 (by decide) (List.mem_filter.mpr ⟨List.mem_append_right _ (List.mem_of_getElem? (i := 492) (by decide +kernel)), rfl⟩) rfl rfl hnm rfl (ty := tyX5 4) (tyX5_ok 4 (by decide)) rfl rfl he hlf hd kk
theorem zf_X5_22 {q0 : Nat} {fs : List Value} {v : Value} (he : h[q0]? = some (.inr (5, fs))) (hv : fs[5]? = some v) (hd : decode cc pc = .ok (.getfield 22, 3)) (kk : zJ l g RX5 cc nL rt nm R mc ms Q k n (pc + 3) ls (v :: st) h) : zJ l g RX5 cc nL rt nm R mc ms Q k n pc ls (.ref (g.2.1 + q0) :: st) h := z_get (C := RX5) (T := TX5) (N := 21) (ci := 5) zin_X5 rfl 5 (by decide) (List.mem_filter.mpr ⟨List.mem_append_right _ (List.mem_of_getElem? (i := 493) (by decide +kernel)), rfl⟩) rfl he hv hd kk
theorem zp_X5_22 {q0 : Nat} {fs : List Value} {x : Nat} (hnm : nm = "<init>") (he : h[q0]? = some (.inr (5, fs))) (hlf : 5 < fs.length) (hd : decode cc pc = .ok (.putfield 22, 3)) (kk : zJ l g RX5 cc nL rt nm R mc ms Q k n (pc + 3) ls st (h.set q0 (.inr (5, fs.set 5 (.ref x))))) : zJ l g RX5 cc nL rt nm R mc ms Q k n pc ls (.ref x :: .ref (g.2.1 + q0) :: st) h := z_putF (C := RX5) (T := TX5) (N := 21) (ci := 5) zin_X5 tyX5 tyX5_ok nmX5 rfl 5 (by decide) (List.mem_filter.mpr ⟨List.mem_append_right _ (List.mem_of_getElem? (i := 493) (by decide +kernel)), rfl⟩) rfl rfl hnm rfl (ty := tyX5 5) (tyX5_ok 5 (by decide)) rfl rfl he hlf hd kk
theorem zf_X5_25 {q0 : Nat} {fs : List Value} {v : Value} (he : h[q0]? = some (.inr (5, fs))) (hv : fs[6]? = some v) (hd : decode cc pc = .ok (.getfield 25, 3)) (kk : zJ l g RX5 cc nL rt nm R mc ms Q k n (pc + 3) ls (v :: st) h) : zJ l g RX5 cc nL rt nm R mc ms Q k n pc ls (.ref (g.2.1 + q0) :: st) h := z_get (C := RX5) (T := TX5) (N := 21) (ci := 5) zin_X5 rfl 6 (by decide) (List.mem_filter.mpr ⟨List.mem_append_right _ (List.mem_of_getElem? (i := 494) (by decide +kernel)), rfl⟩) rfl he hv hd kk
theorem zp_X5_25 {q0 : Nat} {fs : List Value} {x : Nat} (hnm : nm = "<init>") (he : h[q0]? = some (.inr (5, fs))) (hlf : 6 < fs.length) (hd : decode cc pc = .ok (.putfield 25, 3)) (kk : zJ l g RX5 cc nL rt nm R mc ms Q k n (pc + 3) ls st (h.set q0 (.inr (5, fs.set 6 (.ref x))))) : zJ l g RX5 cc nL rt nm R mc ms Q k n pc ls (.ref x :: .ref (g.2.1 + q0) :: st) h := z_putF (C := RX5) (T := TX5) (N := 21) (ci := 5) zin_X5 tyX5 tyX5_ok nmX5 rfl 6 (by decide) (List.mem_filter.mpr ⟨List.mem_append_right _ (List.mem_of_getElem? (i := 494) (by decide +kernel)), rfl⟩) rfl rfl hnm rfl (ty := tyX5 6) (tyX5_ok 6 (by decide)) rfl rfl he hlf hd kk
theorem zf_X5_28 {q0 : Nat} {fs : List Value} {v : Value} (he : h[q0]? = some (.inr (5, fs))) (hv : fs[7]? = some v) (hd : decode cc pc = .ok (.getfield 28, 3)) (kk : zJ l g RX5 cc nL rt nm R mc ms Q k n (pc + 3) ls (v :: st) h) : zJ l g RX5 cc nL rt nm R mc ms Q k n pc ls (.ref (g.2.1 + q0) :: st) h := z_get (C := RX5) (T := TX5) (N := 21) (ci := 5) zin_X5 rfl 7 (by decide) (List.mem_filter.mpr ⟨List.mem_append_right _ (List.mem_of_getElem? (i := 495) (by decide +kernel)), rfl⟩) rfl he hv hd kk
theorem zp_X5_28 {q0 : Nat} {fs : List Value} {x : Nat} (hnm : nm = "<init>") (he : h[q0]? = some (.inr (5, fs))) (hlf : 7 < fs.length) (hd : decode cc pc = .ok (.putfield 28, 3)) (kk : zJ l g RX5 cc nL rt nm R mc ms Q k n (pc + 3) ls st (h.set q0 (.inr (5, fs.set 7 (.ref x))))) : zJ l g RX5 cc nL rt nm R mc ms Q k n pc ls (.ref x :: .ref (g.2.1 + q0) :: st) h := z_putF (C := RX5) (T := TX5) (N := 21) (ci := 5) zin_X5 tyX5 tyX5_ok nmX5 rfl 7 (by decide) (List.mem_filter.mpr ⟨List.mem_append_right _ (List.mem_of_getElem? (i := 495) (by decide +kernel)), rfl⟩) rfl rfl hnm rfl (ty := tyX5 7) (tyX5_ok 7 (by decide)) rfl rfl he hlf hd kk
theorem zf_X5_31 {q0 : Nat} {fs : List Value} {v : Value} (he : h[q0]? = some (.inr (5, fs))) (hv : fs[8]? = some v) (hd : decode cc pc = .ok (.getfield 31, 3)) (kk : zJ l g RX5 cc nL rt nm R mc ms Q k n (pc + 3) ls (v :: st) h) : zJ l g RX5 cc nL rt nm R mc ms Q k n pc ls (.ref (g.2.1 + q0) :: st) h := z_get (C := RX5) (T := TX5) (N := 21) (ci := 5) zin_X5 rfl 8 (by decide) (List.mem_filter.mpr ⟨List.mem_append_right _ (List.mem_of_getElem? (i := 496) (by decide +kernel)), rfl⟩) rfl he hv hd kk
theorem zp_X5_31 {q0 : Nat} {fs : List Value} {x : Nat} (hnm : nm = "<init>") (he : h[q0]? = some (.inr (5, fs))) (hlf : 8 < fs.length) (hd : decode cc pc = .ok (.putfield 31, 3)) (kk : zJ l g RX5 cc nL rt nm R mc ms Q k n (pc + 3) ls st (h.set q0 (.inr (5, fs.set 8 (.ref x))))) : zJ l g RX5 cc nL rt nm R mc ms Q k n pc ls (.ref x :: .ref (g.2.1 + q0) :: st) h := z_putF (C := RX5) (T := TX5) (N := 21) (ci := 5) zin_X5 tyX5 tyX5_ok nmX5 rfl 8 (by decide) (List.mem_filter.mpr ⟨List.mem_append_right _ (List.mem_of_getElem? (i := 496) (by decide +kernel)), rfl⟩) rfl rfl hnm rfl (ty := tyX5 8) (tyX5_ok 8 (by decide)) rfl rfl he hlf hd kk
theorem zf_X5_34 {q0 : Nat} {fs : List Value} {v : Value} (he : h[q0]? = some (.inr (5, fs))) (hv : fs[9]? = some v) (hd : decode cc pc = .ok (.getfield 34, 3)) (kk : zJ l g RX5 cc nL rt nm R mc ms Q k n (pc + 3) ls (v :: st) h) : zJ l g RX5 cc nL rt nm R mc ms Q k n pc ls (.ref (g.2.1 + q0) :: st) h := z_get (C := RX5) (T := TX5) (N := 21) (ci := 5) zin_X5 rfl 9 (by decide) (List.mem_filter.mpr ⟨List.mem_append_right _ (List.mem_of_getElem? (i := 497) (by decide +kernel)), rfl⟩) rfl he hv hd kk
theorem zp_X5_34 {q0 : Nat} {fs : List Value} {x : Nat} (hnm : nm = "<init>") (he : h[q0]? = some (.inr (5, fs))) (hlf : 9 < fs.length) (hd : decode cc pc = .ok (.putfield 34, 3)) (kk : zJ l g RX5 cc nL rt nm R mc ms Q k n (pc + 3) ls st (h.set q0 (.inr (5, fs.set 9 (.ref x))))) : zJ l g RX5 cc nL rt nm R mc ms Q k n pc ls (.ref x :: .ref (g.2.1 + q0) :: st) h := z_putF (C := RX5) (T := TX5) (N := 21) (ci := 5) zin_X5 tyX5 tyX5_ok nmX5 rfl 9 (by decide) (List.mem_filter.mpr ⟨List.mem_append_right _ (List.mem_of_getElem? (i := 497) (by decide +kernel)), rfl⟩) rfl rfl hnm rfl (ty := tyX5 9) (tyX5_ok 9 (by decide)) rfl rfl he hlf hd kk
theorem zf_X5_37 {q0 : Nat} {fs : List Value} {v : Value} (he : h[q0]? = some (.inr (5, fs))) (hv : fs[10]? = some v) (hd : decode cc pc = .ok (.getfield 37, 3)) (kk : zJ l g RX5 cc nL rt nm R mc ms Q k n (pc + 3) ls (v :: st) h) : zJ l g RX5 cc nL rt nm R mc ms Q k n pc ls (.ref (g.2.1 + q0) :: st) h := z_get (C := RX5) (T := TX5) (N := 21) (ci := 5) zin_X5 rfl 10 (by decide) (List.mem_filter.mpr ⟨List.mem_append_right _ (List.mem_of_getElem? (i := 498) (by decide +kernel)), rfl⟩) rfl he hv hd kk
theorem zp_X5_37 {q0 : Nat} {fs : List Value} {x : Nat} (hnm : nm = "<init>") (he : h[q0]? = some (.inr (5, fs))) (hlf : 10 < fs.length) (hd : decode cc pc = .ok (.putfield 37, 3)) (kk : zJ l g RX5 cc nL rt nm R mc ms Q k n (pc + 3) ls st (h.set q0 (.inr (5, fs.set 10 (.ref x))))) : zJ l g RX5 cc nL rt nm R mc ms Q k n pc ls (.ref x :: .ref (g.2.1 + q0) :: st) h := z_putF (C := RX5) (T := TX5) (N := 21) (ci := 5) zin_X5 tyX5 tyX5_ok nmX5 rfl 10 (by decide) (List.mem_filter.mpr ⟨List.mem_append_right _ (List.mem_of_getElem? (i := 498) (by decide +kernel)), rfl⟩) rfl rfl hnm rfl (ty := tyX5 10) (tyX5_ok 10 (by decide)) rfl rfl he hlf hd kk
theorem zf_X5_40 {q0 : Nat} {fs : List Value} {v : Value} (he : h[q0]? = some (.inr (5, fs))) (hv : fs[11]? = some v) (hd : decode cc pc = .ok (.getfield 40, 3)) (kk : zJ l g RX5 cc nL rt nm R mc ms Q k n (pc + 3) ls (v :: st) h) : zJ l g RX5 cc nL rt nm R mc ms Q k n pc ls (.ref (g.2.1 + q0) :: st) h := z_get (C := RX5) (T := TX5) (N := 21) (ci := 5) zin_X5 rfl 11 (by decide) (List.mem_filter.mpr ⟨List.mem_append_right _ (List.mem_of_getElem? (i := 499) (by decide +kernel)), rfl⟩) rfl he hv hd kk
theorem zp_X5_40 {q0 : Nat} {fs : List Value} {x : Nat} (hnm : nm = "<init>") (he : h[q0]? = some (.inr (5, fs))) (hlf : 11 < fs.length) (hd : decode cc pc = .ok (.putfield 40, 3)) (kk : zJ l g RX5 cc nL rt nm R mc ms Q k n (pc + 3) ls st (h.set q0 (.inr (5, fs.set 11 (.ref x))))) : zJ l g RX5 cc nL rt nm R mc ms Q k n pc ls (.ref x :: .ref (g.2.1 + q0) :: st) h := z_putF (C := RX5) (T := TX5) (N := 21) (ci := 5) zin_X5 tyX5 tyX5_ok nmX5 rfl 11 (by decide) (List.mem_filter.mpr ⟨List.mem_append_right _ (List.mem_of_getElem? (i := 499) (by decide +kernel)), rfl⟩) rfl rfl hnm rfl (ty := tyX5 11) (tyX5_ok 11 (by decide)) rfl rfl he hlf hd kk
theorem zf_X5_43 {q0 : Nat} {fs : List Value} {v : Value} (he : h[q0]? = some (.inr (5, fs))) (hv : fs[12]? = some v) (hd : decode cc pc = .ok (.getfield 43, 3)) (kk : zJ l g RX5 cc nL rt nm R mc ms Q k n (pc + 3) ls (v :: st) h) : zJ l g RX5 cc nL rt nm R mc ms Q k n pc ls (.ref (g.2.1 + q0) :: st) h := z_get (C := RX5) (T := TX5) (N := 21) (ci := 5) zin_X5 rfl 12 (by decide) (List.mem_filter.mpr ⟨List.mem_append_right _ (List.mem_of_getElem? (i := 500) (by decide +kernel)), rfl⟩) rfl he hv hd kk
theorem zp_X5_43 {q0 : Nat} {fs : List Value} {x : Nat} (hnm : nm = "<init>") (he : h[q0]? = some (.inr (5, fs))) (hlf : 12 < fs.length) (hd : decode cc pc = .ok (.putfield 43, 3)) (kk : zJ l g RX5 cc nL rt nm R mc ms Q k n (pc + 3) ls st (h.set q0 (.inr (5, fs.set 12 (.ref x))))) : zJ l g RX5 cc nL rt nm R mc ms Q k n pc ls (.ref x :: .ref (g.2.1 + q0) :: st) h := z_putF (C := RX5) (T := TX5) (N := 21) (ci := 5) zin_X5 tyX5 tyX5_ok nmX5 rfl 12 (by decide) (List.mem_filter.mpr ⟨List.mem_append_right _ (List.mem_of_getElem? (i := 500) (by decide +kernel)), rfl⟩) rfl rfl hnm rfl (ty := tyX5 12) (tyX5_ok 12 (by decide)) rfl rfl he hlf hd kk
theorem zf_X5_46 {q0 : Nat} {fs : List Value} {v : Value} (he : h[q0]? = some (.inr (5, fs))) (hv : fs[13]? = some v) (hd : decode cc pc = .ok (.getfield 46, 3)) (kk : zJ l g RX5 cc nL rt nm R mc ms Q k n (pc + 3) ls (v :: st) h) : zJ l g RX5 cc nL rt nm R mc ms Q k n pc ls (.ref (g.2.1 + q0) :: st) h := z_get (C := RX5) (T := TX5) (N := 21) (ci := 5) zin_X5 rfl 13 (by decide) (List.mem_filter.mpr ⟨List.mem_append_right _ (List.mem_of_getElem? (i := 501) (by decide +kernel)), rfl⟩) rfl he hv hd kk
theorem zp_X5_46 {q0 : Nat} {fs : List Value} {x : Nat} (hnm : nm = "<init>") (he : h[q0]? = some (.inr (5, fs))) (hlf : 13 < fs.length) (hd : decode cc pc = .ok (.putfield 46, 3)) (kk : zJ l g RX5 cc nL rt nm R mc ms Q k n (pc + 3) ls st (h.set q0 (.inr (5, fs.set 13 (.ref x))))) : zJ l g RX5 cc nL rt nm R mc ms Q k n pc ls (.ref x :: .ref (g.2.1 + q0) :: st) h := z_putF (C := RX5) (T := TX5) (N := 21) (ci := 5) zin_X5 tyX5 tyX5_ok nmX5 rfl 13 (by decide) (List.mem_filter.mpr ⟨List.mem_append_right _ (List.mem_of_getElem? (i := 501) (by decide +kernel)), rfl⟩) rfl rfl hnm rfl (ty := tyX5 13) (tyX5_ok 13 (by decide)) rfl rfl he hlf hd kk
theorem zf_X5_49 {q0 : Nat} {fs : List Value} {v : Value} (he : h[q0]? = some (.inr (5, fs))) (hv : fs[14]? = some v) (hd : decode cc pc = .ok (.getfield 49, 3)) (kk : zJ l g RX5 cc nL rt nm R mc ms Q k n (pc + 3) ls (v :: st) h) : zJ l g RX5 cc nL rt nm R mc ms Q k n pc ls (.ref (g.2.1 + q0) :: st) h := z_get (C := RX5) (T := TX5) (N := 21) (ci := 5) zin_X5 rfl 14 (by decide) (List.mem_filter.mpr ⟨List.mem_append_right _ (List.mem_of_getElem? (i := 502) (by decide +kernel)), rfl⟩) rfl he hv hd kk
theorem zp_X5_49 {q0 : Nat} {fs : List Value} {x : Nat} (hnm : nm = "<init>") (he : h[q0]? = some (.inr (5, fs))) (hlf : 14 < fs.length) (hd : decode cc pc = .ok (.putfield 49, 3)) (kk : zJ l g RX5 cc nL rt nm R mc ms Q k n (pc + 3) ls st (h.set q0 (.inr (5, fs.set 14 (.ref x))))) : zJ l g RX5 cc nL rt nm R mc ms Q k n pc ls (.ref x :: .ref (g.2.1 + q0) :: st) h := z_putF (C := RX5) (T := TX5) (N := 21) (ci := 5) zin_X5 tyX5 tyX5_ok nmX5 rfl 14 (by decide) (List.mem_filter.mpr ⟨List.mem_append_right _ (List.mem_of_getElem? (i := 502) (by decide +kernel)), rfl⟩) rfl rfl hnm rfl (ty := tyX5 14) (tyX5_ok 14 (by decide)) rfl rfl he hlf hd kk
theorem zf_X5_52 {q0 : Nat} {fs : List Value} {v : Value} (he : h[q0]? = some (.inr (5, fs))) (hv : fs[15]? = some v) (hd : decode cc pc = .ok (.getfield 52, 3)) (kk : zJ l g RX5 cc nL rt nm R mc ms Q k n (pc + 3) ls (v :: st) h) : zJ l g RX5 cc nL rt nm R mc ms Q k n pc ls (.ref (g.2.1 + q0) :: st) h := z_get (C := RX5) (T := TX5) (N := 21) (ci := 5) zin_X5 rfl 15 (by decide) (List.mem_filter.mpr ⟨List.mem_append_right _ (List.mem_of_getElem? (i := 503) (by decide +kernel)), rfl⟩) rfl he hv hd kk
theorem zp_X5_52 {q0 : Nat} {fs : List Value} {x : Nat} (hnm : nm = "<init>") (he : h[q0]? = some (.inr (5, fs))) (hlf : 15 < fs.length) (hd : decode cc pc = .ok (.putfield 52, 3)) (kk : zJ l g RX5 cc nL rt nm R mc ms Q k n (pc + 3) ls st (h.set q0 (.inr (5, fs.set 15 (.ref x))))) : zJ l g RX5 cc nL rt nm R mc ms Q k n pc ls (.ref x :: .ref (g.2.1 + q0) :: st) h := z_putF (C := RX5) (T := TX5) (N := 21) (ci := 5) zin_X5 tyX5 tyX5_ok nmX5 rfl 15 (by decide) (List.mem_filter.mpr ⟨List.mem_append_right _ (List.mem_of_getElem? (i := 503) (by decide +kernel)), rfl⟩) rfl rfl hnm rfl (ty := tyX5 15) (tyX5_ok 15 (by decide)) rfl rfl he hlf hd kk
theorem zf_X5_55 {q0 : Nat} {fs : List Value} {v : Value} (he : h[q0]? = some (.inr (5, fs))) (hv : fs[16]? = some v) (hd : decode cc pc = .ok (.getfield 55, 3)) (kk : zJ l g RX5 cc nL rt nm R mc ms Q k n (pc + 3) ls (v :: st) h) : zJ l g RX5 cc nL rt nm R mc ms Q k n pc ls (.ref (g.2.1 + q0) :: st) h := z_get (C := RX5) (T := TX5) (N := 21) (ci := 5) zin_X5 rfl 16 (by decide) (List.mem_filter.mpr ⟨List.mem_append_right _ (List.mem_of_getElem? (i := 504) (by decide +kernel)), rfl⟩) rfl he hv hd kk
theorem zp_X5_55 {q0 : Nat} {fs : List Value} {x : Nat} (hnm : nm = "<init>") (he : h[q0]? = some (.inr (5, fs))) (hlf : 16 < fs.length) (hd : decode cc pc = .ok (.putfield 55, 3)) (kk : zJ l g RX5 cc nL rt nm R mc ms Q k n (pc + 3) ls st (h.set q0 (.inr (5, fs.set 16 (.ref x))))) : zJ l g RX5 cc nL rt nm R mc ms Q k n pc ls (.ref x :: .ref (g.2.1 + q0) :: st) h := z_putF (C := RX5) (T := TX5) (N := 21) (ci := 5) zin_X5 tyX5 tyX5_ok nmX5 rfl 16 (by decide) (List.mem_filter.mpr ⟨List.mem_append_right _ (List.mem_of_getElem? (i := 504) (by decide +kernel)), rfl⟩) rfl rfl hnm rfl (ty := tyX5 16) (tyX5_ok 16 (by decide)) rfl rfl he hlf hd kk
theorem zf_X5_58 {q0 : Nat} {fs : List Value} {v : Value} (he : h[q0]? = some (.inr (5, fs))) (hv : fs[17]? = some v) (hd : decode cc pc = .ok (.getfield 58, 3)) (kk : zJ l g RX5 cc nL rt nm R mc ms Q k n (pc + 3) ls (v :: st) h) : zJ l g RX5 cc nL rt nm R mc ms Q k n pc ls (.ref (g.2.1 + q0) :: st) h := z_get (C := RX5) (T := TX5) (N := 21) (ci := 5) zin_X5 rfl 17 (by decide) (List.mem_filter.mpr ⟨List.mem_append_right _ (List.mem_of_getElem? (i := 505) (by decide +kernel)), rfl⟩) rfl he hv hd kk
theorem zp_X5_58 {q0 : Nat} {fs : List Value} {x : Nat} (hnm : nm = "<init>") (he : h[q0]? = some (.inr (5, fs))) (hlf : 17 < fs.length) (hd : decode cc pc = .ok (.putfield 58, 3)) (kk : zJ l g RX5 cc nL rt nm R mc ms Q k n (pc + 3) ls st (h.set q0 (.inr (5, fs.set 17 (.ref x))))) : zJ l g RX5 cc nL rt nm R mc ms Q k n pc ls (.ref x :: .ref (g.2.1 + q0) :: st) h := z_putF (C := RX5) (T := TX5) (N := 21) (ci := 5) zin_X5 tyX5 tyX5_ok nmX5 rfl 17 (by decide) (List.mem_filter.mpr ⟨List.mem_append_right _ (List.mem_of_getElem? (i := 505) (by decide +kernel)), rfl⟩) rfl rfl hnm rfl (ty := tyX5 17) (tyX5_ok 17 (by decide)) rfl rfl he hlf hd kk
theorem zf_X5_61 {q0 : Nat} {fs : List Value} {v : Value} (he : h[q0]? = some (.inr (5, fs))) (hv : fs[18]? = some v) (hd : decode cc pc = .ok (.getfield 61, 3)) (kk : zJ l g RX5 cc nL rt nm R mc ms Q k n (pc + 3) ls (v :: st) h) : zJ l g RX5 cc nL rt nm R mc ms Q k n pc ls (.ref (g.2.1 + q0) :: st) h := z_get (C := RX5) (T := TX5) (N := 21) (ci := 5) zin_X5 rfl 18 (by decide) (List.mem_filter.mpr ⟨List.mem_append_right _ (List.mem_of_getElem? (i := 506) (by decide +kernel)), rfl⟩) rfl he hv hd kk
theorem zp_X5_61 {q0 : Nat} {fs : List Value} {x : Nat} (hnm : nm = "<init>") (he : h[q0]? = some (.inr (5, fs))) (hlf : 18 < fs.length) (hd : decode cc pc = .ok (.putfield 61, 3)) (kk : zJ l g RX5 cc nL rt nm R mc ms Q k n (pc + 3) ls st (h.set q0 (.inr (5, fs.set 18 (.ref x))))) : zJ l g RX5 cc nL rt nm R mc ms Q k n pc ls (.ref x :: .ref (g.2.1 + q0) :: st) h := z_putF (C := RX5) (T := TX5) (N := 21) (ci := 5) zin_X5 tyX5 tyX5_ok nmX5 rfl 18 (by decide) (List.mem_filter.mpr ⟨List.mem_append_right _ (List.mem_of_getElem? (i := 506) (by decide +kernel)), rfl⟩) rfl rfl hnm rfl (ty := tyX5 18) (tyX5_ok 18 (by decide)) rfl rfl he hlf hd kk
theorem zf_X5_64 {q0 : Nat} {fs : List Value} {v : Value} (he : h[q0]? = some (.inr (5, fs))) (hv : fs[19]? = some v) (hd : decode cc pc = .ok (.getfield 64, 3)) (kk : zJ l g RX5 cc nL rt nm R mc ms Q k n (pc + 3) ls (v :: st) h) : zJ l g RX5 cc nL rt nm R mc ms Q k n pc ls (.ref (g.2.1 + q0) :: st) h := z_get (C := RX5) (T := TX5) (N := 21) (ci := 5) zin_X5 rfl 19 (by decide) (List.mem_filter.mpr ⟨List.mem_append_right _ (List.mem_of_getElem? (i := 507) (by decide +kernel)), rfl⟩) rfl he hv hd kk
theorem zp_X5_64 {q0 : Nat} {fs : List Value} {x : Nat} (hnm : nm = "<init>") (he : h[q0]? = some (.inr (5, fs))) (hlf : 19 < fs.length) (hd : decode cc pc = .ok (.putfield 64, 3)) (kk : zJ l g RX5 cc nL rt nm R mc ms Q k n (pc + 3) ls st (h.set q0 (.inr (5, fs.set 19 (.ref x))))) : zJ l g RX5 cc nL rt nm R mc ms Q k n pc ls (.ref x :: .ref (g.2.1 + q0) :: st) h := z_putF (C := RX5) (T := TX5) (N := 21) (ci := 5) zin_X5 tyX5 tyX5_ok nmX5 rfl 19 (by decide) (List.mem_filter.mpr ⟨List.mem_append_right _ (List.mem_of_getElem? (i := 507) (by decide +kernel)), rfl⟩) rfl rfl hnm rfl (ty := tyX5 19) (tyX5_ok 19 (by decide)) rfl rfl he hlf hd kk
theorem zf_X5_68 {q0 : Nat} {fs : List Value} {v : Value} (he : h[q0]? = some (.inr (5, fs))) (hv : fs[20]? = some v) (hd : decode cc pc = .ok (.getfield 68, 3)) (kk : zJ l g RX5 cc nL rt nm R mc ms Q k n (pc + 3) ls (v :: st) h) : zJ l g RX5 cc nL rt nm R mc ms Q k n pc ls (.ref (g.2.1 + q0) :: st) h := z_get (C := RX5) (T := TX5) (N := 21) (ci := 5) zin_X5 rfl 20 (by decide) (List.mem_filter.mpr ⟨List.mem_append_right _ (List.mem_of_getElem? (i := 508) (by decide +kernel)), rfl⟩) rfl he hv hd kk
theorem zp_X5_68 {q0 : Nat} {fs : List Value} {x : Nat} (hnm : nm = "<init>") (he : h[q0]? = some (.inr (5, fs))) (hlf : 20 < fs.length) (hd : decode cc pc = .ok (.putfield 68, 3)) (kk : zJ l g RX5 cc nL rt nm R mc ms Q k n (pc + 3) ls st (h.set q0 (.inr (5, fs.set 20 (.ref x))))) : zJ l g RX5 cc nL rt nm R mc ms Q k n pc ls (.ref x :: .ref (g.2.1 + q0) :: st) h := z_putF (C := RX5) (T := TX5) (N := 21) (ci := 5) zin_X5 tyX5 tyX5_ok nmX5 rfl 20 (by decide) (List.mem_filter.mpr ⟨List.mem_append_right _ (List.mem_of_getElem? (i := 508) (by decide +kernel)), rfl⟩) rfl rfl hnm rfl (ty := tyX5 20) (tyX5_ok 20 (by decide)) rfl rfl he hlf hd kk
theorem zf_X0_21 {q0 : Nat} {fs : List Value} {v : Value} (he : h[q0]? = some (.inr (1, fs))) (hv : fs[0]? = some v) (hd : decode cc pc = .ok (.getfield 21, 3)) (kk : zJ l g RX0 cc nL rt nm R mc ms Q k n (pc + 3) ls (v :: st) h) : zJ l g RX0 cc nL rt nm R mc ms Q k n pc ls (.ref (g.2.1 + q0) :: st) h := z_getN (host := RX4) (C := RX1) (T := TX1) (N := 9) (ci := 1) zin_X1 rfl 0 (by decide) (List.mem_filter.mpr ⟨List.mem_append_right _ (List.mem_of_getElem? (i := 25) (by decide +kernel)), rfl⟩) rfl he hv hd kk
theorem zf_X3_27 {q0 : Nat} {fs : List Value} {v : Value} (he : h[q0]? = some (.inr (1, fs))) (hv : fs[0]? = some v) (hd : decode cc pc = .ok (.getfield 27, 3)) (kk : zJ l g RX3 cc nL rt nm R mc ms Q k n (pc + 3) ls (v :: st) h) : zJ l g RX3 cc nL rt nm R mc ms Q k n pc ls (.ref (g.2.1 + q0) :: st) h := z_getN (host := RX4) (C := RX1) (T := TX1) (N := 9) (ci := 1) zin_X1 rfl 0 (by decide) (List.mem_filter.mpr ⟨List.mem_append_right _ (List.mem_of_getElem? (i := 26) (by decide +kernel)), rfl⟩) rfl he hv hd kk
theorem zf_X2_66 {q0 : Nat} {fs : List Value} {v : Value} (he : h[q0]? = some (.inr (1, fs))) (hv : fs[0]? = some v) (hd : decode cc pc = .ok (.getfield 66, 3)) (kk : zJ l g RX2 cc nL rt nm R mc ms Q k n (pc + 3) ls (v :: st) h) : zJ l g RX2 cc nL rt nm R mc ms Q k n pc ls (.ref (g.2.1 + q0) :: st) h := z_getN (host := RX4) (C := RX1) (T := TX1) (N := 9) (ci := 1) zin_X1 rfl 0 (by decide) (List.mem_filter.mpr ⟨List.mem_append_right _ (List.mem_of_getElem? (i := 27) (by decide +kernel)), rfl⟩) rfl he hv hd kk
theorem zf_X4_84 {q0 : Nat} {fs : List Value} {v : Value} (he : h[q0]? = some (.inr (1, fs))) (hv : fs[0]? = some v) (hd : decode cc pc = .ok (.getfield 84, 3)) (kk : zJ l g RX4 cc nL rt nm R mc ms Q k n (pc + 3) ls (v :: st) h) : zJ l g RX4 cc nL rt nm R mc ms Q k n pc ls (.ref (g.2.1 + q0) :: st) h := z_getN (host := RX4) (C := RX1) (T := TX1) (N := 9) (ci := 1) zin_X1 rfl 0 (by decide) (List.mem_filter.mpr ⟨List.mem_append_right _ (List.mem_of_getElem? (i := 28) (by decide +kernel)), rfl⟩) rfl he hv hd kk
theorem zf_X4_45 {q0 : Nat} {fs : List Value} {v : Value} (he : h[q0]? = some (.inr (1, fs))) (hv : fs[1]? = some v) (hd : decode cc pc = .ok (.getfield 45, 3)) (kk : zJ l g RX4 cc nL rt nm R mc ms Q k n (pc + 3) ls (v :: st) h) : zJ l g RX4 cc nL rt nm R mc ms Q k n pc ls (.ref (g.2.1 + q0) :: st) h := z_getN (host := RX4) (C := RX1) (T := TX1) (N := 9) (ci := 1) zin_X1 rfl 1 (by decide) (List.mem_filter.mpr ⟨List.mem_append_right _ (List.mem_of_getElem? (i := 30) (by decide +kernel)), rfl⟩) rfl he hv hd kk
theorem zf_X4_53 {q0 : Nat} {fs : List Value} {v : Value} (he : h[q0]? = some (.inr (1, fs))) (hv : fs[2]? = some v) (hd : decode cc pc = .ok (.getfield 53, 3)) (kk : zJ l g RX4 cc nL rt nm R mc ms Q k n (pc + 3) ls (v :: st) h) : zJ l g RX4 cc nL rt nm R mc ms Q k n pc ls (.ref (g.2.1 + q0) :: st) h := z_getN (host := RX4) (C := RX1) (T := TX1) (N := 9) (ci := 1) zin_X1 rfl 2 (by decide) (List.mem_filter.mpr ⟨List.mem_append_right _ (List.mem_of_getElem? (i := 32) (by decide +kernel)), rfl⟩) rfl he hv hd kk
theorem zf_X2_78 {q0 : Nat} {fs : List Value} {v : Value} (he : h[q0]? = some (.inr (1, fs))) (hv : fs[2]? = some v) (hd : decode cc pc = .ok (.getfield 78, 3)) (kk : zJ l g RX2 cc nL rt nm R mc ms Q k n (pc + 3) ls (v :: st) h) : zJ l g RX2 cc nL rt nm R mc ms Q k n pc ls (.ref (g.2.1 + q0) :: st) h := z_getN (host := RX4) (C := RX1) (T := TX1) (N := 9) (ci := 1) zin_X1 rfl 2 (by decide) (List.mem_filter.mpr ⟨List.mem_append_right _ (List.mem_of_getElem? (i := 33) (by decide +kernel)), rfl⟩) rfl he hv hd kk
theorem zf_X3_37 {q0 : Nat} {fs : List Value} {v : Value} (he : h[q0]? = some (.inr (1, fs))) (hv : fs[3]? = some v) (hd : decode cc pc = .ok (.getfield 37, 3)) (kk : zJ l g RX3 cc nL rt nm R mc ms Q k n (pc + 3) ls (v :: st) h) : zJ l g RX3 cc nL rt nm R mc ms Q k n pc ls (.ref (g.2.1 + q0) :: st) h := z_getN (host := RX4) (C := RX1) (T := TX1) (N := 9) (ci := 1) zin_X1 rfl 3 (by decide) (List.mem_filter.mpr ⟨List.mem_append_right _ (List.mem_of_getElem? (i := 35) (by decide +kernel)), rfl⟩) rfl he hv hd kk
theorem zf_X0_56 {q0 : Nat} {fs : List Value} {v : Value} (he : h[q0]? = some (.inr (1, fs))) (hv : fs[3]? = some v) (hd : decode cc pc = .ok (.getfield 56, 3)) (kk : zJ l g RX0 cc nL rt nm R mc ms Q k n (pc + 3) ls (v :: st) h) : zJ l g RX0 cc nL rt nm R mc ms Q k n pc ls (.ref (g.2.1 + q0) :: st) h := z_getN (host := RX4) (C := RX1) (T := TX1) (N := 9) (ci := 1) zin_X1 rfl 3 (by decide) (List.mem_filter.mpr ⟨List.mem_append_right _ (List.mem_of_getElem? (i := 36) (by decide +kernel)), rfl⟩) rfl he hv hd kk
theorem zf_X2_75 {q0 : Nat} {fs : List Value} {v : Value} (he : h[q0]? = some (.inr (1, fs))) (hv : fs[3]? = some v) (hd : decode cc pc = .ok (.getfield 75, 3)) (kk : zJ l g RX2 cc nL rt nm R mc ms Q k n (pc + 3) ls (v :: st) h) : zJ l g RX2 cc nL rt nm R mc ms Q k n pc ls (.ref (g.2.1 + q0) :: st) h := z_getN (host := RX4) (C := RX1) (T := TX1) (N := 9) (ci := 1) zin_X1 rfl 3 (by decide) (List.mem_filter.mpr ⟨List.mem_append_right _ (List.mem_of_getElem? (i := 37) (by decide +kernel)), rfl⟩) rfl he hv hd kk
theorem zf_X4_173 {q0 : Nat} {fs : List Value} {v : Value} (he : h[q0]? = some (.inr (1, fs))) (hv : fs[3]? = some v) (hd : decode cc pc = .ok (.getfield 173, 3)) (kk : zJ l g RX4 cc nL rt nm R mc ms Q k n (pc + 3) ls (v :: st) h) : zJ l g RX4 cc nL rt nm R mc ms Q k n pc ls (.ref (g.2.1 + q0) :: st) h := z_getN (host := RX4) (C := RX1) (T := TX1) (N := 9) (ci := 1) zin_X1 rfl 3 (by decide) (List.mem_filter.mpr ⟨List.mem_append_right _ (List.mem_of_getElem? (i := 38) (by decide +kernel)), rfl⟩) rfl he hv hd kk
theorem zf_X0_43 {q0 : Nat} {fs : List Value} {v : Value} (he : h[q0]? = some (.inr (1, fs))) (hv : fs[4]? = some v) (hd : decode cc pc = .ok (.getfield 43, 3)) (kk : zJ l g RX0 cc nL rt nm R mc ms Q k n (pc + 3) ls (v :: st) h) : zJ l g RX0 cc nL rt nm R mc ms Q k n pc ls (.ref (g.2.1 + q0) :: st) h := z_getN (host := RX4) (C := RX1) (T := TX1) (N := 9) (ci := 1) zin_X1 rfl 4 (by decide) (List.mem_filter.mpr ⟨List.mem_append_right _ (List.mem_of_getElem? (i := 40) (by decide +kernel)), rfl⟩) rfl he hv hd kk
theorem zf_X2_89 {q0 : Nat} {fs : List Value} {v : Value} (he : h[q0]? = some (.inr (1, fs))) (hv : fs[4]? = some v) (hd : decode cc pc = .ok (.getfield 89, 3)) (kk : zJ l g RX2 cc nL rt nm R mc ms Q k n (pc + 3) ls (v :: st) h) : zJ l g RX2 cc nL rt nm R mc ms Q k n pc ls (.ref (g.2.1 + q0) :: st) h := z_getN (host := RX4) (C := RX1) (T := TX1) (N := 9) (ci := 1) zin_X1 rfl 4 (by decide) (List.mem_filter.mpr ⟨List.mem_append_right _ (List.mem_of_getElem? (i := 41) (by decide +kernel)), rfl⟩) rfl he hv hd kk
theorem zf_X4_136 {q0 : Nat} {fs : List Value} {v : Value} (he : h[q0]? = some (.inr (1, fs))) (hv : fs[4]? = some v) (hd : decode cc pc = .ok (.getfield 136, 3)) (kk : zJ l g RX4 cc nL rt nm R mc ms Q k n (pc + 3) ls (v :: st) h) : zJ l g RX4 cc nL rt nm R mc ms Q k n pc ls (.ref (g.2.1 + q0) :: st) h := z_getN (host := RX4) (C := RX1) (T := TX1) (N := 9) (ci := 1) zin_X1 rfl 4 (by decide) (List.mem_filter.mpr ⟨List.mem_append_right _ (List.mem_of_getElem? (i := 42) (by decide +kernel)), rfl⟩) rfl he hv hd kk
theorem zf_X0_59 {q0 : Nat} {fs : List Value} {v : Value} (he : h[q0]? = some (.inr (1, fs))) (hv : fs[5]? = some v) (hd : decode cc pc = .ok (.getfield 59, 3)) (kk : zJ l g RX0 cc nL rt nm R mc ms Q k n (pc + 3) ls (v :: st) h) : zJ l g RX0 cc nL rt nm R mc ms Q k n pc ls (.ref (g.2.1 + q0) :: st) h := z_getN (host := RX4) (C := RX1) (T := TX1) (N := 9) (ci := 1) zin_X1 rfl 5 (by decide) (List.mem_filter.mpr ⟨List.mem_append_right _ (List.mem_of_getElem? (i := 44) (by decide +kernel)), rfl⟩) rfl he hv hd kk
theorem zf_X2_81 {q0 : Nat} {fs : List Value} {v : Value} (he : h[q0]? = some (.inr (1, fs))) (hv : fs[5]? = some v) (hd : decode cc pc = .ok (.getfield 81, 3)) (kk : zJ l g RX2 cc nL rt nm R mc ms Q k n (pc + 3) ls (v :: st) h) : zJ l g RX2 cc nL rt nm R mc ms Q k n pc ls (.ref (g.2.1 + q0) :: st) h := z_getN (host := RX4) (C := RX1) (T := TX1) (N := 9) (ci := 1) zin_X1 rfl 5 (by decide) (List.mem_filter.mpr ⟨List.mem_append_right _ (List.mem_of_getElem? (i := 45) (by decide +kernel)), rfl⟩) rfl he hv hd kk
theorem zf_X4_167 {q0 : Nat} {fs : List Value} {v : Value} (he : h[q0]? = some (.inr (1, fs))) (hv : fs[5]? = some v) (hd : decode cc pc = .ok (.getfield 167, 3)) (kk : zJ l g RX4 cc nL rt nm R mc ms Q k n (pc + 3) ls (v :: st) h) : zJ l g RX4 cc nL rt nm R mc ms Q k n pc ls (.ref (g.2.1 + q0) :: st) h := z_getN (host := RX4) (C := RX1) (T := TX1) (N := 9) (ci := 1) zin_X1 rfl 5 (by decide) (List.mem_filter.mpr ⟨List.mem_append_right _ (List.mem_of_getElem? (i := 46) (by decide +kernel)), rfl⟩) rfl he hv hd kk
theorem zf_X0_53 {q0 : Nat} {fs : List Value} {v : Value} (he : h[q0]? = some (.inr (1, fs))) (hv : fs[6]? = some v) (hd : decode cc pc = .ok (.getfield 53, 3)) (kk : zJ l g RX0 cc nL rt nm R mc ms Q k n (pc + 3) ls (v :: st) h) : zJ l g RX0 cc nL rt nm R mc ms Q k n pc ls (.ref (g.2.1 + q0) :: st) h := z_getN (host := RX4) (C := RX1) (T := TX1) (N := 9) (ci := 1) zin_X1 rfl 6 (by decide) (List.mem_filter.mpr ⟨List.mem_append_right _ (List.mem_of_getElem? (i := 48) (by decide +kernel)), rfl⟩) rfl he hv hd kk
theorem zf_X4_70 {q0 : Nat} {fs : List Value} {v : Value} (he : h[q0]? = some (.inr (1, fs))) (hv : fs[6]? = some v) (hd : decode cc pc = .ok (.getfield 70, 3)) (kk : zJ l g RX4 cc nL rt nm R mc ms Q k n (pc + 3) ls (v :: st) h) : zJ l g RX4 cc nL rt nm R mc ms Q k n pc ls (.ref (g.2.1 + q0) :: st) h := z_getN (host := RX4) (C := RX1) (T := TX1) (N := 9) (ci := 1) zin_X1 rfl 6 (by decide) (List.mem_filter.mpr ⟨List.mem_append_right _ (List.mem_of_getElem? (i := 49) (by decide +kernel)), rfl⟩) rfl he hv hd kk
theorem zf_X2_92 {q0 : Nat} {fs : List Value} {v : Value} (he : h[q0]? = some (.inr (1, fs))) (hv : fs[6]? = some v) (hd : decode cc pc = .ok (.getfield 92, 3)) (kk : zJ l g RX2 cc nL rt nm R mc ms Q k n (pc + 3) ls (v :: st) h) : zJ l g RX2 cc nL rt nm R mc ms Q k n pc ls (.ref (g.2.1 + q0) :: st) h := z_getN (host := RX4) (C := RX1) (T := TX1) (N := 9) (ci := 1) zin_X1 rfl 6 (by decide) (List.mem_filter.mpr ⟨List.mem_append_right _ (List.mem_of_getElem? (i := 50) (by decide +kernel)), rfl⟩) rfl he hv hd kk
end ZFIELDS
end
section
/-! ===== the world: 0 the object, 1 its Book (2 rates, 3 kindOf, 4 terms, 5 costs, 6 needs, 7 bought), 8 images, 9 its Flow (10 lengths, 11 fees, 12 carried, 13 worth, 14 far, 15 step, 16 settled), 17 its BlindRule (18 counted), 19 its Shares (20 yet, 21 had, 22 besides), 23 the reference (24 hours .. 43 kept); from 44 on the Books of images, seven cells each ===== -/
def zbk (g : zG) (F : Nat → Nat → Int) (p : Nat) : List va_E := [.inr (1, [.int (iz (F p 0)), .int (iz (F p 1)), .int (iz (F p 2)), .ref (g.2.1 + (p + 1)), .ref (g.2.1 + (p + 2)), .ref (g.2.1 + (p + 3)), .ref (g.2.1 + (p + 4)), .ref (g.2.1 + (p + 5)), .ref (g.2.1 + (p + 6))]), zA g 3 (F (p + 1)), zA g 6 (F (p + 2)), zA g 6 (F (p + 3)), zA g 6 (F (p + 4)), zA g 480 (F (p + 5)), zA g 240 (F (p + 6))]
def ztl (g : zG) (F : Nat → Nat → Int) : Nat → List va_E
  | 0 => []
  | c + 1 => ztl g F c ++ zbk g F (44 + 7 * c)
def zk (g : zG) (F : Nat → Nat → Int) (L : Nat → Int) (im : Nat → Option Nat) (c : Nat) : List va_E :=
  [.inr (4, [.ref (g.2.1 + 1), .ref (g.2.1 + 8), .ref (g.2.1 + 9), .ref (g.2.1 + 17), .ref (g.2.1 + 19)]),
   .inr (1, [.int (iz (F 1 0)), .int (iz (F 1 1)), .int (iz (F 1 2)), .ref (g.2.1 + 2), .ref (g.2.1 + 3), .ref (g.2.1 + 4), .ref (g.2.1 + 5), .ref (g.2.1 + 6), .ref (g.2.1 + 7)]),
   zA g 3 (F 2),
   zA g 6 (F 3),
   zA g 6 (F 4),
   zA g 6 (F 5),
   zA g 480 (F 6),
   zA g 240 (F 7),
   zR g 3 im,
   .inr (2, [.int (iz (F 9 0)), .int (iz (F 9 1)), .ref (g.2.1 + 10), .ref (g.2.1 + 11), .ref (g.2.1 + 12), .ref (g.2.1 + 13), .ref (g.2.1 + 14), .ref (g.2.1 + 15), .ref (g.2.1 + 16)]),
   zA g 8 (F 10),
   zA g 8 (F 11),
   zA g 328 (F 12),
   zA g 41 (F 13),
   zA g 41 (F 14),
   zA g 41 (F 15),
   zB g 41 (F 16),
   .inr (0, [.ref (g.2.1 + 18)]),
   zA g 40 (F 18),
   .inr (3, [.ref (g.2.1 + 20), .ref (g.2.1 + 21), .ref (g.2.1 + 22)]),
   zA g 4 (F 20),
   zA g 4 (F 21),
   zA g 4 (F 22),
   .inr (5, [.int (iz (F 23 0)), .ref (g.2.1 + 24), .ref (g.2.1 + 25), .ref (g.2.1 + 26), .ref (g.2.1 + 27), .ref (g.2.1 + 28), .ref (g.2.1 + 29), .ref (g.2.1 + 30), .ref (g.2.1 + 31), .ref (g.2.1 + 32), .ref (g.2.1 + 33), .ref (g.2.1 + 34), .ref (g.2.1 + 35), .ref (g.2.1 + 36), .ref (g.2.1 + 37), .ref (g.2.1 + 38), .ref (g.2.1 + 39), .ref (g.2.1 + 40), .ref (g.2.1 + 41), .ref (g.2.1 + 42), .ref (g.2.1 + 43)]),
   zA g 4 (F 24),
   zA g 4 (F 25),
   zA g 12 (F 26),
   zA g 4 (F 27),
   zA g 24 (F 28),
   zA g 24 (F 29),
   zA g 24 (F 30),
   zA g 1920 (F 31),
   zA g 960 (F 32),
   zA g 1681 (F 33),
   zA g 41 (F 34),
   zA g 41 (F 35),
   zA g 1681 (F 36),
   zA g 41 (F 37),
   zA g 41 (F 38),
   zA g 40 (F 39),
   zA g 4 (F 40),
   zA g 4 (F 41),
   zL g 4 L,
   zB g 3 (F 43)] ++ ztl g F c
theorem zbk_up {g : zG} {F : Nat → Nat → Int} {p q : Nat} {f : Nat → Int} (h : q < p ∨ p + 7 ≤ q) : zbk g (va_up F q f) p = zbk g F p := by
  have e : ∀ j, j < 7 → va_up F q f (p + j) = F (p + j) := fun j hj => by unfold va_up; rw [if_neg (by omega)]
  have e0 : va_up F q f p = F p := e 0 (by omega)
  unfold zbk
  rw [e0, e 1 (by omega), e 2 (by omega), e 3 (by omega), e 4 (by omega), e 5 (by omega), e 6 (by omega)]
theorem ztl_up {g : zG} {F : Nat → Nat → Int} {q : Nat} {f : Nat → Int} (h : q < 44) : ∀ c, ztl g (va_up F q f) c = ztl g F c
  | 0 => rfl
  | c + 1 => by
    show ztl g (va_up F q f) c ++ zbk g (va_up F q f) (44 + 7 * c) = ztl g F c ++ zbk g F (44 + 7 * c)
    rw [ztl_up h c, zbk_up (Or.inl (by omega))]
theorem ztl_len {g : zG} {F : Nat → Nat → Int} : ∀ c, (ztl g F c).length = 7 * c
  | 0 => rfl
  | c + 1 => by
    show (ztl g F c ++ zbk g F (44 + 7 * c)).length = _
    rw [List.length_append, ztl_len c]
    simp [zbk]; omega
section ZK
variable {g : zG} {F : Nat → Nat → Int} {L : Nat → Int} {im : Nat → Option Nat} {c : Nat}
theorem zs_2 {f : Nat → Int} : (zk g F L im c).set 2 (zA g 3 f) = zk g (va_up F 2 f) L im c := by unfold zk; rw [ztl_up (by decide)]; rfl
theorem zs_3 {f : Nat → Int} : (zk g F L im c).set 3 (zA g 6 f) = zk g (va_up F 3 f) L im c := by unfold zk; rw [ztl_up (by decide)]; rfl
theorem zs_4 {f : Nat → Int} : (zk g F L im c).set 4 (zA g 6 f) = zk g (va_up F 4 f) L im c := by unfold zk; rw [ztl_up (by decide)]; rfl
theorem zs_5 {f : Nat → Int} : (zk g F L im c).set 5 (zA g 6 f) = zk g (va_up F 5 f) L im c := by unfold zk; rw [ztl_up (by decide)]; rfl
theorem zs_6 {f : Nat → Int} : (zk g F L im c).set 6 (zA g 480 f) = zk g (va_up F 6 f) L im c := by unfold zk; rw [ztl_up (by decide)]; rfl
theorem zs_7 {f : Nat → Int} : (zk g F L im c).set 7 (zA g 240 f) = zk g (va_up F 7 f) L im c := by unfold zk; rw [ztl_up (by decide)]; rfl
theorem zs_10 {f : Nat → Int} : (zk g F L im c).set 10 (zA g 8 f) = zk g (va_up F 10 f) L im c := by unfold zk; rw [ztl_up (by decide)]; rfl
theorem zs_11 {f : Nat → Int} : (zk g F L im c).set 11 (zA g 8 f) = zk g (va_up F 11 f) L im c := by unfold zk; rw [ztl_up (by decide)]; rfl
theorem zs_12 {f : Nat → Int} : (zk g F L im c).set 12 (zA g 328 f) = zk g (va_up F 12 f) L im c := by unfold zk; rw [ztl_up (by decide)]; rfl
theorem zs_13 {f : Nat → Int} : (zk g F L im c).set 13 (zA g 41 f) = zk g (va_up F 13 f) L im c := by unfold zk; rw [ztl_up (by decide)]; rfl
theorem zs_14 {f : Nat → Int} : (zk g F L im c).set 14 (zA g 41 f) = zk g (va_up F 14 f) L im c := by unfold zk; rw [ztl_up (by decide)]; rfl
theorem zs_15 {f : Nat → Int} : (zk g F L im c).set 15 (zA g 41 f) = zk g (va_up F 15 f) L im c := by unfold zk; rw [ztl_up (by decide)]; rfl
theorem zs_18 {f : Nat → Int} : (zk g F L im c).set 18 (zA g 40 f) = zk g (va_up F 18 f) L im c := by unfold zk; rw [ztl_up (by decide)]; rfl
theorem zs_20 {f : Nat → Int} : (zk g F L im c).set 20 (zA g 4 f) = zk g (va_up F 20 f) L im c := by unfold zk; rw [ztl_up (by decide)]; rfl
theorem zs_21 {f : Nat → Int} : (zk g F L im c).set 21 (zA g 4 f) = zk g (va_up F 21 f) L im c := by unfold zk; rw [ztl_up (by decide)]; rfl
theorem zs_22 {f : Nat → Int} : (zk g F L im c).set 22 (zA g 4 f) = zk g (va_up F 22 f) L im c := by unfold zk; rw [ztl_up (by decide)]; rfl
theorem zs_24 {f : Nat → Int} : (zk g F L im c).set 24 (zA g 4 f) = zk g (va_up F 24 f) L im c := by unfold zk; rw [ztl_up (by decide)]; rfl
theorem zs_25 {f : Nat → Int} : (zk g F L im c).set 25 (zA g 4 f) = zk g (va_up F 25 f) L im c := by unfold zk; rw [ztl_up (by decide)]; rfl
theorem zs_26 {f : Nat → Int} : (zk g F L im c).set 26 (zA g 12 f) = zk g (va_up F 26 f) L im c := by unfold zk; rw [ztl_up (by decide)]; rfl
theorem zs_27 {f : Nat → Int} : (zk g F L im c).set 27 (zA g 4 f) = zk g (va_up F 27 f) L im c := by unfold zk; rw [ztl_up (by decide)]; rfl
theorem zs_28 {f : Nat → Int} : (zk g F L im c).set 28 (zA g 24 f) = zk g (va_up F 28 f) L im c := by unfold zk; rw [ztl_up (by decide)]; rfl
theorem zs_29 {f : Nat → Int} : (zk g F L im c).set 29 (zA g 24 f) = zk g (va_up F 29 f) L im c := by unfold zk; rw [ztl_up (by decide)]; rfl
theorem zs_30 {f : Nat → Int} : (zk g F L im c).set 30 (zA g 24 f) = zk g (va_up F 30 f) L im c := by unfold zk; rw [ztl_up (by decide)]; rfl
theorem zs_31 {f : Nat → Int} : (zk g F L im c).set 31 (zA g 1920 f) = zk g (va_up F 31 f) L im c := by unfold zk; rw [ztl_up (by decide)]; rfl
theorem zs_32 {f : Nat → Int} : (zk g F L im c).set 32 (zA g 960 f) = zk g (va_up F 32 f) L im c := by unfold zk; rw [ztl_up (by decide)]; rfl
theorem zs_33 {f : Nat → Int} : (zk g F L im c).set 33 (zA g 1681 f) = zk g (va_up F 33 f) L im c := by unfold zk; rw [ztl_up (by decide)]; rfl
theorem zs_34 {f : Nat → Int} : (zk g F L im c).set 34 (zA g 41 f) = zk g (va_up F 34 f) L im c := by unfold zk; rw [ztl_up (by decide)]; rfl
theorem zs_35 {f : Nat → Int} : (zk g F L im c).set 35 (zA g 41 f) = zk g (va_up F 35 f) L im c := by unfold zk; rw [ztl_up (by decide)]; rfl
theorem zs_36 {f : Nat → Int} : (zk g F L im c).set 36 (zA g 1681 f) = zk g (va_up F 36 f) L im c := by unfold zk; rw [ztl_up (by decide)]; rfl
theorem zs_37 {f : Nat → Int} : (zk g F L im c).set 37 (zA g 41 f) = zk g (va_up F 37 f) L im c := by unfold zk; rw [ztl_up (by decide)]; rfl
theorem zs_38 {f : Nat → Int} : (zk g F L im c).set 38 (zA g 41 f) = zk g (va_up F 38 f) L im c := by unfold zk; rw [ztl_up (by decide)]; rfl
theorem zs_39 {f : Nat → Int} : (zk g F L im c).set 39 (zA g 40 f) = zk g (va_up F 39 f) L im c := by unfold zk; rw [ztl_up (by decide)]; rfl
theorem zs_40 {f : Nat → Int} : (zk g F L im c).set 40 (zA g 4 f) = zk g (va_up F 40 f) L im c := by unfold zk; rw [ztl_up (by decide)]; rfl
theorem zs_41 {f : Nat → Int} : (zk g F L im c).set 41 (zA g 4 f) = zk g (va_up F 41 f) L im c := by unfold zk; rw [ztl_up (by decide)]; rfl
theorem zs_16 {f : Nat → Int} : (zk g F L im c).set 16 (zB g 41 f) = zk g (va_up F 16 f) L im c := by unfold zk; rw [ztl_up (by decide)]; rfl
theorem zs_43 {f : Nat → Int} : (zk g F L im c).set 43 (zB g 3 f) = zk g (va_up F 43 f) L im c := by unfold zk; rw [ztl_up (by decide)]; rfl
theorem zs_42 {f : Nat → Int} : (zk g F L im c).set 42 (zL g 4 f) = zk g F f im c := rfl
theorem zs_8 {f : Nat → Option Nat} : (zk g F L im c).set 8 (zR g 3 f) = zk g F L f c := rfl
theorem zs_1_0 {v : Int} : (zk g F L im c).set 1 (.inr (1, [.int (iz (F 1 0)), .int (iz (F 1 1)), .int (iz (F 1 2)), .ref (g.2.1 + 2), .ref (g.2.1 + 3), .ref (g.2.1 + 4), .ref (g.2.1 + 5), .ref (g.2.1 + 6), .ref (g.2.1 + 7)].set 0 (.int (iz v)))) = zk g (va_up F 1 (vf_upd (F 1) 0 v)) L im c := by unfold zk; rw [ztl_up (by decide)]; rfl
theorem zs_1_1 {v : Int} : (zk g F L im c).set 1 (.inr (1, [.int (iz (F 1 0)), .int (iz (F 1 1)), .int (iz (F 1 2)), .ref (g.2.1 + 2), .ref (g.2.1 + 3), .ref (g.2.1 + 4), .ref (g.2.1 + 5), .ref (g.2.1 + 6), .ref (g.2.1 + 7)].set 1 (.int (iz v)))) = zk g (va_up F 1 (vf_upd (F 1) 1 v)) L im c := by unfold zk; rw [ztl_up (by decide)]; rfl
theorem zs_1_2 {v : Int} : (zk g F L im c).set 1 (.inr (1, [.int (iz (F 1 0)), .int (iz (F 1 1)), .int (iz (F 1 2)), .ref (g.2.1 + 2), .ref (g.2.1 + 3), .ref (g.2.1 + 4), .ref (g.2.1 + 5), .ref (g.2.1 + 6), .ref (g.2.1 + 7)].set 2 (.int (iz v)))) = zk g (va_up F 1 (vf_upd (F 1) 2 v)) L im c := by unfold zk; rw [ztl_up (by decide)]; rfl
theorem zs_9_0 {v : Int} : (zk g F L im c).set 9 (.inr (2, [.int (iz (F 9 0)), .int (iz (F 9 1)), .ref (g.2.1 + 10), .ref (g.2.1 + 11), .ref (g.2.1 + 12), .ref (g.2.1 + 13), .ref (g.2.1 + 14), .ref (g.2.1 + 15), .ref (g.2.1 + 16)].set 0 (.int (iz v)))) = zk g (va_up F 9 (vf_upd (F 9) 0 v)) L im c := by unfold zk; rw [ztl_up (by decide)]; rfl
theorem zs_9_1 {v : Int} : (zk g F L im c).set 9 (.inr (2, [.int (iz (F 9 0)), .int (iz (F 9 1)), .ref (g.2.1 + 10), .ref (g.2.1 + 11), .ref (g.2.1 + 12), .ref (g.2.1 + 13), .ref (g.2.1 + 14), .ref (g.2.1 + 15), .ref (g.2.1 + 16)].set 1 (.int (iz v)))) = zk g (va_up F 9 (vf_upd (F 9) 1 v)) L im c := by unfold zk; rw [ztl_up (by decide)]; rfl
theorem zs_23_0 {v : Int} : (zk g F L im c).set 23 (.inr (5, [.int (iz (F 23 0)), .ref (g.2.1 + 24), .ref (g.2.1 + 25), .ref (g.2.1 + 26), .ref (g.2.1 + 27), .ref (g.2.1 + 28), .ref (g.2.1 + 29), .ref (g.2.1 + 30), .ref (g.2.1 + 31), .ref (g.2.1 + 32), .ref (g.2.1 + 33), .ref (g.2.1 + 34), .ref (g.2.1 + 35), .ref (g.2.1 + 36), .ref (g.2.1 + 37), .ref (g.2.1 + 38), .ref (g.2.1 + 39), .ref (g.2.1 + 40), .ref (g.2.1 + 41), .ref (g.2.1 + 42), .ref (g.2.1 + 43)].set 0 (.int (iz v)))) = zk g (va_up F 23 (vf_upd (F 23) 0 v)) L im c := by unfold zk; rw [ztl_up (by decide)]; rfl
end ZK
theorem z_r1 {l : Launch} {g : zG} {own : String} {cc : ByteArray} {nL : Nat} {rt : Option FieldType} {nm : String} {R : Room} {mc ms : Nat} {Q : Option Value → List va_E → Prop} {k n pc : Nat} {ls : List (Option Value)} {st : List Value} {h : List va_E} {v : Value} (kk : zJ l g own cc nL rt nm R mc ms Q k n pc ls (v :: st) h) : zJ l g own cc nL rt nm R mc ms Q k n pc ls ((some v).toList ++ st) h := kk
theorem z_r0 {l : Launch} {g : zG} {own : String} {cc : ByteArray} {nL : Nat} {rt : Option FieldType} {nm : String} {R : Room} {mc ms : Nat} {Q : Option Value → List va_E → Prop} {k n pc : Nat} {ls : List (Option Value)} {st : List Value} {h : List va_E} (kk : zJ l g own cc nL rt nm R mc ms Q k n pc ls st h) : zJ l g own cc nL rt nm R mc ms Q k n pc ls ((none : Option Value).toList ++ st) h := kk
end
section
/-! ===== Math.max, Math.min; System.arraycopy of a whole int array ===== -/
theorem z_maxc : cJ9_max_7cf53 = Lib.Math.max.code := by decide +kernel
theorem z_minc : cJ9_min_7cf53 = Lib.Math.min.code := by decide +kernel
theorem z_maxn : yJ9_max_7cf53 = Lib.Math.max.name := by decide +kernel
theorem z_minn : yJ9_min_7cf53 = Lib.Math.min.name := by decide +kernel
theorem z_arr {cA : ClassId} {n : Nat} {f g : Nat → Value} (h : ∀ j, j < n → f j = g j) : arrV cA n f = arrV cA n g := by
  unfold arrV
  congr 1
  apply Array.ext
  · simp
  · intro j h1 h2
    simp at h1
    simp
    exact h j h1
section ZMATH
variable {l : Launch} {g : zG} {own : String} {cc : ByteArray} {nL : Nat} {rt : Option FieldType} {nm : String} {R : Room} {mc ms : Nat} {Q : Option Value → List va_E → Prop} {k n pc i : Nat} {ls : List (Option Value)} {st : List Value} {h : List va_E}
theorem z_mmax {a b : Int} (hk : zLk own i yJ9_max_7cf53 cJ9_max_7cf53 2 (some .int) 2) (ha : ir a) (hb : ir b) (hR : 1 ≤ R.frames ∧ 21 ≤ R.locals) (hcat : (st.map fun v => v.category).sum ≤ 8) (hf : k ≤ R.cells ∧ n ≤ R.slots) (hd : decode cc pc = .ok (.invokestatic i, 3)) (kk : zJ l g own cc nL rt nm R mc ms Q k n (pc + 3) ls (.int (iz (max a b)) :: st) h) : zJ l g own cc nL rt nm R mc ms Q k n pc ls (.int (iz b) :: .int (iz a) :: st) h := by
  intro p e s m args below meth c H locs la hC hw hS hl
  rw [z_maxc, z_maxn] at hk
  refine va_mmax hC.1 hC.2.1 (hC.2.2.1.trans hl.1.1.symm) hC.2.2.2.1 (hC.2.2.2.2.1 _ hk.2.2.1) (hC.2.2.2.2.1 _ (by rw [← z_maxn]; exact st_J9_max_7cf53)) (hC.2.2.2.2.1 _ hk.2.1) (hC.2.2.2.2.1 _ hk.1) hR.1 (by have := hR.2; omega) hf.1 hf.2 hd ?_
  have e9 : (if iz a < iz b then iz b else iz a) = iz (max a b) := by
    by_cases hq : a < b
    · rw [if_pos ((iz_lt ha hb).mpr hq), show max a b = b by omega]
    · rw [if_neg (fun z => hq ((iz_lt ha hb).mp z)), show max a b = a by omega]
  rw [e9]
  exact kk p e s m args below meth c H locs la hC hw hS hl
theorem z_mmin {a b : Int} (hk : zLk own i yJ9_min_7cf53 cJ9_min_7cf53 2 (some .int) 2) (ha : ir a) (hb : ir b) (hR : 1 ≤ R.frames ∧ 21 ≤ R.locals) (hcat : (st.map fun v => v.category).sum ≤ 8) (hf : k ≤ R.cells ∧ n ≤ R.slots) (hd : decode cc pc = .ok (.invokestatic i, 3)) (kk : zJ l g own cc nL rt nm R mc ms Q k n (pc + 3) ls (.int (iz (min a b)) :: st) h) : zJ l g own cc nL rt nm R mc ms Q k n pc ls (.int (iz b) :: .int (iz a) :: st) h := by
  intro p e s m args below meth c H locs la hC hw hS hl
  rw [z_minc, z_minn] at hk
  refine va_mmin hC.1 hC.2.1 (hC.2.2.1.trans hl.1.1.symm) hC.2.2.2.1 (hC.2.2.2.2.1 _ hk.2.2.1) (hC.2.2.2.2.1 _ (by rw [← z_minn]; exact st_J9_min_7cf53)) (hC.2.2.2.2.1 _ hk.2.1) (hC.2.2.2.2.1 _ hk.1) hR.1 (by have := hR.2; omega) hf.1 hf.2 hd ?_
  have e9 : (if iz b < iz a then iz b else iz a) = iz (min a b) := by
    by_cases hq : b < a
    · rw [if_pos ((iz_lt hb ha).mpr hq), show min a b = b by omega]
    · rw [if_neg (fun z => hq ((iz_lt hb ha).mp z)), show min a b = a by omega]
  rw [e9]
  exact kk p e s m args below meth c H locs la hC hw hS hl
theorem z_copy {q0 q1 n2 : Nat} {f f2 : Nat → Int} (hm : Cond.methodLink own i arraycopyName ∈ zT) (h0 : h[q0]? = some (zA g n2 f)) (he : h[q1]? = some (zA g n2 f2)) (hn2 : n2 ≤ 2147483647) (hR : 1 ≤ R.frames ∧ 38 ≤ R.locals) (hcat : (st.map fun v => v.category).sum ≤ 8) (hd : decode cc pc = .ok (.invokestatic i, 3)) (kk : zJ l g own cc nL rt nm R mc ms Q k n (pc + 3) ls st (h.set q1 (zA g n2 f))) : zJ l g own cc nL rt nm R mc ms Q k n pc ls (.int (iz n2) :: .int (iz 0) :: .ref (g.2.1 + q1) :: .int (iz 0) :: .ref (g.2.1 + q0) :: st) h := by
  intro p e s m args below meth c H locs la hC hw hS hl
  have hrn : ir (n2 : Int) := ⟨by omega, by omega⟩
  have cn : (iz (n2 : Int)).toNatClampNeg = n2 := by rw [iz_cl hrn]; simp
  have c0 : (iz 0).toNatClampNeg = 0 := rfl
  have nn : ¬ iz (n2 : Int) < 0 := fun q => by rw [← iz_0, iz_lt hrn ir_0] at q; omega
  have n0 : ¬ iz 0 < 0 := by decide
  have h4 : (iz 0).toNatClampNeg + (iz (n2 : Int)).toNatClampNeg ≤ n2 := by rw [c0, cn]; omega
  have hc0 := hw.1 q0 _ (zws_at h0)
  have hc1 := hw.1 q1 _ (zws_at he)
  obtain ⟨-, k0, hk0, cm0, hkk0⟩ := (hw.2.2.2 0 _ rfl).1 n2 (fun j => .int (iz (f j)))
  obtain ⟨-, k1, hk1, cm1, hkk1⟩ := (hw.2.2.2 0 _ rfl).1 n2 (fun j => .int (iz (f2 j)))
  intro T hT X
  obtain ⟨vm', X', step⟩ := X.arraycopy hC.1 hC.2.2.2.1 (hC.2.2.2.2.1 _ hm) (hC.2.2.2.2.1 _ ac_nat) (hC.2.2.2.2.1 _ ac_st) (hC.2.2.2.2.1 _ ac_ini) (src := g.2.1 + q0) (dst := g.2.1 + q1) (cs := vp_cell (g.2.2 0) (n2, .inl (fun j => iz (f j)))) (cd := vp_cell (g.2.2 0) (n2, .inl (fun j => iz (f2 j)))) (srcPos := iz 0) (destPos := iz 0) (n := iz n2) (by rw [hT]; exact hc0) (by rw [hT]; exact hc1)
    (fun _ h => by cases h) (fun _ h => by cases h) (fun h => by cases h) (fun h => by cases h) hk0 hk1 hkk0 hkk1 (by simp [refKind]) n0 n0 nn
    (by rw [iz_toInt hrn, iz_toInt ir_0]; show ¬ _ > ((arrV (g.2.2 0) n2 (fun j => .int (iz (f j)))).slots.size : Int); rw [arrV_size]; omega)
    (by rw [iz_toInt hrn, iz_toInt ir_0]; show ¬ _ > ((arrV (g.2.2 0) n2 (fun j => .int (iz (f2 j)))).slots.size : Int); rw [arrV_size]; omega)
    (fun vm₁ _ i hi => by
      rw [cn] at hi
      have e9 : (vp_cell (g.2.2 0) (n2, .inl (fun j => iz (f j)))).slots.getD ((iz 0).toNatClampNeg + i) .null = .int (iz (f i)) := by
        rw [c0, Nat.zero_add]
        show (arrV (g.2.2 0) n2 (fun j => .int (iz (f j)))).slots.getD _ _ = _
        rw [Array.getD_eq_getD_getElem?, arrV_read _ _ hi]
        rfl
      refine ⟨?_, ?_⟩
      · rw [e9]; rfl
      · rw [e9]; exact trivial)
    (g := F0 m pc la (.int (iz n2) :: .int (iz 0) :: .ref (g.2.1 + q1) :: .int (iz 0) :: .ref (g.2.1 + q0) :: st)) rfl (by rw [hC.2.2.1]; exact hl.1.1) (rest := st) rfl (by rw [hC.2.1]; exact hd) hR.1 (by show 2 * 0 + _ + (5 + 2 + 11) ≤ _; have := hR.2; omega)
  have e1 : copied (vp_cell (g.2.2 0) (n2, .inl (fun j => iz (f j)))) (vp_cell (g.2.2 0) (n2, .inl (fun j => iz (f2 j)))) (iz 0) (iz 0) (iz n2) = vp_cell (g.2.2 0) (n2, .inl (fun j => iz (f j))) := by
    refine (va_copied (fun z => Value.int z) (g.2.2 0) (g.2.2 0) (fun j => iz (f j)) (fun j => iz (f2 j)) h4).trans ?_
    rw [c0, cn]
    show arrV (g.2.2 0) n2 (fun j => Value.int (va_cpy (fun j => iz (f j)) (fun j => iz (f2 j)) 0 0 n2 j)) = arrV (g.2.2 0) n2 (fun j => Value.int (iz (f j)))
    refine z_arr (fun j hj => ?_)
    have e9 : va_cpy (fun j => iz (f j)) (fun j => iz (f2 j)) 0 0 n2 j = iz (f j) := by rw [pk_cpy_in (by omega) (by omega)]; simp
    exact congrArg Value.int e9
  rw [e1] at X' step
  have hla : g.2.1 + q1 < H.size := (Array.getElem?_eq_some_iff.mp hc1).1
  refine Exists.imp (fun t ht => ⟨step t ht.1, ht.2⟩) (kk p e s m args below meth c (H.setIfInBounds (g.2.1 + q1) (vp_cell (g.2.2 0) (n2, .inl (fun j => iz (f j))))) _ la hC (zw_set hw he (show (H.setIfInBounds (g.2.1 + q1) _)[g.2.1 + q1]? = some _ by simp [Array.getElem?_setIfInBounds, hla]) (by simp) (fun x hx => by simp [Array.getElem?_setIfInBounds, Ne.symm hx])) ⟨by simp; exact hS.1, fun x g1 g2 => by
      rw [show (H.setIfInBounds (g.2.1 + q1) (vp_cell (g.2.2 0) (n2, .inl (fun j => iz (f j)))))[x]? = H[x]? by simp [Array.getElem?_setIfInBounds, show ¬ g.2.1 + q1 = x from fun e => g2 (by show g.2.1 ≤ x; omega)]]
      exact hS.2.1 x g1 g2, fun x hx => by
      rcases List.mem_append.mp hx with h | h
      · exact hS.2.2 x h
      · obtain ⟨z, -, hz⟩ := List.mem_map.mp h
        rw [← hz]
        exact Nat.le_add_right _ _⟩ hl _ (by rw [← hT]; rfl) X')
end ZMATH
end
section
/-! ===== a row's contents beyond its end are nobody's ===== -/
theorem z_cell {l : Launch} {g : zG} {own : String} {cc : ByteArray} {nL : Nat} {rt : Option FieldType} {nm : String} {R : Room} {mc ms : Nat} {Q : Option Value → List va_E → Prop} {k n pc : Nat} {ls : List (Option Value)} {st : List Value} {h : List va_E} {q N : Nat} {f f2 : Nat → Int} (he : h[q]? = some (zA g N f)) (hff : ∀ j, j < N → f j = f2 j) (kk : zJ l g own cc nL rt nm R mc ms Q k n pc ls st (h.set q (zA g N f2))) : zJ l g own cc nL rt nm R mc ms Q k n pc ls st h := by
  intro p e s m args below meth c H locs la hC hw hS hl
  refine kk p e s m args below meth c H locs la hC (zw_set hw he ?_ rfl (fun _ _ => rfl)) hS hl
  have h1 := hw.1 q _ (zws_at he)
  have e9 : vp_cell (g.2.2 0) (N, .inl (fun j => iz (f j))) = vp_cell (g.2.2 0) (N, .inl (fun j => iz (f2 j))) := by
    rw [vp_cell_i, vp_cell_i]
    exact z_arr (fun j hj => by rw [hff j hj])
  show H[_]? = some (vp_cell (g.2.2 0) (N, .inl (fun j => iz (f2 j))))
  rw [← e9]
  exact h1
end
section
/-! ===== sums ===== -/
def sm (f : Nat → Int) : Nat → Int
  | 0 => 0
  | n + 1 => sm f n + f n
theorem sm_cong {f g : Nat → Int} : ∀ {n : Nat}, (∀ j, j < n → f j = g j) → sm f n = sm g n
  | 0, _ => rfl
  | n + 1, h => by
    show sm f n + f n = sm g n + g n
    rw [sm_cong (fun j hj => h j (by omega)), h n (by omega)]
theorem sm_add (f g : Nat → Int) : ∀ n, sm (fun j => f j + g j) n = sm f n + sm g n
  | 0 => rfl
  | n + 1 => by
    show sm (fun j => f j + g j) n + (f n + g n) = (sm f n + f n) + (sm g n + g n)
    rw [sm_add f g n]; omega
theorem sm_mulr (f : Nat → Int) (a : Int) : ∀ n, sm (fun j => f j * a) n = sm f n * a
  | 0 => by show (0 : Int) = 0 * a; rw [Int.zero_mul]
  | n + 1 => by
    show sm (fun j => f j * a) n + f n * a = (sm f n + f n) * a
    rw [sm_mulr f a n, Int.add_mul]
theorem sm_le {f g : Nat → Int} : ∀ {n : Nat}, (∀ j, j < n → f j ≤ g j) → sm f n ≤ sm g n
  | 0, _ => Int.le_refl 0
  | n + 1, h => Int.add_le_add (sm_le (fun j hj => h j (by omega))) (h n (by omega))
theorem sm_zero {f : Nat → Int} : ∀ {n : Nat}, (∀ j, j < n → f j = 0) → sm f n = 0
  | 0, _ => rfl
  | n + 1, h => by
    show sm f n + f n = 0
    rw [sm_zero (fun j hj => h j (by omega)), h n (by omega)]; rfl
theorem sm_bd {f : Nat → Int} {a b : Int} : ∀ {n : Nat}, (∀ j, j < n → a ≤ f j ∧ f j ≤ b) → n * a ≤ sm f n ∧ sm f n ≤ n * b
  | 0, _ => by simp [sm]
  | n + 1, h => by
    have h1 := sm_bd (n := n) (fun j hj => h j (by omega))
    have h2 := h n (by omega)
    have e : ∀ x : Int, ((n + 1 : Nat) : Int) * x = n * x + x := fun x => by rw [Int.natCast_add, Int.add_mul]; simp
    rw [e, e]
    exact ⟨Int.add_le_add h1.1 h2.1, Int.add_le_add h1.2 h2.2⟩
theorem sm_upd {f : Nat → Int} {i : Nat} {v : Int} : ∀ {n : Nat}, i < n → sm (vf_upd f i v) n = sm f n - f i + v
  | 0, h => absurd h (Nat.not_lt_zero i)
  | n + 1, h => by
    show sm (vf_upd f i v) n + vf_upd f i v n = sm f n + f n - f i + v
    by_cases hi : i = n
    · subst hi
      rw [sm_cong (g := f) (fun j hj => by unfold vf_upd; rw [if_neg (by omega)])]
      unfold vf_upd; rw [if_pos rfl]; omega
    · rw [sm_upd (by omega : i < n)]
      unfold vf_upd; rw [if_neg (fun e => hi e.symm)]; omega
/-- the greatest of f 0 .. f (n - 1), and 0 -/
def mxs (f : Nat → Int) : Nat → Int
  | 0 => 0
  | n + 1 => max (mxs f n) (f n)
/-! ===== what a Book says ===== -/
def fnd (F : Nat → Nat → Int) (k t o : Nat) : Int := F 6 ((k * 4 + o) * 40 + t)
def nda (F : Nat → Nat → Int) (k t : Nat) : Int := sm (fnd F k t) 4
def bt (F : Nat → Nat → Int) (o t : Nat) : Int := F 7 (o * 40 + t)
def ahs (F : Nat → Nat → Int) (t o : Nat) : Int := sm (fun j => if (t : Int) < j + F 4 o then bt F o j else 0) (t + 1)
def ahd (F : Nat → Nat → Int) (k t : Nat) : Int := sm (fun o => if F 3 o = k then ahs F t o else 0) (F 1 2).toNat
def nah (F : Nat → Nat → Int) (k t : Nat) : Int := max 0 (nda F k t - ahd F k t)
def ofc (F : Nat → Nat → Int) (k : Nat) : Int := sm (fun o => if F 3 o = k then sm (bt F o) (F 1 0).toNat * F 5 o else 0) (F 1 2).toNat
def plc (F : Nat → Nat → Int) (k : Nat) : Int := ofc F k + sm (fun t => nah F k t * F 2 k) (F 1 0).toNat
/-- what holds of a Book at place p -/
def bi (F : Nat → Nat → Int) (p : Nat) : Prop := (1 ≤ F p 0 ∧ F p 0 ≤ 40) ∧ (0 ≤ F p 1 ∧ F p 1 ≤ 3) ∧ (0 ≤ F p 2 ∧ F p 2 ≤ 6) ∧ (∀ j, 0 ≤ F (p + 1) j ∧ F (p + 1) j ≤ 1000) ∧ (∀ j : Nat, (j : Int) < F p 1 → 1 ≤ F (p + 1) j) ∧ (∀ j, 0 ≤ F (p + 2) j ∧ F (p + 2) j ≤ 2) ∧ (∀ j : Nat, (j : Int) < F p 2 → F (p + 2) j < F p 1) ∧ (∀ j, 0 ≤ F (p + 3) j ∧ F (p + 3) j ≤ 40) ∧ (∀ j : Nat, (j : Int) < F p 2 → 1 ≤ F (p + 3) j) ∧ (∀ j, 0 ≤ F (p + 4) j ∧ F (p + 4) j ≤ 100000) ∧ (∀ j, 0 ≤ F (p + 5) j ∧ F (p + 5) j ≤ 9) ∧ (∀ j, 0 ≤ F (p + 6) j ∧ F (p + 6) j ≤ 60) ∧ ∀ o t : Nat, o < 6 → t < 40 → F p 0 ≤ t → F (p + 6) (o * 40 + t) = 0
section BI
variable {F : Nat → Nat → Int} (B : bi F 1)
theorem bi_hours (B : bi F 1) : 1 ≤ F 1 0 ∧ F 1 0 ≤ 40 := B.1
theorem bi_kinds (B : bi F 1) : 0 ≤ F 1 1 ∧ F 1 1 ≤ 3 := B.2.1
theorem bi_offers (B : bi F 1) : 0 ≤ F 1 2 ∧ F 1 2 ≤ 6 := B.2.2.1
theorem bi_rates (B : bi F 1) : ∀ j, 0 ≤ F 2 j ∧ F 2 j ≤ 1000 := B.2.2.2.1
theorem bi_rate1 (B : bi F 1) : ∀ j : Nat, (j : Int) < F 1 1 → 1 ≤ F 2 j := B.2.2.2.2.1
theorem bi_kindOf (B : bi F 1) : ∀ j, 0 ≤ F 3 j ∧ F 3 j ≤ 2 := B.2.2.2.2.2.1
theorem bi_kindIn (B : bi F 1) : ∀ j : Nat, (j : Int) < F 1 2 → F 3 j < F 1 1 := B.2.2.2.2.2.2.1
theorem bi_terms (B : bi F 1) : ∀ j, 0 ≤ F 4 j ∧ F 4 j ≤ 40 := B.2.2.2.2.2.2.2.1
theorem bi_term1 (B : bi F 1) : ∀ j : Nat, (j : Int) < F 1 2 → 1 ≤ F 4 j := B.2.2.2.2.2.2.2.2.1
theorem bi_costs (B : bi F 1) : ∀ j, 0 ≤ F 5 j ∧ F 5 j ≤ 100000 := B.2.2.2.2.2.2.2.2.2.1
theorem bi_needs (B : bi F 1) : ∀ j, 0 ≤ F 6 j ∧ F 6 j ≤ 9 := B.2.2.2.2.2.2.2.2.2.2.1
theorem bi_bought (B : bi F 1) : ∀ j, 0 ≤ F 7 j ∧ F 7 j ≤ 60 := B.2.2.2.2.2.2.2.2.2.2.2.1
theorem nda_bd (B : bi F 1) (k t : Nat) : 0 ≤ nda F k t ∧ nda F k t ≤ 36 := by
  have := sm_bd (f := fnd F k t) (a := 0) (b := 9) (n := 4) (fun j _ => bi_needs B _)
  unfold nda; omega
theorem ahs_bd (B : bi F 1) (t o : Nat) : 0 ≤ ahs F t o ∧ ahs F t o ≤ 60 * (t + 1) := by
  have := sm_bd (f := fun j => if (t : Int) < j + F 4 o then bt F o j else 0) (a := 0) (b := 60) (n := t + 1) (fun j _ => by have := bi_bought B (o * 40 + j); show 0 ≤ ite _ (F 7 (o * 40 + j)) _ ∧ ite _ (F 7 (o * 40 + j)) _ ≤ 60; split <;> omega)
  unfold ahs; omega
theorem ahd_bd (B : bi F 1) {t : Nat} (ht : t < 40) (k : Nat) : 0 ≤ ahd F k t ∧ ahd F k t ≤ 14400 := by
  have h1 := bi_offers B
  have := sm_bd (f := fun o => if F 3 o = k then ahs F t o else 0) (a := 0) (b := 2400) (n := (F 1 2).toNat) (fun j _ => by have := ahs_bd B t j; show 0 ≤ ite _ _ _ ∧ ite _ _ _ ≤ (2400 : Int); split <;> omega)
  unfold ahd; omega
theorem nah_bd (B : bi F 1) {t : Nat} (ht : t < 40) (k : Nat) : 0 ≤ nah F k t ∧ nah F k t ≤ 36 := by
  have h1 := nda_bd B k t
  have h2 := ahd_bd B ht k
  unfold nah; omega
theorem bts_bd (B : bi F 1) (o : Nat) : 0 ≤ sm (bt F o) (F 1 0).toNat ∧ sm (bt F o) (F 1 0).toNat ≤ 2400 := by
  have h1 := bi_hours B
  have := sm_bd (f := bt F o) (a := 0) (b := 60) (n := (F 1 0).toNat) (fun j _ => bi_bought B _)
  omega
end BI
section BOOK
variable {l : Launch} {g : zG} {F : Nat → Nat → Int} {L : Nat → Int} {im : Nat → Option Nat} {c : Nat}
def fl (f : Nat → Int) (a b : Nat) (v : Int) : Nat → Int := fun j => if a ≤ j ∧ j < b then v else f j
theorem fl_0 (f : Nat → Int) (a : Nat) (v : Int) : fl f a a v = f := by funext j; unfold fl; rw [if_neg (by omega)]
theorem fl_s (f : Nat → Int) {a b : Nat} (v : Int) (h : a ≤ b) : vf_upd (fl f a b v) b v = fl f a (b + 1) v := by
  funext j
  unfold vf_upd fl
  by_cases h1 : j = b
  · rw [if_pos h1, if_pos (by omega)]
  · rw [if_neg h1]
    by_cases h2 : a ≤ j ∧ j < b
    · rw [if_pos h2, if_pos (by omega)]
    · rw [if_neg h2, if_neg (by omega)]
theorem set_id {h : List va_E} {q : Nat} {e : va_E} (he : h[q]? = some e) : h.set q e = h := by
  apply List.ext_getElem?
  intro j
  by_cases hj : q = j
  · subst hj
    rw [List.getElem?_set_self (List.getElem?_eq_some_iff.mp he).1, he]
  · rw [List.getElem?_set_ne hj]
theorem set_at {h : List va_E} {q : Nat} {e e2 : va_E} (he : h[q]? = some e) : (h.set q e2)[q]? = some e2 := List.getElem?_set_self (List.getElem?_eq_some_iff.mp he).1
theorem c_rangeCheck {h : List va_E} {n a b : Nat} (hn : n ≤ 100000) (hab : a ≤ b) (hbn : b ≤ n) : zM l g yJ7_rangeCheck_23922 cJ7_rangeCheck_23922 3 none 0 0 0 [.int (iz n), .int (iz a), .int (iz b)] (h) (fun r h2 => r = none ∧ h2 = h) := by
  refine zM_of 0 (by decide) rfl ?_
  show zJ l g RJ7 cJ7_rangeCheck_23922 3 none "rangeCheck" (zRm 0 0 0) 0 0 _ 0 0 0 [some (.int (iz n)), some (.int (iz a)), some (.int (iz b))] [] _
  refine z_iload_n (pc := 0) rfl dJ7_rangeCheck_23922_0 ?_
  refine z_iload_n (pc := 1) rfl dJ7_rangeCheck_23922_1 ?_
  refine z_icmp_le (pc := 2) ⟨by omega, by omega⟩ ⟨by omega, by omega⟩ 46 (by decide) dJ7_rangeCheck_23922_2 (fun hq => ?_) (fun hq => ?_)
  · refine z_iload_n (pc := 46) rfl dJ7_rangeCheck_23922_46 ?_
    refine z_if_ge (pc := 47) ⟨by omega, by omega⟩ 59 (by decide) dJ7_rangeCheck_23922_47 (fun hq => ?_) (fun hq => ?_)
    · refine z_iload_n (pc := 59) rfl dJ7_rangeCheck_23922_59 ?_
      refine z_iload_n (pc := 60) rfl dJ7_rangeCheck_23922_60 ?_
      refine z_icmp_le (pc := 61) ⟨by omega, by omega⟩ ⟨by omega, by omega⟩ 73 (by decide) dJ7_rangeCheck_23922_61 (fun hq => ?_) (fun hq => ?_)
      · exact z_retv (pc := 73) rfl (by decide) (by decide) dJ7_rangeCheck_23922_73 ⟨rfl, rfl⟩
      omega
    omega
  omega
theorem c_fill4 {h : List va_E} {q n a b : Nat} {f : Nat → Int} {v : Int} (he : h[q]? = some (zA g n f)) (hn : n ≤ 100000) (hab : a ≤ b) (hbn : b ≤ n) : zM l g yJ7_fill_fda19 cJ7_fill_fda19 5 none 1 0 0 [.ref (g.2.1 + q), .int (iz a), .int (iz b), .int (iz v)] (h) (fun r h2 => r = none ∧ h2 = h.set q (zA g n (fl f a b v))) := by
  refine zM_of 1 (by decide) rfl ?_
  show zJ l g RJ7 cJ7_fill_fda19 5 none "fill" (zRm 1 0 0) 0 0 _ 0 0 0 [some (.ref (g.2.1 + q)), some (.int (iz a)), some (.int (iz b)), some (.int (iz v)), none] [] _
  have loop : ∀ (j x : Nat), x + j = b → a ≤ x → zJ l g RJ7 cJ7_fill_fda19 5 none "fill" (zRm 1 0 0) 0 0 (fun r h2 => r = none ∧ h2 = h.set q (zA g n (fl f a b v))) 0 0 10 [some (.ref (g.2.1 + q)), some (.int (iz a)), some (.int (iz b)), some (.int (iz v)), some (.int (iz x))] [] (h.set q (zA g n (fl f a x v))) := by
    intro j
    induction j with
    | zero =>
      intro x hx hax
      refine z_iload (pc := 10) rfl dJ7_fill_fda19_10 ?_
      refine z_iload_n (pc := 12) rfl dJ7_fill_fda19_12 ?_
      refine z_icmp_ge (pc := 13) ⟨by omega, by omega⟩ ⟨by omega, by omega⟩ 27 (by decide) dJ7_fill_fda19_13 (fun hq => ?_) (fun hq => ?_)
      · rw [show x = b by omega]
        exact z_retv (pc := 27) rfl (by decide) (by decide) dJ7_fill_fda19_27 ⟨rfl, rfl⟩
      omega
    | succ j ih =>
      intro x hx hax
      refine z_iload (pc := 10) rfl dJ7_fill_fda19_10 ?_
      refine z_iload_n (pc := 12) rfl dJ7_fill_fda19_12 ?_
      refine z_icmp_ge (pc := 13) ⟨by omega, by omega⟩ ⟨by omega, by omega⟩ 27 (by decide) dJ7_fill_fda19_13 (fun hq => ?_) (fun hq => ?_)
      · omega
      refine z_aload_n (pc := 16) rfl dJ7_fill_fda19_16 ?_
      refine z_iload (pc := 17) rfl dJ7_fill_fda19_17 ?_
      refine z_iload_n (pc := 19) rfl dJ7_fill_fda19_19 ?_
      refine z_iast (pc := 20) (set_at he) (by omega) (by omega) (by omega) dJ7_fill_fda19_20 ?_
      refine z_hp (show _ = h.set q (zA g n (fl f a (x + 1) v)) by rw [List.set_set, Int.toNat_natCast, fl_s f v hax]) ?_
      refine z_ii4 (pc := 21) (by decide) rfl dJ7_fill_fda19_21 ?_
      refine z_goto (pc := 24) 10 (by decide) dJ7_fill_fda19_24 ?_
      exact ih (x + 1) (by omega) (by omega)
  refine z_aload_n (pc := 0) rfl dJ7_fill_fda19_0 ?_
  refine z_alen (pc := 1) he dJ7_fill_fda19_1 ?_
  refine z_iload_n (pc := 2) rfl dJ7_fill_fda19_2 ?_
  refine z_iload_n (pc := 3) rfl dJ7_fill_fda19_3 ?_
  refine z_S3 (pc := 4) (c_rangeCheck (n := n) hn hab hbn) lk_J7_13 st_J7_rangeCheck_23922 ⟨by decide, by decide⟩ (Nat.le_of_ble_eq_true rfl) ⟨by decide, by decide⟩ dJ7_fill_fda19_4 (fun r h9 hq => ?_)
  obtain ⟨rfl, e9⟩ := hq
  rw [e9]
  clear e9 h9
  refine z_r0 ?_
  refine z_iload_n (pc := 7) rfl dJ7_fill_fda19_7 ?_
  refine z_is4 (pc := 8) (by decide) rfl dJ7_fill_fda19_8 ?_
  refine z_hp (show h = h.set q (zA g n (fl f a a v)) by rw [fl_0, set_id he]) ?_
  exact loop (b - a) a (by omega) (by omega)
theorem c_fill2 {h : List va_E} {q n : Nat} {f : Nat → Int} {v : Int} (he : h[q]? = some (zA g n f)) (hn : n ≤ 100000) : zM l g yJ7_fill_53178 cJ7_fill_53178 4 none 0 0 0 [.ref (g.2.1 + q), .int (iz v)] (h) (fun r h2 => r = none ∧ h2 = h.set q (zA g n (fl f 0 n v))) := by
  refine zM_of 2 (by decide) rfl ?_
  show zJ l g RJ7 cJ7_fill_53178 4 none "fill" (zRm 0 0 0) 0 0 _ 0 0 0 [some (.ref (g.2.1 + q)), some (.int (iz v)), none, none] [] _
  have loop : ∀ (j x : Nat), x + j = n → zJ l g RJ7 cJ7_fill_53178 4 none "fill" (zRm 0 0 0) 0 0 (fun r h2 => r = none ∧ h2 = h.set q (zA g n (fl f 0 n v))) 0 0 5 [some (.ref (g.2.1 + q)), some (.int (iz v)), some (.int (iz x)), some (.int (iz n))] [] (h.set q (zA g n (fl f 0 x v))) := by
    intro j
    induction j with
    | zero =>
      intro x hx
      refine z_iload_n (pc := 5) rfl dJ7_fill_53178_5 ?_
      refine z_iload_n (pc := 6) rfl dJ7_fill_53178_6 ?_
      refine z_icmp_ge (pc := 7) ⟨by omega, by omega⟩ ⟨by omega, by omega⟩ 20 (by decide) dJ7_fill_53178_7 (fun hq => ?_) (fun hq => ?_)
      · rw [show x = n by omega]
        exact z_retv (pc := 20) rfl (by decide) (by decide) dJ7_fill_53178_20 ⟨rfl, rfl⟩
      omega
    | succ j ih =>
      intro x hx
      refine z_iload_n (pc := 5) rfl dJ7_fill_53178_5 ?_
      refine z_iload_n (pc := 6) rfl dJ7_fill_53178_6 ?_
      refine z_icmp_ge (pc := 7) ⟨by omega, by omega⟩ ⟨by omega, by omega⟩ 20 (by decide) dJ7_fill_53178_7 (fun hq => ?_) (fun hq => ?_)
      · omega
      refine z_aload_n (pc := 10) rfl dJ7_fill_53178_10 ?_
      refine z_iload_n (pc := 11) rfl dJ7_fill_53178_11 ?_
      refine z_iload_n (pc := 12) rfl dJ7_fill_53178_12 ?_
      refine z_iast (pc := 13) (set_at he) (by omega) (by omega) (by omega) dJ7_fill_53178_13 ?_
      refine z_hp (show _ = h.set q (zA g n (fl f 0 (x + 1) v)) by rw [List.set_set, Int.toNat_natCast, fl_s f v (Nat.zero_le x)]) ?_
      refine z_ii2 (pc := 14) (by decide) rfl dJ7_fill_53178_14 ?_
      refine z_goto (pc := 17) 5 (by decide) dJ7_fill_53178_17 ?_
      exact ih (x + 1) (by omega)
  refine z_iconst (pc := 0) dJ7_fill_53178_0 ?_
  refine z_is2 (pc := 1) (by decide) rfl dJ7_fill_53178_1 ?_
  refine z_aload_n (pc := 2) rfl dJ7_fill_53178_2 ?_
  refine z_alen (pc := 3) he dJ7_fill_53178_3 ?_
  refine z_is3 (pc := 4) (by decide) rfl dJ7_fill_53178_4 ?_
  refine z_hp (show h = h.set q (zA g n (fl f 0 0 v)) by rw [fl_0, set_id he]) ?_
  exact loop n 0 (by omega)
theorem c_hasHour (B : bi F 1) {z : Int} (hz : ir z) : zM l g yX1_hasHour cX1_hasHour 2 (some .boolean) 0 0 0 [.ref (g.2.1 + 1), .int (iz z)] (zk g F L im c) (fun r h => r = some (.int (iz (if 0 ≤ z ∧ z < F 1 0 then 1 else 0))) ∧ h = zk g F L im c) := by
  refine zM_of 0 (by decide) rfl ?_
  show zJ l g RX1 cX1_hasHour 2 (some .boolean) "hasHour" (zRm 0 0 0) 0 0 _ 0 0 0 [some (.ref (g.2.1 + 1)), some (.int (iz z))] [] _
  have hF : ir (F 1 0) := by have h1 := bi_hours B; have h2 := bi_kinds B; have h3 := bi_offers B; exact ⟨by omega, by omega⟩
  refine z_iload_n (pc := 0) rfl dX1_hasHour_0 ?_
  refine z_if_lt (pc := 1) hz 16 (by decide) dX1_hasHour_1 (fun hq => ?_) (fun hq => ?_)
  · rw [if_neg (by omega)]
    refine z_iconst (pc := 16) dX1_hasHour_16 ?_
    exact z_retz (pc := 17) rfl (Or.inl rfl) (by decide) (by decide) dX1_hasHour_17 ⟨rfl, rfl⟩
  refine z_iload_n (pc := 4) rfl dX1_hasHour_4 ?_
  refine z_aload_n (pc := 5) rfl dX1_hasHour_5 ?_
  refine zf_X1_9 (pc := 6) rfl rfl dX1_hasHour_6 ?_
  refine z_icmp_ge (pc := 9) hz hF 16 (by decide) dX1_hasHour_9 (fun hq => ?_) (fun hq => ?_)
  · rw [if_neg (by omega)]
    refine z_iconst (pc := 16) dX1_hasHour_16 ?_
    exact z_retz (pc := 17) rfl (Or.inl rfl) (by decide) (by decide) dX1_hasHour_17 ⟨rfl, rfl⟩
  rw [if_pos (by omega)]
  refine z_iconst (pc := 12) dX1_hasHour_12 ?_
  refine z_goto (pc := 13) 17 (by decide) dX1_hasHour_13 ?_
  exact z_retz (pc := 17) rfl (Or.inr rfl) (by decide) (by decide) dX1_hasHour_17 ⟨rfl, rfl⟩
theorem c_hasKind (B : bi F 1) {z : Int} (hz : ir z) : zM l g yX1_hasKind cX1_hasKind 2 (some .boolean) 0 0 0 [.ref (g.2.1 + 1), .int (iz z)] (zk g F L im c) (fun r h => r = some (.int (iz (if 0 ≤ z ∧ z < F 1 1 then 1 else 0))) ∧ h = zk g F L im c) := by
  refine zM_of 0 (by decide) rfl ?_
  show zJ l g RX1 cX1_hasKind 2 (some .boolean) "hasKind" (zRm 0 0 0) 0 0 _ 0 0 0 [some (.ref (g.2.1 + 1)), some (.int (iz z))] [] _
  have hF : ir (F 1 1) := by have h1 := bi_hours B; have h2 := bi_kinds B; have h3 := bi_offers B; exact ⟨by omega, by omega⟩
  refine z_iload_n (pc := 0) rfl dX1_hasKind_0 ?_
  refine z_if_lt (pc := 1) hz 16 (by decide) dX1_hasKind_1 (fun hq => ?_) (fun hq => ?_)
  · rw [if_neg (by omega)]
    refine z_iconst (pc := 16) dX1_hasKind_16 ?_
    exact z_retz (pc := 17) rfl (Or.inl rfl) (by decide) (by decide) dX1_hasKind_17 ⟨rfl, rfl⟩
  refine z_iload_n (pc := 4) rfl dX1_hasKind_4 ?_
  refine z_aload_n (pc := 5) rfl dX1_hasKind_5 ?_
  refine zf_X1_34 (pc := 6) rfl rfl dX1_hasKind_6 ?_
  refine z_icmp_ge (pc := 9) hz hF 16 (by decide) dX1_hasKind_9 (fun hq => ?_) (fun hq => ?_)
  · rw [if_neg (by omega)]
    refine z_iconst (pc := 16) dX1_hasKind_16 ?_
    exact z_retz (pc := 17) rfl (Or.inl rfl) (by decide) (by decide) dX1_hasKind_17 ⟨rfl, rfl⟩
  rw [if_pos (by omega)]
  refine z_iconst (pc := 12) dX1_hasKind_12 ?_
  refine z_goto (pc := 13) 17 (by decide) dX1_hasKind_13 ?_
  exact z_retz (pc := 17) rfl (Or.inr rfl) (by decide) (by decide) dX1_hasKind_17 ⟨rfl, rfl⟩
theorem c_hasOffer (B : bi F 1) {z : Int} (hz : ir z) : zM l g yX1_hasOffer cX1_hasOffer 2 (some .boolean) 0 0 0 [.ref (g.2.1 + 1), .int (iz z)] (zk g F L im c) (fun r h => r = some (.int (iz (if 0 ≤ z ∧ z < F 1 2 then 1 else 0))) ∧ h = zk g F L im c) := by
  refine zM_of 0 (by decide) rfl ?_
  show zJ l g RX1 cX1_hasOffer 2 (some .boolean) "hasOffer" (zRm 0 0 0) 0 0 _ 0 0 0 [some (.ref (g.2.1 + 1)), some (.int (iz z))] [] _
  have hF : ir (F 1 2) := by have h1 := bi_hours B; have h2 := bi_kinds B; have h3 := bi_offers B; exact ⟨by omega, by omega⟩
  refine z_iload_n (pc := 0) rfl dX1_hasOffer_0 ?_
  refine z_if_lt (pc := 1) hz 16 (by decide) dX1_hasOffer_1 (fun hq => ?_) (fun hq => ?_)
  · rw [if_neg (by omega)]
    refine z_iconst (pc := 16) dX1_hasOffer_16 ?_
    exact z_retz (pc := 17) rfl (Or.inl rfl) (by decide) (by decide) dX1_hasOffer_17 ⟨rfl, rfl⟩
  refine z_iload_n (pc := 4) rfl dX1_hasOffer_4 ?_
  refine z_aload_n (pc := 5) rfl dX1_hasOffer_5 ?_
  refine zf_X1_37 (pc := 6) rfl rfl dX1_hasOffer_6 ?_
  refine z_icmp_ge (pc := 9) hz hF 16 (by decide) dX1_hasOffer_9 (fun hq => ?_) (fun hq => ?_)
  · rw [if_neg (by omega)]
    refine z_iconst (pc := 16) dX1_hasOffer_16 ?_
    exact z_retz (pc := 17) rfl (Or.inl rfl) (by decide) (by decide) dX1_hasOffer_17 ⟨rfl, rfl⟩
  rw [if_pos (by omega)]
  refine z_iconst (pc := 12) dX1_hasOffer_12 ?_
  refine z_goto (pc := 13) 17 (by decide) dX1_hasOffer_13 ?_
  exact z_retz (pc := 17) rfl (Or.inr rfl) (by decide) (by decide) dX1_hasOffer_17 ⟨rfl, rfl⟩
theorem c_isOfferOf (B : bi F 1) {z : Int} (hz : ir z) {k : Nat} (hk : k < 3) : zM l g yX1_isOfferOf cX1_isOfferOf 3 (some .boolean) 1 0 0 [.ref (g.2.1 + 1), .int (iz z), .int (iz k)] (zk g F L im c) (fun r h => r = some (.int (iz (if 0 ≤ z ∧ z < F 1 2 ∧ F 3 z.toNat = k then 1 else 0))) ∧ h = zk g F L im c) := by
  refine zM_of 0 (by decide) rfl ?_
  show zJ l g RX1 cX1_isOfferOf 3 (some .boolean) "isOfferOf" (zRm 1 0 0) 0 0 _ 0 0 0 [some (.ref (g.2.1 + 1)), some (.int (iz z)), some (.int (iz k))] [] _
  have h3 := bi_offers B
  refine z_aload_n (pc := 0) rfl dX1_isOfferOf_0 ?_
  refine z_iload_n (pc := 1) rfl dX1_isOfferOf_1 ?_
  refine z_V1 (pc := 2) (c_hasOffer B hz) lk_X1_46 iv_X1_hasOffer rfl rfl ⟨by decide, by decide⟩ (Nat.le_of_ble_eq_true rfl) ⟨by decide, by decide⟩ dX1_isOfferOf_2 (fun r h9 hq => ?_)
  obtain ⟨rfl, e9⟩ := hq
  rw [e9]
  clear e9 h9
  refine z_r1 ?_
  by_cases hc : 0 ≤ z ∧ z < F 1 2
  · rw [if_pos hc]
    refine z_if_eq (pc := 5) ⟨by omega, by omega⟩ 22 (by decide) dX1_isOfferOf_5 (fun hq => ?_) (fun hq => ?_)
    · omega
    have hko := bi_kindOf B z.toNat
    refine z_aload_n (pc := 8) rfl dX1_isOfferOf_8 ?_
    refine zf_X1_19 (pc := 9) rfl rfl dX1_isOfferOf_9 ?_
    refine z_iload_n (pc := 12) rfl dX1_isOfferOf_12 ?_
    refine z_iald (pc := 13) rfl (by decide) (by omega) (by omega) dX1_isOfferOf_13 ?_
    refine z_iload_n (pc := 14) rfl dX1_isOfferOf_14 ?_
    refine z_icmp_ne (pc := 15) ⟨by omega, by omega⟩ ⟨by omega, by omega⟩ 22 (by decide) dX1_isOfferOf_15 (fun hq => ?_) (fun hq => ?_)
    · rw [if_neg (by omega)]
      refine z_iconst (pc := 22) dX1_isOfferOf_22 ?_
      exact z_retz (pc := 23) rfl (Or.inl rfl) (by decide) (by decide) dX1_isOfferOf_23 ⟨rfl, rfl⟩
    rw [if_pos (by omega)]
    refine z_iconst (pc := 18) dX1_isOfferOf_18 ?_
    refine z_goto (pc := 19) 23 (by decide) dX1_isOfferOf_19 ?_
    exact z_retz (pc := 23) rfl (Or.inr rfl) (by decide) (by decide) dX1_isOfferOf_23 ⟨rfl, rfl⟩
  · rw [if_neg hc]
    refine z_if_eq (pc := 5) ⟨by omega, by omega⟩ 22 (by decide) dX1_isOfferOf_5 (fun hq => ?_) (fun hq => ?_)
    · rw [if_neg (by omega)]
      refine z_iconst (pc := 22) dX1_isOfferOf_22 ?_
      exact z_retz (pc := 23) rfl (Or.inl rfl) (by decide) (by decide) dX1_isOfferOf_23 ⟨rfl, rfl⟩
    omega
theorem c_needOf {o k t : Nat} (ho : o < 4) (hk : k < 3) (ht : t < 40) : zM l g yX1_needOf cX1_needOf 4 (some .int) 0 0 0 [.ref (g.2.1 + 1), .int (iz o), .int (iz k), .int (iz t)] (zk g F L im c) (fun r h => r = some (.int (iz (fnd F k t o))) ∧ h = zk g F L im c) := by
  refine zM_of 0 (by decide) rfl ?_
  show zJ l g RX1 cX1_needOf 4 (some .int) "needOf" (zRm 0 0 0) 0 0 _ 0 0 0 [some (.ref (g.2.1 + 1)), some (.int (iz o)), some (.int (iz k)), some (.int (iz t))] [] _
  refine z_aload_n (pc := 0) rfl dX1_needOf_0 ?_
  refine zf_X1_28 (pc := 1) rfl rfl dX1_needOf_1 ?_
  refine z_iload_n (pc := 4) rfl dX1_needOf_4 ?_
  refine z_iconst (pc := 5) dX1_needOf_5 ?_
  refine z_imul (pc := 6) dX1_needOf_6 ?_
  refine z_iload_n (pc := 7) rfl dX1_needOf_7 ?_
  refine z_iadd (pc := 8) dX1_needOf_8 ?_
  refine z_bipush (pc := 9) (by decide) dX1_needOf_9 ?_
  refine z_imul (pc := 11) dX1_needOf_11 ?_
  refine z_iload_n (pc := 12) rfl dX1_needOf_12 ?_
  refine z_iadd (pc := 13) dX1_needOf_13 ?_
  refine z_iald (pc := 14) rfl (by decide) (by omega) (by omega) dX1_needOf_14 ?_
  exact z_reti (pc := 15) rfl (by decide) (by decide) dX1_needOf_15 ⟨congrArg (fun x => some (Value.int (iz (F 6 x)))) (by omega), rfl⟩
theorem c_needOfAll {k t : Nat} (hk : k < 3) (ht : t < 40) : zM l g yX1_needOfAll cX1_needOfAll 5 (some .int) 1 0 0 [.ref (g.2.1 + 1), .int (iz k), .int (iz t)] (zk g F L im c) (fun r h => r = some (.int (iz (nda F k t))) ∧ h = zk g F L im c) := by
  refine zM_of 2 (by decide) rfl ?_
  show zJ l g RX1 cX1_needOfAll 5 (some .int) "needOfAll" (zRm 1 0 0) 0 0 _ 0 0 0 [some (.ref (g.2.1 + 1)), some (.int (iz k)), some (.int (iz t)), none, none] [] _
  have loop : ∀ (j i : Nat), i + j = 4 → zJ l g RX1 cX1_needOfAll 5 (some .int) "needOfAll" (zRm 1 0 0) 0 0 (fun r h => r = some (.int (iz (nda F k t))) ∧ h = zk g F L im c) 0 0 5 [some (.ref (g.2.1 + 1)), some (.int (iz k)), some (.int (iz t)), some (.int (iz (sm (fnd F k t) i))), some (.int (iz i))] [] (zk g F L im c) := by
    intro j
    induction j with
    | zero =>
      intro i hi
      refine z_iload (pc := 5) rfl dX1_needOfAll_5 ?_
      refine z_iconst (pc := 7) dX1_needOfAll_7 ?_
      refine z_icmp_ge (pc := 8) ⟨by omega, by omega⟩ ⟨by omega, by omega⟩ 28 (by decide) dX1_needOfAll_8 (fun hq => ?_) (fun hq => ?_)
      · refine z_iload_n (pc := 28) rfl dX1_needOfAll_28 ?_
        exact z_reti (pc := 29) rfl (by decide) (by decide) dX1_needOfAll_29 ⟨by rw [show i = 4 by omega]; rfl, rfl⟩
      omega
    | succ j ih =>
      intro i hi
      refine z_iload (pc := 5) rfl dX1_needOfAll_5 ?_
      refine z_iconst (pc := 7) dX1_needOfAll_7 ?_
      refine z_icmp_ge (pc := 8) ⟨by omega, by omega⟩ ⟨by omega, by omega⟩ 28 (by decide) dX1_needOfAll_8 (fun hq => ?_) (fun hq => ?_)
      · omega
      refine z_iload_n (pc := 11) rfl dX1_needOfAll_11 ?_
      refine z_aload_n (pc := 12) rfl dX1_needOfAll_12 ?_
      refine z_iload (pc := 13) rfl dX1_needOfAll_13 ?_
      refine z_iload_n (pc := 15) rfl dX1_needOfAll_15 ?_
      refine z_iload_n (pc := 16) rfl dX1_needOfAll_16 ?_
      refine z_V3 (pc := 17) (c_needOf (o := i) (by omega) hk ht) lk_X1_60 iv_X1_needOf rfl rfl ⟨by decide, by decide⟩ (Nat.le_of_ble_eq_true rfl) ⟨by decide, by decide⟩ dX1_needOfAll_17 (fun r h9 hq => ?_)
      obtain ⟨rfl, e9⟩ := hq
      rw [e9]
      clear e9 h9
      refine z_r1 ?_
      refine z_iadd (pc := 20) dX1_needOfAll_20 ?_
      refine z_is3 (pc := 21) (by decide) rfl dX1_needOfAll_21 ?_
      refine z_ii4 (pc := 22) (by decide) rfl dX1_needOfAll_22 ?_
      refine z_goto (pc := 25) 5 (by decide) dX1_needOfAll_25 ?_
      exact ih (i + 1) (by omega)
  refine z_iconst (pc := 0) dX1_needOfAll_0 ?_
  refine z_is3 (pc := 1) (by decide) rfl dX1_needOfAll_1 ?_
  refine z_iconst (pc := 2) dX1_needOfAll_2 ?_
  refine z_is4 (pc := 3) (by decide) rfl dX1_needOfAll_3 ?_
  exact loop 4 0 rfl
theorem c_needInAll (B : bi F 1) {k : Nat} (hk : k < 3) : zM l g yX1_needInAll cX1_needInAll 4 (some .int) 2 0 0 [.ref (g.2.1 + 1), .int (iz k)] (zk g F L im c) (fun r h => r = some (.int (iz (sm (nda F k) (F 1 0).toNat))) ∧ h = zk g F L im c) := by
  refine zM_of 2 (by decide) rfl ?_
  show zJ l g RX1 cX1_needInAll 4 (some .int) "needInAll" (zRm 2 0 0) 0 0 _ 0 0 0 [some (.ref (g.2.1 + 1)), some (.int (iz k)), none, none] [] _
  have h1 := bi_hours B
  have h3 := bi_offers B
  have loop : ∀ (j i : Nat), i + j = (F 1 0).toNat → zJ l g RX1 cX1_needInAll 4 (some .int) "needInAll" (zRm 2 0 0) 0 0 (fun r h => r = some (.int (iz (sm (nda F k) (F 1 0).toNat))) ∧ h = zk g F L im c) 0 0 4 [some (.ref (g.2.1 + 1)), some (.int (iz k)), some (.int (iz (sm (nda F k) i))), some (.int (iz i))] [] (zk g F L im c) := by
    intro j
    induction j with
    | zero =>
      intro i hi
      refine z_iload_n (pc := 4) rfl dX1_needInAll_4 ?_
      refine z_aload_n (pc := 5) rfl dX1_needInAll_5 ?_
      refine zf_X1_9 (pc := 6) rfl rfl dX1_needInAll_6 ?_
      refine z_icmp_ge (pc := 9) ⟨by omega, by omega⟩ ⟨by omega, by omega⟩ 27 (by decide) dX1_needInAll_9 (fun hq => ?_) (fun hq => ?_)
      · refine z_iload_n (pc := 27) rfl dX1_needInAll_27 ?_
        exact z_reti (pc := 28) rfl (by decide) (by decide) dX1_needInAll_28 ⟨by rw [show i = (F 1 0).toNat by omega], rfl⟩
      omega
    | succ j ih =>
      intro i hi
      refine z_iload_n (pc := 4) rfl dX1_needInAll_4 ?_
      refine z_aload_n (pc := 5) rfl dX1_needInAll_5 ?_
      refine zf_X1_9 (pc := 6) rfl rfl dX1_needInAll_6 ?_
      refine z_icmp_ge (pc := 9) ⟨by omega, by omega⟩ ⟨by omega, by omega⟩ 27 (by decide) dX1_needInAll_9 (fun hq => ?_) (fun hq => ?_)
      · omega
      refine z_iload_n (pc := 12) rfl dX1_needInAll_12 ?_
      refine z_aload_n (pc := 13) rfl dX1_needInAll_13 ?_
      refine z_iload_n (pc := 14) rfl dX1_needInAll_14 ?_
      refine z_iload_n (pc := 15) rfl dX1_needInAll_15 ?_
      refine z_V2 (pc := 16) (c_needOfAll (t := i) hk (by omega)) lk_X1_64 iv_X1_needOfAll rfl rfl ⟨by decide, by decide⟩ (Nat.le_of_ble_eq_true rfl) ⟨by decide, by decide⟩ dX1_needInAll_16 (fun r h9 hq => ?_)
      obtain ⟨rfl, e9⟩ := hq
      rw [e9]
      clear e9 h9
      refine z_r1 ?_
      refine z_iadd (pc := 19) dX1_needInAll_19 ?_
      refine z_is2 (pc := 20) (by decide) rfl dX1_needInAll_20 ?_
      refine z_ii3 (pc := 21) (by decide) rfl dX1_needInAll_21 ?_
      refine z_goto (pc := 24) 4 (by decide) dX1_needInAll_24 ?_
      exact ih (i + 1) (by omega)
  refine z_iconst (pc := 0) dX1_needInAll_0 ?_
  refine z_is2 (pc := 1) (by decide) rfl dX1_needInAll_1 ?_
  refine z_iconst (pc := 2) dX1_needInAll_2 ?_
  refine z_is3 (pc := 3) (by decide) rfl dX1_needInAll_3 ?_
  exact loop (F 1 0).toNat 0 (by omega)
theorem mxs_bd {f : Nat → Int} {b : Int} (hb : 0 ≤ b) : ∀ {n : Nat}, (∀ j, j < n → f j ≤ b) → 0 ≤ mxs f n ∧ mxs f n ≤ b
  | 0, _ => ⟨Int.le_refl 0, hb⟩
  | n + 1, h => by
    have h1 := mxs_bd (n := n) hb (fun j hj => h j (by omega))
    have h2 := h n (by omega)
    show 0 ≤ max (mxs f n) (f n) ∧ max (mxs f n) (f n) ≤ b
    omega
theorem c_mostNeed (B : bi F 1) {k : Nat} (hk : k < 3) : zM l g yX1_mostNeed cX1_mostNeed 4 (some .int) 2 0 0 [.ref (g.2.1 + 1), .int (iz k)] (zk g F L im c) (fun r h => r = some (.int (iz (mxs (nda F k) (F 1 0).toNat))) ∧ h = zk g F L im c) := by
  refine zM_of 2 (by decide) rfl ?_
  show zJ l g RX1 cX1_mostNeed 4 (some .int) "mostNeed" (zRm 2 0 0) 0 0 _ 0 0 0 [some (.ref (g.2.1 + 1)), some (.int (iz k)), none, none] [] _
  have h1 := bi_hours B
  have loop : ∀ (j i : Nat), i + j = (F 1 0).toNat → zJ l g RX1 cX1_mostNeed 4 (some .int) "mostNeed" (zRm 2 0 0) 0 0 (fun r h => r = some (.int (iz (mxs (nda F k) (F 1 0).toNat))) ∧ h = zk g F L im c) 0 0 4 [some (.ref (g.2.1 + 1)), some (.int (iz k)), some (.int (iz (mxs (nda F k) i))), some (.int (iz i))] [] (zk g F L im c) := by
    intro j
    induction j with
    | zero =>
      intro i hi
      refine z_iload_n (pc := 4) rfl dX1_mostNeed_4 ?_
      refine z_aload_n (pc := 5) rfl dX1_mostNeed_5 ?_
      refine zf_X1_9 (pc := 6) rfl rfl dX1_mostNeed_6 ?_
      refine z_icmp_ge (pc := 9) ⟨by omega, by omega⟩ ⟨by omega, by omega⟩ 29 (by decide) dX1_mostNeed_9 (fun hq => ?_) (fun hq => ?_)
      · refine z_iload_n (pc := 29) rfl dX1_mostNeed_29 ?_
        exact z_reti (pc := 30) rfl (by decide) (by decide) dX1_mostNeed_30 ⟨by rw [show i = (F 1 0).toNat by omega], rfl⟩
      omega
    | succ j ih =>
      intro i hi
      refine z_iload_n (pc := 4) rfl dX1_mostNeed_4 ?_
      refine z_aload_n (pc := 5) rfl dX1_mostNeed_5 ?_
      refine zf_X1_9 (pc := 6) rfl rfl dX1_mostNeed_6 ?_
      refine z_icmp_ge (pc := 9) ⟨by omega, by omega⟩ ⟨by omega, by omega⟩ 29 (by decide) dX1_mostNeed_9 (fun hq => ?_) (fun hq => ?_)
      · omega
      have h5 := nda_bd B k i
      have h6 := mxs_bd (f := nda F k) (b := 36) (by omega) (n := i) (fun j _ => (nda_bd B k j).2)
      refine z_iload_n (pc := 12) rfl dX1_mostNeed_12 ?_
      refine z_aload_n (pc := 13) rfl dX1_mostNeed_13 ?_
      refine z_iload_n (pc := 14) rfl dX1_mostNeed_14 ?_
      refine z_iload_n (pc := 15) rfl dX1_mostNeed_15 ?_
      refine z_V2 (pc := 16) (c_needOfAll (t := i) hk (by omega)) lk_X1_64 iv_X1_needOfAll rfl rfl ⟨by decide, by decide⟩ (Nat.le_of_ble_eq_true rfl) ⟨by decide, by decide⟩ dX1_mostNeed_16 (fun r h9 hq => ?_)
      obtain ⟨rfl, e9⟩ := hq
      rw [e9]
      clear e9 h9
      refine z_r1 ?_
      refine z_mmax (pc := 19) lk_X1_68 ⟨by omega, by omega⟩ ⟨by omega, by omega⟩ ⟨by decide, by decide⟩ (Nat.le_of_ble_eq_true rfl) ⟨by decide, by decide⟩ dX1_mostNeed_19 ?_
      refine z_is2 (pc := 22) (by decide) rfl dX1_mostNeed_22 ?_
      refine z_ii3 (pc := 23) (by decide) rfl dX1_mostNeed_23 ?_
      refine z_goto (pc := 26) 4 (by decide) dX1_mostNeed_26 ?_
      exact ih (i + 1) (by omega)
  refine z_iconst (pc := 0) dX1_mostNeed_0 ?_
  refine z_is2 (pc := 1) (by decide) rfl dX1_mostNeed_1 ?_
  refine z_iconst (pc := 2) dX1_mostNeed_2 ?_
  refine z_is3 (pc := 3) (by decide) rfl dX1_mostNeed_3 ?_
  exact loop (F 1 0).toNat 0 (by omega)
theorem c_offersOf (B : bi F 1) {k : Nat} (hk : k < 3) : zM l g yX1_offersOf cX1_offersOf 4 (some .int) 0 0 0 [.ref (g.2.1 + 1), .int (iz k)] (zk g F L im c) (fun r h => r = some (.int (iz (sm (fun o => if F 3 o = k then 1 else 0) (F 1 2).toNat))) ∧ h = zk g F L im c) := by
  refine zM_of 2 (by decide) rfl ?_
  show zJ l g RX1 cX1_offersOf 4 (some .int) "offersOf" (zRm 0 0 0) 0 0 _ 0 0 0 [some (.ref (g.2.1 + 1)), some (.int (iz k)), none, none] [] _
  have h3 := bi_offers B
  have loop : ∀ (j i : Nat), i + j = (F 1 2).toNat → zJ l g RX1 cX1_offersOf 4 (some .int) "offersOf" (zRm 0 0 0) 0 0 (fun r h => r = some (.int (iz (sm (fun o => if F 3 o = k then 1 else 0) (F 1 2).toNat))) ∧ h = zk g F L im c) 0 0 4 [some (.ref (g.2.1 + 1)), some (.int (iz k)), some (.int (iz (sm (fun o => if F 3 o = k then 1 else 0) i))), some (.int (iz i))] [] (zk g F L im c) := by
    intro j
    induction j with
    | zero =>
      intro i hi
      refine z_iload_n (pc := 4) rfl dX1_offersOf_4 ?_
      refine z_aload_n (pc := 5) rfl dX1_offersOf_5 ?_
      refine zf_X1_37 (pc := 6) rfl rfl dX1_offersOf_6 ?_
      refine z_icmp_ge (pc := 9) ⟨by omega, by omega⟩ ⟨by omega, by omega⟩ 36 (by decide) dX1_offersOf_9 (fun hq => ?_) (fun hq => ?_)
      · refine z_iload_n (pc := 36) rfl dX1_offersOf_36 ?_
        exact z_reti (pc := 37) rfl (by decide) (by decide) dX1_offersOf_37 ⟨by rw [show i = (F 1 2).toNat by omega], rfl⟩
      omega
    | succ j ih =>
      intro i hi
      refine z_iload_n (pc := 4) rfl dX1_offersOf_4 ?_
      refine z_aload_n (pc := 5) rfl dX1_offersOf_5 ?_
      refine zf_X1_37 (pc := 6) rfl rfl dX1_offersOf_6 ?_
      refine z_icmp_ge (pc := 9) ⟨by omega, by omega⟩ ⟨by omega, by omega⟩ 36 (by decide) dX1_offersOf_9 (fun hq => ?_) (fun hq => ?_)
      · omega
      refine z_iload_n (pc := 12) rfl dX1_offersOf_12 ?_
      refine z_aload_n (pc := 13) rfl dX1_offersOf_13 ?_
      refine zf_X1_19 (pc := 14) rfl rfl dX1_offersOf_14 ?_
      refine z_iload_n (pc := 17) rfl dX1_offersOf_17 ?_
      refine z_iald (pc := 18) rfl (by decide) (by omega) (by omega) dX1_offersOf_18 ?_
      refine z_iload_n (pc := 19) rfl dX1_offersOf_19 ?_
      have h5 := bi_kindOf B i
      have e : sm (fun o => if F 3 o = k then 1 else 0) (i + 1) = sm (fun o => if F 3 o = k then 1 else 0) i + (if F 3 i = k then 1 else 0) := rfl
      refine z_icmp_ne (pc := 20) (by rw [Int.toNat_natCast]; exact ⟨by omega, by omega⟩) ⟨by omega, by omega⟩ 27 (by decide) dX1_offersOf_20 (fun hq => ?_) (fun hq => ?_)
      · rw [Int.toNat_natCast] at hq
        rw [if_neg hq] at e
        refine z_iconst (pc := 27) dX1_offersOf_27 ?_
        refine z_iadd (pc := 28) dX1_offersOf_28 ?_
        rw [← e]
        refine z_is2 (pc := 29) (by decide) rfl dX1_offersOf_29 ?_
        refine z_ii3 (pc := 30) (by decide) rfl dX1_offersOf_30 ?_
        refine z_goto (pc := 33) 4 (by decide) dX1_offersOf_33 ?_
        exact ih (i + 1) (by omega)
      rw [Int.toNat_natCast] at hq
      rw [if_pos hq] at e
      refine z_iconst (pc := 23) dX1_offersOf_23 ?_
      refine z_goto (pc := 24) 28 (by decide) dX1_offersOf_24 ?_
      refine z_iadd (pc := 28) dX1_offersOf_28 ?_
      rw [← e]
      refine z_is2 (pc := 29) (by decide) rfl dX1_offersOf_29 ?_
      refine z_ii3 (pc := 30) (by decide) rfl dX1_offersOf_30 ?_
      refine z_goto (pc := 33) 4 (by decide) dX1_offersOf_33 ?_
      exact ih (i + 1) (by omega)
  refine z_iconst (pc := 0) dX1_offersOf_0 ?_
  refine z_is2 (pc := 1) (by decide) rfl dX1_offersOf_1 ?_
  refine z_iconst (pc := 2) dX1_offersOf_2 ?_
  refine z_is3 (pc := 3) (by decide) rfl dX1_offersOf_3 ?_
  exact loop (F 1 2).toNat 0 (by omega)
theorem c_boughtAt {o t : Nat} (ho : o < 6) (ht : t < 40) : zM l g yX1_boughtAt cX1_boughtAt 3 (some .int) 0 0 0 [.ref (g.2.1 + 1), .int (iz o), .int (iz t)] (zk g F L im c) (fun r h => r = some (.int (iz (bt F o t))) ∧ h = zk g F L im c) := by
  refine zM_of 0 (by decide) rfl ?_
  show zJ l g RX1 cX1_boughtAt 3 (some .int) "boughtAt" (zRm 0 0 0) 0 0 _ 0 0 0 [some (.ref (g.2.1 + 1)), some (.int (iz o)), some (.int (iz t))] [] _
  refine z_aload_n (pc := 0) rfl dX1_boughtAt_0 ?_
  refine zf_X1_31 (pc := 1) rfl rfl dX1_boughtAt_1 ?_
  refine z_iload_n (pc := 4) rfl dX1_boughtAt_4 ?_
  refine z_bipush (pc := 5) (by decide) dX1_boughtAt_5 ?_
  refine z_imul (pc := 7) dX1_boughtAt_7 ?_
  refine z_iload_n (pc := 8) rfl dX1_boughtAt_8 ?_
  refine z_iadd (pc := 9) dX1_boughtAt_9 ?_
  refine z_iald (pc := 10) rfl (by decide) (by omega) (by omega) dX1_boughtAt_10 ?_
  exact z_reti (pc := 11) rfl (by decide) (by decide) dX1_boughtAt_11 ⟨congrArg (fun x => some (Value.int (iz (F 7 x)))) (by omega), rfl⟩
def bwi (F : Nat → Nat → Int) (o a n : Nat) : Int := sm (fun j => if a ≤ j then bt F o j else 0) n
theorem c_boughtWithin {o a b : Nat} {z : Int} (hz : z = (b : Int) - 1) (ho : o < 6) (hab : a ≤ b) (hb : b ≤ 40) : zM l g yX1_boughtWithin cX1_boughtWithin 6 (some .int) 1 0 0 [.ref (g.2.1 + 1), .int (iz o), .int (iz a), .int (iz z)] (zk g F L im c) (fun r h => r = some (.int (iz (bwi F o a b))) ∧ h = zk g F L im c) := by
  refine zM_of 2 (by decide) rfl ?_
  show zJ l g RX1 cX1_boughtWithin 6 (some .int) "boughtWithin" (zRm 1 0 0) 0 0 _ 0 0 0 [some (.ref (g.2.1 + 1)), some (.int (iz o)), some (.int (iz a)), some (.int (iz z)), none, none] [] _
  subst hz
  have e0 : bwi F o a a = 0 := sm_zero (fun j hj => if_neg (by omega))
  have es : ∀ x, a ≤ x → bwi F o a (x + 1) = bwi F o a x + bt F o x := fun x hx => by
    show _ + ite _ _ _ = _
    rw [if_pos hx]; rfl
  have loop : ∀ (j x : Nat), x + j = b → a ≤ x → zJ l g RX1 cX1_boughtWithin 6 (some .int) "boughtWithin" (zRm 1 0 0) 0 0 (fun r h => r = some (.int (iz (bwi F o a b))) ∧ h = zk g F L im c) 0 0 6 [some (.ref (g.2.1 + 1)), some (.int (iz o)), some (.int (iz a)), some (.int (iz ((b : Int) - 1))), some (.int (iz (bwi F o a x))), some (.int (iz x))] [] (zk g F L im c) := by
    intro j
    induction j with
    | zero =>
      intro x hx hax
      refine z_iload (pc := 6) rfl dX1_boughtWithin_6 ?_
      refine z_iload_n (pc := 8) rfl dX1_boughtWithin_8 ?_
      refine z_icmp_gt (pc := 9) ⟨by omega, by omega⟩ ⟨by omega, by omega⟩ 30 (by decide) dX1_boughtWithin_9 (fun hq => ?_) (fun hq => ?_)
      · refine z_iload (pc := 30) rfl dX1_boughtWithin_30 ?_
        exact z_reti (pc := 32) rfl (by decide) (by decide) dX1_boughtWithin_32 ⟨by rw [show x = b by omega], rfl⟩
      omega
    | succ j ih =>
      intro x hx hax
      refine z_iload (pc := 6) rfl dX1_boughtWithin_6 ?_
      refine z_iload_n (pc := 8) rfl dX1_boughtWithin_8 ?_
      refine z_icmp_gt (pc := 9) ⟨by omega, by omega⟩ ⟨by omega, by omega⟩ 30 (by decide) dX1_boughtWithin_9 (fun hq => ?_) (fun hq => ?_)
      · omega
      refine z_iload (pc := 12) rfl dX1_boughtWithin_12 ?_
      refine z_aload_n (pc := 14) rfl dX1_boughtWithin_14 ?_
      refine z_iload_n (pc := 15) rfl dX1_boughtWithin_15 ?_
      refine z_iload (pc := 16) rfl dX1_boughtWithin_16 ?_
      refine z_V2 (pc := 18) (c_boughtAt (o := o) (t := x) ho (by omega)) lk_X1_90 iv_X1_boughtAt rfl rfl ⟨by decide, by decide⟩ (Nat.le_of_ble_eq_true rfl) ⟨by decide, by decide⟩ dX1_boughtWithin_18 (fun r h9 hq => ?_)
      obtain ⟨rfl, e9⟩ := hq
      rw [e9]
      clear e9 h9
      refine z_r1 ?_
      refine z_iadd (pc := 21) dX1_boughtWithin_21 ?_
      rw [← es x hax]
      refine z_is4 (pc := 22) (by decide) rfl dX1_boughtWithin_22 ?_
      refine z_ii5 (pc := 24) (by decide) rfl dX1_boughtWithin_24 ?_
      refine z_goto (pc := 27) 6 (by decide) dX1_boughtWithin_27 ?_
      exact ih (x + 1) (by omega) (by omega)
  refine z_iconst (pc := 0) dX1_boughtWithin_0 ?_
  rw [← e0]
  refine z_is4 (pc := 1) (by decide) rfl dX1_boughtWithin_1 ?_
  refine z_iload_n (pc := 3) rfl dX1_boughtWithin_3 ?_
  refine z_is5 (pc := 4) (by decide) rfl dX1_boughtWithin_4 ?_
  exact loop (b - a) a (by omega) (by omega)
theorem c_boughtInAll (B : bi F 1) {o : Nat} (ho : o < 6) : zM l g yX1_boughtInAll cX1_boughtInAll 2 (some .int) 2 0 0 [.ref (g.2.1 + 1), .int (iz o)] (zk g F L im c) (fun r h => r = some (.int (iz (sm (bt F o) (F 1 0).toNat))) ∧ h = zk g F L im c) := by
  refine zM_of 0 (by decide) rfl ?_
  show zJ l g RX1 cX1_boughtInAll 2 (some .int) "boughtInAll" (zRm 2 0 0) 0 0 _ 0 0 0 [some (.ref (g.2.1 + 1)), some (.int (iz o))] [] _
  have h1 := bi_hours B
  refine z_aload_n (pc := 0) rfl dX1_boughtInAll_0 ?_
  refine z_iload_n (pc := 1) rfl dX1_boughtInAll_1 ?_
  refine z_iconst (pc := 2) dX1_boughtInAll_2 ?_
  refine z_aload_n (pc := 3) rfl dX1_boughtInAll_3 ?_
  refine zf_X1_9 (pc := 4) rfl rfl dX1_boughtInAll_4 ?_
  refine z_iconst (pc := 7) dX1_boughtInAll_7 ?_
  refine z_isub (pc := 8) dX1_boughtInAll_8 ?_
  refine z_V3 (pc := 9) (c_boughtWithin (o := o) (a := 0) (b := (F 1 0).toNat) (by omega) ho (by omega) (by omega)) lk_X1_73 iv_X1_boughtWithin rfl rfl ⟨by decide, by decide⟩ (Nat.le_of_ble_eq_true rfl) ⟨by decide, by decide⟩ dX1_boughtInAll_9 (fun r h9 hq => ?_)
  obtain ⟨rfl, e9⟩ := hq
  rw [e9]
  clear e9 h9
  refine z_r1 ?_
  exact z_reti (pc := 12) rfl (by decide) (by decide) dX1_boughtInAll_12 ⟨by rw [show bwi F o 0 (F 1 0).toNat = sm (bt F o) (F 1 0).toNat from sm_cong (fun j _ => if_pos (Nat.zero_le j))], rfl⟩
end BOOK
end
section
/-! ===== Book: the plan and its cost; what changes a Book ===== -/
section BOOK2
variable {l : Launch} {g : zG} {F : Nat → Nat → Int} {L : Nat → Int} {im : Nat → Option Nat} {c : Nat}
theorem ahs_bwi {F : Nat → Nat → Int} {t o a : Nat} (h1 : 1 ≤ F 4 o) (ha : (a : Int) = max 0 ((t : Int) - F 4 o + 1)) : bwi F o a (t + 1) = ahs F t o := by
  refine sm_cong (fun j hj => ?_)
  by_cases h : a ≤ j
  · rw [if_pos h, if_pos (by omega)]
  · rw [if_neg h, if_neg (by omega)]
theorem c_ahead (B : bi F 1) {k t : Nat} (hk : k < 3) (ht : t < 40) : zM l g yX1_ahead cX1_ahead 5 (some .int) 2 0 0 [.ref (g.2.1 + 1), .int (iz k), .int (iz t)] (zk g F L im c) (fun r h => r = some (.int (iz (ahd F k t))) ∧ h = zk g F L im c) := by
  refine zM_of 2 (by decide) rfl ?_
  show zJ l g RX1 cX1_ahead 5 (some .int) "ahead" (zRm 2 0 0) 0 0 _ 0 0 0 [some (.ref (g.2.1 + 1)), some (.int (iz k)), some (.int (iz t)), none, none] [] _
  have h3 := bi_offers B
  have loop : ∀ (j i : Nat), i + j = (F 1 2).toNat → zJ l g RX1 cX1_ahead 5 (some .int) "ahead" (zRm 2 0 0) 0 0 (fun r h => r = some (.int (iz (ahd F k t))) ∧ h = zk g F L im c) 0 0 5 [some (.ref (g.2.1 + 1)), some (.int (iz k)), some (.int (iz t)), some (.int (iz (sm (fun o => if F 3 o = k then ahs F t o else 0) i))), some (.int (iz i))] [] (zk g F L im c) := by
    intro j
    induction j with
    | zero =>
      intro i hi
      refine z_iload (pc := 5) rfl dX1_ahead_5 ?_
      refine z_aload_n (pc := 7) rfl dX1_ahead_7 ?_
      refine zf_X1_37 (pc := 8) rfl rfl dX1_ahead_8 ?_
      refine z_icmp_ge (pc := 11) ⟨by omega, by omega⟩ ⟨by omega, by omega⟩ 56 (by decide) dX1_ahead_11 (fun hq => ?_) (fun hq => ?_)
      · refine z_iload_n (pc := 56) rfl dX1_ahead_56 ?_
        exact z_reti (pc := 57) rfl (by decide) (by decide) dX1_ahead_57 ⟨by rw [show i = (F 1 2).toNat by omega]; rfl, rfl⟩
      omega
    | succ j ih =>
      intro i hi
      have h5 := bi_kindOf B i
      have h6 := bi_terms B i
      have h7 := bi_term1 B i (by omega)
      have e : sm (fun o => if F 3 o = k then ahs F t o else 0) (i + 1) = sm (fun o => if F 3 o = k then ahs F t o else 0) i + (if F 3 i = k then ahs F t i else 0) := rfl
      refine z_iload (pc := 5) rfl dX1_ahead_5 ?_
      refine z_aload_n (pc := 7) rfl dX1_ahead_7 ?_
      refine zf_X1_37 (pc := 8) rfl rfl dX1_ahead_8 ?_
      refine z_icmp_ge (pc := 11) ⟨by omega, by omega⟩ ⟨by omega, by omega⟩ 56 (by decide) dX1_ahead_11 (fun hq => ?_) (fun hq => ?_)
      · omega
      refine z_aload_n (pc := 14) rfl dX1_ahead_14 ?_
      refine zf_X1_19 (pc := 15) rfl rfl dX1_ahead_15 ?_
      refine z_iload (pc := 18) rfl dX1_ahead_18 ?_
      refine z_iald (pc := 20) rfl (by decide) (by omega) (by omega) dX1_ahead_20 ?_
      rw [Int.toNat_natCast]
      refine z_iload_n (pc := 21) rfl dX1_ahead_21 ?_
      refine z_icmp_ne (pc := 22) ⟨by omega, by omega⟩ ⟨by omega, by omega⟩ 50 (by decide) dX1_ahead_22 (fun hq => ?_) (fun hq => ?_)
      · rw [if_neg hq, Int.add_zero] at e
        rw [← e]
        refine z_ii4 (pc := 50) (by decide) rfl dX1_ahead_50 ?_
        refine z_goto (pc := 53) 5 (by decide) dX1_ahead_53 ?_
        exact ih (i + 1) (by omega)
      rw [if_pos hq] at e
      refine z_iload_n (pc := 25) rfl dX1_ahead_25 ?_
      refine z_aload_n (pc := 26) rfl dX1_ahead_26 ?_
      refine z_iload (pc := 27) rfl dX1_ahead_27 ?_
      refine z_iconst (pc := 29) dX1_ahead_29 ?_
      refine z_iload_n (pc := 30) rfl dX1_ahead_30 ?_
      refine z_aload_n (pc := 31) rfl dX1_ahead_31 ?_
      refine zf_X1_22 (pc := 32) rfl rfl dX1_ahead_32 ?_
      refine z_iload (pc := 35) rfl dX1_ahead_35 ?_
      refine z_iald (pc := 37) rfl (by decide) (by omega) (by omega) dX1_ahead_37 ?_
      rw [Int.toNat_natCast]
      refine z_isub (pc := 38) dX1_ahead_38 ?_
      refine z_iconst (pc := 39) dX1_ahead_39 ?_
      refine z_iadd (pc := 40) dX1_ahead_40 ?_
      refine z_mmax (pc := 41) lk_X1_68 ⟨by omega, by omega⟩ ⟨by omega, by omega⟩ ⟨by decide, by decide⟩ (Nat.le_of_ble_eq_true rfl) ⟨by decide, by decide⟩ dX1_ahead_41 ?_
      obtain ⟨a, ha⟩ := Int.eq_ofNat_of_zero_le (show 0 ≤ max 0 ((t : Int) - F 4 i + 1) by omega)
      rw [ha]
      refine z_iload_n (pc := 44) rfl dX1_ahead_44 ?_
      refine z_V3 (pc := 45) (c_boughtWithin (o := i) (a := a) (b := t + 1) (by omega) (by omega) (by omega) (by omega)) lk_X1_73 iv_X1_boughtWithin rfl rfl ⟨by decide, by decide⟩ (Nat.le_of_ble_eq_true rfl) ⟨by decide, by decide⟩ dX1_ahead_45 (fun r h9 hq => ?_)
      obtain ⟨rfl, e9⟩ := hq
      rw [e9]
      clear e9 h9
      refine z_r1 ?_
      rw [ahs_bwi h7 ha.symm]
      refine z_iadd (pc := 48) dX1_ahead_48 ?_
      rw [← e]
      refine z_is3 (pc := 49) (by decide) rfl dX1_ahead_49 ?_
      refine z_ii4 (pc := 50) (by decide) rfl dX1_ahead_50 ?_
      refine z_goto (pc := 53) 5 (by decide) dX1_ahead_53 ?_
      exact ih (i + 1) (by omega)
  refine z_iconst (pc := 0) dX1_ahead_0 ?_
  refine z_is3 (pc := 1) (by decide) rfl dX1_ahead_1 ?_
  refine z_iconst (pc := 2) dX1_ahead_2 ?_
  refine z_is4 (pc := 3) (by decide) rfl dX1_ahead_3 ?_
  exact loop (F 1 2).toNat 0 (by omega)
theorem c_notAhead (B : bi F 1) {k t : Nat} (hk : k < 3) (ht : t < 40) : zM l g yX1_notAhead cX1_notAhead 3 (some .int) 3 0 0 [.ref (g.2.1 + 1), .int (iz k), .int (iz t)] (zk g F L im c) (fun r h => r = some (.int (iz (nah F k t))) ∧ h = zk g F L im c) := by
  refine zM_of 0 (by decide) rfl ?_
  show zJ l g RX1 cX1_notAhead 3 (some .int) "notAhead" (zRm 3 0 0) 0 0 _ 0 0 0 [some (.ref (g.2.1 + 1)), some (.int (iz k)), some (.int (iz t))] [] _
  have h1 := nda_bd B k t
  have h2 := ahd_bd B ht k
  refine z_iconst (pc := 0) dX1_notAhead_0 ?_
  refine z_aload_n (pc := 1) rfl dX1_notAhead_1 ?_
  refine z_iload_n (pc := 2) rfl dX1_notAhead_2 ?_
  refine z_iload_n (pc := 3) rfl dX1_notAhead_3 ?_
  refine z_V2 (pc := 4) (c_needOfAll hk ht) lk_X1_64 iv_X1_needOfAll rfl rfl ⟨by decide, by decide⟩ (Nat.le_of_ble_eq_true rfl) ⟨by decide, by decide⟩ dX1_notAhead_4 (fun r h9 hq => ?_)
  obtain ⟨rfl, e9⟩ := hq
  rw [e9]
  clear e9 h9
  refine z_r1 ?_
  refine z_aload_n (pc := 7) rfl dX1_notAhead_7 ?_
  refine z_iload_n (pc := 8) rfl dX1_notAhead_8 ?_
  refine z_iload_n (pc := 9) rfl dX1_notAhead_9 ?_
  refine z_V2 (pc := 10) (c_ahead B hk ht) lk_X1_76 iv_X1_ahead rfl rfl ⟨by decide, by decide⟩ (Nat.le_of_ble_eq_true rfl) ⟨by decide, by decide⟩ dX1_notAhead_10 (fun r h9 hq => ?_)
  obtain ⟨rfl, e9⟩ := hq
  rw [e9]
  clear e9 h9
  refine z_r1 ?_
  refine z_isub (pc := 13) dX1_notAhead_13 ?_
  refine z_mmax (pc := 14) lk_X1_68 ⟨by omega, by omega⟩ ⟨by omega, by omega⟩ ⟨by decide, by decide⟩ (Nat.le_of_ble_eq_true rfl) ⟨by decide, by decide⟩ dX1_notAhead_14 ?_
  exact z_reti (pc := 17) rfl (by decide) (by decide) dX1_notAhead_17 ⟨rfl, rfl⟩
theorem c_offersCost (B : bi F 1) {k : Nat} (hk : k < 3) : zM l g yX1_offersCost cX1_offersCost 5 (some .long) 3 0 0 [.ref (g.2.1 + 1), .int (iz k)] (zk g F L im c) (fun r h => r = some (.long (lz (ofc F k))) ∧ h = zk g F L im c) := by
  refine zM_of 3 (by decide) rfl ?_
  show zJ l g RX1 cX1_offersCost 5 (some .long) "offersCost" (zRm 3 0 0) 0 0 _ 0 0 0 [some (.ref (g.2.1 + 1)), some (.int (iz k)), none, none, none] [] _
  have h1 := bi_hours B
  have h3 := bi_offers B
  have loop : ∀ (j i : Nat), i + j = (F 1 2).toNat → zJ l g RX1 cX1_offersCost 5 (some .long) "offersCost" (zRm 3 0 0) 0 0 (fun r h => r = some (.long (lz (ofc F k))) ∧ h = zk g F L im c) 0 0 5 [some (.ref (g.2.1 + 1)), some (.int (iz k)), some (.long (lz (sm (fun o => if F 3 o = k then sm (bt F o) (F 1 0).toNat * F 5 o else 0) i))), none, some (.int (iz i))] [] (zk g F L im c) := by
    intro j
    induction j with
    | zero =>
      intro i hi
      refine z_iload (pc := 5) rfl dX1_offersCost_5 ?_
      refine z_aload_n (pc := 7) rfl dX1_offersCost_7 ?_
      refine zf_X1_37 (pc := 8) rfl rfl dX1_offersCost_8 ?_
      refine z_icmp_ge (pc := 11) ⟨by omega, by omega⟩ ⟨by omega, by omega⟩ 50 (by decide) dX1_offersCost_11 (fun hq => ?_) (fun hq => ?_)
      · refine z_lload_n (pc := 50) rfl dX1_offersCost_50 ?_
        exact z_retl (pc := 51) rfl (by decide) (by decide) dX1_offersCost_51 ⟨by rw [show i = (F 1 2).toNat by omega]; rfl, rfl⟩
      omega
    | succ j ih =>
      intro i hi
      have h5 := bi_kindOf B i
      have h6 := bts_bd B i
      have h7 := bi_costs B i
      have e : sm (fun o => if F 3 o = k then sm (bt F o) (F 1 0).toNat * F 5 o else 0) (i + 1) = sm (fun o => if F 3 o = k then sm (bt F o) (F 1 0).toNat * F 5 o else 0) i + (if F 3 i = k then sm (bt F i) (F 1 0).toNat * F 5 i else 0) := rfl
      refine z_iload (pc := 5) rfl dX1_offersCost_5 ?_
      refine z_aload_n (pc := 7) rfl dX1_offersCost_7 ?_
      refine zf_X1_37 (pc := 8) rfl rfl dX1_offersCost_8 ?_
      refine z_icmp_ge (pc := 11) ⟨by omega, by omega⟩ ⟨by omega, by omega⟩ 50 (by decide) dX1_offersCost_11 (fun hq => ?_) (fun hq => ?_)
      · omega
      refine z_aload_n (pc := 14) rfl dX1_offersCost_14 ?_
      refine zf_X1_19 (pc := 15) rfl rfl dX1_offersCost_15 ?_
      refine z_iload (pc := 18) rfl dX1_offersCost_18 ?_
      refine z_iald (pc := 20) rfl (by decide) (by omega) (by omega) dX1_offersCost_20 ?_
      rw [Int.toNat_natCast]
      refine z_iload_n (pc := 21) rfl dX1_offersCost_21 ?_
      refine z_icmp_ne (pc := 22) ⟨by omega, by omega⟩ ⟨by omega, by omega⟩ 44 (by decide) dX1_offersCost_22 (fun hq => ?_) (fun hq => ?_)
      · rw [if_neg hq, Int.add_zero] at e
        rw [← e]
        refine z_ii4 (pc := 44) (by decide) rfl dX1_offersCost_44 ?_
        refine z_goto (pc := 47) 5 (by decide) dX1_offersCost_47 ?_
        exact ih (i + 1) (by omega)
      rw [if_pos hq] at e
      refine z_lload_n (pc := 25) rfl dX1_offersCost_25 ?_
      refine z_aload_n (pc := 26) rfl dX1_offersCost_26 ?_
      refine z_iload (pc := 27) rfl dX1_offersCost_27 ?_
      refine z_V1 (pc := 29) (c_boughtInAll B (o := i) (by omega)) lk_X1_79 iv_X1_boughtInAll rfl rfl ⟨by decide, by decide⟩ (Nat.le_of_ble_eq_true rfl) ⟨by decide, by decide⟩ dX1_offersCost_29 (fun r h9 hq => ?_)
      obtain ⟨rfl, e9⟩ := hq
      rw [e9]
      clear e9 h9
      refine z_r1 ?_
      refine z_i2l (pc := 32) ⟨by omega, by omega⟩ dX1_offersCost_32 ?_
      refine z_aload_n (pc := 33) rfl dX1_offersCost_33 ?_
      refine zf_X1_25 (pc := 34) rfl rfl dX1_offersCost_34 ?_
      refine z_iload (pc := 37) rfl dX1_offersCost_37 ?_
      refine z_iald (pc := 39) rfl (by decide) (by omega) (by omega) dX1_offersCost_39 ?_
      rw [Int.toNat_natCast]
      refine z_i2l (pc := 40) ⟨by omega, by omega⟩ dX1_offersCost_40 ?_
      refine z_lmul (pc := 41) dX1_offersCost_41 ?_
      refine z_ladd (pc := 42) dX1_offersCost_42 ?_
      rw [← e]
      refine z_ls2 (pc := 43) (by decide) rfl dX1_offersCost_43 ?_
      refine z_ii4 (pc := 44) (by decide) rfl dX1_offersCost_44 ?_
      refine z_goto (pc := 47) 5 (by decide) dX1_offersCost_47 ?_
      exact ih (i + 1) (by omega)
  refine z_lconst (pc := 0) (v := 0) (by decide) dX1_offersCost_0 ?_
  refine z_ls2 (pc := 1) (by decide) rfl dX1_offersCost_1 ?_
  refine z_iconst (pc := 2) dX1_offersCost_2 ?_
  refine z_is4 (pc := 3) (by decide) rfl dX1_offersCost_3 ?_
  exact loop (F 1 2).toNat 0 (by omega)
theorem c_planCost (B : bi F 1) {k : Nat} (hk : k < 3) : zM l g yX1_planCost cX1_planCost 5 (some .long) 4 0 0 [.ref (g.2.1 + 1), .int (iz k)] (zk g F L im c) (fun r h => r = some (.long (lz (plc F k))) ∧ h = zk g F L im c) := by
  refine zM_of 3 (by decide) rfl ?_
  show zJ l g RX1 cX1_planCost 5 (some .long) "planCost" (zRm 4 0 0) 0 0 _ 0 0 0 [some (.ref (g.2.1 + 1)), some (.int (iz k)), none, none, none] [] _
  have h1 := bi_hours B
  have h2 := bi_rates B k
  have loop : ∀ (j i : Nat), i + j = (F 1 0).toNat → zJ l g RX1 cX1_planCost 5 (some .long) "planCost" (zRm 4 0 0) 0 0 (fun r h => r = some (.long (lz (plc F k))) ∧ h = zk g F L im c) 0 0 9 [some (.ref (g.2.1 + 1)), some (.int (iz k)), some (.long (lz (ofc F k + sm (fun t => nah F k t * F 2 k) i))), none, some (.int (iz i))] [] (zk g F L im c) := by
    intro j
    induction j with
    | zero =>
      intro i hi
      refine z_iload (pc := 9) rfl dX1_planCost_9 ?_
      refine z_aload_n (pc := 11) rfl dX1_planCost_11 ?_
      refine zf_X1_9 (pc := 12) rfl rfl dX1_planCost_12 ?_
      refine z_icmp_ge (pc := 15) ⟨by omega, by omega⟩ ⟨by omega, by omega⟩ 43 (by decide) dX1_planCost_15 (fun hq => ?_) (fun hq => ?_)
      · refine z_lload_n (pc := 43) rfl dX1_planCost_43 ?_
        exact z_retl (pc := 44) rfl (by decide) (by decide) dX1_planCost_44 ⟨by rw [show i = (F 1 0).toNat by omega]; rfl, rfl⟩
      omega
    | succ j ih =>
      intro i hi
      have h5 := nah_bd B (t := i) (by omega) k
      have e : ofc F k + sm (fun t => nah F k t * F 2 k) (i + 1) = ofc F k + sm (fun t => nah F k t * F 2 k) i + nah F k i * F 2 k := (Int.add_assoc _ _ _).symm
      refine z_iload (pc := 9) rfl dX1_planCost_9 ?_
      refine z_aload_n (pc := 11) rfl dX1_planCost_11 ?_
      refine zf_X1_9 (pc := 12) rfl rfl dX1_planCost_12 ?_
      refine z_icmp_ge (pc := 15) ⟨by omega, by omega⟩ ⟨by omega, by omega⟩ 43 (by decide) dX1_planCost_15 (fun hq => ?_) (fun hq => ?_)
      · omega
      refine z_lload_n (pc := 18) rfl dX1_planCost_18 ?_
      refine z_aload_n (pc := 19) rfl dX1_planCost_19 ?_
      refine z_iload_n (pc := 20) rfl dX1_planCost_20 ?_
      refine z_iload (pc := 21) rfl dX1_planCost_21 ?_
      refine z_V2 (pc := 23) (c_notAhead B (t := i) hk (by omega)) lk_X1_87 iv_X1_notAhead rfl rfl ⟨by decide, by decide⟩ (Nat.le_of_ble_eq_true rfl) ⟨by decide, by decide⟩ dX1_planCost_23 (fun r h9 hq => ?_)
      obtain ⟨rfl, e9⟩ := hq
      rw [e9]
      clear e9 h9
      refine z_r1 ?_
      refine z_i2l (pc := 26) ⟨by omega, by omega⟩ dX1_planCost_26 ?_
      refine z_aload_n (pc := 27) rfl dX1_planCost_27 ?_
      refine zf_X1_15 (pc := 28) rfl rfl dX1_planCost_28 ?_
      refine z_iload_n (pc := 31) rfl dX1_planCost_31 ?_
      refine z_iald (pc := 32) rfl (by decide) (by omega) (by omega) dX1_planCost_32 ?_
      rw [Int.toNat_natCast]
      refine z_i2l (pc := 33) ⟨by omega, by omega⟩ dX1_planCost_33 ?_
      refine z_lmul (pc := 34) dX1_planCost_34 ?_
      refine z_ladd (pc := 35) dX1_planCost_35 ?_
      rw [← e]
      refine z_ls2 (pc := 36) (by decide) rfl dX1_planCost_36 ?_
      refine z_ii4 (pc := 37) (by decide) rfl dX1_planCost_37 ?_
      refine z_goto (pc := 40) 9 (by decide) dX1_planCost_40 ?_
      exact ih (i + 1) (by omega)
  refine z_aload_n (pc := 0) rfl dX1_planCost_0 ?_
  refine z_iload_n (pc := 1) rfl dX1_planCost_1 ?_
  refine z_V1 (pc := 2) (c_offersCost B hk) lk_X1_83 iv_X1_offersCost rfl rfl ⟨by decide, by decide⟩ (Nat.le_of_ble_eq_true rfl) ⟨by decide, by decide⟩ dX1_planCost_2 (fun r h9 hq => ?_)
  obtain ⟨rfl, e9⟩ := hq
  rw [e9]
  clear e9 h9
  refine z_r1 ?_
  rw [show ofc F k = ofc F k + sm (fun t => nah F k t * F 2 k) 0 from (Int.add_zero _).symm]
  refine z_ls2 (pc := 5) (by decide) rfl dX1_planCost_5 ?_
  refine z_iconst (pc := 6) dX1_planCost_6 ?_
  refine z_is4 (pc := 7) (by decide) rfl dX1_planCost_7 ?_
  exact loop (F 1 0).toNat 0 (by omega)
theorem c_setNeed {o k t : Nat} {v : Int} (ho : o < 4) (hk : k < 3) (ht : t < 40) : zM l g yX1_setNeed cX1_setNeed 5 none 0 0 0 [.ref (g.2.1 + 1), .int (iz o), .int (iz k), .int (iz t), .int (iz v)] (zk g F L im c) (fun r h => r = none ∧ h = zk g (va_up F 6 (vf_upd (F 6) ((k * 4 + o) * 40 + t) v)) L im c) := by
  refine zM_of 0 (by decide) rfl ?_
  show zJ l g RX1 cX1_setNeed 5 none "setNeed" (zRm 0 0 0) 0 0 _ 0 0 0 [some (.ref (g.2.1 + 1)), some (.int (iz o)), some (.int (iz k)), some (.int (iz t)), some (.int (iz v))] [] _
  refine z_aload_n (pc := 0) rfl dX1_setNeed_0 ?_
  refine zf_X1_28 (pc := 1) rfl rfl dX1_setNeed_1 ?_
  refine z_iload_n (pc := 4) rfl dX1_setNeed_4 ?_
  refine z_iconst (pc := 5) dX1_setNeed_5 ?_
  refine z_imul (pc := 6) dX1_setNeed_6 ?_
  refine z_iload_n (pc := 7) rfl dX1_setNeed_7 ?_
  refine z_iadd (pc := 8) dX1_setNeed_8 ?_
  refine z_bipush (pc := 9) (by decide) dX1_setNeed_9 ?_
  refine z_imul (pc := 11) dX1_setNeed_11 ?_
  refine z_iload_n (pc := 12) rfl dX1_setNeed_12 ?_
  refine z_iadd (pc := 13) dX1_setNeed_13 ?_
  refine z_iload (pc := 14) rfl dX1_setNeed_14 ?_
  refine z_iast (pc := 16) rfl (by decide) (by omega) (by omega) dX1_setNeed_16 ?_
  refine z_hp zs_6 ?_
  exact z_retv (pc := 17) rfl (by decide) (by decide) dX1_setNeed_17 ⟨rfl, by rw [show (((k : Int) * 4 + o) * 40 + t).toNat = (k * 4 + o) * 40 + t by omega]⟩
theorem c_setBought {o t : Nat} {v : Int} (ho : o < 6) (ht : t < 40) : zM l g yX1_setBought cX1_setBought 4 none 0 0 0 [.ref (g.2.1 + 1), .int (iz o), .int (iz t), .int (iz v)] (zk g F L im c) (fun r h => r = none ∧ h = zk g (va_up F 7 (vf_upd (F 7) (o * 40 + t) v)) L im c) := by
  refine zM_of 0 (by decide) rfl ?_
  show zJ l g RX1 cX1_setBought 4 none "setBought" (zRm 0 0 0) 0 0 _ 0 0 0 [some (.ref (g.2.1 + 1)), some (.int (iz o)), some (.int (iz t)), some (.int (iz v))] [] _
  refine z_aload_n (pc := 0) rfl dX1_setBought_0 ?_
  refine zf_X1_31 (pc := 1) rfl rfl dX1_setBought_1 ?_
  refine z_iload_n (pc := 4) rfl dX1_setBought_4 ?_
  refine z_bipush (pc := 5) (by decide) dX1_setBought_5 ?_
  refine z_imul (pc := 7) dX1_setBought_7 ?_
  refine z_iload_n (pc := 8) rfl dX1_setBought_8 ?_
  refine z_iadd (pc := 9) dX1_setBought_9 ?_
  refine z_iload_n (pc := 10) rfl dX1_setBought_10 ?_
  refine z_iast (pc := 11) rfl (by decide) (by omega) (by omega) dX1_setBought_11 ?_
  refine z_hp zs_7 ?_
  exact z_retv (pc := 12) rfl (by decide) (by decide) dX1_setBought_12 ⟨rfl, by rw [show ((o : Int) * 40 + t).toNat = o * 40 + t by omega]⟩
theorem c_addKind (B : bi F 1) (h3 : F 1 1 < 3) {v : Int} : zM l g yX1_addKind cX1_addKind 2 (some .int) 0 0 0 [.ref (g.2.1 + 1), .int (iz v)] (zk g F L im c) (fun r h => r = some (.int (iz (F 1 1))) ∧ h = zk g (va_up (va_up F 2 (vf_upd (F 2) (F 1 1).toNat v)) 1 (vf_upd (F 1) 1 (F 1 1 + 1))) L im c) := by
  refine zM_of 0 (by decide) rfl ?_
  show zJ l g RX1 cX1_addKind 2 (some .int) "addKind" (zRm 0 0 0) 0 0 _ 0 0 0 [some (.ref (g.2.1 + 1)), some (.int (iz v))] [] _
  have h2 := bi_kinds B
  refine z_aload_n (pc := 0) rfl dX1_addKind_0 ?_
  refine zf_X1_15 (pc := 1) rfl rfl dX1_addKind_1 ?_
  refine z_aload_n (pc := 4) rfl dX1_addKind_4 ?_
  refine zf_X1_34 (pc := 5) rfl rfl dX1_addKind_5 ?_
  refine z_iload_n (pc := 8) rfl dX1_addKind_8 ?_
  refine z_iast (pc := 9) rfl (by decide) (by omega) (by omega) dX1_addKind_9 ?_
  refine z_hp zs_2 ?_
  refine z_aload_n (pc := 10) rfl dX1_addKind_10 ?_
  refine z_dup (pc := 11) rfl dX1_addKind_11 ?_
  refine zf_X1_34 (pc := 12) rfl rfl dX1_addKind_12 ?_
  refine z_iconst (pc := 15) dX1_addKind_15 ?_
  refine z_iadd (pc := 16) dX1_addKind_16 ?_
  refine zp_X1_34 (pc := 17) rfl (Nat.le_of_ble_eq_true rfl) dX1_addKind_17 ?_
  refine z_hp zs_1_1 ?_
  refine z_aload_n (pc := 20) rfl dX1_addKind_20 ?_
  refine zf_X1_34 (pc := 21) rfl rfl dX1_addKind_21 ?_
  refine z_iconst (pc := 24) dX1_addKind_24 ?_
  refine z_isub (pc := 25) dX1_addKind_25 ?_
  refine z_top (show _ = iz (F 1 1) from congrArg iz (show F 1 1 + 1 - 1 = F 1 1 by omega)) ?_
  exact z_reti (pc := 26) rfl (by decide) (by decide) dX1_addKind_26 ⟨rfl, rfl⟩
theorem c_addOffer (B : bi F 1) (h3 : F 1 2 < 6) {u v x : Int} : zM l g yX1_addOffer cX1_addOffer 4 (some .int) 0 0 0 [.ref (g.2.1 + 1), .int (iz u), .int (iz v), .int (iz x)] (zk g F L im c) (fun r h => r = some (.int (iz (F 1 2))) ∧ h = zk g (va_up (va_up (va_up (va_up F 3 (vf_upd (F 3) (F 1 2).toNat u)) 4 (vf_upd (F 4) (F 1 2).toNat v)) 5 (vf_upd (F 5) (F 1 2).toNat x)) 1 (vf_upd (F 1) 2 (F 1 2 + 1))) L im c) := by
  refine zM_of 0 (by decide) rfl ?_
  show zJ l g RX1 cX1_addOffer 4 (some .int) "addOffer" (zRm 0 0 0) 0 0 _ 0 0 0 [some (.ref (g.2.1 + 1)), some (.int (iz u)), some (.int (iz v)), some (.int (iz x))] [] _
  have h2 := bi_offers B
  have e1 : ∀ (f : Nat → Int), va_up F 3 f 1 2 = F 1 2 := fun _ => rfl
  refine z_aload_n (pc := 0) rfl dX1_addOffer_0 ?_
  refine zf_X1_19 (pc := 1) rfl rfl dX1_addOffer_1 ?_
  refine z_aload_n (pc := 4) rfl dX1_addOffer_4 ?_
  refine zf_X1_37 (pc := 5) rfl rfl dX1_addOffer_5 ?_
  refine z_iload_n (pc := 8) rfl dX1_addOffer_8 ?_
  refine z_iast (pc := 9) rfl (by decide) (by omega) (by omega) dX1_addOffer_9 ?_
  refine z_hp zs_3 ?_
  refine z_aload_n (pc := 10) rfl dX1_addOffer_10 ?_
  refine zf_X1_22 (pc := 11) rfl rfl dX1_addOffer_11 ?_
  refine z_aload_n (pc := 14) rfl dX1_addOffer_14 ?_
  refine zf_X1_37 (pc := 15) rfl rfl dX1_addOffer_15 ?_
  refine z_iload_n (pc := 18) rfl dX1_addOffer_18 ?_
  refine z_iast (pc := 19) rfl (by decide) (show 0 ≤ F 1 2 by omega) (show F 1 2 < 6 from h3) dX1_addOffer_19 ?_
  refine z_hp zs_4 ?_
  refine z_aload_n (pc := 20) rfl dX1_addOffer_20 ?_
  refine zf_X1_25 (pc := 21) rfl rfl dX1_addOffer_21 ?_
  refine z_aload_n (pc := 24) rfl dX1_addOffer_24 ?_
  refine zf_X1_37 (pc := 25) rfl rfl dX1_addOffer_25 ?_
  refine z_iload_n (pc := 28) rfl dX1_addOffer_28 ?_
  refine z_iast (pc := 29) rfl (by decide) (show 0 ≤ F 1 2 by omega) (show F 1 2 < 6 from h3) dX1_addOffer_29 ?_
  refine z_hp zs_5 ?_
  refine z_aload_n (pc := 30) rfl dX1_addOffer_30 ?_
  refine z_dup (pc := 31) rfl dX1_addOffer_31 ?_
  refine zf_X1_37 (pc := 32) rfl rfl dX1_addOffer_32 ?_
  refine z_iconst (pc := 35) dX1_addOffer_35 ?_
  refine z_iadd (pc := 36) dX1_addOffer_36 ?_
  refine zp_X1_37 (pc := 37) rfl (Nat.le_of_ble_eq_true rfl) dX1_addOffer_37 ?_
  refine z_hp zs_1_2 ?_
  refine z_aload_n (pc := 40) rfl dX1_addOffer_40 ?_
  refine zf_X1_37 (pc := 41) rfl rfl dX1_addOffer_41 ?_
  refine z_iconst (pc := 44) dX1_addOffer_44 ?_
  refine z_isub (pc := 45) dX1_addOffer_45 ?_
  refine z_top (show _ = iz (F 1 2) from congrArg iz (show F 1 2 + 1 - 1 = F 1 2 by omega)) ?_
  exact z_reti (pc := 46) rfl (by decide) (by decide) dX1_addOffer_46 ⟨rfl, rfl⟩
/-- from hour t on nothing, in every row of forty -/
def cut0 (f : Nat → Int) (t n : Nat) : Nat → Int := fun j => if j < n ∧ t ≤ j % 40 then 0 else f j
theorem cut0_0 (f : Nat → Int) (t : Nat) : cut0 f t 0 = f := by funext j; unfold cut0; rw [if_neg (by omega)]
theorem cut0_s (f : Nat → Int) {t r : Nat} (h : t ≤ 40) : fl (cut0 f t (40 * r)) (40 * r + t) (40 * r + 40) 0 = cut0 f t (40 * (r + 1)) := by
  funext j
  unfold fl cut0
  by_cases h1 : 40 * r + t ≤ j ∧ j < 40 * r + 40
  · rw [if_pos h1, if_pos (by omega)]
  · rw [if_neg h1]
    by_cases h2 : j < 40 * r ∧ t ≤ j % 40
    · rw [if_pos h2, if_pos (by omega)]
    · rw [if_neg h2, if_neg (by omega)]
theorem c_forgetFrom {h : List va_E} {q N t : Nat} {f : Nat → Int} (he : h[q]? = some (zA g (40 * N) f)) (hN : N ≤ 100) (ht : t ≤ 40) : zM l g yX1_forgetFrom cX1_forgetFrom 3 none 2 0 0 [.ref (g.2.1 + q), .int (iz t)] (h) (fun r h2 => r = none ∧ h2 = h.set q (zA g (40 * N) (cut0 f t (40 * N)))) := by
  refine zM_of 1 (by decide) rfl ?_
  show zJ l g RX1 cX1_forgetFrom 3 none "forgetFrom" (zRm 2 0 0) 0 0 _ 0 0 0 [some (.ref (g.2.1 + q)), some (.int (iz t)), none] [] _
  have loop : ∀ (j x : Nat) (z : Int), z = 40 * x → x + j = N → zJ l g RX1 cX1_forgetFrom 3 none "forgetFrom" (zRm 2 0 0) 0 0 (fun r h2 => r = none ∧ h2 = h.set q (zA g (40 * N) (cut0 f t (40 * N)))) 0 0 2 [some (.ref (g.2.1 + q)), some (.int (iz t)), some (.int (iz z))] [] (h.set q (zA g (40 * N) (cut0 f t (40 * x)))) := by
    intro j
    induction j with
    | zero =>
      intro x z hz hx
      refine z_iload_n (pc := 2) rfl dX1_forgetFrom_2 ?_
      refine z_aload_n (pc := 3) rfl dX1_forgetFrom_3 ?_
      refine z_alen (pc := 4) (set_at he) dX1_forgetFrom_4 ?_
      refine z_icmp_ge (pc := 5) ⟨by omega, by omega⟩ ⟨by omega, by omega⟩ 26 (by decide) dX1_forgetFrom_5 (fun hq => ?_) (fun hq => ?_)
      · rw [show x = N by omega]
        exact z_retv (pc := 26) rfl (by decide) (by decide) dX1_forgetFrom_26 ⟨rfl, rfl⟩
      omega
    | succ j ih =>
      intro x z hz hx
      refine z_iload_n (pc := 2) rfl dX1_forgetFrom_2 ?_
      refine z_aload_n (pc := 3) rfl dX1_forgetFrom_3 ?_
      refine z_alen (pc := 4) (set_at he) dX1_forgetFrom_4 ?_
      refine z_icmp_ge (pc := 5) ⟨by omega, by omega⟩ ⟨by omega, by omega⟩ 26 (by decide) dX1_forgetFrom_5 (fun hq => ?_) (fun hq => ?_)
      · omega
      refine z_aload_n (pc := 8) rfl dX1_forgetFrom_8 ?_
      refine z_iload_n (pc := 9) rfl dX1_forgetFrom_9 ?_
      refine z_iload_n (pc := 10) rfl dX1_forgetFrom_10 ?_
      refine z_iadd (pc := 11) dX1_forgetFrom_11 ?_
      rw [show z + (t : Int) = ((40 * x + t : Nat) : Int) by omega]
      refine z_iload_n (pc := 12) rfl dX1_forgetFrom_12 ?_
      refine z_bipush (pc := 13) (by decide) dX1_forgetFrom_13 ?_
      refine z_iadd (pc := 15) dX1_forgetFrom_15 ?_
      rw [show z + 40 = ((40 * x + 40 : Nat) : Int) by omega]
      refine z_iconst (pc := 16) dX1_forgetFrom_16 ?_
      refine z_S4 (pc := 17) (c_fill4 (q := q) (n := 40 * N) (a := 40 * x + t) (b := 40 * x + 40) (set_at he) (by omega) (by omega) (by omega)) lk_X1_54 st_J7_fill_fda19 ⟨by decide, by decide⟩ (Nat.le_of_ble_eq_true rfl) ⟨by decide, by decide⟩ dX1_forgetFrom_17 (fun r h9 hq => ?_)
      obtain ⟨rfl, e9⟩ := hq
      rw [e9, List.set_set, cut0_s f ht]
      clear e9 h9
      refine z_r0 ?_
      refine z_ii2 (pc := 20) (by decide) rfl dX1_forgetFrom_20 ?_
      refine z_goto (pc := 23) 2 (by decide) dX1_forgetFrom_23 ?_
      exact ih (x + 1) _ (by omega) (by omega)
  refine z_iconst (pc := 0) dX1_forgetFrom_0 ?_
  refine z_is2 (pc := 1) (by decide) rfl dX1_forgetFrom_1 ?_
  refine z_hp (show h = h.set q (zA g (40 * N) (cut0 f t (40 * 0))) by rw [Nat.mul_zero, cut0_0, set_id he]) ?_
  exact loop N 0 0 (by omega) (by omega)
theorem c_setHours {t : Nat} (ht : t ≤ 40) : zM l g yX1_setHours cX1_setHours 2 none 3 0 0 [.ref (g.2.1 + 1), .int (iz t)] (zk g F L im c) (fun r h => r = none ∧ h = zk g (va_up (va_up (va_up F 6 (cut0 (F 6) t 480)) 7 (cut0 (F 7) t 240)) 1 (vf_upd (F 1) 0 t)) L im c) := by
  refine zM_of 0 (by decide) rfl ?_
  show zJ l g RX1 cX1_setHours 2 none "setHours" (zRm 3 0 0) 0 0 _ 0 0 0 [some (.ref (g.2.1 + 1)), some (.int (iz t))] [] _
  refine z_aload_n (pc := 0) rfl dX1_setHours_0 ?_
  refine zf_X1_28 (pc := 1) rfl rfl dX1_setHours_1 ?_
  refine z_iload_n (pc := 4) rfl dX1_setHours_4 ?_
  refine z_S2 (pc := 5) (c_forgetFrom (q := 6) (N := 12) (f := F 6) rfl (by omega) ht) lk_X1_50 st_X1_forgetFrom ⟨by decide, by decide⟩ (Nat.le_of_ble_eq_true rfl) ⟨by decide, by decide⟩ dX1_setHours_5 (fun r h9 hq => ?_)
  obtain ⟨rfl, e9⟩ := hq
  rw [e9]
  clear e9 h9
  refine z_r0 ?_
  refine z_hp zs_6 ?_
  refine z_aload_n (pc := 8) rfl dX1_setHours_8 ?_
  refine zf_X1_31 (pc := 9) rfl rfl dX1_setHours_9 ?_
  refine z_iload_n (pc := 12) rfl dX1_setHours_12 ?_
  refine z_S2 (pc := 13) (c_forgetFrom (q := 7) (N := 6) (f := F 7) rfl (by omega) ht) lk_X1_50 st_X1_forgetFrom ⟨by decide, by decide⟩ (Nat.le_of_ble_eq_true rfl) ⟨by decide, by decide⟩ dX1_setHours_13 (fun r h9 hq => ?_)
  obtain ⟨rfl, e9⟩ := hq
  rw [e9]
  clear e9 h9
  refine z_r0 ?_
  refine z_hp zs_7 ?_
  refine z_aload_n (pc := 16) rfl dX1_setHours_16 ?_
  refine z_iload_n (pc := 17) rfl dX1_setHours_17 ?_
  refine zp_X1_9 (pc := 18) rfl (Nat.le_of_ble_eq_true rfl) dX1_setHours_18 ?_
  refine z_hp zs_1_0 ?_
  exact z_retv (pc := 21) rfl (by decide) (by decide) dX1_setHours_21 ⟨rfl, rfl⟩
/-- nothing is bought of the offers of kind k, of the first n offers -/
def noby (F : Nat → Nat → Int) (k n : Nat) : Nat → Int := fun j => if j / 40 < n ∧ F 3 (j / 40) = k then 0 else F 7 j
theorem noby_0 (F : Nat → Nat → Int) (k : Nat) : noby F k 0 = F 7 := by funext j; unfold noby; rw [if_neg (by omega)]
theorem noby_y (F : Nat → Nat → Int) {k n : Nat} (h : F 3 n = k) : fl (noby F k n) (n * 40) (n * 40 + 40) 0 = noby F k (n + 1) := by
  funext j
  unfold fl noby
  by_cases h1 : n * 40 ≤ j ∧ j < n * 40 + 40
  · rw [if_pos h1, if_pos ⟨by omega, by rw [show j / 40 = n by omega]; exact h⟩]
  · rw [if_neg h1]
    by_cases h2 : j / 40 < n ∧ F 3 (j / 40) = k
    · rw [if_pos h2, if_pos ⟨by omega, h2.2⟩]
    · rw [if_neg h2, if_neg (fun h3 => h2 ⟨by omega, h3.2⟩)]
theorem noby_n (F : Nat → Nat → Int) {k n : Nat} (h : ¬ F 3 n = k) : noby F k n = noby F k (n + 1) := by
  funext j
  unfold noby
  by_cases h2 : j / 40 < n ∧ F 3 (j / 40) = k
  · rw [if_pos h2, if_pos ⟨by omega, h2.2⟩]
  · rw [if_neg h2, if_neg (fun h3 => h2 ⟨by
      by_cases h4 : j / 40 = n
      · exact absurd (by rw [← h4]; exact h3.2) h
      · omega, h3.2⟩)]
theorem c_buyNothing (B : bi F 1) {k : Nat} (hk : k < 3) : zM l g yX1_buyNothing cX1_buyNothing 4 none 2 0 0 [.ref (g.2.1 + 1), .int (iz k)] (zk g F L im c) (fun r h => r = none ∧ h = zk g (va_up F 7 (noby F k (F 1 2).toNat)) L im c) := by
  refine zM_of 2 (by decide) rfl ?_
  show zJ l g RX1 cX1_buyNothing 4 none "buyNothing" (zRm 2 0 0) 0 0 _ 0 0 0 [some (.ref (g.2.1 + 1)), some (.int (iz k)), none, none] [] _
  have h3 := bi_offers B
  have loop : ∀ (j x : Nat) (y : Option Value), zk1 [some (.ref (g.2.1 + 1)), some (.int (iz k)), some (.int (iz x)), y] 3 = true → x + j = (F 1 2).toNat → zJ l g RX1 cX1_buyNothing 4 none "buyNothing" (zRm 2 0 0) 0 0 (fun r h => r = none ∧ h = zk g (va_up F 7 (noby F k (F 1 2).toNat)) L im c) 0 0 2 [some (.ref (g.2.1 + 1)), some (.int (iz k)), some (.int (iz x)), y] [] (zk g (va_up F 7 (noby F k x)) L im c) := by
    intro j
    induction j with
    | zero =>
      intro x y hy hx
      refine z_iload_n (pc := 2) rfl dX1_buyNothing_2 ?_
      refine z_aload_n (pc := 3) rfl dX1_buyNothing_3 ?_
      refine zf_X1_37 (pc := 4) rfl rfl dX1_buyNothing_4 ?_
      refine z_icmp_ge (pc := 7) ⟨by omega, by omega⟩ (show ir (F 1 2) from ⟨by omega, by omega⟩) 44 (by decide) dX1_buyNothing_7 (fun hq => ?_) (fun hq => ?_)
      · exact z_retv (pc := 44) rfl (by decide) (by decide) dX1_buyNothing_44 ⟨rfl, by rw [show x = (F 1 2).toNat by omega]⟩
      have hq2 : (x : Int) < F 1 2 := hq
      omega
    | succ j ih =>
      intro x y hy hx
      have h5 := bi_kindOf B x
      refine z_iload_n (pc := 2) rfl dX1_buyNothing_2 ?_
      refine z_aload_n (pc := 3) rfl dX1_buyNothing_3 ?_
      refine zf_X1_37 (pc := 4) rfl rfl dX1_buyNothing_4 ?_
      refine z_icmp_ge (pc := 7) ⟨by omega, by omega⟩ (show ir (F 1 2) from ⟨by omega, by omega⟩) 44 (by decide) dX1_buyNothing_7 (fun hq => ?_) (fun hq => ?_)
      · have hq2 : F 1 2 ≤ (x : Int) := hq
        omega
      refine z_aload_n (pc := 10) rfl dX1_buyNothing_10 ?_
      refine zf_X1_19 (pc := 11) rfl rfl dX1_buyNothing_11 ?_
      refine z_iload_n (pc := 14) rfl dX1_buyNothing_14 ?_
      refine z_iald (pc := 15) rfl (by decide) (by omega) (by omega) dX1_buyNothing_15 ?_
      rw [Int.toNat_natCast]
      refine z_iload_n (pc := 16) rfl dX1_buyNothing_16 ?_
      refine z_icmp_ne (pc := 17) (show ir (F 3 x) from ⟨by omega, by omega⟩) ⟨by omega, by omega⟩ 38 (by decide) dX1_buyNothing_17 (fun hq => ?_) (fun hq => ?_)
      · have hq2 : ¬ F 3 x = k := hq
        rw [noby_n F hq2]
        refine z_ii2 (pc := 38) (by decide) rfl dX1_buyNothing_38 ?_
        refine z_goto (pc := 41) 2 (by decide) dX1_buyNothing_41 ?_
        exact ih (x + 1) y rfl (by omega)
      have hq2 : F 3 x = k := hq
      refine z_iload_n (pc := 20) rfl dX1_buyNothing_20 ?_
      refine z_bipush (pc := 21) (by decide) dX1_buyNothing_21 ?_
      refine z_imul (pc := 23) dX1_buyNothing_23 ?_
      refine z_is3 (pc := 24) (by decide) rfl dX1_buyNothing_24 ?_
      refine z_aload_n (pc := 25) rfl dX1_buyNothing_25 ?_
      refine zf_X1_31 (pc := 26) rfl rfl dX1_buyNothing_26 ?_
      refine z_iload_n (pc := 29) rfl dX1_buyNothing_29 ?_
      refine z_iload_n (pc := 30) rfl dX1_buyNothing_30 ?_
      rw [show (x : Int) * 40 = ((x * 40 : Nat) : Int) by omega]
      refine z_bipush (pc := 31) (by decide) dX1_buyNothing_31 ?_
      refine z_iadd (pc := 33) dX1_buyNothing_33 ?_
      rw [show ((x * 40 : Nat) : Int) + 40 = ((x * 40 + 40 : Nat) : Int) by omega]
      refine z_iconst (pc := 34) dX1_buyNothing_34 ?_
      refine z_S4 (pc := 35) (c_fill4 (q := 7) (n := 240) (f := noby F k x) (a := x * 40) (b := x * 40 + 40) rfl (by omega) (by omega) (by omega)) lk_X1_54 st_J7_fill_fda19 ⟨by decide, by decide⟩ (Nat.le_of_ble_eq_true rfl) ⟨by decide, by decide⟩ dX1_buyNothing_35 (fun r h9 hq => ?_)
      obtain ⟨rfl, e9⟩ := hq
      rw [e9, noby_y F hq2]
      clear e9 h9
      refine z_r0 ?_
      refine z_hp zs_7 ?_
      rw [show va_up (va_up F 7 (noby F k x)) 7 (noby F k (x + 1)) = va_up F 7 (noby F k (x + 1)) from bx_uu _ _ _ _]
      refine z_ii2 (pc := 38) (by decide) rfl dX1_buyNothing_38 ?_
      refine z_goto (pc := 41) 2 (by decide) dX1_buyNothing_41 ?_
      exact ih (x + 1) _ rfl (by omega)
  refine z_iconst (pc := 0) dX1_buyNothing_0 ?_
  refine z_is2 (pc := 1) (by decide) rfl dX1_buyNothing_1 ?_
  refine z_hp (show _ = zk g (va_up F 7 (noby F k 0)) L im c by rw [noby_0]; rw [show va_up F 7 (F 7) = F by funext j; unfold va_up; split <;> simp_all]) ?_
  exact loop (F 1 2).toNat 0 _ rfl (by omega)
end BOOK2
end
section
/-! ===== Flow: its network, what is left open, potentials (F 9: last, ways; 10 lengths, 11 fees, 12 carried, 13 worth, 14 far, 15 step, 16 settled) ===== -/
def tgt (ln : Nat → Int) (v p : Nat) : Nat := ((p : Int) + ln v).toNat
/-- an open arc by the code b from u to v: along way b, or (b ≥ 8) against way b - 8 on which something is carried from v to u -/
def rs (n W : Nat) (ln x : Nat → Int) (b u v : Nat) : Prop := u ≤ n ∧ v ≤ n ∧ ((b < W ∧ (v : Int) = u + ln b) ∨ (8 ≤ b ∧ b - 8 < W ∧ (u : Int) = v + ln (b - 8) ∧ 0 < x ((b - 8) * 41 + v)))
def fb (fe : Nat → Int) (b : Nat) : Int := if b < 8 then fe b else -fe (b - 8)
/-- nothing is open at less than the fall of worth; what is carried runs within the points -/
def ft (n W : Nat) (ln fe x π : Nat → Int) : Prop := (∀ b u v, rs n W ln x b u v → π u - π v ≤ fb fe b) ∧ (∀ v p, 0 < x (v * 41 + p) → p < 41 → v < W ∧ p ≤ n ∧ 0 ≤ (p : Int) + ln v ∧ (p : Int) + ln v ≤ n) ∧ ∀ j, 0 ≤ x j
def ph (ln w : Nat → Int) (j : Nat) : Int := w (j % 41) - w (tgt ln (j / 41) (j % 41))
def Ex (ln x w : Nat → Int) : Int := sm (fun j => x j * ph ln w j) 328
theorem Ex_upd {ln x w : Nat → Int} {j : Nat} {v : Int} (hj : j < 328) : Ex ln (vf_upd x j v) w = Ex ln x w + (v - x j) * ph ln w j := by
  unfold Ex
  have e : (fun i => vf_upd x j v i * ph ln w i) = vf_upd (fun i => x i * ph ln w i) j (v * ph ln w j) := by
    funext i
    unfold vf_upd
    by_cases h : i = j
    · rw [if_pos h, if_pos h, h]
    · rw [if_neg h, if_neg h]
  rw [e, sm_upd hj, Int.sub_mul]
  show _ - x j * ph ln w j + v * ph ln w j = _
  omega
theorem Ex_0 {ln w : Nat → Int} {x : Nat → Int} (h : ∀ j, j < 328 → x j = 0) : Ex ln x w = 0 := sm_zero (fun j hj => by show x j * _ = 0; rw [h j hj, Int.zero_mul])
section FT
variable {n W : Nat} {ln fe x π : Nat → Int}
theorem ft_tight (h : ft n W ln fe x π) (hW : W ≤ 8) {v p : Nat} (hp : p < 41) (hx : 0 < x (v * 41 + p)) : π p - π (tgt ln v p) = fe v := by
  obtain ⟨h1, h2, h3, h4⟩ := h.2.1 v p hx hp
  have ht : ((tgt ln v p : Nat) : Int) = p + ln v := by unfold tgt; omega
  have a1 := h.1 v p (tgt ln v p) ⟨h2, by omega, Or.inl ⟨h1, ht⟩⟩
  have a2 := h.1 (v + 8) (tgt ln v p) p ⟨by omega, h2, Or.inr ⟨by omega, by rw [Nat.add_sub_cancel]; exact h1, by rw [Nat.add_sub_cancel]; exact ht, by rw [Nat.add_sub_cancel]; exact hx⟩⟩
  unfold fb at a1 a2
  rw [if_pos (by omega)] at a1
  rw [if_neg (by omega), Nat.add_sub_cancel] at a2
  omega
theorem Ex_tight (h : ft n W ln fe x π) (hW : W ≤ 8) : Ex ln x π = sm (fun j => x j * fe (j / 41)) 328 := by
  refine sm_cong (fun j hj => ?_)
  by_cases hx : 0 < x j
  · have e : j = j / 41 * 41 + j % 41 := by omega
    have h2 := ft_tight h hW (v := j / 41) (p := j % 41) (by omega) (by rw [← e]; exact hx)
    show x j * (π (j % 41) - π (tgt ln (j / 41) (j % 41))) = _
    rw [h2]
  · have h0 : x j = 0 := by have := h.2.2 j; omega
    show x j * _ = x j * _
    rw [h0, Int.zero_mul, Int.zero_mul]
/-- a row of sums that keeps to all fees is worth no more than what is carried costs -/
theorem Ex_le (h : ft n W ln fe x π) (hW : W ≤ 8) {w : Nat → Int} (hw : ∀ v p, v < W → p ≤ n → 0 ≤ (p : Int) + ln v → (p : Int) + ln v ≤ n → w p - w (tgt ln v p) ≤ fe v) : Ex ln x w ≤ Ex ln x π := by
  rw [Ex_tight h hW]
  refine sm_le (fun j hj => ?_)
  by_cases hx : 0 < x j
  · have e : j = j / 41 * 41 + j % 41 := by omega
    obtain ⟨h1, h2, h3, h4⟩ := h.2.1 (j / 41) (j % 41) (by rw [← e]; exact hx) (by omega)
    exact Int.mul_le_mul_of_nonneg_left (hw _ _ h1 h2 h3 h4) (Int.le_of_lt hx)
  · have h0 : x j = 0 := by have := h.2.2 j; omega
    show x j * _ ≤ x j * _
    rw [h0, Int.zero_mul, Int.zero_mul]
    exact Int.le_refl 0
/-- and if it is worth as much, it is tight where something is carried -/
theorem Ex_eq (h : ft n W ln fe x π) (hW : W ≤ 8) {w : Nat → Int} (hw : ∀ v p, v < W → p ≤ n → 0 ≤ (p : Int) + ln v → (p : Int) + ln v ≤ n → w p - w (tgt ln v p) ≤ fe v) (he : Ex ln x w = Ex ln x π) {v p : Nat} (hp : p < 41) (hv : v < 8) (hx : 0 < x (v * 41 + p)) : w p - w (tgt ln v p) = fe v := by
  rw [Ex_tight h hW] at he
  have hj : v * 41 + p < 328 := by omega
  have key : ∀ (a b : Nat → Int) (N : Nat), (∀ j, j < N → a j ≤ b j) → sm a N = sm b N → ∀ j, j < N → a j = b j := by
    intro a b N
    induction N with
    | zero => intro _ _ j hj; omega
    | succ N ih =>
      intro hab hs j hj
      have h1 := sm_le (f := a) (g := b) (n := N) (fun j hj => hab j (by omega))
      have h2 := hab N (by omega)
      have hs' : sm a N + a N = sm b N + b N := hs
      by_cases e : j = N
      · subst e; omega
      · exact ih (fun j hj => hab j (by omega)) (by omega) j (by omega)
  have h1 := key _ _ 328 (fun j hj => by
    by_cases hx : 0 < x j
    · have e : j = j / 41 * 41 + j % 41 := by omega
      obtain ⟨h1, h2, h3, h4⟩ := h.2.1 (j / 41) (j % 41) (by rw [← e]; exact hx) (by omega)
      exact Int.mul_le_mul_of_nonneg_left (hw _ _ h1 h2 h3 h4) (Int.le_of_lt hx)
    · have h0 : x j = 0 := by have := h.2.2 j; omega
      show x j * _ ≤ x j * _
      rw [h0, Int.zero_mul, Int.zero_mul]
      exact Int.le_refl 0) he (v * 41 + p) hj
  have h2 : x (v * 41 + p) * (w ((v * 41 + p) % 41) - w (tgt ln ((v * 41 + p) / 41) ((v * 41 + p) % 41))) = x (v * 41 + p) * fe ((v * 41 + p) / 41) := h1
  rw [show (v * 41 + p) % 41 = p by omega, show (v * 41 + p) / 41 = v by omega] at h2
  exact Int.eq_of_mul_eq_mul_left (by omega) h2
end FT
/-- the worths are raised by far, but by m at most -/
theorem ft_raise {n W : Nat} {ln fe x π far : Nat → Int} {m : Int} (h : ft n W ln fe x π) (done : Nat → Prop) (h1 : ∀ b u v, rs n W ln x b u v → done v → far u ≤ far v + (fb fe b - π u + π v)) (h2 : ∀ u, u ≤ n → ¬ done u → m ≤ far u) : ft n W ln fe x (fun p => π p + min (far p) m) := by
  refine ⟨fun b u v hr => ?_, h.2⟩
  have a := h.1 b u v hr
  show π u + min (far u) m - (π v + min (far v) m) ≤ fb fe b
  by_cases hd : done v
  · have := h1 b u v hr hd
    omega
  · have := h2 v hr.2.1 hd
    omega
end
section
/-! ===== Flow: the small methods, and the search of one point ===== -/
def fr (F : Nat → Nat → Int) : Prop := (1 ≤ F 9 0 ∧ F 9 0 ≤ 40) ∧ (2 ≤ F 9 1 ∧ F 9 1 ≤ 8) ∧ (∀ v, -1 ≤ F 10 v ∧ F 10 v ≤ 40) ∧ (∀ v, 0 ≤ F 11 v ∧ F 11 v ≤ 40000) ∧ (∀ j, 0 ≤ F 12 j ∧ F 12 j ≤ 100000000) ∧ (∀ u, 0 ≤ F 13 u ∧ F 13 u ≤ 200000) ∧ (∀ u, 0 ≤ F 14 u ∧ F 14 u ≤ 1000000000) ∧ (∀ u, 0 ≤ F 15 u ∧ F 15 u ≤ 15) ∧ ∀ u, F 16 u = 0 ∨ F 16 u = 1
abbrev nN (F : Nat → Nat → Int) : Nat := (F 9 0).toNat
abbrev nW (F : Nat → Nat → Int) : Nat := (F 9 1).toNat
abbrev rsF (F : Nat → Nat → Int) (b u v : Nat) : Prop := rs (nN F) (nW F) (F 10) (F 12) b u v
abbrev ftF (F : Nat → Nat → Int) : Prop := ft (nN F) (nW F) (F 10) (F 11) (F 12) (F 13)
abbrev rcF (F : Nat → Nat → Int) (b u v : Nat) : Int := fb (F 11) b - F 13 u + F 13 v
def rch (F : Nat → Nat → Int) (u : Int) (q : Nat) (fee b : Int) : Nat → Nat → Int := if 0 ≤ u ∧ u ≤ F 9 0 ∧ F 16 u.toNat = 0 ∧ F 14 q + fee - F 13 u.toNat + F 13 q < F 14 u.toNat then va_up (va_up F 14 (vf_upd (F 14) u.toNat (F 14 q + fee - F 13 u.toNat + F 13 q))) 15 (vf_upd (F 15) u.toNat b) else F
theorem nN_eq {F : Nat → Nat → Int} (R : fr F) : ((nN F : Nat) : Int) = F 9 0 := by have := R.1; show ((F 9 0).toNat : Int) = _; omega
theorem nW_eq {F : Nat → Nat → Int} (R : fr F) : ((nW F : Nat) : Int) = F 9 1 := by have := R.2.1; show ((F 9 1).toNat : Int) = _; omega
section FLOW1
variable {l : Launch} {g : zG} {F : Nat → Nat → Int} {L : Nat → Int} {im : Nat → Option Nat} {c : Nat}
theorem c_takesBack (R : fr F) {p : Nat} (hp : p ≤ 40) : zM l g yX2_takesBack cX2_takesBack 2 (some .boolean) 0 0 0 [.ref (g.2.1 + 9), .int (iz p)] (zk g F L im c) (fun r h => r = some (.int (iz (if 8 ≤ F 15 p then 1 else 0))) ∧ h = zk g F L im c) := by
  refine zM_of 0 (by decide) rfl ?_
  show zJ l g RX2 cX2_takesBack 2 (some .boolean) "takesBack" (zRm 0 0 0) 0 0 _ 0 0 0 [some (.ref (g.2.1 + 9)), some (.int (iz p))] [] _
  have h1 := R.2.2.2.2.2.2.2.1 p
  refine z_aload_n (pc := 0) rfl dX2_takesBack_0 ?_
  refine zf_X2_27 (pc := 1) rfl rfl dX2_takesBack_1 ?_
  refine z_iload_n (pc := 4) rfl dX2_takesBack_4 ?_
  refine z_iald (pc := 5) rfl (by decide) (by omega) (by omega) dX2_takesBack_5 ?_
  rw [Int.toNat_natCast]
  refine z_bipush (pc := 6) (by decide) dX2_takesBack_6 ?_
  refine z_icmp_lt (pc := 8) ⟨by omega, by omega⟩ ⟨by omega, by omega⟩ 15 (by decide) dX2_takesBack_8 (fun hq => ?_) (fun hq => ?_)
  · rw [if_neg (by omega)]
    refine z_iconst (pc := 15) dX2_takesBack_15 ?_
    exact z_retz (pc := 16) rfl (Or.inl rfl) (by decide) (by decide) dX2_takesBack_16 ⟨rfl, rfl⟩
  rw [if_pos (by omega)]
  refine z_iconst (pc := 11) dX2_takesBack_11 ?_
  refine z_goto (pc := 12) 16 (by decide) dX2_takesBack_12 ?_
  exact z_retz (pc := 16) rfl (Or.inr rfl) (by decide) (by decide) dX2_takesBack_16 ⟨rfl, rfl⟩
theorem c_after (R : fr F) {p : Nat} (hp : p ≤ 40) : zM l g yX2_after cX2_after 3 (some .int) 0 0 0 [.ref (g.2.1 + 9), .int (iz p)] (zk g F L im c) (fun r h => r = some (.int (iz (if 8 ≤ F 15 p then p - F 10 ((F 15 p).toNat - 8) else p + F 10 (F 15 p).toNat))) ∧ h = zk g F L im c) := by
  refine zM_of 1 (by decide) rfl ?_
  show zJ l g RX2 cX2_after 3 (some .int) "after" (zRm 0 0 0) 0 0 _ 0 0 0 [some (.ref (g.2.1 + 9)), some (.int (iz p)), none] [] _
  have h1 := R.2.2.2.2.2.2.2.1 p
  refine z_aload_n (pc := 0) rfl dX2_after_0 ?_
  refine zf_X2_27 (pc := 1) rfl rfl dX2_after_1 ?_
  refine z_iload_n (pc := 4) rfl dX2_after_4 ?_
  refine z_iald (pc := 5) rfl (by decide) (by omega) (by omega) dX2_after_5 ?_
  rw [Int.toNat_natCast]
  refine z_is2 (pc := 6) (by decide) rfl dX2_after_6 ?_
  refine z_iload_n (pc := 7) rfl dX2_after_7 ?_
  refine z_bipush (pc := 8) (by decide) dX2_after_8 ?_
  refine z_icmp_lt (pc := 10) ⟨by omega, by omega⟩ ⟨by omega, by omega⟩ 27 (by decide) dX2_after_10 (fun hq => ?_) (fun hq => ?_)
  · rw [if_neg (by omega)]
    refine z_iload_n (pc := 27) rfl dX2_after_27 ?_
    refine z_aload_n (pc := 28) rfl dX2_after_28 ?_
    refine zf_X2_11 (pc := 29) rfl rfl dX2_after_29 ?_
    refine z_iload_n (pc := 32) rfl dX2_after_32 ?_
    refine z_iald (pc := 33) rfl (by decide) (by omega) (by omega) dX2_after_33 ?_
    refine z_iadd (pc := 34) dX2_after_34 ?_
    exact z_reti (pc := 35) rfl (by decide) (by decide) dX2_after_35 ⟨rfl, rfl⟩
  rw [if_pos (by omega), show (F 15 p).toNat - 8 = (F 15 p - 8).toNat by omega]
  refine z_iload_n (pc := 13) rfl dX2_after_13 ?_
  refine z_aload_n (pc := 14) rfl dX2_after_14 ?_
  refine zf_X2_11 (pc := 15) rfl rfl dX2_after_15 ?_
  refine z_iload_n (pc := 18) rfl dX2_after_18 ?_
  refine z_bipush (pc := 19) (by decide) dX2_after_19 ?_
  refine z_isub (pc := 21) dX2_after_21 ?_
  refine z_iald (pc := 22) rfl (by decide) (by omega) (by omega) dX2_after_22 ?_
  refine z_isub (pc := 23) dX2_after_23 ?_
  refine z_goto (pc := 24) 35 (by decide) dX2_after_24 ?_
  exact z_reti (pc := 35) rfl (by decide) (by decide) dX2_after_35 ⟨rfl, rfl⟩
theorem c_addWay {a b : Int} (h0 : 0 ≤ F 9 1) (h8 : F 9 1 < 8) : zM l g yX2_addWay cX2_addWay 3 none 0 0 0 [.ref (g.2.1 + 9), .int (iz a), .int (iz b)] (zk g F L im c) (fun r h => r = none ∧ h = zk g (va_up (va_up (va_up F 10 (vf_upd (F 10) (F 9 1).toNat a)) 11 (vf_upd (F 11) (F 9 1).toNat b)) 9 (vf_upd (F 9) 1 (F 9 1 + 1))) L im c) := by
  refine zM_of 0 (by decide) rfl ?_
  show zJ l g RX2 cX2_addWay 3 none "addWay" (zRm 0 0 0) 0 0 _ 0 0 0 [some (.ref (g.2.1 + 9)), some (.int (iz a)), some (.int (iz b))] [] _
  refine z_aload_n (pc := 0) rfl dX2_addWay_0 ?_
  refine zf_X2_11 (pc := 1) rfl rfl dX2_addWay_1 ?_
  refine z_aload_n (pc := 4) rfl dX2_addWay_4 ?_
  refine zf_X2_69 (pc := 5) rfl rfl dX2_addWay_5 ?_
  refine z_iload_n (pc := 8) rfl dX2_addWay_8 ?_
  refine z_iast (pc := 9) rfl (by decide) (by omega) (by omega) dX2_addWay_9 ?_
  refine z_hp zs_10 ?_
  refine z_aload_n (pc := 10) rfl dX2_addWay_10 ?_
  refine zf_X2_15 (pc := 11) rfl rfl dX2_addWay_11 ?_
  refine z_aload_n (pc := 14) rfl dX2_addWay_14 ?_
  refine zf_X2_69 (pc := 15) rfl rfl dX2_addWay_15 ?_
  refine z_iload_n (pc := 18) rfl dX2_addWay_18 ?_
  refine z_iast (pc := 19) rfl (by decide) (show 0 ≤ F 9 1 from h0) (show F 9 1 < 8 from h8) dX2_addWay_19 ?_
  refine z_hp zs_11 ?_
  refine z_aload_n (pc := 20) rfl dX2_addWay_20 ?_
  refine z_dup (pc := 21) rfl dX2_addWay_21 ?_
  refine zf_X2_69 (pc := 22) rfl rfl dX2_addWay_22 ?_
  refine z_iconst (pc := 25) dX2_addWay_25 ?_
  refine z_iadd (pc := 26) dX2_addWay_26 ?_
  refine zp_X2_69 (pc := 27) rfl (Nat.le_of_ble_eq_true rfl) dX2_addWay_27 ?_
  refine z_hp zs_9_1 ?_
  exact z_retv (pc := 30) rfl (by decide) (by decide) dX2_addWay_30 ⟨rfl, rfl⟩
theorem c_reach (R : fr F) {u : Int} (hu : ir u) {q : Nat} (hq : q ≤ 40) {fee b : Int} (hf : -40000 ≤ fee ∧ fee ≤ 40000) : zM l g yX2_reach cX2_reach 6 none 0 0 0 [.ref (g.2.1 + 9), .int (iz u), .int (iz q), .int (iz fee), .int (iz b)] (zk g F L im c) (fun r h => r = none ∧ h = zk g (rch F u q fee b) L im c) := by
  refine zM_of 1 (by decide) rfl ?_
  show zJ l g RX2 cX2_reach 6 none "reach" (zRm 0 0 0) 0 0 _ 0 0 0 [some (.ref (g.2.1 + 9)), some (.int (iz u)), some (.int (iz q)), some (.int (iz fee)), some (.int (iz b)), none] [] _
  have r1 := R.1
  have r2 := R.2.2.2.2.2.1
  have r3 := R.2.2.2.2.2.2.1
  have r4 := R.2.2.2.2.2.2.2.2 u.toNat
  have a1 := r2 q
  have a2 := r2 u.toNat
  have a3 := r3 q
  have a4 := r3 u.toNat
  unfold rch
  refine z_iload_n (pc := 0) rfl dX2_reach_0 ?_
  refine z_if_lt (pc := 1) hu 21 (by decide) dX2_reach_1 (fun hq => ?_) (fun hq => ?_)
  · rw [if_neg (by omega)]
    exact z_retv (pc := 21) rfl (by decide) (by decide) dX2_reach_21 ⟨rfl, rfl⟩
  refine z_iload_n (pc := 4) rfl dX2_reach_4 ?_
  refine z_aload_n (pc := 5) rfl dX2_reach_5 ?_
  refine zf_X2_44 (pc := 6) rfl rfl dX2_reach_6 ?_
  refine z_icmp_gt (pc := 9) hu ⟨by omega, by omega⟩ 21 (by decide) dX2_reach_9 (fun hq => ?_) (fun hq => ?_)
  · rw [if_neg (by omega)]
    exact z_retv (pc := 21) rfl (by decide) (by decide) dX2_reach_21 ⟨rfl, rfl⟩
  refine z_aload_n (pc := 12) rfl dX2_reach_12 ?_
  refine zf_X2_30 (pc := 13) rfl rfl dX2_reach_13 ?_
  refine z_iload_n (pc := 16) rfl dX2_reach_16 ?_
  refine z_zald (pc := 17) rfl (by decide) (by omega) (by omega) dX2_reach_17 ?_
  refine z_if_eq (pc := 18) ⟨by omega, by omega⟩ 22 (by decide) dX2_reach_18 (fun hq => ?_) (fun hq => ?_)
  rotate_left
  · rw [if_neg (by omega)]
    exact z_retv (pc := 21) rfl (by decide) (by decide) dX2_reach_21 ⟨rfl, rfl⟩
  refine z_aload_n (pc := 22) rfl dX2_reach_22 ?_
  refine zf_X2_24 (pc := 23) rfl rfl dX2_reach_23 ?_
  refine z_iload_n (pc := 26) rfl dX2_reach_26 ?_
  refine z_iald (pc := 27) rfl (by decide) (by omega) (by omega) dX2_reach_27 ?_
  refine z_iload_n (pc := 28) rfl dX2_reach_28 ?_
  refine z_iadd (pc := 29) dX2_reach_29 ?_
  refine z_aload_n (pc := 30) rfl dX2_reach_30 ?_
  refine zf_X2_21 (pc := 31) rfl rfl dX2_reach_31 ?_
  refine z_iload_n (pc := 34) rfl dX2_reach_34 ?_
  refine z_iald (pc := 35) rfl (by decide) (by omega) (by omega) dX2_reach_35 ?_
  refine z_isub (pc := 36) dX2_reach_36 ?_
  refine z_aload_n (pc := 37) rfl dX2_reach_37 ?_
  refine zf_X2_21 (pc := 38) rfl rfl dX2_reach_38 ?_
  refine z_iload_n (pc := 41) rfl dX2_reach_41 ?_
  refine z_iald (pc := 42) rfl (by decide) (by omega) (by omega) dX2_reach_42 ?_
  refine z_iadd (pc := 43) dX2_reach_43 ?_
  refine z_is5 (pc := 44) (by decide) rfl dX2_reach_44 ?_
  refine z_iload (pc := 46) rfl dX2_reach_46 ?_
  refine z_aload_n (pc := 48) rfl dX2_reach_48 ?_
  refine zf_X2_24 (pc := 49) rfl rfl dX2_reach_49 ?_
  refine z_iload_n (pc := 52) rfl dX2_reach_52 ?_
  refine z_iald (pc := 53) rfl (by decide) (by omega) (by omega) dX2_reach_53 ?_
  rw [Int.toNat_natCast]
  refine z_icmp_ge (pc := 54) ⟨by omega, by omega⟩ ⟨by omega, by omega⟩ 73 (by decide) dX2_reach_54 (fun hq => ?_) (fun hq => ?_)
  · rw [if_neg (by omega)]
    exact z_retv (pc := 73) rfl (by decide) (by decide) dX2_reach_73 ⟨rfl, rfl⟩
  rw [if_pos (by omega)]
  refine z_aload_n (pc := 57) rfl dX2_reach_57 ?_
  refine zf_X2_24 (pc := 58) rfl rfl dX2_reach_58 ?_
  refine z_iload_n (pc := 61) rfl dX2_reach_61 ?_
  refine z_iload (pc := 62) rfl dX2_reach_62 ?_
  refine z_iast (pc := 64) rfl (by decide) (by omega) (by omega) dX2_reach_64 ?_
  refine z_hp zs_14 ?_
  refine z_aload_n (pc := 65) rfl dX2_reach_65 ?_
  refine zf_X2_27 (pc := 66) rfl rfl dX2_reach_66 ?_
  refine z_iload_n (pc := 69) rfl dX2_reach_69 ?_
  refine z_iload (pc := 70) rfl dX2_reach_70 ?_
  refine z_iast (pc := 72) rfl (by decide) (by omega) (by omega) dX2_reach_72 ?_
  refine z_hp zs_15 ?_
  exact z_retv (pc := 73) rfl (by decide) (by decide) dX2_reach_73 ⟨rfl, rfl⟩
theorem c_nearest (R : fr F) : zM l g yX2_nearest cX2_nearest 3 (some .int) 0 0 0 [.ref (g.2.1 + 9)] (zk g F L im c) (fun r h => (∃ z : Int, r = some (.int (iz z)) ∧ ((z = -1 ∧ ∀ u, u ≤ nN F → F 16 u = 1) ∨ ∃ p : Nat, z = p ∧ p ≤ nN F ∧ F 16 p = 0 ∧ ∀ u, u ≤ nN F → F 16 u = 0 → F 14 p ≤ F 14 u)) ∧ h = zk g F L im c) := by
  refine zM_of 2 (by decide) rfl ?_
  show zJ l g RX2 cX2_nearest 3 (some .int) "nearest" (zRm 0 0 0) 0 0 _ 0 0 0 [some (.ref (g.2.1 + 9)), none, none] [] _
  have r1 := R.1
  have eN := nN_eq R
  have r3 := R.2.2.2.2.2.2.1
  have r4 := R.2.2.2.2.2.2.2.2
  have loop : ∀ (j x : Nat) (z : Int), x + j = nN F + 1 → ((z = -1 ∧ ∀ u, u < x → F 16 u = 1) ∨ ∃ p : Nat, z = p ∧ p < x ∧ F 16 p = 0 ∧ ∀ u, u < x → F 16 u = 0 → F 14 p ≤ F 14 u) → zJ l g RX2 cX2_nearest 3 (some .int) "nearest" (zRm 0 0 0) 0 0 (fun r h => (∃ z : Int, r = some (.int (iz z)) ∧ ((z = -1 ∧ ∀ u, u ≤ nN F → F 16 u = 1) ∨ ∃ p : Nat, z = p ∧ p ≤ nN F ∧ F 16 p = 0 ∧ ∀ u, u ≤ nN F → F 16 u = 0 → F 14 p ≤ F 14 u)) ∧ h = zk g F L im c) 0 0 4 [some (.ref (g.2.1 + 9)), some (.int (iz z)), some (.int (iz x))] [] (zk g F L im c) := by
    intro j
    induction j with
    | zero =>
      intro x z hx hz
      refine z_iload_n (pc := 4) rfl dX2_nearest_4 ?_
      refine z_aload_n (pc := 5) rfl dX2_nearest_5 ?_
      refine zf_X2_44 (pc := 6) rfl rfl dX2_nearest_6 ?_
      refine z_icmp_gt (pc := 9) ⟨by omega, by omega⟩ ⟨by omega, by omega⟩ 49 (by decide) dX2_nearest_9 (fun hq => ?_) (fun hq => ?_)
      · refine z_iload_n (pc := 49) rfl dX2_nearest_49 ?_
        refine z_reti (pc := 50) rfl (by decide) (by decide) dX2_nearest_50 ⟨⟨z, rfl, ?_⟩, rfl⟩
        rcases hz with ⟨h1, h2⟩ | ⟨p, h1, h2, h3, h4⟩
        · exact Or.inl ⟨h1, fun u hu => h2 u (by omega)⟩
        · exact Or.inr ⟨p, h1, by omega, h3, fun u hu => h4 u (by omega)⟩
      omega
    | succ j ih =>
      intro x z hx hz
      have a1 := r4 x
      have a2 := r3 x
      refine z_iload_n (pc := 4) rfl dX2_nearest_4 ?_
      refine z_aload_n (pc := 5) rfl dX2_nearest_5 ?_
      refine zf_X2_44 (pc := 6) rfl rfl dX2_nearest_6 ?_
      refine z_icmp_gt (pc := 9) ⟨by omega, by omega⟩ ⟨by omega, by omega⟩ 49 (by decide) dX2_nearest_9 (fun hq => ?_) (fun hq => ?_)
      · omega
      refine z_aload_n (pc := 12) rfl dX2_nearest_12 ?_
      refine zf_X2_30 (pc := 13) rfl rfl dX2_nearest_13 ?_
      refine z_iload_n (pc := 16) rfl dX2_nearest_16 ?_
      refine z_zald (pc := 17) rfl (by decide) (by omega) (by omega) dX2_nearest_17 ?_
      rw [Int.toNat_natCast]
      refine z_if_ne (pc := 18) ⟨by omega, by omega⟩ 43 (by decide) dX2_nearest_18 (fun hq => ?_) (fun hq => ?_)
      · refine z_ii2 (pc := 43) (by decide) rfl dX2_nearest_43 ?_
        refine z_goto (pc := 46) 4 (by decide) dX2_nearest_46 ?_
        refine ih (x + 1) z (by omega) ?_
        rcases hz with ⟨h1, h2⟩ | ⟨p, h1, h2, h3, h4⟩
        · exact Or.inl ⟨h1, fun u hu => by
            by_cases e : u = x
            · rw [e]; omega
            · exact h2 u (by omega)⟩
        · exact Or.inr ⟨p, h1, by omega, h3, fun u hu h0 => by
            by_cases e : u = x
            · rw [e] at h0; omega
            · exact h4 u (by omega) h0⟩
      refine z_iload_n (pc := 21) rfl dX2_nearest_21 ?_
      refine z_iconst (pc := 22) dX2_nearest_22 ?_
      rcases hz with ⟨h1, h2⟩ | ⟨p, h1, h2, h3, h4⟩
      · subst h1
        refine z_icmp_eq (pc := 23) ⟨by omega, by omega⟩ ⟨by omega, by omega⟩ 41 (by decide) dX2_nearest_23 (fun hq => ?_) (fun hq => ?_)
        · refine z_iload_n (pc := 41) rfl dX2_nearest_41 ?_
          refine z_is1 (pc := 42) (by decide) rfl dX2_nearest_42 ?_
          refine z_ii2 (pc := 43) (by decide) rfl dX2_nearest_43 ?_
          refine z_goto (pc := 46) 4 (by decide) dX2_nearest_46 ?_
          refine ih (x + 1) x (by omega) (Or.inr ⟨x, rfl, by omega, by omega, fun u hu h0 => ?_⟩)
          by_cases e : u = x
          · rw [e]; exact Int.le_refl _
          · have := h2 u (by omega)
            omega
        omega
      · subst h1
        have a3 := r3 p
        refine z_icmp_eq (pc := 23) ⟨by omega, by omega⟩ ⟨by omega, by omega⟩ 41 (by decide) dX2_nearest_23 (fun hq => ?_) (fun hq => ?_)
        · omega
        refine z_aload_n (pc := 26) rfl dX2_nearest_26 ?_
        refine zf_X2_24 (pc := 27) rfl rfl dX2_nearest_27 ?_
        refine z_iload_n (pc := 30) rfl dX2_nearest_30 ?_
        refine z_iald (pc := 31) rfl (by decide) (by omega) (by omega) dX2_nearest_31 ?_
        refine z_aload_n (pc := 32) rfl dX2_nearest_32 ?_
        refine zf_X2_24 (pc := 33) rfl rfl dX2_nearest_33 ?_
        refine z_iload_n (pc := 36) rfl dX2_nearest_36 ?_
        refine z_iald (pc := 37) rfl (by decide) (by omega) (by omega) dX2_nearest_37 ?_
        rw [Int.toNat_natCast, Int.toNat_natCast]
        refine z_icmp_ge (pc := 38) ⟨by omega, by omega⟩ ⟨by omega, by omega⟩ 43 (by decide) dX2_nearest_38 (fun hq => ?_) (fun hq => ?_)
        · refine z_ii2 (pc := 43) (by decide) rfl dX2_nearest_43 ?_
          refine z_goto (pc := 46) 4 (by decide) dX2_nearest_46 ?_
          refine ih (x + 1) p (by omega) (Or.inr ⟨p, rfl, by omega, h3, fun u hu h0 => ?_⟩)
          by_cases e : u = x
          · rw [e]; exact hq
          · exact h4 u (by omega) h0
        refine z_iload_n (pc := 41) rfl dX2_nearest_41 ?_
        refine z_is1 (pc := 42) (by decide) rfl dX2_nearest_42 ?_
        refine z_ii2 (pc := 43) (by decide) rfl dX2_nearest_43 ?_
        refine z_goto (pc := 46) 4 (by decide) dX2_nearest_46 ?_
        refine ih (x + 1) x (by omega) (Or.inr ⟨x, rfl, by omega, by omega, fun u hu h0 => ?_⟩)
        by_cases e : u = x
        · rw [e]; exact Int.le_refl _
        · have := h4 u (by omega) h0
          omega
  refine z_iconst (pc := 0) dX2_nearest_0 ?_
  refine z_is1 (pc := 1) (by decide) rfl dX2_nearest_1 ?_
  refine z_iconst (pc := 2) dX2_nearest_2 ?_
  refine z_is2 (pc := 3) (by decide) rfl dX2_nearest_3 ?_
  exact loop (nN F + 1) 0 (-1) (by omega) (Or.inl ⟨rfl, fun u hu => by omega⟩)
end FLOW1
end
section
/-! ===== Flow: all that reach a point ===== -/
def RI (F F' : Nat → Nat → Int) (q : Nat) : Prop := (∀ k, k ≠ 14 → k ≠ 15 → F' k = F k) ∧ ∀ u, (F' 14 u = F 14 u ∧ F' 15 u = F 15 u) ∨ (u ≤ nN F ∧ F 16 u = 0 ∧ F' 14 u < F 14 u ∧ ∃ b, rsF F b u q ∧ F' 15 u = (b : Int) ∧ F' 14 u = F 14 q + rcF F b u q)
def wy (b : Nat) : Nat := if b < 8 then b else b - 8
theorem rs_code {n W : Nat} {ln x : Nat → Int} {b u v : Nat} (hW : W ≤ 8) (h : rs n W ln x b u v) : b ≤ 15 ∧ wy b < W := by
  unfold wy
  rcases h.2.2 with h1 | h1
  · rw [if_pos (by omega)]; omega
  · rw [if_neg (by omega)]; omega
theorem RI_rf (F : Nat → Nat → Int) (q : Nat) : RI F F q := ⟨fun _ _ _ => rfl, fun _ => Or.inl ⟨rfl, rfl⟩⟩
theorem RI_q {F F' : Nat → Nat → Int} {q u : Nat} (h : RI F F' q) (hs : F 16 u = 1) : F' 14 u = F 14 u ∧ F' 15 u = F 15 u := by
  rcases h.2 u with h1 | h1
  · exact h1
  · have := h1.2.1; omega
theorem RI_fr {F F' : Nat → Nat → Int} {q : Nat} (R : fr F) (T : ftF F) (h : RI F F' q) : fr F' := by
  have e : ∀ k, k ≠ 14 → k ≠ 15 → F' k = F k := h.1
  have hW : nW F ≤ 8 := by have := R.2.1; show (F 9 1).toNat ≤ 8; omega
  unfold fr
  rw [e 9 (by decide) (by decide), e 10 (by decide) (by decide), e 11 (by decide) (by decide), e 12 (by decide) (by decide), e 13 (by decide) (by decide), e 16 (by decide) (by decide)]
  refine ⟨R.1, R.2.1, R.2.2.1, R.2.2.2.1, R.2.2.2.2.1, R.2.2.2.2.2.1, fun u => ?_, fun u => ?_, R.2.2.2.2.2.2.2.2⟩
  · have a := R.2.2.2.2.2.2.1 u
    have a2 := R.2.2.2.2.2.2.1 q
    rcases h.2 u with h1 | ⟨h1, h2, h3, b, h4, h5, h6⟩
    · rw [h1.1]; exact a
    · have := T.1 b u q h4
      have h6' : F' 14 u = F 14 q + (fb (F 11) b - F 13 u + F 13 q) := h6
      omega
  · have a := R.2.2.2.2.2.2.2.1 u
    rcases h.2 u with h1 | ⟨h1, h2, h3, b, h4, h5, h6⟩
    · rw [h1.2]; exact a
    · have := (rs_code hW h4).1
      omega
theorem RI_step {F F1 : Nat → Nat → Int} {q b : Nat} {u fee bz : Int} (R : fr F) (h : RI F F1 q) (hs : F 16 q = 1) (hb : 0 ≤ u → u ≤ F 9 0 → rsF F b u.toNat q) (hf : fee = fb (F 11) b) (hbz : bz = b) : RI F (rch F1 u q fee bz) q ∧ (∀ p, rch F1 u q fee bz 14 p ≤ F1 14 p) ∧ (0 ≤ u → u ≤ F 9 0 → F 16 u.toNat = 0 → rch F1 u q fee bz 14 u.toNat ≤ F 14 q + rcF F b u.toNat q) := by
  have e := h.1
  have e9 : F1 9 = F 9 := e 9 (by decide) (by decide)
  have e13 : F1 13 = F 13 := e 13 (by decide) (by decide)
  have e16 : F1 16 = F 16 := e 16 (by decide) (by decide)
  have eq := (RI_q h hs).1
  subst hf
  subst hbz
  unfold rch
  rw [e9, e13, e16, eq]
  by_cases hc : 0 ≤ u ∧ u ≤ F 9 0 ∧ F 16 u.toNat = 0 ∧ F 14 q + fb (F 11) b - F 13 u.toNat + F 13 q < F1 14 u.toNat
  · rw [if_pos hc]
    have hr := hb hc.1 hc.2.1
    have hv : ∀ p, va_up (va_up F1 14 (vf_upd (F1 14) u.toNat (F 14 q + fb (F 11) b - F 13 u.toNat + F 13 q))) 15 (vf_upd (F1 15) u.toNat b) 14 p = vf_upd (F1 14) u.toNat (F 14 q + fb (F 11) b - F 13 u.toNat + F 13 q) p := fun p => rfl
    have hv5 : ∀ p, va_up (va_up F1 14 (vf_upd (F1 14) u.toNat (F 14 q + fb (F 11) b - F 13 u.toNat + F 13 q))) 15 (vf_upd (F1 15) u.toNat b) 15 p = vf_upd (F1 15) u.toNat b p := fun p => rfl
    refine ⟨⟨fun k h1 h2 => ?_, fun p => ?_⟩, fun p => ?_, fun _ _ _ => ?_⟩
    · unfold va_up
      rw [if_neg h2, if_neg h1]
      exact e k h1 h2
    · rw [hv p, hv5 p]
      unfold vf_upd
      by_cases hp : p = u.toNat
      · subst hp
        rw [if_pos rfl, if_pos rfl]
        have hle : F1 14 u.toNat ≤ F 14 u.toNat := by
          rcases h.2 u.toNat with h1 | h1
          · rw [h1.1]; exact Int.le_refl _
          · exact Int.le_of_lt h1.2.2.1
        refine Or.inr ⟨hr.1, hc.2.2.1, by omega, b, hr, rfl, ?_⟩
        show _ = F 14 q + (fb (F 11) b - F 13 u.toNat + F 13 q)
        omega
      · rw [if_neg hp, if_neg hp]
        exact h.2 p
    · rw [hv p]
      unfold vf_upd
      by_cases hp : p = u.toNat
      · rw [if_pos hp, hp]; omega
      · rw [if_neg hp]; exact Int.le_refl _
    · rw [hv]
      unfold vf_upd
      rw [if_pos rfl]
      show _ ≤ F 14 q + (fb (F 11) b - F 13 u.toNat + F 13 q)
      omega
  · rw [if_neg hc]
    refine ⟨h, fun p => Int.le_refl _, fun h1 h2 h3 => ?_⟩
    show _ ≤ F 14 q + (fb (F 11) b - F 13 u.toNat + F 13 q)
    omega
section FLOW2
variable {l : Launch} {g : zG} {F : Nat → Nat → Int} {L : Nat → Int} {im : Nat → Option Nat} {c : Nat}
theorem c_reachThose (R : fr F) (T : ftF F) {q : Nat} (hq0 : q ≤ nN F) (hs : F 16 q = 1) : zM l g yX2_reachThose cX2_reachThose 3 none 1 0 0 [.ref (g.2.1 + 9), .int (iz q)] (zk g F L im c) (fun r h => r = none ∧ ∃ F' : Nat → Nat → Int, h = zk g F' L im c ∧ RI F F' q ∧ ∀ b u, rsF F b u q → F 16 u = 0 → F' 14 u ≤ F 14 q + rcF F b u q) := by
  refine zM_of 1 (by decide) rfl ?_
  show zJ l g RX2 cX2_reachThose 3 none "reachThose" (zRm 1 0 0) 0 0 _ 0 0 0 [some (.ref (g.2.1 + 9)), some (.int (iz q)), none] [] _
  have eN := nN_eq R
  have eW := nW_eq R
  have r1 := R.1
  have r2 := R.2.1
  have loop : ∀ (j v : Nat) (F1 : Nat → Nat → Int), v + j = nW F → RI F F1 q → (∀ b u, rsF F b u q → wy b < v → F 16 u = 0 → F1 14 u ≤ F 14 q + rcF F b u q) → zJ l g RX2 cX2_reachThose 3 none "reachThose" (zRm 1 0 0) 0 0 (fun r h => r = none ∧ ∃ F' : Nat → Nat → Int, h = zk g F' L im c ∧ RI F F' q ∧ ∀ b u, rsF F b u q → F 16 u = 0 → F' 14 u ≤ F 14 q + rcF F b u q) 0 0 2 [some (.ref (g.2.1 + 9)), some (.int (iz q)), some (.int (iz v))] [] (zk g F1 L im c) := by
    intro j
    induction j with
    | zero =>
      intro v F1 hv hR hC
      have e9 : F1 9 = F 9 := hR.1 9 (by decide) (by decide)
      refine z_iload_n (pc := 2) rfl dX2_reachThose_2 ?_
      refine z_aload_n (pc := 3) rfl dX2_reachThose_3 ?_
      refine zf_X2_69 (pc := 4) rfl rfl dX2_reachThose_4 ?_
      rw [e9]
      refine z_icmp_ge (pc := 7) ⟨by omega, by omega⟩ ⟨by omega, by omega⟩ 74 (by decide) dX2_reachThose_7 (fun hq => ?_) (fun hq => ?_)
      · exact z_retv (pc := 74) rfl (by decide) (by decide) dX2_reachThose_74 ⟨rfl, F1, rfl, hR, fun b u hb h0 => hC b u hb (by have := (rs_code (by omega) hb).2; omega) h0⟩
      omega
    | succ j ih =>
      intro v F1 hv hR hC
      have e9 : F1 9 = F 9 := hR.1 9 (by decide) (by decide)
      have e10 : F1 10 = F 10 := hR.1 10 (by decide) (by decide)
      have e11 : F1 11 = F 11 := hR.1 11 (by decide) (by decide)
      have b10 := R.2.2.1 v
      have b11 := R.2.2.2.1 v
      have f1 : fb (F 11) v = F 11 v := if_pos (by omega)
      have f2 : fb (F 11) (v + 8) = -F 11 v := by unfold fb; rw [if_neg (by omega), Nat.add_sub_cancel]
      refine z_iload_n (pc := 2) rfl dX2_reachThose_2 ?_
      refine z_aload_n (pc := 3) rfl dX2_reachThose_3 ?_
      refine zf_X2_69 (pc := 4) rfl rfl dX2_reachThose_4 ?_
      rw [e9]
      refine z_icmp_ge (pc := 7) ⟨by omega, by omega⟩ ⟨by omega, by omega⟩ 74 (by decide) dX2_reachThose_7 (fun hq => ?_) (fun hq => ?_)
      · omega
      refine z_aload_n (pc := 10) rfl dX2_reachThose_10 ?_
      refine z_iload_n (pc := 11) rfl dX2_reachThose_11 ?_
      refine z_aload_n (pc := 12) rfl dX2_reachThose_12 ?_
      refine zf_X2_11 (pc := 13) rfl rfl dX2_reachThose_13 ?_
      refine z_iload_n (pc := 16) rfl dX2_reachThose_16 ?_
      refine z_iald (pc := 17) rfl (by decide) (by omega) (by omega) dX2_reachThose_17 ?_
      refine z_isub (pc := 18) dX2_reachThose_18 ?_
      refine z_iload_n (pc := 19) rfl dX2_reachThose_19 ?_
      refine z_aload_n (pc := 20) rfl dX2_reachThose_20 ?_
      refine zf_X2_15 (pc := 21) rfl rfl dX2_reachThose_21 ?_
      refine z_iload_n (pc := 24) rfl dX2_reachThose_24 ?_
      refine z_iald (pc := 25) rfl (by decide) (by omega) (by omega) dX2_reachThose_25 ?_
      refine z_iload_n (pc := 26) rfl dX2_reachThose_26 ?_
      rw [Int.toNat_natCast, e10, e11]
      refine z_V4 (pc := 27) (c_reach (RI_fr R T hR) (u := (q : Int) - F 10 v) ⟨by omega, by omega⟩ (q := q) (by omega) (fee := F 11 v) (b := v) (by omega)) lk_X2_112 iv_X2_reach rfl rfl ⟨by decide, by decide⟩ (Nat.le_of_ble_eq_true rfl) ⟨by decide, by decide⟩ dX2_reachThose_27 (fun r h9 hq => ?_)
      obtain ⟨rfl, e8⟩ := hq
      rw [e8]
      clear e8 h9
      refine z_r0 ?_
      obtain ⟨hR2, hm2, hc2⟩ := RI_step (b := v) (u := (q : Int) - F 10 v) (fee := F 11 v) (bz := v) R hR hs (fun h1 h2 => ⟨by omega, hq0, Or.inl ⟨by omega, by omega⟩⟩) f1.symm rfl
      generalize rch F1 ((q : Int) - F 10 v) q (F 11 v) v = F2 at hR2 hm2 hc2 ⊢
      have k10 : F2 10 = F 10 := hR2.1 10 (by decide) (by decide)
      have k11 : F2 11 = F 11 := hR2.1 11 (by decide) (by decide)
      have k12 : F2 12 = F 12 := hR2.1 12 (by decide) (by decide)
      have b12 := R.2.2.2.2.1 (v * 41 + q)
      have hC2 : ∀ b u, rsF F b u q → (wy b < v ∨ b = v) → F 16 u = 0 → F2 14 u ≤ F 14 q + rcF F b u q := by
        intro b u hb hbv h0
        rcases hbv with hbv | rfl
        · have := hC b u hb hbv h0
          have := hm2 u
          omega
        · have hu : ((q : Int) - F 10 b).toNat = u := by
            rcases hb.2.2 with h1 | h1
            · omega
            · omega
          rw [hu] at hc2
          have hu2 := hb.1
          exact hc2 (by rcases hb.2.2 with h1 | h1 <;> omega) (by rcases hb.2.2 with h1 | h1 <;> omega) h0
      refine z_aload_n (pc := 30) rfl dX2_reachThose_30 ?_
      refine zf_X2_18 (pc := 31) rfl rfl dX2_reachThose_31 ?_
      refine z_iload_n (pc := 34) rfl dX2_reachThose_34 ?_
      refine z_bipush (pc := 35) (by decide) dX2_reachThose_35 ?_
      refine z_imul (pc := 37) dX2_reachThose_37 ?_
      refine z_iload_n (pc := 38) rfl dX2_reachThose_38 ?_
      refine z_iadd (pc := 39) dX2_reachThose_39 ?_
      refine z_iald (pc := 40) rfl (by decide) (by omega) (by omega) dX2_reachThose_40 ?_
      rw [show ((v : Int) * 41 + q).toNat = v * 41 + q by omega, k12]
      refine z_if_le (pc := 41) ⟨by omega, by omega⟩ 68 (by decide) dX2_reachThose_41 (fun hq => ?_) (fun hq => ?_)
      · refine z_ii2 (pc := 68) (by decide) rfl dX2_reachThose_68 ?_
        refine z_goto (pc := 71) 2 (by decide) dX2_reachThose_71 ?_
        refine ih (v + 1) F2 (by omega) hR2 (fun b u hb hbv h0 => hC2 b u hb ?_ h0)
        unfold wy at hbv ⊢
        by_cases h8 : b < 8
        · rw [if_pos h8] at hbv ⊢; omega
        · rw [if_neg h8] at hbv ⊢
          rcases hb.2.2 with h1 | h1
          · omega
          · by_cases e : b - 8 = v
            · rw [e] at h1; omega
            · omega
      refine z_aload_n (pc := 44) rfl dX2_reachThose_44 ?_
      refine z_iload_n (pc := 45) rfl dX2_reachThose_45 ?_
      refine z_aload_n (pc := 46) rfl dX2_reachThose_46 ?_
      refine zf_X2_11 (pc := 47) rfl rfl dX2_reachThose_47 ?_
      refine z_iload_n (pc := 50) rfl dX2_reachThose_50 ?_
      refine z_iald (pc := 51) rfl (by decide) (by omega) (by omega) dX2_reachThose_51 ?_
      refine z_iadd (pc := 52) dX2_reachThose_52 ?_
      refine z_iload_n (pc := 53) rfl dX2_reachThose_53 ?_
      refine z_aload_n (pc := 54) rfl dX2_reachThose_54 ?_
      refine zf_X2_15 (pc := 55) rfl rfl dX2_reachThose_55 ?_
      refine z_iload_n (pc := 58) rfl dX2_reachThose_58 ?_
      refine z_iald (pc := 59) rfl (by decide) (by omega) (by omega) dX2_reachThose_59 ?_
      refine z_ineg (pc := 60) dX2_reachThose_60 ?_
      refine z_iload_n (pc := 61) rfl dX2_reachThose_61 ?_
      refine z_bipush (pc := 62) (by decide) dX2_reachThose_62 ?_
      refine z_iadd (pc := 64) dX2_reachThose_64 ?_
      rw [Int.toNat_natCast, k10, k11]
      refine z_V4 (pc := 65) (c_reach (RI_fr R T hR2) (u := (q : Int) + F 10 v) ⟨by omega, by omega⟩ (q := q) (by omega) (fee := -F 11 v) (b := (v : Int) + 8) (by omega)) lk_X2_112 iv_X2_reach rfl rfl ⟨by decide, by decide⟩ (Nat.le_of_ble_eq_true rfl) ⟨by decide, by decide⟩ dX2_reachThose_65 (fun r h9 hq => ?_)
      obtain ⟨rfl, e8⟩ := hq
      rw [e8]
      clear e8 h9
      refine z_r0 ?_
      have hx : 0 < F 12 (v * 41 + q) := by assumption
      obtain ⟨hR3, hm3, hc3⟩ := RI_step (b := v + 8) (u := (q : Int) + F 10 v) (fee := -F 11 v) (bz := (v : Int) + 8) R hR2 hs (fun h1 h2 => ⟨by omega, hq0, Or.inr ⟨by omega, by omega, by rw [Nat.add_sub_cancel]; omega, by rw [Nat.add_sub_cancel]; exact hx⟩⟩) f2.symm (by omega)
      generalize rch F2 ((q : Int) + F 10 v) q (-F 11 v) ((v : Int) + 8) = F3 at hR3 hm3 hc3 ⊢
      refine z_ii2 (pc := 68) (by decide) rfl dX2_reachThose_68 ?_
      refine z_goto (pc := 71) 2 (by decide) dX2_reachThose_71 ?_
      refine ih (v + 1) F3 (by omega) hR3 (fun b u hb hbv h0 => ?_)
      by_cases hb1 : wy b < v ∨ b = v
      · have := hC2 b u hb hb1 h0
        have := hm3 u
        omega
      · have hb2 : b = v + 8 := by
          unfold wy at hbv hb1
          by_cases h8 : b < 8
          · rw [if_pos h8] at hbv hb1; omega
          · rw [if_neg h8] at hbv hb1; omega
        subst hb2
        have hu : ((q : Int) + F 10 v).toNat = u ∧ 0 ≤ (q : Int) + F 10 v ∧ (q : Int) + F 10 v ≤ F 9 0 := by
          have hu2 := hb.1
          rcases hb.2.2 with h1 | h1
          · omega
          · rw [Nat.add_sub_cancel] at h1; omega
        rw [hu.1] at hc3
        exact hc3 hu.2.1 hu.2.2 h0
  refine z_iconst (pc := 0) dX2_reachThose_0 ?_
  refine z_is2 (pc := 1) (by decide) rfl dX2_reachThose_1 ?_
  exact loop (nW F) 0 F (by omega) (RI_rf F q) (fun b u _ h => by omega)
end FLOW2
end
section
/-! ===== Flow.raiseWorth ===== -/
theorem adj_ex {f : Nat → Int} {n a b : Nat} (hf : ∀ u, f u = 0 ∨ f u = 1) (ha : a ≤ n) (hb : b ≤ n) (h1 : f a = 1) (h0 : f b = 0) : ∃ i, i < n ∧ ((f i = 1 ∧ f (i + 1) = 0) ∨ (f i = 0 ∧ f (i + 1) = 1)) := by
  refine Classical.byContradiction fun hn => ?_
  have key : ∀ i, i ≤ n → f i = f 0 := by
    intro i
    induction i with
    | zero => intro _; rfl
    | succ i ih =>
      intro hi
      have e := ih (by omega)
      rw [← e]
      refine Classical.byContradiction fun hne => hn ⟨i, by omega, ?_⟩
      have h2 := hf i
      have h3 := hf (i + 1)
      omega
  have k1 := key a ha
  have k2 := key b hb
  omega
theorem cnt_le {f : Nat → Int} (hf : ∀ u, f u = 0 ∨ f u = 1) : ∀ n, 0 ≤ sm f n ∧ sm f n ≤ n
  | 0 => ⟨Int.le_refl 0, Int.le_refl 0⟩
  | n + 1 => by
    have h1 := cnt_le hf n
    have h2 := hf n
    show 0 ≤ sm f n + f n ∧ sm f n + f n ≤ ((n + 1 : Nat) : Int)
    omega
theorem cnt_all {f : Nat → Int} (hf : ∀ u, f u = 0 ∨ f u = 1) : ∀ {n : Nat}, sm f n = n → ∀ u, u < n → f u = 1
  | 0, _, u, h => absurd h (Nat.not_lt_zero u)
  | n + 1, hs, u, h => by
    have h1 := cnt_le hf n
    have h2 := hf n
    have hs' : sm f n + f n = ((n + 1 : Nat) : Int) := hs
    by_cases e : u = n
    · subst e; omega
    · exact cnt_all hf (n := n) (by omega) u (by omega)
theorem cnt_yes {f : Nat → Int} : ∀ {n : Nat}, (∀ u, u < n → f u = 1) → sm f n = n
  | 0, _ => rfl
  | n + 1, h => by
    show sm f n + f n = ((n + 1 : Nat) : Int)
    rw [cnt_yes (fun u hu => h u (by omega)), h n (by omega)]
    omega
theorem ft_cong {n W : Nat} {ln fe x π π2 : Nat → Int} (h : ft n W ln fe x π) (e : ∀ p, p ≤ n → π2 p = π p) : ft n W ln fe x π2 := by
  refine ⟨fun b u v hr => ?_, h.2⟩
  rw [e u hr.1, e v hr.2.1]
  exact h.1 b u v hr
/-- the first two ways: back for nothing, forth by rate -/
def nb (F : Nat → Nat → Int) : Prop := F 10 0 = -1 ∧ F 11 0 = 0 ∧ F 10 1 = 1 ∧ 1 ≤ F 11 1 ∧ F 11 1 ≤ 1000
theorem nb_fall {F : Nat → Nat → Int} (R : fr F) (T : ftF F) (N : nb F) {p : Nat} (hp : p < nN F) : 0 ≤ F 13 p - F 13 (p + 1) ∧ F 13 p - F 13 (p + 1) ≤ F 11 1 := by
  have eW := nW_eq R
  have r2 := R.2.1
  have a1 := T.1 0 (p + 1) p ⟨by omega, by omega, Or.inl ⟨by omega, by rw [N.1]; omega⟩⟩
  have a2 := T.1 1 p (p + 1) ⟨by omega, by omega, Or.inl ⟨by omega, by rw [N.2.2.1]; omega⟩⟩
  have f0 : fb (F 11) 0 = F 11 0 := rfl
  have f1 : fb (F 11) 1 = F 11 1 := rfl
  have := N.2.1
  omega
/-- how far the search has come: r points are settled, goal first; t says when -/
def DI (F F1 : Nat → Nat → Int) (goal r : Nat) (t : Nat → Nat) : Prop :=
  (∀ k, k ≠ 14 → k ≠ 15 → k ≠ 16 → F1 k = F k) ∧ fr F1 ∧ sm (F1 16) (nN F + 1) = r ∧
  (∀ b u v, rsF F b u v → F1 16 v = 1 → F1 14 u ≤ F1 14 v + rcF F b u v) ∧
  (∀ u v, u ≤ nN F → v ≤ nN F → F1 16 v = 1 → F1 16 u = 0 → F1 14 v ≤ F1 14 u) ∧
  (∀ u, u ≤ nN F → u ≠ goal → F1 14 u < 1000000000 → ∃ b v, rsF F b u v ∧ F1 15 u = (b : Int) ∧ F1 16 v = 1 ∧ F1 14 u = F1 14 v + rcF F b u v ∧ (F1 16 u = 1 → t v < t u)) ∧
  (∀ u, u ≤ nN F → F1 16 u = 1 → t u < r ∧ F1 14 u ≤ 1000 * t u) ∧ F1 14 goal = 0
/-- the point p is next -/
def NX (F F1 : Nat → Nat → Int) (goal r p : Nat) : Prop := p ≤ nN F ∧ F1 16 p = 0 ∧ (∀ u, u ≤ nN F → F1 16 u = 0 → F1 14 p ≤ F1 14 u) ∧ F1 14 p ≤ 1000 * r ∧ (r = 0 → p = goal) ∧ (0 < r → F1 16 goal = 1)
theorem DI_sat {F F1 : Nat → Nat → Int} {goal r p : Nat} {t : Nat → Nat} (R : fr F) (D : DI F F1 goal r t) (X : NX F F1 goal r p) : r ≤ nN F := by
  refine Classical.byContradiction fun hn => ?_
  have h1 := cnt_le D.2.1.2.2.2.2.2.2.2.2 (nN F + 1)
  have h2 := D.2.2.1
  have := cnt_all D.2.1.2.2.2.2.2.2.2.2 (n := nN F + 1) (by omega) p (by have := X.1; omega)
  have := X.2.1
  omega
/-- behind the settling of p: what is told of it and of the others -/
theorem DI_set {F F1 : Nat → Nat → Int} {goal r p : Nat} {t : Nat → Nat} (R : fr F) (T : ftF F) (N : nb F) (D : DI F F1 goal r t) (X : NX F F1 goal r p) (F2 : Nat → Nat → Int) (hF2 : F2 = va_up F1 16 (vf_upd (F1 16) p 1)) :
    fr F2 ∧ ftF F2 ∧ F2 16 p = 1 ∧ (∀ u, u ≠ p → F2 16 u = F1 16 u) ∧ (∀ k, k ≠ 16 → F2 k = F1 k) ∧ sm (F2 16) (nN F + 1) = r + 1 := by
  have e16 : F2 16 = vf_upd (F1 16) p 1 := by rw [hF2]; rfl
  have ek : ∀ k, k ≠ 16 → F2 k = F1 k := fun k hk => by rw [hF2]; unfold va_up; rw [if_neg hk]
  have eF : ∀ k, k ≠ 14 → k ≠ 15 → k ≠ 16 → F2 k = F k := fun k h1 h2 h3 => (ek k h3).trans (D.1 k h1 h2 h3)
  have hp1 : F2 16 p = 1 := by rw [e16]; unfold vf_upd; rw [if_pos rfl]
  have hu : ∀ u, u ≠ p → F2 16 u = F1 16 u := fun u h => by rw [e16]; unfold vf_upd; rw [if_neg h]
  have Rr := D.2.1
  refine ⟨?_, ?_, hp1, hu, ek, ?_⟩
  · unfold fr
    rw [ek 9 (by decide), ek 10 (by decide), ek 11 (by decide), ek 12 (by decide), ek 13 (by decide), ek 14 (by decide), ek 15 (by decide)]
    refine ⟨Rr.1, Rr.2.1, Rr.2.2.1, Rr.2.2.2.1, Rr.2.2.2.2.1, Rr.2.2.2.2.2.1, Rr.2.2.2.2.2.2.1, Rr.2.2.2.2.2.2.2.1, fun u => ?_⟩
    by_cases h : u = p
    · right; rw [h]; exact hp1
    · rw [hu u h]; exact Rr.2.2.2.2.2.2.2.2 u
  · unfold ftF nN nW
    rw [eF 9 (by decide) (by decide) (by decide), eF 10 (by decide) (by decide) (by decide), eF 11 (by decide) (by decide) (by decide), eF 12 (by decide) (by decide) (by decide), eF 13 (by decide) (by decide) (by decide)]
    exact T
  · have hX := X.1
    rw [e16, sm_upd (by omega), D.2.2.1, X.2.1]
    omega
theorem DI_next {F F1 F3 : Nat → Nat → Int} {goal r p : Nat} {t : Nat → Nat} (R : fr F) (T : ftF F) (N : nb F) (D : DI F F1 goal r t) (X : NX F F1 goal r p) {F2 : Nat → Nat → Int} (hF2 : F2 = va_up F1 16 (vf_upd (F1 16) p 1)) (hI : RI F2 F3 p) (hC : ∀ b u, rsF F2 b u p → F2 16 u = 0 → F3 14 u ≤ F2 14 p + rcF F2 b u p) : DI F F3 goal (r + 1) (fun u => if u = p then r else t u) ∧ F3 16 goal = 1 ∧ (∀ q : Nat, q ≤ nN F → F3 16 q = 0 → (∀ u, u ≤ nN F → F3 16 u = 0 → F3 14 q ≤ F3 14 u) → NX F F3 goal (r + 1) q) ∧ (∀ u, F3 16 u = 0 → F1 16 u = 0) ∧ ∀ u, u ≠ p → F1 16 u = 0 → F3 16 u = 0 := by
  obtain ⟨S1, S2, hp1, hu, ek, hcnt⟩ := DI_set R T N D X F2 hF2
  have kD := D.1
  have eF : ∀ k, k ≠ 14 → k ≠ 15 → k ≠ 16 → F2 k = F k := fun k h1 h2 h3 => (ek k h3).trans (kD k h1 h2 h3)
  have q9 := eF 9 (by decide) (by decide) (by decide)
  have q10 := eF 10 (by decide) (by decide) (by decide)
  have q11 := eF 11 (by decide) (by decide) (by decide)
  have q12 := eF 12 (by decide) (by decide) (by decide)
  have q13 := eF 13 (by decide) (by decide) (by decide)
  have ers : ∀ b u v, rsF F2 b u v ↔ rsF F b u v := fun b u v => by unfold rsF nN nW; rw [q9, q10, q12]
  have erc : ∀ b u v, rcF F2 b u v = rcF F b u v := fun b u v => by unfold rcF; rw [q11, q13]
  have enN : nN F2 = nN F := by unfold nN; rw [q9]
  have e14 : F2 14 = F1 14 := ek 14 (by decide)
  have e15 : F2 15 = F1 15 := ek 15 (by decide)
  have f16 : F3 16 = F2 16 := hI.1 16 (by decide) (by decide)
  have hle : ∀ u, F3 14 u ≤ F1 14 u := fun u => by
    rcases hI.2 u with h1 | h1
    · rw [h1.1, e14]; exact Int.le_refl _
    · rw [← e14]; exact Int.le_of_lt h1.2.2.1
  have hst : ∀ u, F2 16 u = 1 → F3 14 u = F1 14 u ∧ F3 15 u = F1 15 u := fun u h => by
    have := RI_q hI h
    rw [e14, e15] at this
    exact this
  have h16 := D.2.1.2.2.2.2.2.2.2.2
  have hnn : ∀ b u v, rsF F b u v → 0 ≤ rcF F b u v := fun b u v h => by
    have := T.1 b u v h
    show 0 ≤ fb (F 11) b - F 13 u + F 13 v
    omega
  have hold : ∀ u, u ≠ p → (F2 16 u = 1 ↔ F1 16 u = 1) := fun u h => by rw [hu u h]
  have hnew : ∀ u, F2 16 u = 0 → u ≠ p ∧ F1 16 u = 0 := fun u h => by
    have h1 : u ≠ p := fun e => by rw [e] at h; omega
    exact ⟨h1, by rw [← hu u h1]; exact h⟩
  have hup : ∀ u, u ≤ nN F → F2 16 u = 0 → (F3 14 u = F1 14 u ∧ F3 15 u = F1 15 u) ∨ ∃ b, rsF F b u p ∧ F3 15 u = (b : Int) ∧ F3 14 u = F1 14 p + rcF F b u p := fun u _ h0 => by
    rcases hI.2 u with h1 | ⟨h1, h2, h3, b, h4, h5, h6⟩
    · left; rw [e14, e15] at h1; exact h1
    · right
      refine ⟨b, (ers b u p).mp h4, h5, ?_⟩
      rw [h6, e14, erc]
  have hsp := hst p hp1
  have hgoal : F3 16 goal = 1 := by
    rw [f16]
    by_cases hr : r = 0
    · rw [← X.2.2.2.2.1 hr]; exact hp1
    · by_cases hgp : goal = p
      · rw [hgp]; exact hp1
      · rw [hu goal hgp]; exact X.2.2.2.2.2 (by omega)
  have D2 : ∀ b u v, rsF F b u v → F3 16 v = 1 → F3 14 u ≤ F3 14 v + rcF F b u v := by
    intro b u v hr hv
    rw [f16] at hv
    have hn := hnn b u v hr
    by_cases hvp : v = p
    · subst hvp
      rcases h16 u with h0 | h1
      · by_cases hup2 : u = v
        · subst hup2; omega
        · have h2 : F2 16 u = 0 := by rw [hu u hup2]; exact h0
          have h3 := hC b u ((ers b u v).mpr hr) h2
          rw [erc, e14] at h3
          rw [hsp.1]; exact h3
      · have h2 := D.2.2.2.2.1 v u X.1 hr.1 h1 X.2.1
        have h3 := hle u
        rw [hsp.1]
        omega
    · have h1 := (hold v hvp).mp hv
      have h2 := D.2.2.2.1 b u v hr h1
      have h3 := hle u
      rw [(hst v hv).1]
      omega
  have DD : DI F F3 goal (r + 1) (fun u => if u = p then r else t u) := by
    refine ⟨fun k h1 h2 h3 => (hI.1 k h1 h2).trans (eF k h1 h2 h3), RI_fr S1 S2 hI, ?_, D2, ?_, ?_, ?_, ?_⟩
    · rw [f16, hcnt]; omega
    · intro u v hun hvn hv hu0
      rw [f16] at hv hu0
      have hu1 := hnew u hu0
      have hpu := X.2.2.1 u hun hu1.2
      have hvp : F1 14 v ≤ F1 14 p := by
        by_cases e : v = p
        · rw [e]; exact Int.le_refl _
        · exact D.2.2.2.2.1 p v X.1 hvn ((hold v e).mp hv) X.2.1
      rw [(hst v hv).1]
      rcases hup u hun hu0 with h1 | ⟨b, h1, h2, h3⟩
      · rw [h1.1]; omega
      · have := hnn b u p h1
        rw [h3]; omega
    · intro u hun hug hfar
      by_cases h1 : F2 16 u = 1
      · have hs := hst u h1
        rw [hs.1] at hfar
        obtain ⟨b, v, k1, k2, k3, k4, k5⟩ := D.2.2.2.2.2.1 u hun hug hfar
        have hvp : v ≠ p := fun e => by rw [e] at k3; have := X.2.1; omega
        have hv1 := (hold v hvp).mpr k3
        refine ⟨b, v, k1, by rw [hs.2]; exact k2, by rw [f16]; exact hv1, by rw [hs.1, (hst v hv1).1]; exact k4, fun _ => ?_⟩
        show (if v = p then r else t v) < (if u = p then r else t u)
        rw [if_neg hvp]
        by_cases hupp : u = p
        · rw [if_pos hupp]; exact (D.2.2.2.2.2.2.1 v k1.2.1 k3).1
        · rw [if_neg hupp]; exact k5 ((hold u hupp).mp h1)
      · have h0 : F2 16 u = 0 := by have := S1.2.2.2.2.2.2.2.2 u; omega
        have hu1 := hnew u h0
        rcases hup u hun h0 with h2 | ⟨b, h2, h3, h4⟩
        · rw [h2.1] at hfar
          obtain ⟨b, v, k1, k2, k3, k4, k5⟩ := D.2.2.2.2.2.1 u hun hug hfar
          have hvp : v ≠ p := fun e => by rw [e] at k3; have := X.2.1; omega
          have hv1 := (hold v hvp).mpr k3
          exact ⟨b, v, k1, by rw [h2.2]; exact k2, by rw [f16]; exact hv1, by rw [h2.1, (hst v hv1).1]; exact k4, fun h5 => by rw [f16] at h5; omega⟩
        · exact ⟨b, p, h2, h3, by rw [f16]; exact hp1, by rw [h4, hsp.1], fun h5 => by rw [f16] at h5; omega⟩
    · intro u hun h1
      rw [f16] at h1
      rw [(hst u h1).1]
      by_cases hupp : u = p
      · dsimp only
        rw [if_pos hupp, hupp]
        exact ⟨by omega, X.2.2.2.1⟩
      · dsimp only
        rw [if_neg hupp]
        have := D.2.2.2.2.2.2.1 u hun ((hold u hupp).mp h1)
        exact ⟨by omega, this.2⟩
    · by_cases h1 : F2 16 goal = 1
      · rw [(hst goal h1).1]; exact D.2.2.2.2.2.2.2
      · rw [f16] at hgoal; exact absurd hgoal h1
  refine ⟨DD, hgoal, ?_, fun u h => (hnew u (by rw [← f16]; exact h)).2, fun u h1 h2 => by rw [f16, hu u h1]; exact h2⟩
  intro q hq hq0 hqm
  refine ⟨hq, hq0, hqm, ?_, fun h => by omega, fun _ => hgoal⟩
  have h3 := DD.2.1.2.2.2.2.2.2.2.2
  have hgn : p ≤ nN F := X.1
  obtain ⟨a, ha, hcase⟩ := adj_ex h3 hgn hq (by rw [f16]; exact hp1) hq0
  have fall := nb_fall R T N ha
  have eW := nW_eq R
  have r2 := R.2.1
  have nb1 := N.2.2.2.2
  rcases hcase with ⟨c1, c0⟩ | ⟨c0, c1⟩
  · have k := D2 0 (a + 1) a ⟨by omega, by omega, Or.inl ⟨by omega, by rw [N.1]; omega⟩⟩ c1
    have k2 := hqm (a + 1) (by omega) c0
    have k3 := DD.2.2.2.2.2.2.1 a (by omega) c1
    have k4 : rcF F 0 (a + 1) a = F 11 0 - F 13 (a + 1) + F 13 a := rfl
    have := N.2.1
    omega
  · have k := D2 1 a (a + 1) ⟨by omega, by omega, Or.inl ⟨by omega, by rw [N.2.2.1]; omega⟩⟩ c1
    have k2 := hqm a (by omega) c0
    have k3 := DD.2.2.2.2.2.2.1 (a + 1) (by omega) c1
    have k4 : rcF F 1 a (a + 1) = F 11 1 - F 13 a + F 13 (a + 1) := rfl
    omega
/-- the end of the search -/
def FC (F F2 : Nat → Nat → Int) (goal : Nat) (st m : Int) (t : Nat → Nat) : Prop :=
  (∀ k, k ≠ 14 → k ≠ 15 → k ≠ 16 → F2 k = F k) ∧ fr F2 ∧ (∀ b u v, rsF F b u v → (F2 16 v = 1 ∧ (v : Int) ≠ st) → F2 14 u ≤ F2 14 v + rcF F b u v) ∧ (∀ u : Nat, u ≤ nN F → ¬ (F2 16 u = 1 ∧ (u : Int) ≠ st) → m ≤ F2 14 u) ∧ (∀ u, u ≤ nN F → F2 16 u = 1 → F2 14 u ≤ m ∧ F2 14 u ≤ 1000 * t u ∧ t u ≤ nN F) ∧
  (∀ u, u ≤ nN F → F2 16 u = 1 → u ≠ goal → ∃ b v, rsF F b u v ∧ F2 15 u = (b : Int) ∧ F2 16 v = 1 ∧ F2 14 u = F2 14 v + rcF F b u v ∧ t v < t u) ∧ F2 14 goal = 0 ∧ F2 16 goal = 1 ∧ ((st = -1 ∧ m = 1000000000 ∧ ∀ u, u ≤ nN F → F2 16 u = 1) ∨ ∃ s : Nat, st = s ∧ s ≤ nN F ∧ F2 16 s = 1 ∧ m = F2 14 s)
/-- what raiseWorth does -/
def RW (F F' : Nat → Nat → Int) (goal : Nat) (st : Int) (t : Nat → Nat) : Prop :=
  (∀ k, k ≠ 13 → k ≠ 14 → k ≠ 15 → k ≠ 16 → F' k = F k) ∧ fr F' ∧ ftF F' ∧ F' 13 goal = F 13 goal ∧ (∀ u, F 13 u ≤ F' 13 u ∧ F' 13 u ≤ F 13 u + 41000) ∧
  (∀ u, u ≤ nN F → F' 16 u = 1 → t u ≤ nN F ∧ (u ≠ goal → ∃ b v, rsF F b u v ∧ F' 15 u = (b : Int) ∧ F' 16 v = 1 ∧ F' 13 u - F' 13 v = fb (F 11) b ∧ t v < t u)) ∧
  ((st = -1 ∧ ∀ u, u ≤ nN F → F' 16 u = 1) ∨ ∃ s : Nat, st = s ∧ s ≤ nN F ∧ F' 16 s = 1 ∧ ∀ u, F' 13 u ≤ F 13 u + (F' 13 s - F' 13 goal) - (F 13 s - F 13 goal))
theorem FC_RW {F F2 F' : Nat → Nat → Int} {goal : Nat} {st m : Int} {t : Nat → Nat} (R : fr F) (T : ftF F) (hP : ∀ u, F 13 u ≤ 100000) (hg : goal ≤ nN F) (C : FC F F2 goal st m t) (e13 : F' 13 = fun p => if p ≤ nN F then F 13 p + min (F2 14 p) m else F 13 p) (ek : ∀ k, k ≠ 13 → F' k = F2 k) : RW F F' goal st t := by
  obtain ⟨c1, c2, c3, c4, c5, c6, c7, c8, c9⟩ := C
  have eF : ∀ k, k ≠ 13 → k ≠ 14 → k ≠ 15 → k ≠ 16 → F' k = F k := fun k h1 h2 h3 h4 => (ek k h1).trans (c1 k h2 h3 h4)
  have eN := nN_eq R
  have r1 := R.1
  have hm0 : 0 ≤ m := by
    rcases c9 with h | ⟨s, h1, h2, h3, h4⟩
    · omega
    · have := c2.2.2.2.2.2.2.1 s
      omega
  have hmin : ∀ u, u ≤ nN F → 0 ≤ min (F2 14 u) m ∧ min (F2 14 u) m ≤ 41000 := fun u hu => by
    have := c2.2.2.2.2.2.2.1 u
    by_cases h : F2 16 u = 1
    · have := c5 u hu h
      omega
    · rcases c9 with h9 | ⟨s, h1, h2, h3, h4⟩
      · exact absurd (h9.2.2 u hu) h
      · have := c5 s h2 h3
        omega
  have v13 : ∀ u, u ≤ nN F → F' 13 u = F 13 u + min (F2 14 u) m := fun u hu => by rw [e13]; show (if _ then _ else _) = _; rw [if_pos hu]
  have hb : ∀ u, F 13 u ≤ F' 13 u ∧ F' 13 u ≤ F 13 u + 41000 := fun u => by
    by_cases hu : u ≤ nN F
    · rw [v13 u hu]
      have := hmin u hu
      omega
    · rw [e13]
      show F 13 u ≤ (if _ then _ else _) ∧ (if _ then _ else _) ≤ _
      rw [if_neg hu]
      omega
  have gmin : min (F2 14 goal) m = 0 := by rw [c7]; omega
  refine ⟨eF, ?_, ?_, by rw [v13 goal hg, gmin]; omega, hb, ?_, ?_⟩
  · unfold fr
    rw [ek 9 (by decide), ek 10 (by decide), ek 11 (by decide), ek 12 (by decide), ek 14 (by decide), ek 15 (by decide), ek 16 (by decide)]
    refine ⟨c2.1, c2.2.1, c2.2.2.1, c2.2.2.2.1, c2.2.2.2.2.1, fun u => ?_, c2.2.2.2.2.2.2.1, c2.2.2.2.2.2.2.2.1, c2.2.2.2.2.2.2.2.2⟩
    have h1 := hb u
    have h2 := hP u
    have h3 := R.2.2.2.2.2.1 u
    omega
  · have k := ft_cong (ft_raise (far := F2 14) (m := m) T (fun v => F2 16 v = 1 ∧ (v : Int) ≠ st) c3 c4) v13
    unfold ftF nN nW
    rw [eF 9 (by decide) (by decide) (by decide) (by decide), eF 10 (by decide) (by decide) (by decide) (by decide), eF 11 (by decide) (by decide) (by decide) (by decide), eF 12 (by decide) (by decide) (by decide) (by decide)]
    exact k
  · intro u hu h1
    rw [ek 16 (by decide)] at h1
    refine ⟨(c5 u hu h1).2.2, fun hug => ?_⟩
    obtain ⟨b, v, k1, k2, k3, k4, k5⟩ := c6 u hu h1 hug
    refine ⟨b, v, k1, by rw [ek 15 (by decide)]; exact k2, by rw [ek 16 (by decide)]; exact k3, ?_, k5⟩
    have a1 := (c5 u hu h1).1
    have a2 := (c5 v k1.2.1 k3).1
    have a3 : F2 14 u = F2 14 v + (fb (F 11) b - F 13 u + F 13 v) := k4
    rw [v13 u hu, v13 v k1.2.1]
    omega
  · rcases c9 with h9 | ⟨s, h1, h2, h3, h4⟩
    · exact Or.inl ⟨h9.1, fun u hu => by rw [ek 16 (by decide)]; exact h9.2.2 u hu⟩
    · refine Or.inr ⟨s, h1, h2, by rw [ek 16 (by decide)]; exact h3, fun u => ?_⟩
      have a1 := v13 s h2
      have a2 := v13 goal hg
      rw [gmin] at a2
      by_cases hu : u ≤ nN F
      · have a3 := v13 u hu
        omega
      · have a3 : F' 13 u = F 13 u := by rw [e13]; show (if _ then _ else _) = _; rw [if_neg hu]
        omega
section FLOW3
variable {l : Launch} {g : zG} {F : Nat → Nat → Int} {L : Nat → Int} {im : Nat → Option Nat} {c : Nat}
theorem c_raiseWorth (R : fr F) (T : ftF F) (N : nb F) (hP : ∀ u, F 13 u ≤ 100000) {goal : Nat} {st : Int} (hg : goal ≤ nN F) (hst : st = -1 ∨ ∃ s : Nat, st = s ∧ s ≤ nN F ∧ s ≠ goal) : zM l g yX2_raiseWorth cX2_raiseWorth 6 none 2 0 0 [.ref (g.2.1 + 9), .int (iz goal), .int (iz st)] (zk g F L im c) (fun r h => r = none ∧ ∃ (F' : Nat → Nat → Int) (t : Nat → Nat), h = zk g F' L im c ∧ RW F F' goal st t) := by
  refine zM_of 3 (by decide) rfl ?_
  show zJ l g RX2 cX2_raiseWorth 6 none "raiseWorth" (zRm 2 0 0) 0 0 _ 0 0 0 [some (.ref (g.2.1 + 9)), some (.int (iz goal)), some (.int (iz st)), none, none, none] [] _
  have eN := nN_eq R
  have r1 := R.1
  have hsr : ir st := by rcases hst with h | ⟨s, h1, h2, h3⟩ <;> exact ⟨by omega, by omega⟩
  -- the last loop
  have fin : ∀ (F2 : Nat → Nat → Int) (t : Nat → Nat) (m : Int), FC F F2 goal st m t → ∀ (a3 a4 : Int) (j x : Nat), x + j = nN F + 1 → zJ l g RX2 cX2_raiseWorth 6 none "raiseWorth" (zRm 2 0 0) 0 0 (fun r h => r = none ∧ ∃ (F' : Nat → Nat → Int) (t : Nat → Nat), h = zk g F' L im c ∧ RW F F' goal st t) 0 0 109 [some (.ref (g.2.1 + 9)), some (.int (iz goal)), some (.int (iz st)), some (.int (iz a3)), some (.int (iz m)), some (.int (iz x))] [] (zk g (va_up F2 13 (fun p => if p < x then F 13 p + min (F2 14 p) m else F 13 p)) L im c) := by
    intro F2 t m C a3 a4 j
    have k9 : F2 9 = F 9 := C.1 9 (by decide) (by decide) (by decide)
    have k13 : F2 13 = F 13 := C.1 13 (by decide) (by decide) (by decide)
    have hmr : ir m := by
      rcases C.2.2.2.2.2.2.2.2 with h9 | ⟨s, h1, h2, h3, h4⟩
      · exact ⟨by omega, by omega⟩
      · have := C.2.1.2.2.2.2.2.2.1 s
        exact ⟨by omega, by omega⟩
    induction j with
    | zero =>
      intro x hx
      refine z_iload (pc := 109) rfl dX2_raiseWorth_109 ?_
      refine z_aload_n (pc := 111) rfl dX2_raiseWorth_111 ?_
      refine zf_X2_44 (pc := 112) rfl rfl dX2_raiseWorth_112 ?_
      refine z_icmp_gt (pc := 115) ⟨by omega, by omega⟩ (show ir (F2 9 0) by rw [k9]; exact ⟨by omega, by omega⟩) 146 (by decide) dX2_raiseWorth_115 (fun hq => ?_) (fun hq => ?_)
      · refine z_retv (pc := 146) rfl (by decide) (by decide) dX2_raiseWorth_146 ⟨rfl, _, t, rfl, FC_RW R T hP hg C ?_ (fun k hk => by unfold va_up; rw [if_neg hk])⟩
        rw [show x = nN F + 1 by omega]
        show (fun p => if p < nN F + 1 then F 13 p + min (F2 14 p) m else F 13 p) = _
        funext p
        by_cases hp : p ≤ nN F
        · rw [if_pos hp, if_pos (by omega)]
        · rw [if_neg hp, if_neg (by omega)]
      have hq2 : (x : Int) ≤ F2 9 0 := hq
      rw [k9] at hq2
      omega
    | succ j ih =>
      intro x hx
      have b14 := C.2.1.2.2.2.2.2.2.1 x
      refine z_iload (pc := 109) rfl dX2_raiseWorth_109 ?_
      refine z_aload_n (pc := 111) rfl dX2_raiseWorth_111 ?_
      refine zf_X2_44 (pc := 112) rfl rfl dX2_raiseWorth_112 ?_
      refine z_icmp_gt (pc := 115) ⟨by omega, by omega⟩ (show ir (F2 9 0) by rw [k9]; exact ⟨by omega, by omega⟩) 146 (by decide) dX2_raiseWorth_115 (fun hq => ?_) (fun hq => ?_)
      · have hq2 : F2 9 0 < (x : Int) := hq
        rw [k9] at hq2
        omega
      refine z_aload_n (pc := 118) rfl dX2_raiseWorth_118 ?_
      refine zf_X2_21 (pc := 119) rfl rfl dX2_raiseWorth_119 ?_
      refine z_iload (pc := 122) rfl dX2_raiseWorth_122 ?_
      refine z_dup2 (pc := 124) rfl rfl dX2_raiseWorth_124 ?_
      refine z_iald (pc := 125) rfl (by decide) (by omega) (by omega) dX2_raiseWorth_125 ?_
      refine z_aload_n (pc := 126) rfl dX2_raiseWorth_126 ?_
      refine zf_X2_24 (pc := 127) rfl rfl dX2_raiseWorth_127 ?_
      refine z_iload (pc := 130) rfl dX2_raiseWorth_130 ?_
      refine z_iald (pc := 132) rfl (by decide) (by omega) (by omega) dX2_raiseWorth_132 ?_
      refine z_iload (pc := 133) rfl dX2_raiseWorth_133 ?_
      refine z_mmin (pc := 135) lk_X2_84 (show ir (F2 14 ((x : Int).toNat)) by rw [Int.toNat_natCast]; exact ⟨by omega, by omega⟩) hmr ⟨by decide, by decide⟩ (Nat.le_of_ble_eq_true rfl) ⟨by decide, by decide⟩ dX2_raiseWorth_135 ?_
      refine z_iadd (pc := 138) dX2_raiseWorth_138 ?_
      refine z_iast (pc := 139) rfl (by decide) (by omega) (by omega) dX2_raiseWorth_139 ?_
      refine z_hp (show _ = zk g (va_up F2 13 (fun p => if p < x + 1 then F 13 p + min (F2 14 p) m else F 13 p)) L im c from zs_13.trans (congrArg (fun f => zk g f L im c) ?_)) ?_
      · rw [Int.toNat_natCast, bx_uu]
        refine congrArg (va_up F2 13) ?_
        funext p
        show vf_upd (fun p => if p < x then F 13 p + min (F2 14 p) m else F 13 p) x ((if x < x then F 13 x + min (F2 14 x) m else F 13 x) + min (F2 14 x) m) p = _
        unfold vf_upd
        by_cases hp : p = x
        · rw [if_pos hp, if_neg (by omega), if_pos (by omega), hp]
        · rw [if_neg hp]
          dsimp only
          by_cases hp2 : p < x
          · rw [if_pos hp2, if_pos (by omega)]
          · rw [if_neg hp2, if_neg (by omega)]
      refine z_ii5 (pc := 140) (by decide) rfl dX2_raiseWorth_140 ?_
      refine z_goto (pc := 143) 109 (by decide) dX2_raiseWorth_143 ?_
      exact ih (x + 1) (by omega)
  -- behind the search
  have fin0 : ∀ (F2 : Nat → Nat → Int) (t : Nat → Nat) (m : Int) (a3 a4 : Int), FC F F2 goal st m t → zJ l g RX2 cX2_raiseWorth 6 none "raiseWorth" (zRm 2 0 0) 0 0 (fun r h => r = none ∧ ∃ (F' : Nat → Nat → Int) (t : Nat → Nat), h = zk g F' L im c ∧ RW F F' goal st t) 0 0 88 [some (.ref (g.2.1 + 9)), some (.int (iz goal)), some (.int (iz st)), some (.int (iz a3)), some (.int (iz a4)), none] [] (zk g F2 L im c) := by
    intro F2 t m a3 a4 C
    have go1 := fin F2 t m C a3 a4 (nN F + 1) 0 (by omega)
    have k13 : F2 13 = F 13 := C.1 13 (by decide) (by decide) (by decide)
    have e0 : zk g F2 L im c = zk g (va_up F2 13 (fun p => if p < 0 then F 13 p + min (F2 14 p) m else F 13 p)) L im c := by
      refine congrArg (fun f => zk g f L im c) ?_
      funext k
      unfold va_up
      by_cases hk : k = 13
      · rw [if_pos hk, hk, k13]
        funext p
        rw [if_neg (by omega)]
      · rw [if_neg hk]
    refine z_iload_n (pc := 88) rfl dX2_raiseWorth_88 ?_
    refine z_iconst (pc := 89) dX2_raiseWorth_89 ?_
    refine z_icmp_ne (pc := 90) hsr ⟨by omega, by omega⟩ 98 (by decide) dX2_raiseWorth_90 (fun hq => ?_) (fun hq => ?_)
    · rcases C.2.2.2.2.2.2.2.2 with h9 | ⟨s, h1, h2, h3, h4⟩
      · exact absurd h9.1 hq
      · subst h1
        subst h4
        refine z_aload_n (pc := 98) rfl dX2_raiseWorth_98 ?_
        refine zf_X2_24 (pc := 99) rfl rfl dX2_raiseWorth_99 ?_
        refine z_iload_n (pc := 102) rfl dX2_raiseWorth_102 ?_
        refine z_iald (pc := 103) rfl (by decide) (by omega) (by omega) dX2_raiseWorth_103 ?_
        rw [Int.toNat_natCast]
        refine z_is4 (pc := 104) (by decide) rfl dX2_raiseWorth_104 ?_
        refine z_iconst (pc := 106) dX2_raiseWorth_106 ?_
        refine z_is5 (pc := 107) (by decide) rfl dX2_raiseWorth_107 ?_
        refine z_hp e0 ?_
        exact go1
    · rcases C.2.2.2.2.2.2.2.2 with h9 | ⟨s, h1, h2, h3, h4⟩
      · have hm := h9.2.1
        subst hm
        refine z_ldc (pc := 93) kc_X2_103 dX2_raiseWorth_93 ?_
        refine z_goto (pc := 95) 104 (by decide) dX2_raiseWorth_95 ?_
        refine z_is4 (pc := 104) (by decide) rfl dX2_raiseWorth_104 ?_
        refine z_iconst (pc := 106) dX2_raiseWorth_106 ?_
        refine z_is5 (pc := 107) (by decide) rfl dX2_raiseWorth_107 ?_
        refine z_hp e0 ?_
        exact go1
      · omega
  -- the search
  have loop : ∀ (j r : Nat) (F1 : Nat → Nat → Int) (p : Nat) (t : Nat → Nat), r + j = nN F + 1 → DI F F1 goal r t → NX F F1 goal r p → (∀ s : Nat, st = s → F1 16 s = 0) → zJ l g RX2 cX2_raiseWorth 6 none "raiseWorth" (zRm 2 0 0) 0 0 (fun r h => r = none ∧ ∃ (F' : Nat → Nat → Int) (t : Nat → Nat), h = zk g F' L im c ∧ RW F F' goal st t) 0 0 43 [some (.ref (g.2.1 + 9)), some (.int (iz goal)), some (.int (iz st)), some (.int (iz p)), some (.int (iz r)), none] [] (zk g F1 L im c) := by
    intro j
    induction j with
    | zero =>
      intro r F1 p t hr D X hs
      have := DI_sat R D X
      omega
    | succ j ih =>
      intro r F1 p t hr D X hs
      have hrn := DI_sat R D X
      have k9 : F1 9 = F 9 := D.1 9 (by decide) (by decide) (by decide)
      have hpn := X.1
      refine z_iload (pc := 43) rfl dX2_raiseWorth_43 ?_
      refine z_aload_n (pc := 45) rfl dX2_raiseWorth_45 ?_
      refine zf_X2_44 (pc := 46) rfl rfl dX2_raiseWorth_46 ?_
      rw [k9]
      refine z_icmp_gt (pc := 49) ⟨by omega, by omega⟩ ⟨by omega, by omega⟩ 88 (by decide) dX2_raiseWorth_49 (fun hq => ?_) (fun hq => ?_)
      · omega
      refine z_iload_n (pc := 52) rfl dX2_raiseWorth_52 ?_
      refine z_iconst (pc := 53) dX2_raiseWorth_53 ?_
      refine z_icmp_eq (pc := 54) ⟨by omega, by omega⟩ ⟨by omega, by omega⟩ 88 (by decide) dX2_raiseWorth_54 (fun hq => ?_) (fun hq => ?_)
      · omega
      refine z_aload_n (pc := 57) rfl dX2_raiseWorth_57 ?_
      refine zf_X2_30 (pc := 58) rfl rfl dX2_raiseWorth_58 ?_
      refine z_iload_n (pc := 61) rfl dX2_raiseWorth_61 ?_
      refine z_iconst (pc := 62) dX2_raiseWorth_62 ?_
      refine z_zast (pc := 63) rfl (by decide) (by omega) (by omega) (by omega) dX2_raiseWorth_63 ?_
      refine z_hp (show _ = zk g (va_up F1 16 (vf_upd (F1 16) p 1)) L im c by rw [Int.toNat_natCast]; exact zs_16) ?_
      obtain ⟨S1, S2, hp1, hu, ek, hcnt⟩ := DI_set R T N D X _ rfl
      generalize hF2 : va_up F1 16 (vf_upd (F1 16) p 1) = F2 at S1 S2 hp1 hu ek hcnt ⊢
      have enN : nN F2 = nN F := by unfold nN; rw [ek 9 (by decide), k9]
      refine z_iload_n (pc := 64) rfl dX2_raiseWorth_64 ?_
      refine z_iload_n (pc := 65) rfl dX2_raiseWorth_65 ?_
      refine z_icmp_ne (pc := 66) ⟨by omega, by omega⟩ hsr 72 (by decide) dX2_raiseWorth_66 (fun hq => ?_) (fun hq => ?_)
      rotate_left
      · -- the start is settled
        have hsp : st = p := hq.symm
        have e14 : F2 14 = F1 14 := ek 14 (by decide)
        have e15 : F2 15 = F1 15 := ek 15 (by decide)
        have hpg : p ≠ goal := by
          rcases hst with h | ⟨s, h1, h2, h3⟩
          · omega
          · intro e; exact h3 (by omega)
        have hr0 : 0 < r := by
          rcases Nat.eq_zero_or_pos r with h | h
          · exact absurd (X.2.2.2.2.1 h) hpg
          · exact h
        have hold : ∀ u, u ≠ p → (F2 16 u = 1 ↔ F1 16 u = 1) := fun u h => by rw [hu u h]
        have C : FC F F2 goal st (F2 14 p) (fun u => if u = p then r else t u) := by
          refine ⟨fun k h1 h2 h3 => (ek k h3).trans (D.1 k h1 h2 h3), S1, fun b u v hrs hv => ?_, fun u hun hnd => ?_, fun u hun h1 => ?_, fun u hun h1 hug => ?_, by rw [e14]; exact D.2.2.2.2.2.2.2, ?_, Or.inr ⟨p, hsp, hpn, hp1, rfl⟩⟩
          · have hvp : v ≠ p := fun e => hv.2 (by rw [e, hsp])
            rw [e14]
            exact D.2.2.2.1 b u v hrs ((hold v hvp).mp hv.1)
          · rw [e14]
            by_cases hup : u = p
            · rw [hup]; exact Int.le_refl _
            · have h0 : F1 16 u = 0 := by
                rcases D.2.1.2.2.2.2.2.2.2.2 u with h | h
                · exact h
                · exact absurd ⟨(hold u hup).mpr h, by omega⟩ hnd
              exact X.2.2.1 u hun h0
          · rw [e14]
            by_cases hup : u = p
            · dsimp only
              rw [if_pos hup, hup]
              exact ⟨Int.le_refl _, X.2.2.2.1, hrn⟩
            · dsimp only
              rw [if_neg hup]
              have h2 := (hold u hup).mp h1
              have h3 := D.2.2.2.2.2.2.1 u hun h2
              exact ⟨D.2.2.2.2.1 p u hpn hun h2 X.2.1, h3.2, by omega⟩
          · have hfar : F1 14 u < 1000000000 := by
              by_cases hup : u = p
              · rw [hup]; have := X.2.2.2.1; omega
              · have h3 := D.2.2.2.2.2.2.1 u hun ((hold u hup).mp h1)
                omega
            obtain ⟨b, v, k1, k2, k3, k4, k5⟩ := D.2.2.2.2.2.1 u hun hug hfar
            have hvp : v ≠ p := fun e => by rw [e] at k3; have := X.2.1; omega
            refine ⟨b, v, k1, by rw [e15]; exact k2, (hold v hvp).mpr k3, by rw [e14]; exact k4, ?_⟩
            show (if v = p then r else t v) < (if u = p then r else t u)
            rw [if_neg hvp]
            by_cases hup : u = p
            · rw [if_pos hup]; exact (D.2.2.2.2.2.2.1 v k1.2.1 k3).1
            · rw [if_neg hup]; exact k5 ((hold u hup).mp h1)
          · exact (hold goal (fun e => hpg e.symm)).mpr (X.2.2.2.2.2 hr0)
        refine z_goto (pc := 69) 88 (by decide) dX2_raiseWorth_69 ?_
        exact fin0 F2 _ _ p r C
      refine z_aload_n (pc := 72) rfl dX2_raiseWorth_72 ?_
      refine z_iload_n (pc := 73) rfl dX2_raiseWorth_73 ?_
      refine z_V1 (pc := 74) (c_reachThose S1 S2 (q := p) (by rw [enN]; exact hpn) hp1) lk_X2_104 iv_X2_reachThose rfl rfl ⟨by decide, by decide⟩ (Nat.le_of_ble_eq_true rfl) ⟨by decide, by decide⟩ dX2_raiseWorth_74 (fun r h9 hq => ?_)
      obtain ⟨rfl, F3, e8, hI, hCv⟩ := hq
      rw [e8]
      clear e8 h9
      refine z_r0 ?_
      obtain ⟨D3, g3, hnx, hback, hkeep⟩ := DI_next R T N D X hF2.symm hI hCv
      have hs3 : ∀ s : Nat, st = s → F3 16 s = 0 := fun s h => hkeep s (by omega) (hs s h)
      have k39 : F3 9 = F 9 := D3.1 9 (by decide) (by decide) (by decide)
      have enN3 : nN F3 = nN F := by unfold nN; rw [k39]
      refine z_aload_n (pc := 77) rfl dX2_raiseWorth_77 ?_
      refine z_V0 (pc := 78) (c_nearest D3.2.1) lk_X2_108 iv_X2_nearest rfl rfl ⟨by decide, by decide⟩ (Nat.le_of_ble_eq_true rfl) ⟨by decide, by decide⟩ dX2_raiseWorth_78 (fun r h9 hq => ?_)
      obtain ⟨⟨z, rfl, hz⟩, e8⟩ := hq
      rw [e8]
      clear e8 h9
      refine z_r1 ?_
      rw [enN3] at hz
      rcases hz with ⟨hz, hall⟩ | ⟨q, hz, hqn, hq0, hqm⟩
      · subst hz
        have hst1 : st = -1 := by
          rcases hst with h | ⟨s, h1, h2, h3⟩
          · exact h
          · have h4 := hs3 s h1
            have h5 := hall s h2
            omega
        have hr1 : r = nN F := by
          have h4 := cnt_yes (f := F3 16) (n := nN F + 1) (fun u hu => hall u (by omega))
          have h5 := D3.2.2.1
          omega
        have C : FC F F3 goal st 1000000000 (fun u => if u = p then r else t u) := by
          refine ⟨D3.1, D3.2.1, fun b u v hrs hv => D3.2.2.2.1 b u v hrs hv.1, fun u hun hnd => absurd ⟨hall u hun, by omega⟩ hnd, fun u hun h1 => ?_, fun u hun h1 hug => ?_, D3.2.2.2.2.2.2.2, g3, Or.inl ⟨hst1, rfl, hall⟩⟩
          · have h4 := D3.2.2.2.2.2.2.1 u hun h1
            exact ⟨by omega, h4.2, by omega⟩
          · have h4 := D3.2.2.2.2.2.2.1 u hun h1
            obtain ⟨b, v, k1, k2, k3, k4, k5⟩ := D3.2.2.2.2.2.1 u hun hug (by omega)
            exact ⟨b, v, k1, k2, k3, k4, k5 h1⟩
        refine z_is3 (pc := 81) (by decide) rfl dX2_raiseWorth_81 ?_
        refine z_ii4 (pc := 82) (by decide) rfl dX2_raiseWorth_82 ?_
        refine z_goto (pc := 85) 43 (by decide) dX2_raiseWorth_85 ?_
        refine z_iload (pc := 43) rfl dX2_raiseWorth_43 ?_
        refine z_aload_n (pc := 45) rfl dX2_raiseWorth_45 ?_
        refine zf_X2_44 (pc := 46) rfl rfl dX2_raiseWorth_46 ?_
        rw [k39]
        refine z_icmp_gt (pc := 49) ⟨by omega, by omega⟩ ⟨by omega, by omega⟩ 88 (by decide) dX2_raiseWorth_49 (fun hq => ?_) (fun hq => ?_)
        · exact fin0 F3 _ _ (-1) (r + 1) C
        omega
      · subst hz
        refine z_is3 (pc := 81) (by decide) rfl dX2_raiseWorth_81 ?_
        refine z_ii4 (pc := 82) (by decide) rfl dX2_raiseWorth_82 ?_
        refine z_goto (pc := 85) 43 (by decide) dX2_raiseWorth_85 ?_
        exact ih (r + 1) F3 q _ (by omega) D3 (hnx q hqn hq0 hqm) hs3
  -- the first loop
  have ini : ∀ (j x : Nat), x + j = nN F + 1 → zJ l g RX2 cX2_raiseWorth 6 none "raiseWorth" (zRm 2 0 0) 0 0 (fun r h => r = none ∧ ∃ (F' : Nat → Nat → Int) (t : Nat → Nat), h = zk g F' L im c ∧ RW F F' goal st t) 0 0 2 [some (.ref (g.2.1 + 9)), some (.int (iz goal)), some (.int (iz st)), some (.int (iz x)), none, none] [] (zk g (va_up (va_up F 14 (fl (F 14) 0 x 1000000000)) 16 (fl (F 16) 0 x 0)) L im c) := by
    intro j
    induction j with
    | zero =>
      intro x hx
      refine z_iload_n (pc := 2) rfl dX2_raiseWorth_2 ?_
      refine z_aload_n (pc := 3) rfl dX2_raiseWorth_3 ?_
      refine zf_X2_44 (pc := 4) rfl rfl dX2_raiseWorth_4 ?_
      refine z_icmp_gt (pc := 7) ⟨by omega, by omega⟩ (show ir (F 9 0) from ⟨by omega, by omega⟩) 31 (by decide) dX2_raiseWorth_7 (fun hq => ?_) (fun hq => ?_)
      · refine z_aload_n (pc := 31) rfl dX2_raiseWorth_31 ?_
        refine zf_X2_24 (pc := 32) rfl rfl dX2_raiseWorth_32 ?_
        refine z_iload_n (pc := 35) rfl dX2_raiseWorth_35 ?_
        refine z_iconst (pc := 36) dX2_raiseWorth_36 ?_
        refine z_iast (pc := 37) rfl (by decide) (by omega) (by omega) dX2_raiseWorth_37 ?_
        refine z_hp zs_14 ?_
        refine z_iload_n (pc := 38) rfl dX2_raiseWorth_38 ?_
        refine z_is3 (pc := 39) (by decide) rfl dX2_raiseWorth_39 ?_
        refine z_iconst (pc := 40) dX2_raiseWorth_40 ?_
        refine z_is4 (pc := 41) (by decide) rfl dX2_raiseWorth_41 ?_
        rw [show x = nN F + 1 by omega, Int.toNat_natCast]
        refine loop (nN F + 1) 0 _ goal (fun _ => 0) (by omega) ?_ ?_ ?_
        · have d16 : ∀ u, u ≤ nN F → fl (F 16) 0 (nN F + 1) 0 u = 0 := fun u hu => by unfold fl; rw [if_pos (by omega)]
          have d14 : ∀ u, u ≤ nN F → u ≠ goal → vf_upd (fl (F 14) 0 (nN F + 1) 1000000000) goal 0 u = 1000000000 := fun u hu hug => by unfold vf_upd fl; rw [if_neg hug, if_pos (by omega)]
          have dg : vf_upd (fl (F 14) 0 (nN F + 1) 1000000000) goal 0 goal = 0 := by unfold vf_upd; rw [if_pos rfl]
          refine ⟨fun k h1 h2 h3 => ?_, ?_, ?_, fun b u v hrs hv => ?_, fun u v hun hvn hv _ => ?_, fun u hun hug hfar => ?_, fun u hun hv => ?_, dg⟩
          · unfold va_up; rw [if_neg h1, if_neg h3, if_neg h1]
          · refine ⟨R.1, R.2.1, R.2.2.1, R.2.2.2.1, R.2.2.2.2.1, R.2.2.2.2.2.1, fun u => ?_, R.2.2.2.2.2.2.2.1, fun u => ?_⟩
            · show 0 ≤ vf_upd (fl (F 14) 0 (nN F + 1) 1000000000) goal 0 u ∧ vf_upd (fl (F 14) 0 (nN F + 1) 1000000000) goal 0 u ≤ 1000000000
              have h5 := R.2.2.2.2.2.2.1 u
              unfold vf_upd fl
              split
              · omega
              · split <;> omega
            · show fl (F 16) 0 (nN F + 1) 0 u = 0 ∨ fl (F 16) 0 (nN F + 1) 0 u = 1
              have h5 := R.2.2.2.2.2.2.2.2 u
              unfold fl
              split
              · exact Or.inl rfl
              · exact h5
          · exact sm_zero (fun u hu => d16 u (by omega))
          · have h5 := d16 v hrs.2.1
            have h6 : fl (F 16) 0 (nN F + 1) 0 v = 1 := hv
            omega
          · have h5 := d16 v hvn
            have h6 : fl (F 16) 0 (nN F + 1) 0 v = 1 := hv
            omega
          · have h5 := d14 u hun hug
            have h6 : vf_upd (fl (F 14) 0 (nN F + 1) 1000000000) goal 0 u < 1000000000 := hfar
            omega
          · have h5 := d16 u hun
            have h6 : fl (F 16) 0 (nN F + 1) 0 u = 1 := hv
            omega
        · have d14 : ∀ u, u ≤ nN F → u ≠ goal → vf_upd (fl (F 14) 0 (nN F + 1) 1000000000) goal 0 u = 1000000000 := fun u hu hug => by unfold vf_upd fl; rw [if_neg hug, if_pos (by omega)]
          have dg : vf_upd (fl (F 14) 0 (nN F + 1) 1000000000) goal 0 goal = 0 := by unfold vf_upd; rw [if_pos rfl]
          refine ⟨hg, ?_, fun u hun _ => ?_, ?_, fun _ => rfl, fun h => by omega⟩
          · show fl (F 16) 0 (nN F + 1) 0 goal = 0
            unfold fl; rw [if_pos (by omega)]
          · show vf_upd (fl (F 14) 0 (nN F + 1) 1000000000) goal 0 goal ≤ vf_upd (fl (F 14) 0 (nN F + 1) 1000000000) goal 0 u
            by_cases hug : u = goal
            · rw [hug]; exact Int.le_refl _
            · rw [dg, d14 u hun hug]; omega
          · show vf_upd (fl (F 14) 0 (nN F + 1) 1000000000) goal 0 goal ≤ _
            rw [dg]; omega
        · intro s hs
          show fl (F 16) 0 (nN F + 1) 0 s = 0
          rcases hst with h | ⟨s2, h1, h2, h3⟩
          · omega
          · unfold fl; rw [if_pos (by omega)]
      have hq2 : (x : Int) ≤ F 9 0 := hq
      omega
    | succ j ih =>
      intro x hx
      refine z_iload_n (pc := 2) rfl dX2_raiseWorth_2 ?_
      refine z_aload_n (pc := 3) rfl dX2_raiseWorth_3 ?_
      refine zf_X2_44 (pc := 4) rfl rfl dX2_raiseWorth_4 ?_
      refine z_icmp_gt (pc := 7) ⟨by omega, by omega⟩ (show ir (F 9 0) from ⟨by omega, by omega⟩) 31 (by decide) dX2_raiseWorth_7 (fun hq => ?_) (fun hq => ?_)
      · have hq2 : F 9 0 < (x : Int) := hq
        omega
      refine z_aload_n (pc := 10) rfl dX2_raiseWorth_10 ?_
      refine zf_X2_24 (pc := 11) rfl rfl dX2_raiseWorth_11 ?_
      refine z_iload_n (pc := 14) rfl dX2_raiseWorth_14 ?_
      refine z_ldc (pc := 15) kc_X2_103 dX2_raiseWorth_15 ?_
      refine z_iast (pc := 17) rfl (by decide) (by omega) (by omega) dX2_raiseWorth_17 ?_
      refine z_hp zs_14 ?_
      refine z_aload_n (pc := 18) rfl dX2_raiseWorth_18 ?_
      refine zf_X2_30 (pc := 19) rfl rfl dX2_raiseWorth_19 ?_
      refine z_iload_n (pc := 22) rfl dX2_raiseWorth_22 ?_
      refine z_iconst (pc := 23) dX2_raiseWorth_23 ?_
      refine z_zast (pc := 24) rfl (by decide) (by omega) (by omega) (by omega) dX2_raiseWorth_24 ?_
      refine z_hp zs_16 ?_
      rw [Int.toNat_natCast]
      refine z_hp (show _ = zk g (va_up (va_up F 14 (fl (F 14) 0 (x + 1) 1000000000)) 16 (fl (F 16) 0 (x + 1) 0)) L im c from congrArg (fun f => zk g f L im c) ?_) ?_
      · rw [← fl_s (F 14) 1000000000 (Nat.zero_le x), ← fl_s (F 16) 0 (Nat.zero_le x)]
        funext k
        unfold va_up
        by_cases h16 : k = 16
        · rw [if_pos h16, if_pos h16]; rfl
        · rw [if_neg h16, if_neg h16]
          by_cases h14 : k = 14
          · subst h14; rfl
          · rw [if_neg h14, if_neg h16, if_neg h14, if_neg h14]
      refine z_ii3 (pc := 25) (by decide) rfl dX2_raiseWorth_25 ?_
      refine z_goto (pc := 28) 2 (by decide) dX2_raiseWorth_28 ?_
      exact ih (x + 1) (by omega)
  refine z_iconst (pc := 0) dX2_raiseWorth_0 ?_
  refine z_is3 (pc := 1) (by decide) rfl dX2_raiseWorth_1 ?_
  refine z_hp (show _ = zk g (va_up (va_up F 14 (fl (F 14) 0 0 1000000000)) 16 (fl (F 16) 0 0 0)) L im c from congrArg (fun f => zk g f L im c) ?_) ?_
  · rw [fl_0, fl_0]
    funext k
    unfold va_up
    by_cases h16 : k = 16
    · rw [if_pos h16, h16]
    · rw [if_neg h16]
      by_cases h14 : k = 14
      · rw [if_pos h14, h14]
      · rw [if_neg h14]
  exact ini (nN F + 1) 0 (by omega)
end FLOW3
end
section
/-! ===== Flow: along a path ===== -/
def itr (f : Nat → Nat) (u : Nat) : Nat → Nat
  | 0 => u
  | k + 1 => f (itr f u k)
def nxz (F : Nat → Nat → Int) (u : Nat) : Int := if 8 ≤ F 15 u then u - F 10 ((F 15 u).toNat - 8) else u + F 10 (F 15 u).toNat
def nxF (F : Nat → Nat → Int) (u : Nat) : Nat := (nxz F u).toNat
/-- the settled points lead to the goal, each by a tight open arc to one settled earlier -/
def TR (F : Nat → Nat → Int) (goal : Nat) (t : Nat → Nat) : Prop := ∀ u, u ≤ nN F → F 16 u = 1 → t u ≤ nN F ∧ (u ≠ goal → ∃ b v, rsF F b u v ∧ F 15 u = (b : Int) ∧ F 16 v = 1 ∧ F 13 u - F 13 v = fb (F 11) b ∧ t v < t u)
theorem TR_nx {F : Nat → Nat → Int} {goal : Nat} {t : Nat → Nat} (R : fr F) (A : TR F goal t) {u : Nat} (hu : u ≤ nN F) (h1 : F 16 u = 1) (hg : u ≠ goal) : ∃ b, rsF F b u (nxF F u) ∧ F 15 u = (b : Int) ∧ F 16 (nxF F u) = 1 ∧ F 13 u - F 13 (nxF F u) = fb (F 11) b ∧ t (nxF F u) < t u ∧ nxz F u = (nxF F u : Int) := by
  obtain ⟨b, v, k1, k2, k3, k4, k5⟩ := (A u hu h1).2 hg
  have hW : nW F ≤ 8 := by have := R.2.1; show (F 9 1).toNat ≤ 8; omega
  have hz : nxz F u = (v : Int) := by
    unfold nxz
    rw [k2]
    rcases k1.2.2 with h | h
    · rw [if_neg (by omega), Int.toNat_natCast]; omega
    · rw [if_pos (by omega), Int.toNat_natCast]; omega
  have hv : nxF F u = v := by unfold nxF; rw [hz]; omega
  rw [hv]
  exact ⟨b, k1, k2, k3, k4, k5, hz⟩
/-- where the path is after k steps, none of them at the goal -/
theorem TR_it {F : Nat → Nat → Int} {goal : Nat} {t : Nat → Nat} (R : fr F) (A : TR F goal t) {u : Nat} (hu : u ≤ nN F) (h1 : F 16 u = 1) : ∀ k, (∀ j, j < k → itr (nxF F) u j ≠ goal) → itr (nxF F) u k ≤ nN F ∧ F 16 (itr (nxF F) u k) = 1 ∧ t (itr (nxF F) u k) + k ≤ t u
  | 0, _ => ⟨hu, h1, Nat.le_refl _⟩
  | k + 1, h => by
    obtain ⟨a1, a2, a3⟩ := TR_it R A hu h1 k (fun j hj => h j (by omega))
    obtain ⟨b, b1, b2, b3, b4, b5, b6⟩ := TR_nx R A a1 a2 (h k (by omega))
    exact ⟨b1.2.1, b3, by show t (nxF F (itr (nxF F) u k)) + (k + 1) ≤ t u; omega⟩
theorem TR_end {F : Nat → Nat → Int} {goal : Nat} {t : Nat → Nat} (A : TR F goal t) {u : Nat} (hu : u ≤ nN F) (h1 : F 16 u = 1) (h0 : t u = 0) : u = goal := by
  refine Classical.byContradiction fun hn => ?_
  obtain ⟨b, v, k1, k2, k3, k4, k5⟩ := (A u hu h1).2 hn
  omega
/-- no backward step of the path takes more than is there -/
def RP (F : Nat → Nat → Int) (u goal : Nat) (m : Int) (K : Nat) : Prop := ∀ k, k < K → (∀ j, j ≤ k → itr (nxF F) u j ≠ goal) → 8 ≤ F 15 (itr (nxF F) u k) → m ≤ F 12 (((F 15 (itr (nxF F) u k)).toNat - 8) * 41 + itr (nxF F) u (k + 1))
section FLOW4
variable {l : Launch} {g : zG} {F : Nat → Nat → Int} {L : Nat → Int} {im : Nat → Option Nat} {c : Nat}
theorem c_roomOnPath (R : fr F) {goal a : Nat} {t : Nat → Nat} {un : Int} (A : TR F goal t) (ha : a ≤ nN F) (h1 : F 16 a = 1) (hg : goal ≤ nN F) (hu1 : 1 ≤ un) (hu2 : un ≤ 1000000) : zM l g yX2_roomOnPath cX2_roomOnPath 8 (some .int) 1 0 0 [.ref (g.2.1 + 9), .int (iz a), .int (iz goal), .int (iz un)] (zk g F L im c) (fun r h => (∃ z : Int, r = some (.int (iz z)) ∧ 1 ≤ z ∧ z ≤ un ∧ ∀ K, RP F a goal z K) ∧ h = zk g F L im c) := by
  refine zM_of 4 (by decide) rfl ?_
  show zJ l g RX2 cX2_roomOnPath 8 (some .int) "roomOnPath" (zRm 1 0 0) 0 0 _ 0 0 0 [some (.ref (g.2.1 + 9)), some (.int (iz a)), some (.int (iz goal)), some (.int (iz un)), none, none, none, none] [] _
  have eN := nN_eq R
  have r1 := R.1
  have hta := (A a ha h1).1
  have ext : ∀ (k : Nat) (z : Int), itr (nxF F) a k = goal → RP F a goal z k → ∀ K, RP F a goal z K := by
    intro k z hk hP K k2 hk2 hall h8
    by_cases hlt : k2 < k
    · exact hP k2 hlt hall h8
    · exact absurd hk (hall k (by omega))
  have loop : ∀ (j k : Nat) (z : Int) (y : Option Value), k + j = nN F → (∀ q, q < k → itr (nxF F) a q ≠ goal) → 1 ≤ z → z ≤ un → RP F a goal z k → zJ l g RX2 cX2_roomOnPath 8 (some .int) "roomOnPath" (zRm 1 0 0) 0 0 (fun r h => (∃ z : Int, r = some (.int (iz z)) ∧ 1 ≤ z ∧ z ≤ un ∧ ∀ K, RP F a goal z K) ∧ h = zk g F L im c) 0 0 9 [some (.ref (g.2.1 + 9)), some (.int (iz a)), some (.int (iz goal)), some (.int (iz un)), some (.int (iz z)), some (.int (iz (itr (nxF F) a k))), some (.int (iz k)), y] [] (zk g F L im c) := by
    intro j
    induction j with
    | zero =>
      intro k z y hk hng hz1 hz2 hP
      obtain ⟨p1, p2, p3⟩ := TR_it R A ha h1 k hng
      have hend := TR_end A p1 p2 (by omega)
      refine z_iload (pc := 9) rfl dX2_roomOnPath_9 ?_
      refine z_aload_n (pc := 11) rfl dX2_roomOnPath_11 ?_
      refine zf_X2_44 (pc := 12) rfl rfl dX2_roomOnPath_12 ?_
      refine z_icmp_ge (pc := 15) ⟨by omega, by omega⟩ ⟨by omega, by omega⟩ 79 (by decide) dX2_roomOnPath_15 (fun hq => ?_) (fun hq => ?_)
      · refine z_iload (pc := 79) rfl dX2_roomOnPath_79 ?_
        exact z_reti (pc := 81) rfl (by decide) (by decide) dX2_roomOnPath_81 ⟨⟨z, rfl, hz1, hz2, ext k z hend hP⟩, rfl⟩
      omega
    | succ j ih =>
      intro k z y hk hng hz1 hz2 hP
      obtain ⟨p1, p2, p3⟩ := TR_it R A ha h1 k hng
      refine z_iload (pc := 9) rfl dX2_roomOnPath_9 ?_
      refine z_aload_n (pc := 11) rfl dX2_roomOnPath_11 ?_
      refine zf_X2_44 (pc := 12) rfl rfl dX2_roomOnPath_12 ?_
      refine z_icmp_ge (pc := 15) ⟨by omega, by omega⟩ ⟨by omega, by omega⟩ 79 (by decide) dX2_roomOnPath_15 (fun hq => ?_) (fun hq => ?_)
      · omega
      refine z_iload (pc := 18) rfl dX2_roomOnPath_18 ?_
      refine z_iload_n (pc := 20) rfl dX2_roomOnPath_20 ?_
      refine z_icmp_eq (pc := 21) ⟨by omega, by omega⟩ ⟨by omega, by omega⟩ 79 (by decide) dX2_roomOnPath_21 (fun hq => ?_) (fun hq => ?_)
      · refine z_iload (pc := 79) rfl dX2_roomOnPath_79 ?_
        exact z_reti (pc := 81) rfl (by decide) (by decide) dX2_roomOnPath_81 ⟨⟨z, rfl, hz1, hz2, ext k z (by omega) hP⟩, rfl⟩
      have hne : itr (nxF F) a k ≠ goal := fun e => hq (by rw [e])
      have hng2 : ∀ q, q < k + 1 → itr (nxF F) a q ≠ goal := fun q h => by
        by_cases e : q = k
        · rw [e]; exact hne
        · exact hng q (by omega)
      obtain ⟨b, b1, b2, b3, b4, b5, b6⟩ := TR_nx R A p1 p2 hne
      have s15 := R.2.2.2.2.2.2.2.1 (itr (nxF F) a k)
      have hW : nW F ≤ 8 := by have := R.2.1; show (F 9 1).toNat ≤ 8; omega
      refine z_aload_n (pc := 24) rfl dX2_roomOnPath_24 ?_
      refine z_iload (pc := 25) rfl dX2_roomOnPath_25 ?_
      refine z_V1 (pc := 27) (c_after R (p := itr (nxF F) a k) (by omega)) lk_X2_116 iv_X2_after rfl rfl ⟨by decide, by decide⟩ (Nat.le_of_ble_eq_true rfl) ⟨by decide, by decide⟩ dX2_roomOnPath_27 (fun r h9 hq => ?_)
      obtain ⟨rfl, e8⟩ := hq
      rw [e8]
      clear e8 h9
      refine z_r1 ?_
      refine z_top (show _ = iz (nxF F (itr (nxF F) a k) : Int) from congrArg iz b6) ?_
      refine z_is7 (pc := 30) (by decide) rfl dX2_roomOnPath_30 ?_
      refine z_aload_n (pc := 32) rfl dX2_roomOnPath_32 ?_
      refine z_iload (pc := 33) rfl dX2_roomOnPath_33 ?_
      refine z_V1 (pc := 35) (c_takesBack R (p := itr (nxF F) a k) (by omega)) lk_X2_120 iv_X2_takesBack rfl rfl ⟨by decide, by decide⟩ (Nat.le_of_ble_eq_true rfl) ⟨by decide, by decide⟩ dX2_roomOnPath_35 (fun r h9 hq => ?_)
      obtain ⟨rfl, e8⟩ := hq
      rw [e8]
      clear e8 h9
      refine z_r1 ?_
      by_cases h8 : 8 ≤ F 15 (itr (nxF F) a k)
      · rw [if_pos h8]
        refine z_if_eq (pc := 38) ⟨by omega, by omega⟩ 69 (by decide) dX2_roomOnPath_38 (fun hq => ?_) (fun hq => ?_)
        · omega
        have hx : 0 < F 12 ((b - 8) * 41 + nxF F (itr (nxF F) a k)) := by
          rcases b1.2.2 with h | h
          · omega
          · exact h.2.2.2
        have hxb := R.2.2.2.2.1 ((b - 8) * 41 + nxF F (itr (nxF F) a k))
        have hvn : nxF F (itr (nxF F) a k) ≤ nN F := b1.2.1
        refine z_iload (pc := 41) rfl dX2_roomOnPath_41 ?_
        refine z_aload_n (pc := 43) rfl dX2_roomOnPath_43 ?_
        refine zf_X2_18 (pc := 44) rfl rfl dX2_roomOnPath_44 ?_
        refine z_aload_n (pc := 47) rfl dX2_roomOnPath_47 ?_
        refine zf_X2_27 (pc := 48) rfl rfl dX2_roomOnPath_48 ?_
        refine z_iload (pc := 51) rfl dX2_roomOnPath_51 ?_
        refine z_iald (pc := 53) rfl (by decide) (by omega) (by omega) dX2_roomOnPath_53 ?_
        rw [Int.toNat_natCast, b2]
        have hb15 : b ≤ 15 := (rs_code hW b1).1
        refine z_bipush (pc := 54) (by decide) dX2_roomOnPath_54 ?_
        refine z_isub (pc := 56) dX2_roomOnPath_56 ?_
        refine z_bipush (pc := 57) (by decide) dX2_roomOnPath_57 ?_
        refine z_imul (pc := 59) dX2_roomOnPath_59 ?_
        refine z_iload (pc := 60) rfl dX2_roomOnPath_60 ?_
        refine z_iadd (pc := 62) dX2_roomOnPath_62 ?_
        refine z_iald (pc := 63) rfl (by decide) (by omega) (by omega) dX2_roomOnPath_63 ?_
        rw [show (((b : Int) - 8) * 41 + (nxF F (itr (nxF F) a k) : Int)).toNat = (b - 8) * 41 + nxF F (itr (nxF F) a k) by omega]
        refine z_mmin (pc := 64) lk_X2_84 ⟨by omega, by omega⟩ ⟨by omega, by omega⟩ ⟨by decide, by decide⟩ (Nat.le_of_ble_eq_true rfl) ⟨by decide, by decide⟩ dX2_roomOnPath_64 ?_
        refine z_is4 (pc := 67) (by decide) rfl dX2_roomOnPath_67 ?_
        refine z_iload (pc := 69) rfl dX2_roomOnPath_69 ?_
        refine z_is5 (pc := 71) (by decide) rfl dX2_roomOnPath_71 ?_
        refine z_ii6 (pc := 73) (by decide) rfl dX2_roomOnPath_73 ?_
        refine z_goto (pc := 76) 9 (by decide) dX2_roomOnPath_76 ?_
        refine ih (k + 1) _ _ (by omega) hng2 (by omega) (by omega) (fun q hq3 hall hq8 => ?_)
        by_cases e : q = k
        · subst e
          rw [b2, Int.toNat_natCast]
          show min z _ ≤ F 12 ((b - 8) * 41 + nxF F (itr (nxF F) a q))
          omega
        · have := hP q (by omega) hall hq8
          omega
      · rw [if_neg h8]
        refine z_if_eq (pc := 38) ⟨by omega, by omega⟩ 69 (by decide) dX2_roomOnPath_38 (fun hq => ?_) (fun hq => ?_)
        · refine z_iload (pc := 69) rfl dX2_roomOnPath_69 ?_
          refine z_is5 (pc := 71) (by decide) rfl dX2_roomOnPath_71 ?_
          refine z_ii6 (pc := 73) (by decide) rfl dX2_roomOnPath_73 ?_
          refine z_goto (pc := 76) 9 (by decide) dX2_roomOnPath_76 ?_
          refine ih (k + 1) z _ (by omega) hng2 hz1 hz2 (fun q hq3 hall hq8 => ?_)
          by_cases e : q = k
          · subst e; exact absurd hq8 h8
          · exact hP q (by omega) hall hq8
        omega
  refine z_iload_n (pc := 0) rfl dX2_roomOnPath_0 ?_
  refine z_is4 (pc := 1) (by decide) rfl dX2_roomOnPath_1 ?_
  refine z_iload_n (pc := 3) rfl dX2_roomOnPath_3 ?_
  refine z_is5 (pc := 4) (by decide) rfl dX2_roomOnPath_4 ?_
  refine z_iconst (pc := 6) dX2_roomOnPath_6 ?_
  refine z_is6 (pc := 7) (by decide) rfl dX2_roomOnPath_7 ?_
  exact loop (nN F) 0 un _ (by omega) (fun q h => by omega) hu1 (Int.le_refl _) (fun k h => by omega)
/-- what sendOnPath does -/
def SP (F F' : Nat → Nat → Int) (a goal : Nat) (un : Int) : Prop := (∀ k, k ≠ 12 → F' k = F k) ∧ (∀ w : Nat → Int, Ex (F 10) (F' 12) w = Ex (F 10) (F 12) w + un * (w a - w goal)) ∧ (∀ j, 0 ≤ F' 12 j ∧ F' 12 j ≤ F 12 j + 40 * un) ∧ ∀ j, 0 < F' 12 j → 0 < F 12 j ∨ ∃ b u v, b < 8 ∧ j = b * 41 + u ∧ rsF F b u v ∧ F 13 u - F 13 v = fb (F 11) b
theorem SP_ft {F F' : Nat → Nat → Int} {a goal : Nat} {un : Int} (R : fr F) (T : ftF F) (h : SP F F' a goal un) : ftF F' := by
  have eN := nN_eq R
  have r1 := R.1
  have r2 := R.2.1
  have e9 := h.1 9 (by decide)
  have e10 := h.1 10 (by decide)
  have e11 := h.1 11 (by decide)
  have e13 := h.1 13 (by decide)
  have eW := nW_eq R
  unfold ftF nN nW
  rw [e9, e10, e11, e13]
  refine ⟨fun b u v hr => ?_, fun v p hx hp => ?_, fun j => (h.2.2.1 j).1⟩
  · rcases hr.2.2 with h1 | h1
    · exact T.1 b u v ⟨hr.1, hr.2.1, Or.inl h1⟩
    · rcases h.2.2.2 _ h1.2.2.2 with h2 | ⟨b2, u2, v2, k1, k2, k3, k4⟩
      · exact T.1 b u v ⟨hr.1, hr.2.1, Or.inr ⟨h1.1, h1.2.1, h1.2.2.1, h2⟩⟩
      · have hv := hr.2.1
        have hu2 := k3.1
        have eb : b2 = b - 8 := by omega
        have eu : u2 = v := by omega
        subst eb
        subst eu
        have ev : v2 = u := by
          rcases k3.2.2 with h2 | h2
          · omega
          · omega
        subst ev
        unfold fb at k4 ⊢
        rw [if_pos k1] at k4
        rw [if_neg (by omega)]
        omega
  · rcases h.2.2.2 _ hx with h2 | ⟨b2, u2, v2, k1, k2, k3, k4⟩
    · exact T.2.1 v p h2 hp
    · have hu2 := k3.1
      have hv2 := k3.2.1
      have eb : b2 = v := by omega
      have eu : u2 = p := by omega
      subst eb
      subst eu
      rcases k3.2.2 with h2 | h2
      · exact ⟨h2.1, hu2, by omega, by omega⟩
      · omega
section FLOW5
variable {l : Launch} {g : zG} {F : Nat → Nat → Int} {L : Nat → Int} {im : Nat → Option Nat} {c : Nat}
theorem c_sendOnPath (R : fr F) (T : ftF F) {goal a : Nat} {t : Nat → Nat} {un : Int} (A : TR F goal t) (ha : a ≤ nN F) (h1 : F 16 a = 1) (hg : goal ≤ nN F) (hu1 : 1 ≤ un) (hu2 : un ≤ 1000000) (hP : ∀ K, RP F a goal un K) (hX : ∀ j, F 12 j ≤ 50000000) : zM l g yX2_sendOnPath cX2_sendOnPath 7 none 1 0 0 [.ref (g.2.1 + 9), .int (iz a), .int (iz goal), .int (iz un)] (zk g F L im c) (fun r h => r = none ∧ ∃ F' : Nat → Nat → Int, h = zk g F' L im c ∧ SP F F' a goal un) := by
  refine zM_of 3 (by decide) rfl ?_
  show zJ l g RX2 cX2_sendOnPath 7 none "sendOnPath" (zRm 1 0 0) 0 0 _ 0 0 0 [some (.ref (g.2.1 + 9)), some (.int (iz a)), some (.int (iz goal)), some (.int (iz un)), none, none, none] [] _
  have eN := nN_eq R
  have r1 := R.1
  have hta := (A a ha h1).1
  have hW : nW F ≤ 8 := by have := R.2.1; show (F 9 1).toNat ≤ 8; omega
  have fin : ∀ (k : Nat) (x : Nat → Int), k ≤ nN F → (∀ w : Nat → Int, Ex (F 10) x w = Ex (F 10) (F 12) w + un * (w a - w goal)) → (∀ j, 0 ≤ x j ∧ x j ≤ F 12 j + k * un) → (∀ j, 0 < x j → 0 < F 12 j ∨ ∃ b u v, b < 8 ∧ j = b * 41 + u ∧ rsF F b u v ∧ F 13 u - F 13 v = fb (F 11) b) → SP F (va_up F 12 x) a goal un := by
    intro k x hk i1 i2 i3
    refine ⟨fun q hq => by unfold va_up; rw [if_neg hq], i1, fun j => ⟨(i2 j).1, ?_⟩, i3⟩
    have h5 : (k : Int) * un ≤ 40 * un := Int.mul_le_mul_of_nonneg_right (by omega) (by omega)
    have h6 := (i2 j).2
    show x j ≤ _
    omega
  have loop : ∀ (j k : Nat) (x : Nat → Int) (y : Option Value), k + j = nN F → (∀ q, q < k → itr (nxF F) a q ≠ goal) → (∀ w : Nat → Int, Ex (F 10) x w = Ex (F 10) (F 12) w + un * (w a - w (itr (nxF F) a k))) → (∀ j, 0 ≤ x j ∧ x j ≤ F 12 j + k * un) → (∀ j, 0 < x j → 0 < F 12 j ∨ ∃ b u v, b < 8 ∧ j = b * 41 + u ∧ rsF F b u v ∧ F 13 u - F 13 v = fb (F 11) b) → (∀ q, F 16 (q % 41) = 1 → t (q % 41) < t (itr (nxF F) a k) → x q = F 12 q) → zJ l g RX2 cX2_sendOnPath 7 none "sendOnPath" (zRm 1 0 0) 0 0 (fun r h => r = none ∧ ∃ F' : Nat → Nat → Int, h = zk g F' L im c ∧ SP F F' a goal un) 0 0 6 [some (.ref (g.2.1 + 9)), some (.int (iz a)), some (.int (iz goal)), some (.int (iz un)), some (.int (iz (itr (nxF F) a k))), some (.int (iz k)), y] [] (zk g (va_up F 12 x) L im c) := by
    intro j
    induction j with
    | zero =>
      intro k x y hk hng i1 i2 i3 i4
      obtain ⟨p1, p2, p3⟩ := TR_it R A ha h1 k hng
      have hend := TR_end A p1 p2 (by omega)
      rw [hend] at i1
      refine z_iload (pc := 6) rfl dX2_sendOnPath_6 ?_
      refine z_aload_n (pc := 8) rfl dX2_sendOnPath_8 ?_
      refine zf_X2_44 (pc := 9) rfl rfl dX2_sendOnPath_9 ?_
      refine z_icmp_ge (pc := 12) ⟨by omega, by omega⟩ (show ir (F 9 0) from ⟨by omega, by omega⟩) 98 (by decide) dX2_sendOnPath_12 (fun hq => ?_) (fun hq => ?_)
      · exact z_retv (pc := 98) rfl (by decide) (by decide) dX2_sendOnPath_98 ⟨rfl, _, rfl, fin k x (by omega) i1 i2 i3⟩
      have hq2 : (k : Int) < F 9 0 := hq
      omega
    | succ j ih =>
      intro k x y hk hng i1 i2 i3 i4
      obtain ⟨p1, p2, p3⟩ := TR_it R A ha h1 k hng
      refine z_iload (pc := 6) rfl dX2_sendOnPath_6 ?_
      refine z_aload_n (pc := 8) rfl dX2_sendOnPath_8 ?_
      refine zf_X2_44 (pc := 9) rfl rfl dX2_sendOnPath_9 ?_
      refine z_icmp_ge (pc := 12) ⟨by omega, by omega⟩ (show ir (F 9 0) from ⟨by omega, by omega⟩) 98 (by decide) dX2_sendOnPath_12 (fun hq => ?_) (fun hq => ?_)
      · have hq2 : F 9 0 ≤ (k : Int) := hq
        omega
      refine z_iload (pc := 15) rfl dX2_sendOnPath_15 ?_
      refine z_iload_n (pc := 17) rfl dX2_sendOnPath_17 ?_
      refine z_icmp_eq (pc := 18) ⟨by omega, by omega⟩ ⟨by omega, by omega⟩ 98 (by decide) dX2_sendOnPath_18 (fun hq => ?_) (fun hq => ?_)
      · have hend : itr (nxF F) a k = goal := by omega
        rw [hend] at i1
        exact z_retv (pc := 98) rfl (by decide) (by decide) dX2_sendOnPath_98 ⟨rfl, _, rfl, fin k x (by omega) i1 i2 i3⟩
      have hne : itr (nxF F) a k ≠ goal := fun e => hq (by rw [e])
      have hng2 : ∀ q, q < k + 1 → itr (nxF F) a q ≠ goal := fun q h => by
        by_cases e : q = k
        · rw [e]; exact hne
        · exact hng q (by omega)
      obtain ⟨b, b1, b2, b3, b4, b5, b6⟩ := TR_nx R A p1 p2 hne
      have R1 : fr (va_up F 12 x) := by
        refine ⟨R.1, R.2.1, R.2.2.1, R.2.2.2.1, fun q => ?_, R.2.2.2.2.2.1, R.2.2.2.2.2.2.1, R.2.2.2.2.2.2.2.1, R.2.2.2.2.2.2.2.2⟩
        have h5 := i2 q
        have h6 := hX q
        have h7 : (k : Int) * un ≤ 40 * un := Int.mul_le_mul_of_nonneg_right (by omega) (by omega)
        show 0 ≤ x q ∧ x q ≤ 100000000
        omega
      have nx1 : ∀ u, nxz (va_up F 12 x) u = nxz F u := fun u => rfl
      have s15 := R.2.2.2.2.2.2.2.1 (itr (nxF F) a k)
      have hb15 : b ≤ 15 := (rs_code hW b1).1
      have hvn : nxF F (itr (nxF F) a k) ≤ nN F := b1.2.1
      have hsu : (k : Int) * un + un = ((k + 1 : Nat) : Int) * un := by rw [Int.natCast_add, Int.add_mul]; simp
      refine z_aload_n (pc := 21) rfl dX2_sendOnPath_21 ?_
      refine z_iload (pc := 22) rfl dX2_sendOnPath_22 ?_
      refine z_V1 (pc := 24) (c_after R1 (p := itr (nxF F) a k) (by omega)) lk_X2_116 iv_X2_after rfl rfl ⟨by decide, by decide⟩ (Nat.le_of_ble_eq_true rfl) ⟨by decide, by decide⟩ dX2_sendOnPath_24 (fun r h9 hq => ?_)
      obtain ⟨rfl, e8⟩ := hq
      rw [e8]
      clear e8 h9
      refine z_r1 ?_
      refine z_top (show _ = iz (nxF F (itr (nxF F) a k) : Int) from congrArg iz b6) ?_
      refine z_is6 (pc := 27) (by decide) rfl dX2_sendOnPath_27 ?_
      refine z_aload_n (pc := 29) rfl dX2_sendOnPath_29 ?_
      refine z_iload (pc := 30) rfl dX2_sendOnPath_30 ?_
      refine z_V1 (pc := 32) (c_takesBack R1 (p := itr (nxF F) a k) (by omega)) lk_X2_120 iv_X2_takesBack rfl rfl ⟨by decide, by decide⟩ (Nat.le_of_ble_eq_true rfl) ⟨by decide, by decide⟩ dX2_sendOnPath_32 (fun r h9 hq => ?_)
      obtain ⟨rfl, e8⟩ := hq
      rw [e8]
      clear e8 h9
      refine z_r1 ?_
      rw [show va_up F 12 x 15 = F 15 from rfl]
      by_cases h8 : 8 ≤ F 15 (itr (nxF F) a k)
      · rw [if_pos h8]
        refine z_if_eq (pc := 35) ⟨by omega, by omega⟩ 66 (by decide) dX2_sendOnPath_35 (fun hq => ?_) (fun hq => ?_)
        · omega
        refine z_aload_n (pc := 38) rfl dX2_sendOnPath_38 ?_
        refine zf_X2_18 (pc := 39) rfl rfl dX2_sendOnPath_39 ?_
        refine z_aload_n (pc := 42) rfl dX2_sendOnPath_42 ?_
        refine zf_X2_27 (pc := 43) rfl rfl dX2_sendOnPath_43 ?_
        refine z_iload (pc := 46) rfl dX2_sendOnPath_46 ?_
        refine z_iald (pc := 48) rfl (by decide) (by omega) (by omega) dX2_sendOnPath_48 ?_
        rw [Int.toNat_natCast, show va_up F 12 x 15 = F 15 from rfl, b2]
        refine z_bipush (pc := 49) (by decide) dX2_sendOnPath_49 ?_
        refine z_isub (pc := 51) dX2_sendOnPath_51 ?_
        refine z_bipush (pc := 52) (by decide) dX2_sendOnPath_52 ?_
        refine z_imul (pc := 54) dX2_sendOnPath_54 ?_
        refine z_iload (pc := 55) rfl dX2_sendOnPath_55 ?_
        refine z_iadd (pc := 57) dX2_sendOnPath_57 ?_
        refine z_dup2 (pc := 58) rfl rfl dX2_sendOnPath_58 ?_
        refine z_iald (pc := 59) rfl (by decide) (by omega) (by omega) dX2_sendOnPath_59 ?_
        refine z_iload_n (pc := 60) rfl dX2_sendOnPath_60 ?_
        refine z_isub (pc := 61) dX2_sendOnPath_61 ?_
        rw [show (((b : Int) - 8) * 41 + (nxF F (itr (nxF F) a k) : Int)).toNat = (b - 8) * 41 + nxF F (itr (nxF F) a k) by omega, show va_up F 12 x 12 = x from rfl]
        refine z_iast (pc := 62) rfl (by decide) (by omega) (by omega) dX2_sendOnPath_62 ?_
        rw [show (((b : Int) - 8) * 41 + (nxF F (itr (nxF F) a k) : Int)).toNat = (b - 8) * 41 + nxF F (itr (nxF F) a k) by omega]
        refine z_hp (show _ = zk g (va_up F 12 (vf_upd x ((b - 8) * 41 + nxF F (itr (nxF F) a k)) (x ((b - 8) * 41 + nxF F (itr (nxF F) a k)) - un))) L im c from zs_12.trans (congrArg (fun f => zk g f L im c) (bx_uu _ _ _ _))) ?_
        have hcell : x ((b - 8) * 41 + nxF F (itr (nxF F) a k)) = F 12 ((b - 8) * 41 + nxF F (itr (nxF F) a k)) := i4 _ (by rw [show ((b - 8) * 41 + nxF F (itr (nxF F) a k)) % 41 = nxF F (itr (nxF F) a k) by omega]; exact b3) (by rw [show ((b - 8) * 41 + nxF F (itr (nxF F) a k)) % 41 = nxF F (itr (nxF F) a k) by omega]; exact b5)
        have hroom : un ≤ F 12 ((b - 8) * 41 + nxF F (itr (nxF F) a k)) := by
          have := hP (k + 1) k (by omega) (fun q hq5 => hng2 q (by omega)) h8
          rw [b2, Int.toNat_natCast] at this
          exact this
        refine z_goto (pc := 63) 88 (by decide) dX2_sendOnPath_63 ?_
        refine z_iload (pc := 88) rfl dX2_sendOnPath_88 ?_
        refine z_is4 (pc := 90) (by decide) rfl dX2_sendOnPath_90 ?_
        refine z_ii5 (pc := 92) (by decide) rfl dX2_sendOnPath_92 ?_
        refine z_goto (pc := 95) 6 (by decide) dX2_sendOnPath_95 ?_
        refine ih (k + 1) _ _ (by omega) hng2 (fun w => ?_) (fun q => ?_) (fun q hq5 => ?_) (fun q hq5 hq6 => ?_)
        · rw [Ex_upd (by omega), i1 w]
          unfold ph
          rw [show ((b - 8) * 41 + nxF F (itr (nxF F) a k)) % 41 = nxF F (itr (nxF F) a k) by omega, show ((b - 8) * 41 + nxF F (itr (nxF F) a k)) / 41 = b - 8 by omega]
          have ht : tgt (F 10) (b - 8) (nxF F (itr (nxF F) a k)) = itr (nxF F) a k := by
            unfold tgt
            rcases b1.2.2 with h | h
            · omega
            · omega
          rw [ht]
          show _ = _ + un * (w a - w (nxF F (itr (nxF F) a k)))
          rw [show x ((b - 8) * 41 + nxF F (itr (nxF F) a k)) - un - x ((b - 8) * 41 + nxF F (itr (nxF F) a k)) = -un by omega]
          generalize w a = p1
          generalize w (itr (nxF F) a k) = p2
          generalize w (nxF F (itr (nxF F) a k)) = p3
          rw [Int.mul_sub, Int.mul_sub, Int.mul_sub, Int.neg_mul, Int.neg_mul]
          omega
        · have a1 := i2 q
          unfold vf_upd
          split
          · rename_i e
            subst e
            omega
          · omega
        · have a1 := i2 q
          unfold vf_upd at hq5
          split at hq5
          · rename_i e
            subst e
            left; omega
          · exact i3 q hq5
        · unfold vf_upd
          split
          · rename_i e
            subst e
            rw [show ((b - 8) * 41 + nxF F (itr (nxF F) a k)) % 41 = nxF F (itr (nxF F) a k) by omega] at hq6
            exact absurd hq6 (Nat.lt_irrefl _)
          · exact i4 q hq5 (Nat.lt_trans hq6 b5)
      · rw [if_neg h8]
        refine z_if_eq (pc := 35) ⟨by omega, by omega⟩ 66 (by decide) dX2_sendOnPath_35 (fun hq => ?_) (fun hq => ?_)
        rotate_left
        · omega
        refine z_aload_n (pc := 66) rfl dX2_sendOnPath_66 ?_
        refine zf_X2_18 (pc := 67) rfl rfl dX2_sendOnPath_67 ?_
        refine z_aload_n (pc := 70) rfl dX2_sendOnPath_70 ?_
        refine zf_X2_27 (pc := 71) rfl rfl dX2_sendOnPath_71 ?_
        refine z_iload (pc := 74) rfl dX2_sendOnPath_74 ?_
        refine z_iald (pc := 76) rfl (by decide) (by omega) (by omega) dX2_sendOnPath_76 ?_
        rw [Int.toNat_natCast, show va_up F 12 x 15 = F 15 from rfl, b2]
        refine z_bipush (pc := 77) (by decide) dX2_sendOnPath_77 ?_
        refine z_imul (pc := 79) dX2_sendOnPath_79 ?_
        refine z_iload (pc := 80) rfl dX2_sendOnPath_80 ?_
        refine z_iadd (pc := 82) dX2_sendOnPath_82 ?_
        refine z_dup2 (pc := 83) rfl rfl dX2_sendOnPath_83 ?_
        refine z_iald (pc := 84) rfl (by decide) (by omega) (by omega) dX2_sendOnPath_84 ?_
        refine z_iload_n (pc := 85) rfl dX2_sendOnPath_85 ?_
        refine z_iadd (pc := 86) dX2_sendOnPath_86 ?_
        rw [show ((b : Int) * 41 + (itr (nxF F) a k : Int)).toNat = b * 41 + itr (nxF F) a k by omega, show va_up F 12 x 12 = x from rfl]
        refine z_iast (pc := 87) rfl (by decide) (by omega) (by omega) dX2_sendOnPath_87 ?_
        rw [show ((b : Int) * 41 + (itr (nxF F) a k : Int)).toNat = b * 41 + itr (nxF F) a k by omega]
        refine z_hp (show _ = zk g (va_up F 12 (vf_upd x (b * 41 + itr (nxF F) a k) (x (b * 41 + itr (nxF F) a k) + un))) L im c from zs_12.trans (congrArg (fun f => zk g f L im c) (bx_uu _ _ _ _))) ?_
        refine z_iload (pc := 88) rfl dX2_sendOnPath_88 ?_
        refine z_is4 (pc := 90) (by decide) rfl dX2_sendOnPath_90 ?_
        refine z_ii5 (pc := 92) (by decide) rfl dX2_sendOnPath_92 ?_
        refine z_goto (pc := 95) 6 (by decide) dX2_sendOnPath_95 ?_
        refine ih (k + 1) _ _ (by omega) hng2 (fun w => ?_) (fun q => ?_) (fun q hq5 => ?_) (fun q hq5 hq6 => ?_)
        · rw [Ex_upd (by omega), i1 w]
          unfold ph
          rw [show (b * 41 + itr (nxF F) a k) % 41 = itr (nxF F) a k by omega, show (b * 41 + itr (nxF F) a k) / 41 = b by omega]
          have ht : tgt (F 10) b (itr (nxF F) a k) = nxF F (itr (nxF F) a k) := by
            unfold tgt
            rcases b1.2.2 with h | h
            · omega
            · omega
          rw [ht]
          show _ = _ + un * (w a - w (nxF F (itr (nxF F) a k)))
          rw [show x (b * 41 + itr (nxF F) a k) + un - x (b * 41 + itr (nxF F) a k) = un by omega]
          generalize w a = p1
          generalize w (itr (nxF F) a k) = p2
          generalize w (nxF F (itr (nxF F) a k)) = p3
          rw [Int.mul_sub, Int.mul_sub, Int.mul_sub]
          omega
        · have a1 := i2 q
          unfold vf_upd
          split
          · rename_i e
            subst e
            omega
          · omega
        · unfold vf_upd at hq5
          split at hq5
          · rename_i e
            right
            exact ⟨b, itr (nxF F) a k, nxF F (itr (nxF F) a k), by omega, e, b1, b4⟩
          · exact i3 q hq5
        · unfold vf_upd
          split
          · rename_i e
            subst e
            rw [show (b * 41 + itr (nxF F) a k) % 41 = itr (nxF F) a k by omega] at hq6
            have hq7 : t (itr (nxF F) a k) < t (nxF F (itr (nxF F) a k)) := hq6
            omega
          · exact i4 q hq5 (Nat.lt_trans hq6 b5)
  refine z_iload_n (pc := 0) rfl dX2_sendOnPath_0 ?_
  refine z_is4 (pc := 1) (by decide) rfl dX2_sendOnPath_1 ?_
  refine z_iconst (pc := 3) dX2_sendOnPath_3 ?_
  refine z_is5 (pc := 4) (by decide) rfl dX2_sendOnPath_4 ?_
  refine z_hp (show _ = zk g (va_up F 12 (F 12)) L im c from congrArg (fun f => zk g f L im c) (by funext k; unfold va_up; split <;> simp_all)) ?_
  exact loop (nN F) 0 (F 12) _ (by omega) (fun q h => by omega) (fun w => by show _ = _ + un * (w a - w a); rw [Int.sub_self, Int.mul_zero, Int.add_zero]) (fun j => by have := R.2.2.2.2.1 j; simp; omega) (fun j h => Or.inl h) (fun q _ _ => rfl)
end FLOW5
end FLOW4
end
section
/-! ===== Flow: carry, change, priceOf ===== -/
/-- what carrying un from a to b does -/
def CR (F F' : Nat → Nat → Int) (un : Int) (f : (Nat → Int) → Int) : Prop := (∀ k, k < 12 ∨ 16 < k → F' k = F k) ∧ fr F' ∧ ftF F' ∧ (∀ w : Nat → Int, Ex (F 10) (F' 12) w = Ex (F 10) (F 12) w + f w) ∧ (∀ u, F' 13 u ≤ F 13 u + 1000) ∧ ∀ j, F' 12 j ≤ F 12 j + 40 * un
theorem nb_of {F F1 : Nat → Nat → Int} (N : nb F) (e10 : F1 10 = F 10) (e11 : F1 11 = F 11) : nb F1 := by unfold nb; rw [e10, e11]; exact N
theorem RW_TR {F F' : Nat → Nat → Int} {goal : Nat} {st : Int} {t : Nat → Nat} (h : RW F F' goal st t) : TR F' goal t := by
  have e9 := h.1 9 (by decide) (by decide) (by decide) (by decide)
  have e10 := h.1 10 (by decide) (by decide) (by decide) (by decide)
  have e11 := h.1 11 (by decide) (by decide) (by decide) (by decide)
  have e12 := h.1 12 (by decide) (by decide) (by decide) (by decide)
  have k := h.2.2.2.2.2.1
  unfold TR rsF nN nW
  rw [e9, e10, e11, e12]
  exact k
section FLOW6
variable {l : Launch} {g : zG} {F : Nat → Nat → Int} {L : Nat → Int} {im : Nat → Option Nat} {c : Nat}
theorem c_carry (R : fr F) (T : ftF F) (N : nb F) {a b : Nat} {un : Int} (hab : b = a + 1 ∨ a = b + 1) (ha : a ≤ nN F) (hb : b ≤ nN F) (hu0 : 0 ≤ un) (hu1 : un ≤ 1000) (hP : ∀ u, F 13 u ≤ 90000) (hX : ∀ j, F 12 j ≤ 40000000) : zM l g yX2_carry cX2_carry 9 (some .long) 3 0 0 [.ref (g.2.1 + 9), .int (iz a), .int (iz b), .int (iz un)] (zk g F L im c) (fun r h => ∃ F' : Nat → Nat → Int, r = some (.long (lz (Ex (F 10) (F' 12) (F' 13) - Ex (F 10) (F 12) (F 13)))) ∧ h = zk g F' L im c ∧ CR F F' un (fun w => un * (w a - w b))) := by
  refine zM_of 5 (by decide) rfl ?_
  show zJ l g RX2 cX2_carry 9 (some .long) "carry" (zRm 3 0 0) 0 0 _ 0 0 0 [some (.ref (g.2.1 + 9)), some (.int (iz a)), some (.int (iz b)), some (.int (iz un)), none, none, none, none, none] [] _
  have eN := nN_eq R
  have r1 := R.1
  have bnd : ∀ F1 : Nat → Nat → Int, (∀ k, k < 12 ∨ 16 < k → F1 k = F k) → fr F1 → ftF F1 → F1 13 a - F1 13 b - (F 13 a - F 13 b) ≤ 1000 := by
    intro F1 k1 R1 T1
    have e9 := k1 9 (by omega)
    have enN : nN F1 = nN F := by unfold nN; rw [e9]
    have N1 := nb_of N (k1 10 (by omega)) (k1 11 (by omega))
    have n1 := N.2.2.2
    have e11 := k1 11 (by omega)
    rcases hab with h | h
    · subst h
      have q1 := nb_fall R1 T1 N1 (p := a) (by omega)
      have q2 := nb_fall R T N (p := a) (by omega)
      rw [e11] at q1
      omega
    · subst h
      have q1 := nb_fall R1 T1 N1 (p := b) (by omega)
      have q2 := nb_fall R T N (p := b) (by omega)
      omega
  have fin : ∀ (F1 : Nat → Nat → Int) (left : Int), left = 0 → (∀ k, k < 12 ∨ 16 < k → F1 k = F k) → fr F1 → ftF F1 → (∀ w : Nat → Int, Ex (F 10) (F1 12) w = Ex (F 10) (F 12) w + (un - left) * (w a - w b)) → (∀ u, F1 13 u ≤ F 13 u + (F1 13 a - F1 13 b - (F 13 a - F 13 b))) → (∀ j, F1 12 j ≤ F 12 j + 40 * (un - left)) → CR F F1 un (fun w => un * (w a - w b)) := by
    intro F1 left h0 k1 R1 T1 i1 i2 i3
    subst h0
    refine ⟨k1, R1, T1, fun w => by have := i1 w; rw [Int.sub_zero] at this; exact this, fun u => ?_, fun j => by have := i3 j; omega⟩
    have h5 := bnd F1 k1 R1 T1
    have h6 := i2 u
    omega
  have loop : ∀ (j ps : Nat) (F1 : Nat → Nat → Int) (left : Int) (y : Option Value), (ps : Int) + j = un + 1 → 0 ≤ left → left + ps ≤ un → (∀ k, k < 12 ∨ 16 < k → F1 k = F k) → fr F1 → ftF F1 → (∀ w : Nat → Int, Ex (F 10) (F1 12) w = Ex (F 10) (F 12) w + (un - left) * (w a - w b)) → (∀ u, F1 13 u ≤ F 13 u + (F1 13 a - F1 13 b - (F 13 a - F 13 b))) → (∀ j, F1 12 j ≤ F 12 j + 40 * (un - left)) → zJ l g RX2 cX2_carry 9 (some .long) "carry" (zRm 3 0 0) 0 0 (fun r h => ∃ F' : Nat → Nat → Int, r = some (.long (lz (Ex (F 10) (F' 12) (F' 13) - Ex (F 10) (F 12) (F 13)))) ∧ h = zk g F' L im c ∧ CR F F' un (fun w => un * (w a - w b))) 0 0 9 [some (.ref (g.2.1 + 9)), some (.int (iz a)), some (.int (iz b)), some (.int (iz un)), some (.long (lz (Ex (F 10) (F1 12) (F1 13) - Ex (F 10) (F 12) (F 13)))), none, some (.int (iz left)), some (.int (iz ps)), y] [] (zk g F1 L im c) := by
    intro j
    induction j with
    | zero =>
      intro ps F1 left y hj hl0 hl1 k1 R1 T1 i1 i2 i3
      omega
    | succ j ih =>
      intro ps F1 left y hj hl0 hl1 k1 R1 T1 i1 i2 i3
      refine z_iload (pc := 9) rfl dX2_carry_9 ?_
      refine z_iload_n (pc := 11) rfl dX2_carry_11 ?_
      refine z_icmp_ge (pc := 12) ⟨by omega, by omega⟩ ⟨by omega, by omega⟩ 80 (by decide) dX2_carry_12 (fun hq => ?_) (fun hq => ?_)
      · refine z_lload (pc := 80) rfl dX2_carry_80 ?_
        exact z_retl (pc := 82) rfl (by decide) (by decide) dX2_carry_82 ⟨F1, rfl, rfl, fin F1 left (by omega) k1 R1 T1 i1 i2 i3⟩
      refine z_iload (pc := 15) rfl dX2_carry_15 ?_
      refine z_if_le (pc := 17) ⟨by omega, by omega⟩ 80 (by decide) dX2_carry_17 (fun hq => ?_) (fun hq => ?_)
      · refine z_lload (pc := 80) rfl dX2_carry_80 ?_
        exact z_retl (pc := 82) rfl (by decide) (by decide) dX2_carry_82 ⟨F1, rfl, rfl, fin F1 left (by omega) k1 R1 T1 i1 i2 i3⟩
      have hleft : 0 < left := by assumption
      have e9 := k1 9 (by omega)
      have e10 := k1 10 (by omega)
      have e11 := k1 11 (by omega)
      have enN : nN F1 = nN F := by unfold nN; rw [e9]
      have N1 := nb_of N e10 e11
      have b1 := bnd F1 k1 R1 T1
      refine z_aload_n (pc := 20) rfl dX2_carry_20 ?_
      refine z_iload_n (pc := 21) rfl dX2_carry_21 ?_
      refine z_iload_n (pc := 22) rfl dX2_carry_22 ?_
      refine z_V2 (pc := 23) (c_raiseWorth R1 T1 N1 (fun u => by have := i2 u; have := hP u; omega) (goal := b) (st := (a : Int)) (by rw [enN]; exact hb) (Or.inr ⟨a, rfl, by rw [enN]; exact ha, by omega⟩)) lk_X2_62 iv_X2_raiseWorth rfl rfl ⟨by decide, by decide⟩ (Nat.le_of_ble_eq_true rfl) ⟨by decide, by decide⟩ dX2_carry_23 (fun r h9 hq => ?_)
      obtain ⟨rfl, F2, t, e8, W2⟩ := hq
      rw [e8]
      clear e8 h9
      refine z_r0 ?_
      have A := RW_TR W2
      obtain ⟨w1, R2, T2, w4, w5, w6, w7⟩ := W2
      have f9 := w1 9 (by decide) (by decide) (by decide) (by decide)
      have f10 := w1 10 (by decide) (by decide) (by decide) (by decide)
      have f11 := w1 11 (by decide) (by decide) (by decide) (by decide)
      have f12 := w1 12 (by decide) (by decide) (by decide) (by decide)
      have enN2 : nN F2 = nN F := by unfold nN; rw [f9, e9]
      have eW2 : nW F1 ≤ 8 := by have := R1.2.1; show (F1 9 1).toNat ≤ 8; omega
      have eW3 : nW F2 ≤ 8 := by have := R2.2.1; show (F2 9 1).toNat ≤ 8; omega
      obtain ⟨s, hs1, hs2, hs3, hs4⟩ : ∃ s : Nat, (a : Int) = s ∧ s ≤ nN F1 ∧ F2 16 s = 1 ∧ ∀ u, F2 13 u ≤ F1 13 u + (F2 13 s - F2 13 b) - (F1 13 s - F1 13 b) := by
        rcases w7 with h | h
        · omega
        · exact h
      have hsa : s = a := by omega
      subst hsa
      refine z_aload_n (pc := 26) rfl dX2_carry_26 ?_
      refine z_iload_n (pc := 27) rfl dX2_carry_27 ?_
      refine z_iload_n (pc := 28) rfl dX2_carry_28 ?_
      refine z_iload (pc := 29) rfl dX2_carry_29 ?_
      refine z_V3 (pc := 31) (c_roomOnPath R2 (goal := b) (a := s) (t := t) (un := left) A (by rw [enN2]; exact ha) hs3 (by rw [enN2]; exact hb) (by omega) (by omega)) lk_X2_95 iv_X2_roomOnPath rfl rfl ⟨by decide, by decide⟩ (Nat.le_of_ble_eq_true rfl) ⟨by decide, by decide⟩ dX2_carry_31 (fun r h9 hq => ?_)
      obtain ⟨⟨z, rfl, hz1, hz2, hz3⟩, e8⟩ := hq
      rw [e8]
      clear e8 h9
      refine z_r1 ?_
      refine z_is8 (pc := 34) (by decide) rfl dX2_carry_34 ?_
      refine z_aload_n (pc := 36) rfl dX2_carry_36 ?_
      refine z_iload_n (pc := 37) rfl dX2_carry_37 ?_
      refine z_iload_n (pc := 38) rfl dX2_carry_38 ?_
      refine z_iload (pc := 39) rfl dX2_carry_39 ?_
      refine z_V3 (pc := 41) (c_sendOnPath R2 T2 (goal := b) (a := s) (t := t) (un := z) A (by rw [enN2]; exact ha) hs3 (by rw [enN2]; exact hb) hz1 (by omega) hz3 (fun q => by rw [f12]; have := i3 q; have := hX q; omega)) lk_X2_99 iv_X2_sendOnPath rfl rfl ⟨by decide, by decide⟩ (Nat.le_of_ble_eq_true rfl) ⟨by decide, by decide⟩ dX2_carry_41 (fun r h9 hq => ?_)
      obtain ⟨rfl, F3, e8, P3⟩ := hq
      rw [e8]
      clear e8 h9
      refine z_r0 ?_
      have T3 := SP_ft R2 T2 P3
      obtain ⟨p1, p2, p3, p4⟩ := P3
      have g13 : F3 13 = F2 13 := p1 13 (by decide)
      have k3 : ∀ k, k < 12 ∨ 16 < k → F3 k = F k := fun k hk => (p1 k (by omega)).trans ((w1 k (by omega) (by omega) (by omega) (by omega)).trans (k1 k hk))
      have R3 : fr F3 := by
        unfold fr
        rw [p1 9 (by decide), p1 10 (by decide), p1 11 (by decide), p1 13 (by decide), p1 14 (by decide), p1 15 (by decide), p1 16 (by decide)]
        refine ⟨R2.1, R2.2.1, R2.2.2.1, R2.2.2.2.1, fun q => ?_, R2.2.2.2.2.2.1, R2.2.2.2.2.2.2.1, R2.2.2.2.2.2.2.2.1, R2.2.2.2.2.2.2.2.2⟩
        have h5 := p3 q
        rw [f12] at h5
        have h6 := i3 q
        have h7 := hX q
        omega
      have hval : Ex (F 10) (F3 12) (F3 13) - Ex (F 10) (F 12) (F 13) = Ex (F 10) (F1 12) (F1 13) - Ex (F 10) (F 12) (F 13) + z * (F3 13 s - F3 13 b) := by
        have h5 := p2 (F3 13)
        have h6 := Ex_tight T2 eW3
        have h7 := Ex_tight T1 eW2
        rw [f10, f11, f12, e10, e11] at h6
        rw [f10, e10, f12] at h5
        rw [e10, e11] at h7
        rw [h5]
        rw [g13, h6, h7]
        omega
      have hb13 := R3.2.2.2.2.2.1 s
      have hc13 := R3.2.2.2.2.2.1 b
      refine z_lload (pc := 44) rfl dX2_carry_44 ?_
      refine z_iload (pc := 46) rfl dX2_carry_46 ?_
      refine z_i2l (pc := 48) ⟨by omega, by omega⟩ dX2_carry_48 ?_
      refine z_aload_n (pc := 49) rfl dX2_carry_49 ?_
      refine zf_X2_21 (pc := 50) rfl rfl dX2_carry_50 ?_
      refine z_iload_n (pc := 53) rfl dX2_carry_53 ?_
      refine z_iald (pc := 54) rfl (by decide) (by omega) (by omega) dX2_carry_54 ?_
      refine z_aload_n (pc := 55) rfl dX2_carry_55 ?_
      refine zf_X2_21 (pc := 56) rfl rfl dX2_carry_56 ?_
      refine z_iload_n (pc := 59) rfl dX2_carry_59 ?_
      refine z_iald (pc := 60) rfl (by decide) (by omega) (by omega) dX2_carry_60 ?_
      refine z_isub (pc := 61) dX2_carry_61 ?_
      rw [Int.toNat_natCast, Int.toNat_natCast]
      refine z_i2l (pc := 62) ⟨by omega, by omega⟩ dX2_carry_62 ?_
      refine z_lmul (pc := 63) dX2_carry_63 ?_
      refine z_ladd (pc := 64) dX2_carry_64 ?_
      rw [← hval]
      refine z_ls4 (pc := 65) (by decide) rfl dX2_carry_65 ?_
      refine z_iload (pc := 67) rfl dX2_carry_67 ?_
      refine z_iload (pc := 69) rfl dX2_carry_69 ?_
      refine z_isub (pc := 71) dX2_carry_71 ?_
      refine z_is6 (pc := 72) (by decide) rfl dX2_carry_72 ?_
      refine z_ii7 (pc := 74) (by decide) rfl dX2_carry_74 ?_
      refine z_goto (pc := 77) 9 (by decide) dX2_carry_77 ?_
      refine ih (ps + 1) F3 (left - z) _ (by omega) (by omega) (by omega) k3 R3 T3 (fun w => ?_) (fun u => ?_) (fun q => ?_)
      · have h5 := p2 w
        rw [f10, e10, f12, i1 w] at h5
        rw [h5]
        generalize w s = x1
        generalize w b = x2
        rw [show un - (left - z) = (un - left) + z by omega, Int.add_mul]
        omega
      · rw [g13]
        have h5 := hs4 u
        have h6 := i2 u
        omega
      · have h5 := p3 q
        rw [f12] at h5
        have h6 := i3 q
        omega
  refine z_lconst (pc := 0) (v := 0) (by decide) dX2_carry_0 ?_
  refine z_topL (show _ = lz (Ex (F 10) (F 12) (F 13) - Ex (F 10) (F 12) (F 13)) by rw [Int.sub_self]) ?_
  refine z_ls4 (pc := 1) (by decide) rfl dX2_carry_1 ?_
  refine z_iload_n (pc := 3) rfl dX2_carry_3 ?_
  refine z_is6 (pc := 4) (by decide) rfl dX2_carry_4 ?_
  refine z_iconst (pc := 6) dX2_carry_6 ?_
  refine z_is7 (pc := 7) (by decide) rfl dX2_carry_7 ?_
  exact loop (un.toNat + 1) 0 F un _ (by omega) hu0 (by omega) (fun _ _ => rfl) R T (fun w => by rw [Int.sub_self, Int.zero_mul, Int.add_zero]) (fun u => by omega) (fun q => by omega)
theorem c_change (R : fr F) (T : ftF F) (N : nb F) {a : Nat} {un : Int} (ha : a < nN F) (hu0 : -1000 ≤ un) (hu1 : un ≤ 1000) (hP : ∀ u, F 13 u ≤ 90000) (hX : ∀ j, F 12 j ≤ 40000000) : zM l g yX2_change cX2_change 3 (some .long) 4 0 0 [.ref (g.2.1 + 9), .int (iz a), .int (iz un)] (zk g F L im c) (fun r h => ∃ F' : Nat → Nat → Int, r = some (.long (lz (Ex (F 10) (F' 12) (F' 13) - Ex (F 10) (F 12) (F 13)))) ∧ h = zk g F' L im c ∧ CR F F' (if un < 0 then -un else un) (fun w => un * (w a - w (a + 1)))) := by
  refine zM_of 0 (by decide) rfl ?_
  show zJ l g RX2 cX2_change 3 (some .long) "change" (zRm 4 0 0) 0 0 _ 0 0 0 [some (.ref (g.2.1 + 9)), some (.int (iz a)), some (.int (iz un))] [] _
  have eN := nN_eq R
  have r1 := R.1
  refine z_iload_n (pc := 0) rfl dX2_change_0 ?_
  refine z_if_ge (pc := 1) ⟨by omega, by omega⟩ 17 (by decide) dX2_change_1 (fun hq => ?_) (fun hq => ?_)
  · refine z_aload_n (pc := 17) rfl dX2_change_17 ?_
    refine z_iload_n (pc := 18) rfl dX2_change_18 ?_
    refine z_iload_n (pc := 19) rfl dX2_change_19 ?_
    refine z_iconst (pc := 20) dX2_change_20 ?_
    refine z_iadd (pc := 21) dX2_change_21 ?_
    rw [show (a : Int) + 1 = ((a + 1 : Nat) : Int) by omega]
    refine z_iload_n (pc := 22) rfl dX2_change_22 ?_
    refine z_V3 (pc := 23) (c_carry R T N (a := a) (b := a + 1) (un := un) (Or.inl rfl) (by omega) (by omega) (by omega) hu1 hP hX) lk_X2_58 iv_X2_carry rfl rfl ⟨by decide, by decide⟩ (Nat.le_of_ble_eq_true rfl) ⟨by decide, by decide⟩ dX2_change_23 (fun r h9 hq => ?_)
    obtain ⟨F1, rfl, e8, C⟩ := hq
    rw [e8]
    clear e8 h9
    refine z_r1 ?_
    exact z_retl (pc := 26) rfl (by decide) (by decide) dX2_change_26 ⟨F1, rfl, rfl, by rw [if_neg (by omega)]; exact C⟩
  refine z_aload_n (pc := 4) rfl dX2_change_4 ?_
  refine z_iload_n (pc := 5) rfl dX2_change_5 ?_
  refine z_iconst (pc := 6) dX2_change_6 ?_
  refine z_iadd (pc := 7) dX2_change_7 ?_
  rw [show (a : Int) + 1 = ((a + 1 : Nat) : Int) by omega]
  refine z_iload_n (pc := 8) rfl dX2_change_8 ?_
  refine z_iload_n (pc := 9) rfl dX2_change_9 ?_
  refine z_ineg (pc := 10) dX2_change_10 ?_
  refine z_V3 (pc := 11) (c_carry R T N (a := a + 1) (b := a) (un := -un) (Or.inr rfl) (by omega) (by omega) (by omega) (by omega) hP hX) lk_X2_58 iv_X2_carry rfl rfl ⟨by decide, by decide⟩ (Nat.le_of_ble_eq_true rfl) ⟨by decide, by decide⟩ dX2_change_11 (fun r h9 hq => ?_)
  obtain ⟨F1, rfl, e8, C⟩ := hq
  rw [e8]
  clear e8 h9
  refine z_r1 ?_
  refine z_goto (pc := 14) 26 (by decide) dX2_change_14 ?_
  refine z_retl (pc := 26) rfl (by decide) (by decide) dX2_change_26 ⟨F1, rfl, rfl, ?_⟩
  rw [if_pos (by omega)]
  obtain ⟨c1, c2, c3, c4, c5, c6⟩ := C
  refine ⟨c1, c2, c3, fun w => ?_, c5, c6⟩
  rw [c4 w]
  dsimp only
  generalize w a = x1
  generalize w (a + 1) = x2
  rw [Int.neg_mul, Int.mul_sub, Int.mul_sub]
  omega
theorem c_priceOf (R : fr F) (T : ftF F) (N : nb F) {a : Nat} (ha : a < nN F) (hP : ∀ u, F 13 u ≤ 100000) : zM l g yX2_priceOf cX2_priceOf 2 (some .int) 3 0 0 [.ref (g.2.1 + 9), .int (iz a)] (zk g F L im c) (fun r h => ∃ (F' : Nat → Nat → Int) (t : Nat → Nat), r = some (.int (iz (F' 13 a - F' 13 (a + 1)))) ∧ h = zk g F' L im c ∧ RW F F' (nN F) (-1) t) := by
  refine zM_of 0 (by decide) rfl ?_
  show zJ l g RX2 cX2_priceOf 2 (some .int) "priceOf" (zRm 3 0 0) 0 0 _ 0 0 0 [some (.ref (g.2.1 + 9)), some (.int (iz a))] [] _
  have eN := nN_eq R
  have r1 := R.1
  refine z_aload_n (pc := 0) rfl dX2_priceOf_0 ?_
  refine z_aload_n (pc := 1) rfl dX2_priceOf_1 ?_
  refine zf_X2_44 (pc := 2) rfl rfl dX2_priceOf_2 ?_
  rw [show F 9 0 = ((nN F : Nat) : Int) from eN.symm]
  refine z_iconst (pc := 5) dX2_priceOf_5 ?_
  refine z_V2 (pc := 6) (c_raiseWorth R T N hP (goal := nN F) (st := -1) (Nat.le_refl _) (Or.inl rfl)) lk_X2_62 iv_X2_raiseWorth rfl rfl ⟨by decide, by decide⟩ (Nat.le_of_ble_eq_true rfl) ⟨by decide, by decide⟩ dX2_priceOf_6 (fun r h9 hq => ?_)
  obtain ⟨rfl, F2, t, e8, W2⟩ := hq
  rw [e8]
  clear e8 h9
  refine z_r0 ?_
  refine z_aload_n (pc := 9) rfl dX2_priceOf_9 ?_
  refine zf_X2_21 (pc := 10) rfl rfl dX2_priceOf_10 ?_
  refine z_iload_n (pc := 13) rfl dX2_priceOf_13 ?_
  refine z_iald (pc := 14) rfl (by decide) (by omega) (by omega) dX2_priceOf_14 ?_
  refine z_aload_n (pc := 15) rfl dX2_priceOf_15 ?_
  refine zf_X2_21 (pc := 16) rfl rfl dX2_priceOf_16 ?_
  refine z_iload_n (pc := 19) rfl dX2_priceOf_19 ?_
  refine z_iconst (pc := 20) dX2_priceOf_20 ?_
  refine z_iadd (pc := 21) dX2_priceOf_21 ?_
  refine z_iald (pc := 22) rfl (by decide) (by omega) (by omega) dX2_priceOf_22 ?_
  refine z_isub (pc := 23) dX2_priceOf_23 ?_
  rw [Int.toNat_natCast, show ((a : Int) + 1).toNat = a + 1 by omega]
  exact z_reti (pc := 24) rfl (by decide) (by decide) dX2_priceOf_24 ⟨F2, t, rfl, rfl, W2⟩
end FLOW6
end
section
/-! ===== Flow: layWays, least ===== -/
/-- what holds of Flow's rows at all times -/
def fr0 (F : Nat → Nat → Int) : Prop := (∀ v, -1 ≤ F 10 v ∧ F 10 v ≤ 40) ∧ (∀ v, 0 ≤ F 11 v ∧ F 11 v ≤ 40000) ∧ (∀ u, 0 ≤ F 14 u ∧ F 14 u ≤ 1000000000) ∧ (∀ u, 0 ≤ F 15 u ∧ F 15 u ≤ 15) ∧ ∀ u, F 16 u = 0 ∨ F 16 u = 1
theorem fr_fr0 {F : Nat → Nat → Int} (R : fr F) : fr0 F := ⟨R.2.2.1, R.2.2.2.1, R.2.2.2.2.2.2.1, R.2.2.2.2.2.2.2.1, R.2.2.2.2.2.2.2.2⟩
def olen (F : Nat → Nat → Int) (o : Nat) : Int := min (F 4 o) (F 1 0)
/-- the ways are those of the offers of kind k that cost less than their hours by rate; n offers are looked at -/
def WY (F F' : Nat → Nat → Int) (k n : Nat) : Prop := (∀ q, q ≠ 9 → q ≠ 10 → q ≠ 11 → F' q = F q) ∧ F' 9 0 = F 1 0 ∧ (2 ≤ F' 9 1 ∧ F' 9 1 ≤ 2 + n) ∧ (∀ v, -1 ≤ F' 10 v ∧ F' 10 v ≤ 40) ∧ (∀ v, 0 ≤ F' 11 v ∧ F' 11 v ≤ 40000) ∧ (F' 10 0 = -1 ∧ F' 11 0 = 0 ∧ F' 10 1 = 1 ∧ F' 11 1 = F 2 k) ∧
  (∀ v : Nat, 2 ≤ v → (v : Int) < F' 9 1 → ∃ o, o < n ∧ F 3 o = k ∧ F' 10 v = olen F o ∧ F' 11 v = F 5 o) ∧ ∀ o, o < n → F 3 o = k → F 5 o < olen F o * F 2 k → ∃ v : Nat, 2 ≤ v ∧ (v : Int) < F' 9 1 ∧ F' 10 v = olen F o ∧ F' 11 v = F 5 o
section FLOW7
variable {l : Launch} {g : zG} {F : Nat → Nat → Int} {L : Nat → Int} {im : Nat → Option Nat} {c : Nat}
theorem WY_0 {F F' : Nat → Nat → Int} {k : Nat} (B : bi F 1) (h0 : fr0 F) (e : ∀ q, q ≠ 9 → q ≠ 10 → q ≠ 11 → F' q = F q) (e9 : F' 9 0 = F 1 0 ∧ F' 9 1 = 2) (e10 : F' 10 = vf_upd (vf_upd (F 10) 0 (-1)) 1 1) (e11 : F' 11 = vf_upd (vf_upd (F 11) 0 0) 1 (F 2 k)) : WY F F' k 0 := by
  have b2 := bi_rates B k
  refine ⟨e, e9.1, by omega, fun v => ?_, fun v => ?_, ?_, fun v h1 h2 => by omega, fun o h => by omega⟩
  · rw [e10]
    have := h0.1 v
    unfold vf_upd
    split
    · omega
    · split <;> omega
  · rw [e11]
    have := h0.2.1 v
    unfold vf_upd
    split
    · omega
    · split <;> omega
  · rw [e10, e11]
    exact ⟨rfl, rfl, rfl, rfl⟩
theorem WY_no {F F' : Nat → Nat → Int} {k n : Nat} (h : WY F F' k n) (hn : ¬ (F 3 n = k ∧ F 5 n < olen F n * F 2 k)) : WY F F' k (n + 1) := by
  obtain ⟨h1, h2, h3, h4, h5, h6, h7, h8⟩ := h
  refine ⟨h1, h2, ⟨h3.1, by omega⟩, h4, h5, h6, fun v a b => ?_, fun o ho a b => ?_⟩
  · obtain ⟨o, c1, c2⟩ := h7 v a b
    exact ⟨o, by omega, c2⟩
  · by_cases e : o = n
    · subst e; exact absurd ⟨a, b⟩ hn
    · exact h8 o (by omega) a b
theorem WY_yes {F F' : Nat → Nat → Int} {k n : Nat} (B : bi F 1) (hn6 : n < 6) (h : WY F F' k n) (hk : F 3 n = k) (hc : F 5 n < olen F n * F 2 k) : WY F (va_up (va_up (va_up F' 10 (vf_upd (F' 10) (F' 9 1).toNat (olen F n))) 11 (vf_upd (F' 11) (F' 9 1).toNat (F 5 n))) 9 (vf_upd (F' 9) 1 (F' 9 1 + 1))) k (n + 1) := by
  obtain ⟨h1, h2, h3, h4, h5, h6, h7, h8⟩ := h
  have b1 := bi_hours B
  have b2 := bi_rates B k
  have b4 := bi_terms B n
  have b5 := bi_costs B n
  have hol : 0 ≤ olen F n ∧ olen F n ≤ 40 := by unfold olen; omega
  have hfee : F 5 n ≤ 40000 := by
    have q1 : olen F n * F 2 k ≤ 40 * 1000 := Int.mul_le_mul hol.2 b2.2 b2.1 (by omega)
    omega
  generalize hF : va_up (va_up (va_up F' 10 (vf_upd (F' 10) (F' 9 1).toNat (olen F n))) 11 (vf_upd (F' 11) (F' 9 1).toNat (F 5 n))) 9 (vf_upd (F' 9) 1 (F' 9 1 + 1)) = F2
  have e9 : F2 9 = vf_upd (F' 9) 1 (F' 9 1 + 1) := by rw [← hF]; rfl
  have e10 : F2 10 = vf_upd (F' 10) (F' 9 1).toNat (olen F n) := by rw [← hF]; rfl
  have e11 : F2 11 = vf_upd (F' 11) (F' 9 1).toNat (F 5 n) := by rw [← hF]; rfl
  have e91 : F2 9 1 = F' 9 1 + 1 := by rw [e9]; rfl
  have e90 : F2 9 0 = F' 9 0 := by rw [e9]; rfl
  have l10 : ∀ v : Nat, (v : Int) ≠ F' 9 1 → F2 10 v = F' 10 v ∧ F2 11 v = F' 11 v := fun v hv => by
    rw [e10, e11]; unfold vf_upd; rw [if_neg (by omega), if_neg (by omega)]; exact ⟨rfl, rfl⟩
  have lw : F2 10 (F' 9 1).toNat = olen F n ∧ F2 11 (F' 9 1).toNat = F 5 n := by
    rw [e10, e11]; unfold vf_upd; rw [if_pos rfl, if_pos rfl]; exact ⟨rfl, rfl⟩
  refine ⟨fun q a1 a2 a3 => ?_, by rw [e90]; exact h2, by rw [e91]; omega, fun v => ?_, fun v => ?_, ?_, fun v a b => ?_, fun o ho a b => ?_⟩
  · rw [← hF]; unfold va_up; rw [if_neg a1, if_neg a3, if_neg a2]; exact h1 q a1 a2 a3
  · by_cases hv : (v : Int) = F' 9 1
    · rw [show v = (F' 9 1).toNat by omega, lw.1]; omega
    · rw [(l10 v hv).1]; exact h4 v
  · by_cases hv : (v : Int) = F' 9 1
    · rw [show v = (F' 9 1).toNat by omega, lw.2]; omega
    · rw [(l10 v hv).2]; exact h5 v
  · have q0 := l10 0 (by omega)
    have q1 := l10 1 (by omega)
    rw [q0.1, q0.2, q1.1, q1.2]; exact h6
  · by_cases hv : (v : Int) = F' 9 1
    · rw [show v = (F' 9 1).toNat by omega, lw.1, lw.2]
      exact ⟨n, by omega, hk, rfl, rfl⟩
    · rw [(l10 v hv).1, (l10 v hv).2]
      obtain ⟨o, c1, c2⟩ := h7 v a (by rw [e91] at b; omega)
      exact ⟨o, by omega, c2⟩
  · by_cases e : o = n
    · subst e
      exact ⟨(F' 9 1).toNat, by omega, by rw [e91]; omega, lw.1, lw.2⟩
    · obtain ⟨v, c1, c2, c3, c4⟩ := h8 o (by omega) a b
      refine ⟨v, c1, by rw [e91]; omega, ?_, ?_⟩
      · rw [(l10 v (by omega)).1]; exact c3
      · rw [(l10 v (by omega)).2]; exact c4
theorem c_layWays (B : bi F 1) (h0 : fr0 F) {k : Nat} (hk : k < 3) : zM l g yX2_layWays cX2_layWays 5 none 1 0 0 [.ref (g.2.1 + 9), .ref (g.2.1 + 1), .int (iz k)] (zk g F L im c) (fun r h => r = none ∧ ∃ F' : Nat → Nat → Int, h = zk g F' L im c ∧ WY F F' k (F 1 2).toNat) := by
  refine zM_of 2 (by decide) rfl ?_
  show zJ l g RX2 cX2_layWays 5 none "layWays" (zRm 1 0 0) 0 0 _ 0 0 0 [some (.ref (g.2.1 + 9)), some (.ref (g.2.1 + 1)), some (.int (iz k)), none, none] [] _
  have b1 := bi_hours B
  have b3 := bi_offers B
  have b2 := bi_rates B k
  have loop : ∀ (j x : Nat) (F1 : Nat → Nat → Int) (y : Option Value), x + j = (F 1 2).toNat → WY F F1 k x → zJ l g RX2 cX2_layWays 5 none "layWays" (zRm 1 0 0) 0 0 (fun r h => r = none ∧ ∃ F' : Nat → Nat → Int, h = zk g F' L im c ∧ WY F F' k (F 1 2).toNat) 0 0 32 [some (.ref (g.2.1 + 9)), some (.ref (g.2.1 + 1)), some (.int (iz k)), some (.int (iz x)), y] [] (zk g F1 L im c) := by
    intro j
    induction j with
    | zero =>
      intro x F1 y hx hW
      have e1 := hW.1 1 (by decide) (by decide) (by decide)
      refine z_iload_n (pc := 32) rfl dX2_layWays_32 ?_
      refine z_aload_n (pc := 33) rfl dX2_layWays_33 ?_
      refine zf_X2_78 (pc := 34) rfl rfl dX2_layWays_34 ?_
      rw [e1]
      refine z_icmp_ge (pc := 37) ⟨by omega, by omega⟩ ⟨by omega, by omega⟩ 101 (by decide) dX2_layWays_37 (fun hq => ?_) (fun hq => ?_)
      · exact z_retv (pc := 101) rfl (by decide) (by decide) dX2_layWays_101 ⟨rfl, F1, rfl, by rw [← show x = (F 1 2).toNat by omega]; exact hW⟩
      omega
    | succ j ih =>
      intro x F1 y hx hW
      have e1 := hW.1 1 (by decide) (by decide) (by decide)
      have e2 := hW.1 2 (by decide) (by decide) (by decide)
      have e3 := hW.1 3 (by decide) (by decide) (by decide)
      have e4 := hW.1 4 (by decide) (by decide) (by decide)
      have e5 := hW.1 5 (by decide) (by decide) (by decide)
      have h9 := hW.2.1
      have h91 := hW.2.2.1
      have c3 := bi_kindOf B x
      have c4 := bi_terms B x
      have c5 := bi_costs B x
      have hol : 0 ≤ olen F x ∧ olen F x ≤ 40 := by unfold olen; omega
      have hpr : 0 ≤ olen F x * F 2 k ∧ olen F x * F 2 k ≤ 40000 := by
        have q1 : olen F x * F 2 k ≤ 40 * 1000 := Int.mul_le_mul hol.2 b2.2 b2.1 (by omega)
        have q2 := Int.mul_nonneg hol.1 b2.1
        omega
      refine z_iload_n (pc := 32) rfl dX2_layWays_32 ?_
      refine z_aload_n (pc := 33) rfl dX2_layWays_33 ?_
      refine zf_X2_78 (pc := 34) rfl rfl dX2_layWays_34 ?_
      rw [e1]
      refine z_icmp_ge (pc := 37) ⟨by omega, by omega⟩ ⟨by omega, by omega⟩ 101 (by decide) dX2_layWays_37 (fun hq => ?_) (fun hq => ?_)
      · omega
      refine z_aload_n (pc := 40) rfl dX2_layWays_40 ?_
      refine zf_X2_81 (pc := 41) rfl rfl dX2_layWays_41 ?_
      refine z_iload_n (pc := 44) rfl dX2_layWays_44 ?_
      refine z_iald (pc := 45) rfl (by decide) (by omega) (by omega) dX2_layWays_45 ?_
      refine z_aload_n (pc := 46) rfl dX2_layWays_46 ?_
      refine zf_X2_44 (pc := 47) rfl rfl dX2_layWays_47 ?_
      rw [Int.toNat_natCast, e4, h9]
      refine z_mmin (pc := 50) lk_X2_84 ⟨by omega, by omega⟩ ⟨by omega, by omega⟩ ⟨by decide, by decide⟩ (Nat.le_of_ble_eq_true rfl) ⟨by decide, by decide⟩ dX2_layWays_50 ?_
      refine z_top (show _ = iz (olen F x) from rfl) ?_
      refine z_is4 (pc := 53) (by decide) rfl dX2_layWays_53 ?_
      refine z_aload_n (pc := 55) rfl dX2_layWays_55 ?_
      refine zf_X2_89 (pc := 56) rfl rfl dX2_layWays_56 ?_
      refine z_iload_n (pc := 59) rfl dX2_layWays_59 ?_
      refine z_iald (pc := 60) rfl (by decide) (by omega) (by omega) dX2_layWays_60 ?_
      rw [Int.toNat_natCast, e3]
      refine z_iload_n (pc := 61) rfl dX2_layWays_61 ?_
      refine z_icmp_ne (pc := 62) ⟨by omega, by omega⟩ ⟨by omega, by omega⟩ 95 (by decide) dX2_layWays_62 (fun hq => ?_) (fun hq => ?_)
      · refine z_ii3 (pc := 95) (by decide) rfl dX2_layWays_95 ?_
        refine z_goto (pc := 98) 32 (by decide) dX2_layWays_98 ?_
        exact ih (x + 1) F1 _ (by omega) (WY_no hW (fun h => hq h.1))
      have hk2 : F 3 x = k := by assumption
      refine z_aload_n (pc := 65) rfl dX2_layWays_65 ?_
      refine zf_X2_92 (pc := 66) rfl rfl dX2_layWays_66 ?_
      refine z_iload_n (pc := 69) rfl dX2_layWays_69 ?_
      refine z_iald (pc := 70) rfl (by decide) (by omega) (by omega) dX2_layWays_70 ?_
      refine z_iload (pc := 71) rfl dX2_layWays_71 ?_
      refine z_aload_n (pc := 73) rfl dX2_layWays_73 ?_
      refine zf_X2_75 (pc := 74) rfl rfl dX2_layWays_74 ?_
      refine z_iload_n (pc := 77) rfl dX2_layWays_77 ?_
      refine z_iald (pc := 78) rfl (by decide) (by omega) (by omega) dX2_layWays_78 ?_
      refine z_imul (pc := 79) dX2_layWays_79 ?_
      rw [Int.toNat_natCast, Int.toNat_natCast, e5, e2]
      refine z_icmp_ge (pc := 80) ⟨by omega, by omega⟩ ⟨by omega, by omega⟩ 95 (by decide) dX2_layWays_80 (fun hq => ?_) (fun hq => ?_)
      · refine z_ii3 (pc := 95) (by decide) rfl dX2_layWays_95 ?_
        refine z_goto (pc := 98) 32 (by decide) dX2_layWays_98 ?_
        exact ih (x + 1) F1 _ (by omega) (WY_no hW (fun h => by have := h.2; omega))
      refine z_aload_n (pc := 83) rfl dX2_layWays_83 ?_
      refine z_iload (pc := 84) rfl dX2_layWays_84 ?_
      refine z_aload_n (pc := 86) rfl dX2_layWays_86 ?_
      refine zf_X2_92 (pc := 87) rfl rfl dX2_layWays_87 ?_
      refine z_iload_n (pc := 90) rfl dX2_layWays_90 ?_
      refine z_iald (pc := 91) rfl (by decide) (by omega) (by omega) dX2_layWays_91 ?_
      rw [Int.toNat_natCast, e5]
      refine z_V2 (pc := 92) (c_addWay (F := F1) (a := olen F x) (b := F 5 x) (by omega) (by omega)) lk_X2_72 iv_X2_addWay rfl rfl ⟨by decide, by decide⟩ (Nat.le_of_ble_eq_true rfl) ⟨by decide, by decide⟩ dX2_layWays_92 (fun r h9 hq => ?_)
      obtain ⟨rfl, e8⟩ := hq
      rw [e8]
      clear e8 h9
      refine z_r0 ?_
      refine z_ii3 (pc := 95) (by decide) rfl dX2_layWays_95 ?_
      refine z_goto (pc := 98) 32 (by decide) dX2_layWays_98 ?_
      exact ih (x + 1) _ _ (by omega) (WY_yes B (by omega) hW hk2 (by assumption))
  refine z_aload_n (pc := 0) rfl dX2_layWays_0 ?_
  refine z_aload_n (pc := 1) rfl dX2_layWays_1 ?_
  refine zf_X2_66 (pc := 2) rfl rfl dX2_layWays_2 ?_
  refine zp_X2_44 (pc := 5) rfl (Nat.le_of_ble_eq_true rfl) dX2_layWays_5 ?_
  refine z_hp zs_9_0 ?_
  refine z_aload_n (pc := 8) rfl dX2_layWays_8 ?_
  refine z_iconst (pc := 9) dX2_layWays_9 ?_
  refine zp_X2_69 (pc := 10) rfl (Nat.le_of_ble_eq_true rfl) dX2_layWays_10 ?_
  refine z_hp zs_9_1 ?_
  refine z_aload_n (pc := 13) rfl dX2_layWays_13 ?_
  refine z_iconst (pc := 14) dX2_layWays_14 ?_
  refine z_iconst (pc := 15) dX2_layWays_15 ?_
  refine z_V2 (pc := 16) (c_addWay (a := -1) (b := 0) (show (0 : Int) ≤ 0 by omega) (show (0 : Int) < 8 by omega)) lk_X2_72 iv_X2_addWay rfl rfl ⟨by decide, by decide⟩ (Nat.le_of_ble_eq_true rfl) ⟨by decide, by decide⟩ dX2_layWays_16 (fun r h9 hq => ?_)
  obtain ⟨rfl, e8⟩ := hq
  rw [e8]
  clear e8 h9
  refine z_r0 ?_
  refine z_aload_n (pc := 19) rfl dX2_layWays_19 ?_
  refine z_iconst (pc := 20) dX2_layWays_20 ?_
  refine z_aload_n (pc := 21) rfl dX2_layWays_21 ?_
  refine zf_X2_75 (pc := 22) rfl rfl dX2_layWays_22 ?_
  refine z_iload_n (pc := 25) rfl dX2_layWays_25 ?_
  refine z_iald (pc := 26) rfl (by decide) (by omega) (by omega) dX2_layWays_26 ?_
  refine z_V2 (pc := 27) (c_addWay (a := 1) (b := F 2 k) (show (0 : Int) ≤ 1 by omega) (show (1 : Int) < 8 by omega)) lk_X2_72 iv_X2_addWay rfl rfl ⟨by decide, by decide⟩ (Nat.le_of_ble_eq_true rfl) ⟨by decide, by decide⟩ dX2_layWays_27 (fun r h9 hq => ?_)
  obtain ⟨rfl, e8⟩ := hq
  rw [e8]
  clear e8 h9
  refine z_r0 ?_
  refine z_iconst (pc := 30) dX2_layWays_30 ?_
  refine z_is3 (pc := 31) (by decide) rfl dX2_layWays_31 ?_
  refine loop (F 1 2).toNat 0 _ _ (by omega) (WY_0 B h0 (fun q a1 a2 a3 => ?_) ⟨rfl, rfl⟩ rfl rfl)
  unfold va_up
  rw [if_neg a1, if_neg a3, if_neg a2, if_neg a1, if_neg a3, if_neg a2, if_neg a1, if_neg a1]
end FLOW7
end
section
/-! ===== Flow.least, and what it means ===== -/
def dv (d w : Nat → Int) (n : Nat) : Int := sm (fun t => d t * (w t - w (t + 1))) n
theorem nda_cong {F F1 : Nat → Nat → Int} (e : F1 6 = F 6) (k t : Nat) : nda F1 k t = nda F k t := by unfold nda; exact sm_cong (fun j _ => by unfold fnd; rw [e])
theorem bi_cong {F F1 : Nat → Nat → Int} (e : ∀ q, q < 9 → F1 q = F q) (B : bi F 1) : bi F1 1 := by
  unfold bi
  rw [e 1 (by decide), e (1 + 1) (by decide), e (1 + 2) (by decide), e (1 + 3) (by decide), e (1 + 4) (by decide), e (1 + 5) (by decide), e (1 + 6) (by decide)]
  exact B
/-- the network of kind k, with d carried for d: the worth of what is carried -/
def lsS (F F' : Nat → Nat → Int) (k : Nat) (d : Nat → Int) : Prop := (∀ q, q < 9 ∨ 16 < q → F' q = F q) ∧ fr F' ∧ ftF F' ∧ (∃ Fw, WY F Fw k (F 1 2).toNat ∧ F' 9 = Fw 9 ∧ F' 10 = Fw 10 ∧ F' 11 = Fw 11) ∧ ∀ w : Nat → Int, Ex (F' 10) (F' 12) w = dv d w (F 1 0).toNat
theorem lsS_nb {F F' : Nat → Nat → Int} {k : Nat} {d : Nat → Int} (B : bi F 1) (hk : (k : Int) < F 1 1) (h : lsS F F' k d) : nb F' ∧ nN F' = (F 1 0).toNat := by
  obtain ⟨-, -, -, ⟨Fw, hW, e9, e10, e11⟩, -⟩ := h
  have q := hW.2.2.2.2.2.1
  have b2 := bi_rates B k
  have b1 := bi_rate1 B k hk
  unfold nb nN
  rw [e9, e10, e11, hW.2.1]
  exact ⟨⟨q.1, q.2.1, q.2.2.1, by rw [q.2.2.2]; exact b1, by rw [q.2.2.2]; exact b2.2⟩, rfl⟩
section FLOW8
variable {l : Launch} {g : zG} {F : Nat → Nat → Int} {L : Nat → Int} {im : Nat → Option Nat} {c : Nat}
theorem c_least (B : bi F 1) (h0 : fr0 F) {k : Nat} (hk : k < 3) (hkk : (k : Int) < F 1 1) : zM l g yX2_least cX2_least 6 (some .long) 5 0 0 [.ref (g.2.1 + 9), .ref (g.2.1 + 1), .int (iz k)] (zk g F L im c) (fun r h => ∃ F' : Nat → Nat → Int, r = some (.long (lz (Ex (F' 10) (F' 12) (F' 13)))) ∧ h = zk g F' L im c ∧ lsS F F' k (nda F k) ∧ (∀ u, F' 13 u ≤ 40000) ∧ ∀ j, F' 12 j ≤ 57600) := by
  refine zM_of 3 (by decide) rfl ?_
  show zJ l g RX2 cX2_least 6 (some .long) "least" (zRm 5 0 0) 0 0 _ 0 0 0 [some (.ref (g.2.1 + 9)), some (.ref (g.2.1 + 1)), some (.int (iz k)), none, none, none] [] _
  have b1 := bi_hours B
  have b3 := bi_offers B
  refine z_aload_n (pc := 0) rfl dX2_least_0 ?_
  refine z_aload_n (pc := 1) rfl dX2_least_1 ?_
  refine z_iload_n (pc := 2) rfl dX2_least_2 ?_
  refine z_V2 (pc := 3) (c_layWays B h0 hk) lk_X2_34 iv_X2_layWays rfl rfl ⟨by decide, by decide⟩ (Nat.le_of_ble_eq_true rfl) ⟨by decide, by decide⟩ dX2_least_3 (fun r h9 hq => ?_)
  obtain ⟨rfl, Fw, e8, hW⟩ := hq
  rw [e8]
  clear e8 h9
  refine z_r0 ?_
  refine z_aload_n (pc := 6) rfl dX2_least_6 ?_
  refine zf_X2_18 (pc := 7) rfl rfl dX2_least_7 ?_
  refine z_iconst (pc := 10) dX2_least_10 ?_
  refine z_S2 (pc := 11) (c_fill2 (q := 12) (n := 328) (f := Fw 12) (v := 0) rfl (by omega)) lk_X2_38 st_J7_fill_53178 ⟨by decide, by decide⟩ (Nat.le_of_ble_eq_true rfl) ⟨by decide, by decide⟩ dX2_least_11 (fun r h9 hq => ?_)
  obtain ⟨rfl, e8⟩ := hq
  rw [e8]
  clear e8 h9
  refine z_r0 ?_
  refine z_hp zs_12 ?_
  refine z_aload_n (pc := 14) rfl dX2_least_14 ?_
  refine zf_X2_21 (pc := 15) rfl rfl dX2_least_15 ?_
  refine z_iconst (pc := 18) dX2_least_18 ?_
  refine z_S2 (pc := 19) (c_fill2 (q := 13) (n := 41) (f := Fw 13) (v := 0) rfl (by omega)) lk_X2_38 st_J7_fill_53178 ⟨by decide, by decide⟩ (Nat.le_of_ble_eq_true rfl) ⟨by decide, by decide⟩ dX2_least_19 (fun r h9 hq => ?_)
  obtain ⟨rfl, e8⟩ := hq
  rw [e8]
  clear e8 h9
  refine z_r0 ?_
  refine z_hp zs_13 ?_
  -- beyond the rows' ends nothing is asked: take 0 there
  refine z_cell (q := 12) (N := 328) (f := fl (Fw 12) 0 328 0) (f2 := fun _ => 0) rfl (fun j hj => by unfold fl; rw [if_pos (by omega)]) ?_
  refine z_hp zs_12 ?_
  refine z_cell (q := 13) (N := 41) (f := fl (Fw 13) 0 41 0) (f2 := fun _ => 0) rfl (fun j hj => by unfold fl; rw [if_pos (by omega)]) ?_
  refine z_hp zs_13 ?_
  refine z_hp (show _ = zk g (va_up (va_up Fw 12 (fun _ => 0)) 13 (fun _ => 0)) L im c from congrArg (fun f => zk g f L im c) ?_) ?_
  · funext q
    unfold va_up
    by_cases h13 : q = 13
    · rw [if_pos h13, if_pos h13]
    · rw [if_neg h13, if_neg h13]
      by_cases h12 : q = 12
      · subst h12; rfl
      · rw [if_neg h12, if_neg h12, if_neg h13, if_neg h12]
  generalize hF0 : va_up (va_up Fw 12 (fun _ => 0)) 13 (fun _ => 0) = F0
  have f9 : F0 9 = Fw 9 := by rw [← hF0]; rfl
  have f10 : F0 10 = Fw 10 := by rw [← hF0]; rfl
  have f11 : F0 11 = Fw 11 := by rw [← hF0]; rfl
  have f12 : F0 12 = fun _ => 0 := by rw [← hF0]; rfl
  have f13 : F0 13 = fun _ => 0 := by rw [← hF0]; rfl
  have f0 : ∀ q, q < 9 ∨ 13 < q → F0 q = F q := fun q hq => by rw [← hF0]; unfold va_up; rw [if_neg (by omega), if_neg (by omega)]; exact hW.1 q (by omega) (by omega) (by omega)
  have w2 := hW.2.2.1
  have R0 : fr F0 := by
    unfold fr
    rw [f9, f10, f11, f12, f13, f0 14 (by omega), f0 15 (by omega), f0 16 (by omega), hW.2.1]
    exact ⟨b1, ⟨w2.1, by omega⟩, hW.2.2.2.1, hW.2.2.2.2.1, fun _ => ⟨Int.le_refl 0, (by decide : (0 : Int) ≤ 100000000)⟩, fun _ => ⟨Int.le_refl 0, (by decide : (0 : Int) ≤ 200000)⟩, h0.2.2.1, h0.2.2.2.1, h0.2.2.2.2⟩
  have T0 : ftF F0 := by
    refine ⟨fun b u v hr => ?_, fun v p hx => ?_, fun j => ?_⟩
    · rw [f13]
      show (0 : Int) - 0 ≤ _
      rcases hr.2.2 with h | h
      · have e2 := R0.2.1
        have := R0.2.2.2.1 b
        unfold fb
        rw [if_pos (by have : nW F0 ≤ 8 := (by show (F0 9 1).toNat ≤ 8; omega); omega)]
        omega
      · rw [f12] at h; exact absurd h.2.2.2 (Int.lt_irrefl 0)
    · rw [f12] at hx; exact absurd hx (Int.lt_irrefl 0)
    · rw [f12]; exact Int.le_refl 0
  have E0 : ∀ x : Nat → Int, Ex (F0 10) (F0 12) x = 0 := fun x => Ex_0 (fun j _ => by rw [f12])
  have loop : ∀ (j t : Nat) (F1 : Nat → Nat → Int), t + j = (F 1 0).toNat → (∀ q, q < 12 ∨ 16 < q → F1 q = F0 q) → fr F1 → ftF F1 → (∀ w : Nat → Int, Ex (F1 10) (F1 12) w = dv (nda F k) w t) → (∀ u, F1 13 u ≤ 1000 * t) → (∀ q, F1 12 q ≤ 1440 * t) → zJ l g RX2 cX2_least 6 (some .long) "least" (zRm 5 0 0) 0 0 (fun r h => ∃ F' : Nat → Nat → Int, r = some (.long (lz (Ex (F' 10) (F' 12) (F' 13)))) ∧ h = zk g F' L im c ∧ lsS F F' k (nda F k) ∧ (∀ u, F' 13 u ≤ 40000) ∧ ∀ j, F' 12 j ≤ 57600) 0 0 27 [some (.ref (g.2.1 + 9)), some (.ref (g.2.1 + 1)), some (.int (iz k)), some (.long (lz (Ex (F1 10) (F1 12) (F1 13)))), none, some (.int (iz t))] [] (zk g F1 L im c) := by
    intro j
    induction j with
    | zero =>
      intro t F1 ht k1 R1 T1 i1 i2 i3
      have e9 : F1 9 0 = F 1 0 := by rw [k1 9 (by omega), f9]; exact hW.2.1
      refine z_iload (pc := 27) rfl dX2_least_27 ?_
      refine z_aload_n (pc := 29) rfl dX2_least_29 ?_
      refine zf_X2_44 (pc := 30) rfl rfl dX2_least_30 ?_
      rw [e9]
      refine z_icmp_ge (pc := 33) ⟨by omega, by omega⟩ ⟨by omega, by omega⟩ 58 (by decide) dX2_least_33 (fun hq => ?_) (fun hq => ?_)
      · refine z_lload_n (pc := 58) rfl dX2_least_58 ?_
        refine z_retl (pc := 59) rfl (by decide) (by decide) dX2_least_59 ⟨F1, rfl, rfl, ⟨fun q hq => (k1 q (by omega)).trans (f0 q (by omega)), R1, T1, ⟨Fw, hW, (k1 9 (by omega)).trans f9, (k1 10 (by omega)).trans f10, (k1 11 (by omega)).trans f11⟩, fun w => by rw [i1 w, show t = (F 1 0).toNat by omega]⟩, fun u => ?_, fun q => ?_⟩
        · have := i2 u; omega
        · have := i3 q; omega
      omega
    | succ j ih =>
      intro t F1 ht k1 R1 T1 i1 i2 i3
      have e9 : F1 9 0 = F 1 0 := by rw [k1 9 (by omega), f9]; exact hW.2.1
      have enN : nN F1 = (F 1 0).toNat := by unfold nN; rw [e9]
      have q := hW.2.2.2.2.2.1
      have g2 := bi_rates B k
      have g1 := bi_rate1 B k hkk
      have N1 : nb F1 := by
        unfold nb
        rw [k1 10 (by omega), k1 11 (by omega), f10, f11]
        exact ⟨q.1, q.2.1, q.2.2.1, by rw [q.2.2.2]; exact g1, by rw [q.2.2.2]; exact g2.2⟩
      have nd := nda_bd B k t
      refine z_iload (pc := 27) rfl dX2_least_27 ?_
      refine z_aload_n (pc := 29) rfl dX2_least_29 ?_
      refine zf_X2_44 (pc := 30) rfl rfl dX2_least_30 ?_
      rw [e9]
      refine z_icmp_ge (pc := 33) ⟨by omega, by omega⟩ ⟨by omega, by omega⟩ 58 (by decide) dX2_least_33 (fun hq => ?_) (fun hq => ?_)
      · omega
      refine z_lload_n (pc := 36) rfl dX2_least_36 ?_
      refine z_aload_n (pc := 37) rfl dX2_least_37 ?_
      refine z_iload (pc := 38) rfl dX2_least_38 ?_
      refine z_aload_n (pc := 40) rfl dX2_least_40 ?_
      refine z_iload_n (pc := 41) rfl dX2_least_41 ?_
      refine z_iload (pc := 42) rfl dX2_least_42 ?_
      refine z_V2 (pc := 44) (c_needOfAll (F := F1) (k := k) (t := t) hk (by omega)) lk_X2_48 iv_X1_needOfAll rfl rfl ⟨by decide, by decide⟩ (Nat.le_of_ble_eq_true rfl) ⟨by decide, by decide⟩ dX2_least_44 (fun r h9 hq => ?_)
      obtain ⟨rfl, e9⟩ := hq
      rw [e9]
      clear e9 h9
      refine z_r1 ?_
      rw [nda_cong ((k1 6 (by omega)).trans (f0 6 (by omega))) k t]
      refine z_V2 (pc := 47) (c_change R1 T1 N1 (a := t) (un := nda F k t) (by omega) (by omega) (by omega) (fun u => by have := i2 u; omega) (fun u => by have := i3 u; omega)) lk_X2_54 iv_X2_change rfl rfl ⟨by decide, by decide⟩ (Nat.le_of_ble_eq_true rfl) ⟨by decide, by decide⟩ dX2_least_47 (fun r h9 hq => ?_)
      obtain ⟨F2, rfl, e8, C⟩ := hq
      rw [e8]
      clear e8 h9
      refine z_r1 ?_
      obtain ⟨c1, c2, c3, c4, c5, c6⟩ := C
      have e10 : F2 10 = F1 10 := c1 10 (by omega)
      rw [if_neg (by omega)] at c6
      refine z_ladd (pc := 50) dX2_least_50 ?_
      refine z_topL (show _ = lz (Ex (F2 10) (F2 12) (F2 13)) from congrArg lz (by rw [e10]; omega)) ?_
      refine z_ls3 (pc := 51) (by decide) rfl dX2_least_51 ?_
      refine z_ii5 (pc := 52) (by decide) rfl dX2_least_52 ?_
      refine z_goto (pc := 55) 27 (by decide) dX2_least_55 ?_
      refine ih (t + 1) F2 (by omega) (fun q hq => (c1 q hq).trans (k1 q hq)) c2 c3 (fun w => ?_) (fun u => ?_) (fun q => ?_)
      · rw [e10, c4 w, i1 w]
        rfl
      · have := c5 u
        have := i2 u
        omega
      · have := c6 q
        have := i3 q
        omega
  refine z_lconst (pc := 22) (v := 0) (by decide) dX2_least_22 ?_
  refine z_topL (show _ = lz (Ex (F0 10) (F0 12) (F0 13)) from congrArg lz (E0 _).symm) ?_
  refine z_ls3 (pc := 23) (by decide) rfl dX2_least_23 ?_
  refine z_iconst (pc := 24) dX2_least_24 ?_
  refine z_is5 (pc := 25) (by decide) rfl dX2_least_25 ?_
  exact loop (F 1 0).toNat 0 F0 (by omega) (fun _ _ => rfl) R0 T0 (fun w => E0 w) (fun u => by rw [f13]; simp) (fun u => by rw [f12]; simp)
end FLOW8
end
section
/-! ===== the best, and the greatest prices: numbers that two searches must agree on ===== -/
def wP (n : Nat) (r : Int) (m : Nat) (kf tf cf : Nat → Int) (k : Nat) (w : Nat → Int) : Prop := (∀ t, t < n → 0 ≤ w t - w (t + 1) ∧ w t - w (t + 1) ≤ r) ∧ ∀ o, o < m → kf o = (k : Int) → ∀ t : Nat, t < n → w t - w (min ((t : Int) + tf o) (n : Int)).toNat ≤ cf o
def optV (P : (Nat → Int) → Prop) (d : Nat → Int) (n : Nat) (V : Int) : Prop := (∃ w, P w ∧ dv d w n = V) ∧ ∀ w, P w → dv d w n ≤ V
def topP (P : (Nat → Int) → Prop) (d : Nat → Int) (n : Nat) (V : Int) (p : Nat → Int) : Prop := P p ∧ p n = 0 ∧ dv d p n = V ∧ ∀ w, P w → w n = 0 → dv d w n = V → ∀ t, t ≤ n → w t ≤ p t
theorem optV_one {P : (Nat → Int) → Prop} {d : Nat → Int} {n : Nat} {V V2 : Int} (h : optV P d n V) (h2 : optV P d n V2) : V = V2 := by
  obtain ⟨⟨w, a, b⟩, c⟩ := h
  obtain ⟨⟨w2, a2, b2⟩, c2⟩ := h2
  have := c w2 a2
  have := c2 w a
  omega
theorem topP_one {P : (Nat → Int) → Prop} {d : Nat → Int} {n : Nat} {V : Int} {p p2 : Nat → Int} (h : topP P d n V p) (h2 : topP P d n V p2) {t : Nat} (ht : t ≤ n) : p t = p2 t := by
  have a := h.2.2.2 p2 h2.1 h2.2.1 h2.2.2.1 t ht
  have b := h2.2.2.2 p h.1 h.2.1 h.2.2.1 t ht
  omega
theorem dv_shift (d w : Nat → Int) (a : Int) (n : Nat) : dv d (fun t => w t - a) n = dv d w n := sm_cong (fun j _ => by show d j * (w j - a - (w (j + 1) - a)) = d j * (w j - w (j + 1)); rw [show w j - a - (w (j + 1) - a) = w j - w (j + 1) by omega])
theorem wP_shift {n : Nat} {r : Int} {m : Nat} {kf tf cf : Nat → Int} {k : Nat} {w : Nat → Int} (a : Int) (h : wP n r m kf tf cf k w) : wP n r m kf tf cf k (fun t => w t - a) := by
  refine ⟨fun t ht => ?_, fun o ho hk t ht => ?_⟩
  · have := h.1 t ht
    show 0 ≤ w t - a - (w (t + 1) - a) ∧ w t - a - (w (t + 1) - a) ≤ r
    omega
  · have := h.2 o ho hk t ht
    show w t - a - (w _ - a) ≤ _
    omega
/-- sums fall from hour to hour, by rate at most -/
theorem fall_mono {n : Nat} {r : Int} {w : Nat → Int} (h : ∀ t, t < n → 0 ≤ w t - w (t + 1) ∧ w t - w (t + 1) ≤ r) {a : Nat} : ∀ q, a + q ≤ n → 0 ≤ w a - w (a + q) ∧ w a - w (a + q) ≤ q * r
  | 0, _ => by simp
  | q + 1, hq => by
    have h1 := fall_mono h (a := a) q (by omega)
    have h2 := h (a + q) (by omega)
    have e : ((q + 1 : Nat) : Int) * r = q * r + r := by rw [Int.natCast_add, Int.add_mul]; simp
    rw [e]
    have e2 : a + (q + 1) = a + q + 1 := by omega
    rw [e2]
    omega
abbrev wPF (F : Nat → Nat → Int) (k : Nat) : (Nat → Int) → Prop := wP (F 1 0).toNat (F 2 k) (F 1 2).toNat (F 3) (F 4) (F 5) k
section CLASS
variable {F F' Fw : Nat → Nat → Int} {k : Nat}
/-- the place where an offer ends -/
theorem end_at (B : bi F 1) {o t : Nat} (ho : (o : Int) < F 1 2) (ht : t < (F 1 0).toNat) (hl : (t : Int) + olen F o ≤ F 1 0) : (min ((t : Int) + F 4 o) (((F 1 0).toNat : Nat) : Int)).toNat = ((t : Int) + olen F o).toNat := by
  have b1 := bi_hours B
  have b4 := bi_terms B o
  unfold olen at hl ⊢
  omega
theorem class_W (B : bi F 1) (hkk : (k : Int) < F 1 1) (hW : WY F Fw k (F 1 2).toNat) (e9 : F' 9 = Fw 9) (e10 : F' 10 = Fw 10) (e11 : F' 11 = Fw 11) (R : fr F') (T : ftF F') : wPF F k (F' 13) := by
  have b1 := bi_hours B
  have b3 := bi_offers B
  have q := hW.2.2.2.2.2.1
  have g2 := bi_rates B k
  have g1 := bi_rate1 B k hkk
  have N : nb F' := by
    unfold nb
    rw [e10, e11]
    exact ⟨q.1, q.2.1, q.2.2.1, by rw [q.2.2.2]; exact g1, by rw [q.2.2.2]; exact g2.2⟩
  have enN : nN F' = (F 1 0).toNat := by unfold nN; rw [e9, hW.2.1]
  have eW := nW_eq R
  have r2 := R.2.1
  have e111 : F' 11 1 = F 2 k := by rw [e11]; exact q.2.2.2
  have fall : ∀ t, t < (F 1 0).toNat → 0 ≤ F' 13 t - F' 13 (t + 1) ∧ F' 13 t - F' 13 (t + 1) ≤ F 2 k := fun t ht => by
    have := nb_fall R T N (p := t) (by omega)
    rw [e111] at this
    exact this
  have main : ∀ o : Nat, (o : Int) < F 1 2 → F 3 o = k → ∀ t : Nat, (t : Int) + olen F o ≤ F 1 0 → F' 13 t - F' 13 ((t : Int) + olen F o).toNat ≤ F 5 o := by
    intro o ho hk t ht
    have b4 := bi_terms B o
    have b41 := bi_term1 B o ho
    have hol : 1 ≤ olen F o ∧ olen F o ≤ 40 := by unfold olen; omega
    by_cases hc : F 5 o < olen F o * F 2 k
    · obtain ⟨v, v1, v2, v3, v4⟩ := hW.2.2.2.2.2.2.2 o (by omega) hk hc
      rw [← e9] at v2
      rw [← e10] at v3
      rw [← e11] at v4
      have a := T.1 v t ((t : Int) + olen F o).toNat ⟨by omega, by omega, Or.inl ⟨by omega, by rw [v3]; omega⟩⟩
      unfold fb at a
      rw [if_pos (by omega), v4] at a
      exact a
    · have a := (fall_mono fall (a := t) (olen F o).toNat (by omega)).2
      rw [show ((t : Int) + olen F o).toNat = t + (olen F o).toNat by omega]
      have e : (((olen F o).toNat : Nat) : Int) = olen F o := by omega
      rw [e] at a
      omega
  refine ⟨fall, fun o ho hk t ht => ?_⟩
  have b4 := bi_terms B o
  have b41 := bi_term1 B o (by omega)
  have hol : 1 ≤ olen F o ∧ olen F o ≤ F 1 0 := by unfold olen; omega
  by_cases hl : (t : Int) + olen F o ≤ F 1 0
  · rw [end_at B (by omega) ht hl]
    exact main o (by omega) hk t hl
  · have e : (min ((t : Int) + F 4 o) (((F 1 0).toNat : Nat) : Int)).toNat = (F 1 0).toNat := by unfold olen at hl; omega
    rw [e]
    have a := main o (by omega) hk (F 1 0 - olen F o).toNat (by omega)
    rw [show ((((F 1 0 - olen F o).toNat : Nat) : Int) + olen F o).toNat = (F 1 0).toNat by omega] at a
    have a2 := (fall_mono fall (a := (F 1 0 - olen F o).toNat) (t - (F 1 0 - olen F o).toNat) (by omega)).1
    rw [show (F 1 0 - olen F o).toNat + (t - (F 1 0 - olen F o).toNat) = t by omega] at a2
    omega
theorem class_arc (B : bi F 1) (hW : WY F Fw k (F 1 2).toNat) (e9 : F' 9 = Fw 9) (e10 : F' 10 = Fw 10) (e11 : F' 11 = Fw 11) {w : Nat → Int} (hw : wPF F k w) : ∀ v p, v < nW F' → p ≤ nN F' → 0 ≤ (p : Int) + F' 10 v → (p : Int) + F' 10 v ≤ nN F' → w p - w (tgt (F' 10) v p) ≤ F' 11 v := by
  have b1 := bi_hours B
  have b3 := bi_offers B
  have enN : nN F' = (F 1 0).toNat := by unfold nN; rw [e9, hW.2.1]
  have q := hW.2.2.2.2.2.1
  have w2 := hW.2.2.1
  have eW : nW F' = (Fw 9 1).toNat := by unfold nW; rw [e9]
  intro v p hv hp h0 h1
  rw [e10, e11] at *
  unfold tgt
  by_cases v0 : v = 0
  · subst v0
    rw [q.1] at h0 ⊢
    rw [q.2.1]
    have := hw.1 (p - 1) (by omega)
    rw [show p - 1 + 1 = p by omega] at this
    rw [show ((p : Int) + -1).toNat = p - 1 by omega]
    omega
  by_cases v1 : v = 1
  · subst v1
    rw [q.2.2.1] at h1 ⊢
    rw [q.2.2.2]
    have := hw.1 p (by omega)
    rw [show ((p : Int) + 1).toNat = p + 1 by omega]
    exact this.2
  · obtain ⟨o, c1, c2, c3, c4⟩ := hW.2.2.2.2.2.2.1 v (by omega) (by omega)
    have b4 := bi_terms B o
    have b41 := bi_term1 B o (by omega)
    have hol : 1 ≤ olen F o ∧ olen F o ≤ F 1 0 := by unfold olen; omega
    rw [c3] at h1 ⊢
    rw [c4]
    have a := hw.2 o c1 c2 p (by omega)
    rw [end_at B (by omega) (by omega) (by omega)] at a
    exact a
theorem class_opt (B : bi F 1) (hkk : (k : Int) < F 1 1) {d : Nat → Int} (h : lsS F F' k d) : optV (wPF F k) d (F 1 0).toNat (Ex (F' 10) (F' 12) (F' 13)) := by
  obtain ⟨-, R, T, ⟨Fw, hW, e9, e10, e11⟩, hE⟩ := h
  have hW8 : nW F' ≤ 8 := by have := R.2.1; show (F' 9 1).toNat ≤ 8; omega
  refine ⟨⟨F' 13, class_W B hkk hW e9 e10 e11 R T, (hE _).symm⟩, fun w hw => ?_⟩
  rw [← hE w]
  exact Ex_le T hW8 (class_arc B hW e9 e10 e11 hw)
theorem class_top {F2 : Nat → Nat → Int} {t : Nat → Nat} (B : bi F 1) (hkk : (k : Int) < F 1 1) {d : Nat → Int} (h : lsS F F' k d) (hR : RW F' F2 (nN F') (-1) t) : topP (wPF F k) d (F 1 0).toNat (Ex (F' 10) (F' 12) (F' 13)) (fun u => F2 13 u - F2 13 (F 1 0).toNat) := by
  obtain ⟨-, R, T, ⟨Fw, hW, e9, e10, e11⟩, hE⟩ := h
  obtain ⟨w1, R2, T2, w4, w5, w6, w7⟩ := hR
  have f9 := w1 9 (by decide) (by decide) (by decide) (by decide)
  have f10 := w1 10 (by decide) (by decide) (by decide) (by decide)
  have f11 := w1 11 (by decide) (by decide) (by decide) (by decide)
  have f12 := w1 12 (by decide) (by decide) (by decide) (by decide)
  have hW8 : nW F' ≤ 8 := by have := R.2.1; show (F' 9 1).toNat ≤ 8; omega
  have hW82 : nW F2 ≤ 8 := by have := R2.2.1; show (F2 9 1).toNat ≤ 8; omega
  have b1 := bi_hours B
  have enN : nN F' = (F 1 0).toNat := by unfold nN; rw [e9, hW.2.1]
  have hall : ∀ u, u ≤ nN F' → F2 16 u = 1 := by
    rcases w7 with h | ⟨s, h1, -⟩
    · exact h.2
    · omega
  refine ⟨wP_shift _ (class_W B hkk hW (f9.trans e9) (f10.trans e10) (f11.trans e11) R2 T2), by show F2 13 _ - F2 13 _ = 0; omega, ?_, ?_⟩
  · rw [dv_shift, ← hE]
    have h1 := Ex_tight T2 hW82
    have h2 := Ex_tight T hW8
    rw [f10, f11, f12] at h1
    rw [h1, h2]
  · intro w hw hw0 hV
    have arc := class_arc B hW e9 e10 e11 hw
    rw [← hE w] at hV
    have key : ∀ q u, t u ≤ q → u ≤ nN F' → w u - w (nN F') ≤ F2 13 u - F2 13 (nN F') := by
      intro q
      induction q with
      | zero =>
        intro u hq hu
        by_cases hug : u = nN F'
        · rw [hug]; omega
        · obtain ⟨b, v, k1, k2, k3, k4, k5⟩ := (w6 u hu (hall u hu)).2 hug
          omega
      | succ q ih =>
        intro u hq hu
        by_cases hug : u = nN F'
        · rw [hug]; omega
        · obtain ⟨b, v, k1, k2, k3, k4, k5⟩ := (w6 u hu (hall u hu)).2 hug
          have a := ih v (by omega) k1.2.1
          have a2 : w u - w v ≤ fb (F' 11) b := by
            have hu1 := k1.1
            have hv1 := k1.2.1
            unfold fb
            rcases k1.2.2 with h | h
            · rw [if_pos (by omega)]
              have a3 := arc b u h.1 hu (by omega) (by omega)
              rw [show tgt (F' 10) b u = v by unfold tgt; omega] at a3
              exact a3
            · rw [if_neg (by omega)]
              have en2 := R.1
              have eN := nN_eq R
              have a3 := Ex_eq T hW8 arc hV (v := b - 8) (p := v) (by omega) (by omega) h.2.2.2
              rw [show tgt (F' 10) (b - 8) v = u by unfold tgt; omega] at a3
              omega
          omega
    intro u hu
    have a := key (t u) u (Nat.le_refl _) (by omega)
    rw [enN] at a
    show w u ≤ F2 13 u - F2 13 _
    omega
end CLASS
end
