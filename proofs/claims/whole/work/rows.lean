section
-- ===== PART A: goes FIRST, ahead of the names: the tables' words, and 'selects' of the private methods out of them =====
/-- a private method of a class that the tables say can be made, by its rows of tables_1 -/
def lw_okq (q : MethodName × Nat) : Prop := (q.1.cls ≠ "java/lang/invoke/MethodHandle" ∧ q.1.cls ≠ "java/lang/invoke/VarHandle") ∧ Cond.instantiable q.1.cls q.2 ∈ tables_1 ∧ Cond.privateMethod q.1 ∈ tables_1 ∧ Cond.instanceMethod q.1 ∈ tables_1
theorem lw_p0 : lw_okq (⟨"BlottedFirst$Sheet", "renew", "()V"⟩, 3) := ⟨⟨by decide +kernel, by decide +kernel⟩, List.mem_of_getElem? (i := 59) (by decide +kernel), List.mem_of_getElem? (i := 65) (by decide +kernel), List.mem_of_getElem? (i := 66) (by decide +kernel)⟩
theorem lw_p1 : lw_okq (⟨"BlottedFirst$Sheet", "clean", "(I)V"⟩, 3) := ⟨⟨by decide +kernel, by decide +kernel⟩, List.mem_of_getElem? (i := 59) (by decide +kernel), List.mem_of_getElem? (i := 69) (by decide +kernel), List.mem_of_getElem? (i := 70) (by decide +kernel)⟩
theorem lw_p2 : lw_okq (⟨"BlottedFirst$Text", "append", "(I)Z"⟩, 2) := ⟨⟨by decide +kernel, by decide +kernel⟩, List.mem_of_getElem? (i := 21) (by decide +kernel), List.mem_of_getElem? (i := 186) (by decide +kernel), List.mem_of_getElem? (i := 187) (by decide +kernel)⟩
theorem lw_p3 : lw_okq (⟨"BlottedFirst$Text", "firstFault", "()I"⟩, 2) := ⟨⟨by decide +kernel, by decide +kernel⟩, List.mem_of_getElem? (i := 21) (by decide +kernel), List.mem_of_getElem? (i := 198) (by decide +kernel), List.mem_of_getElem? (i := 199) (by decide +kernel)⟩
theorem lw_p4 : lw_okq (⟨"BlottedFirst$Text", "isRight", "(I)Z"⟩, 2) := ⟨⟨by decide +kernel, by decide +kernel⟩, List.mem_of_getElem? (i := 21) (by decide +kernel), List.mem_of_getElem? (i := 202) (by decide +kernel), List.mem_of_getElem? (i := 203) (by decide +kernel)⟩
theorem lw_p5 : lw_okq (⟨"BlottedFirst$Text", "byteAt", "(I)I"⟩, 2) := ⟨⟨by decide +kernel, by decide +kernel⟩, List.mem_of_getElem? (i := 21) (by decide +kernel), List.mem_of_getElem? (i := 206) (by decide +kernel), List.mem_of_getElem? (i := 207) (by decide +kernel)⟩
theorem lw_p6 : lw_okq (⟨"BlottedFirst$Text", "isFigure", "(III)Z"⟩, 2) := ⟨⟨by decide +kernel, by decide +kernel⟩, List.mem_of_getElem? (i := 21) (by decide +kernel), List.mem_of_getElem? (i := 210) (by decide +kernel), List.mem_of_getElem? (i := 211) (by decide +kernel)⟩
theorem lw_p7 : lw_okq (⟨"BlottedFirst$Text", "figureAt", "(I)I"⟩, 2) := ⟨⟨by decide +kernel, by decide +kernel⟩, List.mem_of_getElem? (i := 21) (by decide +kernel), List.mem_of_getElem? (i := 214) (by decide +kernel), List.mem_of_getElem? (i := 215) (by decide +kernel)⟩
theorem lw_p8 : lw_okq (⟨"BlottedFirst", "readLetters", "()V"⟩, 9) := ⟨⟨by decide +kernel, by decide +kernel⟩, List.mem_of_getElem? (i := 13) (by decide +kernel), List.mem_of_getElem? (i := 222) (by decide +kernel), List.mem_of_getElem? (i := 223) (by decide +kernel)⟩
theorem lw_p9 : lw_okq (⟨"BlottedFirst$Letters", "add", "(IIII)V"⟩, 5) := ⟨⟨by decide +kernel, by decide +kernel⟩, List.mem_of_getElem? (i := 36) (by decide +kernel), List.mem_of_getElem? (i := 227) (by decide +kernel), List.mem_of_getElem? (i := 228) (by decide +kernel)⟩
theorem lw_p10 : lw_okq (⟨"BlottedFirst$Acts", "forget", "()V"⟩, 3) := ⟨⟨by decide +kernel, by decide +kernel⟩, List.mem_of_getElem? (i := 89) (by decide +kernel), List.mem_of_getElem? (i := 238) (by decide +kernel), List.mem_of_getElem? (i := 239) (by decide +kernel)⟩
theorem lw_p11 : lw_okq (⟨"BlottedFirst$Slots", "forget", "()V"⟩, 2) := ⟨⟨by decide +kernel, by decide +kernel⟩, List.mem_of_getElem? (i := 129) (by decide +kernel), List.mem_of_getElem? (i := 242) (by decide +kernel), List.mem_of_getElem? (i := 243) (by decide +kernel)⟩
theorem lw_p12 : lw_okq (⟨"BlottedFirst$Sheet", "shownIn", "(I)I"⟩, 3) := ⟨⟨by decide +kernel, by decide +kernel⟩, List.mem_of_getElem? (i := 59) (by decide +kernel), List.mem_of_getElem? (i := 250) (by decide +kernel), List.mem_of_getElem? (i := 251) (by decide +kernel)⟩
theorem lw_p13 : lw_okq (⟨"BlottedFirst$Sheet", "allInk", "()I"⟩, 3) := ⟨⟨by decide +kernel, by decide +kernel⟩, List.mem_of_getElem? (i := 59) (by decide +kernel), List.mem_of_getElem? (i := 254) (by decide +kernel), List.mem_of_getElem? (i := 255) (by decide +kernel)⟩
theorem lw_p14 : lw_okq (⟨"BlottedFirst$Letters", "readable", "(I)I"⟩, 5) := ⟨⟨by decide +kernel, by decide +kernel⟩, List.mem_of_getElem? (i := 36) (by decide +kernel), List.mem_of_getElem? (i := 258) (by decide +kernel), List.mem_of_getElem? (i := 259) (by decide +kernel)⟩
theorem lw_p15 : lw_okq (⟨"BlottedFirst$Letters", "canBeRead", "(II)Z"⟩, 5) := ⟨⟨by decide +kernel, by decide +kernel⟩, List.mem_of_getElem? (i := 36) (by decide +kernel), List.mem_of_getElem? (i := 262) (by decide +kernel), List.mem_of_getElem? (i := 263) (by decide +kernel)⟩
def lw_privs_1 : List (MethodName × Nat) := [(⟨"BlottedFirst$Sheet", "renew", "()V"⟩, 3), (⟨"BlottedFirst$Sheet", "clean", "(I)V"⟩, 3), (⟨"BlottedFirst$Text", "append", "(I)Z"⟩, 2), (⟨"BlottedFirst$Text", "firstFault", "()I"⟩, 2), (⟨"BlottedFirst$Text", "isRight", "(I)Z"⟩, 2), (⟨"BlottedFirst$Text", "byteAt", "(I)I"⟩, 2), (⟨"BlottedFirst$Text", "isFigure", "(III)Z"⟩, 2), (⟨"BlottedFirst$Text", "figureAt", "(I)I"⟩, 2), (⟨"BlottedFirst", "readLetters", "()V"⟩, 9), (⟨"BlottedFirst$Letters", "add", "(IIII)V"⟩, 5), (⟨"BlottedFirst$Acts", "forget", "()V"⟩, 3), (⟨"BlottedFirst$Slots", "forget", "()V"⟩, 2), (⟨"BlottedFirst$Sheet", "shownIn", "(I)I"⟩, 3), (⟨"BlottedFirst$Sheet", "allInk", "()I"⟩, 3), (⟨"BlottedFirst$Letters", "readable", "(I)I"⟩, 5), (⟨"BlottedFirst$Letters", "canBeRead", "(II)Z"⟩, 5)]
theorem lw_r1 : ∀ q ∈ lw_privs_1, lw_okq q := List.forall_mem_cons.mpr ⟨lw_p0, List.forall_mem_cons.mpr ⟨lw_p1, List.forall_mem_cons.mpr ⟨lw_p2, List.forall_mem_cons.mpr ⟨lw_p3, List.forall_mem_cons.mpr ⟨lw_p4, List.forall_mem_cons.mpr ⟨lw_p5, List.forall_mem_cons.mpr ⟨lw_p6, List.forall_mem_cons.mpr ⟨lw_p7, List.forall_mem_cons.mpr ⟨lw_p8, List.forall_mem_cons.mpr ⟨lw_p9, List.forall_mem_cons.mpr ⟨lw_p10, List.forall_mem_cons.mpr ⟨lw_p11, List.forall_mem_cons.mpr ⟨lw_p12, List.forall_mem_cons.mpr ⟨lw_p13, List.forall_mem_cons.mpr ⟨lw_p14, List.forall_mem_cons.mpr ⟨lw_p15, fun _ h => absurd h List.not_mem_nil⟩⟩⟩⟩⟩⟩⟩⟩⟩⟩⟩⟩⟩⟩⟩⟩
theorem lw_p16 : lw_okq (⟨"BlottedFirst$Letters", "has", "(I)Z"⟩, 5) := ⟨⟨by decide +kernel, by decide +kernel⟩, List.mem_of_getElem? (i := 36) (by decide +kernel), List.mem_of_getElem? (i := 266) (by decide +kernel), List.mem_of_getElem? (i := 267) (by decide +kernel)⟩
theorem lw_p17 : lw_okq (⟨"BlottedFirst$Sheet", "onTop", "()I"⟩, 3) := ⟨⟨by decide +kernel, by decide +kernel⟩, List.mem_of_getElem? (i := 59) (by decide +kernel), List.mem_of_getElem? (i := 270) (by decide +kernel), List.mem_of_getElem? (i := 271) (by decide +kernel)⟩
theorem lw_p18 : lw_okq (⟨"BlottedFirst$Letters", "placeOf", "(I)I"⟩, 5) := ⟨⟨by decide +kernel, by decide +kernel⟩, List.mem_of_getElem? (i := 36) (by decide +kernel), List.mem_of_getElem? (i := 279) (by decide +kernel), List.mem_of_getElem? (i := 280) (by decide +kernel)⟩
theorem lw_p19 : lw_okq (⟨"BlottedFirst$Letters", "handOf", "(I)I"⟩, 5) := ⟨⟨by decide +kernel, by decide +kernel⟩, List.mem_of_getElem? (i := 36) (by decide +kernel), List.mem_of_getElem? (i := 283) (by decide +kernel), List.mem_of_getElem? (i := 284) (by decide +kernel)⟩
theorem lw_p20 : lw_okq (⟨"BlottedFirst$Letters", "forceOf", "(I)I"⟩, 5) := ⟨⟨by decide +kernel, by decide +kernel⟩, List.mem_of_getElem? (i := 36) (by decide +kernel), List.mem_of_getElem? (i := 287) (by decide +kernel), List.mem_of_getElem? (i := 288) (by decide +kernel)⟩
theorem lw_p21 : lw_okq (⟨"BlottedFirst$Letters", "cellsOf", "(I)I"⟩, 5) := ⟨⟨by decide +kernel, by decide +kernel⟩, List.mem_of_getElem? (i := 36) (by decide +kernel), List.mem_of_getElem? (i := 291) (by decide +kernel), List.mem_of_getElem? (i := 292) (by decide +kernel)⟩
theorem lw_p22 : lw_okq (⟨"BlottedFirst$Sheet", "inkAt", "(I)I"⟩, 3) := ⟨⟨by decide +kernel, by decide +kernel⟩, List.mem_of_getElem? (i := 59) (by decide +kernel), List.mem_of_getElem? (i := 301) (by decide +kernel), List.mem_of_getElem? (i := 302) (by decide +kernel)⟩
theorem lw_p23 : lw_okq (⟨"BlottedFirst$Sheet", "topAt", "(I)I"⟩, 3) := ⟨⟨by decide +kernel, by decide +kernel⟩, List.mem_of_getElem? (i := 59) (by decide +kernel), List.mem_of_getElem? (i := 305) (by decide +kernel), List.mem_of_getElem? (i := 306) (by decide +kernel)⟩
theorem lw_p24 : lw_okq (⟨"BlottedFirst$Acts", "remember", "(LBlottedFirst$Sheet;)V"⟩, 3) := ⟨⟨by decide +kernel, by decide +kernel⟩, List.mem_of_getElem? (i := 89) (by decide +kernel), List.mem_of_getElem? (i := 313) (by decide +kernel), List.mem_of_getElem? (i := 314) (by decide +kernel)⟩
theorem lw_p25 : lw_okq (⟨"BlottedFirst$Acts", "sheetAt", "(I)LBlottedFirst$Sheet;"⟩, 3) := ⟨⟨by decide +kernel, by decide +kernel⟩, List.mem_of_getElem? (i := 89) (by decide +kernel), List.mem_of_getElem? (i := 317) (by decide +kernel), List.mem_of_getElem? (i := 318) (by decide +kernel)⟩
theorem lw_p26 : lw_okq (⟨"BlottedFirst$Sheet", "addInk", "(III)V"⟩, 3) := ⟨⟨by decide +kernel, by decide +kernel⟩, List.mem_of_getElem? (i := 59) (by decide +kernel), List.mem_of_getElem? (i := 324) (by decide +kernel), List.mem_of_getElem? (i := 325) (by decide +kernel)⟩
theorem lw_p27 : lw_okq (⟨"BlottedFirst$Sheet", "dry", "()V"⟩, 3) := ⟨⟨by decide +kernel, by decide +kernel⟩, List.mem_of_getElem? (i := 59) (by decide +kernel), List.mem_of_getElem? (i := 341) (by decide +kernel), List.mem_of_getElem? (i := 342) (by decide +kernel)⟩
theorem lw_p28 : lw_okq (⟨"BlottedFirst$Acts", "takeBack", "(LBlottedFirst$Sheet;)Z"⟩, 3) := ⟨⟨by decide +kernel, by decide +kernel⟩, List.mem_of_getElem? (i := 89) (by decide +kernel), List.mem_of_getElem? (i := 358) (by decide +kernel), List.mem_of_getElem? (i := 359) (by decide +kernel)⟩
theorem lw_p29 : lw_okq (⟨"BlottedFirst$Letters", "all", "()I"⟩, 5) := ⟨⟨by decide +kernel, by decide +kernel⟩, List.mem_of_getElem? (i := 36) (by decide +kernel), List.mem_of_getElem? (i := 374) (by decide +kernel), List.mem_of_getElem? (i := 375) (by decide +kernel)⟩
theorem lw_p30 : lw_okq (⟨"BlottedFirst$Letters", "shownBy", "(I)I"⟩, 5) := ⟨⟨by decide +kernel, by decide +kernel⟩, List.mem_of_getElem? (i := 36) (by decide +kernel), List.mem_of_getElem? (i := 378) (by decide +kernel), List.mem_of_getElem? (i := 379) (by decide +kernel)⟩
theorem lw_p31 : lw_okq (⟨"BlottedFirst", "keepsMore", "(II)Z"⟩, 9) := ⟨⟨by decide +kernel, by decide +kernel⟩, List.mem_of_getElem? (i := 13) (by decide +kernel), List.mem_of_getElem? (i := 395) (by decide +kernel), List.mem_of_getElem? (i := 396) (by decide +kernel)⟩
def lw_privs_2 : List (MethodName × Nat) := [(⟨"BlottedFirst$Letters", "has", "(I)Z"⟩, 5), (⟨"BlottedFirst$Sheet", "onTop", "()I"⟩, 3), (⟨"BlottedFirst$Letters", "placeOf", "(I)I"⟩, 5), (⟨"BlottedFirst$Letters", "handOf", "(I)I"⟩, 5), (⟨"BlottedFirst$Letters", "forceOf", "(I)I"⟩, 5), (⟨"BlottedFirst$Letters", "cellsOf", "(I)I"⟩, 5), (⟨"BlottedFirst$Sheet", "inkAt", "(I)I"⟩, 3), (⟨"BlottedFirst$Sheet", "topAt", "(I)I"⟩, 3), (⟨"BlottedFirst$Acts", "remember", "(LBlottedFirst$Sheet;)V"⟩, 3), (⟨"BlottedFirst$Acts", "sheetAt", "(I)LBlottedFirst$Sheet;"⟩, 3), (⟨"BlottedFirst$Sheet", "addInk", "(III)V"⟩, 3), (⟨"BlottedFirst$Sheet", "dry", "()V"⟩, 3), (⟨"BlottedFirst$Acts", "takeBack", "(LBlottedFirst$Sheet;)Z"⟩, 3), (⟨"BlottedFirst$Letters", "all", "()I"⟩, 5), (⟨"BlottedFirst$Letters", "shownBy", "(I)I"⟩, 5), (⟨"BlottedFirst", "keepsMore", "(II)Z"⟩, 9)]
theorem lw_r2 : ∀ q ∈ lw_privs_2, lw_okq q := List.forall_mem_cons.mpr ⟨lw_p16, List.forall_mem_cons.mpr ⟨lw_p17, List.forall_mem_cons.mpr ⟨lw_p18, List.forall_mem_cons.mpr ⟨lw_p19, List.forall_mem_cons.mpr ⟨lw_p20, List.forall_mem_cons.mpr ⟨lw_p21, List.forall_mem_cons.mpr ⟨lw_p22, List.forall_mem_cons.mpr ⟨lw_p23, List.forall_mem_cons.mpr ⟨lw_p24, List.forall_mem_cons.mpr ⟨lw_p25, List.forall_mem_cons.mpr ⟨lw_p26, List.forall_mem_cons.mpr ⟨lw_p27, List.forall_mem_cons.mpr ⟨lw_p28, List.forall_mem_cons.mpr ⟨lw_p29, List.forall_mem_cons.mpr ⟨lw_p30, List.forall_mem_cons.mpr ⟨lw_p31, fun _ h => absurd h List.not_mem_nil⟩⟩⟩⟩⟩⟩⟩⟩⟩⟩⟩⟩⟩⟩⟩⟩
theorem lw_p32 : lw_okq (⟨"BlottedFirst", "readOf", "(I)I"⟩, 9) := ⟨⟨by decide +kernel, by decide +kernel⟩, List.mem_of_getElem? (i := 13) (by decide +kernel), List.mem_of_getElem? (i := 399) (by decide +kernel), List.mem_of_getElem? (i := 400) (by decide +kernel)⟩
theorem lw_p33 : lw_okq (⟨"BlottedFirst$Times", "start", "()V"⟩, 1) := ⟨⟨by decide +kernel, by decide +kernel⟩, List.mem_of_getElem? (i := 144) (by decide +kernel), List.mem_of_getElem? (i := 407) (by decide +kernel), List.mem_of_getElem? (i := 408) (by decide +kernel)⟩
theorem lw_p34 : lw_okq (⟨"BlottedFirst", "timesGiveTheInk", "()Z"⟩, 9) := ⟨⟨by decide +kernel, by decide +kernel⟩, List.mem_of_getElem? (i := 13) (by decide +kernel), List.mem_of_getElem? (i := 414) (by decide +kernel), List.mem_of_getElem? (i := 415) (by decide +kernel)⟩
theorem lw_p35 : lw_okq (⟨"BlottedFirst", "inkByTimes", "(I)I"⟩, 9) := ⟨⟨by decide +kernel, by decide +kernel⟩, List.mem_of_getElem? (i := 13) (by decide +kernel), List.mem_of_getElem? (i := 418) (by decide +kernel), List.mem_of_getElem? (i := 419) (by decide +kernel)⟩
theorem lw_p36 : lw_okq (⟨"BlottedFirst$Times", "howOften", "(I)I"⟩, 1) := ⟨⟨by decide +kernel, by decide +kernel⟩, List.mem_of_getElem? (i := 144) (by decide +kernel), List.mem_of_getElem? (i := 422) (by decide +kernel), List.mem_of_getElem? (i := 423) (by decide +kernel)⟩
theorem lw_p37 : lw_okq (⟨"BlottedFirst$Times", "lettersThere", "(I)I"⟩, 1) := ⟨⟨by decide +kernel, by decide +kernel⟩, List.mem_of_getElem? (i := 144) (by decide +kernel), List.mem_of_getElem? (i := 427) (by decide +kernel), List.mem_of_getElem? (i := 428) (by decide +kernel)⟩
theorem lw_p38 : lw_okq (⟨"BlottedFirst$Times", "next", "()V"⟩, 1) := ⟨⟨by decide +kernel, by decide +kernel⟩, List.mem_of_getElem? (i := 144) (by decide +kernel), List.mem_of_getElem? (i := 431) (by decide +kernel), List.mem_of_getElem? (i := 432) (by decide +kernel)⟩
theorem lw_p39 : lw_okq (⟨"BlottedFirst", "leastThird", "(II)I"⟩, 9) := ⟨⟨by decide +kernel, by decide +kernel⟩, List.mem_of_getElem? (i := 13) (by decide +kernel), List.mem_of_getElem? (i := 439) (by decide +kernel), List.mem_of_getElem? (i := 440) (by decide +kernel)⟩
theorem lw_p40 : lw_okq (⟨"BlottedFirst$Letters", "showing", "(I)I"⟩, 5) := ⟨⟨by decide +kernel, by decide +kernel⟩, List.mem_of_getElem? (i := 36) (by decide +kernel), List.mem_of_getElem? (i := 451) (by decide +kernel), List.mem_of_getElem? (i := 452) (by decide +kernel)⟩
theorem lw_p41 : lw_okq (⟨"BlottedFirst$Over", "add", "(II)Z"⟩, 4) := ⟨⟨by decide +kernel, by decide +kernel⟩, List.mem_of_getElem? (i := 109) (by decide +kernel), List.mem_of_getElem? (i := 466) (by decide +kernel), List.mem_of_getElem? (i := 467) (by decide +kernel)⟩
theorem lw_p42 : lw_okq (⟨"BlottedFirst$Over", "howManyOrders", "(I)I"⟩, 4) := ⟨⟨by decide +kernel, by decide +kernel⟩, List.mem_of_getElem? (i := 109) (by decide +kernel), List.mem_of_getElem? (i := 478) (by decide +kernel), List.mem_of_getElem? (i := 479) (by decide +kernel)⟩
theorem lw_p43 : lw_okq (⟨"BlottedFirst$Over", "canFollow", "(III)Z"⟩, 4) := ⟨⟨by decide +kernel, by decide +kernel⟩, List.mem_of_getElem? (i := 109) (by decide +kernel), List.mem_of_getElem? (i := 483) (by decide +kernel), List.mem_of_getElem? (i := 484) (by decide +kernel)⟩
theorem lw_p44 : lw_okq (⟨"BlottedFirst$Over", "setBelow", "(II)I"⟩, 4) := ⟨⟨by decide +kernel, by decide +kernel⟩, List.mem_of_getElem? (i := 109) (by decide +kernel), List.mem_of_getElem? (i := 487) (by decide +kernel), List.mem_of_getElem? (i := 488) (by decide +kernel)⟩
theorem lw_p45 : lw_okq (⟨"BlottedFirst$Over", "firstOrder", "(I)I"⟩, 4) := ⟨⟨by decide +kernel, by decide +kernel⟩, List.mem_of_getElem? (i := 109) (by decide +kernel), List.mem_of_getElem? (i := 491) (by decide +kernel), List.mem_of_getElem? (i := 492) (by decide +kernel)⟩
theorem lw_p46 : lw_okq (⟨"BlottedFirst$Over", "leastNext", "(II)I"⟩, 4) := ⟨⟨by decide +kernel, by decide +kernel⟩, List.mem_of_getElem? (i := 109) (by decide +kernel), List.mem_of_getElem? (i := 495) (by decide +kernel), List.mem_of_getElem? (i := 496) (by decide +kernel)⟩
theorem lw_p47 : lw_okq (⟨"BlottedFirst$Letters", "windowOf", "(I)I"⟩, 5) := ⟨⟨by decide +kernel, by decide +kernel⟩, List.mem_of_getElem? (i := 36) (by decide +kernel), List.mem_of_getElem? (i := 522) (by decide +kernel), List.mem_of_getElem? (i := 523) (by decide +kernel)⟩
def lw_privs_3 : List (MethodName × Nat) := [(⟨"BlottedFirst", "readOf", "(I)I"⟩, 9), (⟨"BlottedFirst$Times", "start", "()V"⟩, 1), (⟨"BlottedFirst", "timesGiveTheInk", "()Z"⟩, 9), (⟨"BlottedFirst", "inkByTimes", "(I)I"⟩, 9), (⟨"BlottedFirst$Times", "howOften", "(I)I"⟩, 1), (⟨"BlottedFirst$Times", "lettersThere", "(I)I"⟩, 1), (⟨"BlottedFirst$Times", "next", "()V"⟩, 1), (⟨"BlottedFirst", "leastThird", "(II)I"⟩, 9), (⟨"BlottedFirst$Letters", "showing", "(I)I"⟩, 5), (⟨"BlottedFirst$Over", "add", "(II)Z"⟩, 4), (⟨"BlottedFirst$Over", "howManyOrders", "(I)I"⟩, 4), (⟨"BlottedFirst$Over", "canFollow", "(III)Z"⟩, 4), (⟨"BlottedFirst$Over", "setBelow", "(II)I"⟩, 4), (⟨"BlottedFirst$Over", "firstOrder", "(I)I"⟩, 4), (⟨"BlottedFirst$Over", "leastNext", "(II)I"⟩, 4), (⟨"BlottedFirst$Letters", "windowOf", "(I)I"⟩, 5)]
theorem lw_r3 : ∀ q ∈ lw_privs_3, lw_okq q := List.forall_mem_cons.mpr ⟨lw_p32, List.forall_mem_cons.mpr ⟨lw_p33, List.forall_mem_cons.mpr ⟨lw_p34, List.forall_mem_cons.mpr ⟨lw_p35, List.forall_mem_cons.mpr ⟨lw_p36, List.forall_mem_cons.mpr ⟨lw_p37, List.forall_mem_cons.mpr ⟨lw_p38, List.forall_mem_cons.mpr ⟨lw_p39, List.forall_mem_cons.mpr ⟨lw_p40, List.forall_mem_cons.mpr ⟨lw_p41, List.forall_mem_cons.mpr ⟨lw_p42, List.forall_mem_cons.mpr ⟨lw_p43, List.forall_mem_cons.mpr ⟨lw_p44, List.forall_mem_cons.mpr ⟨lw_p45, List.forall_mem_cons.mpr ⟨lw_p46, List.forall_mem_cons.mpr ⟨lw_p47, fun _ h => absurd h List.not_mem_nil⟩⟩⟩⟩⟩⟩⟩⟩⟩⟩⟩⟩⟩⟩⟩⟩
theorem lw_p48 : lw_okq (⟨"BlottedFirst", "befall", "(I)V"⟩, 9) := ⟨⟨by decide +kernel, by decide +kernel⟩, List.mem_of_getElem? (i := 13) (by decide +kernel), List.mem_of_getElem? (i := 538) (by decide +kernel), List.mem_of_getElem? (i := 539) (by decide +kernel)⟩
theorem lw_p49 : lw_okq (⟨"BlottedFirst$Slots", "store", "(ILBlottedFirst$Sheet;)V"⟩, 2) := ⟨⟨by decide +kernel, by decide +kernel⟩, List.mem_of_getElem? (i := 129) (by decide +kernel), List.mem_of_getElem? (i := 546) (by decide +kernel), List.mem_of_getElem? (i := 547) (by decide +kernel)⟩
theorem lw_p50 : lw_okq (⟨"BlottedFirst$Slots", "load", "(ILBlottedFirst$Sheet;)Z"⟩, 2) := ⟨⟨by decide +kernel, by decide +kernel⟩, List.mem_of_getElem? (i := 129) (by decide +kernel), List.mem_of_getElem? (i := 555) (by decide +kernel), List.mem_of_getElem? (i := 556) (by decide +kernel)⟩
theorem lw_p51 : lw_okq (⟨"BlottedFirstModel", "readOffice", "()I"⟩, 27) := ⟨⟨by decide +kernel, by decide +kernel⟩, List.mem_of_getElem? (i := 559) (by decide +kernel), List.mem_of_getElem? (i := 667) (by decide +kernel), List.mem_of_getElem? (i := 668) (by decide +kernel)⟩
theorem lw_p52 : lw_okq (⟨"BlottedFirstModel", "figure", "(II)I"⟩, 27) := ⟨⟨by decide +kernel, by decide +kernel⟩, List.mem_of_getElem? (i := 559) (by decide +kernel), List.mem_of_getElem? (i := 671) (by decide +kernel), List.mem_of_getElem? (i := 672) (by decide +kernel)⟩
theorem lw_p53 : lw_okq (⟨"BlottedFirstModel", "readBy", "(I)I"⟩, 27) := ⟨⟨by decide +kernel, by decide +kernel⟩, List.mem_of_getElem? (i := 559) (by decide +kernel), List.mem_of_getElem? (i := 686) (by decide +kernel), List.mem_of_getElem? (i := 687) (by decide +kernel)⟩
theorem lw_p54 : lw_okq (⟨"BlottedFirstModel", "isRead", "(II)Z"⟩, 27) := ⟨⟨by decide +kernel, by decide +kernel⟩, List.mem_of_getElem? (i := 559) (by decide +kernel), List.mem_of_getElem? (i := 690) (by decide +kernel), List.mem_of_getElem? (i := 691) (by decide +kernel)⟩
theorem lw_p55 : lw_okq (⟨"BlottedFirstModel", "noLetter", "(I)Z"⟩, 27) := ⟨⟨by decide +kernel, by decide +kernel⟩, List.mem_of_getElem? (i := 559) (by decide +kernel), List.mem_of_getElem? (i := 698) (by decide +kernel), List.mem_of_getElem? (i := 699) (by decide +kernel)⟩
theorem lw_p56 : lw_okq (⟨"BlottedFirstModel", "note", "()V"⟩, 27) := ⟨⟨by decide +kernel, by decide +kernel⟩, List.mem_of_getElem? (i := 559) (by decide +kernel), List.mem_of_getElem? (i := 714) (by decide +kernel), List.mem_of_getElem? (i := 715) (by decide +kernel)⟩
theorem lw_p57 : lw_okq (⟨"BlottedFirstModel", "goPress", "([II)V"⟩, 27) := ⟨⟨by decide +kernel, by decide +kernel⟩, List.mem_of_getElem? (i := 559) (by decide +kernel), List.mem_of_getElem? (i := 718) (by decide +kernel), List.mem_of_getElem? (i := 719) (by decide +kernel)⟩
theorem lw_p58 : lw_okq (⟨"BlottedFirstModel", "shownIn", "(I)I"⟩, 27) := ⟨⟨by decide +kernel, by decide +kernel⟩, List.mem_of_getElem? (i := 559) (by decide +kernel), List.mem_of_getElem? (i := 752) (by decide +kernel), List.mem_of_getElem? (i := 753) (by decide +kernel)⟩
theorem lw_p59 : lw_okq (⟨"BlottedFirstModel", "everyone", "()I"⟩, 27) := ⟨⟨by decide +kernel, by decide +kernel⟩, List.mem_of_getElem? (i := 559) (by decide +kernel), List.mem_of_getElem? (i := 764) (by decide +kernel), List.mem_of_getElem? (i := 765) (by decide +kernel)⟩
theorem lw_p60 : lw_okq (⟨"BlottedFirstModel", "showsBy", "(I)I"⟩, 27) := ⟨⟨by decide +kernel, by decide +kernel⟩, List.mem_of_getElem? (i := 559) (by decide +kernel), List.mem_of_getElem? (i := 768) (by decide +kernel), List.mem_of_getElem? (i := 769) (by decide +kernel)⟩
theorem lw_p61 : lw_okq (⟨"BlottedFirstModel", "found", "(I)I"⟩, 27) := ⟨⟨by decide +kernel, by decide +kernel⟩, List.mem_of_getElem? (i := 559) (by decide +kernel), List.mem_of_getElem? (i := 777) (by decide +kernel), List.mem_of_getElem? (i := 778) (by decide +kernel)⟩
theorem lw_p62 : lw_okq (⟨"BlottedFirstModel", "isInk", "(I)Z"⟩, 27) := ⟨⟨by decide +kernel, by decide +kernel⟩, List.mem_of_getElem? (i := 559) (by decide +kernel), List.mem_of_getElem? (i := 792) (by decide +kernel), List.mem_of_getElem? (i := 793) (by decide +kernel)⟩
theorem lw_p63 : lw_okq (⟨"BlottedFirstModel", "isOver", "()Z"⟩, 27) := ⟨⟨by decide +kernel, by decide +kernel⟩, List.mem_of_getElem? (i := 559) (by decide +kernel), List.mem_of_getElem? (i := 830) (by decide +kernel), List.mem_of_getElem? (i := 831) (by decide +kernel)⟩
def lw_privs_4 : List (MethodName × Nat) := [(⟨"BlottedFirst", "befall", "(I)V"⟩, 9), (⟨"BlottedFirst$Slots", "store", "(ILBlottedFirst$Sheet;)V"⟩, 2), (⟨"BlottedFirst$Slots", "load", "(ILBlottedFirst$Sheet;)Z"⟩, 2), (⟨"BlottedFirstModel", "readOffice", "()I"⟩, 27), (⟨"BlottedFirstModel", "figure", "(II)I"⟩, 27), (⟨"BlottedFirstModel", "readBy", "(I)I"⟩, 27), (⟨"BlottedFirstModel", "isRead", "(II)Z"⟩, 27), (⟨"BlottedFirstModel", "noLetter", "(I)Z"⟩, 27), (⟨"BlottedFirstModel", "note", "()V"⟩, 27), (⟨"BlottedFirstModel", "goPress", "([II)V"⟩, 27), (⟨"BlottedFirstModel", "shownIn", "(I)I"⟩, 27), (⟨"BlottedFirstModel", "everyone", "()I"⟩, 27), (⟨"BlottedFirstModel", "showsBy", "(I)I"⟩, 27), (⟨"BlottedFirstModel", "found", "(I)I"⟩, 27), (⟨"BlottedFirstModel", "isInk", "(I)Z"⟩, 27), (⟨"BlottedFirstModel", "isOver", "()Z"⟩, 27)]
theorem lw_r4 : ∀ q ∈ lw_privs_4, lw_okq q := List.forall_mem_cons.mpr ⟨lw_p48, List.forall_mem_cons.mpr ⟨lw_p49, List.forall_mem_cons.mpr ⟨lw_p50, List.forall_mem_cons.mpr ⟨lw_p51, List.forall_mem_cons.mpr ⟨lw_p52, List.forall_mem_cons.mpr ⟨lw_p53, List.forall_mem_cons.mpr ⟨lw_p54, List.forall_mem_cons.mpr ⟨lw_p55, List.forall_mem_cons.mpr ⟨lw_p56, List.forall_mem_cons.mpr ⟨lw_p57, List.forall_mem_cons.mpr ⟨lw_p58, List.forall_mem_cons.mpr ⟨lw_p59, List.forall_mem_cons.mpr ⟨lw_p60, List.forall_mem_cons.mpr ⟨lw_p61, List.forall_mem_cons.mpr ⟨lw_p62, List.forall_mem_cons.mpr ⟨lw_p63, fun _ h => absurd h List.not_mem_nil⟩⟩⟩⟩⟩⟩⟩⟩⟩⟩⟩⟩⟩⟩⟩⟩
theorem lw_p64 : lw_okq (⟨"BlottedFirstModel", "placeOf", "(I)I"⟩, 27) := ⟨⟨by decide +kernel, by decide +kernel⟩, List.mem_of_getElem? (i := 559) (by decide +kernel), List.mem_of_getElem? (i := 834) (by decide +kernel), List.mem_of_getElem? (i := 835) (by decide +kernel)⟩
theorem lw_p65 : lw_okq (⟨"BlottedFirstModel", "goOrder", "()Z"⟩, 27) := ⟨⟨by decide +kernel, by decide +kernel⟩, List.mem_of_getElem? (i := 559) (by decide +kernel), List.mem_of_getElem? (i := 838) (by decide +kernel), List.mem_of_getElem? (i := 839) (by decide +kernel)⟩
def lw_privs_5 : List (MethodName × Nat) := [(⟨"BlottedFirstModel", "placeOf", "(I)I"⟩, 27), (⟨"BlottedFirstModel", "goOrder", "()Z"⟩, 27)]
theorem lw_r5 : ∀ q ∈ lw_privs_5, lw_okq q := List.forall_mem_cons.mpr ⟨lw_p64, List.forall_mem_cons.mpr ⟨lw_p65, fun _ h => absurd h List.not_mem_nil⟩⟩
def lw_privs : List (MethodName × Nat) := lw_privs_1 ++ (lw_privs_2 ++ (lw_privs_3 ++ (lw_privs_4 ++ (lw_privs_5))))
def lw_tbl : List Cond := k2_sels lw_privs ++ tables_1
theorem lw_privs_ok : ∀ q ∈ lw_privs, lw_okq q := by
  show ∀ q ∈ lw_privs_1 ++ (lw_privs_2 ++ (lw_privs_3 ++ (lw_privs_4 ++ (lw_privs_5)))), lw_okq q
  exact List.forall_mem_append.mpr ⟨lw_r1, List.forall_mem_append.mpr ⟨lw_r2, List.forall_mem_append.mpr ⟨lw_r3, List.forall_mem_append.mpr ⟨lw_r4, lw_r5⟩⟩⟩⟩
end
section
theorem goodIn_r {big : List Cond} (ws : List Cond) (ps : List Nat) (hp : ws = ps.filterMap (fun i => big[i]?)) (h : ws.all goodWord = true) : GoodIn big ws := by
  intro w hw
  have h1 := List.all_eq_true.mp h w hw
  rw [hp] at hw
  obtain ⟨i, -, hi⟩ := List.mem_filterMap.mp hw
  have hm : w ∈ big := by first | exact List.mem_of_getElem? hi | exact List.getElem?_mem hi
  exact ⟨hm, good_of_word h1⟩
theorem goodIn_app {big a b : List Cond} (ha : GoodIn big a) (hb : GoodIn big b) : GoodIn big (a ++ b) := fun w h => (List.mem_append.mp h).elim (ha w) (hb w)
theorem goodIn_ca {big a b : List Cond} {c : Cond} (ha : GoodIn big (c :: a)) (hb : GoodIn big b) : GoodIn big (c :: (a ++ b)) := fun w h => (List.mem_cons.mp h).elim (fun e => ha w (List.mem_cons.mpr (Or.inl e))) (fun h => (List.mem_append.mp h).elim (fun h => ha w (List.mem_cons.mpr (Or.inr h))) (hb w))
theorem goodIn_sub {big ws : List Cond} (hm : ∀ w ∈ ws, w ∈ big) (h : ws.all goodWord = true) : GoodIn big ws := fun w hw => ⟨hm w hw, good_of_word (List.all_eq_true.mp h w hw)⟩
def RX0 : String := "BlottedFirst$Acts"
def TX0 : u_T := fun k => match k with
  | 0 => ("BlottedFirst$Acts", "before", "[LBlottedFirst$Sheet;", true)
  | 1 => ("BlottedFirst$Acts", "first", "I", false)
  | _ => ("BlottedFirst$Acts", "count", "I", false)
def tyX0 : Nat → FieldType := fun k => match k with
  | 0 => .array (.object "BlottedFirst$Sheet")
  | 1 => .int
  | _ => .int
abbrev wsX00 : List Cond := u_ws RX0 TX0 3
theorem nmX0 : ∀ a, a < 3 → ∀ b, b < 3 → a ≠ b → (TX0 a).2.1 ≠ (TX0 b).2.1 := by decide +kernel
theorem tyX0_ok : ∀ k, k < 3 → parseFieldDescriptor (TX0 k).2.2.1 = some (tyX0 k) := by decide +kernel
abbrev cX0_init : ByteArray := prog_2_method_1_code
def yX0_init : MethodName := ⟨RX0, "<init>", "()V"⟩
abbrev cX0_forget : ByteArray := prog_2_method_2_code
def yX0_forget : MethodName := ⟨RX0, "forget", "()V"⟩
abbrev cX0_remember : ByteArray := prog_2_method_3_code
def yX0_remember : MethodName := ⟨RX0, "remember", "(LBlottedFirst$Sheet;)V"⟩
abbrev cX0_takeBack : ByteArray := prog_2_method_4_code
def yX0_takeBack : MethodName := ⟨RX0, "takeBack", "(LBlottedFirst$Sheet;)Z"⟩
abbrev cX0_sheetAt : ByteArray := prog_2_method_5_code
def yX0_sheetAt : MethodName := ⟨RX0, "sheetAt", "(I)LBlottedFirst$Sheet;"⟩
def RX1 : String := "BlottedFirst$Letters"
def TX1 : u_T := fun k => match k with
  | 0 => ("BlottedFirst$Letters", "place", "[I", true)
  | 1 => ("BlottedFirst$Letters", "hand", "[I", true)
  | 2 => ("BlottedFirst$Letters", "force", "[I", true)
  | 3 => ("BlottedFirst$Letters", "cells", "[I", true)
  | _ => ("BlottedFirst$Letters", "count", "I", false)
def tyX1 : Nat → FieldType := fun k => match k with
  | 0 => .array .int
  | 1 => .array .int
  | 2 => .array .int
  | 3 => .array .int
  | _ => .int
abbrev wsX10 : List Cond := u_ws RX1 TX1 5
theorem nmX1 : ∀ a, a < 5 → ∀ b, b < 5 → a ≠ b → (TX1 a).2.1 ≠ (TX1 b).2.1 := by decide +kernel
theorem tyX1_ok : ∀ k, k < 5 → parseFieldDescriptor (TX1 k).2.2.1 = some (tyX1 k) := by decide +kernel
abbrev cX1_init : ByteArray := prog_3_method_1_code
def yX1_init : MethodName := ⟨RX1, "<init>", "()V"⟩
abbrev cX1_add : ByteArray := prog_3_method_2_code
def yX1_add : MethodName := ⟨RX1, "add", "(IIII)V"⟩
abbrev cX1_forceBy : ByteArray := prog_3_method_3_code
def yX1_forceBy : MethodName := ⟨RX1, "forceBy", "(II)I"⟩
abbrev cX1_marksBy : ByteArray := prog_3_method_4_code
def yX1_marksBy : MethodName := ⟨RX1, "marksBy", "(II)I"⟩
abbrev cX1_has : ByteArray := prog_3_method_5_code
def yX1_has : MethodName := ⟨RX1, "has", "(I)Z"⟩
abbrev cX1_all : ByteArray := prog_3_method_6_code
def yX1_all : MethodName := ⟨RX1, "all", "()I"⟩
abbrev cX1_placeOf : ByteArray := prog_3_method_7_code
def yX1_placeOf : MethodName := ⟨RX1, "placeOf", "(I)I"⟩
abbrev cX1_handOf : ByteArray := prog_3_method_8_code
def yX1_handOf : MethodName := ⟨RX1, "handOf", "(I)I"⟩
abbrev cX1_forceOf : ByteArray := prog_3_method_9_code
def yX1_forceOf : MethodName := ⟨RX1, "forceOf", "(I)I"⟩
abbrev cX1_cellsOf : ByteArray := prog_3_method_10_code
def yX1_cellsOf : MethodName := ⟨RX1, "cellsOf", "(I)I"⟩
abbrev cX1_windowOf : ByteArray := prog_3_method_11_code
def yX1_windowOf : MethodName := ⟨RX1, "windowOf", "(I)I"⟩
abbrev cX1_canBeRead : ByteArray := prog_3_method_12_code
def yX1_canBeRead : MethodName := ⟨RX1, "canBeRead", "(II)Z"⟩
abbrev cX1_readable : ByteArray := prog_3_method_13_code
def yX1_readable : MethodName := ⟨RX1, "readable", "(I)I"⟩
abbrev cX1_shownBy : ByteArray := prog_3_method_14_code
def yX1_shownBy : MethodName := ⟨RX1, "shownBy", "(I)I"⟩
abbrev cX1_showing : ByteArray := prog_3_method_15_code
def yX1_showing : MethodName := ⟨RX1, "showing", "(I)I"⟩
def RX2 : String := "BlottedFirst$Over"
def TX2 : u_T := fun k => match k with
  | 0 => ("BlottedFirst$Over", "upper", "[I", true)
  | 1 => ("BlottedFirst$Over", "lower", "[I", true)
  | 2 => ("BlottedFirst$Over", "ways", "[I", true)
  | _ => ("BlottedFirst$Over", "count", "I", false)
def tyX2 : Nat → FieldType := fun k => match k with
  | 0 => .array .int
  | 1 => .array .int
  | 2 => .array .int
  | _ => .int
abbrev wsX20 : List Cond := u_ws RX2 TX2 4
theorem nmX2 : ∀ a, a < 4 → ∀ b, b < 4 → a ≠ b → (TX2 a).2.1 ≠ (TX2 b).2.1 := by decide +kernel
theorem tyX2_ok : ∀ k, k < 4 → parseFieldDescriptor (TX2 k).2.2.1 = some (tyX2 k) := by decide +kernel
abbrev cX2_init : ByteArray := prog_4_method_1_code
def yX2_init : MethodName := ⟨RX2, "<init>", "()V"⟩
abbrev cX2_add : ByteArray := prog_4_method_2_code
def yX2_add : MethodName := ⟨RX2, "add", "(II)Z"⟩
abbrev cX2_setBelow : ByteArray := prog_4_method_3_code
def yX2_setBelow : MethodName := ⟨RX2, "setBelow", "(II)I"⟩
abbrev cX2_canFollow : ByteArray := prog_4_method_4_code
def yX2_canFollow : MethodName := ⟨RX2, "canFollow", "(III)Z"⟩
abbrev cX2_howManyOrders : ByteArray := prog_4_method_5_code
def yX2_howManyOrders : MethodName := ⟨RX2, "howManyOrders", "(I)I"⟩
abbrev cX2_firstOrder : ByteArray := prog_4_method_6_code
def yX2_firstOrder : MethodName := ⟨RX2, "firstOrder", "(I)I"⟩
abbrev cX2_leastNext : ByteArray := prog_4_method_7_code
def yX2_leastNext : MethodName := ⟨RX2, "leastNext", "(II)I"⟩
def RX3 : String := "BlottedFirst$Sheet"
def TX3 : u_T := fun k => match k with
  | 0 => ("BlottedFirst$Sheet", "ink", "[I", true)
  | 1 => ("BlottedFirst$Sheet", "top", "[I", true)
  | _ => ("BlottedFirst$Sheet", "date", "I", false)
def tyX3 : Nat → FieldType := fun k => match k with
  | 0 => .array .int
  | 1 => .array .int
  | _ => .int
abbrev wsX30 : List Cond := u_ws RX3 TX3 3
theorem nmX3 : ∀ a, a < 3 → ∀ b, b < 3 → a ≠ b → (TX3 a).2.1 ≠ (TX3 b).2.1 := by decide +kernel
theorem tyX3_ok : ∀ k, k < 3 → parseFieldDescriptor (TX3 k).2.2.1 = some (tyX3 k) := by decide +kernel
abbrev cX3_init : ByteArray := prog_5_method_1_code
def yX3_init : MethodName := ⟨RX3, "<init>", "()V"⟩
abbrev cX3_renew : ByteArray := prog_5_method_2_code
def yX3_renew : MethodName := ⟨RX3, "renew", "()V"⟩
abbrev cX3_clean : ByteArray := prog_5_method_3_code
def yX3_clean : MethodName := ⟨RX3, "clean", "(I)V"⟩
abbrev cX3_addInk : ByteArray := prog_5_method_4_code
def yX3_addInk : MethodName := ⟨RX3, "addInk", "(III)V"⟩
abbrev cX3_dry : ByteArray := prog_5_method_5_code
def yX3_dry : MethodName := ⟨RX3, "dry", "()V"⟩
abbrev cX3_inkAt : ByteArray := prog_5_method_6_code
def yX3_inkAt : MethodName := ⟨RX3, "inkAt", "(I)I"⟩
abbrev cX3_topAt : ByteArray := prog_5_method_7_code
def yX3_topAt : MethodName := ⟨RX3, "topAt", "(I)I"⟩
abbrev cX3_shownIn : ByteArray := prog_5_method_8_code
def yX3_shownIn : MethodName := ⟨RX3, "shownIn", "(I)I"⟩
abbrev cX3_allInk : ByteArray := prog_5_method_9_code
def yX3_allInk : MethodName := ⟨RX3, "allInk", "()I"⟩
abbrev cX3_onTop : ByteArray := prog_5_method_10_code
def yX3_onTop : MethodName := ⟨RX3, "onTop", "()I"⟩
def RX4 : String := "BlottedFirst$Slots"
def TX4 : u_T := fun k => match k with
  | 0 => ("BlottedFirst$Slots", "kept", "[LBlottedFirst$Sheet;", true)
  | _ => ("BlottedFirst$Slots", "filled", "I", false)
def tyX4 : Nat → FieldType := fun k => match k with
  | 0 => .array (.object "BlottedFirst$Sheet")
  | _ => .int
abbrev wsX40 : List Cond := u_ws RX4 TX4 2
theorem nmX4 : ∀ a, a < 2 → ∀ b, b < 2 → a ≠ b → (TX4 a).2.1 ≠ (TX4 b).2.1 := by decide +kernel
theorem tyX4_ok : ∀ k, k < 2 → parseFieldDescriptor (TX4 k).2.2.1 = some (tyX4 k) := by decide +kernel
abbrev cX4_init : ByteArray := prog_6_method_1_code
def yX4_init : MethodName := ⟨RX4, "<init>", "()V"⟩
abbrev cX4_forget : ByteArray := prog_6_method_2_code
def yX4_forget : MethodName := ⟨RX4, "forget", "()V"⟩
abbrev cX4_store : ByteArray := prog_6_method_3_code
def yX4_store : MethodName := ⟨RX4, "store", "(ILBlottedFirst$Sheet;)V"⟩
abbrev cX4_load : ByteArray := prog_6_method_4_code
def yX4_load : MethodName := ⟨RX4, "load", "(ILBlottedFirst$Sheet;)Z"⟩
def RX5 : String := "BlottedFirst$Text"
def TX5 : u_T := fun k => match k with
  | 0 => ("BlottedFirst$Text", "bytes", "[I", true)
  | _ => ("BlottedFirst$Text", "length", "I", false)
def tyX5 : Nat → FieldType := fun k => match k with
  | 0 => .array .int
  | _ => .int
abbrev wsX50 : List Cond := u_ws RX5 TX5 2
theorem nmX5 : ∀ a, a < 2 → ∀ b, b < 2 → a ≠ b → (TX5 a).2.1 ≠ (TX5 b).2.1 := by decide +kernel
theorem tyX5_ok : ∀ k, k < 2 → parseFieldDescriptor (TX5 k).2.2.1 = some (tyX5 k) := by decide +kernel
abbrev cX5_init : ByteArray := prog_7_method_1_code
def yX5_init : MethodName := ⟨RX5, "<init>", "()V"⟩
abbrev cX5_append : ByteArray := prog_7_method_2_code
def yX5_append : MethodName := ⟨RX5, "append", "(I)Z"⟩
abbrev cX5_byteAt : ByteArray := prog_7_method_3_code
def yX5_byteAt : MethodName := ⟨RX5, "byteAt", "(I)I"⟩
abbrev cX5_figureAt : ByteArray := prog_7_method_4_code
def yX5_figureAt : MethodName := ⟨RX5, "figureAt", "(I)I"⟩
abbrev cX5_firstFault : ByteArray := prog_7_method_5_code
def yX5_firstFault : MethodName := ⟨RX5, "firstFault", "()I"⟩
abbrev cX5_isRight : ByteArray := prog_7_method_6_code
def yX5_isRight : MethodName := ⟨RX5, "isRight", "(I)Z"⟩
abbrev cX5_isFigure : ByteArray := prog_7_method_7_code
def yX5_isFigure : MethodName := ⟨RX5, "isFigure", "(III)Z"⟩
def RX6 : String := "BlottedFirst$Times"
def TX6 : u_T := fun k => match k with
  | _ => ("BlottedFirst$Times", "often", "[I", true)
def tyX6 : Nat → FieldType := fun k => match k with
  | _ => .array .int
abbrev wsX60 : List Cond := u_ws RX6 TX6 1
theorem nmX6 : ∀ a, a < 1 → ∀ b, b < 1 → a ≠ b → (TX6 a).2.1 ≠ (TX6 b).2.1 := by decide +kernel
theorem tyX6_ok : ∀ k, k < 1 → parseFieldDescriptor (TX6 k).2.2.1 = some (tyX6 k) := by decide +kernel
abbrev cX6_init : ByteArray := prog_8_method_1_code
def yX6_init : MethodName := ⟨RX6, "<init>", "()V"⟩
abbrev cX6_start : ByteArray := prog_8_method_2_code
def yX6_start : MethodName := ⟨RX6, "start", "()V"⟩
abbrev cX6_howOften : ByteArray := prog_8_method_3_code
def yX6_howOften : MethodName := ⟨RX6, "howOften", "(I)I"⟩
abbrev cX6_next : ByteArray := prog_8_method_4_code
def yX6_next : MethodName := ⟨RX6, "next", "()V"⟩
abbrev cX6_lettersThere : ByteArray := prog_8_method_5_code
def yX6_lettersThere : MethodName := ⟨RX6, "lettersThere", "(I)I"⟩
def RX7 : String := "BlottedFirst"
def TX7 : u_T := fun k => match k with
  | 0 => ("BlottedFirst", "text", "LBlottedFirst$Text;", true)
  | 1 => ("BlottedFirst", "letters", "LBlottedFirst$Letters;", true)
  | 2 => ("BlottedFirst", "sheet", "LBlottedFirst$Sheet;", true)
  | 3 => ("BlottedFirst", "trial", "LBlottedFirst$Sheet;", true)
  | 4 => ("BlottedFirst", "acts", "LBlottedFirst$Acts;", true)
  | 5 => ("BlottedFirst", "over", "LBlottedFirst$Over;", true)
  | 6 => ("BlottedFirst", "slots", "LBlottedFirst$Slots;", true)
  | 7 => ("BlottedFirst", "times", "LBlottedFirst$Times;", true)
  | _ => ("BlottedFirst", "theSeed", "J", false)
def tyX7 : Nat → FieldType := fun k => match k with
  | 0 => .object "BlottedFirst$Text"
  | 1 => .object "BlottedFirst$Letters"
  | 2 => .object "BlottedFirst$Sheet"
  | 3 => .object "BlottedFirst$Sheet"
  | 4 => .object "BlottedFirst$Acts"
  | 5 => .object "BlottedFirst$Over"
  | 6 => .object "BlottedFirst$Slots"
  | 7 => .object "BlottedFirst$Times"
  | _ => .long
abbrev wsX70 : List Cond := u_ws RX7 TX7 9
theorem nmX7 : ∀ a, a < 9 → ∀ b, b < 9 → a ≠ b → (TX7 a).2.1 ≠ (TX7 b).2.1 := by decide +kernel
theorem tyX7_ok : ∀ k, k < 9 → parseFieldDescriptor (TX7 k).2.2.1 = some (tyX7 k) := by decide +kernel
abbrev cX7_init : ByteArray := prog_1_method_1_code
def yX7_init : MethodName := ⟨RX7, "<init>", "()V"⟩
abbrev cX7_write : ByteArray := prog_1_method_2_code
def yX7_write : MethodName := ⟨RX7, "write", "(I)I"⟩
abbrev cX7_wipe : ByteArray := prog_1_method_3_code
def yX7_wipe : MethodName := ⟨RX7, "wipe", "()I"⟩
abbrev cX7_fault : ByteArray := prog_1_method_4_code
def yX7_fault : MethodName := ⟨RX7, "fault", "()I"⟩
abbrev cX7_office : ByteArray := prog_1_method_5_code
def yX7_office : MethodName := ⟨RX7, "office", "()I"⟩
abbrev cX7_about : ByteArray := prog_1_method_6_code
def yX7_about : MethodName := ⟨RX7, "about", "(I)I"⟩
abbrev cX7_letter : ByteArray := prog_1_method_7_code
def yX7_letter : MethodName := ⟨RX7, "letter", "(II)I"⟩
abbrev cX7_cell : ByteArray := prog_1_method_8_code
def yX7_cell : MethodName := ⟨RX7, "cell", "(II)I"⟩
abbrev cX7_press : ByteArray := prog_1_method_9_code
def yX7_press : MethodName := ⟨RX7, "press", "(I)I"⟩
abbrev cX7_day : ByteArray := prog_1_method_10_code
def yX7_day : MethodName := ⟨RX7, "day", "()I"⟩
abbrev cX7_rub : ByteArray := prog_1_method_11_code
def yX7_rub : MethodName := ⟨RX7, "rub", "(I)I"⟩
abbrev cX7_change : ByteArray := prog_1_method_12_code
def yX7_change : MethodName := ⟨RX7, "change", "()I"⟩
abbrev cX7_undo : ByteArray := prog_1_method_13_code
def yX7_undo : MethodName := ⟨RX7, "undo", "()I"⟩
abbrev cX7_later : ByteArray := prog_1_method_14_code
def yX7_later : MethodName := ⟨RX7, "later", "(I)I"⟩
abbrev cX7_lasts : ByteArray := prog_1_method_15_code
def yX7_lasts : MethodName := ⟨RX7, "lasts", "(I)I"⟩
abbrev cX7_shows : ByteArray := prog_1_method_16_code
def yX7_shows : MethodName := ⟨RX7, "shows", "(I)I"⟩
abbrev cX7_fits : ByteArray := prog_1_method_17_code
def yX7_fits : MethodName := ⟨RX7, "fits", "(I)I"⟩
abbrev cX7_keeps : ByteArray := prog_1_method_18_code
def yX7_keeps : MethodName := ⟨RX7, "keeps", "(I)I"⟩
abbrev cX7_twice : ByteArray := prog_1_method_19_code
def yX7_twice : MethodName := ⟨RX7, "twice", "(I)I"⟩
abbrev cX7_crossed : ByteArray := prog_1_method_20_code
def yX7_crossed : MethodName := ⟨RX7, "crossed", "(I)I"⟩
abbrev cX7_least : ByteArray := prog_1_method_21_code
def yX7_least : MethodName := ⟨RX7, "least", "(I)I"⟩
abbrev cX7_share : ByteArray := prog_1_method_22_code
def yX7_share : MethodName := ⟨RX7, "share", "(IZ)I"⟩
abbrev cX7_tell : ByteArray := prog_1_method_23_code
def yX7_tell : MethodName := ⟨RX7, "tell", "(II)I"⟩
abbrev cX7_untell : ByteArray := prog_1_method_24_code
def yX7_untell : MethodName := ⟨RX7, "untell", "()I"⟩
abbrev cX7_orders : ByteArray := prog_1_method_25_code
def yX7_orders : MethodName := ⟨RX7, "orders", "(I)I"⟩
abbrev cX7_rests : ByteArray := prog_1_method_26_code
def yX7_rests : MethodName := ⟨RX7, "rests", "(II)I"⟩
abbrev cX7_chance : ByteArray := prog_1_method_27_code
def yX7_chance : MethodName := ⟨RX7, "chance", "(IIZ)I"⟩
abbrev cX7_seed : ByteArray := prog_1_method_28_code
def yX7_seed : MethodName := ⟨RX7, "seed", "(J)J"⟩
abbrev cX7_years : ByteArray := prog_1_method_29_code
def yX7_years : MethodName := ⟨RX7, "years", "(I)I"⟩
abbrev cX7_keep : ByteArray := prog_1_method_30_code
def yX7_keep : MethodName := ⟨RX7, "keep", "(I)I"⟩
abbrev cX7_again : ByteArray := prog_1_method_31_code
def yX7_again : MethodName := ⟨RX7, "again", "(I)I"⟩
abbrev cX7_isCell : ByteArray := prog_1_method_32_code
def yX7_isCell : MethodName := ⟨RX7, "isCell", "(I)Z"⟩
abbrev cX7_readLetters : ByteArray := prog_1_method_33_code
def yX7_readLetters : MethodName := ⟨RX7, "readLetters", "()V"⟩
abbrev cX7_copy : ByteArray := prog_1_method_34_code
def yX7_copy : MethodName := ⟨RX7, "copy", "(LBlottedFirst$Sheet;LBlottedFirst$Sheet;)V"⟩
abbrev cX7_befall : ByteArray := prog_1_method_35_code
def yX7_befall : MethodName := ⟨RX7, "befall", "(I)V"⟩
abbrev cX7_told : ByteArray := prog_1_method_36_code
def yX7_told : MethodName := ⟨RX7, "told", "(IIII)I"⟩
abbrev cX7_readOf : ByteArray := prog_1_method_37_code
def yX7_readOf : MethodName := ⟨RX7, "readOf", "(I)I"⟩
abbrev cX7_keepsMore : ByteArray := prog_1_method_38_code
def yX7_keepsMore : MethodName := ⟨RX7, "keepsMore", "(II)Z"⟩
abbrev cX7_timesGiveTheInk : ByteArray := prog_1_method_39_code
def yX7_timesGiveTheInk : MethodName := ⟨RX7, "timesGiveTheInk", "()Z"⟩
abbrev cX7_inkByTimes : ByteArray := prog_1_method_40_code
def yX7_inkByTimes : MethodName := ⟨RX7, "inkByTimes", "(I)I"⟩
abbrev cX7_leastThird : ByteArray := prog_1_method_41_code
def yX7_leastThird : MethodName := ⟨RX7, "leastThird", "(II)I"⟩
abbrev cX7_isSeen : ByteArray := prog_1_method_42_code
def yX7_isSeen : MethodName := ⟨RX7, "isSeen", "(II)Z"⟩
abbrev cX7_clerkHas : ByteArray := prog_1_method_43_code
def yX7_clerkHas : MethodName := ⟨RX7, "clerkHas", "(II)I"⟩
abbrev cX7_auditorHas : ByteArray := prog_1_method_44_code
def yX7_auditorHas : MethodName := ⟨RX7, "auditorHas", "(II)I"⟩
abbrev cX7_canPressBy : ByteArray := prog_1_method_45_code
def yX7_canPressBy : MethodName := ⟨RX7, "canPressBy", "(II)Z"⟩
abbrev cX7_isAtRest : ByteArray := prog_1_method_46_code
def yX7_isAtRest : MethodName := ⟨RX7, "isAtRest", "(III)Z"⟩
abbrev cX7_power : ByteArray := prog_1_method_47_code
def yX7_power : MethodName := ⟨RX7, "power", "(II)I"⟩
abbrev cX7_leastTerms : ByteArray := prog_1_method_48_code
def yX7_leastTerms : MethodName := ⟨RX7, "leastTerms", "(IIZ)I"⟩
abbrev cX7_commonDivisor : ByteArray := prog_1_method_49_code
def yX7_commonDivisor : MethodName := ⟨RX7, "commonDivisor", "(II)I"⟩
def RX8 : String := "BlottedFirstModel"
def TX8 : u_T := fun k => match k with
  | 0 => ("BlottedFirstModel", "thrown", "I", false)
  | 1 => ("BlottedFirstModel", "text", "[I", true)
  | 2 => ("BlottedFirstModel", "textSize", "I", false)
  | 3 => ("BlottedFirstModel", "place", "I", false)
  | 4 => ("BlottedFirstModel", "letters", "I", false)
  | 5 => ("BlottedFirstModel", "at", "[I", true)
  | 6 => ("BlottedFirstModel", "hand", "[I", true)
  | 7 => ("BlottedFirstModel", "force", "[I", true)
  | 8 => ("BlottedFirstModel", "its", "[I", true)
  | 9 => ("BlottedFirstModel", "readLetters", "I", false)
  | 10 => ("BlottedFirstModel", "readLetter", "[I", true)
  | 11 => ("BlottedFirstModel", "page", "[I", true)
  | 12 => ("BlottedFirstModel", "trial", "[I", true)
  | 13 => ("BlottedFirstModel", "book", "[I", true)
  | 14 => ("BlottedFirstModel", "acts", "I", false)
  | 15 => ("BlottedFirstModel", "kept", "[I", true)
  | 16 => ("BlottedFirstModel", "isKept", "[Z", true)
  | 17 => ("BlottedFirstModel", "over", "I", false)
  | 18 => ("BlottedFirstModel", "overOne", "[I", true)
  | 19 => ("BlottedFirstModel", "overTwo", "[I", true)
  | 20 => ("BlottedFirstModel", "seed", "J", false)
  | 21 => ("BlottedFirstModel", "foundMany", "I", false)
  | 22 => ("BlottedFirstModel", "foundAll", "I", false)
  | 23 => ("BlottedFirstModel", "foundNone", "I", false)
  | 24 => ("BlottedFirstModel", "foundFirst", "I", false)
  | 25 => ("BlottedFirstModel", "value", "[I", true)
  | _ => ("BlottedFirstModel", "order", "[I", true)
def tyX8 : Nat → FieldType := fun k => match k with
  | 0 => .int
  | 1 => .array .int
  | 2 => .int
  | 3 => .int
  | 4 => .int
  | 5 => .array .int
  | 6 => .array .int
  | 7 => .array .int
  | 8 => .array .int
  | 9 => .int
  | 10 => .array .int
  | 11 => .array .int
  | 12 => .array .int
  | 13 => .array .int
  | 14 => .int
  | 15 => .array .int
  | 16 => .array .boolean
  | 17 => .int
  | 18 => .array .int
  | 19 => .array .int
  | 20 => .long
  | 21 => .int
  | 22 => .int
  | 23 => .int
  | 24 => .int
  | 25 => .array .int
  | _ => .array .int
abbrev wsX80 : List Cond := u_ws RX8 TX8 27
theorem nmX8 : ∀ a, a < 27 → ∀ b, b < 27 → a ≠ b → (TX8 a).2.1 ≠ (TX8 b).2.1 := by decide +kernel
theorem tyX8_ok : ∀ k, k < 27 → parseFieldDescriptor (TX8 k).2.2.1 = some (tyX8 k) := by decide +kernel
abbrev cX8_init : ByteArray := prog_10_method_1_code
def yX8_init : MethodName := ⟨RX8, "<init>", "()V"⟩
abbrev cX8_in : ByteArray := prog_10_method_3_code
def yX8_in : MethodName := ⟨RX8, "in", "(JJJ)Z"⟩
abbrev cX8_has : ByteArray := prog_10_method_4_code
def yX8_has : MethodName := ⟨RX8, "has", "(II)Z"⟩
abbrev cX8_many : ByteArray := prog_10_method_5_code
def yX8_many : MethodName := ⟨RX8, "many", "(I)I"⟩
abbrev cX8_noLetter : ByteArray := prog_10_method_6_code
def yX8_noLetter : MethodName := ⟨RX8, "noLetter", "(I)Z"⟩
abbrev cX8_noCell : ByteArray := prog_10_method_7_code
def yX8_noCell : MethodName := ⟨RX8, "noCell", "(I)Z"⟩
abbrev cX8_everyone : ByteArray := prog_10_method_8_code
def yX8_everyone : MethodName := ⟨RX8, "everyone", "()I"⟩
abbrev cX8_write : ByteArray := prog_10_method_9_code
def yX8_write : MethodName := ⟨RX8, "write", "(I)I"⟩
abbrev cX8_wipe : ByteArray := prog_10_method_10_code
def yX8_wipe : MethodName := ⟨RX8, "wipe", "()I"⟩
abbrev cX8_figure : ByteArray := prog_10_method_11_code
def yX8_figure : MethodName := ⟨RX8, "figure", "(II)I"⟩
abbrev cX8_readOffice : ByteArray := prog_10_method_12_code
def yX8_readOffice : MethodName := ⟨RX8, "readOffice", "()I"⟩
abbrev cX8_fault : ByteArray := prog_10_method_13_code
def yX8_fault : MethodName := ⟨RX8, "fault", "()I"⟩
abbrev cX8_clean : ByteArray := prog_10_method_14_code
def yX8_clean : MethodName := ⟨RX8, "clean", "([I)V"⟩
abbrev cX8_office : ByteArray := prog_10_method_15_code
def yX8_office : MethodName := ⟨RX8, "office", "()I"⟩
abbrev cX8_shown : ByteArray := prog_10_method_16_code
def yX8_shown : MethodName := ⟨RX8, "shown", "([I)I"⟩
abbrev cX8_isRead : ByteArray := prog_10_method_17_code
def yX8_isRead : MethodName := ⟨RX8, "isRead", "(II)Z"⟩
abbrev cX8_readBy : ByteArray := prog_10_method_18_code
def yX8_readBy : MethodName := ⟨RX8, "readBy", "(I)I"⟩
abbrev cX8_goPress : ByteArray := prog_10_method_19_code
def yX8_goPress : MethodName := ⟨RX8, "goPress", "([II)V"⟩
abbrev cX8_goDay : ByteArray := prog_10_method_20_code
def yX8_goDay : MethodName := ⟨RX8, "goDay", "([I)V"⟩
abbrev cX8_about : ByteArray := prog_10_method_21_code
def yX8_about : MethodName := ⟨RX8, "about", "(I)I"⟩
abbrev cX8_letter : ByteArray := prog_10_method_22_code
def yX8_letter : MethodName := ⟨RX8, "letter", "(II)I"⟩
abbrev cX8_cell : ByteArray := prog_10_method_23_code
def yX8_cell : MethodName := ⟨RX8, "cell", "(II)I"⟩
abbrev cX8_note : ByteArray := prog_10_method_24_code
def yX8_note : MethodName := ⟨RX8, "note", "()V"⟩
abbrev cX8_press : ByteArray := prog_10_method_25_code
def yX8_press : MethodName := ⟨RX8, "press", "(I)I"⟩
abbrev cX8_day : ByteArray := prog_10_method_26_code
def yX8_day : MethodName := ⟨RX8, "day", "()I"⟩
abbrev cX8_rub : ByteArray := prog_10_method_27_code
def yX8_rub : MethodName := ⟨RX8, "rub", "(I)I"⟩
abbrev cX8_change : ByteArray := prog_10_method_28_code
def yX8_change : MethodName := ⟨RX8, "change", "()I"⟩
abbrev cX8_undo : ByteArray := prog_10_method_29_code
def yX8_undo : MethodName := ⟨RX8, "undo", "()I"⟩
abbrev cX8_shownIn : ByteArray := prog_10_method_30_code
def yX8_shownIn : MethodName := ⟨RX8, "shownIn", "(I)I"⟩
abbrev cX8_later : ByteArray := prog_10_method_31_code
def yX8_later : MethodName := ⟨RX8, "later", "(I)I"⟩
abbrev cX8_lasts : ByteArray := prog_10_method_32_code
def yX8_lasts : MethodName := ⟨RX8, "lasts", "(I)I"⟩
abbrev cX8_showsBy : ByteArray := prog_10_method_33_code
def yX8_showsBy : MethodName := ⟨RX8, "showsBy", "(I)I"⟩
abbrev cX8_shows : ByteArray := prog_10_method_34_code
def yX8_shows : MethodName := ⟨RX8, "shows", "(I)I"⟩
abbrev cX8_found : ByteArray := prog_10_method_35_code
def yX8_found : MethodName := ⟨RX8, "found", "(I)I"⟩
abbrev cX8_fits : ByteArray := prog_10_method_36_code
def yX8_fits : MethodName := ⟨RX8, "fits", "(I)I"⟩
abbrev cX8_keeps : ByteArray := prog_10_method_37_code
def yX8_keeps : MethodName := ⟨RX8, "keeps", "(I)I"⟩
abbrev cX8_power : ByteArray := prog_10_method_38_code
def yX8_power : MethodName := ⟨RX8, "power", "(II)I"⟩
abbrev cX8_isInk : ByteArray := prog_10_method_39_code
def yX8_isInk : MethodName := ⟨RX8, "isInk", "(I)Z"⟩
abbrev cX8_twice : ByteArray := prog_10_method_40_code
def yX8_twice : MethodName := ⟨RX8, "twice", "(I)I"⟩
abbrev cX8_crossed : ByteArray := prog_10_method_41_code
def yX8_crossed : MethodName := ⟨RX8, "crossed", "(I)I"⟩
abbrev cX8_least : ByteArray := prog_10_method_42_code
def yX8_least : MethodName := ⟨RX8, "least", "(I)I"⟩
abbrev cX8_ways : ByteArray := prog_10_method_43_code
def yX8_ways : MethodName := ⟨RX8, "ways", "(I)I"⟩
abbrev cX8_divisor : ByteArray := prog_10_method_44_code
def yX8_divisor : MethodName := ⟨RX8, "divisor", "(II)I"⟩
abbrev cX8_fraction : ByteArray := prog_10_method_45_code
def yX8_fraction : MethodName := ⟨RX8, "fraction", "(IIZ)I"⟩
abbrev cX8_share : ByteArray := prog_10_method_46_code
def yX8_share : MethodName := ⟨RX8, "share", "(IZ)I"⟩
abbrev cX8_tell : ByteArray := prog_10_method_47_code
def yX8_tell : MethodName := ⟨RX8, "tell", "(II)I"⟩
abbrev cX8_untell : ByteArray := prog_10_method_48_code
def yX8_untell : MethodName := ⟨RX8, "untell", "()I"⟩
abbrev cX8_placeOf : ByteArray := prog_10_method_49_code
def yX8_placeOf : MethodName := ⟨RX8, "placeOf", "(I)I"⟩
abbrev cX8_isOver : ByteArray := prog_10_method_50_code
def yX8_isOver : MethodName := ⟨RX8, "isOver", "()Z"⟩
abbrev cX8_goOrder : ByteArray := prog_10_method_51_code
def yX8_goOrder : MethodName := ⟨RX8, "goOrder", "()Z"⟩
abbrev cX8_orders : ByteArray := prog_10_method_52_code
def yX8_orders : MethodName := ⟨RX8, "orders", "(I)I"⟩
abbrev cX8_clerk : ByteArray := prog_10_method_53_code
def yX8_clerk : MethodName := ⟨RX8, "clerk", "(II)I"⟩
abbrev cX8_auditor : ByteArray := prog_10_method_54_code
def yX8_auditor : MethodName := ⟨RX8, "auditor", "(II)I"⟩
abbrev cX8_rests : ByteArray := prog_10_method_55_code
def yX8_rests : MethodName := ⟨RX8, "rests", "(II)I"⟩
abbrev cX8_chance : ByteArray := prog_10_method_56_code
def yX8_chance : MethodName := ⟨RX8, "chance", "(IIZ)I"⟩
abbrev cX8_seed : ByteArray := prog_10_method_57_code
def yX8_seed : MethodName := ⟨RX8, "seed", "(J)J"⟩
abbrev cX8_years : ByteArray := prog_10_method_58_code
def yX8_years : MethodName := ⟨RX8, "years", "(I)I"⟩
abbrev cX8_keep : ByteArray := prog_10_method_59_code
def yX8_keep : MethodName := ⟨RX8, "keep", "(I)I"⟩
abbrev cX8_again : ByteArray := prog_10_method_60_code
def yX8_again : MethodName := ⟨RX8, "again", "(I)I"⟩
def RJ6 : String := "java/lang/Integer"
def TJ6 : u_T := fun k => match k with
  | _ => ("", "", "", false)
def tyJ6 : Nat → FieldType := fun k => match k with
  | _ => .int
abbrev wsJ60 : List Cond := u_ws RJ6 TJ6 0
theorem nmJ6 : ∀ a, a < 0 → ∀ b, b < 0 → a ≠ b → (TJ6 a).2.1 ≠ (TJ6 b).2.1 := by decide +kernel
theorem tyJ6_ok : ∀ k, k < 0 → parseFieldDescriptor (TJ6 k).2.2.1 = some (tyJ6 k) := by decide +kernel
abbrev cJ6_bitCount_0f7a4 : ByteArray := prog_11_method_49_code
def yJ6_bitCount_0f7a4 : MethodName := ⟨RJ6, "bitCount", "(I)I"⟩
def RJ9 : String := "java/lang/Math"
def TJ9 : u_T := fun k => match k with
  | _ => ("", "", "", false)
def tyJ9 : Nat → FieldType := fun k => match k with
  | _ => .int
abbrev wsJ90 : List Cond := u_ws RJ9 TJ9 0
theorem nmJ9 : ∀ a, a < 0 → ∀ b, b < 0 → a ≠ b → (TJ9 a).2.1 ≠ (TJ9 b).2.1 := by decide +kernel
theorem tyJ9_ok : ∀ k, k < 0 → parseFieldDescriptor (TJ9 k).2.2.1 = some (tyJ9 k) := by decide +kernel
abbrev cJ9_min_7cf53 : ByteArray := prog_12_method_69_code
def yJ9_min_7cf53 : MethodName := ⟨RJ9, "min", "(II)I"⟩
def RL : String := "BlottedFirstLaw"
abbrev cL_law : ByteArray := code
def yL_law : MethodName := ⟨RL, "law", "([I)Z"⟩
abbrev vwCl : List vw_C := [(RX0, TX0, 3), (RX1, TX1, 5), (RX2, TX2, 4), (RX3, TX3, 3), (RX4, TX4, 2), (RX5, TX5, 2), (RX6, TX6, 1), (RX7, TX7, 9), (RX8, TX8, 27)]
end
section
theorem dX0_init_0 : decode cX0_init 0 = .ok (.aload_n 0, 1) := by decide +kernel
theorem dX0_init_1 : decode cX0_init 1 = .ok (.invokespecial 3, 3) := by decide +kernel
theorem dX0_init_4 : decode cX0_init 4 = .ok (.aload_n 0, 1) := by decide +kernel
theorem dX0_init_5 : decode cX0_init 5 = .ok (.bipush 14, 2) := by decide +kernel
theorem dX0_init_7 : decode cX0_init 7 = .ok (.anewarray 9, 3) := by decide +kernel
theorem dX0_init_10 : decode cX0_init 10 = .ok (.putfield 11, 3) := by decide +kernel
theorem dX0_init_13 : decode cX0_init 13 = .ok (.iconst 0, 1) := by decide +kernel
theorem dX0_init_14 : decode cX0_init 14 = .ok (.istore_n 1, 1) := by decide +kernel
theorem dX0_init_15 : decode cX0_init 15 = .ok (.iload_n 1, 1) := by decide +kernel
theorem dX0_init_16 : decode cX0_init 16 = .ok (.bipush 14, 2) := by decide +kernel
theorem dX0_init_18 : decode cX0_init 18 = .ok (.if_icmp .ge 22, 3) := by decide +kernel
theorem dX0_init_21 : decode cX0_init 21 = .ok (.aload_n 0, 1) := by decide +kernel
theorem dX0_init_22 : decode cX0_init 22 = .ok (.getfield 11, 3) := by decide +kernel
theorem dX0_init_25 : decode cX0_init 25 = .ok (.iload_n 1, 1) := by decide +kernel
theorem dX0_init_26 : decode cX0_init 26 = .ok (.new 9, 3) := by decide +kernel
theorem dX0_init_29 : decode cX0_init 29 = .ok (.dup, 1) := by decide +kernel
theorem dX0_init_30 : decode cX0_init 30 = .ok (.invokespecial 17, 3) := by decide +kernel
theorem dX0_init_33 : decode cX0_init 33 = .ok (.aastore, 1) := by decide +kernel
theorem dX0_init_34 : decode cX0_init 34 = .ok (.iinc 1 1, 3) := by decide +kernel
theorem dX0_init_37 : decode cX0_init 37 = .ok (.goto (-22), 3) := by decide +kernel
theorem dX0_init_40 : decode cX0_init 40 = .ok (.return_, 1) := by decide +kernel
theorem dX0_forget_0 : decode cX0_forget 0 = .ok (.aload_n 0, 1) := by decide +kernel
theorem dX0_forget_1 : decode cX0_forget 1 = .ok (.iconst 0, 1) := by decide +kernel
theorem dX0_forget_2 : decode cX0_forget 2 = .ok (.putfield 18, 3) := by decide +kernel
theorem dX0_forget_5 : decode cX0_forget 5 = .ok (.aload_n 0, 1) := by decide +kernel
theorem dX0_forget_6 : decode cX0_forget 6 = .ok (.iconst 0, 1) := by decide +kernel
theorem dX0_forget_7 : decode cX0_forget 7 = .ok (.putfield 22, 3) := by decide +kernel
theorem dX0_forget_10 : decode cX0_forget 10 = .ok (.return_, 1) := by decide +kernel
theorem dX0_remember_0 : decode cX0_remember 0 = .ok (.aload_n 1, 1) := by decide +kernel
theorem dX0_remember_1 : decode cX0_remember 1 = .ok (.aload_n 0, 1) := by decide +kernel
theorem dX0_remember_2 : decode cX0_remember 2 = .ok (.aload_n 0, 1) := by decide +kernel
theorem dX0_remember_3 : decode cX0_remember 3 = .ok (.getfield 22, 3) := by decide +kernel
theorem dX0_remember_6 : decode cX0_remember 6 = .ok (.invokevirtual 25, 3) := by decide +kernel
theorem dX0_remember_9 : decode cX0_remember 9 = .ok (.invokestatic 29, 3) := by decide +kernel
theorem dX0_remember_12 : decode cX0_remember 12 = .ok (.aload_n 0, 1) := by decide +kernel
theorem dX0_remember_13 : decode cX0_remember 13 = .ok (.getfield 22, 3) := by decide +kernel
theorem dX0_remember_16 : decode cX0_remember 16 = .ok (.bipush 14, 2) := by decide +kernel
theorem dX0_remember_18 : decode cX0_remember 18 = .ok (.if_icmp .ge 16, 3) := by decide +kernel
theorem dX0_remember_21 : decode cX0_remember 21 = .ok (.aload_n 0, 1) := by decide +kernel
theorem dX0_remember_22 : decode cX0_remember 22 = .ok (.dup, 1) := by decide +kernel
theorem dX0_remember_23 : decode cX0_remember 23 = .ok (.getfield 22, 3) := by decide +kernel
theorem dX0_remember_26 : decode cX0_remember 26 = .ok (.iconst 1, 1) := by decide +kernel
theorem dX0_remember_27 : decode cX0_remember 27 = .ok (.iadd, 1) := by decide +kernel
theorem dX0_remember_28 : decode cX0_remember 28 = .ok (.putfield 22, 3) := by decide +kernel
theorem dX0_remember_31 : decode cX0_remember 31 = .ok (.goto 16, 3) := by decide +kernel
theorem dX0_remember_34 : decode cX0_remember 34 = .ok (.aload_n 0, 1) := by decide +kernel
theorem dX0_remember_35 : decode cX0_remember 35 = .ok (.aload_n 0, 1) := by decide +kernel
theorem dX0_remember_36 : decode cX0_remember 36 = .ok (.getfield 18, 3) := by decide +kernel
theorem dX0_remember_39 : decode cX0_remember 39 = .ok (.iconst 1, 1) := by decide +kernel
theorem dX0_remember_40 : decode cX0_remember 40 = .ok (.iadd, 1) := by decide +kernel
theorem dX0_remember_41 : decode cX0_remember 41 = .ok (.bipush 14, 2) := by decide +kernel
theorem dX0_remember_43 : decode cX0_remember 43 = .ok (.irem, 1) := by decide +kernel
theorem dX0_remember_44 : decode cX0_remember 44 = .ok (.putfield 18, 3) := by decide +kernel
theorem dX0_remember_47 : decode cX0_remember 47 = .ok (.return_, 1) := by decide +kernel
theorem dX0_takeBack_0 : decode cX0_takeBack 0 = .ok (.aload_n 0, 1) := by decide +kernel
theorem dX0_takeBack_1 : decode cX0_takeBack 1 = .ok (.getfield 22, 3) := by decide +kernel
theorem dX0_takeBack_4 : decode cX0_takeBack 4 = .ok (.ifCond .gt 5, 3) := by decide +kernel
theorem dX0_takeBack_7 : decode cX0_takeBack 7 = .ok (.iconst 0, 1) := by decide +kernel
theorem dX0_takeBack_8 : decode cX0_takeBack 8 = .ok (.ireturn, 1) := by decide +kernel
theorem dX0_takeBack_9 : decode cX0_takeBack 9 = .ok (.aload_n 0, 1) := by decide +kernel
theorem dX0_takeBack_10 : decode cX0_takeBack 10 = .ok (.dup, 1) := by decide +kernel
theorem dX0_takeBack_11 : decode cX0_takeBack 11 = .ok (.getfield 22, 3) := by decide +kernel
theorem dX0_takeBack_14 : decode cX0_takeBack 14 = .ok (.iconst 1, 1) := by decide +kernel
theorem dX0_takeBack_15 : decode cX0_takeBack 15 = .ok (.isub, 1) := by decide +kernel
theorem dX0_takeBack_16 : decode cX0_takeBack 16 = .ok (.putfield 22, 3) := by decide +kernel
theorem dX0_takeBack_19 : decode cX0_takeBack 19 = .ok (.aload_n 0, 1) := by decide +kernel
theorem dX0_takeBack_20 : decode cX0_takeBack 20 = .ok (.aload_n 0, 1) := by decide +kernel
theorem dX0_takeBack_21 : decode cX0_takeBack 21 = .ok (.getfield 22, 3) := by decide +kernel
theorem dX0_takeBack_24 : decode cX0_takeBack 24 = .ok (.invokevirtual 25, 3) := by decide +kernel
theorem dX0_takeBack_27 : decode cX0_takeBack 27 = .ok (.aload_n 1, 1) := by decide +kernel
theorem dX0_takeBack_28 : decode cX0_takeBack 28 = .ok (.invokestatic 29, 3) := by decide +kernel
theorem dX0_takeBack_31 : decode cX0_takeBack 31 = .ok (.iconst 1, 1) := by decide +kernel
theorem dX0_takeBack_32 : decode cX0_takeBack 32 = .ok (.ireturn, 1) := by decide +kernel
theorem dX0_sheetAt_0 : decode cX0_sheetAt 0 = .ok (.aload_n 0, 1) := by decide +kernel
theorem dX0_sheetAt_1 : decode cX0_sheetAt 1 = .ok (.getfield 18, 3) := by decide +kernel
theorem dX0_sheetAt_4 : decode cX0_sheetAt 4 = .ok (.iload_n 1, 1) := by decide +kernel
theorem dX0_sheetAt_5 : decode cX0_sheetAt 5 = .ok (.iadd, 1) := by decide +kernel
theorem dX0_sheetAt_6 : decode cX0_sheetAt 6 = .ok (.bipush 14, 2) := by decide +kernel
theorem dX0_sheetAt_8 : decode cX0_sheetAt 8 = .ok (.irem, 1) := by decide +kernel
theorem dX0_sheetAt_9 : decode cX0_sheetAt 9 = .ok (.istore_n 2, 1) := by decide +kernel
theorem dX0_sheetAt_10 : decode cX0_sheetAt 10 = .ok (.iload_n 2, 1) := by decide +kernel
theorem dX0_sheetAt_11 : decode cX0_sheetAt 11 = .ok (.ifCond .lt 18, 3) := by decide +kernel
theorem dX0_sheetAt_14 : decode cX0_sheetAt 14 = .ok (.iload_n 2, 1) := by decide +kernel
theorem dX0_sheetAt_15 : decode cX0_sheetAt 15 = .ok (.bipush 14, 2) := by decide +kernel
theorem dX0_sheetAt_17 : decode cX0_sheetAt 17 = .ok (.if_icmp .ge 12, 3) := by decide +kernel
theorem dX0_sheetAt_20 : decode cX0_sheetAt 20 = .ok (.aload_n 0, 1) := by decide +kernel
theorem dX0_sheetAt_21 : decode cX0_sheetAt 21 = .ok (.getfield 11, 3) := by decide +kernel
theorem dX0_sheetAt_24 : decode cX0_sheetAt 24 = .ok (.iload_n 2, 1) := by decide +kernel
theorem dX0_sheetAt_25 : decode cX0_sheetAt 25 = .ok (.aaload, 1) := by decide +kernel
theorem dX0_sheetAt_26 : decode cX0_sheetAt 26 = .ok (.goto 4, 3) := by decide +kernel
theorem dX0_sheetAt_29 : decode cX0_sheetAt 29 = .ok (.aconst_null, 1) := by decide +kernel
theorem dX0_sheetAt_30 : decode cX0_sheetAt 30 = .ok (.areturn, 1) := by decide +kernel
theorem dX1_init_0 : decode cX1_init 0 = .ok (.aload_n 0, 1) := by decide +kernel
theorem dX1_init_1 : decode cX1_init 1 = .ok (.invokespecial 3, 3) := by decide +kernel
theorem dX1_init_4 : decode cX1_init 4 = .ok (.aload_n 0, 1) := by decide +kernel
theorem dX1_init_5 : decode cX1_init 5 = .ok (.bipush 6, 2) := by decide +kernel
theorem dX1_init_7 : decode cX1_init 7 = .ok (.newarray .int, 2) := by decide +kernel
theorem dX1_init_9 : decode cX1_init 9 = .ok (.putfield 9, 3) := by decide +kernel
theorem dX1_init_12 : decode cX1_init 12 = .ok (.aload_n 0, 1) := by decide +kernel
theorem dX1_init_13 : decode cX1_init 13 = .ok (.bipush 6, 2) := by decide +kernel
theorem dX1_init_15 : decode cX1_init 15 = .ok (.newarray .int, 2) := by decide +kernel
theorem dX1_init_17 : decode cX1_init 17 = .ok (.putfield 15, 3) := by decide +kernel
theorem dX1_init_20 : decode cX1_init 20 = .ok (.aload_n 0, 1) := by decide +kernel
theorem dX1_init_21 : decode cX1_init 21 = .ok (.bipush 6, 2) := by decide +kernel
theorem dX1_init_23 : decode cX1_init 23 = .ok (.newarray .int, 2) := by decide +kernel
theorem dX1_init_25 : decode cX1_init 25 = .ok (.putfield 18, 3) := by decide +kernel
theorem dX1_init_28 : decode cX1_init 28 = .ok (.aload_n 0, 1) := by decide +kernel
theorem dX1_init_29 : decode cX1_init 29 = .ok (.bipush 6, 2) := by decide +kernel
theorem dX1_init_31 : decode cX1_init 31 = .ok (.newarray .int, 2) := by decide +kernel
theorem dX1_init_33 : decode cX1_init 33 = .ok (.putfield 21, 3) := by decide +kernel
theorem dX1_init_36 : decode cX1_init 36 = .ok (.return_, 1) := by decide +kernel
theorem dX1_add_0 : decode cX1_add 0 = .ok (.aload_n 0, 1) := by decide +kernel
theorem dX1_add_1 : decode cX1_add 1 = .ok (.getfield 24, 3) := by decide +kernel
theorem dX1_add_4 : decode cX1_add 4 = .ok (.ifCond .lt 75, 3) := by decide +kernel
theorem dX1_add_7 : decode cX1_add 7 = .ok (.aload_n 0, 1) := by decide +kernel
theorem dX1_add_8 : decode cX1_add 8 = .ok (.getfield 24, 3) := by decide +kernel
theorem dX1_add_11 : decode cX1_add 11 = .ok (.bipush 6, 2) := by decide +kernel
theorem dX1_add_13 : decode cX1_add 13 = .ok (.if_icmp .ge 66, 3) := by decide +kernel
theorem dX1_add_16 : decode cX1_add 16 = .ok (.aload_n 0, 1) := by decide +kernel
theorem dX1_add_17 : decode cX1_add 17 = .ok (.getfield 9, 3) := by decide +kernel
theorem dX1_add_20 : decode cX1_add 20 = .ok (.aload_n 0, 1) := by decide +kernel
theorem dX1_add_21 : decode cX1_add 21 = .ok (.getfield 24, 3) := by decide +kernel
theorem dX1_add_24 : decode cX1_add 24 = .ok (.iload_n 1, 1) := by decide +kernel
theorem dX1_add_25 : decode cX1_add 25 = .ok (.iastore, 1) := by decide +kernel
theorem dX1_add_26 : decode cX1_add 26 = .ok (.aload_n 0, 1) := by decide +kernel
theorem dX1_add_27 : decode cX1_add 27 = .ok (.getfield 15, 3) := by decide +kernel
theorem dX1_add_30 : decode cX1_add 30 = .ok (.aload_n 0, 1) := by decide +kernel
theorem dX1_add_31 : decode cX1_add 31 = .ok (.getfield 24, 3) := by decide +kernel
theorem dX1_add_34 : decode cX1_add 34 = .ok (.iload 4, 2) := by decide +kernel
theorem dX1_add_36 : decode cX1_add 36 = .ok (.iastore, 1) := by decide +kernel
theorem dX1_add_37 : decode cX1_add 37 = .ok (.aload_n 0, 1) := by decide +kernel
theorem dX1_add_38 : decode cX1_add 38 = .ok (.getfield 18, 3) := by decide +kernel
theorem dX1_add_41 : decode cX1_add 41 = .ok (.aload_n 0, 1) := by decide +kernel
theorem dX1_add_42 : decode cX1_add 42 = .ok (.getfield 24, 3) := by decide +kernel
theorem dX1_add_45 : decode cX1_add 45 = .ok (.iload_n 3, 1) := by decide +kernel
theorem dX1_add_46 : decode cX1_add 46 = .ok (.iload 4, 2) := by decide +kernel
theorem dX1_add_48 : decode cX1_add 48 = .ok (.invokestatic 28, 3) := by decide +kernel
theorem dX1_add_51 : decode cX1_add 51 = .ok (.iastore, 1) := by decide +kernel
theorem dX1_add_52 : decode cX1_add 52 = .ok (.aload_n 0, 1) := by decide +kernel
theorem dX1_add_53 : decode cX1_add 53 = .ok (.getfield 21, 3) := by decide +kernel
theorem dX1_add_56 : decode cX1_add 56 = .ok (.aload_n 0, 1) := by decide +kernel
theorem dX1_add_57 : decode cX1_add 57 = .ok (.getfield 24, 3) := by decide +kernel
theorem dX1_add_60 : decode cX1_add 60 = .ok (.iload_n 2, 1) := by decide +kernel
theorem dX1_add_61 : decode cX1_add 61 = .ok (.iload 4, 2) := by decide +kernel
theorem dX1_add_63 : decode cX1_add 63 = .ok (.invokestatic 32, 3) := by decide +kernel
theorem dX1_add_66 : decode cX1_add 66 = .ok (.iload_n 1, 1) := by decide +kernel
theorem dX1_add_67 : decode cX1_add 67 = .ok (.ishl, 1) := by decide +kernel
theorem dX1_add_68 : decode cX1_add 68 = .ok (.iastore, 1) := by decide +kernel
theorem dX1_add_69 : decode cX1_add 69 = .ok (.aload_n 0, 1) := by decide +kernel
theorem dX1_add_70 : decode cX1_add 70 = .ok (.dup, 1) := by decide +kernel
theorem dX1_add_71 : decode cX1_add 71 = .ok (.getfield 24, 3) := by decide +kernel
theorem dX1_add_74 : decode cX1_add 74 = .ok (.iconst 1, 1) := by decide +kernel
theorem dX1_add_75 : decode cX1_add 75 = .ok (.iadd, 1) := by decide +kernel
theorem dX1_add_76 : decode cX1_add 76 = .ok (.putfield 24, 3) := by decide +kernel
theorem dX1_add_79 : decode cX1_add 79 = .ok (.return_, 1) := by decide +kernel
theorem dX1_forceBy_0 : decode cX1_forceBy 0 = .ok (.iload_n 1, 1) := by decide +kernel
theorem dX1_forceBy_1 : decode cX1_forceBy 1 = .ok (.iconst 1, 1) := by decide +kernel
theorem dX1_forceBy_2 : decode cX1_forceBy 2 = .ok (.if_icmp .ne 7, 3) := by decide +kernel
theorem dX1_forceBy_5 : decode cX1_forceBy 5 = .ok (.iload_n 0, 1) := by decide +kernel
theorem dX1_forceBy_6 : decode cX1_forceBy 6 = .ok (.iconst 1, 1) := by decide +kernel
theorem dX1_forceBy_7 : decode cX1_forceBy 7 = .ok (.isub, 1) := by decide +kernel
theorem dX1_forceBy_8 : decode cX1_forceBy 8 = .ok (.ireturn, 1) := by decide +kernel
theorem dX1_forceBy_9 : decode cX1_forceBy 9 = .ok (.iload_n 1, 1) := by decide +kernel
theorem dX1_forceBy_10 : decode cX1_forceBy 10 = .ok (.iconst 2, 1) := by decide +kernel
theorem dX1_forceBy_11 : decode cX1_forceBy 11 = .ok (.if_icmp .ne 9, 3) := by decide +kernel
theorem dX1_forceBy_14 : decode cX1_forceBy 14 = .ok (.iload_n 0, 1) := by decide +kernel
theorem dX1_forceBy_15 : decode cX1_forceBy 15 = .ok (.iconst 1, 1) := by decide +kernel
theorem dX1_forceBy_16 : decode cX1_forceBy 16 = .ok (.iadd, 1) := by decide +kernel
theorem dX1_forceBy_17 : decode cX1_forceBy 17 = .ok (.goto 4, 3) := by decide +kernel
theorem dX1_forceBy_20 : decode cX1_forceBy 20 = .ok (.iload_n 0, 1) := by decide +kernel
theorem dX1_forceBy_21 : decode cX1_forceBy 21 = .ok (.ireturn, 1) := by decide +kernel
theorem dX1_marksBy_0 : decode cX1_marksBy 0 = .ok (.iload_n 1, 1) := by decide +kernel
theorem dX1_marksBy_1 : decode cX1_marksBy 1 = .ok (.iconst 3, 1) := by decide +kernel
theorem dX1_marksBy_2 : decode cX1_marksBy 2 = .ok (.if_icmp .eq 5, 3) := by decide +kernel
theorem dX1_marksBy_5 : decode cX1_marksBy 5 = .ok (.iload_n 0, 1) := by decide +kernel
theorem dX1_marksBy_6 : decode cX1_marksBy 6 = .ok (.ireturn, 1) := by decide +kernel
theorem dX1_marksBy_7 : decode cX1_marksBy 7 = .ok (.iconst 0, 1) := by decide +kernel
theorem dX1_marksBy_8 : decode cX1_marksBy 8 = .ok (.istore_n 2, 1) := by decide +kernel
theorem dX1_marksBy_9 : decode cX1_marksBy 9 = .ok (.iconst 0, 1) := by decide +kernel
theorem dX1_marksBy_10 : decode cX1_marksBy 10 = .ok (.istore_n 3, 1) := by decide +kernel
theorem dX1_marksBy_11 : decode cX1_marksBy 11 = .ok (.iload_n 3, 1) := by decide +kernel
theorem dX1_marksBy_12 : decode cX1_marksBy 12 = .ok (.iconst 4, 1) := by decide +kernel
theorem dX1_marksBy_13 : decode cX1_marksBy 13 = .ok (.if_icmp .ge 21, 3) := by decide +kernel
theorem dX1_marksBy_16 : decode cX1_marksBy 16 = .ok (.iload_n 2, 1) := by decide +kernel
theorem dX1_marksBy_17 : decode cX1_marksBy 17 = .ok (.iload_n 0, 1) := by decide +kernel
theorem dX1_marksBy_18 : decode cX1_marksBy 18 = .ok (.iload_n 3, 1) := by decide +kernel
theorem dX1_marksBy_19 : decode cX1_marksBy 19 = .ok (.ishr, 1) := by decide +kernel
theorem dX1_marksBy_20 : decode cX1_marksBy 20 = .ok (.iconst 1, 1) := by decide +kernel
theorem dX1_marksBy_21 : decode cX1_marksBy 21 = .ok (.iand, 1) := by decide +kernel
theorem dX1_marksBy_22 : decode cX1_marksBy 22 = .ok (.iconst 3, 1) := by decide +kernel
theorem dX1_marksBy_23 : decode cX1_marksBy 23 = .ok (.iload_n 3, 1) := by decide +kernel
theorem dX1_marksBy_24 : decode cX1_marksBy 24 = .ok (.isub, 1) := by decide +kernel
theorem dX1_marksBy_25 : decode cX1_marksBy 25 = .ok (.ishl, 1) := by decide +kernel
theorem dX1_marksBy_26 : decode cX1_marksBy 26 = .ok (.ior, 1) := by decide +kernel
theorem dX1_marksBy_27 : decode cX1_marksBy 27 = .ok (.istore_n 2, 1) := by decide +kernel
theorem dX1_marksBy_28 : decode cX1_marksBy 28 = .ok (.iinc 3 1, 3) := by decide +kernel
theorem dX1_marksBy_31 : decode cX1_marksBy 31 = .ok (.goto (-20), 3) := by decide +kernel
theorem dX1_marksBy_34 : decode cX1_marksBy 34 = .ok (.iload_n 2, 1) := by decide +kernel
theorem dX1_marksBy_35 : decode cX1_marksBy 35 = .ok (.ireturn, 1) := by decide +kernel
theorem dX1_has_0 : decode cX1_has 0 = .ok (.iload_n 1, 1) := by decide +kernel
theorem dX1_has_1 : decode cX1_has 1 = .ok (.ifCond .lt 21, 3) := by decide +kernel
theorem dX1_has_4 : decode cX1_has 4 = .ok (.iload_n 1, 1) := by decide +kernel
theorem dX1_has_5 : decode cX1_has 5 = .ok (.aload_n 0, 1) := by decide +kernel
theorem dX1_has_6 : decode cX1_has 6 = .ok (.getfield 24, 3) := by decide +kernel
theorem dX1_has_9 : decode cX1_has 9 = .ok (.if_icmp .ge 13, 3) := by decide +kernel
theorem dX1_has_12 : decode cX1_has 12 = .ok (.iload_n 1, 1) := by decide +kernel
theorem dX1_has_13 : decode cX1_has 13 = .ok (.bipush 6, 2) := by decide +kernel
theorem dX1_has_15 : decode cX1_has 15 = .ok (.if_icmp .ge 7, 3) := by decide +kernel
theorem dX1_has_18 : decode cX1_has 18 = .ok (.iconst 1, 1) := by decide +kernel
theorem dX1_has_19 : decode cX1_has 19 = .ok (.goto 4, 3) := by decide +kernel
theorem dX1_has_22 : decode cX1_has 22 = .ok (.iconst 0, 1) := by decide +kernel
theorem dX1_has_23 : decode cX1_has 23 = .ok (.ireturn, 1) := by decide +kernel
theorem dX1_all_0 : decode cX1_all 0 = .ok (.iconst 1, 1) := by decide +kernel
theorem dX1_all_1 : decode cX1_all 1 = .ok (.aload_n 0, 1) := by decide +kernel
theorem dX1_all_2 : decode cX1_all 2 = .ok (.getfield 24, 3) := by decide +kernel
theorem dX1_all_5 : decode cX1_all 5 = .ok (.ishl, 1) := by decide +kernel
theorem dX1_all_6 : decode cX1_all 6 = .ok (.iconst 1, 1) := by decide +kernel
theorem dX1_all_7 : decode cX1_all 7 = .ok (.isub, 1) := by decide +kernel
theorem dX1_all_8 : decode cX1_all 8 = .ok (.ireturn, 1) := by decide +kernel
theorem dX1_placeOf_0 : decode cX1_placeOf 0 = .ok (.aload_n 0, 1) := by decide +kernel
theorem dX1_placeOf_1 : decode cX1_placeOf 1 = .ok (.iload_n 1, 1) := by decide +kernel
theorem dX1_placeOf_2 : decode cX1_placeOf 2 = .ok (.invokevirtual 35, 3) := by decide +kernel
theorem dX1_placeOf_5 : decode cX1_placeOf 5 = .ok (.ifCond .eq 12, 3) := by decide +kernel
theorem dX1_placeOf_8 : decode cX1_placeOf 8 = .ok (.aload_n 0, 1) := by decide +kernel
theorem dX1_placeOf_9 : decode cX1_placeOf 9 = .ok (.getfield 9, 3) := by decide +kernel
theorem dX1_placeOf_12 : decode cX1_placeOf 12 = .ok (.iload_n 1, 1) := by decide +kernel
theorem dX1_placeOf_13 : decode cX1_placeOf 13 = .ok (.iaload, 1) := by decide +kernel
theorem dX1_placeOf_14 : decode cX1_placeOf 14 = .ok (.goto 4, 3) := by decide +kernel
theorem dX1_placeOf_17 : decode cX1_placeOf 17 = .ok (.iconst 0, 1) := by decide +kernel
theorem dX1_placeOf_18 : decode cX1_placeOf 18 = .ok (.ireturn, 1) := by decide +kernel
theorem dX1_handOf_0 : decode cX1_handOf 0 = .ok (.aload_n 0, 1) := by decide +kernel
theorem dX1_handOf_1 : decode cX1_handOf 1 = .ok (.iload_n 1, 1) := by decide +kernel
theorem dX1_handOf_2 : decode cX1_handOf 2 = .ok (.invokevirtual 35, 3) := by decide +kernel
theorem dX1_handOf_5 : decode cX1_handOf 5 = .ok (.ifCond .eq 12, 3) := by decide +kernel
theorem dX1_handOf_8 : decode cX1_handOf 8 = .ok (.aload_n 0, 1) := by decide +kernel
theorem dX1_handOf_9 : decode cX1_handOf 9 = .ok (.getfield 15, 3) := by decide +kernel
theorem dX1_handOf_12 : decode cX1_handOf 12 = .ok (.iload_n 1, 1) := by decide +kernel
theorem dX1_handOf_13 : decode cX1_handOf 13 = .ok (.iaload, 1) := by decide +kernel
theorem dX1_handOf_14 : decode cX1_handOf 14 = .ok (.goto 4, 3) := by decide +kernel
theorem dX1_handOf_17 : decode cX1_handOf 17 = .ok (.iconst 0, 1) := by decide +kernel
theorem dX1_handOf_18 : decode cX1_handOf 18 = .ok (.ireturn, 1) := by decide +kernel
theorem dX1_forceOf_0 : decode cX1_forceOf 0 = .ok (.aload_n 0, 1) := by decide +kernel
theorem dX1_forceOf_1 : decode cX1_forceOf 1 = .ok (.iload_n 1, 1) := by decide +kernel
theorem dX1_forceOf_2 : decode cX1_forceOf 2 = .ok (.invokevirtual 35, 3) := by decide +kernel
theorem dX1_forceOf_5 : decode cX1_forceOf 5 = .ok (.ifCond .eq 12, 3) := by decide +kernel
theorem dX1_forceOf_8 : decode cX1_forceOf 8 = .ok (.aload_n 0, 1) := by decide +kernel
theorem dX1_forceOf_9 : decode cX1_forceOf 9 = .ok (.getfield 18, 3) := by decide +kernel
theorem dX1_forceOf_12 : decode cX1_forceOf 12 = .ok (.iload_n 1, 1) := by decide +kernel
theorem dX1_forceOf_13 : decode cX1_forceOf 13 = .ok (.iaload, 1) := by decide +kernel
theorem dX1_forceOf_14 : decode cX1_forceOf 14 = .ok (.goto 4, 3) := by decide +kernel
theorem dX1_forceOf_17 : decode cX1_forceOf 17 = .ok (.iconst 0, 1) := by decide +kernel
theorem dX1_forceOf_18 : decode cX1_forceOf 18 = .ok (.ireturn, 1) := by decide +kernel
theorem dX1_cellsOf_0 : decode cX1_cellsOf 0 = .ok (.aload_n 0, 1) := by decide +kernel
theorem dX1_cellsOf_1 : decode cX1_cellsOf 1 = .ok (.iload_n 1, 1) := by decide +kernel
theorem dX1_cellsOf_2 : decode cX1_cellsOf 2 = .ok (.invokevirtual 35, 3) := by decide +kernel
theorem dX1_cellsOf_5 : decode cX1_cellsOf 5 = .ok (.ifCond .eq 12, 3) := by decide +kernel
theorem dX1_cellsOf_8 : decode cX1_cellsOf 8 = .ok (.aload_n 0, 1) := by decide +kernel
theorem dX1_cellsOf_9 : decode cX1_cellsOf 9 = .ok (.getfield 21, 3) := by decide +kernel
theorem dX1_cellsOf_12 : decode cX1_cellsOf 12 = .ok (.iload_n 1, 1) := by decide +kernel
theorem dX1_cellsOf_13 : decode cX1_cellsOf 13 = .ok (.iaload, 1) := by decide +kernel
theorem dX1_cellsOf_14 : decode cX1_cellsOf 14 = .ok (.goto 4, 3) := by decide +kernel
theorem dX1_cellsOf_17 : decode cX1_cellsOf 17 = .ok (.iconst 0, 1) := by decide +kernel
theorem dX1_cellsOf_18 : decode cX1_cellsOf 18 = .ok (.ireturn, 1) := by decide +kernel
theorem dX1_windowOf_0 : decode cX1_windowOf 0 = .ok (.aload_n 0, 1) := by decide +kernel
theorem dX1_windowOf_1 : decode cX1_windowOf 1 = .ok (.iload_n 1, 1) := by decide +kernel
theorem dX1_windowOf_2 : decode cX1_windowOf 2 = .ok (.invokevirtual 35, 3) := by decide +kernel
theorem dX1_windowOf_5 : decode cX1_windowOf 5 = .ok (.ifCond .eq 15, 3) := by decide +kernel
theorem dX1_windowOf_8 : decode cX1_windowOf 8 = .ok (.bipush 15, 2) := by decide +kernel
theorem dX1_windowOf_10 : decode cX1_windowOf 10 = .ok (.aload_n 0, 1) := by decide +kernel
theorem dX1_windowOf_11 : decode cX1_windowOf 11 = .ok (.getfield 9, 3) := by decide +kernel
theorem dX1_windowOf_14 : decode cX1_windowOf 14 = .ok (.iload_n 1, 1) := by decide +kernel
theorem dX1_windowOf_15 : decode cX1_windowOf 15 = .ok (.iaload, 1) := by decide +kernel
theorem dX1_windowOf_16 : decode cX1_windowOf 16 = .ok (.ishl, 1) := by decide +kernel
theorem dX1_windowOf_17 : decode cX1_windowOf 17 = .ok (.goto 4, 3) := by decide +kernel
theorem dX1_windowOf_20 : decode cX1_windowOf 20 = .ok (.iconst 0, 1) := by decide +kernel
theorem dX1_windowOf_21 : decode cX1_windowOf 21 = .ok (.ireturn, 1) := by decide +kernel
theorem dX1_canBeRead_0 : decode cX1_canBeRead 0 = .ok (.aload_n 0, 1) := by decide +kernel
theorem dX1_canBeRead_1 : decode cX1_canBeRead 1 = .ok (.iload_n 1, 1) := by decide +kernel
theorem dX1_canBeRead_2 : decode cX1_canBeRead 2 = .ok (.invokevirtual 35, 3) := by decide +kernel
theorem dX1_canBeRead_5 : decode cX1_canBeRead 5 = .ok (.ifCond .eq 27, 3) := by decide +kernel
theorem dX1_canBeRead_8 : decode cX1_canBeRead 8 = .ok (.iload_n 2, 1) := by decide +kernel
theorem dX1_canBeRead_9 : decode cX1_canBeRead 9 = .ok (.bipush 15, 2) := by decide +kernel
theorem dX1_canBeRead_11 : decode cX1_canBeRead 11 = .ok (.aload_n 0, 1) := by decide +kernel
theorem dX1_canBeRead_12 : decode cX1_canBeRead 12 = .ok (.getfield 9, 3) := by decide +kernel
theorem dX1_canBeRead_15 : decode cX1_canBeRead 15 = .ok (.iload_n 1, 1) := by decide +kernel
theorem dX1_canBeRead_16 : decode cX1_canBeRead 16 = .ok (.iaload, 1) := by decide +kernel
theorem dX1_canBeRead_17 : decode cX1_canBeRead 17 = .ok (.ishl, 1) := by decide +kernel
theorem dX1_canBeRead_18 : decode cX1_canBeRead 18 = .ok (.iand, 1) := by decide +kernel
theorem dX1_canBeRead_19 : decode cX1_canBeRead 19 = .ok (.aload_n 0, 1) := by decide +kernel
theorem dX1_canBeRead_20 : decode cX1_canBeRead 20 = .ok (.getfield 21, 3) := by decide +kernel
theorem dX1_canBeRead_23 : decode cX1_canBeRead 23 = .ok (.iload_n 1, 1) := by decide +kernel
theorem dX1_canBeRead_24 : decode cX1_canBeRead 24 = .ok (.iaload, 1) := by decide +kernel
theorem dX1_canBeRead_25 : decode cX1_canBeRead 25 = .ok (.if_icmp .ne 7, 3) := by decide +kernel
theorem dX1_canBeRead_28 : decode cX1_canBeRead 28 = .ok (.iconst 1, 1) := by decide +kernel
theorem dX1_canBeRead_29 : decode cX1_canBeRead 29 = .ok (.goto 4, 3) := by decide +kernel
theorem dX1_canBeRead_32 : decode cX1_canBeRead 32 = .ok (.iconst 0, 1) := by decide +kernel
theorem dX1_canBeRead_33 : decode cX1_canBeRead 33 = .ok (.ireturn, 1) := by decide +kernel
theorem dX1_readable_0 : decode cX1_readable 0 = .ok (.iconst 0, 1) := by decide +kernel
theorem dX1_readable_1 : decode cX1_readable 1 = .ok (.istore_n 2, 1) := by decide +kernel
theorem dX1_readable_2 : decode cX1_readable 2 = .ok (.iconst 0, 1) := by decide +kernel
theorem dX1_readable_3 : decode cX1_readable 3 = .ok (.istore_n 3, 1) := by decide +kernel
theorem dX1_readable_4 : decode cX1_readable 4 = .ok (.iload_n 3, 1) := by decide +kernel
theorem dX1_readable_5 : decode cX1_readable 5 = .ok (.aload_n 0, 1) := by decide +kernel
theorem dX1_readable_6 : decode cX1_readable 6 = .ok (.getfield 24, 3) := by decide +kernel
theorem dX1_readable_9 : decode cX1_readable 9 = .ok (.if_icmp .ge 24, 3) := by decide +kernel
theorem dX1_readable_12 : decode cX1_readable 12 = .ok (.aload_n 0, 1) := by decide +kernel
theorem dX1_readable_13 : decode cX1_readable 13 = .ok (.iload_n 3, 1) := by decide +kernel
theorem dX1_readable_14 : decode cX1_readable 14 = .ok (.iload_n 1, 1) := by decide +kernel
theorem dX1_readable_15 : decode cX1_readable 15 = .ok (.invokevirtual 39, 3) := by decide +kernel
theorem dX1_readable_18 : decode cX1_readable 18 = .ok (.ifCond .eq 9, 3) := by decide +kernel
theorem dX1_readable_21 : decode cX1_readable 21 = .ok (.iload_n 2, 1) := by decide +kernel
theorem dX1_readable_22 : decode cX1_readable 22 = .ok (.iconst 1, 1) := by decide +kernel
theorem dX1_readable_23 : decode cX1_readable 23 = .ok (.iload_n 3, 1) := by decide +kernel
theorem dX1_readable_24 : decode cX1_readable 24 = .ok (.ishl, 1) := by decide +kernel
theorem dX1_readable_25 : decode cX1_readable 25 = .ok (.ior, 1) := by decide +kernel
theorem dX1_readable_26 : decode cX1_readable 26 = .ok (.istore_n 2, 1) := by decide +kernel
theorem dX1_readable_27 : decode cX1_readable 27 = .ok (.iinc 3 1, 3) := by decide +kernel
theorem dX1_readable_30 : decode cX1_readable 30 = .ok (.goto (-26), 3) := by decide +kernel
theorem dX1_readable_33 : decode cX1_readable 33 = .ok (.iload_n 2, 1) := by decide +kernel
theorem dX1_readable_34 : decode cX1_readable 34 = .ok (.ireturn, 1) := by decide +kernel
theorem dX1_shownBy_0 : decode cX1_shownBy 0 = .ok (.iconst 0, 1) := by decide +kernel
theorem dX1_shownBy_1 : decode cX1_shownBy 1 = .ok (.istore_n 2, 1) := by decide +kernel
theorem dX1_shownBy_2 : decode cX1_shownBy 2 = .ok (.iconst 0, 1) := by decide +kernel
theorem dX1_shownBy_3 : decode cX1_shownBy 3 = .ok (.istore_n 3, 1) := by decide +kernel
theorem dX1_shownBy_4 : decode cX1_shownBy 4 = .ok (.iload_n 3, 1) := by decide +kernel
theorem dX1_shownBy_5 : decode cX1_shownBy 5 = .ok (.aload_n 0, 1) := by decide +kernel
theorem dX1_shownBy_6 : decode cX1_shownBy 6 = .ok (.getfield 24, 3) := by decide +kernel
theorem dX1_shownBy_9 : decode cX1_shownBy 9 = .ok (.if_icmp .ge 34, 3) := by decide +kernel
theorem dX1_shownBy_12 : decode cX1_shownBy 12 = .ok (.iload_n 1, 1) := by decide +kernel
theorem dX1_shownBy_13 : decode cX1_shownBy 13 = .ok (.iload_n 3, 1) := by decide +kernel
theorem dX1_shownBy_14 : decode cX1_shownBy 14 = .ok (.ishr, 1) := by decide +kernel
theorem dX1_shownBy_15 : decode cX1_shownBy 15 = .ok (.iconst 1, 1) := by decide +kernel
theorem dX1_shownBy_16 : decode cX1_shownBy 16 = .ok (.iand, 1) := by decide +kernel
theorem dX1_shownBy_17 : decode cX1_shownBy 17 = .ok (.iconst 1, 1) := by decide +kernel
theorem dX1_shownBy_18 : decode cX1_shownBy 18 = .ok (.if_icmp .ne 19, 3) := by decide +kernel
theorem dX1_shownBy_21 : decode cX1_shownBy 21 = .ok (.aload_n 0, 1) := by decide +kernel
theorem dX1_shownBy_22 : decode cX1_shownBy 22 = .ok (.iload_n 3, 1) := by decide +kernel
theorem dX1_shownBy_23 : decode cX1_shownBy 23 = .ok (.invokevirtual 43, 3) := by decide +kernel
theorem dX1_shownBy_26 : decode cX1_shownBy 26 = .ok (.ifCond .eq 11, 3) := by decide +kernel
theorem dX1_shownBy_29 : decode cX1_shownBy 29 = .ok (.iload_n 2, 1) := by decide +kernel
theorem dX1_shownBy_30 : decode cX1_shownBy 30 = .ok (.aload_n 0, 1) := by decide +kernel
theorem dX1_shownBy_31 : decode cX1_shownBy 31 = .ok (.iload_n 3, 1) := by decide +kernel
theorem dX1_shownBy_32 : decode cX1_shownBy 32 = .ok (.invokevirtual 47, 3) := by decide +kernel
theorem dX1_shownBy_35 : decode cX1_shownBy 35 = .ok (.ior, 1) := by decide +kernel
theorem dX1_shownBy_36 : decode cX1_shownBy 36 = .ok (.istore_n 2, 1) := by decide +kernel
theorem dX1_shownBy_37 : decode cX1_shownBy 37 = .ok (.iinc 3 1, 3) := by decide +kernel
theorem dX1_shownBy_40 : decode cX1_shownBy 40 = .ok (.goto (-36), 3) := by decide +kernel
theorem dX1_shownBy_43 : decode cX1_shownBy 43 = .ok (.iload_n 2, 1) := by decide +kernel
theorem dX1_shownBy_44 : decode cX1_shownBy 44 = .ok (.ireturn, 1) := by decide +kernel
theorem dX1_showing_0 : decode cX1_showing 0 = .ok (.iconst 0, 1) := by decide +kernel
theorem dX1_showing_1 : decode cX1_showing 1 = .ok (.istore_n 2, 1) := by decide +kernel
theorem dX1_showing_2 : decode cX1_showing 2 = .ok (.iconst 0, 1) := by decide +kernel
theorem dX1_showing_3 : decode cX1_showing 3 = .ok (.istore_n 3, 1) := by decide +kernel
theorem dX1_showing_4 : decode cX1_showing 4 = .ok (.iload_n 3, 1) := by decide +kernel
theorem dX1_showing_5 : decode cX1_showing 5 = .ok (.aload_n 0, 1) := by decide +kernel
theorem dX1_showing_6 : decode cX1_showing 6 = .ok (.getfield 24, 3) := by decide +kernel
theorem dX1_showing_9 : decode cX1_showing 9 = .ok (.if_icmp .ge 23, 3) := by decide +kernel
theorem dX1_showing_12 : decode cX1_showing 12 = .ok (.iload_n 2, 1) := by decide +kernel
theorem dX1_showing_13 : decode cX1_showing 13 = .ok (.aload_n 0, 1) := by decide +kernel
theorem dX1_showing_14 : decode cX1_showing 14 = .ok (.iconst 1, 1) := by decide +kernel
theorem dX1_showing_15 : decode cX1_showing 15 = .ok (.iload_n 3, 1) := by decide +kernel
theorem dX1_showing_16 : decode cX1_showing 16 = .ok (.ishl, 1) := by decide +kernel
theorem dX1_showing_17 : decode cX1_showing 17 = .ok (.invokevirtual 50, 3) := by decide +kernel
theorem dX1_showing_20 : decode cX1_showing 20 = .ok (.iload_n 1, 1) := by decide +kernel
theorem dX1_showing_21 : decode cX1_showing 21 = .ok (.ishr, 1) := by decide +kernel
theorem dX1_showing_22 : decode cX1_showing 22 = .ok (.iconst 1, 1) := by decide +kernel
theorem dX1_showing_23 : decode cX1_showing 23 = .ok (.iand, 1) := by decide +kernel
theorem dX1_showing_24 : decode cX1_showing 24 = .ok (.iadd, 1) := by decide +kernel
theorem dX1_showing_25 : decode cX1_showing 25 = .ok (.istore_n 2, 1) := by decide +kernel
theorem dX1_showing_26 : decode cX1_showing 26 = .ok (.iinc 3 1, 3) := by decide +kernel
theorem dX1_showing_29 : decode cX1_showing 29 = .ok (.goto (-25), 3) := by decide +kernel
theorem dX1_showing_32 : decode cX1_showing 32 = .ok (.iload_n 2, 1) := by decide +kernel
theorem dX1_showing_33 : decode cX1_showing 33 = .ok (.ireturn, 1) := by decide +kernel
theorem dX2_init_0 : decode cX2_init 0 = .ok (.aload_n 0, 1) := by decide +kernel
theorem dX2_init_1 : decode cX2_init 1 = .ok (.invokespecial 3, 3) := by decide +kernel
theorem dX2_init_4 : decode cX2_init 4 = .ok (.aload_n 0, 1) := by decide +kernel
theorem dX2_init_5 : decode cX2_init 5 = .ok (.bipush 6, 2) := by decide +kernel
theorem dX2_init_7 : decode cX2_init 7 = .ok (.newarray .int, 2) := by decide +kernel
theorem dX2_init_9 : decode cX2_init 9 = .ok (.putfield 9, 3) := by decide +kernel
theorem dX2_init_12 : decode cX2_init 12 = .ok (.aload_n 0, 1) := by decide +kernel
theorem dX2_init_13 : decode cX2_init 13 = .ok (.bipush 6, 2) := by decide +kernel
theorem dX2_init_15 : decode cX2_init 15 = .ok (.newarray .int, 2) := by decide +kernel
theorem dX2_init_17 : decode cX2_init 17 = .ok (.putfield 15, 3) := by decide +kernel
theorem dX2_init_20 : decode cX2_init 20 = .ok (.aload_n 0, 1) := by decide +kernel
theorem dX2_init_21 : decode cX2_init 21 = .ok (.bipush 64, 2) := by decide +kernel
theorem dX2_init_23 : decode cX2_init 23 = .ok (.newarray .int, 2) := by decide +kernel
theorem dX2_init_25 : decode cX2_init 25 = .ok (.putfield 18, 3) := by decide +kernel
theorem dX2_init_28 : decode cX2_init 28 = .ok (.return_, 1) := by decide +kernel
theorem dX2_add_0 : decode cX2_add 0 = .ok (.aload_n 0, 1) := by decide +kernel
theorem dX2_add_1 : decode cX2_add 1 = .ok (.getfield 21, 3) := by decide +kernel
theorem dX2_add_4 : decode cX2_add 4 = .ok (.ifCond .lt 12, 3) := by decide +kernel
theorem dX2_add_7 : decode cX2_add 7 = .ok (.aload_n 0, 1) := by decide +kernel
theorem dX2_add_8 : decode cX2_add 8 = .ok (.getfield 21, 3) := by decide +kernel
theorem dX2_add_11 : decode cX2_add 11 = .ok (.bipush 6, 2) := by decide +kernel
theorem dX2_add_13 : decode cX2_add 13 = .ok (.if_icmp .lt 5, 3) := by decide +kernel
theorem dX2_add_16 : decode cX2_add 16 = .ok (.iconst 0, 1) := by decide +kernel
theorem dX2_add_17 : decode cX2_add 17 = .ok (.ireturn, 1) := by decide +kernel
theorem dX2_add_18 : decode cX2_add 18 = .ok (.aload_n 0, 1) := by decide +kernel
theorem dX2_add_19 : decode cX2_add 19 = .ok (.getfield 9, 3) := by decide +kernel
theorem dX2_add_22 : decode cX2_add 22 = .ok (.aload_n 0, 1) := by decide +kernel
theorem dX2_add_23 : decode cX2_add 23 = .ok (.getfield 21, 3) := by decide +kernel
theorem dX2_add_26 : decode cX2_add 26 = .ok (.iload_n 1, 1) := by decide +kernel
theorem dX2_add_27 : decode cX2_add 27 = .ok (.iastore, 1) := by decide +kernel
theorem dX2_add_28 : decode cX2_add 28 = .ok (.aload_n 0, 1) := by decide +kernel
theorem dX2_add_29 : decode cX2_add 29 = .ok (.getfield 15, 3) := by decide +kernel
theorem dX2_add_32 : decode cX2_add 32 = .ok (.aload_n 0, 1) := by decide +kernel
theorem dX2_add_33 : decode cX2_add 33 = .ok (.getfield 21, 3) := by decide +kernel
theorem dX2_add_36 : decode cX2_add 36 = .ok (.iload_n 2, 1) := by decide +kernel
theorem dX2_add_37 : decode cX2_add 37 = .ok (.iastore, 1) := by decide +kernel
theorem dX2_add_38 : decode cX2_add 38 = .ok (.aload_n 0, 1) := by decide +kernel
theorem dX2_add_39 : decode cX2_add 39 = .ok (.dup, 1) := by decide +kernel
theorem dX2_add_40 : decode cX2_add 40 = .ok (.getfield 21, 3) := by decide +kernel
theorem dX2_add_43 : decode cX2_add 43 = .ok (.iconst 1, 1) := by decide +kernel
theorem dX2_add_44 : decode cX2_add 44 = .ok (.iadd, 1) := by decide +kernel
theorem dX2_add_45 : decode cX2_add 45 = .ok (.putfield 21, 3) := by decide +kernel
theorem dX2_add_48 : decode cX2_add 48 = .ok (.iconst 1, 1) := by decide +kernel
theorem dX2_add_49 : decode cX2_add 49 = .ok (.ireturn, 1) := by decide +kernel
theorem dX2_setBelow_0 : decode cX2_setBelow 0 = .ok (.iconst 0, 1) := by decide +kernel
theorem dX2_setBelow_1 : decode cX2_setBelow 1 = .ok (.istore_n 3, 1) := by decide +kernel
theorem dX2_setBelow_2 : decode cX2_setBelow 2 = .ok (.iconst 0, 1) := by decide +kernel
theorem dX2_setBelow_3 : decode cX2_setBelow 3 = .ok (.istore 4, 2) := by decide +kernel
theorem dX2_setBelow_5 : decode cX2_setBelow 5 = .ok (.iload 4, 2) := by decide +kernel
theorem dX2_setBelow_7 : decode cX2_setBelow 7 = .ok (.aload_n 0, 1) := by decide +kernel
theorem dX2_setBelow_8 : decode cX2_setBelow 8 = .ok (.getfield 21, 3) := by decide +kernel
theorem dX2_setBelow_11 : decode cX2_setBelow 11 = .ok (.if_icmp .ge 50, 3) := by decide +kernel
theorem dX2_setBelow_14 : decode cX2_setBelow 14 = .ok (.iload 4, 2) := by decide +kernel
theorem dX2_setBelow_16 : decode cX2_setBelow 16 = .ok (.bipush 6, 2) := by decide +kernel
theorem dX2_setBelow_18 : decode cX2_setBelow 18 = .ok (.if_icmp .ge 43, 3) := by decide +kernel
theorem dX2_setBelow_21 : decode cX2_setBelow 21 = .ok (.aload_n 0, 1) := by decide +kernel
theorem dX2_setBelow_22 : decode cX2_setBelow 22 = .ok (.getfield 9, 3) := by decide +kernel
theorem dX2_setBelow_25 : decode cX2_setBelow 25 = .ok (.iload 4, 2) := by decide +kernel
theorem dX2_setBelow_27 : decode cX2_setBelow 27 = .ok (.iaload, 1) := by decide +kernel
theorem dX2_setBelow_28 : decode cX2_setBelow 28 = .ok (.iload_n 1, 1) := by decide +kernel
theorem dX2_setBelow_29 : decode cX2_setBelow 29 = .ok (.if_icmp .ne 26, 3) := by decide +kernel
theorem dX2_setBelow_32 : decode cX2_setBelow 32 = .ok (.aload_n 0, 1) := by decide +kernel
theorem dX2_setBelow_33 : decode cX2_setBelow 33 = .ok (.getfield 15, 3) := by decide +kernel
theorem dX2_setBelow_36 : decode cX2_setBelow 36 = .ok (.iload 4, 2) := by decide +kernel
theorem dX2_setBelow_38 : decode cX2_setBelow 38 = .ok (.iaload, 1) := by decide +kernel
theorem dX2_setBelow_39 : decode cX2_setBelow 39 = .ok (.iload_n 2, 1) := by decide +kernel
theorem dX2_setBelow_40 : decode cX2_setBelow 40 = .ok (.if_icmp .ge 15, 3) := by decide +kernel
theorem dX2_setBelow_43 : decode cX2_setBelow 43 = .ok (.iload_n 3, 1) := by decide +kernel
theorem dX2_setBelow_44 : decode cX2_setBelow 44 = .ok (.iconst 1, 1) := by decide +kernel
theorem dX2_setBelow_45 : decode cX2_setBelow 45 = .ok (.aload_n 0, 1) := by decide +kernel
theorem dX2_setBelow_46 : decode cX2_setBelow 46 = .ok (.getfield 15, 3) := by decide +kernel
theorem dX2_setBelow_49 : decode cX2_setBelow 49 = .ok (.iload 4, 2) := by decide +kernel
theorem dX2_setBelow_51 : decode cX2_setBelow 51 = .ok (.iaload, 1) := by decide +kernel
theorem dX2_setBelow_52 : decode cX2_setBelow 52 = .ok (.ishl, 1) := by decide +kernel
theorem dX2_setBelow_53 : decode cX2_setBelow 53 = .ok (.ior, 1) := by decide +kernel
theorem dX2_setBelow_54 : decode cX2_setBelow 54 = .ok (.istore_n 3, 1) := by decide +kernel
theorem dX2_setBelow_55 : decode cX2_setBelow 55 = .ok (.iinc 4 1, 3) := by decide +kernel
theorem dX2_setBelow_58 : decode cX2_setBelow 58 = .ok (.goto (-53), 3) := by decide +kernel
theorem dX2_setBelow_61 : decode cX2_setBelow 61 = .ok (.iload_n 3, 1) := by decide +kernel
theorem dX2_setBelow_62 : decode cX2_setBelow 62 = .ok (.ireturn, 1) := by decide +kernel
theorem dX2_canFollow_0 : decode cX2_canFollow 0 = .ok (.iload_n 2, 1) := by decide +kernel
theorem dX2_canFollow_1 : decode cX2_canFollow 1 = .ok (.iload_n 1, 1) := by decide +kernel
theorem dX2_canFollow_2 : decode cX2_canFollow 2 = .ok (.ishr, 1) := by decide +kernel
theorem dX2_canFollow_3 : decode cX2_canFollow 3 = .ok (.iconst 1, 1) := by decide +kernel
theorem dX2_canFollow_4 : decode cX2_canFollow 4 = .ok (.iand, 1) := by decide +kernel
theorem dX2_canFollow_5 : decode cX2_canFollow 5 = .ok (.ifCond .ne 20, 3) := by decide +kernel
theorem dX2_canFollow_8 : decode cX2_canFollow 8 = .ok (.aload_n 0, 1) := by decide +kernel
theorem dX2_canFollow_9 : decode cX2_canFollow 9 = .ok (.iload_n 1, 1) := by decide +kernel
theorem dX2_canFollow_10 : decode cX2_canFollow 10 = .ok (.iload_n 3, 1) := by decide +kernel
theorem dX2_canFollow_11 : decode cX2_canFollow 11 = .ok (.invokevirtual 25, 3) := by decide +kernel
theorem dX2_canFollow_14 : decode cX2_canFollow 14 = .ok (.iload_n 2, 1) := by decide +kernel
theorem dX2_canFollow_15 : decode cX2_canFollow 15 = .ok (.iconst (-1), 1) := by decide +kernel
theorem dX2_canFollow_16 : decode cX2_canFollow 16 = .ok (.ixor, 1) := by decide +kernel
theorem dX2_canFollow_17 : decode cX2_canFollow 17 = .ok (.iand, 1) := by decide +kernel
theorem dX2_canFollow_18 : decode cX2_canFollow 18 = .ok (.ifCond .ne 7, 3) := by decide +kernel
theorem dX2_canFollow_21 : decode cX2_canFollow 21 = .ok (.iconst 1, 1) := by decide +kernel
theorem dX2_canFollow_22 : decode cX2_canFollow 22 = .ok (.goto 4, 3) := by decide +kernel
theorem dX2_canFollow_25 : decode cX2_canFollow 25 = .ok (.iconst 0, 1) := by decide +kernel
theorem dX2_canFollow_26 : decode cX2_canFollow 26 = .ok (.ireturn, 1) := by decide +kernel
theorem dX2_howManyOrders_0 : decode cX2_howManyOrders 0 = .ok (.bipush 64, 2) := by decide +kernel
theorem dX2_howManyOrders_2 : decode cX2_howManyOrders 2 = .ok (.iconst 1, 1) := by decide +kernel
theorem dX2_howManyOrders_3 : decode cX2_howManyOrders 3 = .ok (.iload_n 1, 1) := by decide +kernel
theorem dX2_howManyOrders_4 : decode cX2_howManyOrders 4 = .ok (.ishl, 1) := by decide +kernel
theorem dX2_howManyOrders_5 : decode cX2_howManyOrders 5 = .ok (.invokestatic 29, 3) := by decide +kernel
theorem dX2_howManyOrders_8 : decode cX2_howManyOrders 8 = .ok (.istore_n 2, 1) := by decide +kernel
theorem dX2_howManyOrders_9 : decode cX2_howManyOrders 9 = .ok (.aload_n 0, 1) := by decide +kernel
theorem dX2_howManyOrders_10 : decode cX2_howManyOrders 10 = .ok (.getfield 18, 3) := by decide +kernel
theorem dX2_howManyOrders_13 : decode cX2_howManyOrders 13 = .ok (.iconst 0, 1) := by decide +kernel
theorem dX2_howManyOrders_14 : decode cX2_howManyOrders 14 = .ok (.iconst 1, 1) := by decide +kernel
theorem dX2_howManyOrders_15 : decode cX2_howManyOrders 15 = .ok (.iastore, 1) := by decide +kernel
theorem dX2_howManyOrders_16 : decode cX2_howManyOrders 16 = .ok (.iconst 1, 1) := by decide +kernel
theorem dX2_howManyOrders_17 : decode cX2_howManyOrders 17 = .ok (.istore_n 3, 1) := by decide +kernel
theorem dX2_howManyOrders_18 : decode cX2_howManyOrders 18 = .ok (.iload_n 3, 1) := by decide +kernel
theorem dX2_howManyOrders_19 : decode cX2_howManyOrders 19 = .ok (.iload_n 2, 1) := by decide +kernel
theorem dX2_howManyOrders_20 : decode cX2_howManyOrders 20 = .ok (.if_icmp .ge 75, 3) := by decide +kernel
theorem dX2_howManyOrders_23 : decode cX2_howManyOrders 23 = .ok (.aload_n 0, 1) := by decide +kernel
theorem dX2_howManyOrders_24 : decode cX2_howManyOrders 24 = .ok (.getfield 18, 3) := by decide +kernel
theorem dX2_howManyOrders_27 : decode cX2_howManyOrders 27 = .ok (.iload_n 3, 1) := by decide +kernel
theorem dX2_howManyOrders_28 : decode cX2_howManyOrders 28 = .ok (.iconst 0, 1) := by decide +kernel
theorem dX2_howManyOrders_29 : decode cX2_howManyOrders 29 = .ok (.iastore, 1) := by decide +kernel
theorem dX2_howManyOrders_30 : decode cX2_howManyOrders 30 = .ok (.iconst 0, 1) := by decide +kernel
theorem dX2_howManyOrders_31 : decode cX2_howManyOrders 31 = .ok (.istore 4, 2) := by decide +kernel
theorem dX2_howManyOrders_33 : decode cX2_howManyOrders 33 = .ok (.iload 4, 2) := by decide +kernel
theorem dX2_howManyOrders_35 : decode cX2_howManyOrders 35 = .ok (.iload_n 1, 1) := by decide +kernel
theorem dX2_howManyOrders_36 : decode cX2_howManyOrders 36 = .ok (.if_icmp .ge 53, 3) := by decide +kernel
theorem dX2_howManyOrders_39 : decode cX2_howManyOrders 39 = .ok (.iload_n 3, 1) := by decide +kernel
theorem dX2_howManyOrders_40 : decode cX2_howManyOrders 40 = .ok (.iconst 1, 1) := by decide +kernel
theorem dX2_howManyOrders_41 : decode cX2_howManyOrders 41 = .ok (.iload 4, 2) := by decide +kernel
theorem dX2_howManyOrders_43 : decode cX2_howManyOrders 43 = .ok (.ishl, 1) := by decide +kernel
theorem dX2_howManyOrders_44 : decode cX2_howManyOrders 44 = .ok (.iconst (-1), 1) := by decide +kernel
theorem dX2_howManyOrders_45 : decode cX2_howManyOrders 45 = .ok (.ixor, 1) := by decide +kernel
theorem dX2_howManyOrders_46 : decode cX2_howManyOrders 46 = .ok (.iand, 1) := by decide +kernel
theorem dX2_howManyOrders_47 : decode cX2_howManyOrders 47 = .ok (.istore 5, 2) := by decide +kernel
theorem dX2_howManyOrders_49 : decode cX2_howManyOrders 49 = .ok (.iload 5, 2) := by decide +kernel
theorem dX2_howManyOrders_51 : decode cX2_howManyOrders 51 = .ok (.iload_n 3, 1) := by decide +kernel
theorem dX2_howManyOrders_52 : decode cX2_howManyOrders 52 = .ok (.if_icmp .eq 31, 3) := by decide +kernel
theorem dX2_howManyOrders_55 : decode cX2_howManyOrders 55 = .ok (.aload_n 0, 1) := by decide +kernel
theorem dX2_howManyOrders_56 : decode cX2_howManyOrders 56 = .ok (.iload 4, 2) := by decide +kernel
theorem dX2_howManyOrders_58 : decode cX2_howManyOrders 58 = .ok (.iload 5, 2) := by decide +kernel
theorem dX2_howManyOrders_60 : decode cX2_howManyOrders 60 = .ok (.iload_n 1, 1) := by decide +kernel
theorem dX2_howManyOrders_61 : decode cX2_howManyOrders 61 = .ok (.invokevirtual 34, 3) := by decide +kernel
theorem dX2_howManyOrders_64 : decode cX2_howManyOrders 64 = .ok (.ifCond .eq 19, 3) := by decide +kernel
theorem dX2_howManyOrders_67 : decode cX2_howManyOrders 67 = .ok (.aload_n 0, 1) := by decide +kernel
theorem dX2_howManyOrders_68 : decode cX2_howManyOrders 68 = .ok (.getfield 18, 3) := by decide +kernel
theorem dX2_howManyOrders_71 : decode cX2_howManyOrders 71 = .ok (.iload_n 3, 1) := by decide +kernel
theorem dX2_howManyOrders_72 : decode cX2_howManyOrders 72 = .ok (.dup2, 1) := by decide +kernel
theorem dX2_howManyOrders_73 : decode cX2_howManyOrders 73 = .ok (.iaload, 1) := by decide +kernel
theorem dX2_howManyOrders_74 : decode cX2_howManyOrders 74 = .ok (.aload_n 0, 1) := by decide +kernel
theorem dX2_howManyOrders_75 : decode cX2_howManyOrders 75 = .ok (.getfield 18, 3) := by decide +kernel
theorem dX2_howManyOrders_78 : decode cX2_howManyOrders 78 = .ok (.iload 5, 2) := by decide +kernel
theorem dX2_howManyOrders_80 : decode cX2_howManyOrders 80 = .ok (.iaload, 1) := by decide +kernel
theorem dX2_howManyOrders_81 : decode cX2_howManyOrders 81 = .ok (.iadd, 1) := by decide +kernel
theorem dX2_howManyOrders_82 : decode cX2_howManyOrders 82 = .ok (.iastore, 1) := by decide +kernel
theorem dX2_howManyOrders_83 : decode cX2_howManyOrders 83 = .ok (.iinc 4 1, 3) := by decide +kernel
theorem dX2_howManyOrders_86 : decode cX2_howManyOrders 86 = .ok (.goto (-53), 3) := by decide +kernel
theorem dX2_howManyOrders_89 : decode cX2_howManyOrders 89 = .ok (.iinc 3 1, 3) := by decide +kernel
theorem dX2_howManyOrders_92 : decode cX2_howManyOrders 92 = .ok (.goto (-74), 3) := by decide +kernel
theorem dX2_howManyOrders_95 : decode cX2_howManyOrders 95 = .ok (.iload_n 2, 1) := by decide +kernel
theorem dX2_howManyOrders_96 : decode cX2_howManyOrders 96 = .ok (.ifCond .le 14, 3) := by decide +kernel
theorem dX2_howManyOrders_99 : decode cX2_howManyOrders 99 = .ok (.aload_n 0, 1) := by decide +kernel
theorem dX2_howManyOrders_100 : decode cX2_howManyOrders 100 = .ok (.getfield 18, 3) := by decide +kernel
theorem dX2_howManyOrders_103 : decode cX2_howManyOrders 103 = .ok (.iload_n 2, 1) := by decide +kernel
theorem dX2_howManyOrders_104 : decode cX2_howManyOrders 104 = .ok (.iconst 1, 1) := by decide +kernel
theorem dX2_howManyOrders_105 : decode cX2_howManyOrders 105 = .ok (.isub, 1) := by decide +kernel
theorem dX2_howManyOrders_106 : decode cX2_howManyOrders 106 = .ok (.iaload, 1) := by decide +kernel
theorem dX2_howManyOrders_107 : decode cX2_howManyOrders 107 = .ok (.goto 4, 3) := by decide +kernel
theorem dX2_howManyOrders_110 : decode cX2_howManyOrders 110 = .ok (.iconst 0, 1) := by decide +kernel
theorem dX2_howManyOrders_111 : decode cX2_howManyOrders 111 = .ok (.ireturn, 1) := by decide +kernel
theorem dX2_firstOrder_0 : decode cX2_firstOrder 0 = .ok (.iconst 0, 1) := by decide +kernel
theorem dX2_firstOrder_1 : decode cX2_firstOrder 1 = .ok (.istore_n 2, 1) := by decide +kernel
theorem dX2_firstOrder_2 : decode cX2_firstOrder 2 = .ok (.iconst 0, 1) := by decide +kernel
theorem dX2_firstOrder_3 : decode cX2_firstOrder 3 = .ok (.istore_n 3, 1) := by decide +kernel
theorem dX2_firstOrder_4 : decode cX2_firstOrder 4 = .ok (.iconst 0, 1) := by decide +kernel
theorem dX2_firstOrder_5 : decode cX2_firstOrder 5 = .ok (.istore 4, 2) := by decide +kernel
theorem dX2_firstOrder_7 : decode cX2_firstOrder 7 = .ok (.iload 4, 2) := by decide +kernel
theorem dX2_firstOrder_9 : decode cX2_firstOrder 9 = .ok (.iload_n 1, 1) := by decide +kernel
theorem dX2_firstOrder_10 : decode cX2_firstOrder 10 = .ok (.if_icmp .ge 44, 3) := by decide +kernel
theorem dX2_firstOrder_13 : decode cX2_firstOrder 13 = .ok (.aload_n 0, 1) := by decide +kernel
theorem dX2_firstOrder_14 : decode cX2_firstOrder 14 = .ok (.iload_n 2, 1) := by decide +kernel
theorem dX2_firstOrder_15 : decode cX2_firstOrder 15 = .ok (.iload_n 1, 1) := by decide +kernel
theorem dX2_firstOrder_16 : decode cX2_firstOrder 16 = .ok (.invokevirtual 38, 3) := by decide +kernel
theorem dX2_firstOrder_19 : decode cX2_firstOrder 19 = .ok (.istore 5, 2) := by decide +kernel
theorem dX2_firstOrder_21 : decode cX2_firstOrder 21 = .ok (.iload 5, 2) := by decide +kernel
theorem dX2_firstOrder_23 : decode cX2_firstOrder 23 = .ok (.bipush (-9), 2) := by decide +kernel
theorem dX2_firstOrder_25 : decode cX2_firstOrder 25 = .ok (.if_icmp .ne 6, 3) := by decide +kernel
theorem dX2_firstOrder_28 : decode cX2_firstOrder 28 = .ok (.bipush (-9), 2) := by decide +kernel
theorem dX2_firstOrder_30 : decode cX2_firstOrder 30 = .ok (.ireturn, 1) := by decide +kernel
theorem dX2_firstOrder_31 : decode cX2_firstOrder 31 = .ok (.iload_n 2, 1) := by decide +kernel
theorem dX2_firstOrder_32 : decode cX2_firstOrder 32 = .ok (.iconst 1, 1) := by decide +kernel
theorem dX2_firstOrder_33 : decode cX2_firstOrder 33 = .ok (.iload 5, 2) := by decide +kernel
theorem dX2_firstOrder_35 : decode cX2_firstOrder 35 = .ok (.ishl, 1) := by decide +kernel
theorem dX2_firstOrder_36 : decode cX2_firstOrder 36 = .ok (.ior, 1) := by decide +kernel
theorem dX2_firstOrder_37 : decode cX2_firstOrder 37 = .ok (.istore_n 2, 1) := by decide +kernel
theorem dX2_firstOrder_38 : decode cX2_firstOrder 38 = .ok (.bipush 10, 2) := by decide +kernel
theorem dX2_firstOrder_40 : decode cX2_firstOrder 40 = .ok (.iload_n 3, 1) := by decide +kernel
theorem dX2_firstOrder_41 : decode cX2_firstOrder 41 = .ok (.imul, 1) := by decide +kernel
theorem dX2_firstOrder_42 : decode cX2_firstOrder 42 = .ok (.iload 5, 2) := by decide +kernel
theorem dX2_firstOrder_44 : decode cX2_firstOrder 44 = .ok (.iadd, 1) := by decide +kernel
theorem dX2_firstOrder_45 : decode cX2_firstOrder 45 = .ok (.iconst 1, 1) := by decide +kernel
theorem dX2_firstOrder_46 : decode cX2_firstOrder 46 = .ok (.iadd, 1) := by decide +kernel
theorem dX2_firstOrder_47 : decode cX2_firstOrder 47 = .ok (.istore_n 3, 1) := by decide +kernel
theorem dX2_firstOrder_48 : decode cX2_firstOrder 48 = .ok (.iinc 4 1, 3) := by decide +kernel
theorem dX2_firstOrder_51 : decode cX2_firstOrder 51 = .ok (.goto (-44), 3) := by decide +kernel
theorem dX2_firstOrder_54 : decode cX2_firstOrder 54 = .ok (.iload_n 3, 1) := by decide +kernel
theorem dX2_firstOrder_55 : decode cX2_firstOrder 55 = .ok (.ireturn, 1) := by decide +kernel
theorem dX2_leastNext_0 : decode cX2_leastNext 0 = .ok (.iconst 0, 1) := by decide +kernel
theorem dX2_leastNext_1 : decode cX2_leastNext 1 = .ok (.istore_n 3, 1) := by decide +kernel
theorem dX2_leastNext_2 : decode cX2_leastNext 2 = .ok (.iload_n 3, 1) := by decide +kernel
theorem dX2_leastNext_3 : decode cX2_leastNext 3 = .ok (.iload_n 2, 1) := by decide +kernel
theorem dX2_leastNext_4 : decode cX2_leastNext 4 = .ok (.if_icmp .ge 21, 3) := by decide +kernel
theorem dX2_leastNext_7 : decode cX2_leastNext 7 = .ok (.aload_n 0, 1) := by decide +kernel
theorem dX2_leastNext_8 : decode cX2_leastNext 8 = .ok (.iload_n 3, 1) := by decide +kernel
theorem dX2_leastNext_9 : decode cX2_leastNext 9 = .ok (.iload_n 1, 1) := by decide +kernel
theorem dX2_leastNext_10 : decode cX2_leastNext 10 = .ok (.iload_n 2, 1) := by decide +kernel
theorem dX2_leastNext_11 : decode cX2_leastNext 11 = .ok (.invokevirtual 34, 3) := by decide +kernel
theorem dX2_leastNext_14 : decode cX2_leastNext 14 = .ok (.ifCond .eq 5, 3) := by decide +kernel
theorem dX2_leastNext_17 : decode cX2_leastNext 17 = .ok (.iload_n 3, 1) := by decide +kernel
theorem dX2_leastNext_18 : decode cX2_leastNext 18 = .ok (.ireturn, 1) := by decide +kernel
theorem dX2_leastNext_19 : decode cX2_leastNext 19 = .ok (.iinc 3 1, 3) := by decide +kernel
theorem dX2_leastNext_22 : decode cX2_leastNext 22 = .ok (.goto (-20), 3) := by decide +kernel
theorem dX2_leastNext_25 : decode cX2_leastNext 25 = .ok (.bipush (-9), 2) := by decide +kernel
theorem dX2_leastNext_27 : decode cX2_leastNext 27 = .ok (.ireturn, 1) := by decide +kernel
theorem dX3_init_0 : decode cX3_init 0 = .ok (.aload_n 0, 1) := by decide +kernel
theorem dX3_init_1 : decode cX3_init 1 = .ok (.invokespecial 3, 3) := by decide +kernel
theorem dX3_init_4 : decode cX3_init 4 = .ok (.aload_n 0, 1) := by decide +kernel
theorem dX3_init_5 : decode cX3_init 5 = .ok (.bipush 12, 2) := by decide +kernel
theorem dX3_init_7 : decode cX3_init 7 = .ok (.newarray .int, 2) := by decide +kernel
theorem dX3_init_9 : decode cX3_init 9 = .ok (.putfield 9, 3) := by decide +kernel
theorem dX3_init_12 : decode cX3_init 12 = .ok (.aload_n 0, 1) := by decide +kernel
theorem dX3_init_13 : decode cX3_init 13 = .ok (.bipush 12, 2) := by decide +kernel
theorem dX3_init_15 : decode cX3_init 15 = .ok (.newarray .int, 2) := by decide +kernel
theorem dX3_init_17 : decode cX3_init 17 = .ok (.putfield 15, 3) := by decide +kernel
theorem dX3_init_20 : decode cX3_init 20 = .ok (.aload_n 0, 1) := by decide +kernel
theorem dX3_init_21 : decode cX3_init 21 = .ok (.invokevirtual 18, 3) := by decide +kernel
theorem dX3_init_24 : decode cX3_init 24 = .ok (.return_, 1) := by decide +kernel
theorem dX3_renew_0 : decode cX3_renew 0 = .ok (.iconst 0, 1) := by decide +kernel
theorem dX3_renew_1 : decode cX3_renew 1 = .ok (.istore_n 1, 1) := by decide +kernel
theorem dX3_renew_2 : decode cX3_renew 2 = .ok (.iload_n 1, 1) := by decide +kernel
theorem dX3_renew_3 : decode cX3_renew 3 = .ok (.bipush 12, 2) := by decide +kernel
theorem dX3_renew_5 : decode cX3_renew 5 = .ok (.if_icmp .ge 14, 3) := by decide +kernel
theorem dX3_renew_8 : decode cX3_renew 8 = .ok (.aload_n 0, 1) := by decide +kernel
theorem dX3_renew_9 : decode cX3_renew 9 = .ok (.iload_n 1, 1) := by decide +kernel
theorem dX3_renew_10 : decode cX3_renew 10 = .ok (.invokevirtual 21, 3) := by decide +kernel
theorem dX3_renew_13 : decode cX3_renew 13 = .ok (.iinc 1 1, 3) := by decide +kernel
theorem dX3_renew_16 : decode cX3_renew 16 = .ok (.goto (-14), 3) := by decide +kernel
theorem dX3_renew_19 : decode cX3_renew 19 = .ok (.return_, 1) := by decide +kernel
theorem dX3_clean_0 : decode cX3_clean 0 = .ok (.iload_n 1, 1) := by decide +kernel
theorem dX3_clean_1 : decode cX3_clean 1 = .ok (.invokestatic 25, 3) := by decide +kernel
theorem dX3_clean_4 : decode cX3_clean 4 = .ok (.ifCond .eq 18, 3) := by decide +kernel
theorem dX3_clean_7 : decode cX3_clean 7 = .ok (.aload_n 0, 1) := by decide +kernel
theorem dX3_clean_8 : decode cX3_clean 8 = .ok (.getfield 9, 3) := by decide +kernel
theorem dX3_clean_11 : decode cX3_clean 11 = .ok (.iload_n 1, 1) := by decide +kernel
theorem dX3_clean_12 : decode cX3_clean 12 = .ok (.iconst 0, 1) := by decide +kernel
theorem dX3_clean_13 : decode cX3_clean 13 = .ok (.iastore, 1) := by decide +kernel
theorem dX3_clean_14 : decode cX3_clean 14 = .ok (.aload_n 0, 1) := by decide +kernel
theorem dX3_clean_15 : decode cX3_clean 15 = .ok (.getfield 15, 3) := by decide +kernel
theorem dX3_clean_18 : decode cX3_clean 18 = .ok (.iload_n 1, 1) := by decide +kernel
theorem dX3_clean_19 : decode cX3_clean 19 = .ok (.bipush (-9), 2) := by decide +kernel
theorem dX3_clean_21 : decode cX3_clean 21 = .ok (.iastore, 1) := by decide +kernel
theorem dX3_clean_22 : decode cX3_clean 22 = .ok (.return_, 1) := by decide +kernel
theorem dX3_addInk_0 : decode cX3_addInk 0 = .ok (.iconst 0, 1) := by decide +kernel
theorem dX3_addInk_1 : decode cX3_addInk 1 = .ok (.istore 4, 2) := by decide +kernel
theorem dX3_addInk_3 : decode cX3_addInk 3 = .ok (.iload 4, 2) := by decide +kernel
theorem dX3_addInk_5 : decode cX3_addInk 5 = .ok (.bipush 12, 2) := by decide +kernel
theorem dX3_addInk_7 : decode cX3_addInk 7 = .ok (.if_icmp .ge 52, 3) := by decide +kernel
theorem dX3_addInk_10 : decode cX3_addInk 10 = .ok (.iload_n 2, 1) := by decide +kernel
theorem dX3_addInk_11 : decode cX3_addInk 11 = .ok (.ifCond .le 42, 3) := by decide +kernel
theorem dX3_addInk_14 : decode cX3_addInk 14 = .ok (.iload_n 1, 1) := by decide +kernel
theorem dX3_addInk_15 : decode cX3_addInk 15 = .ok (.iload 4, 2) := by decide +kernel
theorem dX3_addInk_17 : decode cX3_addInk 17 = .ok (.ishr, 1) := by decide +kernel
theorem dX3_addInk_18 : decode cX3_addInk 18 = .ok (.iconst 1, 1) := by decide +kernel
theorem dX3_addInk_19 : decode cX3_addInk 19 = .ok (.iand, 1) := by decide +kernel
theorem dX3_addInk_20 : decode cX3_addInk 20 = .ok (.iconst 1, 1) := by decide +kernel
theorem dX3_addInk_21 : decode cX3_addInk 21 = .ok (.if_icmp .ne 32, 3) := by decide +kernel
theorem dX3_addInk_24 : decode cX3_addInk 24 = .ok (.aload_n 0, 1) := by decide +kernel
theorem dX3_addInk_25 : decode cX3_addInk 25 = .ok (.getfield 9, 3) := by decide +kernel
theorem dX3_addInk_28 : decode cX3_addInk 28 = .ok (.iload 4, 2) := by decide +kernel
theorem dX3_addInk_30 : decode cX3_addInk 30 = .ok (.bipush 9, 2) := by decide +kernel
theorem dX3_addInk_32 : decode cX3_addInk 32 = .ok (.aload_n 0, 1) := by decide +kernel
theorem dX3_addInk_33 : decode cX3_addInk 33 = .ok (.getfield 9, 3) := by decide +kernel
theorem dX3_addInk_36 : decode cX3_addInk 36 = .ok (.iload 4, 2) := by decide +kernel
theorem dX3_addInk_38 : decode cX3_addInk 38 = .ok (.iaload, 1) := by decide +kernel
theorem dX3_addInk_39 : decode cX3_addInk 39 = .ok (.iload_n 2, 1) := by decide +kernel
theorem dX3_addInk_40 : decode cX3_addInk 40 = .ok (.iadd, 1) := by decide +kernel
theorem dX3_addInk_41 : decode cX3_addInk 41 = .ok (.invokestatic 29, 3) := by decide +kernel
theorem dX3_addInk_44 : decode cX3_addInk 44 = .ok (.iastore, 1) := by decide +kernel
theorem dX3_addInk_45 : decode cX3_addInk 45 = .ok (.aload_n 0, 1) := by decide +kernel
theorem dX3_addInk_46 : decode cX3_addInk 46 = .ok (.getfield 15, 3) := by decide +kernel
theorem dX3_addInk_49 : decode cX3_addInk 49 = .ok (.iload 4, 2) := by decide +kernel
theorem dX3_addInk_51 : decode cX3_addInk 51 = .ok (.iload_n 3, 1) := by decide +kernel
theorem dX3_addInk_52 : decode cX3_addInk 52 = .ok (.iastore, 1) := by decide +kernel
theorem dX3_addInk_53 : decode cX3_addInk 53 = .ok (.iinc 4 1, 3) := by decide +kernel
theorem dX3_addInk_56 : decode cX3_addInk 56 = .ok (.goto (-53), 3) := by decide +kernel
theorem dX3_addInk_59 : decode cX3_addInk 59 = .ok (.return_, 1) := by decide +kernel
theorem dX3_dry_0 : decode cX3_dry 0 = .ok (.iconst 0, 1) := by decide +kernel
theorem dX3_dry_1 : decode cX3_dry 1 = .ok (.istore_n 1, 1) := by decide +kernel
theorem dX3_dry_2 : decode cX3_dry 2 = .ok (.iload_n 1, 1) := by decide +kernel
theorem dX3_dry_3 : decode cX3_dry 3 = .ok (.bipush 12, 2) := by decide +kernel
theorem dX3_dry_5 : decode cX3_dry 5 = .ok (.if_icmp .ge 37, 3) := by decide +kernel
theorem dX3_dry_8 : decode cX3_dry 8 = .ok (.aload_n 0, 1) := by decide +kernel
theorem dX3_dry_9 : decode cX3_dry 9 = .ok (.getfield 9, 3) := by decide +kernel
theorem dX3_dry_12 : decode cX3_dry 12 = .ok (.iload_n 1, 1) := by decide +kernel
theorem dX3_dry_13 : decode cX3_dry 13 = .ok (.iaload, 1) := by decide +kernel
theorem dX3_dry_14 : decode cX3_dry 14 = .ok (.iconst 1, 1) := by decide +kernel
theorem dX3_dry_15 : decode cX3_dry 15 = .ok (.if_icmp .le 16, 3) := by decide +kernel
theorem dX3_dry_18 : decode cX3_dry 18 = .ok (.aload_n 0, 1) := by decide +kernel
theorem dX3_dry_19 : decode cX3_dry 19 = .ok (.getfield 9, 3) := by decide +kernel
theorem dX3_dry_22 : decode cX3_dry 22 = .ok (.iload_n 1, 1) := by decide +kernel
theorem dX3_dry_23 : decode cX3_dry 23 = .ok (.dup2, 1) := by decide +kernel
theorem dX3_dry_24 : decode cX3_dry 24 = .ok (.iaload, 1) := by decide +kernel
theorem dX3_dry_25 : decode cX3_dry 25 = .ok (.iconst 1, 1) := by decide +kernel
theorem dX3_dry_26 : decode cX3_dry 26 = .ok (.isub, 1) := by decide +kernel
theorem dX3_dry_27 : decode cX3_dry 27 = .ok (.iastore, 1) := by decide +kernel
theorem dX3_dry_28 : decode cX3_dry 28 = .ok (.goto 8, 3) := by decide +kernel
theorem dX3_dry_31 : decode cX3_dry 31 = .ok (.aload_n 0, 1) := by decide +kernel
theorem dX3_dry_32 : decode cX3_dry 32 = .ok (.iload_n 1, 1) := by decide +kernel
theorem dX3_dry_33 : decode cX3_dry 33 = .ok (.invokevirtual 21, 3) := by decide +kernel
theorem dX3_dry_36 : decode cX3_dry 36 = .ok (.iinc 1 1, 3) := by decide +kernel
theorem dX3_dry_39 : decode cX3_dry 39 = .ok (.goto (-37), 3) := by decide +kernel
theorem dX3_dry_42 : decode cX3_dry 42 = .ok (.aload_n 0, 1) := by decide +kernel
theorem dX3_dry_43 : decode cX3_dry 43 = .ok (.dup, 1) := by decide +kernel
theorem dX3_dry_44 : decode cX3_dry 44 = .ok (.getfield 35, 3) := by decide +kernel
theorem dX3_dry_47 : decode cX3_dry 47 = .ok (.iconst 1, 1) := by decide +kernel
theorem dX3_dry_48 : decode cX3_dry 48 = .ok (.iadd, 1) := by decide +kernel
theorem dX3_dry_49 : decode cX3_dry 49 = .ok (.putfield 35, 3) := by decide +kernel
theorem dX3_dry_52 : decode cX3_dry 52 = .ok (.return_, 1) := by decide +kernel
theorem dX3_inkAt_0 : decode cX3_inkAt 0 = .ok (.iload_n 1, 1) := by decide +kernel
theorem dX3_inkAt_1 : decode cX3_inkAt 1 = .ok (.invokestatic 25, 3) := by decide +kernel
theorem dX3_inkAt_4 : decode cX3_inkAt 4 = .ok (.ifCond .eq 12, 3) := by decide +kernel
theorem dX3_inkAt_7 : decode cX3_inkAt 7 = .ok (.aload_n 0, 1) := by decide +kernel
theorem dX3_inkAt_8 : decode cX3_inkAt 8 = .ok (.getfield 9, 3) := by decide +kernel
theorem dX3_inkAt_11 : decode cX3_inkAt 11 = .ok (.iload_n 1, 1) := by decide +kernel
theorem dX3_inkAt_12 : decode cX3_inkAt 12 = .ok (.iaload, 1) := by decide +kernel
theorem dX3_inkAt_13 : decode cX3_inkAt 13 = .ok (.goto 4, 3) := by decide +kernel
theorem dX3_inkAt_16 : decode cX3_inkAt 16 = .ok (.iconst 0, 1) := by decide +kernel
theorem dX3_inkAt_17 : decode cX3_inkAt 17 = .ok (.ireturn, 1) := by decide +kernel
theorem dX3_topAt_0 : decode cX3_topAt 0 = .ok (.iload_n 1, 1) := by decide +kernel
theorem dX3_topAt_1 : decode cX3_topAt 1 = .ok (.invokestatic 25, 3) := by decide +kernel
theorem dX3_topAt_4 : decode cX3_topAt 4 = .ok (.ifCond .eq 12, 3) := by decide +kernel
theorem dX3_topAt_7 : decode cX3_topAt 7 = .ok (.aload_n 0, 1) := by decide +kernel
theorem dX3_topAt_8 : decode cX3_topAt 8 = .ok (.getfield 15, 3) := by decide +kernel
theorem dX3_topAt_11 : decode cX3_topAt 11 = .ok (.iload_n 1, 1) := by decide +kernel
theorem dX3_topAt_12 : decode cX3_topAt 12 = .ok (.iaload, 1) := by decide +kernel
theorem dX3_topAt_13 : decode cX3_topAt 13 = .ok (.goto 5, 3) := by decide +kernel
theorem dX3_topAt_16 : decode cX3_topAt 16 = .ok (.bipush (-9), 2) := by decide +kernel
theorem dX3_topAt_18 : decode cX3_topAt 18 = .ok (.ireturn, 1) := by decide +kernel
theorem dX3_shownIn_0 : decode cX3_shownIn 0 = .ok (.iconst 0, 1) := by decide +kernel
theorem dX3_shownIn_1 : decode cX3_shownIn 1 = .ok (.istore_n 2, 1) := by decide +kernel
theorem dX3_shownIn_2 : decode cX3_shownIn 2 = .ok (.iconst 0, 1) := by decide +kernel
theorem dX3_shownIn_3 : decode cX3_shownIn 3 = .ok (.istore_n 3, 1) := by decide +kernel
theorem dX3_shownIn_4 : decode cX3_shownIn 4 = .ok (.iload_n 3, 1) := by decide +kernel
theorem dX3_shownIn_5 : decode cX3_shownIn 5 = .ok (.bipush 12, 2) := by decide +kernel
theorem dX3_shownIn_7 : decode cX3_shownIn 7 = .ok (.if_icmp .ge 25, 3) := by decide +kernel
theorem dX3_shownIn_10 : decode cX3_shownIn 10 = .ok (.aload_n 0, 1) := by decide +kernel
theorem dX3_shownIn_11 : decode cX3_shownIn 11 = .ok (.getfield 9, 3) := by decide +kernel
theorem dX3_shownIn_14 : decode cX3_shownIn 14 = .ok (.iload_n 3, 1) := by decide +kernel
theorem dX3_shownIn_15 : decode cX3_shownIn 15 = .ok (.iaload, 1) := by decide +kernel
theorem dX3_shownIn_16 : decode cX3_shownIn 16 = .ok (.iload_n 1, 1) := by decide +kernel
theorem dX3_shownIn_17 : decode cX3_shownIn 17 = .ok (.if_icmp .le 9, 3) := by decide +kernel
theorem dX3_shownIn_20 : decode cX3_shownIn 20 = .ok (.iload_n 2, 1) := by decide +kernel
theorem dX3_shownIn_21 : decode cX3_shownIn 21 = .ok (.iconst 1, 1) := by decide +kernel
theorem dX3_shownIn_22 : decode cX3_shownIn 22 = .ok (.iload_n 3, 1) := by decide +kernel
theorem dX3_shownIn_23 : decode cX3_shownIn 23 = .ok (.ishl, 1) := by decide +kernel
theorem dX3_shownIn_24 : decode cX3_shownIn 24 = .ok (.ior, 1) := by decide +kernel
theorem dX3_shownIn_25 : decode cX3_shownIn 25 = .ok (.istore_n 2, 1) := by decide +kernel
theorem dX3_shownIn_26 : decode cX3_shownIn 26 = .ok (.iinc 3 1, 3) := by decide +kernel
theorem dX3_shownIn_29 : decode cX3_shownIn 29 = .ok (.goto (-25), 3) := by decide +kernel
theorem dX3_shownIn_32 : decode cX3_shownIn 32 = .ok (.iload_n 2, 1) := by decide +kernel
theorem dX3_shownIn_33 : decode cX3_shownIn 33 = .ok (.ireturn, 1) := by decide +kernel
theorem dX3_allInk_0 : decode cX3_allInk 0 = .ok (.iconst 0, 1) := by decide +kernel
theorem dX3_allInk_1 : decode cX3_allInk 1 = .ok (.istore_n 1, 1) := by decide +kernel
theorem dX3_allInk_2 : decode cX3_allInk 2 = .ok (.iconst 0, 1) := by decide +kernel
theorem dX3_allInk_3 : decode cX3_allInk 3 = .ok (.istore_n 2, 1) := by decide +kernel
theorem dX3_allInk_4 : decode cX3_allInk 4 = .ok (.iload_n 2, 1) := by decide +kernel
theorem dX3_allInk_5 : decode cX3_allInk 5 = .ok (.bipush 12, 2) := by decide +kernel
theorem dX3_allInk_7 : decode cX3_allInk 7 = .ok (.if_icmp .ge 18, 3) := by decide +kernel
theorem dX3_allInk_10 : decode cX3_allInk 10 = .ok (.iload_n 1, 1) := by decide +kernel
theorem dX3_allInk_11 : decode cX3_allInk 11 = .ok (.aload_n 0, 1) := by decide +kernel
theorem dX3_allInk_12 : decode cX3_allInk 12 = .ok (.getfield 9, 3) := by decide +kernel
theorem dX3_allInk_15 : decode cX3_allInk 15 = .ok (.iload_n 2, 1) := by decide +kernel
theorem dX3_allInk_16 : decode cX3_allInk 16 = .ok (.iaload, 1) := by decide +kernel
theorem dX3_allInk_17 : decode cX3_allInk 17 = .ok (.iadd, 1) := by decide +kernel
theorem dX3_allInk_18 : decode cX3_allInk 18 = .ok (.istore_n 1, 1) := by decide +kernel
theorem dX3_allInk_19 : decode cX3_allInk 19 = .ok (.iinc 2 1, 3) := by decide +kernel
theorem dX3_allInk_22 : decode cX3_allInk 22 = .ok (.goto (-18), 3) := by decide +kernel
theorem dX3_allInk_25 : decode cX3_allInk 25 = .ok (.iload_n 1, 1) := by decide +kernel
theorem dX3_allInk_26 : decode cX3_allInk 26 = .ok (.ireturn, 1) := by decide +kernel
theorem dX3_onTop_0 : decode cX3_onTop 0 = .ok (.iconst 0, 1) := by decide +kernel
theorem dX3_onTop_1 : decode cX3_onTop 1 = .ok (.istore_n 1, 1) := by decide +kernel
theorem dX3_onTop_2 : decode cX3_onTop 2 = .ok (.iconst 0, 1) := by decide +kernel
theorem dX3_onTop_3 : decode cX3_onTop 3 = .ok (.istore_n 2, 1) := by decide +kernel
theorem dX3_onTop_4 : decode cX3_onTop 4 = .ok (.iload_n 2, 1) := by decide +kernel
theorem dX3_onTop_5 : decode cX3_onTop 5 = .ok (.bipush 12, 2) := by decide +kernel
theorem dX3_onTop_7 : decode cX3_onTop 7 = .ok (.if_icmp .ge 31, 3) := by decide +kernel
theorem dX3_onTop_10 : decode cX3_onTop 10 = .ok (.aload_n 0, 1) := by decide +kernel
theorem dX3_onTop_11 : decode cX3_onTop 11 = .ok (.getfield 15, 3) := by decide +kernel
theorem dX3_onTop_14 : decode cX3_onTop 14 = .ok (.iload_n 2, 1) := by decide +kernel
theorem dX3_onTop_15 : decode cX3_onTop 15 = .ok (.iaload, 1) := by decide +kernel
theorem dX3_onTop_16 : decode cX3_onTop 16 = .ok (.bipush (-9), 2) := by decide +kernel
theorem dX3_onTop_18 : decode cX3_onTop 18 = .ok (.if_icmp .eq 14, 3) := by decide +kernel
theorem dX3_onTop_21 : decode cX3_onTop 21 = .ok (.iload_n 1, 1) := by decide +kernel
theorem dX3_onTop_22 : decode cX3_onTop 22 = .ok (.iconst 1, 1) := by decide +kernel
theorem dX3_onTop_23 : decode cX3_onTop 23 = .ok (.aload_n 0, 1) := by decide +kernel
theorem dX3_onTop_24 : decode cX3_onTop 24 = .ok (.getfield 15, 3) := by decide +kernel
theorem dX3_onTop_27 : decode cX3_onTop 27 = .ok (.iload_n 2, 1) := by decide +kernel
theorem dX3_onTop_28 : decode cX3_onTop 28 = .ok (.iaload, 1) := by decide +kernel
theorem dX3_onTop_29 : decode cX3_onTop 29 = .ok (.ishl, 1) := by decide +kernel
theorem dX3_onTop_30 : decode cX3_onTop 30 = .ok (.ior, 1) := by decide +kernel
theorem dX3_onTop_31 : decode cX3_onTop 31 = .ok (.istore_n 1, 1) := by decide +kernel
theorem dX3_onTop_32 : decode cX3_onTop 32 = .ok (.iinc 2 1, 3) := by decide +kernel
theorem dX3_onTop_35 : decode cX3_onTop 35 = .ok (.goto (-31), 3) := by decide +kernel
theorem dX3_onTop_38 : decode cX3_onTop 38 = .ok (.iload_n 1, 1) := by decide +kernel
theorem dX3_onTop_39 : decode cX3_onTop 39 = .ok (.ireturn, 1) := by decide +kernel
theorem dX4_init_0 : decode cX4_init 0 = .ok (.aload_n 0, 1) := by decide +kernel
theorem dX4_init_1 : decode cX4_init 1 = .ok (.invokespecial 3, 3) := by decide +kernel
theorem dX4_init_4 : decode cX4_init 4 = .ok (.aload_n 0, 1) := by decide +kernel
theorem dX4_init_5 : decode cX4_init 5 = .ok (.iconst 2, 1) := by decide +kernel
theorem dX4_init_6 : decode cX4_init 6 = .ok (.anewarray 9, 3) := by decide +kernel
theorem dX4_init_9 : decode cX4_init 9 = .ok (.putfield 11, 3) := by decide +kernel
theorem dX4_init_12 : decode cX4_init 12 = .ok (.iconst 0, 1) := by decide +kernel
theorem dX4_init_13 : decode cX4_init 13 = .ok (.istore_n 1, 1) := by decide +kernel
theorem dX4_init_14 : decode cX4_init 14 = .ok (.iload_n 1, 1) := by decide +kernel
theorem dX4_init_15 : decode cX4_init 15 = .ok (.iconst 2, 1) := by decide +kernel
theorem dX4_init_16 : decode cX4_init 16 = .ok (.if_icmp .ge 22, 3) := by decide +kernel
theorem dX4_init_19 : decode cX4_init 19 = .ok (.aload_n 0, 1) := by decide +kernel
theorem dX4_init_20 : decode cX4_init 20 = .ok (.getfield 11, 3) := by decide +kernel
theorem dX4_init_23 : decode cX4_init 23 = .ok (.iload_n 1, 1) := by decide +kernel
theorem dX4_init_24 : decode cX4_init 24 = .ok (.new 9, 3) := by decide +kernel
theorem dX4_init_27 : decode cX4_init 27 = .ok (.dup, 1) := by decide +kernel
theorem dX4_init_28 : decode cX4_init 28 = .ok (.invokespecial 17, 3) := by decide +kernel
theorem dX4_init_31 : decode cX4_init 31 = .ok (.aastore, 1) := by decide +kernel
theorem dX4_init_32 : decode cX4_init 32 = .ok (.iinc 1 1, 3) := by decide +kernel
theorem dX4_init_35 : decode cX4_init 35 = .ok (.goto (-21), 3) := by decide +kernel
theorem dX4_init_38 : decode cX4_init 38 = .ok (.return_, 1) := by decide +kernel
theorem dX4_forget_0 : decode cX4_forget 0 = .ok (.aload_n 0, 1) := by decide +kernel
theorem dX4_forget_1 : decode cX4_forget 1 = .ok (.iconst 0, 1) := by decide +kernel
theorem dX4_forget_2 : decode cX4_forget 2 = .ok (.putfield 18, 3) := by decide +kernel
theorem dX4_forget_5 : decode cX4_forget 5 = .ok (.return_, 1) := by decide +kernel
theorem dX4_store_0 : decode cX4_store 0 = .ok (.iload_n 1, 1) := by decide +kernel
theorem dX4_store_1 : decode cX4_store 1 = .ok (.ifCond .lt 30, 3) := by decide +kernel
theorem dX4_store_4 : decode cX4_store 4 = .ok (.iload_n 1, 1) := by decide +kernel
theorem dX4_store_5 : decode cX4_store 5 = .ok (.iconst 2, 1) := by decide +kernel
theorem dX4_store_6 : decode cX4_store 6 = .ok (.if_icmp .ge 25, 3) := by decide +kernel
theorem dX4_store_9 : decode cX4_store 9 = .ok (.aload_n 2, 1) := by decide +kernel
theorem dX4_store_10 : decode cX4_store 10 = .ok (.aload_n 0, 1) := by decide +kernel
theorem dX4_store_11 : decode cX4_store 11 = .ok (.getfield 11, 3) := by decide +kernel
theorem dX4_store_14 : decode cX4_store 14 = .ok (.iload_n 1, 1) := by decide +kernel
theorem dX4_store_15 : decode cX4_store 15 = .ok (.aaload, 1) := by decide +kernel
theorem dX4_store_16 : decode cX4_store 16 = .ok (.invokestatic 22, 3) := by decide +kernel
theorem dX4_store_19 : decode cX4_store 19 = .ok (.aload_n 0, 1) := by decide +kernel
theorem dX4_store_20 : decode cX4_store 20 = .ok (.dup, 1) := by decide +kernel
theorem dX4_store_21 : decode cX4_store 21 = .ok (.getfield 18, 3) := by decide +kernel
theorem dX4_store_24 : decode cX4_store 24 = .ok (.iconst 1, 1) := by decide +kernel
theorem dX4_store_25 : decode cX4_store 25 = .ok (.iload_n 1, 1) := by decide +kernel
theorem dX4_store_26 : decode cX4_store 26 = .ok (.ishl, 1) := by decide +kernel
theorem dX4_store_27 : decode cX4_store 27 = .ok (.ior, 1) := by decide +kernel
theorem dX4_store_28 : decode cX4_store 28 = .ok (.putfield 18, 3) := by decide +kernel
theorem dX4_store_31 : decode cX4_store 31 = .ok (.return_, 1) := by decide +kernel
theorem dX4_load_0 : decode cX4_load 0 = .ok (.iload_n 1, 1) := by decide +kernel
theorem dX4_load_1 : decode cX4_load 1 = .ok (.ifCond .lt 19, 3) := by decide +kernel
theorem dX4_load_4 : decode cX4_load 4 = .ok (.iload_n 1, 1) := by decide +kernel
theorem dX4_load_5 : decode cX4_load 5 = .ok (.iconst 2, 1) := by decide +kernel
theorem dX4_load_6 : decode cX4_load 6 = .ok (.if_icmp .ge 14, 3) := by decide +kernel
theorem dX4_load_9 : decode cX4_load 9 = .ok (.aload_n 0, 1) := by decide +kernel
theorem dX4_load_10 : decode cX4_load 10 = .ok (.getfield 18, 3) := by decide +kernel
theorem dX4_load_13 : decode cX4_load 13 = .ok (.iload_n 1, 1) := by decide +kernel
theorem dX4_load_14 : decode cX4_load 14 = .ok (.ishr, 1) := by decide +kernel
theorem dX4_load_15 : decode cX4_load 15 = .ok (.iconst 1, 1) := by decide +kernel
theorem dX4_load_16 : decode cX4_load 16 = .ok (.iand, 1) := by decide +kernel
theorem dX4_load_17 : decode cX4_load 17 = .ok (.ifCond .ne 5, 3) := by decide +kernel
theorem dX4_load_20 : decode cX4_load 20 = .ok (.iconst 0, 1) := by decide +kernel
theorem dX4_load_21 : decode cX4_load 21 = .ok (.ireturn, 1) := by decide +kernel
theorem dX4_load_22 : decode cX4_load 22 = .ok (.aload_n 0, 1) := by decide +kernel
theorem dX4_load_23 : decode cX4_load 23 = .ok (.getfield 11, 3) := by decide +kernel
theorem dX4_load_26 : decode cX4_load 26 = .ok (.iload_n 1, 1) := by decide +kernel
theorem dX4_load_27 : decode cX4_load 27 = .ok (.aaload, 1) := by decide +kernel
theorem dX4_load_28 : decode cX4_load 28 = .ok (.aload_n 2, 1) := by decide +kernel
theorem dX4_load_29 : decode cX4_load 29 = .ok (.invokestatic 22, 3) := by decide +kernel
theorem dX4_load_32 : decode cX4_load 32 = .ok (.iconst 1, 1) := by decide +kernel
theorem dX4_load_33 : decode cX4_load 33 = .ok (.ireturn, 1) := by decide +kernel
theorem dX5_init_0 : decode cX5_init 0 = .ok (.aload_n 0, 1) := by decide +kernel
theorem dX5_init_1 : decode cX5_init 1 = .ok (.invokespecial 3, 3) := by decide +kernel
theorem dX5_init_4 : decode cX5_init 4 = .ok (.aload_n 0, 1) := by decide +kernel
theorem dX5_init_5 : decode cX5_init 5 = .ok (.bipush 40, 2) := by decide +kernel
theorem dX5_init_7 : decode cX5_init 7 = .ok (.newarray .int, 2) := by decide +kernel
theorem dX5_init_9 : decode cX5_init 9 = .ok (.putfield 9, 3) := by decide +kernel
theorem dX5_init_12 : decode cX5_init 12 = .ok (.return_, 1) := by decide +kernel
theorem dX5_append_0 : decode cX5_append 0 = .ok (.aload_n 0, 1) := by decide +kernel
theorem dX5_append_1 : decode cX5_append 1 = .ok (.getfield 15, 3) := by decide +kernel
theorem dX5_append_4 : decode cX5_append 4 = .ok (.ifCond .lt 15, 3) := by decide +kernel
theorem dX5_append_7 : decode cX5_append 7 = .ok (.aload_n 0, 1) := by decide +kernel
theorem dX5_append_8 : decode cX5_append 8 = .ok (.getfield 15, 3) := by decide +kernel
theorem dX5_append_11 : decode cX5_append 11 = .ok (.aload_n 0, 1) := by decide +kernel
theorem dX5_append_12 : decode cX5_append 12 = .ok (.getfield 9, 3) := by decide +kernel
theorem dX5_append_15 : decode cX5_append 15 = .ok (.arraylength, 1) := by decide +kernel
theorem dX5_append_16 : decode cX5_append 16 = .ok (.if_icmp .lt 5, 3) := by decide +kernel
theorem dX5_append_19 : decode cX5_append 19 = .ok (.iconst 0, 1) := by decide +kernel
theorem dX5_append_20 : decode cX5_append 20 = .ok (.ireturn, 1) := by decide +kernel
theorem dX5_append_21 : decode cX5_append 21 = .ok (.aload_n 0, 1) := by decide +kernel
theorem dX5_append_22 : decode cX5_append 22 = .ok (.getfield 9, 3) := by decide +kernel
theorem dX5_append_25 : decode cX5_append 25 = .ok (.aload_n 0, 1) := by decide +kernel
theorem dX5_append_26 : decode cX5_append 26 = .ok (.getfield 15, 3) := by decide +kernel
theorem dX5_append_29 : decode cX5_append 29 = .ok (.iload_n 1, 1) := by decide +kernel
theorem dX5_append_30 : decode cX5_append 30 = .ok (.iastore, 1) := by decide +kernel
theorem dX5_append_31 : decode cX5_append 31 = .ok (.aload_n 0, 1) := by decide +kernel
theorem dX5_append_32 : decode cX5_append 32 = .ok (.dup, 1) := by decide +kernel
theorem dX5_append_33 : decode cX5_append 33 = .ok (.getfield 15, 3) := by decide +kernel
theorem dX5_append_36 : decode cX5_append 36 = .ok (.iconst 1, 1) := by decide +kernel
theorem dX5_append_37 : decode cX5_append 37 = .ok (.iadd, 1) := by decide +kernel
theorem dX5_append_38 : decode cX5_append 38 = .ok (.putfield 15, 3) := by decide +kernel
theorem dX5_append_41 : decode cX5_append 41 = .ok (.iconst 1, 1) := by decide +kernel
theorem dX5_append_42 : decode cX5_append 42 = .ok (.ireturn, 1) := by decide +kernel
theorem dX5_byteAt_0 : decode cX5_byteAt 0 = .ok (.iload_n 1, 1) := by decide +kernel
theorem dX5_byteAt_1 : decode cX5_byteAt 1 = .ok (.ifCond .lt 29, 3) := by decide +kernel
theorem dX5_byteAt_4 : decode cX5_byteAt 4 = .ok (.iload_n 1, 1) := by decide +kernel
theorem dX5_byteAt_5 : decode cX5_byteAt 5 = .ok (.aload_n 0, 1) := by decide +kernel
theorem dX5_byteAt_6 : decode cX5_byteAt 6 = .ok (.getfield 15, 3) := by decide +kernel
theorem dX5_byteAt_9 : decode cX5_byteAt 9 = .ok (.if_icmp .ge 21, 3) := by decide +kernel
theorem dX5_byteAt_12 : decode cX5_byteAt 12 = .ok (.iload_n 1, 1) := by decide +kernel
theorem dX5_byteAt_13 : decode cX5_byteAt 13 = .ok (.aload_n 0, 1) := by decide +kernel
theorem dX5_byteAt_14 : decode cX5_byteAt 14 = .ok (.getfield 9, 3) := by decide +kernel
theorem dX5_byteAt_17 : decode cX5_byteAt 17 = .ok (.arraylength, 1) := by decide +kernel
theorem dX5_byteAt_18 : decode cX5_byteAt 18 = .ok (.if_icmp .ge 12, 3) := by decide +kernel
theorem dX5_byteAt_21 : decode cX5_byteAt 21 = .ok (.aload_n 0, 1) := by decide +kernel
theorem dX5_byteAt_22 : decode cX5_byteAt 22 = .ok (.getfield 9, 3) := by decide +kernel
theorem dX5_byteAt_25 : decode cX5_byteAt 25 = .ok (.iload_n 1, 1) := by decide +kernel
theorem dX5_byteAt_26 : decode cX5_byteAt 26 = .ok (.iaload, 1) := by decide +kernel
theorem dX5_byteAt_27 : decode cX5_byteAt 27 = .ok (.goto 5, 3) := by decide +kernel
theorem dX5_byteAt_30 : decode cX5_byteAt 30 = .ok (.bipush (-9), 2) := by decide +kernel
theorem dX5_byteAt_32 : decode cX5_byteAt 32 = .ok (.ireturn, 1) := by decide +kernel
theorem dX5_figureAt_0 : decode cX5_figureAt 0 = .ok (.aload_n 0, 1) := by decide +kernel
theorem dX5_figureAt_1 : decode cX5_figureAt 1 = .ok (.iload_n 1, 1) := by decide +kernel
theorem dX5_figureAt_2 : decode cX5_figureAt 2 = .ok (.invokevirtual 19, 3) := by decide +kernel
theorem dX5_figureAt_5 : decode cX5_figureAt 5 = .ok (.bipush 48, 2) := by decide +kernel
theorem dX5_figureAt_7 : decode cX5_figureAt 7 = .ok (.isub, 1) := by decide +kernel
theorem dX5_figureAt_8 : decode cX5_figureAt 8 = .ok (.ireturn, 1) := by decide +kernel
theorem dX5_firstFault_0 : decode cX5_firstFault 0 = .ok (.iconst 0, 1) := by decide +kernel
theorem dX5_firstFault_1 : decode cX5_firstFault 1 = .ok (.istore_n 1, 1) := by decide +kernel
theorem dX5_firstFault_2 : decode cX5_firstFault 2 = .ok (.iload_n 1, 1) := by decide +kernel
theorem dX5_firstFault_3 : decode cX5_firstFault 3 = .ok (.aload_n 0, 1) := by decide +kernel
theorem dX5_firstFault_4 : decode cX5_firstFault 4 = .ok (.getfield 15, 3) := by decide +kernel
theorem dX5_firstFault_7 : decode cX5_firstFault 7 = .ok (.if_icmp .ge 19, 3) := by decide +kernel
theorem dX5_firstFault_10 : decode cX5_firstFault 10 = .ok (.aload_n 0, 1) := by decide +kernel
theorem dX5_firstFault_11 : decode cX5_firstFault 11 = .ok (.iload_n 1, 1) := by decide +kernel
theorem dX5_firstFault_12 : decode cX5_firstFault 12 = .ok (.invokevirtual 23, 3) := by decide +kernel
theorem dX5_firstFault_15 : decode cX5_firstFault 15 = .ok (.ifCond .ne 5, 3) := by decide +kernel
theorem dX5_firstFault_18 : decode cX5_firstFault 18 = .ok (.iload_n 1, 1) := by decide +kernel
theorem dX5_firstFault_19 : decode cX5_firstFault 19 = .ok (.ireturn, 1) := by decide +kernel
theorem dX5_firstFault_20 : decode cX5_firstFault 20 = .ok (.iinc 1 1, 3) := by decide +kernel
theorem dX5_firstFault_23 : decode cX5_firstFault 23 = .ok (.goto (-21), 3) := by decide +kernel
theorem dX5_firstFault_26 : decode cX5_firstFault 26 = .ok (.aload_n 0, 1) := by decide +kernel
theorem dX5_firstFault_27 : decode cX5_firstFault 27 = .ok (.getfield 15, 3) := by decide +kernel
theorem dX5_firstFault_30 : decode cX5_firstFault 30 = .ok (.ifCond .le 19, 3) := by decide +kernel
theorem dX5_firstFault_33 : decode cX5_firstFault 33 = .ok (.aload_n 0, 1) := by decide +kernel
theorem dX5_firstFault_34 : decode cX5_firstFault 34 = .ok (.getfield 15, 3) := by decide +kernel
theorem dX5_firstFault_37 : decode cX5_firstFault 37 = .ok (.iconst 1, 1) := by decide +kernel
theorem dX5_firstFault_38 : decode cX5_firstFault 38 = .ok (.isub, 1) := by decide +kernel
theorem dX5_firstFault_39 : decode cX5_firstFault 39 = .ok (.iconst 5, 1) := by decide +kernel
theorem dX5_firstFault_40 : decode cX5_firstFault 40 = .ok (.irem, 1) := by decide +kernel
theorem dX5_firstFault_41 : decode cX5_firstFault 41 = .ok (.ifCond .ne 8, 3) := by decide +kernel
theorem dX5_firstFault_44 : decode cX5_firstFault 44 = .ok (.bipush (-9), 2) := by decide +kernel
theorem dX5_firstFault_46 : decode cX5_firstFault 46 = .ok (.goto 7, 3) := by decide +kernel
theorem dX5_firstFault_49 : decode cX5_firstFault 49 = .ok (.aload_n 0, 1) := by decide +kernel
theorem dX5_firstFault_50 : decode cX5_firstFault 50 = .ok (.getfield 15, 3) := by decide +kernel
theorem dX5_firstFault_53 : decode cX5_firstFault 53 = .ok (.ireturn, 1) := by decide +kernel
theorem dX5_isRight_0 : decode cX5_isRight 0 = .ok (.iload_n 1, 1) := by decide +kernel
theorem dX5_isRight_1 : decode cX5_isRight 1 = .ok (.ifCond .ne 19, 3) := by decide +kernel
theorem dX5_isRight_4 : decode cX5_isRight 4 = .ok (.aload_n 0, 1) := by decide +kernel
theorem dX5_isRight_5 : decode cX5_isRight 5 = .ok (.iconst 0, 1) := by decide +kernel
theorem dX5_isRight_6 : decode cX5_isRight 6 = .ok (.invokevirtual 19, 3) := by decide +kernel
theorem dX5_isRight_9 : decode cX5_isRight 9 = .ok (.bipush 66, 2) := by decide +kernel
theorem dX5_isRight_11 : decode cX5_isRight 11 = .ok (.if_icmp .ne 7, 3) := by decide +kernel
theorem dX5_isRight_14 : decode cX5_isRight 14 = .ok (.iconst 1, 1) := by decide +kernel
theorem dX5_isRight_15 : decode cX5_isRight 15 = .ok (.goto 4, 3) := by decide +kernel
theorem dX5_isRight_18 : decode cX5_isRight 18 = .ok (.iconst 0, 1) := by decide +kernel
theorem dX5_isRight_19 : decode cX5_isRight 19 = .ok (.ireturn, 1) := by decide +kernel
theorem dX5_isRight_20 : decode cX5_isRight 20 = .ok (.iload_n 1, 1) := by decide +kernel
theorem dX5_isRight_21 : decode cX5_isRight 21 = .ok (.bipush 30, 2) := by decide +kernel
theorem dX5_isRight_23 : decode cX5_isRight 23 = .ok (.if_icmp .le 5, 3) := by decide +kernel
theorem dX5_isRight_26 : decode cX5_isRight 26 = .ok (.iconst 0, 1) := by decide +kernel
theorem dX5_isRight_27 : decode cX5_isRight 27 = .ok (.ireturn, 1) := by decide +kernel
theorem dX5_isRight_28 : decode cX5_isRight 28 = .ok (.iload_n 1, 1) := by decide +kernel
theorem dX5_isRight_29 : decode cX5_isRight 29 = .ok (.iconst 1, 1) := by decide +kernel
theorem dX5_isRight_30 : decode cX5_isRight 30 = .ok (.isub, 1) := by decide +kernel
theorem dX5_isRight_31 : decode cX5_isRight 31 = .ok (.iconst 5, 1) := by decide +kernel
theorem dX5_isRight_32 : decode cX5_isRight 32 = .ok (.irem, 1) := by decide +kernel
theorem dX5_isRight_33 : decode cX5_isRight 33 = .ok (.tableswitch 73 0 3 #[31, 47, 56, 65], 31) := by decide +kernel
theorem dX5_isRight_64 : decode cX5_isRight 64 = .ok (.aload_n 0, 1) := by decide +kernel
theorem dX5_isRight_65 : decode cX5_isRight 65 = .ok (.iload_n 1, 1) := by decide +kernel
theorem dX5_isRight_66 : decode cX5_isRight 66 = .ok (.invokevirtual 19, 3) := by decide +kernel
theorem dX5_isRight_69 : decode cX5_isRight 69 = .ok (.bipush 76, 2) := by decide +kernel
theorem dX5_isRight_71 : decode cX5_isRight 71 = .ok (.if_icmp .ne 7, 3) := by decide +kernel
theorem dX5_isRight_74 : decode cX5_isRight 74 = .ok (.iconst 1, 1) := by decide +kernel
theorem dX5_isRight_75 : decode cX5_isRight 75 = .ok (.goto 4, 3) := by decide +kernel
theorem dX5_isRight_78 : decode cX5_isRight 78 = .ok (.iconst 0, 1) := by decide +kernel
theorem dX5_isRight_79 : decode cX5_isRight 79 = .ok (.ireturn, 1) := by decide +kernel
theorem dX5_isRight_80 : decode cX5_isRight 80 = .ok (.aload_n 0, 1) := by decide +kernel
theorem dX5_isRight_81 : decode cX5_isRight 81 = .ok (.iload_n 1, 1) := by decide +kernel
theorem dX5_isRight_82 : decode cX5_isRight 82 = .ok (.iconst 0, 1) := by decide +kernel
theorem dX5_isRight_83 : decode cX5_isRight 83 = .ok (.bipush 8, 2) := by decide +kernel
theorem dX5_isRight_85 : decode cX5_isRight 85 = .ok (.invokevirtual 27, 3) := by decide +kernel
theorem dX5_isRight_88 : decode cX5_isRight 88 = .ok (.ireturn, 1) := by decide +kernel
theorem dX5_isRight_89 : decode cX5_isRight 89 = .ok (.aload_n 0, 1) := by decide +kernel
theorem dX5_isRight_90 : decode cX5_isRight 90 = .ok (.iload_n 1, 1) := by decide +kernel
theorem dX5_isRight_91 : decode cX5_isRight 91 = .ok (.iconst 1, 1) := by decide +kernel
theorem dX5_isRight_92 : decode cX5_isRight 92 = .ok (.bipush 9, 2) := by decide +kernel
theorem dX5_isRight_94 : decode cX5_isRight 94 = .ok (.invokevirtual 27, 3) := by decide +kernel
theorem dX5_isRight_97 : decode cX5_isRight 97 = .ok (.ireturn, 1) := by decide +kernel
theorem dX5_isRight_98 : decode cX5_isRight 98 = .ok (.aload_n 0, 1) := by decide +kernel
theorem dX5_isRight_99 : decode cX5_isRight 99 = .ok (.iload_n 1, 1) := by decide +kernel
theorem dX5_isRight_100 : decode cX5_isRight 100 = .ok (.iconst 1, 1) := by decide +kernel
theorem dX5_isRight_101 : decode cX5_isRight 101 = .ok (.iconst 3, 1) := by decide +kernel
theorem dX5_isRight_102 : decode cX5_isRight 102 = .ok (.invokevirtual 27, 3) := by decide +kernel
theorem dX5_isRight_105 : decode cX5_isRight 105 = .ok (.ireturn, 1) := by decide +kernel
theorem dX5_isRight_106 : decode cX5_isRight 106 = .ok (.aload_n 0, 1) := by decide +kernel
theorem dX5_isRight_107 : decode cX5_isRight 107 = .ok (.iload_n 1, 1) := by decide +kernel
theorem dX5_isRight_108 : decode cX5_isRight 108 = .ok (.iconst 0, 1) := by decide +kernel
theorem dX5_isRight_109 : decode cX5_isRight 109 = .ok (.iconst 3, 1) := by decide +kernel
theorem dX5_isRight_110 : decode cX5_isRight 110 = .ok (.invokevirtual 27, 3) := by decide +kernel
theorem dX5_isRight_113 : decode cX5_isRight 113 = .ok (.ireturn, 1) := by decide +kernel
theorem dX5_isFigure_0 : decode cX5_isFigure 0 = .ok (.aload_n 0, 1) := by decide +kernel
theorem dX5_isFigure_1 : decode cX5_isFigure 1 = .ok (.iload_n 1, 1) := by decide +kernel
theorem dX5_isFigure_2 : decode cX5_isFigure 2 = .ok (.invokevirtual 31, 3) := by decide +kernel
theorem dX5_isFigure_5 : decode cX5_isFigure 5 = .ok (.iload_n 2, 1) := by decide +kernel
theorem dX5_isFigure_6 : decode cX5_isFigure 6 = .ok (.if_icmp .lt 16, 3) := by decide +kernel
theorem dX5_isFigure_9 : decode cX5_isFigure 9 = .ok (.aload_n 0, 1) := by decide +kernel
theorem dX5_isFigure_10 : decode cX5_isFigure 10 = .ok (.iload_n 1, 1) := by decide +kernel
theorem dX5_isFigure_11 : decode cX5_isFigure 11 = .ok (.invokevirtual 31, 3) := by decide +kernel
theorem dX5_isFigure_14 : decode cX5_isFigure 14 = .ok (.iload_n 3, 1) := by decide +kernel
theorem dX5_isFigure_15 : decode cX5_isFigure 15 = .ok (.if_icmp .gt 7, 3) := by decide +kernel
theorem dX5_isFigure_18 : decode cX5_isFigure 18 = .ok (.iconst 1, 1) := by decide +kernel
theorem dX5_isFigure_19 : decode cX5_isFigure 19 = .ok (.goto 4, 3) := by decide +kernel
theorem dX5_isFigure_22 : decode cX5_isFigure 22 = .ok (.iconst 0, 1) := by decide +kernel
theorem dX5_isFigure_23 : decode cX5_isFigure 23 = .ok (.ireturn, 1) := by decide +kernel
theorem dX6_init_0 : decode cX6_init 0 = .ok (.aload_n 0, 1) := by decide +kernel
theorem dX6_init_1 : decode cX6_init 1 = .ok (.invokespecial 3, 3) := by decide +kernel
theorem dX6_init_4 : decode cX6_init 4 = .ok (.aload_n 0, 1) := by decide +kernel
theorem dX6_init_5 : decode cX6_init 5 = .ok (.bipush 6, 2) := by decide +kernel
theorem dX6_init_7 : decode cX6_init 7 = .ok (.newarray .int, 2) := by decide +kernel
theorem dX6_init_9 : decode cX6_init 9 = .ok (.putfield 9, 3) := by decide +kernel
theorem dX6_init_12 : decode cX6_init 12 = .ok (.return_, 1) := by decide +kernel
theorem dX6_start_0 : decode cX6_start 0 = .ok (.iconst 0, 1) := by decide +kernel
theorem dX6_start_1 : decode cX6_start 1 = .ok (.istore_n 1, 1) := by decide +kernel
theorem dX6_start_2 : decode cX6_start 2 = .ok (.iload_n 1, 1) := by decide +kernel
theorem dX6_start_3 : decode cX6_start 3 = .ok (.bipush 6, 2) := by decide +kernel
theorem dX6_start_5 : decode cX6_start 5 = .ok (.if_icmp .ge 16, 3) := by decide +kernel
theorem dX6_start_8 : decode cX6_start 8 = .ok (.aload_n 0, 1) := by decide +kernel
theorem dX6_start_9 : decode cX6_start 9 = .ok (.getfield 9, 3) := by decide +kernel
theorem dX6_start_12 : decode cX6_start 12 = .ok (.iload_n 1, 1) := by decide +kernel
theorem dX6_start_13 : decode cX6_start 13 = .ok (.iconst 0, 1) := by decide +kernel
theorem dX6_start_14 : decode cX6_start 14 = .ok (.iastore, 1) := by decide +kernel
theorem dX6_start_15 : decode cX6_start 15 = .ok (.iinc 1 1, 3) := by decide +kernel
theorem dX6_start_18 : decode cX6_start 18 = .ok (.goto (-16), 3) := by decide +kernel
theorem dX6_start_21 : decode cX6_start 21 = .ok (.return_, 1) := by decide +kernel
theorem dX6_howOften_0 : decode cX6_howOften 0 = .ok (.iload_n 1, 1) := by decide +kernel
theorem dX6_howOften_1 : decode cX6_howOften 1 = .ok (.ifCond .lt 18, 3) := by decide +kernel
theorem dX6_howOften_4 : decode cX6_howOften 4 = .ok (.iload_n 1, 1) := by decide +kernel
theorem dX6_howOften_5 : decode cX6_howOften 5 = .ok (.bipush 6, 2) := by decide +kernel
theorem dX6_howOften_7 : decode cX6_howOften 7 = .ok (.if_icmp .ge 12, 3) := by decide +kernel
theorem dX6_howOften_10 : decode cX6_howOften 10 = .ok (.aload_n 0, 1) := by decide +kernel
theorem dX6_howOften_11 : decode cX6_howOften 11 = .ok (.getfield 9, 3) := by decide +kernel
theorem dX6_howOften_14 : decode cX6_howOften 14 = .ok (.iload_n 1, 1) := by decide +kernel
theorem dX6_howOften_15 : decode cX6_howOften 15 = .ok (.iaload, 1) := by decide +kernel
theorem dX6_howOften_16 : decode cX6_howOften 16 = .ok (.goto 4, 3) := by decide +kernel
theorem dX6_howOften_19 : decode cX6_howOften 19 = .ok (.iconst 0, 1) := by decide +kernel
theorem dX6_howOften_20 : decode cX6_howOften 20 = .ok (.ireturn, 1) := by decide +kernel
theorem dX6_next_0 : decode cX6_next 0 = .ok (.iconst 0, 1) := by decide +kernel
theorem dX6_next_1 : decode cX6_next 1 = .ok (.istore_n 1, 1) := by decide +kernel
theorem dX6_next_2 : decode cX6_next 2 = .ok (.iload_n 1, 1) := by decide +kernel
theorem dX6_next_3 : decode cX6_next 3 = .ok (.bipush 6, 2) := by decide +kernel
theorem dX6_next_5 : decode cX6_next 5 = .ok (.if_icmp .ge 26, 3) := by decide +kernel
theorem dX6_next_8 : decode cX6_next 8 = .ok (.aload_n 0, 1) := by decide +kernel
theorem dX6_next_9 : decode cX6_next 9 = .ok (.getfield 9, 3) := by decide +kernel
theorem dX6_next_12 : decode cX6_next 12 = .ok (.iload_n 1, 1) := by decide +kernel
theorem dX6_next_13 : decode cX6_next 13 = .ok (.iaload, 1) := by decide +kernel
theorem dX6_next_14 : decode cX6_next 14 = .ok (.iconst 2, 1) := by decide +kernel
theorem dX6_next_15 : decode cX6_next 15 = .ok (.if_icmp .ne 16, 3) := by decide +kernel
theorem dX6_next_18 : decode cX6_next 18 = .ok (.aload_n 0, 1) := by decide +kernel
theorem dX6_next_19 : decode cX6_next 19 = .ok (.getfield 9, 3) := by decide +kernel
theorem dX6_next_22 : decode cX6_next 22 = .ok (.iload_n 1, 1) := by decide +kernel
theorem dX6_next_23 : decode cX6_next 23 = .ok (.iconst 0, 1) := by decide +kernel
theorem dX6_next_24 : decode cX6_next 24 = .ok (.iastore, 1) := by decide +kernel
theorem dX6_next_25 : decode cX6_next 25 = .ok (.iinc 1 1, 3) := by decide +kernel
theorem dX6_next_28 : decode cX6_next 28 = .ok (.goto (-26), 3) := by decide +kernel
theorem dX6_next_31 : decode cX6_next 31 = .ok (.iload_n 1, 1) := by decide +kernel
theorem dX6_next_32 : decode cX6_next 32 = .ok (.bipush 6, 2) := by decide +kernel
theorem dX6_next_34 : decode cX6_next 34 = .ok (.if_icmp .ge 13, 3) := by decide +kernel
theorem dX6_next_37 : decode cX6_next 37 = .ok (.aload_n 0, 1) := by decide +kernel
theorem dX6_next_38 : decode cX6_next 38 = .ok (.getfield 9, 3) := by decide +kernel
theorem dX6_next_41 : decode cX6_next 41 = .ok (.iload_n 1, 1) := by decide +kernel
theorem dX6_next_42 : decode cX6_next 42 = .ok (.dup2, 1) := by decide +kernel
theorem dX6_next_43 : decode cX6_next 43 = .ok (.iaload, 1) := by decide +kernel
theorem dX6_next_44 : decode cX6_next 44 = .ok (.iconst 1, 1) := by decide +kernel
theorem dX6_next_45 : decode cX6_next 45 = .ok (.iadd, 1) := by decide +kernel
theorem dX6_next_46 : decode cX6_next 46 = .ok (.iastore, 1) := by decide +kernel
theorem dX6_next_47 : decode cX6_next 47 = .ok (.return_, 1) := by decide +kernel
theorem dX6_lettersThere_0 : decode cX6_lettersThere 0 = .ok (.iconst 0, 1) := by decide +kernel
theorem dX6_lettersThere_1 : decode cX6_lettersThere 1 = .ok (.istore_n 2, 1) := by decide +kernel
theorem dX6_lettersThere_2 : decode cX6_lettersThere 2 = .ok (.iconst 0, 1) := by decide +kernel
theorem dX6_lettersThere_3 : decode cX6_lettersThere 3 = .ok (.istore_n 3, 1) := by decide +kernel
theorem dX6_lettersThere_4 : decode cX6_lettersThere 4 = .ok (.iload_n 3, 1) := by decide +kernel
theorem dX6_lettersThere_5 : decode cX6_lettersThere 5 = .ok (.bipush 6, 2) := by decide +kernel
theorem dX6_lettersThere_7 : decode cX6_lettersThere 7 = .ok (.if_icmp .ge 25, 3) := by decide +kernel
theorem dX6_lettersThere_10 : decode cX6_lettersThere 10 = .ok (.aload_n 0, 1) := by decide +kernel
theorem dX6_lettersThere_11 : decode cX6_lettersThere 11 = .ok (.getfield 9, 3) := by decide +kernel
theorem dX6_lettersThere_14 : decode cX6_lettersThere 14 = .ok (.iload_n 3, 1) := by decide +kernel
theorem dX6_lettersThere_15 : decode cX6_lettersThere 15 = .ok (.iaload, 1) := by decide +kernel
theorem dX6_lettersThere_16 : decode cX6_lettersThere 16 = .ok (.iload_n 1, 1) := by decide +kernel
theorem dX6_lettersThere_17 : decode cX6_lettersThere 17 = .ok (.if_icmp .ne 9, 3) := by decide +kernel
theorem dX6_lettersThere_20 : decode cX6_lettersThere 20 = .ok (.iload_n 2, 1) := by decide +kernel
theorem dX6_lettersThere_21 : decode cX6_lettersThere 21 = .ok (.iconst 1, 1) := by decide +kernel
theorem dX6_lettersThere_22 : decode cX6_lettersThere 22 = .ok (.iload_n 3, 1) := by decide +kernel
theorem dX6_lettersThere_23 : decode cX6_lettersThere 23 = .ok (.ishl, 1) := by decide +kernel
theorem dX6_lettersThere_24 : decode cX6_lettersThere 24 = .ok (.ior, 1) := by decide +kernel
theorem dX6_lettersThere_25 : decode cX6_lettersThere 25 = .ok (.istore_n 2, 1) := by decide +kernel
theorem dX6_lettersThere_26 : decode cX6_lettersThere 26 = .ok (.iinc 3 1, 3) := by decide +kernel
theorem dX6_lettersThere_29 : decode cX6_lettersThere 29 = .ok (.goto (-25), 3) := by decide +kernel
theorem dX6_lettersThere_32 : decode cX6_lettersThere 32 = .ok (.iload_n 2, 1) := by decide +kernel
theorem dX6_lettersThere_33 : decode cX6_lettersThere 33 = .ok (.ireturn, 1) := by decide +kernel
theorem dX7_init_0 : decode cX7_init 0 = .ok (.aload_n 0, 1) := by decide +kernel
theorem dX7_init_1 : decode cX7_init 1 = .ok (.invokespecial 1, 3) := by decide +kernel
theorem dX7_init_4 : decode cX7_init 4 = .ok (.aload_n 0, 1) := by decide +kernel
theorem dX7_init_5 : decode cX7_init 5 = .ok (.new 7, 3) := by decide +kernel
theorem dX7_init_8 : decode cX7_init 8 = .ok (.dup, 1) := by decide +kernel
theorem dX7_init_9 : decode cX7_init 9 = .ok (.invokespecial 9, 3) := by decide +kernel
theorem dX7_init_12 : decode cX7_init 12 = .ok (.putfield 10, 3) := by decide +kernel
theorem dX7_init_15 : decode cX7_init 15 = .ok (.aload_n 0, 1) := by decide +kernel
theorem dX7_init_16 : decode cX7_init 16 = .ok (.new 16, 3) := by decide +kernel
theorem dX7_init_19 : decode cX7_init 19 = .ok (.dup, 1) := by decide +kernel
theorem dX7_init_20 : decode cX7_init 20 = .ok (.invokespecial 18, 3) := by decide +kernel
theorem dX7_init_23 : decode cX7_init 23 = .ok (.putfield 19, 3) := by decide +kernel
theorem dX7_init_26 : decode cX7_init 26 = .ok (.aload_n 0, 1) := by decide +kernel
theorem dX7_init_27 : decode cX7_init 27 = .ok (.new 23, 3) := by decide +kernel
theorem dX7_init_30 : decode cX7_init 30 = .ok (.dup, 1) := by decide +kernel
theorem dX7_init_31 : decode cX7_init 31 = .ok (.invokespecial 25, 3) := by decide +kernel
theorem dX7_init_34 : decode cX7_init 34 = .ok (.putfield 26, 3) := by decide +kernel
theorem dX7_init_37 : decode cX7_init 37 = .ok (.aload_n 0, 1) := by decide +kernel
theorem dX7_init_38 : decode cX7_init 38 = .ok (.new 23, 3) := by decide +kernel
theorem dX7_init_41 : decode cX7_init 41 = .ok (.dup, 1) := by decide +kernel
theorem dX7_init_42 : decode cX7_init 42 = .ok (.invokespecial 25, 3) := by decide +kernel
theorem dX7_init_45 : decode cX7_init 45 = .ok (.putfield 30, 3) := by decide +kernel
theorem dX7_init_48 : decode cX7_init 48 = .ok (.aload_n 0, 1) := by decide +kernel
theorem dX7_init_49 : decode cX7_init 49 = .ok (.new 33, 3) := by decide +kernel
theorem dX7_init_52 : decode cX7_init 52 = .ok (.dup, 1) := by decide +kernel
theorem dX7_init_53 : decode cX7_init 53 = .ok (.invokespecial 35, 3) := by decide +kernel
theorem dX7_init_56 : decode cX7_init 56 = .ok (.putfield 36, 3) := by decide +kernel
theorem dX7_init_59 : decode cX7_init 59 = .ok (.aload_n 0, 1) := by decide +kernel
theorem dX7_init_60 : decode cX7_init 60 = .ok (.new 40, 3) := by decide +kernel
theorem dX7_init_63 : decode cX7_init 63 = .ok (.dup, 1) := by decide +kernel
theorem dX7_init_64 : decode cX7_init 64 = .ok (.invokespecial 42, 3) := by decide +kernel
theorem dX7_init_67 : decode cX7_init 67 = .ok (.putfield 43, 3) := by decide +kernel
theorem dX7_init_70 : decode cX7_init 70 = .ok (.aload_n 0, 1) := by decide +kernel
theorem dX7_init_71 : decode cX7_init 71 = .ok (.new 47, 3) := by decide +kernel
theorem dX7_init_74 : decode cX7_init 74 = .ok (.dup, 1) := by decide +kernel
theorem dX7_init_75 : decode cX7_init 75 = .ok (.invokespecial 49, 3) := by decide +kernel
theorem dX7_init_78 : decode cX7_init 78 = .ok (.putfield 50, 3) := by decide +kernel
theorem dX7_init_81 : decode cX7_init 81 = .ok (.aload_n 0, 1) := by decide +kernel
theorem dX7_init_82 : decode cX7_init 82 = .ok (.new 54, 3) := by decide +kernel
theorem dX7_init_85 : decode cX7_init 85 = .ok (.dup, 1) := by decide +kernel
theorem dX7_init_86 : decode cX7_init 86 = .ok (.invokespecial 56, 3) := by decide +kernel
theorem dX7_init_89 : decode cX7_init 89 = .ok (.putfield 57, 3) := by decide +kernel
theorem dX7_init_92 : decode cX7_init 92 = .ok (.aload_n 0, 1) := by decide +kernel
theorem dX7_init_93 : decode cX7_init 93 = .ok (.lconst 0, 1) := by decide +kernel
theorem dX7_init_94 : decode cX7_init 94 = .ok (.putfield 61, 3) := by decide +kernel
theorem dX7_init_97 : decode cX7_init 97 = .ok (.return_, 1) := by decide +kernel
theorem dX7_write_0 : decode cX7_write 0 = .ok (.iload_n 1, 1) := by decide +kernel
theorem dX7_write_1 : decode cX7_write 1 = .ok (.ifCond .lt 10, 3) := by decide +kernel
theorem dX7_write_4 : decode cX7_write 4 = .ok (.iload_n 1, 1) := by decide +kernel
theorem dX7_write_5 : decode cX7_write 5 = .ok (.sipush 255, 3) := by decide +kernel
theorem dX7_write_8 : decode cX7_write 8 = .ok (.if_icmp .le 6, 3) := by decide +kernel
theorem dX7_write_11 : decode cX7_write 11 = .ok (.bipush (-2), 2) := by decide +kernel
theorem dX7_write_13 : decode cX7_write 13 = .ok (.ireturn, 1) := by decide +kernel
theorem dX7_write_14 : decode cX7_write 14 = .ok (.aload_n 0, 1) := by decide +kernel
theorem dX7_write_15 : decode cX7_write 15 = .ok (.getfield 10, 3) := by decide +kernel
theorem dX7_write_18 : decode cX7_write 18 = .ok (.iload_n 1, 1) := by decide +kernel
theorem dX7_write_19 : decode cX7_write 19 = .ok (.invokevirtual 65, 3) := by decide +kernel
theorem dX7_write_22 : decode cX7_write 22 = .ok (.ifCond .eq 13, 3) := by decide +kernel
theorem dX7_write_25 : decode cX7_write 25 = .ok (.aload_n 0, 1) := by decide +kernel
theorem dX7_write_26 : decode cX7_write 26 = .ok (.getfield 10, 3) := by decide +kernel
theorem dX7_write_29 : decode cX7_write 29 = .ok (.getfield 69, 3) := by decide +kernel
theorem dX7_write_32 : decode cX7_write 32 = .ok (.goto 5, 3) := by decide +kernel
theorem dX7_write_35 : decode cX7_write 35 = .ok (.bipush (-4), 2) := by decide +kernel
theorem dX7_write_37 : decode cX7_write 37 = .ok (.ireturn, 1) := by decide +kernel
theorem dX7_wipe_0 : decode cX7_wipe 0 = .ok (.aload_n 0, 1) := by decide +kernel
theorem dX7_wipe_1 : decode cX7_wipe 1 = .ok (.getfield 10, 3) := by decide +kernel
theorem dX7_wipe_4 : decode cX7_wipe 4 = .ok (.getfield 69, 3) := by decide +kernel
theorem dX7_wipe_7 : decode cX7_wipe 7 = .ok (.istore_n 1, 1) := by decide +kernel
theorem dX7_wipe_8 : decode cX7_wipe 8 = .ok (.aload_n 0, 1) := by decide +kernel
theorem dX7_wipe_9 : decode cX7_wipe 9 = .ok (.getfield 10, 3) := by decide +kernel
theorem dX7_wipe_12 : decode cX7_wipe 12 = .ok (.iconst 0, 1) := by decide +kernel
theorem dX7_wipe_13 : decode cX7_wipe 13 = .ok (.putfield 69, 3) := by decide +kernel
theorem dX7_wipe_16 : decode cX7_wipe 16 = .ok (.iload_n 1, 1) := by decide +kernel
theorem dX7_wipe_17 : decode cX7_wipe 17 = .ok (.ireturn, 1) := by decide +kernel
theorem dX7_fault_0 : decode cX7_fault 0 = .ok (.aload_n 0, 1) := by decide +kernel
theorem dX7_fault_1 : decode cX7_fault 1 = .ok (.getfield 10, 3) := by decide +kernel
theorem dX7_fault_4 : decode cX7_fault 4 = .ok (.invokevirtual 73, 3) := by decide +kernel
theorem dX7_fault_7 : decode cX7_fault 7 = .ok (.ireturn, 1) := by decide +kernel
theorem dX7_office_0 : decode cX7_office 0 = .ok (.aload_n 0, 1) := by decide +kernel
theorem dX7_office_1 : decode cX7_office 1 = .ok (.getfield 10, 3) := by decide +kernel
theorem dX7_office_4 : decode cX7_office 4 = .ok (.invokevirtual 73, 3) := by decide +kernel
theorem dX7_office_7 : decode cX7_office 7 = .ok (.bipush (-9), 2) := by decide +kernel
theorem dX7_office_9 : decode cX7_office 9 = .ok (.if_icmp .eq 6, 3) := by decide +kernel
theorem dX7_office_12 : decode cX7_office 12 = .ok (.bipush (-3), 2) := by decide +kernel
theorem dX7_office_14 : decode cX7_office 14 = .ok (.ireturn, 1) := by decide +kernel
theorem dX7_office_15 : decode cX7_office 15 = .ok (.aload_n 0, 1) := by decide +kernel
theorem dX7_office_16 : decode cX7_office 16 = .ok (.invokevirtual 77, 3) := by decide +kernel
theorem dX7_office_19 : decode cX7_office 19 = .ok (.aload_n 0, 1) := by decide +kernel
theorem dX7_office_20 : decode cX7_office 20 = .ok (.getfield 26, 3) := by decide +kernel
theorem dX7_office_23 : decode cX7_office 23 = .ok (.invokevirtual 80, 3) := by decide +kernel
theorem dX7_office_26 : decode cX7_office 26 = .ok (.aload_n 0, 1) := by decide +kernel
theorem dX7_office_27 : decode cX7_office 27 = .ok (.getfield 26, 3) := by decide +kernel
theorem dX7_office_30 : decode cX7_office 30 = .ok (.iconst 0, 1) := by decide +kernel
theorem dX7_office_31 : decode cX7_office 31 = .ok (.putfield 83, 3) := by decide +kernel
theorem dX7_office_34 : decode cX7_office 34 = .ok (.aload_n 0, 1) := by decide +kernel
theorem dX7_office_35 : decode cX7_office 35 = .ok (.getfield 36, 3) := by decide +kernel
theorem dX7_office_38 : decode cX7_office 38 = .ok (.invokevirtual 86, 3) := by decide +kernel
theorem dX7_office_41 : decode cX7_office 41 = .ok (.aload_n 0, 1) := by decide +kernel
theorem dX7_office_42 : decode cX7_office 42 = .ok (.getfield 50, 3) := by decide +kernel
theorem dX7_office_45 : decode cX7_office 45 = .ok (.invokevirtual 89, 3) := by decide +kernel
theorem dX7_office_48 : decode cX7_office 48 = .ok (.aload_n 0, 1) := by decide +kernel
theorem dX7_office_49 : decode cX7_office 49 = .ok (.getfield 19, 3) := by decide +kernel
theorem dX7_office_52 : decode cX7_office 52 = .ok (.getfield 90, 3) := by decide +kernel
theorem dX7_office_55 : decode cX7_office 55 = .ok (.ireturn, 1) := by decide +kernel
theorem dX7_about_0 : decode cX7_about 0 = .ok (.iload_n 1, 1) := by decide +kernel
theorem dX7_about_1 : decode cX7_about 1 = .ok (.tableswitch 132 0 8 #[51, 59, 67, 76, 84, 100, 108, 116, 124], 51) := by decide +kernel
theorem dX7_about_52 : decode cX7_about 52 = .ok (.aload_n 0, 1) := by decide +kernel
theorem dX7_about_53 : decode cX7_about 53 = .ok (.getfield 19, 3) := by decide +kernel
theorem dX7_about_56 : decode cX7_about 56 = .ok (.getfield 90, 3) := by decide +kernel
theorem dX7_about_59 : decode cX7_about 59 = .ok (.ireturn, 1) := by decide +kernel
theorem dX7_about_60 : decode cX7_about 60 = .ok (.aload_n 0, 1) := by decide +kernel
theorem dX7_about_61 : decode cX7_about 61 = .ok (.getfield 26, 3) := by decide +kernel
theorem dX7_about_64 : decode cX7_about 64 = .ok (.getfield 83, 3) := by decide +kernel
theorem dX7_about_67 : decode cX7_about 67 = .ok (.ireturn, 1) := by decide +kernel
theorem dX7_about_68 : decode cX7_about 68 = .ok (.aload_n 0, 1) := by decide +kernel
theorem dX7_about_69 : decode cX7_about 69 = .ok (.getfield 26, 3) := by decide +kernel
theorem dX7_about_72 : decode cX7_about 72 = .ok (.iconst 0, 1) := by decide +kernel
theorem dX7_about_73 : decode cX7_about 73 = .ok (.invokevirtual 93, 3) := by decide +kernel
theorem dX7_about_76 : decode cX7_about 76 = .ok (.ireturn, 1) := by decide +kernel
theorem dX7_about_77 : decode cX7_about 77 = .ok (.aload_n 0, 1) := by decide +kernel
theorem dX7_about_78 : decode cX7_about 78 = .ok (.getfield 26, 3) := by decide +kernel
theorem dX7_about_81 : decode cX7_about 81 = .ok (.invokevirtual 97, 3) := by decide +kernel
theorem dX7_about_84 : decode cX7_about 84 = .ok (.ireturn, 1) := by decide +kernel
theorem dX7_about_85 : decode cX7_about 85 = .ok (.aload_n 0, 1) := by decide +kernel
theorem dX7_about_86 : decode cX7_about 86 = .ok (.getfield 19, 3) := by decide +kernel
theorem dX7_about_89 : decode cX7_about 89 = .ok (.aload_n 0, 1) := by decide +kernel
theorem dX7_about_90 : decode cX7_about 90 = .ok (.getfield 26, 3) := by decide +kernel
theorem dX7_about_93 : decode cX7_about 93 = .ok (.iconst 0, 1) := by decide +kernel
theorem dX7_about_94 : decode cX7_about 94 = .ok (.invokevirtual 93, 3) := by decide +kernel
theorem dX7_about_97 : decode cX7_about 97 = .ok (.invokevirtual 100, 3) := by decide +kernel
theorem dX7_about_100 : decode cX7_about 100 = .ok (.ireturn, 1) := by decide +kernel
theorem dX7_about_101 : decode cX7_about 101 = .ok (.aload_n 0, 1) := by decide +kernel
theorem dX7_about_102 : decode cX7_about 102 = .ok (.getfield 26, 3) := by decide +kernel
theorem dX7_about_105 : decode cX7_about 105 = .ok (.invokevirtual 103, 3) := by decide +kernel
theorem dX7_about_108 : decode cX7_about 108 = .ok (.ireturn, 1) := by decide +kernel
theorem dX7_about_109 : decode cX7_about 109 = .ok (.aload_n 0, 1) := by decide +kernel
theorem dX7_about_110 : decode cX7_about 110 = .ok (.getfield 36, 3) := by decide +kernel
theorem dX7_about_113 : decode cX7_about 113 = .ok (.getfield 106, 3) := by decide +kernel
theorem dX7_about_116 : decode cX7_about 116 = .ok (.ireturn, 1) := by decide +kernel
theorem dX7_about_117 : decode cX7_about 117 = .ok (.aload_n 0, 1) := by decide +kernel
theorem dX7_about_118 : decode cX7_about 118 = .ok (.getfield 43, 3) := by decide +kernel
theorem dX7_about_121 : decode cX7_about 121 = .ok (.getfield 107, 3) := by decide +kernel
theorem dX7_about_124 : decode cX7_about 124 = .ok (.ireturn, 1) := by decide +kernel
theorem dX7_about_125 : decode cX7_about 125 = .ok (.aload_n 0, 1) := by decide +kernel
theorem dX7_about_126 : decode cX7_about 126 = .ok (.getfield 10, 3) := by decide +kernel
theorem dX7_about_129 : decode cX7_about 129 = .ok (.getfield 69, 3) := by decide +kernel
theorem dX7_about_132 : decode cX7_about 132 = .ok (.ireturn, 1) := by decide +kernel
theorem dX7_about_133 : decode cX7_about 133 = .ok (.bipush (-2), 2) := by decide +kernel
theorem dX7_about_135 : decode cX7_about 135 = .ok (.ireturn, 1) := by decide +kernel
theorem dX7_letter_0 : decode cX7_letter 0 = .ok (.aload_n 0, 1) := by decide +kernel
theorem dX7_letter_1 : decode cX7_letter 1 = .ok (.getfield 19, 3) := by decide +kernel
theorem dX7_letter_4 : decode cX7_letter 4 = .ok (.iload_n 1, 1) := by decide +kernel
theorem dX7_letter_5 : decode cX7_letter 5 = .ok (.invokevirtual 108, 3) := by decide +kernel
theorem dX7_letter_8 : decode cX7_letter 8 = .ok (.ifCond .ne 5, 3) := by decide +kernel
theorem dX7_letter_11 : decode cX7_letter 11 = .ok (.iconst (-1), 1) := by decide +kernel
theorem dX7_letter_12 : decode cX7_letter 12 = .ok (.ireturn, 1) := by decide +kernel
theorem dX7_letter_13 : decode cX7_letter 13 = .ok (.iload_n 2, 1) := by decide +kernel
theorem dX7_letter_14 : decode cX7_letter 14 = .ok (.tableswitch 95 0 4 #[34, 43, 52, 61, 70], 34) := by decide +kernel
theorem dX7_letter_48 : decode cX7_letter 48 = .ok (.aload_n 0, 1) := by decide +kernel
theorem dX7_letter_49 : decode cX7_letter 49 = .ok (.getfield 19, 3) := by decide +kernel
theorem dX7_letter_52 : decode cX7_letter 52 = .ok (.iload_n 1, 1) := by decide +kernel
theorem dX7_letter_53 : decode cX7_letter 53 = .ok (.invokevirtual 111, 3) := by decide +kernel
theorem dX7_letter_56 : decode cX7_letter 56 = .ok (.ireturn, 1) := by decide +kernel
theorem dX7_letter_57 : decode cX7_letter 57 = .ok (.aload_n 0, 1) := by decide +kernel
theorem dX7_letter_58 : decode cX7_letter 58 = .ok (.getfield 19, 3) := by decide +kernel
theorem dX7_letter_61 : decode cX7_letter 61 = .ok (.iload_n 1, 1) := by decide +kernel
theorem dX7_letter_62 : decode cX7_letter 62 = .ok (.invokevirtual 114, 3) := by decide +kernel
theorem dX7_letter_65 : decode cX7_letter 65 = .ok (.ireturn, 1) := by decide +kernel
theorem dX7_letter_66 : decode cX7_letter 66 = .ok (.aload_n 0, 1) := by decide +kernel
theorem dX7_letter_67 : decode cX7_letter 67 = .ok (.getfield 19, 3) := by decide +kernel
theorem dX7_letter_70 : decode cX7_letter 70 = .ok (.iload_n 1, 1) := by decide +kernel
theorem dX7_letter_71 : decode cX7_letter 71 = .ok (.invokevirtual 117, 3) := by decide +kernel
theorem dX7_letter_74 : decode cX7_letter 74 = .ok (.ireturn, 1) := by decide +kernel
theorem dX7_letter_75 : decode cX7_letter 75 = .ok (.aload_n 0, 1) := by decide +kernel
theorem dX7_letter_76 : decode cX7_letter 76 = .ok (.getfield 19, 3) := by decide +kernel
theorem dX7_letter_79 : decode cX7_letter 79 = .ok (.iload_n 1, 1) := by decide +kernel
theorem dX7_letter_80 : decode cX7_letter 80 = .ok (.invokevirtual 120, 3) := by decide +kernel
theorem dX7_letter_83 : decode cX7_letter 83 = .ok (.ireturn, 1) := by decide +kernel
theorem dX7_letter_84 : decode cX7_letter 84 = .ok (.aload_n 0, 1) := by decide +kernel
theorem dX7_letter_85 : decode cX7_letter 85 = .ok (.getfield 19, 3) := by decide +kernel
theorem dX7_letter_88 : decode cX7_letter 88 = .ok (.iload_n 1, 1) := by decide +kernel
theorem dX7_letter_89 : decode cX7_letter 89 = .ok (.aload_n 0, 1) := by decide +kernel
theorem dX7_letter_90 : decode cX7_letter 90 = .ok (.getfield 26, 3) := by decide +kernel
theorem dX7_letter_93 : decode cX7_letter 93 = .ok (.iconst 0, 1) := by decide +kernel
theorem dX7_letter_94 : decode cX7_letter 94 = .ok (.invokevirtual 93, 3) := by decide +kernel
theorem dX7_letter_97 : decode cX7_letter 97 = .ok (.invokevirtual 123, 3) := by decide +kernel
theorem dX7_letter_100 : decode cX7_letter 100 = .ok (.ifCond .eq 7, 3) := by decide +kernel
theorem dX7_letter_103 : decode cX7_letter 103 = .ok (.iconst 1, 1) := by decide +kernel
theorem dX7_letter_104 : decode cX7_letter 104 = .ok (.goto 4, 3) := by decide +kernel
theorem dX7_letter_107 : decode cX7_letter 107 = .ok (.iconst 0, 1) := by decide +kernel
theorem dX7_letter_108 : decode cX7_letter 108 = .ok (.ireturn, 1) := by decide +kernel
theorem dX7_letter_109 : decode cX7_letter 109 = .ok (.bipush (-2), 2) := by decide +kernel
theorem dX7_letter_111 : decode cX7_letter 111 = .ok (.ireturn, 1) := by decide +kernel
theorem dX7_cell_0 : decode cX7_cell 0 = .ok (.iload_n 1, 1) := by decide +kernel
theorem dX7_cell_1 : decode cX7_cell 1 = .ok (.invokestatic 127, 3) := by decide +kernel
theorem dX7_cell_4 : decode cX7_cell 4 = .ok (.ifCond .ne 6, 3) := by decide +kernel
theorem dX7_cell_7 : decode cX7_cell 7 = .ok (.bipush (-2), 2) := by decide +kernel
theorem dX7_cell_9 : decode cX7_cell 9 = .ok (.ireturn, 1) := by decide +kernel
theorem dX7_cell_10 : decode cX7_cell 10 = .ok (.iload_n 2, 1) := by decide +kernel
theorem dX7_cell_11 : decode cX7_cell 11 = .ok (.lookupswitch 43 #[(0, 25), (1, 34)], 25) := by decide +kernel
theorem dX7_cell_36 : decode cX7_cell 36 = .ok (.aload_n 0, 1) := by decide +kernel
theorem dX7_cell_37 : decode cX7_cell 37 = .ok (.getfield 26, 3) := by decide +kernel
theorem dX7_cell_40 : decode cX7_cell 40 = .ok (.iload_n 1, 1) := by decide +kernel
theorem dX7_cell_41 : decode cX7_cell 41 = .ok (.invokevirtual 130, 3) := by decide +kernel
theorem dX7_cell_44 : decode cX7_cell 44 = .ok (.ireturn, 1) := by decide +kernel
theorem dX7_cell_45 : decode cX7_cell 45 = .ok (.aload_n 0, 1) := by decide +kernel
theorem dX7_cell_46 : decode cX7_cell 46 = .ok (.getfield 26, 3) := by decide +kernel
theorem dX7_cell_49 : decode cX7_cell 49 = .ok (.iload_n 1, 1) := by decide +kernel
theorem dX7_cell_50 : decode cX7_cell 50 = .ok (.invokevirtual 133, 3) := by decide +kernel
theorem dX7_cell_53 : decode cX7_cell 53 = .ok (.ireturn, 1) := by decide +kernel
theorem dX7_cell_54 : decode cX7_cell 54 = .ok (.bipush (-2), 2) := by decide +kernel
theorem dX7_cell_56 : decode cX7_cell 56 = .ok (.ireturn, 1) := by decide +kernel
theorem dX7_press_0 : decode cX7_press 0 = .ok (.aload_n 0, 1) := by decide +kernel
theorem dX7_press_1 : decode cX7_press 1 = .ok (.getfield 19, 3) := by decide +kernel
theorem dX7_press_4 : decode cX7_press 4 = .ok (.iload_n 1, 1) := by decide +kernel
theorem dX7_press_5 : decode cX7_press 5 = .ok (.invokevirtual 108, 3) := by decide +kernel
theorem dX7_press_8 : decode cX7_press 8 = .ok (.ifCond .ne 5, 3) := by decide +kernel
theorem dX7_press_11 : decode cX7_press 11 = .ok (.iconst (-1), 1) := by decide +kernel
theorem dX7_press_12 : decode cX7_press 12 = .ok (.ireturn, 1) := by decide +kernel
theorem dX7_press_13 : decode cX7_press 13 = .ok (.aload_n 0, 1) := by decide +kernel
theorem dX7_press_14 : decode cX7_press 14 = .ok (.getfield 36, 3) := by decide +kernel
theorem dX7_press_17 : decode cX7_press 17 = .ok (.aload_n 0, 1) := by decide +kernel
theorem dX7_press_18 : decode cX7_press 18 = .ok (.getfield 26, 3) := by decide +kernel
theorem dX7_press_21 : decode cX7_press 21 = .ok (.invokevirtual 136, 3) := by decide +kernel
theorem dX7_press_24 : decode cX7_press 24 = .ok (.aload_n 0, 1) := by decide +kernel
theorem dX7_press_25 : decode cX7_press 25 = .ok (.getfield 26, 3) := by decide +kernel
theorem dX7_press_28 : decode cX7_press 28 = .ok (.aload_n 0, 1) := by decide +kernel
theorem dX7_press_29 : decode cX7_press 29 = .ok (.getfield 19, 3) := by decide +kernel
theorem dX7_press_32 : decode cX7_press 32 = .ok (.iload_n 1, 1) := by decide +kernel
theorem dX7_press_33 : decode cX7_press 33 = .ok (.invokevirtual 120, 3) := by decide +kernel
theorem dX7_press_36 : decode cX7_press 36 = .ok (.aload_n 0, 1) := by decide +kernel
theorem dX7_press_37 : decode cX7_press 37 = .ok (.getfield 19, 3) := by decide +kernel
theorem dX7_press_40 : decode cX7_press 40 = .ok (.iload_n 1, 1) := by decide +kernel
theorem dX7_press_41 : decode cX7_press 41 = .ok (.invokevirtual 117, 3) := by decide +kernel
theorem dX7_press_44 : decode cX7_press 44 = .ok (.iload_n 1, 1) := by decide +kernel
theorem dX7_press_45 : decode cX7_press 45 = .ok (.invokevirtual 140, 3) := by decide +kernel
theorem dX7_press_48 : decode cX7_press 48 = .ok (.aload_n 0, 1) := by decide +kernel
theorem dX7_press_49 : decode cX7_press 49 = .ok (.getfield 26, 3) := by decide +kernel
theorem dX7_press_52 : decode cX7_press 52 = .ok (.iconst 0, 1) := by decide +kernel
theorem dX7_press_53 : decode cX7_press 53 = .ok (.invokevirtual 93, 3) := by decide +kernel
theorem dX7_press_56 : decode cX7_press 56 = .ok (.invokestatic 144, 3) := by decide +kernel
theorem dX7_press_59 : decode cX7_press 59 = .ok (.ireturn, 1) := by decide +kernel
theorem dX7_day_0 : decode cX7_day 0 = .ok (.aload_n 0, 1) := by decide +kernel
theorem dX7_day_1 : decode cX7_day 1 = .ok (.getfield 36, 3) := by decide +kernel
theorem dX7_day_4 : decode cX7_day 4 = .ok (.aload_n 0, 1) := by decide +kernel
theorem dX7_day_5 : decode cX7_day 5 = .ok (.getfield 26, 3) := by decide +kernel
theorem dX7_day_8 : decode cX7_day 8 = .ok (.invokevirtual 136, 3) := by decide +kernel
theorem dX7_day_11 : decode cX7_day 11 = .ok (.aload_n 0, 1) := by decide +kernel
theorem dX7_day_12 : decode cX7_day 12 = .ok (.getfield 26, 3) := by decide +kernel
theorem dX7_day_15 : decode cX7_day 15 = .ok (.invokevirtual 149, 3) := by decide +kernel
theorem dX7_day_18 : decode cX7_day 18 = .ok (.aload_n 0, 1) := by decide +kernel
theorem dX7_day_19 : decode cX7_day 19 = .ok (.getfield 26, 3) := by decide +kernel
theorem dX7_day_22 : decode cX7_day 22 = .ok (.getfield 83, 3) := by decide +kernel
theorem dX7_day_25 : decode cX7_day 25 = .ok (.ireturn, 1) := by decide +kernel
theorem dX7_rub_0 : decode cX7_rub 0 = .ok (.iload_n 1, 1) := by decide +kernel
theorem dX7_rub_1 : decode cX7_rub 1 = .ok (.invokestatic 127, 3) := by decide +kernel
theorem dX7_rub_4 : decode cX7_rub 4 = .ok (.ifCond .ne 6, 3) := by decide +kernel
theorem dX7_rub_7 : decode cX7_rub 7 = .ok (.bipush (-2), 2) := by decide +kernel
theorem dX7_rub_9 : decode cX7_rub 9 = .ok (.ireturn, 1) := by decide +kernel
theorem dX7_rub_10 : decode cX7_rub 10 = .ok (.aload_n 0, 1) := by decide +kernel
theorem dX7_rub_11 : decode cX7_rub 11 = .ok (.getfield 26, 3) := by decide +kernel
theorem dX7_rub_14 : decode cX7_rub 14 = .ok (.iload_n 1, 1) := by decide +kernel
theorem dX7_rub_15 : decode cX7_rub 15 = .ok (.invokevirtual 130, 3) := by decide +kernel
theorem dX7_rub_18 : decode cX7_rub 18 = .ok (.istore_n 2, 1) := by decide +kernel
theorem dX7_rub_19 : decode cX7_rub 19 = .ok (.iload_n 2, 1) := by decide +kernel
theorem dX7_rub_20 : decode cX7_rub 20 = .ok (.ifCond .ne 6, 3) := by decide +kernel
theorem dX7_rub_23 : decode cX7_rub 23 = .ok (.bipush (-3), 2) := by decide +kernel
theorem dX7_rub_25 : decode cX7_rub 25 = .ok (.ireturn, 1) := by decide +kernel
theorem dX7_rub_26 : decode cX7_rub 26 = .ok (.aload_n 0, 1) := by decide +kernel
theorem dX7_rub_27 : decode cX7_rub 27 = .ok (.getfield 36, 3) := by decide +kernel
theorem dX7_rub_30 : decode cX7_rub 30 = .ok (.aload_n 0, 1) := by decide +kernel
theorem dX7_rub_31 : decode cX7_rub 31 = .ok (.getfield 26, 3) := by decide +kernel
theorem dX7_rub_34 : decode cX7_rub 34 = .ok (.invokevirtual 136, 3) := by decide +kernel
theorem dX7_rub_37 : decode cX7_rub 37 = .ok (.aload_n 0, 1) := by decide +kernel
theorem dX7_rub_38 : decode cX7_rub 38 = .ok (.getfield 26, 3) := by decide +kernel
theorem dX7_rub_41 : decode cX7_rub 41 = .ok (.iload_n 1, 1) := by decide +kernel
theorem dX7_rub_42 : decode cX7_rub 42 = .ok (.invokevirtual 152, 3) := by decide +kernel
theorem dX7_rub_45 : decode cX7_rub 45 = .ok (.iload_n 2, 1) := by decide +kernel
theorem dX7_rub_46 : decode cX7_rub 46 = .ok (.ireturn, 1) := by decide +kernel
theorem dX7_change_0 : decode cX7_change 0 = .ok (.aload_n 0, 1) := by decide +kernel
theorem dX7_change_1 : decode cX7_change 1 = .ok (.getfield 26, 3) := by decide +kernel
theorem dX7_change_4 : decode cX7_change 4 = .ok (.iconst 0, 1) := by decide +kernel
theorem dX7_change_5 : decode cX7_change 5 = .ok (.invokevirtual 93, 3) := by decide +kernel
theorem dX7_change_8 : decode cX7_change 8 = .ok (.istore_n 1, 1) := by decide +kernel
theorem dX7_change_9 : decode cX7_change 9 = .ok (.iload_n 1, 1) := by decide +kernel
theorem dX7_change_10 : decode cX7_change 10 = .ok (.ifCond .ne 6, 3) := by decide +kernel
theorem dX7_change_13 : decode cX7_change 13 = .ok (.bipush (-3), 2) := by decide +kernel
theorem dX7_change_15 : decode cX7_change 15 = .ok (.ireturn, 1) := by decide +kernel
theorem dX7_change_16 : decode cX7_change 16 = .ok (.aload_n 0, 1) := by decide +kernel
theorem dX7_change_17 : decode cX7_change 17 = .ok (.getfield 36, 3) := by decide +kernel
theorem dX7_change_20 : decode cX7_change 20 = .ok (.aload_n 0, 1) := by decide +kernel
theorem dX7_change_21 : decode cX7_change 21 = .ok (.getfield 26, 3) := by decide +kernel
theorem dX7_change_24 : decode cX7_change 24 = .ok (.invokevirtual 136, 3) := by decide +kernel
theorem dX7_change_27 : decode cX7_change 27 = .ok (.aload_n 0, 1) := by decide +kernel
theorem dX7_change_28 : decode cX7_change 28 = .ok (.getfield 26, 3) := by decide +kernel
theorem dX7_change_31 : decode cX7_change 31 = .ok (.invokevirtual 80, 3) := by decide +kernel
theorem dX7_change_34 : decode cX7_change 34 = .ok (.iload_n 1, 1) := by decide +kernel
theorem dX7_change_35 : decode cX7_change 35 = .ok (.invokestatic 144, 3) := by decide +kernel
theorem dX7_change_38 : decode cX7_change 38 = .ok (.ireturn, 1) := by decide +kernel
theorem dX7_undo_0 : decode cX7_undo 0 = .ok (.aload_n 0, 1) := by decide +kernel
theorem dX7_undo_1 : decode cX7_undo 1 = .ok (.getfield 36, 3) := by decide +kernel
theorem dX7_undo_4 : decode cX7_undo 4 = .ok (.aload_n 0, 1) := by decide +kernel
theorem dX7_undo_5 : decode cX7_undo 5 = .ok (.getfield 26, 3) := by decide +kernel
theorem dX7_undo_8 : decode cX7_undo 8 = .ok (.invokevirtual 156, 3) := by decide +kernel
theorem dX7_undo_11 : decode cX7_undo 11 = .ok (.ifCond .eq 13, 3) := by decide +kernel
theorem dX7_undo_14 : decode cX7_undo 14 = .ok (.aload_n 0, 1) := by decide +kernel
theorem dX7_undo_15 : decode cX7_undo 15 = .ok (.getfield 36, 3) := by decide +kernel
theorem dX7_undo_18 : decode cX7_undo 18 = .ok (.getfield 106, 3) := by decide +kernel
theorem dX7_undo_21 : decode cX7_undo 21 = .ok (.goto 5, 3) := by decide +kernel
theorem dX7_undo_24 : decode cX7_undo 24 = .ok (.bipush (-3), 2) := by decide +kernel
theorem dX7_undo_26 : decode cX7_undo 26 = .ok (.ireturn, 1) := by decide +kernel
theorem dX7_later_0 : decode cX7_later 0 = .ok (.iload_n 1, 1) := by decide +kernel
theorem dX7_later_1 : decode cX7_later 1 = .ok (.ifCond .lt 9, 3) := by decide +kernel
theorem dX7_later_4 : decode cX7_later 4 = .ok (.iload_n 1, 1) := by decide +kernel
theorem dX7_later_5 : decode cX7_later 5 = .ok (.bipush 9, 2) := by decide +kernel
theorem dX7_later_7 : decode cX7_later 7 = .ok (.if_icmp .le 8, 3) := by decide +kernel
theorem dX7_later_10 : decode cX7_later 10 = .ok (.bipush (-2), 2) := by decide +kernel
theorem dX7_later_12 : decode cX7_later 12 = .ok (.goto 11, 3) := by decide +kernel
theorem dX7_later_15 : decode cX7_later 15 = .ok (.aload_n 0, 1) := by decide +kernel
theorem dX7_later_16 : decode cX7_later 16 = .ok (.getfield 26, 3) := by decide +kernel
theorem dX7_later_19 : decode cX7_later 19 = .ok (.iload_n 1, 1) := by decide +kernel
theorem dX7_later_20 : decode cX7_later 20 = .ok (.invokevirtual 93, 3) := by decide +kernel
theorem dX7_later_23 : decode cX7_later 23 = .ok (.ireturn, 1) := by decide +kernel
theorem dX7_lasts_0 : decode cX7_lasts 0 = .ok (.aload_n 0, 1) := by decide +kernel
theorem dX7_lasts_1 : decode cX7_lasts 1 = .ok (.getfield 19, 3) := by decide +kernel
theorem dX7_lasts_4 : decode cX7_lasts 4 = .ok (.iload_n 1, 1) := by decide +kernel
theorem dX7_lasts_5 : decode cX7_lasts 5 = .ok (.invokevirtual 108, 3) := by decide +kernel
theorem dX7_lasts_8 : decode cX7_lasts 8 = .ok (.ifCond .ne 5, 3) := by decide +kernel
theorem dX7_lasts_11 : decode cX7_lasts 11 = .ok (.iconst (-1), 1) := by decide +kernel
theorem dX7_lasts_12 : decode cX7_lasts 12 = .ok (.ireturn, 1) := by decide +kernel
theorem dX7_lasts_13 : decode cX7_lasts 13 = .ok (.iconst 0, 1) := by decide +kernel
theorem dX7_lasts_14 : decode cX7_lasts 14 = .ok (.istore_n 2, 1) := by decide +kernel
theorem dX7_lasts_15 : decode cX7_lasts 15 = .ok (.iload_n 2, 1) := by decide +kernel
theorem dX7_lasts_16 : decode cX7_lasts 16 = .ok (.bipush 9, 2) := by decide +kernel
theorem dX7_lasts_18 : decode cX7_lasts 18 = .ok (.if_icmp .ge 28, 3) := by decide +kernel
theorem dX7_lasts_21 : decode cX7_lasts 21 = .ok (.aload_n 0, 1) := by decide +kernel
theorem dX7_lasts_22 : decode cX7_lasts 22 = .ok (.getfield 19, 3) := by decide +kernel
theorem dX7_lasts_25 : decode cX7_lasts 25 = .ok (.iload_n 1, 1) := by decide +kernel
theorem dX7_lasts_26 : decode cX7_lasts 26 = .ok (.aload_n 0, 1) := by decide +kernel
theorem dX7_lasts_27 : decode cX7_lasts 27 = .ok (.getfield 26, 3) := by decide +kernel
theorem dX7_lasts_30 : decode cX7_lasts 30 = .ok (.iload_n 2, 1) := by decide +kernel
theorem dX7_lasts_31 : decode cX7_lasts 31 = .ok (.invokevirtual 93, 3) := by decide +kernel
theorem dX7_lasts_34 : decode cX7_lasts 34 = .ok (.invokevirtual 123, 3) := by decide +kernel
theorem dX7_lasts_37 : decode cX7_lasts 37 = .ok (.ifCond .eq 9, 3) := by decide +kernel
theorem dX7_lasts_40 : decode cX7_lasts 40 = .ok (.iinc 2 1, 3) := by decide +kernel
theorem dX7_lasts_43 : decode cX7_lasts 43 = .ok (.goto (-28), 3) := by decide +kernel
theorem dX7_lasts_46 : decode cX7_lasts 46 = .ok (.iload_n 2, 1) := by decide +kernel
theorem dX7_lasts_47 : decode cX7_lasts 47 = .ok (.ireturn, 1) := by decide +kernel
theorem dX7_shows_0 : decode cX7_shows 0 = .ok (.iload_n 1, 1) := by decide +kernel
theorem dX7_shows_1 : decode cX7_shows 1 = .ok (.ifCond .lt 14, 3) := by decide +kernel
theorem dX7_shows_4 : decode cX7_shows 4 = .ok (.iload_n 1, 1) := by decide +kernel
theorem dX7_shows_5 : decode cX7_shows 5 = .ok (.aload_n 0, 1) := by decide +kernel
theorem dX7_shows_6 : decode cX7_shows 6 = .ok (.getfield 19, 3) := by decide +kernel
theorem dX7_shows_9 : decode cX7_shows 9 = .ok (.invokevirtual 160, 3) := by decide +kernel
theorem dX7_shows_12 : decode cX7_shows 12 = .ok (.if_icmp .le 8, 3) := by decide +kernel
theorem dX7_shows_15 : decode cX7_shows 15 = .ok (.bipush (-2), 2) := by decide +kernel
theorem dX7_shows_17 : decode cX7_shows 17 = .ok (.goto 11, 3) := by decide +kernel
theorem dX7_shows_20 : decode cX7_shows 20 = .ok (.aload_n 0, 1) := by decide +kernel
theorem dX7_shows_21 : decode cX7_shows 21 = .ok (.getfield 19, 3) := by decide +kernel
theorem dX7_shows_24 : decode cX7_shows 24 = .ok (.iload_n 1, 1) := by decide +kernel
theorem dX7_shows_25 : decode cX7_shows 25 = .ok (.invokevirtual 163, 3) := by decide +kernel
theorem dX7_shows_28 : decode cX7_shows 28 = .ok (.ireturn, 1) := by decide +kernel
theorem dX7_fits_0 : decode cX7_fits 0 = .ok (.iload_n 1, 1) := by decide +kernel
theorem dX7_fits_1 : decode cX7_fits 1 = .ok (.ifCond .lt 8, 3) := by decide +kernel
theorem dX7_fits_4 : decode cX7_fits 4 = .ok (.iload_n 1, 1) := by decide +kernel
theorem dX7_fits_5 : decode cX7_fits 5 = .ok (.iconst 2, 1) := by decide +kernel
theorem dX7_fits_6 : decode cX7_fits 6 = .ok (.if_icmp .le 6, 3) := by decide +kernel
theorem dX7_fits_9 : decode cX7_fits 9 = .ok (.bipush (-2), 2) := by decide +kernel
theorem dX7_fits_11 : decode cX7_fits 11 = .ok (.ireturn, 1) := by decide +kernel
theorem dX7_fits_12 : decode cX7_fits 12 = .ok (.aload_n 0, 1) := by decide +kernel
theorem dX7_fits_13 : decode cX7_fits 13 = .ok (.getfield 26, 3) := by decide +kernel
theorem dX7_fits_16 : decode cX7_fits 16 = .ok (.iconst 0, 1) := by decide +kernel
theorem dX7_fits_17 : decode cX7_fits 17 = .ok (.invokevirtual 93, 3) := by decide +kernel
theorem dX7_fits_20 : decode cX7_fits 20 = .ok (.istore_n 2, 1) := by decide +kernel
theorem dX7_fits_21 : decode cX7_fits 21 = .ok (.iconst 0, 1) := by decide +kernel
theorem dX7_fits_22 : decode cX7_fits 22 = .ok (.istore_n 3, 1) := by decide +kernel
theorem dX7_fits_23 : decode cX7_fits 23 = .ok (.aload_n 0, 1) := by decide +kernel
theorem dX7_fits_24 : decode cX7_fits 24 = .ok (.getfield 19, 3) := by decide +kernel
theorem dX7_fits_27 : decode cX7_fits 27 = .ok (.invokevirtual 160, 3) := by decide +kernel
theorem dX7_fits_30 : decode cX7_fits 30 = .ok (.istore 4, 2) := by decide +kernel
theorem dX7_fits_32 : decode cX7_fits 32 = .ok (.iconst 0, 1) := by decide +kernel
theorem dX7_fits_33 : decode cX7_fits 33 = .ok (.istore 5, 2) := by decide +kernel
theorem dX7_fits_35 : decode cX7_fits 35 = .ok (.iconst 0, 1) := by decide +kernel
theorem dX7_fits_36 : decode cX7_fits 36 = .ok (.istore 6, 2) := by decide +kernel
theorem dX7_fits_38 : decode cX7_fits 38 = .ok (.iload 6, 2) := by decide +kernel
theorem dX7_fits_40 : decode cX7_fits 40 = .ok (.aload_n 0, 1) := by decide +kernel
theorem dX7_fits_41 : decode cX7_fits 41 = .ok (.getfield 19, 3) := by decide +kernel
theorem dX7_fits_44 : decode cX7_fits 44 = .ok (.invokevirtual 160, 3) := by decide +kernel
theorem dX7_fits_47 : decode cX7_fits 47 = .ok (.if_icmp .gt 39, 3) := by decide +kernel
theorem dX7_fits_50 : decode cX7_fits 50 = .ok (.aload_n 0, 1) := by decide +kernel
theorem dX7_fits_51 : decode cX7_fits 51 = .ok (.getfield 19, 3) := by decide +kernel
theorem dX7_fits_54 : decode cX7_fits 54 = .ok (.iload 6, 2) := by decide +kernel
theorem dX7_fits_56 : decode cX7_fits 56 = .ok (.invokevirtual 163, 3) := by decide +kernel
theorem dX7_fits_59 : decode cX7_fits 59 = .ok (.iload_n 2, 1) := by decide +kernel
theorem dX7_fits_60 : decode cX7_fits 60 = .ok (.if_icmp .ne 20, 3) := by decide +kernel
theorem dX7_fits_63 : decode cX7_fits 63 = .ok (.iinc 3 1, 3) := by decide +kernel
theorem dX7_fits_66 : decode cX7_fits 66 = .ok (.iload 4, 2) := by decide +kernel
theorem dX7_fits_68 : decode cX7_fits 68 = .ok (.iload 6, 2) := by decide +kernel
theorem dX7_fits_70 : decode cX7_fits 70 = .ok (.iand, 1) := by decide +kernel
theorem dX7_fits_71 : decode cX7_fits 71 = .ok (.istore 4, 2) := by decide +kernel
theorem dX7_fits_73 : decode cX7_fits 73 = .ok (.iload 5, 2) := by decide +kernel
theorem dX7_fits_75 : decode cX7_fits 75 = .ok (.iload 6, 2) := by decide +kernel
theorem dX7_fits_77 : decode cX7_fits 77 = .ok (.ior, 1) := by decide +kernel
theorem dX7_fits_78 : decode cX7_fits 78 = .ok (.istore 5, 2) := by decide +kernel
theorem dX7_fits_80 : decode cX7_fits 80 = .ok (.iinc 6 1, 3) := by decide +kernel
theorem dX7_fits_83 : decode cX7_fits 83 = .ok (.goto (-45), 3) := by decide +kernel
theorem dX7_fits_86 : decode cX7_fits 86 = .ok (.iload_n 1, 1) := by decide +kernel
theorem dX7_fits_87 : decode cX7_fits 87 = .ok (.iload_n 3, 1) := by decide +kernel
theorem dX7_fits_88 : decode cX7_fits 88 = .ok (.iload 4, 2) := by decide +kernel
theorem dX7_fits_90 : decode cX7_fits 90 = .ok (.aload_n 0, 1) := by decide +kernel
theorem dX7_fits_91 : decode cX7_fits 91 = .ok (.getfield 19, 3) := by decide +kernel
theorem dX7_fits_94 : decode cX7_fits 94 = .ok (.invokevirtual 160, 3) := by decide +kernel
theorem dX7_fits_97 : decode cX7_fits 97 = .ok (.iload 5, 2) := by decide +kernel
theorem dX7_fits_99 : decode cX7_fits 99 = .ok (.iconst (-1), 1) := by decide +kernel
theorem dX7_fits_100 : decode cX7_fits 100 = .ok (.ixor, 1) := by decide +kernel
theorem dX7_fits_101 : decode cX7_fits 101 = .ok (.iand, 1) := by decide +kernel
theorem dX7_fits_102 : decode cX7_fits 102 = .ok (.invokestatic 166, 3) := by decide +kernel
theorem dX7_fits_105 : decode cX7_fits 105 = .ok (.ireturn, 1) := by decide +kernel
theorem dX7_keeps_0 : decode cX7_keeps 0 = .ok (.iload_n 1, 1) := by decide +kernel
theorem dX7_keeps_1 : decode cX7_keeps 1 = .ok (.ifCond .lt 8, 3) := by decide +kernel
theorem dX7_keeps_4 : decode cX7_keeps 4 = .ok (.iload_n 1, 1) := by decide +kernel
theorem dX7_keeps_5 : decode cX7_keeps 5 = .ok (.iconst 1, 1) := by decide +kernel
theorem dX7_keeps_6 : decode cX7_keeps 6 = .ok (.if_icmp .le 6, 3) := by decide +kernel
theorem dX7_keeps_9 : decode cX7_keeps 9 = .ok (.bipush (-2), 2) := by decide +kernel
theorem dX7_keeps_11 : decode cX7_keeps 11 = .ok (.ireturn, 1) := by decide +kernel
theorem dX7_keeps_12 : decode cX7_keeps 12 = .ok (.iconst 0, 1) := by decide +kernel
theorem dX7_keeps_13 : decode cX7_keeps 13 = .ok (.istore_n 2, 1) := by decide +kernel
theorem dX7_keeps_14 : decode cX7_keeps 14 = .ok (.iconst 1, 1) := by decide +kernel
theorem dX7_keeps_15 : decode cX7_keeps 15 = .ok (.istore_n 3, 1) := by decide +kernel
theorem dX7_keeps_16 : decode cX7_keeps 16 = .ok (.iload_n 3, 1) := by decide +kernel
theorem dX7_keeps_17 : decode cX7_keeps 17 = .ok (.aload_n 0, 1) := by decide +kernel
theorem dX7_keeps_18 : decode cX7_keeps 18 = .ok (.getfield 19, 3) := by decide +kernel
theorem dX7_keeps_21 : decode cX7_keeps 21 = .ok (.invokevirtual 160, 3) := by decide +kernel
theorem dX7_keeps_24 : decode cX7_keeps 24 = .ok (.if_icmp .gt 20, 3) := by decide +kernel
theorem dX7_keeps_27 : decode cX7_keeps 27 = .ok (.aload_n 0, 1) := by decide +kernel
theorem dX7_keeps_28 : decode cX7_keeps 28 = .ok (.iload_n 3, 1) := by decide +kernel
theorem dX7_keeps_29 : decode cX7_keeps 29 = .ok (.iload_n 2, 1) := by decide +kernel
theorem dX7_keeps_30 : decode cX7_keeps 30 = .ok (.invokevirtual 170, 3) := by decide +kernel
theorem dX7_keeps_33 : decode cX7_keeps 33 = .ok (.ifCond .eq 5, 3) := by decide +kernel
theorem dX7_keeps_36 : decode cX7_keeps 36 = .ok (.iload_n 3, 1) := by decide +kernel
theorem dX7_keeps_37 : decode cX7_keeps 37 = .ok (.istore_n 2, 1) := by decide +kernel
theorem dX7_keeps_38 : decode cX7_keeps 38 = .ok (.iinc 3 1, 3) := by decide +kernel
theorem dX7_keeps_41 : decode cX7_keeps 41 = .ok (.goto (-25), 3) := by decide +kernel
theorem dX7_keeps_44 : decode cX7_keeps 44 = .ok (.iload_n 1, 1) := by decide +kernel
theorem dX7_keeps_45 : decode cX7_keeps 45 = .ok (.ifCond .ne 11, 3) := by decide +kernel
theorem dX7_keeps_48 : decode cX7_keeps 48 = .ok (.aload_n 0, 1) := by decide +kernel
theorem dX7_keeps_49 : decode cX7_keeps 49 = .ok (.iload_n 2, 1) := by decide +kernel
theorem dX7_keeps_50 : decode cX7_keeps 50 = .ok (.invokevirtual 173, 3) := by decide +kernel
theorem dX7_keeps_53 : decode cX7_keeps 53 = .ok (.goto 4, 3) := by decide +kernel
theorem dX7_keeps_56 : decode cX7_keeps 56 = .ok (.iload_n 2, 1) := by decide +kernel
theorem dX7_keeps_57 : decode cX7_keeps 57 = .ok (.ireturn, 1) := by decide +kernel
theorem dX7_twice_0 : decode cX7_twice 0 = .ok (.iload_n 1, 1) := by decide +kernel
theorem dX7_twice_1 : decode cX7_twice 1 = .ok (.ifCond .lt 8, 3) := by decide +kernel
theorem dX7_twice_4 : decode cX7_twice 4 = .ok (.iload_n 1, 1) := by decide +kernel
theorem dX7_twice_5 : decode cX7_twice 5 = .ok (.iconst 2, 1) := by decide +kernel
theorem dX7_twice_6 : decode cX7_twice 6 = .ok (.if_icmp .le 6, 3) := by decide +kernel
theorem dX7_twice_9 : decode cX7_twice 9 = .ok (.bipush (-2), 2) := by decide +kernel
theorem dX7_twice_11 : decode cX7_twice 11 = .ok (.ireturn, 1) := by decide +kernel
theorem dX7_twice_12 : decode cX7_twice 12 = .ok (.iconst 0, 1) := by decide +kernel
theorem dX7_twice_13 : decode cX7_twice 13 = .ok (.istore_n 2, 1) := by decide +kernel
theorem dX7_twice_14 : decode cX7_twice 14 = .ok (.aload_n 0, 1) := by decide +kernel
theorem dX7_twice_15 : decode cX7_twice 15 = .ok (.getfield 19, 3) := by decide +kernel
theorem dX7_twice_18 : decode cX7_twice 18 = .ok (.invokevirtual 160, 3) := by decide +kernel
theorem dX7_twice_21 : decode cX7_twice 21 = .ok (.istore_n 3, 1) := by decide +kernel
theorem dX7_twice_22 : decode cX7_twice 22 = .ok (.aload_n 0, 1) := by decide +kernel
theorem dX7_twice_23 : decode cX7_twice 23 = .ok (.getfield 19, 3) := by decide +kernel
theorem dX7_twice_26 : decode cX7_twice 26 = .ok (.invokevirtual 160, 3) := by decide +kernel
theorem dX7_twice_29 : decode cX7_twice 29 = .ok (.istore 4, 2) := by decide +kernel
theorem dX7_twice_31 : decode cX7_twice 31 = .ok (.aload_n 0, 1) := by decide +kernel
theorem dX7_twice_32 : decode cX7_twice 32 = .ok (.getfield 57, 3) := by decide +kernel
theorem dX7_twice_35 : decode cX7_twice 35 = .ok (.invokevirtual 176, 3) := by decide +kernel
theorem dX7_twice_38 : decode cX7_twice 38 = .ok (.iconst 3, 1) := by decide +kernel
theorem dX7_twice_39 : decode cX7_twice 39 = .ok (.aload_n 0, 1) := by decide +kernel
theorem dX7_twice_40 : decode cX7_twice 40 = .ok (.getfield 19, 3) := by decide +kernel
theorem dX7_twice_43 : decode cX7_twice 43 = .ok (.getfield 90, 3) := by decide +kernel
theorem dX7_twice_46 : decode cX7_twice 46 = .ok (.invokestatic 179, 3) := by decide +kernel
theorem dX7_twice_49 : decode cX7_twice 49 = .ok (.istore 5, 2) := by decide +kernel
theorem dX7_twice_51 : decode cX7_twice 51 = .ok (.iload 5, 2) := by decide +kernel
theorem dX7_twice_53 : decode cX7_twice 53 = .ok (.ifCond .le 50, 3) := by decide +kernel
theorem dX7_twice_56 : decode cX7_twice 56 = .ok (.aload_n 0, 1) := by decide +kernel
theorem dX7_twice_57 : decode cX7_twice 57 = .ok (.invokevirtual 183, 3) := by decide +kernel
theorem dX7_twice_60 : decode cX7_twice 60 = .ok (.ifCond .eq 30, 3) := by decide +kernel
theorem dX7_twice_63 : decode cX7_twice 63 = .ok (.iinc 2 1, 3) := by decide +kernel
theorem dX7_twice_66 : decode cX7_twice 66 = .ok (.iload_n 3, 1) := by decide +kernel
theorem dX7_twice_67 : decode cX7_twice 67 = .ok (.aload_n 0, 1) := by decide +kernel
theorem dX7_twice_68 : decode cX7_twice 68 = .ok (.getfield 57, 3) := by decide +kernel
theorem dX7_twice_71 : decode cX7_twice 71 = .ok (.iconst 2, 1) := by decide +kernel
theorem dX7_twice_72 : decode cX7_twice 72 = .ok (.invokevirtual 187, 3) := by decide +kernel
theorem dX7_twice_75 : decode cX7_twice 75 = .ok (.iand, 1) := by decide +kernel
theorem dX7_twice_76 : decode cX7_twice 76 = .ok (.istore_n 3, 1) := by decide +kernel
theorem dX7_twice_77 : decode cX7_twice 77 = .ok (.iload 4, 2) := by decide +kernel
theorem dX7_twice_79 : decode cX7_twice 79 = .ok (.aload_n 0, 1) := by decide +kernel
theorem dX7_twice_80 : decode cX7_twice 80 = .ok (.getfield 57, 3) := by decide +kernel
theorem dX7_twice_83 : decode cX7_twice 83 = .ok (.iconst 0, 1) := by decide +kernel
theorem dX7_twice_84 : decode cX7_twice 84 = .ok (.invokevirtual 187, 3) := by decide +kernel
theorem dX7_twice_87 : decode cX7_twice 87 = .ok (.iand, 1) := by decide +kernel
theorem dX7_twice_88 : decode cX7_twice 88 = .ok (.istore 4, 2) := by decide +kernel
theorem dX7_twice_90 : decode cX7_twice 90 = .ok (.aload_n 0, 1) := by decide +kernel
theorem dX7_twice_91 : decode cX7_twice 91 = .ok (.getfield 57, 3) := by decide +kernel
theorem dX7_twice_94 : decode cX7_twice 94 = .ok (.invokevirtual 190, 3) := by decide +kernel
theorem dX7_twice_97 : decode cX7_twice 97 = .ok (.iinc 5 (-1), 3) := by decide +kernel
theorem dX7_twice_100 : decode cX7_twice 100 = .ok (.goto (-49), 3) := by decide +kernel
theorem dX7_twice_103 : decode cX7_twice 103 = .ok (.iload_n 1, 1) := by decide +kernel
theorem dX7_twice_104 : decode cX7_twice 104 = .ok (.iload_n 2, 1) := by decide +kernel
theorem dX7_twice_105 : decode cX7_twice 105 = .ok (.iload_n 3, 1) := by decide +kernel
theorem dX7_twice_106 : decode cX7_twice 106 = .ok (.iload 4, 2) := by decide +kernel
theorem dX7_twice_108 : decode cX7_twice 108 = .ok (.invokestatic 166, 3) := by decide +kernel
theorem dX7_twice_111 : decode cX7_twice 111 = .ok (.ireturn, 1) := by decide +kernel
theorem dX7_crossed_0 : decode cX7_crossed 0 = .ok (.iload_n 1, 1) := by decide +kernel
theorem dX7_crossed_1 : decode cX7_crossed 1 = .ok (.ifCond .lt 8, 3) := by decide +kernel
theorem dX7_crossed_4 : decode cX7_crossed 4 = .ok (.iload_n 1, 1) := by decide +kernel
theorem dX7_crossed_5 : decode cX7_crossed 5 = .ok (.iconst 1, 1) := by decide +kernel
theorem dX7_crossed_6 : decode cX7_crossed 6 = .ok (.if_icmp .le 6, 3) := by decide +kernel
theorem dX7_crossed_9 : decode cX7_crossed 9 = .ok (.bipush (-2), 2) := by decide +kernel
theorem dX7_crossed_11 : decode cX7_crossed 11 = .ok (.ireturn, 1) := by decide +kernel
theorem dX7_crossed_12 : decode cX7_crossed 12 = .ok (.iconst 0, 1) := by decide +kernel
theorem dX7_crossed_13 : decode cX7_crossed 13 = .ok (.istore_n 2, 1) := by decide +kernel
theorem dX7_crossed_14 : decode cX7_crossed 14 = .ok (.bipush (-9), 2) := by decide +kernel
theorem dX7_crossed_16 : decode cX7_crossed 16 = .ok (.istore_n 3, 1) := by decide +kernel
theorem dX7_crossed_17 : decode cX7_crossed 17 = .ok (.iconst 0, 1) := by decide +kernel
theorem dX7_crossed_18 : decode cX7_crossed 18 = .ok (.istore 4, 2) := by decide +kernel
theorem dX7_crossed_20 : decode cX7_crossed 20 = .ok (.iload 4, 2) := by decide +kernel
theorem dX7_crossed_22 : decode cX7_crossed 22 = .ok (.aload_n 0, 1) := by decide +kernel
theorem dX7_crossed_23 : decode cX7_crossed 23 = .ok (.getfield 19, 3) := by decide +kernel
theorem dX7_crossed_26 : decode cX7_crossed 26 = .ok (.getfield 90, 3) := by decide +kernel
theorem dX7_crossed_29 : decode cX7_crossed 29 = .ok (.if_icmp .ge 78, 3) := by decide +kernel
theorem dX7_crossed_32 : decode cX7_crossed 32 = .ok (.iload 4, 2) := by decide +kernel
theorem dX7_crossed_34 : decode cX7_crossed 34 = .ok (.iconst 1, 1) := by decide +kernel
theorem dX7_crossed_35 : decode cX7_crossed 35 = .ok (.iadd, 1) := by decide +kernel
theorem dX7_crossed_36 : decode cX7_crossed 36 = .ok (.istore 5, 2) := by decide +kernel
theorem dX7_crossed_38 : decode cX7_crossed 38 = .ok (.iload 5, 2) := by decide +kernel
theorem dX7_crossed_40 : decode cX7_crossed 40 = .ok (.aload_n 0, 1) := by decide +kernel
theorem dX7_crossed_41 : decode cX7_crossed 41 = .ok (.getfield 19, 3) := by decide +kernel
theorem dX7_crossed_44 : decode cX7_crossed 44 = .ok (.getfield 90, 3) := by decide +kernel
theorem dX7_crossed_47 : decode cX7_crossed 47 = .ok (.if_icmp .ge 54, 3) := by decide +kernel
theorem dX7_crossed_50 : decode cX7_crossed 50 = .ok (.aload_n 0, 1) := by decide +kernel
theorem dX7_crossed_51 : decode cX7_crossed 51 = .ok (.iload 4, 2) := by decide +kernel
theorem dX7_crossed_53 : decode cX7_crossed 53 = .ok (.iload 5, 2) := by decide +kernel
theorem dX7_crossed_55 : decode cX7_crossed 55 = .ok (.invokevirtual 193, 3) := by decide +kernel
theorem dX7_crossed_58 : decode cX7_crossed 58 = .ok (.istore 6, 2) := by decide +kernel
theorem dX7_crossed_60 : decode cX7_crossed 60 = .ok (.iload 6, 2) := by decide +kernel
theorem dX7_crossed_62 : decode cX7_crossed 62 = .ok (.bipush (-9), 2) := by decide +kernel
theorem dX7_crossed_64 : decode cX7_crossed 64 = .ok (.if_icmp .eq 31, 3) := by decide +kernel
theorem dX7_crossed_67 : decode cX7_crossed 67 = .ok (.iinc 2 1, 3) := by decide +kernel
theorem dX7_crossed_70 : decode cX7_crossed 70 = .ok (.iload_n 3, 1) := by decide +kernel
theorem dX7_crossed_71 : decode cX7_crossed 71 = .ok (.bipush (-9), 2) := by decide +kernel
theorem dX7_crossed_73 : decode cX7_crossed 73 = .ok (.if_icmp .ne 20, 3) := by decide +kernel
theorem dX7_crossed_76 : decode cX7_crossed 76 = .ok (.bipush 100, 2) := by decide +kernel
theorem dX7_crossed_78 : decode cX7_crossed 78 = .ok (.iload 4, 2) := by decide +kernel
theorem dX7_crossed_80 : decode cX7_crossed 80 = .ok (.imul, 1) := by decide +kernel
theorem dX7_crossed_81 : decode cX7_crossed 81 = .ok (.bipush 10, 2) := by decide +kernel
theorem dX7_crossed_83 : decode cX7_crossed 83 = .ok (.iload 5, 2) := by decide +kernel
theorem dX7_crossed_85 : decode cX7_crossed 85 = .ok (.imul, 1) := by decide +kernel
theorem dX7_crossed_86 : decode cX7_crossed 86 = .ok (.iadd, 1) := by decide +kernel
theorem dX7_crossed_87 : decode cX7_crossed 87 = .ok (.iload 6, 2) := by decide +kernel
theorem dX7_crossed_89 : decode cX7_crossed 89 = .ok (.iadd, 1) := by decide +kernel
theorem dX7_crossed_90 : decode cX7_crossed 90 = .ok (.goto 4, 3) := by decide +kernel
theorem dX7_crossed_93 : decode cX7_crossed 93 = .ok (.iload_n 3, 1) := by decide +kernel
theorem dX7_crossed_94 : decode cX7_crossed 94 = .ok (.istore_n 3, 1) := by decide +kernel
theorem dX7_crossed_95 : decode cX7_crossed 95 = .ok (.iinc 5 1, 3) := by decide +kernel
theorem dX7_crossed_98 : decode cX7_crossed 98 = .ok (.goto (-60), 3) := by decide +kernel
theorem dX7_crossed_101 : decode cX7_crossed 101 = .ok (.iinc 4 1, 3) := by decide +kernel
theorem dX7_crossed_104 : decode cX7_crossed 104 = .ok (.goto (-84), 3) := by decide +kernel
theorem dX7_crossed_107 : decode cX7_crossed 107 = .ok (.iload_n 1, 1) := by decide +kernel
theorem dX7_crossed_108 : decode cX7_crossed 108 = .ok (.ifCond .ne 7, 3) := by decide +kernel
theorem dX7_crossed_111 : decode cX7_crossed 111 = .ok (.iload_n 2, 1) := by decide +kernel
theorem dX7_crossed_112 : decode cX7_crossed 112 = .ok (.goto 4, 3) := by decide +kernel
theorem dX7_crossed_115 : decode cX7_crossed 115 = .ok (.iload_n 3, 1) := by decide +kernel
theorem dX7_crossed_116 : decode cX7_crossed 116 = .ok (.ireturn, 1) := by decide +kernel
theorem dX7_least_0 : decode cX7_least 0 = .ok (.iload_n 1, 1) := by decide +kernel
theorem dX7_least_1 : decode cX7_least 1 = .ok (.ifCond .lt 10, 3) := by decide +kernel
theorem dX7_least_4 : decode cX7_least 4 = .ok (.iload_n 1, 1) := by decide +kernel
theorem dX7_least_5 : decode cX7_least 5 = .ok (.sipush 4095, 3) := by decide +kernel
theorem dX7_least_8 : decode cX7_least 8 = .ok (.if_icmp .le 6, 3) := by decide +kernel
theorem dX7_least_11 : decode cX7_least 11 = .ok (.bipush (-2), 2) := by decide +kernel
theorem dX7_least_13 : decode cX7_least 13 = .ok (.ireturn, 1) := by decide +kernel
theorem dX7_least_14 : decode cX7_least 14 = .ok (.iload_n 1, 1) := by decide +kernel
theorem dX7_least_15 : decode cX7_least 15 = .ok (.aload_n 0, 1) := by decide +kernel
theorem dX7_least_16 : decode cX7_least 16 = .ok (.getfield 26, 3) := by decide +kernel
theorem dX7_least_19 : decode cX7_least 19 = .ok (.iconst 0, 1) := by decide +kernel
theorem dX7_least_20 : decode cX7_least 20 = .ok (.invokevirtual 93, 3) := by decide +kernel
theorem dX7_least_23 : decode cX7_least 23 = .ok (.iconst (-1), 1) := by decide +kernel
theorem dX7_least_24 : decode cX7_least 24 = .ok (.ixor, 1) := by decide +kernel
theorem dX7_least_25 : decode cX7_least 25 = .ok (.iand, 1) := by decide +kernel
theorem dX7_least_26 : decode cX7_least 26 = .ok (.istore_n 2, 1) := by decide +kernel
theorem dX7_least_27 : decode cX7_least 27 = .ok (.bipush (-9), 2) := by decide +kernel
theorem dX7_least_29 : decode cX7_least 29 = .ok (.istore_n 3, 1) := by decide +kernel
theorem dX7_least_30 : decode cX7_least 30 = .ok (.iconst 0, 1) := by decide +kernel
theorem dX7_least_31 : decode cX7_least 31 = .ok (.istore 4, 2) := by decide +kernel
theorem dX7_least_33 : decode cX7_least 33 = .ok (.iload 4, 2) := by decide +kernel
theorem dX7_least_35 : decode cX7_least 35 = .ok (.aload_n 0, 1) := by decide +kernel
theorem dX7_least_36 : decode cX7_least 36 = .ok (.getfield 19, 3) := by decide +kernel
theorem dX7_least_39 : decode cX7_least 39 = .ok (.invokevirtual 160, 3) := by decide +kernel
theorem dX7_least_42 : decode cX7_least 42 = .ok (.if_icmp .gt 58, 3) := by decide +kernel
theorem dX7_least_45 : decode cX7_least 45 = .ok (.iload_n 2, 1) := by decide +kernel
theorem dX7_least_46 : decode cX7_least 46 = .ok (.aload_n 0, 1) := by decide +kernel
theorem dX7_least_47 : decode cX7_least 47 = .ok (.getfield 19, 3) := by decide +kernel
theorem dX7_least_50 : decode cX7_least 50 = .ok (.iload 4, 2) := by decide +kernel
theorem dX7_least_52 : decode cX7_least 52 = .ok (.invokevirtual 163, 3) := by decide +kernel
theorem dX7_least_55 : decode cX7_least 55 = .ok (.iconst (-1), 1) := by decide +kernel
theorem dX7_least_56 : decode cX7_least 56 = .ok (.ixor, 1) := by decide +kernel
theorem dX7_least_57 : decode cX7_least 57 = .ok (.iand, 1) := by decide +kernel
theorem dX7_least_58 : decode cX7_least 58 = .ok (.ifCond .ne 7, 3) := by decide +kernel
theorem dX7_least_61 : decode cX7_least 61 = .ok (.iconst 1, 1) := by decide +kernel
theorem dX7_least_62 : decode cX7_least 62 = .ok (.goto 4, 3) := by decide +kernel
theorem dX7_least_65 : decode cX7_least 65 = .ok (.iconst 0, 1) := by decide +kernel
theorem dX7_least_66 : decode cX7_least 66 = .ok (.istore 5, 2) := by decide +kernel
theorem dX7_least_68 : decode cX7_least 68 = .ok (.iload 5, 2) := by decide +kernel
theorem dX7_least_70 : decode cX7_least 70 = .ok (.ifCond .eq 24, 3) := by decide +kernel
theorem dX7_least_73 : decode cX7_least 73 = .ok (.iload_n 3, 1) := by decide +kernel
theorem dX7_least_74 : decode cX7_least 74 = .ok (.bipush (-9), 2) := by decide +kernel
theorem dX7_least_76 : decode cX7_least 76 = .ok (.if_icmp .eq 15, 3) := by decide +kernel
theorem dX7_least_79 : decode cX7_least 79 = .ok (.iload 4, 2) := by decide +kernel
theorem dX7_least_81 : decode cX7_least 81 = .ok (.invokestatic 144, 3) := by decide +kernel
theorem dX7_least_84 : decode cX7_least 84 = .ok (.iload_n 3, 1) := by decide +kernel
theorem dX7_least_85 : decode cX7_least 85 = .ok (.invokestatic 144, 3) := by decide +kernel
theorem dX7_least_88 : decode cX7_least 88 = .ok (.if_icmp .ge 6, 3) := by decide +kernel
theorem dX7_least_91 : decode cX7_least 91 = .ok (.iload 4, 2) := by decide +kernel
theorem dX7_least_93 : decode cX7_least 93 = .ok (.istore_n 3, 1) := by decide +kernel
theorem dX7_least_94 : decode cX7_least 94 = .ok (.iinc 4 1, 3) := by decide +kernel
theorem dX7_least_97 : decode cX7_least 97 = .ok (.goto (-64), 3) := by decide +kernel
theorem dX7_least_100 : decode cX7_least 100 = .ok (.iload_n 3, 1) := by decide +kernel
theorem dX7_least_101 : decode cX7_least 101 = .ok (.ireturn, 1) := by decide +kernel
theorem dX7_share_0 : decode cX7_share 0 = .ok (.aload_n 0, 1) := by decide +kernel
theorem dX7_share_1 : decode cX7_share 1 = .ok (.getfield 19, 3) := by decide +kernel
theorem dX7_share_4 : decode cX7_share 4 = .ok (.iload_n 1, 1) := by decide +kernel
theorem dX7_share_5 : decode cX7_share 5 = .ok (.invokevirtual 108, 3) := by decide +kernel
theorem dX7_share_8 : decode cX7_share 8 = .ok (.ifCond .ne 5, 3) := by decide +kernel
theorem dX7_share_11 : decode cX7_share 11 = .ok (.iconst (-1), 1) := by decide +kernel
theorem dX7_share_12 : decode cX7_share 12 = .ok (.ireturn, 1) := by decide +kernel
theorem dX7_share_13 : decode cX7_share 13 = .ok (.aload_n 0, 1) := by decide +kernel
theorem dX7_share_14 : decode cX7_share 14 = .ok (.getfield 19, 3) := by decide +kernel
theorem dX7_share_17 : decode cX7_share 17 = .ok (.iconst 1, 1) := by decide +kernel
theorem dX7_share_18 : decode cX7_share 18 = .ok (.iload_n 1, 1) := by decide +kernel
theorem dX7_share_19 : decode cX7_share 19 = .ok (.ishl, 1) := by decide +kernel
theorem dX7_share_20 : decode cX7_share 20 = .ok (.invokevirtual 163, 3) := by decide +kernel
theorem dX7_share_23 : decode cX7_share 23 = .ok (.istore_n 3, 1) := by decide +kernel
theorem dX7_share_24 : decode cX7_share 24 = .ok (.iconst 0, 1) := by decide +kernel
theorem dX7_share_25 : decode cX7_share 25 = .ok (.istore 4, 2) := by decide +kernel
theorem dX7_share_27 : decode cX7_share 27 = .ok (.iconst 0, 1) := by decide +kernel
theorem dX7_share_28 : decode cX7_share 28 = .ok (.istore 5, 2) := by decide +kernel
theorem dX7_share_30 : decode cX7_share 30 = .ok (.iload 5, 2) := by decide +kernel
theorem dX7_share_32 : decode cX7_share 32 = .ok (.bipush 12, 2) := by decide +kernel
theorem dX7_share_34 : decode cX7_share 34 = .ok (.if_icmp .ge 45, 3) := by decide +kernel
theorem dX7_share_37 : decode cX7_share 37 = .ok (.aload_n 0, 1) := by decide +kernel
theorem dX7_share_38 : decode cX7_share 38 = .ok (.getfield 19, 3) := by decide +kernel
theorem dX7_share_41 : decode cX7_share 41 = .ok (.iload 5, 2) := by decide +kernel
theorem dX7_share_43 : decode cX7_share 43 = .ok (.invokevirtual 196, 3) := by decide +kernel
theorem dX7_share_46 : decode cX7_share 46 = .ok (.istore 6, 2) := by decide +kernel
theorem dX7_share_48 : decode cX7_share 48 = .ok (.iload_n 3, 1) := by decide +kernel
theorem dX7_share_49 : decode cX7_share 49 = .ok (.iload 5, 2) := by decide +kernel
theorem dX7_share_51 : decode cX7_share 51 = .ok (.ishr, 1) := by decide +kernel
theorem dX7_share_52 : decode cX7_share 52 = .ok (.iconst 1, 1) := by decide +kernel
theorem dX7_share_53 : decode cX7_share 53 = .ok (.iand, 1) := by decide +kernel
theorem dX7_share_54 : decode cX7_share 54 = .ok (.iconst 1, 1) := by decide +kernel
theorem dX7_share_55 : decode cX7_share 55 = .ok (.if_icmp .ne 18, 3) := by decide +kernel
theorem dX7_share_58 : decode cX7_share 58 = .ok (.iload 6, 2) := by decide +kernel
theorem dX7_share_60 : decode cX7_share 60 = .ok (.ifCond .le 13, 3) := by decide +kernel
theorem dX7_share_63 : decode cX7_share 63 = .ok (.iload 4, 2) := by decide +kernel
theorem dX7_share_65 : decode cX7_share 65 = .ok (.bipush 60, 2) := by decide +kernel
theorem dX7_share_67 : decode cX7_share 67 = .ok (.iload 6, 2) := by decide +kernel
theorem dX7_share_69 : decode cX7_share 69 = .ok (.idiv, 1) := by decide +kernel
theorem dX7_share_70 : decode cX7_share 70 = .ok (.iadd, 1) := by decide +kernel
theorem dX7_share_71 : decode cX7_share 71 = .ok (.istore 4, 2) := by decide +kernel
theorem dX7_share_73 : decode cX7_share 73 = .ok (.iinc 5 1, 3) := by decide +kernel
theorem dX7_share_76 : decode cX7_share 76 = .ok (.goto (-46), 3) := by decide +kernel
theorem dX7_share_79 : decode cX7_share 79 = .ok (.iload 4, 2) := by decide +kernel
theorem dX7_share_81 : decode cX7_share 81 = .ok (.bipush 60, 2) := by decide +kernel
theorem dX7_share_83 : decode cX7_share 83 = .ok (.iload_n 2, 1) := by decide +kernel
theorem dX7_share_84 : decode cX7_share 84 = .ok (.invokestatic 199, 3) := by decide +kernel
theorem dX7_share_87 : decode cX7_share 87 = .ok (.ireturn, 1) := by decide +kernel
theorem dX7_tell_0 : decode cX7_tell 0 = .ok (.aload_n 0, 1) := by decide +kernel
theorem dX7_tell_1 : decode cX7_tell 1 = .ok (.getfield 19, 3) := by decide +kernel
theorem dX7_tell_4 : decode cX7_tell 4 = .ok (.iload_n 1, 1) := by decide +kernel
theorem dX7_tell_5 : decode cX7_tell 5 = .ok (.invokevirtual 108, 3) := by decide +kernel
theorem dX7_tell_8 : decode cX7_tell 8 = .ok (.ifCond .eq 14, 3) := by decide +kernel
theorem dX7_tell_11 : decode cX7_tell 11 = .ok (.aload_n 0, 1) := by decide +kernel
theorem dX7_tell_12 : decode cX7_tell 12 = .ok (.getfield 19, 3) := by decide +kernel
theorem dX7_tell_15 : decode cX7_tell 15 = .ok (.iload_n 2, 1) := by decide +kernel
theorem dX7_tell_16 : decode cX7_tell 16 = .ok (.invokevirtual 108, 3) := by decide +kernel
theorem dX7_tell_19 : decode cX7_tell 19 = .ok (.ifCond .ne 5, 3) := by decide +kernel
theorem dX7_tell_22 : decode cX7_tell 22 = .ok (.iconst (-1), 1) := by decide +kernel
theorem dX7_tell_23 : decode cX7_tell 23 = .ok (.ireturn, 1) := by decide +kernel
theorem dX7_tell_24 : decode cX7_tell 24 = .ok (.iload_n 1, 1) := by decide +kernel
theorem dX7_tell_25 : decode cX7_tell 25 = .ok (.iload_n 2, 1) := by decide +kernel
theorem dX7_tell_26 : decode cX7_tell 26 = .ok (.if_icmp .ne 6, 3) := by decide +kernel
theorem dX7_tell_29 : decode cX7_tell 29 = .ok (.bipush (-2), 2) := by decide +kernel
theorem dX7_tell_31 : decode cX7_tell 31 = .ok (.ireturn, 1) := by decide +kernel
theorem dX7_tell_32 : decode cX7_tell 32 = .ok (.aload_n 0, 1) := by decide +kernel
theorem dX7_tell_33 : decode cX7_tell 33 = .ok (.getfield 43, 3) := by decide +kernel
theorem dX7_tell_36 : decode cX7_tell 36 = .ok (.iload_n 1, 1) := by decide +kernel
theorem dX7_tell_37 : decode cX7_tell 37 = .ok (.iload_n 2, 1) := by decide +kernel
theorem dX7_tell_38 : decode cX7_tell 38 = .ok (.invokevirtual 203, 3) := by decide +kernel
theorem dX7_tell_41 : decode cX7_tell 41 = .ok (.ifCond .eq 13, 3) := by decide +kernel
theorem dX7_tell_44 : decode cX7_tell 44 = .ok (.aload_n 0, 1) := by decide +kernel
theorem dX7_tell_45 : decode cX7_tell 45 = .ok (.getfield 43, 3) := by decide +kernel
theorem dX7_tell_48 : decode cX7_tell 48 = .ok (.getfield 107, 3) := by decide +kernel
theorem dX7_tell_51 : decode cX7_tell 51 = .ok (.goto 5, 3) := by decide +kernel
theorem dX7_tell_54 : decode cX7_tell 54 = .ok (.bipush (-4), 2) := by decide +kernel
theorem dX7_tell_56 : decode cX7_tell 56 = .ok (.ireturn, 1) := by decide +kernel
theorem dX7_untell_0 : decode cX7_untell 0 = .ok (.aload_n 0, 1) := by decide +kernel
theorem dX7_untell_1 : decode cX7_untell 1 = .ok (.getfield 43, 3) := by decide +kernel
theorem dX7_untell_4 : decode cX7_untell 4 = .ok (.getfield 107, 3) := by decide +kernel
theorem dX7_untell_7 : decode cX7_untell 7 = .ok (.istore_n 1, 1) := by decide +kernel
theorem dX7_untell_8 : decode cX7_untell 8 = .ok (.aload_n 0, 1) := by decide +kernel
theorem dX7_untell_9 : decode cX7_untell 9 = .ok (.getfield 43, 3) := by decide +kernel
theorem dX7_untell_12 : decode cX7_untell 12 = .ok (.iconst 0, 1) := by decide +kernel
theorem dX7_untell_13 : decode cX7_untell 13 = .ok (.putfield 107, 3) := by decide +kernel
theorem dX7_untell_16 : decode cX7_untell 16 = .ok (.iload_n 1, 1) := by decide +kernel
theorem dX7_untell_17 : decode cX7_untell 17 = .ok (.ireturn, 1) := by decide +kernel
theorem dX7_orders_0 : decode cX7_orders 0 = .ok (.iload_n 1, 1) := by decide +kernel
theorem dX7_orders_1 : decode cX7_orders 1 = .ok (.lookupswitch 57 #[(0, 27), (1, 42)], 27) := by decide +kernel
theorem dX7_orders_28 : decode cX7_orders 28 = .ok (.aload_n 0, 1) := by decide +kernel
theorem dX7_orders_29 : decode cX7_orders 29 = .ok (.getfield 43, 3) := by decide +kernel
theorem dX7_orders_32 : decode cX7_orders 32 = .ok (.aload_n 0, 1) := by decide +kernel
theorem dX7_orders_33 : decode cX7_orders 33 = .ok (.getfield 19, 3) := by decide +kernel
theorem dX7_orders_36 : decode cX7_orders 36 = .ok (.getfield 90, 3) := by decide +kernel
theorem dX7_orders_39 : decode cX7_orders 39 = .ok (.invokevirtual 206, 3) := by decide +kernel
theorem dX7_orders_42 : decode cX7_orders 42 = .ok (.ireturn, 1) := by decide +kernel
theorem dX7_orders_43 : decode cX7_orders 43 = .ok (.aload_n 0, 1) := by decide +kernel
theorem dX7_orders_44 : decode cX7_orders 44 = .ok (.getfield 43, 3) := by decide +kernel
theorem dX7_orders_47 : decode cX7_orders 47 = .ok (.aload_n 0, 1) := by decide +kernel
theorem dX7_orders_48 : decode cX7_orders 48 = .ok (.getfield 19, 3) := by decide +kernel
theorem dX7_orders_51 : decode cX7_orders 51 = .ok (.getfield 90, 3) := by decide +kernel
theorem dX7_orders_54 : decode cX7_orders 54 = .ok (.invokevirtual 209, 3) := by decide +kernel
theorem dX7_orders_57 : decode cX7_orders 57 = .ok (.ireturn, 1) := by decide +kernel
theorem dX7_orders_58 : decode cX7_orders 58 = .ok (.bipush (-2), 2) := by decide +kernel
theorem dX7_orders_60 : decode cX7_orders 60 = .ok (.ireturn, 1) := by decide +kernel
theorem dX7_rests_0 : decode cX7_rests 0 = .ok (.aload_n 0, 1) := by decide +kernel
theorem dX7_rests_1 : decode cX7_rests 1 = .ok (.getfield 19, 3) := by decide +kernel
theorem dX7_rests_4 : decode cX7_rests 4 = .ok (.iload_n 1, 1) := by decide +kernel
theorem dX7_rests_5 : decode cX7_rests 5 = .ok (.invokevirtual 108, 3) := by decide +kernel
theorem dX7_rests_8 : decode cX7_rests 8 = .ok (.ifCond .ne 5, 3) := by decide +kernel
theorem dX7_rests_11 : decode cX7_rests 11 = .ok (.iconst (-1), 1) := by decide +kernel
theorem dX7_rests_12 : decode cX7_rests 12 = .ok (.ireturn, 1) := by decide +kernel
theorem dX7_rests_13 : decode cX7_rests 13 = .ok (.iload_n 2, 1) := by decide +kernel
theorem dX7_rests_14 : decode cX7_rests 14 = .ok (.ifCond .lt 8, 3) := by decide +kernel
theorem dX7_rests_17 : decode cX7_rests 17 = .ok (.iload_n 2, 1) := by decide +kernel
theorem dX7_rests_18 : decode cX7_rests 18 = .ok (.iconst 1, 1) := by decide +kernel
theorem dX7_rests_19 : decode cX7_rests 19 = .ok (.if_icmp .le 6, 3) := by decide +kernel
theorem dX7_rests_22 : decode cX7_rests 22 = .ok (.bipush (-2), 2) := by decide +kernel
theorem dX7_rests_24 : decode cX7_rests 24 = .ok (.ireturn, 1) := by decide +kernel
theorem dX7_rests_25 : decode cX7_rests 25 = .ok (.aload_n 0, 1) := by decide +kernel
theorem dX7_rests_26 : decode cX7_rests 26 = .ok (.getfield 19, 3) := by decide +kernel
theorem dX7_rests_29 : decode cX7_rests 29 = .ok (.iload_n 1, 1) := by decide +kernel
theorem dX7_rests_30 : decode cX7_rests 30 = .ok (.invokevirtual 114, 3) := by decide +kernel
theorem dX7_rests_33 : decode cX7_rests 33 = .ok (.istore_n 3, 1) := by decide +kernel
theorem dX7_rests_34 : decode cX7_rests 34 = .ok (.iconst 0, 1) := by decide +kernel
theorem dX7_rests_35 : decode cX7_rests 35 = .ok (.istore 4, 2) := by decide +kernel
theorem dX7_rests_37 : decode cX7_rests 37 = .ok (.bipush (-9), 2) := by decide +kernel
theorem dX7_rests_39 : decode cX7_rests 39 = .ok (.istore 5, 2) := by decide +kernel
theorem dX7_rests_41 : decode cX7_rests 41 = .ok (.iconst 0, 1) := by decide +kernel
theorem dX7_rests_42 : decode cX7_rests 42 = .ok (.istore 6, 2) := by decide +kernel
theorem dX7_rests_44 : decode cX7_rests 44 = .ok (.iload 6, 2) := by decide +kernel
theorem dX7_rests_46 : decode cX7_rests 46 = .ok (.iconst 3, 1) := by decide +kernel
theorem dX7_rests_47 : decode cX7_rests 47 = .ok (.if_icmp .gt 60, 3) := by decide +kernel
theorem dX7_rests_50 : decode cX7_rests 50 = .ok (.iconst 0, 1) := by decide +kernel
theorem dX7_rests_51 : decode cX7_rests 51 = .ok (.istore 7, 2) := by decide +kernel
theorem dX7_rests_53 : decode cX7_rests 53 = .ok (.iload 7, 2) := by decide +kernel
theorem dX7_rests_55 : decode cX7_rests 55 = .ok (.iconst 3, 1) := by decide +kernel
theorem dX7_rests_56 : decode cX7_rests 56 = .ok (.if_icmp .gt 45, 3) := by decide +kernel
theorem dX7_rests_59 : decode cX7_rests 59 = .ok (.iload_n 3, 1) := by decide +kernel
theorem dX7_rests_60 : decode cX7_rests 60 = .ok (.iload 6, 2) := by decide +kernel
theorem dX7_rests_62 : decode cX7_rests 62 = .ok (.iload 7, 2) := by decide +kernel
theorem dX7_rests_64 : decode cX7_rests 64 = .ok (.invokestatic 212, 3) := by decide +kernel
theorem dX7_rests_67 : decode cX7_rests 67 = .ok (.ifCond .eq 28, 3) := by decide +kernel
theorem dX7_rests_70 : decode cX7_rests 70 = .ok (.iinc 4 1, 3) := by decide +kernel
theorem dX7_rests_73 : decode cX7_rests 73 = .ok (.iload 5, 2) := by decide +kernel
theorem dX7_rests_75 : decode cX7_rests 75 = .ok (.bipush (-9), 2) := by decide +kernel
theorem dX7_rests_77 : decode cX7_rests 77 = .ok (.if_icmp .ne 14, 3) := by decide +kernel
theorem dX7_rests_80 : decode cX7_rests 80 = .ok (.bipush 10, 2) := by decide +kernel
theorem dX7_rests_82 : decode cX7_rests 82 = .ok (.iload 6, 2) := by decide +kernel
theorem dX7_rests_84 : decode cX7_rests 84 = .ok (.imul, 1) := by decide +kernel
theorem dX7_rests_85 : decode cX7_rests 85 = .ok (.iload 7, 2) := by decide +kernel
theorem dX7_rests_87 : decode cX7_rests 87 = .ok (.iadd, 1) := by decide +kernel
theorem dX7_rests_88 : decode cX7_rests 88 = .ok (.goto 5, 3) := by decide +kernel
theorem dX7_rests_91 : decode cX7_rests 91 = .ok (.iload 5, 2) := by decide +kernel
theorem dX7_rests_93 : decode cX7_rests 93 = .ok (.istore 5, 2) := by decide +kernel
theorem dX7_rests_95 : decode cX7_rests 95 = .ok (.iinc 7 1, 3) := by decide +kernel
theorem dX7_rests_98 : decode cX7_rests 98 = .ok (.goto (-45), 3) := by decide +kernel
theorem dX7_rests_101 : decode cX7_rests 101 = .ok (.iinc 6 1, 3) := by decide +kernel
theorem dX7_rests_104 : decode cX7_rests 104 = .ok (.goto (-60), 3) := by decide +kernel
theorem dX7_rests_107 : decode cX7_rests 107 = .ok (.iload_n 2, 1) := by decide +kernel
theorem dX7_rests_108 : decode cX7_rests 108 = .ok (.ifCond .ne 8, 3) := by decide +kernel
theorem dX7_rests_111 : decode cX7_rests 111 = .ok (.iload 4, 2) := by decide +kernel
theorem dX7_rests_113 : decode cX7_rests 113 = .ok (.goto 5, 3) := by decide +kernel
theorem dX7_rests_116 : decode cX7_rests 116 = .ok (.iload 5, 2) := by decide +kernel
theorem dX7_rests_118 : decode cX7_rests 118 = .ok (.ireturn, 1) := by decide +kernel
theorem dX7_chance_0 : decode cX7_chance 0 = .ok (.aload_n 0, 1) := by decide +kernel
theorem dX7_chance_1 : decode cX7_chance 1 = .ok (.getfield 19, 3) := by decide +kernel
theorem dX7_chance_4 : decode cX7_chance 4 = .ok (.iload_n 1, 1) := by decide +kernel
theorem dX7_chance_5 : decode cX7_chance 5 = .ok (.invokevirtual 108, 3) := by decide +kernel
theorem dX7_chance_8 : decode cX7_chance 8 = .ok (.ifCond .ne 5, 3) := by decide +kernel
theorem dX7_chance_11 : decode cX7_chance 11 = .ok (.iconst (-1), 1) := by decide +kernel
theorem dX7_chance_12 : decode cX7_chance 12 = .ok (.ireturn, 1) := by decide +kernel
theorem dX7_chance_13 : decode cX7_chance 13 = .ok (.iload_n 2, 1) := by decide +kernel
theorem dX7_chance_14 : decode cX7_chance 14 = .ok (.ifCond .lt 9, 3) := by decide +kernel
theorem dX7_chance_17 : decode cX7_chance 17 = .ok (.iload_n 2, 1) := by decide +kernel
theorem dX7_chance_18 : decode cX7_chance 18 = .ok (.bipush 10, 2) := by decide +kernel
theorem dX7_chance_20 : decode cX7_chance 20 = .ok (.if_icmp .le 6, 3) := by decide +kernel
theorem dX7_chance_23 : decode cX7_chance 23 = .ok (.bipush (-2), 2) := by decide +kernel
theorem dX7_chance_25 : decode cX7_chance 25 = .ok (.ireturn, 1) := by decide +kernel
theorem dX7_chance_26 : decode cX7_chance 26 = .ok (.aload_n 0, 1) := by decide +kernel
theorem dX7_chance_27 : decode cX7_chance 27 = .ok (.getfield 26, 3) := by decide +kernel
theorem dX7_chance_30 : decode cX7_chance 30 = .ok (.iconst 0, 1) := by decide +kernel
theorem dX7_chance_31 : decode cX7_chance 31 = .ok (.invokevirtual 93, 3) := by decide +kernel
theorem dX7_chance_34 : decode cX7_chance 34 = .ok (.aload_n 0, 1) := by decide +kernel
theorem dX7_chance_35 : decode cX7_chance 35 = .ok (.getfield 19, 3) := by decide +kernel
theorem dX7_chance_38 : decode cX7_chance 38 = .ok (.iload_n 1, 1) := by decide +kernel
theorem dX7_chance_39 : decode cX7_chance 39 = .ok (.invokevirtual 216, 3) := by decide +kernel
theorem dX7_chance_42 : decode cX7_chance 42 = .ok (.iand, 1) := by decide +kernel
theorem dX7_chance_43 : decode cX7_chance 43 = .ok (.istore 4, 2) := by decide +kernel
theorem dX7_chance_45 : decode cX7_chance 45 = .ok (.aload_n 0, 1) := by decide +kernel
theorem dX7_chance_46 : decode cX7_chance 46 = .ok (.getfield 19, 3) := by decide +kernel
theorem dX7_chance_49 : decode cX7_chance 49 = .ok (.iload_n 1, 1) := by decide +kernel
theorem dX7_chance_50 : decode cX7_chance 50 = .ok (.invokevirtual 120, 3) := by decide +kernel
theorem dX7_chance_53 : decode cX7_chance 53 = .ok (.istore 5, 2) := by decide +kernel
theorem dX7_chance_55 : decode cX7_chance 55 = .ok (.iload 5, 2) := by decide +kernel
theorem dX7_chance_57 : decode cX7_chance 57 = .ok (.iload 4, 2) := by decide +kernel
theorem dX7_chance_59 : decode cX7_chance 59 = .ok (.iconst (-1), 1) := by decide +kernel
theorem dX7_chance_60 : decode cX7_chance 60 = .ok (.ixor, 1) := by decide +kernel
theorem dX7_chance_61 : decode cX7_chance 61 = .ok (.iand, 1) := by decide +kernel
theorem dX7_chance_62 : decode cX7_chance 62 = .ok (.ifCond .eq 10, 3) := by decide +kernel
theorem dX7_chance_65 : decode cX7_chance 65 = .ok (.iconst 0, 1) := by decide +kernel
theorem dX7_chance_66 : decode cX7_chance 66 = .ok (.iconst 1, 1) := by decide +kernel
theorem dX7_chance_67 : decode cX7_chance 67 = .ok (.iload_n 3, 1) := by decide +kernel
theorem dX7_chance_68 : decode cX7_chance 68 = .ok (.invokestatic 199, 3) := by decide +kernel
theorem dX7_chance_71 : decode cX7_chance 71 = .ok (.ireturn, 1) := by decide +kernel
theorem dX7_chance_72 : decode cX7_chance 72 = .ok (.iload 5, 2) := by decide +kernel
theorem dX7_chance_74 : decode cX7_chance 74 = .ok (.invokestatic 144, 3) := by decide +kernel
theorem dX7_chance_77 : decode cX7_chance 77 = .ok (.istore 6, 2) := by decide +kernel
theorem dX7_chance_79 : decode cX7_chance 79 = .ok (.iload 4, 2) := by decide +kernel
theorem dX7_chance_81 : decode cX7_chance 81 = .ok (.iload 5, 2) := by decide +kernel
theorem dX7_chance_83 : decode cX7_chance 83 = .ok (.iconst (-1), 1) := by decide +kernel
theorem dX7_chance_84 : decode cX7_chance 84 = .ok (.ixor, 1) := by decide +kernel
theorem dX7_chance_85 : decode cX7_chance 85 = .ok (.iand, 1) := by decide +kernel
theorem dX7_chance_86 : decode cX7_chance 86 = .ok (.invokestatic 144, 3) := by decide +kernel
theorem dX7_chance_89 : decode cX7_chance 89 = .ok (.istore 7, 2) := by decide +kernel
theorem dX7_chance_91 : decode cX7_chance 91 = .ok (.bipush 10, 2) := by decide +kernel
theorem dX7_chance_93 : decode cX7_chance 93 = .ok (.iload_n 2, 1) := by decide +kernel
theorem dX7_chance_94 : decode cX7_chance 94 = .ok (.isub, 1) := by decide +kernel
theorem dX7_chance_95 : decode cX7_chance 95 = .ok (.iload 6, 2) := by decide +kernel
theorem dX7_chance_97 : decode cX7_chance 97 = .ok (.invokestatic 179, 3) := by decide +kernel
theorem dX7_chance_100 : decode cX7_chance 100 = .ok (.iload_n 2, 1) := by decide +kernel
theorem dX7_chance_101 : decode cX7_chance 101 = .ok (.iload 7, 2) := by decide +kernel
theorem dX7_chance_103 : decode cX7_chance 103 = .ok (.invokestatic 179, 3) := by decide +kernel
theorem dX7_chance_106 : decode cX7_chance 106 = .ok (.imul, 1) := by decide +kernel
theorem dX7_chance_107 : decode cX7_chance 107 = .ok (.bipush 10, 2) := by decide +kernel
theorem dX7_chance_109 : decode cX7_chance 109 = .ok (.iload 6, 2) := by decide +kernel
theorem dX7_chance_111 : decode cX7_chance 111 = .ok (.iload 7, 2) := by decide +kernel
theorem dX7_chance_113 : decode cX7_chance 113 = .ok (.iadd, 1) := by decide +kernel
theorem dX7_chance_114 : decode cX7_chance 114 = .ok (.invokestatic 179, 3) := by decide +kernel
theorem dX7_chance_117 : decode cX7_chance 117 = .ok (.iload_n 3, 1) := by decide +kernel
theorem dX7_chance_118 : decode cX7_chance 118 = .ok (.invokestatic 199, 3) := by decide +kernel
theorem dX7_chance_121 : decode cX7_chance 121 = .ok (.ireturn, 1) := by decide +kernel
theorem dX7_seed_0 : decode cX7_seed 0 = .ok (.aload_n 0, 1) := by decide +kernel
theorem dX7_seed_1 : decode cX7_seed 1 = .ok (.getfield 61, 3) := by decide +kernel
theorem dX7_seed_4 : decode cX7_seed 4 = .ok (.lstore_n 3, 1) := by decide +kernel
theorem dX7_seed_5 : decode cX7_seed 5 = .ok (.aload_n 0, 1) := by decide +kernel
theorem dX7_seed_6 : decode cX7_seed 6 = .ok (.lload_n 1, 1) := by decide +kernel
theorem dX7_seed_7 : decode cX7_seed 7 = .ok (.putfield 61, 3) := by decide +kernel
theorem dX7_seed_10 : decode cX7_seed 10 = .ok (.lload_n 3, 1) := by decide +kernel
theorem dX7_seed_11 : decode cX7_seed 11 = .ok (.lreturn, 1) := by decide +kernel
theorem dX7_years_0 : decode cX7_years 0 = .ok (.iload_n 1, 1) := by decide +kernel
theorem dX7_years_1 : decode cX7_years 1 = .ok (.iconst 1, 1) := by decide +kernel
theorem dX7_years_2 : decode cX7_years 2 = .ok (.if_icmp .lt 9, 3) := by decide +kernel
theorem dX7_years_5 : decode cX7_years 5 = .ok (.iload_n 1, 1) := by decide +kernel
theorem dX7_years_6 : decode cX7_years 6 = .ok (.bipush 30, 2) := by decide +kernel
theorem dX7_years_8 : decode cX7_years 8 = .ok (.if_icmp .le 6, 3) := by decide +kernel
theorem dX7_years_11 : decode cX7_years 11 = .ok (.bipush (-2), 2) := by decide +kernel
theorem dX7_years_13 : decode cX7_years 13 = .ok (.ireturn, 1) := by decide +kernel
theorem dX7_years_14 : decode cX7_years 14 = .ok (.aload_n 0, 1) := by decide +kernel
theorem dX7_years_15 : decode cX7_years 15 = .ok (.getfield 26, 3) := by decide +kernel
theorem dX7_years_18 : decode cX7_years 18 = .ok (.aload_n 0, 1) := by decide +kernel
theorem dX7_years_19 : decode cX7_years 19 = .ok (.getfield 30, 3) := by decide +kernel
theorem dX7_years_22 : decode cX7_years 22 = .ok (.invokestatic 219, 3) := by decide +kernel
theorem dX7_years_25 : decode cX7_years 25 = .ok (.iconst 0, 1) := by decide +kernel
theorem dX7_years_26 : decode cX7_years 26 = .ok (.istore_n 2, 1) := by decide +kernel
theorem dX7_years_27 : decode cX7_years 27 = .ok (.iconst 0, 1) := by decide +kernel
theorem dX7_years_28 : decode cX7_years 28 = .ok (.istore_n 3, 1) := by decide +kernel
theorem dX7_years_29 : decode cX7_years 29 = .ok (.iload_n 3, 1) := by decide +kernel
theorem dX7_years_30 : decode cX7_years 30 = .ok (.iload_n 1, 1) := by decide +kernel
theorem dX7_years_31 : decode cX7_years 31 = .ok (.if_icmp .ge 62, 3) := by decide +kernel
theorem dX7_years_34 : decode cX7_years 34 = .ok (.aload_n 0, 1) := by decide +kernel
theorem dX7_years_35 : decode cX7_years 35 = .ok (.aload_n 0, 1) := by decide +kernel
theorem dX7_years_36 : decode cX7_years 36 = .ok (.getfield 61, 3) := by decide +kernel
theorem dX7_years_39 : decode cX7_years 39 = .ok (.ldc2_w 223, 3) := by decide +kernel
theorem dX7_years_42 : decode cX7_years 42 = .ok (.lmul, 1) := by decide +kernel
theorem dX7_years_43 : decode cX7_years 43 = .ok (.ldc2_w 225, 3) := by decide +kernel
theorem dX7_years_46 : decode cX7_years 46 = .ok (.ladd, 1) := by decide +kernel
theorem dX7_years_47 : decode cX7_years 47 = .ok (.putfield 61, 3) := by decide +kernel
theorem dX7_years_50 : decode cX7_years 50 = .ok (.aload_n 0, 1) := by decide +kernel
theorem dX7_years_51 : decode cX7_years 51 = .ok (.aload_n 0, 1) := by decide +kernel
theorem dX7_years_52 : decode cX7_years 52 = .ok (.getfield 61, 3) := by decide +kernel
theorem dX7_years_55 : decode cX7_years 55 = .ok (.bipush 33, 2) := by decide +kernel
theorem dX7_years_57 : decode cX7_years 57 = .ok (.lushr, 1) := by decide +kernel
theorem dX7_years_58 : decode cX7_years 58 = .ok (.ldc2_w 227, 3) := by decide +kernel
theorem dX7_years_61 : decode cX7_years 61 = .ok (.lrem, 1) := by decide +kernel
theorem dX7_years_62 : decode cX7_years 62 = .ok (.l2i, 1) := by decide +kernel
theorem dX7_years_63 : decode cX7_years 63 = .ok (.invokevirtual 229, 3) := by decide +kernel
theorem dX7_years_66 : decode cX7_years 66 = .ok (.iload_n 2, 1) := by decide +kernel
theorem dX7_years_67 : decode cX7_years 67 = .ok (.aload_n 0, 1) := by decide +kernel
theorem dX7_years_68 : decode cX7_years 68 = .ok (.getfield 19, 3) := by decide +kernel
theorem dX7_years_71 : decode cX7_years 71 = .ok (.aload_n 0, 1) := by decide +kernel
theorem dX7_years_72 : decode cX7_years 72 = .ok (.getfield 30, 3) := by decide +kernel
theorem dX7_years_75 : decode cX7_years 75 = .ok (.iconst 0, 1) := by decide +kernel
theorem dX7_years_76 : decode cX7_years 76 = .ok (.invokevirtual 93, 3) := by decide +kernel
theorem dX7_years_79 : decode cX7_years 79 = .ok (.invokevirtual 100, 3) := by decide +kernel
theorem dX7_years_82 : decode cX7_years 82 = .ok (.invokestatic 144, 3) := by decide +kernel
theorem dX7_years_85 : decode cX7_years 85 = .ok (.iadd, 1) := by decide +kernel
theorem dX7_years_86 : decode cX7_years 86 = .ok (.istore_n 2, 1) := by decide +kernel
theorem dX7_years_87 : decode cX7_years 87 = .ok (.iinc 3 1, 3) := by decide +kernel
theorem dX7_years_90 : decode cX7_years 90 = .ok (.goto (-61), 3) := by decide +kernel
theorem dX7_years_93 : decode cX7_years 93 = .ok (.iload_n 2, 1) := by decide +kernel
theorem dX7_years_94 : decode cX7_years 94 = .ok (.ireturn, 1) := by decide +kernel
theorem dX7_keep_0 : decode cX7_keep 0 = .ok (.iload_n 1, 1) := by decide +kernel
theorem dX7_keep_1 : decode cX7_keep 1 = .ok (.ifCond .lt 8, 3) := by decide +kernel
theorem dX7_keep_4 : decode cX7_keep 4 = .ok (.iload_n 1, 1) := by decide +kernel
theorem dX7_keep_5 : decode cX7_keep 5 = .ok (.iconst 2, 1) := by decide +kernel
theorem dX7_keep_6 : decode cX7_keep 6 = .ok (.if_icmp .lt 5, 3) := by decide +kernel
theorem dX7_keep_9 : decode cX7_keep 9 = .ok (.iconst (-1), 1) := by decide +kernel
theorem dX7_keep_10 : decode cX7_keep 10 = .ok (.ireturn, 1) := by decide +kernel
theorem dX7_keep_11 : decode cX7_keep 11 = .ok (.aload_n 0, 1) := by decide +kernel
theorem dX7_keep_12 : decode cX7_keep 12 = .ok (.getfield 50, 3) := by decide +kernel
theorem dX7_keep_15 : decode cX7_keep 15 = .ok (.iload_n 1, 1) := by decide +kernel
theorem dX7_keep_16 : decode cX7_keep 16 = .ok (.aload_n 0, 1) := by decide +kernel
theorem dX7_keep_17 : decode cX7_keep 17 = .ok (.getfield 26, 3) := by decide +kernel
theorem dX7_keep_20 : decode cX7_keep 20 = .ok (.invokevirtual 232, 3) := by decide +kernel
theorem dX7_keep_23 : decode cX7_keep 23 = .ok (.aload_n 0, 1) := by decide +kernel
theorem dX7_keep_24 : decode cX7_keep 24 = .ok (.getfield 26, 3) := by decide +kernel
theorem dX7_keep_27 : decode cX7_keep 27 = .ok (.getfield 83, 3) := by decide +kernel
theorem dX7_keep_30 : decode cX7_keep 30 = .ok (.ireturn, 1) := by decide +kernel
theorem dX7_again_0 : decode cX7_again 0 = .ok (.iload_n 1, 1) := by decide +kernel
theorem dX7_again_1 : decode cX7_again 1 = .ok (.ifCond .lt 8, 3) := by decide +kernel
theorem dX7_again_4 : decode cX7_again 4 = .ok (.iload_n 1, 1) := by decide +kernel
theorem dX7_again_5 : decode cX7_again 5 = .ok (.iconst 2, 1) := by decide +kernel
theorem dX7_again_6 : decode cX7_again 6 = .ok (.if_icmp .lt 5, 3) := by decide +kernel
theorem dX7_again_9 : decode cX7_again 9 = .ok (.iconst (-1), 1) := by decide +kernel
theorem dX7_again_10 : decode cX7_again 10 = .ok (.ireturn, 1) := by decide +kernel
theorem dX7_again_11 : decode cX7_again 11 = .ok (.aload_n 0, 1) := by decide +kernel
theorem dX7_again_12 : decode cX7_again 12 = .ok (.getfield 50, 3) := by decide +kernel
theorem dX7_again_15 : decode cX7_again 15 = .ok (.iload_n 1, 1) := by decide +kernel
theorem dX7_again_16 : decode cX7_again 16 = .ok (.aload_n 0, 1) := by decide +kernel
theorem dX7_again_17 : decode cX7_again 17 = .ok (.getfield 26, 3) := by decide +kernel
theorem dX7_again_20 : decode cX7_again 20 = .ok (.invokevirtual 236, 3) := by decide +kernel
theorem dX7_again_23 : decode cX7_again 23 = .ok (.ifCond .ne 6, 3) := by decide +kernel
theorem dX7_again_26 : decode cX7_again 26 = .ok (.bipush (-3), 2) := by decide +kernel
theorem dX7_again_28 : decode cX7_again 28 = .ok (.ireturn, 1) := by decide +kernel
theorem dX7_again_29 : decode cX7_again 29 = .ok (.aload_n 0, 1) := by decide +kernel
theorem dX7_again_30 : decode cX7_again 30 = .ok (.getfield 36, 3) := by decide +kernel
theorem dX7_again_33 : decode cX7_again 33 = .ok (.invokevirtual 86, 3) := by decide +kernel
theorem dX7_again_36 : decode cX7_again 36 = .ok (.aload_n 0, 1) := by decide +kernel
theorem dX7_again_37 : decode cX7_again 37 = .ok (.getfield 26, 3) := by decide +kernel
theorem dX7_again_40 : decode cX7_again 40 = .ok (.getfield 83, 3) := by decide +kernel
theorem dX7_again_43 : decode cX7_again 43 = .ok (.ireturn, 1) := by decide +kernel
theorem dX7_isCell_0 : decode cX7_isCell 0 = .ok (.iload_n 0, 1) := by decide +kernel
theorem dX7_isCell_1 : decode cX7_isCell 1 = .ok (.ifCond .lt 13, 3) := by decide +kernel
theorem dX7_isCell_4 : decode cX7_isCell 4 = .ok (.iload_n 0, 1) := by decide +kernel
theorem dX7_isCell_5 : decode cX7_isCell 5 = .ok (.bipush 12, 2) := by decide +kernel
theorem dX7_isCell_7 : decode cX7_isCell 7 = .ok (.if_icmp .ge 7, 3) := by decide +kernel
theorem dX7_isCell_10 : decode cX7_isCell 10 = .ok (.iconst 1, 1) := by decide +kernel
theorem dX7_isCell_11 : decode cX7_isCell 11 = .ok (.goto 4, 3) := by decide +kernel
theorem dX7_isCell_14 : decode cX7_isCell 14 = .ok (.iconst 0, 1) := by decide +kernel
theorem dX7_isCell_15 : decode cX7_isCell 15 = .ok (.ireturn, 1) := by decide +kernel
theorem dX7_readLetters_0 : decode cX7_readLetters 0 = .ok (.aload_n 0, 1) := by decide +kernel
theorem dX7_readLetters_1 : decode cX7_readLetters 1 = .ok (.getfield 19, 3) := by decide +kernel
theorem dX7_readLetters_4 : decode cX7_readLetters 4 = .ok (.iconst 0, 1) := by decide +kernel
theorem dX7_readLetters_5 : decode cX7_readLetters 5 = .ok (.putfield 90, 3) := by decide +kernel
theorem dX7_readLetters_8 : decode cX7_readLetters 8 = .ok (.iconst 1, 1) := by decide +kernel
theorem dX7_readLetters_9 : decode cX7_readLetters 9 = .ok (.istore_n 1, 1) := by decide +kernel
theorem dX7_readLetters_10 : decode cX7_readLetters 10 = .ok (.iload_n 1, 1) := by decide +kernel
theorem dX7_readLetters_11 : decode cX7_readLetters 11 = .ok (.aload_n 0, 1) := by decide +kernel
theorem dX7_readLetters_12 : decode cX7_readLetters 12 = .ok (.getfield 10, 3) := by decide +kernel
theorem dX7_readLetters_15 : decode cX7_readLetters 15 = .ok (.getfield 69, 3) := by decide +kernel
theorem dX7_readLetters_18 : decode cX7_readLetters 18 = .ok (.if_icmp .ge 56, 3) := by decide +kernel
theorem dX7_readLetters_21 : decode cX7_readLetters 21 = .ok (.aload_n 0, 1) := by decide +kernel
theorem dX7_readLetters_22 : decode cX7_readLetters 22 = .ok (.getfield 19, 3) := by decide +kernel
theorem dX7_readLetters_25 : decode cX7_readLetters 25 = .ok (.aload_n 0, 1) := by decide +kernel
theorem dX7_readLetters_26 : decode cX7_readLetters 26 = .ok (.getfield 10, 3) := by decide +kernel
theorem dX7_readLetters_29 : decode cX7_readLetters 29 = .ok (.iload_n 1, 1) := by decide +kernel
theorem dX7_readLetters_30 : decode cX7_readLetters 30 = .ok (.iconst 1, 1) := by decide +kernel
theorem dX7_readLetters_31 : decode cX7_readLetters 31 = .ok (.iadd, 1) := by decide +kernel
theorem dX7_readLetters_32 : decode cX7_readLetters 32 = .ok (.invokevirtual 240, 3) := by decide +kernel
theorem dX7_readLetters_35 : decode cX7_readLetters 35 = .ok (.aload_n 0, 1) := by decide +kernel
theorem dX7_readLetters_36 : decode cX7_readLetters 36 = .ok (.getfield 10, 3) := by decide +kernel
theorem dX7_readLetters_39 : decode cX7_readLetters 39 = .ok (.iload_n 1, 1) := by decide +kernel
theorem dX7_readLetters_40 : decode cX7_readLetters 40 = .ok (.iconst 2, 1) := by decide +kernel
theorem dX7_readLetters_41 : decode cX7_readLetters 41 = .ok (.iadd, 1) := by decide +kernel
theorem dX7_readLetters_42 : decode cX7_readLetters 42 = .ok (.invokevirtual 240, 3) := by decide +kernel
theorem dX7_readLetters_45 : decode cX7_readLetters 45 = .ok (.aload_n 0, 1) := by decide +kernel
theorem dX7_readLetters_46 : decode cX7_readLetters 46 = .ok (.getfield 10, 3) := by decide +kernel
theorem dX7_readLetters_49 : decode cX7_readLetters 49 = .ok (.iload_n 1, 1) := by decide +kernel
theorem dX7_readLetters_50 : decode cX7_readLetters 50 = .ok (.iconst 3, 1) := by decide +kernel
theorem dX7_readLetters_51 : decode cX7_readLetters 51 = .ok (.iadd, 1) := by decide +kernel
theorem dX7_readLetters_52 : decode cX7_readLetters 52 = .ok (.invokevirtual 240, 3) := by decide +kernel
theorem dX7_readLetters_55 : decode cX7_readLetters 55 = .ok (.aload_n 0, 1) := by decide +kernel
theorem dX7_readLetters_56 : decode cX7_readLetters 56 = .ok (.getfield 10, 3) := by decide +kernel
theorem dX7_readLetters_59 : decode cX7_readLetters 59 = .ok (.iload_n 1, 1) := by decide +kernel
theorem dX7_readLetters_60 : decode cX7_readLetters 60 = .ok (.iconst 4, 1) := by decide +kernel
theorem dX7_readLetters_61 : decode cX7_readLetters 61 = .ok (.iadd, 1) := by decide +kernel
theorem dX7_readLetters_62 : decode cX7_readLetters 62 = .ok (.invokevirtual 240, 3) := by decide +kernel
theorem dX7_readLetters_65 : decode cX7_readLetters 65 = .ok (.invokevirtual 243, 3) := by decide +kernel
theorem dX7_readLetters_68 : decode cX7_readLetters 68 = .ok (.iinc 1 5, 3) := by decide +kernel
theorem dX7_readLetters_71 : decode cX7_readLetters 71 = .ok (.goto (-61), 3) := by decide +kernel
theorem dX7_readLetters_74 : decode cX7_readLetters 74 = .ok (.return_, 1) := by decide +kernel
theorem dX7_copy_0 : decode cX7_copy 0 = .ok (.aload_n 0, 1) := by decide +kernel
theorem dX7_copy_1 : decode cX7_copy 1 = .ok (.ifnull 7, 3) := by decide +kernel
theorem dX7_copy_4 : decode cX7_copy 4 = .ok (.aload_n 1, 1) := by decide +kernel
theorem dX7_copy_5 : decode cX7_copy 5 = .ok (.ifnonnull 4, 3) := by decide +kernel
theorem dX7_copy_8 : decode cX7_copy 8 = .ok (.return_, 1) := by decide +kernel
theorem dX7_copy_9 : decode cX7_copy 9 = .ok (.iconst 0, 1) := by decide +kernel
theorem dX7_copy_10 : decode cX7_copy 10 = .ok (.istore_n 2, 1) := by decide +kernel
theorem dX7_copy_11 : decode cX7_copy 11 = .ok (.iload_n 2, 1) := by decide +kernel
theorem dX7_copy_12 : decode cX7_copy 12 = .ok (.bipush 12, 2) := by decide +kernel
theorem dX7_copy_14 : decode cX7_copy 14 = .ok (.if_icmp .ge 33, 3) := by decide +kernel
theorem dX7_copy_17 : decode cX7_copy 17 = .ok (.aload_n 1, 1) := by decide +kernel
theorem dX7_copy_18 : decode cX7_copy 18 = .ok (.getfield 246, 3) := by decide +kernel
theorem dX7_copy_21 : decode cX7_copy 21 = .ok (.iload_n 2, 1) := by decide +kernel
theorem dX7_copy_22 : decode cX7_copy 22 = .ok (.aload_n 0, 1) := by decide +kernel
theorem dX7_copy_23 : decode cX7_copy 23 = .ok (.getfield 246, 3) := by decide +kernel
theorem dX7_copy_26 : decode cX7_copy 26 = .ok (.iload_n 2, 1) := by decide +kernel
theorem dX7_copy_27 : decode cX7_copy 27 = .ok (.iaload, 1) := by decide +kernel
theorem dX7_copy_28 : decode cX7_copy 28 = .ok (.iastore, 1) := by decide +kernel
theorem dX7_copy_29 : decode cX7_copy 29 = .ok (.aload_n 1, 1) := by decide +kernel
theorem dX7_copy_30 : decode cX7_copy 30 = .ok (.getfield 250, 3) := by decide +kernel
theorem dX7_copy_33 : decode cX7_copy 33 = .ok (.iload_n 2, 1) := by decide +kernel
theorem dX7_copy_34 : decode cX7_copy 34 = .ok (.aload_n 0, 1) := by decide +kernel
theorem dX7_copy_35 : decode cX7_copy 35 = .ok (.getfield 250, 3) := by decide +kernel
theorem dX7_copy_38 : decode cX7_copy 38 = .ok (.iload_n 2, 1) := by decide +kernel
theorem dX7_copy_39 : decode cX7_copy 39 = .ok (.iaload, 1) := by decide +kernel
theorem dX7_copy_40 : decode cX7_copy 40 = .ok (.iastore, 1) := by decide +kernel
theorem dX7_copy_41 : decode cX7_copy 41 = .ok (.iinc 2 1, 3) := by decide +kernel
theorem dX7_copy_44 : decode cX7_copy 44 = .ok (.goto (-33), 3) := by decide +kernel
theorem dX7_copy_47 : decode cX7_copy 47 = .ok (.aload_n 1, 1) := by decide +kernel
theorem dX7_copy_48 : decode cX7_copy 48 = .ok (.aload_n 0, 1) := by decide +kernel
theorem dX7_copy_49 : decode cX7_copy 49 = .ok (.getfield 83, 3) := by decide +kernel
theorem dX7_copy_52 : decode cX7_copy 52 = .ok (.putfield 83, 3) := by decide +kernel
theorem dX7_copy_55 : decode cX7_copy 55 = .ok (.return_, 1) := by decide +kernel
theorem dX7_befall_0 : decode cX7_befall 0 = .ok (.aload_n 0, 1) := by decide +kernel
theorem dX7_befall_1 : decode cX7_befall 1 = .ok (.getfield 19, 3) := by decide +kernel
theorem dX7_befall_4 : decode cX7_befall 4 = .ok (.iload_n 1, 1) := by decide +kernel
theorem dX7_befall_5 : decode cX7_befall 5 = .ok (.invokevirtual 108, 3) := by decide +kernel
theorem dX7_befall_8 : decode cX7_befall 8 = .ok (.ifCond .eq 30, 3) := by decide +kernel
theorem dX7_befall_11 : decode cX7_befall 11 = .ok (.aload_n 0, 1) := by decide +kernel
theorem dX7_befall_12 : decode cX7_befall 12 = .ok (.getfield 30, 3) := by decide +kernel
theorem dX7_befall_15 : decode cX7_befall 15 = .ok (.aload_n 0, 1) := by decide +kernel
theorem dX7_befall_16 : decode cX7_befall 16 = .ok (.getfield 19, 3) := by decide +kernel
theorem dX7_befall_19 : decode cX7_befall 19 = .ok (.iload_n 1, 1) := by decide +kernel
theorem dX7_befall_20 : decode cX7_befall 20 = .ok (.invokevirtual 120, 3) := by decide +kernel
theorem dX7_befall_23 : decode cX7_befall 23 = .ok (.aload_n 0, 1) := by decide +kernel
theorem dX7_befall_24 : decode cX7_befall 24 = .ok (.getfield 19, 3) := by decide +kernel
theorem dX7_befall_27 : decode cX7_befall 27 = .ok (.iload_n 1, 1) := by decide +kernel
theorem dX7_befall_28 : decode cX7_befall 28 = .ok (.invokevirtual 117, 3) := by decide +kernel
theorem dX7_befall_31 : decode cX7_befall 31 = .ok (.iload_n 1, 1) := by decide +kernel
theorem dX7_befall_32 : decode cX7_befall 32 = .ok (.invokevirtual 140, 3) := by decide +kernel
theorem dX7_befall_35 : decode cX7_befall 35 = .ok (.goto 38, 3) := by decide +kernel
theorem dX7_befall_38 : decode cX7_befall 38 = .ok (.iload_n 1, 1) := by decide +kernel
theorem dX7_befall_39 : decode cX7_befall 39 = .ok (.bipush 6, 2) := by decide +kernel
theorem dX7_befall_41 : decode cX7_befall 41 = .ok (.if_icmp .eq 9, 3) := by decide +kernel
theorem dX7_befall_44 : decode cX7_befall 44 = .ok (.iload_n 1, 1) := by decide +kernel
theorem dX7_befall_45 : decode cX7_befall 45 = .ok (.bipush 7, 2) := by decide +kernel
theorem dX7_befall_47 : decode cX7_befall 47 = .ok (.if_icmp .ne 13, 3) := by decide +kernel
theorem dX7_befall_50 : decode cX7_befall 50 = .ok (.aload_n 0, 1) := by decide +kernel
theorem dX7_befall_51 : decode cX7_befall 51 = .ok (.getfield 30, 3) := by decide +kernel
theorem dX7_befall_54 : decode cX7_befall 54 = .ok (.invokevirtual 149, 3) := by decide +kernel
theorem dX7_befall_57 : decode cX7_befall 57 = .ok (.goto 16, 3) := by decide +kernel
theorem dX7_befall_60 : decode cX7_befall 60 = .ok (.iload_n 1, 1) := by decide +kernel
theorem dX7_befall_61 : decode cX7_befall 61 = .ok (.bipush 8, 2) := by decide +kernel
theorem dX7_befall_63 : decode cX7_befall 63 = .ok (.if_icmp .ne 10, 3) := by decide +kernel
theorem dX7_befall_66 : decode cX7_befall 66 = .ok (.aload_n 0, 1) := by decide +kernel
theorem dX7_befall_67 : decode cX7_befall 67 = .ok (.getfield 30, 3) := by decide +kernel
theorem dX7_befall_70 : decode cX7_befall 70 = .ok (.invokevirtual 80, 3) := by decide +kernel
theorem dX7_befall_73 : decode cX7_befall 73 = .ok (.return_, 1) := by decide +kernel
theorem dX7_told_0 : decode cX7_told 0 = .ok (.iload_n 0, 1) := by decide +kernel
theorem dX7_told_1 : decode cX7_told 1 = .ok (.ifCond .ne 5, 3) := by decide +kernel
theorem dX7_told_4 : decode cX7_told 4 = .ok (.iload_n 1, 1) := by decide +kernel
theorem dX7_told_5 : decode cX7_told 5 = .ok (.ireturn, 1) := by decide +kernel
theorem dX7_told_6 : decode cX7_told 6 = .ok (.iload_n 1, 1) := by decide +kernel
theorem dX7_told_7 : decode cX7_told 7 = .ok (.ifCond .ne 6, 3) := by decide +kernel
theorem dX7_told_10 : decode cX7_told 10 = .ok (.bipush (-9), 2) := by decide +kernel
theorem dX7_told_12 : decode cX7_told 12 = .ok (.ireturn, 1) := by decide +kernel
theorem dX7_told_13 : decode cX7_told 13 = .ok (.iload_n 0, 1) := by decide +kernel
theorem dX7_told_14 : decode cX7_told 14 = .ok (.iconst 1, 1) := by decide +kernel
theorem dX7_told_15 : decode cX7_told 15 = .ok (.if_icmp .ne 7, 3) := by decide +kernel
theorem dX7_told_18 : decode cX7_told 18 = .ok (.iload_n 2, 1) := by decide +kernel
theorem dX7_told_19 : decode cX7_told 19 = .ok (.goto 4, 3) := by decide +kernel
theorem dX7_told_22 : decode cX7_told 22 = .ok (.iload_n 3, 1) := by decide +kernel
theorem dX7_told_23 : decode cX7_told 23 = .ok (.ireturn, 1) := by decide +kernel
theorem dX7_readOf_0 : decode cX7_readOf 0 = .ok (.iload_n 1, 1) := by decide +kernel
theorem dX7_readOf_1 : decode cX7_readOf 1 = .ok (.aload_n 0, 1) := by decide +kernel
theorem dX7_readOf_2 : decode cX7_readOf 2 = .ok (.getfield 19, 3) := by decide +kernel
theorem dX7_readOf_5 : decode cX7_readOf 5 = .ok (.aload_n 0, 1) := by decide +kernel
theorem dX7_readOf_6 : decode cX7_readOf 6 = .ok (.getfield 19, 3) := by decide +kernel
theorem dX7_readOf_9 : decode cX7_readOf 9 = .ok (.iload_n 1, 1) := by decide +kernel
theorem dX7_readOf_10 : decode cX7_readOf 10 = .ok (.invokevirtual 163, 3) := by decide +kernel
theorem dX7_readOf_13 : decode cX7_readOf 13 = .ok (.invokevirtual 100, 3) := by decide +kernel
theorem dX7_readOf_16 : decode cX7_readOf 16 = .ok (.iand, 1) := by decide +kernel
theorem dX7_readOf_17 : decode cX7_readOf 17 = .ok (.invokestatic 144, 3) := by decide +kernel
theorem dX7_readOf_20 : decode cX7_readOf 20 = .ok (.ireturn, 1) := by decide +kernel
theorem dX7_keepsMore_0 : decode cX7_keepsMore 0 = .ok (.aload_n 0, 1) := by decide +kernel
theorem dX7_keepsMore_1 : decode cX7_keepsMore 1 = .ok (.iload_n 1, 1) := by decide +kernel
theorem dX7_keepsMore_2 : decode cX7_keepsMore 2 = .ok (.invokevirtual 173, 3) := by decide +kernel
theorem dX7_keepsMore_5 : decode cX7_keepsMore 5 = .ok (.aload_n 0, 1) := by decide +kernel
theorem dX7_keepsMore_6 : decode cX7_keepsMore 6 = .ok (.iload_n 2, 1) := by decide +kernel
theorem dX7_keepsMore_7 : decode cX7_keepsMore 7 = .ok (.invokevirtual 173, 3) := by decide +kernel
theorem dX7_keepsMore_10 : decode cX7_keepsMore 10 = .ok (.isub, 1) := by decide +kernel
theorem dX7_keepsMore_11 : decode cX7_keepsMore 11 = .ok (.istore_n 3, 1) := by decide +kernel
theorem dX7_keepsMore_12 : decode cX7_keepsMore 12 = .ok (.iload_n 3, 1) := by decide +kernel
theorem dX7_keepsMore_13 : decode cX7_keepsMore 13 = .ok (.ifCond .gt 18, 3) := by decide +kernel
theorem dX7_keepsMore_16 : decode cX7_keepsMore 16 = .ok (.iload_n 3, 1) := by decide +kernel
theorem dX7_keepsMore_17 : decode cX7_keepsMore 17 = .ok (.ifCond .ne 18, 3) := by decide +kernel
theorem dX7_keepsMore_20 : decode cX7_keepsMore 20 = .ok (.iload_n 1, 1) := by decide +kernel
theorem dX7_keepsMore_21 : decode cX7_keepsMore 21 = .ok (.invokestatic 144, 3) := by decide +kernel
theorem dX7_keepsMore_24 : decode cX7_keepsMore 24 = .ok (.iload_n 2, 1) := by decide +kernel
theorem dX7_keepsMore_25 : decode cX7_keepsMore 25 = .ok (.invokestatic 144, 3) := by decide +kernel
theorem dX7_keepsMore_28 : decode cX7_keepsMore 28 = .ok (.if_icmp .ge 7, 3) := by decide +kernel
theorem dX7_keepsMore_31 : decode cX7_keepsMore 31 = .ok (.iconst 1, 1) := by decide +kernel
theorem dX7_keepsMore_32 : decode cX7_keepsMore 32 = .ok (.goto 4, 3) := by decide +kernel
theorem dX7_keepsMore_35 : decode cX7_keepsMore 35 = .ok (.iconst 0, 1) := by decide +kernel
theorem dX7_keepsMore_36 : decode cX7_keepsMore 36 = .ok (.ireturn, 1) := by decide +kernel
theorem dX7_timesGiveTheInk_0 : decode cX7_timesGiveTheInk 0 = .ok (.iconst 0, 1) := by decide +kernel
theorem dX7_timesGiveTheInk_1 : decode cX7_timesGiveTheInk 1 = .ok (.istore_n 1, 1) := by decide +kernel
theorem dX7_timesGiveTheInk_2 : decode cX7_timesGiveTheInk 2 = .ok (.iload_n 1, 1) := by decide +kernel
theorem dX7_timesGiveTheInk_3 : decode cX7_timesGiveTheInk 3 = .ok (.bipush 12, 2) := by decide +kernel
theorem dX7_timesGiveTheInk_5 : decode cX7_timesGiveTheInk 5 = .ok (.if_icmp .ge 27, 3) := by decide +kernel
theorem dX7_timesGiveTheInk_8 : decode cX7_timesGiveTheInk 8 = .ok (.aload_n 0, 1) := by decide +kernel
theorem dX7_timesGiveTheInk_9 : decode cX7_timesGiveTheInk 9 = .ok (.getfield 26, 3) := by decide +kernel
theorem dX7_timesGiveTheInk_12 : decode cX7_timesGiveTheInk 12 = .ok (.iload_n 1, 1) := by decide +kernel
theorem dX7_timesGiveTheInk_13 : decode cX7_timesGiveTheInk 13 = .ok (.invokevirtual 130, 3) := by decide +kernel
theorem dX7_timesGiveTheInk_16 : decode cX7_timesGiveTheInk 16 = .ok (.aload_n 0, 1) := by decide +kernel
theorem dX7_timesGiveTheInk_17 : decode cX7_timesGiveTheInk 17 = .ok (.iload_n 1, 1) := by decide +kernel
theorem dX7_timesGiveTheInk_18 : decode cX7_timesGiveTheInk 18 = .ok (.invokevirtual 253, 3) := by decide +kernel
theorem dX7_timesGiveTheInk_21 : decode cX7_timesGiveTheInk 21 = .ok (.if_icmp .eq 5, 3) := by decide +kernel
theorem dX7_timesGiveTheInk_24 : decode cX7_timesGiveTheInk 24 = .ok (.iconst 0, 1) := by decide +kernel
theorem dX7_timesGiveTheInk_25 : decode cX7_timesGiveTheInk 25 = .ok (.ireturn, 1) := by decide +kernel
theorem dX7_timesGiveTheInk_26 : decode cX7_timesGiveTheInk 26 = .ok (.iinc 1 1, 3) := by decide +kernel
theorem dX7_timesGiveTheInk_29 : decode cX7_timesGiveTheInk 29 = .ok (.goto (-27), 3) := by decide +kernel
theorem dX7_timesGiveTheInk_32 : decode cX7_timesGiveTheInk 32 = .ok (.iconst 1, 1) := by decide +kernel
theorem dX7_timesGiveTheInk_33 : decode cX7_timesGiveTheInk 33 = .ok (.ireturn, 1) := by decide +kernel
theorem dX7_inkByTimes_0 : decode cX7_inkByTimes 0 = .ok (.iconst 0, 1) := by decide +kernel
theorem dX7_inkByTimes_1 : decode cX7_inkByTimes 1 = .ok (.istore_n 2, 1) := by decide +kernel
theorem dX7_inkByTimes_2 : decode cX7_inkByTimes 2 = .ok (.iconst 0, 1) := by decide +kernel
theorem dX7_inkByTimes_3 : decode cX7_inkByTimes 3 = .ok (.istore_n 3, 1) := by decide +kernel
theorem dX7_inkByTimes_4 : decode cX7_inkByTimes 4 = .ok (.iload_n 3, 1) := by decide +kernel
theorem dX7_inkByTimes_5 : decode cX7_inkByTimes 5 = .ok (.aload_n 0, 1) := by decide +kernel
theorem dX7_inkByTimes_6 : decode cX7_inkByTimes 6 = .ok (.getfield 19, 3) := by decide +kernel
theorem dX7_inkByTimes_9 : decode cX7_inkByTimes 9 = .ok (.getfield 90, 3) := by decide +kernel
theorem dX7_inkByTimes_12 : decode cX7_inkByTimes 12 = .ok (.if_icmp .ge 45, 3) := by decide +kernel
theorem dX7_inkByTimes_15 : decode cX7_inkByTimes 15 = .ok (.aload_n 0, 1) := by decide +kernel
theorem dX7_inkByTimes_16 : decode cX7_inkByTimes 16 = .ok (.getfield 19, 3) := by decide +kernel
theorem dX7_inkByTimes_19 : decode cX7_inkByTimes 19 = .ok (.iload_n 3, 1) := by decide +kernel
theorem dX7_inkByTimes_20 : decode cX7_inkByTimes 20 = .ok (.invokevirtual 120, 3) := by decide +kernel
theorem dX7_inkByTimes_23 : decode cX7_inkByTimes 23 = .ok (.iload_n 1, 1) := by decide +kernel
theorem dX7_inkByTimes_24 : decode cX7_inkByTimes 24 = .ok (.ishr, 1) := by decide +kernel
theorem dX7_inkByTimes_25 : decode cX7_inkByTimes 25 = .ok (.iconst 1, 1) := by decide +kernel
theorem dX7_inkByTimes_26 : decode cX7_inkByTimes 26 = .ok (.iand, 1) := by decide +kernel
theorem dX7_inkByTimes_27 : decode cX7_inkByTimes 27 = .ok (.iconst 1, 1) := by decide +kernel
theorem dX7_inkByTimes_28 : decode cX7_inkByTimes 28 = .ok (.if_icmp .ne 23, 3) := by decide +kernel
theorem dX7_inkByTimes_31 : decode cX7_inkByTimes 31 = .ok (.iload_n 2, 1) := by decide +kernel
theorem dX7_inkByTimes_32 : decode cX7_inkByTimes 32 = .ok (.aload_n 0, 1) := by decide +kernel
theorem dX7_inkByTimes_33 : decode cX7_inkByTimes 33 = .ok (.getfield 57, 3) := by decide +kernel
theorem dX7_inkByTimes_36 : decode cX7_inkByTimes 36 = .ok (.iload_n 3, 1) := by decide +kernel
theorem dX7_inkByTimes_37 : decode cX7_inkByTimes 37 = .ok (.invokevirtual 256, 3) := by decide +kernel
theorem dX7_inkByTimes_40 : decode cX7_inkByTimes 40 = .ok (.aload_n 0, 1) := by decide +kernel
theorem dX7_inkByTimes_41 : decode cX7_inkByTimes 41 = .ok (.getfield 19, 3) := by decide +kernel
theorem dX7_inkByTimes_44 : decode cX7_inkByTimes 44 = .ok (.iload_n 3, 1) := by decide +kernel
theorem dX7_inkByTimes_45 : decode cX7_inkByTimes 45 = .ok (.invokevirtual 117, 3) := by decide +kernel
theorem dX7_inkByTimes_48 : decode cX7_inkByTimes 48 = .ok (.imul, 1) := by decide +kernel
theorem dX7_inkByTimes_49 : decode cX7_inkByTimes 49 = .ok (.iadd, 1) := by decide +kernel
theorem dX7_inkByTimes_50 : decode cX7_inkByTimes 50 = .ok (.istore_n 2, 1) := by decide +kernel
theorem dX7_inkByTimes_51 : decode cX7_inkByTimes 51 = .ok (.iinc 3 1, 3) := by decide +kernel
theorem dX7_inkByTimes_54 : decode cX7_inkByTimes 54 = .ok (.goto (-50), 3) := by decide +kernel
theorem dX7_inkByTimes_57 : decode cX7_inkByTimes 57 = .ok (.bipush 9, 2) := by decide +kernel
theorem dX7_inkByTimes_59 : decode cX7_inkByTimes 59 = .ok (.iload_n 2, 1) := by decide +kernel
theorem dX7_inkByTimes_60 : decode cX7_inkByTimes 60 = .ok (.invokestatic 259, 3) := by decide +kernel
theorem dX7_inkByTimes_63 : decode cX7_inkByTimes 63 = .ok (.ireturn, 1) := by decide +kernel
theorem dX7_leastThird_0 : decode cX7_leastThird 0 = .ok (.aload_n 0, 1) := by decide +kernel
theorem dX7_leastThird_1 : decode cX7_leastThird 1 = .ok (.getfield 19, 3) := by decide +kernel
theorem dX7_leastThird_4 : decode cX7_leastThird 4 = .ok (.iconst 1, 1) := by decide +kernel
theorem dX7_leastThird_5 : decode cX7_leastThird 5 = .ok (.iload_n 1, 1) := by decide +kernel
theorem dX7_leastThird_6 : decode cX7_leastThird 6 = .ok (.ishl, 1) := by decide +kernel
theorem dX7_leastThird_7 : decode cX7_leastThird 7 = .ok (.iconst 1, 1) := by decide +kernel
theorem dX7_leastThird_8 : decode cX7_leastThird 8 = .ok (.iload_n 2, 1) := by decide +kernel
theorem dX7_leastThird_9 : decode cX7_leastThird 9 = .ok (.ishl, 1) := by decide +kernel
theorem dX7_leastThird_10 : decode cX7_leastThird 10 = .ok (.ior, 1) := by decide +kernel
theorem dX7_leastThird_11 : decode cX7_leastThird 11 = .ok (.invokevirtual 163, 3) := by decide +kernel
theorem dX7_leastThird_14 : decode cX7_leastThird 14 = .ok (.istore_n 3, 1) := by decide +kernel
theorem dX7_leastThird_15 : decode cX7_leastThird 15 = .ok (.iconst 0, 1) := by decide +kernel
theorem dX7_leastThird_16 : decode cX7_leastThird 16 = .ok (.istore 4, 2) := by decide +kernel
theorem dX7_leastThird_18 : decode cX7_leastThird 18 = .ok (.iload 4, 2) := by decide +kernel
theorem dX7_leastThird_20 : decode cX7_leastThird 20 = .ok (.aload_n 0, 1) := by decide +kernel
theorem dX7_leastThird_21 : decode cX7_leastThird 21 = .ok (.getfield 19, 3) := by decide +kernel
theorem dX7_leastThird_24 : decode cX7_leastThird 24 = .ok (.getfield 90, 3) := by decide +kernel
theorem dX7_leastThird_27 : decode cX7_leastThird 27 = .ok (.if_icmp .ge 37, 3) := by decide +kernel
theorem dX7_leastThird_30 : decode cX7_leastThird 30 = .ok (.iload 4, 2) := by decide +kernel
theorem dX7_leastThird_32 : decode cX7_leastThird 32 = .ok (.iload_n 1, 1) := by decide +kernel
theorem dX7_leastThird_33 : decode cX7_leastThird 33 = .ok (.if_icmp .eq 25, 3) := by decide +kernel
theorem dX7_leastThird_36 : decode cX7_leastThird 36 = .ok (.iload 4, 2) := by decide +kernel
theorem dX7_leastThird_38 : decode cX7_leastThird 38 = .ok (.iload_n 2, 1) := by decide +kernel
theorem dX7_leastThird_39 : decode cX7_leastThird 39 = .ok (.if_icmp .eq 19, 3) := by decide +kernel
theorem dX7_leastThird_42 : decode cX7_leastThird 42 = .ok (.aload_n 0, 1) := by decide +kernel
theorem dX7_leastThird_43 : decode cX7_leastThird 43 = .ok (.getfield 19, 3) := by decide +kernel
theorem dX7_leastThird_46 : decode cX7_leastThird 46 = .ok (.iload 4, 2) := by decide +kernel
theorem dX7_leastThird_48 : decode cX7_leastThird 48 = .ok (.iload_n 3, 1) := by decide +kernel
theorem dX7_leastThird_49 : decode cX7_leastThird 49 = .ok (.invokevirtual 123, 3) := by decide +kernel
theorem dX7_leastThird_52 : decode cX7_leastThird 52 = .ok (.ifCond .eq 6, 3) := by decide +kernel
theorem dX7_leastThird_55 : decode cX7_leastThird 55 = .ok (.iload 4, 2) := by decide +kernel
theorem dX7_leastThird_57 : decode cX7_leastThird 57 = .ok (.ireturn, 1) := by decide +kernel
theorem dX7_leastThird_58 : decode cX7_leastThird 58 = .ok (.iinc 4 1, 3) := by decide +kernel
theorem dX7_leastThird_61 : decode cX7_leastThird 61 = .ok (.goto (-43), 3) := by decide +kernel
theorem dX7_leastThird_64 : decode cX7_leastThird 64 = .ok (.bipush (-9), 2) := by decide +kernel
theorem dX7_leastThird_66 : decode cX7_leastThird 66 = .ok (.ireturn, 1) := by decide +kernel
theorem dX7_isSeen_0 : decode cX7_isSeen 0 = .ok (.iload_n 0, 1) := by decide +kernel
theorem dX7_isSeen_1 : decode cX7_isSeen 1 = .ok (.iload_n 1, 1) := by decide +kernel
theorem dX7_isSeen_2 : decode cX7_isSeen 2 = .ok (.if_icmp .le 7, 3) := by decide +kernel
theorem dX7_isSeen_5 : decode cX7_isSeen 5 = .ok (.iconst 1, 1) := by decide +kernel
theorem dX7_isSeen_6 : decode cX7_isSeen 6 = .ok (.goto 4, 3) := by decide +kernel
theorem dX7_isSeen_9 : decode cX7_isSeen 9 = .ok (.iconst 0, 1) := by decide +kernel
theorem dX7_isSeen_10 : decode cX7_isSeen 10 = .ok (.ireturn, 1) := by decide +kernel
theorem dX7_clerkHas_0 : decode cX7_clerkHas 0 = .ok (.iload_n 0, 1) := by decide +kernel
theorem dX7_clerkHas_1 : decode cX7_clerkHas 1 = .ok (.iload_n 1, 1) := by decide +kernel
theorem dX7_clerkHas_2 : decode cX7_clerkHas 2 = .ok (.invokestatic 264, 3) := by decide +kernel
theorem dX7_clerkHas_5 : decode cX7_clerkHas 5 = .ok (.ifCond .eq 11, 3) := by decide +kernel
theorem dX7_clerkHas_8 : decode cX7_clerkHas 8 = .ok (.iconst 2, 1) := by decide +kernel
theorem dX7_clerkHas_9 : decode cX7_clerkHas 9 = .ok (.iload_n 0, 1) := by decide +kernel
theorem dX7_clerkHas_10 : decode cX7_clerkHas 10 = .ok (.imul, 1) := by decide +kernel
theorem dX7_clerkHas_11 : decode cX7_clerkHas 11 = .ok (.iconst 5, 1) := by decide +kernel
theorem dX7_clerkHas_12 : decode cX7_clerkHas 12 = .ok (.isub, 1) := by decide +kernel
theorem dX7_clerkHas_13 : decode cX7_clerkHas 13 = .ok (.goto 6, 3) := by decide +kernel
theorem dX7_clerkHas_16 : decode cX7_clerkHas 16 = .ok (.iconst 2, 1) := by decide +kernel
theorem dX7_clerkHas_17 : decode cX7_clerkHas 17 = .ok (.iload_n 0, 1) := by decide +kernel
theorem dX7_clerkHas_18 : decode cX7_clerkHas 18 = .ok (.imul, 1) := by decide +kernel
theorem dX7_clerkHas_19 : decode cX7_clerkHas 19 = .ok (.ireturn, 1) := by decide +kernel
theorem dX7_auditorHas_0 : decode cX7_auditorHas 0 = .ok (.iload_n 0, 1) := by decide +kernel
theorem dX7_auditorHas_1 : decode cX7_auditorHas 1 = .ok (.iload_n 1, 1) := by decide +kernel
theorem dX7_auditorHas_2 : decode cX7_auditorHas 2 = .ok (.invokestatic 264, 3) := by decide +kernel
theorem dX7_auditorHas_5 : decode cX7_auditorHas 5 = .ok (.ifCond .eq 9, 3) := by decide +kernel
theorem dX7_auditorHas_8 : decode cX7_auditorHas 8 = .ok (.iconst 4, 1) := by decide +kernel
theorem dX7_auditorHas_9 : decode cX7_auditorHas 9 = .ok (.iload_n 1, 1) := by decide +kernel
theorem dX7_auditorHas_10 : decode cX7_auditorHas 10 = .ok (.isub, 1) := by decide +kernel
theorem dX7_auditorHas_11 : decode cX7_auditorHas 11 = .ok (.goto 5, 3) := by decide +kernel
theorem dX7_auditorHas_14 : decode cX7_auditorHas 14 = .ok (.iload_n 1, 1) := by decide +kernel
theorem dX7_auditorHas_15 : decode cX7_auditorHas 15 = .ok (.ineg, 1) := by decide +kernel
theorem dX7_auditorHas_16 : decode cX7_auditorHas 16 = .ok (.ireturn, 1) := by decide +kernel
theorem dX7_canPressBy_0 : decode cX7_canPressBy 0 = .ok (.iload_n 0, 1) := by decide +kernel
theorem dX7_canPressBy_1 : decode cX7_canPressBy 1 = .ok (.iconst 2, 1) := by decide +kernel
theorem dX7_canPressBy_2 : decode cX7_canPressBy 2 = .ok (.if_icmp .ne 8, 3) := by decide +kernel
theorem dX7_canPressBy_5 : decode cX7_canPressBy 5 = .ok (.iload_n 1, 1) := by decide +kernel
theorem dX7_canPressBy_6 : decode cX7_canPressBy 6 = .ok (.iconst 1, 1) := by decide +kernel
theorem dX7_canPressBy_7 : decode cX7_canPressBy 7 = .ok (.if_icmp .lt 17, 3) := by decide +kernel
theorem dX7_canPressBy_10 : decode cX7_canPressBy 10 = .ok (.iload_n 0, 1) := by decide +kernel
theorem dX7_canPressBy_11 : decode cX7_canPressBy 11 = .ok (.iconst 1, 1) := by decide +kernel
theorem dX7_canPressBy_12 : decode cX7_canPressBy 12 = .ok (.if_icmp .ne 8, 3) := by decide +kernel
theorem dX7_canPressBy_15 : decode cX7_canPressBy 15 = .ok (.iload_n 1, 1) := by decide +kernel
theorem dX7_canPressBy_16 : decode cX7_canPressBy 16 = .ok (.iconst 2, 1) := by decide +kernel
theorem dX7_canPressBy_17 : decode cX7_canPressBy 17 = .ok (.if_icmp .gt 7, 3) := by decide +kernel
theorem dX7_canPressBy_20 : decode cX7_canPressBy 20 = .ok (.iconst 1, 1) := by decide +kernel
theorem dX7_canPressBy_21 : decode cX7_canPressBy 21 = .ok (.goto 4, 3) := by decide +kernel
theorem dX7_canPressBy_24 : decode cX7_canPressBy 24 = .ok (.iconst 0, 1) := by decide +kernel
theorem dX7_canPressBy_25 : decode cX7_canPressBy 25 = .ok (.ireturn, 1) := by decide +kernel
theorem dX7_isAtRest_0 : decode cX7_isAtRest 0 = .ok (.iload_n 0, 1) := by decide +kernel
theorem dX7_isAtRest_1 : decode cX7_isAtRest 1 = .ok (.iload_n 1, 1) := by decide +kernel
theorem dX7_isAtRest_2 : decode cX7_isAtRest 2 = .ok (.invokestatic 267, 3) := by decide +kernel
theorem dX7_isAtRest_5 : decode cX7_isAtRest 5 = .ok (.ifCond .ne 5, 3) := by decide +kernel
theorem dX7_isAtRest_8 : decode cX7_isAtRest 8 = .ok (.iconst 0, 1) := by decide +kernel
theorem dX7_isAtRest_9 : decode cX7_isAtRest 9 = .ok (.ireturn, 1) := by decide +kernel
theorem dX7_isAtRest_10 : decode cX7_isAtRest 10 = .ok (.iconst 0, 1) := by decide +kernel
theorem dX7_isAtRest_11 : decode cX7_isAtRest 11 = .ok (.istore_n 3, 1) := by decide +kernel
theorem dX7_isAtRest_12 : decode cX7_isAtRest 12 = .ok (.iload_n 3, 1) := by decide +kernel
theorem dX7_isAtRest_13 : decode cX7_isAtRest 13 = .ok (.iconst 3, 1) := by decide +kernel
theorem dX7_isAtRest_14 : decode cX7_isAtRest 14 = .ok (.if_icmp .gt 47, 3) := by decide +kernel
theorem dX7_isAtRest_17 : decode cX7_isAtRest 17 = .ok (.iload_n 0, 1) := by decide +kernel
theorem dX7_isAtRest_18 : decode cX7_isAtRest 18 = .ok (.iload_n 3, 1) := by decide +kernel
theorem dX7_isAtRest_19 : decode cX7_isAtRest 19 = .ok (.invokestatic 267, 3) := by decide +kernel
theorem dX7_isAtRest_22 : decode cX7_isAtRest 22 = .ok (.ifCond .eq 18, 3) := by decide +kernel
theorem dX7_isAtRest_25 : decode cX7_isAtRest 25 = .ok (.iload_n 3, 1) := by decide +kernel
theorem dX7_isAtRest_26 : decode cX7_isAtRest 26 = .ok (.iload_n 2, 1) := by decide +kernel
theorem dX7_isAtRest_27 : decode cX7_isAtRest 27 = .ok (.invokestatic 270, 3) := by decide +kernel
theorem dX7_isAtRest_30 : decode cX7_isAtRest 30 = .ok (.iload_n 1, 1) := by decide +kernel
theorem dX7_isAtRest_31 : decode cX7_isAtRest 31 = .ok (.iload_n 2, 1) := by decide +kernel
theorem dX7_isAtRest_32 : decode cX7_isAtRest 32 = .ok (.invokestatic 270, 3) := by decide +kernel
theorem dX7_isAtRest_35 : decode cX7_isAtRest 35 = .ok (.if_icmp .le 5, 3) := by decide +kernel
theorem dX7_isAtRest_38 : decode cX7_isAtRest 38 = .ok (.iconst 0, 1) := by decide +kernel
theorem dX7_isAtRest_39 : decode cX7_isAtRest 39 = .ok (.ireturn, 1) := by decide +kernel
theorem dX7_isAtRest_40 : decode cX7_isAtRest 40 = .ok (.iload_n 1, 1) := by decide +kernel
theorem dX7_isAtRest_41 : decode cX7_isAtRest 41 = .ok (.iload_n 3, 1) := by decide +kernel
theorem dX7_isAtRest_42 : decode cX7_isAtRest 42 = .ok (.invokestatic 273, 3) := by decide +kernel
theorem dX7_isAtRest_45 : decode cX7_isAtRest 45 = .ok (.iload_n 1, 1) := by decide +kernel
theorem dX7_isAtRest_46 : decode cX7_isAtRest 46 = .ok (.iload_n 2, 1) := by decide +kernel
theorem dX7_isAtRest_47 : decode cX7_isAtRest 47 = .ok (.invokestatic 273, 3) := by decide +kernel
theorem dX7_isAtRest_50 : decode cX7_isAtRest 50 = .ok (.if_icmp .le 5, 3) := by decide +kernel
theorem dX7_isAtRest_53 : decode cX7_isAtRest 53 = .ok (.iconst 0, 1) := by decide +kernel
theorem dX7_isAtRest_54 : decode cX7_isAtRest 54 = .ok (.ireturn, 1) := by decide +kernel
theorem dX7_isAtRest_55 : decode cX7_isAtRest 55 = .ok (.iinc 3 1, 3) := by decide +kernel
theorem dX7_isAtRest_58 : decode cX7_isAtRest 58 = .ok (.goto (-46), 3) := by decide +kernel
theorem dX7_isAtRest_61 : decode cX7_isAtRest 61 = .ok (.iconst 1, 1) := by decide +kernel
theorem dX7_isAtRest_62 : decode cX7_isAtRest 62 = .ok (.ireturn, 1) := by decide +kernel
theorem dX7_power_0 : decode cX7_power 0 = .ok (.iconst 1, 1) := by decide +kernel
theorem dX7_power_1 : decode cX7_power 1 = .ok (.istore_n 2, 1) := by decide +kernel
theorem dX7_power_2 : decode cX7_power 2 = .ok (.iconst 0, 1) := by decide +kernel
theorem dX7_power_3 : decode cX7_power 3 = .ok (.istore_n 3, 1) := by decide +kernel
theorem dX7_power_4 : decode cX7_power 4 = .ok (.iload_n 3, 1) := by decide +kernel
theorem dX7_power_5 : decode cX7_power 5 = .ok (.iload_n 1, 1) := by decide +kernel
theorem dX7_power_6 : decode cX7_power 6 = .ok (.if_icmp .ge 13, 3) := by decide +kernel
theorem dX7_power_9 : decode cX7_power 9 = .ok (.iload_n 2, 1) := by decide +kernel
theorem dX7_power_10 : decode cX7_power 10 = .ok (.iload_n 0, 1) := by decide +kernel
theorem dX7_power_11 : decode cX7_power 11 = .ok (.imul, 1) := by decide +kernel
theorem dX7_power_12 : decode cX7_power 12 = .ok (.istore_n 2, 1) := by decide +kernel
theorem dX7_power_13 : decode cX7_power 13 = .ok (.iinc 3 1, 3) := by decide +kernel
theorem dX7_power_16 : decode cX7_power 16 = .ok (.goto (-12), 3) := by decide +kernel
theorem dX7_power_19 : decode cX7_power 19 = .ok (.iload_n 2, 1) := by decide +kernel
theorem dX7_power_20 : decode cX7_power 20 = .ok (.ireturn, 1) := by decide +kernel
theorem dX7_leastTerms_0 : decode cX7_leastTerms 0 = .ok (.iload_n 0, 1) := by decide +kernel
theorem dX7_leastTerms_1 : decode cX7_leastTerms 1 = .ok (.iload_n 1, 1) := by decide +kernel
theorem dX7_leastTerms_2 : decode cX7_leastTerms 2 = .ok (.invokestatic 276, 3) := by decide +kernel
theorem dX7_leastTerms_5 : decode cX7_leastTerms 5 = .ok (.istore_n 3, 1) := by decide +kernel
theorem dX7_leastTerms_6 : decode cX7_leastTerms 6 = .ok (.iload_n 2, 1) := by decide +kernel
theorem dX7_leastTerms_7 : decode cX7_leastTerms 7 = .ok (.ifCond .eq 7, 3) := by decide +kernel
theorem dX7_leastTerms_10 : decode cX7_leastTerms 10 = .ok (.iload_n 0, 1) := by decide +kernel
theorem dX7_leastTerms_11 : decode cX7_leastTerms 11 = .ok (.goto 4, 3) := by decide +kernel
theorem dX7_leastTerms_14 : decode cX7_leastTerms 14 = .ok (.iload_n 1, 1) := by decide +kernel
theorem dX7_leastTerms_15 : decode cX7_leastTerms 15 = .ok (.istore 4, 2) := by decide +kernel
theorem dX7_leastTerms_17 : decode cX7_leastTerms 17 = .ok (.iload_n 3, 1) := by decide +kernel
theorem dX7_leastTerms_18 : decode cX7_leastTerms 18 = .ok (.ifCond .le 10, 3) := by decide +kernel
theorem dX7_leastTerms_21 : decode cX7_leastTerms 21 = .ok (.iload 4, 2) := by decide +kernel
theorem dX7_leastTerms_23 : decode cX7_leastTerms 23 = .ok (.iload_n 3, 1) := by decide +kernel
theorem dX7_leastTerms_24 : decode cX7_leastTerms 24 = .ok (.idiv, 1) := by decide +kernel
theorem dX7_leastTerms_25 : decode cX7_leastTerms 25 = .ok (.goto 5, 3) := by decide +kernel
theorem dX7_leastTerms_28 : decode cX7_leastTerms 28 = .ok (.iload 4, 2) := by decide +kernel
theorem dX7_leastTerms_30 : decode cX7_leastTerms 30 = .ok (.ireturn, 1) := by decide +kernel
theorem dX7_commonDivisor_0 : decode cX7_commonDivisor 0 = .ok (.iload_n 0, 1) := by decide +kernel
theorem dX7_commonDivisor_1 : decode cX7_commonDivisor 1 = .ok (.istore_n 2, 1) := by decide +kernel
theorem dX7_commonDivisor_2 : decode cX7_commonDivisor 2 = .ok (.iload_n 1, 1) := by decide +kernel
theorem dX7_commonDivisor_3 : decode cX7_commonDivisor 3 = .ok (.istore_n 3, 1) := by decide +kernel
theorem dX7_commonDivisor_4 : decode cX7_commonDivisor 4 = .ok (.iconst 0, 1) := by decide +kernel
theorem dX7_commonDivisor_5 : decode cX7_commonDivisor 5 = .ok (.istore 4, 2) := by decide +kernel
theorem dX7_commonDivisor_7 : decode cX7_commonDivisor 7 = .ok (.iload 4, 2) := by decide +kernel
theorem dX7_commonDivisor_9 : decode cX7_commonDivisor 9 = .ok (.bipush 64, 2) := by decide +kernel
theorem dX7_commonDivisor_11 : decode cX7_commonDivisor 11 = .ok (.if_icmp .ge 23, 3) := by decide +kernel
theorem dX7_commonDivisor_14 : decode cX7_commonDivisor 14 = .ok (.iload_n 3, 1) := by decide +kernel
theorem dX7_commonDivisor_15 : decode cX7_commonDivisor 15 = .ok (.ifCond .eq 19, 3) := by decide +kernel
theorem dX7_commonDivisor_18 : decode cX7_commonDivisor 18 = .ok (.iload_n 2, 1) := by decide +kernel
theorem dX7_commonDivisor_19 : decode cX7_commonDivisor 19 = .ok (.iload_n 3, 1) := by decide +kernel
theorem dX7_commonDivisor_20 : decode cX7_commonDivisor 20 = .ok (.irem, 1) := by decide +kernel
theorem dX7_commonDivisor_21 : decode cX7_commonDivisor 21 = .ok (.istore 5, 2) := by decide +kernel
theorem dX7_commonDivisor_23 : decode cX7_commonDivisor 23 = .ok (.iload_n 3, 1) := by decide +kernel
theorem dX7_commonDivisor_24 : decode cX7_commonDivisor 24 = .ok (.istore_n 2, 1) := by decide +kernel
theorem dX7_commonDivisor_25 : decode cX7_commonDivisor 25 = .ok (.iload 5, 2) := by decide +kernel
theorem dX7_commonDivisor_27 : decode cX7_commonDivisor 27 = .ok (.istore_n 3, 1) := by decide +kernel
theorem dX7_commonDivisor_28 : decode cX7_commonDivisor 28 = .ok (.iinc 4 1, 3) := by decide +kernel
theorem dX7_commonDivisor_31 : decode cX7_commonDivisor 31 = .ok (.goto (-24), 3) := by decide +kernel
theorem dX7_commonDivisor_34 : decode cX7_commonDivisor 34 = .ok (.iload_n 2, 1) := by decide +kernel
theorem dX7_commonDivisor_35 : decode cX7_commonDivisor 35 = .ok (.ireturn, 1) := by decide +kernel
theorem dX8_init_0 : decode cX8_init 0 = .ok (.aload_n 0, 1) := by decide +kernel
theorem dX8_init_1 : decode cX8_init 1 = .ok (.invokespecial 1, 3) := by decide +kernel
theorem dX8_init_4 : decode cX8_init 4 = .ok (.aload_n 0, 1) := by decide +kernel
theorem dX8_init_5 : decode cX8_init 5 = .ok (.bipush 40, 2) := by decide +kernel
theorem dX8_init_7 : decode cX8_init 7 = .ok (.newarray .int, 2) := by decide +kernel
theorem dX8_init_9 : decode cX8_init 9 = .ok (.putfield 7, 3) := by decide +kernel
theorem dX8_init_12 : decode cX8_init 12 = .ok (.aload_n 0, 1) := by decide +kernel
theorem dX8_init_13 : decode cX8_init 13 = .ok (.bipush 6, 2) := by decide +kernel
theorem dX8_init_15 : decode cX8_init 15 = .ok (.newarray .int, 2) := by decide +kernel
theorem dX8_init_17 : decode cX8_init 17 = .ok (.putfield 13, 3) := by decide +kernel
theorem dX8_init_20 : decode cX8_init 20 = .ok (.aload_n 0, 1) := by decide +kernel
theorem dX8_init_21 : decode cX8_init 21 = .ok (.bipush 6, 2) := by decide +kernel
theorem dX8_init_23 : decode cX8_init 23 = .ok (.newarray .int, 2) := by decide +kernel
theorem dX8_init_25 : decode cX8_init 25 = .ok (.putfield 16, 3) := by decide +kernel
theorem dX8_init_28 : decode cX8_init 28 = .ok (.aload_n 0, 1) := by decide +kernel
theorem dX8_init_29 : decode cX8_init 29 = .ok (.bipush 6, 2) := by decide +kernel
theorem dX8_init_31 : decode cX8_init 31 = .ok (.newarray .int, 2) := by decide +kernel
theorem dX8_init_33 : decode cX8_init 33 = .ok (.putfield 19, 3) := by decide +kernel
theorem dX8_init_36 : decode cX8_init 36 = .ok (.aload_n 0, 1) := by decide +kernel
theorem dX8_init_37 : decode cX8_init 37 = .ok (.bipush 6, 2) := by decide +kernel
theorem dX8_init_39 : decode cX8_init 39 = .ok (.newarray .int, 2) := by decide +kernel
theorem dX8_init_41 : decode cX8_init 41 = .ok (.putfield 22, 3) := by decide +kernel
theorem dX8_init_44 : decode cX8_init 44 = .ok (.aload_n 0, 1) := by decide +kernel
theorem dX8_init_45 : decode cX8_init 45 = .ok (.bipush 24, 2) := by decide +kernel
theorem dX8_init_47 : decode cX8_init 47 = .ok (.newarray .int, 2) := by decide +kernel
theorem dX8_init_49 : decode cX8_init 49 = .ok (.putfield 25, 3) := by decide +kernel
theorem dX8_init_52 : decode cX8_init 52 = .ok (.aload_n 0, 1) := by decide +kernel
theorem dX8_init_53 : decode cX8_init 53 = .ok (.bipush 25, 2) := by decide +kernel
theorem dX8_init_55 : decode cX8_init 55 = .ok (.newarray .int, 2) := by decide +kernel
theorem dX8_init_57 : decode cX8_init 57 = .ok (.putfield 28, 3) := by decide +kernel
theorem dX8_init_60 : decode cX8_init 60 = .ok (.aload_n 0, 1) := by decide +kernel
theorem dX8_init_61 : decode cX8_init 61 = .ok (.bipush 25, 2) := by decide +kernel
theorem dX8_init_63 : decode cX8_init 63 = .ok (.newarray .int, 2) := by decide +kernel
theorem dX8_init_65 : decode cX8_init 65 = .ok (.putfield 31, 3) := by decide +kernel
theorem dX8_init_68 : decode cX8_init 68 = .ok (.aload_n 0, 1) := by decide +kernel
theorem dX8_init_69 : decode cX8_init 69 = .ok (.sipush 350, 3) := by decide +kernel
theorem dX8_init_72 : decode cX8_init 72 = .ok (.newarray .int, 2) := by decide +kernel
theorem dX8_init_74 : decode cX8_init 74 = .ok (.putfield 34, 3) := by decide +kernel
theorem dX8_init_77 : decode cX8_init 77 = .ok (.aload_n 0, 1) := by decide +kernel
theorem dX8_init_78 : decode cX8_init 78 = .ok (.bipush 50, 2) := by decide +kernel
theorem dX8_init_80 : decode cX8_init 80 = .ok (.newarray .int, 2) := by decide +kernel
theorem dX8_init_82 : decode cX8_init 82 = .ok (.putfield 37, 3) := by decide +kernel
theorem dX8_init_85 : decode cX8_init 85 = .ok (.aload_n 0, 1) := by decide +kernel
theorem dX8_init_86 : decode cX8_init 86 = .ok (.iconst 2, 1) := by decide +kernel
theorem dX8_init_87 : decode cX8_init 87 = .ok (.newarray .boolean, 2) := by decide +kernel
theorem dX8_init_89 : decode cX8_init 89 = .ok (.putfield 40, 3) := by decide +kernel
theorem dX8_init_92 : decode cX8_init 92 = .ok (.aload_n 0, 1) := by decide +kernel
theorem dX8_init_93 : decode cX8_init 93 = .ok (.bipush 6, 2) := by decide +kernel
theorem dX8_init_95 : decode cX8_init 95 = .ok (.newarray .int, 2) := by decide +kernel
theorem dX8_init_97 : decode cX8_init 97 = .ok (.putfield 44, 3) := by decide +kernel
theorem dX8_init_100 : decode cX8_init 100 = .ok (.aload_n 0, 1) := by decide +kernel
theorem dX8_init_101 : decode cX8_init 101 = .ok (.bipush 6, 2) := by decide +kernel
theorem dX8_init_103 : decode cX8_init 103 = .ok (.newarray .int, 2) := by decide +kernel
theorem dX8_init_105 : decode cX8_init 105 = .ok (.putfield 47, 3) := by decide +kernel
theorem dX8_init_108 : decode cX8_init 108 = .ok (.aload_n 0, 1) := by decide +kernel
theorem dX8_init_109 : decode cX8_init 109 = .ok (.bipush 64, 2) := by decide +kernel
theorem dX8_init_111 : decode cX8_init 111 = .ok (.newarray .int, 2) := by decide +kernel
theorem dX8_init_113 : decode cX8_init 113 = .ok (.putfield 50, 3) := by decide +kernel
theorem dX8_init_116 : decode cX8_init 116 = .ok (.aload_n 0, 1) := by decide +kernel
theorem dX8_init_117 : decode cX8_init 117 = .ok (.bipush 6, 2) := by decide +kernel
theorem dX8_init_119 : decode cX8_init 119 = .ok (.newarray .int, 2) := by decide +kernel
theorem dX8_init_121 : decode cX8_init 121 = .ok (.putfield 53, 3) := by decide +kernel
theorem dX8_init_124 : decode cX8_init 124 = .ok (.aload_n 0, 1) := by decide +kernel
theorem dX8_init_125 : decode cX8_init 125 = .ok (.getfield 28, 3) := by decide +kernel
theorem dX8_init_128 : decode cX8_init 128 = .ok (.invokestatic 56, 3) := by decide +kernel
theorem dX8_init_131 : decode cX8_init 131 = .ok (.return_, 1) := by decide +kernel
theorem dX8_in_0 : decode cX8_in 0 = .ok (.lload_n 0, 1) := by decide +kernel
theorem dX8_in_1 : decode cX8_in 1 = .ok (.lload_n 2, 1) := by decide +kernel
theorem dX8_in_2 : decode cX8_in 2 = .ok (.lcmp, 1) := by decide +kernel
theorem dX8_in_3 : decode cX8_in 3 = .ok (.ifCond .lt 14, 3) := by decide +kernel
theorem dX8_in_6 : decode cX8_in 6 = .ok (.lload_n 0, 1) := by decide +kernel
theorem dX8_in_7 : decode cX8_in 7 = .ok (.lload 4, 2) := by decide +kernel
theorem dX8_in_9 : decode cX8_in 9 = .ok (.lcmp, 1) := by decide +kernel
theorem dX8_in_10 : decode cX8_in 10 = .ok (.ifCond .gt 7, 3) := by decide +kernel
theorem dX8_in_13 : decode cX8_in 13 = .ok (.iconst 1, 1) := by decide +kernel
theorem dX8_in_14 : decode cX8_in 14 = .ok (.goto 4, 3) := by decide +kernel
theorem dX8_in_17 : decode cX8_in 17 = .ok (.iconst 0, 1) := by decide +kernel
theorem dX8_in_18 : decode cX8_in 18 = .ok (.ireturn, 1) := by decide +kernel
theorem dX8_has_0 : decode cX8_has 0 = .ok (.iload_n 0, 1) := by decide +kernel
theorem dX8_has_1 : decode cX8_has 1 = .ok (.iload_n 1, 1) := by decide +kernel
theorem dX8_has_2 : decode cX8_has 2 = .ok (.ishr, 1) := by decide +kernel
theorem dX8_has_3 : decode cX8_has 3 = .ok (.iconst 1, 1) := by decide +kernel
theorem dX8_has_4 : decode cX8_has 4 = .ok (.iand, 1) := by decide +kernel
theorem dX8_has_5 : decode cX8_has 5 = .ok (.iconst 1, 1) := by decide +kernel
theorem dX8_has_6 : decode cX8_has 6 = .ok (.if_icmp .ne 7, 3) := by decide +kernel
theorem dX8_has_9 : decode cX8_has 9 = .ok (.iconst 1, 1) := by decide +kernel
theorem dX8_has_10 : decode cX8_has 10 = .ok (.goto 4, 3) := by decide +kernel
theorem dX8_has_13 : decode cX8_has 13 = .ok (.iconst 0, 1) := by decide +kernel
theorem dX8_has_14 : decode cX8_has 14 = .ok (.ireturn, 1) := by decide +kernel
theorem dX8_many_0 : decode cX8_many 0 = .ok (.iconst 0, 1) := by decide +kernel
theorem dX8_many_1 : decode cX8_many 1 = .ok (.istore_n 1, 1) := by decide +kernel
theorem dX8_many_2 : decode cX8_many 2 = .ok (.iconst 0, 1) := by decide +kernel
theorem dX8_many_3 : decode cX8_many 3 = .ok (.istore_n 2, 1) := by decide +kernel
theorem dX8_many_4 : decode cX8_many 4 = .ok (.iload_n 2, 1) := by decide +kernel
theorem dX8_many_5 : decode cX8_many 5 = .ok (.bipush 12, 2) := by decide +kernel
theorem dX8_many_7 : decode cX8_many 7 = .ok (.if_icmp .ge 17, 3) := by decide +kernel
theorem dX8_many_10 : decode cX8_many 10 = .ok (.iload_n 1, 1) := by decide +kernel
theorem dX8_many_11 : decode cX8_many 11 = .ok (.iload_n 0, 1) := by decide +kernel
theorem dX8_many_12 : decode cX8_many 12 = .ok (.iload_n 2, 1) := by decide +kernel
theorem dX8_many_13 : decode cX8_many 13 = .ok (.ishr, 1) := by decide +kernel
theorem dX8_many_14 : decode cX8_many 14 = .ok (.iconst 1, 1) := by decide +kernel
theorem dX8_many_15 : decode cX8_many 15 = .ok (.iand, 1) := by decide +kernel
theorem dX8_many_16 : decode cX8_many 16 = .ok (.iadd, 1) := by decide +kernel
theorem dX8_many_17 : decode cX8_many 17 = .ok (.istore_n 1, 1) := by decide +kernel
theorem dX8_many_18 : decode cX8_many 18 = .ok (.iinc 2 1, 3) := by decide +kernel
theorem dX8_many_21 : decode cX8_many 21 = .ok (.goto (-17), 3) := by decide +kernel
theorem dX8_many_24 : decode cX8_many 24 = .ok (.iload_n 1, 1) := by decide +kernel
theorem dX8_many_25 : decode cX8_many 25 = .ok (.ireturn, 1) := by decide +kernel
theorem dX8_noLetter_0 : decode cX8_noLetter 0 = .ok (.iload_n 1, 1) := by decide +kernel
theorem dX8_noLetter_1 : decode cX8_noLetter 1 = .ok (.i2l, 1) := by decide +kernel
theorem dX8_noLetter_2 : decode cX8_noLetter 2 = .ok (.lconst 0, 1) := by decide +kernel
theorem dX8_noLetter_3 : decode cX8_noLetter 3 = .ok (.aload_n 0, 1) := by decide +kernel
theorem dX8_noLetter_4 : decode cX8_noLetter 4 = .ok (.getfield 64, 3) := by decide +kernel
theorem dX8_noLetter_7 : decode cX8_noLetter 7 = .ok (.iconst 1, 1) := by decide +kernel
theorem dX8_noLetter_8 : decode cX8_noLetter 8 = .ok (.isub, 1) := by decide +kernel
theorem dX8_noLetter_9 : decode cX8_noLetter 9 = .ok (.i2l, 1) := by decide +kernel
theorem dX8_noLetter_10 : decode cX8_noLetter 10 = .ok (.invokestatic 67, 3) := by decide +kernel
theorem dX8_noLetter_13 : decode cX8_noLetter 13 = .ok (.ifCond .ne 7, 3) := by decide +kernel
theorem dX8_noLetter_16 : decode cX8_noLetter 16 = .ok (.iconst 1, 1) := by decide +kernel
theorem dX8_noLetter_17 : decode cX8_noLetter 17 = .ok (.goto 4, 3) := by decide +kernel
theorem dX8_noLetter_20 : decode cX8_noLetter 20 = .ok (.iconst 0, 1) := by decide +kernel
theorem dX8_noLetter_21 : decode cX8_noLetter 21 = .ok (.ireturn, 1) := by decide +kernel
theorem dX8_noCell_0 : decode cX8_noCell 0 = .ok (.iload_n 0, 1) := by decide +kernel
theorem dX8_noCell_1 : decode cX8_noCell 1 = .ok (.i2l, 1) := by decide +kernel
theorem dX8_noCell_2 : decode cX8_noCell 2 = .ok (.lconst 0, 1) := by decide +kernel
theorem dX8_noCell_3 : decode cX8_noCell 3 = .ok (.ldc2_w 71, 3) := by decide +kernel
theorem dX8_noCell_6 : decode cX8_noCell 6 = .ok (.invokestatic 67, 3) := by decide +kernel
theorem dX8_noCell_9 : decode cX8_noCell 9 = .ok (.ifCond .ne 7, 3) := by decide +kernel
theorem dX8_noCell_12 : decode cX8_noCell 12 = .ok (.iconst 1, 1) := by decide +kernel
theorem dX8_noCell_13 : decode cX8_noCell 13 = .ok (.goto 4, 3) := by decide +kernel
theorem dX8_noCell_16 : decode cX8_noCell 16 = .ok (.iconst 0, 1) := by decide +kernel
theorem dX8_noCell_17 : decode cX8_noCell 17 = .ok (.ireturn, 1) := by decide +kernel
theorem dX8_everyone_0 : decode cX8_everyone 0 = .ok (.iconst 1, 1) := by decide +kernel
theorem dX8_everyone_1 : decode cX8_everyone 1 = .ok (.aload_n 0, 1) := by decide +kernel
theorem dX8_everyone_2 : decode cX8_everyone 2 = .ok (.getfield 64, 3) := by decide +kernel
theorem dX8_everyone_5 : decode cX8_everyone 5 = .ok (.ishl, 1) := by decide +kernel
theorem dX8_everyone_6 : decode cX8_everyone 6 = .ok (.iconst 1, 1) := by decide +kernel
theorem dX8_everyone_7 : decode cX8_everyone 7 = .ok (.isub, 1) := by decide +kernel
theorem dX8_everyone_8 : decode cX8_everyone 8 = .ok (.ireturn, 1) := by decide +kernel
theorem dX8_write_0 : decode cX8_write 0 = .ok (.aload_n 0, 1) := by decide +kernel
theorem dX8_write_1 : decode cX8_write 1 = .ok (.iconst 0, 1) := by decide +kernel
theorem dX8_write_2 : decode cX8_write 2 = .ok (.putfield 60, 3) := by decide +kernel
theorem dX8_write_5 : decode cX8_write 5 = .ok (.iload_n 1, 1) := by decide +kernel
theorem dX8_write_6 : decode cX8_write 6 = .ok (.i2l, 1) := by decide +kernel
theorem dX8_write_7 : decode cX8_write 7 = .ok (.lconst 0, 1) := by decide +kernel
theorem dX8_write_8 : decode cX8_write 8 = .ok (.ldc2_w 73, 3) := by decide +kernel
theorem dX8_write_11 : decode cX8_write 11 = .ok (.invokestatic 67, 3) := by decide +kernel
theorem dX8_write_14 : decode cX8_write 14 = .ok (.ifCond .ne 6, 3) := by decide +kernel
theorem dX8_write_17 : decode cX8_write 17 = .ok (.bipush (-2), 2) := by decide +kernel
theorem dX8_write_19 : decode cX8_write 19 = .ok (.ireturn, 1) := by decide +kernel
theorem dX8_write_20 : decode cX8_write 20 = .ok (.aload_n 0, 1) := by decide +kernel
theorem dX8_write_21 : decode cX8_write 21 = .ok (.getfield 75, 3) := by decide +kernel
theorem dX8_write_24 : decode cX8_write 24 = .ok (.bipush 40, 2) := by decide +kernel
theorem dX8_write_26 : decode cX8_write 26 = .ok (.if_icmp .ne 6, 3) := by decide +kernel
theorem dX8_write_29 : decode cX8_write 29 = .ok (.bipush (-4), 2) := by decide +kernel
theorem dX8_write_31 : decode cX8_write 31 = .ok (.ireturn, 1) := by decide +kernel
theorem dX8_write_32 : decode cX8_write 32 = .ok (.aload_n 0, 1) := by decide +kernel
theorem dX8_write_33 : decode cX8_write 33 = .ok (.getfield 7, 3) := by decide +kernel
theorem dX8_write_36 : decode cX8_write 36 = .ok (.aload_n 0, 1) := by decide +kernel
theorem dX8_write_37 : decode cX8_write 37 = .ok (.getfield 75, 3) := by decide +kernel
theorem dX8_write_40 : decode cX8_write 40 = .ok (.iload_n 1, 1) := by decide +kernel
theorem dX8_write_41 : decode cX8_write 41 = .ok (.iastore, 1) := by decide +kernel
theorem dX8_write_42 : decode cX8_write 42 = .ok (.aload_n 0, 1) := by decide +kernel
theorem dX8_write_43 : decode cX8_write 43 = .ok (.dup, 1) := by decide +kernel
theorem dX8_write_44 : decode cX8_write 44 = .ok (.getfield 75, 3) := by decide +kernel
theorem dX8_write_47 : decode cX8_write 47 = .ok (.iconst 1, 1) := by decide +kernel
theorem dX8_write_48 : decode cX8_write 48 = .ok (.iadd, 1) := by decide +kernel
theorem dX8_write_49 : decode cX8_write 49 = .ok (.putfield 75, 3) := by decide +kernel
theorem dX8_write_52 : decode cX8_write 52 = .ok (.aload_n 0, 1) := by decide +kernel
theorem dX8_write_53 : decode cX8_write 53 = .ok (.getfield 75, 3) := by decide +kernel
theorem dX8_write_56 : decode cX8_write 56 = .ok (.ireturn, 1) := by decide +kernel
theorem dX8_wipe_0 : decode cX8_wipe 0 = .ok (.aload_n 0, 1) := by decide +kernel
theorem dX8_wipe_1 : decode cX8_wipe 1 = .ok (.iconst 0, 1) := by decide +kernel
theorem dX8_wipe_2 : decode cX8_wipe 2 = .ok (.putfield 60, 3) := by decide +kernel
theorem dX8_wipe_5 : decode cX8_wipe 5 = .ok (.aload_n 0, 1) := by decide +kernel
theorem dX8_wipe_6 : decode cX8_wipe 6 = .ok (.getfield 75, 3) := by decide +kernel
theorem dX8_wipe_9 : decode cX8_wipe 9 = .ok (.istore_n 1, 1) := by decide +kernel
theorem dX8_wipe_10 : decode cX8_wipe 10 = .ok (.aload_n 0, 1) := by decide +kernel
theorem dX8_wipe_11 : decode cX8_wipe 11 = .ok (.iconst 0, 1) := by decide +kernel
theorem dX8_wipe_12 : decode cX8_wipe 12 = .ok (.putfield 75, 3) := by decide +kernel
theorem dX8_wipe_15 : decode cX8_wipe 15 = .ok (.iload_n 1, 1) := by decide +kernel
theorem dX8_wipe_16 : decode cX8_wipe 16 = .ok (.ireturn, 1) := by decide +kernel
theorem dX8_figure_0 : decode cX8_figure 0 = .ok (.aload_n 0, 1) := by decide +kernel
theorem dX8_figure_1 : decode cX8_figure 1 = .ok (.getfield 78, 3) := by decide +kernel
theorem dX8_figure_4 : decode cX8_figure 4 = .ok (.aload_n 0, 1) := by decide +kernel
theorem dX8_figure_5 : decode cX8_figure 5 = .ok (.getfield 75, 3) := by decide +kernel
theorem dX8_figure_8 : decode cX8_figure 8 = .ok (.if_icmp .eq 26, 3) := by decide +kernel
theorem dX8_figure_11 : decode cX8_figure 11 = .ok (.aload_n 0, 1) := by decide +kernel
theorem dX8_figure_12 : decode cX8_figure 12 = .ok (.getfield 7, 3) := by decide +kernel
theorem dX8_figure_15 : decode cX8_figure 15 = .ok (.aload_n 0, 1) := by decide +kernel
theorem dX8_figure_16 : decode cX8_figure 16 = .ok (.getfield 78, 3) := by decide +kernel
theorem dX8_figure_19 : decode cX8_figure 19 = .ok (.iaload, 1) := by decide +kernel
theorem dX8_figure_20 : decode cX8_figure 20 = .ok (.bipush 48, 2) := by decide +kernel
theorem dX8_figure_22 : decode cX8_figure 22 = .ok (.isub, 1) := by decide +kernel
theorem dX8_figure_23 : decode cX8_figure 23 = .ok (.i2l, 1) := by decide +kernel
theorem dX8_figure_24 : decode cX8_figure 24 = .ok (.iload_n 1, 1) := by decide +kernel
theorem dX8_figure_25 : decode cX8_figure 25 = .ok (.i2l, 1) := by decide +kernel
theorem dX8_figure_26 : decode cX8_figure 26 = .ok (.iload_n 2, 1) := by decide +kernel
theorem dX8_figure_27 : decode cX8_figure 27 = .ok (.i2l, 1) := by decide +kernel
theorem dX8_figure_28 : decode cX8_figure 28 = .ok (.invokestatic 67, 3) := by decide +kernel
theorem dX8_figure_31 : decode cX8_figure 31 = .ok (.ifCond .ne 6, 3) := by decide +kernel
theorem dX8_figure_34 : decode cX8_figure 34 = .ok (.bipush (-9), 2) := by decide +kernel
theorem dX8_figure_36 : decode cX8_figure 36 = .ok (.ireturn, 1) := by decide +kernel
theorem dX8_figure_37 : decode cX8_figure 37 = .ok (.aload_n 0, 1) := by decide +kernel
theorem dX8_figure_38 : decode cX8_figure 38 = .ok (.dup, 1) := by decide +kernel
theorem dX8_figure_39 : decode cX8_figure 39 = .ok (.getfield 78, 3) := by decide +kernel
theorem dX8_figure_42 : decode cX8_figure 42 = .ok (.iconst 1, 1) := by decide +kernel
theorem dX8_figure_43 : decode cX8_figure 43 = .ok (.iadd, 1) := by decide +kernel
theorem dX8_figure_44 : decode cX8_figure 44 = .ok (.putfield 78, 3) := by decide +kernel
theorem dX8_figure_47 : decode cX8_figure 47 = .ok (.aload_n 0, 1) := by decide +kernel
theorem dX8_figure_48 : decode cX8_figure 48 = .ok (.getfield 7, 3) := by decide +kernel
theorem dX8_figure_51 : decode cX8_figure 51 = .ok (.aload_n 0, 1) := by decide +kernel
theorem dX8_figure_52 : decode cX8_figure 52 = .ok (.getfield 78, 3) := by decide +kernel
theorem dX8_figure_55 : decode cX8_figure 55 = .ok (.iconst 1, 1) := by decide +kernel
theorem dX8_figure_56 : decode cX8_figure 56 = .ok (.isub, 1) := by decide +kernel
theorem dX8_figure_57 : decode cX8_figure 57 = .ok (.iaload, 1) := by decide +kernel
theorem dX8_figure_58 : decode cX8_figure 58 = .ok (.bipush 48, 2) := by decide +kernel
theorem dX8_figure_60 : decode cX8_figure 60 = .ok (.isub, 1) := by decide +kernel
theorem dX8_figure_61 : decode cX8_figure 61 = .ok (.ireturn, 1) := by decide +kernel
theorem dX8_readOffice_0 : decode cX8_readOffice 0 = .ok (.aload_n 0, 1) := by decide +kernel
theorem dX8_readOffice_1 : decode cX8_readOffice 1 = .ok (.iconst 0, 1) := by decide +kernel
theorem dX8_readOffice_2 : decode cX8_readOffice 2 = .ok (.putfield 78, 3) := by decide +kernel
theorem dX8_readOffice_5 : decode cX8_readOffice 5 = .ok (.aload_n 0, 1) := by decide +kernel
theorem dX8_readOffice_6 : decode cX8_readOffice 6 = .ok (.iconst 0, 1) := by decide +kernel
theorem dX8_readOffice_7 : decode cX8_readOffice 7 = .ok (.putfield 81, 3) := by decide +kernel
theorem dX8_readOffice_10 : decode cX8_readOffice 10 = .ok (.aload_n 0, 1) := by decide +kernel
theorem dX8_readOffice_11 : decode cX8_readOffice 11 = .ok (.getfield 75, 3) := by decide +kernel
theorem dX8_readOffice_14 : decode cX8_readOffice 14 = .ok (.ifCond .eq 14, 3) := by decide +kernel
theorem dX8_readOffice_17 : decode cX8_readOffice 17 = .ok (.aload_n 0, 1) := by decide +kernel
theorem dX8_readOffice_18 : decode cX8_readOffice 18 = .ok (.getfield 7, 3) := by decide +kernel
theorem dX8_readOffice_21 : decode cX8_readOffice 21 = .ok (.iconst 0, 1) := by decide +kernel
theorem dX8_readOffice_22 : decode cX8_readOffice 22 = .ok (.iaload, 1) := by decide +kernel
theorem dX8_readOffice_23 : decode cX8_readOffice 23 = .ok (.bipush 66, 2) := by decide +kernel
theorem dX8_readOffice_25 : decode cX8_readOffice 25 = .ok (.if_icmp .eq 5, 3) := by decide +kernel
theorem dX8_readOffice_28 : decode cX8_readOffice 28 = .ok (.iconst 0, 1) := by decide +kernel
theorem dX8_readOffice_29 : decode cX8_readOffice 29 = .ok (.ireturn, 1) := by decide +kernel
theorem dX8_readOffice_30 : decode cX8_readOffice 30 = .ok (.aload_n 0, 1) := by decide +kernel
theorem dX8_readOffice_31 : decode cX8_readOffice 31 = .ok (.iconst 1, 1) := by decide +kernel
theorem dX8_readOffice_32 : decode cX8_readOffice 32 = .ok (.putfield 78, 3) := by decide +kernel
theorem dX8_readOffice_35 : decode cX8_readOffice 35 = .ok (.aload_n 0, 1) := by decide +kernel
theorem dX8_readOffice_36 : decode cX8_readOffice 36 = .ok (.getfield 78, 3) := by decide +kernel
theorem dX8_readOffice_39 : decode cX8_readOffice 39 = .ok (.aload_n 0, 1) := by decide +kernel
theorem dX8_readOffice_40 : decode cX8_readOffice 40 = .ok (.getfield 75, 3) := by decide +kernel
theorem dX8_readOffice_43 : decode cX8_readOffice 43 = .ok (.if_icmp .ge 132, 3) := by decide +kernel
theorem dX8_readOffice_46 : decode cX8_readOffice 46 = .ok (.aload_n 0, 1) := by decide +kernel
theorem dX8_readOffice_47 : decode cX8_readOffice 47 = .ok (.getfield 7, 3) := by decide +kernel
theorem dX8_readOffice_50 : decode cX8_readOffice 50 = .ok (.aload_n 0, 1) := by decide +kernel
theorem dX8_readOffice_51 : decode cX8_readOffice 51 = .ok (.getfield 78, 3) := by decide +kernel
theorem dX8_readOffice_54 : decode cX8_readOffice 54 = .ok (.iaload, 1) := by decide +kernel
theorem dX8_readOffice_55 : decode cX8_readOffice 55 = .ok (.bipush 76, 2) := by decide +kernel
theorem dX8_readOffice_57 : decode cX8_readOffice 57 = .ok (.if_icmp .ne 12, 3) := by decide +kernel
theorem dX8_readOffice_60 : decode cX8_readOffice 60 = .ok (.aload_n 0, 1) := by decide +kernel
theorem dX8_readOffice_61 : decode cX8_readOffice 61 = .ok (.getfield 81, 3) := by decide +kernel
theorem dX8_readOffice_64 : decode cX8_readOffice 64 = .ok (.bipush 6, 2) := by decide +kernel
theorem dX8_readOffice_66 : decode cX8_readOffice 66 = .ok (.if_icmp .ne 8, 3) := by decide +kernel
theorem dX8_readOffice_69 : decode cX8_readOffice 69 = .ok (.aload_n 0, 1) := by decide +kernel
theorem dX8_readOffice_70 : decode cX8_readOffice 70 = .ok (.getfield 78, 3) := by decide +kernel
theorem dX8_readOffice_73 : decode cX8_readOffice 73 = .ok (.ireturn, 1) := by decide +kernel
theorem dX8_readOffice_74 : decode cX8_readOffice 74 = .ok (.aload_n 0, 1) := by decide +kernel
theorem dX8_readOffice_75 : decode cX8_readOffice 75 = .ok (.dup, 1) := by decide +kernel
theorem dX8_readOffice_76 : decode cX8_readOffice 76 = .ok (.getfield 78, 3) := by decide +kernel
theorem dX8_readOffice_79 : decode cX8_readOffice 79 = .ok (.iconst 1, 1) := by decide +kernel
theorem dX8_readOffice_80 : decode cX8_readOffice 80 = .ok (.iadd, 1) := by decide +kernel
theorem dX8_readOffice_81 : decode cX8_readOffice 81 = .ok (.putfield 78, 3) := by decide +kernel
theorem dX8_readOffice_84 : decode cX8_readOffice 84 = .ok (.iconst 0, 1) := by decide +kernel
theorem dX8_readOffice_85 : decode cX8_readOffice 85 = .ok (.istore_n 1, 1) := by decide +kernel
theorem dX8_readOffice_86 : decode cX8_readOffice 86 = .ok (.iload_n 1, 1) := by decide +kernel
theorem dX8_readOffice_87 : decode cX8_readOffice 87 = .ok (.iconst 4, 1) := by decide +kernel
theorem dX8_readOffice_88 : decode cX8_readOffice 88 = .ok (.if_icmp .ge 74, 3) := by decide +kernel
theorem dX8_readOffice_91 : decode cX8_readOffice 91 = .ok (.aload_n 0, 1) := by decide +kernel
theorem dX8_readOffice_92 : decode cX8_readOffice 92 = .ok (.iload_n 1, 1) := by decide +kernel
theorem dX8_readOffice_93 : decode cX8_readOffice 93 = .ok (.iconst 1, 1) := by decide +kernel
theorem dX8_readOffice_94 : decode cX8_readOffice 94 = .ok (.if_icmp .eq 8, 3) := by decide +kernel
theorem dX8_readOffice_97 : decode cX8_readOffice 97 = .ok (.iload_n 1, 1) := by decide +kernel
theorem dX8_readOffice_98 : decode cX8_readOffice 98 = .ok (.iconst 2, 1) := by decide +kernel
theorem dX8_readOffice_99 : decode cX8_readOffice 99 = .ok (.if_icmp .ne 7, 3) := by decide +kernel
theorem dX8_readOffice_102 : decode cX8_readOffice 102 = .ok (.iconst 1, 1) := by decide +kernel
theorem dX8_readOffice_103 : decode cX8_readOffice 103 = .ok (.goto 4, 3) := by decide +kernel
theorem dX8_readOffice_106 : decode cX8_readOffice 106 = .ok (.iconst 0, 1) := by decide +kernel
theorem dX8_readOffice_107 : decode cX8_readOffice 107 = .ok (.iload_n 1, 1) := by decide +kernel
theorem dX8_readOffice_108 : decode cX8_readOffice 108 = .ok (.ifCond .ne 8, 3) := by decide +kernel
theorem dX8_readOffice_111 : decode cX8_readOffice 111 = .ok (.bipush 8, 2) := by decide +kernel
theorem dX8_readOffice_113 : decode cX8_readOffice 113 = .ok (.goto 14, 3) := by decide +kernel
theorem dX8_readOffice_116 : decode cX8_readOffice 116 = .ok (.iload_n 1, 1) := by decide +kernel
theorem dX8_readOffice_117 : decode cX8_readOffice 117 = .ok (.iconst 1, 1) := by decide +kernel
theorem dX8_readOffice_118 : decode cX8_readOffice 118 = .ok (.if_icmp .ne 8, 3) := by decide +kernel
theorem dX8_readOffice_121 : decode cX8_readOffice 121 = .ok (.bipush 9, 2) := by decide +kernel
theorem dX8_readOffice_123 : decode cX8_readOffice 123 = .ok (.goto 4, 3) := by decide +kernel
theorem dX8_readOffice_126 : decode cX8_readOffice 126 = .ok (.iconst 3, 1) := by decide +kernel
theorem dX8_readOffice_127 : decode cX8_readOffice 127 = .ok (.invokevirtual 84, 3) := by decide +kernel
theorem dX8_readOffice_130 : decode cX8_readOffice 130 = .ok (.istore_n 2, 1) := by decide +kernel
theorem dX8_readOffice_131 : decode cX8_readOffice 131 = .ok (.iload_n 2, 1) := by decide +kernel
theorem dX8_readOffice_132 : decode cX8_readOffice 132 = .ok (.bipush (-9), 2) := by decide +kernel
theorem dX8_readOffice_134 : decode cX8_readOffice 134 = .ok (.if_icmp .ne 8, 3) := by decide +kernel
theorem dX8_readOffice_137 : decode cX8_readOffice 137 = .ok (.aload_n 0, 1) := by decide +kernel
theorem dX8_readOffice_138 : decode cX8_readOffice 138 = .ok (.getfield 78, 3) := by decide +kernel
theorem dX8_readOffice_141 : decode cX8_readOffice 141 = .ok (.ireturn, 1) := by decide +kernel
theorem dX8_readOffice_142 : decode cX8_readOffice 142 = .ok (.aload_n 0, 1) := by decide +kernel
theorem dX8_readOffice_143 : decode cX8_readOffice 143 = .ok (.getfield 25, 3) := by decide +kernel
theorem dX8_readOffice_146 : decode cX8_readOffice 146 = .ok (.iconst 4, 1) := by decide +kernel
theorem dX8_readOffice_147 : decode cX8_readOffice 147 = .ok (.aload_n 0, 1) := by decide +kernel
theorem dX8_readOffice_148 : decode cX8_readOffice 148 = .ok (.getfield 81, 3) := by decide +kernel
theorem dX8_readOffice_151 : decode cX8_readOffice 151 = .ok (.imul, 1) := by decide +kernel
theorem dX8_readOffice_152 : decode cX8_readOffice 152 = .ok (.iload_n 1, 1) := by decide +kernel
theorem dX8_readOffice_153 : decode cX8_readOffice 153 = .ok (.iadd, 1) := by decide +kernel
theorem dX8_readOffice_154 : decode cX8_readOffice 154 = .ok (.iload_n 2, 1) := by decide +kernel
theorem dX8_readOffice_155 : decode cX8_readOffice 155 = .ok (.iastore, 1) := by decide +kernel
theorem dX8_readOffice_156 : decode cX8_readOffice 156 = .ok (.iinc 1 1, 3) := by decide +kernel
theorem dX8_readOffice_159 : decode cX8_readOffice 159 = .ok (.goto (-73), 3) := by decide +kernel
theorem dX8_readOffice_162 : decode cX8_readOffice 162 = .ok (.aload_n 0, 1) := by decide +kernel
theorem dX8_readOffice_163 : decode cX8_readOffice 163 = .ok (.dup, 1) := by decide +kernel
theorem dX8_readOffice_164 : decode cX8_readOffice 164 = .ok (.getfield 81, 3) := by decide +kernel
theorem dX8_readOffice_167 : decode cX8_readOffice 167 = .ok (.iconst 1, 1) := by decide +kernel
theorem dX8_readOffice_168 : decode cX8_readOffice 168 = .ok (.iadd, 1) := by decide +kernel
theorem dX8_readOffice_169 : decode cX8_readOffice 169 = .ok (.putfield 81, 3) := by decide +kernel
theorem dX8_readOffice_172 : decode cX8_readOffice 172 = .ok (.goto (-137), 3) := by decide +kernel
theorem dX8_readOffice_175 : decode cX8_readOffice 175 = .ok (.bipush (-9), 2) := by decide +kernel
theorem dX8_readOffice_177 : decode cX8_readOffice 177 = .ok (.ireturn, 1) := by decide +kernel
theorem dX8_fault_0 : decode cX8_fault 0 = .ok (.aload_n 0, 1) := by decide +kernel
theorem dX8_fault_1 : decode cX8_fault 1 = .ok (.iconst 0, 1) := by decide +kernel
theorem dX8_fault_2 : decode cX8_fault 2 = .ok (.putfield 60, 3) := by decide +kernel
theorem dX8_fault_5 : decode cX8_fault 5 = .ok (.aload_n 0, 1) := by decide +kernel
theorem dX8_fault_6 : decode cX8_fault 6 = .ok (.invokevirtual 88, 3) := by decide +kernel
theorem dX8_fault_9 : decode cX8_fault 9 = .ok (.ireturn, 1) := by decide +kernel
theorem dX8_clean_0 : decode cX8_clean 0 = .ok (.iconst 0, 1) := by decide +kernel
theorem dX8_clean_1 : decode cX8_clean 1 = .ok (.istore_n 1, 1) := by decide +kernel
theorem dX8_clean_2 : decode cX8_clean 2 = .ok (.iload_n 1, 1) := by decide +kernel
theorem dX8_clean_3 : decode cX8_clean 3 = .ok (.bipush 12, 2) := by decide +kernel
theorem dX8_clean_5 : decode cX8_clean 5 = .ok (.if_icmp .ge 23, 3) := by decide +kernel
theorem dX8_clean_8 : decode cX8_clean 8 = .ok (.aload_n 0, 1) := by decide +kernel
theorem dX8_clean_9 : decode cX8_clean 9 = .ok (.iconst 0, 1) := by decide +kernel
theorem dX8_clean_10 : decode cX8_clean 10 = .ok (.iload_n 1, 1) := by decide +kernel
theorem dX8_clean_11 : decode cX8_clean 11 = .ok (.iadd, 1) := by decide +kernel
theorem dX8_clean_12 : decode cX8_clean 12 = .ok (.iconst 0, 1) := by decide +kernel
theorem dX8_clean_13 : decode cX8_clean 13 = .ok (.iastore, 1) := by decide +kernel
theorem dX8_clean_14 : decode cX8_clean 14 = .ok (.aload_n 0, 1) := by decide +kernel
theorem dX8_clean_15 : decode cX8_clean 15 = .ok (.bipush 12, 2) := by decide +kernel
theorem dX8_clean_17 : decode cX8_clean 17 = .ok (.iload_n 1, 1) := by decide +kernel
theorem dX8_clean_18 : decode cX8_clean 18 = .ok (.iadd, 1) := by decide +kernel
theorem dX8_clean_19 : decode cX8_clean 19 = .ok (.bipush (-9), 2) := by decide +kernel
theorem dX8_clean_21 : decode cX8_clean 21 = .ok (.iastore, 1) := by decide +kernel
theorem dX8_clean_22 : decode cX8_clean 22 = .ok (.iinc 1 1, 3) := by decide +kernel
theorem dX8_clean_25 : decode cX8_clean 25 = .ok (.goto (-23), 3) := by decide +kernel
theorem dX8_clean_28 : decode cX8_clean 28 = .ok (.return_, 1) := by decide +kernel
theorem dX8_office_0 : decode cX8_office 0 = .ok (.aload_n 0, 1) := by decide +kernel
theorem dX8_office_1 : decode cX8_office 1 = .ok (.iconst 0, 1) := by decide +kernel
theorem dX8_office_2 : decode cX8_office 2 = .ok (.putfield 60, 3) := by decide +kernel
theorem dX8_office_5 : decode cX8_office 5 = .ok (.aload_n 0, 1) := by decide +kernel
theorem dX8_office_6 : decode cX8_office 6 = .ok (.invokevirtual 88, 3) := by decide +kernel
theorem dX8_office_9 : decode cX8_office 9 = .ok (.bipush (-9), 2) := by decide +kernel
theorem dX8_office_11 : decode cX8_office 11 = .ok (.if_icmp .eq 6, 3) := by decide +kernel
theorem dX8_office_14 : decode cX8_office 14 = .ok (.bipush (-3), 2) := by decide +kernel
theorem dX8_office_16 : decode cX8_office 16 = .ok (.ireturn, 1) := by decide +kernel
theorem dX8_office_17 : decode cX8_office 17 = .ok (.aload_n 0, 1) := by decide +kernel
theorem dX8_office_18 : decode cX8_office 18 = .ok (.aload_n 0, 1) := by decide +kernel
theorem dX8_office_19 : decode cX8_office 19 = .ok (.getfield 81, 3) := by decide +kernel
theorem dX8_office_22 : decode cX8_office 22 = .ok (.putfield 64, 3) := by decide +kernel
theorem dX8_office_25 : decode cX8_office 25 = .ok (.iconst 0, 1) := by decide +kernel
theorem dX8_office_26 : decode cX8_office 26 = .ok (.istore_n 1, 1) := by decide +kernel
theorem dX8_office_27 : decode cX8_office 27 = .ok (.iload_n 1, 1) := by decide +kernel
theorem dX8_office_28 : decode cX8_office 28 = .ok (.aload_n 0, 1) := by decide +kernel
theorem dX8_office_29 : decode cX8_office 29 = .ok (.getfield 64, 3) := by decide +kernel
theorem dX8_office_32 : decode cX8_office 32 = .ok (.if_icmp .ge 155, 3) := by decide +kernel
theorem dX8_office_35 : decode cX8_office 35 = .ok (.aload_n 0, 1) := by decide +kernel
theorem dX8_office_36 : decode cX8_office 36 = .ok (.getfield 13, 3) := by decide +kernel
theorem dX8_office_39 : decode cX8_office 39 = .ok (.iload_n 1, 1) := by decide +kernel
theorem dX8_office_40 : decode cX8_office 40 = .ok (.aload_n 0, 1) := by decide +kernel
theorem dX8_office_41 : decode cX8_office 41 = .ok (.getfield 25, 3) := by decide +kernel
theorem dX8_office_44 : decode cX8_office 44 = .ok (.iconst 4, 1) := by decide +kernel
theorem dX8_office_45 : decode cX8_office 45 = .ok (.iload_n 1, 1) := by decide +kernel
theorem dX8_office_46 : decode cX8_office 46 = .ok (.imul, 1) := by decide +kernel
theorem dX8_office_47 : decode cX8_office 47 = .ok (.iaload, 1) := by decide +kernel
theorem dX8_office_48 : decode cX8_office 48 = .ok (.iastore, 1) := by decide +kernel
theorem dX8_office_49 : decode cX8_office 49 = .ok (.aload_n 0, 1) := by decide +kernel
theorem dX8_office_50 : decode cX8_office 50 = .ok (.getfield 16, 3) := by decide +kernel
theorem dX8_office_53 : decode cX8_office 53 = .ok (.iload_n 1, 1) := by decide +kernel
theorem dX8_office_54 : decode cX8_office 54 = .ok (.aload_n 0, 1) := by decide +kernel
theorem dX8_office_55 : decode cX8_office 55 = .ok (.getfield 25, 3) := by decide +kernel
theorem dX8_office_58 : decode cX8_office 58 = .ok (.iconst 4, 1) := by decide +kernel
theorem dX8_office_59 : decode cX8_office 59 = .ok (.iload_n 1, 1) := by decide +kernel
theorem dX8_office_60 : decode cX8_office 60 = .ok (.imul, 1) := by decide +kernel
theorem dX8_office_61 : decode cX8_office 61 = .ok (.iconst 3, 1) := by decide +kernel
theorem dX8_office_62 : decode cX8_office 62 = .ok (.iadd, 1) := by decide +kernel
theorem dX8_office_63 : decode cX8_office 63 = .ok (.iaload, 1) := by decide +kernel
theorem dX8_office_64 : decode cX8_office 64 = .ok (.iastore, 1) := by decide +kernel
theorem dX8_office_65 : decode cX8_office 65 = .ok (.aload_n 0, 1) := by decide +kernel
theorem dX8_office_66 : decode cX8_office 66 = .ok (.getfield 25, 3) := by decide +kernel
theorem dX8_office_69 : decode cX8_office 69 = .ok (.iconst 4, 1) := by decide +kernel
theorem dX8_office_70 : decode cX8_office 70 = .ok (.iload_n 1, 1) := by decide +kernel
theorem dX8_office_71 : decode cX8_office 71 = .ok (.imul, 1) := by decide +kernel
theorem dX8_office_72 : decode cX8_office 72 = .ok (.iconst 1, 1) := by decide +kernel
theorem dX8_office_73 : decode cX8_office 73 = .ok (.iadd, 1) := by decide +kernel
theorem dX8_office_74 : decode cX8_office 74 = .ok (.iaload, 1) := by decide +kernel
theorem dX8_office_75 : decode cX8_office 75 = .ok (.istore_n 2, 1) := by decide +kernel
theorem dX8_office_76 : decode cX8_office 76 = .ok (.aload_n 0, 1) := by decide +kernel
theorem dX8_office_77 : decode cX8_office 77 = .ok (.getfield 25, 3) := by decide +kernel
theorem dX8_office_80 : decode cX8_office 80 = .ok (.iconst 4, 1) := by decide +kernel
theorem dX8_office_81 : decode cX8_office 81 = .ok (.iload_n 1, 1) := by decide +kernel
theorem dX8_office_82 : decode cX8_office 82 = .ok (.imul, 1) := by decide +kernel
theorem dX8_office_83 : decode cX8_office 83 = .ok (.iconst 2, 1) := by decide +kernel
theorem dX8_office_84 : decode cX8_office 84 = .ok (.iadd, 1) := by decide +kernel
theorem dX8_office_85 : decode cX8_office 85 = .ok (.iaload, 1) := by decide +kernel
theorem dX8_office_86 : decode cX8_office 86 = .ok (.istore_n 3, 1) := by decide +kernel
theorem dX8_office_87 : decode cX8_office 87 = .ok (.aload_n 0, 1) := by decide +kernel
theorem dX8_office_88 : decode cX8_office 88 = .ok (.getfield 19, 3) := by decide +kernel
theorem dX8_office_91 : decode cX8_office 91 = .ok (.iload_n 1, 1) := by decide +kernel
theorem dX8_office_92 : decode cX8_office 92 = .ok (.aload_n 0, 1) := by decide +kernel
theorem dX8_office_93 : decode cX8_office 93 = .ok (.getfield 16, 3) := by decide +kernel
theorem dX8_office_96 : decode cX8_office 96 = .ok (.iload_n 1, 1) := by decide +kernel
theorem dX8_office_97 : decode cX8_office 97 = .ok (.iaload, 1) := by decide +kernel
theorem dX8_office_98 : decode cX8_office 98 = .ok (.iconst 1, 1) := by decide +kernel
theorem dX8_office_99 : decode cX8_office 99 = .ok (.if_icmp .ne 9, 3) := by decide +kernel
theorem dX8_office_102 : decode cX8_office 102 = .ok (.iload_n 3, 1) := by decide +kernel
theorem dX8_office_103 : decode cX8_office 103 = .ok (.iconst 1, 1) := by decide +kernel
theorem dX8_office_104 : decode cX8_office 104 = .ok (.isub, 1) := by decide +kernel
theorem dX8_office_105 : decode cX8_office 105 = .ok (.goto 20, 3) := by decide +kernel
theorem dX8_office_108 : decode cX8_office 108 = .ok (.aload_n 0, 1) := by decide +kernel
theorem dX8_office_109 : decode cX8_office 109 = .ok (.getfield 16, 3) := by decide +kernel
theorem dX8_office_112 : decode cX8_office 112 = .ok (.iload_n 1, 1) := by decide +kernel
theorem dX8_office_113 : decode cX8_office 113 = .ok (.iaload, 1) := by decide +kernel
theorem dX8_office_114 : decode cX8_office 114 = .ok (.iconst 2, 1) := by decide +kernel
theorem dX8_office_115 : decode cX8_office 115 = .ok (.if_icmp .ne 9, 3) := by decide +kernel
theorem dX8_office_118 : decode cX8_office 118 = .ok (.iload_n 3, 1) := by decide +kernel
theorem dX8_office_119 : decode cX8_office 119 = .ok (.iconst 1, 1) := by decide +kernel
theorem dX8_office_120 : decode cX8_office 120 = .ok (.iadd, 1) := by decide +kernel
theorem dX8_office_121 : decode cX8_office 121 = .ok (.goto 4, 3) := by decide +kernel
theorem dX8_office_124 : decode cX8_office 124 = .ok (.iload_n 3, 1) := by decide +kernel
theorem dX8_office_125 : decode cX8_office 125 = .ok (.iastore, 1) := by decide +kernel
theorem dX8_office_126 : decode cX8_office 126 = .ok (.iload_n 2, 1) := by decide +kernel
theorem dX8_office_127 : decode cX8_office 127 = .ok (.iconst 1, 1) := by decide +kernel
theorem dX8_office_128 : decode cX8_office 128 = .ok (.iand, 1) := by decide +kernel
theorem dX8_office_129 : decode cX8_office 129 = .ok (.iconst 3, 1) := by decide +kernel
theorem dX8_office_130 : decode cX8_office 130 = .ok (.ishl, 1) := by decide +kernel
theorem dX8_office_131 : decode cX8_office 131 = .ok (.iload_n 2, 1) := by decide +kernel
theorem dX8_office_132 : decode cX8_office 132 = .ok (.iconst 2, 1) := by decide +kernel
theorem dX8_office_133 : decode cX8_office 133 = .ok (.iand, 1) := by decide +kernel
theorem dX8_office_134 : decode cX8_office 134 = .ok (.iconst 1, 1) := by decide +kernel
theorem dX8_office_135 : decode cX8_office 135 = .ok (.ishl, 1) := by decide +kernel
theorem dX8_office_136 : decode cX8_office 136 = .ok (.ior, 1) := by decide +kernel
theorem dX8_office_137 : decode cX8_office 137 = .ok (.iload_n 2, 1) := by decide +kernel
theorem dX8_office_138 : decode cX8_office 138 = .ok (.iconst 4, 1) := by decide +kernel
theorem dX8_office_139 : decode cX8_office 139 = .ok (.iand, 1) := by decide +kernel
theorem dX8_office_140 : decode cX8_office 140 = .ok (.iconst 1, 1) := by decide +kernel
theorem dX8_office_141 : decode cX8_office 141 = .ok (.ishr, 1) := by decide +kernel
theorem dX8_office_142 : decode cX8_office 142 = .ok (.ior, 1) := by decide +kernel
theorem dX8_office_143 : decode cX8_office 143 = .ok (.iload_n 2, 1) := by decide +kernel
theorem dX8_office_144 : decode cX8_office 144 = .ok (.bipush 8, 2) := by decide +kernel
theorem dX8_office_146 : decode cX8_office 146 = .ok (.iand, 1) := by decide +kernel
theorem dX8_office_147 : decode cX8_office 147 = .ok (.iconst 3, 1) := by decide +kernel
theorem dX8_office_148 : decode cX8_office 148 = .ok (.ishr, 1) := by decide +kernel
theorem dX8_office_149 : decode cX8_office 149 = .ok (.ior, 1) := by decide +kernel
theorem dX8_office_150 : decode cX8_office 150 = .ok (.istore 4, 2) := by decide +kernel
theorem dX8_office_152 : decode cX8_office 152 = .ok (.aload_n 0, 1) := by decide +kernel
theorem dX8_office_153 : decode cX8_office 153 = .ok (.getfield 22, 3) := by decide +kernel
theorem dX8_office_156 : decode cX8_office 156 = .ok (.iload_n 1, 1) := by decide +kernel
theorem dX8_office_157 : decode cX8_office 157 = .ok (.aload_n 0, 1) := by decide +kernel
theorem dX8_office_158 : decode cX8_office 158 = .ok (.getfield 16, 3) := by decide +kernel
theorem dX8_office_161 : decode cX8_office 161 = .ok (.iload_n 1, 1) := by decide +kernel
theorem dX8_office_162 : decode cX8_office 162 = .ok (.iaload, 1) := by decide +kernel
theorem dX8_office_163 : decode cX8_office 163 = .ok (.iconst 3, 1) := by decide +kernel
theorem dX8_office_164 : decode cX8_office 164 = .ok (.if_icmp .ne 8, 3) := by decide +kernel
theorem dX8_office_167 : decode cX8_office 167 = .ok (.iload 4, 2) := by decide +kernel
theorem dX8_office_169 : decode cX8_office 169 = .ok (.goto 4, 3) := by decide +kernel
theorem dX8_office_172 : decode cX8_office 172 = .ok (.iload_n 2, 1) := by decide +kernel
theorem dX8_office_173 : decode cX8_office 173 = .ok (.aload_n 0, 1) := by decide +kernel
theorem dX8_office_174 : decode cX8_office 174 = .ok (.getfield 13, 3) := by decide +kernel
theorem dX8_office_177 : decode cX8_office 177 = .ok (.iload_n 1, 1) := by decide +kernel
theorem dX8_office_178 : decode cX8_office 178 = .ok (.iaload, 1) := by decide +kernel
theorem dX8_office_179 : decode cX8_office 179 = .ok (.ishl, 1) := by decide +kernel
theorem dX8_office_180 : decode cX8_office 180 = .ok (.iastore, 1) := by decide +kernel
theorem dX8_office_181 : decode cX8_office 181 = .ok (.iinc 1 1, 3) := by decide +kernel
theorem dX8_office_184 : decode cX8_office 184 = .ok (.goto (-157), 3) := by decide +kernel
theorem dX8_office_187 : decode cX8_office 187 = .ok (.aload_n 0, 1) := by decide +kernel
theorem dX8_office_188 : decode cX8_office 188 = .ok (.getfield 28, 3) := by decide +kernel
theorem dX8_office_191 : decode cX8_office 191 = .ok (.invokestatic 56, 3) := by decide +kernel
theorem dX8_office_194 : decode cX8_office 194 = .ok (.aload_n 0, 1) := by decide +kernel
theorem dX8_office_195 : decode cX8_office 195 = .ok (.getfield 28, 3) := by decide +kernel
theorem dX8_office_198 : decode cX8_office 198 = .ok (.bipush 24, 2) := by decide +kernel
theorem dX8_office_200 : decode cX8_office 200 = .ok (.iconst 0, 1) := by decide +kernel
theorem dX8_office_201 : decode cX8_office 201 = .ok (.iastore, 1) := by decide +kernel
theorem dX8_office_202 : decode cX8_office 202 = .ok (.aload_n 0, 1) := by decide +kernel
theorem dX8_office_203 : decode cX8_office 203 = .ok (.iconst 0, 1) := by decide +kernel
theorem dX8_office_204 : decode cX8_office 204 = .ok (.putfield 92, 3) := by decide +kernel
theorem dX8_office_207 : decode cX8_office 207 = .ok (.aload_n 0, 1) := by decide +kernel
theorem dX8_office_208 : decode cX8_office 208 = .ok (.getfield 40, 3) := by decide +kernel
theorem dX8_office_211 : decode cX8_office 211 = .ok (.iconst 0, 1) := by decide +kernel
theorem dX8_office_212 : decode cX8_office 212 = .ok (.iconst 0, 1) := by decide +kernel
theorem dX8_office_213 : decode cX8_office 213 = .ok (.bastore, 1) := by decide +kernel
theorem dX8_office_214 : decode cX8_office 214 = .ok (.aload_n 0, 1) := by decide +kernel
theorem dX8_office_215 : decode cX8_office 215 = .ok (.getfield 40, 3) := by decide +kernel
theorem dX8_office_218 : decode cX8_office 218 = .ok (.iconst 1, 1) := by decide +kernel
theorem dX8_office_219 : decode cX8_office 219 = .ok (.iconst 0, 1) := by decide +kernel
theorem dX8_office_220 : decode cX8_office 220 = .ok (.bastore, 1) := by decide +kernel
theorem dX8_office_221 : decode cX8_office 221 = .ok (.aload_n 0, 1) := by decide +kernel
theorem dX8_office_222 : decode cX8_office 222 = .ok (.getfield 64, 3) := by decide +kernel
theorem dX8_office_225 : decode cX8_office 225 = .ok (.ireturn, 1) := by decide +kernel
theorem dX8_shown_0 : decode cX8_shown 0 = .ok (.iconst 0, 1) := by decide +kernel
theorem dX8_shown_1 : decode cX8_shown 1 = .ok (.istore_n 1, 1) := by decide +kernel
theorem dX8_shown_2 : decode cX8_shown 2 = .ok (.iconst 0, 1) := by decide +kernel
theorem dX8_shown_3 : decode cX8_shown 3 = .ok (.istore_n 2, 1) := by decide +kernel
theorem dX8_shown_4 : decode cX8_shown 4 = .ok (.iload_n 2, 1) := by decide +kernel
theorem dX8_shown_5 : decode cX8_shown 5 = .ok (.bipush 12, 2) := by decide +kernel
theorem dX8_shown_7 : decode cX8_shown 7 = .ok (.if_icmp .ge 27, 3) := by decide +kernel
theorem dX8_shown_10 : decode cX8_shown 10 = .ok (.iload_n 1, 1) := by decide +kernel
theorem dX8_shown_11 : decode cX8_shown 11 = .ok (.aload_n 0, 1) := by decide +kernel
theorem dX8_shown_12 : decode cX8_shown 12 = .ok (.iconst 0, 1) := by decide +kernel
theorem dX8_shown_13 : decode cX8_shown 13 = .ok (.iload_n 2, 1) := by decide +kernel
theorem dX8_shown_14 : decode cX8_shown 14 = .ok (.iadd, 1) := by decide +kernel
theorem dX8_shown_15 : decode cX8_shown 15 = .ok (.iaload, 1) := by decide +kernel
theorem dX8_shown_16 : decode cX8_shown 16 = .ok (.ifCond .le 9, 3) := by decide +kernel
theorem dX8_shown_19 : decode cX8_shown 19 = .ok (.iconst 1, 1) := by decide +kernel
theorem dX8_shown_20 : decode cX8_shown 20 = .ok (.iload_n 2, 1) := by decide +kernel
theorem dX8_shown_21 : decode cX8_shown 21 = .ok (.ishl, 1) := by decide +kernel
theorem dX8_shown_22 : decode cX8_shown 22 = .ok (.goto 4, 3) := by decide +kernel
theorem dX8_shown_25 : decode cX8_shown 25 = .ok (.iconst 0, 1) := by decide +kernel
theorem dX8_shown_26 : decode cX8_shown 26 = .ok (.ior, 1) := by decide +kernel
theorem dX8_shown_27 : decode cX8_shown 27 = .ok (.istore_n 1, 1) := by decide +kernel
theorem dX8_shown_28 : decode cX8_shown 28 = .ok (.iinc 2 1, 3) := by decide +kernel
theorem dX8_shown_31 : decode cX8_shown 31 = .ok (.goto (-27), 3) := by decide +kernel
theorem dX8_shown_34 : decode cX8_shown 34 = .ok (.iload_n 1, 1) := by decide +kernel
theorem dX8_shown_35 : decode cX8_shown 35 = .ok (.ireturn, 1) := by decide +kernel
theorem dX8_isRead_0 : decode cX8_isRead 0 = .ok (.iload_n 2, 1) := by decide +kernel
theorem dX8_isRead_1 : decode cX8_isRead 1 = .ok (.bipush 15, 2) := by decide +kernel
theorem dX8_isRead_3 : decode cX8_isRead 3 = .ok (.aload_n 0, 1) := by decide +kernel
theorem dX8_isRead_4 : decode cX8_isRead 4 = .ok (.getfield 13, 3) := by decide +kernel
theorem dX8_isRead_7 : decode cX8_isRead 7 = .ok (.iload_n 1, 1) := by decide +kernel
theorem dX8_isRead_8 : decode cX8_isRead 8 = .ok (.iaload, 1) := by decide +kernel
theorem dX8_isRead_9 : decode cX8_isRead 9 = .ok (.ishl, 1) := by decide +kernel
theorem dX8_isRead_10 : decode cX8_isRead 10 = .ok (.iand, 1) := by decide +kernel
theorem dX8_isRead_11 : decode cX8_isRead 11 = .ok (.aload_n 0, 1) := by decide +kernel
theorem dX8_isRead_12 : decode cX8_isRead 12 = .ok (.getfield 22, 3) := by decide +kernel
theorem dX8_isRead_15 : decode cX8_isRead 15 = .ok (.iload_n 1, 1) := by decide +kernel
theorem dX8_isRead_16 : decode cX8_isRead 16 = .ok (.iaload, 1) := by decide +kernel
theorem dX8_isRead_17 : decode cX8_isRead 17 = .ok (.if_icmp .ne 7, 3) := by decide +kernel
theorem dX8_isRead_20 : decode cX8_isRead 20 = .ok (.iconst 1, 1) := by decide +kernel
theorem dX8_isRead_21 : decode cX8_isRead 21 = .ok (.goto 4, 3) := by decide +kernel
theorem dX8_isRead_24 : decode cX8_isRead 24 = .ok (.iconst 0, 1) := by decide +kernel
theorem dX8_isRead_25 : decode cX8_isRead 25 = .ok (.ireturn, 1) := by decide +kernel
theorem dX8_readBy_0 : decode cX8_readBy 0 = .ok (.iconst 0, 1) := by decide +kernel
theorem dX8_readBy_1 : decode cX8_readBy 1 = .ok (.istore_n 2, 1) := by decide +kernel
theorem dX8_readBy_2 : decode cX8_readBy 2 = .ok (.iconst 0, 1) := by decide +kernel
theorem dX8_readBy_3 : decode cX8_readBy 3 = .ok (.istore_n 3, 1) := by decide +kernel
theorem dX8_readBy_4 : decode cX8_readBy 4 = .ok (.iload_n 3, 1) := by decide +kernel
theorem dX8_readBy_5 : decode cX8_readBy 5 = .ok (.aload_n 0, 1) := by decide +kernel
theorem dX8_readBy_6 : decode cX8_readBy 6 = .ok (.getfield 64, 3) := by decide +kernel
theorem dX8_readBy_9 : decode cX8_readBy 9 = .ok (.if_icmp .ge 28, 3) := by decide +kernel
theorem dX8_readBy_12 : decode cX8_readBy 12 = .ok (.iload_n 2, 1) := by decide +kernel
theorem dX8_readBy_13 : decode cX8_readBy 13 = .ok (.aload_n 0, 1) := by decide +kernel
theorem dX8_readBy_14 : decode cX8_readBy 14 = .ok (.iload_n 3, 1) := by decide +kernel
theorem dX8_readBy_15 : decode cX8_readBy 15 = .ok (.iload_n 1, 1) := by decide +kernel
theorem dX8_readBy_16 : decode cX8_readBy 16 = .ok (.invokevirtual 95, 3) := by decide +kernel
theorem dX8_readBy_19 : decode cX8_readBy 19 = .ok (.ifCond .eq 9, 3) := by decide +kernel
theorem dX8_readBy_22 : decode cX8_readBy 22 = .ok (.iconst 1, 1) := by decide +kernel
theorem dX8_readBy_23 : decode cX8_readBy 23 = .ok (.iload_n 3, 1) := by decide +kernel
theorem dX8_readBy_24 : decode cX8_readBy 24 = .ok (.ishl, 1) := by decide +kernel
theorem dX8_readBy_25 : decode cX8_readBy 25 = .ok (.goto 4, 3) := by decide +kernel
theorem dX8_readBy_28 : decode cX8_readBy 28 = .ok (.iconst 0, 1) := by decide +kernel
theorem dX8_readBy_29 : decode cX8_readBy 29 = .ok (.ior, 1) := by decide +kernel
theorem dX8_readBy_30 : decode cX8_readBy 30 = .ok (.istore_n 2, 1) := by decide +kernel
theorem dX8_readBy_31 : decode cX8_readBy 31 = .ok (.iinc 3 1, 3) := by decide +kernel
theorem dX8_readBy_34 : decode cX8_readBy 34 = .ok (.goto (-30), 3) := by decide +kernel
theorem dX8_readBy_37 : decode cX8_readBy 37 = .ok (.iload_n 2, 1) := by decide +kernel
theorem dX8_readBy_38 : decode cX8_readBy 38 = .ok (.ireturn, 1) := by decide +kernel
theorem dX8_goPress_0 : decode cX8_goPress 0 = .ok (.iconst 0, 1) := by decide +kernel
theorem dX8_goPress_1 : decode cX8_goPress 1 = .ok (.istore_n 3, 1) := by decide +kernel
theorem dX8_goPress_2 : decode cX8_goPress 2 = .ok (.iload_n 3, 1) := by decide +kernel
theorem dX8_goPress_3 : decode cX8_goPress 3 = .ok (.bipush 12, 2) := by decide +kernel
theorem dX8_goPress_5 : decode cX8_goPress 5 = .ok (.if_icmp .ge 77, 3) := by decide +kernel
theorem dX8_goPress_8 : decode cX8_goPress 8 = .ok (.aload_n 0, 1) := by decide +kernel
theorem dX8_goPress_9 : decode cX8_goPress 9 = .ok (.getfield 22, 3) := by decide +kernel
theorem dX8_goPress_12 : decode cX8_goPress 12 = .ok (.iload_n 2, 1) := by decide +kernel
theorem dX8_goPress_13 : decode cX8_goPress 13 = .ok (.iaload, 1) := by decide +kernel
theorem dX8_goPress_14 : decode cX8_goPress 14 = .ok (.iload_n 3, 1) := by decide +kernel
theorem dX8_goPress_15 : decode cX8_goPress 15 = .ok (.invokestatic 99, 3) := by decide +kernel
theorem dX8_goPress_18 : decode cX8_goPress 18 = .ok (.ifCond .eq 58, 3) := by decide +kernel
theorem dX8_goPress_21 : decode cX8_goPress 21 = .ok (.aload_n 0, 1) := by decide +kernel
theorem dX8_goPress_22 : decode cX8_goPress 22 = .ok (.getfield 19, 3) := by decide +kernel
theorem dX8_goPress_25 : decode cX8_goPress 25 = .ok (.iload_n 2, 1) := by decide +kernel
theorem dX8_goPress_26 : decode cX8_goPress 26 = .ok (.iaload, 1) := by decide +kernel
theorem dX8_goPress_27 : decode cX8_goPress 27 = .ok (.ifCond .le 49, 3) := by decide +kernel
theorem dX8_goPress_30 : decode cX8_goPress 30 = .ok (.aload_n 1, 1) := by decide +kernel
theorem dX8_goPress_31 : decode cX8_goPress 31 = .ok (.iconst 0, 1) := by decide +kernel
theorem dX8_goPress_32 : decode cX8_goPress 32 = .ok (.iload_n 3, 1) := by decide +kernel
theorem dX8_goPress_33 : decode cX8_goPress 33 = .ok (.iadd, 1) := by decide +kernel
theorem dX8_goPress_34 : decode cX8_goPress 34 = .ok (.aload_n 1, 1) := by decide +kernel
theorem dX8_goPress_35 : decode cX8_goPress 35 = .ok (.iconst 0, 1) := by decide +kernel
theorem dX8_goPress_36 : decode cX8_goPress 36 = .ok (.iload_n 3, 1) := by decide +kernel
theorem dX8_goPress_37 : decode cX8_goPress 37 = .ok (.iadd, 1) := by decide +kernel
theorem dX8_goPress_38 : decode cX8_goPress 38 = .ok (.iaload, 1) := by decide +kernel
theorem dX8_goPress_39 : decode cX8_goPress 39 = .ok (.aload_n 0, 1) := by decide +kernel
theorem dX8_goPress_40 : decode cX8_goPress 40 = .ok (.getfield 19, 3) := by decide +kernel
theorem dX8_goPress_43 : decode cX8_goPress 43 = .ok (.iload_n 2, 1) := by decide +kernel
theorem dX8_goPress_44 : decode cX8_goPress 44 = .ok (.iaload, 1) := by decide +kernel
theorem dX8_goPress_45 : decode cX8_goPress 45 = .ok (.iadd, 1) := by decide +kernel
theorem dX8_goPress_46 : decode cX8_goPress 46 = .ok (.bipush 9, 2) := by decide +kernel
theorem dX8_goPress_48 : decode cX8_goPress 48 = .ok (.if_icmp .le 8, 3) := by decide +kernel
theorem dX8_goPress_51 : decode cX8_goPress 51 = .ok (.bipush 9, 2) := by decide +kernel
theorem dX8_goPress_53 : decode cX8_goPress 53 = .ok (.goto 15, 3) := by decide +kernel
theorem dX8_goPress_56 : decode cX8_goPress 56 = .ok (.aload_n 1, 1) := by decide +kernel
theorem dX8_goPress_57 : decode cX8_goPress 57 = .ok (.iconst 0, 1) := by decide +kernel
theorem dX8_goPress_58 : decode cX8_goPress 58 = .ok (.iload_n 3, 1) := by decide +kernel
theorem dX8_goPress_59 : decode cX8_goPress 59 = .ok (.iadd, 1) := by decide +kernel
theorem dX8_goPress_60 : decode cX8_goPress 60 = .ok (.iaload, 1) := by decide +kernel
theorem dX8_goPress_61 : decode cX8_goPress 61 = .ok (.aload_n 0, 1) := by decide +kernel
theorem dX8_goPress_62 : decode cX8_goPress 62 = .ok (.getfield 19, 3) := by decide +kernel
theorem dX8_goPress_65 : decode cX8_goPress 65 = .ok (.iload_n 2, 1) := by decide +kernel
theorem dX8_goPress_66 : decode cX8_goPress 66 = .ok (.iaload, 1) := by decide +kernel
theorem dX8_goPress_67 : decode cX8_goPress 67 = .ok (.iadd, 1) := by decide +kernel
theorem dX8_goPress_68 : decode cX8_goPress 68 = .ok (.iastore, 1) := by decide +kernel
theorem dX8_goPress_69 : decode cX8_goPress 69 = .ok (.aload_n 1, 1) := by decide +kernel
theorem dX8_goPress_70 : decode cX8_goPress 70 = .ok (.bipush 12, 2) := by decide +kernel
theorem dX8_goPress_72 : decode cX8_goPress 72 = .ok (.iload_n 3, 1) := by decide +kernel
theorem dX8_goPress_73 : decode cX8_goPress 73 = .ok (.iadd, 1) := by decide +kernel
theorem dX8_goPress_74 : decode cX8_goPress 74 = .ok (.iload_n 2, 1) := by decide +kernel
theorem dX8_goPress_75 : decode cX8_goPress 75 = .ok (.iastore, 1) := by decide +kernel
theorem dX8_goPress_76 : decode cX8_goPress 76 = .ok (.iinc 3 1, 3) := by decide +kernel
theorem dX8_goPress_79 : decode cX8_goPress 79 = .ok (.goto (-77), 3) := by decide +kernel
theorem dX8_goPress_82 : decode cX8_goPress 82 = .ok (.return_, 1) := by decide +kernel
theorem dX8_goDay_0 : decode cX8_goDay 0 = .ok (.iconst 0, 1) := by decide +kernel
theorem dX8_goDay_1 : decode cX8_goDay 1 = .ok (.istore_n 1, 1) := by decide +kernel
theorem dX8_goDay_2 : decode cX8_goDay 2 = .ok (.iload_n 1, 1) := by decide +kernel
theorem dX8_goDay_3 : decode cX8_goDay 3 = .ok (.bipush 12, 2) := by decide +kernel
theorem dX8_goDay_5 : decode cX8_goDay 5 = .ok (.if_icmp .ge 55, 3) := by decide +kernel
theorem dX8_goDay_8 : decode cX8_goDay 8 = .ok (.aload_n 0, 1) := by decide +kernel
theorem dX8_goDay_9 : decode cX8_goDay 9 = .ok (.iconst 0, 1) := by decide +kernel
theorem dX8_goDay_10 : decode cX8_goDay 10 = .ok (.iload_n 1, 1) := by decide +kernel
theorem dX8_goDay_11 : decode cX8_goDay 11 = .ok (.iadd, 1) := by decide +kernel
theorem dX8_goDay_12 : decode cX8_goDay 12 = .ok (.dup2, 1) := by decide +kernel
theorem dX8_goDay_13 : decode cX8_goDay 13 = .ok (.iaload, 1) := by decide +kernel
theorem dX8_goDay_14 : decode cX8_goDay 14 = .ok (.aload_n 0, 1) := by decide +kernel
theorem dX8_goDay_15 : decode cX8_goDay 15 = .ok (.iconst 0, 1) := by decide +kernel
theorem dX8_goDay_16 : decode cX8_goDay 16 = .ok (.iload_n 1, 1) := by decide +kernel
theorem dX8_goDay_17 : decode cX8_goDay 17 = .ok (.iadd, 1) := by decide +kernel
theorem dX8_goDay_18 : decode cX8_goDay 18 = .ok (.iaload, 1) := by decide +kernel
theorem dX8_goDay_19 : decode cX8_goDay 19 = .ok (.ifCond .le 7, 3) := by decide +kernel
theorem dX8_goDay_22 : decode cX8_goDay 22 = .ok (.iconst 1, 1) := by decide +kernel
theorem dX8_goDay_23 : decode cX8_goDay 23 = .ok (.goto 4, 3) := by decide +kernel
theorem dX8_goDay_26 : decode cX8_goDay 26 = .ok (.iconst 0, 1) := by decide +kernel
theorem dX8_goDay_27 : decode cX8_goDay 27 = .ok (.isub, 1) := by decide +kernel
theorem dX8_goDay_28 : decode cX8_goDay 28 = .ok (.iastore, 1) := by decide +kernel
theorem dX8_goDay_29 : decode cX8_goDay 29 = .ok (.aload_n 0, 1) := by decide +kernel
theorem dX8_goDay_30 : decode cX8_goDay 30 = .ok (.bipush 12, 2) := by decide +kernel
theorem dX8_goDay_32 : decode cX8_goDay 32 = .ok (.iload_n 1, 1) := by decide +kernel
theorem dX8_goDay_33 : decode cX8_goDay 33 = .ok (.iadd, 1) := by decide +kernel
theorem dX8_goDay_34 : decode cX8_goDay 34 = .ok (.aload_n 0, 1) := by decide +kernel
theorem dX8_goDay_35 : decode cX8_goDay 35 = .ok (.iconst 0, 1) := by decide +kernel
theorem dX8_goDay_36 : decode cX8_goDay 36 = .ok (.iload_n 1, 1) := by decide +kernel
theorem dX8_goDay_37 : decode cX8_goDay 37 = .ok (.iadd, 1) := by decide +kernel
theorem dX8_goDay_38 : decode cX8_goDay 38 = .ok (.iaload, 1) := by decide +kernel
theorem dX8_goDay_39 : decode cX8_goDay 39 = .ok (.ifCond .ne 8, 3) := by decide +kernel
theorem dX8_goDay_42 : decode cX8_goDay 42 = .ok (.bipush (-9), 2) := by decide +kernel
theorem dX8_goDay_44 : decode cX8_goDay 44 = .ok (.goto 9, 3) := by decide +kernel
theorem dX8_goDay_47 : decode cX8_goDay 47 = .ok (.aload_n 0, 1) := by decide +kernel
theorem dX8_goDay_48 : decode cX8_goDay 48 = .ok (.bipush 12, 2) := by decide +kernel
theorem dX8_goDay_50 : decode cX8_goDay 50 = .ok (.iload_n 1, 1) := by decide +kernel
theorem dX8_goDay_51 : decode cX8_goDay 51 = .ok (.iadd, 1) := by decide +kernel
theorem dX8_goDay_52 : decode cX8_goDay 52 = .ok (.iaload, 1) := by decide +kernel
theorem dX8_goDay_53 : decode cX8_goDay 53 = .ok (.iastore, 1) := by decide +kernel
theorem dX8_goDay_54 : decode cX8_goDay 54 = .ok (.iinc 1 1, 3) := by decide +kernel
theorem dX8_goDay_57 : decode cX8_goDay 57 = .ok (.goto (-55), 3) := by decide +kernel
theorem dX8_goDay_60 : decode cX8_goDay 60 = .ok (.aload_n 0, 1) := by decide +kernel
theorem dX8_goDay_61 : decode cX8_goDay 61 = .ok (.bipush 24, 2) := by decide +kernel
theorem dX8_goDay_63 : decode cX8_goDay 63 = .ok (.dup2, 1) := by decide +kernel
theorem dX8_goDay_64 : decode cX8_goDay 64 = .ok (.iaload, 1) := by decide +kernel
theorem dX8_goDay_65 : decode cX8_goDay 65 = .ok (.iconst 1, 1) := by decide +kernel
theorem dX8_goDay_66 : decode cX8_goDay 66 = .ok (.iadd, 1) := by decide +kernel
theorem dX8_goDay_67 : decode cX8_goDay 67 = .ok (.iastore, 1) := by decide +kernel
theorem dX8_goDay_68 : decode cX8_goDay 68 = .ok (.return_, 1) := by decide +kernel
theorem dX8_about_0 : decode cX8_about 0 = .ok (.aload_n 0, 1) := by decide +kernel
theorem dX8_about_1 : decode cX8_about 1 = .ok (.iconst 0, 1) := by decide +kernel
theorem dX8_about_2 : decode cX8_about 2 = .ok (.putfield 60, 3) := by decide +kernel
theorem dX8_about_5 : decode cX8_about 5 = .ok (.iconst 0, 1) := by decide +kernel
theorem dX8_about_6 : decode cX8_about 6 = .ok (.istore_n 2, 1) := by decide +kernel
theorem dX8_about_7 : decode cX8_about 7 = .ok (.iconst 0, 1) := by decide +kernel
theorem dX8_about_8 : decode cX8_about 8 = .ok (.istore_n 3, 1) := by decide +kernel
theorem dX8_about_9 : decode cX8_about 9 = .ok (.iconst 0, 1) := by decide +kernel
theorem dX8_about_10 : decode cX8_about 10 = .ok (.istore 4, 2) := by decide +kernel
theorem dX8_about_12 : decode cX8_about 12 = .ok (.iload 4, 2) := by decide +kernel
theorem dX8_about_14 : decode cX8_about 14 = .ok (.bipush 12, 2) := by decide +kernel
theorem dX8_about_16 : decode cX8_about 16 = .ok (.if_icmp .ge 55, 3) := by decide +kernel
theorem dX8_about_19 : decode cX8_about 19 = .ok (.iload_n 2, 1) := by decide +kernel
theorem dX8_about_20 : decode cX8_about 20 = .ok (.aload_n 0, 1) := by decide +kernel
theorem dX8_about_21 : decode cX8_about 21 = .ok (.getfield 28, 3) := by decide +kernel
theorem dX8_about_24 : decode cX8_about 24 = .ok (.iconst 0, 1) := by decide +kernel
theorem dX8_about_25 : decode cX8_about 25 = .ok (.iload 4, 2) := by decide +kernel
theorem dX8_about_27 : decode cX8_about 27 = .ok (.iadd, 1) := by decide +kernel
theorem dX8_about_28 : decode cX8_about 28 = .ok (.iaload, 1) := by decide +kernel
theorem dX8_about_29 : decode cX8_about 29 = .ok (.iadd, 1) := by decide +kernel
theorem dX8_about_30 : decode cX8_about 30 = .ok (.istore_n 2, 1) := by decide +kernel
theorem dX8_about_31 : decode cX8_about 31 = .ok (.iload_n 3, 1) := by decide +kernel
theorem dX8_about_32 : decode cX8_about 32 = .ok (.aload_n 0, 1) := by decide +kernel
theorem dX8_about_33 : decode cX8_about 33 = .ok (.getfield 28, 3) := by decide +kernel
theorem dX8_about_36 : decode cX8_about 36 = .ok (.bipush 12, 2) := by decide +kernel
theorem dX8_about_38 : decode cX8_about 38 = .ok (.iload 4, 2) := by decide +kernel
theorem dX8_about_40 : decode cX8_about 40 = .ok (.iadd, 1) := by decide +kernel
theorem dX8_about_41 : decode cX8_about 41 = .ok (.iaload, 1) := by decide +kernel
theorem dX8_about_42 : decode cX8_about 42 = .ok (.bipush (-9), 2) := by decide +kernel
theorem dX8_about_44 : decode cX8_about 44 = .ok (.if_icmp .ne 7, 3) := by decide +kernel
theorem dX8_about_47 : decode cX8_about 47 = .ok (.iconst 0, 1) := by decide +kernel
theorem dX8_about_48 : decode cX8_about 48 = .ok (.goto 15, 3) := by decide +kernel
theorem dX8_about_51 : decode cX8_about 51 = .ok (.iconst 1, 1) := by decide +kernel
theorem dX8_about_52 : decode cX8_about 52 = .ok (.aload_n 0, 1) := by decide +kernel
theorem dX8_about_53 : decode cX8_about 53 = .ok (.getfield 28, 3) := by decide +kernel
theorem dX8_about_56 : decode cX8_about 56 = .ok (.bipush 12, 2) := by decide +kernel
theorem dX8_about_58 : decode cX8_about 58 = .ok (.iload 4, 2) := by decide +kernel
theorem dX8_about_60 : decode cX8_about 60 = .ok (.iadd, 1) := by decide +kernel
theorem dX8_about_61 : decode cX8_about 61 = .ok (.iaload, 1) := by decide +kernel
theorem dX8_about_62 : decode cX8_about 62 = .ok (.ishl, 1) := by decide +kernel
theorem dX8_about_63 : decode cX8_about 63 = .ok (.ior, 1) := by decide +kernel
theorem dX8_about_64 : decode cX8_about 64 = .ok (.istore_n 3, 1) := by decide +kernel
theorem dX8_about_65 : decode cX8_about 65 = .ok (.iinc 4 1, 3) := by decide +kernel
theorem dX8_about_68 : decode cX8_about 68 = .ok (.goto (-56), 3) := by decide +kernel
theorem dX8_about_71 : decode cX8_about 71 = .ok (.iload_n 1, 1) := by decide +kernel
theorem dX8_about_72 : decode cX8_about 72 = .ok (.tableswitch 104 0 8 #[52, 57, 65, 73, 75, 87, 89, 94, 99], 52) := by decide +kernel
theorem dX8_about_124 : decode cX8_about 124 = .ok (.aload_n 0, 1) := by decide +kernel
theorem dX8_about_125 : decode cX8_about 125 = .ok (.getfield 64, 3) := by decide +kernel
theorem dX8_about_128 : decode cX8_about 128 = .ok (.ireturn, 1) := by decide +kernel
theorem dX8_about_129 : decode cX8_about 129 = .ok (.aload_n 0, 1) := by decide +kernel
theorem dX8_about_130 : decode cX8_about 130 = .ok (.getfield 28, 3) := by decide +kernel
theorem dX8_about_133 : decode cX8_about 133 = .ok (.bipush 24, 2) := by decide +kernel
theorem dX8_about_135 : decode cX8_about 135 = .ok (.iaload, 1) := by decide +kernel
theorem dX8_about_136 : decode cX8_about 136 = .ok (.ireturn, 1) := by decide +kernel
theorem dX8_about_137 : decode cX8_about 137 = .ok (.aload_n 0, 1) := by decide +kernel
theorem dX8_about_138 : decode cX8_about 138 = .ok (.getfield 28, 3) := by decide +kernel
theorem dX8_about_141 : decode cX8_about 141 = .ok (.invokestatic 102, 3) := by decide +kernel
theorem dX8_about_144 : decode cX8_about 144 = .ok (.ireturn, 1) := by decide +kernel
theorem dX8_about_145 : decode cX8_about 145 = .ok (.iload_n 2, 1) := by decide +kernel
theorem dX8_about_146 : decode cX8_about 146 = .ok (.ireturn, 1) := by decide +kernel
theorem dX8_about_147 : decode cX8_about 147 = .ok (.aload_n 0, 1) := by decide +kernel
theorem dX8_about_148 : decode cX8_about 148 = .ok (.aload_n 0, 1) := by decide +kernel
theorem dX8_about_149 : decode cX8_about 149 = .ok (.getfield 28, 3) := by decide +kernel
theorem dX8_about_152 : decode cX8_about 152 = .ok (.invokestatic 102, 3) := by decide +kernel
theorem dX8_about_155 : decode cX8_about 155 = .ok (.invokevirtual 106, 3) := by decide +kernel
theorem dX8_about_158 : decode cX8_about 158 = .ok (.ireturn, 1) := by decide +kernel
theorem dX8_about_159 : decode cX8_about 159 = .ok (.iload_n 3, 1) := by decide +kernel
theorem dX8_about_160 : decode cX8_about 160 = .ok (.ireturn, 1) := by decide +kernel
theorem dX8_about_161 : decode cX8_about 161 = .ok (.aload_n 0, 1) := by decide +kernel
theorem dX8_about_162 : decode cX8_about 162 = .ok (.getfield 92, 3) := by decide +kernel
theorem dX8_about_165 : decode cX8_about 165 = .ok (.ireturn, 1) := by decide +kernel
theorem dX8_about_166 : decode cX8_about 166 = .ok (.aload_n 0, 1) := by decide +kernel
theorem dX8_about_167 : decode cX8_about 167 = .ok (.getfield 110, 3) := by decide +kernel
theorem dX8_about_170 : decode cX8_about 170 = .ok (.ireturn, 1) := by decide +kernel
theorem dX8_about_171 : decode cX8_about 171 = .ok (.aload_n 0, 1) := by decide +kernel
theorem dX8_about_172 : decode cX8_about 172 = .ok (.getfield 75, 3) := by decide +kernel
theorem dX8_about_175 : decode cX8_about 175 = .ok (.ireturn, 1) := by decide +kernel
theorem dX8_about_176 : decode cX8_about 176 = .ok (.bipush (-2), 2) := by decide +kernel
theorem dX8_about_178 : decode cX8_about 178 = .ok (.ireturn, 1) := by decide +kernel
theorem dX8_letter_0 : decode cX8_letter 0 = .ok (.aload_n 0, 1) := by decide +kernel
theorem dX8_letter_1 : decode cX8_letter 1 = .ok (.iconst 0, 1) := by decide +kernel
theorem dX8_letter_2 : decode cX8_letter 2 = .ok (.putfield 60, 3) := by decide +kernel
theorem dX8_letter_5 : decode cX8_letter 5 = .ok (.aload_n 0, 1) := by decide +kernel
theorem dX8_letter_6 : decode cX8_letter 6 = .ok (.iload_n 1, 1) := by decide +kernel
theorem dX8_letter_7 : decode cX8_letter 7 = .ok (.invokevirtual 113, 3) := by decide +kernel
theorem dX8_letter_10 : decode cX8_letter 10 = .ok (.ifCond .eq 5, 3) := by decide +kernel
theorem dX8_letter_13 : decode cX8_letter 13 = .ok (.iconst (-1), 1) := by decide +kernel
theorem dX8_letter_14 : decode cX8_letter 14 = .ok (.ireturn, 1) := by decide +kernel
theorem dX8_letter_15 : decode cX8_letter 15 = .ok (.iload_n 2, 1) := by decide +kernel
theorem dX8_letter_16 : decode cX8_letter 16 = .ok (.tableswitch 85 0 4 #[36, 43, 50, 57, 64], 36) := by decide +kernel
theorem dX8_letter_52 : decode cX8_letter 52 = .ok (.aload_n 0, 1) := by decide +kernel
theorem dX8_letter_53 : decode cX8_letter 53 = .ok (.getfield 13, 3) := by decide +kernel
theorem dX8_letter_56 : decode cX8_letter 56 = .ok (.iload_n 1, 1) := by decide +kernel
theorem dX8_letter_57 : decode cX8_letter 57 = .ok (.iaload, 1) := by decide +kernel
theorem dX8_letter_58 : decode cX8_letter 58 = .ok (.ireturn, 1) := by decide +kernel
theorem dX8_letter_59 : decode cX8_letter 59 = .ok (.aload_n 0, 1) := by decide +kernel
theorem dX8_letter_60 : decode cX8_letter 60 = .ok (.getfield 16, 3) := by decide +kernel
theorem dX8_letter_63 : decode cX8_letter 63 = .ok (.iload_n 1, 1) := by decide +kernel
theorem dX8_letter_64 : decode cX8_letter 64 = .ok (.iaload, 1) := by decide +kernel
theorem dX8_letter_65 : decode cX8_letter 65 = .ok (.ireturn, 1) := by decide +kernel
theorem dX8_letter_66 : decode cX8_letter 66 = .ok (.aload_n 0, 1) := by decide +kernel
theorem dX8_letter_67 : decode cX8_letter 67 = .ok (.getfield 19, 3) := by decide +kernel
theorem dX8_letter_70 : decode cX8_letter 70 = .ok (.iload_n 1, 1) := by decide +kernel
theorem dX8_letter_71 : decode cX8_letter 71 = .ok (.iaload, 1) := by decide +kernel
theorem dX8_letter_72 : decode cX8_letter 72 = .ok (.ireturn, 1) := by decide +kernel
theorem dX8_letter_73 : decode cX8_letter 73 = .ok (.aload_n 0, 1) := by decide +kernel
theorem dX8_letter_74 : decode cX8_letter 74 = .ok (.getfield 22, 3) := by decide +kernel
theorem dX8_letter_77 : decode cX8_letter 77 = .ok (.iload_n 1, 1) := by decide +kernel
theorem dX8_letter_78 : decode cX8_letter 78 = .ok (.iaload, 1) := by decide +kernel
theorem dX8_letter_79 : decode cX8_letter 79 = .ok (.ireturn, 1) := by decide +kernel
theorem dX8_letter_80 : decode cX8_letter 80 = .ok (.aload_n 0, 1) := by decide +kernel
theorem dX8_letter_81 : decode cX8_letter 81 = .ok (.iload_n 1, 1) := by decide +kernel
theorem dX8_letter_82 : decode cX8_letter 82 = .ok (.aload_n 0, 1) := by decide +kernel
theorem dX8_letter_83 : decode cX8_letter 83 = .ok (.getfield 28, 3) := by decide +kernel
theorem dX8_letter_86 : decode cX8_letter 86 = .ok (.invokestatic 102, 3) := by decide +kernel
theorem dX8_letter_89 : decode cX8_letter 89 = .ok (.invokevirtual 95, 3) := by decide +kernel
theorem dX8_letter_92 : decode cX8_letter 92 = .ok (.ifCond .eq 7, 3) := by decide +kernel
theorem dX8_letter_95 : decode cX8_letter 95 = .ok (.iconst 1, 1) := by decide +kernel
theorem dX8_letter_96 : decode cX8_letter 96 = .ok (.goto 4, 3) := by decide +kernel
theorem dX8_letter_99 : decode cX8_letter 99 = .ok (.iconst 0, 1) := by decide +kernel
theorem dX8_letter_100 : decode cX8_letter 100 = .ok (.ireturn, 1) := by decide +kernel
theorem dX8_letter_101 : decode cX8_letter 101 = .ok (.bipush (-2), 2) := by decide +kernel
theorem dX8_letter_103 : decode cX8_letter 103 = .ok (.ireturn, 1) := by decide +kernel
theorem dX8_cell_0 : decode cX8_cell 0 = .ok (.aload_n 0, 1) := by decide +kernel
theorem dX8_cell_1 : decode cX8_cell 1 = .ok (.iconst 0, 1) := by decide +kernel
theorem dX8_cell_2 : decode cX8_cell 2 = .ok (.putfield 60, 3) := by decide +kernel
theorem dX8_cell_5 : decode cX8_cell 5 = .ok (.iload_n 1, 1) := by decide +kernel
theorem dX8_cell_6 : decode cX8_cell 6 = .ok (.invokestatic 117, 3) := by decide +kernel
theorem dX8_cell_9 : decode cX8_cell 9 = .ok (.ifCond .ne 13, 3) := by decide +kernel
theorem dX8_cell_12 : decode cX8_cell 12 = .ok (.iload_n 2, 1) := by decide +kernel
theorem dX8_cell_13 : decode cX8_cell 13 = .ok (.i2l, 1) := by decide +kernel
theorem dX8_cell_14 : decode cX8_cell 14 = .ok (.lconst 0, 1) := by decide +kernel
theorem dX8_cell_15 : decode cX8_cell 15 = .ok (.lconst 1, 1) := by decide +kernel
theorem dX8_cell_16 : decode cX8_cell 16 = .ok (.invokestatic 67, 3) := by decide +kernel
theorem dX8_cell_19 : decode cX8_cell 19 = .ok (.ifCond .ne 8, 3) := by decide +kernel
theorem dX8_cell_22 : decode cX8_cell 22 = .ok (.bipush (-2), 2) := by decide +kernel
theorem dX8_cell_24 : decode cX8_cell 24 = .ok (.goto 27, 3) := by decide +kernel
theorem dX8_cell_27 : decode cX8_cell 27 = .ok (.iload_n 2, 1) := by decide +kernel
theorem dX8_cell_28 : decode cX8_cell 28 = .ok (.ifCond .ne 14, 3) := by decide +kernel
theorem dX8_cell_31 : decode cX8_cell 31 = .ok (.aload_n 0, 1) := by decide +kernel
theorem dX8_cell_32 : decode cX8_cell 32 = .ok (.getfield 28, 3) := by decide +kernel
theorem dX8_cell_35 : decode cX8_cell 35 = .ok (.iconst 0, 1) := by decide +kernel
theorem dX8_cell_36 : decode cX8_cell 36 = .ok (.iload_n 1, 1) := by decide +kernel
theorem dX8_cell_37 : decode cX8_cell 37 = .ok (.iadd, 1) := by decide +kernel
theorem dX8_cell_38 : decode cX8_cell 38 = .ok (.iaload, 1) := by decide +kernel
theorem dX8_cell_39 : decode cX8_cell 39 = .ok (.goto 12, 3) := by decide +kernel
theorem dX8_cell_42 : decode cX8_cell 42 = .ok (.aload_n 0, 1) := by decide +kernel
theorem dX8_cell_43 : decode cX8_cell 43 = .ok (.getfield 28, 3) := by decide +kernel
theorem dX8_cell_46 : decode cX8_cell 46 = .ok (.bipush 12, 2) := by decide +kernel
theorem dX8_cell_48 : decode cX8_cell 48 = .ok (.iload_n 1, 1) := by decide +kernel
theorem dX8_cell_49 : decode cX8_cell 49 = .ok (.iadd, 1) := by decide +kernel
theorem dX8_cell_50 : decode cX8_cell 50 = .ok (.iaload, 1) := by decide +kernel
theorem dX8_cell_51 : decode cX8_cell 51 = .ok (.ireturn, 1) := by decide +kernel
theorem dX8_note_0 : decode cX8_note 0 = .ok (.aload_n 0, 1) := by decide +kernel
theorem dX8_note_1 : decode cX8_note 1 = .ok (.getfield 92, 3) := by decide +kernel
theorem dX8_note_4 : decode cX8_note 4 = .ok (.bipush 14, 2) := by decide +kernel
theorem dX8_note_6 : decode cX8_note 6 = .ok (.if_icmp .ne 43, 3) := by decide +kernel
theorem dX8_note_9 : decode cX8_note 9 = .ok (.iconst 0, 1) := by decide +kernel
theorem dX8_note_10 : decode cX8_note 10 = .ok (.istore_n 1, 1) := by decide +kernel
theorem dX8_note_11 : decode cX8_note 11 = .ok (.iload_n 1, 1) := by decide +kernel
theorem dX8_note_12 : decode cX8_note 12 = .ok (.sipush 325, 3) := by decide +kernel
theorem dX8_note_15 : decode cX8_note 15 = .ok (.if_icmp .ge 24, 3) := by decide +kernel
theorem dX8_note_18 : decode cX8_note 18 = .ok (.aload_n 0, 1) := by decide +kernel
theorem dX8_note_19 : decode cX8_note 19 = .ok (.getfield 34, 3) := by decide +kernel
theorem dX8_note_22 : decode cX8_note 22 = .ok (.iload_n 1, 1) := by decide +kernel
theorem dX8_note_23 : decode cX8_note 23 = .ok (.aload_n 0, 1) := by decide +kernel
theorem dX8_note_24 : decode cX8_note 24 = .ok (.getfield 34, 3) := by decide +kernel
theorem dX8_note_27 : decode cX8_note 27 = .ok (.iload_n 1, 1) := by decide +kernel
theorem dX8_note_28 : decode cX8_note 28 = .ok (.bipush 25, 2) := by decide +kernel
theorem dX8_note_30 : decode cX8_note 30 = .ok (.iadd, 1) := by decide +kernel
theorem dX8_note_31 : decode cX8_note 31 = .ok (.iaload, 1) := by decide +kernel
theorem dX8_note_32 : decode cX8_note 32 = .ok (.iastore, 1) := by decide +kernel
theorem dX8_note_33 : decode cX8_note 33 = .ok (.iinc 1 1, 3) := by decide +kernel
theorem dX8_note_36 : decode cX8_note 36 = .ok (.goto (-25), 3) := by decide +kernel
theorem dX8_note_39 : decode cX8_note 39 = .ok (.aload_n 0, 1) := by decide +kernel
theorem dX8_note_40 : decode cX8_note 40 = .ok (.dup, 1) := by decide +kernel
theorem dX8_note_41 : decode cX8_note 41 = .ok (.getfield 92, 3) := by decide +kernel
theorem dX8_note_44 : decode cX8_note 44 = .ok (.iconst 1, 1) := by decide +kernel
theorem dX8_note_45 : decode cX8_note 45 = .ok (.isub, 1) := by decide +kernel
theorem dX8_note_46 : decode cX8_note 46 = .ok (.putfield 92, 3) := by decide +kernel
theorem dX8_note_49 : decode cX8_note 49 = .ok (.iconst 0, 1) := by decide +kernel
theorem dX8_note_50 : decode cX8_note 50 = .ok (.istore_n 1, 1) := by decide +kernel
theorem dX8_note_51 : decode cX8_note 51 = .ok (.iload_n 1, 1) := by decide +kernel
theorem dX8_note_52 : decode cX8_note 52 = .ok (.bipush 25, 2) := by decide +kernel
theorem dX8_note_54 : decode cX8_note 54 = .ok (.if_icmp .ge 29, 3) := by decide +kernel
theorem dX8_note_57 : decode cX8_note 57 = .ok (.aload_n 0, 1) := by decide +kernel
theorem dX8_note_58 : decode cX8_note 58 = .ok (.getfield 34, 3) := by decide +kernel
theorem dX8_note_61 : decode cX8_note 61 = .ok (.bipush 25, 2) := by decide +kernel
theorem dX8_note_63 : decode cX8_note 63 = .ok (.aload_n 0, 1) := by decide +kernel
theorem dX8_note_64 : decode cX8_note 64 = .ok (.getfield 92, 3) := by decide +kernel
theorem dX8_note_67 : decode cX8_note 67 = .ok (.imul, 1) := by decide +kernel
theorem dX8_note_68 : decode cX8_note 68 = .ok (.iload_n 1, 1) := by decide +kernel
theorem dX8_note_69 : decode cX8_note 69 = .ok (.iadd, 1) := by decide +kernel
theorem dX8_note_70 : decode cX8_note 70 = .ok (.aload_n 0, 1) := by decide +kernel
theorem dX8_note_71 : decode cX8_note 71 = .ok (.getfield 28, 3) := by decide +kernel
theorem dX8_note_74 : decode cX8_note 74 = .ok (.iload_n 1, 1) := by decide +kernel
theorem dX8_note_75 : decode cX8_note 75 = .ok (.iaload, 1) := by decide +kernel
theorem dX8_note_76 : decode cX8_note 76 = .ok (.iastore, 1) := by decide +kernel
theorem dX8_note_77 : decode cX8_note 77 = .ok (.iinc 1 1, 3) := by decide +kernel
theorem dX8_note_80 : decode cX8_note 80 = .ok (.goto (-29), 3) := by decide +kernel
theorem dX8_note_83 : decode cX8_note 83 = .ok (.aload_n 0, 1) := by decide +kernel
theorem dX8_note_84 : decode cX8_note 84 = .ok (.dup, 1) := by decide +kernel
theorem dX8_note_85 : decode cX8_note 85 = .ok (.getfield 92, 3) := by decide +kernel
theorem dX8_note_88 : decode cX8_note 88 = .ok (.iconst 1, 1) := by decide +kernel
theorem dX8_note_89 : decode cX8_note 89 = .ok (.iadd, 1) := by decide +kernel
theorem dX8_note_90 : decode cX8_note 90 = .ok (.putfield 92, 3) := by decide +kernel
theorem dX8_note_93 : decode cX8_note 93 = .ok (.return_, 1) := by decide +kernel
theorem dX8_press_0 : decode cX8_press 0 = .ok (.aload_n 0, 1) := by decide +kernel
theorem dX8_press_1 : decode cX8_press 1 = .ok (.iconst 0, 1) := by decide +kernel
theorem dX8_press_2 : decode cX8_press 2 = .ok (.putfield 60, 3) := by decide +kernel
theorem dX8_press_5 : decode cX8_press 5 = .ok (.aload_n 0, 1) := by decide +kernel
theorem dX8_press_6 : decode cX8_press 6 = .ok (.iload_n 1, 1) := by decide +kernel
theorem dX8_press_7 : decode cX8_press 7 = .ok (.invokevirtual 113, 3) := by decide +kernel
theorem dX8_press_10 : decode cX8_press 10 = .ok (.ifCond .eq 5, 3) := by decide +kernel
theorem dX8_press_13 : decode cX8_press 13 = .ok (.iconst (-1), 1) := by decide +kernel
theorem dX8_press_14 : decode cX8_press 14 = .ok (.ireturn, 1) := by decide +kernel
theorem dX8_press_15 : decode cX8_press 15 = .ok (.aload_n 0, 1) := by decide +kernel
theorem dX8_press_16 : decode cX8_press 16 = .ok (.invokevirtual 120, 3) := by decide +kernel
theorem dX8_press_19 : decode cX8_press 19 = .ok (.aload_n 0, 1) := by decide +kernel
theorem dX8_press_20 : decode cX8_press 20 = .ok (.aload_n 0, 1) := by decide +kernel
theorem dX8_press_21 : decode cX8_press 21 = .ok (.getfield 28, 3) := by decide +kernel
theorem dX8_press_24 : decode cX8_press 24 = .ok (.iload_n 1, 1) := by decide +kernel
theorem dX8_press_25 : decode cX8_press 25 = .ok (.invokevirtual 123, 3) := by decide +kernel
theorem dX8_press_28 : decode cX8_press 28 = .ok (.aload_n 0, 1) := by decide +kernel
theorem dX8_press_29 : decode cX8_press 29 = .ok (.getfield 28, 3) := by decide +kernel
theorem dX8_press_32 : decode cX8_press 32 = .ok (.invokestatic 102, 3) := by decide +kernel
theorem dX8_press_35 : decode cX8_press 35 = .ok (.invokestatic 127, 3) := by decide +kernel
theorem dX8_press_38 : decode cX8_press 38 = .ok (.ireturn, 1) := by decide +kernel
theorem dX8_day_0 : decode cX8_day 0 = .ok (.aload_n 0, 1) := by decide +kernel
theorem dX8_day_1 : decode cX8_day 1 = .ok (.iconst 0, 1) := by decide +kernel
theorem dX8_day_2 : decode cX8_day 2 = .ok (.putfield 60, 3) := by decide +kernel
theorem dX8_day_5 : decode cX8_day 5 = .ok (.aload_n 0, 1) := by decide +kernel
theorem dX8_day_6 : decode cX8_day 6 = .ok (.invokevirtual 120, 3) := by decide +kernel
theorem dX8_day_9 : decode cX8_day 9 = .ok (.aload_n 0, 1) := by decide +kernel
theorem dX8_day_10 : decode cX8_day 10 = .ok (.getfield 28, 3) := by decide +kernel
theorem dX8_day_13 : decode cX8_day 13 = .ok (.invokestatic 130, 3) := by decide +kernel
theorem dX8_day_16 : decode cX8_day 16 = .ok (.aload_n 0, 1) := by decide +kernel
theorem dX8_day_17 : decode cX8_day 17 = .ok (.getfield 28, 3) := by decide +kernel
theorem dX8_day_20 : decode cX8_day 20 = .ok (.bipush 24, 2) := by decide +kernel
theorem dX8_day_22 : decode cX8_day 22 = .ok (.iaload, 1) := by decide +kernel
theorem dX8_day_23 : decode cX8_day 23 = .ok (.ireturn, 1) := by decide +kernel
theorem dX8_rub_0 : decode cX8_rub 0 = .ok (.aload_n 0, 1) := by decide +kernel
theorem dX8_rub_1 : decode cX8_rub 1 = .ok (.iconst 0, 1) := by decide +kernel
theorem dX8_rub_2 : decode cX8_rub 2 = .ok (.putfield 60, 3) := by decide +kernel
theorem dX8_rub_5 : decode cX8_rub 5 = .ok (.iload_n 1, 1) := by decide +kernel
theorem dX8_rub_6 : decode cX8_rub 6 = .ok (.invokestatic 117, 3) := by decide +kernel
theorem dX8_rub_9 : decode cX8_rub 9 = .ok (.ifCond .eq 6, 3) := by decide +kernel
theorem dX8_rub_12 : decode cX8_rub 12 = .ok (.bipush (-2), 2) := by decide +kernel
theorem dX8_rub_14 : decode cX8_rub 14 = .ok (.ireturn, 1) := by decide +kernel
theorem dX8_rub_15 : decode cX8_rub 15 = .ok (.aload_n 0, 1) := by decide +kernel
theorem dX8_rub_16 : decode cX8_rub 16 = .ok (.getfield 28, 3) := by decide +kernel
theorem dX8_rub_19 : decode cX8_rub 19 = .ok (.iconst 0, 1) := by decide +kernel
theorem dX8_rub_20 : decode cX8_rub 20 = .ok (.iload_n 1, 1) := by decide +kernel
theorem dX8_rub_21 : decode cX8_rub 21 = .ok (.iadd, 1) := by decide +kernel
theorem dX8_rub_22 : decode cX8_rub 22 = .ok (.iaload, 1) := by decide +kernel
theorem dX8_rub_23 : decode cX8_rub 23 = .ok (.istore_n 2, 1) := by decide +kernel
theorem dX8_rub_24 : decode cX8_rub 24 = .ok (.iload_n 2, 1) := by decide +kernel
theorem dX8_rub_25 : decode cX8_rub 25 = .ok (.ifCond .ne 6, 3) := by decide +kernel
theorem dX8_rub_28 : decode cX8_rub 28 = .ok (.bipush (-3), 2) := by decide +kernel
theorem dX8_rub_30 : decode cX8_rub 30 = .ok (.ireturn, 1) := by decide +kernel
theorem dX8_rub_31 : decode cX8_rub 31 = .ok (.aload_n 0, 1) := by decide +kernel
theorem dX8_rub_32 : decode cX8_rub 32 = .ok (.invokevirtual 120, 3) := by decide +kernel
theorem dX8_rub_35 : decode cX8_rub 35 = .ok (.aload_n 0, 1) := by decide +kernel
theorem dX8_rub_36 : decode cX8_rub 36 = .ok (.getfield 28, 3) := by decide +kernel
theorem dX8_rub_39 : decode cX8_rub 39 = .ok (.iconst 0, 1) := by decide +kernel
theorem dX8_rub_40 : decode cX8_rub 40 = .ok (.iload_n 1, 1) := by decide +kernel
theorem dX8_rub_41 : decode cX8_rub 41 = .ok (.iadd, 1) := by decide +kernel
theorem dX8_rub_42 : decode cX8_rub 42 = .ok (.iconst 0, 1) := by decide +kernel
theorem dX8_rub_43 : decode cX8_rub 43 = .ok (.iastore, 1) := by decide +kernel
theorem dX8_rub_44 : decode cX8_rub 44 = .ok (.aload_n 0, 1) := by decide +kernel
theorem dX8_rub_45 : decode cX8_rub 45 = .ok (.getfield 28, 3) := by decide +kernel
theorem dX8_rub_48 : decode cX8_rub 48 = .ok (.bipush 12, 2) := by decide +kernel
theorem dX8_rub_50 : decode cX8_rub 50 = .ok (.iload_n 1, 1) := by decide +kernel
theorem dX8_rub_51 : decode cX8_rub 51 = .ok (.iadd, 1) := by decide +kernel
theorem dX8_rub_52 : decode cX8_rub 52 = .ok (.bipush (-9), 2) := by decide +kernel
theorem dX8_rub_54 : decode cX8_rub 54 = .ok (.iastore, 1) := by decide +kernel
theorem dX8_rub_55 : decode cX8_rub 55 = .ok (.iload_n 2, 1) := by decide +kernel
theorem dX8_rub_56 : decode cX8_rub 56 = .ok (.ireturn, 1) := by decide +kernel
theorem dX8_change_0 : decode cX8_change 0 = .ok (.aload_n 0, 1) := by decide +kernel
theorem dX8_change_1 : decode cX8_change 1 = .ok (.iconst 0, 1) := by decide +kernel
theorem dX8_change_2 : decode cX8_change 2 = .ok (.putfield 60, 3) := by decide +kernel
theorem dX8_change_5 : decode cX8_change 5 = .ok (.aload_n 0, 1) := by decide +kernel
theorem dX8_change_6 : decode cX8_change 6 = .ok (.getfield 28, 3) := by decide +kernel
theorem dX8_change_9 : decode cX8_change 9 = .ok (.invokestatic 102, 3) := by decide +kernel
theorem dX8_change_12 : decode cX8_change 12 = .ok (.invokestatic 127, 3) := by decide +kernel
theorem dX8_change_15 : decode cX8_change 15 = .ok (.istore_n 1, 1) := by decide +kernel
theorem dX8_change_16 : decode cX8_change 16 = .ok (.iload_n 1, 1) := by decide +kernel
theorem dX8_change_17 : decode cX8_change 17 = .ok (.ifCond .ne 6, 3) := by decide +kernel
theorem dX8_change_20 : decode cX8_change 20 = .ok (.bipush (-3), 2) := by decide +kernel
theorem dX8_change_22 : decode cX8_change 22 = .ok (.ireturn, 1) := by decide +kernel
theorem dX8_change_23 : decode cX8_change 23 = .ok (.aload_n 0, 1) := by decide +kernel
theorem dX8_change_24 : decode cX8_change 24 = .ok (.invokevirtual 120, 3) := by decide +kernel
theorem dX8_change_27 : decode cX8_change 27 = .ok (.aload_n 0, 1) := by decide +kernel
theorem dX8_change_28 : decode cX8_change 28 = .ok (.getfield 28, 3) := by decide +kernel
theorem dX8_change_31 : decode cX8_change 31 = .ok (.invokestatic 56, 3) := by decide +kernel
theorem dX8_change_34 : decode cX8_change 34 = .ok (.iload_n 1, 1) := by decide +kernel
theorem dX8_change_35 : decode cX8_change 35 = .ok (.ireturn, 1) := by decide +kernel
theorem dX8_undo_0 : decode cX8_undo 0 = .ok (.aload_n 0, 1) := by decide +kernel
theorem dX8_undo_1 : decode cX8_undo 1 = .ok (.iconst 0, 1) := by decide +kernel
theorem dX8_undo_2 : decode cX8_undo 2 = .ok (.putfield 60, 3) := by decide +kernel
theorem dX8_undo_5 : decode cX8_undo 5 = .ok (.aload_n 0, 1) := by decide +kernel
theorem dX8_undo_6 : decode cX8_undo 6 = .ok (.getfield 92, 3) := by decide +kernel
theorem dX8_undo_9 : decode cX8_undo 9 = .ok (.ifCond .ne 6, 3) := by decide +kernel
theorem dX8_undo_12 : decode cX8_undo 12 = .ok (.bipush (-3), 2) := by decide +kernel
theorem dX8_undo_14 : decode cX8_undo 14 = .ok (.ireturn, 1) := by decide +kernel
theorem dX8_undo_15 : decode cX8_undo 15 = .ok (.aload_n 0, 1) := by decide +kernel
theorem dX8_undo_16 : decode cX8_undo 16 = .ok (.dup, 1) := by decide +kernel
theorem dX8_undo_17 : decode cX8_undo 17 = .ok (.getfield 92, 3) := by decide +kernel
theorem dX8_undo_20 : decode cX8_undo 20 = .ok (.iconst 1, 1) := by decide +kernel
theorem dX8_undo_21 : decode cX8_undo 21 = .ok (.isub, 1) := by decide +kernel
theorem dX8_undo_22 : decode cX8_undo 22 = .ok (.putfield 92, 3) := by decide +kernel
theorem dX8_undo_25 : decode cX8_undo 25 = .ok (.iconst 0, 1) := by decide +kernel
theorem dX8_undo_26 : decode cX8_undo 26 = .ok (.istore_n 1, 1) := by decide +kernel
theorem dX8_undo_27 : decode cX8_undo 27 = .ok (.iload_n 1, 1) := by decide +kernel
theorem dX8_undo_28 : decode cX8_undo 28 = .ok (.bipush 25, 2) := by decide +kernel
theorem dX8_undo_30 : decode cX8_undo 30 = .ok (.if_icmp .ge 29, 3) := by decide +kernel
theorem dX8_undo_33 : decode cX8_undo 33 = .ok (.aload_n 0, 1) := by decide +kernel
theorem dX8_undo_34 : decode cX8_undo 34 = .ok (.getfield 28, 3) := by decide +kernel
theorem dX8_undo_37 : decode cX8_undo 37 = .ok (.iload_n 1, 1) := by decide +kernel
theorem dX8_undo_38 : decode cX8_undo 38 = .ok (.aload_n 0, 1) := by decide +kernel
theorem dX8_undo_39 : decode cX8_undo 39 = .ok (.getfield 34, 3) := by decide +kernel
theorem dX8_undo_42 : decode cX8_undo 42 = .ok (.bipush 25, 2) := by decide +kernel
theorem dX8_undo_44 : decode cX8_undo 44 = .ok (.aload_n 0, 1) := by decide +kernel
theorem dX8_undo_45 : decode cX8_undo 45 = .ok (.getfield 92, 3) := by decide +kernel
theorem dX8_undo_48 : decode cX8_undo 48 = .ok (.imul, 1) := by decide +kernel
theorem dX8_undo_49 : decode cX8_undo 49 = .ok (.iload_n 1, 1) := by decide +kernel
theorem dX8_undo_50 : decode cX8_undo 50 = .ok (.iadd, 1) := by decide +kernel
theorem dX8_undo_51 : decode cX8_undo 51 = .ok (.iaload, 1) := by decide +kernel
theorem dX8_undo_52 : decode cX8_undo 52 = .ok (.iastore, 1) := by decide +kernel
theorem dX8_undo_53 : decode cX8_undo 53 = .ok (.iinc 1 1, 3) := by decide +kernel
theorem dX8_undo_56 : decode cX8_undo 56 = .ok (.goto (-29), 3) := by decide +kernel
theorem dX8_undo_59 : decode cX8_undo 59 = .ok (.aload_n 0, 1) := by decide +kernel
theorem dX8_undo_60 : decode cX8_undo 60 = .ok (.getfield 92, 3) := by decide +kernel
theorem dX8_undo_63 : decode cX8_undo 63 = .ok (.ireturn, 1) := by decide +kernel
theorem dX8_shownIn_0 : decode cX8_shownIn 0 = .ok (.iconst 0, 1) := by decide +kernel
theorem dX8_shownIn_1 : decode cX8_shownIn 1 = .ok (.istore_n 2, 1) := by decide +kernel
theorem dX8_shownIn_2 : decode cX8_shownIn 2 = .ok (.iconst 0, 1) := by decide +kernel
theorem dX8_shownIn_3 : decode cX8_shownIn 3 = .ok (.istore_n 3, 1) := by decide +kernel
theorem dX8_shownIn_4 : decode cX8_shownIn 4 = .ok (.iload_n 3, 1) := by decide +kernel
theorem dX8_shownIn_5 : decode cX8_shownIn 5 = .ok (.bipush 12, 2) := by decide +kernel
theorem dX8_shownIn_7 : decode cX8_shownIn 7 = .ok (.if_icmp .ge 31, 3) := by decide +kernel
theorem dX8_shownIn_10 : decode cX8_shownIn 10 = .ok (.iload_n 2, 1) := by decide +kernel
theorem dX8_shownIn_11 : decode cX8_shownIn 11 = .ok (.aload_n 0, 1) := by decide +kernel
theorem dX8_shownIn_12 : decode cX8_shownIn 12 = .ok (.getfield 28, 3) := by decide +kernel
theorem dX8_shownIn_15 : decode cX8_shownIn 15 = .ok (.iconst 0, 1) := by decide +kernel
theorem dX8_shownIn_16 : decode cX8_shownIn 16 = .ok (.iload_n 3, 1) := by decide +kernel
theorem dX8_shownIn_17 : decode cX8_shownIn 17 = .ok (.iadd, 1) := by decide +kernel
theorem dX8_shownIn_18 : decode cX8_shownIn 18 = .ok (.iaload, 1) := by decide +kernel
theorem dX8_shownIn_19 : decode cX8_shownIn 19 = .ok (.iload_n 1, 1) := by decide +kernel
theorem dX8_shownIn_20 : decode cX8_shownIn 20 = .ok (.if_icmp .le 9, 3) := by decide +kernel
theorem dX8_shownIn_23 : decode cX8_shownIn 23 = .ok (.iconst 1, 1) := by decide +kernel
theorem dX8_shownIn_24 : decode cX8_shownIn 24 = .ok (.iload_n 3, 1) := by decide +kernel
theorem dX8_shownIn_25 : decode cX8_shownIn 25 = .ok (.ishl, 1) := by decide +kernel
theorem dX8_shownIn_26 : decode cX8_shownIn 26 = .ok (.goto 4, 3) := by decide +kernel
theorem dX8_shownIn_29 : decode cX8_shownIn 29 = .ok (.iconst 0, 1) := by decide +kernel
theorem dX8_shownIn_30 : decode cX8_shownIn 30 = .ok (.ior, 1) := by decide +kernel
theorem dX8_shownIn_31 : decode cX8_shownIn 31 = .ok (.istore_n 2, 1) := by decide +kernel
theorem dX8_shownIn_32 : decode cX8_shownIn 32 = .ok (.iinc 3 1, 3) := by decide +kernel
theorem dX8_shownIn_35 : decode cX8_shownIn 35 = .ok (.goto (-31), 3) := by decide +kernel
theorem dX8_shownIn_38 : decode cX8_shownIn 38 = .ok (.iload_n 2, 1) := by decide +kernel
theorem dX8_shownIn_39 : decode cX8_shownIn 39 = .ok (.ireturn, 1) := by decide +kernel
theorem dX8_later_0 : decode cX8_later 0 = .ok (.aload_n 0, 1) := by decide +kernel
theorem dX8_later_1 : decode cX8_later 1 = .ok (.iconst 0, 1) := by decide +kernel
theorem dX8_later_2 : decode cX8_later 2 = .ok (.putfield 60, 3) := by decide +kernel
theorem dX8_later_5 : decode cX8_later 5 = .ok (.iload_n 1, 1) := by decide +kernel
theorem dX8_later_6 : decode cX8_later 6 = .ok (.i2l, 1) := by decide +kernel
theorem dX8_later_7 : decode cX8_later 7 = .ok (.lconst 0, 1) := by decide +kernel
theorem dX8_later_8 : decode cX8_later 8 = .ok (.ldc2_w 133, 3) := by decide +kernel
theorem dX8_later_11 : decode cX8_later 11 = .ok (.invokestatic 67, 3) := by decide +kernel
theorem dX8_later_14 : decode cX8_later 14 = .ok (.ifCond .eq 11, 3) := by decide +kernel
theorem dX8_later_17 : decode cX8_later 17 = .ok (.aload_n 0, 1) := by decide +kernel
theorem dX8_later_18 : decode cX8_later 18 = .ok (.iload_n 1, 1) := by decide +kernel
theorem dX8_later_19 : decode cX8_later 19 = .ok (.invokevirtual 135, 3) := by decide +kernel
theorem dX8_later_22 : decode cX8_later 22 = .ok (.goto 5, 3) := by decide +kernel
theorem dX8_later_25 : decode cX8_later 25 = .ok (.bipush (-2), 2) := by decide +kernel
theorem dX8_later_27 : decode cX8_later 27 = .ok (.ireturn, 1) := by decide +kernel
theorem dX8_lasts_0 : decode cX8_lasts 0 = .ok (.aload_n 0, 1) := by decide +kernel
theorem dX8_lasts_1 : decode cX8_lasts 1 = .ok (.iconst 0, 1) := by decide +kernel
theorem dX8_lasts_2 : decode cX8_lasts 2 = .ok (.putfield 60, 3) := by decide +kernel
theorem dX8_lasts_5 : decode cX8_lasts 5 = .ok (.aload_n 0, 1) := by decide +kernel
theorem dX8_lasts_6 : decode cX8_lasts 6 = .ok (.iload_n 1, 1) := by decide +kernel
theorem dX8_lasts_7 : decode cX8_lasts 7 = .ok (.invokevirtual 113, 3) := by decide +kernel
theorem dX8_lasts_10 : decode cX8_lasts 10 = .ok (.ifCond .eq 5, 3) := by decide +kernel
theorem dX8_lasts_13 : decode cX8_lasts 13 = .ok (.iconst (-1), 1) := by decide +kernel
theorem dX8_lasts_14 : decode cX8_lasts 14 = .ok (.ireturn, 1) := by decide +kernel
theorem dX8_lasts_15 : decode cX8_lasts 15 = .ok (.iconst 0, 1) := by decide +kernel
theorem dX8_lasts_16 : decode cX8_lasts 16 = .ok (.istore_n 2, 1) := by decide +kernel
theorem dX8_lasts_17 : decode cX8_lasts 17 = .ok (.aload_n 0, 1) := by decide +kernel
theorem dX8_lasts_18 : decode cX8_lasts 18 = .ok (.iload_n 1, 1) := by decide +kernel
theorem dX8_lasts_19 : decode cX8_lasts 19 = .ok (.aload_n 0, 1) := by decide +kernel
theorem dX8_lasts_20 : decode cX8_lasts 20 = .ok (.iload_n 2, 1) := by decide +kernel
theorem dX8_lasts_21 : decode cX8_lasts 21 = .ok (.invokevirtual 135, 3) := by decide +kernel
theorem dX8_lasts_24 : decode cX8_lasts 24 = .ok (.invokevirtual 95, 3) := by decide +kernel
theorem dX8_lasts_27 : decode cX8_lasts 27 = .ok (.ifCond .eq 9, 3) := by decide +kernel
theorem dX8_lasts_30 : decode cX8_lasts 30 = .ok (.iinc 2 1, 3) := by decide +kernel
theorem dX8_lasts_33 : decode cX8_lasts 33 = .ok (.goto (-16), 3) := by decide +kernel
theorem dX8_lasts_36 : decode cX8_lasts 36 = .ok (.iload_n 2, 1) := by decide +kernel
theorem dX8_lasts_37 : decode cX8_lasts 37 = .ok (.ireturn, 1) := by decide +kernel
theorem dX8_showsBy_0 : decode cX8_showsBy 0 = .ok (.iconst 0, 1) := by decide +kernel
theorem dX8_showsBy_1 : decode cX8_showsBy 1 = .ok (.istore_n 2, 1) := by decide +kernel
theorem dX8_showsBy_2 : decode cX8_showsBy 2 = .ok (.iconst 0, 1) := by decide +kernel
theorem dX8_showsBy_3 : decode cX8_showsBy 3 = .ok (.istore_n 3, 1) := by decide +kernel
theorem dX8_showsBy_4 : decode cX8_showsBy 4 = .ok (.iload_n 3, 1) := by decide +kernel
theorem dX8_showsBy_5 : decode cX8_showsBy 5 = .ok (.aload_n 0, 1) := by decide +kernel
theorem dX8_showsBy_6 : decode cX8_showsBy 6 = .ok (.getfield 64, 3) := by decide +kernel
theorem dX8_showsBy_9 : decode cX8_showsBy 9 = .ok (.if_icmp .ge 39, 3) := by decide +kernel
theorem dX8_showsBy_12 : decode cX8_showsBy 12 = .ok (.iload_n 2, 1) := by decide +kernel
theorem dX8_showsBy_13 : decode cX8_showsBy 13 = .ok (.iload_n 1, 1) := by decide +kernel
theorem dX8_showsBy_14 : decode cX8_showsBy 14 = .ok (.iload_n 3, 1) := by decide +kernel
theorem dX8_showsBy_15 : decode cX8_showsBy 15 = .ok (.invokestatic 99, 3) := by decide +kernel
theorem dX8_showsBy_18 : decode cX8_showsBy 18 = .ok (.ifCond .eq 21, 3) := by decide +kernel
theorem dX8_showsBy_21 : decode cX8_showsBy 21 = .ok (.aload_n 0, 1) := by decide +kernel
theorem dX8_showsBy_22 : decode cX8_showsBy 22 = .ok (.getfield 19, 3) := by decide +kernel
theorem dX8_showsBy_25 : decode cX8_showsBy 25 = .ok (.iload_n 3, 1) := by decide +kernel
theorem dX8_showsBy_26 : decode cX8_showsBy 26 = .ok (.iaload, 1) := by decide +kernel
theorem dX8_showsBy_27 : decode cX8_showsBy 27 = .ok (.ifCond .le 12, 3) := by decide +kernel
theorem dX8_showsBy_30 : decode cX8_showsBy 30 = .ok (.aload_n 0, 1) := by decide +kernel
theorem dX8_showsBy_31 : decode cX8_showsBy 31 = .ok (.getfield 22, 3) := by decide +kernel
theorem dX8_showsBy_34 : decode cX8_showsBy 34 = .ok (.iload_n 3, 1) := by decide +kernel
theorem dX8_showsBy_35 : decode cX8_showsBy 35 = .ok (.iaload, 1) := by decide +kernel
theorem dX8_showsBy_36 : decode cX8_showsBy 36 = .ok (.goto 4, 3) := by decide +kernel
theorem dX8_showsBy_39 : decode cX8_showsBy 39 = .ok (.iconst 0, 1) := by decide +kernel
theorem dX8_showsBy_40 : decode cX8_showsBy 40 = .ok (.ior, 1) := by decide +kernel
theorem dX8_showsBy_41 : decode cX8_showsBy 41 = .ok (.istore_n 2, 1) := by decide +kernel
theorem dX8_showsBy_42 : decode cX8_showsBy 42 = .ok (.iinc 3 1, 3) := by decide +kernel
theorem dX8_showsBy_45 : decode cX8_showsBy 45 = .ok (.goto (-41), 3) := by decide +kernel
theorem dX8_showsBy_48 : decode cX8_showsBy 48 = .ok (.iload_n 2, 1) := by decide +kernel
theorem dX8_showsBy_49 : decode cX8_showsBy 49 = .ok (.ireturn, 1) := by decide +kernel
theorem dX8_shows_0 : decode cX8_shows 0 = .ok (.aload_n 0, 1) := by decide +kernel
theorem dX8_shows_1 : decode cX8_shows 1 = .ok (.iconst 0, 1) := by decide +kernel
theorem dX8_shows_2 : decode cX8_shows 2 = .ok (.putfield 60, 3) := by decide +kernel
theorem dX8_shows_5 : decode cX8_shows 5 = .ok (.iload_n 1, 1) := by decide +kernel
theorem dX8_shows_6 : decode cX8_shows 6 = .ok (.i2l, 1) := by decide +kernel
theorem dX8_shows_7 : decode cX8_shows 7 = .ok (.lconst 0, 1) := by decide +kernel
theorem dX8_shows_8 : decode cX8_shows 8 = .ok (.aload_n 0, 1) := by decide +kernel
theorem dX8_shows_9 : decode cX8_shows 9 = .ok (.invokevirtual 138, 3) := by decide +kernel
theorem dX8_shows_12 : decode cX8_shows 12 = .ok (.i2l, 1) := by decide +kernel
theorem dX8_shows_13 : decode cX8_shows 13 = .ok (.invokestatic 67, 3) := by decide +kernel
theorem dX8_shows_16 : decode cX8_shows 16 = .ok (.ifCond .eq 11, 3) := by decide +kernel
theorem dX8_shows_19 : decode cX8_shows 19 = .ok (.aload_n 0, 1) := by decide +kernel
theorem dX8_shows_20 : decode cX8_shows 20 = .ok (.iload_n 1, 1) := by decide +kernel
theorem dX8_shows_21 : decode cX8_shows 21 = .ok (.invokevirtual 141, 3) := by decide +kernel
theorem dX8_shows_24 : decode cX8_shows 24 = .ok (.goto 5, 3) := by decide +kernel
theorem dX8_shows_27 : decode cX8_shows 27 = .ok (.bipush (-2), 2) := by decide +kernel
theorem dX8_shows_29 : decode cX8_shows 29 = .ok (.ireturn, 1) := by decide +kernel
theorem dX8_found_0 : decode cX8_found 0 = .ok (.iload_n 1, 1) := by decide +kernel
theorem dX8_found_1 : decode cX8_found 1 = .ok (.ifCond .ne 10, 3) := by decide +kernel
theorem dX8_found_4 : decode cX8_found 4 = .ok (.aload_n 0, 1) := by decide +kernel
theorem dX8_found_5 : decode cX8_found 5 = .ok (.getfield 144, 3) := by decide +kernel
theorem dX8_found_8 : decode cX8_found 8 = .ok (.goto 31, 3) := by decide +kernel
theorem dX8_found_11 : decode cX8_found 11 = .ok (.aload_n 0, 1) := by decide +kernel
theorem dX8_found_12 : decode cX8_found 12 = .ok (.getfield 144, 3) := by decide +kernel
theorem dX8_found_15 : decode cX8_found 15 = .ok (.ifCond .ne 8, 3) := by decide +kernel
theorem dX8_found_18 : decode cX8_found 18 = .ok (.bipush (-9), 2) := by decide +kernel
theorem dX8_found_20 : decode cX8_found 20 = .ok (.goto 19, 3) := by decide +kernel
theorem dX8_found_23 : decode cX8_found 23 = .ok (.iload_n 1, 1) := by decide +kernel
theorem dX8_found_24 : decode cX8_found 24 = .ok (.iconst 1, 1) := by decide +kernel
theorem dX8_found_25 : decode cX8_found 25 = .ok (.if_icmp .ne 10, 3) := by decide +kernel
theorem dX8_found_28 : decode cX8_found 28 = .ok (.aload_n 0, 1) := by decide +kernel
theorem dX8_found_29 : decode cX8_found 29 = .ok (.getfield 147, 3) := by decide +kernel
theorem dX8_found_32 : decode cX8_found 32 = .ok (.goto 7, 3) := by decide +kernel
theorem dX8_found_35 : decode cX8_found 35 = .ok (.aload_n 0, 1) := by decide +kernel
theorem dX8_found_36 : decode cX8_found 36 = .ok (.getfield 150, 3) := by decide +kernel
theorem dX8_found_39 : decode cX8_found 39 = .ok (.ireturn, 1) := by decide +kernel
theorem dX8_fits_0 : decode cX8_fits 0 = .ok (.aload_n 0, 1) := by decide +kernel
theorem dX8_fits_1 : decode cX8_fits 1 = .ok (.iconst 0, 1) := by decide +kernel
theorem dX8_fits_2 : decode cX8_fits 2 = .ok (.putfield 60, 3) := by decide +kernel
theorem dX8_fits_5 : decode cX8_fits 5 = .ok (.iload_n 1, 1) := by decide +kernel
theorem dX8_fits_6 : decode cX8_fits 6 = .ok (.i2l, 1) := by decide +kernel
theorem dX8_fits_7 : decode cX8_fits 7 = .ok (.lconst 0, 1) := by decide +kernel
theorem dX8_fits_8 : decode cX8_fits 8 = .ok (.ldc2_w 153, 3) := by decide +kernel
theorem dX8_fits_11 : decode cX8_fits 11 = .ok (.invokestatic 67, 3) := by decide +kernel
theorem dX8_fits_14 : decode cX8_fits 14 = .ok (.ifCond .ne 6, 3) := by decide +kernel
theorem dX8_fits_17 : decode cX8_fits 17 = .ok (.bipush (-2), 2) := by decide +kernel
theorem dX8_fits_19 : decode cX8_fits 19 = .ok (.ireturn, 1) := by decide +kernel
theorem dX8_fits_20 : decode cX8_fits 20 = .ok (.aload_n 0, 1) := by decide +kernel
theorem dX8_fits_21 : decode cX8_fits 21 = .ok (.iconst 0, 1) := by decide +kernel
theorem dX8_fits_22 : decode cX8_fits 22 = .ok (.putfield 144, 3) := by decide +kernel
theorem dX8_fits_25 : decode cX8_fits 25 = .ok (.aload_n 0, 1) := by decide +kernel
theorem dX8_fits_26 : decode cX8_fits 26 = .ok (.aload_n 0, 1) := by decide +kernel
theorem dX8_fits_27 : decode cX8_fits 27 = .ok (.invokevirtual 138, 3) := by decide +kernel
theorem dX8_fits_30 : decode cX8_fits 30 = .ok (.putfield 147, 3) := by decide +kernel
theorem dX8_fits_33 : decode cX8_fits 33 = .ok (.aload_n 0, 1) := by decide +kernel
theorem dX8_fits_34 : decode cX8_fits 34 = .ok (.aload_n 0, 1) := by decide +kernel
theorem dX8_fits_35 : decode cX8_fits 35 = .ok (.invokevirtual 138, 3) := by decide +kernel
theorem dX8_fits_38 : decode cX8_fits 38 = .ok (.putfield 150, 3) := by decide +kernel
theorem dX8_fits_41 : decode cX8_fits 41 = .ok (.iconst 0, 1) := by decide +kernel
theorem dX8_fits_42 : decode cX8_fits 42 = .ok (.istore_n 2, 1) := by decide +kernel
theorem dX8_fits_43 : decode cX8_fits 43 = .ok (.iload_n 2, 1) := by decide +kernel
theorem dX8_fits_44 : decode cX8_fits 44 = .ok (.aload_n 0, 1) := by decide +kernel
theorem dX8_fits_45 : decode cX8_fits 45 = .ok (.invokevirtual 138, 3) := by decide +kernel
theorem dX8_fits_48 : decode cX8_fits 48 = .ok (.if_icmp .gt 56, 3) := by decide +kernel
theorem dX8_fits_51 : decode cX8_fits 51 = .ok (.aload_n 0, 1) := by decide +kernel
theorem dX8_fits_52 : decode cX8_fits 52 = .ok (.iload_n 2, 1) := by decide +kernel
theorem dX8_fits_53 : decode cX8_fits 53 = .ok (.invokevirtual 141, 3) := by decide +kernel
theorem dX8_fits_56 : decode cX8_fits 56 = .ok (.aload_n 0, 1) := by decide +kernel
theorem dX8_fits_57 : decode cX8_fits 57 = .ok (.getfield 28, 3) := by decide +kernel
theorem dX8_fits_60 : decode cX8_fits 60 = .ok (.invokestatic 102, 3) := by decide +kernel
theorem dX8_fits_63 : decode cX8_fits 63 = .ok (.if_icmp .ne 35, 3) := by decide +kernel
theorem dX8_fits_66 : decode cX8_fits 66 = .ok (.aload_n 0, 1) := by decide +kernel
theorem dX8_fits_67 : decode cX8_fits 67 = .ok (.dup, 1) := by decide +kernel
theorem dX8_fits_68 : decode cX8_fits 68 = .ok (.getfield 144, 3) := by decide +kernel
theorem dX8_fits_71 : decode cX8_fits 71 = .ok (.iconst 1, 1) := by decide +kernel
theorem dX8_fits_72 : decode cX8_fits 72 = .ok (.iadd, 1) := by decide +kernel
theorem dX8_fits_73 : decode cX8_fits 73 = .ok (.putfield 144, 3) := by decide +kernel
theorem dX8_fits_76 : decode cX8_fits 76 = .ok (.aload_n 0, 1) := by decide +kernel
theorem dX8_fits_77 : decode cX8_fits 77 = .ok (.dup, 1) := by decide +kernel
theorem dX8_fits_78 : decode cX8_fits 78 = .ok (.getfield 147, 3) := by decide +kernel
theorem dX8_fits_81 : decode cX8_fits 81 = .ok (.iload_n 2, 1) := by decide +kernel
theorem dX8_fits_82 : decode cX8_fits 82 = .ok (.iand, 1) := by decide +kernel
theorem dX8_fits_83 : decode cX8_fits 83 = .ok (.putfield 147, 3) := by decide +kernel
theorem dX8_fits_86 : decode cX8_fits 86 = .ok (.aload_n 0, 1) := by decide +kernel
theorem dX8_fits_87 : decode cX8_fits 87 = .ok (.dup, 1) := by decide +kernel
theorem dX8_fits_88 : decode cX8_fits 88 = .ok (.getfield 150, 3) := by decide +kernel
theorem dX8_fits_91 : decode cX8_fits 91 = .ok (.iload_n 2, 1) := by decide +kernel
theorem dX8_fits_92 : decode cX8_fits 92 = .ok (.iconst (-1), 1) := by decide +kernel
theorem dX8_fits_93 : decode cX8_fits 93 = .ok (.ixor, 1) := by decide +kernel
theorem dX8_fits_94 : decode cX8_fits 94 = .ok (.iand, 1) := by decide +kernel
theorem dX8_fits_95 : decode cX8_fits 95 = .ok (.putfield 150, 3) := by decide +kernel
theorem dX8_fits_98 : decode cX8_fits 98 = .ok (.iinc 2 1, 3) := by decide +kernel
theorem dX8_fits_101 : decode cX8_fits 101 = .ok (.goto (-58), 3) := by decide +kernel
theorem dX8_fits_104 : decode cX8_fits 104 = .ok (.aload_n 0, 1) := by decide +kernel
theorem dX8_fits_105 : decode cX8_fits 105 = .ok (.iload_n 1, 1) := by decide +kernel
theorem dX8_fits_106 : decode cX8_fits 106 = .ok (.invokevirtual 155, 3) := by decide +kernel
theorem dX8_fits_109 : decode cX8_fits 109 = .ok (.ireturn, 1) := by decide +kernel
theorem dX8_keeps_0 : decode cX8_keeps 0 = .ok (.aload_n 0, 1) := by decide +kernel
theorem dX8_keeps_1 : decode cX8_keeps 1 = .ok (.iconst 0, 1) := by decide +kernel
theorem dX8_keeps_2 : decode cX8_keeps 2 = .ok (.putfield 60, 3) := by decide +kernel
theorem dX8_keeps_5 : decode cX8_keeps 5 = .ok (.iload_n 1, 1) := by decide +kernel
theorem dX8_keeps_6 : decode cX8_keeps 6 = .ok (.i2l, 1) := by decide +kernel
theorem dX8_keeps_7 : decode cX8_keeps 7 = .ok (.lconst 0, 1) := by decide +kernel
theorem dX8_keeps_8 : decode cX8_keeps 8 = .ok (.lconst 1, 1) := by decide +kernel
theorem dX8_keeps_9 : decode cX8_keeps 9 = .ok (.invokestatic 67, 3) := by decide +kernel
theorem dX8_keeps_12 : decode cX8_keeps 12 = .ok (.ifCond .ne 6, 3) := by decide +kernel
theorem dX8_keeps_15 : decode cX8_keeps 15 = .ok (.bipush (-2), 2) := by decide +kernel
theorem dX8_keeps_17 : decode cX8_keeps 17 = .ok (.ireturn, 1) := by decide +kernel
theorem dX8_keeps_18 : decode cX8_keeps 18 = .ok (.iconst 0, 1) := by decide +kernel
theorem dX8_keeps_19 : decode cX8_keeps 19 = .ok (.istore_n 2, 1) := by decide +kernel
theorem dX8_keeps_20 : decode cX8_keeps 20 = .ok (.iconst 0, 1) := by decide +kernel
theorem dX8_keeps_21 : decode cX8_keeps 21 = .ok (.istore_n 3, 1) := by decide +kernel
theorem dX8_keeps_22 : decode cX8_keeps 22 = .ok (.iconst 1, 1) := by decide +kernel
theorem dX8_keeps_23 : decode cX8_keeps 23 = .ok (.istore 4, 2) := by decide +kernel
theorem dX8_keeps_25 : decode cX8_keeps 25 = .ok (.iload 4, 2) := by decide +kernel
theorem dX8_keeps_27 : decode cX8_keeps 27 = .ok (.aload_n 0, 1) := by decide +kernel
theorem dX8_keeps_28 : decode cX8_keeps 28 = .ok (.invokevirtual 138, 3) := by decide +kernel
theorem dX8_keeps_31 : decode cX8_keeps 31 = .ok (.if_icmp .gt 82, 3) := by decide +kernel
theorem dX8_keeps_34 : decode cX8_keeps 34 = .ok (.aload_n 0, 1) := by decide +kernel
theorem dX8_keeps_35 : decode cX8_keeps 35 = .ok (.aload_n 0, 1) := by decide +kernel
theorem dX8_keeps_36 : decode cX8_keeps 36 = .ok (.iload 4, 2) := by decide +kernel
theorem dX8_keeps_38 : decode cX8_keeps 38 = .ok (.invokevirtual 141, 3) := by decide +kernel
theorem dX8_keeps_41 : decode cX8_keeps 41 = .ok (.invokevirtual 106, 3) := by decide +kernel
theorem dX8_keeps_44 : decode cX8_keeps 44 = .ok (.iload 4, 2) := by decide +kernel
theorem dX8_keeps_46 : decode cX8_keeps 46 = .ok (.iand, 1) := by decide +kernel
theorem dX8_keeps_47 : decode cX8_keeps 47 = .ok (.invokestatic 127, 3) := by decide +kernel
theorem dX8_keeps_50 : decode cX8_keeps 50 = .ok (.istore 5, 2) := by decide +kernel
theorem dX8_keeps_52 : decode cX8_keeps 52 = .ok (.iload 5, 2) := by decide +kernel
theorem dX8_keeps_54 : decode cX8_keeps 54 = .ok (.iload_n 3, 1) := by decide +kernel
theorem dX8_keeps_55 : decode cX8_keeps 55 = .ok (.if_icmp .gt 21, 3) := by decide +kernel
theorem dX8_keeps_58 : decode cX8_keeps 58 = .ok (.iload 5, 2) := by decide +kernel
theorem dX8_keeps_60 : decode cX8_keeps 60 = .ok (.iload_n 3, 1) := by decide +kernel
theorem dX8_keeps_61 : decode cX8_keeps 61 = .ok (.if_icmp .ne 19, 3) := by decide +kernel
theorem dX8_keeps_64 : decode cX8_keeps 64 = .ok (.iload 4, 2) := by decide +kernel
theorem dX8_keeps_66 : decode cX8_keeps 66 = .ok (.invokestatic 127, 3) := by decide +kernel
theorem dX8_keeps_69 : decode cX8_keeps 69 = .ok (.iload_n 2, 1) := by decide +kernel
theorem dX8_keeps_70 : decode cX8_keeps 70 = .ok (.invokestatic 127, 3) := by decide +kernel
theorem dX8_keeps_73 : decode cX8_keeps 73 = .ok (.if_icmp .ge 7, 3) := by decide +kernel
theorem dX8_keeps_76 : decode cX8_keeps 76 = .ok (.iconst 1, 1) := by decide +kernel
theorem dX8_keeps_77 : decode cX8_keeps 77 = .ok (.goto 4, 3) := by decide +kernel
theorem dX8_keeps_80 : decode cX8_keeps 80 = .ok (.iconst 0, 1) := by decide +kernel
theorem dX8_keeps_81 : decode cX8_keeps 81 = .ok (.istore 6, 2) := by decide +kernel
theorem dX8_keeps_83 : decode cX8_keeps 83 = .ok (.iload 6, 2) := by decide +kernel
theorem dX8_keeps_85 : decode cX8_keeps 85 = .ok (.ifCond .eq 8, 3) := by decide +kernel
theorem dX8_keeps_88 : decode cX8_keeps 88 = .ok (.iload 4, 2) := by decide +kernel
theorem dX8_keeps_90 : decode cX8_keeps 90 = .ok (.goto 4, 3) := by decide +kernel
theorem dX8_keeps_93 : decode cX8_keeps 93 = .ok (.iload_n 2, 1) := by decide +kernel
theorem dX8_keeps_94 : decode cX8_keeps 94 = .ok (.istore_n 2, 1) := by decide +kernel
theorem dX8_keeps_95 : decode cX8_keeps 95 = .ok (.iload 6, 2) := by decide +kernel
theorem dX8_keeps_97 : decode cX8_keeps 97 = .ok (.ifCond .eq 8, 3) := by decide +kernel
theorem dX8_keeps_100 : decode cX8_keeps 100 = .ok (.iload 5, 2) := by decide +kernel
theorem dX8_keeps_102 : decode cX8_keeps 102 = .ok (.goto 4, 3) := by decide +kernel
theorem dX8_keeps_105 : decode cX8_keeps 105 = .ok (.iload_n 3, 1) := by decide +kernel
theorem dX8_keeps_106 : decode cX8_keeps 106 = .ok (.istore_n 3, 1) := by decide +kernel
theorem dX8_keeps_107 : decode cX8_keeps 107 = .ok (.iinc 4 1, 3) := by decide +kernel
theorem dX8_keeps_110 : decode cX8_keeps 110 = .ok (.goto (-85), 3) := by decide +kernel
theorem dX8_keeps_113 : decode cX8_keeps 113 = .ok (.iload_n 1, 1) := by decide +kernel
theorem dX8_keeps_114 : decode cX8_keeps 114 = .ok (.ifCond .ne 7, 3) := by decide +kernel
theorem dX8_keeps_117 : decode cX8_keeps 117 = .ok (.iload_n 3, 1) := by decide +kernel
theorem dX8_keeps_118 : decode cX8_keeps 118 = .ok (.goto 4, 3) := by decide +kernel
theorem dX8_keeps_121 : decode cX8_keeps 121 = .ok (.iload_n 2, 1) := by decide +kernel
theorem dX8_keeps_122 : decode cX8_keeps 122 = .ok (.ireturn, 1) := by decide +kernel
theorem dX8_power_0 : decode cX8_power 0 = .ok (.iconst 1, 1) := by decide +kernel
theorem dX8_power_1 : decode cX8_power 1 = .ok (.istore_n 2, 1) := by decide +kernel
theorem dX8_power_2 : decode cX8_power 2 = .ok (.iconst 0, 1) := by decide +kernel
theorem dX8_power_3 : decode cX8_power 3 = .ok (.istore_n 3, 1) := by decide +kernel
theorem dX8_power_4 : decode cX8_power 4 = .ok (.iload_n 3, 1) := by decide +kernel
theorem dX8_power_5 : decode cX8_power 5 = .ok (.iload_n 1, 1) := by decide +kernel
theorem dX8_power_6 : decode cX8_power 6 = .ok (.if_icmp .ge 13, 3) := by decide +kernel
theorem dX8_power_9 : decode cX8_power 9 = .ok (.iload_n 2, 1) := by decide +kernel
theorem dX8_power_10 : decode cX8_power 10 = .ok (.iload_n 0, 1) := by decide +kernel
theorem dX8_power_11 : decode cX8_power 11 = .ok (.imul, 1) := by decide +kernel
theorem dX8_power_12 : decode cX8_power 12 = .ok (.istore_n 2, 1) := by decide +kernel
theorem dX8_power_13 : decode cX8_power 13 = .ok (.iinc 3 1, 3) := by decide +kernel
theorem dX8_power_16 : decode cX8_power 16 = .ok (.goto (-12), 3) := by decide +kernel
theorem dX8_power_19 : decode cX8_power 19 = .ok (.iload_n 2, 1) := by decide +kernel
theorem dX8_power_20 : decode cX8_power 20 = .ok (.ireturn, 1) := by decide +kernel
theorem dX8_isInk_0 : decode cX8_isInk 0 = .ok (.iconst 1, 1) := by decide +kernel
theorem dX8_isInk_1 : decode cX8_isInk 1 = .ok (.istore_n 2, 1) := by decide +kernel
theorem dX8_isInk_2 : decode cX8_isInk 2 = .ok (.iconst 0, 1) := by decide +kernel
theorem dX8_isInk_3 : decode cX8_isInk 3 = .ok (.istore_n 3, 1) := by decide +kernel
theorem dX8_isInk_4 : decode cX8_isInk 4 = .ok (.iload_n 3, 1) := by decide +kernel
theorem dX8_isInk_5 : decode cX8_isInk 5 = .ok (.bipush 12, 2) := by decide +kernel
theorem dX8_isInk_7 : decode cX8_isInk 7 = .ok (.if_icmp .ge 106, 3) := by decide +kernel
theorem dX8_isInk_10 : decode cX8_isInk 10 = .ok (.iload_n 2, 1) := by decide +kernel
theorem dX8_isInk_11 : decode cX8_isInk 11 = .ok (.ifCond .eq 102, 3) := by decide +kernel
theorem dX8_isInk_14 : decode cX8_isInk 14 = .ok (.iconst 0, 1) := by decide +kernel
theorem dX8_isInk_15 : decode cX8_isInk 15 = .ok (.istore 4, 2) := by decide +kernel
theorem dX8_isInk_17 : decode cX8_isInk 17 = .ok (.iconst 0, 1) := by decide +kernel
theorem dX8_isInk_18 : decode cX8_isInk 18 = .ok (.istore 5, 2) := by decide +kernel
theorem dX8_isInk_20 : decode cX8_isInk 20 = .ok (.iload 5, 2) := by decide +kernel
theorem dX8_isInk_22 : decode cX8_isInk 22 = .ok (.aload_n 0, 1) := by decide +kernel
theorem dX8_isInk_23 : decode cX8_isInk 23 = .ok (.getfield 64, 3) := by decide +kernel
theorem dX8_isInk_26 : decode cX8_isInk 26 = .ok (.if_icmp .ge 50, 3) := by decide +kernel
theorem dX8_isInk_29 : decode cX8_isInk 29 = .ok (.iload 4, 2) := by decide +kernel
theorem dX8_isInk_31 : decode cX8_isInk 31 = .ok (.aload_n 0, 1) := by decide +kernel
theorem dX8_isInk_32 : decode cX8_isInk 32 = .ok (.getfield 22, 3) := by decide +kernel
theorem dX8_isInk_35 : decode cX8_isInk 35 = .ok (.iload 5, 2) := by decide +kernel
theorem dX8_isInk_37 : decode cX8_isInk 37 = .ok (.iaload, 1) := by decide +kernel
theorem dX8_isInk_38 : decode cX8_isInk 38 = .ok (.iload_n 3, 1) := by decide +kernel
theorem dX8_isInk_39 : decode cX8_isInk 39 = .ok (.invokestatic 99, 3) := by decide +kernel
theorem dX8_isInk_42 : decode cX8_isInk 42 = .ok (.ifCond .eq 24, 3) := by decide +kernel
theorem dX8_isInk_45 : decode cX8_isInk 45 = .ok (.iload_n 1, 1) := by decide +kernel
theorem dX8_isInk_46 : decode cX8_isInk 46 = .ok (.iconst 3, 1) := by decide +kernel
theorem dX8_isInk_47 : decode cX8_isInk 47 = .ok (.iload 5, 2) := by decide +kernel
theorem dX8_isInk_49 : decode cX8_isInk 49 = .ok (.invokestatic 158, 3) := by decide +kernel
theorem dX8_isInk_52 : decode cX8_isInk 52 = .ok (.idiv, 1) := by decide +kernel
theorem dX8_isInk_53 : decode cX8_isInk 53 = .ok (.iconst 3, 1) := by decide +kernel
theorem dX8_isInk_54 : decode cX8_isInk 54 = .ok (.irem, 1) := by decide +kernel
theorem dX8_isInk_55 : decode cX8_isInk 55 = .ok (.aload_n 0, 1) := by decide +kernel
theorem dX8_isInk_56 : decode cX8_isInk 56 = .ok (.getfield 19, 3) := by decide +kernel
theorem dX8_isInk_59 : decode cX8_isInk 59 = .ok (.iload 5, 2) := by decide +kernel
theorem dX8_isInk_61 : decode cX8_isInk 61 = .ok (.iaload, 1) := by decide +kernel
theorem dX8_isInk_62 : decode cX8_isInk 62 = .ok (.imul, 1) := by decide +kernel
theorem dX8_isInk_63 : decode cX8_isInk 63 = .ok (.goto 4, 3) := by decide +kernel
theorem dX8_isInk_66 : decode cX8_isInk 66 = .ok (.iconst 0, 1) := by decide +kernel
theorem dX8_isInk_67 : decode cX8_isInk 67 = .ok (.iadd, 1) := by decide +kernel
theorem dX8_isInk_68 : decode cX8_isInk 68 = .ok (.istore 4, 2) := by decide +kernel
theorem dX8_isInk_70 : decode cX8_isInk 70 = .ok (.iinc 5 1, 3) := by decide +kernel
theorem dX8_isInk_73 : decode cX8_isInk 73 = .ok (.goto (-53), 3) := by decide +kernel
theorem dX8_isInk_76 : decode cX8_isInk 76 = .ok (.iload 4, 2) := by decide +kernel
theorem dX8_isInk_78 : decode cX8_isInk 78 = .ok (.bipush 9, 2) := by decide +kernel
theorem dX8_isInk_80 : decode cX8_isInk 80 = .ok (.if_icmp .le 8, 3) := by decide +kernel
theorem dX8_isInk_83 : decode cX8_isInk 83 = .ok (.bipush 9, 2) := by decide +kernel
theorem dX8_isInk_85 : decode cX8_isInk 85 = .ok (.goto 5, 3) := by decide +kernel
theorem dX8_isInk_88 : decode cX8_isInk 88 = .ok (.iload 4, 2) := by decide +kernel
theorem dX8_isInk_90 : decode cX8_isInk 90 = .ok (.aload_n 0, 1) := by decide +kernel
theorem dX8_isInk_91 : decode cX8_isInk 91 = .ok (.getfield 28, 3) := by decide +kernel
theorem dX8_isInk_94 : decode cX8_isInk 94 = .ok (.iconst 0, 1) := by decide +kernel
theorem dX8_isInk_95 : decode cX8_isInk 95 = .ok (.iload_n 3, 1) := by decide +kernel
theorem dX8_isInk_96 : decode cX8_isInk 96 = .ok (.iadd, 1) := by decide +kernel
theorem dX8_isInk_97 : decode cX8_isInk 97 = .ok (.iaload, 1) := by decide +kernel
theorem dX8_isInk_98 : decode cX8_isInk 98 = .ok (.if_icmp .ne 7, 3) := by decide +kernel
theorem dX8_isInk_101 : decode cX8_isInk 101 = .ok (.iconst 1, 1) := by decide +kernel
theorem dX8_isInk_102 : decode cX8_isInk 102 = .ok (.goto 4, 3) := by decide +kernel
theorem dX8_isInk_105 : decode cX8_isInk 105 = .ok (.iconst 0, 1) := by decide +kernel
theorem dX8_isInk_106 : decode cX8_isInk 106 = .ok (.istore_n 2, 1) := by decide +kernel
theorem dX8_isInk_107 : decode cX8_isInk 107 = .ok (.iinc 3 1, 3) := by decide +kernel
theorem dX8_isInk_110 : decode cX8_isInk 110 = .ok (.goto (-106), 3) := by decide +kernel
theorem dX8_isInk_113 : decode cX8_isInk 113 = .ok (.iload_n 2, 1) := by decide +kernel
theorem dX8_isInk_114 : decode cX8_isInk 114 = .ok (.ireturn, 1) := by decide +kernel
theorem dX8_twice_0 : decode cX8_twice 0 = .ok (.aload_n 0, 1) := by decide +kernel
theorem dX8_twice_1 : decode cX8_twice 1 = .ok (.iconst 0, 1) := by decide +kernel
theorem dX8_twice_2 : decode cX8_twice 2 = .ok (.putfield 60, 3) := by decide +kernel
theorem dX8_twice_5 : decode cX8_twice 5 = .ok (.iload_n 1, 1) := by decide +kernel
theorem dX8_twice_6 : decode cX8_twice 6 = .ok (.i2l, 1) := by decide +kernel
theorem dX8_twice_7 : decode cX8_twice 7 = .ok (.lconst 0, 1) := by decide +kernel
theorem dX8_twice_8 : decode cX8_twice 8 = .ok (.ldc2_w 153, 3) := by decide +kernel
theorem dX8_twice_11 : decode cX8_twice 11 = .ok (.invokestatic 67, 3) := by decide +kernel
theorem dX8_twice_14 : decode cX8_twice 14 = .ok (.ifCond .ne 6, 3) := by decide +kernel
theorem dX8_twice_17 : decode cX8_twice 17 = .ok (.bipush (-2), 2) := by decide +kernel
theorem dX8_twice_19 : decode cX8_twice 19 = .ok (.ireturn, 1) := by decide +kernel
theorem dX8_twice_20 : decode cX8_twice 20 = .ok (.aload_n 0, 1) := by decide +kernel
theorem dX8_twice_21 : decode cX8_twice 21 = .ok (.iconst 0, 1) := by decide +kernel
theorem dX8_twice_22 : decode cX8_twice 22 = .ok (.putfield 144, 3) := by decide +kernel
theorem dX8_twice_25 : decode cX8_twice 25 = .ok (.aload_n 0, 1) := by decide +kernel
theorem dX8_twice_26 : decode cX8_twice 26 = .ok (.aload_n 0, 1) := by decide +kernel
theorem dX8_twice_27 : decode cX8_twice 27 = .ok (.invokevirtual 138, 3) := by decide +kernel
theorem dX8_twice_30 : decode cX8_twice 30 = .ok (.putfield 147, 3) := by decide +kernel
theorem dX8_twice_33 : decode cX8_twice 33 = .ok (.aload_n 0, 1) := by decide +kernel
theorem dX8_twice_34 : decode cX8_twice 34 = .ok (.aload_n 0, 1) := by decide +kernel
theorem dX8_twice_35 : decode cX8_twice 35 = .ok (.invokevirtual 138, 3) := by decide +kernel
theorem dX8_twice_38 : decode cX8_twice 38 = .ok (.putfield 150, 3) := by decide +kernel
theorem dX8_twice_41 : decode cX8_twice 41 = .ok (.iconst 0, 1) := by decide +kernel
theorem dX8_twice_42 : decode cX8_twice 42 = .ok (.istore_n 2, 1) := by decide +kernel
theorem dX8_twice_43 : decode cX8_twice 43 = .ok (.iload_n 2, 1) := by decide +kernel
theorem dX8_twice_44 : decode cX8_twice 44 = .ok (.iconst 3, 1) := by decide +kernel
theorem dX8_twice_45 : decode cX8_twice 45 = .ok (.aload_n 0, 1) := by decide +kernel
theorem dX8_twice_46 : decode cX8_twice 46 = .ok (.getfield 64, 3) := by decide +kernel
theorem dX8_twice_49 : decode cX8_twice 49 = .ok (.invokestatic 158, 3) := by decide +kernel
theorem dX8_twice_52 : decode cX8_twice 52 = .ok (.if_icmp .ge 101, 3) := by decide +kernel
theorem dX8_twice_55 : decode cX8_twice 55 = .ok (.aload_n 0, 1) := by decide +kernel
theorem dX8_twice_56 : decode cX8_twice 56 = .ok (.iload_n 2, 1) := by decide +kernel
theorem dX8_twice_57 : decode cX8_twice 57 = .ok (.invokevirtual 161, 3) := by decide +kernel
theorem dX8_twice_60 : decode cX8_twice 60 = .ok (.ifCond .eq 87, 3) := by decide +kernel
theorem dX8_twice_63 : decode cX8_twice 63 = .ok (.aload_n 0, 1) := by decide +kernel
theorem dX8_twice_64 : decode cX8_twice 64 = .ok (.dup, 1) := by decide +kernel
theorem dX8_twice_65 : decode cX8_twice 65 = .ok (.getfield 144, 3) := by decide +kernel
theorem dX8_twice_68 : decode cX8_twice 68 = .ok (.iconst 1, 1) := by decide +kernel
theorem dX8_twice_69 : decode cX8_twice 69 = .ok (.iadd, 1) := by decide +kernel
theorem dX8_twice_70 : decode cX8_twice 70 = .ok (.putfield 144, 3) := by decide +kernel
theorem dX8_twice_73 : decode cX8_twice 73 = .ok (.iconst 0, 1) := by decide +kernel
theorem dX8_twice_74 : decode cX8_twice 74 = .ok (.istore_n 3, 1) := by decide +kernel
theorem dX8_twice_75 : decode cX8_twice 75 = .ok (.iload_n 3, 1) := by decide +kernel
theorem dX8_twice_76 : decode cX8_twice 76 = .ok (.aload_n 0, 1) := by decide +kernel
theorem dX8_twice_77 : decode cX8_twice 77 = .ok (.getfield 64, 3) := by decide +kernel
theorem dX8_twice_80 : decode cX8_twice 80 = .ok (.if_icmp .ge 67, 3) := by decide +kernel
theorem dX8_twice_83 : decode cX8_twice 83 = .ok (.iload_n 2, 1) := by decide +kernel
theorem dX8_twice_84 : decode cX8_twice 84 = .ok (.iconst 3, 1) := by decide +kernel
theorem dX8_twice_85 : decode cX8_twice 85 = .ok (.iload_n 3, 1) := by decide +kernel
theorem dX8_twice_86 : decode cX8_twice 86 = .ok (.invokestatic 158, 3) := by decide +kernel
theorem dX8_twice_89 : decode cX8_twice 89 = .ok (.idiv, 1) := by decide +kernel
theorem dX8_twice_90 : decode cX8_twice 90 = .ok (.iconst 3, 1) := by decide +kernel
theorem dX8_twice_91 : decode cX8_twice 91 = .ok (.irem, 1) := by decide +kernel
theorem dX8_twice_92 : decode cX8_twice 92 = .ok (.istore 4, 2) := by decide +kernel
theorem dX8_twice_94 : decode cX8_twice 94 = .ok (.aload_n 0, 1) := by decide +kernel
theorem dX8_twice_95 : decode cX8_twice 95 = .ok (.dup, 1) := by decide +kernel
theorem dX8_twice_96 : decode cX8_twice 96 = .ok (.getfield 147, 3) := by decide +kernel
theorem dX8_twice_99 : decode cX8_twice 99 = .ok (.iload 4, 2) := by decide +kernel
theorem dX8_twice_101 : decode cX8_twice 101 = .ok (.iconst 2, 1) := by decide +kernel
theorem dX8_twice_102 : decode cX8_twice 102 = .ok (.if_icmp .ne 7, 3) := by decide +kernel
theorem dX8_twice_105 : decode cX8_twice 105 = .ok (.iconst (-1), 1) := by decide +kernel
theorem dX8_twice_106 : decode cX8_twice 106 = .ok (.goto 8, 3) := by decide +kernel
theorem dX8_twice_109 : decode cX8_twice 109 = .ok (.iconst 1, 1) := by decide +kernel
theorem dX8_twice_110 : decode cX8_twice 110 = .ok (.iload_n 3, 1) := by decide +kernel
theorem dX8_twice_111 : decode cX8_twice 111 = .ok (.ishl, 1) := by decide +kernel
theorem dX8_twice_112 : decode cX8_twice 112 = .ok (.iconst (-1), 1) := by decide +kernel
theorem dX8_twice_113 : decode cX8_twice 113 = .ok (.ixor, 1) := by decide +kernel
theorem dX8_twice_114 : decode cX8_twice 114 = .ok (.iand, 1) := by decide +kernel
theorem dX8_twice_115 : decode cX8_twice 115 = .ok (.putfield 147, 3) := by decide +kernel
theorem dX8_twice_118 : decode cX8_twice 118 = .ok (.aload_n 0, 1) := by decide +kernel
theorem dX8_twice_119 : decode cX8_twice 119 = .ok (.dup, 1) := by decide +kernel
theorem dX8_twice_120 : decode cX8_twice 120 = .ok (.getfield 150, 3) := by decide +kernel
theorem dX8_twice_123 : decode cX8_twice 123 = .ok (.iload 4, 2) := by decide +kernel
theorem dX8_twice_125 : decode cX8_twice 125 = .ok (.ifCond .ne 7, 3) := by decide +kernel
theorem dX8_twice_128 : decode cX8_twice 128 = .ok (.iconst (-1), 1) := by decide +kernel
theorem dX8_twice_129 : decode cX8_twice 129 = .ok (.goto 8, 3) := by decide +kernel
theorem dX8_twice_132 : decode cX8_twice 132 = .ok (.iconst 1, 1) := by decide +kernel
theorem dX8_twice_133 : decode cX8_twice 133 = .ok (.iload_n 3, 1) := by decide +kernel
theorem dX8_twice_134 : decode cX8_twice 134 = .ok (.ishl, 1) := by decide +kernel
theorem dX8_twice_135 : decode cX8_twice 135 = .ok (.iconst (-1), 1) := by decide +kernel
theorem dX8_twice_136 : decode cX8_twice 136 = .ok (.ixor, 1) := by decide +kernel
theorem dX8_twice_137 : decode cX8_twice 137 = .ok (.iand, 1) := by decide +kernel
theorem dX8_twice_138 : decode cX8_twice 138 = .ok (.putfield 150, 3) := by decide +kernel
theorem dX8_twice_141 : decode cX8_twice 141 = .ok (.iinc 3 1, 3) := by decide +kernel
theorem dX8_twice_144 : decode cX8_twice 144 = .ok (.goto (-69), 3) := by decide +kernel
theorem dX8_twice_147 : decode cX8_twice 147 = .ok (.iinc 2 1, 3) := by decide +kernel
theorem dX8_twice_150 : decode cX8_twice 150 = .ok (.goto (-107), 3) := by decide +kernel
theorem dX8_twice_153 : decode cX8_twice 153 = .ok (.aload_n 0, 1) := by decide +kernel
theorem dX8_twice_154 : decode cX8_twice 154 = .ok (.iload_n 1, 1) := by decide +kernel
theorem dX8_twice_155 : decode cX8_twice 155 = .ok (.invokevirtual 155, 3) := by decide +kernel
theorem dX8_twice_158 : decode cX8_twice 158 = .ok (.ireturn, 1) := by decide +kernel
theorem dX8_crossed_0 : decode cX8_crossed 0 = .ok (.aload_n 0, 1) := by decide +kernel
theorem dX8_crossed_1 : decode cX8_crossed 1 = .ok (.iconst 0, 1) := by decide +kernel
theorem dX8_crossed_2 : decode cX8_crossed 2 = .ok (.putfield 60, 3) := by decide +kernel
theorem dX8_crossed_5 : decode cX8_crossed 5 = .ok (.iload_n 1, 1) := by decide +kernel
theorem dX8_crossed_6 : decode cX8_crossed 6 = .ok (.i2l, 1) := by decide +kernel
theorem dX8_crossed_7 : decode cX8_crossed 7 = .ok (.lconst 0, 1) := by decide +kernel
theorem dX8_crossed_8 : decode cX8_crossed 8 = .ok (.lconst 1, 1) := by decide +kernel
theorem dX8_crossed_9 : decode cX8_crossed 9 = .ok (.invokestatic 67, 3) := by decide +kernel
theorem dX8_crossed_12 : decode cX8_crossed 12 = .ok (.ifCond .ne 6, 3) := by decide +kernel
theorem dX8_crossed_15 : decode cX8_crossed 15 = .ok (.bipush (-2), 2) := by decide +kernel
theorem dX8_crossed_17 : decode cX8_crossed 17 = .ok (.ireturn, 1) := by decide +kernel
theorem dX8_crossed_18 : decode cX8_crossed 18 = .ok (.iconst 0, 1) := by decide +kernel
theorem dX8_crossed_19 : decode cX8_crossed 19 = .ok (.istore_n 2, 1) := by decide +kernel
theorem dX8_crossed_20 : decode cX8_crossed 20 = .ok (.bipush (-9), 2) := by decide +kernel
theorem dX8_crossed_22 : decode cX8_crossed 22 = .ok (.istore_n 3, 1) := by decide +kernel
theorem dX8_crossed_23 : decode cX8_crossed 23 = .ok (.iconst 0, 1) := by decide +kernel
theorem dX8_crossed_24 : decode cX8_crossed 24 = .ok (.istore 4, 2) := by decide +kernel
theorem dX8_crossed_26 : decode cX8_crossed 26 = .ok (.iload 4, 2) := by decide +kernel
theorem dX8_crossed_28 : decode cX8_crossed 28 = .ok (.aload_n 0, 1) := by decide +kernel
theorem dX8_crossed_29 : decode cX8_crossed 29 = .ok (.getfield 64, 3) := by decide +kernel
theorem dX8_crossed_32 : decode cX8_crossed 32 = .ok (.if_icmp .ge 111, 3) := by decide +kernel
theorem dX8_crossed_35 : decode cX8_crossed 35 = .ok (.iload 4, 2) := by decide +kernel
theorem dX8_crossed_37 : decode cX8_crossed 37 = .ok (.iconst 1, 1) := by decide +kernel
theorem dX8_crossed_38 : decode cX8_crossed 38 = .ok (.iadd, 1) := by decide +kernel
theorem dX8_crossed_39 : decode cX8_crossed 39 = .ok (.istore 5, 2) := by decide +kernel
theorem dX8_crossed_41 : decode cX8_crossed 41 = .ok (.iload 5, 2) := by decide +kernel
theorem dX8_crossed_43 : decode cX8_crossed 43 = .ok (.aload_n 0, 1) := by decide +kernel
theorem dX8_crossed_44 : decode cX8_crossed 44 = .ok (.getfield 64, 3) := by decide +kernel
theorem dX8_crossed_47 : decode cX8_crossed 47 = .ok (.if_icmp .ge 90, 3) := by decide +kernel
theorem dX8_crossed_50 : decode cX8_crossed 50 = .ok (.aload_n 0, 1) := by decide +kernel
theorem dX8_crossed_51 : decode cX8_crossed 51 = .ok (.aload_n 0, 1) := by decide +kernel
theorem dX8_crossed_52 : decode cX8_crossed 52 = .ok (.iconst 1, 1) := by decide +kernel
theorem dX8_crossed_53 : decode cX8_crossed 53 = .ok (.iload 4, 2) := by decide +kernel
theorem dX8_crossed_55 : decode cX8_crossed 55 = .ok (.ishl, 1) := by decide +kernel
theorem dX8_crossed_56 : decode cX8_crossed 56 = .ok (.iconst 1, 1) := by decide +kernel
theorem dX8_crossed_57 : decode cX8_crossed 57 = .ok (.iload 5, 2) := by decide +kernel
theorem dX8_crossed_59 : decode cX8_crossed 59 = .ok (.ishl, 1) := by decide +kernel
theorem dX8_crossed_60 : decode cX8_crossed 60 = .ok (.ior, 1) := by decide +kernel
theorem dX8_crossed_61 : decode cX8_crossed 61 = .ok (.invokevirtual 141, 3) := by decide +kernel
theorem dX8_crossed_64 : decode cX8_crossed 64 = .ok (.invokevirtual 106, 3) := by decide +kernel
theorem dX8_crossed_67 : decode cX8_crossed 67 = .ok (.iconst 1, 1) := by decide +kernel
theorem dX8_crossed_68 : decode cX8_crossed 68 = .ok (.iload 4, 2) := by decide +kernel
theorem dX8_crossed_70 : decode cX8_crossed 70 = .ok (.ishl, 1) := by decide +kernel
theorem dX8_crossed_71 : decode cX8_crossed 71 = .ok (.iconst 1, 1) := by decide +kernel
theorem dX8_crossed_72 : decode cX8_crossed 72 = .ok (.iload 5, 2) := by decide +kernel
theorem dX8_crossed_74 : decode cX8_crossed 74 = .ok (.ishl, 1) := by decide +kernel
theorem dX8_crossed_75 : decode cX8_crossed 75 = .ok (.ior, 1) := by decide +kernel
theorem dX8_crossed_76 : decode cX8_crossed 76 = .ok (.iconst (-1), 1) := by decide +kernel
theorem dX8_crossed_77 : decode cX8_crossed 77 = .ok (.ixor, 1) := by decide +kernel
theorem dX8_crossed_78 : decode cX8_crossed 78 = .ok (.iand, 1) := by decide +kernel
theorem dX8_crossed_79 : decode cX8_crossed 79 = .ok (.istore 6, 2) := by decide +kernel
theorem dX8_crossed_81 : decode cX8_crossed 81 = .ok (.iload 6, 2) := by decide +kernel
theorem dX8_crossed_83 : decode cX8_crossed 83 = .ok (.ifCond .eq 48, 3) := by decide +kernel
theorem dX8_crossed_86 : decode cX8_crossed 86 = .ok (.iconst 0, 1) := by decide +kernel
theorem dX8_crossed_87 : decode cX8_crossed 87 = .ok (.istore 7, 2) := by decide +kernel
theorem dX8_crossed_89 : decode cX8_crossed 89 = .ok (.iload 6, 2) := by decide +kernel
theorem dX8_crossed_91 : decode cX8_crossed 91 = .ok (.iload 7, 2) := by decide +kernel
theorem dX8_crossed_93 : decode cX8_crossed 93 = .ok (.invokestatic 99, 3) := by decide +kernel
theorem dX8_crossed_96 : decode cX8_crossed 96 = .ok (.ifCond .ne 9, 3) := by decide +kernel
theorem dX8_crossed_99 : decode cX8_crossed 99 = .ok (.iinc 7 1, 3) := by decide +kernel
theorem dX8_crossed_102 : decode cX8_crossed 102 = .ok (.goto (-13), 3) := by decide +kernel
theorem dX8_crossed_105 : decode cX8_crossed 105 = .ok (.iload_n 2, 1) := by decide +kernel
theorem dX8_crossed_106 : decode cX8_crossed 106 = .ok (.ifCond .ne 20, 3) := by decide +kernel
theorem dX8_crossed_109 : decode cX8_crossed 109 = .ok (.bipush 100, 2) := by decide +kernel
theorem dX8_crossed_111 : decode cX8_crossed 111 = .ok (.iload 4, 2) := by decide +kernel
theorem dX8_crossed_113 : decode cX8_crossed 113 = .ok (.imul, 1) := by decide +kernel
theorem dX8_crossed_114 : decode cX8_crossed 114 = .ok (.bipush 10, 2) := by decide +kernel
theorem dX8_crossed_116 : decode cX8_crossed 116 = .ok (.iload 5, 2) := by decide +kernel
theorem dX8_crossed_118 : decode cX8_crossed 118 = .ok (.imul, 1) := by decide +kernel
theorem dX8_crossed_119 : decode cX8_crossed 119 = .ok (.iadd, 1) := by decide +kernel
theorem dX8_crossed_120 : decode cX8_crossed 120 = .ok (.iload 7, 2) := by decide +kernel
theorem dX8_crossed_122 : decode cX8_crossed 122 = .ok (.iadd, 1) := by decide +kernel
theorem dX8_crossed_123 : decode cX8_crossed 123 = .ok (.goto 4, 3) := by decide +kernel
theorem dX8_crossed_126 : decode cX8_crossed 126 = .ok (.iload_n 3, 1) := by decide +kernel
theorem dX8_crossed_127 : decode cX8_crossed 127 = .ok (.istore_n 3, 1) := by decide +kernel
theorem dX8_crossed_128 : decode cX8_crossed 128 = .ok (.iinc 2 1, 3) := by decide +kernel
theorem dX8_crossed_131 : decode cX8_crossed 131 = .ok (.iinc 5 1, 3) := by decide +kernel
theorem dX8_crossed_134 : decode cX8_crossed 134 = .ok (.goto (-93), 3) := by decide +kernel
theorem dX8_crossed_137 : decode cX8_crossed 137 = .ok (.iinc 4 1, 3) := by decide +kernel
theorem dX8_crossed_140 : decode cX8_crossed 140 = .ok (.goto (-114), 3) := by decide +kernel
theorem dX8_crossed_143 : decode cX8_crossed 143 = .ok (.iload_n 1, 1) := by decide +kernel
theorem dX8_crossed_144 : decode cX8_crossed 144 = .ok (.ifCond .ne 7, 3) := by decide +kernel
theorem dX8_crossed_147 : decode cX8_crossed 147 = .ok (.iload_n 2, 1) := by decide +kernel
theorem dX8_crossed_148 : decode cX8_crossed 148 = .ok (.goto 4, 3) := by decide +kernel
theorem dX8_crossed_151 : decode cX8_crossed 151 = .ok (.iload_n 3, 1) := by decide +kernel
theorem dX8_crossed_152 : decode cX8_crossed 152 = .ok (.ireturn, 1) := by decide +kernel
theorem dX8_least_0 : decode cX8_least 0 = .ok (.aload_n 0, 1) := by decide +kernel
theorem dX8_least_1 : decode cX8_least 1 = .ok (.iconst 0, 1) := by decide +kernel
theorem dX8_least_2 : decode cX8_least 2 = .ok (.putfield 60, 3) := by decide +kernel
theorem dX8_least_5 : decode cX8_least 5 = .ok (.iload_n 1, 1) := by decide +kernel
theorem dX8_least_6 : decode cX8_least 6 = .ok (.i2l, 1) := by decide +kernel
theorem dX8_least_7 : decode cX8_least 7 = .ok (.lconst 0, 1) := by decide +kernel
theorem dX8_least_8 : decode cX8_least 8 = .ok (.ldc2_w 164, 3) := by decide +kernel
theorem dX8_least_11 : decode cX8_least 11 = .ok (.invokestatic 67, 3) := by decide +kernel
theorem dX8_least_14 : decode cX8_least 14 = .ok (.ifCond .ne 6, 3) := by decide +kernel
theorem dX8_least_17 : decode cX8_least 17 = .ok (.bipush (-2), 2) := by decide +kernel
theorem dX8_least_19 : decode cX8_least 19 = .ok (.ireturn, 1) := by decide +kernel
theorem dX8_least_20 : decode cX8_least 20 = .ok (.bipush (-9), 2) := by decide +kernel
theorem dX8_least_22 : decode cX8_least 22 = .ok (.istore_n 2, 1) := by decide +kernel
theorem dX8_least_23 : decode cX8_least 23 = .ok (.iconst 0, 1) := by decide +kernel
theorem dX8_least_24 : decode cX8_least 24 = .ok (.istore_n 3, 1) := by decide +kernel
theorem dX8_least_25 : decode cX8_least 25 = .ok (.iload_n 3, 1) := by decide +kernel
theorem dX8_least_26 : decode cX8_least 26 = .ok (.aload_n 0, 1) := by decide +kernel
theorem dX8_least_27 : decode cX8_least 27 = .ok (.invokevirtual 138, 3) := by decide +kernel
theorem dX8_least_30 : decode cX8_least 30 = .ok (.if_icmp .gt 64, 3) := by decide +kernel
theorem dX8_least_33 : decode cX8_least 33 = .ok (.iload_n 2, 1) := by decide +kernel
theorem dX8_least_34 : decode cX8_least 34 = .ok (.bipush (-9), 2) := by decide +kernel
theorem dX8_least_36 : decode cX8_least 36 = .ok (.if_icmp .eq 14, 3) := by decide +kernel
theorem dX8_least_39 : decode cX8_least 39 = .ok (.iload_n 3, 1) := by decide +kernel
theorem dX8_least_40 : decode cX8_least 40 = .ok (.invokestatic 127, 3) := by decide +kernel
theorem dX8_least_43 : decode cX8_least 43 = .ok (.iload_n 2, 1) := by decide +kernel
theorem dX8_least_44 : decode cX8_least 44 = .ok (.invokestatic 127, 3) := by decide +kernel
theorem dX8_least_47 : decode cX8_least 47 = .ok (.if_icmp .ge 7, 3) := by decide +kernel
theorem dX8_least_50 : decode cX8_least 50 = .ok (.iconst 1, 1) := by decide +kernel
theorem dX8_least_51 : decode cX8_least 51 = .ok (.goto 4, 3) := by decide +kernel
theorem dX8_least_54 : decode cX8_least 54 = .ok (.iconst 0, 1) := by decide +kernel
theorem dX8_least_55 : decode cX8_least 55 = .ok (.istore 4, 2) := by decide +kernel
theorem dX8_least_57 : decode cX8_least 57 = .ok (.iload 4, 2) := by decide +kernel
theorem dX8_least_59 : decode cX8_least 59 = .ok (.ifCond .eq 27, 3) := by decide +kernel
theorem dX8_least_62 : decode cX8_least 62 = .ok (.iload_n 1, 1) := by decide +kernel
theorem dX8_least_63 : decode cX8_least 63 = .ok (.aload_n 0, 1) := by decide +kernel
theorem dX8_least_64 : decode cX8_least 64 = .ok (.getfield 28, 3) := by decide +kernel
theorem dX8_least_67 : decode cX8_least 67 = .ok (.invokestatic 102, 3) := by decide +kernel
theorem dX8_least_70 : decode cX8_least 70 = .ok (.aload_n 0, 1) := by decide +kernel
theorem dX8_least_71 : decode cX8_least 71 = .ok (.iload_n 3, 1) := by decide +kernel
theorem dX8_least_72 : decode cX8_least 72 = .ok (.invokevirtual 141, 3) := by decide +kernel
theorem dX8_least_75 : decode cX8_least 75 = .ok (.ior, 1) := by decide +kernel
theorem dX8_least_76 : decode cX8_least 76 = .ok (.iconst (-1), 1) := by decide +kernel
theorem dX8_least_77 : decode cX8_least 77 = .ok (.ixor, 1) := by decide +kernel
theorem dX8_least_78 : decode cX8_least 78 = .ok (.iand, 1) := by decide +kernel
theorem dX8_least_79 : decode cX8_least 79 = .ok (.ifCond .ne 7, 3) := by decide +kernel
theorem dX8_least_82 : decode cX8_least 82 = .ok (.iload_n 3, 1) := by decide +kernel
theorem dX8_least_83 : decode cX8_least 83 = .ok (.goto 4, 3) := by decide +kernel
theorem dX8_least_86 : decode cX8_least 86 = .ok (.iload_n 2, 1) := by decide +kernel
theorem dX8_least_87 : decode cX8_least 87 = .ok (.istore_n 2, 1) := by decide +kernel
theorem dX8_least_88 : decode cX8_least 88 = .ok (.iinc 3 1, 3) := by decide +kernel
theorem dX8_least_91 : decode cX8_least 91 = .ok (.goto (-66), 3) := by decide +kernel
theorem dX8_least_94 : decode cX8_least 94 = .ok (.iload_n 2, 1) := by decide +kernel
theorem dX8_least_95 : decode cX8_least 95 = .ok (.ireturn, 1) := by decide +kernel
theorem dX8_ways_0 : decode cX8_ways 0 = .ok (.iconst 1, 1) := by decide +kernel
theorem dX8_ways_1 : decode cX8_ways 1 = .ok (.istore_n 1, 1) := by decide +kernel
theorem dX8_ways_2 : decode cX8_ways 2 = .ok (.iconst 2, 1) := by decide +kernel
theorem dX8_ways_3 : decode cX8_ways 3 = .ok (.istore_n 2, 1) := by decide +kernel
theorem dX8_ways_4 : decode cX8_ways 4 = .ok (.iload_n 2, 1) := by decide +kernel
theorem dX8_ways_5 : decode cX8_ways 5 = .ok (.iload_n 0, 1) := by decide +kernel
theorem dX8_ways_6 : decode cX8_ways 6 = .ok (.if_icmp .gt 13, 3) := by decide +kernel
theorem dX8_ways_9 : decode cX8_ways 9 = .ok (.iload_n 1, 1) := by decide +kernel
theorem dX8_ways_10 : decode cX8_ways 10 = .ok (.iload_n 2, 1) := by decide +kernel
theorem dX8_ways_11 : decode cX8_ways 11 = .ok (.imul, 1) := by decide +kernel
theorem dX8_ways_12 : decode cX8_ways 12 = .ok (.istore_n 1, 1) := by decide +kernel
theorem dX8_ways_13 : decode cX8_ways 13 = .ok (.iinc 2 1, 3) := by decide +kernel
theorem dX8_ways_16 : decode cX8_ways 16 = .ok (.goto (-12), 3) := by decide +kernel
theorem dX8_ways_19 : decode cX8_ways 19 = .ok (.iload_n 1, 1) := by decide +kernel
theorem dX8_ways_20 : decode cX8_ways 20 = .ok (.ireturn, 1) := by decide +kernel
theorem dX8_divisor_0 : decode cX8_divisor 0 = .ok (.iload_n 0, 1) := by decide +kernel
theorem dX8_divisor_1 : decode cX8_divisor 1 = .ok (.ifCond .ge 8, 3) := by decide +kernel
theorem dX8_divisor_4 : decode cX8_divisor 4 = .ok (.iload_n 0, 1) := by decide +kernel
theorem dX8_divisor_5 : decode cX8_divisor 5 = .ok (.ineg, 1) := by decide +kernel
theorem dX8_divisor_6 : decode cX8_divisor 6 = .ok (.goto 4, 3) := by decide +kernel
theorem dX8_divisor_9 : decode cX8_divisor 9 = .ok (.iload_n 0, 1) := by decide +kernel
theorem dX8_divisor_10 : decode cX8_divisor 10 = .ok (.istore_n 2, 1) := by decide +kernel
theorem dX8_divisor_11 : decode cX8_divisor 11 = .ok (.iload_n 1, 1) := by decide +kernel
theorem dX8_divisor_12 : decode cX8_divisor 12 = .ok (.istore_n 3, 1) := by decide +kernel
theorem dX8_divisor_13 : decode cX8_divisor 13 = .ok (.iload_n 3, 1) := by decide +kernel
theorem dX8_divisor_14 : decode cX8_divisor 14 = .ok (.ifCond .eq 16, 3) := by decide +kernel
theorem dX8_divisor_17 : decode cX8_divisor 17 = .ok (.iload_n 2, 1) := by decide +kernel
theorem dX8_divisor_18 : decode cX8_divisor 18 = .ok (.iload_n 3, 1) := by decide +kernel
theorem dX8_divisor_19 : decode cX8_divisor 19 = .ok (.irem, 1) := by decide +kernel
theorem dX8_divisor_20 : decode cX8_divisor 20 = .ok (.istore 4, 2) := by decide +kernel
theorem dX8_divisor_22 : decode cX8_divisor 22 = .ok (.iload_n 3, 1) := by decide +kernel
theorem dX8_divisor_23 : decode cX8_divisor 23 = .ok (.istore_n 2, 1) := by decide +kernel
theorem dX8_divisor_24 : decode cX8_divisor 24 = .ok (.iload 4, 2) := by decide +kernel
theorem dX8_divisor_26 : decode cX8_divisor 26 = .ok (.istore_n 3, 1) := by decide +kernel
theorem dX8_divisor_27 : decode cX8_divisor 27 = .ok (.goto (-14), 3) := by decide +kernel
theorem dX8_divisor_30 : decode cX8_divisor 30 = .ok (.iload_n 2, 1) := by decide +kernel
theorem dX8_divisor_31 : decode cX8_divisor 31 = .ok (.ireturn, 1) := by decide +kernel
theorem dX8_fraction_0 : decode cX8_fraction 0 = .ok (.iload_n 0, 1) := by decide +kernel
theorem dX8_fraction_1 : decode cX8_fraction 1 = .ok (.iload_n 1, 1) := by decide +kernel
theorem dX8_fraction_2 : decode cX8_fraction 2 = .ok (.invokestatic 166, 3) := by decide +kernel
theorem dX8_fraction_5 : decode cX8_fraction 5 = .ok (.istore_n 3, 1) := by decide +kernel
theorem dX8_fraction_6 : decode cX8_fraction 6 = .ok (.iload_n 2, 1) := by decide +kernel
theorem dX8_fraction_7 : decode cX8_fraction 7 = .ok (.ifCond .eq 9, 3) := by decide +kernel
theorem dX8_fraction_10 : decode cX8_fraction 10 = .ok (.iload_n 0, 1) := by decide +kernel
theorem dX8_fraction_11 : decode cX8_fraction 11 = .ok (.iload_n 3, 1) := by decide +kernel
theorem dX8_fraction_12 : decode cX8_fraction 12 = .ok (.idiv, 1) := by decide +kernel
theorem dX8_fraction_13 : decode cX8_fraction 13 = .ok (.goto 6, 3) := by decide +kernel
theorem dX8_fraction_16 : decode cX8_fraction 16 = .ok (.iload_n 1, 1) := by decide +kernel
theorem dX8_fraction_17 : decode cX8_fraction 17 = .ok (.iload_n 3, 1) := by decide +kernel
theorem dX8_fraction_18 : decode cX8_fraction 18 = .ok (.idiv, 1) := by decide +kernel
theorem dX8_fraction_19 : decode cX8_fraction 19 = .ok (.ireturn, 1) := by decide +kernel
theorem dX8_share_0 : decode cX8_share 0 = .ok (.aload_n 0, 1) := by decide +kernel
theorem dX8_share_1 : decode cX8_share 1 = .ok (.iconst 0, 1) := by decide +kernel
theorem dX8_share_2 : decode cX8_share 2 = .ok (.putfield 60, 3) := by decide +kernel
theorem dX8_share_5 : decode cX8_share 5 = .ok (.aload_n 0, 1) := by decide +kernel
theorem dX8_share_6 : decode cX8_share 6 = .ok (.iload_n 1, 1) := by decide +kernel
theorem dX8_share_7 : decode cX8_share 7 = .ok (.invokevirtual 113, 3) := by decide +kernel
theorem dX8_share_10 : decode cX8_share 10 = .ok (.ifCond .eq 5, 3) := by decide +kernel
theorem dX8_share_13 : decode cX8_share 13 = .ok (.iconst (-1), 1) := by decide +kernel
theorem dX8_share_14 : decode cX8_share 14 = .ok (.ireturn, 1) := by decide +kernel
theorem dX8_share_15 : decode cX8_share 15 = .ok (.iconst 0, 1) := by decide +kernel
theorem dX8_share_16 : decode cX8_share 16 = .ok (.istore_n 3, 1) := by decide +kernel
theorem dX8_share_17 : decode cX8_share 17 = .ok (.iload_n 3, 1) := by decide +kernel
theorem dX8_share_18 : decode cX8_share 18 = .ok (.aload_n 0, 1) := by decide +kernel
theorem dX8_share_19 : decode cX8_share 19 = .ok (.invokevirtual 138, 3) := by decide +kernel
theorem dX8_share_22 : decode cX8_share 22 = .ok (.if_icmp .gt 23, 3) := by decide +kernel
theorem dX8_share_25 : decode cX8_share 25 = .ok (.aload_n 0, 1) := by decide +kernel
theorem dX8_share_26 : decode cX8_share 26 = .ok (.getfield 50, 3) := by decide +kernel
theorem dX8_share_29 : decode cX8_share 29 = .ok (.iload_n 3, 1) := by decide +kernel
theorem dX8_share_30 : decode cX8_share 30 = .ok (.aload_n 0, 1) := by decide +kernel
theorem dX8_share_31 : decode cX8_share 31 = .ok (.iload_n 3, 1) := by decide +kernel
theorem dX8_share_32 : decode cX8_share 32 = .ok (.invokevirtual 141, 3) := by decide +kernel
theorem dX8_share_35 : decode cX8_share 35 = .ok (.invokestatic 127, 3) := by decide +kernel
theorem dX8_share_38 : decode cX8_share 38 = .ok (.iastore, 1) := by decide +kernel
theorem dX8_share_39 : decode cX8_share 39 = .ok (.iinc 3 1, 3) := by decide +kernel
theorem dX8_share_42 : decode cX8_share 42 = .ok (.goto (-25), 3) := by decide +kernel
theorem dX8_share_45 : decode cX8_share 45 = .ok (.iconst 0, 1) := by decide +kernel
theorem dX8_share_46 : decode cX8_share 46 = .ok (.istore_n 3, 1) := by decide +kernel
theorem dX8_share_47 : decode cX8_share 47 = .ok (.iconst 0, 1) := by decide +kernel
theorem dX8_share_48 : decode cX8_share 48 = .ok (.istore 4, 2) := by decide +kernel
theorem dX8_share_50 : decode cX8_share 50 = .ok (.iload 4, 2) := by decide +kernel
theorem dX8_share_52 : decode cX8_share 52 = .ok (.aload_n 0, 1) := by decide +kernel
theorem dX8_share_53 : decode cX8_share 53 = .ok (.invokevirtual 138, 3) := by decide +kernel
theorem dX8_share_56 : decode cX8_share 56 = .ok (.if_icmp .gt 66, 3) := by decide +kernel
theorem dX8_share_59 : decode cX8_share 59 = .ok (.iload 4, 2) := by decide +kernel
theorem dX8_share_61 : decode cX8_share 61 = .ok (.iload_n 1, 1) := by decide +kernel
theorem dX8_share_62 : decode cX8_share 62 = .ok (.invokestatic 99, 3) := by decide +kernel
theorem dX8_share_65 : decode cX8_share 65 = .ok (.ifCond .ne 51, 3) := by decide +kernel
theorem dX8_share_68 : decode cX8_share 68 = .ok (.iload 4, 2) := by decide +kernel
theorem dX8_share_70 : decode cX8_share 70 = .ok (.invokestatic 127, 3) := by decide +kernel
theorem dX8_share_73 : decode cX8_share 73 = .ok (.istore 5, 2) := by decide +kernel
theorem dX8_share_75 : decode cX8_share 75 = .ok (.iload_n 3, 1) := by decide +kernel
theorem dX8_share_76 : decode cX8_share 76 = .ok (.iload 5, 2) := by decide +kernel
theorem dX8_share_78 : decode cX8_share 78 = .ok (.invokestatic 169, 3) := by decide +kernel
theorem dX8_share_81 : decode cX8_share 81 = .ok (.aload_n 0, 1) := by decide +kernel
theorem dX8_share_82 : decode cX8_share 82 = .ok (.getfield 64, 3) := by decide +kernel
theorem dX8_share_85 : decode cX8_share 85 = .ok (.iconst 1, 1) := by decide +kernel
theorem dX8_share_86 : decode cX8_share 86 = .ok (.isub, 1) := by decide +kernel
theorem dX8_share_87 : decode cX8_share 87 = .ok (.iload 5, 2) := by decide +kernel
theorem dX8_share_89 : decode cX8_share 89 = .ok (.isub, 1) := by decide +kernel
theorem dX8_share_90 : decode cX8_share 90 = .ok (.invokestatic 169, 3) := by decide +kernel
theorem dX8_share_93 : decode cX8_share 93 = .ok (.imul, 1) := by decide +kernel
theorem dX8_share_94 : decode cX8_share 94 = .ok (.aload_n 0, 1) := by decide +kernel
theorem dX8_share_95 : decode cX8_share 95 = .ok (.getfield 50, 3) := by decide +kernel
theorem dX8_share_98 : decode cX8_share 98 = .ok (.iload 4, 2) := by decide +kernel
theorem dX8_share_100 : decode cX8_share 100 = .ok (.iconst 1, 1) := by decide +kernel
theorem dX8_share_101 : decode cX8_share 101 = .ok (.iload_n 1, 1) := by decide +kernel
theorem dX8_share_102 : decode cX8_share 102 = .ok (.ishl, 1) := by decide +kernel
theorem dX8_share_103 : decode cX8_share 103 = .ok (.ior, 1) := by decide +kernel
theorem dX8_share_104 : decode cX8_share 104 = .ok (.iaload, 1) := by decide +kernel
theorem dX8_share_105 : decode cX8_share 105 = .ok (.aload_n 0, 1) := by decide +kernel
theorem dX8_share_106 : decode cX8_share 106 = .ok (.getfield 50, 3) := by decide +kernel
theorem dX8_share_109 : decode cX8_share 109 = .ok (.iload 4, 2) := by decide +kernel
theorem dX8_share_111 : decode cX8_share 111 = .ok (.iaload, 1) := by decide +kernel
theorem dX8_share_112 : decode cX8_share 112 = .ok (.isub, 1) := by decide +kernel
theorem dX8_share_113 : decode cX8_share 113 = .ok (.imul, 1) := by decide +kernel
theorem dX8_share_114 : decode cX8_share 114 = .ok (.iadd, 1) := by decide +kernel
theorem dX8_share_115 : decode cX8_share 115 = .ok (.istore_n 3, 1) := by decide +kernel
theorem dX8_share_116 : decode cX8_share 116 = .ok (.iinc 4 1, 3) := by decide +kernel
theorem dX8_share_119 : decode cX8_share 119 = .ok (.goto (-69), 3) := by decide +kernel
theorem dX8_share_122 : decode cX8_share 122 = .ok (.iload_n 3, 1) := by decide +kernel
theorem dX8_share_123 : decode cX8_share 123 = .ok (.aload_n 0, 1) := by decide +kernel
theorem dX8_share_124 : decode cX8_share 124 = .ok (.getfield 64, 3) := by decide +kernel
theorem dX8_share_127 : decode cX8_share 127 = .ok (.invokestatic 169, 3) := by decide +kernel
theorem dX8_share_130 : decode cX8_share 130 = .ok (.iload_n 2, 1) := by decide +kernel
theorem dX8_share_131 : decode cX8_share 131 = .ok (.invokestatic 172, 3) := by decide +kernel
theorem dX8_share_134 : decode cX8_share 134 = .ok (.ireturn, 1) := by decide +kernel
theorem dX8_tell_0 : decode cX8_tell 0 = .ok (.aload_n 0, 1) := by decide +kernel
theorem dX8_tell_1 : decode cX8_tell 1 = .ok (.iconst 0, 1) := by decide +kernel
theorem dX8_tell_2 : decode cX8_tell 2 = .ok (.putfield 60, 3) := by decide +kernel
theorem dX8_tell_5 : decode cX8_tell 5 = .ok (.aload_n 0, 1) := by decide +kernel
theorem dX8_tell_6 : decode cX8_tell 6 = .ok (.iload_n 1, 1) := by decide +kernel
theorem dX8_tell_7 : decode cX8_tell 7 = .ok (.invokevirtual 113, 3) := by decide +kernel
theorem dX8_tell_10 : decode cX8_tell 10 = .ok (.ifCond .ne 11, 3) := by decide +kernel
theorem dX8_tell_13 : decode cX8_tell 13 = .ok (.aload_n 0, 1) := by decide +kernel
theorem dX8_tell_14 : decode cX8_tell 14 = .ok (.iload_n 2, 1) := by decide +kernel
theorem dX8_tell_15 : decode cX8_tell 15 = .ok (.invokevirtual 113, 3) := by decide +kernel
theorem dX8_tell_18 : decode cX8_tell 18 = .ok (.ifCond .eq 5, 3) := by decide +kernel
theorem dX8_tell_21 : decode cX8_tell 21 = .ok (.iconst (-1), 1) := by decide +kernel
theorem dX8_tell_22 : decode cX8_tell 22 = .ok (.ireturn, 1) := by decide +kernel
theorem dX8_tell_23 : decode cX8_tell 23 = .ok (.iload_n 1, 1) := by decide +kernel
theorem dX8_tell_24 : decode cX8_tell 24 = .ok (.iload_n 2, 1) := by decide +kernel
theorem dX8_tell_25 : decode cX8_tell 25 = .ok (.if_icmp .ne 6, 3) := by decide +kernel
theorem dX8_tell_28 : decode cX8_tell 28 = .ok (.bipush (-2), 2) := by decide +kernel
theorem dX8_tell_30 : decode cX8_tell 30 = .ok (.ireturn, 1) := by decide +kernel
theorem dX8_tell_31 : decode cX8_tell 31 = .ok (.aload_n 0, 1) := by decide +kernel
theorem dX8_tell_32 : decode cX8_tell 32 = .ok (.getfield 110, 3) := by decide +kernel
theorem dX8_tell_35 : decode cX8_tell 35 = .ok (.bipush 6, 2) := by decide +kernel
theorem dX8_tell_37 : decode cX8_tell 37 = .ok (.if_icmp .ne 6, 3) := by decide +kernel
theorem dX8_tell_40 : decode cX8_tell 40 = .ok (.bipush (-4), 2) := by decide +kernel
theorem dX8_tell_42 : decode cX8_tell 42 = .ok (.ireturn, 1) := by decide +kernel
theorem dX8_tell_43 : decode cX8_tell 43 = .ok (.aload_n 0, 1) := by decide +kernel
theorem dX8_tell_44 : decode cX8_tell 44 = .ok (.getfield 44, 3) := by decide +kernel
theorem dX8_tell_47 : decode cX8_tell 47 = .ok (.aload_n 0, 1) := by decide +kernel
theorem dX8_tell_48 : decode cX8_tell 48 = .ok (.getfield 110, 3) := by decide +kernel
theorem dX8_tell_51 : decode cX8_tell 51 = .ok (.iload_n 1, 1) := by decide +kernel
theorem dX8_tell_52 : decode cX8_tell 52 = .ok (.iastore, 1) := by decide +kernel
theorem dX8_tell_53 : decode cX8_tell 53 = .ok (.aload_n 0, 1) := by decide +kernel
theorem dX8_tell_54 : decode cX8_tell 54 = .ok (.getfield 47, 3) := by decide +kernel
theorem dX8_tell_57 : decode cX8_tell 57 = .ok (.aload_n 0, 1) := by decide +kernel
theorem dX8_tell_58 : decode cX8_tell 58 = .ok (.getfield 110, 3) := by decide +kernel
theorem dX8_tell_61 : decode cX8_tell 61 = .ok (.iload_n 2, 1) := by decide +kernel
theorem dX8_tell_62 : decode cX8_tell 62 = .ok (.iastore, 1) := by decide +kernel
theorem dX8_tell_63 : decode cX8_tell 63 = .ok (.aload_n 0, 1) := by decide +kernel
theorem dX8_tell_64 : decode cX8_tell 64 = .ok (.dup, 1) := by decide +kernel
theorem dX8_tell_65 : decode cX8_tell 65 = .ok (.getfield 110, 3) := by decide +kernel
theorem dX8_tell_68 : decode cX8_tell 68 = .ok (.iconst 1, 1) := by decide +kernel
theorem dX8_tell_69 : decode cX8_tell 69 = .ok (.iadd, 1) := by decide +kernel
theorem dX8_tell_70 : decode cX8_tell 70 = .ok (.putfield 110, 3) := by decide +kernel
theorem dX8_tell_73 : decode cX8_tell 73 = .ok (.aload_n 0, 1) := by decide +kernel
theorem dX8_tell_74 : decode cX8_tell 74 = .ok (.getfield 110, 3) := by decide +kernel
theorem dX8_tell_77 : decode cX8_tell 77 = .ok (.ireturn, 1) := by decide +kernel
theorem dX8_untell_0 : decode cX8_untell 0 = .ok (.aload_n 0, 1) := by decide +kernel
theorem dX8_untell_1 : decode cX8_untell 1 = .ok (.iconst 0, 1) := by decide +kernel
theorem dX8_untell_2 : decode cX8_untell 2 = .ok (.putfield 60, 3) := by decide +kernel
theorem dX8_untell_5 : decode cX8_untell 5 = .ok (.aload_n 0, 1) := by decide +kernel
theorem dX8_untell_6 : decode cX8_untell 6 = .ok (.getfield 110, 3) := by decide +kernel
theorem dX8_untell_9 : decode cX8_untell 9 = .ok (.istore_n 1, 1) := by decide +kernel
theorem dX8_untell_10 : decode cX8_untell 10 = .ok (.aload_n 0, 1) := by decide +kernel
theorem dX8_untell_11 : decode cX8_untell 11 = .ok (.iconst 0, 1) := by decide +kernel
theorem dX8_untell_12 : decode cX8_untell 12 = .ok (.putfield 110, 3) := by decide +kernel
theorem dX8_untell_15 : decode cX8_untell 15 = .ok (.iload_n 1, 1) := by decide +kernel
theorem dX8_untell_16 : decode cX8_untell 16 = .ok (.ireturn, 1) := by decide +kernel
theorem dX8_placeOf_0 : decode cX8_placeOf 0 = .ok (.iconst 0, 1) := by decide +kernel
theorem dX8_placeOf_1 : decode cX8_placeOf 1 = .ok (.istore_n 2, 1) := by decide +kernel
theorem dX8_placeOf_2 : decode cX8_placeOf 2 = .ok (.iconst 0, 1) := by decide +kernel
theorem dX8_placeOf_3 : decode cX8_placeOf 3 = .ok (.istore_n 3, 1) := by decide +kernel
theorem dX8_placeOf_4 : decode cX8_placeOf 4 = .ok (.iload_n 3, 1) := by decide +kernel
theorem dX8_placeOf_5 : decode cX8_placeOf 5 = .ok (.aload_n 0, 1) := by decide +kernel
theorem dX8_placeOf_6 : decode cX8_placeOf 6 = .ok (.getfield 64, 3) := by decide +kernel
theorem dX8_placeOf_9 : decode cX8_placeOf 9 = .ok (.if_icmp .ge 25, 3) := by decide +kernel
theorem dX8_placeOf_12 : decode cX8_placeOf 12 = .ok (.aload_n 0, 1) := by decide +kernel
theorem dX8_placeOf_13 : decode cX8_placeOf 13 = .ok (.getfield 53, 3) := by decide +kernel
theorem dX8_placeOf_16 : decode cX8_placeOf 16 = .ok (.iload_n 3, 1) := by decide +kernel
theorem dX8_placeOf_17 : decode cX8_placeOf 17 = .ok (.iaload, 1) := by decide +kernel
theorem dX8_placeOf_18 : decode cX8_placeOf 18 = .ok (.iload_n 1, 1) := by decide +kernel
theorem dX8_placeOf_19 : decode cX8_placeOf 19 = .ok (.if_icmp .ne 7, 3) := by decide +kernel
theorem dX8_placeOf_22 : decode cX8_placeOf 22 = .ok (.iload_n 3, 1) := by decide +kernel
theorem dX8_placeOf_23 : decode cX8_placeOf 23 = .ok (.goto 4, 3) := by decide +kernel
theorem dX8_placeOf_26 : decode cX8_placeOf 26 = .ok (.iload_n 2, 1) := by decide +kernel
theorem dX8_placeOf_27 : decode cX8_placeOf 27 = .ok (.istore_n 2, 1) := by decide +kernel
theorem dX8_placeOf_28 : decode cX8_placeOf 28 = .ok (.iinc 3 1, 3) := by decide +kernel
theorem dX8_placeOf_31 : decode cX8_placeOf 31 = .ok (.goto (-27), 3) := by decide +kernel
theorem dX8_placeOf_34 : decode cX8_placeOf 34 = .ok (.iload_n 2, 1) := by decide +kernel
theorem dX8_placeOf_35 : decode cX8_placeOf 35 = .ok (.ireturn, 1) := by decide +kernel
theorem dX8_isOver_0 : decode cX8_isOver 0 = .ok (.iconst 1, 1) := by decide +kernel
theorem dX8_isOver_1 : decode cX8_isOver 1 = .ok (.istore_n 1, 1) := by decide +kernel
theorem dX8_isOver_2 : decode cX8_isOver 2 = .ok (.iconst 0, 1) := by decide +kernel
theorem dX8_isOver_3 : decode cX8_isOver 3 = .ok (.istore_n 2, 1) := by decide +kernel
theorem dX8_isOver_4 : decode cX8_isOver 4 = .ok (.iload_n 2, 1) := by decide +kernel
theorem dX8_isOver_5 : decode cX8_isOver 5 = .ok (.aload_n 0, 1) := by decide +kernel
theorem dX8_isOver_6 : decode cX8_isOver 6 = .ok (.getfield 110, 3) := by decide +kernel
theorem dX8_isOver_9 : decode cX8_isOver 9 = .ok (.if_icmp .ge 78, 3) := by decide +kernel
theorem dX8_isOver_12 : decode cX8_isOver 12 = .ok (.iload_n 1, 1) := by decide +kernel
theorem dX8_isOver_13 : decode cX8_isOver 13 = .ok (.ifCond .eq 74, 3) := by decide +kernel
theorem dX8_isOver_16 : decode cX8_isOver 16 = .ok (.aload_n 0, 1) := by decide +kernel
theorem dX8_isOver_17 : decode cX8_isOver 17 = .ok (.aload_n 0, 1) := by decide +kernel
theorem dX8_isOver_18 : decode cX8_isOver 18 = .ok (.getfield 44, 3) := by decide +kernel
theorem dX8_isOver_21 : decode cX8_isOver 21 = .ok (.iload_n 2, 1) := by decide +kernel
theorem dX8_isOver_22 : decode cX8_isOver 22 = .ok (.iaload, 1) := by decide +kernel
theorem dX8_isOver_23 : decode cX8_isOver 23 = .ok (.invokevirtual 113, 3) := by decide +kernel
theorem dX8_isOver_26 : decode cX8_isOver 26 = .ok (.ifCond .ne 20, 3) := by decide +kernel
theorem dX8_isOver_29 : decode cX8_isOver 29 = .ok (.aload_n 0, 1) := by decide +kernel
theorem dX8_isOver_30 : decode cX8_isOver 30 = .ok (.aload_n 0, 1) := by decide +kernel
theorem dX8_isOver_31 : decode cX8_isOver 31 = .ok (.getfield 47, 3) := by decide +kernel
theorem dX8_isOver_34 : decode cX8_isOver 34 = .ok (.iload_n 2, 1) := by decide +kernel
theorem dX8_isOver_35 : decode cX8_isOver 35 = .ok (.iaload, 1) := by decide +kernel
theorem dX8_isOver_36 : decode cX8_isOver 36 = .ok (.invokevirtual 113, 3) := by decide +kernel
theorem dX8_isOver_39 : decode cX8_isOver 39 = .ok (.ifCond .ne 7, 3) := by decide +kernel
theorem dX8_isOver_42 : decode cX8_isOver 42 = .ok (.iconst 1, 1) := by decide +kernel
theorem dX8_isOver_43 : decode cX8_isOver 43 = .ok (.goto 4, 3) := by decide +kernel
theorem dX8_isOver_46 : decode cX8_isOver 46 = .ok (.iconst 0, 1) := by decide +kernel
theorem dX8_isOver_47 : decode cX8_isOver 47 = .ok (.istore_n 3, 1) := by decide +kernel
theorem dX8_isOver_48 : decode cX8_isOver 48 = .ok (.iload_n 3, 1) := by decide +kernel
theorem dX8_isOver_49 : decode cX8_isOver 49 = .ok (.ifCond .eq 26, 3) := by decide +kernel
theorem dX8_isOver_52 : decode cX8_isOver 52 = .ok (.aload_n 0, 1) := by decide +kernel
theorem dX8_isOver_53 : decode cX8_isOver 53 = .ok (.aload_n 0, 1) := by decide +kernel
theorem dX8_isOver_54 : decode cX8_isOver 54 = .ok (.getfield 44, 3) := by decide +kernel
theorem dX8_isOver_57 : decode cX8_isOver 57 = .ok (.iload_n 2, 1) := by decide +kernel
theorem dX8_isOver_58 : decode cX8_isOver 58 = .ok (.iaload, 1) := by decide +kernel
theorem dX8_isOver_59 : decode cX8_isOver 59 = .ok (.invokevirtual 176, 3) := by decide +kernel
theorem dX8_isOver_62 : decode cX8_isOver 62 = .ok (.aload_n 0, 1) := by decide +kernel
theorem dX8_isOver_63 : decode cX8_isOver 63 = .ok (.aload_n 0, 1) := by decide +kernel
theorem dX8_isOver_64 : decode cX8_isOver 64 = .ok (.getfield 47, 3) := by decide +kernel
theorem dX8_isOver_67 : decode cX8_isOver 67 = .ok (.iload_n 2, 1) := by decide +kernel
theorem dX8_isOver_68 : decode cX8_isOver 68 = .ok (.iaload, 1) := by decide +kernel
theorem dX8_isOver_69 : decode cX8_isOver 69 = .ok (.invokevirtual 176, 3) := by decide +kernel
theorem dX8_isOver_72 : decode cX8_isOver 72 = .ok (.if_icmp .le 7, 3) := by decide +kernel
theorem dX8_isOver_75 : decode cX8_isOver 75 = .ok (.iconst 1, 1) := by decide +kernel
theorem dX8_isOver_76 : decode cX8_isOver 76 = .ok (.goto 4, 3) := by decide +kernel
theorem dX8_isOver_79 : decode cX8_isOver 79 = .ok (.iconst 0, 1) := by decide +kernel
theorem dX8_isOver_80 : decode cX8_isOver 80 = .ok (.istore_n 1, 1) := by decide +kernel
theorem dX8_isOver_81 : decode cX8_isOver 81 = .ok (.iinc 2 1, 3) := by decide +kernel
theorem dX8_isOver_84 : decode cX8_isOver 84 = .ok (.goto (-80), 3) := by decide +kernel
theorem dX8_isOver_87 : decode cX8_isOver 87 = .ok (.iload_n 1, 1) := by decide +kernel
theorem dX8_isOver_88 : decode cX8_isOver 88 = .ok (.ireturn, 1) := by decide +kernel
theorem dX8_goOrder_0 : decode cX8_goOrder 0 = .ok (.aload_n 0, 1) := by decide +kernel
theorem dX8_goOrder_1 : decode cX8_goOrder 1 = .ok (.getfield 64, 3) := by decide +kernel
theorem dX8_goOrder_4 : decode cX8_goOrder 4 = .ok (.iconst 2, 1) := by decide +kernel
theorem dX8_goOrder_5 : decode cX8_goOrder 5 = .ok (.isub, 1) := by decide +kernel
theorem dX8_goOrder_6 : decode cX8_goOrder 6 = .ok (.istore_n 1, 1) := by decide +kernel
theorem dX8_goOrder_7 : decode cX8_goOrder 7 = .ok (.iload_n 1, 1) := by decide +kernel
theorem dX8_goOrder_8 : decode cX8_goOrder 8 = .ok (.ifCond .lt 26, 3) := by decide +kernel
theorem dX8_goOrder_11 : decode cX8_goOrder 11 = .ok (.aload_n 0, 1) := by decide +kernel
theorem dX8_goOrder_12 : decode cX8_goOrder 12 = .ok (.getfield 53, 3) := by decide +kernel
theorem dX8_goOrder_15 : decode cX8_goOrder 15 = .ok (.iload_n 1, 1) := by decide +kernel
theorem dX8_goOrder_16 : decode cX8_goOrder 16 = .ok (.iaload, 1) := by decide +kernel
theorem dX8_goOrder_17 : decode cX8_goOrder 17 = .ok (.aload_n 0, 1) := by decide +kernel
theorem dX8_goOrder_18 : decode cX8_goOrder 18 = .ok (.getfield 53, 3) := by decide +kernel
theorem dX8_goOrder_21 : decode cX8_goOrder 21 = .ok (.iload_n 1, 1) := by decide +kernel
theorem dX8_goOrder_22 : decode cX8_goOrder 22 = .ok (.iconst 1, 1) := by decide +kernel
theorem dX8_goOrder_23 : decode cX8_goOrder 23 = .ok (.iadd, 1) := by decide +kernel
theorem dX8_goOrder_24 : decode cX8_goOrder 24 = .ok (.iaload, 1) := by decide +kernel
theorem dX8_goOrder_25 : decode cX8_goOrder 25 = .ok (.if_icmp .le 9, 3) := by decide +kernel
theorem dX8_goOrder_28 : decode cX8_goOrder 28 = .ok (.iinc 1 (-1), 3) := by decide +kernel
theorem dX8_goOrder_31 : decode cX8_goOrder 31 = .ok (.goto (-24), 3) := by decide +kernel
theorem dX8_goOrder_34 : decode cX8_goOrder 34 = .ok (.iload_n 1, 1) := by decide +kernel
theorem dX8_goOrder_35 : decode cX8_goOrder 35 = .ok (.ifCond .ge 5, 3) := by decide +kernel
theorem dX8_goOrder_38 : decode cX8_goOrder 38 = .ok (.iconst 0, 1) := by decide +kernel
theorem dX8_goOrder_39 : decode cX8_goOrder 39 = .ok (.ireturn, 1) := by decide +kernel
theorem dX8_goOrder_40 : decode cX8_goOrder 40 = .ok (.aload_n 0, 1) := by decide +kernel
theorem dX8_goOrder_41 : decode cX8_goOrder 41 = .ok (.getfield 64, 3) := by decide +kernel
theorem dX8_goOrder_44 : decode cX8_goOrder 44 = .ok (.iconst 1, 1) := by decide +kernel
theorem dX8_goOrder_45 : decode cX8_goOrder 45 = .ok (.isub, 1) := by decide +kernel
theorem dX8_goOrder_46 : decode cX8_goOrder 46 = .ok (.istore_n 2, 1) := by decide +kernel
theorem dX8_goOrder_47 : decode cX8_goOrder 47 = .ok (.aload_n 0, 1) := by decide +kernel
theorem dX8_goOrder_48 : decode cX8_goOrder 48 = .ok (.getfield 53, 3) := by decide +kernel
theorem dX8_goOrder_51 : decode cX8_goOrder 51 = .ok (.iload_n 2, 1) := by decide +kernel
theorem dX8_goOrder_52 : decode cX8_goOrder 52 = .ok (.iaload, 1) := by decide +kernel
theorem dX8_goOrder_53 : decode cX8_goOrder 53 = .ok (.aload_n 0, 1) := by decide +kernel
theorem dX8_goOrder_54 : decode cX8_goOrder 54 = .ok (.getfield 53, 3) := by decide +kernel
theorem dX8_goOrder_57 : decode cX8_goOrder 57 = .ok (.iload_n 1, 1) := by decide +kernel
theorem dX8_goOrder_58 : decode cX8_goOrder 58 = .ok (.iaload, 1) := by decide +kernel
theorem dX8_goOrder_59 : decode cX8_goOrder 59 = .ok (.if_icmp .ge 9, 3) := by decide +kernel
theorem dX8_goOrder_62 : decode cX8_goOrder 62 = .ok (.iinc 2 (-1), 3) := by decide +kernel
theorem dX8_goOrder_65 : decode cX8_goOrder 65 = .ok (.goto (-18), 3) := by decide +kernel
theorem dX8_goOrder_68 : decode cX8_goOrder 68 = .ok (.aload_n 0, 1) := by decide +kernel
theorem dX8_goOrder_69 : decode cX8_goOrder 69 = .ok (.getfield 53, 3) := by decide +kernel
theorem dX8_goOrder_72 : decode cX8_goOrder 72 = .ok (.iload_n 1, 1) := by decide +kernel
theorem dX8_goOrder_73 : decode cX8_goOrder 73 = .ok (.iaload, 1) := by decide +kernel
theorem dX8_goOrder_74 : decode cX8_goOrder 74 = .ok (.istore_n 3, 1) := by decide +kernel
theorem dX8_goOrder_75 : decode cX8_goOrder 75 = .ok (.aload_n 0, 1) := by decide +kernel
theorem dX8_goOrder_76 : decode cX8_goOrder 76 = .ok (.getfield 53, 3) := by decide +kernel
theorem dX8_goOrder_79 : decode cX8_goOrder 79 = .ok (.iload_n 1, 1) := by decide +kernel
theorem dX8_goOrder_80 : decode cX8_goOrder 80 = .ok (.aload_n 0, 1) := by decide +kernel
theorem dX8_goOrder_81 : decode cX8_goOrder 81 = .ok (.getfield 53, 3) := by decide +kernel
theorem dX8_goOrder_84 : decode cX8_goOrder 84 = .ok (.iload_n 2, 1) := by decide +kernel
theorem dX8_goOrder_85 : decode cX8_goOrder 85 = .ok (.iaload, 1) := by decide +kernel
theorem dX8_goOrder_86 : decode cX8_goOrder 86 = .ok (.iastore, 1) := by decide +kernel
theorem dX8_goOrder_87 : decode cX8_goOrder 87 = .ok (.aload_n 0, 1) := by decide +kernel
theorem dX8_goOrder_88 : decode cX8_goOrder 88 = .ok (.getfield 53, 3) := by decide +kernel
theorem dX8_goOrder_91 : decode cX8_goOrder 91 = .ok (.iload_n 2, 1) := by decide +kernel
theorem dX8_goOrder_92 : decode cX8_goOrder 92 = .ok (.iload_n 3, 1) := by decide +kernel
theorem dX8_goOrder_93 : decode cX8_goOrder 93 = .ok (.iastore, 1) := by decide +kernel
theorem dX8_goOrder_94 : decode cX8_goOrder 94 = .ok (.iload_n 1, 1) := by decide +kernel
theorem dX8_goOrder_95 : decode cX8_goOrder 95 = .ok (.iconst 1, 1) := by decide +kernel
theorem dX8_goOrder_96 : decode cX8_goOrder 96 = .ok (.iadd, 1) := by decide +kernel
theorem dX8_goOrder_97 : decode cX8_goOrder 97 = .ok (.istore 4, 2) := by decide +kernel
theorem dX8_goOrder_99 : decode cX8_goOrder 99 = .ok (.aload_n 0, 1) := by decide +kernel
theorem dX8_goOrder_100 : decode cX8_goOrder 100 = .ok (.getfield 64, 3) := by decide +kernel
theorem dX8_goOrder_103 : decode cX8_goOrder 103 = .ok (.iconst 1, 1) := by decide +kernel
theorem dX8_goOrder_104 : decode cX8_goOrder 104 = .ok (.isub, 1) := by decide +kernel
theorem dX8_goOrder_105 : decode cX8_goOrder 105 = .ok (.istore 5, 2) := by decide +kernel
theorem dX8_goOrder_107 : decode cX8_goOrder 107 = .ok (.iload 4, 2) := by decide +kernel
theorem dX8_goOrder_109 : decode cX8_goOrder 109 = .ok (.iload 5, 2) := by decide +kernel
theorem dX8_goOrder_111 : decode cX8_goOrder 111 = .ok (.if_icmp .ge 42, 3) := by decide +kernel
theorem dX8_goOrder_114 : decode cX8_goOrder 114 = .ok (.aload_n 0, 1) := by decide +kernel
theorem dX8_goOrder_115 : decode cX8_goOrder 115 = .ok (.getfield 53, 3) := by decide +kernel
theorem dX8_goOrder_118 : decode cX8_goOrder 118 = .ok (.iload 4, 2) := by decide +kernel
theorem dX8_goOrder_120 : decode cX8_goOrder 120 = .ok (.iaload, 1) := by decide +kernel
theorem dX8_goOrder_121 : decode cX8_goOrder 121 = .ok (.istore_n 3, 1) := by decide +kernel
theorem dX8_goOrder_122 : decode cX8_goOrder 122 = .ok (.aload_n 0, 1) := by decide +kernel
theorem dX8_goOrder_123 : decode cX8_goOrder 123 = .ok (.getfield 53, 3) := by decide +kernel
theorem dX8_goOrder_126 : decode cX8_goOrder 126 = .ok (.iload 4, 2) := by decide +kernel
theorem dX8_goOrder_128 : decode cX8_goOrder 128 = .ok (.aload_n 0, 1) := by decide +kernel
theorem dX8_goOrder_129 : decode cX8_goOrder 129 = .ok (.getfield 53, 3) := by decide +kernel
theorem dX8_goOrder_132 : decode cX8_goOrder 132 = .ok (.iload 5, 2) := by decide +kernel
theorem dX8_goOrder_134 : decode cX8_goOrder 134 = .ok (.iaload, 1) := by decide +kernel
theorem dX8_goOrder_135 : decode cX8_goOrder 135 = .ok (.iastore, 1) := by decide +kernel
theorem dX8_goOrder_136 : decode cX8_goOrder 136 = .ok (.aload_n 0, 1) := by decide +kernel
theorem dX8_goOrder_137 : decode cX8_goOrder 137 = .ok (.getfield 53, 3) := by decide +kernel
theorem dX8_goOrder_140 : decode cX8_goOrder 140 = .ok (.iload 5, 2) := by decide +kernel
theorem dX8_goOrder_142 : decode cX8_goOrder 142 = .ok (.iload_n 3, 1) := by decide +kernel
theorem dX8_goOrder_143 : decode cX8_goOrder 143 = .ok (.iastore, 1) := by decide +kernel
theorem dX8_goOrder_144 : decode cX8_goOrder 144 = .ok (.iinc 4 1, 3) := by decide +kernel
theorem dX8_goOrder_147 : decode cX8_goOrder 147 = .ok (.iinc 5 (-1), 3) := by decide +kernel
theorem dX8_goOrder_150 : decode cX8_goOrder 150 = .ok (.goto (-43), 3) := by decide +kernel
theorem dX8_goOrder_153 : decode cX8_goOrder 153 = .ok (.iconst 1, 1) := by decide +kernel
theorem dX8_goOrder_154 : decode cX8_goOrder 154 = .ok (.ireturn, 1) := by decide +kernel
theorem dX8_orders_0 : decode cX8_orders 0 = .ok (.aload_n 0, 1) := by decide +kernel
theorem dX8_orders_1 : decode cX8_orders 1 = .ok (.iconst 0, 1) := by decide +kernel
theorem dX8_orders_2 : decode cX8_orders 2 = .ok (.putfield 60, 3) := by decide +kernel
theorem dX8_orders_5 : decode cX8_orders 5 = .ok (.iload_n 1, 1) := by decide +kernel
theorem dX8_orders_6 : decode cX8_orders 6 = .ok (.i2l, 1) := by decide +kernel
theorem dX8_orders_7 : decode cX8_orders 7 = .ok (.lconst 0, 1) := by decide +kernel
theorem dX8_orders_8 : decode cX8_orders 8 = .ok (.lconst 1, 1) := by decide +kernel
theorem dX8_orders_9 : decode cX8_orders 9 = .ok (.invokestatic 67, 3) := by decide +kernel
theorem dX8_orders_12 : decode cX8_orders 12 = .ok (.ifCond .ne 6, 3) := by decide +kernel
theorem dX8_orders_15 : decode cX8_orders 15 = .ok (.bipush (-2), 2) := by decide +kernel
theorem dX8_orders_17 : decode cX8_orders 17 = .ok (.ireturn, 1) := by decide +kernel
theorem dX8_orders_18 : decode cX8_orders 18 = .ok (.aload_n 0, 1) := by decide +kernel
theorem dX8_orders_19 : decode cX8_orders 19 = .ok (.iconst 0, 1) := by decide +kernel
theorem dX8_orders_20 : decode cX8_orders 20 = .ok (.putfield 144, 3) := by decide +kernel
theorem dX8_orders_23 : decode cX8_orders 23 = .ok (.aload_n 0, 1) := by decide +kernel
theorem dX8_orders_24 : decode cX8_orders 24 = .ok (.bipush (-9), 2) := by decide +kernel
theorem dX8_orders_26 : decode cX8_orders 26 = .ok (.putfield 179, 3) := by decide +kernel
theorem dX8_orders_29 : decode cX8_orders 29 = .ok (.iconst 0, 1) := by decide +kernel
theorem dX8_orders_30 : decode cX8_orders 30 = .ok (.istore_n 2, 1) := by decide +kernel
theorem dX8_orders_31 : decode cX8_orders 31 = .ok (.iload_n 2, 1) := by decide +kernel
theorem dX8_orders_32 : decode cX8_orders 32 = .ok (.aload_n 0, 1) := by decide +kernel
theorem dX8_orders_33 : decode cX8_orders 33 = .ok (.getfield 64, 3) := by decide +kernel
theorem dX8_orders_36 : decode cX8_orders 36 = .ok (.if_icmp .ge 16, 3) := by decide +kernel
theorem dX8_orders_39 : decode cX8_orders 39 = .ok (.aload_n 0, 1) := by decide +kernel
theorem dX8_orders_40 : decode cX8_orders 40 = .ok (.getfield 53, 3) := by decide +kernel
theorem dX8_orders_43 : decode cX8_orders 43 = .ok (.iload_n 2, 1) := by decide +kernel
theorem dX8_orders_44 : decode cX8_orders 44 = .ok (.iload_n 2, 1) := by decide +kernel
theorem dX8_orders_45 : decode cX8_orders 45 = .ok (.iastore, 1) := by decide +kernel
theorem dX8_orders_46 : decode cX8_orders 46 = .ok (.iinc 2 1, 3) := by decide +kernel
theorem dX8_orders_49 : decode cX8_orders 49 = .ok (.goto (-18), 3) := by decide +kernel
theorem dX8_orders_52 : decode cX8_orders 52 = .ok (.iconst 1, 1) := by decide +kernel
theorem dX8_orders_53 : decode cX8_orders 53 = .ok (.istore_n 2, 1) := by decide +kernel
theorem dX8_orders_54 : decode cX8_orders 54 = .ok (.iload_n 2, 1) := by decide +kernel
theorem dX8_orders_55 : decode cX8_orders 55 = .ok (.ifCond .eq 82, 3) := by decide +kernel
theorem dX8_orders_58 : decode cX8_orders 58 = .ok (.aload_n 0, 1) := by decide +kernel
theorem dX8_orders_59 : decode cX8_orders 59 = .ok (.invokevirtual 182, 3) := by decide +kernel
theorem dX8_orders_62 : decode cX8_orders 62 = .ok (.ifCond .eq 67, 3) := by decide +kernel
theorem dX8_orders_65 : decode cX8_orders 65 = .ok (.iconst 0, 1) := by decide +kernel
theorem dX8_orders_66 : decode cX8_orders 66 = .ok (.istore_n 3, 1) := by decide +kernel
theorem dX8_orders_67 : decode cX8_orders 67 = .ok (.iconst 0, 1) := by decide +kernel
theorem dX8_orders_68 : decode cX8_orders 68 = .ok (.istore 4, 2) := by decide +kernel
theorem dX8_orders_70 : decode cX8_orders 70 = .ok (.iload 4, 2) := by decide +kernel
theorem dX8_orders_72 : decode cX8_orders 72 = .ok (.aload_n 0, 1) := by decide +kernel
theorem dX8_orders_73 : decode cX8_orders 73 = .ok (.getfield 64, 3) := by decide +kernel
theorem dX8_orders_76 : decode cX8_orders 76 = .ok (.if_icmp .ge 24, 3) := by decide +kernel
theorem dX8_orders_79 : decode cX8_orders 79 = .ok (.bipush 10, 2) := by decide +kernel
theorem dX8_orders_81 : decode cX8_orders 81 = .ok (.iload_n 3, 1) := by decide +kernel
theorem dX8_orders_82 : decode cX8_orders 82 = .ok (.imul, 1) := by decide +kernel
theorem dX8_orders_83 : decode cX8_orders 83 = .ok (.aload_n 0, 1) := by decide +kernel
theorem dX8_orders_84 : decode cX8_orders 84 = .ok (.getfield 53, 3) := by decide +kernel
theorem dX8_orders_87 : decode cX8_orders 87 = .ok (.iload 4, 2) := by decide +kernel
theorem dX8_orders_89 : decode cX8_orders 89 = .ok (.iaload, 1) := by decide +kernel
theorem dX8_orders_90 : decode cX8_orders 90 = .ok (.iadd, 1) := by decide +kernel
theorem dX8_orders_91 : decode cX8_orders 91 = .ok (.iconst 1, 1) := by decide +kernel
theorem dX8_orders_92 : decode cX8_orders 92 = .ok (.iadd, 1) := by decide +kernel
theorem dX8_orders_93 : decode cX8_orders 93 = .ok (.istore_n 3, 1) := by decide +kernel
theorem dX8_orders_94 : decode cX8_orders 94 = .ok (.iinc 4 1, 3) := by decide +kernel
theorem dX8_orders_97 : decode cX8_orders 97 = .ok (.goto (-27), 3) := by decide +kernel
theorem dX8_orders_100 : decode cX8_orders 100 = .ok (.aload_n 0, 1) := by decide +kernel
theorem dX8_orders_101 : decode cX8_orders 101 = .ok (.aload_n 0, 1) := by decide +kernel
theorem dX8_orders_102 : decode cX8_orders 102 = .ok (.getfield 144, 3) := by decide +kernel
theorem dX8_orders_105 : decode cX8_orders 105 = .ok (.ifCond .ne 7, 3) := by decide +kernel
theorem dX8_orders_108 : decode cX8_orders 108 = .ok (.iload_n 3, 1) := by decide +kernel
theorem dX8_orders_109 : decode cX8_orders 109 = .ok (.goto 7, 3) := by decide +kernel
theorem dX8_orders_112 : decode cX8_orders 112 = .ok (.aload_n 0, 1) := by decide +kernel
theorem dX8_orders_113 : decode cX8_orders 113 = .ok (.getfield 179, 3) := by decide +kernel
theorem dX8_orders_116 : decode cX8_orders 116 = .ok (.putfield 179, 3) := by decide +kernel
theorem dX8_orders_119 : decode cX8_orders 119 = .ok (.aload_n 0, 1) := by decide +kernel
theorem dX8_orders_120 : decode cX8_orders 120 = .ok (.dup, 1) := by decide +kernel
theorem dX8_orders_121 : decode cX8_orders 121 = .ok (.getfield 144, 3) := by decide +kernel
theorem dX8_orders_124 : decode cX8_orders 124 = .ok (.iconst 1, 1) := by decide +kernel
theorem dX8_orders_125 : decode cX8_orders 125 = .ok (.iadd, 1) := by decide +kernel
theorem dX8_orders_126 : decode cX8_orders 126 = .ok (.putfield 144, 3) := by decide +kernel
theorem dX8_orders_129 : decode cX8_orders 129 = .ok (.aload_n 0, 1) := by decide +kernel
theorem dX8_orders_130 : decode cX8_orders 130 = .ok (.invokevirtual 186, 3) := by decide +kernel
theorem dX8_orders_133 : decode cX8_orders 133 = .ok (.istore_n 2, 1) := by decide +kernel
theorem dX8_orders_134 : decode cX8_orders 134 = .ok (.goto (-80), 3) := by decide +kernel
theorem dX8_orders_137 : decode cX8_orders 137 = .ok (.iload_n 1, 1) := by decide +kernel
theorem dX8_orders_138 : decode cX8_orders 138 = .ok (.ifCond .ne 10, 3) := by decide +kernel
theorem dX8_orders_141 : decode cX8_orders 141 = .ok (.aload_n 0, 1) := by decide +kernel
theorem dX8_orders_142 : decode cX8_orders 142 = .ok (.getfield 144, 3) := by decide +kernel
theorem dX8_orders_145 : decode cX8_orders 145 = .ok (.goto 7, 3) := by decide +kernel
theorem dX8_orders_148 : decode cX8_orders 148 = .ok (.aload_n 0, 1) := by decide +kernel
theorem dX8_orders_149 : decode cX8_orders 149 = .ok (.getfield 179, 3) := by decide +kernel
theorem dX8_orders_152 : decode cX8_orders 152 = .ok (.ireturn, 1) := by decide +kernel
theorem dX8_clerk_0 : decode cX8_clerk 0 = .ok (.iconst 2, 1) := by decide +kernel
theorem dX8_clerk_1 : decode cX8_clerk 1 = .ok (.iload_n 0, 1) := by decide +kernel
theorem dX8_clerk_2 : decode cX8_clerk 2 = .ok (.imul, 1) := by decide +kernel
theorem dX8_clerk_3 : decode cX8_clerk 3 = .ok (.iload_n 0, 1) := by decide +kernel
theorem dX8_clerk_4 : decode cX8_clerk 4 = .ok (.iload_n 1, 1) := by decide +kernel
theorem dX8_clerk_5 : decode cX8_clerk 5 = .ok (.if_icmp .le 7, 3) := by decide +kernel
theorem dX8_clerk_8 : decode cX8_clerk 8 = .ok (.iconst 5, 1) := by decide +kernel
theorem dX8_clerk_9 : decode cX8_clerk 9 = .ok (.goto 4, 3) := by decide +kernel
theorem dX8_clerk_12 : decode cX8_clerk 12 = .ok (.iconst 0, 1) := by decide +kernel
theorem dX8_clerk_13 : decode cX8_clerk 13 = .ok (.isub, 1) := by decide +kernel
theorem dX8_clerk_14 : decode cX8_clerk 14 = .ok (.ireturn, 1) := by decide +kernel
theorem dX8_auditor_0 : decode cX8_auditor 0 = .ok (.iload_n 0, 1) := by decide +kernel
theorem dX8_auditor_1 : decode cX8_auditor 1 = .ok (.iload_n 1, 1) := by decide +kernel
theorem dX8_auditor_2 : decode cX8_auditor 2 = .ok (.if_icmp .le 7, 3) := by decide +kernel
theorem dX8_auditor_5 : decode cX8_auditor 5 = .ok (.iconst 4, 1) := by decide +kernel
theorem dX8_auditor_6 : decode cX8_auditor 6 = .ok (.goto 4, 3) := by decide +kernel
theorem dX8_auditor_9 : decode cX8_auditor 9 = .ok (.iconst 0, 1) := by decide +kernel
theorem dX8_auditor_10 : decode cX8_auditor 10 = .ok (.iload_n 1, 1) := by decide +kernel
theorem dX8_auditor_11 : decode cX8_auditor 11 = .ok (.isub, 1) := by decide +kernel
theorem dX8_auditor_12 : decode cX8_auditor 12 = .ok (.ireturn, 1) := by decide +kernel
theorem dX8_rests_0 : decode cX8_rests 0 = .ok (.aload_n 0, 1) := by decide +kernel
theorem dX8_rests_1 : decode cX8_rests 1 = .ok (.iconst 0, 1) := by decide +kernel
theorem dX8_rests_2 : decode cX8_rests 2 = .ok (.putfield 60, 3) := by decide +kernel
theorem dX8_rests_5 : decode cX8_rests 5 = .ok (.aload_n 0, 1) := by decide +kernel
theorem dX8_rests_6 : decode cX8_rests 6 = .ok (.iload_n 1, 1) := by decide +kernel
theorem dX8_rests_7 : decode cX8_rests 7 = .ok (.invokevirtual 113, 3) := by decide +kernel
theorem dX8_rests_10 : decode cX8_rests 10 = .ok (.ifCond .eq 5, 3) := by decide +kernel
theorem dX8_rests_13 : decode cX8_rests 13 = .ok (.iconst (-1), 1) := by decide +kernel
theorem dX8_rests_14 : decode cX8_rests 14 = .ok (.ireturn, 1) := by decide +kernel
theorem dX8_rests_15 : decode cX8_rests 15 = .ok (.iload_n 2, 1) := by decide +kernel
theorem dX8_rests_16 : decode cX8_rests 16 = .ok (.i2l, 1) := by decide +kernel
theorem dX8_rests_17 : decode cX8_rests 17 = .ok (.lconst 0, 1) := by decide +kernel
theorem dX8_rests_18 : decode cX8_rests 18 = .ok (.lconst 1, 1) := by decide +kernel
theorem dX8_rests_19 : decode cX8_rests 19 = .ok (.invokestatic 67, 3) := by decide +kernel
theorem dX8_rests_22 : decode cX8_rests 22 = .ok (.ifCond .ne 6, 3) := by decide +kernel
theorem dX8_rests_25 : decode cX8_rests 25 = .ok (.bipush (-2), 2) := by decide +kernel
theorem dX8_rests_27 : decode cX8_rests 27 = .ok (.ireturn, 1) := by decide +kernel
theorem dX8_rests_28 : decode cX8_rests 28 = .ok (.aload_n 0, 1) := by decide +kernel
theorem dX8_rests_29 : decode cX8_rests 29 = .ok (.getfield 16, 3) := by decide +kernel
theorem dX8_rests_32 : decode cX8_rests 32 = .ok (.iload_n 1, 1) := by decide +kernel
theorem dX8_rests_33 : decode cX8_rests 33 = .ok (.iaload, 1) := by decide +kernel
theorem dX8_rests_34 : decode cX8_rests 34 = .ok (.iconst 2, 1) := by decide +kernel
theorem dX8_rests_35 : decode cX8_rests 35 = .ok (.if_icmp .ne 7, 3) := by decide +kernel
theorem dX8_rests_38 : decode cX8_rests 38 = .ok (.iconst 1, 1) := by decide +kernel
theorem dX8_rests_39 : decode cX8_rests 39 = .ok (.goto 4, 3) := by decide +kernel
theorem dX8_rests_42 : decode cX8_rests 42 = .ok (.iconst 0, 1) := by decide +kernel
theorem dX8_rests_43 : decode cX8_rests 43 = .ok (.istore_n 3, 1) := by decide +kernel
theorem dX8_rests_44 : decode cX8_rests 44 = .ok (.aload_n 0, 1) := by decide +kernel
theorem dX8_rests_45 : decode cX8_rests 45 = .ok (.getfield 16, 3) := by decide +kernel
theorem dX8_rests_48 : decode cX8_rests 48 = .ok (.iload_n 1, 1) := by decide +kernel
theorem dX8_rests_49 : decode cX8_rests 49 = .ok (.iaload, 1) := by decide +kernel
theorem dX8_rests_50 : decode cX8_rests 50 = .ok (.iconst 1, 1) := by decide +kernel
theorem dX8_rests_51 : decode cX8_rests 51 = .ok (.if_icmp .ne 7, 3) := by decide +kernel
theorem dX8_rests_54 : decode cX8_rests 54 = .ok (.iconst 2, 1) := by decide +kernel
theorem dX8_rests_55 : decode cX8_rests 55 = .ok (.goto 4, 3) := by decide +kernel
theorem dX8_rests_58 : decode cX8_rests 58 = .ok (.iconst 3, 1) := by decide +kernel
theorem dX8_rests_59 : decode cX8_rests 59 = .ok (.istore 4, 2) := by decide +kernel
theorem dX8_rests_61 : decode cX8_rests 61 = .ok (.iconst 0, 1) := by decide +kernel
theorem dX8_rests_62 : decode cX8_rests 62 = .ok (.istore 5, 2) := by decide +kernel
theorem dX8_rests_64 : decode cX8_rests 64 = .ok (.bipush (-9), 2) := by decide +kernel
theorem dX8_rests_66 : decode cX8_rests 66 = .ok (.istore 6, 2) := by decide +kernel
theorem dX8_rests_68 : decode cX8_rests 68 = .ok (.iload_n 3, 1) := by decide +kernel
theorem dX8_rests_69 : decode cX8_rests 69 = .ok (.istore 7, 2) := by decide +kernel
theorem dX8_rests_71 : decode cX8_rests 71 = .ok (.iload 7, 2) := by decide +kernel
theorem dX8_rests_73 : decode cX8_rests 73 = .ok (.iload 4, 2) := by decide +kernel
theorem dX8_rests_75 : decode cX8_rests 75 = .ok (.if_icmp .gt 156, 3) := by decide +kernel
theorem dX8_rests_78 : decode cX8_rests 78 = .ok (.iconst 0, 1) := by decide +kernel
theorem dX8_rests_79 : decode cX8_rests 79 = .ok (.istore 8, 2) := by decide +kernel
theorem dX8_rests_81 : decode cX8_rests 81 = .ok (.iload 8, 2) := by decide +kernel
theorem dX8_rests_83 : decode cX8_rests 83 = .ok (.iconst 4, 1) := by decide +kernel
theorem dX8_rests_84 : decode cX8_rests 84 = .ok (.if_icmp .ge 141, 3) := by decide +kernel
theorem dX8_rests_87 : decode cX8_rests 87 = .ok (.iconst 1, 1) := by decide +kernel
theorem dX8_rests_88 : decode cX8_rests 88 = .ok (.istore 9, 2) := by decide +kernel
theorem dX8_rests_90 : decode cX8_rests 90 = .ok (.iload_n 3, 1) := by decide +kernel
theorem dX8_rests_91 : decode cX8_rests 91 = .ok (.istore 10, 2) := by decide +kernel
theorem dX8_rests_93 : decode cX8_rests 93 = .ok (.iload 10, 2) := by decide +kernel
theorem dX8_rests_95 : decode cX8_rests 95 = .ok (.iload 4, 2) := by decide +kernel
theorem dX8_rests_97 : decode cX8_rests 97 = .ok (.if_icmp .gt 38, 3) := by decide +kernel
theorem dX8_rests_100 : decode cX8_rests 100 = .ok (.iload 9, 2) := by decide +kernel
theorem dX8_rests_102 : decode cX8_rests 102 = .ok (.ifCond .eq 24, 3) := by decide +kernel
theorem dX8_rests_105 : decode cX8_rests 105 = .ok (.iload 10, 2) := by decide +kernel
theorem dX8_rests_107 : decode cX8_rests 107 = .ok (.iload 8, 2) := by decide +kernel
theorem dX8_rests_109 : decode cX8_rests 109 = .ok (.invokestatic 189, 3) := by decide +kernel
theorem dX8_rests_112 : decode cX8_rests 112 = .ok (.iload 7, 2) := by decide +kernel
theorem dX8_rests_114 : decode cX8_rests 114 = .ok (.iload 8, 2) := by decide +kernel
theorem dX8_rests_116 : decode cX8_rests 116 = .ok (.invokestatic 189, 3) := by decide +kernel
theorem dX8_rests_119 : decode cX8_rests 119 = .ok (.if_icmp .gt 7, 3) := by decide +kernel
theorem dX8_rests_122 : decode cX8_rests 122 = .ok (.iconst 1, 1) := by decide +kernel
theorem dX8_rests_123 : decode cX8_rests 123 = .ok (.goto 4, 3) := by decide +kernel
theorem dX8_rests_126 : decode cX8_rests 126 = .ok (.iconst 0, 1) := by decide +kernel
theorem dX8_rests_127 : decode cX8_rests 127 = .ok (.istore 9, 2) := by decide +kernel
theorem dX8_rests_129 : decode cX8_rests 129 = .ok (.iinc 10 1, 3) := by decide +kernel
theorem dX8_rests_132 : decode cX8_rests 132 = .ok (.goto (-39), 3) := by decide +kernel
theorem dX8_rests_135 : decode cX8_rests 135 = .ok (.iconst 0, 1) := by decide +kernel
theorem dX8_rests_136 : decode cX8_rests 136 = .ok (.istore 10, 2) := by decide +kernel
theorem dX8_rests_138 : decode cX8_rests 138 = .ok (.iload 10, 2) := by decide +kernel
theorem dX8_rests_140 : decode cX8_rests 140 = .ok (.iconst 4, 1) := by decide +kernel
theorem dX8_rests_141 : decode cX8_rests 141 = .ok (.if_icmp .ge 38, 3) := by decide +kernel
theorem dX8_rests_144 : decode cX8_rests 144 = .ok (.iload 9, 2) := by decide +kernel
theorem dX8_rests_146 : decode cX8_rests 146 = .ok (.ifCond .eq 24, 3) := by decide +kernel
theorem dX8_rests_149 : decode cX8_rests 149 = .ok (.iload 7, 2) := by decide +kernel
theorem dX8_rests_151 : decode cX8_rests 151 = .ok (.iload 10, 2) := by decide +kernel
theorem dX8_rests_153 : decode cX8_rests 153 = .ok (.invokestatic 192, 3) := by decide +kernel
theorem dX8_rests_156 : decode cX8_rests 156 = .ok (.iload 7, 2) := by decide +kernel
theorem dX8_rests_158 : decode cX8_rests 158 = .ok (.iload 8, 2) := by decide +kernel
theorem dX8_rests_160 : decode cX8_rests 160 = .ok (.invokestatic 192, 3) := by decide +kernel
theorem dX8_rests_163 : decode cX8_rests 163 = .ok (.if_icmp .gt 7, 3) := by decide +kernel
theorem dX8_rests_166 : decode cX8_rests 166 = .ok (.iconst 1, 1) := by decide +kernel
theorem dX8_rests_167 : decode cX8_rests 167 = .ok (.goto 4, 3) := by decide +kernel
theorem dX8_rests_170 : decode cX8_rests 170 = .ok (.iconst 0, 1) := by decide +kernel
theorem dX8_rests_171 : decode cX8_rests 171 = .ok (.istore 9, 2) := by decide +kernel
theorem dX8_rests_173 : decode cX8_rests 173 = .ok (.iinc 10 1, 3) := by decide +kernel
theorem dX8_rests_176 : decode cX8_rests 176 = .ok (.goto (-38), 3) := by decide +kernel
theorem dX8_rests_179 : decode cX8_rests 179 = .ok (.iload 9, 2) := by decide +kernel
theorem dX8_rests_181 : decode cX8_rests 181 = .ok (.ifCond .eq 19, 3) := by decide +kernel
theorem dX8_rests_184 : decode cX8_rests 184 = .ok (.iload 5, 2) := by decide +kernel
theorem dX8_rests_186 : decode cX8_rests 186 = .ok (.ifCond .ne 14, 3) := by decide +kernel
theorem dX8_rests_189 : decode cX8_rests 189 = .ok (.bipush 10, 2) := by decide +kernel
theorem dX8_rests_191 : decode cX8_rests 191 = .ok (.iload 7, 2) := by decide +kernel
theorem dX8_rests_193 : decode cX8_rests 193 = .ok (.imul, 1) := by decide +kernel
theorem dX8_rests_194 : decode cX8_rests 194 = .ok (.iload 8, 2) := by decide +kernel
theorem dX8_rests_196 : decode cX8_rests 196 = .ok (.iadd, 1) := by decide +kernel
theorem dX8_rests_197 : decode cX8_rests 197 = .ok (.goto 5, 3) := by decide +kernel
theorem dX8_rests_200 : decode cX8_rests 200 = .ok (.iload 6, 2) := by decide +kernel
theorem dX8_rests_202 : decode cX8_rests 202 = .ok (.istore 6, 2) := by decide +kernel
theorem dX8_rests_204 : decode cX8_rests 204 = .ok (.iload 5, 2) := by decide +kernel
theorem dX8_rests_206 : decode cX8_rests 206 = .ok (.iload 9, 2) := by decide +kernel
theorem dX8_rests_208 : decode cX8_rests 208 = .ok (.ifCond .eq 7, 3) := by decide +kernel
theorem dX8_rests_211 : decode cX8_rests 211 = .ok (.iconst 1, 1) := by decide +kernel
theorem dX8_rests_212 : decode cX8_rests 212 = .ok (.goto 4, 3) := by decide +kernel
theorem dX8_rests_215 : decode cX8_rests 215 = .ok (.iconst 0, 1) := by decide +kernel
theorem dX8_rests_216 : decode cX8_rests 216 = .ok (.iadd, 1) := by decide +kernel
theorem dX8_rests_217 : decode cX8_rests 217 = .ok (.istore 5, 2) := by decide +kernel
theorem dX8_rests_219 : decode cX8_rests 219 = .ok (.iinc 8 1, 3) := by decide +kernel
theorem dX8_rests_222 : decode cX8_rests 222 = .ok (.goto (-141), 3) := by decide +kernel
theorem dX8_rests_225 : decode cX8_rests 225 = .ok (.iinc 7 1, 3) := by decide +kernel
theorem dX8_rests_228 : decode cX8_rests 228 = .ok (.goto (-157), 3) := by decide +kernel
theorem dX8_rests_231 : decode cX8_rests 231 = .ok (.iload_n 2, 1) := by decide +kernel
theorem dX8_rests_232 : decode cX8_rests 232 = .ok (.ifCond .ne 8, 3) := by decide +kernel
theorem dX8_rests_235 : decode cX8_rests 235 = .ok (.iload 5, 2) := by decide +kernel
theorem dX8_rests_237 : decode cX8_rests 237 = .ok (.goto 5, 3) := by decide +kernel
theorem dX8_rests_240 : decode cX8_rests 240 = .ok (.iload 6, 2) := by decide +kernel
theorem dX8_rests_242 : decode cX8_rests 242 = .ok (.ireturn, 1) := by decide +kernel
theorem dX8_chance_0 : decode cX8_chance 0 = .ok (.aload_n 0, 1) := by decide +kernel
theorem dX8_chance_1 : decode cX8_chance 1 = .ok (.iconst 0, 1) := by decide +kernel
theorem dX8_chance_2 : decode cX8_chance 2 = .ok (.putfield 60, 3) := by decide +kernel
theorem dX8_chance_5 : decode cX8_chance 5 = .ok (.aload_n 0, 1) := by decide +kernel
theorem dX8_chance_6 : decode cX8_chance 6 = .ok (.iload_n 1, 1) := by decide +kernel
theorem dX8_chance_7 : decode cX8_chance 7 = .ok (.invokevirtual 113, 3) := by decide +kernel
theorem dX8_chance_10 : decode cX8_chance 10 = .ok (.ifCond .eq 5, 3) := by decide +kernel
theorem dX8_chance_13 : decode cX8_chance 13 = .ok (.iconst (-1), 1) := by decide +kernel
theorem dX8_chance_14 : decode cX8_chance 14 = .ok (.ireturn, 1) := by decide +kernel
theorem dX8_chance_15 : decode cX8_chance 15 = .ok (.iload_n 2, 1) := by decide +kernel
theorem dX8_chance_16 : decode cX8_chance 16 = .ok (.i2l, 1) := by decide +kernel
theorem dX8_chance_17 : decode cX8_chance 17 = .ok (.lconst 0, 1) := by decide +kernel
theorem dX8_chance_18 : decode cX8_chance 18 = .ok (.ldc2_w 195, 3) := by decide +kernel
theorem dX8_chance_21 : decode cX8_chance 21 = .ok (.invokestatic 67, 3) := by decide +kernel
theorem dX8_chance_24 : decode cX8_chance 24 = .ok (.ifCond .ne 6, 3) := by decide +kernel
theorem dX8_chance_27 : decode cX8_chance 27 = .ok (.bipush (-2), 2) := by decide +kernel
theorem dX8_chance_29 : decode cX8_chance 29 = .ok (.ireturn, 1) := by decide +kernel
theorem dX8_chance_30 : decode cX8_chance 30 = .ok (.aload_n 0, 1) := by decide +kernel
theorem dX8_chance_31 : decode cX8_chance 31 = .ok (.getfield 28, 3) := by decide +kernel
theorem dX8_chance_34 : decode cX8_chance 34 = .ok (.invokestatic 102, 3) := by decide +kernel
theorem dX8_chance_37 : decode cX8_chance 37 = .ok (.istore 4, 2) := by decide +kernel
theorem dX8_chance_39 : decode cX8_chance 39 = .ok (.aload_n 0, 1) := by decide +kernel
theorem dX8_chance_40 : decode cX8_chance 40 = .ok (.getfield 22, 3) := by decide +kernel
theorem dX8_chance_43 : decode cX8_chance 43 = .ok (.iload_n 1, 1) := by decide +kernel
theorem dX8_chance_44 : decode cX8_chance 44 = .ok (.iaload, 1) := by decide +kernel
theorem dX8_chance_45 : decode cX8_chance 45 = .ok (.iload 4, 2) := by decide +kernel
theorem dX8_chance_47 : decode cX8_chance 47 = .ok (.iconst (-1), 1) := by decide +kernel
theorem dX8_chance_48 : decode cX8_chance 48 = .ok (.ixor, 1) := by decide +kernel
theorem dX8_chance_49 : decode cX8_chance 49 = .ok (.iand, 1) := by decide +kernel
theorem dX8_chance_50 : decode cX8_chance 50 = .ok (.ifCond .ne 7, 3) := by decide +kernel
theorem dX8_chance_53 : decode cX8_chance 53 = .ok (.iconst 1, 1) := by decide +kernel
theorem dX8_chance_54 : decode cX8_chance 54 = .ok (.goto 4, 3) := by decide +kernel
theorem dX8_chance_57 : decode cX8_chance 57 = .ok (.iconst 0, 1) := by decide +kernel
theorem dX8_chance_58 : decode cX8_chance 58 = .ok (.istore 5, 2) := by decide +kernel
theorem dX8_chance_60 : decode cX8_chance 60 = .ok (.iconst 1, 1) := by decide +kernel
theorem dX8_chance_61 : decode cX8_chance 61 = .ok (.istore 6, 2) := by decide +kernel
theorem dX8_chance_63 : decode cX8_chance 63 = .ok (.aload_n 0, 1) := by decide +kernel
theorem dX8_chance_64 : decode cX8_chance 64 = .ok (.getfield 13, 3) := by decide +kernel
theorem dX8_chance_67 : decode cX8_chance 67 = .ok (.iload_n 1, 1) := by decide +kernel
theorem dX8_chance_68 : decode cX8_chance 68 = .ok (.iaload, 1) := by decide +kernel
theorem dX8_chance_69 : decode cX8_chance 69 = .ok (.istore 7, 2) := by decide +kernel
theorem dX8_chance_71 : decode cX8_chance 71 = .ok (.iload 7, 2) := by decide +kernel
theorem dX8_chance_73 : decode cX8_chance 73 = .ok (.aload_n 0, 1) := by decide +kernel
theorem dX8_chance_74 : decode cX8_chance 74 = .ok (.getfield 13, 3) := by decide +kernel
theorem dX8_chance_77 : decode cX8_chance 77 = .ok (.iload_n 1, 1) := by decide +kernel
theorem dX8_chance_78 : decode cX8_chance 78 = .ok (.iaload, 1) := by decide +kernel
theorem dX8_chance_79 : decode cX8_chance 79 = .ok (.iconst 4, 1) := by decide +kernel
theorem dX8_chance_80 : decode cX8_chance 80 = .ok (.iadd, 1) := by decide +kernel
theorem dX8_chance_81 : decode cX8_chance 81 = .ok (.if_icmp .ge 53, 3) := by decide +kernel
theorem dX8_chance_84 : decode cX8_chance 84 = .ok (.iload 4, 2) := by decide +kernel
theorem dX8_chance_86 : decode cX8_chance 86 = .ok (.iload 7, 2) := by decide +kernel
theorem dX8_chance_88 : decode cX8_chance 88 = .ok (.invokestatic 99, 3) := by decide +kernel
theorem dX8_chance_91 : decode cX8_chance 91 = .ok (.ifCond .eq 37, 3) := by decide +kernel
theorem dX8_chance_94 : decode cX8_chance 94 = .ok (.iload 5, 2) := by decide +kernel
theorem dX8_chance_96 : decode cX8_chance 96 = .ok (.aload_n 0, 1) := by decide +kernel
theorem dX8_chance_97 : decode cX8_chance 97 = .ok (.getfield 22, 3) := by decide +kernel
theorem dX8_chance_100 : decode cX8_chance 100 = .ok (.iload_n 1, 1) := by decide +kernel
theorem dX8_chance_101 : decode cX8_chance 101 = .ok (.iaload, 1) := by decide +kernel
theorem dX8_chance_102 : decode cX8_chance 102 = .ok (.iload 7, 2) := by decide +kernel
theorem dX8_chance_104 : decode cX8_chance 104 = .ok (.invokestatic 99, 3) := by decide +kernel
theorem dX8_chance_107 : decode cX8_chance 107 = .ok (.ifCond .eq 10, 3) := by decide +kernel
theorem dX8_chance_110 : decode cX8_chance 110 = .ok (.bipush 10, 2) := by decide +kernel
theorem dX8_chance_112 : decode cX8_chance 112 = .ok (.iload_n 2, 1) := by decide +kernel
theorem dX8_chance_113 : decode cX8_chance 113 = .ok (.isub, 1) := by decide +kernel
theorem dX8_chance_114 : decode cX8_chance 114 = .ok (.goto 4, 3) := by decide +kernel
theorem dX8_chance_117 : decode cX8_chance 117 = .ok (.iload_n 2, 1) := by decide +kernel
theorem dX8_chance_118 : decode cX8_chance 118 = .ok (.imul, 1) := by decide +kernel
theorem dX8_chance_119 : decode cX8_chance 119 = .ok (.istore 5, 2) := by decide +kernel
theorem dX8_chance_121 : decode cX8_chance 121 = .ok (.iload 6, 2) := by decide +kernel
theorem dX8_chance_123 : decode cX8_chance 123 = .ok (.bipush 10, 2) := by decide +kernel
theorem dX8_chance_125 : decode cX8_chance 125 = .ok (.imul, 1) := by decide +kernel
theorem dX8_chance_126 : decode cX8_chance 126 = .ok (.istore 6, 2) := by decide +kernel
theorem dX8_chance_128 : decode cX8_chance 128 = .ok (.iinc 7 1, 3) := by decide +kernel
theorem dX8_chance_131 : decode cX8_chance 131 = .ok (.goto (-60), 3) := by decide +kernel
theorem dX8_chance_134 : decode cX8_chance 134 = .ok (.iload 5, 2) := by decide +kernel
theorem dX8_chance_136 : decode cX8_chance 136 = .ok (.iload 6, 2) := by decide +kernel
theorem dX8_chance_138 : decode cX8_chance 138 = .ok (.iload_n 3, 1) := by decide +kernel
theorem dX8_chance_139 : decode cX8_chance 139 = .ok (.invokestatic 172, 3) := by decide +kernel
theorem dX8_chance_142 : decode cX8_chance 142 = .ok (.ireturn, 1) := by decide +kernel
theorem dX8_seed_0 : decode cX8_seed 0 = .ok (.aload_n 0, 1) := by decide +kernel
theorem dX8_seed_1 : decode cX8_seed 1 = .ok (.iconst 0, 1) := by decide +kernel
theorem dX8_seed_2 : decode cX8_seed 2 = .ok (.putfield 60, 3) := by decide +kernel
theorem dX8_seed_5 : decode cX8_seed 5 = .ok (.aload_n 0, 1) := by decide +kernel
theorem dX8_seed_6 : decode cX8_seed 6 = .ok (.getfield 197, 3) := by decide +kernel
theorem dX8_seed_9 : decode cX8_seed 9 = .ok (.lstore_n 3, 1) := by decide +kernel
theorem dX8_seed_10 : decode cX8_seed 10 = .ok (.aload_n 0, 1) := by decide +kernel
theorem dX8_seed_11 : decode cX8_seed 11 = .ok (.lload_n 1, 1) := by decide +kernel
theorem dX8_seed_12 : decode cX8_seed 12 = .ok (.putfield 197, 3) := by decide +kernel
theorem dX8_seed_15 : decode cX8_seed 15 = .ok (.lload_n 3, 1) := by decide +kernel
theorem dX8_seed_16 : decode cX8_seed 16 = .ok (.lreturn, 1) := by decide +kernel
theorem dX8_years_0 : decode cX8_years 0 = .ok (.aload_n 0, 1) := by decide +kernel
theorem dX8_years_1 : decode cX8_years 1 = .ok (.iconst 0, 1) := by decide +kernel
theorem dX8_years_2 : decode cX8_years 2 = .ok (.putfield 60, 3) := by decide +kernel
theorem dX8_years_5 : decode cX8_years 5 = .ok (.iload_n 1, 1) := by decide +kernel
theorem dX8_years_6 : decode cX8_years 6 = .ok (.i2l, 1) := by decide +kernel
theorem dX8_years_7 : decode cX8_years 7 = .ok (.lconst 1, 1) := by decide +kernel
theorem dX8_years_8 : decode cX8_years 8 = .ok (.ldc2_w 201, 3) := by decide +kernel
theorem dX8_years_11 : decode cX8_years 11 = .ok (.invokestatic 67, 3) := by decide +kernel
theorem dX8_years_14 : decode cX8_years 14 = .ok (.ifCond .ne 6, 3) := by decide +kernel
theorem dX8_years_17 : decode cX8_years 17 = .ok (.bipush (-2), 2) := by decide +kernel
theorem dX8_years_19 : decode cX8_years 19 = .ok (.ireturn, 1) := by decide +kernel
theorem dX8_years_20 : decode cX8_years 20 = .ok (.iconst 0, 1) := by decide +kernel
theorem dX8_years_21 : decode cX8_years 21 = .ok (.istore_n 2, 1) := by decide +kernel
theorem dX8_years_22 : decode cX8_years 22 = .ok (.iload_n 2, 1) := by decide +kernel
theorem dX8_years_23 : decode cX8_years 23 = .ok (.bipush 25, 2) := by decide +kernel
theorem dX8_years_25 : decode cX8_years 25 = .ok (.if_icmp .ge 21, 3) := by decide +kernel
theorem dX8_years_28 : decode cX8_years 28 = .ok (.aload_n 0, 1) := by decide +kernel
theorem dX8_years_29 : decode cX8_years 29 = .ok (.getfield 31, 3) := by decide +kernel
theorem dX8_years_32 : decode cX8_years 32 = .ok (.iload_n 2, 1) := by decide +kernel
theorem dX8_years_33 : decode cX8_years 33 = .ok (.aload_n 0, 1) := by decide +kernel
theorem dX8_years_34 : decode cX8_years 34 = .ok (.getfield 28, 3) := by decide +kernel
theorem dX8_years_37 : decode cX8_years 37 = .ok (.iload_n 2, 1) := by decide +kernel
theorem dX8_years_38 : decode cX8_years 38 = .ok (.iaload, 1) := by decide +kernel
theorem dX8_years_39 : decode cX8_years 39 = .ok (.iastore, 1) := by decide +kernel
theorem dX8_years_40 : decode cX8_years 40 = .ok (.iinc 2 1, 3) := by decide +kernel
theorem dX8_years_43 : decode cX8_years 43 = .ok (.goto (-21), 3) := by decide +kernel
theorem dX8_years_46 : decode cX8_years 46 = .ok (.iconst 0, 1) := by decide +kernel
theorem dX8_years_47 : decode cX8_years 47 = .ok (.istore_n 2, 1) := by decide +kernel
theorem dX8_years_48 : decode cX8_years 48 = .ok (.iconst 0, 1) := by decide +kernel
theorem dX8_years_49 : decode cX8_years 49 = .ok (.istore_n 3, 1) := by decide +kernel
theorem dX8_years_50 : decode cX8_years 50 = .ok (.iload_n 3, 1) := by decide +kernel
theorem dX8_years_51 : decode cX8_years 51 = .ok (.iload_n 1, 1) := by decide +kernel
theorem dX8_years_52 : decode cX8_years 52 = .ok (.if_icmp .ge 108, 3) := by decide +kernel
theorem dX8_years_55 : decode cX8_years 55 = .ok (.aload_n 0, 1) := by decide +kernel
theorem dX8_years_56 : decode cX8_years 56 = .ok (.aload_n 0, 1) := by decide +kernel
theorem dX8_years_57 : decode cX8_years 57 = .ok (.getfield 197, 3) := by decide +kernel
theorem dX8_years_60 : decode cX8_years 60 = .ok (.ldc2_w 203, 3) := by decide +kernel
theorem dX8_years_63 : decode cX8_years 63 = .ok (.lmul, 1) := by decide +kernel
theorem dX8_years_64 : decode cX8_years 64 = .ok (.ldc2_w 205, 3) := by decide +kernel
theorem dX8_years_67 : decode cX8_years 67 = .ok (.ladd, 1) := by decide +kernel
theorem dX8_years_68 : decode cX8_years 68 = .ok (.putfield 197, 3) := by decide +kernel
theorem dX8_years_71 : decode cX8_years 71 = .ok (.aload_n 0, 1) := by decide +kernel
theorem dX8_years_72 : decode cX8_years 72 = .ok (.getfield 197, 3) := by decide +kernel
theorem dX8_years_75 : decode cX8_years 75 = .ok (.bipush 33, 2) := by decide +kernel
theorem dX8_years_77 : decode cX8_years 77 = .ok (.lushr, 1) := by decide +kernel
theorem dX8_years_78 : decode cX8_years 78 = .ok (.ldc2_w 133, 3) := by decide +kernel
theorem dX8_years_81 : decode cX8_years 81 = .ok (.lrem, 1) := by decide +kernel
theorem dX8_years_82 : decode cX8_years 82 = .ok (.l2i, 1) := by decide +kernel
theorem dX8_years_83 : decode cX8_years 83 = .ok (.istore 4, 2) := by decide +kernel
theorem dX8_years_85 : decode cX8_years 85 = .ok (.iload 4, 2) := by decide +kernel
theorem dX8_years_87 : decode cX8_years 87 = .ok (.bipush 8, 2) := by decide +kernel
theorem dX8_years_89 : decode cX8_years 89 = .ok (.if_icmp .ne 13, 3) := by decide +kernel
theorem dX8_years_92 : decode cX8_years 92 = .ok (.aload_n 0, 1) := by decide +kernel
theorem dX8_years_93 : decode cX8_years 93 = .ok (.getfield 31, 3) := by decide +kernel
theorem dX8_years_96 : decode cX8_years 96 = .ok (.invokestatic 56, 3) := by decide +kernel
theorem dX8_years_99 : decode cX8_years 99 = .ok (.goto 38, 3) := by decide +kernel
theorem dX8_years_102 : decode cX8_years 102 = .ok (.iload 4, 2) := by decide +kernel
theorem dX8_years_104 : decode cX8_years 104 = .ok (.iconst 5, 1) := by decide +kernel
theorem dX8_years_105 : decode cX8_years 105 = .ok (.if_icmp .le 13, 3) := by decide +kernel
theorem dX8_years_108 : decode cX8_years 108 = .ok (.aload_n 0, 1) := by decide +kernel
theorem dX8_years_109 : decode cX8_years 109 = .ok (.getfield 31, 3) := by decide +kernel
theorem dX8_years_112 : decode cX8_years 112 = .ok (.invokestatic 130, 3) := by decide +kernel
theorem dX8_years_115 : decode cX8_years 115 = .ok (.goto 22, 3) := by decide +kernel
theorem dX8_years_118 : decode cX8_years 118 = .ok (.aload_n 0, 1) := by decide +kernel
theorem dX8_years_119 : decode cX8_years 119 = .ok (.iload 4, 2) := by decide +kernel
theorem dX8_years_121 : decode cX8_years 121 = .ok (.invokevirtual 113, 3) := by decide +kernel
theorem dX8_years_124 : decode cX8_years 124 = .ok (.ifCond .ne 13, 3) := by decide +kernel
theorem dX8_years_127 : decode cX8_years 127 = .ok (.aload_n 0, 1) := by decide +kernel
theorem dX8_years_128 : decode cX8_years 128 = .ok (.aload_n 0, 1) := by decide +kernel
theorem dX8_years_129 : decode cX8_years 129 = .ok (.getfield 31, 3) := by decide +kernel
theorem dX8_years_132 : decode cX8_years 132 = .ok (.iload 4, 2) := by decide +kernel
theorem dX8_years_134 : decode cX8_years 134 = .ok (.invokevirtual 123, 3) := by decide +kernel
theorem dX8_years_137 : decode cX8_years 137 = .ok (.iload_n 2, 1) := by decide +kernel
theorem dX8_years_138 : decode cX8_years 138 = .ok (.aload_n 0, 1) := by decide +kernel
theorem dX8_years_139 : decode cX8_years 139 = .ok (.aload_n 0, 1) := by decide +kernel
theorem dX8_years_140 : decode cX8_years 140 = .ok (.getfield 31, 3) := by decide +kernel
theorem dX8_years_143 : decode cX8_years 143 = .ok (.invokestatic 102, 3) := by decide +kernel
theorem dX8_years_146 : decode cX8_years 146 = .ok (.invokevirtual 106, 3) := by decide +kernel
theorem dX8_years_149 : decode cX8_years 149 = .ok (.invokestatic 127, 3) := by decide +kernel
theorem dX8_years_152 : decode cX8_years 152 = .ok (.iadd, 1) := by decide +kernel
theorem dX8_years_153 : decode cX8_years 153 = .ok (.istore_n 2, 1) := by decide +kernel
theorem dX8_years_154 : decode cX8_years 154 = .ok (.iinc 3 1, 3) := by decide +kernel
theorem dX8_years_157 : decode cX8_years 157 = .ok (.goto (-107), 3) := by decide +kernel
theorem dX8_years_160 : decode cX8_years 160 = .ok (.iload_n 2, 1) := by decide +kernel
theorem dX8_years_161 : decode cX8_years 161 = .ok (.ireturn, 1) := by decide +kernel
theorem dX8_keep_0 : decode cX8_keep 0 = .ok (.aload_n 0, 1) := by decide +kernel
theorem dX8_keep_1 : decode cX8_keep 1 = .ok (.iconst 0, 1) := by decide +kernel
theorem dX8_keep_2 : decode cX8_keep 2 = .ok (.putfield 60, 3) := by decide +kernel
theorem dX8_keep_5 : decode cX8_keep 5 = .ok (.iload_n 1, 1) := by decide +kernel
theorem dX8_keep_6 : decode cX8_keep 6 = .ok (.i2l, 1) := by decide +kernel
theorem dX8_keep_7 : decode cX8_keep 7 = .ok (.lconst 0, 1) := by decide +kernel
theorem dX8_keep_8 : decode cX8_keep 8 = .ok (.lconst 1, 1) := by decide +kernel
theorem dX8_keep_9 : decode cX8_keep 9 = .ok (.invokestatic 67, 3) := by decide +kernel
theorem dX8_keep_12 : decode cX8_keep 12 = .ok (.ifCond .ne 5, 3) := by decide +kernel
theorem dX8_keep_15 : decode cX8_keep 15 = .ok (.iconst (-1), 1) := by decide +kernel
theorem dX8_keep_16 : decode cX8_keep 16 = .ok (.ireturn, 1) := by decide +kernel
theorem dX8_keep_17 : decode cX8_keep 17 = .ok (.aload_n 0, 1) := by decide +kernel
theorem dX8_keep_18 : decode cX8_keep 18 = .ok (.getfield 40, 3) := by decide +kernel
theorem dX8_keep_21 : decode cX8_keep 21 = .ok (.iload_n 1, 1) := by decide +kernel
theorem dX8_keep_22 : decode cX8_keep 22 = .ok (.iconst 1, 1) := by decide +kernel
theorem dX8_keep_23 : decode cX8_keep 23 = .ok (.bastore, 1) := by decide +kernel
theorem dX8_keep_24 : decode cX8_keep 24 = .ok (.iconst 0, 1) := by decide +kernel
theorem dX8_keep_25 : decode cX8_keep 25 = .ok (.istore_n 2, 1) := by decide +kernel
theorem dX8_keep_26 : decode cX8_keep 26 = .ok (.iload_n 2, 1) := by decide +kernel
theorem dX8_keep_27 : decode cX8_keep 27 = .ok (.bipush 25, 2) := by decide +kernel
theorem dX8_keep_29 : decode cX8_keep 29 = .ok (.if_icmp .ge 26, 3) := by decide +kernel
theorem dX8_keep_32 : decode cX8_keep 32 = .ok (.aload_n 0, 1) := by decide +kernel
theorem dX8_keep_33 : decode cX8_keep 33 = .ok (.getfield 37, 3) := by decide +kernel
theorem dX8_keep_36 : decode cX8_keep 36 = .ok (.bipush 25, 2) := by decide +kernel
theorem dX8_keep_38 : decode cX8_keep 38 = .ok (.iload_n 1, 1) := by decide +kernel
theorem dX8_keep_39 : decode cX8_keep 39 = .ok (.imul, 1) := by decide +kernel
theorem dX8_keep_40 : decode cX8_keep 40 = .ok (.iload_n 2, 1) := by decide +kernel
theorem dX8_keep_41 : decode cX8_keep 41 = .ok (.iadd, 1) := by decide +kernel
theorem dX8_keep_42 : decode cX8_keep 42 = .ok (.aload_n 0, 1) := by decide +kernel
theorem dX8_keep_43 : decode cX8_keep 43 = .ok (.getfield 28, 3) := by decide +kernel
theorem dX8_keep_46 : decode cX8_keep 46 = .ok (.iload_n 2, 1) := by decide +kernel
theorem dX8_keep_47 : decode cX8_keep 47 = .ok (.iaload, 1) := by decide +kernel
theorem dX8_keep_48 : decode cX8_keep 48 = .ok (.iastore, 1) := by decide +kernel
theorem dX8_keep_49 : decode cX8_keep 49 = .ok (.iinc 2 1, 3) := by decide +kernel
theorem dX8_keep_52 : decode cX8_keep 52 = .ok (.goto (-26), 3) := by decide +kernel
theorem dX8_keep_55 : decode cX8_keep 55 = .ok (.aload_n 0, 1) := by decide +kernel
theorem dX8_keep_56 : decode cX8_keep 56 = .ok (.getfield 28, 3) := by decide +kernel
theorem dX8_keep_59 : decode cX8_keep 59 = .ok (.bipush 24, 2) := by decide +kernel
theorem dX8_keep_61 : decode cX8_keep 61 = .ok (.iaload, 1) := by decide +kernel
theorem dX8_keep_62 : decode cX8_keep 62 = .ok (.ireturn, 1) := by decide +kernel
theorem dX8_again_0 : decode cX8_again 0 = .ok (.aload_n 0, 1) := by decide +kernel
theorem dX8_again_1 : decode cX8_again 1 = .ok (.iconst 0, 1) := by decide +kernel
theorem dX8_again_2 : decode cX8_again 2 = .ok (.putfield 60, 3) := by decide +kernel
theorem dX8_again_5 : decode cX8_again 5 = .ok (.iload_n 1, 1) := by decide +kernel
theorem dX8_again_6 : decode cX8_again 6 = .ok (.i2l, 1) := by decide +kernel
theorem dX8_again_7 : decode cX8_again 7 = .ok (.lconst 0, 1) := by decide +kernel
theorem dX8_again_8 : decode cX8_again 8 = .ok (.lconst 1, 1) := by decide +kernel
theorem dX8_again_9 : decode cX8_again 9 = .ok (.invokestatic 67, 3) := by decide +kernel
theorem dX8_again_12 : decode cX8_again 12 = .ok (.ifCond .ne 5, 3) := by decide +kernel
theorem dX8_again_15 : decode cX8_again 15 = .ok (.iconst (-1), 1) := by decide +kernel
theorem dX8_again_16 : decode cX8_again 16 = .ok (.ireturn, 1) := by decide +kernel
theorem dX8_again_17 : decode cX8_again 17 = .ok (.aload_n 0, 1) := by decide +kernel
theorem dX8_again_18 : decode cX8_again 18 = .ok (.getfield 40, 3) := by decide +kernel
theorem dX8_again_21 : decode cX8_again 21 = .ok (.iload_n 1, 1) := by decide +kernel
theorem dX8_again_22 : decode cX8_again 22 = .ok (.baload, 1) := by decide +kernel
theorem dX8_again_23 : decode cX8_again 23 = .ok (.ifCond .ne 6, 3) := by decide +kernel
theorem dX8_again_26 : decode cX8_again 26 = .ok (.bipush (-3), 2) := by decide +kernel
theorem dX8_again_28 : decode cX8_again 28 = .ok (.ireturn, 1) := by decide +kernel
theorem dX8_again_29 : decode cX8_again 29 = .ok (.iconst 0, 1) := by decide +kernel
theorem dX8_again_30 : decode cX8_again 30 = .ok (.istore_n 2, 1) := by decide +kernel
theorem dX8_again_31 : decode cX8_again 31 = .ok (.iload_n 2, 1) := by decide +kernel
theorem dX8_again_32 : decode cX8_again 32 = .ok (.bipush 25, 2) := by decide +kernel
theorem dX8_again_34 : decode cX8_again 34 = .ok (.if_icmp .ge 26, 3) := by decide +kernel
theorem dX8_again_37 : decode cX8_again 37 = .ok (.aload_n 0, 1) := by decide +kernel
theorem dX8_again_38 : decode cX8_again 38 = .ok (.getfield 28, 3) := by decide +kernel
theorem dX8_again_41 : decode cX8_again 41 = .ok (.iload_n 2, 1) := by decide +kernel
theorem dX8_again_42 : decode cX8_again 42 = .ok (.aload_n 0, 1) := by decide +kernel
theorem dX8_again_43 : decode cX8_again 43 = .ok (.getfield 37, 3) := by decide +kernel
theorem dX8_again_46 : decode cX8_again 46 = .ok (.bipush 25, 2) := by decide +kernel
theorem dX8_again_48 : decode cX8_again 48 = .ok (.iload_n 1, 1) := by decide +kernel
theorem dX8_again_49 : decode cX8_again 49 = .ok (.imul, 1) := by decide +kernel
theorem dX8_again_50 : decode cX8_again 50 = .ok (.iload_n 2, 1) := by decide +kernel
theorem dX8_again_51 : decode cX8_again 51 = .ok (.iadd, 1) := by decide +kernel
theorem dX8_again_52 : decode cX8_again 52 = .ok (.iaload, 1) := by decide +kernel
theorem dX8_again_53 : decode cX8_again 53 = .ok (.iastore, 1) := by decide +kernel
theorem dX8_again_54 : decode cX8_again 54 = .ok (.iinc 2 1, 3) := by decide +kernel
theorem dX8_again_57 : decode cX8_again 57 = .ok (.goto (-26), 3) := by decide +kernel
theorem dX8_again_60 : decode cX8_again 60 = .ok (.aload_n 0, 1) := by decide +kernel
theorem dX8_again_61 : decode cX8_again 61 = .ok (.iconst 0, 1) := by decide +kernel
theorem dX8_again_62 : decode cX8_again 62 = .ok (.putfield 92, 3) := by decide +kernel
theorem dX8_again_65 : decode cX8_again 65 = .ok (.aload_n 0, 1) := by decide +kernel
theorem dX8_again_66 : decode cX8_again 66 = .ok (.getfield 28, 3) := by decide +kernel
theorem dX8_again_69 : decode cX8_again 69 = .ok (.bipush 24, 2) := by decide +kernel
theorem dX8_again_71 : decode cX8_again 71 = .ok (.iaload, 1) := by decide +kernel
theorem dX8_again_72 : decode cX8_again 72 = .ok (.ireturn, 1) := by decide +kernel
theorem dJ6_bitCount_0f7a4_0 : decode cJ6_bitCount_0f7a4 0 = .ok (.iload_n 0, 1) := by decide +kernel
theorem dJ6_bitCount_0f7a4_1 : decode cJ6_bitCount_0f7a4 1 = .ok (.iload_n 0, 1) := by decide +kernel
theorem dJ6_bitCount_0f7a4_2 : decode cJ6_bitCount_0f7a4 2 = .ok (.iconst 1, 1) := by decide +kernel
theorem dJ6_bitCount_0f7a4_3 : decode cJ6_bitCount_0f7a4 3 = .ok (.iushr, 1) := by decide +kernel
theorem dJ6_bitCount_0f7a4_4 : decode cJ6_bitCount_0f7a4 4 = .ok (.ldc_w 265, 3) := by decide +kernel
theorem dJ6_bitCount_0f7a4_7 : decode cJ6_bitCount_0f7a4 7 = .ok (.iand, 1) := by decide +kernel
theorem dJ6_bitCount_0f7a4_8 : decode cJ6_bitCount_0f7a4 8 = .ok (.isub, 1) := by decide +kernel
theorem dJ6_bitCount_0f7a4_9 : decode cJ6_bitCount_0f7a4 9 = .ok (.istore_n 0, 1) := by decide +kernel
theorem dJ6_bitCount_0f7a4_10 : decode cJ6_bitCount_0f7a4 10 = .ok (.iload_n 0, 1) := by decide +kernel
theorem dJ6_bitCount_0f7a4_11 : decode cJ6_bitCount_0f7a4 11 = .ok (.ldc_w 266, 3) := by decide +kernel
theorem dJ6_bitCount_0f7a4_14 : decode cJ6_bitCount_0f7a4 14 = .ok (.iand, 1) := by decide +kernel
theorem dJ6_bitCount_0f7a4_15 : decode cJ6_bitCount_0f7a4 15 = .ok (.iload_n 0, 1) := by decide +kernel
theorem dJ6_bitCount_0f7a4_16 : decode cJ6_bitCount_0f7a4 16 = .ok (.iconst 2, 1) := by decide +kernel
theorem dJ6_bitCount_0f7a4_17 : decode cJ6_bitCount_0f7a4 17 = .ok (.iushr, 1) := by decide +kernel
theorem dJ6_bitCount_0f7a4_18 : decode cJ6_bitCount_0f7a4 18 = .ok (.ldc_w 266, 3) := by decide +kernel
theorem dJ6_bitCount_0f7a4_21 : decode cJ6_bitCount_0f7a4 21 = .ok (.iand, 1) := by decide +kernel
theorem dJ6_bitCount_0f7a4_22 : decode cJ6_bitCount_0f7a4 22 = .ok (.iadd, 1) := by decide +kernel
theorem dJ6_bitCount_0f7a4_23 : decode cJ6_bitCount_0f7a4 23 = .ok (.istore_n 0, 1) := by decide +kernel
theorem dJ6_bitCount_0f7a4_24 : decode cJ6_bitCount_0f7a4 24 = .ok (.iload_n 0, 1) := by decide +kernel
theorem dJ6_bitCount_0f7a4_25 : decode cJ6_bitCount_0f7a4 25 = .ok (.iload_n 0, 1) := by decide +kernel
theorem dJ6_bitCount_0f7a4_26 : decode cJ6_bitCount_0f7a4 26 = .ok (.iconst 4, 1) := by decide +kernel
theorem dJ6_bitCount_0f7a4_27 : decode cJ6_bitCount_0f7a4 27 = .ok (.iushr, 1) := by decide +kernel
theorem dJ6_bitCount_0f7a4_28 : decode cJ6_bitCount_0f7a4 28 = .ok (.iadd, 1) := by decide +kernel
theorem dJ6_bitCount_0f7a4_29 : decode cJ6_bitCount_0f7a4 29 = .ok (.ldc_w 267, 3) := by decide +kernel
theorem dJ6_bitCount_0f7a4_32 : decode cJ6_bitCount_0f7a4 32 = .ok (.iand, 1) := by decide +kernel
theorem dJ6_bitCount_0f7a4_33 : decode cJ6_bitCount_0f7a4 33 = .ok (.istore_n 0, 1) := by decide +kernel
theorem dJ6_bitCount_0f7a4_34 : decode cJ6_bitCount_0f7a4 34 = .ok (.iload_n 0, 1) := by decide +kernel
theorem dJ6_bitCount_0f7a4_35 : decode cJ6_bitCount_0f7a4 35 = .ok (.iload_n 0, 1) := by decide +kernel
theorem dJ6_bitCount_0f7a4_36 : decode cJ6_bitCount_0f7a4 36 = .ok (.bipush 8, 2) := by decide +kernel
theorem dJ6_bitCount_0f7a4_38 : decode cJ6_bitCount_0f7a4 38 = .ok (.iushr, 1) := by decide +kernel
theorem dJ6_bitCount_0f7a4_39 : decode cJ6_bitCount_0f7a4 39 = .ok (.iadd, 1) := by decide +kernel
theorem dJ6_bitCount_0f7a4_40 : decode cJ6_bitCount_0f7a4 40 = .ok (.istore_n 0, 1) := by decide +kernel
theorem dJ6_bitCount_0f7a4_41 : decode cJ6_bitCount_0f7a4 41 = .ok (.iload_n 0, 1) := by decide +kernel
theorem dJ6_bitCount_0f7a4_42 : decode cJ6_bitCount_0f7a4 42 = .ok (.iload_n 0, 1) := by decide +kernel
theorem dJ6_bitCount_0f7a4_43 : decode cJ6_bitCount_0f7a4 43 = .ok (.bipush 16, 2) := by decide +kernel
theorem dJ6_bitCount_0f7a4_45 : decode cJ6_bitCount_0f7a4 45 = .ok (.iushr, 1) := by decide +kernel
theorem dJ6_bitCount_0f7a4_46 : decode cJ6_bitCount_0f7a4 46 = .ok (.iadd, 1) := by decide +kernel
theorem dJ6_bitCount_0f7a4_47 : decode cJ6_bitCount_0f7a4 47 = .ok (.istore_n 0, 1) := by decide +kernel
theorem dJ6_bitCount_0f7a4_48 : decode cJ6_bitCount_0f7a4 48 = .ok (.iload_n 0, 1) := by decide +kernel
theorem dJ6_bitCount_0f7a4_49 : decode cJ6_bitCount_0f7a4 49 = .ok (.bipush 63, 2) := by decide +kernel
theorem dJ6_bitCount_0f7a4_51 : decode cJ6_bitCount_0f7a4 51 = .ok (.iand, 1) := by decide +kernel
theorem dJ6_bitCount_0f7a4_52 : decode cJ6_bitCount_0f7a4 52 = .ok (.ireturn, 1) := by decide +kernel
theorem dJ9_min_7cf53_0 : decode cJ9_min_7cf53 0 = .ok (.iload_n 0, 1) := by decide +kernel
theorem dJ9_min_7cf53_1 : decode cJ9_min_7cf53 1 = .ok (.iload_n 1, 1) := by decide +kernel
theorem dJ9_min_7cf53_2 : decode cJ9_min_7cf53 2 = .ok (.if_icmp .gt 7, 3) := by decide +kernel
theorem dJ9_min_7cf53_5 : decode cJ9_min_7cf53 5 = .ok (.iload_n 0, 1) := by decide +kernel
theorem dJ9_min_7cf53_6 : decode cJ9_min_7cf53 6 = .ok (.goto 4, 3) := by decide +kernel
theorem dJ9_min_7cf53_9 : decode cJ9_min_7cf53 9 = .ok (.iload_n 1, 1) := by decide +kernel
theorem dJ9_min_7cf53_10 : decode cJ9_min_7cf53 10 = .ok (.ireturn, 1) := by decide +kernel
theorem dL_law_0 : decode cL_law 0 = .ok (.new 7, 3) := by decide +kernel
theorem dL_law_3 : decode cL_law 3 = .ok (.dup, 1) := by decide +kernel
theorem dL_law_4 : decode cL_law 4 = .ok (.invokespecial 9, 3) := by decide +kernel
theorem dL_law_7 : decode cL_law 7 = .ok (.astore_n 1, 1) := by decide +kernel
theorem dL_law_8 : decode cL_law 8 = .ok (.new 10, 3) := by decide +kernel
theorem dL_law_11 : decode cL_law 11 = .ok (.dup, 1) := by decide +kernel
theorem dL_law_12 : decode cL_law 12 = .ok (.invokespecial 12, 3) := by decide +kernel
theorem dL_law_15 : decode cL_law 15 = .ok (.astore_n 2, 1) := by decide +kernel
theorem dL_law_16 : decode cL_law 16 = .ok (.iconst 0, 1) := by decide +kernel
theorem dL_law_17 : decode cL_law 17 = .ok (.istore_n 3, 1) := by decide +kernel
theorem dL_law_18 : decode cL_law 18 = .ok (.iload_n 3, 1) := by decide +kernel
theorem dL_law_19 : decode cL_law 19 = .ok (.aload_n 0, 1) := by decide +kernel
theorem dL_law_20 : decode cL_law 20 = .ok (.arraylength, 1) := by decide +kernel
theorem dL_law_21 : decode cL_law 21 = .ok (.iconst 4, 1) := by decide +kernel
theorem dL_law_22 : decode cL_law 22 = .ok (.isub, 1) := by decide +kernel
theorem dL_law_23 : decode cL_law 23 = .ok (.if_icmp .gt 904, 3) := by decide +kernel
theorem dL_law_26 : decode cL_law 26 = .ok (.aload_n 0, 1) := by decide +kernel
theorem dL_law_27 : decode cL_law 27 = .ok (.iload_n 3, 1) := by decide +kernel
theorem dL_law_28 : decode cL_law 28 = .ok (.iaload, 1) := by decide +kernel
theorem dL_law_29 : decode cL_law 29 = .ok (.bipush 31, 2) := by decide +kernel
theorem dL_law_31 : decode cL_law 31 = .ok (.iand, 1) := by decide +kernel
theorem dL_law_32 : decode cL_law 32 = .ok (.tableswitch 889 0 29 #[136, 159, 172, 185, 198, 221, 254, 287, 310, 323, 346, 359, 372, 395, 418, 441, 464, 487, 510, 533, 556, 605, 638, 651, 674, 707, 766, 820, 843, 866], 136) := by decide +kernel
theorem dL_law_168 : decode cL_law 168 = .ok (.aload_n 1, 1) := by decide +kernel
theorem dL_law_169 : decode cL_law 169 = .ok (.aload_n 0, 1) := by decide +kernel
theorem dL_law_170 : decode cL_law 170 = .ok (.iload_n 3, 1) := by decide +kernel
theorem dL_law_171 : decode cL_law 171 = .ok (.iconst 1, 1) := by decide +kernel
theorem dL_law_172 : decode cL_law 172 = .ok (.iadd, 1) := by decide +kernel
theorem dL_law_173 : decode cL_law 173 = .ok (.iaload, 1) := by decide +kernel
theorem dL_law_174 : decode cL_law 174 = .ok (.invokevirtual 13, 3) := by decide +kernel
theorem dL_law_177 : decode cL_law 177 = .ok (.aload_n 2, 1) := by decide +kernel
theorem dL_law_178 : decode cL_law 178 = .ok (.aload_n 0, 1) := by decide +kernel
theorem dL_law_179 : decode cL_law 179 = .ok (.iload_n 3, 1) := by decide +kernel
theorem dL_law_180 : decode cL_law 180 = .ok (.iconst 1, 1) := by decide +kernel
theorem dL_law_181 : decode cL_law 181 = .ok (.iadd, 1) := by decide +kernel
theorem dL_law_182 : decode cL_law 182 = .ok (.iaload, 1) := by decide +kernel
theorem dL_law_183 : decode cL_law 183 = .ok (.invokevirtual 17, 3) := by decide +kernel
theorem dL_law_186 : decode cL_law 186 = .ok (.if_icmp .eq 735, 3) := by decide +kernel
theorem dL_law_189 : decode cL_law 189 = .ok (.iconst 0, 1) := by decide +kernel
theorem dL_law_190 : decode cL_law 190 = .ok (.ireturn, 1) := by decide +kernel
theorem dL_law_191 : decode cL_law 191 = .ok (.aload_n 1, 1) := by decide +kernel
theorem dL_law_192 : decode cL_law 192 = .ok (.invokevirtual 18, 3) := by decide +kernel
theorem dL_law_195 : decode cL_law 195 = .ok (.aload_n 2, 1) := by decide +kernel
theorem dL_law_196 : decode cL_law 196 = .ok (.invokevirtual 22, 3) := by decide +kernel
theorem dL_law_199 : decode cL_law 199 = .ok (.if_icmp .eq 722, 3) := by decide +kernel
theorem dL_law_202 : decode cL_law 202 = .ok (.iconst 0, 1) := by decide +kernel
theorem dL_law_203 : decode cL_law 203 = .ok (.ireturn, 1) := by decide +kernel
theorem dL_law_204 : decode cL_law 204 = .ok (.aload_n 1, 1) := by decide +kernel
theorem dL_law_205 : decode cL_law 205 = .ok (.invokevirtual 23, 3) := by decide +kernel
theorem dL_law_208 : decode cL_law 208 = .ok (.aload_n 2, 1) := by decide +kernel
theorem dL_law_209 : decode cL_law 209 = .ok (.invokevirtual 26, 3) := by decide +kernel
theorem dL_law_212 : decode cL_law 212 = .ok (.if_icmp .eq 709, 3) := by decide +kernel
theorem dL_law_215 : decode cL_law 215 = .ok (.iconst 0, 1) := by decide +kernel
theorem dL_law_216 : decode cL_law 216 = .ok (.ireturn, 1) := by decide +kernel
theorem dL_law_217 : decode cL_law 217 = .ok (.aload_n 1, 1) := by decide +kernel
theorem dL_law_218 : decode cL_law 218 = .ok (.invokevirtual 27, 3) := by decide +kernel
theorem dL_law_221 : decode cL_law 221 = .ok (.aload_n 2, 1) := by decide +kernel
theorem dL_law_222 : decode cL_law 222 = .ok (.invokevirtual 30, 3) := by decide +kernel
theorem dL_law_225 : decode cL_law 225 = .ok (.if_icmp .eq 696, 3) := by decide +kernel
theorem dL_law_228 : decode cL_law 228 = .ok (.iconst 0, 1) := by decide +kernel
theorem dL_law_229 : decode cL_law 229 = .ok (.ireturn, 1) := by decide +kernel
theorem dL_law_230 : decode cL_law 230 = .ok (.aload_n 1, 1) := by decide +kernel
theorem dL_law_231 : decode cL_law 231 = .ok (.aload_n 0, 1) := by decide +kernel
theorem dL_law_232 : decode cL_law 232 = .ok (.iload_n 3, 1) := by decide +kernel
theorem dL_law_233 : decode cL_law 233 = .ok (.iconst 1, 1) := by decide +kernel
theorem dL_law_234 : decode cL_law 234 = .ok (.iadd, 1) := by decide +kernel
theorem dL_law_235 : decode cL_law 235 = .ok (.iaload, 1) := by decide +kernel
theorem dL_law_236 : decode cL_law 236 = .ok (.invokevirtual 31, 3) := by decide +kernel
theorem dL_law_239 : decode cL_law 239 = .ok (.aload_n 2, 1) := by decide +kernel
theorem dL_law_240 : decode cL_law 240 = .ok (.aload_n 0, 1) := by decide +kernel
theorem dL_law_241 : decode cL_law 241 = .ok (.iload_n 3, 1) := by decide +kernel
theorem dL_law_242 : decode cL_law 242 = .ok (.iconst 1, 1) := by decide +kernel
theorem dL_law_243 : decode cL_law 243 = .ok (.iadd, 1) := by decide +kernel
theorem dL_law_244 : decode cL_law 244 = .ok (.iaload, 1) := by decide +kernel
theorem dL_law_245 : decode cL_law 245 = .ok (.invokevirtual 34, 3) := by decide +kernel
theorem dL_law_248 : decode cL_law 248 = .ok (.if_icmp .eq 673, 3) := by decide +kernel
theorem dL_law_251 : decode cL_law 251 = .ok (.iconst 0, 1) := by decide +kernel
theorem dL_law_252 : decode cL_law 252 = .ok (.ireturn, 1) := by decide +kernel
theorem dL_law_253 : decode cL_law 253 = .ok (.aload_n 1, 1) := by decide +kernel
theorem dL_law_254 : decode cL_law 254 = .ok (.aload_n 0, 1) := by decide +kernel
theorem dL_law_255 : decode cL_law 255 = .ok (.iload_n 3, 1) := by decide +kernel
theorem dL_law_256 : decode cL_law 256 = .ok (.iconst 1, 1) := by decide +kernel
theorem dL_law_257 : decode cL_law 257 = .ok (.iadd, 1) := by decide +kernel
theorem dL_law_258 : decode cL_law 258 = .ok (.iaload, 1) := by decide +kernel
theorem dL_law_259 : decode cL_law 259 = .ok (.aload_n 0, 1) := by decide +kernel
theorem dL_law_260 : decode cL_law 260 = .ok (.iload_n 3, 1) := by decide +kernel
theorem dL_law_261 : decode cL_law 261 = .ok (.iconst 2, 1) := by decide +kernel
theorem dL_law_262 : decode cL_law 262 = .ok (.iadd, 1) := by decide +kernel
theorem dL_law_263 : decode cL_law 263 = .ok (.iaload, 1) := by decide +kernel
theorem dL_law_264 : decode cL_law 264 = .ok (.invokevirtual 35, 3) := by decide +kernel
theorem dL_law_267 : decode cL_law 267 = .ok (.aload_n 2, 1) := by decide +kernel
theorem dL_law_268 : decode cL_law 268 = .ok (.aload_n 0, 1) := by decide +kernel
theorem dL_law_269 : decode cL_law 269 = .ok (.iload_n 3, 1) := by decide +kernel
theorem dL_law_270 : decode cL_law 270 = .ok (.iconst 1, 1) := by decide +kernel
theorem dL_law_271 : decode cL_law 271 = .ok (.iadd, 1) := by decide +kernel
theorem dL_law_272 : decode cL_law 272 = .ok (.iaload, 1) := by decide +kernel
theorem dL_law_273 : decode cL_law 273 = .ok (.aload_n 0, 1) := by decide +kernel
theorem dL_law_274 : decode cL_law 274 = .ok (.iload_n 3, 1) := by decide +kernel
theorem dL_law_275 : decode cL_law 275 = .ok (.iconst 2, 1) := by decide +kernel
theorem dL_law_276 : decode cL_law 276 = .ok (.iadd, 1) := by decide +kernel
theorem dL_law_277 : decode cL_law 277 = .ok (.iaload, 1) := by decide +kernel
theorem dL_law_278 : decode cL_law 278 = .ok (.invokevirtual 39, 3) := by decide +kernel
theorem dL_law_281 : decode cL_law 281 = .ok (.if_icmp .eq 640, 3) := by decide +kernel
theorem dL_law_284 : decode cL_law 284 = .ok (.iconst 0, 1) := by decide +kernel
theorem dL_law_285 : decode cL_law 285 = .ok (.ireturn, 1) := by decide +kernel
theorem dL_law_286 : decode cL_law 286 = .ok (.aload_n 1, 1) := by decide +kernel
theorem dL_law_287 : decode cL_law 287 = .ok (.aload_n 0, 1) := by decide +kernel
theorem dL_law_288 : decode cL_law 288 = .ok (.iload_n 3, 1) := by decide +kernel
theorem dL_law_289 : decode cL_law 289 = .ok (.iconst 1, 1) := by decide +kernel
theorem dL_law_290 : decode cL_law 290 = .ok (.iadd, 1) := by decide +kernel
theorem dL_law_291 : decode cL_law 291 = .ok (.iaload, 1) := by decide +kernel
theorem dL_law_292 : decode cL_law 292 = .ok (.aload_n 0, 1) := by decide +kernel
theorem dL_law_293 : decode cL_law 293 = .ok (.iload_n 3, 1) := by decide +kernel
theorem dL_law_294 : decode cL_law 294 = .ok (.iconst 2, 1) := by decide +kernel
theorem dL_law_295 : decode cL_law 295 = .ok (.iadd, 1) := by decide +kernel
theorem dL_law_296 : decode cL_law 296 = .ok (.iaload, 1) := by decide +kernel
theorem dL_law_297 : decode cL_law 297 = .ok (.invokevirtual 40, 3) := by decide +kernel
theorem dL_law_300 : decode cL_law 300 = .ok (.aload_n 2, 1) := by decide +kernel
theorem dL_law_301 : decode cL_law 301 = .ok (.aload_n 0, 1) := by decide +kernel
theorem dL_law_302 : decode cL_law 302 = .ok (.iload_n 3, 1) := by decide +kernel
theorem dL_law_303 : decode cL_law 303 = .ok (.iconst 1, 1) := by decide +kernel
theorem dL_law_304 : decode cL_law 304 = .ok (.iadd, 1) := by decide +kernel
theorem dL_law_305 : decode cL_law 305 = .ok (.iaload, 1) := by decide +kernel
theorem dL_law_306 : decode cL_law 306 = .ok (.aload_n 0, 1) := by decide +kernel
theorem dL_law_307 : decode cL_law 307 = .ok (.iload_n 3, 1) := by decide +kernel
theorem dL_law_308 : decode cL_law 308 = .ok (.iconst 2, 1) := by decide +kernel
theorem dL_law_309 : decode cL_law 309 = .ok (.iadd, 1) := by decide +kernel
theorem dL_law_310 : decode cL_law 310 = .ok (.iaload, 1) := by decide +kernel
theorem dL_law_311 : decode cL_law 311 = .ok (.invokevirtual 43, 3) := by decide +kernel
theorem dL_law_314 : decode cL_law 314 = .ok (.if_icmp .eq 607, 3) := by decide +kernel
theorem dL_law_317 : decode cL_law 317 = .ok (.iconst 0, 1) := by decide +kernel
theorem dL_law_318 : decode cL_law 318 = .ok (.ireturn, 1) := by decide +kernel
theorem dL_law_319 : decode cL_law 319 = .ok (.aload_n 1, 1) := by decide +kernel
theorem dL_law_320 : decode cL_law 320 = .ok (.aload_n 0, 1) := by decide +kernel
theorem dL_law_321 : decode cL_law 321 = .ok (.iload_n 3, 1) := by decide +kernel
theorem dL_law_322 : decode cL_law 322 = .ok (.iconst 1, 1) := by decide +kernel
theorem dL_law_323 : decode cL_law 323 = .ok (.iadd, 1) := by decide +kernel
theorem dL_law_324 : decode cL_law 324 = .ok (.iaload, 1) := by decide +kernel
theorem dL_law_325 : decode cL_law 325 = .ok (.invokevirtual 44, 3) := by decide +kernel
theorem dL_law_328 : decode cL_law 328 = .ok (.aload_n 2, 1) := by decide +kernel
theorem dL_law_329 : decode cL_law 329 = .ok (.aload_n 0, 1) := by decide +kernel
theorem dL_law_330 : decode cL_law 330 = .ok (.iload_n 3, 1) := by decide +kernel
theorem dL_law_331 : decode cL_law 331 = .ok (.iconst 1, 1) := by decide +kernel
theorem dL_law_332 : decode cL_law 332 = .ok (.iadd, 1) := by decide +kernel
theorem dL_law_333 : decode cL_law 333 = .ok (.iaload, 1) := by decide +kernel
theorem dL_law_334 : decode cL_law 334 = .ok (.invokevirtual 47, 3) := by decide +kernel
theorem dL_law_337 : decode cL_law 337 = .ok (.if_icmp .eq 584, 3) := by decide +kernel
theorem dL_law_340 : decode cL_law 340 = .ok (.iconst 0, 1) := by decide +kernel
theorem dL_law_341 : decode cL_law 341 = .ok (.ireturn, 1) := by decide +kernel
theorem dL_law_342 : decode cL_law 342 = .ok (.aload_n 1, 1) := by decide +kernel
theorem dL_law_343 : decode cL_law 343 = .ok (.invokevirtual 48, 3) := by decide +kernel
theorem dL_law_346 : decode cL_law 346 = .ok (.aload_n 2, 1) := by decide +kernel
theorem dL_law_347 : decode cL_law 347 = .ok (.invokevirtual 51, 3) := by decide +kernel
theorem dL_law_350 : decode cL_law 350 = .ok (.if_icmp .eq 571, 3) := by decide +kernel
theorem dL_law_353 : decode cL_law 353 = .ok (.iconst 0, 1) := by decide +kernel
theorem dL_law_354 : decode cL_law 354 = .ok (.ireturn, 1) := by decide +kernel
theorem dL_law_355 : decode cL_law 355 = .ok (.aload_n 1, 1) := by decide +kernel
theorem dL_law_356 : decode cL_law 356 = .ok (.aload_n 0, 1) := by decide +kernel
theorem dL_law_357 : decode cL_law 357 = .ok (.iload_n 3, 1) := by decide +kernel
theorem dL_law_358 : decode cL_law 358 = .ok (.iconst 1, 1) := by decide +kernel
theorem dL_law_359 : decode cL_law 359 = .ok (.iadd, 1) := by decide +kernel
theorem dL_law_360 : decode cL_law 360 = .ok (.iaload, 1) := by decide +kernel
theorem dL_law_361 : decode cL_law 361 = .ok (.invokevirtual 52, 3) := by decide +kernel
theorem dL_law_364 : decode cL_law 364 = .ok (.aload_n 2, 1) := by decide +kernel
theorem dL_law_365 : decode cL_law 365 = .ok (.aload_n 0, 1) := by decide +kernel
theorem dL_law_366 : decode cL_law 366 = .ok (.iload_n 3, 1) := by decide +kernel
theorem dL_law_367 : decode cL_law 367 = .ok (.iconst 1, 1) := by decide +kernel
theorem dL_law_368 : decode cL_law 368 = .ok (.iadd, 1) := by decide +kernel
theorem dL_law_369 : decode cL_law 369 = .ok (.iaload, 1) := by decide +kernel
theorem dL_law_370 : decode cL_law 370 = .ok (.invokevirtual 55, 3) := by decide +kernel
theorem dL_law_373 : decode cL_law 373 = .ok (.if_icmp .eq 548, 3) := by decide +kernel
theorem dL_law_376 : decode cL_law 376 = .ok (.iconst 0, 1) := by decide +kernel
theorem dL_law_377 : decode cL_law 377 = .ok (.ireturn, 1) := by decide +kernel
theorem dL_law_378 : decode cL_law 378 = .ok (.aload_n 1, 1) := by decide +kernel
theorem dL_law_379 : decode cL_law 379 = .ok (.invokevirtual 56, 3) := by decide +kernel
theorem dL_law_382 : decode cL_law 382 = .ok (.aload_n 2, 1) := by decide +kernel
theorem dL_law_383 : decode cL_law 383 = .ok (.invokevirtual 59, 3) := by decide +kernel
theorem dL_law_386 : decode cL_law 386 = .ok (.if_icmp .eq 535, 3) := by decide +kernel
theorem dL_law_389 : decode cL_law 389 = .ok (.iconst 0, 1) := by decide +kernel
theorem dL_law_390 : decode cL_law 390 = .ok (.ireturn, 1) := by decide +kernel
theorem dL_law_391 : decode cL_law 391 = .ok (.aload_n 1, 1) := by decide +kernel
theorem dL_law_392 : decode cL_law 392 = .ok (.invokevirtual 60, 3) := by decide +kernel
theorem dL_law_395 : decode cL_law 395 = .ok (.aload_n 2, 1) := by decide +kernel
theorem dL_law_396 : decode cL_law 396 = .ok (.invokevirtual 63, 3) := by decide +kernel
theorem dL_law_399 : decode cL_law 399 = .ok (.if_icmp .eq 522, 3) := by decide +kernel
theorem dL_law_402 : decode cL_law 402 = .ok (.iconst 0, 1) := by decide +kernel
theorem dL_law_403 : decode cL_law 403 = .ok (.ireturn, 1) := by decide +kernel
theorem dL_law_404 : decode cL_law 404 = .ok (.aload_n 1, 1) := by decide +kernel
theorem dL_law_405 : decode cL_law 405 = .ok (.aload_n 0, 1) := by decide +kernel
theorem dL_law_406 : decode cL_law 406 = .ok (.iload_n 3, 1) := by decide +kernel
theorem dL_law_407 : decode cL_law 407 = .ok (.iconst 1, 1) := by decide +kernel
theorem dL_law_408 : decode cL_law 408 = .ok (.iadd, 1) := by decide +kernel
theorem dL_law_409 : decode cL_law 409 = .ok (.iaload, 1) := by decide +kernel
theorem dL_law_410 : decode cL_law 410 = .ok (.invokevirtual 64, 3) := by decide +kernel
theorem dL_law_413 : decode cL_law 413 = .ok (.aload_n 2, 1) := by decide +kernel
theorem dL_law_414 : decode cL_law 414 = .ok (.aload_n 0, 1) := by decide +kernel
theorem dL_law_415 : decode cL_law 415 = .ok (.iload_n 3, 1) := by decide +kernel
theorem dL_law_416 : decode cL_law 416 = .ok (.iconst 1, 1) := by decide +kernel
theorem dL_law_417 : decode cL_law 417 = .ok (.iadd, 1) := by decide +kernel
theorem dL_law_418 : decode cL_law 418 = .ok (.iaload, 1) := by decide +kernel
theorem dL_law_419 : decode cL_law 419 = .ok (.invokevirtual 67, 3) := by decide +kernel
theorem dL_law_422 : decode cL_law 422 = .ok (.if_icmp .eq 499, 3) := by decide +kernel
theorem dL_law_425 : decode cL_law 425 = .ok (.iconst 0, 1) := by decide +kernel
theorem dL_law_426 : decode cL_law 426 = .ok (.ireturn, 1) := by decide +kernel
theorem dL_law_427 : decode cL_law 427 = .ok (.aload_n 1, 1) := by decide +kernel
theorem dL_law_428 : decode cL_law 428 = .ok (.aload_n 0, 1) := by decide +kernel
theorem dL_law_429 : decode cL_law 429 = .ok (.iload_n 3, 1) := by decide +kernel
theorem dL_law_430 : decode cL_law 430 = .ok (.iconst 1, 1) := by decide +kernel
theorem dL_law_431 : decode cL_law 431 = .ok (.iadd, 1) := by decide +kernel
theorem dL_law_432 : decode cL_law 432 = .ok (.iaload, 1) := by decide +kernel
theorem dL_law_433 : decode cL_law 433 = .ok (.invokevirtual 68, 3) := by decide +kernel
theorem dL_law_436 : decode cL_law 436 = .ok (.aload_n 2, 1) := by decide +kernel
theorem dL_law_437 : decode cL_law 437 = .ok (.aload_n 0, 1) := by decide +kernel
theorem dL_law_438 : decode cL_law 438 = .ok (.iload_n 3, 1) := by decide +kernel
theorem dL_law_439 : decode cL_law 439 = .ok (.iconst 1, 1) := by decide +kernel
theorem dL_law_440 : decode cL_law 440 = .ok (.iadd, 1) := by decide +kernel
theorem dL_law_441 : decode cL_law 441 = .ok (.iaload, 1) := by decide +kernel
theorem dL_law_442 : decode cL_law 442 = .ok (.invokevirtual 71, 3) := by decide +kernel
theorem dL_law_445 : decode cL_law 445 = .ok (.if_icmp .eq 476, 3) := by decide +kernel
theorem dL_law_448 : decode cL_law 448 = .ok (.iconst 0, 1) := by decide +kernel
theorem dL_law_449 : decode cL_law 449 = .ok (.ireturn, 1) := by decide +kernel
theorem dL_law_450 : decode cL_law 450 = .ok (.aload_n 1, 1) := by decide +kernel
theorem dL_law_451 : decode cL_law 451 = .ok (.aload_n 0, 1) := by decide +kernel
theorem dL_law_452 : decode cL_law 452 = .ok (.iload_n 3, 1) := by decide +kernel
theorem dL_law_453 : decode cL_law 453 = .ok (.iconst 1, 1) := by decide +kernel
theorem dL_law_454 : decode cL_law 454 = .ok (.iadd, 1) := by decide +kernel
theorem dL_law_455 : decode cL_law 455 = .ok (.iaload, 1) := by decide +kernel
theorem dL_law_456 : decode cL_law 456 = .ok (.invokevirtual 72, 3) := by decide +kernel
theorem dL_law_459 : decode cL_law 459 = .ok (.aload_n 2, 1) := by decide +kernel
theorem dL_law_460 : decode cL_law 460 = .ok (.aload_n 0, 1) := by decide +kernel
theorem dL_law_461 : decode cL_law 461 = .ok (.iload_n 3, 1) := by decide +kernel
theorem dL_law_462 : decode cL_law 462 = .ok (.iconst 1, 1) := by decide +kernel
theorem dL_law_463 : decode cL_law 463 = .ok (.iadd, 1) := by decide +kernel
theorem dL_law_464 : decode cL_law 464 = .ok (.iaload, 1) := by decide +kernel
theorem dL_law_465 : decode cL_law 465 = .ok (.invokevirtual 75, 3) := by decide +kernel
theorem dL_law_468 : decode cL_law 468 = .ok (.if_icmp .eq 453, 3) := by decide +kernel
theorem dL_law_471 : decode cL_law 471 = .ok (.iconst 0, 1) := by decide +kernel
theorem dL_law_472 : decode cL_law 472 = .ok (.ireturn, 1) := by decide +kernel
theorem dL_law_473 : decode cL_law 473 = .ok (.aload_n 1, 1) := by decide +kernel
theorem dL_law_474 : decode cL_law 474 = .ok (.aload_n 0, 1) := by decide +kernel
theorem dL_law_475 : decode cL_law 475 = .ok (.iload_n 3, 1) := by decide +kernel
theorem dL_law_476 : decode cL_law 476 = .ok (.iconst 1, 1) := by decide +kernel
theorem dL_law_477 : decode cL_law 477 = .ok (.iadd, 1) := by decide +kernel
theorem dL_law_478 : decode cL_law 478 = .ok (.iaload, 1) := by decide +kernel
theorem dL_law_479 : decode cL_law 479 = .ok (.invokevirtual 76, 3) := by decide +kernel
theorem dL_law_482 : decode cL_law 482 = .ok (.aload_n 2, 1) := by decide +kernel
theorem dL_law_483 : decode cL_law 483 = .ok (.aload_n 0, 1) := by decide +kernel
theorem dL_law_484 : decode cL_law 484 = .ok (.iload_n 3, 1) := by decide +kernel
theorem dL_law_485 : decode cL_law 485 = .ok (.iconst 1, 1) := by decide +kernel
theorem dL_law_486 : decode cL_law 486 = .ok (.iadd, 1) := by decide +kernel
theorem dL_law_487 : decode cL_law 487 = .ok (.iaload, 1) := by decide +kernel
theorem dL_law_488 : decode cL_law 488 = .ok (.invokevirtual 79, 3) := by decide +kernel
theorem dL_law_491 : decode cL_law 491 = .ok (.if_icmp .eq 430, 3) := by decide +kernel
theorem dL_law_494 : decode cL_law 494 = .ok (.iconst 0, 1) := by decide +kernel
theorem dL_law_495 : decode cL_law 495 = .ok (.ireturn, 1) := by decide +kernel
theorem dL_law_496 : decode cL_law 496 = .ok (.aload_n 1, 1) := by decide +kernel
theorem dL_law_497 : decode cL_law 497 = .ok (.aload_n 0, 1) := by decide +kernel
theorem dL_law_498 : decode cL_law 498 = .ok (.iload_n 3, 1) := by decide +kernel
theorem dL_law_499 : decode cL_law 499 = .ok (.iconst 1, 1) := by decide +kernel
theorem dL_law_500 : decode cL_law 500 = .ok (.iadd, 1) := by decide +kernel
theorem dL_law_501 : decode cL_law 501 = .ok (.iaload, 1) := by decide +kernel
theorem dL_law_502 : decode cL_law 502 = .ok (.invokevirtual 80, 3) := by decide +kernel
theorem dL_law_505 : decode cL_law 505 = .ok (.aload_n 2, 1) := by decide +kernel
theorem dL_law_506 : decode cL_law 506 = .ok (.aload_n 0, 1) := by decide +kernel
theorem dL_law_507 : decode cL_law 507 = .ok (.iload_n 3, 1) := by decide +kernel
theorem dL_law_508 : decode cL_law 508 = .ok (.iconst 1, 1) := by decide +kernel
theorem dL_law_509 : decode cL_law 509 = .ok (.iadd, 1) := by decide +kernel
theorem dL_law_510 : decode cL_law 510 = .ok (.iaload, 1) := by decide +kernel
theorem dL_law_511 : decode cL_law 511 = .ok (.invokevirtual 83, 3) := by decide +kernel
theorem dL_law_514 : decode cL_law 514 = .ok (.if_icmp .eq 407, 3) := by decide +kernel
theorem dL_law_517 : decode cL_law 517 = .ok (.iconst 0, 1) := by decide +kernel
theorem dL_law_518 : decode cL_law 518 = .ok (.ireturn, 1) := by decide +kernel
theorem dL_law_519 : decode cL_law 519 = .ok (.aload_n 1, 1) := by decide +kernel
theorem dL_law_520 : decode cL_law 520 = .ok (.aload_n 0, 1) := by decide +kernel
theorem dL_law_521 : decode cL_law 521 = .ok (.iload_n 3, 1) := by decide +kernel
theorem dL_law_522 : decode cL_law 522 = .ok (.iconst 1, 1) := by decide +kernel
theorem dL_law_523 : decode cL_law 523 = .ok (.iadd, 1) := by decide +kernel
theorem dL_law_524 : decode cL_law 524 = .ok (.iaload, 1) := by decide +kernel
theorem dL_law_525 : decode cL_law 525 = .ok (.invokevirtual 84, 3) := by decide +kernel
theorem dL_law_528 : decode cL_law 528 = .ok (.aload_n 2, 1) := by decide +kernel
theorem dL_law_529 : decode cL_law 529 = .ok (.aload_n 0, 1) := by decide +kernel
theorem dL_law_530 : decode cL_law 530 = .ok (.iload_n 3, 1) := by decide +kernel
theorem dL_law_531 : decode cL_law 531 = .ok (.iconst 1, 1) := by decide +kernel
theorem dL_law_532 : decode cL_law 532 = .ok (.iadd, 1) := by decide +kernel
theorem dL_law_533 : decode cL_law 533 = .ok (.iaload, 1) := by decide +kernel
theorem dL_law_534 : decode cL_law 534 = .ok (.invokevirtual 87, 3) := by decide +kernel
theorem dL_law_537 : decode cL_law 537 = .ok (.if_icmp .eq 384, 3) := by decide +kernel
theorem dL_law_540 : decode cL_law 540 = .ok (.iconst 0, 1) := by decide +kernel
theorem dL_law_541 : decode cL_law 541 = .ok (.ireturn, 1) := by decide +kernel
theorem dL_law_542 : decode cL_law 542 = .ok (.aload_n 1, 1) := by decide +kernel
theorem dL_law_543 : decode cL_law 543 = .ok (.aload_n 0, 1) := by decide +kernel
theorem dL_law_544 : decode cL_law 544 = .ok (.iload_n 3, 1) := by decide +kernel
theorem dL_law_545 : decode cL_law 545 = .ok (.iconst 1, 1) := by decide +kernel
theorem dL_law_546 : decode cL_law 546 = .ok (.iadd, 1) := by decide +kernel
theorem dL_law_547 : decode cL_law 547 = .ok (.iaload, 1) := by decide +kernel
theorem dL_law_548 : decode cL_law 548 = .ok (.invokevirtual 88, 3) := by decide +kernel
theorem dL_law_551 : decode cL_law 551 = .ok (.aload_n 2, 1) := by decide +kernel
theorem dL_law_552 : decode cL_law 552 = .ok (.aload_n 0, 1) := by decide +kernel
theorem dL_law_553 : decode cL_law 553 = .ok (.iload_n 3, 1) := by decide +kernel
theorem dL_law_554 : decode cL_law 554 = .ok (.iconst 1, 1) := by decide +kernel
theorem dL_law_555 : decode cL_law 555 = .ok (.iadd, 1) := by decide +kernel
theorem dL_law_556 : decode cL_law 556 = .ok (.iaload, 1) := by decide +kernel
theorem dL_law_557 : decode cL_law 557 = .ok (.invokevirtual 91, 3) := by decide +kernel
theorem dL_law_560 : decode cL_law 560 = .ok (.if_icmp .eq 361, 3) := by decide +kernel
theorem dL_law_563 : decode cL_law 563 = .ok (.iconst 0, 1) := by decide +kernel
theorem dL_law_564 : decode cL_law 564 = .ok (.ireturn, 1) := by decide +kernel
theorem dL_law_565 : decode cL_law 565 = .ok (.aload_n 1, 1) := by decide +kernel
theorem dL_law_566 : decode cL_law 566 = .ok (.aload_n 0, 1) := by decide +kernel
theorem dL_law_567 : decode cL_law 567 = .ok (.iload_n 3, 1) := by decide +kernel
theorem dL_law_568 : decode cL_law 568 = .ok (.iconst 1, 1) := by decide +kernel
theorem dL_law_569 : decode cL_law 569 = .ok (.iadd, 1) := by decide +kernel
theorem dL_law_570 : decode cL_law 570 = .ok (.iaload, 1) := by decide +kernel
theorem dL_law_571 : decode cL_law 571 = .ok (.invokevirtual 92, 3) := by decide +kernel
theorem dL_law_574 : decode cL_law 574 = .ok (.aload_n 2, 1) := by decide +kernel
theorem dL_law_575 : decode cL_law 575 = .ok (.aload_n 0, 1) := by decide +kernel
theorem dL_law_576 : decode cL_law 576 = .ok (.iload_n 3, 1) := by decide +kernel
theorem dL_law_577 : decode cL_law 577 = .ok (.iconst 1, 1) := by decide +kernel
theorem dL_law_578 : decode cL_law 578 = .ok (.iadd, 1) := by decide +kernel
theorem dL_law_579 : decode cL_law 579 = .ok (.iaload, 1) := by decide +kernel
theorem dL_law_580 : decode cL_law 580 = .ok (.invokevirtual 95, 3) := by decide +kernel
theorem dL_law_583 : decode cL_law 583 = .ok (.if_icmp .eq 338, 3) := by decide +kernel
theorem dL_law_586 : decode cL_law 586 = .ok (.iconst 0, 1) := by decide +kernel
theorem dL_law_587 : decode cL_law 587 = .ok (.ireturn, 1) := by decide +kernel
theorem dL_law_588 : decode cL_law 588 = .ok (.aload_n 1, 1) := by decide +kernel
theorem dL_law_589 : decode cL_law 589 = .ok (.aload_n 0, 1) := by decide +kernel
theorem dL_law_590 : decode cL_law 590 = .ok (.iload_n 3, 1) := by decide +kernel
theorem dL_law_591 : decode cL_law 591 = .ok (.iconst 1, 1) := by decide +kernel
theorem dL_law_592 : decode cL_law 592 = .ok (.iadd, 1) := by decide +kernel
theorem dL_law_593 : decode cL_law 593 = .ok (.iaload, 1) := by decide +kernel
theorem dL_law_594 : decode cL_law 594 = .ok (.aload_n 0, 1) := by decide +kernel
theorem dL_law_595 : decode cL_law 595 = .ok (.iload_n 3, 1) := by decide +kernel
theorem dL_law_596 : decode cL_law 596 = .ok (.iconst 2, 1) := by decide +kernel
theorem dL_law_597 : decode cL_law 597 = .ok (.iadd, 1) := by decide +kernel
theorem dL_law_598 : decode cL_law 598 = .ok (.iaload, 1) := by decide +kernel
theorem dL_law_599 : decode cL_law 599 = .ok (.ifCond .eq 7, 3) := by decide +kernel
theorem dL_law_602 : decode cL_law 602 = .ok (.iconst 1, 1) := by decide +kernel
theorem dL_law_603 : decode cL_law 603 = .ok (.goto 4, 3) := by decide +kernel
theorem dL_law_606 : decode cL_law 606 = .ok (.iconst 0, 1) := by decide +kernel
theorem dL_law_607 : decode cL_law 607 = .ok (.invokevirtual 96, 3) := by decide +kernel
theorem dL_law_610 : decode cL_law 610 = .ok (.aload_n 2, 1) := by decide +kernel
theorem dL_law_611 : decode cL_law 611 = .ok (.aload_n 0, 1) := by decide +kernel
theorem dL_law_612 : decode cL_law 612 = .ok (.iload_n 3, 1) := by decide +kernel
theorem dL_law_613 : decode cL_law 613 = .ok (.iconst 1, 1) := by decide +kernel
theorem dL_law_614 : decode cL_law 614 = .ok (.iadd, 1) := by decide +kernel
theorem dL_law_615 : decode cL_law 615 = .ok (.iaload, 1) := by decide +kernel
theorem dL_law_616 : decode cL_law 616 = .ok (.aload_n 0, 1) := by decide +kernel
theorem dL_law_617 : decode cL_law 617 = .ok (.iload_n 3, 1) := by decide +kernel
theorem dL_law_618 : decode cL_law 618 = .ok (.iconst 2, 1) := by decide +kernel
theorem dL_law_619 : decode cL_law 619 = .ok (.iadd, 1) := by decide +kernel
theorem dL_law_620 : decode cL_law 620 = .ok (.iaload, 1) := by decide +kernel
theorem dL_law_621 : decode cL_law 621 = .ok (.ifCond .eq 7, 3) := by decide +kernel
theorem dL_law_624 : decode cL_law 624 = .ok (.iconst 1, 1) := by decide +kernel
theorem dL_law_625 : decode cL_law 625 = .ok (.goto 4, 3) := by decide +kernel
theorem dL_law_628 : decode cL_law 628 = .ok (.iconst 0, 1) := by decide +kernel
theorem dL_law_629 : decode cL_law 629 = .ok (.invokevirtual 100, 3) := by decide +kernel
theorem dL_law_632 : decode cL_law 632 = .ok (.if_icmp .eq 289, 3) := by decide +kernel
theorem dL_law_635 : decode cL_law 635 = .ok (.iconst 0, 1) := by decide +kernel
theorem dL_law_636 : decode cL_law 636 = .ok (.ireturn, 1) := by decide +kernel
theorem dL_law_637 : decode cL_law 637 = .ok (.aload_n 1, 1) := by decide +kernel
theorem dL_law_638 : decode cL_law 638 = .ok (.aload_n 0, 1) := by decide +kernel
theorem dL_law_639 : decode cL_law 639 = .ok (.iload_n 3, 1) := by decide +kernel
theorem dL_law_640 : decode cL_law 640 = .ok (.iconst 1, 1) := by decide +kernel
theorem dL_law_641 : decode cL_law 641 = .ok (.iadd, 1) := by decide +kernel
theorem dL_law_642 : decode cL_law 642 = .ok (.iaload, 1) := by decide +kernel
theorem dL_law_643 : decode cL_law 643 = .ok (.aload_n 0, 1) := by decide +kernel
theorem dL_law_644 : decode cL_law 644 = .ok (.iload_n 3, 1) := by decide +kernel
theorem dL_law_645 : decode cL_law 645 = .ok (.iconst 2, 1) := by decide +kernel
theorem dL_law_646 : decode cL_law 646 = .ok (.iadd, 1) := by decide +kernel
theorem dL_law_647 : decode cL_law 647 = .ok (.iaload, 1) := by decide +kernel
theorem dL_law_648 : decode cL_law 648 = .ok (.invokevirtual 101, 3) := by decide +kernel
theorem dL_law_651 : decode cL_law 651 = .ok (.aload_n 2, 1) := by decide +kernel
theorem dL_law_652 : decode cL_law 652 = .ok (.aload_n 0, 1) := by decide +kernel
theorem dL_law_653 : decode cL_law 653 = .ok (.iload_n 3, 1) := by decide +kernel
theorem dL_law_654 : decode cL_law 654 = .ok (.iconst 1, 1) := by decide +kernel
theorem dL_law_655 : decode cL_law 655 = .ok (.iadd, 1) := by decide +kernel
theorem dL_law_656 : decode cL_law 656 = .ok (.iaload, 1) := by decide +kernel
theorem dL_law_657 : decode cL_law 657 = .ok (.aload_n 0, 1) := by decide +kernel
theorem dL_law_658 : decode cL_law 658 = .ok (.iload_n 3, 1) := by decide +kernel
theorem dL_law_659 : decode cL_law 659 = .ok (.iconst 2, 1) := by decide +kernel
theorem dL_law_660 : decode cL_law 660 = .ok (.iadd, 1) := by decide +kernel
theorem dL_law_661 : decode cL_law 661 = .ok (.iaload, 1) := by decide +kernel
theorem dL_law_662 : decode cL_law 662 = .ok (.invokevirtual 104, 3) := by decide +kernel
theorem dL_law_665 : decode cL_law 665 = .ok (.if_icmp .eq 256, 3) := by decide +kernel
theorem dL_law_668 : decode cL_law 668 = .ok (.iconst 0, 1) := by decide +kernel
theorem dL_law_669 : decode cL_law 669 = .ok (.ireturn, 1) := by decide +kernel
theorem dL_law_670 : decode cL_law 670 = .ok (.aload_n 1, 1) := by decide +kernel
theorem dL_law_671 : decode cL_law 671 = .ok (.invokevirtual 105, 3) := by decide +kernel
theorem dL_law_674 : decode cL_law 674 = .ok (.aload_n 2, 1) := by decide +kernel
theorem dL_law_675 : decode cL_law 675 = .ok (.invokevirtual 108, 3) := by decide +kernel
theorem dL_law_678 : decode cL_law 678 = .ok (.if_icmp .eq 243, 3) := by decide +kernel
theorem dL_law_681 : decode cL_law 681 = .ok (.iconst 0, 1) := by decide +kernel
theorem dL_law_682 : decode cL_law 682 = .ok (.ireturn, 1) := by decide +kernel
theorem dL_law_683 : decode cL_law 683 = .ok (.aload_n 1, 1) := by decide +kernel
theorem dL_law_684 : decode cL_law 684 = .ok (.aload_n 0, 1) := by decide +kernel
theorem dL_law_685 : decode cL_law 685 = .ok (.iload_n 3, 1) := by decide +kernel
theorem dL_law_686 : decode cL_law 686 = .ok (.iconst 1, 1) := by decide +kernel
theorem dL_law_687 : decode cL_law 687 = .ok (.iadd, 1) := by decide +kernel
theorem dL_law_688 : decode cL_law 688 = .ok (.iaload, 1) := by decide +kernel
theorem dL_law_689 : decode cL_law 689 = .ok (.invokevirtual 109, 3) := by decide +kernel
theorem dL_law_692 : decode cL_law 692 = .ok (.aload_n 2, 1) := by decide +kernel
theorem dL_law_693 : decode cL_law 693 = .ok (.aload_n 0, 1) := by decide +kernel
theorem dL_law_694 : decode cL_law 694 = .ok (.iload_n 3, 1) := by decide +kernel
theorem dL_law_695 : decode cL_law 695 = .ok (.iconst 1, 1) := by decide +kernel
theorem dL_law_696 : decode cL_law 696 = .ok (.iadd, 1) := by decide +kernel
theorem dL_law_697 : decode cL_law 697 = .ok (.iaload, 1) := by decide +kernel
theorem dL_law_698 : decode cL_law 698 = .ok (.invokevirtual 112, 3) := by decide +kernel
theorem dL_law_701 : decode cL_law 701 = .ok (.if_icmp .eq 220, 3) := by decide +kernel
theorem dL_law_704 : decode cL_law 704 = .ok (.iconst 0, 1) := by decide +kernel
theorem dL_law_705 : decode cL_law 705 = .ok (.ireturn, 1) := by decide +kernel
theorem dL_law_706 : decode cL_law 706 = .ok (.aload_n 1, 1) := by decide +kernel
theorem dL_law_707 : decode cL_law 707 = .ok (.aload_n 0, 1) := by decide +kernel
theorem dL_law_708 : decode cL_law 708 = .ok (.iload_n 3, 1) := by decide +kernel
theorem dL_law_709 : decode cL_law 709 = .ok (.iconst 1, 1) := by decide +kernel
theorem dL_law_710 : decode cL_law 710 = .ok (.iadd, 1) := by decide +kernel
theorem dL_law_711 : decode cL_law 711 = .ok (.iaload, 1) := by decide +kernel
theorem dL_law_712 : decode cL_law 712 = .ok (.aload_n 0, 1) := by decide +kernel
theorem dL_law_713 : decode cL_law 713 = .ok (.iload_n 3, 1) := by decide +kernel
theorem dL_law_714 : decode cL_law 714 = .ok (.iconst 2, 1) := by decide +kernel
theorem dL_law_715 : decode cL_law 715 = .ok (.iadd, 1) := by decide +kernel
theorem dL_law_716 : decode cL_law 716 = .ok (.iaload, 1) := by decide +kernel
theorem dL_law_717 : decode cL_law 717 = .ok (.invokevirtual 113, 3) := by decide +kernel
theorem dL_law_720 : decode cL_law 720 = .ok (.aload_n 2, 1) := by decide +kernel
theorem dL_law_721 : decode cL_law 721 = .ok (.aload_n 0, 1) := by decide +kernel
theorem dL_law_722 : decode cL_law 722 = .ok (.iload_n 3, 1) := by decide +kernel
theorem dL_law_723 : decode cL_law 723 = .ok (.iconst 1, 1) := by decide +kernel
theorem dL_law_724 : decode cL_law 724 = .ok (.iadd, 1) := by decide +kernel
theorem dL_law_725 : decode cL_law 725 = .ok (.iaload, 1) := by decide +kernel
theorem dL_law_726 : decode cL_law 726 = .ok (.aload_n 0, 1) := by decide +kernel
theorem dL_law_727 : decode cL_law 727 = .ok (.iload_n 3, 1) := by decide +kernel
theorem dL_law_728 : decode cL_law 728 = .ok (.iconst 2, 1) := by decide +kernel
theorem dL_law_729 : decode cL_law 729 = .ok (.iadd, 1) := by decide +kernel
theorem dL_law_730 : decode cL_law 730 = .ok (.iaload, 1) := by decide +kernel
theorem dL_law_731 : decode cL_law 731 = .ok (.invokevirtual 116, 3) := by decide +kernel
theorem dL_law_734 : decode cL_law 734 = .ok (.if_icmp .eq 187, 3) := by decide +kernel
theorem dL_law_737 : decode cL_law 737 = .ok (.iconst 0, 1) := by decide +kernel
theorem dL_law_738 : decode cL_law 738 = .ok (.ireturn, 1) := by decide +kernel
theorem dL_law_739 : decode cL_law 739 = .ok (.aload_n 1, 1) := by decide +kernel
theorem dL_law_740 : decode cL_law 740 = .ok (.aload_n 0, 1) := by decide +kernel
theorem dL_law_741 : decode cL_law 741 = .ok (.iload_n 3, 1) := by decide +kernel
theorem dL_law_742 : decode cL_law 742 = .ok (.iconst 1, 1) := by decide +kernel
theorem dL_law_743 : decode cL_law 743 = .ok (.iadd, 1) := by decide +kernel
theorem dL_law_744 : decode cL_law 744 = .ok (.iaload, 1) := by decide +kernel
theorem dL_law_745 : decode cL_law 745 = .ok (.aload_n 0, 1) := by decide +kernel
theorem dL_law_746 : decode cL_law 746 = .ok (.iload_n 3, 1) := by decide +kernel
theorem dL_law_747 : decode cL_law 747 = .ok (.iconst 2, 1) := by decide +kernel
theorem dL_law_748 : decode cL_law 748 = .ok (.iadd, 1) := by decide +kernel
theorem dL_law_749 : decode cL_law 749 = .ok (.iaload, 1) := by decide +kernel
theorem dL_law_750 : decode cL_law 750 = .ok (.aload_n 0, 1) := by decide +kernel
theorem dL_law_751 : decode cL_law 751 = .ok (.iload_n 3, 1) := by decide +kernel
theorem dL_law_752 : decode cL_law 752 = .ok (.iconst 3, 1) := by decide +kernel
theorem dL_law_753 : decode cL_law 753 = .ok (.iadd, 1) := by decide +kernel
theorem dL_law_754 : decode cL_law 754 = .ok (.iaload, 1) := by decide +kernel
theorem dL_law_755 : decode cL_law 755 = .ok (.ifCond .eq 7, 3) := by decide +kernel
theorem dL_law_758 : decode cL_law 758 = .ok (.iconst 1, 1) := by decide +kernel
theorem dL_law_759 : decode cL_law 759 = .ok (.goto 4, 3) := by decide +kernel
theorem dL_law_762 : decode cL_law 762 = .ok (.iconst 0, 1) := by decide +kernel
theorem dL_law_763 : decode cL_law 763 = .ok (.invokevirtual 117, 3) := by decide +kernel
theorem dL_law_766 : decode cL_law 766 = .ok (.aload_n 2, 1) := by decide +kernel
theorem dL_law_767 : decode cL_law 767 = .ok (.aload_n 0, 1) := by decide +kernel
theorem dL_law_768 : decode cL_law 768 = .ok (.iload_n 3, 1) := by decide +kernel
theorem dL_law_769 : decode cL_law 769 = .ok (.iconst 1, 1) := by decide +kernel
theorem dL_law_770 : decode cL_law 770 = .ok (.iadd, 1) := by decide +kernel
theorem dL_law_771 : decode cL_law 771 = .ok (.iaload, 1) := by decide +kernel
theorem dL_law_772 : decode cL_law 772 = .ok (.aload_n 0, 1) := by decide +kernel
theorem dL_law_773 : decode cL_law 773 = .ok (.iload_n 3, 1) := by decide +kernel
theorem dL_law_774 : decode cL_law 774 = .ok (.iconst 2, 1) := by decide +kernel
theorem dL_law_775 : decode cL_law 775 = .ok (.iadd, 1) := by decide +kernel
theorem dL_law_776 : decode cL_law 776 = .ok (.iaload, 1) := by decide +kernel
theorem dL_law_777 : decode cL_law 777 = .ok (.aload_n 0, 1) := by decide +kernel
theorem dL_law_778 : decode cL_law 778 = .ok (.iload_n 3, 1) := by decide +kernel
theorem dL_law_779 : decode cL_law 779 = .ok (.iconst 3, 1) := by decide +kernel
theorem dL_law_780 : decode cL_law 780 = .ok (.iadd, 1) := by decide +kernel
theorem dL_law_781 : decode cL_law 781 = .ok (.iaload, 1) := by decide +kernel
theorem dL_law_782 : decode cL_law 782 = .ok (.ifCond .eq 7, 3) := by decide +kernel
theorem dL_law_785 : decode cL_law 785 = .ok (.iconst 1, 1) := by decide +kernel
theorem dL_law_786 : decode cL_law 786 = .ok (.goto 4, 3) := by decide +kernel
theorem dL_law_789 : decode cL_law 789 = .ok (.iconst 0, 1) := by decide +kernel
theorem dL_law_790 : decode cL_law 790 = .ok (.invokevirtual 121, 3) := by decide +kernel
theorem dL_law_793 : decode cL_law 793 = .ok (.if_icmp .eq 128, 3) := by decide +kernel
theorem dL_law_796 : decode cL_law 796 = .ok (.iconst 0, 1) := by decide +kernel
theorem dL_law_797 : decode cL_law 797 = .ok (.ireturn, 1) := by decide +kernel
theorem dL_law_798 : decode cL_law 798 = .ok (.aload_n 1, 1) := by decide +kernel
theorem dL_law_799 : decode cL_law 799 = .ok (.aload_n 0, 1) := by decide +kernel
theorem dL_law_800 : decode cL_law 800 = .ok (.iload_n 3, 1) := by decide +kernel
theorem dL_law_801 : decode cL_law 801 = .ok (.iconst 1, 1) := by decide +kernel
theorem dL_law_802 : decode cL_law 802 = .ok (.iadd, 1) := by decide +kernel
theorem dL_law_803 : decode cL_law 803 = .ok (.iaload, 1) := by decide +kernel
theorem dL_law_804 : decode cL_law 804 = .ok (.i2l, 1) := by decide +kernel
theorem dL_law_805 : decode cL_law 805 = .ok (.bipush 32, 2) := by decide +kernel
theorem dL_law_807 : decode cL_law 807 = .ok (.lshl, 1) := by decide +kernel
theorem dL_law_808 : decode cL_law 808 = .ok (.aload_n 0, 1) := by decide +kernel
theorem dL_law_809 : decode cL_law 809 = .ok (.iload_n 3, 1) := by decide +kernel
theorem dL_law_810 : decode cL_law 810 = .ok (.iconst 2, 1) := by decide +kernel
theorem dL_law_811 : decode cL_law 811 = .ok (.iadd, 1) := by decide +kernel
theorem dL_law_812 : decode cL_law 812 = .ok (.iaload, 1) := by decide +kernel
theorem dL_law_813 : decode cL_law 813 = .ok (.i2l, 1) := by decide +kernel
theorem dL_law_814 : decode cL_law 814 = .ok (.ldc2_w 122, 3) := by decide +kernel
theorem dL_law_817 : decode cL_law 817 = .ok (.land, 1) := by decide +kernel
theorem dL_law_818 : decode cL_law 818 = .ok (.lor, 1) := by decide +kernel
theorem dL_law_819 : decode cL_law 819 = .ok (.invokevirtual 124, 3) := by decide +kernel
theorem dL_law_822 : decode cL_law 822 = .ok (.aload_n 2, 1) := by decide +kernel
theorem dL_law_823 : decode cL_law 823 = .ok (.aload_n 0, 1) := by decide +kernel
theorem dL_law_824 : decode cL_law 824 = .ok (.iload_n 3, 1) := by decide +kernel
theorem dL_law_825 : decode cL_law 825 = .ok (.iconst 1, 1) := by decide +kernel
theorem dL_law_826 : decode cL_law 826 = .ok (.iadd, 1) := by decide +kernel
theorem dL_law_827 : decode cL_law 827 = .ok (.iaload, 1) := by decide +kernel
theorem dL_law_828 : decode cL_law 828 = .ok (.i2l, 1) := by decide +kernel
theorem dL_law_829 : decode cL_law 829 = .ok (.bipush 32, 2) := by decide +kernel
theorem dL_law_831 : decode cL_law 831 = .ok (.lshl, 1) := by decide +kernel
theorem dL_law_832 : decode cL_law 832 = .ok (.aload_n 0, 1) := by decide +kernel
theorem dL_law_833 : decode cL_law 833 = .ok (.iload_n 3, 1) := by decide +kernel
theorem dL_law_834 : decode cL_law 834 = .ok (.iconst 2, 1) := by decide +kernel
theorem dL_law_835 : decode cL_law 835 = .ok (.iadd, 1) := by decide +kernel
theorem dL_law_836 : decode cL_law 836 = .ok (.iaload, 1) := by decide +kernel
theorem dL_law_837 : decode cL_law 837 = .ok (.i2l, 1) := by decide +kernel
theorem dL_law_838 : decode cL_law 838 = .ok (.ldc2_w 122, 3) := by decide +kernel
theorem dL_law_841 : decode cL_law 841 = .ok (.land, 1) := by decide +kernel
theorem dL_law_842 : decode cL_law 842 = .ok (.lor, 1) := by decide +kernel
theorem dL_law_843 : decode cL_law 843 = .ok (.invokevirtual 128, 3) := by decide +kernel
theorem dL_law_846 : decode cL_law 846 = .ok (.lcmp, 1) := by decide +kernel
theorem dL_law_847 : decode cL_law 847 = .ok (.ifCond .eq 74, 3) := by decide +kernel
theorem dL_law_850 : decode cL_law 850 = .ok (.iconst 0, 1) := by decide +kernel
theorem dL_law_851 : decode cL_law 851 = .ok (.ireturn, 1) := by decide +kernel
theorem dL_law_852 : decode cL_law 852 = .ok (.aload_n 1, 1) := by decide +kernel
theorem dL_law_853 : decode cL_law 853 = .ok (.aload_n 0, 1) := by decide +kernel
theorem dL_law_854 : decode cL_law 854 = .ok (.iload_n 3, 1) := by decide +kernel
theorem dL_law_855 : decode cL_law 855 = .ok (.iconst 1, 1) := by decide +kernel
theorem dL_law_856 : decode cL_law 856 = .ok (.iadd, 1) := by decide +kernel
theorem dL_law_857 : decode cL_law 857 = .ok (.iaload, 1) := by decide +kernel
theorem dL_law_858 : decode cL_law 858 = .ok (.invokevirtual 129, 3) := by decide +kernel
theorem dL_law_861 : decode cL_law 861 = .ok (.aload_n 2, 1) := by decide +kernel
theorem dL_law_862 : decode cL_law 862 = .ok (.aload_n 0, 1) := by decide +kernel
theorem dL_law_863 : decode cL_law 863 = .ok (.iload_n 3, 1) := by decide +kernel
theorem dL_law_864 : decode cL_law 864 = .ok (.iconst 1, 1) := by decide +kernel
theorem dL_law_865 : decode cL_law 865 = .ok (.iadd, 1) := by decide +kernel
theorem dL_law_866 : decode cL_law 866 = .ok (.iaload, 1) := by decide +kernel
theorem dL_law_867 : decode cL_law 867 = .ok (.invokevirtual 132, 3) := by decide +kernel
theorem dL_law_870 : decode cL_law 870 = .ok (.if_icmp .eq 51, 3) := by decide +kernel
theorem dL_law_873 : decode cL_law 873 = .ok (.iconst 0, 1) := by decide +kernel
theorem dL_law_874 : decode cL_law 874 = .ok (.ireturn, 1) := by decide +kernel
theorem dL_law_875 : decode cL_law 875 = .ok (.aload_n 1, 1) := by decide +kernel
theorem dL_law_876 : decode cL_law 876 = .ok (.aload_n 0, 1) := by decide +kernel
theorem dL_law_877 : decode cL_law 877 = .ok (.iload_n 3, 1) := by decide +kernel
theorem dL_law_878 : decode cL_law 878 = .ok (.iconst 1, 1) := by decide +kernel
theorem dL_law_879 : decode cL_law 879 = .ok (.iadd, 1) := by decide +kernel
theorem dL_law_880 : decode cL_law 880 = .ok (.iaload, 1) := by decide +kernel
theorem dL_law_881 : decode cL_law 881 = .ok (.invokevirtual 133, 3) := by decide +kernel
theorem dL_law_884 : decode cL_law 884 = .ok (.aload_n 2, 1) := by decide +kernel
theorem dL_law_885 : decode cL_law 885 = .ok (.aload_n 0, 1) := by decide +kernel
theorem dL_law_886 : decode cL_law 886 = .ok (.iload_n 3, 1) := by decide +kernel
theorem dL_law_887 : decode cL_law 887 = .ok (.iconst 1, 1) := by decide +kernel
theorem dL_law_888 : decode cL_law 888 = .ok (.iadd, 1) := by decide +kernel
theorem dL_law_889 : decode cL_law 889 = .ok (.iaload, 1) := by decide +kernel
theorem dL_law_890 : decode cL_law 890 = .ok (.invokevirtual 136, 3) := by decide +kernel
theorem dL_law_893 : decode cL_law 893 = .ok (.if_icmp .eq 28, 3) := by decide +kernel
theorem dL_law_896 : decode cL_law 896 = .ok (.iconst 0, 1) := by decide +kernel
theorem dL_law_897 : decode cL_law 897 = .ok (.ireturn, 1) := by decide +kernel
theorem dL_law_898 : decode cL_law 898 = .ok (.aload_n 1, 1) := by decide +kernel
theorem dL_law_899 : decode cL_law 899 = .ok (.aload_n 0, 1) := by decide +kernel
theorem dL_law_900 : decode cL_law 900 = .ok (.iload_n 3, 1) := by decide +kernel
theorem dL_law_901 : decode cL_law 901 = .ok (.iconst 1, 1) := by decide +kernel
theorem dL_law_902 : decode cL_law 902 = .ok (.iadd, 1) := by decide +kernel
theorem dL_law_903 : decode cL_law 903 = .ok (.iaload, 1) := by decide +kernel
theorem dL_law_904 : decode cL_law 904 = .ok (.invokevirtual 137, 3) := by decide +kernel
theorem dL_law_907 : decode cL_law 907 = .ok (.aload_n 2, 1) := by decide +kernel
theorem dL_law_908 : decode cL_law 908 = .ok (.aload_n 0, 1) := by decide +kernel
theorem dL_law_909 : decode cL_law 909 = .ok (.iload_n 3, 1) := by decide +kernel
theorem dL_law_910 : decode cL_law 910 = .ok (.iconst 1, 1) := by decide +kernel
theorem dL_law_911 : decode cL_law 911 = .ok (.iadd, 1) := by decide +kernel
theorem dL_law_912 : decode cL_law 912 = .ok (.iaload, 1) := by decide +kernel
theorem dL_law_913 : decode cL_law 913 = .ok (.invokevirtual 140, 3) := by decide +kernel
theorem dL_law_916 : decode cL_law 916 = .ok (.if_icmp .eq 5, 3) := by decide +kernel
theorem dL_law_919 : decode cL_law 919 = .ok (.iconst 0, 1) := by decide +kernel
theorem dL_law_920 : decode cL_law 920 = .ok (.ireturn, 1) := by decide +kernel
theorem dL_law_921 : decode cL_law 921 = .ok (.iinc 3 4, 3) := by decide +kernel
theorem dL_law_924 : decode cL_law 924 = .ok (.goto (-906), 3) := by decide +kernel
theorem dL_law_927 : decode cL_law 927 = .ok (.iconst 1, 1) := by decide +kernel
theorem dL_law_928 : decode cL_law 928 = .ok (.ireturn, 1) := by decide +kernel
end
section
/-! ===== small worlds: cells by number, values with cells' numbers; Ev: 'from here the method comes to its end with P' ===== -/
abbrev mC : Type := (Nat × Nat × ((Nat → Int32) ⊕ (Nat → Option Nat))) ⊕ (Nat × List Value)
abbrev mM : Type := Nat → mC
abbrev mI : Type := MethodName × ByteArray × Nat × Option FieldType
abbrev mX : Type := Option (Nat × (Nat → Int32))
def mu (M : mM) (k : Nat) (c : mC) : mM := fun j => if j = k then c else M j
theorem mu_s (M : mM) (k : Nat) (c : mC) : mu M k c k = c := if_pos rfl
theorem mu_n {M : mM} {k j : Nat} {c : mC} (h : j ≠ k) : mu M k c j = M j := if_neg h
theorem mu_mu (M : mM) (k : Nat) (c c' : mC) : mu (mu M k c) k c' = mu M k c' := by
  funext j
  by_cases h : j = k
  · rw [h, mu_s, mu_s]
  · rw [mu_n h, mu_n h, mu_n h]
theorem mu_self {M : mM} {k : Nat} {c : mC} (h : M k = c) : mu M k c = M := by
  funext j
  by_cases hj : j = k
  · rw [hj, mu_s, h]
  · rw [mu_n hj]
def e_v (ad : Nat → Nat) (v : Value) : Value := match v with
  | .ref k => .ref (ad k)
  | .null => .null
  | .int x => .int x
  | .long x => .long x
  | v => v
theorem e_v_cat (ad : Nat → Nat) (v : Value) : (e_v ad v).category = v.category := by cases v <;> rfl
def e_c (ad : Nat → Nat) (cA : Nat → ClassId) (c : mC) : va_E := match c with
  | .inl (t, n, .inl f) => .inl (cA t, n, .inl f)
  | .inl (t, n, .inr g) => .inl (cA t, n, .inr (.inr (.inr (.inr (fun j => (g j).map ad)))))
  | .inr (ci, fs) => .inr (ci, fs.map (e_v ad))
def e_w (N : Nat) (ad : Nat → Nat) (cA : Nat → ClassId) (M : mM) : va_W := (List.range N).map (fun k => (ad k, e_c ad cA (M k)))
theorem e_w_at {N : Nat} {ad : Nat → Nat} {cA : Nat → ClassId} {M : mM} {k : Nat} (h : k < N) : (e_w N ad cA M)[k]? = some (ad k, e_c ad cA (M k)) := by
  simp [e_w, h]
theorem e_w_atc {N : Nat} {ad : Nat → Nat} {cA : Nat → ClassId} {M : mM} {k : Nat} {x : mC} (h : k < N) (hM : M k = x) : (e_w N ad cA M)[k]? = some (ad k, e_c ad cA x) := by
  rw [e_w_at h, hM]
theorem e_w_set {N : Nat} {ad : Nat → Nat} {cA : Nat → ClassId} {M : mM} {k : Nat} (x : mC) : (e_w N ad cA M).set k (ad k, e_c ad cA x) = e_w N ad cA (mu M k x) := by
  refine List.ext_getElem? fun i => ?_
  by_cases hi : i < N
  · rw [e_w_at hi, List.getElem?_set]
    by_cases hk : k = i
    · subst hk
      rw [if_pos rfl, if_pos (by simp [e_w, hi]), mu_s]
    · rw [if_neg hk, e_w_at hi, mu_n (Ne.symm hk)]
  · rw [List.getElem?_eq_none (by simp [e_w]; omega), List.getElem?_eq_none (by simp [e_w]; omega)]
def e_tys (cA : Nat → ClassId) : List (ClassId × FieldType) := [(cA 0, .int), (cA 1, .boolean), (cA 2, .object "BlottedFirst$Sheet")]
/-! locals: by places; null: nothing known -/
def e_R (ls : Array Slot) (n : Nat) (ad : Nat → Nat) (L : List Value) : Prop := ls.size = n ∧ lv_wf ls ∧ ∀ (i : Nat) (v : Value), L[i]? = some v → v ≠ .null → ls[i]? = some (.val (e_v ad v))
def e_li (ad : Nat → Nat) (L : List Value) (i : Nat) : Option (Nat × Value) := match L[i]? with
  | some .null => none
  | some v => some (i, e_v ad v)
  | none => none
def e_l (ad : Nat → Nat) (L : List Value) : List (Nat × Value) := (List.range L.length).filterMap (e_li ad L)
theorem e_l_in {ad : Nat → Nat} {L : List Value} {i : Nat} {v : Value} (h : L[i]? = some v) (hn : v ≠ .null) : (i, e_v ad v) ∈ e_l ad L := by
  refine List.mem_filterMap.mpr ⟨i, List.mem_range.mpr (List.getElem?_eq_some_iff.mp h).1, ?_⟩
  unfold e_li
  rw [h]
  cases v <;> first | rfl | exact absurd rfl hn
theorem e_l_of {ad : Nat → Nat} {L : List Value} {q : Nat × Value} (h : q ∈ e_l ad L) : ∃ v, L[q.1]? = some v ∧ v ≠ .null ∧ q.2 = e_v ad v := by
  obtain ⟨i, -, hi⟩ := List.mem_filterMap.mp h
  unfold e_li at hi
  split at hi
  · cases hi
  · next v hv hne =>
    cases hi
    exact ⟨_, hne, fun z => by subst z; exact hv rfl, rfl⟩
  · cases hi
theorem e_R.lv {ls : Array Slot} {n : Nat} {ad : Nat → Nat} {L : List Value} (h : e_R ls n ad L) : lv_has ls n (e_l ad L) :=
  ⟨h.1, h.2.1, fun q hq => by
    obtain ⟨v, h1, h2, h3⟩ := e_l_of hq
    rw [h3]
    exact h.2.2 _ _ h1 h2⟩
def e_okS (L : List Value) (i : Nat) : Bool := match i with
  | 0 => true
  | j + 1 => match L[j]? with
    | some v => v.category == 1
    | none => true
theorem e_okS_spec {L : List Value} {j i : Nat} {w : Value} (ho : e_okS L i = true) (hj : L[j]? = some w) (hji : j + 1 = i) : w.category = 1 := by
  subst hji
  simpa [e_okS, hj] using ho
theorem e_R_st1 {ls' : Array Slot} {n : Nat} {ad : Nat → Nat} {L : List Value} {i : Nat} {v : Value} (h' : lv_has ls' n ((i, e_v ad v) :: (e_l ad L).filter (fun q => !(q.1 == i) && !(q.1 + 1 == i && q.2.category == 2)))) (ho : e_okS L i = true) : e_R ls' n ad (L.set i v) := by
  refine ⟨h'.1, h'.2.1, fun j w hj hw => ?_⟩
  by_cases hji : j = i
  · subst hji
    have hlt : j < (L.set j v).length := (List.getElem?_eq_some_iff.mp hj).1
    rw [List.length_set] at hlt
    rw [List.getElem?_set_self hlt] at hj
    cases hj
    exact h'.2.2 _ List.mem_cons_self
  · rw [List.getElem?_set_ne (Ne.symm hji)] at hj
    refine h'.2.2 (j, e_v ad w) (List.mem_cons_of_mem _ (List.mem_filter.mpr ⟨e_l_in hj hw, ?_⟩))
    have h1 : (j == i) = false := by simp [hji]
    by_cases h2 : j + 1 = i
    · have h3 := e_okS_spec ho hj h2
      simp [h1, e_v_cat, h3]
    · simp [h1, h2]
theorem e_R_st2 {ls' : Array Slot} {n : Nat} {ad : Nat → Nat} {L : List Value} {i : Nat} {v : Value} (h' : lv_has ls' n ((i, e_v ad v) :: (e_l ad L).filter (fun q => !(q.1 == i) && (!(q.1 == i + 1) && !(q.1 + 1 == i && q.2.category == 2))))) (ho : e_okS L i = true) : e_R ls' n ad ((L.set i v).set (i + 1) .null) := by
  refine ⟨h'.1, h'.2.1, fun j w hj hw => ?_⟩
  by_cases hj1 : j = i + 1
  · subst hj1
    have hlt : i + 1 < ((L.set i v).set (i + 1) .null).length := (List.getElem?_eq_some_iff.mp hj).1
    rw [List.length_set] at hlt
    rw [List.getElem?_set_self hlt] at hj
    cases hj
    exact absurd rfl hw
  · rw [List.getElem?_set_ne (Ne.symm hj1)] at hj
    by_cases hji : j = i
    · subst hji
      have hlt : j < (L.set j v).length := (List.getElem?_eq_some_iff.mp hj).1
      rw [List.length_set] at hlt
      rw [List.getElem?_set_self hlt] at hj
      cases hj
      exact h'.2.2 _ List.mem_cons_self
    · rw [List.getElem?_set_ne (Ne.symm hji)] at hj
      refine h'.2.2 (j, e_v ad w) (List.mem_cons_of_mem _ (List.mem_filter.mpr ⟨e_l_in hj hw, ?_⟩))
      have h1 : (j == i) = false := by simp [hji]
      have h4 : (j == i + 1) = false := by simp [hj1]
      by_cases h2 : j + 1 = i
      · have h3 := e_okS_spec ho hj h2
        simp [h1, h4, e_v_cat, h3]
      · simp [h1, h4, h2]
def e_sp : List Value → List Value
  | [] => []
  | v :: r => if v.category = 2 then v :: .null :: e_sp r else v :: e_sp r
def e_ent (n : Nat) (vs : List Value) : List Value := e_sp vs ++ List.replicate (n - (e_sp vs).length) .null
theorem e_sp_len (ad : Nat → Nat) : ∀ vs : List Value, (lg_sl (vs.map (e_v ad))).length = (e_sp vs).length
  | [] => rfl
  | v :: r => by
    have ih := e_sp_len ad r
    unfold lg_sl at ih ⊢
    rw [List.map_cons, List.flatMap_cons, List.length_append, ih, e_v_cat, show e_sp (v :: r) = (if v.category = 2 then v :: .null :: e_sp r else v :: e_sp r) from rfl]
    by_cases hc : v.category = 2
    · rw [if_pos hc, if_pos hc]
      simp only [List.length_cons, List.length_nil]
      omega
    · rw [if_neg hc, if_neg hc]
      simp only [List.length_cons, List.length_nil]
      omega
theorem e_sp_at (ad : Nat → Nat) : ∀ (vs : List Value) (j i : Nat) (v : Value), (e_sp vs)[i]? = some v → v ≠ .null → (j + i, e_v ad v) ∈ lv_args j (vs.map (e_v ad))
  | [], j, i, v, h, _ => by simp [e_sp] at h
  | u :: r, j, i, v, h, hn => by
    rw [List.map_cons]
    unfold lv_args
    unfold e_sp at h
    rw [e_v_cat]
    by_cases hc : u.category = 2
    · rw [if_pos hc] at h ⊢
      match i, h with
      | 0, h =>
        cases h
        exact List.mem_cons_self
      | 1, h =>
        cases h
        exact absurd rfl hn
      | i + 2, h =>
        have h2 := e_sp_at ad r (j + 2) i v (by simpa using h) hn
        rw [show j + (i + 2) = j + 2 + i by omega]
        exact List.mem_cons_of_mem _ h2
    · rw [if_neg hc] at h ⊢
      match i, h with
      | 0, h =>
        cases h
        exact List.mem_cons_self
      | i + 1, h =>
        have h2 := e_sp_at ad r (j + 1) i v (by simpa using h) hn
        rw [show j + (i + 1) = j + 1 + i by omega]
        exact List.mem_cons_of_mem _ h2
theorem e_R_ent (ad : Nat → Nat) (vs : List Value) {n : Nat} (h : (e_sp vs).length ≤ n) : e_R ((lg_sl (vs.map (e_v ad)) ++ List.replicate (n - (lg_sl (vs.map (e_v ad))).length) Slot.unset).toArray) n ad (e_ent n vs) := by
  have hl := lv_entry (vs.map (e_v ad)) (n := n) (by rw [e_sp_len]; exact h)
  refine ⟨hl.1, hl.2.1, fun i v hi hn => ?_⟩
  have hi2 : (e_sp vs)[i]? = some v := by
    unfold e_ent at hi
    by_cases hlt : i < (e_sp vs).length
    · rwa [List.getElem?_append_left hlt] at hi
    · rw [List.getElem?_append_right (by omega), List.getElem?_replicate] at hi
      split at hi
      · cases hi
        exact absurd rfl hn
      · cases hi
  have h3 := hl.2.2 _ (e_sp_at ad vs 0 i v hi2 hn)
  rwa [show 0 + i = i by omega] at h3
/-- the words that last (e_big), the links to private members of nest mates (e_nst): out of the tables' words -/
def e_big : List Cond := lw_tbl.filter goodWord
def e_isN : Cond → Bool
  | .fieldLinkNest _ _ _ _ _ _ => true
  | .methodLinkNest _ _ _ _ => true
  | _ => false
def e_nst : List Cond := lw_tbl.filter e_isN
theorem e_nst_is : ∀ w ∈ e_nst, e_isN w = true := fun _ h => (List.mem_filter.mp h).2
theorem e_nst_warm {s U : State} (hW : s.WarmedH U.vm) (h : ∀ w ∈ e_nst, va_Nw w s) : ∀ w ∈ e_nst, va_Nw w U := by
  intro w hw
  have h1 := e_nst_is w hw
  have h2 := h w hw
  cases w <;> first | exact va_Nw.warmF hW h2 | exact va_Nw.warmM hW h2 | cases h1
theorem e_nst_same {u U : State} (hv : u.vm = U.vm) (h : ∀ w ∈ e_nst, va_Nw w u) : ∀ w ∈ e_nst, va_Nw w U := by
  intro w hw
  have h1 := e_nst_is w hw
  have h2 := h w hw
  cases w <;> first | exact va_Nw.same rfl hv h2 | cases h1
theorem e_good : ∀ w ∈ e_big, goodWord w = true := fun _ h => (List.mem_filter.mp h).2
theorem e_in0 {w : Cond} (k : Nat) (h : (k2_sels lw_privs)[k]? = some w) : w ∈ lw_tbl := List.mem_append_left _ (List.mem_of_getElem? h)
theorem e_in1 {w : Cond} (k : Nat) (h : tables_1_1[k]? = some w) : w ∈ lw_tbl := List.mem_append_right _ (List.mem_append_left _ (List.mem_of_getElem? h))
theorem e_in2 {w : Cond} (k : Nat) (h : tables_1_2[k]? = some w) : w ∈ lw_tbl := List.mem_append_right _ (List.mem_append_right _ (List.mem_append_left _ (List.mem_of_getElem? h)))
theorem e_in3 {w : Cond} (k : Nat) (h : tables_1_3[k]? = some w) : w ∈ lw_tbl := List.mem_append_right _ (List.mem_append_right _ (List.mem_append_right _ (List.mem_append_left _ (List.mem_of_getElem? h))))
theorem e_in4 {w : Cond} (k : Nat) (h : tables_1_4[k]? = some w) : w ∈ lw_tbl := List.mem_append_right _ (List.mem_append_right _ (List.mem_append_right _ (List.mem_append_right _ (List.mem_of_getElem? h))))
theorem e_bg {w : Cond} (h : w ∈ lw_tbl) (hg : goodWord w = true) : w ∈ e_big := List.mem_filter.mpr ⟨h, hg⟩
theorem e_ns {w : Cond} (h : w ∈ lw_tbl) (hg : e_isN w = true) : w ∈ e_nst := List.mem_filter.mpr ⟨h, hg⟩
theorem e_goodIn {w : Cond} (hw : w ∈ e_big) : GoodIn e_big (w :: e_big) := fun x hx => by
  rcases List.mem_cons.mp hx with rfl | h
  · exact ⟨hw, good_of_word (e_good _ hw)⟩
  · exact ⟨h, good_of_word (e_good _ h)⟩
def e_ret (μ : mI) (pc : Nat) (r : Option Value) : Prop := match r with
  | none => decode μ.2.1 pc = .ok (.return_, 1) ∧ μ.2.2.2 = none
  | some (.int v) => decode μ.2.1 pc = .ok (.ireturn, 1) ∧ ∃ ty, μ.2.2.2 = some ty ∧ narrow ty (.int v) = .int v
  | some (.long _) => decode μ.2.1 pc = .ok (.lreturn, 1) ∧ μ.2.2.2 = some .long
  | some (.ref _) => decode μ.2.1 pc = .ok (.areturn, 1) ∧ ∃ n, μ.2.2.2 = some (.object n)
  | _ => False
def e_env (N d : Nat) (μ : mI) (X : mX) (P : Option Value → mM → Prop) (p : Program) (l : Launch) (e : Env) (R : Room) (s : State) (m : MethodId) (args : Array Value) (below : List Frame) (meth : Method) (c : Code) (cells slots : Nat) (Q : State → Prop) (A : Nat → Prop) (D : va_G) (cA : Nat → ClassId) (ad : Nat → Nat) : Prop :=
  p.tables.exec = Jvm.exec ∧ c.code = μ.2.1 ∧ c.maxLocals = μ.2.2.1 ∧ s.vm.findClass μ.1.cls = some m.cls ∧ (∀ w ∈ e_big, w.before args s = true) ∧ (∀ w ∈ e_nst, va_Nw w s) ∧ va_K D vwCl (e_tys cA) s ∧ (∀ q : Nat, s.heap.size ≤ q → A q) ∧ (d ≤ R.frames ∧ 33 * d ≤ R.locals ∧ cells ≤ R.cells ∧ slots ≤ R.slots) ∧ (∀ (L : Nat) (xs : Nat → Int32), X = some (L, xs) → va_X (ad 1000) L xs s s.heap ∧ ad 1000 < s.heap.size ∧ ¬ A (ad 1000)) ∧
  ∀ (r : Option Value) (M1 : mM) (H1 : Heap) (locs1 : List Loc) (ls1 : Array Slot) (pc1 : Nat), P r M1 → e_ret μ pc1 r → va_P D vwCl (e_w N ad cA M1) H1 → va_D A (e_w N ad cA M1) → va_S A s.heap H1 locs1 → W p l e R s m args below meth c H1 locs1 cells slots Q (F0 m pc1 ls1 (r.toList.map (e_v ad)))
def Ev (N d : Nat) (μ : mI) (X : mX) (pc : Nat) (L S : List Value) (M : mM) (P : Option Value → mM → Prop) : Prop :=
  ∀ (p : Program) (l : Launch) (e : Env) (R : Room) (s : State) (m : MethodId) (args : Array Value) (below : List Frame) (meth : Method) (c : Code) (cells slots : Nat) (Q : State → Prop) (A : Nat → Prop) (D : va_G) (cA : Nat → ClassId) (ad : Nat → Nat), e_env N d μ X P p l e R s m args below meth c cells slots Q A D cA ad → ∀ (H : Heap) (locs : List Loc) (ls : Array Slot), va_P D vwCl (e_w N ad cA M) H → va_D A (e_w N ad cA M) → va_S A s.heap H locs → e_R ls μ.2.2.1 ad L → W p l e R s m args below meth c H locs cells slots Q (F0 m pc ls (S.map (e_v ad)))
section EVR
variable {N d : Nat} {μ : mI} {X : mX} {pc : Nat} {L S : List Value} {M : mM} {P : Option Value → mM → Prop}
theorem ev_iconst {n : Int} {v : Int32} (h : decode μ.2.1 pc = .ok (.iconst n, 1)) (hv : Int32.ofInt n = v) (k : Ev N d μ X (pc + 1) L (.int v :: S) M P) : Ev N d μ X pc L (S) M P := by
  intro p l e R s m args below meth c cells slots Q A D cA ad hE H locs ls hP hD hS hl
  exact lv_iconst  hE.1 hE.2.1 h hv (k _ _ _ _ _ _ _ _ _ _ _ _ _ _ _ _ _ hE H locs ls hP hD hS hl)
theorem ev_bipush {n : Int} {v : Int32} (h : decode μ.2.1 pc = .ok (.bipush n, 2)) (hv : (Int8.ofInt n).toInt32 = v) (k : Ev N d μ X (pc + 2) L (.int v :: S) M P) : Ev N d μ X pc L (S) M P := by
  intro p l e R s m args below meth c cells slots Q A D cA ad hE H locs ls hP hD hS hl
  exact lv_bipush  hE.1 hE.2.1 h hv (k _ _ _ _ _ _ _ _ _ _ _ _ _ _ _ _ _ hE H locs ls hP hD hS hl)
theorem ev_sipush {n : Int} {v : Int32} (h : decode μ.2.1 pc = .ok (.sipush n, 3)) (hv : (Int16.ofInt n).toInt32 = v) (k : Ev N d μ X (pc + 3) L (.int v :: S) M P) : Ev N d μ X pc L (S) M P := by
  intro p l e R s m args below meth c cells slots Q A D cA ad hE H locs ls hP hD hS hl
  exact lv_sipush  hE.1 hE.2.1 h hv (k _ _ _ _ _ _ _ _ _ _ _ _ _ _ _ _ _ hE H locs ls hP hD hS hl)
theorem ev_lconst {n : Fin 2} {v : Int64} (h : decode μ.2.1 pc = .ok (.lconst n, 1)) (hv : Int64.ofNat (n : Nat) = v) (k : Ev N d μ X (pc + 1) L (.long v :: S) M P) : Ev N d μ X pc L (S) M P := by
  intro p l e R s m args below meth c cells slots Q A D cA ad hE H locs ls hP hD hS hl
  exact lv_lconst  hE.1 hE.2.1 h hv (k _ _ _ _ _ _ _ _ _ _ _ _ _ _ _ _ _ hE H locs ls hP hD hS hl)
theorem ev_iadd {x y : Int32} (h : decode μ.2.1 pc = .ok (.iadd, 1)) (k : Ev N d μ X (pc + 1) L (.int (x + y) :: S) M P) : Ev N d μ X pc L (.int y :: .int x :: S) M P := by
  intro p l e R s m args below meth c cells slots Q A D cA ad hE H locs ls hP hD hS hl
  exact lv_iadd  hE.1 hE.2.1 h (k _ _ _ _ _ _ _ _ _ _ _ _ _ _ _ _ _ hE H locs ls hP hD hS hl)
theorem ev_isub {x y : Int32} (h : decode μ.2.1 pc = .ok (.isub, 1)) (k : Ev N d μ X (pc + 1) L (.int (x - y) :: S) M P) : Ev N d μ X pc L (.int y :: .int x :: S) M P := by
  intro p l e R s m args below meth c cells slots Q A D cA ad hE H locs ls hP hD hS hl
  exact lv_isub  hE.1 hE.2.1 h (k _ _ _ _ _ _ _ _ _ _ _ _ _ _ _ _ _ hE H locs ls hP hD hS hl)
theorem ev_imul {x y : Int32} (h : decode μ.2.1 pc = .ok (.imul, 1)) (k : Ev N d μ X (pc + 1) L (.int (x * y) :: S) M P) : Ev N d μ X pc L (.int y :: .int x :: S) M P := by
  intro p l e R s m args below meth c cells slots Q A D cA ad hE H locs ls hP hD hS hl
  exact lv_imul  hE.1 hE.2.1 h (k _ _ _ _ _ _ _ _ _ _ _ _ _ _ _ _ _ hE H locs ls hP hD hS hl)
theorem ev_iand {x y : Int32} (h : decode μ.2.1 pc = .ok (.iand, 1)) (k : Ev N d μ X (pc + 1) L (.int (x &&& y) :: S) M P) : Ev N d μ X pc L (.int y :: .int x :: S) M P := by
  intro p l e R s m args below meth c cells slots Q A D cA ad hE H locs ls hP hD hS hl
  exact lv_iand  hE.1 hE.2.1 h (k _ _ _ _ _ _ _ _ _ _ _ _ _ _ _ _ _ hE H locs ls hP hD hS hl)
theorem ev_ior {x y : Int32} (h : decode μ.2.1 pc = .ok (.ior, 1)) (k : Ev N d μ X (pc + 1) L (.int (x ||| y) :: S) M P) : Ev N d μ X pc L (.int y :: .int x :: S) M P := by
  intro p l e R s m args below meth c cells slots Q A D cA ad hE H locs ls hP hD hS hl
  exact lv_ior  hE.1 hE.2.1 h (k _ _ _ _ _ _ _ _ _ _ _ _ _ _ _ _ _ hE H locs ls hP hD hS hl)
theorem ev_ixor {x y : Int32} (h : decode μ.2.1 pc = .ok (.ixor, 1)) (k : Ev N d μ X (pc + 1) L (.int (x ^^^ y) :: S) M P) : Ev N d μ X pc L (.int y :: .int x :: S) M P := by
  intro p l e R s m args below meth c cells slots Q A D cA ad hE H locs ls hP hD hS hl
  exact lv_ixor  hE.1 hE.2.1 h (k _ _ _ _ _ _ _ _ _ _ _ _ _ _ _ _ _ hE H locs ls hP hD hS hl)
theorem ev_ishl {x y : Int32} (h : decode μ.2.1 pc = .ok (.ishl, 1)) (k : Ev N d μ X (pc + 1) L (.int (x <<< (y &&& 31)) :: S) M P) : Ev N d μ X pc L (.int y :: .int x :: S) M P := by
  intro p l e R s m args below meth c cells slots Q A D cA ad hE H locs ls hP hD hS hl
  exact lv_ishl  hE.1 hE.2.1 h (k _ _ _ _ _ _ _ _ _ _ _ _ _ _ _ _ _ hE H locs ls hP hD hS hl)
theorem ev_ishr {x y : Int32} (h : decode μ.2.1 pc = .ok (.ishr, 1)) (k : Ev N d μ X (pc + 1) L (.int (x >>> (y &&& 31)) :: S) M P) : Ev N d μ X pc L (.int y :: .int x :: S) M P := by
  intro p l e R s m args below meth c cells slots Q A D cA ad hE H locs ls hP hD hS hl
  exact lv_ishr  hE.1 hE.2.1 h (k _ _ _ _ _ _ _ _ _ _ _ _ _ _ _ _ _ hE H locs ls hP hD hS hl)
theorem ev_idiv {x y : Int32} (h : decode μ.2.1 pc = .ok (.idiv, 1)) (hv : ¬ y = 0) (k : Ev N d μ X (pc + 1) L (.int (x / y) :: S) M P) : Ev N d μ X pc L (.int y :: .int x :: S) M P := by
  intro p l e R s m args below meth c cells slots Q A D cA ad hE H locs ls hP hD hS hl
  exact lv_idiv  hE.1 hE.2.1 h hv (k _ _ _ _ _ _ _ _ _ _ _ _ _ _ _ _ _ hE H locs ls hP hD hS hl)
theorem ev_irem {x y : Int32} (h : decode μ.2.1 pc = .ok (.irem, 1)) (hv : ¬ y = 0) (k : Ev N d μ X (pc + 1) L (.int (x - x / y * y) :: S) M P) : Ev N d μ X pc L (.int y :: .int x :: S) M P := by
  intro p l e R s m args below meth c cells slots Q A D cA ad hE H locs ls hP hD hS hl
  exact lv_irem  hE.1 hE.2.1 h hv (k _ _ _ _ _ _ _ _ _ _ _ _ _ _ _ _ _ hE H locs ls hP hD hS hl)
theorem ev_ineg {x : Int32} (h : decode μ.2.1 pc = .ok (.ineg, 1)) (k : Ev N d μ X (pc + 1) L (.int (-x) :: S) M P) : Ev N d μ X pc L (.int x :: S) M P := by
  intro p l e R s m args below meth c cells slots Q A D cA ad hE H locs ls hP hD hS hl
  exact lv_ineg  hE.1 hE.2.1 h (k _ _ _ _ _ _ _ _ _ _ _ _ _ _ _ _ _ hE H locs ls hP hD hS hl)
theorem ev_ladd {x y : Int64} (h : decode μ.2.1 pc = .ok (.ladd, 1)) (k : Ev N d μ X (pc + 1) L (.long (x + y) :: S) M P) : Ev N d μ X pc L (.long y :: .long x :: S) M P := by
  intro p l e R s m args below meth c cells slots Q A D cA ad hE H locs ls hP hD hS hl
  exact lv_ladd  hE.1 hE.2.1 h (k _ _ _ _ _ _ _ _ _ _ _ _ _ _ _ _ _ hE H locs ls hP hD hS hl)
theorem ev_lmul {x y : Int64} (h : decode μ.2.1 pc = .ok (.lmul, 1)) (k : Ev N d μ X (pc + 1) L (.long (x * y) :: S) M P) : Ev N d μ X pc L (.long y :: .long x :: S) M P := by
  intro p l e R s m args below meth c cells slots Q A D cA ad hE H locs ls hP hD hS hl
  exact lv_lmul  hE.1 hE.2.1 h (k _ _ _ _ _ _ _ _ _ _ _ _ _ _ _ _ _ hE H locs ls hP hD hS hl)
theorem ev_land {x y : Int64} (h : decode μ.2.1 pc = .ok (.land, 1)) (k : Ev N d μ X (pc + 1) L (.long (x &&& y) :: S) M P) : Ev N d μ X pc L (.long y :: .long x :: S) M P := by
  intro p l e R s m args below meth c cells slots Q A D cA ad hE H locs ls hP hD hS hl
  exact lv_land  hE.1 hE.2.1 h (k _ _ _ _ _ _ _ _ _ _ _ _ _ _ _ _ _ hE H locs ls hP hD hS hl)
theorem ev_lor {x y : Int64} (h : decode μ.2.1 pc = .ok (.lor, 1)) (k : Ev N d μ X (pc + 1) L (.long (x ||| y) :: S) M P) : Ev N d μ X pc L (.long y :: .long x :: S) M P := by
  intro p l e R s m args below meth c cells slots Q A D cA ad hE H locs ls hP hD hS hl
  exact lv_lor  hE.1 hE.2.1 h (k _ _ _ _ _ _ _ _ _ _ _ _ _ _ _ _ _ hE H locs ls hP hD hS hl)
theorem ev_lrem {x y : Int64} (h : decode μ.2.1 pc = .ok (.lrem, 1)) (hv : ¬ y = 0) (k : Ev N d μ X (pc + 1) L (.long (x - x / y * y) :: S) M P) : Ev N d μ X pc L (.long y :: .long x :: S) M P := by
  intro p l e R s m args below meth c cells slots Q A D cA ad hE H locs ls hP hD hS hl
  exact lv_lrem  hE.1 hE.2.1 h hv (k _ _ _ _ _ _ _ _ _ _ _ _ _ _ _ _ _ hE H locs ls hP hD hS hl)
theorem ev_iushr {x y v : Int32} (h : decode μ.2.1 pc = .ok (.iushr, 1)) (hv : (x.toUInt32 >>> (y.toUInt32 &&& Int32.toUInt32 31)).toInt32 = v) (k : Ev N d μ X (pc + 1) L (.int v :: S) M P) : Ev N d μ X pc L (.int y :: .int x :: S) M P := by
  intro p l e R s m args below meth c cells slots Q A D cA ad hE H locs ls hP hD hS hl
  exact lv_iushr  hE.1 hE.2.1 h hv (k _ _ _ _ _ _ _ _ _ _ _ _ _ _ _ _ _ hE H locs ls hP hD hS hl)
theorem ev_lushr {x v : Int64} {y : Int32} (h : decode μ.2.1 pc = .ok (.lushr, 1)) (hv : (x.toUInt64 >>> (y.toInt64.toUInt64 &&& Int64.toUInt64 63)).toInt64 = v) (k : Ev N d μ X (pc + 1) L (.long v :: S) M P) : Ev N d μ X pc L (.int y :: .long x :: S) M P := by
  intro p l e R s m args below meth c cells slots Q A D cA ad hE H locs ls hP hD hS hl
  exact lv_lushr  hE.1 hE.2.1 h hv (k _ _ _ _ _ _ _ _ _ _ _ _ _ _ _ _ _ hE H locs ls hP hD hS hl)
theorem ev_lshl {x v : Int64} {y : Int32} (h : decode μ.2.1 pc = .ok (.lshl, 1)) (hv : x <<< (y.toInt64 &&& 63) = v) (k : Ev N d μ X (pc + 1) L (.long v :: S) M P) : Ev N d μ X pc L (.int y :: .long x :: S) M P := by
  intro p l e R s m args below meth c cells slots Q A D cA ad hE H locs ls hP hD hS hl
  exact lv_lshl  hE.1 hE.2.1 h hv (k _ _ _ _ _ _ _ _ _ _ _ _ _ _ _ _ _ hE H locs ls hP hD hS hl)
theorem ev_i2l {x : Int32} {v : Int64} (h : decode μ.2.1 pc = .ok (.i2l, 1)) (hv : x.toInt64 = v) (k : Ev N d μ X (pc + 1) L (.long v :: S) M P) : Ev N d μ X pc L (.int x :: S) M P := by
  intro p l e R s m args below meth c cells slots Q A D cA ad hE H locs ls hP hD hS hl
  exact lv_i2l  hE.1 hE.2.1 h hv (k _ _ _ _ _ _ _ _ _ _ _ _ _ _ _ _ _ hE H locs ls hP hD hS hl)
theorem ev_l2i {x : Int64} {v : Int32} (h : decode μ.2.1 pc = .ok (.l2i, 1)) (hv : x.toInt32 = v) (k : Ev N d μ X (pc + 1) L (.int v :: S) M P) : Ev N d μ X pc L (.long x :: S) M P := by
  intro p l e R s m args below meth c cells slots Q A D cA ad hE H locs ls hP hD hS hl
  exact lv_l2i  hE.1 hE.2.1 h hv (k _ _ _ _ _ _ _ _ _ _ _ _ _ _ _ _ _ hE H locs ls hP hD hS hl)
theorem ev_lcmp {x y : Int64} (h : decode μ.2.1 pc = .ok (.lcmp, 1)) (k : Ev N d μ X (pc + 1) L (.int (lg_cmp x y) :: S) M P) : Ev N d μ X pc L (.long y :: .long x :: S) M P := by
  intro p l e R s m args below meth c cells slots Q A D cA ad hE H locs ls hP hD hS hl
  exact W.lcmp  hE.1 hE.2.1 h (k _ _ _ _ _ _ _ _ _ _ _ _ _ _ _ _ _ hE H locs ls hP hD hS hl)
theorem ev_dup {v : Value} (h : decode μ.2.1 pc = .ok (.dup, 1)) (hv : v.category = 1) (k : Ev N d μ X (pc + 1) L (v :: v :: S) M P) : Ev N d μ X pc L (v :: S) M P := by
  intro p l e R s m args below meth c cells slots Q A D cA ad hE H locs ls hP hD hS hl
  exact lv_dup hE.1 hE.2.1 h ((e_v_cat ad v).trans hv) (k _ _ _ _ _ _ _ _ _ _ _ _ _ _ _ _ _ hE H locs ls hP hD hS hl)
theorem ev_dup2 {v u : Value} (h : decode μ.2.1 pc = .ok (.dup2, 1)) (hv : v.category = 1) (hu : u.category = 1) (k : Ev N d μ X (pc + 1) L (v :: u :: v :: u :: S) M P) : Ev N d μ X pc L (v :: u :: S) M P := by
  intro p l e R s m args below meth c cells slots Q A D cA ad hE H locs ls hP hD hS hl
  exact lv_dup2_11 hE.1 hE.2.1 h ((e_v_cat ad v).trans hv) ((e_v_cat ad u).trans hu) (k _ _ _ _ _ _ _ _ _ _ _ _ _ _ _ _ _ hE H locs ls hP hD hS hl)
theorem ev_iload_n {kk : Fin 4} {i : Nat} {x : Int32} (h : decode μ.2.1 pc = .ok (.iload_n kk, 1)) (hi : (kk : Nat) = i) (hL : L[i]? = some (.int x)) (k : Ev N d μ X (pc + 1) L (.int x :: S) M P) : Ev N d μ X pc L S M P := by
  intro p l e R s m args below meth c cells slots Q A D cA ad hE H locs ls hP hD hS hl
  exact lv_iload_n hE.1 hE.2.1 h hi (hl.2.2 i _ hL (fun z => by cases z)) (k _ _ _ _ _ _ _ _ _ _ _ _ _ _ _ _ _ hE H locs ls hP hD hS hl)
theorem ev_iload {i : Nat} {x : Int32} (h : decode μ.2.1 pc = .ok (.iload i, 2)) (hL : L[i]? = some (.int x)) (k : Ev N d μ X (pc + 2) L (.int x :: S) M P) : Ev N d μ X pc L S M P := by
  intro p l e R s m args below meth c cells slots Q A D cA ad hE H locs ls hP hD hS hl
  exact lv_iload hE.1 hE.2.1 h (hl.2.2 i _ hL (fun z => by cases z)) (k _ _ _ _ _ _ _ _ _ _ _ _ _ _ _ _ _ hE H locs ls hP hD hS hl)
theorem ev_istore_n {kk : Fin 4} {i : Nat} {x : Int32} (h : decode μ.2.1 pc = .ok (.istore_n kk, 1)) (hi : (kk : Nat) = i) (hn : i < μ.2.2.1) (ho : e_okS L i = true) (k : Ev N d μ X (pc + 1) (L.set i (.int x)) S M P) : Ev N d μ X pc L (.int x :: S) M P := by
  intro p l e R s m args below meth c cells slots Q A D cA ad hE H locs ls hP hD hS hl
  exact lv_istore_n hE.1 hE.2.1 h hi hl.lv hn rfl (fun ls1 hl1 => k _ _ _ _ _ _ _ _ _ _ _ _ _ _ _ _ _ hE H locs ls1 hP hD hS (e_R_st1 (v := .int x) hl1 ho))
theorem ev_istore {i : Nat} {x : Int32} (h : decode μ.2.1 pc = .ok (.istore i, 2)) (hn : i < μ.2.2.1) (ho : e_okS L i = true) (k : Ev N d μ X (pc + 2) (L.set i (.int x)) S M P) : Ev N d μ X pc L (.int x :: S) M P := by
  intro p l e R s m args below meth c cells slots Q A D cA ad hE H locs ls hP hD hS hl
  exact lv_istore hE.1 hE.2.1 h hl.lv hn rfl (fun ls1 hl1 => k _ _ _ _ _ _ _ _ _ _ _ _ _ _ _ _ _ hE H locs ls1 hP hD hS (e_R_st1 (v := .int x) hl1 ho))
theorem ev_lload_n {kk : Fin 4} {i : Nat} {x : Int64} (h : decode μ.2.1 pc = .ok (.lload_n kk, 1)) (hi : (kk : Nat) = i) (hL : L[i]? = some (.long x)) (k : Ev N d μ X (pc + 1) L (.long x :: S) M P) : Ev N d μ X pc L S M P := by
  intro p l e R s m args below meth c cells slots Q A D cA ad hE H locs ls hP hD hS hl
  exact lv_lload_n hE.1 hE.2.1 h hi (hl.2.2 i _ hL (fun z => by cases z)) (k _ _ _ _ _ _ _ _ _ _ _ _ _ _ _ _ _ hE H locs ls hP hD hS hl)
theorem ev_lload {i : Nat} {x : Int64} (h : decode μ.2.1 pc = .ok (.lload i, 2)) (hL : L[i]? = some (.long x)) (k : Ev N d μ X (pc + 2) L (.long x :: S) M P) : Ev N d μ X pc L S M P := by
  intro p l e R s m args below meth c cells slots Q A D cA ad hE H locs ls hP hD hS hl
  exact lv_lload hE.1 hE.2.1 h (hl.2.2 i _ hL (fun z => by cases z)) (k _ _ _ _ _ _ _ _ _ _ _ _ _ _ _ _ _ hE H locs ls hP hD hS hl)
theorem ev_lstore_n {kk : Fin 4} {i : Nat} {x : Int64} (h : decode μ.2.1 pc = .ok (.lstore_n kk, 1)) (hi : (kk : Nat) = i) (hn : i + 1 < μ.2.2.1) (ho : e_okS L i = true) (k : Ev N d μ X (pc + 1) ((L.set i (.long x)).set (i + 1) .null) S M P) : Ev N d μ X pc L (.long x :: S) M P := by
  intro p l e R s m args below meth c cells slots Q A D cA ad hE H locs ls hP hD hS hl
  exact lv_lstore_n hE.1 hE.2.1 h hi hl.lv hn rfl (fun ls1 hl1 => k _ _ _ _ _ _ _ _ _ _ _ _ _ _ _ _ _ hE H locs ls1 hP hD hS (e_R_st2 (v := .long x) hl1 ho))
theorem ev_lstore {i : Nat} {x : Int64} (h : decode μ.2.1 pc = .ok (.lstore i, 2)) (hn : i + 1 < μ.2.2.1) (ho : e_okS L i = true) (k : Ev N d μ X (pc + 2) ((L.set i (.long x)).set (i + 1) .null) S M P) : Ev N d μ X pc L (.long x :: S) M P := by
  intro p l e R s m args below meth c cells slots Q A D cA ad hE H locs ls hP hD hS hl
  exact lv_lstore hE.1 hE.2.1 h hl.lv hn rfl (fun ls1 hl1 => k _ _ _ _ _ _ _ _ _ _ _ _ _ _ _ _ _ hE H locs ls1 hP hD hS (e_R_st2 (v := .long x) hl1 ho))
theorem ev_aload_n {kk : Fin 4} {i : Nat} {x : Nat} (h : decode μ.2.1 pc = .ok (.aload_n kk, 1)) (hi : (kk : Nat) = i) (hL : L[i]? = some (.ref x)) (k : Ev N d μ X (pc + 1) L (.ref x :: S) M P) : Ev N d μ X pc L S M P := by
  intro p l e R s m args below meth c cells slots Q A D cA ad hE H locs ls hP hD hS hl
  exact lv_aload_n hE.1 hE.2.1 h hi (hl.2.2 i _ hL (fun z => by cases z)) (k _ _ _ _ _ _ _ _ _ _ _ _ _ _ _ _ _ hE H locs ls hP hD hS hl)
theorem ev_aload {i : Nat} {x : Nat} (h : decode μ.2.1 pc = .ok (.aload i, 2)) (hL : L[i]? = some (.ref x)) (k : Ev N d μ X (pc + 2) L (.ref x :: S) M P) : Ev N d μ X pc L S M P := by
  intro p l e R s m args below meth c cells slots Q A D cA ad hE H locs ls hP hD hS hl
  exact lv_aload hE.1 hE.2.1 h (hl.2.2 i _ hL (fun z => by cases z)) (k _ _ _ _ _ _ _ _ _ _ _ _ _ _ _ _ _ hE H locs ls hP hD hS hl)
theorem ev_astore_n {kk : Fin 4} {i : Nat} {x : Nat} (h : decode μ.2.1 pc = .ok (.astore_n kk, 1)) (hi : (kk : Nat) = i) (hn : i < μ.2.2.1) (ho : e_okS L i = true) (k : Ev N d μ X (pc + 1) (L.set i (.ref x)) S M P) : Ev N d μ X pc L (.ref x :: S) M P := by
  intro p l e R s m args below meth c cells slots Q A D cA ad hE H locs ls hP hD hS hl
  exact lv_astore_n hE.1 hE.2.1 h hi hl.lv hn rfl (fun ls1 hl1 => k _ _ _ _ _ _ _ _ _ _ _ _ _ _ _ _ _ hE H locs ls1 hP hD hS (e_R_st1 (v := .ref x) hl1 ho))
theorem ev_astore {i : Nat} {x : Nat} (h : decode μ.2.1 pc = .ok (.astore i, 2)) (hn : i < μ.2.2.1) (ho : e_okS L i = true) (k : Ev N d μ X (pc + 2) (L.set i (.ref x)) S M P) : Ev N d μ X pc L (.ref x :: S) M P := by
  intro p l e R s m args below meth c cells slots Q A D cA ad hE H locs ls hP hD hS hl
  exact lv_astore hE.1 hE.2.1 h hl.lv hn rfl (fun ls1 hl1 => k _ _ _ _ _ _ _ _ _ _ _ _ _ _ _ _ _ hE H locs ls1 hP hD hS (e_R_st1 (v := .ref x) hl1 ho))
theorem ev_iinc {i : Nat} {n : Int} {x v : Int32} (h : decode μ.2.1 pc = .ok (.iinc i n, 3)) (hL : L[i]? = some (.int x)) (hv : x + Int32.ofInt n = v) (hn : i < μ.2.2.1) (ho : e_okS L i = true) (k : Ev N d μ X (pc + 3) (L.set i (.int v)) S M P) : Ev N d μ X pc L S M P := by
  intro p l e R s m args below meth c cells slots Q A D cA ad hE H locs ls hP hD hS hl
  obtain ⟨q, hq⟩ := List.getElem?_of_mem (e_l_in (ad := ad) hL (fun z => by cases z))
  exact lv_iinc hE.1 hE.2.1 h hl.lv hq hv hn rfl (fun ls1 hl1 => k _ _ _ _ _ _ _ _ _ _ _ _ _ _ _ _ _ hE H locs ls1 hP hD hS (e_R_st1 (v := .int v) hl1 ho))
theorem ev_if_eq {x : Int32} {off : Int} (tgt : Nat) (h : decode μ.2.1 pc = .ok (.ifCond .eq off, 3)) (ht : (pc : Int) + off = (tgt : Int)) (kt : x = 0 → Ev N d μ X tgt L S M P) (kf : ¬ x = 0 → Ev N d μ X (pc + 3) L S M P) : Ev N d μ X pc L (.int x :: S) M P := by
  intro p l e R s m args below meth c cells slots Q A D cA ad hE H locs ls hP hD hS hl
  exact lv_if_eq hE.1 hE.2.1 h ht (fun z => kt z _ _ _ _ _ _ _ _ _ _ _ _ _ _ _ _ _ hE H locs ls hP hD hS hl) (fun z => kf z _ _ _ _ _ _ _ _ _ _ _ _ _ _ _ _ _ hE H locs ls hP hD hS hl)
theorem ev_icmp_eq {x y : Int32} {off : Int} (tgt : Nat) (h : decode μ.2.1 pc = .ok (.if_icmp .eq off, 3)) (ht : (pc : Int) + off = (tgt : Int)) (kt : x = y → Ev N d μ X tgt L S M P) (kf : ¬ x = y → Ev N d μ X (pc + 3) L S M P) : Ev N d μ X pc L (.int y :: .int x :: S) M P := by
  intro p l e R s m args below meth c cells slots Q A D cA ad hE H locs ls hP hD hS hl
  exact lv_icmp_eq hE.1 hE.2.1 h ht (fun z => kt z _ _ _ _ _ _ _ _ _ _ _ _ _ _ _ _ _ hE H locs ls hP hD hS hl) (fun z => kf z _ _ _ _ _ _ _ _ _ _ _ _ _ _ _ _ _ hE H locs ls hP hD hS hl)
theorem ev_if_ne {x : Int32} {off : Int} (tgt : Nat) (h : decode μ.2.1 pc = .ok (.ifCond .ne off, 3)) (ht : (pc : Int) + off = (tgt : Int)) (kt : ¬ x = 0 → Ev N d μ X tgt L S M P) (kf : x = 0 → Ev N d μ X (pc + 3) L S M P) : Ev N d μ X pc L (.int x :: S) M P := by
  intro p l e R s m args below meth c cells slots Q A D cA ad hE H locs ls hP hD hS hl
  exact lv_if_ne hE.1 hE.2.1 h ht (fun z => kt z _ _ _ _ _ _ _ _ _ _ _ _ _ _ _ _ _ hE H locs ls hP hD hS hl) (fun z => kf z _ _ _ _ _ _ _ _ _ _ _ _ _ _ _ _ _ hE H locs ls hP hD hS hl)
theorem ev_icmp_ne {x y : Int32} {off : Int} (tgt : Nat) (h : decode μ.2.1 pc = .ok (.if_icmp .ne off, 3)) (ht : (pc : Int) + off = (tgt : Int)) (kt : ¬ x = y → Ev N d μ X tgt L S M P) (kf : x = y → Ev N d μ X (pc + 3) L S M P) : Ev N d μ X pc L (.int y :: .int x :: S) M P := by
  intro p l e R s m args below meth c cells slots Q A D cA ad hE H locs ls hP hD hS hl
  exact lv_icmp_ne hE.1 hE.2.1 h ht (fun z => kt z _ _ _ _ _ _ _ _ _ _ _ _ _ _ _ _ _ hE H locs ls hP hD hS hl) (fun z => kf z _ _ _ _ _ _ _ _ _ _ _ _ _ _ _ _ _ hE H locs ls hP hD hS hl)
theorem ev_if_lt {x : Int32} {off : Int} (tgt : Nat) (h : decode μ.2.1 pc = .ok (.ifCond .lt off, 3)) (ht : (pc : Int) + off = (tgt : Int)) (kt : x < 0 → Ev N d μ X tgt L S M P) (kf : ¬ x < 0 → Ev N d μ X (pc + 3) L S M P) : Ev N d μ X pc L (.int x :: S) M P := by
  intro p l e R s m args below meth c cells slots Q A D cA ad hE H locs ls hP hD hS hl
  exact lv_if_lt hE.1 hE.2.1 h ht (fun z => kt z _ _ _ _ _ _ _ _ _ _ _ _ _ _ _ _ _ hE H locs ls hP hD hS hl) (fun z => kf z _ _ _ _ _ _ _ _ _ _ _ _ _ _ _ _ _ hE H locs ls hP hD hS hl)
theorem ev_icmp_lt {x y : Int32} {off : Int} (tgt : Nat) (h : decode μ.2.1 pc = .ok (.if_icmp .lt off, 3)) (ht : (pc : Int) + off = (tgt : Int)) (kt : x < y → Ev N d μ X tgt L S M P) (kf : ¬ x < y → Ev N d μ X (pc + 3) L S M P) : Ev N d μ X pc L (.int y :: .int x :: S) M P := by
  intro p l e R s m args below meth c cells slots Q A D cA ad hE H locs ls hP hD hS hl
  exact lv_icmp_lt hE.1 hE.2.1 h ht (fun z => kt z _ _ _ _ _ _ _ _ _ _ _ _ _ _ _ _ _ hE H locs ls hP hD hS hl) (fun z => kf z _ _ _ _ _ _ _ _ _ _ _ _ _ _ _ _ _ hE H locs ls hP hD hS hl)
theorem ev_if_ge {x : Int32} {off : Int} (tgt : Nat) (h : decode μ.2.1 pc = .ok (.ifCond .ge off, 3)) (ht : (pc : Int) + off = (tgt : Int)) (kt : 0 ≤ x → Ev N d μ X tgt L S M P) (kf : ¬ 0 ≤ x → Ev N d μ X (pc + 3) L S M P) : Ev N d μ X pc L (.int x :: S) M P := by
  intro p l e R s m args below meth c cells slots Q A D cA ad hE H locs ls hP hD hS hl
  exact lv_if_ge hE.1 hE.2.1 h ht (fun z => kt z _ _ _ _ _ _ _ _ _ _ _ _ _ _ _ _ _ hE H locs ls hP hD hS hl) (fun z => kf z _ _ _ _ _ _ _ _ _ _ _ _ _ _ _ _ _ hE H locs ls hP hD hS hl)
theorem ev_icmp_ge {x y : Int32} {off : Int} (tgt : Nat) (h : decode μ.2.1 pc = .ok (.if_icmp .ge off, 3)) (ht : (pc : Int) + off = (tgt : Int)) (kt : y ≤ x → Ev N d μ X tgt L S M P) (kf : ¬ y ≤ x → Ev N d μ X (pc + 3) L S M P) : Ev N d μ X pc L (.int y :: .int x :: S) M P := by
  intro p l e R s m args below meth c cells slots Q A D cA ad hE H locs ls hP hD hS hl
  exact lv_icmp_ge hE.1 hE.2.1 h ht (fun z => kt z _ _ _ _ _ _ _ _ _ _ _ _ _ _ _ _ _ hE H locs ls hP hD hS hl) (fun z => kf z _ _ _ _ _ _ _ _ _ _ _ _ _ _ _ _ _ hE H locs ls hP hD hS hl)
theorem ev_if_gt {x : Int32} {off : Int} (tgt : Nat) (h : decode μ.2.1 pc = .ok (.ifCond .gt off, 3)) (ht : (pc : Int) + off = (tgt : Int)) (kt : 0 < x → Ev N d μ X tgt L S M P) (kf : ¬ 0 < x → Ev N d μ X (pc + 3) L S M P) : Ev N d μ X pc L (.int x :: S) M P := by
  intro p l e R s m args below meth c cells slots Q A D cA ad hE H locs ls hP hD hS hl
  exact lv_if_gt hE.1 hE.2.1 h ht (fun z => kt z _ _ _ _ _ _ _ _ _ _ _ _ _ _ _ _ _ hE H locs ls hP hD hS hl) (fun z => kf z _ _ _ _ _ _ _ _ _ _ _ _ _ _ _ _ _ hE H locs ls hP hD hS hl)
theorem ev_icmp_gt {x y : Int32} {off : Int} (tgt : Nat) (h : decode μ.2.1 pc = .ok (.if_icmp .gt off, 3)) (ht : (pc : Int) + off = (tgt : Int)) (kt : y < x → Ev N d μ X tgt L S M P) (kf : ¬ y < x → Ev N d μ X (pc + 3) L S M P) : Ev N d μ X pc L (.int y :: .int x :: S) M P := by
  intro p l e R s m args below meth c cells slots Q A D cA ad hE H locs ls hP hD hS hl
  exact lv_icmp_gt hE.1 hE.2.1 h ht (fun z => kt z _ _ _ _ _ _ _ _ _ _ _ _ _ _ _ _ _ hE H locs ls hP hD hS hl) (fun z => kf z _ _ _ _ _ _ _ _ _ _ _ _ _ _ _ _ _ hE H locs ls hP hD hS hl)
theorem ev_if_le {x : Int32} {off : Int} (tgt : Nat) (h : decode μ.2.1 pc = .ok (.ifCond .le off, 3)) (ht : (pc : Int) + off = (tgt : Int)) (kt : x ≤ 0 → Ev N d μ X tgt L S M P) (kf : ¬ x ≤ 0 → Ev N d μ X (pc + 3) L S M P) : Ev N d μ X pc L (.int x :: S) M P := by
  intro p l e R s m args below meth c cells slots Q A D cA ad hE H locs ls hP hD hS hl
  exact lv_if_le hE.1 hE.2.1 h ht (fun z => kt z _ _ _ _ _ _ _ _ _ _ _ _ _ _ _ _ _ hE H locs ls hP hD hS hl) (fun z => kf z _ _ _ _ _ _ _ _ _ _ _ _ _ _ _ _ _ hE H locs ls hP hD hS hl)
theorem ev_icmp_le {x y : Int32} {off : Int} (tgt : Nat) (h : decode μ.2.1 pc = .ok (.if_icmp .le off, 3)) (ht : (pc : Int) + off = (tgt : Int)) (kt : x ≤ y → Ev N d μ X tgt L S M P) (kf : ¬ x ≤ y → Ev N d μ X (pc + 3) L S M P) : Ev N d μ X pc L (.int y :: .int x :: S) M P := by
  intro p l e R s m args below meth c cells slots Q A D cA ad hE H locs ls hP hD hS hl
  exact lv_icmp_le hE.1 hE.2.1 h ht (fun z => kt z _ _ _ _ _ _ _ _ _ _ _ _ _ _ _ _ _ hE H locs ls hP hD hS hl) (fun z => kf z _ _ _ _ _ _ _ _ _ _ _ _ _ _ _ _ _ hE H locs ls hP hD hS hl)
theorem ev_goto {off : Int} (tgt : Nat) (h : decode μ.2.1 pc = .ok (.goto off, 3)) (ht : (pc : Int) + off = (tgt : Int)) (k : Ev N d μ X tgt L S M P) : Ev N d μ X pc L S M P := by
  intro p l e R s m args below meth c cells slots Q A D cA ad hE H locs ls hP hD hS hl
  exact lv_goto hE.1 hE.2.1 h ht (k _ _ _ _ _ _ _ _ _ _ _ _ _ _ _ _ _ hE H locs ls hP hD hS hl)
theorem ev_ifnull {off : Int} {x : Nat} (h : decode μ.2.1 pc = .ok (.ifnull off, 3)) (k : Ev N d μ X (pc + 3) L S M P) : Ev N d μ X pc L (.ref x :: S) M P := by
  intro p l e R s m args below meth c cells slots Q A D cA ad hE H locs ls hP hD hS hl
  exact lv_ifnull hE.1 hE.2.1 h (k _ _ _ _ _ _ _ _ _ _ _ _ _ _ _ _ _ hE H locs ls hP hD hS hl)
theorem ev_ifnonnull {off : Int} {x : Nat} (tgt : Nat) (h : decode μ.2.1 pc = .ok (.ifnonnull off, 3)) (ht : (pc : Int) + off = (tgt : Int)) (k : Ev N d μ X tgt L S M P) : Ev N d μ X pc L (.ref x :: S) M P := by
  intro p l e R s m args below meth c cells slots Q A D cA ad hE H locs ls hP hD hS hl
  exact lv_ifnonnull hE.1 hE.2.1 h ht (k _ _ _ _ _ _ _ _ _ _ _ _ _ _ _ _ _ hE H locs ls hP hD hS hl)
theorem ev_tsw_in {dflt lo hi : Int} {offs : Array Int} {len : Nat} {x : Int32} {off : Int} (tgt : Nat) (h : decode μ.2.1 pc = .ok (.tableswitch dflt lo hi offs, len)) (h1 : ¬ x.toInt < lo) (h2 : ¬ hi < x.toInt) (ho : offs[(x.toInt - lo).toNat]? = some off) (ht : (pc : Int) + off = (tgt : Int)) (k : Ev N d μ X tgt L S M P) : Ev N d μ X pc L (.int x :: S) M P := by
  intro p l e R s m args below meth c cells slots Q A D cA ad hE H locs ls hP hD hS hl
  exact lv_tableIn hE.1 hE.2.1 h h1 h2 ho ht (k _ _ _ _ _ _ _ _ _ _ _ _ _ _ _ _ _ hE H locs ls hP hD hS hl)
theorem ev_tsw_out {dflt lo hi : Int} {offs : Array Int} {len : Nat} {x : Int32} (tgt : Nat) (h : decode μ.2.1 pc = .ok (.tableswitch dflt lo hi offs, len)) (h1 : x.toInt < lo ∨ hi < x.toInt) (ht : (pc : Int) + dflt = (tgt : Int)) (k : Ev N d μ X tgt L S M P) : Ev N d μ X pc L (.int x :: S) M P := by
  intro p l e R s m args below meth c cells slots Q A D cA ad hE H locs ls hP hD hS hl
  exact lv_tableOut hE.1 hE.2.1 h h1 ht (k _ _ _ _ _ _ _ _ _ _ _ _ _ _ _ _ _ hE H locs ls hP hD hS hl)
theorem ev_lsw {dflt : Int} {ps : Array (Int × Int)} {len : Nat} {x : Int32} {off : Int} (tgt : Nat) (h : decode μ.2.1 pc = .ok (.lookupswitch dflt ps, len)) (hp : (ps.toList.zip (ps.toList.drop 1)).all (fun (a, next) => a.1 < next.1) = true) (ho : Op.lookupswitch.offset ps.toList dflt x.toInt = off) (ht : (pc : Int) + off = (tgt : Int)) (k : Ev N d μ X tgt L S M P) : Ev N d μ X pc L (.int x :: S) M P := by
  intro p l e R s m args below meth c cells slots Q A D cA ad hE H locs ls hP hD hS hl
  exact lv_lookup hE.1 hE.2.1 h hp ho ht (k _ _ _ _ _ _ _ _ _ _ _ _ _ _ _ _ _ hE H locs ls hP hD hS hl)
theorem ev_ldc_w {idx : Nat} {v : Int32} (h : decode μ.2.1 pc = .ok (.ldc_w idx, 3)) (hw : Cond.constant μ.1.cls idx v ∈ e_big) (k : Ev N d μ X (pc + 3) L (.int v :: S) M P) : Ev N d μ X pc L S M P := by
  intro p l e R s m args below meth c cells slots Q A D cA ad hE H locs ls hP hD hS hl
  exact lv_ldcw hE.1 hE.2.1 hE.2.2.2.1 (hE.2.2.2.2.1 _ hw) h (k _ _ _ _ _ _ _ _ _ _ _ _ _ _ _ _ _ hE H locs ls hP hD hS hl)
theorem ev_ldc2_w {idx : Nat} {v : Int64} (h : decode μ.2.1 pc = .ok (.ldc2_w idx, 3)) (hw : Cond.constantLong μ.1.cls idx v ∈ e_big) (k : Ev N d μ X (pc + 3) L (.long v :: S) M P) : Ev N d μ X pc L S M P := by
  intro p l e R s m args below meth c cells slots Q A D cA ad hE H locs ls hP hD hS hl
  exact lv_ldc2 hE.1 hE.2.1 hE.2.2.2.1 (hE.2.2.2.2.1 _ hw) h (k _ _ _ _ _ _ _ _ _ _ _ _ _ _ _ _ _ hE H locs ls hP hD hS hl)
theorem ev_iaload {q n : Nat} {f : Nat → Int32} {i : Int32} (h : decode μ.2.1 pc = .ok (.iaload, 1)) (hk : q < N) (hM : M q = .inl (0, n, .inl f)) (hi : vp_in i n) (k : Ev N d μ X (pc + 1) L (.int (f i.toNatClampNeg) :: S) M P) : Ev N d μ X pc L (.int i :: .ref q :: S) M P := by
  intro p l e R s m args below meth c cells slots Q A D cA ad hE H locs ls hP hD hS hl
  obtain ⟨hx, hb, hml, hown, hts, hN, hK, hA, hR, hX, hRet⟩ := id hE
  exact va_iald hx hb hK hP q 0 (e_w_atc hk hM) rfl hi h (k _ _ _ _ _ _ _ _ _ _ _ _ _ _ _ _ _ hE H locs ls hP hD hS hl)
theorem ev_ialoadN {q n j : Nat} {f : Nat → Int32} (h : decode μ.2.1 pc = .ok (.iaload, 1)) (hk : q < N) (hM : M q = .inl (0, n, .inl f)) (hj : j < n) (hn : n < 2 ^ 31) (k : Ev N d μ X (pc + 1) L (.int (f j) :: S) M P) : Ev N d μ X pc L (.int (nI j) :: .ref q :: S) M P := by
  refine ev_iaload h hk hM (vp_in_nI hj hn) ?_
  rw [nI_clamp (Nat.lt_trans hj hn)]
  exact k
theorem ev_iastore {q n : Nat} {f : Nat → Int32} {i x : Int32} (h : decode μ.2.1 pc = .ok (.iastore, 1)) (hk : q < N) (hM : M q = .inl (0, n, .inl f)) (hi : vp_in i n) (k : Ev N d μ X (pc + 1) L S (mu M q (.inl (0, n, .inl (upd f i.toNatClampNeg (x))))) P) : Ev N d μ X pc L (.int x :: .int i :: .ref q :: S) M P := by
  intro p l e R s m args below meth c cells slots Q A D cA ad hE H locs ls hP hD hS hl
  obtain ⟨hx, hb, hml, hown, hts, hN, hK, hA, hR, hX, hRet⟩ := id hE
  have e0 := e_w_set (N := N) (ad := ad) (cA := cA) (M := M) (k := q) (.inl (0, n, .inl (upd f i.toNatClampNeg (x))))
  exact va_iast hx hb hK hP hD hS q 0 (e_w_atc hk hM) rfl hi h (fun H1 locs1 hP1 hD1 hS1 => k _ _ _ _ _ _ _ _ _ _ _ _ _ _ _ _ _ hE H1 locs1 ls (e0 ▸ hP1) (e0 ▸ hD1) hS1 hl)
theorem ev_iastoreN {q n j : Nat} {f : Nat → Int32} {x : Int32} (h : decode μ.2.1 pc = .ok (.iastore, 1)) (hk : q < N) (hM : M q = .inl (0, n, .inl f)) (hj : j < n) (hn : n < 2 ^ 31) (k : Ev N d μ X (pc + 1) L S (mu M q (.inl (0, n, .inl (upd f j (x))))) P) : Ev N d μ X pc L (.int x :: .int (nI j) :: .ref q :: S) M P := by
  refine ev_iastore h hk hM (vp_in_nI hj hn) ?_
  rw [nI_clamp (Nat.lt_trans hj hn)]
  exact k
theorem ev_baload {q n : Nat} {f : Nat → Int32} {i : Int32} (h : decode μ.2.1 pc = .ok (.baload, 1)) (hk : q < N) (hM : M q = .inl (1, n, .inl f)) (hi : vp_in i n) (k : Ev N d μ X (pc + 1) L (.int (f i.toNatClampNeg) :: S) M P) : Ev N d μ X pc L (.int i :: .ref q :: S) M P := by
  intro p l e R s m args below meth c cells slots Q A D cA ad hE H locs ls hP hD hS hl
  obtain ⟨hx, hb, hml, hown, hts, hN, hK, hA, hR, hX, hRet⟩ := id hE
  exact va_zald hx hb hK hP q 1 (e_w_atc hk hM) rfl hi h (k _ _ _ _ _ _ _ _ _ _ _ _ _ _ _ _ _ hE H locs ls hP hD hS hl)
theorem ev_baloadN {q n j : Nat} {f : Nat → Int32} (h : decode μ.2.1 pc = .ok (.baload, 1)) (hk : q < N) (hM : M q = .inl (1, n, .inl f)) (hj : j < n) (hn : n < 2 ^ 31) (k : Ev N d μ X (pc + 1) L (.int (f j) :: S) M P) : Ev N d μ X pc L (.int (nI j) :: .ref q :: S) M P := by
  refine ev_baload h hk hM (vp_in_nI hj hn) ?_
  rw [nI_clamp (Nat.lt_trans hj hn)]
  exact k
theorem ev_bastore {q n : Nat} {f : Nat → Int32} {i x : Int32} (h : decode μ.2.1 pc = .ok (.bastore, 1)) (hk : q < N) (hM : M q = .inl (1, n, .inl f)) (hi : vp_in i n) (k : Ev N d μ X (pc + 1) L S (mu M q (.inl (1, n, .inl (upd f i.toNatClampNeg (vp_nar .boolean x))))) P) : Ev N d μ X pc L (.int x :: .int i :: .ref q :: S) M P := by
  intro p l e R s m args below meth c cells slots Q A D cA ad hE H locs ls hP hD hS hl
  obtain ⟨hx, hb, hml, hown, hts, hN, hK, hA, hR, hX, hRet⟩ := id hE
  have e0 := e_w_set (N := N) (ad := ad) (cA := cA) (M := M) (k := q) (.inl (1, n, .inl (upd f i.toNatClampNeg (vp_nar .boolean x))))
  exact va_zast hx hb hK hP hD hS q 1 (e_w_atc hk hM) rfl hi h (fun H1 locs1 hP1 hD1 hS1 => k _ _ _ _ _ _ _ _ _ _ _ _ _ _ _ _ _ hE H1 locs1 ls (e0 ▸ hP1) (e0 ▸ hD1) hS1 hl)
theorem ev_bastoreN {q n j : Nat} {f : Nat → Int32} {x : Int32} (h : decode μ.2.1 pc = .ok (.bastore, 1)) (hk : q < N) (hM : M q = .inl (1, n, .inl f)) (hj : j < n) (hn : n < 2 ^ 31) (k : Ev N d μ X (pc + 1) L S (mu M q (.inl (1, n, .inl (upd f j (vp_nar .boolean x))))) P) : Ev N d μ X pc L (.int x :: .int (nI j) :: .ref q :: S) M P := by
  refine ev_bastore h hk hM (vp_in_nI hj hn) ?_
  rw [nI_clamp (Nat.lt_trans hj hn)]
  exact k
theorem ev_aaload {q n r : Nat} {g : Nat → Option Nat} {i : Int32} (h : decode μ.2.1 pc = .ok (.aaload, 1)) (hk : q < N) (hM : M q = .inl (2, n, .inr g)) (hi : vp_in i n) (hg : g i.toNatClampNeg = some r) (k : Ev N d μ X (pc + 1) L (.ref r :: S) M P) : Ev N d μ X pc L (.int i :: .ref q :: S) M P := by
  intro p l e R s m args below meth c cells slots Q A D cA ad hE H locs ls hP hD hS hl
  obtain ⟨hx, hb, hml, hown, hts, hN, hK, hA, hR, hX, hRet⟩ := id hE
  have e0 : va_rf ((g i.toNatClampNeg).map ad) = .ref (ad r) := by rw [hg]; rfl
  exact va_aldq hx hb hK hP q 2 (C := "BlottedFirst$Sheet") (e_w_atc hk hM) rfl hi h (by rw [e0]; exact (k _ _ _ _ _ _ _ _ _ _ _ _ _ _ _ _ _ hE H locs ls hP hD hS hl))
theorem ev_arraylength {q n : Nat} {f : Nat → Int32} {v : Int32} (h : decode μ.2.1 pc = .ok (.arraylength, 1)) (hk : q < N) (hM : M q = .inl (0, n, .inl f)) (hv : Int32.ofNat n = v) (k : Ev N d μ X (pc + 1) L (.int v :: S) M P) : Ev N d μ X pc L (.ref q :: S) M P := by
  intro p l e R s m args below meth c cells slots Q A D cA ad hE H locs ls hP hD hS hl
  obtain ⟨hx, hb, hml, hown, hts, hN, hK, hA, hR, hX, hRet⟩ := id hE
  exact va_alen hx hb hK hP q 0 (e_w_atc hk hM) (ty := .int) rfl hv h (k _ _ _ _ _ _ _ _ _ _ _ _ _ _ _ _ _ hE H locs ls hP hD hS hl)
theorem ev_sld {Ls : Nat} {xs : Nat → Int32} {i : Int32} (h : decode μ.2.1 pc = .ok (.iaload, 1)) (hX : X = some (Ls, xs)) (hi : vp_in i Ls) (k : Ev N d μ X (pc + 1) L (.int (xs i.toNatClampNeg) :: S) M P) : Ev N d μ X pc L (.int i :: .ref 1000 :: S) M P := by
  intro p l e R s m args below meth c cells slots Q A D cA ad hE H locs ls hP hD hS hl
  obtain ⟨hx, hb, hml, hown, hts, hN, hK, hA, hR, hX1, hRet⟩ := id hE
  obtain ⟨x1, x2, x3⟩ := hX1 _ _ hX
  exact va_sld hx hb x1 x2 x3 hS hi h (k _ _ _ _ _ _ _ _ _ _ _ _ _ _ _ _ _ hE H locs ls hP hD hS hl)
theorem ev_slen {Ls : Nat} {xs : Nat → Int32} (h : decode μ.2.1 pc = .ok (.arraylength, 1)) (hX : X = some (Ls, xs)) (k : Ev N d μ X (pc + 1) L (.int (Int32.ofNat Ls) :: S) M P) : Ev N d μ X pc L (.ref 1000 :: S) M P := by
  intro p l e R s m args below meth c cells slots Q A D cA ad hE H locs ls hP hD hS hl
  obtain ⟨hx, hb, hml, hown, hts, hN, hK, hA, hR, hX1, hRet⟩ := id hE
  obtain ⟨x1, x2, x3⟩ := hX1 _ _ hX
  exact va_slen hx hb x1 x2 x3 hS h (k _ _ _ _ _ _ _ _ _ _ _ _ _ _ _ _ _ hE H locs ls hP hD hS hl)
set_option maxRecDepth 20000 in
theorem inlX0 : ∀ w ∈ wsX00, w ∈ e_big := (show ∀ w ∈ ([Cond.laysFinal "BlottedFirst$Acts" "BlottedFirst$Acts" "before" "[LBlottedFirst$Sheet;", Cond.lays "BlottedFirst$Acts" "BlottedFirst$Acts" "first" "I", Cond.lays "BlottedFirst$Acts" "BlottedFirst$Acts" "count" "I"] : List Cond), w ∈ e_big from List.forall_mem_cons.mpr ⟨e_bg (e_in1 101 rfl) rfl, List.forall_mem_cons.mpr ⟨e_bg (e_in1 103 rfl) rfl, List.forall_mem_cons.mpr ⟨e_bg (e_in1 105 rfl) rfl, fun _ h => absurd h List.not_mem_nil⟩⟩⟩)
set_option maxRecDepth 20000 in
theorem inlX1 : ∀ w ∈ wsX10, w ∈ e_big := (show ∀ w ∈ ([Cond.laysFinal "BlottedFirst$Letters" "BlottedFirst$Letters" "place" "[I", Cond.laysFinal "BlottedFirst$Letters" "BlottedFirst$Letters" "hand" "[I", Cond.laysFinal "BlottedFirst$Letters" "BlottedFirst$Letters" "force" "[I", Cond.laysFinal "BlottedFirst$Letters" "BlottedFirst$Letters" "cells" "[I", Cond.lays "BlottedFirst$Letters" "BlottedFirst$Letters" "count" "I"] : List Cond), w ∈ e_big from List.forall_mem_cons.mpr ⟨e_bg (e_in1 47 rfl) rfl, List.forall_mem_cons.mpr ⟨e_bg (e_in1 49 rfl) rfl, List.forall_mem_cons.mpr ⟨e_bg (e_in1 51 rfl) rfl, List.forall_mem_cons.mpr ⟨e_bg (e_in1 53 rfl) rfl, List.forall_mem_cons.mpr ⟨e_bg (e_in1 55 rfl) rfl, fun _ h => absurd h List.not_mem_nil⟩⟩⟩⟩⟩)
set_option maxRecDepth 20000 in
theorem inlX2 : ∀ w ∈ wsX20, w ∈ e_big := (show ∀ w ∈ ([Cond.laysFinal "BlottedFirst$Over" "BlottedFirst$Over" "upper" "[I", Cond.laysFinal "BlottedFirst$Over" "BlottedFirst$Over" "lower" "[I", Cond.laysFinal "BlottedFirst$Over" "BlottedFirst$Over" "ways" "[I", Cond.lays "BlottedFirst$Over" "BlottedFirst$Over" "count" "I"] : List Cond), w ∈ e_big from List.forall_mem_cons.mpr ⟨e_bg (e_in1 119 rfl) rfl, List.forall_mem_cons.mpr ⟨e_bg (e_in1 121 rfl) rfl, List.forall_mem_cons.mpr ⟨e_bg (e_in1 123 rfl) rfl, List.forall_mem_cons.mpr ⟨e_bg (e_in1 125 rfl) rfl, fun _ h => absurd h List.not_mem_nil⟩⟩⟩⟩)
set_option maxRecDepth 20000 in
theorem inlX3 : ∀ w ∈ wsX30, w ∈ e_big := (show ∀ w ∈ ([Cond.laysFinal "BlottedFirst$Sheet" "BlottedFirst$Sheet" "ink" "[I", Cond.laysFinal "BlottedFirst$Sheet" "BlottedFirst$Sheet" "top" "[I", Cond.lays "BlottedFirst$Sheet" "BlottedFirst$Sheet" "date" "I"] : List Cond), w ∈ e_big from List.forall_mem_cons.mpr ⟨e_bg (e_in1 81 rfl) rfl, List.forall_mem_cons.mpr ⟨e_bg (e_in1 83 rfl) rfl, List.forall_mem_cons.mpr ⟨e_bg (e_in1 85 rfl) rfl, fun _ h => absurd h List.not_mem_nil⟩⟩⟩)
set_option maxRecDepth 20000 in
theorem inlX4 : ∀ w ∈ wsX40, w ∈ e_big := (show ∀ w ∈ ([Cond.laysFinal "BlottedFirst$Slots" "BlottedFirst$Slots" "kept" "[LBlottedFirst$Sheet;", Cond.lays "BlottedFirst$Slots" "BlottedFirst$Slots" "filled" "I"] : List Cond), w ∈ e_big from List.forall_mem_cons.mpr ⟨e_bg (e_in1 138 rfl) rfl, List.forall_mem_cons.mpr ⟨e_bg (e_in1 140 rfl) rfl, fun _ h => absurd h List.not_mem_nil⟩⟩)
set_option maxRecDepth 20000 in
theorem inlX5 : ∀ w ∈ wsX50, w ∈ e_big := (show ∀ w ∈ ([Cond.laysFinal "BlottedFirst$Text" "BlottedFirst$Text" "bytes" "[I", Cond.lays "BlottedFirst$Text" "BlottedFirst$Text" "length" "I"] : List Cond), w ∈ e_big from List.forall_mem_cons.mpr ⟨e_bg (e_in1 29 rfl) rfl, List.forall_mem_cons.mpr ⟨e_bg (e_in1 31 rfl) rfl, fun _ h => absurd h List.not_mem_nil⟩⟩)
set_option maxRecDepth 20000 in
theorem inlX6 : ∀ w ∈ wsX60, w ∈ e_big := (show ∀ w ∈ ([Cond.laysFinal "BlottedFirst$Times" "BlottedFirst$Times" "often" "[I"] : List Cond), w ∈ e_big from List.forall_mem_cons.mpr ⟨e_bg (e_in1 150 rfl) rfl, fun _ h => absurd h List.not_mem_nil⟩)
set_option maxRecDepth 20000 in
theorem inlX7 : ∀ w ∈ wsX70, w ∈ e_big := (show ∀ w ∈ ([Cond.laysFinal "BlottedFirst" "BlottedFirst" "text" "LBlottedFirst$Text;", Cond.laysFinal "BlottedFirst" "BlottedFirst" "letters" "LBlottedFirst$Letters;", Cond.laysFinal "BlottedFirst" "BlottedFirst" "sheet" "LBlottedFirst$Sheet;", Cond.laysFinal "BlottedFirst" "BlottedFirst" "trial" "LBlottedFirst$Sheet;", Cond.laysFinal "BlottedFirst" "BlottedFirst" "acts" "LBlottedFirst$Acts;", Cond.laysFinal "BlottedFirst" "BlottedFirst" "over" "LBlottedFirst$Over;", Cond.laysFinal "BlottedFirst" "BlottedFirst" "slots" "LBlottedFirst$Slots;", Cond.laysFinal "BlottedFirst" "BlottedFirst" "times" "LBlottedFirst$Times;", Cond.lays "BlottedFirst" "BlottedFirst" "theSeed" "J"] : List Cond), w ∈ e_big from List.forall_mem_cons.mpr ⟨e_bg (e_in1 162 rfl) rfl, List.forall_mem_cons.mpr ⟨e_bg (e_in1 164 rfl) rfl, List.forall_mem_cons.mpr ⟨e_bg (e_in1 166 rfl) rfl, List.forall_mem_cons.mpr ⟨e_bg (e_in1 168 rfl) rfl, List.forall_mem_cons.mpr ⟨e_bg (e_in1 170 rfl) rfl, List.forall_mem_cons.mpr ⟨e_bg (e_in1 172 rfl) rfl, List.forall_mem_cons.mpr ⟨e_bg (e_in1 174 rfl) rfl, List.forall_mem_cons.mpr ⟨e_bg (e_in1 176 rfl) rfl, List.forall_mem_cons.mpr ⟨e_bg (e_in1 178 rfl) rfl, fun _ h => absurd h List.not_mem_nil⟩⟩⟩⟩⟩⟩⟩⟩⟩)
set_option maxRecDepth 20000 in
theorem inlX8 : ∀ w ∈ wsX80, w ∈ e_big := (show ∀ w ∈ ([Cond.lays "BlottedFirstModel" "BlottedFirstModel" "thrown" "I", Cond.laysFinal "BlottedFirstModel" "BlottedFirstModel" "text" "[I", Cond.lays "BlottedFirstModel" "BlottedFirstModel" "textSize" "I", Cond.lays "BlottedFirstModel" "BlottedFirstModel" "place" "I", Cond.lays "BlottedFirstModel" "BlottedFirstModel" "letters" "I", Cond.laysFinal "BlottedFirstModel" "BlottedFirstModel" "at" "[I", Cond.laysFinal "BlottedFirstModel" "BlottedFirstModel" "hand" "[I", Cond.laysFinal "BlottedFirstModel" "BlottedFirstModel" "force" "[I", Cond.laysFinal "BlottedFirstModel" "BlottedFirstModel" "its" "[I", Cond.lays "BlottedFirstModel" "BlottedFirstModel" "readLetters" "I", Cond.laysFinal "BlottedFirstModel" "BlottedFirstModel" "readLetter" "[I", Cond.laysFinal "BlottedFirstModel" "BlottedFirstModel" "page" "[I", Cond.laysFinal "BlottedFirstModel" "BlottedFirstModel" "trial" "[I", Cond.laysFinal "BlottedFirstModel" "BlottedFirstModel" "book" "[I", Cond.lays "BlottedFirstModel" "BlottedFirstModel" "acts" "I", Cond.laysFinal "BlottedFirstModel" "BlottedFirstModel" "kept" "[I", Cond.laysFinal "BlottedFirstModel" "BlottedFirstModel" "isKept" "[Z", Cond.lays "BlottedFirstModel" "BlottedFirstModel" "over" "I", Cond.laysFinal "BlottedFirstModel" "BlottedFirstModel" "overOne" "[I", Cond.laysFinal "BlottedFirstModel" "BlottedFirstModel" "overTwo" "[I", Cond.lays "BlottedFirstModel" "BlottedFirstModel" "seed" "J", Cond.lays "BlottedFirstModel" "BlottedFirstModel" "foundMany" "I", Cond.lays "BlottedFirstModel" "BlottedFirstModel" "foundAll" "I", Cond.lays "BlottedFirstModel" "BlottedFirstModel" "foundNone" "I", Cond.lays "BlottedFirstModel" "BlottedFirstModel" "foundFirst" "I", Cond.laysFinal "BlottedFirstModel" "BlottedFirstModel" "value" "[I", Cond.laysFinal "BlottedFirstModel" "BlottedFirstModel" "order" "[I"] : List Cond), w ∈ e_big from List.forall_mem_cons.mpr ⟨e_bg (e_in3 114 rfl) rfl, List.forall_mem_cons.mpr ⟨e_bg (e_in3 116 rfl) rfl, List.forall_mem_cons.mpr ⟨e_bg (e_in3 118 rfl) rfl, List.forall_mem_cons.mpr ⟨e_bg (e_in3 120 rfl) rfl, List.forall_mem_cons.mpr ⟨e_bg (e_in3 122 rfl) rfl, List.forall_mem_cons.mpr ⟨e_bg (e_in3 124 rfl) rfl, List.forall_mem_cons.mpr ⟨e_bg (e_in3 126 rfl) rfl, List.forall_mem_cons.mpr ⟨e_bg (e_in3 128 rfl) rfl, List.forall_mem_cons.mpr ⟨e_bg (e_in3 130 rfl) rfl, List.forall_mem_cons.mpr ⟨e_bg (e_in3 132 rfl) rfl, List.forall_mem_cons.mpr ⟨e_bg (e_in3 134 rfl) rfl, List.forall_mem_cons.mpr ⟨e_bg (e_in3 136 rfl) rfl, List.forall_mem_cons.mpr ⟨e_bg (e_in3 138 rfl) rfl, List.forall_mem_cons.mpr ⟨e_bg (e_in3 140 rfl) rfl, List.forall_mem_cons.mpr ⟨e_bg (e_in3 142 rfl) rfl, List.forall_mem_cons.mpr ⟨e_bg (e_in3 144 rfl) rfl, List.forall_mem_cons.mpr ⟨e_bg (e_in3 146 rfl) rfl, List.forall_mem_cons.mpr ⟨e_bg (e_in3 148 rfl) rfl, List.forall_mem_cons.mpr ⟨e_bg (e_in3 150 rfl) rfl, List.forall_mem_cons.mpr ⟨e_bg (e_in3 152 rfl) rfl, List.forall_mem_cons.mpr ⟨e_bg (e_in3 154 rfl) rfl, List.forall_mem_cons.mpr ⟨e_bg (e_in3 156 rfl) rfl, List.forall_mem_cons.mpr ⟨e_bg (e_in3 158 rfl) rfl, List.forall_mem_cons.mpr ⟨e_bg (e_in3 160 rfl) rfl, List.forall_mem_cons.mpr ⟨e_bg (e_in3 162 rfl) rfl, List.forall_mem_cons.mpr ⟨e_bg (e_in3 164 rfl) rfl, List.forall_mem_cons.mpr ⟨e_bg (e_in3 166 rfl) rfl, fun _ h => absurd h List.not_mem_nil⟩⟩⟩⟩⟩⟩⟩⟩⟩⟩⟩⟩⟩⟩⟩⟩⟩⟩⟩⟩⟩⟩⟩⟩⟩⟩⟩)
def e_lnk (own : String) (idx : Nat) (r : vw_C) (j : Nat) : Prop := (Cond.fieldLink own idx (r.2.1 j).1 (r.2.1 j).2.1 (r.2.1 j).2.2.1) ∈ e_big ∨ ∃ h, Cond.fieldLinkNest own idx (r.2.1 j).1 (r.2.1 j).2.1 (r.2.1 j).2.2.1 h ∈ e_nst
def e_fld (own : String) (idx ci j : Nat) : Prop := ∃ r : vw_C, vwCl[ci]? = some r ∧ j < r.2.2 ∧ e_lnk own idx r j
def e_fldw (own : String) (idx ci j : Nat) (ty : FieldType) : Prop := ∃ r : vw_C, vwCl[ci]? = some r ∧ j < r.2.2 ∧ e_lnk own idx r j ∧ (r.2.1 j).2.2.2 = false ∧ parseFieldDescriptor (r.2.1 j).2.2.1 = some ty
theorem e_cls {ci : Nat} {r : vw_C} (h : vwCl[ci]? = some r) : (∀ w ∈ u_ws r.1 r.2.1 r.2.2, w ∈ e_big) ∧ (∃ ty0 : Nat → FieldType, ∀ k, k < r.2.2 → parseFieldDescriptor (r.2.1 k).2.2.1 = some (ty0 k)) ∧ (∀ a, a < r.2.2 → ∀ b, b < r.2.2 → a ≠ b → (r.2.1 a).2.1 ≠ (r.2.1 b).2.1) := by
  match ci, h with
  | 0, h => cases h; exact ⟨inlX0, ⟨tyX0, tyX0_ok⟩, nmX0⟩
  | 1, h => cases h; exact ⟨inlX1, ⟨tyX1, tyX1_ok⟩, nmX1⟩
  | 2, h => cases h; exact ⟨inlX2, ⟨tyX2, tyX2_ok⟩, nmX2⟩
  | 3, h => cases h; exact ⟨inlX3, ⟨tyX3, tyX3_ok⟩, nmX3⟩
  | 4, h => cases h; exact ⟨inlX4, ⟨tyX4, tyX4_ok⟩, nmX4⟩
  | 5, h => cases h; exact ⟨inlX5, ⟨tyX5, tyX5_ok⟩, nmX5⟩
  | 6, h => cases h; exact ⟨inlX6, ⟨tyX6, tyX6_ok⟩, nmX6⟩
  | 7, h => cases h; exact ⟨inlX7, ⟨tyX7, tyX7_ok⟩, nmX7⟩
  | 8, h => cases h; exact ⟨inlX8, ⟨tyX8, tyX8_ok⟩, nmX8⟩
  | i + 9, h => simp [vwCl] at h
theorem ev_getfield {idx ci j q : Nat} {fs : List Value} {v : Value} (h : decode μ.2.1 pc = .ok (.getfield idx, 3)) (hf : e_fld μ.1.cls idx ci j) (hk : q < N) (hM : M q = .inr (ci, fs)) (hv : fs[j]? = some v) (k : Ev N d μ X (pc + 3) L (v :: S) M P) : Ev N d μ X pc L (.ref q :: S) M P := by
  intro p l e R s m args below meth c cells slots Q A D cA ad hE H locs ls hP hD hS hl
  obtain ⟨hx, hb, hml, hown, hts, hN, hK, hA, hR, hX, hRet⟩ := id hE
  obtain ⟨r, hr, hj, hlk⟩ := hf
  obtain ⟨h1, -, h3⟩ := e_cls hr
  have hv1 : (fs.map (e_v ad))[j]? = some (e_v ad v) := by rw [List.getElem?_map, hv]; rfl
  rcases hlk with hlk | ⟨hst, hlk⟩
  · exact va_get (C := r.1) (T := r.2.1) (N := r.2.2) hx hb hts h1 hown hK hP q (e_w_atc hk hM) hr j hj (hts _ hlk) (fun _ z => z) hv1 h (k _ _ _ _ _ _ _ _ _ _ _ _ _ _ _ _ _ hE H locs ls hP hD hS hl)
  · exact va_getN (C := r.1) (T := r.2.1) (N := r.2.2) hx hb hts h1 hown hK hP q (e_w_atc hk hM) hr j hj (va_Nw.use rfl (hN _ hlk)) (fun _ z => z) hv1 h (k _ _ _ _ _ _ _ _ _ _ _ _ _ _ _ _ _ hE H locs ls hP hD hS hl)
theorem ev_putI {idx ci j q : Nat} {fs : List Value} {x : Int32} (h : decode μ.2.1 pc = .ok (.putfield idx, 3)) (hf : e_fldw μ.1.cls idx ci j .int) (hk : q < N) (hM : M q = .inr (ci, fs)) (hjl : j < fs.length) (k : Ev N d μ X (pc + 3) L S (mu M q (.inr (ci, fs.set j (.int x)))) P) : Ev N d μ X pc L (.int x :: .ref q :: S) M P := by
  intro p l e R s m args below meth c cells slots Q A D cA ad hE H locs ls hP hD hS hl
  obtain ⟨hx, hb, hml, hown, hts, hN, hK, hA, hR, hX, hRet⟩ := id hE
  obtain ⟨r, hr, hj, hlk, hfin, hty⟩ := hf
  obtain ⟨h1, ⟨ty0, h2⟩, h3⟩ := e_cls hr
  have e0 : (e_w N ad cA M).set q (ad q, .inr (ci, (fs.map (e_v ad)).set j (.int x))) = e_w N ad cA (mu M q (.inr (ci, fs.set j (.int x)))) := by
    rw [← e_w_set]
    show _ = (e_w N ad cA M).set q (ad q, .inr (ci, (fs.set j (.int x)).map (e_v ad)))
    rw [List.map_set]
    rfl
  have hl9 : j < (fs.map (e_v ad)).length := by rw [List.length_map]; exact hjl
  rcases hlk with hlk | ⟨hst, hlk⟩
  · exact va_put (C := r.1) (T := r.2.1) (N := r.2.2) hx hb hts h1 ty0 h2 h3 hown hK hP hD hS q (e_w_atc hk hM) hr j hj (hts _ hlk) (fun _ z => z) hfin hty rfl rfl hl9 h (fun H1 locs1 hP1 hD1 hS1 => k _ _ _ _ _ _ _ _ _ _ _ _ _ _ _ _ _ hE H1 locs1 ls (e0 ▸ hP1) (e0 ▸ hD1) hS1 hl)
  · exact va_putN (C := r.1) (T := r.2.1) (N := r.2.2) hx hb hts h1 ty0 h2 h3 hown hK hP hD hS q (e_w_atc hk hM) hr j hj (va_Nw.use rfl (hN _ hlk)) (fun _ z => z) hfin hty rfl rfl hl9 h (fun H1 locs1 hP1 hD1 hS1 => k _ _ _ _ _ _ _ _ _ _ _ _ _ _ _ _ _ hE H1 locs1 ls (e0 ▸ hP1) (e0 ▸ hD1) hS1 hl)
theorem ev_putJ {idx ci j q : Nat} {fs : List Value} {x : Int64} (h : decode μ.2.1 pc = .ok (.putfield idx, 3)) (hf : e_fldw μ.1.cls idx ci j .long) (hk : q < N) (hM : M q = .inr (ci, fs)) (hjl : j < fs.length) (k : Ev N d μ X (pc + 3) L S (mu M q (.inr (ci, fs.set j (.long x)))) P) : Ev N d μ X pc L (.long x :: .ref q :: S) M P := by
  intro p l e R s m args below meth c cells slots Q A D cA ad hE H locs ls hP hD hS hl
  obtain ⟨hx, hb, hml, hown, hts, hN, hK, hA, hR, hX, hRet⟩ := id hE
  obtain ⟨r, hr, hj, hlk, hfin, hty⟩ := hf
  obtain ⟨h1, ⟨ty0, h2⟩, h3⟩ := e_cls hr
  have e0 : (e_w N ad cA M).set q (ad q, .inr (ci, (fs.map (e_v ad)).set j (.long x))) = e_w N ad cA (mu M q (.inr (ci, fs.set j (.long x)))) := by
    rw [← e_w_set]
    show _ = (e_w N ad cA M).set q (ad q, .inr (ci, (fs.set j (.long x)).map (e_v ad)))
    rw [List.map_set]
    rfl
  have hl9 : j < (fs.map (e_v ad)).length := by rw [List.length_map]; exact hjl
  rcases hlk with hlk | ⟨hst, hlk⟩
  · exact va_put (C := r.1) (T := r.2.1) (N := r.2.2) hx hb hts h1 ty0 h2 h3 hown hK hP hD hS q (e_w_atc hk hM) hr j hj (hts _ hlk) (fun _ z => z) hfin hty rfl rfl hl9 h (fun H1 locs1 hP1 hD1 hS1 => k _ _ _ _ _ _ _ _ _ _ _ _ _ _ _ _ _ hE H1 locs1 ls (e0 ▸ hP1) (e0 ▸ hD1) hS1 hl)
  · exact va_putN (C := r.1) (T := r.2.1) (N := r.2.2) hx hb hts h1 ty0 h2 h3 hown hK hP hD hS q (e_w_atc hk hM) hr j hj (va_Nw.use rfl (hN _ hlk)) (fun _ z => z) hfin hty rfl rfl hl9 h (fun H1 locs1 hP1 hD1 hS1 => k _ _ _ _ _ _ _ _ _ _ _ _ _ _ _ _ _ hE H1 locs1 ls (e0 ▸ hP1) (e0 ▸ hD1) hS1 hl)
theorem ev_ret0 (h : decode μ.2.1 pc = .ok (.return_, 1)) (hr : μ.2.2.2 = none) (hp : P none M) : Ev N d μ X pc L [] M P := by
  intro p l e R s m args below meth c cells slots Q A D cA ad hE H locs ls hP hD hS hl
  obtain ⟨hx, hb, hml, hown, hts, hN, hK, hA, hR, hX, hRet⟩ := id hE
  exact hRet none M H locs ls pc hp ⟨h, hr⟩ hP hD hS
theorem ev_reti {ty : FieldType} {v : Int32} (h : decode μ.2.1 pc = .ok (.ireturn, 1)) (hr : μ.2.2.2 = some ty) (hn : narrow ty (.int v) = .int v) (hp : P (some (.int v)) M) : Ev N d μ X pc L [.int v] M P := by
  intro p l e R s m args below meth c cells slots Q A D cA ad hE H locs ls hP hD hS hl
  obtain ⟨hx, hb, hml, hown, hts, hN, hK, hA, hR, hX, hRet⟩ := id hE
  exact hRet (some (.int v)) M H locs ls pc hp ⟨h, ty, hr, hn⟩ hP hD hS
theorem ev_retl {v : Int64} (h : decode μ.2.1 pc = .ok (.lreturn, 1)) (hr : μ.2.2.2 = some .long) (hp : P (some (.long v)) M) : Ev N d μ X pc L [.long v] M P := by
  intro p l e R s m args below meth c cells slots Q A D cA ad hE H locs ls hP hD hS hl
  obtain ⟨hx, hb, hml, hown, hts, hN, hK, hA, hR, hX, hRet⟩ := id hE
  exact hRet (some (.long v)) M H locs ls pc hp ⟨h, hr⟩ hP hD hS
theorem ev_reta {v : Nat} {n : String} (h : decode μ.2.1 pc = .ok (.areturn, 1)) (hr : μ.2.2.2 = some (.object n)) (hp : P (some (.ref v)) M) : Ev N d μ X pc L [.ref v] M P := by
  intro p l e R s m args below meth c cells slots Q A D cA ad hE H locs ls hP hD hS hl
  obtain ⟨hx, hb, hml, hown, hts, hN, hK, hA, hR, hX, hRet⟩ := id hE
  exact hRet (some (.ref v)) M H locs ls pc hp ⟨h, n, hr⟩ hP hD hS
theorem ev_mono {P1 : Option Value → mM → Prop} (hp : ∀ r M1, P1 r M1 → P r M1) (k : Ev N d μ X pc L S M P1) : Ev N d μ X pc L S M P := by
  intro p l e R s m args below meth c cells slots Q A D cA ad hE H locs ls hP hD hS hl
  obtain ⟨hx, hb, hml, hown, hts, hN, hK, hA, hR, hX, hRet⟩ := id hE
  exact k _ _ _ _ _ _ _ _ _ _ _ _ _ _ _ _ _ ⟨hx, hb, hml, hown, hts, hN, hK, hA, hR, hX, fun r M1 H1 locs1 ls1 pc1 h => hRet r M1 H1 locs1 ls1 pc1 (hp r M1 h)⟩ H locs ls hP hD hS hl
theorem ev_top {v u : Value} (h : v = u) (k : Ev N d μ X pc L (u :: S) M P) : Ev N d μ X pc L (v :: S) M P := h ▸ k
theorem ev_mem {M1 : mM} (h : M = M1) (k : Ev N d μ X pc L S M1 P) : Ev N d μ X pc L S M P := h ▸ k
theorem ev_loc {L1 : List Value} (h : L = L1) (k : Ev N d μ X pc L1 S M P) : Ev N d μ X pc L S M P := h ▸ k
theorem ev_pc {pc1 : Nat} (h : pc = pc1) (k : Ev N d μ X pc1 L S M P) : Ev N d μ X pc L S M P := h ▸ k
end EVR
/-! ===== calls ===== -/
def e_rm (d : Nat) : Room := { frames := d, cells := 0, slots := 0, locals := 33 * d }
def e_ws (μ : mI) : List Cond := .code μ.1 μ.2.1 μ.2.2.1 μ.2.2.2 :: e_big
def e_B (N : Nat) (D : va_G) (cA : Nat → ClassId) (ad : Nat → Nat) (A : Nat → Prop) (M : mM) (t : State) : Prop := va_P D vwCl (e_w N ad cA M) t.heap ∧ va_K D vwCl (e_tys cA) t ∧ va_D A (e_w N ad cA M)
def e_pre (N : Nat) (D : va_G) (cA : Nat → ClassId) (ad : Nat → Nat) (M : mM) (sz : Nat) (U : State) : Prop := U.heap.size = sz ∧ va_P D vwCl (e_w N ad cA M) U.heap ∧ va_K D vwCl (e_tys cA) U ∧ va_D (fun _ => True) (e_w N ad cA M) ∧ ∀ w ∈ e_nst, va_Nw w U
def e_Qc (N : Nat) (P : Option Value → mM → Prop) (D : va_G) (cA : Nat → ClassId) (ad : Nat → Nat) (A : Nat → Prop) : Array Value → State → Outcome → State → Prop := fun _ st oc t => (∃ (r : Option Value) (M : mM), oc = .returned (r.map (e_v ad)) ∧ P r M ∧ e_B N D cA ad A M t) ∧ va_F A st t
theorem e_pre_blind {N : Nat} {D : va_G} {cA : Nat → ClassId} {ad : Nat → Nat} {M : mM} {sz : Nat} (av : List Value) : FrameBlind (va_Pc av (e_pre N D cA ad M sz)) := fun a U g mk q => by
  obtain ⟨q0, q1, q2, q3, q4, q5⟩ := q
  exact ⟨q0, q1, q2, va_K.moved (u := U) (U := U.calling g mk a) (Vm.Alike.refl U.vm) q3, q4, e_nst_same (u := U) rfl q5⟩
set_option maxHeartbeats 4000000 in
theorem ev_met {N d : Nat} {μ : mI} {args : List Value} {M : mM} {P : Option Value → mM → Prop} (hpl : plainName μ.1.cls = true) (hfit : (e_sp args).length ≤ μ.2.2.1) (h : Ev N d μ none 0 (e_ent μ.2.2.1 args) [] M P) (l : Launch) (D : va_G) (cA : Nat → ClassId) (ad : Nat → Nat) (sz : Nat) :
    Met l μ.1 (e_ws μ) (e_rm d) (va_Pc (args.map (e_v ad)) (e_pre N D cA ad M sz)) (e_Qc N P D cA ad (va_A (e_w N ad cA M) sz)) 0 0 (va_A (e_w N ad cA M) sz) := by
  refine Met.ofW (cc := μ.2.1) (maxL := μ.2.2.1) (ret := μ.2.2.2) hpl rfl ?_
  intro p e s m args' below meth c s₁ B hml hv
  obtain ⟨rfl, hsz, hP, hK, hD0, hN⟩ := hv
  have hx := B.exec
  have hb := B.bytes
  have hrt := B.returns
  have hts := atoms_spec (ws := e_ws μ) B.pre
  have hown : s.vm.findClass μ.1.cls = some m.cls := findClass_of_methodNamed B.named
  have hlocks : meth.locks = false := B.notSynchronized
  subst hsz
  have hD := hD0.self (sz := s.heap.size)
  rw [lg_entry_eq]
  refine h p l e _ s m _ below meth c 0 0 _ (va_A (e_w N ad cA M) s.heap.size) D cA ad ⟨hx, hb, hml, hown, fun w hw => hts w (List.mem_cons_of_mem _ hw), hN, hK, fun q hq => Or.inr hq, ⟨Nat.le_refl _, Nat.le_refl _, Nat.zero_le _, Nat.zero_le _⟩, fun _ _ hX => (by cases hX), ?_⟩ s.heap [] _ hP hD va_S.rf (e_R_ent ad args hfit)
  intro r M1 H1 locs1 ls1 pc1 hp hr hP1 hD1 hS1
  have hq : ∀ t : State, t.heap = H1 → s.WarmedH t.vm → e_Qc N P D cA ad (va_A (e_w N ad cA M) s.heap.size) (args.map (e_v ad)).toArray s (.returned (r.map (e_v ad))) t := fun t ht hW => ⟨⟨r, M1, rfl, hp, by rw [ht]; exact hP1, va_K.moved hW.alike hK, hD1⟩, hS1.F ht⟩
  match r, hr, hq with
  | none, hr, hq => exact W.vret hx hb (hrt.trans hr.2) hq hS1.2.2 hr.1
  | some (.int v), hr, hq =>
    obtain ⟨h1, ty, h2, h3⟩ := hr
    exact W.zret hx hb (hrt.trans h2) h3 hq hS1.2.2 h1
  | some (.long v), hr, hq => exact W.lret hx hb (hrt.trans hr.2) hq hS1.2.2 hr.1
  | some (.ref v), hr, hq =>
    obtain ⟨h1, n, h2⟩ := hr
    exact W.aret hx hb (hrt.trans h2) (Or.inl ⟨n, rfl⟩) (Or.inr ⟨_, rfl⟩) hq hS1.2.2 h1
section EVC
variable {p : Program} {l : Launch} {e : Env} {R : Room} {s : State} {m : MethodId} {args : Array Value} {below : List Frame} {meth : Method} {c : Code} {H : Heap} {locs : List Loc} {cells slots : Nat} {Q : State → Prop}
variable {pc : Nat} {ls : Array Slot} {rest st0 : List Value} {a : Array Value} {A0 A1 : Nat → Prop} {H0 : Heap} {free : Addr → Prop}
theorem e_call {N : Nat} {P : Option Value → mM → Prop} {D : va_G} {cA : Nat → ClassId} {ad : Nat → Nat} (hr : va_Run p l e R s m args below meth c H locs cells slots 0 0 (F0 m pc ls st0) rest (e_Qc N P D cA ad A1 a) free) (hS : va_S A0 H0 H locs) (hA : ∀ q, q < H.size → A1 q → A0 q) (hf : ∀ q, free q → A0 q)
    (kk : ∀ (r : Option Value) (M : mM) (t : State) (H1 : Heap) (locs1 : List Loc), t.heap = H1 → P r M → e_B N D cA ad A1 M t → va_S A0 H0 H1 locs1 → W p l e R s m args below meth c H1 locs1 cells slots Q (F0 m (pc + 3) ls ((r.map (e_v ad)).toList ++ rest))) : W p l e R s m args below meth c H locs cells slots Q (F0 m pc ls st0) := by
  intro T hT X
  obtain ⟨v, st₀, t, T', L, h0, X', hL, e1, e2, ⟨⟨r, M, hv, hp, hb⟩, hz, hk⟩, st⟩ := hr T hT X
  cases hv
  rw [h0] at hz hk
  obtain ⟨t2, a1, b1⟩ := kk r M t T'.heap (locs ++ L) e1.symm hp hb
    ⟨Nat.le_trans hS.1 (by rw [e1]; exact hz), fun q h1 h2 => by rw [e1, hk q (Nat.lt_of_lt_of_le h1 hS.1) (fun z => h2 (hA q (Nat.lt_of_lt_of_le h1 hS.1) z))]; exact hS.2.1 q h1 h2, fun q hq => by
      rcases List.mem_append.mp hq with h | h
      · exact hS.2.2 q h
      · exact hf _ (hL q h)⟩ T' rfl X'
  exact ⟨t2, st t2 a1, b1⟩
end EVC
def e_site (own : String) (idx : Nat) (y : MethodName) : Prop := Cond.methodLink own idx y ∈ e_big ∨ ∃ h, Cond.methodLinkNest own idx y h ∈ e_nst
def e_okB (μ : mI) (n : Nat) : Prop := Cond.code μ.1 μ.2.1 μ.2.2.1 μ.2.2.2 ∈ e_big ∧ Cond.initialized μ.1.cls ∈ e_big ∧ (μ.1.cls ≠ "java/lang/invoke/MethodHandle" ∧ μ.1.cls ≠ "java/lang/invoke/VarHandle" ∧ (parseMethodDescriptor μ.1.desc).map (fun d => d.parameters.length) = some n) ∧ μ.2.2.1 ≤ 14 ∧ plainName μ.1.cls = true
def e_okV (μ : mI) (n : Nat) : Prop := e_okB μ n ∧ Cond.instanceMethod μ.1 ∈ e_big ∧ Cond.selects μ.1.cls μ.1 μ.1 ∈ e_big
def e_okT (μ : mI) (n : Nat) : Prop := e_okB μ n ∧ Cond.static μ.1 ∈ e_big
theorem e_stk (ad : Nat → Nat) (r : Option Value) (S : List Value) : (r.toList ++ S).map (e_v ad) = (r.map (e_v ad)).toList ++ S.map (e_v ad) := by cases r <;> rfl
theorem e_wt (ad : Nat → Nat) (S : List Value) : ((S.map (e_v ad)).map fun v => v.category) = S.map fun v => v.category := by
  rw [List.map_map]
  exact List.map_congr_left fun v _ => e_v_cat ad v
section EVK
variable {N d : Nat} {μ μ1 : mI} {X : mX} {pc : Nat} {L S : List Value} {M : mM} {P : Option Value → mM → Prop}
set_option maxHeartbeats 4000000 in
theorem ev_invV {idx q ci : Nat} {fs : List Value} {r : vw_C} (As : List Value) (h : decode μ.2.1 pc = .ok (.invokevirtual idx, 3)) (hs : e_site μ.1.cls idx μ1.1) (ho : e_okV μ1 As.length) (hk : q < N) (hM : M q = .inr (ci, fs)) (hc : vwCl[ci]? = some r) (hcn : r.1 = μ1.1.cls) (hw : (S.map fun v => v.category).sum ≤ 8) (hf : (e_sp (.ref q :: As)).length ≤ μ1.2.2.1)
    (k : Ev N d μ1 none 0 (e_ent μ1.2.2.1 (.ref q :: As)) [] M (fun r1 M1 => Ev N (d + 1) μ X (pc + 3) L (r1.toList ++ S) M1 P)) : Ev N (d + 1) μ X pc L (As.reverse ++ .ref q :: S) M P := by
  intro p l e R s m args below meth c cells slots Q A D cA ad hE H locs ls hP hD hS hl
  obtain ⟨hx, hb, hml, hown, hts, hN, hK, hA, ⟨hR1, hR2, hR3, hR4⟩, hX, hRet⟩ := id hE
  obtain ⟨⟨o1, o2, o3, o4, o5⟩, o6, o7⟩ := ho
  have hM1 := ev_met o5 hf k l D cA ad H.size
  have hFc : ∀ q, va_A (e_w N ad cA M) H.size q → A q := fun q hq => by
    rcases hq with ⟨k1, e1, hq⟩ | hq
    · exact hD.2 k1 _ hq
    · exact hA q (Nat.le_trans hS.1 hq)
  have hpre : ∀ U : State, U.heap = H → s.WarmedH U.vm → va_Pc ((Value.ref q :: As).map (e_v ad)) (e_pre N D cA ad M H.size) (Value.ref (ad q) :: As.map (e_v ad)).toArray U := fun U hU hW => ⟨rfl, by rw [hU], by rw [hU]; exact hP, va_K.moved hW.alike hK, hD.weaken (fun _ _ _ _ => trivial), e_nst_warm hW hN⟩
  have hst : ((As.reverse ++ .ref q :: S).map (e_v ad)) = (As.map (e_v ad)).reverse ++ .ref (ad q) :: S.map (e_v ad) := by
    rw [List.map_append, List.map_reverse]; rfl
  have hrc : ∃ cell : Cell, H[ad q]? = some cell ∧ cell.vm.isStatics = false ∧ s.vm.findClass μ1.1.cls = some cell.cls := by
    rw [← hcn]
    exact va_recv hK hP hc (e_w_atc hk hM)
  have hroom : (e_rm d).frames + 1 ≤ R.frames ∧ 8 + (μ1.2.2.1 + 11) + (e_rm d).locals ≤ R.locals := by
    refine ⟨hR1, ?_⟩
    show 8 + (μ1.2.2.1 + 11) + 33 * d ≤ R.locals
    omega
  have run : va_Run p l e R s m args below meth c H locs cells slots 0 0 (F0 m pc ls ((As.reverse ++ .ref q :: S).map (e_v ad))) (S.map (e_v ad)) (e_Qc N (fun r1 M1 => Ev N (d + 1) μ X (pc + 3) L (r1.toList ++ S) M1 P) D cA ad (va_A (e_w N ad cA M) H.size) (Value.ref (ad q) :: As.map (e_v ad)).toArray) (va_A (e_w N ad cA M) H.size) := by
    rcases hs with hs | ⟨host, hs⟩
    · exact va_runV (As := As.map (e_v ad)) (rest := S.map (e_v ad)) (n := As.length) (C := μ1.1.cls) (g := F0 m pc ls ((As.reverse ++ .ref q :: S).map (e_v ad))) ⟨hx, hb, hml, hown, hts⟩ hM1 ⟨callB_of As.length hts (e_goodIn o1) rfl rfl rfl (hts _ o2) (hts _ hs) o3 hroom, hts _ o6, hts _ o7⟩ ⟨e_pre_blind _, hrc, hpre⟩ rfl (by rw [List.length_map]) hl.1 hst (lv_room (by rw [e_wt]; exact hw)) h ⟨hR3, hR4⟩
    · exact va_runVN (As := As.map (e_v ad)) (rest := S.map (e_v ad)) (n := As.length) (C := μ1.1.cls) (g := F0 m pc ls ((As.reverse ++ .ref q :: S).map (e_v ad))) ⟨hx, hb, hml, hown, hts⟩ hM1 ⟨va_cnB As.length hts (e_goodIn o1) rfl rfl rfl (hN _ hs) (hts _ o2) o3 hroom, hts _ o6, hts _ o7⟩ ⟨e_pre_blind _, hrc, hpre⟩ rfl (by rw [List.length_map]) hl.1 hst (lv_room (by rw [e_wt]; exact hw)) h ⟨hR3, hR4⟩
  refine e_call run hS (fun q _ z => hFc q z) hFc (fun r1 M1 t H1 locs1 ht hp hB hS1 => ?_)
  obtain ⟨b1, b2, b3⟩ := hB
  rw [ht] at b1
  rw [← e_stk]
  exact hp p l e R s m args below meth c cells slots Q A D cA ad hE H1 locs1 ls b1 (b3.weaken (fun _ q _ z => hFc _ z)) hS1 hl
set_option maxHeartbeats 4000000 in
theorem ev_invS {idx : Nat} (As : List Value) (h : decode μ.2.1 pc = .ok (.invokestatic idx, 3)) (hs : e_site μ.1.cls idx μ1.1) (ho : e_okT μ1 As.length) (hw : (S.map fun v => v.category).sum ≤ 8) (hf : (e_sp As).length ≤ μ1.2.2.1)
    (k : Ev N d μ1 none 0 (e_ent μ1.2.2.1 As) [] M (fun r1 M1 => Ev N (d + 1) μ X (pc + 3) L (r1.toList ++ S) M1 P)) : Ev N (d + 1) μ X pc L (As.reverse ++ S) M P := by
  intro p l e R s m args below meth c cells slots Q A D cA ad hE H locs ls hP hD hS hl
  obtain ⟨hx, hb, hml, hown, hts, hN, hK, hA, ⟨hR1, hR2, hR3, hR4⟩, hX, hRet⟩ := id hE
  obtain ⟨⟨o1, o2, o3, o4, o5⟩, o6⟩ := ho
  have hM1 := ev_met o5 hf k l D cA ad H.size
  have hFc : ∀ q, va_A (e_w N ad cA M) H.size q → A q := fun q hq => by
    rcases hq with ⟨k1, e1, hq⟩ | hq
    · exact hD.2 k1 _ hq
    · exact hA q (Nat.le_trans hS.1 hq)
  have hpre : ∀ U : State, U.heap = H → s.WarmedH U.vm → va_Pc (As.map (e_v ad)) (e_pre N D cA ad M H.size) (As.map (e_v ad)).toArray U := fun U hU hW => ⟨rfl, by rw [hU], by rw [hU]; exact hP, va_K.moved hW.alike hK, hD.weaken (fun _ _ _ _ => trivial), e_nst_warm hW hN⟩
  have hst : ((As.reverse ++ S).map (e_v ad)) = (As.map (e_v ad)).reverse ++ S.map (e_v ad) := by
    rw [List.map_append, List.map_reverse]
  have hroom : (e_rm d).frames + 1 ≤ R.frames ∧ 8 + (μ1.2.2.1 + 11) + (e_rm d).locals ≤ R.locals := by
    refine ⟨hR1, ?_⟩
    show 8 + (μ1.2.2.1 + 11) + 33 * d ≤ R.locals
    omega
  have run : va_Run p l e R s m args below meth c H locs cells slots 0 0 (F0 m pc ls ((As.reverse ++ S).map (e_v ad))) (S.map (e_v ad)) (e_Qc N (fun r1 M1 => Ev N (d + 1) μ X (pc + 3) L (r1.toList ++ S) M1 P) D cA ad (va_A (e_w N ad cA M) H.size) (As.map (e_v ad)).toArray) (va_A (e_w N ad cA M) H.size) := by
    rcases hs with hs | ⟨host, hs⟩
    · exact va_runS (As := As.map (e_v ad)) (rest := S.map (e_v ad)) (n := As.length) (g := F0 m pc ls ((As.reverse ++ S).map (e_v ad))) ⟨hx, hb, hml, hown, hts⟩ hM1 ⟨callB_of As.length hts (e_goodIn o1) rfl rfl rfl (hts _ o2) (hts _ hs) o3 hroom, hts _ o6⟩ ⟨e_pre_blind _, hpre⟩ rfl (by rw [List.length_map]) hl.1 hst (lv_room (by rw [e_wt]; exact hw)) h ⟨hR3, hR4⟩
    · exact va_runSN (As := As.map (e_v ad)) (rest := S.map (e_v ad)) (n := As.length) (g := F0 m pc ls ((As.reverse ++ S).map (e_v ad))) ⟨hx, hb, hml, hown, hts⟩ hM1 ⟨va_cnB As.length hts (e_goodIn o1) rfl rfl rfl (hN _ hs) (hts _ o2) o3 hroom, hts _ o6, trivial⟩ ⟨e_pre_blind _, hpre⟩ rfl (by rw [List.length_map]) hl.1 hst (lv_room (by rw [e_wt]; exact hw)) h ⟨hR3, hR4⟩
  refine e_call run hS (fun q _ z => hFc q z) hFc (fun r1 M1 t H1 locs1 ht hp hB hS1 => ?_)
  obtain ⟨b1, b2, b3⟩ := hB
  rw [ht] at b1
  rw [← e_stk]
  exact hp p l e R s m args below meth c cells slots Q A D cA ad hE H1 locs1 ls b1 (b3.weaken (fun _ q _ z => hFc _ z)) hS1 hl
end EVK
end
section
def e_okVi (μ : mI) (n ci : Nat) : Prop := e_okV μ n ∧ ∃ r, vwCl[ci]? = some r ∧ r.1 = μ.1.cls
section EVW
variable {N d : Nat} {μ μ1 : mI} {X : mX} {pc : Nat} {L S : List Value} {M : mM} {P : Option Value → mM → Prop}
theorem ev_V0 {idx q ci : Nat} {fs : List Value} (h : decode μ.2.1 pc = .ok (.invokevirtual idx, 3)) (hs : e_site μ.1.cls idx μ1.1) (ho : e_okVi μ1 0 ci) (hk : q < N) (hM : M q = .inr (ci, fs)) (hw : (S.map fun v => v.category).sum ≤ 8) (hf : (e_sp [.ref q]).length ≤ μ1.2.2.1) (k : Ev N d μ1 none 0 (e_ent μ1.2.2.1 [.ref q]) [] M (fun r1 M1 => Ev N (d + 1) μ X (pc + 3) L (r1.toList ++ S) M1 P)) : Ev N (d + 1) μ X pc L (.ref q :: S) M P := by
  obtain ⟨ho, r, hr, hrn⟩ := ho
  exact ev_invV [] h hs ho hk hM hr hrn hw hf k
theorem ev_S0 {idx : Nat} (h : decode μ.2.1 pc = .ok (.invokestatic idx, 3)) (hs : e_site μ.1.cls idx μ1.1) (ho : e_okT μ1 0) (hw : (S.map fun v => v.category).sum ≤ 8) (hf : (e_sp []).length ≤ μ1.2.2.1) (k : Ev N d μ1 none 0 (e_ent μ1.2.2.1 []) [] M (fun r1 M1 => Ev N (d + 1) μ X (pc + 3) L (r1.toList ++ S) M1 P)) : Ev N (d + 1) μ X pc L (S) M P :=
  ev_invS [] h hs ho hw hf k
theorem ev_V1 {idx q ci : Nat} {fs : List Value} {v1 : Value} (h : decode μ.2.1 pc = .ok (.invokevirtual idx, 3)) (hs : e_site μ.1.cls idx μ1.1) (ho : e_okVi μ1 1 ci) (hk : q < N) (hM : M q = .inr (ci, fs)) (hw : (S.map fun v => v.category).sum ≤ 8) (hf : (e_sp [.ref q, v1]).length ≤ μ1.2.2.1) (k : Ev N d μ1 none 0 (e_ent μ1.2.2.1 [.ref q, v1]) [] M (fun r1 M1 => Ev N (d + 1) μ X (pc + 3) L (r1.toList ++ S) M1 P)) : Ev N (d + 1) μ X pc L (v1 :: .ref q :: S) M P := by
  obtain ⟨ho, r, hr, hrn⟩ := ho
  exact ev_invV [v1] h hs ho hk hM hr hrn hw hf k
theorem ev_S1 {idx : Nat} {v1 : Value} (h : decode μ.2.1 pc = .ok (.invokestatic idx, 3)) (hs : e_site μ.1.cls idx μ1.1) (ho : e_okT μ1 1) (hw : (S.map fun v => v.category).sum ≤ 8) (hf : (e_sp [v1]).length ≤ μ1.2.2.1) (k : Ev N d μ1 none 0 (e_ent μ1.2.2.1 [v1]) [] M (fun r1 M1 => Ev N (d + 1) μ X (pc + 3) L (r1.toList ++ S) M1 P)) : Ev N (d + 1) μ X pc L (v1 :: S) M P :=
  ev_invS [v1] h hs ho hw hf k
theorem ev_V2 {idx q ci : Nat} {fs : List Value} {v1 v2 : Value} (h : decode μ.2.1 pc = .ok (.invokevirtual idx, 3)) (hs : e_site μ.1.cls idx μ1.1) (ho : e_okVi μ1 2 ci) (hk : q < N) (hM : M q = .inr (ci, fs)) (hw : (S.map fun v => v.category).sum ≤ 8) (hf : (e_sp [.ref q, v1, v2]).length ≤ μ1.2.2.1) (k : Ev N d μ1 none 0 (e_ent μ1.2.2.1 [.ref q, v1, v2]) [] M (fun r1 M1 => Ev N (d + 1) μ X (pc + 3) L (r1.toList ++ S) M1 P)) : Ev N (d + 1) μ X pc L (v2 :: v1 :: .ref q :: S) M P := by
  obtain ⟨ho, r, hr, hrn⟩ := ho
  exact ev_invV [v1, v2] h hs ho hk hM hr hrn hw hf k
theorem ev_S2 {idx : Nat} {v1 v2 : Value} (h : decode μ.2.1 pc = .ok (.invokestatic idx, 3)) (hs : e_site μ.1.cls idx μ1.1) (ho : e_okT μ1 2) (hw : (S.map fun v => v.category).sum ≤ 8) (hf : (e_sp [v1, v2]).length ≤ μ1.2.2.1) (k : Ev N d μ1 none 0 (e_ent μ1.2.2.1 [v1, v2]) [] M (fun r1 M1 => Ev N (d + 1) μ X (pc + 3) L (r1.toList ++ S) M1 P)) : Ev N (d + 1) μ X pc L (v2 :: v1 :: S) M P :=
  ev_invS [v1, v2] h hs ho hw hf k
theorem ev_V3 {idx q ci : Nat} {fs : List Value} {v1 v2 v3 : Value} (h : decode μ.2.1 pc = .ok (.invokevirtual idx, 3)) (hs : e_site μ.1.cls idx μ1.1) (ho : e_okVi μ1 3 ci) (hk : q < N) (hM : M q = .inr (ci, fs)) (hw : (S.map fun v => v.category).sum ≤ 8) (hf : (e_sp [.ref q, v1, v2, v3]).length ≤ μ1.2.2.1) (k : Ev N d μ1 none 0 (e_ent μ1.2.2.1 [.ref q, v1, v2, v3]) [] M (fun r1 M1 => Ev N (d + 1) μ X (pc + 3) L (r1.toList ++ S) M1 P)) : Ev N (d + 1) μ X pc L (v3 :: v2 :: v1 :: .ref q :: S) M P := by
  obtain ⟨ho, r, hr, hrn⟩ := ho
  exact ev_invV [v1, v2, v3] h hs ho hk hM hr hrn hw hf k
theorem ev_S3 {idx : Nat} {v1 v2 v3 : Value} (h : decode μ.2.1 pc = .ok (.invokestatic idx, 3)) (hs : e_site μ.1.cls idx μ1.1) (ho : e_okT μ1 3) (hw : (S.map fun v => v.category).sum ≤ 8) (hf : (e_sp [v1, v2, v3]).length ≤ μ1.2.2.1) (k : Ev N d μ1 none 0 (e_ent μ1.2.2.1 [v1, v2, v3]) [] M (fun r1 M1 => Ev N (d + 1) μ X (pc + 3) L (r1.toList ++ S) M1 P)) : Ev N (d + 1) μ X pc L (v3 :: v2 :: v1 :: S) M P :=
  ev_invS [v1, v2, v3] h hs ho hw hf k
theorem ev_V4 {idx q ci : Nat} {fs : List Value} {v1 v2 v3 v4 : Value} (h : decode μ.2.1 pc = .ok (.invokevirtual idx, 3)) (hs : e_site μ.1.cls idx μ1.1) (ho : e_okVi μ1 4 ci) (hk : q < N) (hM : M q = .inr (ci, fs)) (hw : (S.map fun v => v.category).sum ≤ 8) (hf : (e_sp [.ref q, v1, v2, v3, v4]).length ≤ μ1.2.2.1) (k : Ev N d μ1 none 0 (e_ent μ1.2.2.1 [.ref q, v1, v2, v3, v4]) [] M (fun r1 M1 => Ev N (d + 1) μ X (pc + 3) L (r1.toList ++ S) M1 P)) : Ev N (d + 1) μ X pc L (v4 :: v3 :: v2 :: v1 :: .ref q :: S) M P := by
  obtain ⟨ho, r, hr, hrn⟩ := ho
  exact ev_invV [v1, v2, v3, v4] h hs ho hk hM hr hrn hw hf k
theorem ev_S4 {idx : Nat} {v1 v2 v3 v4 : Value} (h : decode μ.2.1 pc = .ok (.invokestatic idx, 3)) (hs : e_site μ.1.cls idx μ1.1) (ho : e_okT μ1 4) (hw : (S.map fun v => v.category).sum ≤ 8) (hf : (e_sp [v1, v2, v3, v4]).length ≤ μ1.2.2.1) (k : Ev N d μ1 none 0 (e_ent μ1.2.2.1 [v1, v2, v3, v4]) [] M (fun r1 M1 => Ev N (d + 1) μ X (pc + 3) L (r1.toList ++ S) M1 P)) : Ev N (d + 1) μ X pc L (v4 :: v3 :: v2 :: v1 :: S) M P :=
  ev_invS [v1, v2, v3, v4] h hs ho hw hf k
end EVW
abbrev mX7_init : mI := (yX7_init, cX7_init, 1, none)
abbrev mX5_init : mI := (yX5_init, cX5_init, 1, none)
abbrev mX1_init : mI := (yX1_init, cX1_init, 1, none)
abbrev mX3_init : mI := (yX3_init, cX3_init, 1, none)
abbrev mX3_renew : mI := (yX3_renew, cX3_renew, 2, none)
abbrev mX3_clean : mI := (yX3_clean, cX3_clean, 2, none)
abbrev mX7_isCell : mI := (yX7_isCell, cX7_isCell, 1, some .boolean)
abbrev mX0_init : mI := (yX0_init, cX0_init, 2, none)
abbrev mX2_init : mI := (yX2_init, cX2_init, 1, none)
abbrev mX4_init : mI := (yX4_init, cX4_init, 2, none)
abbrev mX6_init : mI := (yX6_init, cX6_init, 1, none)
abbrev mX7_write : mI := (yX7_write, cX7_write, 2, some .int)
abbrev mX5_append : mI := (yX5_append, cX5_append, 2, some .boolean)
abbrev mX7_wipe : mI := (yX7_wipe, cX7_wipe, 2, some .int)
abbrev mX7_fault : mI := (yX7_fault, cX7_fault, 1, some .int)
abbrev mX5_firstFault : mI := (yX5_firstFault, cX5_firstFault, 2, some .int)
abbrev mX5_isRight : mI := (yX5_isRight, cX5_isRight, 2, some .boolean)
abbrev mX5_byteAt : mI := (yX5_byteAt, cX5_byteAt, 2, some .int)
abbrev mX5_isFigure : mI := (yX5_isFigure, cX5_isFigure, 4, some .boolean)
abbrev mX5_figureAt : mI := (yX5_figureAt, cX5_figureAt, 2, some .int)
abbrev mX7_office : mI := (yX7_office, cX7_office, 1, some .int)
abbrev mX7_readLetters : mI := (yX7_readLetters, cX7_readLetters, 2, none)
abbrev mX1_add : mI := (yX1_add, cX1_add, 5, none)
abbrev mX1_forceBy : mI := (yX1_forceBy, cX1_forceBy, 2, some .int)
abbrev mX1_marksBy : mI := (yX1_marksBy, cX1_marksBy, 4, some .int)
abbrev mX0_forget : mI := (yX0_forget, cX0_forget, 1, none)
abbrev mX4_forget : mI := (yX4_forget, cX4_forget, 1, none)
abbrev mX7_about : mI := (yX7_about, cX7_about, 2, some .int)
abbrev mX3_shownIn : mI := (yX3_shownIn, cX3_shownIn, 4, some .int)
abbrev mX3_allInk : mI := (yX3_allInk, cX3_allInk, 3, some .int)
abbrev mX1_readable : mI := (yX1_readable, cX1_readable, 4, some .int)
abbrev mX1_canBeRead : mI := (yX1_canBeRead, cX1_canBeRead, 3, some .boolean)
abbrev mX1_has : mI := (yX1_has, cX1_has, 2, some .boolean)
abbrev mX3_onTop : mI := (yX3_onTop, cX3_onTop, 3, some .int)
abbrev mX7_letter : mI := (yX7_letter, cX7_letter, 3, some .int)
abbrev mX1_placeOf : mI := (yX1_placeOf, cX1_placeOf, 2, some .int)
abbrev mX1_handOf : mI := (yX1_handOf, cX1_handOf, 2, some .int)
abbrev mX1_forceOf : mI := (yX1_forceOf, cX1_forceOf, 2, some .int)
abbrev mX1_cellsOf : mI := (yX1_cellsOf, cX1_cellsOf, 2, some .int)
abbrev mX7_cell : mI := (yX7_cell, cX7_cell, 3, some .int)
abbrev mX3_inkAt : mI := (yX3_inkAt, cX3_inkAt, 2, some .int)
abbrev mX3_topAt : mI := (yX3_topAt, cX3_topAt, 2, some .int)
abbrev mX7_press : mI := (yX7_press, cX7_press, 2, some .int)
abbrev mX0_remember : mI := (yX0_remember, cX0_remember, 2, none)
abbrev mX0_sheetAt : mI := (yX0_sheetAt, cX0_sheetAt, 3, some (.object "BlottedFirst$Sheet"))
abbrev mX7_copy : mI := (yX7_copy, cX7_copy, 3, none)
abbrev mX3_addInk : mI := (yX3_addInk, cX3_addInk, 5, none)
abbrev mJ9_min_7cf53 : mI := (yJ9_min_7cf53, cJ9_min_7cf53, 2, some .int)
abbrev mJ6_bitCount_0f7a4 : mI := (yJ6_bitCount_0f7a4, cJ6_bitCount_0f7a4, 1, some .int)
abbrev mX7_day : mI := (yX7_day, cX7_day, 1, some .int)
abbrev mX3_dry : mI := (yX3_dry, cX3_dry, 2, none)
abbrev mX7_rub : mI := (yX7_rub, cX7_rub, 3, some .int)
abbrev mX7_change : mI := (yX7_change, cX7_change, 2, some .int)
abbrev mX7_undo : mI := (yX7_undo, cX7_undo, 1, some .int)
abbrev mX0_takeBack : mI := (yX0_takeBack, cX0_takeBack, 2, some .boolean)
abbrev mX7_later : mI := (yX7_later, cX7_later, 2, some .int)
abbrev mX7_lasts : mI := (yX7_lasts, cX7_lasts, 3, some .int)
abbrev mX7_shows : mI := (yX7_shows, cX7_shows, 2, some .int)
abbrev mX1_all : mI := (yX1_all, cX1_all, 1, some .int)
abbrev mX1_shownBy : mI := (yX1_shownBy, cX1_shownBy, 4, some .int)
abbrev mX7_fits : mI := (yX7_fits, cX7_fits, 7, some .int)
abbrev mX7_told : mI := (yX7_told, cX7_told, 4, some .int)
abbrev mX7_keeps : mI := (yX7_keeps, cX7_keeps, 4, some .int)
abbrev mX7_keepsMore : mI := (yX7_keepsMore, cX7_keepsMore, 4, some .boolean)
abbrev mX7_readOf : mI := (yX7_readOf, cX7_readOf, 2, some .int)
abbrev mX7_twice : mI := (yX7_twice, cX7_twice, 6, some .int)
abbrev mX6_start : mI := (yX6_start, cX6_start, 2, none)
abbrev mX7_power : mI := (yX7_power, cX7_power, 4, some .int)
abbrev mX7_timesGiveTheInk : mI := (yX7_timesGiveTheInk, cX7_timesGiveTheInk, 2, some .boolean)
abbrev mX7_inkByTimes : mI := (yX7_inkByTimes, cX7_inkByTimes, 4, some .int)
abbrev mX6_howOften : mI := (yX6_howOften, cX6_howOften, 2, some .int)
abbrev mX6_lettersThere : mI := (yX6_lettersThere, cX6_lettersThere, 4, some .int)
abbrev mX6_next : mI := (yX6_next, cX6_next, 2, none)
abbrev mX7_crossed : mI := (yX7_crossed, cX7_crossed, 7, some .int)
abbrev mX7_leastThird : mI := (yX7_leastThird, cX7_leastThird, 5, some .int)
abbrev mX7_least : mI := (yX7_least, cX7_least, 6, some .int)
abbrev mX7_share : mI := (yX7_share, cX7_share, 7, some .int)
abbrev mX1_showing : mI := (yX1_showing, cX1_showing, 4, some .int)
abbrev mX7_leastTerms : mI := (yX7_leastTerms, cX7_leastTerms, 5, some .int)
abbrev mX7_commonDivisor : mI := (yX7_commonDivisor, cX7_commonDivisor, 6, some .int)
abbrev mX7_tell : mI := (yX7_tell, cX7_tell, 3, some .int)
abbrev mX2_add : mI := (yX2_add, cX2_add, 3, some .boolean)
abbrev mX7_untell : mI := (yX7_untell, cX7_untell, 2, some .int)
abbrev mX7_orders : mI := (yX7_orders, cX7_orders, 2, some .int)
abbrev mX2_howManyOrders : mI := (yX2_howManyOrders, cX2_howManyOrders, 6, some .int)
abbrev mX2_canFollow : mI := (yX2_canFollow, cX2_canFollow, 4, some .boolean)
abbrev mX2_setBelow : mI := (yX2_setBelow, cX2_setBelow, 5, some .int)
abbrev mX2_firstOrder : mI := (yX2_firstOrder, cX2_firstOrder, 6, some .int)
abbrev mX2_leastNext : mI := (yX2_leastNext, cX2_leastNext, 4, some .int)
abbrev mX7_rests : mI := (yX7_rests, cX7_rests, 8, some .int)
abbrev mX7_isAtRest : mI := (yX7_isAtRest, cX7_isAtRest, 4, some .boolean)
abbrev mX7_canPressBy : mI := (yX7_canPressBy, cX7_canPressBy, 2, some .boolean)
abbrev mX7_clerkHas : mI := (yX7_clerkHas, cX7_clerkHas, 2, some .int)
abbrev mX7_isSeen : mI := (yX7_isSeen, cX7_isSeen, 2, some .boolean)
abbrev mX7_auditorHas : mI := (yX7_auditorHas, cX7_auditorHas, 2, some .int)
abbrev mX7_chance : mI := (yX7_chance, cX7_chance, 8, some .int)
abbrev mX1_windowOf : mI := (yX1_windowOf, cX1_windowOf, 2, some .int)
abbrev mX7_seed : mI := (yX7_seed, cX7_seed, 5, some .long)
abbrev mX7_years : mI := (yX7_years, cX7_years, 4, some .int)
abbrev mX7_befall : mI := (yX7_befall, cX7_befall, 2, none)
abbrev mX7_keep : mI := (yX7_keep, cX7_keep, 2, some .int)
abbrev mX4_store : mI := (yX4_store, cX4_store, 3, none)
abbrev mX7_again : mI := (yX7_again, cX7_again, 2, some .int)
abbrev mX4_load : mI := (yX4_load, cX4_load, 3, some .boolean)
abbrev mX8_init : mI := (yX8_init, cX8_init, 1, none)
abbrev mX8_clean : mI := (yX8_clean, cX8_clean, 2, none)
abbrev mX8_write : mI := (yX8_write, cX8_write, 2, some .int)
abbrev mX8_in : mI := (yX8_in, cX8_in, 6, some .boolean)
abbrev mX8_wipe : mI := (yX8_wipe, cX8_wipe, 2, some .int)
abbrev mX8_fault : mI := (yX8_fault, cX8_fault, 1, some .int)
abbrev mX8_readOffice : mI := (yX8_readOffice, cX8_readOffice, 3, some .int)
abbrev mX8_figure : mI := (yX8_figure, cX8_figure, 3, some .int)
abbrev mX8_office : mI := (yX8_office, cX8_office, 5, some .int)
abbrev mX8_about : mI := (yX8_about, cX8_about, 5, some .int)
abbrev mX8_shown : mI := (yX8_shown, cX8_shown, 3, some .int)
abbrev mX8_readBy : mI := (yX8_readBy, cX8_readBy, 4, some .int)
abbrev mX8_isRead : mI := (yX8_isRead, cX8_isRead, 3, some .boolean)
abbrev mX8_letter : mI := (yX8_letter, cX8_letter, 3, some .int)
abbrev mX8_noLetter : mI := (yX8_noLetter, cX8_noLetter, 2, some .boolean)
abbrev mX8_cell : mI := (yX8_cell, cX8_cell, 3, some .int)
abbrev mX8_noCell : mI := (yX8_noCell, cX8_noCell, 1, some .boolean)
abbrev mX8_press : mI := (yX8_press, cX8_press, 2, some .int)
abbrev mX8_note : mI := (yX8_note, cX8_note, 2, none)
abbrev mX8_goPress : mI := (yX8_goPress, cX8_goPress, 4, none)
abbrev mX8_has : mI := (yX8_has, cX8_has, 2, some .boolean)
abbrev mX8_many : mI := (yX8_many, cX8_many, 3, some .int)
abbrev mX8_day : mI := (yX8_day, cX8_day, 1, some .int)
abbrev mX8_goDay : mI := (yX8_goDay, cX8_goDay, 2, none)
abbrev mX8_rub : mI := (yX8_rub, cX8_rub, 3, some .int)
abbrev mX8_change : mI := (yX8_change, cX8_change, 2, some .int)
abbrev mX8_undo : mI := (yX8_undo, cX8_undo, 2, some .int)
abbrev mX8_later : mI := (yX8_later, cX8_later, 2, some .int)
abbrev mX8_shownIn : mI := (yX8_shownIn, cX8_shownIn, 4, some .int)
abbrev mX8_lasts : mI := (yX8_lasts, cX8_lasts, 3, some .int)
abbrev mX8_shows : mI := (yX8_shows, cX8_shows, 2, some .int)
abbrev mX8_everyone : mI := (yX8_everyone, cX8_everyone, 1, some .int)
abbrev mX8_showsBy : mI := (yX8_showsBy, cX8_showsBy, 4, some .int)
abbrev mX8_fits : mI := (yX8_fits, cX8_fits, 3, some .int)
abbrev mX8_found : mI := (yX8_found, cX8_found, 2, some .int)
abbrev mX8_keeps : mI := (yX8_keeps, cX8_keeps, 7, some .int)
abbrev mX8_twice : mI := (yX8_twice, cX8_twice, 5, some .int)
abbrev mX8_power : mI := (yX8_power, cX8_power, 4, some .int)
abbrev mX8_isInk : mI := (yX8_isInk, cX8_isInk, 6, some .boolean)
abbrev mX8_crossed : mI := (yX8_crossed, cX8_crossed, 8, some .int)
abbrev mX8_least : mI := (yX8_least, cX8_least, 5, some .int)
abbrev mX8_share : mI := (yX8_share, cX8_share, 6, some .int)
abbrev mX8_ways : mI := (yX8_ways, cX8_ways, 3, some .int)
abbrev mX8_fraction : mI := (yX8_fraction, cX8_fraction, 4, some .int)
abbrev mX8_divisor : mI := (yX8_divisor, cX8_divisor, 5, some .int)
abbrev mX8_tell : mI := (yX8_tell, cX8_tell, 3, some .int)
abbrev mX8_untell : mI := (yX8_untell, cX8_untell, 2, some .int)
abbrev mX8_orders : mI := (yX8_orders, cX8_orders, 5, some .int)
abbrev mX8_isOver : mI := (yX8_isOver, cX8_isOver, 4, some .boolean)
abbrev mX8_placeOf : mI := (yX8_placeOf, cX8_placeOf, 4, some .int)
abbrev mX8_goOrder : mI := (yX8_goOrder, cX8_goOrder, 6, some .boolean)
abbrev mX8_rests : mI := (yX8_rests, cX8_rests, 11, some .int)
abbrev mX8_clerk : mI := (yX8_clerk, cX8_clerk, 2, some .int)
abbrev mX8_auditor : mI := (yX8_auditor, cX8_auditor, 2, some .int)
abbrev mX8_chance : mI := (yX8_chance, cX8_chance, 8, some .int)
abbrev mX8_seed : mI := (yX8_seed, cX8_seed, 5, some .long)
abbrev mX8_years : mI := (yX8_years, cX8_years, 5, some .int)
abbrev mX8_keep : mI := (yX8_keep, cX8_keep, 3, some .int)
abbrev mX8_again : mI := (yX8_again, cX8_again, 3, some .int)
theorem okX3_renew : e_okVi mX3_renew 0 3 := ⟨⟨⟨(e_bg (e_in1 67 rfl) rfl), (e_bg (e_in1 4 rfl) rfl), ⟨by decide +kernel, by decide +kernel, by decide +kernel⟩, by decide, by decide +kernel⟩, (e_bg (e_in1 66 rfl) rfl), (e_bg (e_in0 0 rfl) rfl)⟩, ⟨(RX3, TX3, 3), rfl, rfl⟩⟩
theorem okX3_clean : e_okVi mX3_clean 1 3 := ⟨⟨⟨(e_bg (e_in1 71 rfl) rfl), (e_bg (e_in1 4 rfl) rfl), ⟨by decide +kernel, by decide +kernel, by decide +kernel⟩, by decide, by decide +kernel⟩, (e_bg (e_in1 70 rfl) rfl), (e_bg (e_in0 1 rfl) rfl)⟩, ⟨(RX3, TX3, 3), rfl, rfl⟩⟩
theorem okX7_isCell : e_okT mX7_isCell 1 := ⟨⟨(e_bg (e_in1 74 rfl) rfl), (e_bg (e_in1 1 rfl) rfl), ⟨by decide +kernel, by decide +kernel, by decide +kernel⟩, by decide, by decide +kernel⟩, (e_bg (e_in1 73 rfl) rfl)⟩
theorem okX7_write : e_okVi mX7_write 1 7 := ⟨⟨⟨(e_bg (e_in1 184 rfl) rfl), (e_bg (e_in1 1 rfl) rfl), ⟨by decide +kernel, by decide +kernel, by decide +kernel⟩, by decide, by decide +kernel⟩, (e_bg (e_in1 182 rfl) rfl), (e_bg (e_in1 183 rfl) rfl)⟩, ⟨(RX7, TX7, 9), rfl, rfl⟩⟩
theorem okX5_append : e_okVi mX5_append 1 5 := ⟨⟨⟨(e_bg (e_in1 188 rfl) rfl), (e_bg (e_in1 2 rfl) rfl), ⟨by decide +kernel, by decide +kernel, by decide +kernel⟩, by decide, by decide +kernel⟩, (e_bg (e_in1 187 rfl) rfl), (e_bg (e_in0 2 rfl) rfl)⟩, ⟨(RX5, TX5, 2), rfl, rfl⟩⟩
theorem okX7_wipe : e_okVi mX7_wipe 0 7 := ⟨⟨⟨(e_bg (e_in1 192 rfl) rfl), (e_bg (e_in1 1 rfl) rfl), ⟨by decide +kernel, by decide +kernel, by decide +kernel⟩, by decide, by decide +kernel⟩, (e_bg (e_in1 190 rfl) rfl), (e_bg (e_in1 191 rfl) rfl)⟩, ⟨(RX7, TX7, 9), rfl, rfl⟩⟩
theorem okX7_fault : e_okVi mX7_fault 0 7 := ⟨⟨⟨(e_bg (e_in1 196 rfl) rfl), (e_bg (e_in1 1 rfl) rfl), ⟨by decide +kernel, by decide +kernel, by decide +kernel⟩, by decide, by decide +kernel⟩, (e_bg (e_in1 194 rfl) rfl), (e_bg (e_in1 195 rfl) rfl)⟩, ⟨(RX7, TX7, 9), rfl, rfl⟩⟩
theorem okX5_firstFault : e_okVi mX5_firstFault 0 5 := ⟨⟨⟨(e_bg (e_in1 200 rfl) rfl), (e_bg (e_in1 2 rfl) rfl), ⟨by decide +kernel, by decide +kernel, by decide +kernel⟩, by decide, by decide +kernel⟩, (e_bg (e_in1 199 rfl) rfl), (e_bg (e_in0 3 rfl) rfl)⟩, ⟨(RX5, TX5, 2), rfl, rfl⟩⟩
theorem okX5_isRight : e_okVi mX5_isRight 1 5 := ⟨⟨⟨(e_bg (e_in1 204 rfl) rfl), (e_bg (e_in1 2 rfl) rfl), ⟨by decide +kernel, by decide +kernel, by decide +kernel⟩, by decide, by decide +kernel⟩, (e_bg (e_in1 203 rfl) rfl), (e_bg (e_in0 4 rfl) rfl)⟩, ⟨(RX5, TX5, 2), rfl, rfl⟩⟩
theorem okX5_byteAt : e_okVi mX5_byteAt 1 5 := ⟨⟨⟨(e_bg (e_in1 208 rfl) rfl), (e_bg (e_in1 2 rfl) rfl), ⟨by decide +kernel, by decide +kernel, by decide +kernel⟩, by decide, by decide +kernel⟩, (e_bg (e_in1 207 rfl) rfl), (e_bg (e_in0 5 rfl) rfl)⟩, ⟨(RX5, TX5, 2), rfl, rfl⟩⟩
theorem okX5_isFigure : e_okVi mX5_isFigure 3 5 := ⟨⟨⟨(e_bg (e_in1 212 rfl) rfl), (e_bg (e_in1 2 rfl) rfl), ⟨by decide +kernel, by decide +kernel, by decide +kernel⟩, by decide, by decide +kernel⟩, (e_bg (e_in1 211 rfl) rfl), (e_bg (e_in0 6 rfl) rfl)⟩, ⟨(RX5, TX5, 2), rfl, rfl⟩⟩
theorem okX5_figureAt : e_okVi mX5_figureAt 1 5 := ⟨⟨⟨(e_bg (e_in1 216 rfl) rfl), (e_bg (e_in1 2 rfl) rfl), ⟨by decide +kernel, by decide +kernel, by decide +kernel⟩, by decide, by decide +kernel⟩, (e_bg (e_in1 215 rfl) rfl), (e_bg (e_in0 7 rfl) rfl)⟩, ⟨(RX5, TX5, 2), rfl, rfl⟩⟩
theorem okX7_office : e_okVi mX7_office 0 7 := ⟨⟨⟨(e_bg (e_in1 220 rfl) rfl), (e_bg (e_in1 1 rfl) rfl), ⟨by decide +kernel, by decide +kernel, by decide +kernel⟩, by decide, by decide +kernel⟩, (e_bg (e_in1 218 rfl) rfl), (e_bg (e_in1 219 rfl) rfl)⟩, ⟨(RX7, TX7, 9), rfl, rfl⟩⟩
theorem okX7_readLetters : e_okVi mX7_readLetters 0 7 := ⟨⟨⟨(e_bg (e_in1 224 rfl) rfl), (e_bg (e_in1 1 rfl) rfl), ⟨by decide +kernel, by decide +kernel, by decide +kernel⟩, by decide, by decide +kernel⟩, (e_bg (e_in1 223 rfl) rfl), (e_bg (e_in0 8 rfl) rfl)⟩, ⟨(RX7, TX7, 9), rfl, rfl⟩⟩
theorem okX1_add : e_okVi mX1_add 4 1 := ⟨⟨⟨(e_bg (e_in1 229 rfl) rfl), (e_bg (e_in1 3 rfl) rfl), ⟨by decide +kernel, by decide +kernel, by decide +kernel⟩, by decide, by decide +kernel⟩, (e_bg (e_in1 228 rfl) rfl), (e_bg (e_in0 9 rfl) rfl)⟩, ⟨(RX1, TX1, 5), rfl, rfl⟩⟩
theorem okX1_forceBy : e_okT mX1_forceBy 2 := ⟨⟨(e_bg (e_in1 232 rfl) rfl), (e_bg (e_in1 3 rfl) rfl), ⟨by decide +kernel, by decide +kernel, by decide +kernel⟩, by decide, by decide +kernel⟩, (e_bg (e_in1 231 rfl) rfl)⟩
theorem okX1_marksBy : e_okT mX1_marksBy 2 := ⟨⟨(e_bg (e_in1 235 rfl) rfl), (e_bg (e_in1 3 rfl) rfl), ⟨by decide +kernel, by decide +kernel, by decide +kernel⟩, by decide, by decide +kernel⟩, (e_bg (e_in1 234 rfl) rfl)⟩
theorem okX0_forget : e_okVi mX0_forget 0 0 := ⟨⟨⟨(e_bg (e_in2 0 rfl) rfl), (e_bg (e_in1 5 rfl) rfl), ⟨by decide +kernel, by decide +kernel, by decide +kernel⟩, by decide, by decide +kernel⟩, (e_bg (e_in1 239 rfl) rfl), (e_bg (e_in0 10 rfl) rfl)⟩, ⟨(RX0, TX0, 3), rfl, rfl⟩⟩
theorem okX4_forget : e_okVi mX4_forget 0 4 := ⟨⟨⟨(e_bg (e_in2 4 rfl) rfl), (e_bg (e_in1 7 rfl) rfl), ⟨by decide +kernel, by decide +kernel, by decide +kernel⟩, by decide, by decide +kernel⟩, (e_bg (e_in2 3 rfl) rfl), (e_bg (e_in0 11 rfl) rfl)⟩, ⟨(RX4, TX4, 2), rfl, rfl⟩⟩
theorem okX7_about : e_okVi mX7_about 1 7 := ⟨⟨⟨(e_bg (e_in2 8 rfl) rfl), (e_bg (e_in1 1 rfl) rfl), ⟨by decide +kernel, by decide +kernel, by decide +kernel⟩, by decide, by decide +kernel⟩, (e_bg (e_in2 6 rfl) rfl), (e_bg (e_in2 7 rfl) rfl)⟩, ⟨(RX7, TX7, 9), rfl, rfl⟩⟩
theorem okX3_shownIn : e_okVi mX3_shownIn 1 3 := ⟨⟨⟨(e_bg (e_in2 12 rfl) rfl), (e_bg (e_in1 4 rfl) rfl), ⟨by decide +kernel, by decide +kernel, by decide +kernel⟩, by decide, by decide +kernel⟩, (e_bg (e_in2 11 rfl) rfl), (e_bg (e_in0 12 rfl) rfl)⟩, ⟨(RX3, TX3, 3), rfl, rfl⟩⟩
theorem okX3_allInk : e_okVi mX3_allInk 0 3 := ⟨⟨⟨(e_bg (e_in2 16 rfl) rfl), (e_bg (e_in1 4 rfl) rfl), ⟨by decide +kernel, by decide +kernel, by decide +kernel⟩, by decide, by decide +kernel⟩, (e_bg (e_in2 15 rfl) rfl), (e_bg (e_in0 13 rfl) rfl)⟩, ⟨(RX3, TX3, 3), rfl, rfl⟩⟩
theorem okX1_readable : e_okVi mX1_readable 1 1 := ⟨⟨⟨(e_bg (e_in2 20 rfl) rfl), (e_bg (e_in1 3 rfl) rfl), ⟨by decide +kernel, by decide +kernel, by decide +kernel⟩, by decide, by decide +kernel⟩, (e_bg (e_in2 19 rfl) rfl), (e_bg (e_in0 14 rfl) rfl)⟩, ⟨(RX1, TX1, 5), rfl, rfl⟩⟩
theorem okX1_canBeRead : e_okVi mX1_canBeRead 2 1 := ⟨⟨⟨(e_bg (e_in2 24 rfl) rfl), (e_bg (e_in1 3 rfl) rfl), ⟨by decide +kernel, by decide +kernel, by decide +kernel⟩, by decide, by decide +kernel⟩, (e_bg (e_in2 23 rfl) rfl), (e_bg (e_in0 15 rfl) rfl)⟩, ⟨(RX1, TX1, 5), rfl, rfl⟩⟩
theorem okX1_has : e_okVi mX1_has 1 1 := ⟨⟨⟨(e_bg (e_in2 28 rfl) rfl), (e_bg (e_in1 3 rfl) rfl), ⟨by decide +kernel, by decide +kernel, by decide +kernel⟩, by decide, by decide +kernel⟩, (e_bg (e_in2 27 rfl) rfl), (e_bg (e_in0 16 rfl) rfl)⟩, ⟨(RX1, TX1, 5), rfl, rfl⟩⟩
theorem okX3_onTop : e_okVi mX3_onTop 0 3 := ⟨⟨⟨(e_bg (e_in2 32 rfl) rfl), (e_bg (e_in1 4 rfl) rfl), ⟨by decide +kernel, by decide +kernel, by decide +kernel⟩, by decide, by decide +kernel⟩, (e_bg (e_in2 31 rfl) rfl), (e_bg (e_in0 17 rfl) rfl)⟩, ⟨(RX3, TX3, 3), rfl, rfl⟩⟩
theorem okX7_letter : e_okVi mX7_letter 2 7 := ⟨⟨⟨(e_bg (e_in2 36 rfl) rfl), (e_bg (e_in1 1 rfl) rfl), ⟨by decide +kernel, by decide +kernel, by decide +kernel⟩, by decide, by decide +kernel⟩, (e_bg (e_in2 34 rfl) rfl), (e_bg (e_in2 35 rfl) rfl)⟩, ⟨(RX7, TX7, 9), rfl, rfl⟩⟩
theorem okX1_placeOf : e_okVi mX1_placeOf 1 1 := ⟨⟨⟨(e_bg (e_in2 41 rfl) rfl), (e_bg (e_in1 3 rfl) rfl), ⟨by decide +kernel, by decide +kernel, by decide +kernel⟩, by decide, by decide +kernel⟩, (e_bg (e_in2 40 rfl) rfl), (e_bg (e_in0 18 rfl) rfl)⟩, ⟨(RX1, TX1, 5), rfl, rfl⟩⟩
theorem okX1_handOf : e_okVi mX1_handOf 1 1 := ⟨⟨⟨(e_bg (e_in2 45 rfl) rfl), (e_bg (e_in1 3 rfl) rfl), ⟨by decide +kernel, by decide +kernel, by decide +kernel⟩, by decide, by decide +kernel⟩, (e_bg (e_in2 44 rfl) rfl), (e_bg (e_in0 19 rfl) rfl)⟩, ⟨(RX1, TX1, 5), rfl, rfl⟩⟩
theorem okX1_forceOf : e_okVi mX1_forceOf 1 1 := ⟨⟨⟨(e_bg (e_in2 49 rfl) rfl), (e_bg (e_in1 3 rfl) rfl), ⟨by decide +kernel, by decide +kernel, by decide +kernel⟩, by decide, by decide +kernel⟩, (e_bg (e_in2 48 rfl) rfl), (e_bg (e_in0 20 rfl) rfl)⟩, ⟨(RX1, TX1, 5), rfl, rfl⟩⟩
theorem okX1_cellsOf : e_okVi mX1_cellsOf 1 1 := ⟨⟨⟨(e_bg (e_in2 53 rfl) rfl), (e_bg (e_in1 3 rfl) rfl), ⟨by decide +kernel, by decide +kernel, by decide +kernel⟩, by decide, by decide +kernel⟩, (e_bg (e_in2 52 rfl) rfl), (e_bg (e_in0 21 rfl) rfl)⟩, ⟨(RX1, TX1, 5), rfl, rfl⟩⟩
theorem okX7_cell : e_okVi mX7_cell 2 7 := ⟨⟨⟨(e_bg (e_in2 58 rfl) rfl), (e_bg (e_in1 1 rfl) rfl), ⟨by decide +kernel, by decide +kernel, by decide +kernel⟩, by decide, by decide +kernel⟩, (e_bg (e_in2 56 rfl) rfl), (e_bg (e_in2 57 rfl) rfl)⟩, ⟨(RX7, TX7, 9), rfl, rfl⟩⟩
theorem okX3_inkAt : e_okVi mX3_inkAt 1 3 := ⟨⟨⟨(e_bg (e_in2 63 rfl) rfl), (e_bg (e_in1 4 rfl) rfl), ⟨by decide +kernel, by decide +kernel, by decide +kernel⟩, by decide, by decide +kernel⟩, (e_bg (e_in2 62 rfl) rfl), (e_bg (e_in0 22 rfl) rfl)⟩, ⟨(RX3, TX3, 3), rfl, rfl⟩⟩
theorem okX3_topAt : e_okVi mX3_topAt 1 3 := ⟨⟨⟨(e_bg (e_in2 67 rfl) rfl), (e_bg (e_in1 4 rfl) rfl), ⟨by decide +kernel, by decide +kernel, by decide +kernel⟩, by decide, by decide +kernel⟩, (e_bg (e_in2 66 rfl) rfl), (e_bg (e_in0 23 rfl) rfl)⟩, ⟨(RX3, TX3, 3), rfl, rfl⟩⟩
theorem okX7_press : e_okVi mX7_press 1 7 := ⟨⟨⟨(e_bg (e_in2 71 rfl) rfl), (e_bg (e_in1 1 rfl) rfl), ⟨by decide +kernel, by decide +kernel, by decide +kernel⟩, by decide, by decide +kernel⟩, (e_bg (e_in2 69 rfl) rfl), (e_bg (e_in2 70 rfl) rfl)⟩, ⟨(RX7, TX7, 9), rfl, rfl⟩⟩
theorem okX0_remember : e_okVi mX0_remember 1 0 := ⟨⟨⟨(e_bg (e_in2 75 rfl) rfl), (e_bg (e_in1 5 rfl) rfl), ⟨by decide +kernel, by decide +kernel, by decide +kernel⟩, by decide, by decide +kernel⟩, (e_bg (e_in2 74 rfl) rfl), (e_bg (e_in0 24 rfl) rfl)⟩, ⟨(RX0, TX0, 3), rfl, rfl⟩⟩
theorem okX0_sheetAt : e_okVi mX0_sheetAt 1 0 := ⟨⟨⟨(e_bg (e_in2 79 rfl) rfl), (e_bg (e_in1 5 rfl) rfl), ⟨by decide +kernel, by decide +kernel, by decide +kernel⟩, by decide, by decide +kernel⟩, (e_bg (e_in2 78 rfl) rfl), (e_bg (e_in0 25 rfl) rfl)⟩, ⟨(RX0, TX0, 3), rfl, rfl⟩⟩
theorem okX7_copy : e_okT mX7_copy 2 := ⟨⟨(e_bg (e_in2 82 rfl) rfl), (e_bg (e_in1 1 rfl) rfl), ⟨by decide +kernel, by decide +kernel, by decide +kernel⟩, by decide, by decide +kernel⟩, (e_bg (e_in2 81 rfl) rfl)⟩
theorem okX3_addInk : e_okVi mX3_addInk 3 3 := ⟨⟨⟨(e_bg (e_in2 86 rfl) rfl), (e_bg (e_in1 4 rfl) rfl), ⟨by decide +kernel, by decide +kernel, by decide +kernel⟩, by decide, by decide +kernel⟩, (e_bg (e_in2 85 rfl) rfl), (e_bg (e_in0 26 rfl) rfl)⟩, ⟨(RX3, TX3, 3), rfl, rfl⟩⟩
theorem j_min1 : Cond.static Lib.Math.min.name ∈ e_big := (e_bg (e_in2 88 rfl) rfl)
theorem j_min2 : Cond.initialized "java/lang/Math" ∈ e_big := (e_bg (e_in1 10 rfl) rfl)
theorem j_min3 : Cond.code Lib.Math.min.name Lib.Math.min.code 2 (some .int) ∈ e_big := (e_bg (e_in2 89 rfl) rfl)
theorem okJ6_bitCount_0f7a4 : e_okT mJ6_bitCount_0f7a4 1 := ⟨⟨(e_bg (e_in2 92 rfl) rfl), (e_bg (e_in1 11 rfl) rfl), ⟨by decide +kernel, by decide +kernel, by decide +kernel⟩, by decide, by decide +kernel⟩, (e_bg (e_in2 91 rfl) rfl)⟩
theorem okX7_day : e_okVi mX7_day 0 7 := ⟨⟨⟨(e_bg (e_in2 99 rfl) rfl), (e_bg (e_in1 1 rfl) rfl), ⟨by decide +kernel, by decide +kernel, by decide +kernel⟩, by decide, by decide +kernel⟩, (e_bg (e_in2 97 rfl) rfl), (e_bg (e_in2 98 rfl) rfl)⟩, ⟨(RX7, TX7, 9), rfl, rfl⟩⟩
theorem okX3_dry : e_okVi mX3_dry 0 3 := ⟨⟨⟨(e_bg (e_in2 103 rfl) rfl), (e_bg (e_in1 4 rfl) rfl), ⟨by decide +kernel, by decide +kernel, by decide +kernel⟩, by decide, by decide +kernel⟩, (e_bg (e_in2 102 rfl) rfl), (e_bg (e_in0 27 rfl) rfl)⟩, ⟨(RX3, TX3, 3), rfl, rfl⟩⟩
theorem okX7_rub : e_okVi mX7_rub 1 7 := ⟨⟨⟨(e_bg (e_in2 107 rfl) rfl), (e_bg (e_in1 1 rfl) rfl), ⟨by decide +kernel, by decide +kernel, by decide +kernel⟩, by decide, by decide +kernel⟩, (e_bg (e_in2 105 rfl) rfl), (e_bg (e_in2 106 rfl) rfl)⟩, ⟨(RX7, TX7, 9), rfl, rfl⟩⟩
theorem okX7_change : e_okVi mX7_change 0 7 := ⟨⟨⟨(e_bg (e_in2 112 rfl) rfl), (e_bg (e_in1 1 rfl) rfl), ⟨by decide +kernel, by decide +kernel, by decide +kernel⟩, by decide, by decide +kernel⟩, (e_bg (e_in2 110 rfl) rfl), (e_bg (e_in2 111 rfl) rfl)⟩, ⟨(RX7, TX7, 9), rfl, rfl⟩⟩
theorem okX7_undo : e_okVi mX7_undo 0 7 := ⟨⟨⟨(e_bg (e_in2 116 rfl) rfl), (e_bg (e_in1 1 rfl) rfl), ⟨by decide +kernel, by decide +kernel, by decide +kernel⟩, by decide, by decide +kernel⟩, (e_bg (e_in2 114 rfl) rfl), (e_bg (e_in2 115 rfl) rfl)⟩, ⟨(RX7, TX7, 9), rfl, rfl⟩⟩
theorem okX0_takeBack : e_okVi mX0_takeBack 1 0 := ⟨⟨⟨(e_bg (e_in2 120 rfl) rfl), (e_bg (e_in1 5 rfl) rfl), ⟨by decide +kernel, by decide +kernel, by decide +kernel⟩, by decide, by decide +kernel⟩, (e_bg (e_in2 119 rfl) rfl), (e_bg (e_in0 28 rfl) rfl)⟩, ⟨(RX0, TX0, 3), rfl, rfl⟩⟩
theorem okX7_later : e_okVi mX7_later 1 7 := ⟨⟨⟨(e_bg (e_in2 124 rfl) rfl), (e_bg (e_in1 1 rfl) rfl), ⟨by decide +kernel, by decide +kernel, by decide +kernel⟩, by decide, by decide +kernel⟩, (e_bg (e_in2 122 rfl) rfl), (e_bg (e_in2 123 rfl) rfl)⟩, ⟨(RX7, TX7, 9), rfl, rfl⟩⟩
theorem okX7_lasts : e_okVi mX7_lasts 1 7 := ⟨⟨⟨(e_bg (e_in2 128 rfl) rfl), (e_bg (e_in1 1 rfl) rfl), ⟨by decide +kernel, by decide +kernel, by decide +kernel⟩, by decide, by decide +kernel⟩, (e_bg (e_in2 126 rfl) rfl), (e_bg (e_in2 127 rfl) rfl)⟩, ⟨(RX7, TX7, 9), rfl, rfl⟩⟩
theorem okX7_shows : e_okVi mX7_shows 1 7 := ⟨⟨⟨(e_bg (e_in2 132 rfl) rfl), (e_bg (e_in1 1 rfl) rfl), ⟨by decide +kernel, by decide +kernel, by decide +kernel⟩, by decide, by decide +kernel⟩, (e_bg (e_in2 130 rfl) rfl), (e_bg (e_in2 131 rfl) rfl)⟩, ⟨(RX7, TX7, 9), rfl, rfl⟩⟩
theorem okX1_all : e_okVi mX1_all 0 1 := ⟨⟨⟨(e_bg (e_in2 136 rfl) rfl), (e_bg (e_in1 3 rfl) rfl), ⟨by decide +kernel, by decide +kernel, by decide +kernel⟩, by decide, by decide +kernel⟩, (e_bg (e_in2 135 rfl) rfl), (e_bg (e_in0 29 rfl) rfl)⟩, ⟨(RX1, TX1, 5), rfl, rfl⟩⟩
theorem okX1_shownBy : e_okVi mX1_shownBy 1 1 := ⟨⟨⟨(e_bg (e_in2 140 rfl) rfl), (e_bg (e_in1 3 rfl) rfl), ⟨by decide +kernel, by decide +kernel, by decide +kernel⟩, by decide, by decide +kernel⟩, (e_bg (e_in2 139 rfl) rfl), (e_bg (e_in0 30 rfl) rfl)⟩, ⟨(RX1, TX1, 5), rfl, rfl⟩⟩
theorem okX7_fits : e_okVi mX7_fits 1 7 := ⟨⟨⟨(e_bg (e_in2 146 rfl) rfl), (e_bg (e_in1 1 rfl) rfl), ⟨by decide +kernel, by decide +kernel, by decide +kernel⟩, by decide, by decide +kernel⟩, (e_bg (e_in2 144 rfl) rfl), (e_bg (e_in2 145 rfl) rfl)⟩, ⟨(RX7, TX7, 9), rfl, rfl⟩⟩
theorem okX7_told : e_okT mX7_told 4 := ⟨⟨(e_bg (e_in2 149 rfl) rfl), (e_bg (e_in1 1 rfl) rfl), ⟨by decide +kernel, by decide +kernel, by decide +kernel⟩, by decide, by decide +kernel⟩, (e_bg (e_in2 148 rfl) rfl)⟩
theorem okX7_keeps : e_okVi mX7_keeps 1 7 := ⟨⟨⟨(e_bg (e_in2 153 rfl) rfl), (e_bg (e_in1 1 rfl) rfl), ⟨by decide +kernel, by decide +kernel, by decide +kernel⟩, by decide, by decide +kernel⟩, (e_bg (e_in2 151 rfl) rfl), (e_bg (e_in2 152 rfl) rfl)⟩, ⟨(RX7, TX7, 9), rfl, rfl⟩⟩
theorem okX7_keepsMore : e_okVi mX7_keepsMore 2 7 := ⟨⟨⟨(e_bg (e_in2 157 rfl) rfl), (e_bg (e_in1 1 rfl) rfl), ⟨by decide +kernel, by decide +kernel, by decide +kernel⟩, by decide, by decide +kernel⟩, (e_bg (e_in2 156 rfl) rfl), (e_bg (e_in0 31 rfl) rfl)⟩, ⟨(RX7, TX7, 9), rfl, rfl⟩⟩
theorem okX7_readOf : e_okVi mX7_readOf 1 7 := ⟨⟨⟨(e_bg (e_in2 161 rfl) rfl), (e_bg (e_in1 1 rfl) rfl), ⟨by decide +kernel, by decide +kernel, by decide +kernel⟩, by decide, by decide +kernel⟩, (e_bg (e_in2 160 rfl) rfl), (e_bg (e_in0 32 rfl) rfl)⟩, ⟨(RX7, TX7, 9), rfl, rfl⟩⟩
theorem okX7_twice : e_okVi mX7_twice 1 7 := ⟨⟨⟨(e_bg (e_in2 165 rfl) rfl), (e_bg (e_in1 1 rfl) rfl), ⟨by decide +kernel, by decide +kernel, by decide +kernel⟩, by decide, by decide +kernel⟩, (e_bg (e_in2 163 rfl) rfl), (e_bg (e_in2 164 rfl) rfl)⟩, ⟨(RX7, TX7, 9), rfl, rfl⟩⟩
theorem okX6_start : e_okVi mX6_start 0 6 := ⟨⟨⟨(e_bg (e_in2 169 rfl) rfl), (e_bg (e_in1 8 rfl) rfl), ⟨by decide +kernel, by decide +kernel, by decide +kernel⟩, by decide, by decide +kernel⟩, (e_bg (e_in2 168 rfl) rfl), (e_bg (e_in0 33 rfl) rfl)⟩, ⟨(RX6, TX6, 1), rfl, rfl⟩⟩
theorem okX7_power : e_okT mX7_power 2 := ⟨⟨(e_bg (e_in2 172 rfl) rfl), (e_bg (e_in1 1 rfl) rfl), ⟨by decide +kernel, by decide +kernel, by decide +kernel⟩, by decide, by decide +kernel⟩, (e_bg (e_in2 171 rfl) rfl)⟩
theorem okX7_timesGiveTheInk : e_okVi mX7_timesGiveTheInk 0 7 := ⟨⟨⟨(e_bg (e_in2 176 rfl) rfl), (e_bg (e_in1 1 rfl) rfl), ⟨by decide +kernel, by decide +kernel, by decide +kernel⟩, by decide, by decide +kernel⟩, (e_bg (e_in2 175 rfl) rfl), (e_bg (e_in0 34 rfl) rfl)⟩, ⟨(RX7, TX7, 9), rfl, rfl⟩⟩
theorem okX7_inkByTimes : e_okVi mX7_inkByTimes 1 7 := ⟨⟨⟨(e_bg (e_in2 180 rfl) rfl), (e_bg (e_in1 1 rfl) rfl), ⟨by decide +kernel, by decide +kernel, by decide +kernel⟩, by decide, by decide +kernel⟩, (e_bg (e_in2 179 rfl) rfl), (e_bg (e_in0 35 rfl) rfl)⟩, ⟨(RX7, TX7, 9), rfl, rfl⟩⟩
theorem okX6_howOften : e_okVi mX6_howOften 1 6 := ⟨⟨⟨(e_bg (e_in2 184 rfl) rfl), (e_bg (e_in1 8 rfl) rfl), ⟨by decide +kernel, by decide +kernel, by decide +kernel⟩, by decide, by decide +kernel⟩, (e_bg (e_in2 183 rfl) rfl), (e_bg (e_in0 36 rfl) rfl)⟩, ⟨(RX6, TX6, 1), rfl, rfl⟩⟩
theorem okX6_lettersThere : e_okVi mX6_lettersThere 1 6 := ⟨⟨⟨(e_bg (e_in2 189 rfl) rfl), (e_bg (e_in1 8 rfl) rfl), ⟨by decide +kernel, by decide +kernel, by decide +kernel⟩, by decide, by decide +kernel⟩, (e_bg (e_in2 188 rfl) rfl), (e_bg (e_in0 37 rfl) rfl)⟩, ⟨(RX6, TX6, 1), rfl, rfl⟩⟩
theorem okX6_next : e_okVi mX6_next 0 6 := ⟨⟨⟨(e_bg (e_in2 193 rfl) rfl), (e_bg (e_in1 8 rfl) rfl), ⟨by decide +kernel, by decide +kernel, by decide +kernel⟩, by decide, by decide +kernel⟩, (e_bg (e_in2 192 rfl) rfl), (e_bg (e_in0 38 rfl) rfl)⟩, ⟨(RX6, TX6, 1), rfl, rfl⟩⟩
theorem okX7_crossed : e_okVi mX7_crossed 1 7 := ⟨⟨⟨(e_bg (e_in2 197 rfl) rfl), (e_bg (e_in1 1 rfl) rfl), ⟨by decide +kernel, by decide +kernel, by decide +kernel⟩, by decide, by decide +kernel⟩, (e_bg (e_in2 195 rfl) rfl), (e_bg (e_in2 196 rfl) rfl)⟩, ⟨(RX7, TX7, 9), rfl, rfl⟩⟩
theorem okX7_leastThird : e_okVi mX7_leastThird 2 7 := ⟨⟨⟨(e_bg (e_in2 201 rfl) rfl), (e_bg (e_in1 1 rfl) rfl), ⟨by decide +kernel, by decide +kernel, by decide +kernel⟩, by decide, by decide +kernel⟩, (e_bg (e_in2 200 rfl) rfl), (e_bg (e_in0 39 rfl) rfl)⟩, ⟨(RX7, TX7, 9), rfl, rfl⟩⟩
theorem okX7_least : e_okVi mX7_least 1 7 := ⟨⟨⟨(e_bg (e_in2 205 rfl) rfl), (e_bg (e_in1 1 rfl) rfl), ⟨by decide +kernel, by decide +kernel, by decide +kernel⟩, by decide, by decide +kernel⟩, (e_bg (e_in2 203 rfl) rfl), (e_bg (e_in2 204 rfl) rfl)⟩, ⟨(RX7, TX7, 9), rfl, rfl⟩⟩
theorem okX7_share : e_okVi mX7_share 2 7 := ⟨⟨⟨(e_bg (e_in2 209 rfl) rfl), (e_bg (e_in1 1 rfl) rfl), ⟨by decide +kernel, by decide +kernel, by decide +kernel⟩, by decide, by decide +kernel⟩, (e_bg (e_in2 207 rfl) rfl), (e_bg (e_in2 208 rfl) rfl)⟩, ⟨(RX7, TX7, 9), rfl, rfl⟩⟩
theorem okX1_showing : e_okVi mX1_showing 1 1 := ⟨⟨⟨(e_bg (e_in2 213 rfl) rfl), (e_bg (e_in1 3 rfl) rfl), ⟨by decide +kernel, by decide +kernel, by decide +kernel⟩, by decide, by decide +kernel⟩, (e_bg (e_in2 212 rfl) rfl), (e_bg (e_in0 40 rfl) rfl)⟩, ⟨(RX1, TX1, 5), rfl, rfl⟩⟩
theorem okX7_leastTerms : e_okT mX7_leastTerms 3 := ⟨⟨(e_bg (e_in2 217 rfl) rfl), (e_bg (e_in1 1 rfl) rfl), ⟨by decide +kernel, by decide +kernel, by decide +kernel⟩, by decide, by decide +kernel⟩, (e_bg (e_in2 216 rfl) rfl)⟩
theorem okX7_commonDivisor : e_okT mX7_commonDivisor 2 := ⟨⟨(e_bg (e_in2 220 rfl) rfl), (e_bg (e_in1 1 rfl) rfl), ⟨by decide +kernel, by decide +kernel, by decide +kernel⟩, by decide, by decide +kernel⟩, (e_bg (e_in2 219 rfl) rfl)⟩
theorem okX7_tell : e_okVi mX7_tell 2 7 := ⟨⟨⟨(e_bg (e_in2 224 rfl) rfl), (e_bg (e_in1 1 rfl) rfl), ⟨by decide +kernel, by decide +kernel, by decide +kernel⟩, by decide, by decide +kernel⟩, (e_bg (e_in2 222 rfl) rfl), (e_bg (e_in2 223 rfl) rfl)⟩, ⟨(RX7, TX7, 9), rfl, rfl⟩⟩
theorem okX2_add : e_okVi mX2_add 2 2 := ⟨⟨⟨(e_bg (e_in2 228 rfl) rfl), (e_bg (e_in1 6 rfl) rfl), ⟨by decide +kernel, by decide +kernel, by decide +kernel⟩, by decide, by decide +kernel⟩, (e_bg (e_in2 227 rfl) rfl), (e_bg (e_in0 41 rfl) rfl)⟩, ⟨(RX2, TX2, 4), rfl, rfl⟩⟩
theorem okX7_untell : e_okVi mX7_untell 0 7 := ⟨⟨⟨(e_bg (e_in2 232 rfl) rfl), (e_bg (e_in1 1 rfl) rfl), ⟨by decide +kernel, by decide +kernel, by decide +kernel⟩, by decide, by decide +kernel⟩, (e_bg (e_in2 230 rfl) rfl), (e_bg (e_in2 231 rfl) rfl)⟩, ⟨(RX7, TX7, 9), rfl, rfl⟩⟩
theorem okX7_orders : e_okVi mX7_orders 1 7 := ⟨⟨⟨(e_bg (e_in2 236 rfl) rfl), (e_bg (e_in1 1 rfl) rfl), ⟨by decide +kernel, by decide +kernel, by decide +kernel⟩, by decide, by decide +kernel⟩, (e_bg (e_in2 234 rfl) rfl), (e_bg (e_in2 235 rfl) rfl)⟩, ⟨(RX7, TX7, 9), rfl, rfl⟩⟩
theorem okX2_howManyOrders : e_okVi mX2_howManyOrders 1 2 := ⟨⟨⟨(e_bg (e_in3 0 rfl) rfl), (e_bg (e_in1 6 rfl) rfl), ⟨by decide +kernel, by decide +kernel, by decide +kernel⟩, by decide, by decide +kernel⟩, (e_bg (e_in2 239 rfl) rfl), (e_bg (e_in0 42 rfl) rfl)⟩, ⟨(RX2, TX2, 4), rfl, rfl⟩⟩
theorem okX2_canFollow : e_okVi mX2_canFollow 3 2 := ⟨⟨⟨(e_bg (e_in3 5 rfl) rfl), (e_bg (e_in1 6 rfl) rfl), ⟨by decide +kernel, by decide +kernel, by decide +kernel⟩, by decide, by decide +kernel⟩, (e_bg (e_in3 4 rfl) rfl), (e_bg (e_in0 43 rfl) rfl)⟩, ⟨(RX2, TX2, 4), rfl, rfl⟩⟩
theorem okX2_setBelow : e_okVi mX2_setBelow 2 2 := ⟨⟨⟨(e_bg (e_in3 9 rfl) rfl), (e_bg (e_in1 6 rfl) rfl), ⟨by decide +kernel, by decide +kernel, by decide +kernel⟩, by decide, by decide +kernel⟩, (e_bg (e_in3 8 rfl) rfl), (e_bg (e_in0 44 rfl) rfl)⟩, ⟨(RX2, TX2, 4), rfl, rfl⟩⟩
theorem okX2_firstOrder : e_okVi mX2_firstOrder 1 2 := ⟨⟨⟨(e_bg (e_in3 13 rfl) rfl), (e_bg (e_in1 6 rfl) rfl), ⟨by decide +kernel, by decide +kernel, by decide +kernel⟩, by decide, by decide +kernel⟩, (e_bg (e_in3 12 rfl) rfl), (e_bg (e_in0 45 rfl) rfl)⟩, ⟨(RX2, TX2, 4), rfl, rfl⟩⟩
theorem okX2_leastNext : e_okVi mX2_leastNext 2 2 := ⟨⟨⟨(e_bg (e_in3 17 rfl) rfl), (e_bg (e_in1 6 rfl) rfl), ⟨by decide +kernel, by decide +kernel, by decide +kernel⟩, by decide, by decide +kernel⟩, (e_bg (e_in3 16 rfl) rfl), (e_bg (e_in0 46 rfl) rfl)⟩, ⟨(RX2, TX2, 4), rfl, rfl⟩⟩
theorem okX7_rests : e_okVi mX7_rests 2 7 := ⟨⟨⟨(e_bg (e_in3 21 rfl) rfl), (e_bg (e_in1 1 rfl) rfl), ⟨by decide +kernel, by decide +kernel, by decide +kernel⟩, by decide, by decide +kernel⟩, (e_bg (e_in3 19 rfl) rfl), (e_bg (e_in3 20 rfl) rfl)⟩, ⟨(RX7, TX7, 9), rfl, rfl⟩⟩
theorem okX7_isAtRest : e_okT mX7_isAtRest 3 := ⟨⟨(e_bg (e_in3 24 rfl) rfl), (e_bg (e_in1 1 rfl) rfl), ⟨by decide +kernel, by decide +kernel, by decide +kernel⟩, by decide, by decide +kernel⟩, (e_bg (e_in3 23 rfl) rfl)⟩
theorem okX7_canPressBy : e_okT mX7_canPressBy 2 := ⟨⟨(e_bg (e_in3 27 rfl) rfl), (e_bg (e_in1 1 rfl) rfl), ⟨by decide +kernel, by decide +kernel, by decide +kernel⟩, by decide, by decide +kernel⟩, (e_bg (e_in3 26 rfl) rfl)⟩
theorem okX7_clerkHas : e_okT mX7_clerkHas 2 := ⟨⟨(e_bg (e_in3 30 rfl) rfl), (e_bg (e_in1 1 rfl) rfl), ⟨by decide +kernel, by decide +kernel, by decide +kernel⟩, by decide, by decide +kernel⟩, (e_bg (e_in3 29 rfl) rfl)⟩
theorem okX7_isSeen : e_okT mX7_isSeen 2 := ⟨⟨(e_bg (e_in3 33 rfl) rfl), (e_bg (e_in1 1 rfl) rfl), ⟨by decide +kernel, by decide +kernel, by decide +kernel⟩, by decide, by decide +kernel⟩, (e_bg (e_in3 32 rfl) rfl)⟩
theorem okX7_auditorHas : e_okT mX7_auditorHas 2 := ⟨⟨(e_bg (e_in3 36 rfl) rfl), (e_bg (e_in1 1 rfl) rfl), ⟨by decide +kernel, by decide +kernel, by decide +kernel⟩, by decide, by decide +kernel⟩, (e_bg (e_in3 35 rfl) rfl)⟩
theorem okX7_chance : e_okVi mX7_chance 3 7 := ⟨⟨⟨(e_bg (e_in3 40 rfl) rfl), (e_bg (e_in1 1 rfl) rfl), ⟨by decide +kernel, by decide +kernel, by decide +kernel⟩, by decide, by decide +kernel⟩, (e_bg (e_in3 38 rfl) rfl), (e_bg (e_in3 39 rfl) rfl)⟩, ⟨(RX7, TX7, 9), rfl, rfl⟩⟩
theorem okX1_windowOf : e_okVi mX1_windowOf 1 1 := ⟨⟨⟨(e_bg (e_in3 44 rfl) rfl), (e_bg (e_in1 3 rfl) rfl), ⟨by decide +kernel, by decide +kernel, by decide +kernel⟩, by decide, by decide +kernel⟩, (e_bg (e_in3 43 rfl) rfl), (e_bg (e_in0 47 rfl) rfl)⟩, ⟨(RX1, TX1, 5), rfl, rfl⟩⟩
theorem okX7_seed : e_okVi mX7_seed 1 7 := ⟨⟨⟨(e_bg (e_in3 48 rfl) rfl), (e_bg (e_in1 1 rfl) rfl), ⟨by decide +kernel, by decide +kernel, by decide +kernel⟩, by decide, by decide +kernel⟩, (e_bg (e_in3 46 rfl) rfl), (e_bg (e_in3 47 rfl) rfl)⟩, ⟨(RX7, TX7, 9), rfl, rfl⟩⟩
theorem okX7_years : e_okVi mX7_years 1 7 := ⟨⟨⟨(e_bg (e_in3 52 rfl) rfl), (e_bg (e_in1 1 rfl) rfl), ⟨by decide +kernel, by decide +kernel, by decide +kernel⟩, by decide, by decide +kernel⟩, (e_bg (e_in3 50 rfl) rfl), (e_bg (e_in3 51 rfl) rfl)⟩, ⟨(RX7, TX7, 9), rfl, rfl⟩⟩
theorem okX7_befall : e_okVi mX7_befall 1 7 := ⟨⟨⟨(e_bg (e_in3 60 rfl) rfl), (e_bg (e_in1 1 rfl) rfl), ⟨by decide +kernel, by decide +kernel, by decide +kernel⟩, by decide, by decide +kernel⟩, (e_bg (e_in3 59 rfl) rfl), (e_bg (e_in0 48 rfl) rfl)⟩, ⟨(RX7, TX7, 9), rfl, rfl⟩⟩
theorem okX7_keep : e_okVi mX7_keep 1 7 := ⟨⟨⟨(e_bg (e_in3 64 rfl) rfl), (e_bg (e_in1 1 rfl) rfl), ⟨by decide +kernel, by decide +kernel, by decide +kernel⟩, by decide, by decide +kernel⟩, (e_bg (e_in3 62 rfl) rfl), (e_bg (e_in3 63 rfl) rfl)⟩, ⟨(RX7, TX7, 9), rfl, rfl⟩⟩
theorem okX4_store : e_okVi mX4_store 2 4 := ⟨⟨⟨(e_bg (e_in3 68 rfl) rfl), (e_bg (e_in1 7 rfl) rfl), ⟨by decide +kernel, by decide +kernel, by decide +kernel⟩, by decide, by decide +kernel⟩, (e_bg (e_in3 67 rfl) rfl), (e_bg (e_in0 49 rfl) rfl)⟩, ⟨(RX4, TX4, 2), rfl, rfl⟩⟩
theorem okX7_again : e_okVi mX7_again 1 7 := ⟨⟨⟨(e_bg (e_in3 73 rfl) rfl), (e_bg (e_in1 1 rfl) rfl), ⟨by decide +kernel, by decide +kernel, by decide +kernel⟩, by decide, by decide +kernel⟩, (e_bg (e_in3 71 rfl) rfl), (e_bg (e_in3 72 rfl) rfl)⟩, ⟨(RX7, TX7, 9), rfl, rfl⟩⟩
theorem okX4_load : e_okVi mX4_load 2 4 := ⟨⟨⟨(e_bg (e_in3 77 rfl) rfl), (e_bg (e_in1 7 rfl) rfl), ⟨by decide +kernel, by decide +kernel, by decide +kernel⟩, by decide, by decide +kernel⟩, (e_bg (e_in3 76 rfl) rfl), (e_bg (e_in0 50 rfl) rfl)⟩, ⟨(RX4, TX4, 2), rfl, rfl⟩⟩
theorem okX8_clean : e_okT mX8_clean 1 := ⟨⟨(e_bg (e_in3 86 rfl) rfl), (e_bg (e_in1 9 rfl) rfl), ⟨by decide +kernel, by decide +kernel, by decide +kernel⟩, by decide, by decide +kernel⟩, (e_bg (e_in3 85 rfl) rfl)⟩
theorem okX8_write : e_okVi mX8_write 1 8 := ⟨⟨⟨(e_bg (e_in3 173 rfl) rfl), (e_bg (e_in1 9 rfl) rfl), ⟨by decide +kernel, by decide +kernel, by decide +kernel⟩, by decide, by decide +kernel⟩, (e_bg (e_in3 171 rfl) rfl), (e_bg (e_in3 172 rfl) rfl)⟩, ⟨(RX8, TX8, 27), rfl, rfl⟩⟩
theorem okX8_in : e_okT mX8_in 3 := ⟨⟨(e_bg (e_in3 177 rfl) rfl), (e_bg (e_in1 9 rfl) rfl), ⟨by decide +kernel, by decide +kernel, by decide +kernel⟩, by decide, by decide +kernel⟩, (e_bg (e_in3 176 rfl) rfl)⟩
theorem okX8_wipe : e_okVi mX8_wipe 0 8 := ⟨⟨⟨(e_bg (e_in3 181 rfl) rfl), (e_bg (e_in1 9 rfl) rfl), ⟨by decide +kernel, by decide +kernel, by decide +kernel⟩, by decide, by decide +kernel⟩, (e_bg (e_in3 179 rfl) rfl), (e_bg (e_in3 180 rfl) rfl)⟩, ⟨(RX8, TX8, 27), rfl, rfl⟩⟩
theorem okX8_fault : e_okVi mX8_fault 0 8 := ⟨⟨⟨(e_bg (e_in3 185 rfl) rfl), (e_bg (e_in1 9 rfl) rfl), ⟨by decide +kernel, by decide +kernel, by decide +kernel⟩, by decide, by decide +kernel⟩, (e_bg (e_in3 183 rfl) rfl), (e_bg (e_in3 184 rfl) rfl)⟩, ⟨(RX8, TX8, 27), rfl, rfl⟩⟩
theorem okX8_readOffice : e_okVi mX8_readOffice 0 8 := ⟨⟨⟨(e_bg (e_in3 189 rfl) rfl), (e_bg (e_in1 9 rfl) rfl), ⟨by decide +kernel, by decide +kernel, by decide +kernel⟩, by decide, by decide +kernel⟩, (e_bg (e_in3 188 rfl) rfl), (e_bg (e_in0 51 rfl) rfl)⟩, ⟨(RX8, TX8, 27), rfl, rfl⟩⟩
theorem okX8_figure : e_okVi mX8_figure 2 8 := ⟨⟨⟨(e_bg (e_in3 193 rfl) rfl), (e_bg (e_in1 9 rfl) rfl), ⟨by decide +kernel, by decide +kernel, by decide +kernel⟩, by decide, by decide +kernel⟩, (e_bg (e_in3 192 rfl) rfl), (e_bg (e_in0 52 rfl) rfl)⟩, ⟨(RX8, TX8, 27), rfl, rfl⟩⟩
theorem okX8_office : e_okVi mX8_office 0 8 := ⟨⟨⟨(e_bg (e_in3 197 rfl) rfl), (e_bg (e_in1 9 rfl) rfl), ⟨by decide +kernel, by decide +kernel, by decide +kernel⟩, by decide, by decide +kernel⟩, (e_bg (e_in3 195 rfl) rfl), (e_bg (e_in3 196 rfl) rfl)⟩, ⟨(RX8, TX8, 27), rfl, rfl⟩⟩
theorem okX8_about : e_okVi mX8_about 1 8 := ⟨⟨⟨(e_bg (e_in3 201 rfl) rfl), (e_bg (e_in1 9 rfl) rfl), ⟨by decide +kernel, by decide +kernel, by decide +kernel⟩, by decide, by decide +kernel⟩, (e_bg (e_in3 199 rfl) rfl), (e_bg (e_in3 200 rfl) rfl)⟩, ⟨(RX8, TX8, 27), rfl, rfl⟩⟩
theorem okX8_shown : e_okT mX8_shown 1 := ⟨⟨(e_bg (e_in3 204 rfl) rfl), (e_bg (e_in1 9 rfl) rfl), ⟨by decide +kernel, by decide +kernel, by decide +kernel⟩, by decide, by decide +kernel⟩, (e_bg (e_in3 203 rfl) rfl)⟩
theorem okX8_readBy : e_okVi mX8_readBy 1 8 := ⟨⟨⟨(e_bg (e_in3 208 rfl) rfl), (e_bg (e_in1 9 rfl) rfl), ⟨by decide +kernel, by decide +kernel, by decide +kernel⟩, by decide, by decide +kernel⟩, (e_bg (e_in3 207 rfl) rfl), (e_bg (e_in0 53 rfl) rfl)⟩, ⟨(RX8, TX8, 27), rfl, rfl⟩⟩
theorem okX8_isRead : e_okVi mX8_isRead 2 8 := ⟨⟨⟨(e_bg (e_in3 212 rfl) rfl), (e_bg (e_in1 9 rfl) rfl), ⟨by decide +kernel, by decide +kernel, by decide +kernel⟩, by decide, by decide +kernel⟩, (e_bg (e_in3 211 rfl) rfl), (e_bg (e_in0 54 rfl) rfl)⟩, ⟨(RX8, TX8, 27), rfl, rfl⟩⟩
theorem okX8_letter : e_okVi mX8_letter 2 8 := ⟨⟨⟨(e_bg (e_in3 216 rfl) rfl), (e_bg (e_in1 9 rfl) rfl), ⟨by decide +kernel, by decide +kernel, by decide +kernel⟩, by decide, by decide +kernel⟩, (e_bg (e_in3 214 rfl) rfl), (e_bg (e_in3 215 rfl) rfl)⟩, ⟨(RX8, TX8, 27), rfl, rfl⟩⟩
theorem okX8_noLetter : e_okVi mX8_noLetter 1 8 := ⟨⟨⟨(e_bg (e_in3 220 rfl) rfl), (e_bg (e_in1 9 rfl) rfl), ⟨by decide +kernel, by decide +kernel, by decide +kernel⟩, by decide, by decide +kernel⟩, (e_bg (e_in3 219 rfl) rfl), (e_bg (e_in0 55 rfl) rfl)⟩, ⟨(RX8, TX8, 27), rfl, rfl⟩⟩
theorem okX8_cell : e_okVi mX8_cell 2 8 := ⟨⟨⟨(e_bg (e_in3 224 rfl) rfl), (e_bg (e_in1 9 rfl) rfl), ⟨by decide +kernel, by decide +kernel, by decide +kernel⟩, by decide, by decide +kernel⟩, (e_bg (e_in3 222 rfl) rfl), (e_bg (e_in3 223 rfl) rfl)⟩, ⟨(RX8, TX8, 27), rfl, rfl⟩⟩
theorem okX8_noCell : e_okT mX8_noCell 1 := ⟨⟨(e_bg (e_in3 227 rfl) rfl), (e_bg (e_in1 9 rfl) rfl), ⟨by decide +kernel, by decide +kernel, by decide +kernel⟩, by decide, by decide +kernel⟩, (e_bg (e_in3 226 rfl) rfl)⟩
theorem okX8_press : e_okVi mX8_press 1 8 := ⟨⟨⟨(e_bg (e_in3 232 rfl) rfl), (e_bg (e_in1 9 rfl) rfl), ⟨by decide +kernel, by decide +kernel, by decide +kernel⟩, by decide, by decide +kernel⟩, (e_bg (e_in3 230 rfl) rfl), (e_bg (e_in3 231 rfl) rfl)⟩, ⟨(RX8, TX8, 27), rfl, rfl⟩⟩
theorem okX8_note : e_okVi mX8_note 0 8 := ⟨⟨⟨(e_bg (e_in3 236 rfl) rfl), (e_bg (e_in1 9 rfl) rfl), ⟨by decide +kernel, by decide +kernel, by decide +kernel⟩, by decide, by decide +kernel⟩, (e_bg (e_in3 235 rfl) rfl), (e_bg (e_in0 56 rfl) rfl)⟩, ⟨(RX8, TX8, 27), rfl, rfl⟩⟩
theorem okX8_goPress : e_okVi mX8_goPress 2 8 := ⟨⟨⟨(e_bg (e_in4 0 rfl) rfl), (e_bg (e_in1 9 rfl) rfl), ⟨by decide +kernel, by decide +kernel, by decide +kernel⟩, by decide, by decide +kernel⟩, (e_bg (e_in3 239 rfl) rfl), (e_bg (e_in0 57 rfl) rfl)⟩, ⟨(RX8, TX8, 27), rfl, rfl⟩⟩
theorem okX8_has : e_okT mX8_has 2 := ⟨⟨(e_bg (e_in4 3 rfl) rfl), (e_bg (e_in1 9 rfl) rfl), ⟨by decide +kernel, by decide +kernel, by decide +kernel⟩, by decide, by decide +kernel⟩, (e_bg (e_in4 2 rfl) rfl)⟩
theorem okX8_many : e_okT mX8_many 1 := ⟨⟨(e_bg (e_in4 6 rfl) rfl), (e_bg (e_in1 9 rfl) rfl), ⟨by decide +kernel, by decide +kernel, by decide +kernel⟩, by decide, by decide +kernel⟩, (e_bg (e_in4 5 rfl) rfl)⟩
theorem okX8_day : e_okVi mX8_day 0 8 := ⟨⟨⟨(e_bg (e_in4 10 rfl) rfl), (e_bg (e_in1 9 rfl) rfl), ⟨by decide +kernel, by decide +kernel, by decide +kernel⟩, by decide, by decide +kernel⟩, (e_bg (e_in4 8 rfl) rfl), (e_bg (e_in4 9 rfl) rfl)⟩, ⟨(RX8, TX8, 27), rfl, rfl⟩⟩
theorem okX8_goDay : e_okT mX8_goDay 1 := ⟨⟨(e_bg (e_in4 13 rfl) rfl), (e_bg (e_in1 9 rfl) rfl), ⟨by decide +kernel, by decide +kernel, by decide +kernel⟩, by decide, by decide +kernel⟩, (e_bg (e_in4 12 rfl) rfl)⟩
theorem okX8_rub : e_okVi mX8_rub 1 8 := ⟨⟨⟨(e_bg (e_in4 17 rfl) rfl), (e_bg (e_in1 9 rfl) rfl), ⟨by decide +kernel, by decide +kernel, by decide +kernel⟩, by decide, by decide +kernel⟩, (e_bg (e_in4 15 rfl) rfl), (e_bg (e_in4 16 rfl) rfl)⟩, ⟨(RX8, TX8, 27), rfl, rfl⟩⟩
theorem okX8_change : e_okVi mX8_change 0 8 := ⟨⟨⟨(e_bg (e_in4 21 rfl) rfl), (e_bg (e_in1 9 rfl) rfl), ⟨by decide +kernel, by decide +kernel, by decide +kernel⟩, by decide, by decide +kernel⟩, (e_bg (e_in4 19 rfl) rfl), (e_bg (e_in4 20 rfl) rfl)⟩, ⟨(RX8, TX8, 27), rfl, rfl⟩⟩
theorem okX8_undo : e_okVi mX8_undo 0 8 := ⟨⟨⟨(e_bg (e_in4 25 rfl) rfl), (e_bg (e_in1 9 rfl) rfl), ⟨by decide +kernel, by decide +kernel, by decide +kernel⟩, by decide, by decide +kernel⟩, (e_bg (e_in4 23 rfl) rfl), (e_bg (e_in4 24 rfl) rfl)⟩, ⟨(RX8, TX8, 27), rfl, rfl⟩⟩
theorem okX8_later : e_okVi mX8_later 1 8 := ⟨⟨⟨(e_bg (e_in4 29 rfl) rfl), (e_bg (e_in1 9 rfl) rfl), ⟨by decide +kernel, by decide +kernel, by decide +kernel⟩, by decide, by decide +kernel⟩, (e_bg (e_in4 27 rfl) rfl), (e_bg (e_in4 28 rfl) rfl)⟩, ⟨(RX8, TX8, 27), rfl, rfl⟩⟩
theorem okX8_shownIn : e_okVi mX8_shownIn 1 8 := ⟨⟨⟨(e_bg (e_in4 34 rfl) rfl), (e_bg (e_in1 9 rfl) rfl), ⟨by decide +kernel, by decide +kernel, by decide +kernel⟩, by decide, by decide +kernel⟩, (e_bg (e_in4 33 rfl) rfl), (e_bg (e_in0 58 rfl) rfl)⟩, ⟨(RX8, TX8, 27), rfl, rfl⟩⟩
theorem okX8_lasts : e_okVi mX8_lasts 1 8 := ⟨⟨⟨(e_bg (e_in4 38 rfl) rfl), (e_bg (e_in1 9 rfl) rfl), ⟨by decide +kernel, by decide +kernel, by decide +kernel⟩, by decide, by decide +kernel⟩, (e_bg (e_in4 36 rfl) rfl), (e_bg (e_in4 37 rfl) rfl)⟩, ⟨(RX8, TX8, 27), rfl, rfl⟩⟩
theorem okX8_shows : e_okVi mX8_shows 1 8 := ⟨⟨⟨(e_bg (e_in4 42 rfl) rfl), (e_bg (e_in1 9 rfl) rfl), ⟨by decide +kernel, by decide +kernel, by decide +kernel⟩, by decide, by decide +kernel⟩, (e_bg (e_in4 40 rfl) rfl), (e_bg (e_in4 41 rfl) rfl)⟩, ⟨(RX8, TX8, 27), rfl, rfl⟩⟩
theorem okX8_everyone : e_okVi mX8_everyone 0 8 := ⟨⟨⟨(e_bg (e_in4 46 rfl) rfl), (e_bg (e_in1 9 rfl) rfl), ⟨by decide +kernel, by decide +kernel, by decide +kernel⟩, by decide, by decide +kernel⟩, (e_bg (e_in4 45 rfl) rfl), (e_bg (e_in0 59 rfl) rfl)⟩, ⟨(RX8, TX8, 27), rfl, rfl⟩⟩
theorem okX8_showsBy : e_okVi mX8_showsBy 1 8 := ⟨⟨⟨(e_bg (e_in4 50 rfl) rfl), (e_bg (e_in1 9 rfl) rfl), ⟨by decide +kernel, by decide +kernel, by decide +kernel⟩, by decide, by decide +kernel⟩, (e_bg (e_in4 49 rfl) rfl), (e_bg (e_in0 60 rfl) rfl)⟩, ⟨(RX8, TX8, 27), rfl, rfl⟩⟩
theorem okX8_fits : e_okVi mX8_fits 1 8 := ⟨⟨⟨(e_bg (e_in4 54 rfl) rfl), (e_bg (e_in1 9 rfl) rfl), ⟨by decide +kernel, by decide +kernel, by decide +kernel⟩, by decide, by decide +kernel⟩, (e_bg (e_in4 52 rfl) rfl), (e_bg (e_in4 53 rfl) rfl)⟩, ⟨(RX8, TX8, 27), rfl, rfl⟩⟩
theorem okX8_found : e_okVi mX8_found 1 8 := ⟨⟨⟨(e_bg (e_in4 59 rfl) rfl), (e_bg (e_in1 9 rfl) rfl), ⟨by decide +kernel, by decide +kernel, by decide +kernel⟩, by decide, by decide +kernel⟩, (e_bg (e_in4 58 rfl) rfl), (e_bg (e_in0 61 rfl) rfl)⟩, ⟨(RX8, TX8, 27), rfl, rfl⟩⟩
theorem okX8_keeps : e_okVi mX8_keeps 1 8 := ⟨⟨⟨(e_bg (e_in4 63 rfl) rfl), (e_bg (e_in1 9 rfl) rfl), ⟨by decide +kernel, by decide +kernel, by decide +kernel⟩, by decide, by decide +kernel⟩, (e_bg (e_in4 61 rfl) rfl), (e_bg (e_in4 62 rfl) rfl)⟩, ⟨(RX8, TX8, 27), rfl, rfl⟩⟩
theorem okX8_twice : e_okVi mX8_twice 1 8 := ⟨⟨⟨(e_bg (e_in4 67 rfl) rfl), (e_bg (e_in1 9 rfl) rfl), ⟨by decide +kernel, by decide +kernel, by decide +kernel⟩, by decide, by decide +kernel⟩, (e_bg (e_in4 65 rfl) rfl), (e_bg (e_in4 66 rfl) rfl)⟩, ⟨(RX8, TX8, 27), rfl, rfl⟩⟩
theorem okX8_power : e_okT mX8_power 2 := ⟨⟨(e_bg (e_in4 70 rfl) rfl), (e_bg (e_in1 9 rfl) rfl), ⟨by decide +kernel, by decide +kernel, by decide +kernel⟩, by decide, by decide +kernel⟩, (e_bg (e_in4 69 rfl) rfl)⟩
theorem okX8_isInk : e_okVi mX8_isInk 1 8 := ⟨⟨⟨(e_bg (e_in4 74 rfl) rfl), (e_bg (e_in1 9 rfl) rfl), ⟨by decide +kernel, by decide +kernel, by decide +kernel⟩, by decide, by decide +kernel⟩, (e_bg (e_in4 73 rfl) rfl), (e_bg (e_in0 62 rfl) rfl)⟩, ⟨(RX8, TX8, 27), rfl, rfl⟩⟩
theorem okX8_crossed : e_okVi mX8_crossed 1 8 := ⟨⟨⟨(e_bg (e_in4 78 rfl) rfl), (e_bg (e_in1 9 rfl) rfl), ⟨by decide +kernel, by decide +kernel, by decide +kernel⟩, by decide, by decide +kernel⟩, (e_bg (e_in4 76 rfl) rfl), (e_bg (e_in4 77 rfl) rfl)⟩, ⟨(RX8, TX8, 27), rfl, rfl⟩⟩
theorem okX8_least : e_okVi mX8_least 1 8 := ⟨⟨⟨(e_bg (e_in4 82 rfl) rfl), (e_bg (e_in1 9 rfl) rfl), ⟨by decide +kernel, by decide +kernel, by decide +kernel⟩, by decide, by decide +kernel⟩, (e_bg (e_in4 80 rfl) rfl), (e_bg (e_in4 81 rfl) rfl)⟩, ⟨(RX8, TX8, 27), rfl, rfl⟩⟩
theorem okX8_share : e_okVi mX8_share 2 8 := ⟨⟨⟨(e_bg (e_in4 87 rfl) rfl), (e_bg (e_in1 9 rfl) rfl), ⟨by decide +kernel, by decide +kernel, by decide +kernel⟩, by decide, by decide +kernel⟩, (e_bg (e_in4 85 rfl) rfl), (e_bg (e_in4 86 rfl) rfl)⟩, ⟨(RX8, TX8, 27), rfl, rfl⟩⟩
theorem okX8_ways : e_okT mX8_ways 1 := ⟨⟨(e_bg (e_in4 90 rfl) rfl), (e_bg (e_in1 9 rfl) rfl), ⟨by decide +kernel, by decide +kernel, by decide +kernel⟩, by decide, by decide +kernel⟩, (e_bg (e_in4 89 rfl) rfl)⟩
theorem okX8_fraction : e_okT mX8_fraction 3 := ⟨⟨(e_bg (e_in4 93 rfl) rfl), (e_bg (e_in1 9 rfl) rfl), ⟨by decide +kernel, by decide +kernel, by decide +kernel⟩, by decide, by decide +kernel⟩, (e_bg (e_in4 92 rfl) rfl)⟩
theorem okX8_divisor : e_okT mX8_divisor 2 := ⟨⟨(e_bg (e_in4 96 rfl) rfl), (e_bg (e_in1 9 rfl) rfl), ⟨by decide +kernel, by decide +kernel, by decide +kernel⟩, by decide, by decide +kernel⟩, (e_bg (e_in4 95 rfl) rfl)⟩
theorem okX8_tell : e_okVi mX8_tell 2 8 := ⟨⟨⟨(e_bg (e_in4 100 rfl) rfl), (e_bg (e_in1 9 rfl) rfl), ⟨by decide +kernel, by decide +kernel, by decide +kernel⟩, by decide, by decide +kernel⟩, (e_bg (e_in4 98 rfl) rfl), (e_bg (e_in4 99 rfl) rfl)⟩, ⟨(RX8, TX8, 27), rfl, rfl⟩⟩
theorem okX8_untell : e_okVi mX8_untell 0 8 := ⟨⟨⟨(e_bg (e_in4 104 rfl) rfl), (e_bg (e_in1 9 rfl) rfl), ⟨by decide +kernel, by decide +kernel, by decide +kernel⟩, by decide, by decide +kernel⟩, (e_bg (e_in4 102 rfl) rfl), (e_bg (e_in4 103 rfl) rfl)⟩, ⟨(RX8, TX8, 27), rfl, rfl⟩⟩
theorem okX8_orders : e_okVi mX8_orders 1 8 := ⟨⟨⟨(e_bg (e_in4 108 rfl) rfl), (e_bg (e_in1 9 rfl) rfl), ⟨by decide +kernel, by decide +kernel, by decide +kernel⟩, by decide, by decide +kernel⟩, (e_bg (e_in4 106 rfl) rfl), (e_bg (e_in4 107 rfl) rfl)⟩, ⟨(RX8, TX8, 27), rfl, rfl⟩⟩
theorem okX8_isOver : e_okVi mX8_isOver 0 8 := ⟨⟨⟨(e_bg (e_in4 112 rfl) rfl), (e_bg (e_in1 9 rfl) rfl), ⟨by decide +kernel, by decide +kernel, by decide +kernel⟩, by decide, by decide +kernel⟩, (e_bg (e_in4 111 rfl) rfl), (e_bg (e_in0 63 rfl) rfl)⟩, ⟨(RX8, TX8, 27), rfl, rfl⟩⟩
theorem okX8_placeOf : e_okVi mX8_placeOf 1 8 := ⟨⟨⟨(e_bg (e_in4 116 rfl) rfl), (e_bg (e_in1 9 rfl) rfl), ⟨by decide +kernel, by decide +kernel, by decide +kernel⟩, by decide, by decide +kernel⟩, (e_bg (e_in4 115 rfl) rfl), (e_bg (e_in0 64 rfl) rfl)⟩, ⟨(RX8, TX8, 27), rfl, rfl⟩⟩
theorem okX8_goOrder : e_okVi mX8_goOrder 0 8 := ⟨⟨⟨(e_bg (e_in4 120 rfl) rfl), (e_bg (e_in1 9 rfl) rfl), ⟨by decide +kernel, by decide +kernel, by decide +kernel⟩, by decide, by decide +kernel⟩, (e_bg (e_in4 119 rfl) rfl), (e_bg (e_in0 65 rfl) rfl)⟩, ⟨(RX8, TX8, 27), rfl, rfl⟩⟩
theorem okX8_rests : e_okVi mX8_rests 2 8 := ⟨⟨⟨(e_bg (e_in4 124 rfl) rfl), (e_bg (e_in1 9 rfl) rfl), ⟨by decide +kernel, by decide +kernel, by decide +kernel⟩, by decide, by decide +kernel⟩, (e_bg (e_in4 122 rfl) rfl), (e_bg (e_in4 123 rfl) rfl)⟩, ⟨(RX8, TX8, 27), rfl, rfl⟩⟩
theorem okX8_clerk : e_okT mX8_clerk 2 := ⟨⟨(e_bg (e_in4 127 rfl) rfl), (e_bg (e_in1 9 rfl) rfl), ⟨by decide +kernel, by decide +kernel, by decide +kernel⟩, by decide, by decide +kernel⟩, (e_bg (e_in4 126 rfl) rfl)⟩
theorem okX8_auditor : e_okT mX8_auditor 2 := ⟨⟨(e_bg (e_in4 130 rfl) rfl), (e_bg (e_in1 9 rfl) rfl), ⟨by decide +kernel, by decide +kernel, by decide +kernel⟩, by decide, by decide +kernel⟩, (e_bg (e_in4 129 rfl) rfl)⟩
theorem okX8_chance : e_okVi mX8_chance 3 8 := ⟨⟨⟨(e_bg (e_in4 134 rfl) rfl), (e_bg (e_in1 9 rfl) rfl), ⟨by decide +kernel, by decide +kernel, by decide +kernel⟩, by decide, by decide +kernel⟩, (e_bg (e_in4 132 rfl) rfl), (e_bg (e_in4 133 rfl) rfl)⟩, ⟨(RX8, TX8, 27), rfl, rfl⟩⟩
theorem okX8_seed : e_okVi mX8_seed 1 8 := ⟨⟨⟨(e_bg (e_in4 139 rfl) rfl), (e_bg (e_in1 9 rfl) rfl), ⟨by decide +kernel, by decide +kernel, by decide +kernel⟩, by decide, by decide +kernel⟩, (e_bg (e_in4 137 rfl) rfl), (e_bg (e_in4 138 rfl) rfl)⟩, ⟨(RX8, TX8, 27), rfl, rfl⟩⟩
theorem okX8_years : e_okVi mX8_years 1 8 := ⟨⟨⟨(e_bg (e_in4 143 rfl) rfl), (e_bg (e_in1 9 rfl) rfl), ⟨by decide +kernel, by decide +kernel, by decide +kernel⟩, by decide, by decide +kernel⟩, (e_bg (e_in4 141 rfl) rfl), (e_bg (e_in4 142 rfl) rfl)⟩, ⟨(RX8, TX8, 27), rfl, rfl⟩⟩
theorem okX8_keep : e_okVi mX8_keep 1 8 := ⟨⟨⟨(e_bg (e_in4 150 rfl) rfl), (e_bg (e_in1 9 rfl) rfl), ⟨by decide +kernel, by decide +kernel, by decide +kernel⟩, by decide, by decide +kernel⟩, (e_bg (e_in4 148 rfl) rfl), (e_bg (e_in4 149 rfl) rfl)⟩, ⟨(RX8, TX8, 27), rfl, rfl⟩⟩
theorem okX8_again : e_okVi mX8_again 1 8 := ⟨⟨⟨(e_bg (e_in4 154 rfl) rfl), (e_bg (e_in1 9 rfl) rfl), ⟨by decide +kernel, by decide +kernel, by decide +kernel⟩, by decide, by decide +kernel⟩, (e_bg (e_in4 152 rfl) rfl), (e_bg (e_in4 153 rfl) rfl)⟩, ⟨(RX8, TX8, 27), rfl, rfl⟩⟩
theorem sL_9 : e_site RL 9 yX7_init := Or.inl (e_bg (e_in1 14 rfl) rfl)
theorem sX7_9 : e_site RX7 9 yX5_init := Or.inr ⟨"BlottedFirst", e_ns (e_in1 22 rfl) rfl⟩
theorem fX5_9 : e_fld RX5 9 5 0 := ⟨(RX5, TX5, 2), rfl, by decide, Or.inl (e_bg (e_in1 26 rfl) rfl)⟩
theorem fX5_15 : e_fld RX5 15 5 1 := ⟨(RX5, TX5, 2), rfl, by decide, Or.inl (e_bg (e_in1 27 rfl) rfl)⟩
theorem fwX5_15 : e_fldw RX5 15 5 1 .int := ⟨(RX5, TX5, 2), rfl, by decide, Or.inl (e_bg (e_in1 27 rfl) rfl), rfl, by decide +kernel⟩
theorem fX7_69 : e_fld RX7 69 5 1 := ⟨(RX5, TX5, 2), rfl, by decide, Or.inr ⟨"BlottedFirst", e_ns (e_in1 28 rfl) rfl⟩⟩
theorem fwX7_69 : e_fldw RX7 69 5 1 .int := ⟨(RX5, TX5, 2), rfl, by decide, Or.inr ⟨"BlottedFirst", e_ns (e_in1 28 rfl) rfl⟩, rfl, by decide +kernel⟩
theorem sX7_18 : e_site RX7 18 yX1_init := Or.inr ⟨"BlottedFirst", e_ns (e_in1 37 rfl) rfl⟩
theorem fX1_9 : e_fld RX1 9 1 0 := ⟨(RX1, TX1, 5), rfl, by decide, Or.inl (e_bg (e_in1 41 rfl) rfl)⟩
theorem fX1_15 : e_fld RX1 15 1 1 := ⟨(RX1, TX1, 5), rfl, by decide, Or.inl (e_bg (e_in1 42 rfl) rfl)⟩
theorem fX1_18 : e_fld RX1 18 1 2 := ⟨(RX1, TX1, 5), rfl, by decide, Or.inl (e_bg (e_in1 43 rfl) rfl)⟩
theorem fX1_21 : e_fld RX1 21 1 3 := ⟨(RX1, TX1, 5), rfl, by decide, Or.inl (e_bg (e_in1 44 rfl) rfl)⟩
theorem fX1_24 : e_fld RX1 24 1 4 := ⟨(RX1, TX1, 5), rfl, by decide, Or.inl (e_bg (e_in1 45 rfl) rfl)⟩
theorem fwX1_24 : e_fldw RX1 24 1 4 .int := ⟨(RX1, TX1, 5), rfl, by decide, Or.inl (e_bg (e_in1 45 rfl) rfl), rfl, by decide +kernel⟩
theorem fX7_90 : e_fld RX7 90 1 4 := ⟨(RX1, TX1, 5), rfl, by decide, Or.inr ⟨"BlottedFirst", e_ns (e_in1 46 rfl) rfl⟩⟩
theorem fwX7_90 : e_fldw RX7 90 1 4 .int := ⟨(RX1, TX1, 5), rfl, by decide, Or.inr ⟨"BlottedFirst", e_ns (e_in1 46 rfl) rfl⟩, rfl, by decide +kernel⟩
theorem sX7_25 : e_site RX7 25 yX3_init := Or.inr ⟨"BlottedFirst", e_ns (e_in1 60 rfl) rfl⟩
theorem sX3_18 : e_site RX3 18 yX3_renew := Or.inl (e_bg (e_in1 64 rfl) rfl)
theorem sX3_21 : e_site RX3 21 yX3_clean := Or.inl (e_bg (e_in1 68 rfl) rfl)
theorem sX3_25 : e_site RX3 25 yX7_isCell := Or.inr ⟨"BlottedFirst", e_ns (e_in1 72 rfl) rfl⟩
theorem fX3_9 : e_fld RX3 9 3 0 := ⟨(RX3, TX3, 3), rfl, by decide, Or.inl (e_bg (e_in1 75 rfl) rfl)⟩
theorem fX7_246 : e_fld RX7 246 3 0 := ⟨(RX3, TX3, 3), rfl, by decide, Or.inr ⟨"BlottedFirst", e_ns (e_in1 76 rfl) rfl⟩⟩
theorem fX3_15 : e_fld RX3 15 3 1 := ⟨(RX3, TX3, 3), rfl, by decide, Or.inl (e_bg (e_in1 77 rfl) rfl)⟩
theorem fX7_250 : e_fld RX7 250 3 1 := ⟨(RX3, TX3, 3), rfl, by decide, Or.inr ⟨"BlottedFirst", e_ns (e_in1 78 rfl) rfl⟩⟩
theorem fX7_83 : e_fld RX7 83 3 2 := ⟨(RX3, TX3, 3), rfl, by decide, Or.inr ⟨"BlottedFirst", e_ns (e_in1 79 rfl) rfl⟩⟩
theorem fwX7_83 : e_fldw RX7 83 3 2 .int := ⟨(RX3, TX3, 3), rfl, by decide, Or.inr ⟨"BlottedFirst", e_ns (e_in1 79 rfl) rfl⟩, rfl, by decide +kernel⟩
theorem fX3_35 : e_fld RX3 35 3 2 := ⟨(RX3, TX3, 3), rfl, by decide, Or.inl (e_bg (e_in1 80 rfl) rfl)⟩
theorem fwX3_35 : e_fldw RX3 35 3 2 .int := ⟨(RX3, TX3, 3), rfl, by decide, Or.inl (e_bg (e_in1 80 rfl) rfl), rfl, by decide +kernel⟩
theorem sX7_35 : e_site RX7 35 yX0_init := Or.inr ⟨"BlottedFirst", e_ns (e_in1 90 rfl) rfl⟩
theorem sX0_17 : e_site RX0 17 yX3_init := Or.inr ⟨"BlottedFirst", e_ns (e_in1 96 rfl) rfl⟩
theorem fX0_11 : e_fld RX0 11 0 0 := ⟨(RX0, TX0, 3), rfl, by decide, Or.inl (e_bg (e_in1 97 rfl) rfl)⟩
theorem fX0_18 : e_fld RX0 18 0 1 := ⟨(RX0, TX0, 3), rfl, by decide, Or.inl (e_bg (e_in1 98 rfl) rfl)⟩
theorem fwX0_18 : e_fldw RX0 18 0 1 .int := ⟨(RX0, TX0, 3), rfl, by decide, Or.inl (e_bg (e_in1 98 rfl) rfl), rfl, by decide +kernel⟩
theorem fX0_22 : e_fld RX0 22 0 2 := ⟨(RX0, TX0, 3), rfl, by decide, Or.inl (e_bg (e_in1 99 rfl) rfl)⟩
theorem fwX0_22 : e_fldw RX0 22 0 2 .int := ⟨(RX0, TX0, 3), rfl, by decide, Or.inl (e_bg (e_in1 99 rfl) rfl), rfl, by decide +kernel⟩
theorem fX7_106 : e_fld RX7 106 0 2 := ⟨(RX0, TX0, 3), rfl, by decide, Or.inr ⟨"BlottedFirst", e_ns (e_in1 100 rfl) rfl⟩⟩
theorem fwX7_106 : e_fldw RX7 106 0 2 .int := ⟨(RX0, TX0, 3), rfl, by decide, Or.inr ⟨"BlottedFirst", e_ns (e_in1 100 rfl) rfl⟩, rfl, by decide +kernel⟩
theorem sX7_42 : e_site RX7 42 yX2_init := Or.inr ⟨"BlottedFirst", e_ns (e_in1 110 rfl) rfl⟩
theorem fX2_9 : e_fld RX2 9 2 0 := ⟨(RX2, TX2, 4), rfl, by decide, Or.inl (e_bg (e_in1 114 rfl) rfl)⟩
theorem fX2_15 : e_fld RX2 15 2 1 := ⟨(RX2, TX2, 4), rfl, by decide, Or.inl (e_bg (e_in1 115 rfl) rfl)⟩
theorem fX2_18 : e_fld RX2 18 2 2 := ⟨(RX2, TX2, 4), rfl, by decide, Or.inl (e_bg (e_in1 116 rfl) rfl)⟩
theorem fX2_21 : e_fld RX2 21 2 3 := ⟨(RX2, TX2, 4), rfl, by decide, Or.inl (e_bg (e_in1 117 rfl) rfl)⟩
theorem fwX2_21 : e_fldw RX2 21 2 3 .int := ⟨(RX2, TX2, 4), rfl, by decide, Or.inl (e_bg (e_in1 117 rfl) rfl), rfl, by decide +kernel⟩
theorem fX7_107 : e_fld RX7 107 2 3 := ⟨(RX2, TX2, 4), rfl, by decide, Or.inr ⟨"BlottedFirst", e_ns (e_in1 118 rfl) rfl⟩⟩
theorem fwX7_107 : e_fldw RX7 107 2 3 .int := ⟨(RX2, TX2, 4), rfl, by decide, Or.inr ⟨"BlottedFirst", e_ns (e_in1 118 rfl) rfl⟩, rfl, by decide +kernel⟩
theorem sX7_49 : e_site RX7 49 yX4_init := Or.inr ⟨"BlottedFirst", e_ns (e_in1 130 rfl) rfl⟩
theorem sX4_17 : e_site RX4 17 yX3_init := Or.inr ⟨"BlottedFirst", e_ns (e_in1 135 rfl) rfl⟩
theorem fX4_11 : e_fld RX4 11 4 0 := ⟨(RX4, TX4, 2), rfl, by decide, Or.inl (e_bg (e_in1 136 rfl) rfl)⟩
theorem fX4_18 : e_fld RX4 18 4 1 := ⟨(RX4, TX4, 2), rfl, by decide, Or.inl (e_bg (e_in1 137 rfl) rfl)⟩
theorem fwX4_18 : e_fldw RX4 18 4 1 .int := ⟨(RX4, TX4, 2), rfl, by decide, Or.inl (e_bg (e_in1 137 rfl) rfl), rfl, by decide +kernel⟩
theorem sX7_56 : e_site RX7 56 yX6_init := Or.inr ⟨"BlottedFirst", e_ns (e_in1 145 rfl) rfl⟩
theorem fX6_9 : e_fld RX6 9 6 0 := ⟨(RX6, TX6, 1), rfl, by decide, Or.inl (e_bg (e_in1 149 rfl) rfl)⟩
theorem fX7_10 : e_fld RX7 10 7 0 := ⟨(RX7, TX7, 9), rfl, by decide, Or.inl (e_bg (e_in1 153 rfl) rfl)⟩
theorem fX7_19 : e_fld RX7 19 7 1 := ⟨(RX7, TX7, 9), rfl, by decide, Or.inl (e_bg (e_in1 154 rfl) rfl)⟩
theorem fX7_26 : e_fld RX7 26 7 2 := ⟨(RX7, TX7, 9), rfl, by decide, Or.inl (e_bg (e_in1 155 rfl) rfl)⟩
theorem fX7_30 : e_fld RX7 30 7 3 := ⟨(RX7, TX7, 9), rfl, by decide, Or.inl (e_bg (e_in1 156 rfl) rfl)⟩
theorem fX7_36 : e_fld RX7 36 7 4 := ⟨(RX7, TX7, 9), rfl, by decide, Or.inl (e_bg (e_in1 157 rfl) rfl)⟩
theorem fX7_43 : e_fld RX7 43 7 5 := ⟨(RX7, TX7, 9), rfl, by decide, Or.inl (e_bg (e_in1 158 rfl) rfl)⟩
theorem fX7_50 : e_fld RX7 50 7 6 := ⟨(RX7, TX7, 9), rfl, by decide, Or.inl (e_bg (e_in1 159 rfl) rfl)⟩
theorem fX7_57 : e_fld RX7 57 7 7 := ⟨(RX7, TX7, 9), rfl, by decide, Or.inl (e_bg (e_in1 160 rfl) rfl)⟩
theorem fX7_61 : e_fld RX7 61 7 8 := ⟨(RX7, TX7, 9), rfl, by decide, Or.inl (e_bg (e_in1 161 rfl) rfl)⟩
theorem fwX7_61 : e_fldw RX7 61 7 8 .long := ⟨(RX7, TX7, 9), rfl, by decide, Or.inl (e_bg (e_in1 161 rfl) rfl), rfl, by decide +kernel⟩
theorem sL_13 : e_site RL 13 yX7_write := Or.inl (e_bg (e_in1 181 rfl) rfl)
theorem sX7_65 : e_site RX7 65 yX5_append := Or.inr ⟨"BlottedFirst", e_ns (e_in1 185 rfl) rfl⟩
theorem sL_18 : e_site RL 18 yX7_wipe := Or.inl (e_bg (e_in1 189 rfl) rfl)
theorem sL_23 : e_site RL 23 yX7_fault := Or.inl (e_bg (e_in1 193 rfl) rfl)
theorem sX7_73 : e_site RX7 73 yX5_firstFault := Or.inr ⟨"BlottedFirst", e_ns (e_in1 197 rfl) rfl⟩
theorem sX5_23 : e_site RX5 23 yX5_isRight := Or.inl (e_bg (e_in1 201 rfl) rfl)
theorem sX5_19 : e_site RX5 19 yX5_byteAt := Or.inl (e_bg (e_in1 205 rfl) rfl)
theorem sX5_27 : e_site RX5 27 yX5_isFigure := Or.inl (e_bg (e_in1 209 rfl) rfl)
theorem sX5_31 : e_site RX5 31 yX5_figureAt := Or.inl (e_bg (e_in1 213 rfl) rfl)
theorem sL_27 : e_site RL 27 yX7_office := Or.inl (e_bg (e_in1 217 rfl) rfl)
theorem sX7_77 : e_site RX7 77 yX7_readLetters := Or.inl (e_bg (e_in1 221 rfl) rfl)
theorem sX7_240 : e_site RX7 240 yX5_figureAt := Or.inr ⟨"BlottedFirst", e_ns (e_in1 225 rfl) rfl⟩
theorem sX7_243 : e_site RX7 243 yX1_add := Or.inr ⟨"BlottedFirst", e_ns (e_in1 226 rfl) rfl⟩
theorem sX1_28 : e_site RX1 28 yX1_forceBy := Or.inl (e_bg (e_in1 230 rfl) rfl)
theorem sX1_32 : e_site RX1 32 yX1_marksBy := Or.inl (e_bg (e_in1 233 rfl) rfl)
theorem sX7_80 : e_site RX7 80 yX3_renew := Or.inr ⟨"BlottedFirst", e_ns (e_in1 236 rfl) rfl⟩
theorem sX7_86 : e_site RX7 86 yX0_forget := Or.inr ⟨"BlottedFirst", e_ns (e_in1 237 rfl) rfl⟩
theorem sX7_89 : e_site RX7 89 yX4_forget := Or.inr ⟨"BlottedFirst", e_ns (e_in2 1 rfl) rfl⟩
theorem sL_31 : e_site RL 31 yX7_about := Or.inl (e_bg (e_in2 5 rfl) rfl)
theorem sX7_93 : e_site RX7 93 yX3_shownIn := Or.inr ⟨"BlottedFirst", e_ns (e_in2 9 rfl) rfl⟩
theorem sX7_97 : e_site RX7 97 yX3_allInk := Or.inr ⟨"BlottedFirst", e_ns (e_in2 13 rfl) rfl⟩
theorem sX7_100 : e_site RX7 100 yX1_readable := Or.inr ⟨"BlottedFirst", e_ns (e_in2 17 rfl) rfl⟩
theorem sX1_39 : e_site RX1 39 yX1_canBeRead := Or.inl (e_bg (e_in2 21 rfl) rfl)
theorem sX1_35 : e_site RX1 35 yX1_has := Or.inl (e_bg (e_in2 25 rfl) rfl)
theorem sX7_103 : e_site RX7 103 yX3_onTop := Or.inr ⟨"BlottedFirst", e_ns (e_in2 29 rfl) rfl⟩
theorem sL_35 : e_site RL 35 yX7_letter := Or.inl (e_bg (e_in2 33 rfl) rfl)
theorem sX7_108 : e_site RX7 108 yX1_has := Or.inr ⟨"BlottedFirst", e_ns (e_in2 37 rfl) rfl⟩
theorem sX7_111 : e_site RX7 111 yX1_placeOf := Or.inr ⟨"BlottedFirst", e_ns (e_in2 38 rfl) rfl⟩
theorem sX7_114 : e_site RX7 114 yX1_handOf := Or.inr ⟨"BlottedFirst", e_ns (e_in2 42 rfl) rfl⟩
theorem sX7_117 : e_site RX7 117 yX1_forceOf := Or.inr ⟨"BlottedFirst", e_ns (e_in2 46 rfl) rfl⟩
theorem sX7_120 : e_site RX7 120 yX1_cellsOf := Or.inr ⟨"BlottedFirst", e_ns (e_in2 50 rfl) rfl⟩
theorem sX7_123 : e_site RX7 123 yX1_canBeRead := Or.inr ⟨"BlottedFirst", e_ns (e_in2 54 rfl) rfl⟩
theorem sL_40 : e_site RL 40 yX7_cell := Or.inl (e_bg (e_in2 55 rfl) rfl)
theorem sX7_127 : e_site RX7 127 yX7_isCell := Or.inl (e_bg (e_in2 59 rfl) rfl)
theorem sX7_130 : e_site RX7 130 yX3_inkAt := Or.inr ⟨"BlottedFirst", e_ns (e_in2 60 rfl) rfl⟩
theorem sX7_133 : e_site RX7 133 yX3_topAt := Or.inr ⟨"BlottedFirst", e_ns (e_in2 64 rfl) rfl⟩
theorem sL_44 : e_site RL 44 yX7_press := Or.inl (e_bg (e_in2 68 rfl) rfl)
theorem sX7_136 : e_site RX7 136 yX0_remember := Or.inr ⟨"BlottedFirst", e_ns (e_in2 72 rfl) rfl⟩
theorem sX0_25 : e_site RX0 25 yX0_sheetAt := Or.inl (e_bg (e_in2 76 rfl) rfl)
theorem sX0_29 : e_site RX0 29 yX7_copy := Or.inr ⟨"BlottedFirst", e_ns (e_in2 80 rfl) rfl⟩
theorem sX7_140 : e_site RX7 140 yX3_addInk := Or.inr ⟨"BlottedFirst", e_ns (e_in2 83 rfl) rfl⟩
theorem sX3_29 : Cond.methodLink RX3 29 Lib.Math.min.name ∈ e_big := (e_bg (e_in2 87 rfl) rfl)
theorem sX7_144 : e_site RX7 144 yJ6_bitCount_0f7a4 := Or.inl (e_bg (e_in2 90 rfl) rfl)
theorem kJ6_265 : Cond.constant RJ6 265 (1431655765) ∈ e_big := (e_bg (e_in2 93 rfl) rfl)
theorem kJ6_266 : Cond.constant RJ6 266 (858993459) ∈ e_big := (e_bg (e_in2 94 rfl) rfl)
theorem kJ6_267 : Cond.constant RJ6 267 (252645135) ∈ e_big := (e_bg (e_in2 95 rfl) rfl)
theorem sL_48 : e_site RL 48 yX7_day := Or.inl (e_bg (e_in2 96 rfl) rfl)
theorem sX7_149 : e_site RX7 149 yX3_dry := Or.inr ⟨"BlottedFirst", e_ns (e_in2 100 rfl) rfl⟩
theorem sL_52 : e_site RL 52 yX7_rub := Or.inl (e_bg (e_in2 104 rfl) rfl)
theorem sX7_152 : e_site RX7 152 yX3_clean := Or.inr ⟨"BlottedFirst", e_ns (e_in2 108 rfl) rfl⟩
theorem sL_56 : e_site RL 56 yX7_change := Or.inl (e_bg (e_in2 109 rfl) rfl)
theorem sL_60 : e_site RL 60 yX7_undo := Or.inl (e_bg (e_in2 113 rfl) rfl)
theorem sX7_156 : e_site RX7 156 yX0_takeBack := Or.inr ⟨"BlottedFirst", e_ns (e_in2 117 rfl) rfl⟩
theorem sL_64 : e_site RL 64 yX7_later := Or.inl (e_bg (e_in2 121 rfl) rfl)
theorem sL_68 : e_site RL 68 yX7_lasts := Or.inl (e_bg (e_in2 125 rfl) rfl)
theorem sL_72 : e_site RL 72 yX7_shows := Or.inl (e_bg (e_in2 129 rfl) rfl)
theorem sX7_160 : e_site RX7 160 yX1_all := Or.inr ⟨"BlottedFirst", e_ns (e_in2 133 rfl) rfl⟩
theorem sX7_163 : e_site RX7 163 yX1_shownBy := Or.inr ⟨"BlottedFirst", e_ns (e_in2 137 rfl) rfl⟩
theorem sX1_43 : e_site RX1 43 yX1_forceOf := Or.inl (e_bg (e_in2 141 rfl) rfl)
theorem sX1_47 : e_site RX1 47 yX1_cellsOf := Or.inl (e_bg (e_in2 142 rfl) rfl)
theorem sL_76 : e_site RL 76 yX7_fits := Or.inl (e_bg (e_in2 143 rfl) rfl)
theorem sX7_166 : e_site RX7 166 yX7_told := Or.inl (e_bg (e_in2 147 rfl) rfl)
theorem sL_80 : e_site RL 80 yX7_keeps := Or.inl (e_bg (e_in2 150 rfl) rfl)
theorem sX7_170 : e_site RX7 170 yX7_keepsMore := Or.inl (e_bg (e_in2 154 rfl) rfl)
theorem sX7_173 : e_site RX7 173 yX7_readOf := Or.inl (e_bg (e_in2 158 rfl) rfl)
theorem sL_84 : e_site RL 84 yX7_twice := Or.inl (e_bg (e_in2 162 rfl) rfl)
theorem sX7_176 : e_site RX7 176 yX6_start := Or.inr ⟨"BlottedFirst", e_ns (e_in2 166 rfl) rfl⟩
theorem sX7_179 : e_site RX7 179 yX7_power := Or.inl (e_bg (e_in2 170 rfl) rfl)
theorem sX7_183 : e_site RX7 183 yX7_timesGiveTheInk := Or.inl (e_bg (e_in2 173 rfl) rfl)
theorem sX7_253 : e_site RX7 253 yX7_inkByTimes := Or.inl (e_bg (e_in2 177 rfl) rfl)
theorem sX7_256 : e_site RX7 256 yX6_howOften := Or.inr ⟨"BlottedFirst", e_ns (e_in2 181 rfl) rfl⟩
theorem sX7_259 : Cond.methodLink RX7 259 Lib.Math.min.name ∈ e_big := (e_bg (e_in2 185 rfl) rfl)
theorem sX7_187 : e_site RX7 187 yX6_lettersThere := Or.inr ⟨"BlottedFirst", e_ns (e_in2 186 rfl) rfl⟩
theorem sX7_190 : e_site RX7 190 yX6_next := Or.inr ⟨"BlottedFirst", e_ns (e_in2 190 rfl) rfl⟩
theorem sL_88 : e_site RL 88 yX7_crossed := Or.inl (e_bg (e_in2 194 rfl) rfl)
theorem sX7_193 : e_site RX7 193 yX7_leastThird := Or.inl (e_bg (e_in2 198 rfl) rfl)
theorem sL_92 : e_site RL 92 yX7_least := Or.inl (e_bg (e_in2 202 rfl) rfl)
theorem sL_96 : e_site RL 96 yX7_share := Or.inl (e_bg (e_in2 206 rfl) rfl)
theorem sX7_196 : e_site RX7 196 yX1_showing := Or.inr ⟨"BlottedFirst", e_ns (e_in2 210 rfl) rfl⟩
theorem sX1_50 : e_site RX1 50 yX1_shownBy := Or.inl (e_bg (e_in2 214 rfl) rfl)
theorem sX7_199 : e_site RX7 199 yX7_leastTerms := Or.inl (e_bg (e_in2 215 rfl) rfl)
theorem sX7_276 : e_site RX7 276 yX7_commonDivisor := Or.inl (e_bg (e_in2 218 rfl) rfl)
theorem sL_101 : e_site RL 101 yX7_tell := Or.inl (e_bg (e_in2 221 rfl) rfl)
theorem sX7_203 : e_site RX7 203 yX2_add := Or.inr ⟨"BlottedFirst", e_ns (e_in2 225 rfl) rfl⟩
theorem sL_105 : e_site RL 105 yX7_untell := Or.inl (e_bg (e_in2 229 rfl) rfl)
theorem sL_109 : e_site RL 109 yX7_orders := Or.inl (e_bg (e_in2 233 rfl) rfl)
theorem sX7_206 : e_site RX7 206 yX2_howManyOrders := Or.inr ⟨"BlottedFirst", e_ns (e_in2 237 rfl) rfl⟩
theorem sX2_29 : Cond.methodLink RX2 29 Lib.Math.min.name ∈ e_big := (e_bg (e_in3 1 rfl) rfl)
theorem sX2_34 : e_site RX2 34 yX2_canFollow := Or.inl (e_bg (e_in3 2 rfl) rfl)
theorem sX2_25 : e_site RX2 25 yX2_setBelow := Or.inl (e_bg (e_in3 6 rfl) rfl)
theorem sX7_209 : e_site RX7 209 yX2_firstOrder := Or.inr ⟨"BlottedFirst", e_ns (e_in3 10 rfl) rfl⟩
theorem sX2_38 : e_site RX2 38 yX2_leastNext := Or.inl (e_bg (e_in3 14 rfl) rfl)
theorem sL_113 : e_site RL 113 yX7_rests := Or.inl (e_bg (e_in3 18 rfl) rfl)
theorem sX7_212 : e_site RX7 212 yX7_isAtRest := Or.inl (e_bg (e_in3 22 rfl) rfl)
theorem sX7_267 : e_site RX7 267 yX7_canPressBy := Or.inl (e_bg (e_in3 25 rfl) rfl)
theorem sX7_270 : e_site RX7 270 yX7_clerkHas := Or.inl (e_bg (e_in3 28 rfl) rfl)
theorem sX7_264 : e_site RX7 264 yX7_isSeen := Or.inl (e_bg (e_in3 31 rfl) rfl)
theorem sX7_273 : e_site RX7 273 yX7_auditorHas := Or.inl (e_bg (e_in3 34 rfl) rfl)
theorem sL_117 : e_site RL 117 yX7_chance := Or.inl (e_bg (e_in3 37 rfl) rfl)
theorem sX7_216 : e_site RX7 216 yX1_windowOf := Or.inr ⟨"BlottedFirst", e_ns (e_in3 41 rfl) rfl⟩
theorem sL_124 : e_site RL 124 yX7_seed := Or.inl (e_bg (e_in3 45 rfl) rfl)
theorem sL_129 : e_site RL 129 yX7_years := Or.inl (e_bg (e_in3 49 rfl) rfl)
theorem sX7_219 : e_site RX7 219 yX7_copy := Or.inl (e_bg (e_in3 53 rfl) rfl)
theorem kX7_223 : Cond.constantLong RX7 223 (6364136223846793005) ∈ e_big := (e_bg (e_in3 54 rfl) rfl)
theorem kX7_225 : Cond.constantLong RX7 225 (1442695040888963407) ∈ e_big := (e_bg (e_in3 55 rfl) rfl)
theorem kX7_227 : Cond.constantLong RX7 227 (9) ∈ e_big := (e_bg (e_in3 56 rfl) rfl)
theorem sX7_229 : e_site RX7 229 yX7_befall := Or.inl (e_bg (e_in3 57 rfl) rfl)
theorem sL_133 : e_site RL 133 yX7_keep := Or.inl (e_bg (e_in3 61 rfl) rfl)
theorem sX7_232 : e_site RX7 232 yX4_store := Or.inr ⟨"BlottedFirst", e_ns (e_in3 65 rfl) rfl⟩
theorem sX4_22 : e_site RX4 22 yX7_copy := Or.inr ⟨"BlottedFirst", e_ns (e_in3 69 rfl) rfl⟩
theorem sL_137 : e_site RL 137 yX7_again := Or.inl (e_bg (e_in3 70 rfl) rfl)
theorem sX7_236 : e_site RX7 236 yX4_load := Or.inr ⟨"BlottedFirst", e_ns (e_in3 74 rfl) rfl⟩
theorem sL_12 : e_site RL 12 yX8_init := Or.inl (e_bg (e_in3 80 rfl) rfl)
theorem sX8_56 : e_site RX8 56 yX8_clean := Or.inl (e_bg (e_in3 84 rfl) rfl)
theorem fX8_60 : e_fld RX8 60 8 0 := ⟨(RX8, TX8, 27), rfl, by decide, Or.inl (e_bg (e_in3 87 rfl) rfl)⟩
theorem fwX8_60 : e_fldw RX8 60 8 0 .int := ⟨(RX8, TX8, 27), rfl, by decide, Or.inl (e_bg (e_in3 87 rfl) rfl), rfl, by decide +kernel⟩
theorem fX8_7 : e_fld RX8 7 8 1 := ⟨(RX8, TX8, 27), rfl, by decide, Or.inl (e_bg (e_in3 88 rfl) rfl)⟩
theorem fX8_75 : e_fld RX8 75 8 2 := ⟨(RX8, TX8, 27), rfl, by decide, Or.inl (e_bg (e_in3 89 rfl) rfl)⟩
theorem fwX8_75 : e_fldw RX8 75 8 2 .int := ⟨(RX8, TX8, 27), rfl, by decide, Or.inl (e_bg (e_in3 89 rfl) rfl), rfl, by decide +kernel⟩
theorem fX8_78 : e_fld RX8 78 8 3 := ⟨(RX8, TX8, 27), rfl, by decide, Or.inl (e_bg (e_in3 90 rfl) rfl)⟩
theorem fwX8_78 : e_fldw RX8 78 8 3 .int := ⟨(RX8, TX8, 27), rfl, by decide, Or.inl (e_bg (e_in3 90 rfl) rfl), rfl, by decide +kernel⟩
theorem fX8_64 : e_fld RX8 64 8 4 := ⟨(RX8, TX8, 27), rfl, by decide, Or.inl (e_bg (e_in3 91 rfl) rfl)⟩
theorem fwX8_64 : e_fldw RX8 64 8 4 .int := ⟨(RX8, TX8, 27), rfl, by decide, Or.inl (e_bg (e_in3 91 rfl) rfl), rfl, by decide +kernel⟩
theorem fX8_13 : e_fld RX8 13 8 5 := ⟨(RX8, TX8, 27), rfl, by decide, Or.inl (e_bg (e_in3 92 rfl) rfl)⟩
theorem fX8_16 : e_fld RX8 16 8 6 := ⟨(RX8, TX8, 27), rfl, by decide, Or.inl (e_bg (e_in3 93 rfl) rfl)⟩
theorem fX8_19 : e_fld RX8 19 8 7 := ⟨(RX8, TX8, 27), rfl, by decide, Or.inl (e_bg (e_in3 94 rfl) rfl)⟩
theorem fX8_22 : e_fld RX8 22 8 8 := ⟨(RX8, TX8, 27), rfl, by decide, Or.inl (e_bg (e_in3 95 rfl) rfl)⟩
theorem fX8_81 : e_fld RX8 81 8 9 := ⟨(RX8, TX8, 27), rfl, by decide, Or.inl (e_bg (e_in3 96 rfl) rfl)⟩
theorem fwX8_81 : e_fldw RX8 81 8 9 .int := ⟨(RX8, TX8, 27), rfl, by decide, Or.inl (e_bg (e_in3 96 rfl) rfl), rfl, by decide +kernel⟩
theorem fX8_25 : e_fld RX8 25 8 10 := ⟨(RX8, TX8, 27), rfl, by decide, Or.inl (e_bg (e_in3 97 rfl) rfl)⟩
theorem fX8_28 : e_fld RX8 28 8 11 := ⟨(RX8, TX8, 27), rfl, by decide, Or.inl (e_bg (e_in3 98 rfl) rfl)⟩
theorem fX8_31 : e_fld RX8 31 8 12 := ⟨(RX8, TX8, 27), rfl, by decide, Or.inl (e_bg (e_in3 99 rfl) rfl)⟩
theorem fX8_34 : e_fld RX8 34 8 13 := ⟨(RX8, TX8, 27), rfl, by decide, Or.inl (e_bg (e_in3 100 rfl) rfl)⟩
theorem fX8_92 : e_fld RX8 92 8 14 := ⟨(RX8, TX8, 27), rfl, by decide, Or.inl (e_bg (e_in3 101 rfl) rfl)⟩
theorem fwX8_92 : e_fldw RX8 92 8 14 .int := ⟨(RX8, TX8, 27), rfl, by decide, Or.inl (e_bg (e_in3 101 rfl) rfl), rfl, by decide +kernel⟩
theorem fX8_37 : e_fld RX8 37 8 15 := ⟨(RX8, TX8, 27), rfl, by decide, Or.inl (e_bg (e_in3 102 rfl) rfl)⟩
theorem fX8_40 : e_fld RX8 40 8 16 := ⟨(RX8, TX8, 27), rfl, by decide, Or.inl (e_bg (e_in3 103 rfl) rfl)⟩
theorem fX8_110 : e_fld RX8 110 8 17 := ⟨(RX8, TX8, 27), rfl, by decide, Or.inl (e_bg (e_in3 104 rfl) rfl)⟩
theorem fwX8_110 : e_fldw RX8 110 8 17 .int := ⟨(RX8, TX8, 27), rfl, by decide, Or.inl (e_bg (e_in3 104 rfl) rfl), rfl, by decide +kernel⟩
theorem fX8_44 : e_fld RX8 44 8 18 := ⟨(RX8, TX8, 27), rfl, by decide, Or.inl (e_bg (e_in3 105 rfl) rfl)⟩
theorem fX8_47 : e_fld RX8 47 8 19 := ⟨(RX8, TX8, 27), rfl, by decide, Or.inl (e_bg (e_in3 106 rfl) rfl)⟩
theorem fX8_197 : e_fld RX8 197 8 20 := ⟨(RX8, TX8, 27), rfl, by decide, Or.inl (e_bg (e_in3 107 rfl) rfl)⟩
theorem fwX8_197 : e_fldw RX8 197 8 20 .long := ⟨(RX8, TX8, 27), rfl, by decide, Or.inl (e_bg (e_in3 107 rfl) rfl), rfl, by decide +kernel⟩
theorem fX8_144 : e_fld RX8 144 8 21 := ⟨(RX8, TX8, 27), rfl, by decide, Or.inl (e_bg (e_in3 108 rfl) rfl)⟩
theorem fwX8_144 : e_fldw RX8 144 8 21 .int := ⟨(RX8, TX8, 27), rfl, by decide, Or.inl (e_bg (e_in3 108 rfl) rfl), rfl, by decide +kernel⟩
theorem fX8_147 : e_fld RX8 147 8 22 := ⟨(RX8, TX8, 27), rfl, by decide, Or.inl (e_bg (e_in3 109 rfl) rfl)⟩
theorem fwX8_147 : e_fldw RX8 147 8 22 .int := ⟨(RX8, TX8, 27), rfl, by decide, Or.inl (e_bg (e_in3 109 rfl) rfl), rfl, by decide +kernel⟩
theorem fX8_150 : e_fld RX8 150 8 23 := ⟨(RX8, TX8, 27), rfl, by decide, Or.inl (e_bg (e_in3 110 rfl) rfl)⟩
theorem fwX8_150 : e_fldw RX8 150 8 23 .int := ⟨(RX8, TX8, 27), rfl, by decide, Or.inl (e_bg (e_in3 110 rfl) rfl), rfl, by decide +kernel⟩
theorem fX8_179 : e_fld RX8 179 8 24 := ⟨(RX8, TX8, 27), rfl, by decide, Or.inl (e_bg (e_in3 111 rfl) rfl)⟩
theorem fwX8_179 : e_fldw RX8 179 8 24 .int := ⟨(RX8, TX8, 27), rfl, by decide, Or.inl (e_bg (e_in3 111 rfl) rfl), rfl, by decide +kernel⟩
theorem fX8_50 : e_fld RX8 50 8 25 := ⟨(RX8, TX8, 27), rfl, by decide, Or.inl (e_bg (e_in3 112 rfl) rfl)⟩
theorem fX8_53 : e_fld RX8 53 8 26 := ⟨(RX8, TX8, 27), rfl, by decide, Or.inl (e_bg (e_in3 113 rfl) rfl)⟩
theorem sL_17 : e_site RL 17 yX8_write := Or.inl (e_bg (e_in3 170 rfl) rfl)
theorem kX8_73 : Cond.constantLong RX8 73 (255) ∈ e_big := (e_bg (e_in3 174 rfl) rfl)
theorem sX8_67 : e_site RX8 67 yX8_in := Or.inl (e_bg (e_in3 175 rfl) rfl)
theorem sL_22 : e_site RL 22 yX8_wipe := Or.inl (e_bg (e_in3 178 rfl) rfl)
theorem sL_26 : e_site RL 26 yX8_fault := Or.inl (e_bg (e_in3 182 rfl) rfl)
theorem sX8_88 : e_site RX8 88 yX8_readOffice := Or.inl (e_bg (e_in3 186 rfl) rfl)
theorem sX8_84 : e_site RX8 84 yX8_figure := Or.inl (e_bg (e_in3 190 rfl) rfl)
theorem sL_30 : e_site RL 30 yX8_office := Or.inl (e_bg (e_in3 194 rfl) rfl)
theorem sL_34 : e_site RL 34 yX8_about := Or.inl (e_bg (e_in3 198 rfl) rfl)
theorem sX8_102 : e_site RX8 102 yX8_shown := Or.inl (e_bg (e_in3 202 rfl) rfl)
theorem sX8_106 : e_site RX8 106 yX8_readBy := Or.inl (e_bg (e_in3 205 rfl) rfl)
theorem sX8_95 : e_site RX8 95 yX8_isRead := Or.inl (e_bg (e_in3 209 rfl) rfl)
theorem sL_39 : e_site RL 39 yX8_letter := Or.inl (e_bg (e_in3 213 rfl) rfl)
theorem sX8_113 : e_site RX8 113 yX8_noLetter := Or.inl (e_bg (e_in3 217 rfl) rfl)
theorem sL_43 : e_site RL 43 yX8_cell := Or.inl (e_bg (e_in3 221 rfl) rfl)
theorem sX8_117 : e_site RX8 117 yX8_noCell := Or.inl (e_bg (e_in3 225 rfl) rfl)
theorem kX8_71 : Cond.constantLong RX8 71 (11) ∈ e_big := (e_bg (e_in3 228 rfl) rfl)
theorem sL_47 : e_site RL 47 yX8_press := Or.inl (e_bg (e_in3 229 rfl) rfl)
theorem sX8_120 : e_site RX8 120 yX8_note := Or.inl (e_bg (e_in3 233 rfl) rfl)
theorem sX8_123 : e_site RX8 123 yX8_goPress := Or.inl (e_bg (e_in3 237 rfl) rfl)
theorem sX8_99 : e_site RX8 99 yX8_has := Or.inl (e_bg (e_in4 1 rfl) rfl)
theorem sX8_127 : e_site RX8 127 yX8_many := Or.inl (e_bg (e_in4 4 rfl) rfl)
theorem sL_51 : e_site RL 51 yX8_day := Or.inl (e_bg (e_in4 7 rfl) rfl)
theorem sX8_130 : e_site RX8 130 yX8_goDay := Or.inl (e_bg (e_in4 11 rfl) rfl)
theorem sL_55 : e_site RL 55 yX8_rub := Or.inl (e_bg (e_in4 14 rfl) rfl)
theorem sL_59 : e_site RL 59 yX8_change := Or.inl (e_bg (e_in4 18 rfl) rfl)
theorem sL_63 : e_site RL 63 yX8_undo := Or.inl (e_bg (e_in4 22 rfl) rfl)
theorem sL_67 : e_site RL 67 yX8_later := Or.inl (e_bg (e_in4 26 rfl) rfl)
theorem kX8_133 : Cond.constantLong RX8 133 (9) ∈ e_big := (e_bg (e_in4 30 rfl) rfl)
theorem sX8_135 : e_site RX8 135 yX8_shownIn := Or.inl (e_bg (e_in4 31 rfl) rfl)
theorem sL_71 : e_site RL 71 yX8_lasts := Or.inl (e_bg (e_in4 35 rfl) rfl)
theorem sL_75 : e_site RL 75 yX8_shows := Or.inl (e_bg (e_in4 39 rfl) rfl)
theorem sX8_138 : e_site RX8 138 yX8_everyone := Or.inl (e_bg (e_in4 43 rfl) rfl)
theorem sX8_141 : e_site RX8 141 yX8_showsBy := Or.inl (e_bg (e_in4 47 rfl) rfl)
theorem sL_79 : e_site RL 79 yX8_fits := Or.inl (e_bg (e_in4 51 rfl) rfl)
theorem kX8_153 : Cond.constantLong RX8 153 (2) ∈ e_big := (e_bg (e_in4 55 rfl) rfl)
theorem sX8_155 : e_site RX8 155 yX8_found := Or.inl (e_bg (e_in4 56 rfl) rfl)
theorem sL_83 : e_site RL 83 yX8_keeps := Or.inl (e_bg (e_in4 60 rfl) rfl)
theorem sL_87 : e_site RL 87 yX8_twice := Or.inl (e_bg (e_in4 64 rfl) rfl)
theorem sX8_158 : e_site RX8 158 yX8_power := Or.inl (e_bg (e_in4 68 rfl) rfl)
theorem sX8_161 : e_site RX8 161 yX8_isInk := Or.inl (e_bg (e_in4 71 rfl) rfl)
theorem sL_91 : e_site RL 91 yX8_crossed := Or.inl (e_bg (e_in4 75 rfl) rfl)
theorem sL_95 : e_site RL 95 yX8_least := Or.inl (e_bg (e_in4 79 rfl) rfl)
theorem kX8_164 : Cond.constantLong RX8 164 (4095) ∈ e_big := (e_bg (e_in4 83 rfl) rfl)
theorem sL_100 : e_site RL 100 yX8_share := Or.inl (e_bg (e_in4 84 rfl) rfl)
theorem sX8_169 : e_site RX8 169 yX8_ways := Or.inl (e_bg (e_in4 88 rfl) rfl)
theorem sX8_172 : e_site RX8 172 yX8_fraction := Or.inl (e_bg (e_in4 91 rfl) rfl)
theorem sX8_166 : e_site RX8 166 yX8_divisor := Or.inl (e_bg (e_in4 94 rfl) rfl)
theorem sL_104 : e_site RL 104 yX8_tell := Or.inl (e_bg (e_in4 97 rfl) rfl)
theorem sL_108 : e_site RL 108 yX8_untell := Or.inl (e_bg (e_in4 101 rfl) rfl)
theorem sL_112 : e_site RL 112 yX8_orders := Or.inl (e_bg (e_in4 105 rfl) rfl)
theorem sX8_182 : e_site RX8 182 yX8_isOver := Or.inl (e_bg (e_in4 109 rfl) rfl)
theorem sX8_176 : e_site RX8 176 yX8_placeOf := Or.inl (e_bg (e_in4 113 rfl) rfl)
theorem sX8_186 : e_site RX8 186 yX8_goOrder := Or.inl (e_bg (e_in4 117 rfl) rfl)
theorem sL_116 : e_site RL 116 yX8_rests := Or.inl (e_bg (e_in4 121 rfl) rfl)
theorem sX8_189 : e_site RX8 189 yX8_clerk := Or.inl (e_bg (e_in4 125 rfl) rfl)
theorem sX8_192 : e_site RX8 192 yX8_auditor := Or.inl (e_bg (e_in4 128 rfl) rfl)
theorem sL_121 : e_site RL 121 yX8_chance := Or.inl (e_bg (e_in4 131 rfl) rfl)
theorem kX8_195 : Cond.constantLong RX8 195 (10) ∈ e_big := (e_bg (e_in4 135 rfl) rfl)
theorem sL_128 : e_site RL 128 yX8_seed := Or.inl (e_bg (e_in4 136 rfl) rfl)
theorem sL_132 : e_site RL 132 yX8_years := Or.inl (e_bg (e_in4 140 rfl) rfl)
theorem kX8_201 : Cond.constantLong RX8 201 (30) ∈ e_big := (e_bg (e_in4 144 rfl) rfl)
theorem kX8_203 : Cond.constantLong RX8 203 (6364136223846793005) ∈ e_big := (e_bg (e_in4 145 rfl) rfl)
theorem kX8_205 : Cond.constantLong RX8 205 (1442695040888963407) ∈ e_big := (e_bg (e_in4 146 rfl) rfl)
theorem sL_136 : e_site RL 136 yX8_keep := Or.inl (e_bg (e_in4 147 rfl) rfl)
theorem sL_140 : e_site RL 140 yX8_again := Or.inl (e_bg (e_in4 151 rfl) rfl)
theorem kL_122 : Cond.constantLong RL 122 (4294967295) ∈ e_big := (e_bg (e_in4 155 rfl) rfl)
theorem e_lk {own : String} {idx : Nat} {y : MethodName} (h : Cond.methodLink own idx y ∈ e_big) : e_site own idx y := Or.inl h
theorem ev_min {N d : Nat} {μ : mI} {X : mX} {pc : Nat} {L S : List Value} {M : mM} {P : Option Value → mM → Prop} {idx : Nat} {x y : Int32} (h : decode μ.2.1 pc = .ok (.invokestatic idx, 3)) (hs : Cond.methodLink μ.1.cls idx Lib.Math.min.name ∈ e_big) (hd : 1 ≤ d) (hw : (S.map fun v => v.category).sum ≤ 8) (k : Ev N d μ X (pc + 3) L (.int (if y < x then y else x) :: S) M P) : Ev N d μ X pc L (.int y :: .int x :: S) M P := by
  intro p l e R s m args below meth c cells slots Q A D cA ad hE H locs ls hP hD hS hl
  obtain ⟨hx, hb, hml, hown, hts, hN, hK, hA, ⟨hR1, hR2, hR3, hR4⟩, hX, hRet⟩ := id hE
  exact va_mmin hx hb (hml.trans hl.1.symm) hown (hts _ hs) (hts _ j_min1) (hts _ j_min2) (hts _ j_min3) (by omega) (by rw [e_wt]; omega) hR3 hR4 h (k p l e R s m args below meth c cells slots Q A D cA ad hE H locs ls hP hD hS hl)
end
section
theorem fa_and (a b : Nat) : nI a &&& nI b = nI (a &&& b) := by
  apply Int32.toBitVec_inj.1
  show BitVec.ofNat 32 a &&& BitVec.ofNat 32 b = BitVec.ofNat 32 (a &&& b)
  apply BitVec.eq_of_getLsbD_eq
  intro i hi
  simp [hi]
theorem fa_or (a b : Nat) : nI a ||| nI b = nI (a ||| b) := by
  apply Int32.toBitVec_inj.1
  show BitVec.ofNat 32 a ||| BitVec.ofNat 32 b = BitVec.ofNat 32 (a ||| b)
  apply BitVec.eq_of_getLsbD_eq
  intro i hi
  simp [hi]
theorem s_l : ∀ n, n < 32 → ((nI n &&& 31).toBitVec.smod 32).toNat = n := by decide +kernel
theorem nx_xor (a b : Nat) : nI a ^^^ nI b = nI (a ^^^ b) := by
  apply Int32.toBitVec_inj.1
  show BitVec.ofNat 32 a ^^^ BitVec.ofNat 32 b = BitVec.ofNat 32 (a ^^^ b)
  apply BitVec.eq_of_getLsbD_eq
  intro i hi
  simp [hi]
theorem n_tb (n : Nat) : (nI n).toBitVec.toNat = n % 2 ^ 32 := BitVec.toNat_ofNat n 32
theorem n_shl (n : Nat) {c : Nat} (hc : c < 32) : nI n <<< (nI c &&& 31) = nI (n * 2 ^ c) := by
  apply Int32.toBitVec_inj.mp
  apply BitVec.eq_of_toNat_eq
  rw [pk_shl _ _ c (s_l c hc), n_tb, n_tb, Nat.mod_mul_mod]
theorem n_shr {n c : Nat} (hn : n < 2 ^ 31) (hc : c < 32) : nI n >>> (nI c &&& 31) = nI (n / 2 ^ c) := pk_shrN hn _ c (s_l c hc)
theorem n_lt0 {n : Nat} (h : n < 2 ^ 31) : ¬ nI n < 0 := nI_pos h
theorem n_inc (a : Nat) : nI a + Int32.ofInt 1 = nI (a + 1) := nI_1 a
theorem n_dec (a : Nat) : nI (a + 1) + Int32.ofInt (-1) = nI a := pk_m1 a
theorem n_low {n : Nat} : nI n = nI (n % 2 ^ 32) := by
  apply Int32.toBitVec_inj.mp
  apply BitVec.eq_of_toNat_eq
  rw [n_tb, n_tb, Nat.mod_mod]
theorem n_cl {n : Nat} (h : n < 2 ^ 31) : (nI n).toNatClampNeg = n := nI_clamp h
section EVN
variable {N d : Nat} {μ : mI} {X : mX} {pc : Nat} {L S : List Value} {M : mM} {P : Option Value → mM → Prop}
theorem ev_iaddN {a b : Nat} (h : decode μ.2.1 pc = .ok (.iadd, 1)) (k : Ev N d μ X (pc + 1) L (.int (nI (a + b)) :: S) M P) : Ev N d μ X pc L (.int (nI b) :: .int (nI a) :: S) M P := ev_iadd h (by rw [nI_add]; exact k)
theorem ev_isubN {a b : Nat} (h : decode μ.2.1 pc = .ok (.isub, 1)) (hb : b ≤ a) (k : Ev N d μ X (pc + 1) L (.int (nI (a - b)) :: S) M P) : Ev N d μ X pc L (.int (nI b) :: .int (nI a) :: S) M P := ev_isub h (by rw [pk_sub hb]; exact k)
theorem ev_imulN {a b : Nat} (h : decode μ.2.1 pc = .ok (.imul, 1)) (k : Ev N d μ X (pc + 1) L (.int (nI (a * b)) :: S) M P) : Ev N d μ X pc L (.int (nI b) :: .int (nI a) :: S) M P := ev_imul h (by rw [pk_mul]; exact k)
theorem ev_iandN {a b : Nat} (h : decode μ.2.1 pc = .ok (.iand, 1)) (k : Ev N d μ X (pc + 1) L (.int (nI (a &&& b)) :: S) M P) : Ev N d μ X pc L (.int (nI b) :: .int (nI a) :: S) M P := ev_iand h (by rw [fa_and]; exact k)
theorem ev_iand1 {a : Nat} (h : decode μ.2.1 pc = .ok (.iand, 1)) (k : Ev N d μ X (pc + 1) L (.int (nI (a % 2)) :: S) M P) : Ev N d μ X pc L (.int (nI 1) :: .int (nI a) :: S) M P := ev_iandN h (by rw [Nat.and_one_is_mod]; exact k)
theorem ev_iorN {a b : Nat} (h : decode μ.2.1 pc = .ok (.ior, 1)) (k : Ev N d μ X (pc + 1) L (.int (nI (a ||| b)) :: S) M P) : Ev N d μ X pc L (.int (nI b) :: .int (nI a) :: S) M P := ev_ior h (by rw [fa_or]; exact k)
theorem ev_ishlN {a c : Nat} (h : decode μ.2.1 pc = .ok (.ishl, 1)) (hc : c < 32) (k : Ev N d μ X (pc + 1) L (.int (nI (a * 2 ^ c)) :: S) M P) : Ev N d μ X pc L (.int (nI c) :: .int (nI a) :: S) M P := ev_ishl h (by rw [n_shl a hc]; exact k)
theorem ev_ishl1 {c : Nat} (h : decode μ.2.1 pc = .ok (.ishl, 1)) (hc : c < 32) (k : Ev N d μ X (pc + 1) L (.int (nI (2 ^ c)) :: S) M P) : Ev N d μ X pc L (.int (nI c) :: .int (nI 1) :: S) M P := ev_ishlN h hc (by rw [Nat.one_mul]; exact k)
theorem ev_ishrN {a c : Nat} (h : decode μ.2.1 pc = .ok (.ishr, 1)) (ha : a < 2 ^ 31) (hc : c < 32) (k : Ev N d μ X (pc + 1) L (.int (nI (a / 2 ^ c)) :: S) M P) : Ev N d μ X pc L (.int (nI c) :: .int (nI a) :: S) M P := ev_ishr h (by rw [n_shr ha hc]; exact k)
theorem ev_idivN {a b : Nat} (h : decode μ.2.1 pc = .ok (.idiv, 1)) (ha : a < 2 ^ 31) (h0 : 0 < b) (hb : b < 2 ^ 31) (k : Ev N d μ X (pc + 1) L (.int (nI (a / b)) :: S) M P) : Ev N d μ X pc L (.int (nI b) :: .int (nI a) :: S) M P := ev_idiv h (nI_ne0 h0 hb) (by rw [pk_div ha h0 hb]; exact k)
theorem ev_iremN {a b : Nat} (h : decode μ.2.1 pc = .ok (.irem, 1)) (ha : a < 2 ^ 31) (h0 : 0 < b) (hb : b < 2 ^ 31) (k : Ev N d μ X (pc + 1) L (.int (nI (a % b)) :: S) M P) : Ev N d μ X pc L (.int (nI b) :: .int (nI a) :: S) M P := ev_irem h (nI_ne0 h0 hb) (by rw [pk_rem ha h0 hb]; exact k)
theorem ev_incN {i a : Nat} (h : decode μ.2.1 pc = .ok (.iinc i 1, 3)) (hL : L[i]? = some (.int (nI a))) (hn : i < μ.2.2.1) (ho : e_okS L i = true) (k : Ev N d μ X (pc + 3) (L.set i (.int (nI (a + 1)))) S M P) : Ev N d μ X pc L S M P := ev_iinc h hL (n_inc a) hn ho k
theorem ev_decN {i a : Nat} (h : decode μ.2.1 pc = .ok (.iinc i (-1), 3)) (hL : L[i]? = some (.int (nI (a + 1)))) (hn : i < μ.2.2.1) (ho : e_okS L i = true) (k : Ev N d μ X (pc + 3) (L.set i (.int (nI a))) S M P) : Ev N d μ X pc L S M P := ev_iinc h hL (n_dec a) hn ho k
theorem ev_icmp_eqN {a b : Nat} {off : Int} (tgt : Nat) (h : decode μ.2.1 pc = .ok (.if_icmp .eq off, 3)) (ht : (pc : Int) + off = (tgt : Int)) (ha : a < 2 ^ 31) (hb : b < 2 ^ 31) (kt : a = b → Ev N d μ X tgt L S M P) (kf : a ≠ b → Ev N d μ X (pc + 3) L S M P) : Ev N d μ X pc L (.int (nI b) :: .int (nI a) :: S) M P :=
  ev_icmp_eq tgt h ht (fun z => kt ((nI_eq ha hb).mp z)) (fun z => kf (fun y => z ((nI_eq ha hb).mpr y)))
theorem ev_if_eqN {a : Nat} {off : Int} (tgt : Nat) (h : decode μ.2.1 pc = .ok (.ifCond .eq off, 3)) (ht : (pc : Int) + off = (tgt : Int)) (ha : a < 2 ^ 31) (kt : a = 0 → Ev N d μ X tgt L S M P) (kf : a ≠ 0 → Ev N d μ X (pc + 3) L S M P) : Ev N d μ X pc L (.int (nI a) :: S) M P :=
  ev_if_eq tgt h ht (fun z => kt ((nI_eq ha (show 0 < 2 ^ 31 by decide)).mp z)) (fun z => kf (fun y => z ((nI_eq ha (show 0 < 2 ^ 31 by decide)).mpr y)))
theorem ev_icmp_neN {a b : Nat} {off : Int} (tgt : Nat) (h : decode μ.2.1 pc = .ok (.if_icmp .ne off, 3)) (ht : (pc : Int) + off = (tgt : Int)) (ha : a < 2 ^ 31) (hb : b < 2 ^ 31) (kt : a ≠ b → Ev N d μ X tgt L S M P) (kf : a = b → Ev N d μ X (pc + 3) L S M P) : Ev N d μ X pc L (.int (nI b) :: .int (nI a) :: S) M P :=
  ev_icmp_ne tgt h ht (fun z => kt (fun y => z ((nI_eq ha hb).mpr y))) (fun z => kf ((nI_eq ha hb).mp z))
theorem ev_if_neN {a : Nat} {off : Int} (tgt : Nat) (h : decode μ.2.1 pc = .ok (.ifCond .ne off, 3)) (ht : (pc : Int) + off = (tgt : Int)) (ha : a < 2 ^ 31) (kt : a ≠ 0 → Ev N d μ X tgt L S M P) (kf : a = 0 → Ev N d μ X (pc + 3) L S M P) : Ev N d μ X pc L (.int (nI a) :: S) M P :=
  ev_if_ne tgt h ht (fun z => kt (fun y => z ((nI_eq ha (show 0 < 2 ^ 31 by decide)).mpr y))) (fun z => kf ((nI_eq ha (show 0 < 2 ^ 31 by decide)).mp z))
theorem ev_icmp_ltN {a b : Nat} {off : Int} (tgt : Nat) (h : decode μ.2.1 pc = .ok (.if_icmp .lt off, 3)) (ht : (pc : Int) + off = (tgt : Int)) (ha : a < 2 ^ 31) (hb : b < 2 ^ 31) (kt : a < b → Ev N d μ X tgt L S M P) (kf : b ≤ a → Ev N d μ X (pc + 3) L S M P) : Ev N d μ X pc L (.int (nI b) :: .int (nI a) :: S) M P :=
  ev_icmp_lt tgt h ht (fun z => kt ((nI_ltI ha hb).mp z)) (fun z => kf (Nat.le_of_not_lt (fun y => z ((nI_ltI ha hb).mpr y))))
theorem ev_if_ltN {a : Nat} {off : Int} (tgt : Nat) (h : decode μ.2.1 pc = .ok (.ifCond .lt off, 3)) (ht : (pc : Int) + off = (tgt : Int)) (ha : a < 2 ^ 31) (kt : a < 0 → Ev N d μ X tgt L S M P) (kf : 0 ≤ a → Ev N d μ X (pc + 3) L S M P) : Ev N d μ X pc L (.int (nI a) :: S) M P :=
  ev_if_lt tgt h ht (fun z => kt ((nI_ltI ha (show 0 < 2 ^ 31 by decide)).mp z)) (fun z => kf (Nat.le_of_not_lt (fun y => z ((nI_ltI ha (show 0 < 2 ^ 31 by decide)).mpr y))))
theorem ev_icmp_geN {a b : Nat} {off : Int} (tgt : Nat) (h : decode μ.2.1 pc = .ok (.if_icmp .ge off, 3)) (ht : (pc : Int) + off = (tgt : Int)) (ha : a < 2 ^ 31) (hb : b < 2 ^ 31) (kt : b ≤ a → Ev N d μ X tgt L S M P) (kf : a < b → Ev N d μ X (pc + 3) L S M P) : Ev N d μ X pc L (.int (nI b) :: .int (nI a) :: S) M P :=
  ev_icmp_ge tgt h ht (fun z => kt ((nI_leI hb ha).mp z)) (fun z => kf (Nat.lt_of_not_le (fun y => z ((nI_leI hb ha).mpr y))))
theorem ev_if_geN {a : Nat} {off : Int} (tgt : Nat) (h : decode μ.2.1 pc = .ok (.ifCond .ge off, 3)) (ht : (pc : Int) + off = (tgt : Int)) (ha : a < 2 ^ 31) (kt : 0 ≤ a → Ev N d μ X tgt L S M P) (kf : a < 0 → Ev N d μ X (pc + 3) L S M P) : Ev N d μ X pc L (.int (nI a) :: S) M P :=
  ev_if_ge tgt h ht (fun z => kt ((nI_leI (show 0 < 2 ^ 31 by decide) ha).mp z)) (fun z => kf (Nat.lt_of_not_le (fun y => z ((nI_leI (show 0 < 2 ^ 31 by decide) ha).mpr y))))
theorem ev_icmp_gtN {a b : Nat} {off : Int} (tgt : Nat) (h : decode μ.2.1 pc = .ok (.if_icmp .gt off, 3)) (ht : (pc : Int) + off = (tgt : Int)) (ha : a < 2 ^ 31) (hb : b < 2 ^ 31) (kt : b < a → Ev N d μ X tgt L S M P) (kf : a ≤ b → Ev N d μ X (pc + 3) L S M P) : Ev N d μ X pc L (.int (nI b) :: .int (nI a) :: S) M P :=
  ev_icmp_gt tgt h ht (fun z => kt ((nI_ltI hb ha).mp z)) (fun z => kf (Nat.le_of_not_lt (fun y => z ((nI_ltI hb ha).mpr y))))
theorem ev_if_gtN {a : Nat} {off : Int} (tgt : Nat) (h : decode μ.2.1 pc = .ok (.ifCond .gt off, 3)) (ht : (pc : Int) + off = (tgt : Int)) (ha : a < 2 ^ 31) (kt : 0 < a → Ev N d μ X tgt L S M P) (kf : a ≤ 0 → Ev N d μ X (pc + 3) L S M P) : Ev N d μ X pc L (.int (nI a) :: S) M P :=
  ev_if_gt tgt h ht (fun z => kt ((nI_ltI (show 0 < 2 ^ 31 by decide) ha).mp z)) (fun z => kf (Nat.le_of_not_lt (fun y => z ((nI_ltI (show 0 < 2 ^ 31 by decide) ha).mpr y))))
theorem ev_icmp_leN {a b : Nat} {off : Int} (tgt : Nat) (h : decode μ.2.1 pc = .ok (.if_icmp .le off, 3)) (ht : (pc : Int) + off = (tgt : Int)) (ha : a < 2 ^ 31) (hb : b < 2 ^ 31) (kt : a ≤ b → Ev N d μ X tgt L S M P) (kf : b < a → Ev N d μ X (pc + 3) L S M P) : Ev N d μ X pc L (.int (nI b) :: .int (nI a) :: S) M P :=
  ev_icmp_le tgt h ht (fun z => kt ((nI_leI ha hb).mp z)) (fun z => kf (Nat.lt_of_not_le (fun y => z ((nI_leI ha hb).mpr y))))
theorem ev_if_leN {a : Nat} {off : Int} (tgt : Nat) (h : decode μ.2.1 pc = .ok (.ifCond .le off, 3)) (ht : (pc : Int) + off = (tgt : Int)) (ha : a < 2 ^ 31) (kt : a ≤ 0 → Ev N d μ X tgt L S M P) (kf : 0 < a → Ev N d μ X (pc + 3) L S M P) : Ev N d μ X pc L (.int (nI a) :: S) M P :=
  ev_if_le tgt h ht (fun z => kt ((nI_leI ha (show 0 < 2 ^ 31 by decide)).mp z)) (fun z => kf (Nat.lt_of_not_le (fun y => z ((nI_leI ha (show 0 < 2 ^ 31 by decide)).mpr y))))
end EVN
/-! ===== booleans, bits, sums ===== -/
def bI (b : Bool) : Int32 := nI b.toNat
theorem bI_nar (b : Bool) : narrow .boolean (.int (bI b)) = .int (bI b) := by cases b <;> rfl
section EVB
variable {N d : Nat} {μ : mI} {X : mX} {pc : Nat} {L S : List Value} {M : mM} {P : Option Value → mM → Prop}
theorem ev_if_eqB {b : Bool} {off : Int} (tgt : Nat) (h : decode μ.2.1 pc = .ok (.ifCond .eq off, 3)) (ht : (pc : Int) + off = (tgt : Int)) (kt : b = false → Ev N d μ X tgt L S M P) (kf : b = true → Ev N d μ X (pc + 3) L S M P) : Ev N d μ X pc L (.int (bI b) :: S) M P := by
  cases b
  · exact ev_if_eqN tgt h ht (by decide) (fun _ => kt rfl) (fun z => absurd rfl z)
  · exact ev_if_eqN tgt h ht (by decide) (fun z => absurd z (by decide)) (fun _ => kf rfl)
theorem ev_if_neB {b : Bool} {off : Int} (tgt : Nat) (h : decode μ.2.1 pc = .ok (.ifCond .ne off, 3)) (ht : (pc : Int) + off = (tgt : Int)) (kt : b = true → Ev N d μ X tgt L S M P) (kf : b = false → Ev N d μ X (pc + 3) L S M P) : Ev N d μ X pc L (.int (bI b) :: S) M P := by
  cases b
  · exact ev_if_neN tgt h ht (by decide) (fun z => absurd rfl z) (fun _ => kf rfl)
  · exact ev_if_neN tgt h ht (by decide) (fun _ => kt rfl) (fun z => absurd z (by decide))
theorem ev_retb {b : Bool} (h : decode μ.2.1 pc = .ok (.ireturn, 1)) (hr : μ.2.2.2 = some .boolean) (hp : P (some (.int (bI b))) M) : Ev N d μ X pc L [.int (bI b)] M P := ev_reti h hr (bI_nar b) hp
end EVB
/-- the bits i below n with p i -/
def bN (p : Nat → Bool) : Nat → Nat
  | 0 => 0
  | n + 1 => if p n = true then bN p n ||| 2 ^ n else bN p n
/-- the union of the g i, i below n, with p i -/
def oN (p : Nat → Bool) (g : Nat → Nat) : Nat → Nat
  | 0 => 0
  | n + 1 => if p n = true then oN p g n ||| g n else oN p g n
def sN (g : Nat → Nat) : Nat → Nat
  | 0 => 0
  | n + 1 => sN g n + g n
theorem bN_tb (p : Nat → Bool) : ∀ (n i : Nat), (bN p n).testBit i = (decide (i < n) && p i)
  | 0, i => by simp [bN]
  | n + 1, i => by
    have ih := bN_tb p n i
    unfold bN
    by_cases hp : p n = true
    · rw [if_pos hp, Nat.testBit_or, ih, Nat.testBit_two_pow]
      by_cases h1 : n = i
      · subst h1
        simp [hp]
      · have h2 : decide (i < n + 1) = decide (i < n) := by
          rw [decide_eq_decide]; omega
        simp [h1, h2]
    · rw [if_neg hp, ih]
      by_cases h1 : n = i
      · subst h1
        simp [hp]
      · have h2 : decide (i < n + 1) = decide (i < n) := by
          rw [decide_eq_decide]; omega
        rw [h2]
theorem bN_lt (p : Nat → Bool) : ∀ n : Nat, bN p n < 2 ^ n
  | 0 => by simp [bN]
  | n + 1 => by
    have ih := bN_lt p n
    unfold bN
    have h2 : (2 : Nat) ^ (n + 1) = 2 ^ n + 2 ^ n := by rw [Nat.pow_succ]; omega
    split
    · exact Nat.or_lt_two_pow (by omega) (by omega)
    · omega
theorem bN_cong {p q : Nat → Bool} : ∀ {n : Nat}, (∀ i, i < n → p i = q i) → bN p n = bN q n
  | 0, _ => rfl
  | n + 1, h => by
    unfold bN
    rw [bN_cong (fun i hi => h i (by omega)), h n (by omega)]
theorem oN_lt {p : Nat → Bool} {g : Nat → Nat} {w : Nat} : ∀ {n : Nat}, (∀ i, i < n → g i < 2 ^ w) → oN p g n < 2 ^ w
  | 0, _ => by unfold oN; exact Nat.two_pow_pos w
  | n + 1, h => by
    have ih := oN_lt (p := p) (fun i hi => h i (Nat.lt_succ_of_lt hi))
    unfold oN
    split
    · exact Nat.or_lt_two_pow ih (h n (by omega))
    · exact ih
theorem oN_cong {p q : Nat → Bool} {g f : Nat → Nat} : ∀ {n : Nat}, (∀ i, i < n → p i = q i) → (∀ i, i < n → g i = f i) → oN p g n = oN q f n
  | 0, _, _ => rfl
  | n + 1, h, h2 => by
    unfold oN
    rw [oN_cong (fun i hi => h i (by omega)) (fun i hi => h2 i (by omega)), h n (by omega), h2 n (by omega)]
theorem oN_tb (p : Nat → Bool) (g : Nat → Nat) (i : Nat) : ∀ n : Nat, (oN p g n).testBit i = true ↔ ∃ k, k < n ∧ p k = true ∧ (g k).testBit i = true
  | 0 => by simp [oN]
  | n + 1 => by
    have ih := oN_tb p g i n
    unfold oN
    constructor
    · intro h
      split at h
      · next hp =>
        rw [Nat.testBit_or, Bool.or_eq_true] at h
        rcases h with h | h
        · obtain ⟨k, h1, h2⟩ := ih.mp h
          exact ⟨k, by omega, h2⟩
        · exact ⟨n, by omega, hp, h⟩
      · obtain ⟨k, h1, h2⟩ := ih.mp h
        exact ⟨k, by omega, h2⟩
    · rintro ⟨k, h1, h2, h3⟩
      by_cases hk : k = n
      · subst hk
        rw [if_pos h2, Nat.testBit_or, h3, Bool.or_true]
      · have h4 := ih.mpr ⟨k, by omega, h2, h3⟩
        split
        · rw [Nat.testBit_or, h4, Bool.true_or]
        · exact h4
theorem sN_cong {g f : Nat → Nat} : ∀ {n : Nat}, (∀ i, i < n → g i = f i) → sN g n = sN f n
  | 0, _ => rfl
  | n + 1, h => by
    unfold sN
    rw [sN_cong (fun i hi => h i (by omega)), h n (by omega)]
theorem sN_le {g : Nat → Nat} {b : Nat} : ∀ {n : Nat}, (∀ i, i < n → g i ≤ b) → sN g n ≤ n * b
  | 0, _ => by simp [sN]
  | n + 1, h => by
    have ih := sN_le (fun i hi => h i (Nat.lt_succ_of_lt hi))
    have h1 := h n (by omega)
    unfold sN
    rw [Nat.succ_mul]
    omega
theorem tb_d (n c : Nat) : (n / 2 ^ c % 2 = 1) ↔ n.testBit c = true := by
  rw [Nat.testBit_eq_decide_div_mod_eq, decide_eq_true_eq]
def dN (f : Nat → Nat) (n : Nat) : Nat → Nat := fun j => if j < n then f j else 0
end
section
theorem e_retT {b : Bool} {M : mM} {P : Option Value → mM → Prop} (h : b = true) (hp : P (some (.int (bI b))) M) : P (some (.int (nI 1))) M := by subst h; exact hp
theorem e_retF {b : Bool} {M : mM} {P : Option Value → mM → Prop} (h : b = false) (hp : P (some (.int (bI b))) M) : P (some (.int (nI 0))) M := by subst h; exact hp
theorem e_reti {a b : Nat} {M : mM} {P : Option Value → mM → Prop} (h : a = b) (hp : P (some (.int (nI b))) M) : P (some (.int (nI a))) M := by subst h; exact hp
theorem e_retv {a b : Int32} {M : mM} {P : Option Value → mM → Prop} (h : a = b) (hp : P (some (.int b)) M) : P (some (.int a)) M := by subst h; exact hp
/-- an int in a range: its number, or not -/
def inR (x : Int32) (n : Nat) : Bool := decide (0 ≤ x.toInt ∧ x.toInt < n)
theorem inR_cases (x : Int32) {n : Nat} (hn : n < 2 ^ 31) : (inR x n = true ∧ ∃ j : Nat, j < n ∧ x = nI j) ∨ (inR x n = false ∧ (x < 0 ∨ (¬ x < 0 ∧ nI n ≤ x))) := by
  unfold inR
  by_cases h0 : x < 0
  · right
    refine ⟨decide_eq_false ?_, Or.inl h0⟩
    rw [Int32.lt_iff_toInt_lt, Int32.toInt_zero] at h0
    omega
  · obtain ⟨j, hj, rfl⟩ := nI_of h0
    by_cases h : j < n
    · left
      refine ⟨decide_eq_true ?_, j, h, rfl⟩
      rw [nI_toInt hj]; omega
    · right
      refine ⟨decide_eq_false ?_, Or.inr ⟨h0, nI_le (by omega) hj⟩⟩
      rw [nI_toInt hj]; omega
theorem inR_nI {j n : Nat} (hj : j < 2 ^ 31) : inR (nI j) n = decide (j < n) := by
  unfold inR
  rw [nI_toInt hj, decide_eq_decide]
  omega
theorem c_X7_isCell {N d : Nat} {x : Int32} {M : mM} {P : Option Value → mM → Prop} (hp : P (some (.int (bI (inR x 12)))) M) : Ev N d mX7_isCell none 0 [.int x] [] M P := by
  rcases inR_cases x (n := 12) (by decide) with ⟨h1, j, hj, rfl⟩ | ⟨h1, h2 | ⟨h2, h3⟩⟩
  · skip
    refine ev_iload_n (i := 0) dX7_isCell_0 rfl rfl ?_
    refine ev_if_ltN 14 dX7_isCell_1 (by decide) (by omega) (fun b1 => by exfalso; omega) (fun b1 => ?_)
    refine ev_iload_n (i := 0) dX7_isCell_4 rfl rfl ?_
    refine ev_bipush (v := nI 12) dX7_isCell_5 rfl ?_
    refine ev_icmp_geN 14 dX7_isCell_7 (by decide) (by omega) (by omega) (fun b7 => by exfalso; omega) (fun b7 => ?_)
    refine ev_iconst (v := nI 1) dX7_isCell_10 rfl ?_
    refine ev_goto 15 dX7_isCell_11 (by decide) ?_
    refine ev_reti dX7_isCell_15 rfl rfl ?_
    exact e_retT (h1) hp
  · skip
    refine ev_iload_n (i := 0) dX7_isCell_0 rfl rfl ?_
    refine ev_if_lt 14 dX7_isCell_1 (by decide) (fun b1 => ?_) (fun b1 => absurd h2 b1)
    refine ev_iconst (v := nI 0) dX7_isCell_14 rfl ?_
    refine ev_reti dX7_isCell_15 rfl rfl ?_
    exact e_retF (h1) hp
  · skip
    refine ev_iload_n (i := 0) dX7_isCell_0 rfl rfl ?_
    refine ev_if_lt 14 dX7_isCell_1 (by decide) (fun b1 => absurd b1 h2) (fun b1 => ?_)
    refine ev_iload_n (i := 0) dX7_isCell_4 rfl rfl ?_
    refine ev_bipush (v := nI 12) dX7_isCell_5 rfl ?_
    refine ev_icmp_ge 14 dX7_isCell_7 (by decide) (fun b7 => ?_) (fun b7 => absurd h3 b7)
    refine ev_iconst (v := nI 0) dX7_isCell_14 rfl ?_
    refine ev_reti dX7_isCell_15 rfl rfl ?_
    exact e_retF (h1) hp
/-- a sheet at k: its two rows behind it -/
def kS (M : mM) (k : Nat) (f g : Nat → Int32) (dy : Int32) : Prop := M k = .inr (3, [.ref (k + 1), .ref (k + 2), .int dy]) ∧ M (k + 1) = .inl (0, 12, .inl f) ∧ M (k + 2) = .inl (0, 12, .inl g)
theorem c_X3_clean {N d k : Nat} {f g : Nat → Int32} {dy : Int32} {c : Nat} {M : mM} {P : Option Value → mM → Prop} (hk : k + 2 < N) (hs : kS M k f g dy) (hc : c < 12) (hp : P none (mu (mu M (k + 1) (.inl (0, 12, .inl (upd f c (nI 0))))) (k + 2) (.inl (0, 12, .inl (upd g c (-9)))))) : Ev N (d + 1) mX3_clean none 0 [.ref k, .int (nI c)] [] M P := by
  obtain ⟨h0, h1, h2⟩ := hs
  have hb : inR (nI c) 12 = true := by rw [inR_nI (by omega)]; exact decide_eq_true hc
  refine ev_iload_n (i := 1) dX3_clean_0 rfl rfl ?_
  refine ev_S1 (μ1 := mX7_isCell) dX3_clean_1 sX3_25 okX7_isCell (Nat.le_of_ble_eq_true rfl) (Nat.le_of_ble_eq_true rfl) ?_
  refine c_X7_isCell ?_
  refine ev_if_eqB 22 dX3_clean_4 (by decide) (fun b4 => by rw [hb] at b4; cases b4) (fun b4 => ?_)
  refine ev_aload_n (i := 0) dX3_clean_7 rfl rfl ?_
  refine ev_getfield dX3_clean_8 fX3_9 (by first | omega | decide) (by first | assumption | (simp (disch := omega) only [mu_s, mu_n]; first | assumption | rfl)) (by rfl) ?_
  refine ev_iload_n (i := 1) dX3_clean_11 rfl rfl ?_
  refine ev_iconst (v := nI 0) dX3_clean_12 rfl ?_
  refine ev_iastoreN dX3_clean_13 (by first | omega | decide) (by first | assumption | (simp (disch := omega) only [mu_s, mu_n]; first | assumption | rfl)) (by omega) (by decide) ?_
  refine ev_aload_n (i := 0) dX3_clean_14 rfl rfl ?_
  refine ev_getfield dX3_clean_15 fX3_15 (by first | omega | decide) (by first | assumption | (simp (disch := omega) only [mu_s, mu_n]; first | assumption | rfl)) (by rfl) ?_
  refine ev_iload_n (i := 1) dX3_clean_18 rfl rfl ?_
  refine ev_bipush (v := (-9)) dX3_clean_19 rfl ?_
  refine ev_iastoreN dX3_clean_21 (by first | omega | decide) (by first | assumption | (simp (disch := omega) only [mu_s, mu_n]; first | assumption | rfl)) (by omega) (by decide) ?_
  refine ev_ret0 dX3_clean_22 rfl ?_
  exact hp
theorem c_X3_renew {N d k : Nat} {f g : Nat → Int32} {dy : Int32} {M : mM} {P : Option Value → mM → Prop} (hk : k + 2 < N) (hs : kS M k f g dy) (hp : P none (mu (mu M (k + 1) (.inl (0, 12, .inl (fun j => if j < 12 then nI 0 else f j)))) (k + 2) (.inl (0, 12, .inl (fun j => if j < 12 then (-9) else g j))))) : Ev N (d + 2) mX3_renew none 0 [.ref k, .null] [] M P := by
  have lp : ∀ (j c : Nat), c + j = 12 → Ev N (d + 2) mX3_renew none 2 [.ref k, .int (nI c)] [] (mu (mu M (k + 1) (.inl (0, 12, .inl (fun j => if j < c then nI 0 else f j)))) (k + 2) (.inl (0, 12, .inl (fun j => if j < c then (-9) else g j)))) P := by
    intro j
    induction j with
    | zero =>
      intro c hc
      obtain rfl : c = 12 := by omega
      refine ev_iload_n (i := 1) dX3_renew_2 rfl rfl ?_
      refine ev_bipush (v := nI 12) dX3_renew_3 rfl ?_
      refine ev_icmp_geN 19 dX3_renew_5 (by decide) (by omega) (by omega) (fun b5 => ?_) (fun b5 => by exfalso; omega)
      refine ev_ret0 dX3_renew_19 rfl ?_
      exact hp
    | succ j ih =>
      intro c hc
      have h0 := hs.1
      have e1 : upd (fun j => if j < c then nI 0 else f j) c (nI 0) = fun j => if j < c + 1 then nI 0 else f j := by
        funext i
        unfold upd
        by_cases h : i = c
        · subst h; simp
        · have : (i < c + 1) ↔ i < c := by omega
          simp [h, this]
      have e2 : upd (fun j => if j < c then (-9) else g j) c (-9) = fun j => if j < c + 1 then (-9) else g j := by
        funext i
        unfold upd
        by_cases h : i = c
        · subst h; simp
        · have : (i < c + 1) ↔ i < c := by omega
          simp [h, this]
      refine ev_iload_n (i := 1) dX3_renew_2 rfl rfl ?_
      refine ev_bipush (v := nI 12) dX3_renew_3 rfl ?_
      refine ev_icmp_geN 19 dX3_renew_5 (by decide) (by omega) (by omega) (fun b5 => by exfalso; omega) (fun b5 => ?_)
      refine ev_aload_n (i := 0) dX3_renew_8 rfl rfl ?_
      refine ev_iload_n (i := 1) dX3_renew_9 rfl rfl ?_
      refine ev_V1 (μ1 := mX3_clean) dX3_renew_10 sX3_21 okX3_clean (by first | omega | decide) (by first | assumption | (simp (disch := omega) only [mu_s, mu_n]; first | assumption | rfl)) (Nat.le_of_ble_eq_true rfl) (Nat.le_of_ble_eq_true rfl) ?_
      refine c_X3_clean (f := fun j => if j < c then nI 0 else f j) (g := fun j => if j < c then (-9) else g j) (dy := dy) hk ⟨by simp (disch := omega) only [mu_s, mu_n]; exact h0, by simp (disch := omega) only [mu_s, mu_n], by simp (disch := omega) only [mu_s, mu_n]⟩ (by omega) ?_
      refine ev_mem (M1 := mu (mu M (k + 1) (.inl (0, 12, .inl (fun j => if j < c + 1 then nI 0 else f j)))) (k + 2) (.inl (0, 12, .inl (fun j => if j < c + 1 then (-9) else g j)))) ?_ ?_
      · rw [e1, e2]
        funext i
        unfold mu
        by_cases i1 : i = k + 2
        · simp [i1]
        · by_cases i2 : i = k + 1
          · simp [i2]
          · simp [i1, i2]
      refine ev_incN dX3_renew_13 (by rfl) (by decide) rfl ?_
      refine ev_goto 2 dX3_renew_16 (by decide) ?_
      exact ih (c + 1) (by omega)
  have h1 := hs.2.1
  have h2 := hs.2.2
  have e0 : M = mu (mu M (k + 1) (.inl (0, 12, .inl (fun j => if j < 0 then nI 0 else f j)))) (k + 2) (.inl (0, 12, .inl (fun j => if j < 0 then (-9) else g j))) := by
    have e1 : (fun j : Nat => if j < 0 then nI 0 else f j) = f := by funext i; simp
    have e2 : (fun j : Nat => if j < 0 then (-9) else g j) = g := by funext i; simp
    rw [e1, e2, mu_self h1, mu_self h2]
  refine ev_mem e0 ?_
  refine ev_iconst (v := nI 0) dX3_renew_0 rfl ?_
  refine ev_istore_n (i := 1) dX3_renew_1 rfl (by decide) rfl ?_
  exact lp 12 0 rfl
theorem c_X3_inkAt {N d k : Nat} {f g : Nat → Int32} {dy x : Int32} {M : mM} {P : Option Value → mM → Prop} (hk : k + 2 < N) (hs : kS M k f g dy) (hp : P (some (.int (if inR x 12 = true then f x.toNatClampNeg else nI 0))) M) : Ev N (d + 1) mX3_inkAt none 0 [.ref k, .int x] [] M P := by
  obtain ⟨h0, h1, h2⟩ := hs
  rcases inR_cases x (n := 12) (by decide) with ⟨hb, j, hj, rfl⟩ | ⟨hb, -⟩
  · rw [if_pos hb, n_cl (by omega)] at hp
    refine ev_iload_n (i := 1) dX3_inkAt_0 rfl rfl ?_
    refine ev_S1 (μ1 := mX7_isCell) dX3_inkAt_1 sX3_25 okX7_isCell (Nat.le_of_ble_eq_true rfl) (Nat.le_of_ble_eq_true rfl) ?_
    refine c_X7_isCell ?_
    refine ev_if_eqB 16 dX3_inkAt_4 (by decide) (fun b4 => by rw [hb] at b4; cases b4) (fun b4 => ?_)
    refine ev_aload_n (i := 0) dX3_inkAt_7 rfl rfl ?_
    refine ev_getfield dX3_inkAt_8 fX3_9 (by first | omega | decide) (by first | assumption | (simp (disch := omega) only [mu_s, mu_n]; first | assumption | rfl)) (by rfl) ?_
    refine ev_iload_n (i := 1) dX3_inkAt_11 rfl rfl ?_
    refine ev_ialoadN dX3_inkAt_12 (by first | omega | decide) (by first | assumption | (simp (disch := omega) only [mu_s, mu_n]; first | assumption | rfl)) (by omega) (by decide) ?_
    refine ev_goto 17 dX3_inkAt_13 (by decide) ?_
    refine ev_reti dX3_inkAt_17 rfl rfl ?_
    exact hp
  · rw [hb, if_neg (by decide)] at hp
    refine ev_iload_n (i := 1) dX3_inkAt_0 rfl rfl ?_
    refine ev_S1 (μ1 := mX7_isCell) dX3_inkAt_1 sX3_25 okX7_isCell (Nat.le_of_ble_eq_true rfl) (Nat.le_of_ble_eq_true rfl) ?_
    refine c_X7_isCell ?_
    refine ev_if_eqB 16 dX3_inkAt_4 (by decide) (fun b4 => ?_) (fun b4 => by rw [hb] at b4; cases b4)
    refine ev_iconst (v := nI 0) dX3_inkAt_16 rfl ?_
    refine ev_reti dX3_inkAt_17 rfl rfl ?_
    exact hp
theorem c_X3_topAt {N d k : Nat} {f g : Nat → Int32} {dy x : Int32} {M : mM} {P : Option Value → mM → Prop} (hk : k + 2 < N) (hs : kS M k f g dy) (hp : P (some (.int (if inR x 12 = true then g x.toNatClampNeg else (-9)))) M) : Ev N (d + 1) mX3_topAt none 0 [.ref k, .int x] [] M P := by
  obtain ⟨h0, h1, h2⟩ := hs
  rcases inR_cases x (n := 12) (by decide) with ⟨hb, j, hj, rfl⟩ | ⟨hb, -⟩
  · rw [if_pos hb, n_cl (by omega)] at hp
    refine ev_iload_n (i := 1) dX3_topAt_0 rfl rfl ?_
    refine ev_S1 (μ1 := mX7_isCell) dX3_topAt_1 sX3_25 okX7_isCell (Nat.le_of_ble_eq_true rfl) (Nat.le_of_ble_eq_true rfl) ?_
    refine c_X7_isCell ?_
    refine ev_if_eqB 16 dX3_topAt_4 (by decide) (fun b4 => by rw [hb] at b4; cases b4) (fun b4 => ?_)
    refine ev_aload_n (i := 0) dX3_topAt_7 rfl rfl ?_
    refine ev_getfield dX3_topAt_8 fX3_15 (by first | omega | decide) (by first | assumption | (simp (disch := omega) only [mu_s, mu_n]; first | assumption | rfl)) (by rfl) ?_
    refine ev_iload_n (i := 1) dX3_topAt_11 rfl rfl ?_
    refine ev_ialoadN dX3_topAt_12 (by first | omega | decide) (by first | assumption | (simp (disch := omega) only [mu_s, mu_n]; first | assumption | rfl)) (by omega) (by decide) ?_
    refine ev_goto 18 dX3_topAt_13 (by decide) ?_
    refine ev_reti dX3_topAt_18 rfl rfl ?_
    exact hp
  · rw [hb, if_neg (by decide)] at hp
    refine ev_iload_n (i := 1) dX3_topAt_0 rfl rfl ?_
    refine ev_S1 (μ1 := mX7_isCell) dX3_topAt_1 sX3_25 okX7_isCell (Nat.le_of_ble_eq_true rfl) (Nat.le_of_ble_eq_true rfl) ?_
    refine c_X7_isCell ?_
    refine ev_if_eqB 16 dX3_topAt_4 (by decide) (fun b4 => ?_) (fun b4 => by rw [hb] at b4; cases b4)
    refine ev_bipush (v := (-9)) dX3_topAt_16 rfl ?_
    refine ev_reti dX3_topAt_18 rfl rfl ?_
    exact hp
/-- what is shown in n days, as bits -/
def shN (ink : Nat → Nat) (n : Nat) : Nat := bN (fun c => decide (n < ink c)) 12
theorem c_X3_shownIn {N d k : Nat} {f g : Nat → Int32} {dy : Int32} {ink : Nat → Nat} {n : Nat} {M : mM} {P : Option Value → mM → Prop} (hk : k + 2 < N) (hs : kS M k f g dy) (hf : ∀ c, c < 12 → f c = nI (ink c) ∧ ink c ≤ 9) (hn : n < 2 ^ 31) (hp : P (some (.int (nI (shN ink n)))) M) : Ev N d mX3_shownIn none 0 [.ref k, .int (nI n), .null, .null] [] M P := by
  obtain ⟨h0, h1, h2⟩ := hs
  have lp : ∀ (j c : Nat), c + j = 12 → Ev N d mX3_shownIn none 4 [.ref k, .int (nI n), .int (nI (bN (fun c => decide (n < ink c)) c)), .int (nI c)] [] M P := by
    intro j
    induction j with
    | zero =>
      intro c hc
      obtain rfl : c = 12 := by omega
      refine ev_iload_n (i := 3) dX3_shownIn_4 rfl rfl ?_
      refine ev_bipush (v := nI 12) dX3_shownIn_5 rfl ?_
      refine ev_icmp_geN 32 dX3_shownIn_7 (by decide) (by omega) (by omega) (fun b7 => ?_) (fun b7 => by exfalso; omega)
      refine ev_iload_n (i := 2) dX3_shownIn_32 rfl rfl ?_
      refine ev_reti dX3_shownIn_33 rfl rfl ?_
      exact hp
    | succ j ih =>
      intro c hc
      obtain ⟨q1, q2⟩ := hf c (by omega)
      refine ev_iload_n (i := 3) dX3_shownIn_4 rfl rfl ?_
      refine ev_bipush (v := nI 12) dX3_shownIn_5 rfl ?_
      refine ev_icmp_geN 32 dX3_shownIn_7 (by decide) (by omega) (by omega) (fun b7 => by exfalso; omega) (fun b7 => ?_)
      refine ev_aload_n (i := 0) dX3_shownIn_10 rfl rfl ?_
      refine ev_getfield dX3_shownIn_11 fX3_9 (by first | omega | decide) (by first | assumption | (simp (disch := omega) only [mu_s, mu_n]; first | assumption | rfl)) (by rfl) ?_
      refine ev_iload_n (i := 3) dX3_shownIn_14 rfl rfl ?_
      refine ev_ialoadN dX3_shownIn_15 (by first | omega | decide) (by first | assumption | (simp (disch := omega) only [mu_s, mu_n]; first | assumption | rfl)) (by omega) (by decide) ?_
      refine ev_top (congrArg Value.int q1) ?_
      refine ev_iload_n (i := 1) dX3_shownIn_16 rfl rfl ?_
      refine ev_icmp_leN 26 dX3_shownIn_17 (by decide) (by omega) (by omega) (fun b17 => ?_) (fun b17 => ?_)
      · skip
        refine ev_incN dX3_shownIn_26 (by rfl) (by decide) rfl ?_
        refine ev_goto 4 dX3_shownIn_29 (by decide) ?_
        first
        | (have e : bN (fun c => decide (n < ink c)) (c + 1) = bN (fun c => decide (n < ink c)) c := by simp only [bN]; rw [if_neg (by simpa using b17)]
           rw [← e]; exact ih (c + 1) (by omega))
        | (have e : bN (fun c => decide (n < ink c)) (c + 1) = bN (fun c => decide (n < ink c)) c ||| 2 ^ c := by simp only [bN]; rw [if_pos (by simpa using b17)]
           rw [← e]; exact ih (c + 1) (by omega))
      · skip
        refine ev_iload_n (i := 2) dX3_shownIn_20 rfl rfl ?_
        refine ev_iconst (v := nI 1) dX3_shownIn_21 rfl ?_
        refine ev_iload_n (i := 3) dX3_shownIn_22 rfl rfl ?_
        refine ev_ishl1 dX3_shownIn_23 (by omega) ?_
        refine ev_iorN dX3_shownIn_24 ?_
        refine ev_istore_n (i := 2) dX3_shownIn_25 rfl (by decide) rfl ?_
        refine ev_incN dX3_shownIn_26 (by rfl) (by decide) rfl ?_
        refine ev_goto 4 dX3_shownIn_29 (by decide) ?_
        first
        | (have e : bN (fun c => decide (n < ink c)) (c + 1) = bN (fun c => decide (n < ink c)) c := by simp only [bN]; rw [if_neg (by simpa using b17)]
           rw [← e]; exact ih (c + 1) (by omega))
        | (have e : bN (fun c => decide (n < ink c)) (c + 1) = bN (fun c => decide (n < ink c)) c ||| 2 ^ c := by simp only [bN]; rw [if_pos (by simpa using b17)]
           rw [← e]; exact ih (c + 1) (by omega))
  refine ev_iconst (v := nI 0) dX3_shownIn_0 rfl ?_
  refine ev_istore_n (i := 2) dX3_shownIn_1 rfl (by decide) rfl ?_
  refine ev_iconst (v := nI 0) dX3_shownIn_2 rfl ?_
  refine ev_istore_n (i := 3) dX3_shownIn_3 rfl (by decide) rfl ?_
  exact lp 12 0 rfl
end
section
theorem bN_t {p : Nat → Bool} {n : Nat} (h : p n = true) : bN p n ||| 2 ^ n = bN p (n + 1) := by
  show _ = if p n = true then bN p n ||| 2 ^ n else bN p n
  rw [if_pos h]
theorem bN_f {p : Nat → Bool} {n : Nat} (h : ¬ p n = true) : bN p n = bN p (n + 1) := by
  show _ = if p n = true then bN p n ||| 2 ^ n else bN p n
  rw [if_neg h]
theorem oN_t {p : Nat → Bool} {g : Nat → Nat} {n : Nat} (h : p n = true) : oN p g n ||| g n = oN p g (n + 1) := by
  show _ = if p n = true then oN p g n ||| g n else oN p g n
  rw [if_pos h]
theorem oN_f {p : Nat → Bool} {g : Nat → Nat} {n : Nat} (h : ¬ p n = true) : oN p g n = oN p g (n + 1) := by
  show _ = if p n = true then oN p g n ||| g n else oN p g n
  rw [if_neg h]
theorem i_op {a b : Int32} (h : a = b) : Value.int a = Value.int b := congrArg Value.int h
theorem and_lt31 {a b : Nat} (h : b < 2 ^ 31) : a &&& b < 2 ^ 31 := Nat.lt_of_le_of_lt Nat.and_le_right h
theorem pw_le {a b : Nat} (h : a ≤ b) : 2 ^ a ≤ 2 ^ b := Nat.pow_le_pow_right (by decide) h
/-! letters: how many, place, hand, force, cells -/
abbrev lt : Type := Nat × (Nat → Nat) × (Nat → Nat) × (Nat → Nat) × (Nat → Nat)
/-- what a letter may be -/
def ltOk (t : lt) : Prop := t.1 ≤ 6 ∧ ∀ l, l < t.1 → t.2.1 l ≤ 8 ∧ t.2.2.1 l ≤ 3 ∧ t.2.2.2.1 l ≤ 4 ∧ ∃ m, 0 < m ∧ m < 16 ∧ t.2.2.2.2 l = m * 2 ^ t.2.1 l
theorem ltOk_cells {t : lt} (h : ltOk t) {l : Nat} (hl : l < t.1) : t.2.2.2.2 l < 4096 ∧ 0 < t.2.2.2.2 l := by
  obtain ⟨h1, -, -, m, h2, h3, h4⟩ := h.2 l hl
  have h5 : 2 ^ t.2.1 l ≤ 2 ^ 8 := pw_le h1
  have h6 : 0 < 2 ^ t.2.1 l := Nat.two_pow_pos _
  rw [h4]
  constructor
  · calc m * 2 ^ t.2.1 l ≤ 15 * 2 ^ 8 := Nat.mul_le_mul (by omega) h5
      _ < 4096 := by decide
  · exact Nat.mul_pos h2 h6
theorem ltOk_win {t : lt} (h : ltOk t) {l : Nat} (hl : l < t.1) : 15 * 2 ^ t.2.1 l < 4096 := by
  have h5 : 2 ^ t.2.1 l ≤ 2 ^ 8 := pw_le (h.2 l hl).1
  omega
def arr (M : mM) (i n : Nat) (m : Nat) (g : Nat → Nat) : Prop := ∃ f, M i = .inl (0, n, .inl f) ∧ ∀ j, j < m → f j = nI (g j)
/-- the class's letters: cells 3 .. 7 -/
def kLt (M : mM) (t : lt) : Prop := M 3 = .inr (1, [.ref 4, .ref 5, .ref 6, .ref 7, .int (nI t.1)]) ∧ arr M 4 6 t.1 t.2.1 ∧ arr M 5 6 t.1 t.2.2.1 ∧ arr M 6 6 t.1 t.2.2.2.1 ∧ arr M 7 6 t.1 t.2.2.2.2
/-- a letter can be read where just s is shown -/
def rdN (t : lt) (s l : Nat) : Bool := decide (s &&& 15 * 2 ^ t.2.1 l = t.2.2.2.2 l)
def rdSet (t : lt) (s : Nat) : Nat := bN (rdN t s) t.1
/-- what a set of letters shows on a new sheet -/
def shBy (t : lt) (s : Nat) : Nat := oN (fun l => s.testBit l && decide (t.2.2.2.1 l ≠ 0)) t.2.2.2.2 t.1
/-- by how many letters a cell is shown -/
def shwN (t : lt) (c : Nat) : Nat := sN (fun l => shBy t (2 ^ l) / 2 ^ c % 2) t.1
theorem shBy_lt {t : lt} (h : ltOk t) (s : Nat) : shBy t s < 4096 := oN_lt (w := 12) (fun l hl => (ltOk_cells h hl).1)
section LET
variable {N d : Nat} {t : lt} {M : mM} {P : Option Value → mM → Prop}
theorem c_X1_has {x : Int32} (hL : kLt M t) (ho : ltOk t) (hp : P (some (.int (bI (inR x t.1)))) M) : Ev 88 d mX1_has none 0 [.ref 3, .int x] [] M P := by
  have h6 := ho.1
  have h3 := hL.1
  rcases inR_cases x (n := t.1) (by omega) with ⟨h1, j, hj, rfl⟩ | ⟨h1, h2 | ⟨h2, h3⟩⟩
  · skip
    refine ev_iload_n (i := 1) dX1_has_0 rfl rfl ?_
    refine ev_if_ltN 22 dX1_has_1 (by decide) (by omega) (fun b1 => by exfalso; omega) (fun b1 => ?_)
    refine ev_iload_n (i := 1) dX1_has_4 rfl rfl ?_
    refine ev_aload_n (i := 0) dX1_has_5 rfl rfl ?_
    refine ev_getfield dX1_has_6 fX1_24 (by first | omega | decide) (by first | assumption | (simp (disch := omega) only [mu_s, mu_n]; first | assumption | rfl)) (by rfl) ?_
    refine ev_icmp_geN 22 dX1_has_9 (by decide) (by omega) (by omega) (fun b9 => by exfalso; omega) (fun b9 => ?_)
    refine ev_iload_n (i := 1) dX1_has_12 rfl rfl ?_
    refine ev_bipush (v := nI 6) dX1_has_13 rfl ?_
    refine ev_icmp_geN 22 dX1_has_15 (by decide) (by omega) (by omega) (fun b15 => by exfalso; omega) (fun b15 => ?_)
    refine ev_iconst (v := nI 1) dX1_has_18 rfl ?_
    refine ev_goto 23 dX1_has_19 (by decide) ?_
    refine ev_reti dX1_has_23 rfl rfl ?_
    exact e_retT (h1) hp
  · skip
    refine ev_iload_n (i := 1) dX1_has_0 rfl rfl ?_
    refine ev_if_lt 22 dX1_has_1 (by decide) (fun b1 => ?_) (fun b1 => absurd h2 b1)
    refine ev_iconst (v := nI 0) dX1_has_22 rfl ?_
    refine ev_reti dX1_has_23 rfl rfl ?_
    exact e_retF (h1) hp
  · skip
    refine ev_iload_n (i := 1) dX1_has_0 rfl rfl ?_
    refine ev_if_lt 22 dX1_has_1 (by decide) (fun b1 => absurd b1 h2) (fun b1 => ?_)
    refine ev_iload_n (i := 1) dX1_has_4 rfl rfl ?_
    refine ev_aload_n (i := 0) dX1_has_5 rfl rfl ?_
    refine ev_getfield dX1_has_6 fX1_24 (by first | omega | decide) (by first | assumption | (simp (disch := omega) only [mu_s, mu_n]; first | assumption | rfl)) (by rfl) ?_
    refine ev_icmp_ge 22 dX1_has_9 (by decide) (fun b9 => ?_) (fun b9 => absurd h3 b9)
    refine ev_iconst (v := nI 0) dX1_has_22 rfl ?_
    refine ev_reti dX1_has_23 rfl rfl ?_
    exact e_retF (h1) hp
theorem e_has {l n : Nat} (h : l < n) (hn : n < 2 ^ 31) : inR (nI l) n = true := by rw [inR_nI (by omega)]; exact decide_eq_true h
theorem c_X1_all (hL : kLt M t) (ho : ltOk t) (hp : P (some (.int (nI (2 ^ t.1 - 1)))) M) : Ev 88 d mX1_all none 0 [.ref 3] [] M P := by
  have h6 := ho.1
  have h3 := hL.1
  refine ev_iconst (v := nI 1) dX1_all_0 rfl ?_
  refine ev_aload_n (i := 0) dX1_all_1 rfl rfl ?_
  refine ev_getfield dX1_all_2 fX1_24 (by first | omega | decide) (by first | assumption | (simp (disch := omega) only [mu_s, mu_n]; first | assumption | rfl)) (by rfl) ?_
  refine ev_ishl1 dX1_all_5 (by omega) ?_
  refine ev_iconst (v := nI 1) dX1_all_6 rfl ?_
  refine ev_isubN dX1_all_7 (Nat.one_le_two_pow) ?_
  refine ev_reti dX1_all_8 rfl rfl ?_
  exact hp
theorem c_X1_placeOf {l : Nat} (hL : kLt M t) (ho : ltOk t) (hl : l < t.1) (hp : P (some (.int (nI (t.2.1 l)))) M) : Ev 88 (d + 1) mX1_placeOf none 0 [.ref 3, .int (nI l)] [] M P := by
  have h6 := ho.1
  have h3 := hL.1
  obtain ⟨f, ha, hf⟩ := hL.2.1
  have hb := e_has hl (by omega)
  rw [← hf l hl] at hp
  refine ev_aload_n (i := 0) dX1_placeOf_0 rfl rfl ?_
  refine ev_iload_n (i := 1) dX1_placeOf_1 rfl rfl ?_
  refine ev_V1 (μ1 := mX1_has) dX1_placeOf_2 sX1_35 okX1_has (by first | omega | decide) (by first | assumption | (simp (disch := omega) only [mu_s, mu_n]; first | assumption | rfl)) (Nat.le_of_ble_eq_true rfl) (Nat.le_of_ble_eq_true rfl) ?_
  refine c_X1_has hL ho ?_
  refine ev_if_eqB 17 dX1_placeOf_5 (by decide) (fun b5 => by rw [hb] at b5; cases b5) (fun b5 => ?_)
  refine ev_aload_n (i := 0) dX1_placeOf_8 rfl rfl ?_
  refine ev_getfield dX1_placeOf_9 fX1_9 (by first | omega | decide) (by first | assumption | (simp (disch := omega) only [mu_s, mu_n]; first | assumption | rfl)) (by rfl) ?_
  refine ev_iload_n (i := 1) dX1_placeOf_12 rfl rfl ?_
  refine ev_ialoadN dX1_placeOf_13 (by first | omega | decide) (by first | assumption | (simp (disch := omega) only [mu_s, mu_n]; first | assumption | rfl)) (by omega) (by decide) ?_
  refine ev_goto 18 dX1_placeOf_14 (by decide) ?_
  refine ev_reti dX1_placeOf_18 rfl rfl ?_
  exact hp
theorem c_X1_handOf {l : Nat} (hL : kLt M t) (ho : ltOk t) (hl : l < t.1) (hp : P (some (.int (nI (t.2.2.1 l)))) M) : Ev 88 (d + 1) mX1_handOf none 0 [.ref 3, .int (nI l)] [] M P := by
  have h6 := ho.1
  have h3 := hL.1
  obtain ⟨f, ha, hf⟩ := hL.2.2.1
  have hb := e_has hl (by omega)
  rw [← hf l hl] at hp
  refine ev_aload_n (i := 0) dX1_handOf_0 rfl rfl ?_
  refine ev_iload_n (i := 1) dX1_handOf_1 rfl rfl ?_
  refine ev_V1 (μ1 := mX1_has) dX1_handOf_2 sX1_35 okX1_has (by first | omega | decide) (by first | assumption | (simp (disch := omega) only [mu_s, mu_n]; first | assumption | rfl)) (Nat.le_of_ble_eq_true rfl) (Nat.le_of_ble_eq_true rfl) ?_
  refine c_X1_has hL ho ?_
  refine ev_if_eqB 17 dX1_handOf_5 (by decide) (fun b5 => by rw [hb] at b5; cases b5) (fun b5 => ?_)
  refine ev_aload_n (i := 0) dX1_handOf_8 rfl rfl ?_
  refine ev_getfield dX1_handOf_9 fX1_15 (by first | omega | decide) (by first | assumption | (simp (disch := omega) only [mu_s, mu_n]; first | assumption | rfl)) (by rfl) ?_
  refine ev_iload_n (i := 1) dX1_handOf_12 rfl rfl ?_
  refine ev_ialoadN dX1_handOf_13 (by first | omega | decide) (by first | assumption | (simp (disch := omega) only [mu_s, mu_n]; first | assumption | rfl)) (by omega) (by decide) ?_
  refine ev_goto 18 dX1_handOf_14 (by decide) ?_
  refine ev_reti dX1_handOf_18 rfl rfl ?_
  exact hp
theorem c_X1_forceOf {l : Nat} (hL : kLt M t) (ho : ltOk t) (hl : l < t.1) (hp : P (some (.int (nI (t.2.2.2.1 l)))) M) : Ev 88 (d + 1) mX1_forceOf none 0 [.ref 3, .int (nI l)] [] M P := by
  have h6 := ho.1
  have h3 := hL.1
  obtain ⟨f, ha, hf⟩ := hL.2.2.2.1
  have hb := e_has hl (by omega)
  rw [← hf l hl] at hp
  refine ev_aload_n (i := 0) dX1_forceOf_0 rfl rfl ?_
  refine ev_iload_n (i := 1) dX1_forceOf_1 rfl rfl ?_
  refine ev_V1 (μ1 := mX1_has) dX1_forceOf_2 sX1_35 okX1_has (by first | omega | decide) (by first | assumption | (simp (disch := omega) only [mu_s, mu_n]; first | assumption | rfl)) (Nat.le_of_ble_eq_true rfl) (Nat.le_of_ble_eq_true rfl) ?_
  refine c_X1_has hL ho ?_
  refine ev_if_eqB 17 dX1_forceOf_5 (by decide) (fun b5 => by rw [hb] at b5; cases b5) (fun b5 => ?_)
  refine ev_aload_n (i := 0) dX1_forceOf_8 rfl rfl ?_
  refine ev_getfield dX1_forceOf_9 fX1_18 (by first | omega | decide) (by first | assumption | (simp (disch := omega) only [mu_s, mu_n]; first | assumption | rfl)) (by rfl) ?_
  refine ev_iload_n (i := 1) dX1_forceOf_12 rfl rfl ?_
  refine ev_ialoadN dX1_forceOf_13 (by first | omega | decide) (by first | assumption | (simp (disch := omega) only [mu_s, mu_n]; first | assumption | rfl)) (by omega) (by decide) ?_
  refine ev_goto 18 dX1_forceOf_14 (by decide) ?_
  refine ev_reti dX1_forceOf_18 rfl rfl ?_
  exact hp
theorem c_X1_cellsOf {l : Nat} (hL : kLt M t) (ho : ltOk t) (hl : l < t.1) (hp : P (some (.int (nI (t.2.2.2.2 l)))) M) : Ev 88 (d + 1) mX1_cellsOf none 0 [.ref 3, .int (nI l)] [] M P := by
  have h6 := ho.1
  have h3 := hL.1
  obtain ⟨f, ha, hf⟩ := hL.2.2.2.2
  have hb := e_has hl (by omega)
  rw [← hf l hl] at hp
  refine ev_aload_n (i := 0) dX1_cellsOf_0 rfl rfl ?_
  refine ev_iload_n (i := 1) dX1_cellsOf_1 rfl rfl ?_
  refine ev_V1 (μ1 := mX1_has) dX1_cellsOf_2 sX1_35 okX1_has (by first | omega | decide) (by first | assumption | (simp (disch := omega) only [mu_s, mu_n]; first | assumption | rfl)) (Nat.le_of_ble_eq_true rfl) (Nat.le_of_ble_eq_true rfl) ?_
  refine c_X1_has hL ho ?_
  refine ev_if_eqB 17 dX1_cellsOf_5 (by decide) (fun b5 => by rw [hb] at b5; cases b5) (fun b5 => ?_)
  refine ev_aload_n (i := 0) dX1_cellsOf_8 rfl rfl ?_
  refine ev_getfield dX1_cellsOf_9 fX1_21 (by first | omega | decide) (by first | assumption | (simp (disch := omega) only [mu_s, mu_n]; first | assumption | rfl)) (by rfl) ?_
  refine ev_iload_n (i := 1) dX1_cellsOf_12 rfl rfl ?_
  refine ev_ialoadN dX1_cellsOf_13 (by first | omega | decide) (by first | assumption | (simp (disch := omega) only [mu_s, mu_n]; first | assumption | rfl)) (by omega) (by decide) ?_
  refine ev_goto 18 dX1_cellsOf_14 (by decide) ?_
  refine ev_reti dX1_cellsOf_18 rfl rfl ?_
  exact hp
theorem c_X1_windowOf {l : Nat} (hL : kLt M t) (ho : ltOk t) (hl : l < t.1) (hp : P (some (.int (nI (15 * 2 ^ t.2.1 l)))) M) : Ev 88 (d + 1) mX1_windowOf none 0 [.ref 3, .int (nI l)] [] M P := by
  have h6 := ho.1
  have h3 := hL.1
  obtain ⟨f, ha, hf⟩ := hL.2.1
  have hb := e_has hl (by omega)
  have h8 := (ho.2 l hl).1
  refine ev_aload_n (i := 0) dX1_windowOf_0 rfl rfl ?_
  refine ev_iload_n (i := 1) dX1_windowOf_1 rfl rfl ?_
  refine ev_V1 (μ1 := mX1_has) dX1_windowOf_2 sX1_35 okX1_has (by first | omega | decide) (by first | assumption | (simp (disch := omega) only [mu_s, mu_n]; first | assumption | rfl)) (Nat.le_of_ble_eq_true rfl) (Nat.le_of_ble_eq_true rfl) ?_
  refine c_X1_has hL ho ?_
  refine ev_if_eqB 20 dX1_windowOf_5 (by decide) (fun b5 => by rw [hb] at b5; cases b5) (fun b5 => ?_)
  refine ev_bipush (v := nI 15) dX1_windowOf_8 rfl ?_
  refine ev_aload_n (i := 0) dX1_windowOf_10 rfl rfl ?_
  refine ev_getfield dX1_windowOf_11 fX1_9 (by first | omega | decide) (by first | assumption | (simp (disch := omega) only [mu_s, mu_n]; first | assumption | rfl)) (by rfl) ?_
  refine ev_iload_n (i := 1) dX1_windowOf_14 rfl rfl ?_
  refine ev_ialoadN dX1_windowOf_15 (by first | omega | decide) (by first | assumption | (simp (disch := omega) only [mu_s, mu_n]; first | assumption | rfl)) (by omega) (by decide) ?_
  refine ev_top (i_op (hf l hl)) ?_
  refine ev_ishlN dX1_windowOf_16 (by omega) ?_
  refine ev_goto 21 dX1_windowOf_17 (by decide) ?_
  refine ev_reti dX1_windowOf_21 rfl rfl ?_
  exact hp
theorem c_X1_canBeRead {l s : Nat} (hL : kLt M t) (ho : ltOk t) (hl : l < t.1) (hp : P (some (.int (bI (rdN t s l)))) M) : Ev 88 (d + 1) mX1_canBeRead none 0 [.ref 3, .int (nI l), .int (nI s)] [] M P := by
  have h6 := ho.1
  have h3 := hL.1
  obtain ⟨f, ha, hf⟩ := hL.2.1
  obtain ⟨f7, ha7, hf7⟩ := hL.2.2.2.2
  have hb := e_has hl (by omega)
  have h8 := (ho.2 l hl).1
  have h9 := (ltOk_cells ho hl).1
  have h10 := ltOk_win ho hl
  refine ev_aload_n (i := 0) dX1_canBeRead_0 rfl rfl ?_
  refine ev_iload_n (i := 1) dX1_canBeRead_1 rfl rfl ?_
  refine ev_V1 (μ1 := mX1_has) dX1_canBeRead_2 sX1_35 okX1_has (by first | omega | decide) (by first | assumption | (simp (disch := omega) only [mu_s, mu_n]; first | assumption | rfl)) (Nat.le_of_ble_eq_true rfl) (Nat.le_of_ble_eq_true rfl) ?_
  refine c_X1_has hL ho ?_
  refine ev_if_eqB 32 dX1_canBeRead_5 (by decide) (fun b5 => by rw [hb] at b5; cases b5) (fun b5 => ?_)
  refine ev_iload_n (i := 2) dX1_canBeRead_8 rfl rfl ?_
  refine ev_bipush (v := nI 15) dX1_canBeRead_9 rfl ?_
  refine ev_aload_n (i := 0) dX1_canBeRead_11 rfl rfl ?_
  refine ev_getfield dX1_canBeRead_12 fX1_9 (by first | omega | decide) (by first | assumption | (simp (disch := omega) only [mu_s, mu_n]; first | assumption | rfl)) (by rfl) ?_
  refine ev_iload_n (i := 1) dX1_canBeRead_15 rfl rfl ?_
  refine ev_ialoadN dX1_canBeRead_16 (by first | omega | decide) (by first | assumption | (simp (disch := omega) only [mu_s, mu_n]; first | assumption | rfl)) (by omega) (by decide) ?_
  refine ev_top (i_op (hf l hl)) ?_
  refine ev_ishlN dX1_canBeRead_17 (by omega) ?_
  refine ev_iandN dX1_canBeRead_18 ?_
  refine ev_aload_n (i := 0) dX1_canBeRead_19 rfl rfl ?_
  refine ev_getfield dX1_canBeRead_20 fX1_21 (by first | omega | decide) (by first | assumption | (simp (disch := omega) only [mu_s, mu_n]; first | assumption | rfl)) (by rfl) ?_
  refine ev_iload_n (i := 1) dX1_canBeRead_23 rfl rfl ?_
  refine ev_ialoadN dX1_canBeRead_24 (by first | omega | decide) (by first | assumption | (simp (disch := omega) only [mu_s, mu_n]; first | assumption | rfl)) (by omega) (by decide) ?_
  refine ev_top (i_op (hf7 l hl)) ?_
  refine ev_icmp_neN 32 dX1_canBeRead_25 (by decide) (and_lt31 (by omega)) (by omega) (fun b25 => ?_) (fun b25 => ?_)
  · skip
    refine ev_iconst (v := nI 0) dX1_canBeRead_32 rfl ?_
    refine ev_reti dX1_canBeRead_33 rfl rfl ?_
    exact e_retF (decide_eq_false b25) hp
  · skip
    refine ev_iconst (v := nI 1) dX1_canBeRead_28 rfl ?_
    refine ev_goto 33 dX1_canBeRead_29 (by decide) ?_
    refine ev_reti dX1_canBeRead_33 rfl rfl ?_
    exact e_retT (decide_eq_true b25) hp
theorem c_X1_readable {s : Nat} (hL : kLt M t) (ho : ltOk t) (hp : P (some (.int (nI (rdSet t s)))) M) : Ev 88 (d + 2) mX1_readable none 0 [.ref 3, .int (nI s), .null, .null] [] M P := by
  have h6 := ho.1
  have h3 := hL.1
  have lp : ∀ (j c acc : Nat), c + j = t.1 → acc = bN (rdN t s) c → Ev 88 (d + 2) mX1_readable none 4 [.ref 3, .int (nI s), .int (nI acc), .int (nI c)] [] M P := by
    intro j
    induction j with
    | zero =>
      intro c acc hc ha
      obtain rfl : c = t.1 := by omega
      subst ha
      refine ev_iload_n (i := 3) dX1_readable_4 rfl rfl ?_
      refine ev_aload_n (i := 0) dX1_readable_5 rfl rfl ?_
      refine ev_getfield dX1_readable_6 fX1_24 (by first | omega | decide) (by first | assumption | (simp (disch := omega) only [mu_s, mu_n]; first | assumption | rfl)) (by rfl) ?_
      refine ev_icmp_geN 33 dX1_readable_9 (by decide) (by omega) (by omega) (fun b9 => ?_) (fun b9 => by exfalso; omega)
      refine ev_iload_n (i := 2) dX1_readable_33 rfl rfl ?_
      refine ev_reti dX1_readable_34 rfl rfl ?_
      exact hp
    | succ j ih =>
      intro c acc hc ha
      refine ev_iload_n (i := 3) dX1_readable_4 rfl rfl ?_
      refine ev_aload_n (i := 0) dX1_readable_5 rfl rfl ?_
      refine ev_getfield dX1_readable_6 fX1_24 (by first | omega | decide) (by first | assumption | (simp (disch := omega) only [mu_s, mu_n]; first | assumption | rfl)) (by rfl) ?_
      refine ev_icmp_geN 33 dX1_readable_9 (by decide) (by omega) (by omega) (fun b9 => by exfalso; omega) (fun b9 => ?_)
      refine ev_aload_n (i := 0) dX1_readable_12 rfl rfl ?_
      refine ev_iload_n (i := 3) dX1_readable_13 rfl rfl ?_
      refine ev_iload_n (i := 1) dX1_readable_14 rfl rfl ?_
      refine ev_V2 (μ1 := mX1_canBeRead) dX1_readable_15 sX1_39 okX1_canBeRead (by first | omega | decide) (by first | assumption | (simp (disch := omega) only [mu_s, mu_n]; first | assumption | rfl)) (Nat.le_of_ble_eq_true rfl) (Nat.le_of_ble_eq_true rfl) ?_
      refine c_X1_canBeRead hL ho (by omega) ?_
      refine ev_if_eqB 27 dX1_readable_18 (by decide) (fun b18 => ?_) (fun b18 => ?_)
      · skip
        refine ev_incN dX1_readable_27 (by rfl) (by decide) rfl ?_
        refine ev_goto 4 dX1_readable_30 (by decide) ?_
        first
        | exact ih _ _ (by omega) (ha.trans (bN_f (by rw [b18]; decide)))
        | exact ih _ _ (by omega) (by rw [ha]; exact bN_t b18)
      · skip
        refine ev_iload_n (i := 2) dX1_readable_21 rfl rfl ?_
        refine ev_iconst (v := nI 1) dX1_readable_22 rfl ?_
        refine ev_iload_n (i := 3) dX1_readable_23 rfl rfl ?_
        refine ev_ishl1 dX1_readable_24 (by omega) ?_
        refine ev_iorN dX1_readable_25 ?_
        refine ev_istore_n (i := 2) dX1_readable_26 rfl (by decide) rfl ?_
        refine ev_incN dX1_readable_27 (by rfl) (by decide) rfl ?_
        refine ev_goto 4 dX1_readable_30 (by decide) ?_
        first
        | exact ih _ _ (by omega) (ha.trans (bN_f (by rw [b18]; decide)))
        | exact ih _ _ (by omega) (by rw [ha]; exact bN_t b18)
  refine ev_iconst (v := nI 0) dX1_readable_0 rfl ?_
  refine ev_istore_n (i := 2) dX1_readable_1 rfl (by decide) rfl ?_
  refine ev_iconst (v := nI 0) dX1_readable_2 rfl ?_
  refine ev_istore_n (i := 3) dX1_readable_3 rfl (by decide) rfl ?_
  exact lp t.1 0 0 (by omega) rfl
theorem c_X1_shownBy {s : Nat} (hL : kLt M t) (ho : ltOk t) (hs : s < 2 ^ 31) (hp : P (some (.int (nI (shBy t s)))) M) : Ev 88 (d + 2) mX1_shownBy none 0 [.ref 3, .int (nI s), .null, .null] [] M P := by
  have h6 := ho.1
  have h3 := hL.1
  have lp : ∀ (j c acc : Nat), c + j = t.1 → acc = oN (fun l => s.testBit l && decide (t.2.2.2.1 l ≠ 0)) t.2.2.2.2 c → Ev 88 (d + 2) mX1_shownBy none 4 [.ref 3, .int (nI s), .int (nI acc), .int (nI c)] [] M P := by
    intro j
    induction j with
    | zero =>
      intro c acc hc ha
      obtain rfl : c = t.1 := by omega
      subst ha
      refine ev_iload_n (i := 3) dX1_shownBy_4 rfl rfl ?_
      refine ev_aload_n (i := 0) dX1_shownBy_5 rfl rfl ?_
      refine ev_getfield dX1_shownBy_6 fX1_24 (by first | omega | decide) (by first | assumption | (simp (disch := omega) only [mu_s, mu_n]; first | assumption | rfl)) (by rfl) ?_
      refine ev_icmp_geN 43 dX1_shownBy_9 (by decide) (by omega) (by omega) (fun b9 => ?_) (fun b9 => by exfalso; omega)
      refine ev_iload_n (i := 2) dX1_shownBy_43 rfl rfl ?_
      refine ev_reti dX1_shownBy_44 rfl rfl ?_
      exact hp
    | succ j ih =>
      intro c acc hc ha
      have hc1 : c < t.1 := by omega
      have h4 := (ho.2 c hc1).2.2.1
      refine ev_iload_n (i := 3) dX1_shownBy_4 rfl rfl ?_
      refine ev_aload_n (i := 0) dX1_shownBy_5 rfl rfl ?_
      refine ev_getfield dX1_shownBy_6 fX1_24 (by first | omega | decide) (by first | assumption | (simp (disch := omega) only [mu_s, mu_n]; first | assumption | rfl)) (by rfl) ?_
      refine ev_icmp_geN 43 dX1_shownBy_9 (by decide) (by omega) (by omega) (fun b9 => by exfalso; omega) (fun b9 => ?_)
      refine ev_iload_n (i := 1) dX1_shownBy_12 rfl rfl ?_
      refine ev_iload_n (i := 3) dX1_shownBy_13 rfl rfl ?_
      refine ev_ishrN dX1_shownBy_14 (by omega) (by omega) ?_
      refine ev_iconst (v := nI 1) dX1_shownBy_15 rfl ?_
      refine ev_iand1 dX1_shownBy_16 ?_
      refine ev_iconst (v := nI 1) dX1_shownBy_17 rfl ?_
      refine ev_icmp_neN 37 dX1_shownBy_18 (by decide) (by omega) (by omega) (fun b18 => ?_) (fun b18 => ?_)
      · skip
        refine ev_incN dX1_shownBy_37 (by rfl) (by decide) rfl ?_
        refine ev_goto 4 dX1_shownBy_40 (by decide) ?_
        first
        | exact ih _ _ (by omega) (ha.trans (oN_f (by rw [ne_eq, tb_d] at b18; simp [b18])))
        | exact ih _ _ (by omega) (ha.trans (oN_f (by simp [b26])))
        | exact ih _ _ (by omega) (by rw [ha]; exact oN_t (by rw [tb_d] at b18; simp [b18, b26]))
      · skip
        refine ev_aload_n (i := 0) dX1_shownBy_21 rfl rfl ?_
        refine ev_iload_n (i := 3) dX1_shownBy_22 rfl rfl ?_
        refine ev_V1 (μ1 := mX1_forceOf) dX1_shownBy_23 sX1_43 okX1_forceOf (by first | omega | decide) (by first | assumption | (simp (disch := omega) only [mu_s, mu_n]; first | assumption | rfl)) (Nat.le_of_ble_eq_true rfl) (Nat.le_of_ble_eq_true rfl) ?_
        refine c_X1_forceOf hL ho hc1 ?_
        refine ev_if_eqN 37 dX1_shownBy_26 (by decide) (by omega) (fun b26 => ?_) (fun b26 => ?_)
        · skip
          refine ev_incN dX1_shownBy_37 (by rfl) (by decide) rfl ?_
          refine ev_goto 4 dX1_shownBy_40 (by decide) ?_
          first
          | exact ih _ _ (by omega) (ha.trans (oN_f (by rw [ne_eq, tb_d] at b18; simp [b18])))
          | exact ih _ _ (by omega) (ha.trans (oN_f (by simp [b26])))
          | exact ih _ _ (by omega) (by rw [ha]; exact oN_t (by rw [tb_d] at b18; simp [b18, b26]))
        · skip
          refine ev_iload_n (i := 2) dX1_shownBy_29 rfl rfl ?_
          refine ev_aload_n (i := 0) dX1_shownBy_30 rfl rfl ?_
          refine ev_iload_n (i := 3) dX1_shownBy_31 rfl rfl ?_
          refine ev_V1 (μ1 := mX1_cellsOf) dX1_shownBy_32 sX1_47 okX1_cellsOf (by first | omega | decide) (by first | assumption | (simp (disch := omega) only [mu_s, mu_n]; first | assumption | rfl)) (Nat.le_of_ble_eq_true rfl) (Nat.le_of_ble_eq_true rfl) ?_
          refine c_X1_cellsOf hL ho hc1 ?_
          refine ev_iorN dX1_shownBy_35 ?_
          refine ev_istore_n (i := 2) dX1_shownBy_36 rfl (by decide) rfl ?_
          refine ev_incN dX1_shownBy_37 (by rfl) (by decide) rfl ?_
          refine ev_goto 4 dX1_shownBy_40 (by decide) ?_
          first
          | exact ih _ _ (by omega) (ha.trans (oN_f (by rw [ne_eq, tb_d] at b18; simp [b18])))
          | exact ih _ _ (by omega) (ha.trans (oN_f (by simp [b26])))
          | exact ih _ _ (by omega) (by rw [ha]; exact oN_t (by rw [tb_d] at b18; simp [b18, b26]))
  refine ev_iconst (v := nI 0) dX1_shownBy_0 rfl ?_
  refine ev_istore_n (i := 2) dX1_shownBy_1 rfl (by decide) rfl ?_
  refine ev_iconst (v := nI 0) dX1_shownBy_2 rfl ?_
  refine ev_istore_n (i := 3) dX1_shownBy_3 rfl (by decide) rfl ?_
  exact lp t.1 0 0 (by omega) rfl
theorem c_X1_showing {c : Nat} (hL : kLt M t) (ho : ltOk t) (hc : c < 32) (hp : P (some (.int (nI (shwN t c)))) M) : Ev 88 (d + 3) mX1_showing none 0 [.ref 3, .int (nI c), .null, .null] [] M P := by
  have h6 := ho.1
  have h3 := hL.1
  have lp : ∀ (j i acc : Nat), i + j = t.1 → acc = sN (fun l => shBy t (2 ^ l) / 2 ^ c % 2) i → Ev 88 (d + 3) mX1_showing none 4 [.ref 3, .int (nI c), .int (nI acc), .int (nI i)] [] M P := by
    intro j
    induction j with
    | zero =>
      intro i acc hi ha
      obtain rfl : i = t.1 := by omega
      subst ha
      refine ev_iload_n (i := 3) dX1_showing_4 rfl rfl ?_
      refine ev_aload_n (i := 0) dX1_showing_5 rfl rfl ?_
      refine ev_getfield dX1_showing_6 fX1_24 (by first | omega | decide) (by first | assumption | (simp (disch := omega) only [mu_s, mu_n]; first | assumption | rfl)) (by rfl) ?_
      refine ev_icmp_geN 32 dX1_showing_9 (by decide) (by omega) (by omega) (fun b9 => ?_) (fun b9 => by exfalso; omega)
      refine ev_iload_n (i := 2) dX1_showing_32 rfl rfl ?_
      refine ev_reti dX1_showing_33 rfl rfl ?_
      exact hp
    | succ j ih =>
      intro i acc hi ha
      have h9 := shBy_lt ho (2 ^ i)
      refine ev_iload_n (i := 3) dX1_showing_4 rfl rfl ?_
      refine ev_aload_n (i := 0) dX1_showing_5 rfl rfl ?_
      refine ev_getfield dX1_showing_6 fX1_24 (by first | omega | decide) (by first | assumption | (simp (disch := omega) only [mu_s, mu_n]; first | assumption | rfl)) (by rfl) ?_
      refine ev_icmp_geN 32 dX1_showing_9 (by decide) (by omega) (by omega) (fun b9 => by exfalso; omega) (fun b9 => ?_)
      refine ev_iload_n (i := 2) dX1_showing_12 rfl rfl ?_
      refine ev_aload_n (i := 0) dX1_showing_13 rfl rfl ?_
      refine ev_iconst (v := nI 1) dX1_showing_14 rfl ?_
      refine ev_iload_n (i := 3) dX1_showing_15 rfl rfl ?_
      refine ev_ishl1 dX1_showing_16 (by omega) ?_
      refine ev_V1 (μ1 := mX1_shownBy) dX1_showing_17 sX1_50 okX1_shownBy (by first | omega | decide) (by first | assumption | (simp (disch := omega) only [mu_s, mu_n]; first | assumption | rfl)) (Nat.le_of_ble_eq_true rfl) (Nat.le_of_ble_eq_true rfl) ?_
      refine c_X1_shownBy hL ho (Nat.lt_of_le_of_lt (pw_le (show i ≤ 6 by omega)) (by decide)) ?_
      refine ev_iload_n (i := 1) dX1_showing_20 rfl rfl ?_
      refine ev_ishrN dX1_showing_21 (by omega) (by omega) ?_
      refine ev_iconst (v := nI 1) dX1_showing_22 rfl ?_
      refine ev_iand1 dX1_showing_23 ?_
      refine ev_iaddN dX1_showing_24 ?_
      refine ev_istore_n (i := 2) dX1_showing_25 rfl (by decide) rfl ?_
      refine ev_incN dX1_showing_26 (by rfl) (by decide) rfl ?_
      refine ev_goto 4 dX1_showing_29 (by decide) ?_
      exact ih _ _ (by omega) (by rw [ha]; rfl)
  refine ev_iconst (v := nI 0) dX1_showing_0 rfl ?_
  refine ev_istore_n (i := 2) dX1_showing_1 rfl (by decide) rfl ?_
  refine ev_iconst (v := nI 0) dX1_showing_2 rfl ?_
  refine ev_istore_n (i := 3) dX1_showing_3 rfl (by decide) rfl ?_
  exact lp t.1 0 0 (by omega) rfl
end LET
end
section
/-! ===== pages: ink, what is on top, the day ===== -/
abbrev pg : Type := (Nat → Nat) × (Nat → Option Nat) × Int32
def tI (o : Option Nat) : Int32 := match o with
  | none => (-9)
  | some l => nI l
def pgOk (p : pg) : Prop := ∀ c, c < 12 → p.1 c ≤ 9 ∧ ∀ l, p.2.1 c = some l → l < 6
def kP (M : mM) (k : Nat) (p : pg) : Prop := ∃ f g, kS M k f g p.2.2 ∧ (∀ c, c < 12 → f c = nI (p.1 c)) ∧ ∀ c, c < 12 → g c = tI (p.2.1 c)
/-- only cells a .. b - 1 may differ -/
def ag (M M1 : mM) (a b : Nat) : Prop := ∀ i, (i < a ∨ b ≤ i) → M1 i = M i
theorem ag_rf (M : mM) (a b : Nat) : ag M M a b := fun _ _ => rfl
theorem ag_mu {M M1 : mM} {a b i : Nat} {c : mC} (h : ag M M1 a b) (h1 : a ≤ i) (h2 : i < b) : ag M (mu M1 i c) a b := fun j hj => by
  rw [mu_n (by omega)]
  exact h j hj
theorem ag_tr {M M1 M2 : mM} {a b a1 b1 a2 b2 : Nat} (h1 : ag M M1 a1 b1) (h2 : ag M1 M2 a2 b2) (x1 : a ≤ a1 := by omega) (x2 : b1 ≤ b := by omega) (x3 : a ≤ a2 := by omega) (x4 : b2 ≤ b := by omega) : ag M M2 a b := fun j hj => by
  rw [h2 j (by omega), h1 j (by omega)]
theorem ag_wd {M M1 : mM} {a b a1 b1 : Nat} (h : ag M M1 a1 b1) (x1 : a ≤ a1 := by omega) (x2 : b1 ≤ b := by omega) : ag M M1 a b := fun j hj => h j (by omega)
theorem kS_ag {M M1 : mM} {k a b : Nat} {f g : Nat → Int32} {dy : Int32} (h : kS M k f g dy) (hg : ag M M1 a b) (hx : b ≤ k ∨ k + 3 ≤ a) : kS M1 k f g dy := ⟨(hg _ (by omega)).trans h.1, (hg _ (by omega)).trans h.2.1, (hg _ (by omega)).trans h.2.2⟩
theorem kP_ag {M M1 : mM} {k a b : Nat} {p : pg} (h : kP M k p) (hg : ag M M1 a b) (hx : b ≤ k ∨ k + 3 ≤ a) : kP M1 k p := by
  obtain ⟨f, g, h1, h2⟩ := h
  exact ⟨f, g, kS_ag h1 hg hx, h2⟩
theorem kS_1 {M : mM} {k : Nat} {f g : Nat → Int32} {dy : Int32} (h : kS M k f g dy) (f1 : Nat → Int32) : kS (mu M (k + 1) (.inl (0, 12, .inl f1))) k f1 g dy := ⟨(mu_n (by omega)).trans h.1, mu_s _ _ _, (mu_n (by omega)).trans h.2.2⟩
theorem kS_2 {M : mM} {k : Nat} {f g : Nat → Int32} {dy : Int32} (h : kS M k f g dy) (g1 : Nat → Int32) : kS (mu M (k + 2) (.inl (0, 12, .inl g1))) k f g1 dy := ⟨(mu_n (by omega)).trans h.1, (mu_n (by omega)).trans h.2.1, mu_s _ _ _⟩
theorem kS_0 {M : mM} {k : Nat} {f g : Nat → Int32} {dy : Int32} (h : kS M k f g dy) (d1 : Int32) : kS (mu M k (.inr (3, [.ref (k + 1), .ref (k + 2), .int d1]))) k f g d1 := ⟨mu_s _ _ _, (mu_n (by omega)).trans h.2.1, (mu_n (by omega)).trans h.2.2⟩
/-- a row written at c, by what it should hold below c and from c on -/
theorem wr_s {α : Type} {f : Nat → Int32} {F : α → Int32} {nw old : Nat → α} {c : Nat} {v : Int32} (h : ∀ i, i < 12 → f i = F (if i < c then nw i else old i)) (hv : v = F (nw c)) : ∀ i, i < 12 → upd f c v i = F (if i < c + 1 then nw i else old i) := by
  intro i hi
  unfold upd
  by_cases e : i = c
  · subst e
    rw [if_pos rfl, if_pos (by omega), hv]
  · rw [if_neg e, h i hi]
    have : (i < c + 1) ↔ i < c := by omega
    simp only [this]
theorem wr_k {α : Type} {f : Nat → Int32} {F : α → Int32} {nw old : Nat → α} {c : Nat} (h : ∀ i, i < 12 → f i = F (if i < c then nw i else old i)) (hv : F (nw c) = F (old c)) : ∀ i, i < 12 → f i = F (if i < c + 1 then nw i else old i) := by
  intro i hi
  rw [h i hi]
  by_cases e : i = c
  · subst e
    rw [if_neg (by omega), if_pos (by omega), hv]
  · have : (i < c + 1) ↔ i < c := by omega
    simp only [this]
theorem wr_0 {α : Type} {f : Nat → Int32} {F : α → Int32} {nw old : Nat → α} (h : ∀ i, i < 12 → f i = F (old i)) : ∀ i, i < 12 → f i = F (if i < 0 then nw i else old i) := fun i hi => by rw [if_neg (by omega)]; exact h i hi
theorem wr_e {α : Type} {f : Nat → Int32} {F : α → Int32} {nw old : Nat → α} (h : ∀ i, i < 12 → f i = F (if i < 12 then nw i else old i)) : ∀ i, i < 12 → f i = F (nw i) := fun i hi => by rw [h i hi, if_pos hi]
def pgNew (dy : Int32) : pg := (fun _ => 0, fun _ => none, dy)
def pgClean (c : Nat) (p : pg) : pg := (fun i => if i = c then 0 else p.1 i, fun i => if i = c then none else p.2.1 i, p.2.2)
def pgPress (cs fo l : Nat) (p : pg) : pg := (fun c => if 0 < fo ∧ cs.testBit c = true then min 9 (p.1 c + fo) else p.1 c, fun c => if 0 < fo ∧ cs.testBit c = true then some l else p.2.1 c, p.2.2)
def pgDay (p : pg) : pg := (fun c => p.1 c - 1, fun c => if p.1 c ≤ 1 then none else p.2.1 c, p.2.2 + nI 1)
theorem pgNew_ok (dy : Int32) : pgOk (pgNew dy) := fun _ _ => ⟨Nat.zero_le _, fun _ h => by cases h⟩
theorem pgClean_ok {c : Nat} {p : pg} (h : pgOk p) : pgOk (pgClean c p) := fun i hi => by
  obtain ⟨h1, h2⟩ := h i hi
  unfold pgClean
  refine ⟨?_, fun l => ?_⟩
  · show (if i = c then 0 else p.1 i) ≤ 9
    split <;> omega
  · show (if i = c then none else p.2.1 i) = some l → l < 6
    split
    · intro z; cases z
    · exact h2 l
theorem pgPress_ok {cs fo l : Nat} {p : pg} (h : pgOk p) (hl : l < 6) : pgOk (pgPress cs fo l p) := fun i hi => by
  obtain ⟨h1, h2⟩ := h i hi
  unfold pgPress
  refine ⟨?_, fun x => ?_⟩
  · show (if 0 < fo ∧ cs.testBit i = true then min 9 (p.1 i + fo) else p.1 i) ≤ 9
    split <;> omega
  · show (if 0 < fo ∧ cs.testBit i = true then some l else p.2.1 i) = some x → x < 6
    split
    · intro z; cases z; exact hl
    · exact h2 x
theorem pgDay_ok {p : pg} (h : pgOk p) : pgOk (pgDay p) := fun i hi => by
  obtain ⟨h1, h2⟩ := h i hi
  unfold pgDay
  refine ⟨?_, fun x => ?_⟩
  · show p.1 i - 1 ≤ 9
    omega
  · show (if p.1 i ≤ 1 then none else p.2.1 i) = some x → x < 6
    split
    · intro z; cases z
    · exact h2 x
theorem n_min {x : Nat} (h : x < 2 ^ 31) : (if nI x < nI 9 then nI x else nI 9) = nI (min 9 x) := by
  by_cases q : x < 9
  · rw [if_pos ((nI_ltI h (by decide)).mpr q), Nat.min_eq_right (by omega)]
  · rw [if_neg (fun z => q ((nI_ltI h (by decide)).mp z)), Nat.min_eq_left (by omega)]
section PAG
variable {N d k : Nat} {M : mM} {P : Option Value → mM → Prop} {p : pg}
theorem q_shownIn {n : Nat} (hk : k + 2 < N) (h : kP M k p) (ho : pgOk p) (hn : n < 2 ^ 31) (hp : P (some (.int (nI (shN p.1 n)))) M) : Ev N d mX3_shownIn none 0 [.ref k, .int (nI n), .null, .null] [] M P := by
  obtain ⟨f, g, h1, h2, -⟩ := h
  exact c_X3_shownIn hk h1 (fun c hc => ⟨h2 c hc, (ho c hc).1⟩) hn hp
theorem q_renew (hk : k + 2 < N) (h : kP M k p) (hp : ∀ M1, ag M M1 k (k + 3) → kP M1 k (pgNew p.2.2) → P none M1) : Ev N (d + 2) mX3_renew none 0 [.ref k, .null] [] M P := by
  obtain ⟨f, g, h1, h2, h3⟩ := h
  refine c_X3_renew hk h1 (hp _ (ag_mu (ag_mu (ag_rf M _ _) (by omega) (by omega)) (by omega) (by omega)) ⟨_, _, kS_2 (kS_1 h1 _) _, fun c hc => ?_, fun c hc => ?_⟩)
  · show (if c < 12 then nI 0 else f c) = _
    rw [if_pos hc]; rfl
  · show (if c < 12 then (-9) else g c) = _
    rw [if_pos hc]; rfl
theorem q_clean {c : Nat} (hk : k + 2 < N) (h : kP M k p) (hc : c < 12) (hp : ∀ M1, ag M M1 k (k + 3) → kP M1 k (pgClean c p) → P none M1) : Ev N (d + 1) mX3_clean none 0 [.ref k, .int (nI c)] [] M P := by
  obtain ⟨f, g, h1, h2, h3⟩ := h
  refine c_X3_clean hk h1 hc (hp _ (ag_mu (ag_mu (ag_rf M _ _) (by omega) (by omega)) (by omega) (by omega)) ⟨_, _, kS_2 (kS_1 h1 _) _, fun i hi => ?_, fun i hi => ?_⟩)
  · show (if i = c then nI 0 else f i) = nI (if i = c then 0 else p.1 i)
    split
    · rfl
    · exact h2 i hi
  · show (if i = c then (-9) else g i) = tI (if i = c then none else p.2.1 i)
    split
    · rfl
    · exact h3 i hi
theorem q_addInk {cs fo l : Nat} (hk : k + 2 < N) (h : kP M k p) (ho : pgOk p) (hcs : cs < 2 ^ 31) (hfo : fo ≤ 4) (hp : ∀ M1, ag M M1 k (k + 3) → kP M1 k (pgPress cs fo l p) → P none M1) : Ev N (d + 1) mX3_addInk none 0 [.ref k, .int (nI cs), .int (nI fo), .int (nI l), .null] [] M P := by
  obtain ⟨f, g, h1, h2, h3⟩ := h
  have lp : ∀ (j c : Nat) (M1 : mM) (f1 g1 : Nat → Int32), c + j = 12 → ag M M1 k (k + 3) → kS M1 k f1 g1 p.2.2 → (∀ i, i < 12 → f1 i = nI (if i < c then (pgPress cs fo l p).1 i else p.1 i)) → (∀ i, i < 12 → g1 i = tI (if i < c then (pgPress cs fo l p).2.1 i else p.2.1 i)) → Ev N (d + 1) mX3_addInk none 3 [.ref k, .int (nI cs), .int (nI fo), .int (nI l), .int (nI c)] [] M1 P := by
    intro j
    induction j with
    | zero =>
      intro c M1 f1 g1 hc ha hs e1 e2
      obtain rfl : c = 12 := by omega
      refine ev_iload (i := 4) dX3_addInk_3 rfl ?_
      refine ev_bipush (v := nI 12) dX3_addInk_5 rfl ?_
      refine ev_icmp_geN 59 dX3_addInk_7 (by decide) (by omega) (by omega) (fun b7 => ?_) (fun b7 => by exfalso; omega)
      refine ev_ret0 dX3_addInk_59 rfl ?_
      exact hp M1 ha ⟨f1, g1, hs, wr_e e1, wr_e e2⟩
    | succ j ih =>
      intro c M1 f1 g1 hc ha hs e1 e2
      obtain ⟨x0, x1, x2⟩ := id hs
      have hc9 := (ho c (by omega)).1
      have hv : f1 c = nI (p.1 c) := by rw [e1 c (by omega), if_neg (by omega)]
      refine ev_iload (i := 4) dX3_addInk_3 rfl ?_
      refine ev_bipush (v := nI 12) dX3_addInk_5 rfl ?_
      refine ev_icmp_geN 59 dX3_addInk_7 (by decide) (by omega) (by omega) (fun b7 => by exfalso; omega) (fun b7 => ?_)
      refine ev_iload_n (i := 2) dX3_addInk_10 rfl rfl ?_
      refine ev_if_leN 53 dX3_addInk_11 (by decide) (by omega) (fun b11 => ?_) (fun b11 => ?_)
      · skip
        refine ev_incN dX3_addInk_53 (by rfl) (by decide) rfl ?_
        refine ev_goto 3 dX3_addInk_56 (by decide) ?_
        first
        | exact ih _ M1 f1 g1 (by omega) ha hs (wr_k e1 (by unfold pgPress; simp only []; rw [if_neg (by omega)])) (wr_k e2 (by unfold pgPress; simp only []; rw [if_neg (by omega)]))
        | exact ih _ M1 f1 g1 (by omega) ha hs (wr_k e1 (by unfold pgPress; simp only []; rw [if_neg (fun z => b21 ((tb_d cs c).mpr z.2))])) (wr_k e2 (by unfold pgPress; simp only []; rw [if_neg (fun z => b21 ((tb_d cs c).mpr z.2))]))
        | exact ih _ _ _ _ (by omega) (ag_mu (ag_mu ha (by omega) (by omega)) (by omega) (by omega)) (kS_2 (kS_1 hs _) _) (wr_s e1 (by unfold pgPress; simp only []; rw [if_pos ⟨b11, (tb_d cs c).mp b21⟩])) (wr_s e2 (by unfold pgPress; simp only []; rw [if_pos ⟨b11, (tb_d cs c).mp b21⟩]; rfl))
      · skip
        refine ev_iload_n (i := 1) dX3_addInk_14 rfl rfl ?_
        refine ev_iload (i := 4) dX3_addInk_15 rfl ?_
        refine ev_ishrN dX3_addInk_17 (by omega) (by omega) ?_
        refine ev_iconst (v := nI 1) dX3_addInk_18 rfl ?_
        refine ev_iand1 dX3_addInk_19 ?_
        refine ev_iconst (v := nI 1) dX3_addInk_20 rfl ?_
        refine ev_icmp_neN 53 dX3_addInk_21 (by decide) (by omega) (by omega) (fun b21 => ?_) (fun b21 => ?_)
        · skip
          refine ev_incN dX3_addInk_53 (by rfl) (by decide) rfl ?_
          refine ev_goto 3 dX3_addInk_56 (by decide) ?_
          first
          | exact ih _ M1 f1 g1 (by omega) ha hs (wr_k e1 (by unfold pgPress; simp only []; rw [if_neg (by omega)])) (wr_k e2 (by unfold pgPress; simp only []; rw [if_neg (by omega)]))
          | exact ih _ M1 f1 g1 (by omega) ha hs (wr_k e1 (by unfold pgPress; simp only []; rw [if_neg (fun z => b21 ((tb_d cs c).mpr z.2))])) (wr_k e2 (by unfold pgPress; simp only []; rw [if_neg (fun z => b21 ((tb_d cs c).mpr z.2))]))
          | exact ih _ _ _ _ (by omega) (ag_mu (ag_mu ha (by omega) (by omega)) (by omega) (by omega)) (kS_2 (kS_1 hs _) _) (wr_s e1 (by unfold pgPress; simp only []; rw [if_pos ⟨b11, (tb_d cs c).mp b21⟩])) (wr_s e2 (by unfold pgPress; simp only []; rw [if_pos ⟨b11, (tb_d cs c).mp b21⟩]; rfl))
        · skip
          refine ev_aload_n (i := 0) dX3_addInk_24 rfl rfl ?_
          refine ev_getfield dX3_addInk_25 fX3_9 (by first | omega | decide) (by first | assumption | (simp (disch := omega) only [mu_s, mu_n]; first | assumption | rfl)) (by rfl) ?_
          refine ev_iload (i := 4) dX3_addInk_28 rfl ?_
          refine ev_bipush (v := nI 9) dX3_addInk_30 rfl ?_
          refine ev_aload_n (i := 0) dX3_addInk_32 rfl rfl ?_
          refine ev_getfield dX3_addInk_33 fX3_9 (by first | omega | decide) (by first | assumption | (simp (disch := omega) only [mu_s, mu_n]; first | assumption | rfl)) (by rfl) ?_
          refine ev_iload (i := 4) dX3_addInk_36 rfl ?_
          refine ev_ialoadN dX3_addInk_38 (by first | omega | decide) (by first | assumption | (simp (disch := omega) only [mu_s, mu_n]; first | assumption | rfl)) (by omega) (by decide) ?_
          refine ev_top (i_op hv) ?_
          refine ev_iload_n (i := 2) dX3_addInk_39 rfl rfl ?_
          refine ev_iaddN dX3_addInk_40 ?_
          refine ev_min dX3_addInk_41 sX3_29 (by omega) (Nat.le_of_ble_eq_true rfl) ?_
          refine ev_top (i_op (n_min (by omega))) ?_
          refine ev_iastoreN dX3_addInk_44 (by first | omega | decide) (by first | assumption | (simp (disch := omega) only [mu_s, mu_n]; first | assumption | rfl)) (by omega) (by decide) ?_
          refine ev_aload_n (i := 0) dX3_addInk_45 rfl rfl ?_
          refine ev_getfield dX3_addInk_46 fX3_15 (by first | omega | decide) (by first | assumption | (simp (disch := omega) only [mu_s, mu_n]; first | assumption | rfl)) (by rfl) ?_
          refine ev_iload (i := 4) dX3_addInk_49 rfl ?_
          refine ev_iload_n (i := 3) dX3_addInk_51 rfl rfl ?_
          refine ev_iastoreN dX3_addInk_52 (by first | omega | decide) (by first | assumption | (simp (disch := omega) only [mu_s, mu_n]; first | assumption | rfl)) (by omega) (by decide) ?_
          refine ev_incN dX3_addInk_53 (by rfl) (by decide) rfl ?_
          refine ev_goto 3 dX3_addInk_56 (by decide) ?_
          first
          | exact ih _ M1 f1 g1 (by omega) ha hs (wr_k e1 (by unfold pgPress; simp only []; rw [if_neg (by omega)])) (wr_k e2 (by unfold pgPress; simp only []; rw [if_neg (by omega)]))
          | exact ih _ M1 f1 g1 (by omega) ha hs (wr_k e1 (by unfold pgPress; simp only []; rw [if_neg (fun z => b21 ((tb_d cs c).mpr z.2))])) (wr_k e2 (by unfold pgPress; simp only []; rw [if_neg (fun z => b21 ((tb_d cs c).mpr z.2))]))
          | exact ih _ _ _ _ (by omega) (ag_mu (ag_mu ha (by omega) (by omega)) (by omega) (by omega)) (kS_2 (kS_1 hs _) _) (wr_s e1 (by unfold pgPress; simp only []; rw [if_pos ⟨b11, (tb_d cs c).mp b21⟩])) (wr_s e2 (by unfold pgPress; simp only []; rw [if_pos ⟨b11, (tb_d cs c).mp b21⟩]; rfl))
  refine ev_iconst (v := nI 0) dX3_addInk_0 rfl ?_
  refine ev_istore (i := 4) dX3_addInk_1 (by decide) rfl ?_
  exact lp 12 0 M f g rfl (ag_rf M _ _) h1 (wr_0 h2) (wr_0 h3)
theorem q_dry (hk : k + 2 < N) (h : kP M k p) (ho : pgOk p) (hp : ∀ M1, ag M M1 k (k + 3) → kP M1 k (pgDay p) → P none M1) : Ev N (d + 2) mX3_dry none 0 [.ref k, .null] [] M P := by
  obtain ⟨f, g, h1, h2, h3⟩ := h
  have lp : ∀ (j c : Nat) (M1 : mM) (f1 g1 : Nat → Int32), c + j = 12 → ag M M1 k (k + 3) → kS M1 k f1 g1 p.2.2 → (∀ i, i < 12 → f1 i = nI (if i < c then (pgDay p).1 i else p.1 i)) → (∀ i, i < 12 → g1 i = tI (if i < c then (pgDay p).2.1 i else p.2.1 i)) → Ev N (d + 2) mX3_dry none 2 [.ref k, .int (nI c)] [] M1 P := by
    intro j
    induction j with
    | zero =>
      intro c M1 f1 g1 hc ha hs e1 e2
      obtain rfl : c = 12 := by omega
      obtain ⟨x0, x1, x2⟩ := id hs
      refine ev_iload_n (i := 1) dX3_dry_2 rfl rfl ?_
      refine ev_bipush (v := nI 12) dX3_dry_3 rfl ?_
      refine ev_icmp_geN 42 dX3_dry_5 (by decide) (by omega) (by omega) (fun b5 => ?_) (fun b5 => by exfalso; omega)
      refine ev_aload_n (i := 0) dX3_dry_42 rfl rfl ?_
      refine ev_dup dX3_dry_43 rfl ?_
      refine ev_getfield dX3_dry_44 fX3_35 (by first | omega | decide) (by first | assumption | (simp (disch := omega) only [mu_s, mu_n]; first | assumption | rfl)) (by rfl) ?_
      refine ev_iconst (v := nI 1) dX3_dry_47 rfl ?_
      refine ev_iadd dX3_dry_48 ?_
      refine ev_putI dX3_dry_49 fwX3_35 (by first | omega | decide) (by first | assumption | (simp (disch := omega) only [mu_s, mu_n]; first | assumption | rfl)) (Nat.le_of_ble_eq_true rfl) ?_
      refine ev_ret0 dX3_dry_52 rfl ?_
      exact hp _ (ag_mu ha (by omega) (by omega)) ⟨f1, g1, kS_0 hs _, wr_e e1, wr_e e2⟩
    | succ j ih =>
      intro c M1 f1 g1 hc ha hs e1 e2
      obtain ⟨x0, x1, x2⟩ := id hs
      have hc9 := (ho c (by omega)).1
      have hv : f1 c = nI (p.1 c) := by rw [e1 c (by omega), if_neg (by omega)]
      refine ev_iload_n (i := 1) dX3_dry_2 rfl rfl ?_
      refine ev_bipush (v := nI 12) dX3_dry_3 rfl ?_
      refine ev_icmp_geN 42 dX3_dry_5 (by decide) (by omega) (by omega) (fun b5 => by exfalso; omega) (fun b5 => ?_)
      refine ev_aload_n (i := 0) dX3_dry_8 rfl rfl ?_
      refine ev_getfield dX3_dry_9 fX3_9 (by first | omega | decide) (by first | assumption | (simp (disch := omega) only [mu_s, mu_n]; first | assumption | rfl)) (by rfl) ?_
      refine ev_iload_n (i := 1) dX3_dry_12 rfl rfl ?_
      refine ev_ialoadN dX3_dry_13 (by first | omega | decide) (by first | assumption | (simp (disch := omega) only [mu_s, mu_n]; first | assumption | rfl)) (by omega) (by decide) ?_
      refine ev_top (i_op hv) ?_
      refine ev_iconst (v := nI 1) dX3_dry_14 rfl ?_
      refine ev_icmp_leN 31 dX3_dry_15 (by decide) (by omega) (by omega) (fun b15 => ?_) (fun b15 => ?_)
      · skip
        refine ev_aload_n (i := 0) dX3_dry_31 rfl rfl ?_
        refine ev_iload_n (i := 1) dX3_dry_32 rfl rfl ?_
        refine ev_V1 (μ1 := mX3_clean) dX3_dry_33 sX3_21 okX3_clean (by first | omega | decide) (by first | assumption | (simp (disch := omega) only [mu_s, mu_n]; first | assumption | rfl)) (Nat.le_of_ble_eq_true rfl) (Nat.le_of_ble_eq_true rfl) ?_
        refine c_X3_clean hk hs (by omega) ?_
        refine ev_incN dX3_dry_36 (by rfl) (by decide) rfl ?_
        refine ev_goto 2 dX3_dry_39 (by decide) ?_
        first
        | exact ih _ _ _ _ (by omega) (ag_mu ha (by omega) (by omega)) (kS_1 hs _) (wr_s e1 rfl) (wr_k e2 (by unfold pgDay; simp only []; rw [if_neg (by omega)]))
        | exact ih _ _ _ _ (by omega) (ag_mu (ag_mu ha (by omega) (by omega)) (by omega) (by omega)) (kS_2 (kS_1 hs _) _) (wr_s e1 (congrArg nI (show 0 = p.1 c - 1 by omega))) (wr_s e2 (by unfold pgDay; simp only []; rw [if_pos (by omega)]; rfl))
      · skip
        refine ev_aload_n (i := 0) dX3_dry_18 rfl rfl ?_
        refine ev_getfield dX3_dry_19 fX3_9 (by first | omega | decide) (by first | assumption | (simp (disch := omega) only [mu_s, mu_n]; first | assumption | rfl)) (by rfl) ?_
        refine ev_iload_n (i := 1) dX3_dry_22 rfl rfl ?_
        refine ev_dup2 dX3_dry_23 rfl rfl ?_
        refine ev_ialoadN dX3_dry_24 (by first | omega | decide) (by first | assumption | (simp (disch := omega) only [mu_s, mu_n]; first | assumption | rfl)) (by omega) (by decide) ?_
        refine ev_top (i_op hv) ?_
        refine ev_iconst (v := nI 1) dX3_dry_25 rfl ?_
        refine ev_isubN dX3_dry_26 (by omega) ?_
        refine ev_iastoreN dX3_dry_27 (by first | omega | decide) (by first | assumption | (simp (disch := omega) only [mu_s, mu_n]; first | assumption | rfl)) (by omega) (by decide) ?_
        refine ev_goto 36 dX3_dry_28 (by decide) ?_
        refine ev_incN dX3_dry_36 (by rfl) (by decide) rfl ?_
        refine ev_goto 2 dX3_dry_39 (by decide) ?_
        first
        | exact ih _ _ _ _ (by omega) (ag_mu ha (by omega) (by omega)) (kS_1 hs _) (wr_s e1 rfl) (wr_k e2 (by unfold pgDay; simp only []; rw [if_neg (by omega)]))
        | exact ih _ _ _ _ (by omega) (ag_mu (ag_mu ha (by omega) (by omega)) (by omega) (by omega)) (kS_2 (kS_1 hs _) _) (wr_s e1 (congrArg nI (show 0 = p.1 c - 1 by omega))) (wr_s e2 (by unfold pgDay; simp only []; rw [if_pos (by omega)]; rfl))
  refine ev_iconst (v := nI 0) dX3_dry_0 rfl ?_
  refine ev_istore_n (i := 1) dX3_dry_1 rfl (by decide) rfl ?_
  exact lp 12 0 M f g rfl (ag_rf M _ _) h1 (wr_0 h2) (wr_0 h3)
theorem q_allInk (hk : k + 2 < N) (h : kP M k p) (hp : P (some (.int (nI (sN p.1 12)))) M) : Ev N d mX3_allInk none 0 [.ref k, .null, .null] [] M P := by
  obtain ⟨f, g, ⟨x0, x1, x2⟩, h2, h3⟩ := h
  have lp : ∀ (j c acc : Nat), c + j = 12 → acc = sN p.1 c → Ev N d mX3_allInk none 4 [.ref k, .int (nI acc), .int (nI c)] [] M P := by
    intro j
    induction j with
    | zero =>
      intro c acc hc ha
      obtain rfl : c = 12 := by omega
      subst ha
      refine ev_iload_n (i := 2) dX3_allInk_4 rfl rfl ?_
      refine ev_bipush (v := nI 12) dX3_allInk_5 rfl ?_
      refine ev_icmp_geN 25 dX3_allInk_7 (by decide) (by omega) (by omega) (fun b7 => ?_) (fun b7 => by exfalso; omega)
      refine ev_iload_n (i := 1) dX3_allInk_25 rfl rfl ?_
      refine ev_reti dX3_allInk_26 rfl rfl ?_
      exact hp
    | succ j ih =>
      intro c acc hc ha
      have hv := h2 c (by omega)
      refine ev_iload_n (i := 2) dX3_allInk_4 rfl rfl ?_
      refine ev_bipush (v := nI 12) dX3_allInk_5 rfl ?_
      refine ev_icmp_geN 25 dX3_allInk_7 (by decide) (by omega) (by omega) (fun b7 => by exfalso; omega) (fun b7 => ?_)
      refine ev_iload_n (i := 1) dX3_allInk_10 rfl rfl ?_
      refine ev_aload_n (i := 0) dX3_allInk_11 rfl rfl ?_
      refine ev_getfield dX3_allInk_12 fX3_9 (by first | omega | decide) (by first | assumption | (simp (disch := omega) only [mu_s, mu_n]; first | assumption | rfl)) (by rfl) ?_
      refine ev_iload_n (i := 2) dX3_allInk_15 rfl rfl ?_
      refine ev_ialoadN dX3_allInk_16 (by first | omega | decide) (by first | assumption | (simp (disch := omega) only [mu_s, mu_n]; first | assumption | rfl)) (by omega) (by decide) ?_
      refine ev_top (i_op hv) ?_
      refine ev_iaddN dX3_allInk_17 ?_
      refine ev_istore_n (i := 1) dX3_allInk_18 rfl (by decide) rfl ?_
      refine ev_incN dX3_allInk_19 (by rfl) (by decide) rfl ?_
      refine ev_goto 4 dX3_allInk_22 (by decide) ?_
      exact ih _ _ (by omega) (by rw [ha]; rfl)
  refine ev_iconst (v := nI 0) dX3_allInk_0 rfl ?_
  refine ev_istore_n (i := 1) dX3_allInk_1 rfl (by decide) rfl ?_
  refine ev_iconst (v := nI 0) dX3_allInk_2 rfl ?_
  refine ev_istore_n (i := 2) dX3_allInk_3 rfl (by decide) rfl ?_
  exact lp 12 0 0 rfl rfl
def topsN (p : pg) : Nat := oN (fun c => (p.2.1 c).isSome) (fun c => 2 ^ (p.2.1 c).getD 0) 12
theorem tI_9 {o : Option Nat} (h : ∀ l, o = some l → l < 6) : tI o = (-9) ↔ o = none := by
  cases o with
  | none => exact ⟨fun _ => rfl, fun _ => rfl⟩
  | some l =>
    refine ⟨fun z => ?_, fun z => by cases z⟩
    have h1 := h l rfl
    have h2 : (nI l).toInt = (-9 : Int32).toInt := congrArg Int32.toInt z
    rw [nI_toInt (by omega)] at h2
    exact absurd h2 (by rw [show (-9 : Int32).toInt = -9 from rfl]; omega)
theorem q_onTop (hk : k + 2 < N) (h : kP M k p) (ho : pgOk p) (hp : P (some (.int (nI (topsN p)))) M) : Ev N d mX3_onTop none 0 [.ref k, .null, .null] [] M P := by
  obtain ⟨f, g, ⟨x0, x1, x2⟩, h2, h3⟩ := h
  have lp : ∀ (j c acc : Nat), c + j = 12 → acc = oN (fun c => (p.2.1 c).isSome) (fun c => 2 ^ (p.2.1 c).getD 0) c → Ev N d mX3_onTop none 4 [.ref k, .int (nI acc), .int (nI c)] [] M P := by
    intro j
    induction j with
    | zero =>
      intro c acc hc ha
      obtain rfl : c = 12 := by omega
      subst ha
      refine ev_iload_n (i := 2) dX3_onTop_4 rfl rfl ?_
      refine ev_bipush (v := nI 12) dX3_onTop_5 rfl ?_
      refine ev_icmp_geN 38 dX3_onTop_7 (by decide) (by omega) (by omega) (fun b7 => ?_) (fun b7 => by exfalso; omega)
      refine ev_iload_n (i := 1) dX3_onTop_38 rfl rfl ?_
      refine ev_reti dX3_onTop_39 rfl rfl ?_
      exact hp
    | succ j ih =>
      intro c acc hc ha
      have hv := h3 c (by omega)
      have ht := (ho c (by omega)).2
      cases hq : p.2.1 c with
      | none =>
        have hv9 : g c = (-9) := by rw [hv, hq]; rfl
        refine ev_iload_n (i := 2) dX3_onTop_4 rfl rfl ?_
        refine ev_bipush (v := nI 12) dX3_onTop_5 rfl ?_
        refine ev_icmp_geN 38 dX3_onTop_7 (by decide) (by omega) (by omega) (fun b7 => by exfalso; omega) (fun b7 => ?_)
        refine ev_aload_n (i := 0) dX3_onTop_10 rfl rfl ?_
        refine ev_getfield dX3_onTop_11 fX3_15 (by first | omega | decide) (by first | assumption | (simp (disch := omega) only [mu_s, mu_n]; first | assumption | rfl)) (by rfl) ?_
        refine ev_iload_n (i := 2) dX3_onTop_14 rfl rfl ?_
        refine ev_ialoadN dX3_onTop_15 (by first | omega | decide) (by first | assumption | (simp (disch := omega) only [mu_s, mu_n]; first | assumption | rfl)) (by omega) (by decide) ?_
        refine ev_bipush (v := (-9)) dX3_onTop_16 rfl ?_
        refine ev_icmp_eq 32 dX3_onTop_18 (by decide) (fun b18 => ?_) (fun b18 => absurd hv9 b18)
        refine ev_incN dX3_onTop_32 (by rfl) (by decide) rfl ?_
        refine ev_goto 4 dX3_onTop_35 (by decide) ?_
        exact ih _ _ (by omega) (ha.trans (oN_f (by rw [hq]; decide)))
      | some l =>
        have hl6 := ht l hq
        have hv9 : g c = nI l := by rw [hv, hq]; rfl
        have hn9 : ¬ g c = (-9) := by rw [hv]; intro z; rw [(tI_9 ht).mp z] at hq; cases hq
        refine ev_iload_n (i := 2) dX3_onTop_4 rfl rfl ?_
        refine ev_bipush (v := nI 12) dX3_onTop_5 rfl ?_
        refine ev_icmp_geN 38 dX3_onTop_7 (by decide) (by omega) (by omega) (fun b7 => by exfalso; omega) (fun b7 => ?_)
        refine ev_aload_n (i := 0) dX3_onTop_10 rfl rfl ?_
        refine ev_getfield dX3_onTop_11 fX3_15 (by first | omega | decide) (by first | assumption | (simp (disch := omega) only [mu_s, mu_n]; first | assumption | rfl)) (by rfl) ?_
        refine ev_iload_n (i := 2) dX3_onTop_14 rfl rfl ?_
        refine ev_ialoadN dX3_onTop_15 (by first | omega | decide) (by first | assumption | (simp (disch := omega) only [mu_s, mu_n]; first | assumption | rfl)) (by omega) (by decide) ?_
        refine ev_bipush (v := (-9)) dX3_onTop_16 rfl ?_
        refine ev_icmp_eq 32 dX3_onTop_18 (by decide) (fun b18 => absurd b18 hn9) (fun b18 => ?_)
        refine ev_iload_n (i := 1) dX3_onTop_21 rfl rfl ?_
        refine ev_iconst (v := nI 1) dX3_onTop_22 rfl ?_
        refine ev_aload_n (i := 0) dX3_onTop_23 rfl rfl ?_
        refine ev_getfield dX3_onTop_24 fX3_15 (by first | omega | decide) (by first | assumption | (simp (disch := omega) only [mu_s, mu_n]; first | assumption | rfl)) (by rfl) ?_
        refine ev_iload_n (i := 2) dX3_onTop_27 rfl rfl ?_
        refine ev_ialoadN dX3_onTop_28 (by first | omega | decide) (by first | assumption | (simp (disch := omega) only [mu_s, mu_n]; first | assumption | rfl)) (by omega) (by decide) ?_
        refine ev_top (i_op hv9) ?_
        refine ev_ishl1 dX3_onTop_29 (by omega) ?_
        refine ev_iorN dX3_onTop_30 ?_
        refine ev_istore_n (i := 1) dX3_onTop_31 rfl (by decide) rfl ?_
        refine ev_incN dX3_onTop_32 (by rfl) (by decide) rfl ?_
        refine ev_goto 4 dX3_onTop_35 (by decide) ?_
        exact ih _ _ (by omega) (by rw [ha, ← oN_t (p := fun c => (p.2.1 c).isSome) (g := fun c => 2 ^ (p.2.1 c).getD 0) (n := c) (by rw [hq]; rfl), hq]; rfl)
  refine ev_iconst (v := nI 0) dX3_onTop_0 rfl ?_
  refine ev_istore_n (i := 1) dX3_onTop_1 rfl (by decide) rfl ?_
  refine ev_iconst (v := nI 0) dX3_onTop_2 rfl ?_
  refine ev_istore_n (i := 2) dX3_onTop_3 rfl (by decide) rfl ?_
  exact lp 12 0 0 rfl rfl
theorem q_copy {q : Nat} {f0 g0 : Nat → Int32} {d0 : Int32} (hk : k + 2 < N) (hq : q + 2 < N) (hkq : k + 3 ≤ q ∨ q + 3 ≤ k) (h : kP M k p) (h0 : kS M q f0 g0 d0) (hp : ∀ M1, ag M M1 q (q + 3) → kP M1 q p → P none M1) : Ev N d mX7_copy none 0 [.ref k, .ref q, .null] [] M P := by
  obtain ⟨f, g, h1, h2, h3⟩ := h
  have lp : ∀ (j c : Nat) (M1 : mM) (f1 g1 : Nat → Int32), c + j = 12 → ag M M1 q (q + 3) → kS M1 q f1 g1 d0 → (∀ i, i < 12 → f1 i = id (if i < c then f i else f0 i)) → (∀ i, i < 12 → g1 i = id (if i < c then g i else g0 i)) → Ev N d mX7_copy none 11 [.ref k, .ref q, .int (nI c)] [] M1 P := by
    intro j
    induction j with
    | zero =>
      intro c M1 f1 g1 hc ha hs e1 e2
      obtain rfl : c = 12 := by omega
      obtain ⟨x0, x1, x2⟩ := id hs
      obtain ⟨y0, y1, y2⟩ := kS_ag h1 ha (by omega)
      refine ev_iload_n (i := 2) dX7_copy_11 rfl rfl ?_
      refine ev_bipush (v := nI 12) dX7_copy_12 rfl ?_
      refine ev_icmp_geN 47 dX7_copy_14 (by decide) (by omega) (by omega) (fun b14 => ?_) (fun b14 => by exfalso; omega)
      refine ev_aload_n (i := 1) dX7_copy_47 rfl rfl ?_
      refine ev_aload_n (i := 0) dX7_copy_48 rfl rfl ?_
      refine ev_getfield dX7_copy_49 fX7_83 (by first | omega | decide) (by first | assumption | (simp (disch := omega) only [mu_s, mu_n]; first | assumption | rfl)) (by rfl) ?_
      refine ev_putI dX7_copy_52 fwX7_83 (by first | omega | decide) (by first | assumption | (simp (disch := omega) only [mu_s, mu_n]; first | assumption | rfl)) (Nat.le_of_ble_eq_true rfl) ?_
      refine ev_ret0 dX7_copy_55 rfl ?_
      exact hp _ (ag_mu ha (by omega) (by omega)) ⟨f1, g1, kS_0 hs _, fun i hi => (wr_e e1 i hi).trans (h2 i hi), fun i hi => (wr_e e2 i hi).trans (h3 i hi)⟩
    | succ j ih =>
      intro c M1 f1 g1 hc ha hs e1 e2
      obtain ⟨x0, x1, x2⟩ := id hs
      obtain ⟨y0, y1, y2⟩ := kS_ag h1 ha (by omega)
      refine ev_iload_n (i := 2) dX7_copy_11 rfl rfl ?_
      refine ev_bipush (v := nI 12) dX7_copy_12 rfl ?_
      refine ev_icmp_geN 47 dX7_copy_14 (by decide) (by omega) (by omega) (fun b14 => by exfalso; omega) (fun b14 => ?_)
      refine ev_aload_n (i := 1) dX7_copy_17 rfl rfl ?_
      refine ev_getfield dX7_copy_18 fX7_246 (by first | omega | decide) (by first | assumption | (simp (disch := omega) only [mu_s, mu_n]; first | assumption | rfl)) (by rfl) ?_
      refine ev_iload_n (i := 2) dX7_copy_21 rfl rfl ?_
      refine ev_aload_n (i := 0) dX7_copy_22 rfl rfl ?_
      refine ev_getfield dX7_copy_23 fX7_246 (by first | omega | decide) (by first | assumption | (simp (disch := omega) only [mu_s, mu_n]; first | assumption | rfl)) (by rfl) ?_
      refine ev_iload_n (i := 2) dX7_copy_26 rfl rfl ?_
      refine ev_ialoadN dX7_copy_27 (by first | omega | decide) (by first | assumption | (simp (disch := omega) only [mu_s, mu_n]; first | assumption | rfl)) (by omega) (by decide) ?_
      refine ev_iastoreN dX7_copy_28 (by first | omega | decide) (by first | assumption | (simp (disch := omega) only [mu_s, mu_n]; first | assumption | rfl)) (by omega) (by decide) ?_
      refine ev_aload_n (i := 1) dX7_copy_29 rfl rfl ?_
      refine ev_getfield dX7_copy_30 fX7_250 (by first | omega | decide) (by first | assumption | (simp (disch := omega) only [mu_s, mu_n]; first | assumption | rfl)) (by rfl) ?_
      refine ev_iload_n (i := 2) dX7_copy_33 rfl rfl ?_
      refine ev_aload_n (i := 0) dX7_copy_34 rfl rfl ?_
      refine ev_getfield dX7_copy_35 fX7_250 (by first | omega | decide) (by first | assumption | (simp (disch := omega) only [mu_s, mu_n]; first | assumption | rfl)) (by rfl) ?_
      refine ev_iload_n (i := 2) dX7_copy_38 rfl rfl ?_
      refine ev_ialoadN dX7_copy_39 (by first | omega | decide) (by first | assumption | (simp (disch := omega) only [mu_s, mu_n]; first | assumption | rfl)) (by omega) (by decide) ?_
      refine ev_iastoreN dX7_copy_40 (by first | omega | decide) (by first | assumption | (simp (disch := omega) only [mu_s, mu_n]; first | assumption | rfl)) (by omega) (by decide) ?_
      refine ev_incN dX7_copy_41 (by rfl) (by decide) rfl ?_
      refine ev_goto 11 dX7_copy_44 (by decide) ?_
      exact ih _ _ _ _ (by omega) (ag_mu (ag_mu ha (by omega) (by omega)) (by omega) (by omega)) (kS_2 (kS_1 hs _) _) (wr_s e1 rfl) (wr_s e2 rfl)
  refine ev_aload_n (i := 0) dX7_copy_0 rfl rfl ?_
  refine ev_ifnull dX7_copy_1 ?_
  refine ev_aload_n (i := 1) dX7_copy_4 rfl rfl ?_
  refine ev_ifnonnull 9 dX7_copy_5 (by decide) ?_
  refine ev_iconst (v := nI 0) dX7_copy_9 rfl ?_
  refine ev_istore_n (i := 2) dX7_copy_10 rfl (by decide) rfl ?_
  exact lp 12 0 M f0 g0 rfl (ag_rf M _ _) h0 (wr_0 (fun _ _ => rfl)) (wr_0 (fun _ _ => rfl))
end PAG
end
section
/-! ===== acts, slots, times ===== -/
def kAc (M : mM) (a : List pg) : Prop := ∃ (fi : Nat) (g : Nat → Option Nat), M 14 = .inr (0, [.ref 15, .int (nI fi), .int (nI a.length)]) ∧ M 15 = .inl (2, 14, .inr g) ∧ (∀ i, i < 14 → g i = some (16 + 3 * i)) ∧ fi < 14 ∧ a.length ≤ 14 ∧ (∀ i p, a[i]? = some p → kP M (16 + 3 * ((fi + i) % 14)) p) ∧ ∀ i, i < 14 → ∃ f h dy, kS M (16 + 3 * i) f h dy
def actsAdd (a : List pg) (p : pg) : List pg := if a.length < 14 then a ++ [p] else a.drop 1 ++ [p]
theorem kAc_ag {M M1 : mM} {a b : Nat} {x : List pg} (h : kAc M x) (hg : ag M M1 a b) (hx : b ≤ 14 ∨ 58 ≤ a) : kAc M1 x := by
  obtain ⟨fi, g, h1, h2, h3, h4, h5, h6, h7⟩ := h
  refine ⟨fi, g, (hg _ (by omega)).trans h1, (hg _ (by omega)).trans h2, h3, h4, h5, fun i p hi => kP_ag (h6 i p hi) hg (by omega), fun i hi => ?_⟩
  obtain ⟨f, h, dy, q⟩ := h7 i hi
  exact ⟨f, h, dy, kS_ag q hg (by omega)⟩
theorem kP_kS {M : mM} {k : Nat} {p : pg} (h : kP M k p) : ∃ f g dy, kS M k f g dy := by
  obtain ⟨f, g, h1, -⟩ := h
  exact ⟨f, g, _, h1⟩
theorem e_ret1 {M : mM} {P : Option Value → mM → Prop} (hp : P (some (.int (bI true))) M) : P (some (.int (nI 1))) M := hp
theorem e_ret0 {M : mM} {P : Option Value → mM → Prop} (hp : P (some (.int (bI false))) M) : P (some (.int (nI 0))) M := hp
section ACT
variable {d : Nat} {M : mM} {P : Option Value → mM → Prop}
theorem q_aForget {a : List pg} (hA : kAc M a) (hp : ∀ M1, ag M M1 14 15 → kAc M1 [] → P none M1) : Ev 88 d mX0_forget none 0 [.ref 14] [] M P := by
  obtain ⟨fi, g, h1, h2, h3, h4, h5, h6, h7⟩ := hA
  refine ev_aload_n (i := 0) dX0_forget_0 rfl rfl ?_
  refine ev_iconst (v := nI 0) dX0_forget_1 rfl ?_
  refine ev_putI dX0_forget_2 fwX0_18 (by first | omega | decide) (by first | assumption | (simp (disch := omega) only [mu_s, mu_n]; first | assumption | rfl)) (Nat.le_of_ble_eq_true rfl) ?_
  refine ev_aload_n (i := 0) dX0_forget_5 rfl rfl ?_
  refine ev_iconst (v := nI 0) dX0_forget_6 rfl ?_
  refine ev_putI dX0_forget_7 fwX0_22 (by first | omega | decide) (by first | assumption | (simp (disch := omega) only [mu_s, mu_n]; first | assumption | rfl)) (Nat.le_of_ble_eq_true rfl) ?_
  refine ev_ret0 dX0_forget_10 rfl ?_
  refine hp _ (ag_mu (ag_mu (ag_rf M _ _) (by omega) (by omega)) (by omega) (by omega)) ⟨0, g, mu_s _ _ _, (mu_n (by omega)).trans ((mu_n (by omega)).trans h2), h3, by omega, by simp, fun i p hi => by simp at hi, fun i hi => ?_⟩
  obtain ⟨f, h, dy, q⟩ := h7 i hi
  exact ⟨f, h, dy, kS_ag q (ag_mu (ag_mu (ag_rf M 14 15) (by omega) (by omega)) (by omega) (by omega)) (by omega)⟩
theorem c_sheetAt {fi n i : Nat} {g : Nat → Option Nat} (h1 : M 14 = .inr (0, [.ref 15, .int (nI fi), .int (nI n)])) (h2 : M 15 = .inl (2, 14, .inr g)) (h3 : ∀ i, i < 14 → g i = some (16 + 3 * i)) (h4 : fi < 14) (hi : i ≤ 14) (hp : P (some (.ref (16 + 3 * ((fi + i) % 14)))) M) : Ev 88 d mX0_sheetAt none 0 [.ref 14, .int (nI i), .null] [] M P := by
  have h14 : (fi + i) % 14 < 14 := Nat.mod_lt _ (by decide)
  refine ev_aload_n (i := 0) dX0_sheetAt_0 rfl rfl ?_
  refine ev_getfield dX0_sheetAt_1 fX0_18 (by first | omega | decide) (by first | assumption | (simp (disch := omega) only [mu_s, mu_n]; first | assumption | rfl)) (by rfl) ?_
  refine ev_iload_n (i := 1) dX0_sheetAt_4 rfl rfl ?_
  refine ev_iaddN dX0_sheetAt_5 ?_
  refine ev_bipush (v := nI 14) dX0_sheetAt_6 rfl ?_
  refine ev_iremN dX0_sheetAt_8 (by omega) (by omega) (by omega) ?_
  refine ev_istore_n (i := 2) dX0_sheetAt_9 rfl (by decide) rfl ?_
  refine ev_iload_n (i := 2) dX0_sheetAt_10 rfl rfl ?_
  refine ev_if_ltN 29 dX0_sheetAt_11 (by decide) (by omega) (fun b11 => by exfalso; omega) (fun b11 => ?_)
  refine ev_iload_n (i := 2) dX0_sheetAt_14 rfl rfl ?_
  refine ev_bipush (v := nI 14) dX0_sheetAt_15 rfl ?_
  refine ev_icmp_geN 29 dX0_sheetAt_17 (by decide) (by omega) (by omega) (fun b17 => by exfalso; omega) (fun b17 => ?_)
  refine ev_aload_n (i := 0) dX0_sheetAt_20 rfl rfl ?_
  refine ev_getfield dX0_sheetAt_21 fX0_11 (by first | omega | decide) (by first | assumption | (simp (disch := omega) only [mu_s, mu_n]; first | assumption | rfl)) (by rfl) ?_
  refine ev_iload_n (i := 2) dX0_sheetAt_24 rfl rfl ?_
  refine ev_aaload (r := 16 + 3 * ((fi + i) % 14)) dX0_sheetAt_25 (by first | omega | decide) (by first | assumption | (simp (disch := omega) only [mu_s, mu_n]; first | assumption | rfl)) (vp_in_nI (by omega) (by decide)) (by rw [n_cl (by omega)]; exact h3 _ h14) ?_
  refine ev_goto 30 dX0_sheetAt_26 (by decide) ?_
  refine ev_reta dX0_sheetAt_30 rfl ?_
  exact hp
theorem q_remember {a : List pg} {p : pg} (hA : kAc M a) (hs : kP M 8 p) (hp : ∀ M1, ag M M1 14 58 → kAc M1 (actsAdd a p) → P none M1) : Ev 88 (d + 1) mX0_remember none 0 [.ref 14, .ref 8] [] M P := by
  obtain ⟨fi, g, h1, h2, h3, h4, h5, h6, h7⟩ := hA
  obtain ⟨f0, g0, d0, hs0⟩ := h7 ((fi + a.length) % 14) (Nat.mod_lt _ (by decide))
  have h14 : (fi + a.length) % 14 < 14 := Nat.mod_lt _ (by decide)
  have key : ∀ M1, ag M M1 (16 + 3 * ((fi + a.length) % 14)) (16 + 3 * ((fi + a.length) % 14) + 3) → kP M1 (16 + 3 * ((fi + a.length) % 14)) p → ∀ i, i < 14 → ∃ f h dy, kS M1 (16 + 3 * i) f h dy := fun M1 ha hk i hi => by
    by_cases e : i = (fi + a.length) % 14
    · rw [e]; exact kP_kS hk
    · obtain ⟨f, h, dy, q⟩ := h7 i hi
      exact ⟨f, h, dy, kS_ag q ha (by omega)⟩
  refine ev_aload_n (i := 1) dX0_remember_0 rfl rfl ?_
  refine ev_aload_n (i := 0) dX0_remember_1 rfl rfl ?_
  refine ev_aload_n (i := 0) dX0_remember_2 rfl rfl ?_
  refine ev_getfield dX0_remember_3 fX0_22 (by first | omega | decide) (by first | assumption | (simp (disch := omega) only [mu_s, mu_n]; first | assumption | rfl)) (by rfl) ?_
  refine ev_V1 (μ1 := mX0_sheetAt) dX0_remember_6 sX0_25 okX0_sheetAt (by first | omega | decide) (by first | assumption | (simp (disch := omega) only [mu_s, mu_n]; first | assumption | rfl)) (Nat.le_of_ble_eq_true rfl) (Nat.le_of_ble_eq_true rfl) ?_
  refine c_sheetAt h1 h2 h3 h4 h5 ?_
  refine ev_S2 (μ1 := mX7_copy) dX0_remember_9 sX0_29 okX7_copy (Nat.le_of_ble_eq_true rfl) (Nat.le_of_ble_eq_true rfl) ?_
  refine q_copy (by omega) (by omega) (by omega) hs hs0 (fun M1 ha hk1 => ?_)
  have x1 : M1 14 = .inr (0, [.ref 15, .int (nI fi), .int (nI a.length)]) := (ha _ (by omega)).trans h1
  have x2 : M1 15 = .inl (2, 14, .inr g) := (ha _ (by omega)).trans h2
  refine ev_aload_n (i := 0) dX0_remember_12 rfl rfl ?_
  refine ev_getfield dX0_remember_13 fX0_22 (by first | omega | decide) (by first | assumption | (simp (disch := omega) only [mu_s, mu_n]; first | assumption | rfl)) (by rfl) ?_
  refine ev_bipush (v := nI 14) dX0_remember_16 rfl ?_
  refine ev_icmp_geN 34 dX0_remember_18 (by decide) (by omega) (by omega) (fun b18 => ?_) (fun b18 => ?_)
  · skip
    refine ev_aload_n (i := 0) dX0_remember_34 rfl rfl ?_
    refine ev_aload_n (i := 0) dX0_remember_35 rfl rfl ?_
    refine ev_getfield dX0_remember_36 fX0_18 (by first | omega | decide) (by first | assumption | (simp (disch := omega) only [mu_s, mu_n]; first | assumption | rfl)) (by rfl) ?_
    refine ev_iconst (v := nI 1) dX0_remember_39 rfl ?_
    refine ev_iaddN dX0_remember_40 ?_
    refine ev_bipush (v := nI 14) dX0_remember_41 rfl ?_
    refine ev_iremN dX0_remember_43 (by omega) (by omega) (by omega) ?_
    refine ev_putI dX0_remember_44 fwX0_18 (by first | omega | decide) (by first | assumption | (simp (disch := omega) only [mu_s, mu_n]; first | assumption | rfl)) (Nat.le_of_ble_eq_true rfl) ?_
    refine ev_ret0 dX0_remember_47 rfl ?_
    first
    | (have hl : a.length < 14 := b18
       refine hp _ (ag_mu (ag_wd ha) (by omega) (by omega)) ⟨fi, g, ?_, (mu_n (by omega)).trans x2, h3, h4, ?_, fun i p1 hi => ?_, fun i hi => ?_⟩
       · rw [actsAdd, if_pos hl, List.length_append]; exact mu_s _ _ _
       · rw [actsAdd, if_pos hl, List.length_append]; simp only [List.length_cons, List.length_nil]; omega
       · rw [actsAdd, if_pos hl] at hi
         by_cases e : i < a.length
         · rw [List.getElem?_append_left e] at hi
           have e2 : (fi + i) % 14 ≠ (fi + a.length) % 14 := by omega
           have e3 : (fi + i) % 14 < 14 := Nat.mod_lt _ (by decide)
           exact kP_ag (kP_ag (h6 i p1 hi) ha (by omega)) (ag_mu (ag_rf M1 14 15) (by omega) (by omega)) (by omega)
         · rw [List.getElem?_append_right (by omega)] at hi
           have e2 : i = a.length := by
             have e4 := (List.getElem?_eq_some_iff.mp hi).1
             simp only [List.length_cons, List.length_nil] at e4
             omega
           subst e2
           rw [Nat.sub_self] at hi
           cases hi
           exact kP_ag hk1 (ag_mu (ag_rf M1 14 15) (by omega) (by omega)) (by omega)
       · obtain ⟨f, h, dy, q⟩ := key M1 ha hk1 i hi
         exact ⟨f, h, dy, kS_ag q (ag_mu (ag_rf M1 14 15) (by omega) (by omega)) (by omega)⟩)
    | (have hl : ¬ a.length < 14 := by omega
       have hl2 : a.length = 14 := by omega
       refine hp _ (ag_mu (ag_wd ha) (by omega) (by omega)) ⟨(fi + 1) % 14, g, ?_, (mu_n (by omega)).trans x2, h3, Nat.mod_lt _ (by decide), ?_, fun i p1 hi => ?_, fun i hi => ?_⟩
       · have hL : (actsAdd a p).length = a.length := by rw [actsAdd, if_neg hl, List.length_append, List.length_drop]; simp only [List.length_cons, List.length_nil]; omega
         rw [hL]; exact mu_s _ _ _
       · rw [actsAdd, if_neg hl, List.length_append, List.length_drop]; simp only [List.length_cons, List.length_nil]; omega
       · rw [actsAdd, if_neg hl] at hi
         have e9 : (a.drop 1).length = 13 := by rw [List.length_drop]; omega
         by_cases e : i < 13
         · rw [List.getElem?_append_left (by omega), List.getElem?_drop] at hi
           have e2 : ((fi + 1) % 14 + i) % 14 = (fi + (1 + i)) % 14 := by omega
           have e3 : (fi + (1 + i)) % 14 < 14 := Nat.mod_lt _ (by decide)
           have e4 : (fi + (1 + i)) % 14 ≠ (fi + a.length) % 14 := by omega
           rw [e2]
           exact kP_ag (kP_ag (h6 _ p1 hi) ha (by omega)) (ag_mu (ag_rf M1 14 15) (by omega) (by omega)) (by omega)
         · rw [List.getElem?_append_right (by omega), e9] at hi
           have e2 : i = 13 := by
             have e4 := (List.getElem?_eq_some_iff.mp hi).1
             simp only [List.length_cons, List.length_nil] at e4
             omega
           subst e2
           rw [Nat.sub_self] at hi
           cases hi
           have e5 : ((fi + 1) % 14 + 13) % 14 = (fi + a.length) % 14 := by omega
           rw [e5]
           exact kP_ag hk1 (ag_mu (ag_rf M1 14 15) (by omega) (by omega)) (by omega)
       · obtain ⟨f, h, dy, q⟩ := key M1 ha hk1 i hi
         exact ⟨f, h, dy, kS_ag q (ag_mu (ag_rf M1 14 15) (by omega) (by omega)) (by omega)⟩)
  · skip
    refine ev_aload_n (i := 0) dX0_remember_21 rfl rfl ?_
    refine ev_dup dX0_remember_22 rfl ?_
    refine ev_getfield dX0_remember_23 fX0_22 (by first | omega | decide) (by first | assumption | (simp (disch := omega) only [mu_s, mu_n]; first | assumption | rfl)) (by rfl) ?_
    refine ev_iconst (v := nI 1) dX0_remember_26 rfl ?_
    refine ev_iaddN dX0_remember_27 ?_
    refine ev_putI dX0_remember_28 fwX0_22 (by first | omega | decide) (by first | assumption | (simp (disch := omega) only [mu_s, mu_n]; first | assumption | rfl)) (Nat.le_of_ble_eq_true rfl) ?_
    refine ev_goto 47 dX0_remember_31 (by decide) ?_
    refine ev_ret0 dX0_remember_47 rfl ?_
    first
    | (have hl : a.length < 14 := b18
       refine hp _ (ag_mu (ag_wd ha) (by omega) (by omega)) ⟨fi, g, ?_, (mu_n (by omega)).trans x2, h3, h4, ?_, fun i p1 hi => ?_, fun i hi => ?_⟩
       · rw [actsAdd, if_pos hl, List.length_append]; exact mu_s _ _ _
       · rw [actsAdd, if_pos hl, List.length_append]; simp only [List.length_cons, List.length_nil]; omega
       · rw [actsAdd, if_pos hl] at hi
         by_cases e : i < a.length
         · rw [List.getElem?_append_left e] at hi
           have e2 : (fi + i) % 14 ≠ (fi + a.length) % 14 := by omega
           have e3 : (fi + i) % 14 < 14 := Nat.mod_lt _ (by decide)
           exact kP_ag (kP_ag (h6 i p1 hi) ha (by omega)) (ag_mu (ag_rf M1 14 15) (by omega) (by omega)) (by omega)
         · rw [List.getElem?_append_right (by omega)] at hi
           have e2 : i = a.length := by
             have e4 := (List.getElem?_eq_some_iff.mp hi).1
             simp only [List.length_cons, List.length_nil] at e4
             omega
           subst e2
           rw [Nat.sub_self] at hi
           cases hi
           exact kP_ag hk1 (ag_mu (ag_rf M1 14 15) (by omega) (by omega)) (by omega)
       · obtain ⟨f, h, dy, q⟩ := key M1 ha hk1 i hi
         exact ⟨f, h, dy, kS_ag q (ag_mu (ag_rf M1 14 15) (by omega) (by omega)) (by omega)⟩)
    | (have hl : ¬ a.length < 14 := by omega
       have hl2 : a.length = 14 := by omega
       refine hp _ (ag_mu (ag_wd ha) (by omega) (by omega)) ⟨(fi + 1) % 14, g, ?_, (mu_n (by omega)).trans x2, h3, Nat.mod_lt _ (by decide), ?_, fun i p1 hi => ?_, fun i hi => ?_⟩
       · have hL : (actsAdd a p).length = a.length := by rw [actsAdd, if_neg hl, List.length_append, List.length_drop]; simp only [List.length_cons, List.length_nil]; omega
         rw [hL]; exact mu_s _ _ _
       · rw [actsAdd, if_neg hl, List.length_append, List.length_drop]; simp only [List.length_cons, List.length_nil]; omega
       · rw [actsAdd, if_neg hl] at hi
         have e9 : (a.drop 1).length = 13 := by rw [List.length_drop]; omega
         by_cases e : i < 13
         · rw [List.getElem?_append_left (by omega), List.getElem?_drop] at hi
           have e2 : ((fi + 1) % 14 + i) % 14 = (fi + (1 + i)) % 14 := by omega
           have e3 : (fi + (1 + i)) % 14 < 14 := Nat.mod_lt _ (by decide)
           have e4 : (fi + (1 + i)) % 14 ≠ (fi + a.length) % 14 := by omega
           rw [e2]
           exact kP_ag (kP_ag (h6 _ p1 hi) ha (by omega)) (ag_mu (ag_rf M1 14 15) (by omega) (by omega)) (by omega)
         · rw [List.getElem?_append_right (by omega), e9] at hi
           have e2 : i = 13 := by
             have e4 := (List.getElem?_eq_some_iff.mp hi).1
             simp only [List.length_cons, List.length_nil] at e4
             omega
           subst e2
           rw [Nat.sub_self] at hi
           cases hi
           have e5 : ((fi + 1) % 14 + 13) % 14 = (fi + a.length) % 14 := by omega
           rw [e5]
           exact kP_ag hk1 (ag_mu (ag_rf M1 14 15) (by omega) (by omega)) (by omega)
       · obtain ⟨f, h, dy, q⟩ := key M1 ha hk1 i hi
         exact ⟨f, h, dy, kS_ag q (ag_mu (ag_rf M1 14 15) (by omega) (by omega)) (by omega)⟩)
theorem q_takeBack0 (hA : kAc M []) (hp : P (some (.int (bI false))) M) : Ev 88 (d + 1) mX0_takeBack none 0 [.ref 14, .ref 8] [] M P := by
  obtain ⟨fi, g, h1, -⟩ := hA
  refine ev_aload_n (i := 0) dX0_takeBack_0 rfl rfl ?_
  refine ev_getfield dX0_takeBack_1 fX0_22 (by first | omega | decide) (by first | assumption | (simp (disch := omega) only [mu_s, mu_n]; first | assumption | rfl)) (by rfl) ?_
  refine ev_if_gtN 9 dX0_takeBack_4 (by decide) (by decide) (fun b4 => by exact absurd b4 (by decide)) (fun b4 => ?_)
  refine ev_iconst (v := nI 0) dX0_takeBack_7 rfl ?_
  refine ev_reti dX0_takeBack_8 rfl rfl ?_
  exact e_retF (rfl) hp
theorem q_takeBack1 {a : List pg} {p : pg} {f0 g0 : Nat → Int32} {d0 : Int32} (hA : kAc M (a ++ [p])) (hs : kS M 8 f0 g0 d0) (hp : ∀ M1 M2, ag M M1 14 58 → ag M1 M2 8 11 → kP M2 8 p → kAc M2 a → P (some (.int (bI true))) M2) : Ev 88 (d + 1) mX0_takeBack none 0 [.ref 14, .ref 8] [] M P := by
  obtain ⟨fi, g, h1, h2, h3, h4, h5, h6, h7⟩ := hA
  rw [List.length_append] at h1 h5
  simp only [List.length_cons, List.length_nil] at h1 h5
  have hpl := h6 a.length p (by simp)
  have h14 : (fi + a.length) % 14 < 14 := Nat.mod_lt _ (by decide)
  refine ev_aload_n (i := 0) dX0_takeBack_0 rfl rfl ?_
  refine ev_getfield dX0_takeBack_1 fX0_22 (by first | omega | decide) (by first | assumption | (simp (disch := omega) only [mu_s, mu_n]; first | assumption | rfl)) (by rfl) ?_
  refine ev_if_gtN 9 dX0_takeBack_4 (by decide) (by omega) (fun b4 => ?_) (fun b4 => by exfalso; omega)
  refine ev_aload_n (i := 0) dX0_takeBack_9 rfl rfl ?_
  refine ev_dup dX0_takeBack_10 rfl ?_
  refine ev_getfield dX0_takeBack_11 fX0_22 (by first | omega | decide) (by first | assumption | (simp (disch := omega) only [mu_s, mu_n]; first | assumption | rfl)) (by rfl) ?_
  refine ev_iconst (v := nI 1) dX0_takeBack_14 rfl ?_
  refine ev_isubN dX0_takeBack_15 (by omega) ?_
  refine ev_putI dX0_takeBack_16 fwX0_22 (by first | omega | decide) (by assumption) (Nat.le_of_ble_eq_true rfl) ?_
  refine ev_aload_n (i := 0) dX0_takeBack_19 rfl rfl ?_
  refine ev_aload_n (i := 0) dX0_takeBack_20 rfl rfl ?_
  refine ev_getfield dX0_takeBack_21 fX0_22 (by first | omega | decide) (by first | assumption | (simp (disch := omega) only [mu_s, mu_n]; first | assumption | rfl)) (by rfl) ?_
  refine ev_V1 (μ1 := mX0_sheetAt) dX0_takeBack_24 sX0_25 okX0_sheetAt (by first | omega | decide) (by first | assumption | (simp (disch := omega) only [mu_s, mu_n]; first | assumption | rfl)) (Nat.le_of_ble_eq_true rfl) (Nat.le_of_ble_eq_true rfl) ?_
  refine c_sheetAt (n := a.length) (fi := fi) (g := g) ((mu_s _ _ _).trans (by simp)) ((mu_n (by omega)).trans h2) h3 h4 (by omega) ?_
  refine ev_aload_n (i := 1) dX0_takeBack_27 rfl rfl ?_
  refine ev_S2 (μ1 := mX7_copy) dX0_takeBack_28 sX0_29 okX7_copy (Nat.le_of_ble_eq_true rfl) (Nat.le_of_ble_eq_true rfl) ?_
  refine q_copy (by omega) (by omega) (by omega) (kP_ag hpl (ag_mu (ag_rf M 14 15) (by omega) (by omega)) (by omega)) (kS_ag hs (ag_mu (ag_rf M 14 15) (by omega) (by omega)) (by omega)) (fun M1 ha hk1 => ?_)
  refine ev_iconst (v := nI 1) dX0_takeBack_31 rfl ?_
  refine ev_reti dX0_takeBack_32 rfl (rfl) ?_
  refine hp _ M1 (ag_wd (ag_mu (ag_rf M 14 15) (by omega) (by omega))) (ag_wd ha) hk1 ⟨fi, g, (ha _ (by omega)).trans ((mu_s _ _ _).trans (by simp)), (ha _ (by omega)).trans ((mu_n (by omega)).trans h2), h3, h4, by omega, fun i p1 hi => ?_, fun i hi => ?_⟩
  · have e4 := (List.getElem?_eq_some_iff.mp hi).1
    have hi2 : (a ++ [p])[i]? = some p1 := by rw [List.getElem?_append_left e4]; exact hi
    exact kP_ag (kP_ag (h6 i p1 hi2) (ag_mu (ag_rf M 14 15) (by omega) (by omega)) (by omega)) ha (by omega)
  · obtain ⟨f, h, dy, q⟩ := h7 i hi
    exact ⟨f, h, dy, kS_ag (kS_ag q (ag_mu (ag_rf M 14 15) (by omega) (by omega)) (by omega)) ha (by omega)⟩
end ACT
/-! slots -/
def kSl (M : mM) (s : Nat → Option pg) : Prop := ∃ (fl : Nat) (g : Nat → Option Nat), M 62 = .inr (4, [.ref 63, .int (nI fl)]) ∧ M 63 = .inl (2, 2, .inr g) ∧ (∀ i, i < 2 → g i = some (64 + 3 * i)) ∧ fl < 4 ∧ (∀ i, i < 2 → fl.testBit i = (s i).isSome) ∧ (∀ i, i < 2 → ∀ p, s i = some p → kP M (64 + 3 * i) p) ∧ ∀ i, i < 2 → ∃ f h dy, kS M (64 + 3 * i) f h dy
theorem kSl_ag {M M1 : mM} {a b : Nat} {x : Nat → Option pg} (h : kSl M x) (hg : ag M M1 a b) (hx : b ≤ 62 ∨ 70 ≤ a) : kSl M1 x := by
  obtain ⟨fi, g, h1, h2, h3, h4, h5, h6, h7⟩ := h
  refine ⟨fi, g, (hg _ (by omega)).trans h1, (hg _ (by omega)).trans h2, h3, h4, h5, fun i hi p hp => kP_ag (h6 i hi p hp) hg (by omega), fun i hi => ?_⟩
  obtain ⟨f, h, dy, q⟩ := h7 i hi
  exact ⟨f, h, dy, kS_ag q hg (by omega)⟩
section SLO
variable {d : Nat} {M : mM} {P : Option Value → mM → Prop} {s : Nat → Option pg}
theorem q_sForget (hA : kSl M s) (hp : ∀ M1, ag M M1 62 63 → kSl M1 (fun _ => none) → P none M1) : Ev 88 d mX4_forget none 0 [.ref 62] [] M P := by
  obtain ⟨fi, g, h1, h2, h3, h4, h5, h6, h7⟩ := hA
  refine ev_aload_n (i := 0) dX4_forget_0 rfl rfl ?_
  refine ev_iconst (v := nI 0) dX4_forget_1 rfl ?_
  refine ev_putI dX4_forget_2 fwX4_18 (by first | omega | decide) (by first | assumption | (simp (disch := omega) only [mu_s, mu_n]; first | assumption | rfl)) (Nat.le_of_ble_eq_true rfl) ?_
  refine ev_ret0 dX4_forget_5 rfl ?_
  refine hp _ (ag_mu (ag_rf M _ _) (by omega) (by omega)) ⟨0, g, mu_s _ _ _, (mu_n (by omega)).trans h2, h3, by omega, fun i hi => by simp, fun i hi p z => (by cases z), fun i hi => ?_⟩
  obtain ⟨f, h, dy, q⟩ := h7 i hi
  exact ⟨f, h, dy, kS_ag q (ag_mu (ag_rf M 62 63) (by omega) (by omega)) (by omega)⟩
theorem q_store {i : Nat} {p : pg} (hA : kSl M s) (hi : i < 2) (hs : kP M 8 p) (hp : ∀ M1, ag M M1 62 70 → kSl M1 (fun j => if j = i then some p else s j) → P none M1) : Ev 88 (d + 1) mX4_store none 0 [.ref 62, .int (nI i), .ref 8] [] M P := by
  obtain ⟨fl, g, h1, h2, h3, h4, h5, h6, h7⟩ := hA
  obtain ⟨f0, g0, d0, hs0⟩ := h7 i hi
  have hb : 2 ^ i < 4 := by
    have : 2 ^ i ≤ 2 ^ 1 := pw_le (by omega)
    omega
  refine ev_iload_n (i := 1) dX4_store_0 rfl rfl ?_
  refine ev_if_ltN 31 dX4_store_1 (by decide) (by omega) (fun b1 => by exfalso; omega) (fun b1 => ?_)
  refine ev_iload_n (i := 1) dX4_store_4 rfl rfl ?_
  refine ev_iconst (v := nI 2) dX4_store_5 rfl ?_
  refine ev_icmp_geN 31 dX4_store_6 (by decide) (by omega) (by omega) (fun b6 => by exfalso; omega) (fun b6 => ?_)
  refine ev_aload_n (i := 2) dX4_store_9 rfl rfl ?_
  refine ev_aload_n (i := 0) dX4_store_10 rfl rfl ?_
  refine ev_getfield dX4_store_11 fX4_11 (by first | omega | decide) (by first | assumption | (simp (disch := omega) only [mu_s, mu_n]; first | assumption | rfl)) (by rfl) ?_
  refine ev_iload_n (i := 1) dX4_store_14 rfl rfl ?_
  refine ev_aaload (r := 64 + 3 * i) dX4_store_15 (by first | omega | decide) (by first | assumption | (simp (disch := omega) only [mu_s, mu_n]; first | assumption | rfl)) (vp_in_nI (by omega) (by decide)) (by rw [n_cl (by omega)]; exact h3 _ hi) ?_
  refine ev_S2 (μ1 := mX7_copy) dX4_store_16 sX4_22 okX7_copy (Nat.le_of_ble_eq_true rfl) (Nat.le_of_ble_eq_true rfl) ?_
  refine q_copy (by omega) (by omega) (by omega) hs hs0 (fun M1 ha hk1 => ?_)
  have x1 : M1 62 = .inr (4, [.ref 63, .int (nI fl)]) := (ha _ (by omega)).trans h1
  refine ev_aload_n (i := 0) dX4_store_19 rfl rfl ?_
  refine ev_dup dX4_store_20 rfl ?_
  refine ev_getfield dX4_store_21 fX4_18 (by first | omega | decide) (by first | assumption | (simp (disch := omega) only [mu_s, mu_n]; first | assumption | rfl)) (by rfl) ?_
  refine ev_iconst (v := nI 1) dX4_store_24 rfl ?_
  refine ev_iload_n (i := 1) dX4_store_25 rfl rfl ?_
  refine ev_ishl1 dX4_store_26 (by omega) ?_
  refine ev_iorN dX4_store_27 ?_
  refine ev_putI dX4_store_28 fwX4_18 (by first | omega | decide) (by first | assumption | (simp (disch := omega) only [mu_s, mu_n]; first | assumption | rfl)) (Nat.le_of_ble_eq_true rfl) ?_
  refine ev_ret0 dX4_store_31 rfl ?_
  refine hp _ (ag_mu (ag_wd ha) (by omega) (by omega)) ⟨fl ||| 2 ^ i, g, mu_s _ _ _, (mu_n (by omega)).trans ((ha _ (by omega)).trans h2), h3, ?_, fun j hj => ?_, fun j hj p1 z => ?_, fun j hj => ?_⟩
  · exact Nat.or_lt_two_pow (n := 2) h4 hb
  · rw [Nat.testBit_or, h5 j hj, Nat.testBit_two_pow]
    by_cases e : j = i
    · subst e; simp
    · simp [e, Ne.symm e]
  · have z : (if j = i then some p else s j) = some p1 := z
    by_cases e : j = i
    · subst e
      rw [if_pos rfl] at z
      cases z
      exact kP_ag hk1 (ag_mu (ag_rf M1 62 63) (by omega) (by omega)) (by omega)
    · rw [if_neg e] at z
      exact kP_ag (kP_ag (h6 j hj p1 z) ha (by omega)) (ag_mu (ag_rf M1 62 63) (by omega) (by omega)) (by omega)
  · by_cases e : j = i
    · subst e
      obtain ⟨f, h, dy, q⟩ := kP_kS hk1
      exact ⟨f, h, dy, kS_ag q (ag_mu (ag_rf M1 62 63) (by omega) (by omega)) (by omega)⟩
    · obtain ⟨f, h, dy, q⟩ := h7 j hj
      exact ⟨f, h, dy, kS_ag (kS_ag q ha (by omega)) (ag_mu (ag_rf M1 62 63) (by omega) (by omega)) (by omega)⟩
theorem q_load0 {i : Nat} (hA : kSl M s) (hi : i < 2) (hs : s i = none) (hp : P (some (.int (bI false))) M) : Ev 88 (d + 1) mX4_load none 0 [.ref 62, .int (nI i), .ref 8] [] M P := by
  obtain ⟨fl, g, h1, h2, h3, h4, h5, h6, h7⟩ := hA
  have hb : ¬ fl / 2 ^ i % 2 = 1 := by rw [tb_d, h5 i hi, hs]; decide
  refine ev_iload_n (i := 1) dX4_load_0 rfl rfl ?_
  refine ev_if_ltN 20 dX4_load_1 (by decide) (by omega) (fun b1 => by exfalso; omega) (fun b1 => ?_)
  refine ev_iload_n (i := 1) dX4_load_4 rfl rfl ?_
  refine ev_iconst (v := nI 2) dX4_load_5 rfl ?_
  refine ev_icmp_geN 20 dX4_load_6 (by decide) (by omega) (by omega) (fun b6 => by exfalso; omega) (fun b6 => ?_)
  refine ev_aload_n (i := 0) dX4_load_9 rfl rfl ?_
  refine ev_getfield dX4_load_10 fX4_18 (by first | omega | decide) (by first | assumption | (simp (disch := omega) only [mu_s, mu_n]; first | assumption | rfl)) (by rfl) ?_
  refine ev_iload_n (i := 1) dX4_load_13 rfl rfl ?_
  refine ev_ishrN dX4_load_14 (by omega) (by omega) ?_
  refine ev_iconst (v := nI 1) dX4_load_15 rfl ?_
  refine ev_iand1 dX4_load_16 ?_
  refine ev_if_neN 22 dX4_load_17 (by decide) (by omega) (fun b17 => by exfalso; omega) (fun b17 => ?_)
  refine ev_iconst (v := nI 0) dX4_load_20 rfl ?_
  refine ev_reti dX4_load_21 rfl rfl ?_
  exact e_retF (rfl) hp
theorem q_load1 {i : Nat} {p : pg} {f0 g0 : Nat → Int32} {d0 : Int32} (hA : kSl M s) (hi : i < 2) (hs : s i = some p) (h8 : kS M 8 f0 g0 d0) (hp : ∀ M1, ag M M1 8 11 → kP M1 8 p → P (some (.int (bI true))) M1) : Ev 88 (d + 1) mX4_load none 0 [.ref 62, .int (nI i), .ref 8] [] M P := by
  obtain ⟨fl, g, h1, h2, h3, h4, h5, h6, h7⟩ := hA
  have hb : fl / 2 ^ i % 2 = 1 := by rw [tb_d, h5 i hi, hs]; rfl
  refine ev_iload_n (i := 1) dX4_load_0 rfl rfl ?_
  refine ev_if_ltN 20 dX4_load_1 (by decide) (by omega) (fun b1 => by exfalso; omega) (fun b1 => ?_)
  refine ev_iload_n (i := 1) dX4_load_4 rfl rfl ?_
  refine ev_iconst (v := nI 2) dX4_load_5 rfl ?_
  refine ev_icmp_geN 20 dX4_load_6 (by decide) (by omega) (by omega) (fun b6 => by exfalso; omega) (fun b6 => ?_)
  refine ev_aload_n (i := 0) dX4_load_9 rfl rfl ?_
  refine ev_getfield dX4_load_10 fX4_18 (by first | omega | decide) (by first | assumption | (simp (disch := omega) only [mu_s, mu_n]; first | assumption | rfl)) (by rfl) ?_
  refine ev_iload_n (i := 1) dX4_load_13 rfl rfl ?_
  refine ev_ishrN dX4_load_14 (by omega) (by omega) ?_
  refine ev_iconst (v := nI 1) dX4_load_15 rfl ?_
  refine ev_iand1 dX4_load_16 ?_
  refine ev_if_neN 22 dX4_load_17 (by decide) (by omega) (fun b17 => ?_) (fun b17 => by exfalso; omega)
  refine ev_aload_n (i := 0) dX4_load_22 rfl rfl ?_
  refine ev_getfield dX4_load_23 fX4_11 (by first | omega | decide) (by first | assumption | (simp (disch := omega) only [mu_s, mu_n]; first | assumption | rfl)) (by rfl) ?_
  refine ev_iload_n (i := 1) dX4_load_26 rfl rfl ?_
  refine ev_aaload (r := 64 + 3 * i) dX4_load_27 (by first | omega | decide) (by first | assumption | (simp (disch := omega) only [mu_s, mu_n]; first | assumption | rfl)) (vp_in_nI (by omega) (by decide)) (by rw [n_cl (by omega)]; exact h3 _ hi) ?_
  refine ev_aload_n (i := 2) dX4_load_28 rfl rfl ?_
  refine ev_S2 (μ1 := mX7_copy) dX4_load_29 sX4_22 okX7_copy (Nat.le_of_ble_eq_true rfl) (Nat.le_of_ble_eq_true rfl) ?_
  refine q_copy (by omega) (by omega) (by omega) (h6 i hi p hs) h8 (fun M1 ha hk1 => ?_)
  refine ev_iconst (v := nI 1) dX4_load_32 rfl ?_
  refine ev_reti dX4_load_33 rfl (rfl) ?_
  exact hp M1 ha hk1
end SLO
/-! times -/
def kTm (M : mM) (o : Nat → Nat) : Prop := M 70 = .inr (6, [.ref 71]) ∧ arr M 71 6 6 o
theorem kTm_ag {M M1 : mM} {a b : Nat} {o : Nat → Nat} (h : kTm M o) (hg : ag M M1 a b) (hx : b ≤ 70 ∨ 72 ≤ a) : kTm M1 o := by
  obtain ⟨h1, f, h2, h3⟩ := h
  exact ⟨(hg _ (by omega)).trans h1, f, (hg _ (by omega)).trans h2, h3⟩
section TIM
variable {d : Nat} {M : mM} {P : Option Value → mM → Prop} {o : Nat → Nat}
theorem q_start (hT : kTm M o) (hp : ∀ M1, ag M M1 71 72 → kTm M1 (fun _ => 0) → P none M1) : Ev 88 d mX6_start none 0 [.ref 70, .null] [] M P := by
  obtain ⟨h0, f, h1, h2⟩ := hT
  have lp : ∀ (j c : Nat) (M1 : mM) (f1 : Nat → Int32), c + j = 6 → ag M M1 71 72 → M1 71 = .inl (0, 6, .inl f1) → (∀ i, i < c → f1 i = nI 0) → Ev 88 d mX6_start none 2 [.ref 70, .int (nI c)] [] M1 P := by
    intro j
    induction j with
    | zero =>
      intro c M1 f1 hc ha hm e1
      obtain rfl : c = 6 := by omega
      refine ev_iload_n (i := 1) dX6_start_2 rfl rfl ?_
      refine ev_bipush (v := nI 6) dX6_start_3 rfl ?_
      refine ev_icmp_geN 21 dX6_start_5 (by decide) (by omega) (by omega) (fun b5 => ?_) (fun b5 => by exfalso; omega)
      refine ev_ret0 dX6_start_21 rfl ?_
      exact hp M1 ha ⟨(ha _ (by omega)).trans h0, f1, hm, e1⟩
    | succ j ih =>
      intro c M1 f1 hc ha hm e1
      have x0 := (ha 70 (by omega)).trans h0
      refine ev_iload_n (i := 1) dX6_start_2 rfl rfl ?_
      refine ev_bipush (v := nI 6) dX6_start_3 rfl ?_
      refine ev_icmp_geN 21 dX6_start_5 (by decide) (by omega) (by omega) (fun b5 => by exfalso; omega) (fun b5 => ?_)
      refine ev_aload_n (i := 0) dX6_start_8 rfl rfl ?_
      refine ev_getfield dX6_start_9 fX6_9 (by first | omega | decide) (by first | assumption | (simp (disch := omega) only [mu_s, mu_n]; first | assumption | rfl)) (by rfl) ?_
      refine ev_iload_n (i := 1) dX6_start_12 rfl rfl ?_
      refine ev_iconst (v := nI 0) dX6_start_13 rfl ?_
      refine ev_iastoreN dX6_start_14 (by first | omega | decide) (by first | assumption | (simp (disch := omega) only [mu_s, mu_n]; first | assumption | rfl)) (by omega) (by decide) ?_
      refine ev_incN dX6_start_15 (by rfl) (by decide) rfl ?_
      refine ev_goto 2 dX6_start_18 (by decide) ?_
      refine ih _ _ _ (by omega) (ag_mu ha (by omega) (by omega)) (mu_s _ _ _) (fun i hi => ?_)
      unfold upd
      by_cases e : i = c
      · rw [if_pos e]
      · rw [if_neg e]; exact e1 i (by omega)
  refine ev_iconst (v := nI 0) dX6_start_0 rfl ?_
  refine ev_istore_n (i := 1) dX6_start_1 rfl (by decide) rfl ?_
  exact lp 6 0 M f rfl (ag_rf M _ _) h1 (fun i hi => absurd hi (by omega))
theorem q_howOften {l : Nat} (hT : kTm M o) (hl : l < 6) (hp : P (some (.int (nI (o l)))) M) : Ev 88 d mX6_howOften none 0 [.ref 70, .int (nI l)] [] M P := by
  obtain ⟨h0, f, h1, h2⟩ := hT
  rw [← h2 l hl] at hp
  refine ev_iload_n (i := 1) dX6_howOften_0 rfl rfl ?_
  refine ev_if_ltN 19 dX6_howOften_1 (by decide) (by omega) (fun b1 => by exfalso; omega) (fun b1 => ?_)
  refine ev_iload_n (i := 1) dX6_howOften_4 rfl rfl ?_
  refine ev_bipush (v := nI 6) dX6_howOften_5 rfl ?_
  refine ev_icmp_geN 19 dX6_howOften_7 (by decide) (by omega) (by omega) (fun b7 => by exfalso; omega) (fun b7 => ?_)
  refine ev_aload_n (i := 0) dX6_howOften_10 rfl rfl ?_
  refine ev_getfield dX6_howOften_11 fX6_9 (by first | omega | decide) (by first | assumption | (simp (disch := omega) only [mu_s, mu_n]; first | assumption | rfl)) (by rfl) ?_
  refine ev_iload_n (i := 1) dX6_howOften_14 rfl rfl ?_
  refine ev_ialoadN dX6_howOften_15 (by first | omega | decide) (by first | assumption | (simp (disch := omega) only [mu_s, mu_n]; first | assumption | rfl)) (by omega) (by decide) ?_
  refine ev_goto 20 dX6_howOften_16 (by decide) ?_
  refine ev_reti dX6_howOften_20 rfl rfl ?_
  exact hp
theorem q_lettersThere {k : Nat} (hT : kTm M o) (ho : ∀ l, l < 6 → o l ≤ 2) (hk : k < 2 ^ 31) (hp : P (some (.int (nI (bN (fun l => decide (o l = k)) 6)))) M) : Ev 88 d mX6_lettersThere none 0 [.ref 70, .int (nI k), .null, .null] [] M P := by
  obtain ⟨h0, f, h1, h2⟩ := hT
  have lp : ∀ (j c acc : Nat), c + j = 6 → acc = bN (fun l => decide (o l = k)) c → Ev 88 d mX6_lettersThere none 4 [.ref 70, .int (nI k), .int (nI acc), .int (nI c)] [] M P := by
    intro j
    induction j with
    | zero =>
      intro c acc hc ha
      obtain rfl : c = 6 := by omega
      subst ha
      refine ev_iload_n (i := 3) dX6_lettersThere_4 rfl rfl ?_
      refine ev_bipush (v := nI 6) dX6_lettersThere_5 rfl ?_
      refine ev_icmp_geN 32 dX6_lettersThere_7 (by decide) (by omega) (by omega) (fun b7 => ?_) (fun b7 => by exfalso; omega)
      refine ev_iload_n (i := 2) dX6_lettersThere_32 rfl rfl ?_
      refine ev_reti dX6_lettersThere_33 rfl rfl ?_
      exact hp
    | succ j ih =>
      intro c acc hc ha
      have hv := h2 c (by omega)
      have hv2 := ho c (by omega)
      refine ev_iload_n (i := 3) dX6_lettersThere_4 rfl rfl ?_
      refine ev_bipush (v := nI 6) dX6_lettersThere_5 rfl ?_
      refine ev_icmp_geN 32 dX6_lettersThere_7 (by decide) (by omega) (by omega) (fun b7 => by exfalso; omega) (fun b7 => ?_)
      refine ev_aload_n (i := 0) dX6_lettersThere_10 rfl rfl ?_
      refine ev_getfield dX6_lettersThere_11 fX6_9 (by first | omega | decide) (by first | assumption | (simp (disch := omega) only [mu_s, mu_n]; first | assumption | rfl)) (by rfl) ?_
      refine ev_iload_n (i := 3) dX6_lettersThere_14 rfl rfl ?_
      refine ev_ialoadN dX6_lettersThere_15 (by first | omega | decide) (by first | assumption | (simp (disch := omega) only [mu_s, mu_n]; first | assumption | rfl)) (by omega) (by decide) ?_
      refine ev_top (i_op hv) ?_
      refine ev_iload_n (i := 1) dX6_lettersThere_16 rfl rfl ?_
      refine ev_icmp_neN 26 dX6_lettersThere_17 (by decide) (by omega) (by omega) (fun b17 => ?_) (fun b17 => ?_)
      · skip
        refine ev_incN dX6_lettersThere_26 (by rfl) (by decide) rfl ?_
        refine ev_goto 4 dX6_lettersThere_29 (by decide) ?_
        first
        | exact ih _ _ (by omega) (ha.trans (bN_f (by simpa using b17)))
        | exact ih _ _ (by omega) (by rw [ha]; exact bN_t (by simpa using b17))
      · skip
        refine ev_iload_n (i := 2) dX6_lettersThere_20 rfl rfl ?_
        refine ev_iconst (v := nI 1) dX6_lettersThere_21 rfl ?_
        refine ev_iload_n (i := 3) dX6_lettersThere_22 rfl rfl ?_
        refine ev_ishl1 dX6_lettersThere_23 (by omega) ?_
        refine ev_iorN dX6_lettersThere_24 ?_
        refine ev_istore_n (i := 2) dX6_lettersThere_25 rfl (by decide) rfl ?_
        refine ev_incN dX6_lettersThere_26 (by rfl) (by decide) rfl ?_
        refine ev_goto 4 dX6_lettersThere_29 (by decide) ?_
        first
        | exact ih _ _ (by omega) (ha.trans (bN_f (by simpa using b17)))
        | exact ih _ _ (by omega) (by rw [ha]; exact bN_t (by simpa using b17))
  refine ev_iconst (v := nI 0) dX6_lettersThere_0 rfl ?_
  refine ev_istore_n (i := 2) dX6_lettersThere_1 rfl (by decide) rfl ?_
  refine ev_iconst (v := nI 0) dX6_lettersThere_2 rfl ?_
  refine ev_istore_n (i := 3) dX6_lettersThere_3 rfl (by decide) rfl ?_
  exact lp 6 0 0 rfl rfl
/-- the next row: the first that isn't 2 grows, those before it are 0 -/
def nxT (o : Nat → Nat) (i : Nat) : Nat → Nat := fun l => if l < i then 0 else if l = i then o l + 1 else o l
theorem q_next {i : Nat} (hT : kTm M o) (ho : ∀ l, l < 6 → o l ≤ 2) (hi : i ≤ 6) (h2 : ∀ l, l < i → o l = 2) (hn : i < 6 → o i ≠ 2) (hp : ∀ M1, ag M M1 71 72 → kTm M1 (nxT o i) → P none M1) : Ev 88 d mX6_next none 0 [.ref 70, .null] [] M P := by
  obtain ⟨h0, f, h1, hf⟩ := hT
  have lp : ∀ (j c : Nat) (M1 : mM) (f1 : Nat → Int32), c + j = i → ag M M1 71 72 → M1 71 = .inl (0, 6, .inl f1) → (∀ l, l < 6 → f1 l = nI (if l < c then 0 else o l)) → Ev 88 d mX6_next none 2 [.ref 70, .int (nI c)] [] M1 P := by
    intro j
    induction j with
    | zero =>
      intro c M1 f1 hc ha hm e1
      obtain rfl : c = i := by omega
      have x0 := (ha 70 (by omega)).trans h0
      by_cases hc6 : c < 6
      · have hv : f1 c = nI (o c) := by rw [e1 c hc6, if_neg (by omega)]
        have hv2 := ho c hc6
        have hn2 := hn hc6
        refine ev_iload_n (i := 1) dX6_next_2 rfl rfl ?_
        refine ev_bipush (v := nI 6) dX6_next_3 rfl ?_
        refine ev_icmp_geN 31 dX6_next_5 (by decide) (by omega) (by omega) (fun b5 => by exfalso; omega) (fun b5 => ?_)
        refine ev_aload_n (i := 0) dX6_next_8 rfl rfl ?_
        refine ev_getfield dX6_next_9 fX6_9 (by first | omega | decide) (by first | assumption | (simp (disch := omega) only [mu_s, mu_n]; first | assumption | rfl)) (by rfl) ?_
        refine ev_iload_n (i := 1) dX6_next_12 rfl rfl ?_
        refine ev_ialoadN dX6_next_13 (by first | omega | decide) (by first | assumption | (simp (disch := omega) only [mu_s, mu_n]; first | assumption | rfl)) (by omega) (by decide) ?_
        refine ev_top (i_op hv) ?_
        refine ev_iconst (v := nI 2) dX6_next_14 rfl ?_
        refine ev_icmp_neN 31 dX6_next_15 (by decide) (by omega) (by omega) (fun b15 => ?_) (fun b15 => by exfalso; omega)
        refine ev_iload_n (i := 1) dX6_next_31 rfl rfl ?_
        refine ev_bipush (v := nI 6) dX6_next_32 rfl ?_
        refine ev_icmp_geN 47 dX6_next_34 (by decide) (by omega) (by omega) (fun b34 => by exfalso; omega) (fun b34 => ?_)
        refine ev_aload_n (i := 0) dX6_next_37 rfl rfl ?_
        refine ev_getfield dX6_next_38 fX6_9 (by first | omega | decide) (by first | assumption | (simp (disch := omega) only [mu_s, mu_n]; first | assumption | rfl)) (by rfl) ?_
        refine ev_iload_n (i := 1) dX6_next_41 rfl rfl ?_
        refine ev_dup2 dX6_next_42 rfl rfl ?_
        refine ev_ialoadN dX6_next_43 (by first | omega | decide) (by first | assumption | (simp (disch := omega) only [mu_s, mu_n]; first | assumption | rfl)) (by omega) (by decide) ?_
        refine ev_top (i_op hv) ?_
        refine ev_iconst (v := nI 1) dX6_next_44 rfl ?_
        refine ev_iaddN dX6_next_45 ?_
        refine ev_iastoreN dX6_next_46 (by first | omega | decide) (by first | assumption | (simp (disch := omega) only [mu_s, mu_n]; first | assumption | rfl)) (by omega) (by decide) ?_
        refine ev_ret0 dX6_next_47 rfl ?_
        refine hp _ (ag_mu ha (by omega) (by omega)) ⟨(mu_n (by omega)).trans x0, _, mu_s _ _ _, fun l hl => ?_⟩
        unfold upd nxT
        by_cases e : l = c
        · subst e; simp
        · rw [if_neg e, e1 l hl]
          by_cases e3 : l < c
          · simp [e3]
          · simp [e3, e]
      · obtain rfl : c = 6 := by omega
        refine ev_iload_n (i := 1) dX6_next_2 rfl rfl ?_
        refine ev_bipush (v := nI 6) dX6_next_3 rfl ?_
        refine ev_icmp_geN 31 dX6_next_5 (by decide) (by omega) (by omega) (fun b5 => ?_) (fun b5 => by exfalso; omega)
        refine ev_iload_n (i := 1) dX6_next_31 rfl rfl ?_
        refine ev_bipush (v := nI 6) dX6_next_32 rfl ?_
        refine ev_icmp_geN 47 dX6_next_34 (by decide) (by omega) (by omega) (fun b34 => ?_) (fun b34 => by exfalso; omega)
        refine ev_ret0 dX6_next_47 rfl ?_
        refine hp _ ha ⟨x0, _, hm, fun l hl => ?_⟩
        rw [e1 l hl]
        unfold nxT
        simp [hl]
    | succ j ih =>
      intro c M1 f1 hc ha hm e1
      have x0 := (ha 70 (by omega)).trans h0
      have hv : f1 c = nI 2 := by rw [e1 c (by omega), if_neg (by omega), h2 c (by omega)]
      refine ev_iload_n (i := 1) dX6_next_2 rfl rfl ?_
      refine ev_bipush (v := nI 6) dX6_next_3 rfl ?_
      refine ev_icmp_geN 31 dX6_next_5 (by decide) (by omega) (by omega) (fun b5 => by exfalso; omega) (fun b5 => ?_)
      refine ev_aload_n (i := 0) dX6_next_8 rfl rfl ?_
      refine ev_getfield dX6_next_9 fX6_9 (by first | omega | decide) (by first | assumption | (simp (disch := omega) only [mu_s, mu_n]; first | assumption | rfl)) (by rfl) ?_
      refine ev_iload_n (i := 1) dX6_next_12 rfl rfl ?_
      refine ev_ialoadN dX6_next_13 (by first | omega | decide) (by first | assumption | (simp (disch := omega) only [mu_s, mu_n]; first | assumption | rfl)) (by omega) (by decide) ?_
      refine ev_top (i_op hv) ?_
      refine ev_iconst (v := nI 2) dX6_next_14 rfl ?_
      refine ev_icmp_neN 31 dX6_next_15 (by decide) (by omega) (by omega) (fun b15 => by exfalso; omega) (fun b15 => ?_)
      refine ev_aload_n (i := 0) dX6_next_18 rfl rfl ?_
      refine ev_getfield dX6_next_19 fX6_9 (by first | omega | decide) (by first | assumption | (simp (disch := omega) only [mu_s, mu_n]; first | assumption | rfl)) (by rfl) ?_
      refine ev_iload_n (i := 1) dX6_next_22 rfl rfl ?_
      refine ev_iconst (v := nI 0) dX6_next_23 rfl ?_
      refine ev_iastoreN dX6_next_24 (by first | omega | decide) (by first | assumption | (simp (disch := omega) only [mu_s, mu_n]; first | assumption | rfl)) (by omega) (by decide) ?_
      refine ev_incN dX6_next_25 (by rfl) (by decide) rfl ?_
      refine ev_goto 2 dX6_next_28 (by decide) ?_
      refine ih _ _ _ (by omega) (ag_mu ha (by omega) (by omega)) (mu_s _ _ _) (fun l hl => ?_)
      unfold upd
      by_cases e : l = c
      · subst e; simp
      · rw [if_neg e, e1 l hl]
        have e3 : (l < c + 1) ↔ l < c := by omega
        simp only [e3]
  refine ev_iconst (v := nI 0) dX6_next_0 rfl ?_
  refine ev_istore_n (i := 1) dX6_next_1 rfl (by decide) rfl ?_
  exact lp i 0 M f (by omega) (ag_rf M _ _) h1 (fun l hl => by rw [if_neg (by omega)]; exact hf l hl)
end TIM
end
section
/-! ===== text, over, counts of bits ===== -/
/-- the first c from c on, of j, with p -/
def lf (p : Nat → Bool) : Nat → Nat → Option Nat
  | 0, _ => none
  | j + 1, c => if p c = true then some c else lf p j (c + 1)
theorem lf_t {p : Nat → Bool} {j c : Nat} (h : p c = true) : lf p (j + 1) c = some c := if_pos h
theorem lf_f {p : Nat → Bool} {j c : Nat} (h : p c = false) : lf p (j + 1) c = lf p j (c + 1) := if_neg (by rw [h]; decide)
theorem lf_some {p : Nat → Bool} : ∀ {j c x : Nat}, lf p j c = some x → c ≤ x ∧ x < c + j ∧ p x = true ∧ ∀ i, c ≤ i → i < x → p i = false
  | 0, c, x, h => by cases h
  | j + 1, c, x, h => by
    by_cases hc : p c = true
    · rw [lf_t hc] at h
      cases h
      exact ⟨by omega, by omega, hc, fun i h1 h2 => by omega⟩
    · have hc2 : p c = false := by simpa using hc
      rw [lf_f hc2] at h
      obtain ⟨h1, h2, h3, h4⟩ := lf_some h
      refine ⟨by omega, by omega, h3, fun i h5 h6 => ?_⟩
      by_cases e : i = c
      · rw [e]; exact hc2
      · exact h4 i (by omega) h6
theorem lf_none {p : Nat → Bool} : ∀ {j c : Nat}, lf p j c = none → ∀ i, c ≤ i → i < c + j → p i = false
  | 0, c, h, i, h1, h2 => by omega
  | j + 1, c, h, i, h1, h2 => by
    by_cases hc : p c = true
    · rw [lf_t hc] at h
      cases h
    · have hc2 : p c = false := by simpa using hc
      rw [lf_f hc2] at h
      by_cases e : i = c
      · rw [e]; exact hc2
      · exact lf_none h i (by omega) (by omega)
theorem lf_cong {p q : Nat → Bool} : ∀ {j c : Nat}, (∀ i, c ≤ i → i < c + j → p i = q i) → lf p j c = lf q j c
  | 0, _, _ => rfl
  | j + 1, c, h => by
    unfold lf
    rw [h c (by omega) (by omega), lf_cong (fun i h1 h2 => h i (by omega) (by omega))]
/-- how many of the bits 0 .. 11 -/
def cnt (n : Nat) : Nat := sN (fun k => n / 2 ^ k % 2) 12
theorem cnt_le (n : Nat) : cnt n ≤ 12 := by
  have h := sN_le (g := fun k => n / 2 ^ k % 2) (b := 1) (n := 12) (fun i _ => by omega)
  simpa [cnt] using h
def bcE (x0 : Int32) : Int32 :=
  let u := fun (x s : Int32) => (x.toUInt32 >>> (s.toUInt32 &&& Int32.toUInt32 31)).toInt32
  let x1 := x0 - (u x0 (nI 1) &&& 1431655765)
  let x2 := (x1 &&& 858993459) + (u x1 (nI 2) &&& 858993459)
  let x3 := (x2 + u x2 (nI 4)) &&& 252645135
  let x4 := x3 + u x3 (nI 8)
  let x5 := x4 + u x4 (nI 16)
  x5 &&& nI 63
set_option maxRecDepth 100000 in
theorem bc_all : ∀ a, a < 64 → ∀ b, b < 64 → bcE (nI (64 * a + b)) = nI (cnt (64 * a + b)) := by decide +kernel
theorem bc_ok {n : Nat} (h : n < 4096) : bcE (nI n) = nI (cnt n) := by
  have e := bc_all (n / 64) (by omega) (n % 64) (by omega)
  rw [show 64 * (n / 64) + n % 64 = n by omega] at e
  exact e
theorem c_bitCount {N d n : Nat} {M : mM} {P : Option Value → mM → Prop} (hn : n < 4096) (hp : P (some (.int (nI (cnt n)))) M) : Ev N d mJ6_bitCount_0f7a4 none 0 [.int (nI n)] [] M P := by
  rw [← bc_ok hn] at hp
  refine ev_iload_n (i := 0) dJ6_bitCount_0f7a4_0 rfl rfl ?_
  refine ev_iload_n (i := 0) dJ6_bitCount_0f7a4_1 rfl rfl ?_
  refine ev_iconst (v := nI 1) dJ6_bitCount_0f7a4_2 rfl ?_
  refine ev_iushr dJ6_bitCount_0f7a4_3 rfl ?_
  refine ev_ldc_w dJ6_bitCount_0f7a4_4 kJ6_265 ?_
  refine ev_iand dJ6_bitCount_0f7a4_7 ?_
  refine ev_isub dJ6_bitCount_0f7a4_8 ?_
  refine ev_istore_n (i := 0) dJ6_bitCount_0f7a4_9 rfl (by decide) rfl ?_
  refine ev_iload_n (i := 0) dJ6_bitCount_0f7a4_10 rfl rfl ?_
  refine ev_ldc_w dJ6_bitCount_0f7a4_11 kJ6_266 ?_
  refine ev_iand dJ6_bitCount_0f7a4_14 ?_
  refine ev_iload_n (i := 0) dJ6_bitCount_0f7a4_15 rfl rfl ?_
  refine ev_iconst (v := nI 2) dJ6_bitCount_0f7a4_16 rfl ?_
  refine ev_iushr dJ6_bitCount_0f7a4_17 rfl ?_
  refine ev_ldc_w dJ6_bitCount_0f7a4_18 kJ6_266 ?_
  refine ev_iand dJ6_bitCount_0f7a4_21 ?_
  refine ev_iadd dJ6_bitCount_0f7a4_22 ?_
  refine ev_istore_n (i := 0) dJ6_bitCount_0f7a4_23 rfl (by decide) rfl ?_
  refine ev_iload_n (i := 0) dJ6_bitCount_0f7a4_24 rfl rfl ?_
  refine ev_iload_n (i := 0) dJ6_bitCount_0f7a4_25 rfl rfl ?_
  refine ev_iconst (v := nI 4) dJ6_bitCount_0f7a4_26 rfl ?_
  refine ev_iushr dJ6_bitCount_0f7a4_27 rfl ?_
  refine ev_iadd dJ6_bitCount_0f7a4_28 ?_
  refine ev_ldc_w dJ6_bitCount_0f7a4_29 kJ6_267 ?_
  refine ev_iand dJ6_bitCount_0f7a4_32 ?_
  refine ev_istore_n (i := 0) dJ6_bitCount_0f7a4_33 rfl (by decide) rfl ?_
  refine ev_iload_n (i := 0) dJ6_bitCount_0f7a4_34 rfl rfl ?_
  refine ev_iload_n (i := 0) dJ6_bitCount_0f7a4_35 rfl rfl ?_
  refine ev_bipush (v := nI 8) dJ6_bitCount_0f7a4_36 rfl ?_
  refine ev_iushr dJ6_bitCount_0f7a4_38 rfl ?_
  refine ev_iadd dJ6_bitCount_0f7a4_39 ?_
  refine ev_istore_n (i := 0) dJ6_bitCount_0f7a4_40 rfl (by decide) rfl ?_
  refine ev_iload_n (i := 0) dJ6_bitCount_0f7a4_41 rfl rfl ?_
  refine ev_iload_n (i := 0) dJ6_bitCount_0f7a4_42 rfl rfl ?_
  refine ev_bipush (v := nI 16) dJ6_bitCount_0f7a4_43 rfl ?_
  refine ev_iushr dJ6_bitCount_0f7a4_45 rfl ?_
  refine ev_iadd dJ6_bitCount_0f7a4_46 ?_
  refine ev_istore_n (i := 0) dJ6_bitCount_0f7a4_47 rfl (by decide) rfl ?_
  refine ev_iload_n (i := 0) dJ6_bitCount_0f7a4_48 rfl rfl ?_
  refine ev_bipush (v := nI 63) dJ6_bitCount_0f7a4_49 rfl ?_
  refine ev_iand dJ6_bitCount_0f7a4_51 ?_
  refine ev_reti dJ6_bitCount_0f7a4_52 rfl rfl ?_
  exact hp
abbrev tx : Type := Nat × (Nat → Nat)
def txOk (t : tx) : Prop := t.1 ≤ 40 ∧ ∀ i, i < t.1 → t.2 i < 256
def kTx (M : mM) (t : tx) : Prop := M 1 = .inr (5, [.ref 2, .int (nI t.1)]) ∧ arr M 2 40 t.1 t.2
def txAdd (t : tx) (b : Nat) : tx := (t.1 + 1, fun i => if i = t.1 then b else t.2 i)
theorem txAdd_ok {t : tx} {b : Nat} (h : txOk t) (hl : t.1 < 40) (hb : b < 256) : txOk (txAdd t b) := by
  refine ⟨hl, fun i hi => ?_⟩
  have hi : i < t.1 + 1 := hi
  show (if i = t.1 then b else t.2 i) < 256
  split
  · exact hb
  · exact h.2 i (by omega)
theorem kTx_ag {M M1 : mM} {a b : Nat} {t : tx} (h : kTx M t) (hg : ag M M1 a b) (hx : b ≤ 1 ∨ 3 ≤ a) : kTx M1 t := by
  obtain ⟨h1, f, h2, h3⟩ := h
  exact ⟨(hg _ (by omega)).trans h1, f, (hg _ (by omega)).trans h2, h3⟩
/-- a figure as the class reads it -/
theorem fg_ge {b lo : Nat} (hb : b < 256) (hl : lo < 256) : nI b - nI 48 < nI lo ↔ b < lo + 48 := by
  rw [Int32.lt_iff_toInt_lt, pk_sub_toInt (by omega) (by decide), nI_toInt (by omega)]
  omega
theorem fg_le {b hi : Nat} (hb : b < 256) (hl : hi < 256) : nI hi < nI b - nI 48 ↔ hi + 48 < b := by
  rw [Int32.lt_iff_toInt_lt, pk_sub_toInt (by omega) (by decide), nI_toInt (by omega)]
  omega
def fgB (b lo hi : Nat) : Bool := decide (lo + 48 ≤ b ∧ b ≤ hi + 48)
def rtB (t : tx) (i : Nat) : Bool := if i = 0 then decide (t.2 0 = 66) else if 30 < i then false else match (i - 1) % 5 with
  | 0 => decide (t.2 i = 76)
  | 1 => fgB (t.2 i) 0 8
  | 2 => fgB (t.2 i) 1 9
  | 3 => fgB (t.2 i) 1 3
  | _ => fgB (t.2 i) 0 3
/-- the first fault -/
def fltN (t : tx) : Option Nat := match lf (fun i => !rtB t i) t.1 0 with
  | some i => some i
  | none => if 0 < t.1 ∧ (t.1 - 1) % 5 = 0 then none else some t.1
def oI (o : Option Nat) : Int32 := match o with
  | none => (-9)
  | some i => nI i
section TXT
variable {d : Nat} {M : mM} {P : Option Value → mM → Prop} {t : tx}
theorem c_append {b : Nat} (hT : kTx M t) (ho : txOk t) (hf : P (some (.int (bI false))) M) (hl : ¬ t.1 < 40) : Ev 88 d mX5_append none 0 [.ref 1, .int (nI b)] [] M P := by
  have h1 := hT.1
  have h4 := ho.1
  obtain ⟨f, h2, h3⟩ := hT.2
  refine ev_aload_n (i := 0) dX5_append_0 rfl rfl ?_
  refine ev_getfield dX5_append_1 fX5_15 (by first | omega | decide) (by first | assumption | (simp (disch := omega) only [mu_s, mu_n]; first | assumption | rfl)) (by rfl) ?_
  refine ev_if_ltN 19 dX5_append_4 (by decide) (by omega) (fun b4 => by exfalso; omega) (fun b4 => ?_)
  refine ev_aload_n (i := 0) dX5_append_7 rfl rfl ?_
  refine ev_getfield dX5_append_8 fX5_15 (by first | omega | decide) (by first | assumption | (simp (disch := omega) only [mu_s, mu_n]; first | assumption | rfl)) (by rfl) ?_
  refine ev_aload_n (i := 0) dX5_append_11 rfl rfl ?_
  refine ev_getfield dX5_append_12 fX5_9 (by first | omega | decide) (by first | assumption | (simp (disch := omega) only [mu_s, mu_n]; first | assumption | rfl)) (by rfl) ?_
  refine ev_arraylength (v := nI 40) dX5_append_15 (by first | omega | decide) (by first | assumption | (simp (disch := omega) only [mu_s, mu_n]; first | assumption | rfl)) rfl ?_
  refine ev_icmp_ltN 21 dX5_append_16 (by decide) (by omega) (by omega) (fun b16 => by exfalso; omega) (fun b16 => ?_)
  refine ev_iconst (v := nI 0) dX5_append_19 rfl ?_
  refine ev_reti dX5_append_20 rfl (rfl) ?_
  exact hf
theorem c_append1 {b : Nat} (hT : kTx M t) (ho : txOk t) (hl : t.1 < 40) (hp : ∀ M1, ag M M1 1 3 → kTx M1 (txAdd t b) → P (some (.int (bI true))) M1) : Ev 88 d mX5_append none 0 [.ref 1, .int (nI b)] [] M P := by
  have h1 := hT.1
  have h4 := ho.1
  obtain ⟨f, h2, h3⟩ := hT.2
  refine ev_aload_n (i := 0) dX5_append_0 rfl rfl ?_
  refine ev_getfield dX5_append_1 fX5_15 (by first | omega | decide) (by first | assumption | (simp (disch := omega) only [mu_s, mu_n]; first | assumption | rfl)) (by rfl) ?_
  refine ev_if_ltN 19 dX5_append_4 (by decide) (by omega) (fun b4 => by exfalso; omega) (fun b4 => ?_)
  refine ev_aload_n (i := 0) dX5_append_7 rfl rfl ?_
  refine ev_getfield dX5_append_8 fX5_15 (by first | omega | decide) (by first | assumption | (simp (disch := omega) only [mu_s, mu_n]; first | assumption | rfl)) (by rfl) ?_
  refine ev_aload_n (i := 0) dX5_append_11 rfl rfl ?_
  refine ev_getfield dX5_append_12 fX5_9 (by first | omega | decide) (by first | assumption | (simp (disch := omega) only [mu_s, mu_n]; first | assumption | rfl)) (by rfl) ?_
  refine ev_arraylength (v := nI 40) dX5_append_15 (by first | omega | decide) (by first | assumption | (simp (disch := omega) only [mu_s, mu_n]; first | assumption | rfl)) rfl ?_
  refine ev_icmp_ltN 21 dX5_append_16 (by decide) (by omega) (by omega) (fun b16 => ?_) (fun b16 => by exfalso; omega)
  refine ev_aload_n (i := 0) dX5_append_21 rfl rfl ?_
  refine ev_getfield dX5_append_22 fX5_9 (by first | omega | decide) (by first | assumption | (simp (disch := omega) only [mu_s, mu_n]; first | assumption | rfl)) (by rfl) ?_
  refine ev_aload_n (i := 0) dX5_append_25 rfl rfl ?_
  refine ev_getfield dX5_append_26 fX5_15 (by first | omega | decide) (by first | assumption | (simp (disch := omega) only [mu_s, mu_n]; first | assumption | rfl)) (by rfl) ?_
  refine ev_iload_n (i := 1) dX5_append_29 rfl rfl ?_
  refine ev_iastoreN dX5_append_30 (by first | omega | decide) (by first | assumption | (simp (disch := omega) only [mu_s, mu_n]; first | assumption | rfl)) (by omega) (by decide) ?_
  refine ev_aload_n (i := 0) dX5_append_31 rfl rfl ?_
  refine ev_dup dX5_append_32 rfl ?_
  refine ev_getfield dX5_append_33 fX5_15 (by first | omega | decide) (by first | assumption | (simp (disch := omega) only [mu_s, mu_n]; first | assumption | rfl)) (by rfl) ?_
  refine ev_iconst (v := nI 1) dX5_append_36 rfl ?_
  refine ev_iaddN dX5_append_37 ?_
  refine ev_putI dX5_append_38 fwX5_15 (by first | omega | decide) (by first | assumption | (simp (disch := omega) only [mu_s, mu_n]; first | assumption | rfl)) (Nat.le_of_ble_eq_true rfl) ?_
  refine ev_iconst (v := nI 1) dX5_append_41 rfl ?_
  refine ev_reti dX5_append_42 rfl (rfl) ?_
  refine hp _ (ag_mu (ag_mu (ag_rf M _ _) (by omega) (by omega)) (by omega) (by omega)) ⟨mu_s _ _ _, _, (mu_n (by omega)).trans (mu_s _ _ _), fun i hi => ?_⟩
  have hi : i < t.1 + 1 := hi
  show (if i = t.1 then nI b else f i) = nI (if i = t.1 then b else t.2 i)
  split
  · rfl
  · exact h3 i (by omega)
theorem c_byteAt {i : Nat} (hT : kTx M t) (ho : txOk t) (hi : i < t.1) (hp : P (some (.int (nI (t.2 i)))) M) : Ev 88 d mX5_byteAt none 0 [.ref 1, .int (nI i)] [] M P := by
  have h1 := hT.1
  have h4 := ho.1
  obtain ⟨f, h2, h3⟩ := hT.2
  rw [← h3 i hi] at hp
  refine ev_iload_n (i := 1) dX5_byteAt_0 rfl rfl ?_
  refine ev_if_ltN 30 dX5_byteAt_1 (by decide) (by omega) (fun b1 => by exfalso; omega) (fun b1 => ?_)
  refine ev_iload_n (i := 1) dX5_byteAt_4 rfl rfl ?_
  refine ev_aload_n (i := 0) dX5_byteAt_5 rfl rfl ?_
  refine ev_getfield dX5_byteAt_6 fX5_15 (by first | omega | decide) (by first | assumption | (simp (disch := omega) only [mu_s, mu_n]; first | assumption | rfl)) (by rfl) ?_
  refine ev_icmp_geN 30 dX5_byteAt_9 (by decide) (by omega) (by omega) (fun b9 => by exfalso; omega) (fun b9 => ?_)
  refine ev_iload_n (i := 1) dX5_byteAt_12 rfl rfl ?_
  refine ev_aload_n (i := 0) dX5_byteAt_13 rfl rfl ?_
  refine ev_getfield dX5_byteAt_14 fX5_9 (by first | omega | decide) (by first | assumption | (simp (disch := omega) only [mu_s, mu_n]; first | assumption | rfl)) (by rfl) ?_
  refine ev_arraylength (v := nI 40) dX5_byteAt_17 (by first | omega | decide) (by first | assumption | (simp (disch := omega) only [mu_s, mu_n]; first | assumption | rfl)) rfl ?_
  refine ev_icmp_geN 30 dX5_byteAt_18 (by decide) (by omega) (by omega) (fun b18 => by exfalso; omega) (fun b18 => ?_)
  refine ev_aload_n (i := 0) dX5_byteAt_21 rfl rfl ?_
  refine ev_getfield dX5_byteAt_22 fX5_9 (by first | omega | decide) (by first | assumption | (simp (disch := omega) only [mu_s, mu_n]; first | assumption | rfl)) (by rfl) ?_
  refine ev_iload_n (i := 1) dX5_byteAt_25 rfl rfl ?_
  refine ev_ialoadN dX5_byteAt_26 (by first | omega | decide) (by first | assumption | (simp (disch := omega) only [mu_s, mu_n]; first | assumption | rfl)) (by omega) (by decide) ?_
  refine ev_goto 32 dX5_byteAt_27 (by decide) ?_
  refine ev_reti dX5_byteAt_32 rfl rfl ?_
  exact hp
theorem c_figureAt {i : Nat} (hT : kTx M t) (ho : txOk t) (hi : i < t.1) (hp : P (some (.int (nI (t.2 i) - nI 48))) M) : Ev 88 (d + 1) mX5_figureAt none 0 [.ref 1, .int (nI i)] [] M P := by
  have h1 := hT.1
  refine ev_aload_n (i := 0) dX5_figureAt_0 rfl rfl ?_
  refine ev_iload_n (i := 1) dX5_figureAt_1 rfl rfl ?_
  refine ev_V1 (μ1 := mX5_byteAt) dX5_figureAt_2 sX5_19 okX5_byteAt (by first | omega | decide) (by first | assumption | (simp (disch := omega) only [mu_s, mu_n]; first | assumption | rfl)) (Nat.le_of_ble_eq_true rfl) (Nat.le_of_ble_eq_true rfl) ?_
  refine c_byteAt hT ho hi ?_
  refine ev_bipush (v := nI 48) dX5_figureAt_5 rfl ?_
  refine ev_isub dX5_figureAt_7 ?_
  refine ev_reti dX5_figureAt_8 rfl rfl ?_
  exact hp
theorem c_isFigure {i lo hh : Nat} (hT : kTx M t) (ho : txOk t) (hi : i < t.1) (hlo : lo < 256) (hhi : hh < 256) (hp : P (some (.int (bI (fgB (t.2 i) lo hh)))) M) : Ev 88 (d + 2) mX5_isFigure none 0 [.ref 1, .int (nI i), .int (nI lo), .int (nI hh)] [] M P := by
  have h1 := hT.1
  have hb := ho.2 i hi
  have g1 := fg_ge hb hlo
  have g2 := fg_le hb hhi
  refine ev_aload_n (i := 0) dX5_isFigure_0 rfl rfl ?_
  refine ev_iload_n (i := 1) dX5_isFigure_1 rfl rfl ?_
  refine ev_V1 (μ1 := mX5_figureAt) dX5_isFigure_2 sX5_31 okX5_figureAt (by first | omega | decide) (by first | assumption | (simp (disch := omega) only [mu_s, mu_n]; first | assumption | rfl)) (Nat.le_of_ble_eq_true rfl) (Nat.le_of_ble_eq_true rfl) ?_
  refine c_figureAt hT ho hi ?_
  refine ev_iload_n (i := 2) dX5_isFigure_5 rfl rfl ?_
  refine ev_icmp_lt 22 dX5_isFigure_6 (by decide) (fun b6 => ?_) (fun b6 => ?_)
  · skip
    refine ev_iconst (v := nI 0) dX5_isFigure_22 rfl ?_
    refine ev_reti dX5_isFigure_23 rfl rfl ?_
    exact e_retF (by first | (rw [g2] at b15; exact decide_eq_false (by omega)) | (rw [g1] at b6; exact decide_eq_false (by omega))) hp
  · skip
    refine ev_aload_n (i := 0) dX5_isFigure_9 rfl rfl ?_
    refine ev_iload_n (i := 1) dX5_isFigure_10 rfl rfl ?_
    refine ev_V1 (μ1 := mX5_figureAt) dX5_isFigure_11 sX5_31 okX5_figureAt (by first | omega | decide) (by first | assumption | (simp (disch := omega) only [mu_s, mu_n]; first | assumption | rfl)) (Nat.le_of_ble_eq_true rfl) (Nat.le_of_ble_eq_true rfl) ?_
    refine c_figureAt hT ho hi ?_
    refine ev_iload_n (i := 3) dX5_isFigure_14 rfl rfl ?_
    refine ev_icmp_gt 22 dX5_isFigure_15 (by decide) (fun b15 => ?_) (fun b15 => ?_)
    · skip
      refine ev_iconst (v := nI 0) dX5_isFigure_22 rfl ?_
      refine ev_reti dX5_isFigure_23 rfl rfl ?_
      exact e_retF (by first | (rw [g2] at b15; exact decide_eq_false (by omega)) | (rw [g1] at b6; exact decide_eq_false (by omega))) hp
    · skip
      refine ev_iconst (v := nI 1) dX5_isFigure_18 rfl ?_
      refine ev_goto 23 dX5_isFigure_19 (by decide) ?_
      refine ev_reti dX5_isFigure_23 rfl rfl ?_
      exact e_retT (by rw [g1] at b6; rw [g2] at b15; exact decide_eq_true ⟨by omega, by omega⟩) hp
theorem c_isRight {i : Nat} (hT : kTx M t) (ho : txOk t) (hi : i < t.1) (hp : P (some (.int (bI (rtB t i)))) M) : Ev 88 (d + 3) mX5_isRight none 0 [.ref 1, .int (nI i)] [] M P := by
  have h1 := hT.1
  have h4 := ho.1
  by_cases h0 : i = 0
  · subst h0
    have e : rtB t 0 = decide (t.2 0 = 66) := rfl
    have hb := ho.2 0 hi
    rw [e] at hp
    refine ev_iload_n (i := 1) dX5_isRight_0 rfl rfl ?_
    refine ev_if_neN 20 dX5_isRight_1 (by decide) (by omega) (fun b1 => by exfalso; omega) (fun b1 => ?_)
    refine ev_aload_n (i := 0) dX5_isRight_4 rfl rfl ?_
    refine ev_iconst (v := nI 0) dX5_isRight_5 rfl ?_
    refine ev_V1 (μ1 := mX5_byteAt) dX5_isRight_6 sX5_19 okX5_byteAt (by first | omega | decide) (by first | assumption | (simp (disch := omega) only [mu_s, mu_n]; first | assumption | rfl)) (Nat.le_of_ble_eq_true rfl) (Nat.le_of_ble_eq_true rfl) ?_
    refine c_byteAt hT ho hi ?_
    refine ev_bipush (v := nI 66) dX5_isRight_9 rfl ?_
    refine ev_icmp_neN 18 dX5_isRight_11 (by decide) (by omega) (by omega) (fun b11 => ?_) (fun b11 => ?_)
    · skip
      refine ev_iconst (v := nI 0) dX5_isRight_18 rfl ?_
      refine ev_reti dX5_isRight_19 rfl rfl ?_
      exact e_retF (decide_eq_false b11) hp
    · skip
      refine ev_iconst (v := nI 1) dX5_isRight_14 rfl ?_
      refine ev_goto 19 dX5_isRight_15 (by decide) ?_
      refine ev_reti dX5_isRight_19 rfl rfl ?_
      exact e_retT (decide_eq_true b11) hp
  · by_cases h30 : 30 < i
    · have e : rtB t i = false := by unfold rtB; rw [if_neg h0, if_pos h30]
      refine ev_iload_n (i := 1) dX5_isRight_0 rfl rfl ?_
      refine ev_if_neN 20 dX5_isRight_1 (by decide) (by omega) (fun b1 => ?_) (fun b1 => by exfalso; omega)
      refine ev_iload_n (i := 1) dX5_isRight_20 rfl rfl ?_
      refine ev_bipush (v := nI 30) dX5_isRight_21 rfl ?_
      refine ev_icmp_leN 28 dX5_isRight_23 (by decide) (by omega) (by omega) (fun b23 => by exfalso; omega) (fun b23 => ?_)
      refine ev_iconst (v := nI 0) dX5_isRight_26 rfl ?_
      refine ev_reti dX5_isRight_27 rfl rfl ?_
      exact e_retF (e) hp
    · have e : rtB t i = (match (i - 1) % 5 with | 0 => decide (t.2 i = 76) | 1 => fgB (t.2 i) 0 8 | 2 => fgB (t.2 i) 1 9 | 3 => fgB (t.2 i) 1 3 | _ => fgB (t.2 i) 0 3) := by unfold rtB; rw [if_neg h0, if_neg h30]
      have hb := ho.2 i hi
      rw [e] at hp
      rcases (show (i - 1) % 5 = 0 ∨ (i - 1) % 5 = 1 ∨ (i - 1) % 5 = 2 ∨ (i - 1) % 5 = 3 ∨ (i - 1) % 5 = 4 by omega) with hr | hr | hr | hr | hr
      · rw [hr] at hp
        refine ev_iload_n (i := 1) dX5_isRight_0 rfl rfl ?_
        refine ev_if_neN 20 dX5_isRight_1 (by decide) (by omega) (fun b1 => ?_) (fun b1 => by exfalso; omega)
        refine ev_iload_n (i := 1) dX5_isRight_20 rfl rfl ?_
        refine ev_bipush (v := nI 30) dX5_isRight_21 rfl ?_
        refine ev_icmp_leN 28 dX5_isRight_23 (by decide) (by omega) (by omega) (fun b23 => ?_) (fun b23 => by exfalso; omega)
        refine ev_iload_n (i := 1) dX5_isRight_28 rfl rfl ?_
        refine ev_iconst (v := nI 1) dX5_isRight_29 rfl ?_
        refine ev_isubN dX5_isRight_30 (by omega) ?_
        refine ev_iconst (v := nI 5) dX5_isRight_31 rfl ?_
        refine ev_iremN dX5_isRight_32 (by omega) (by omega) (by omega) ?_
        refine ev_top (i_op (congrArg nI hr)) ?_
        refine ev_tsw_in (off := 31) 64 dX5_isRight_33 (by decide) (by decide) (by decide) (by decide) ?_
        refine ev_aload_n (i := 0) dX5_isRight_64 rfl rfl ?_
        refine ev_iload_n (i := 1) dX5_isRight_65 rfl rfl ?_
        refine ev_V1 (μ1 := mX5_byteAt) dX5_isRight_66 sX5_19 okX5_byteAt (by first | omega | decide) (by first | assumption | (simp (disch := omega) only [mu_s, mu_n]; first | assumption | rfl)) (Nat.le_of_ble_eq_true rfl) (Nat.le_of_ble_eq_true rfl) ?_
        refine c_byteAt hT ho hi ?_
        refine ev_bipush (v := nI 76) dX5_isRight_69 rfl ?_
        refine ev_icmp_neN 78 dX5_isRight_71 (by decide) (by omega) (by omega) (fun b71 => ?_) (fun b71 => ?_)
        · skip
          refine ev_iconst (v := nI 0) dX5_isRight_78 rfl ?_
          refine ev_reti dX5_isRight_79 rfl rfl ?_
          exact e_retF (decide_eq_false b71) hp
        · skip
          refine ev_iconst (v := nI 1) dX5_isRight_74 rfl ?_
          refine ev_goto 79 dX5_isRight_75 (by decide) ?_
          refine ev_reti dX5_isRight_79 rfl rfl ?_
          exact e_retT (decide_eq_true b71) hp
      · rw [hr] at hp
        refine ev_iload_n (i := 1) dX5_isRight_0 rfl rfl ?_
        refine ev_if_neN 20 dX5_isRight_1 (by decide) (by omega) (fun b1 => ?_) (fun b1 => by exfalso; omega)
        refine ev_iload_n (i := 1) dX5_isRight_20 rfl rfl ?_
        refine ev_bipush (v := nI 30) dX5_isRight_21 rfl ?_
        refine ev_icmp_leN 28 dX5_isRight_23 (by decide) (by omega) (by omega) (fun b23 => ?_) (fun b23 => by exfalso; omega)
        refine ev_iload_n (i := 1) dX5_isRight_28 rfl rfl ?_
        refine ev_iconst (v := nI 1) dX5_isRight_29 rfl ?_
        refine ev_isubN dX5_isRight_30 (by omega) ?_
        refine ev_iconst (v := nI 5) dX5_isRight_31 rfl ?_
        refine ev_iremN dX5_isRight_32 (by omega) (by omega) (by omega) ?_
        refine ev_top (i_op (congrArg nI hr)) ?_
        refine ev_tsw_in (off := 47) 80 dX5_isRight_33 (by decide) (by decide) (by decide) (by decide) ?_
        refine ev_aload_n (i := 0) dX5_isRight_80 rfl rfl ?_
        refine ev_iload_n (i := 1) dX5_isRight_81 rfl rfl ?_
        refine ev_iconst (v := nI 0) dX5_isRight_82 rfl ?_
        refine ev_bipush (v := nI 8) dX5_isRight_83 rfl ?_
        refine ev_V3 (μ1 := mX5_isFigure) dX5_isRight_85 sX5_27 okX5_isFigure (by first | omega | decide) (by first | assumption | (simp (disch := omega) only [mu_s, mu_n]; first | assumption | rfl)) (Nat.le_of_ble_eq_true rfl) (Nat.le_of_ble_eq_true rfl) ?_
        refine c_isFigure hT ho hi (by decide) (by decide) ?_
        refine ev_reti dX5_isRight_88 rfl (bI_nar _) ?_
        exact hp
      · rw [hr] at hp
        refine ev_iload_n (i := 1) dX5_isRight_0 rfl rfl ?_
        refine ev_if_neN 20 dX5_isRight_1 (by decide) (by omega) (fun b1 => ?_) (fun b1 => by exfalso; omega)
        refine ev_iload_n (i := 1) dX5_isRight_20 rfl rfl ?_
        refine ev_bipush (v := nI 30) dX5_isRight_21 rfl ?_
        refine ev_icmp_leN 28 dX5_isRight_23 (by decide) (by omega) (by omega) (fun b23 => ?_) (fun b23 => by exfalso; omega)
        refine ev_iload_n (i := 1) dX5_isRight_28 rfl rfl ?_
        refine ev_iconst (v := nI 1) dX5_isRight_29 rfl ?_
        refine ev_isubN dX5_isRight_30 (by omega) ?_
        refine ev_iconst (v := nI 5) dX5_isRight_31 rfl ?_
        refine ev_iremN dX5_isRight_32 (by omega) (by omega) (by omega) ?_
        refine ev_top (i_op (congrArg nI hr)) ?_
        refine ev_tsw_in (off := 56) 89 dX5_isRight_33 (by decide) (by decide) (by decide) (by decide) ?_
        refine ev_aload_n (i := 0) dX5_isRight_89 rfl rfl ?_
        refine ev_iload_n (i := 1) dX5_isRight_90 rfl rfl ?_
        refine ev_iconst (v := nI 1) dX5_isRight_91 rfl ?_
        refine ev_bipush (v := nI 9) dX5_isRight_92 rfl ?_
        refine ev_V3 (μ1 := mX5_isFigure) dX5_isRight_94 sX5_27 okX5_isFigure (by first | omega | decide) (by first | assumption | (simp (disch := omega) only [mu_s, mu_n]; first | assumption | rfl)) (Nat.le_of_ble_eq_true rfl) (Nat.le_of_ble_eq_true rfl) ?_
        refine c_isFigure hT ho hi (by decide) (by decide) ?_
        refine ev_reti dX5_isRight_97 rfl (bI_nar _) ?_
        exact hp
      · rw [hr] at hp
        refine ev_iload_n (i := 1) dX5_isRight_0 rfl rfl ?_
        refine ev_if_neN 20 dX5_isRight_1 (by decide) (by omega) (fun b1 => ?_) (fun b1 => by exfalso; omega)
        refine ev_iload_n (i := 1) dX5_isRight_20 rfl rfl ?_
        refine ev_bipush (v := nI 30) dX5_isRight_21 rfl ?_
        refine ev_icmp_leN 28 dX5_isRight_23 (by decide) (by omega) (by omega) (fun b23 => ?_) (fun b23 => by exfalso; omega)
        refine ev_iload_n (i := 1) dX5_isRight_28 rfl rfl ?_
        refine ev_iconst (v := nI 1) dX5_isRight_29 rfl ?_
        refine ev_isubN dX5_isRight_30 (by omega) ?_
        refine ev_iconst (v := nI 5) dX5_isRight_31 rfl ?_
        refine ev_iremN dX5_isRight_32 (by omega) (by omega) (by omega) ?_
        refine ev_top (i_op (congrArg nI hr)) ?_
        refine ev_tsw_in (off := 65) 98 dX5_isRight_33 (by decide) (by decide) (by decide) (by decide) ?_
        refine ev_aload_n (i := 0) dX5_isRight_98 rfl rfl ?_
        refine ev_iload_n (i := 1) dX5_isRight_99 rfl rfl ?_
        refine ev_iconst (v := nI 1) dX5_isRight_100 rfl ?_
        refine ev_iconst (v := nI 3) dX5_isRight_101 rfl ?_
        refine ev_V3 (μ1 := mX5_isFigure) dX5_isRight_102 sX5_27 okX5_isFigure (by first | omega | decide) (by first | assumption | (simp (disch := omega) only [mu_s, mu_n]; first | assumption | rfl)) (Nat.le_of_ble_eq_true rfl) (Nat.le_of_ble_eq_true rfl) ?_
        refine c_isFigure hT ho hi (by decide) (by decide) ?_
        refine ev_reti dX5_isRight_105 rfl (bI_nar _) ?_
        exact hp
      · rw [hr] at hp
        refine ev_iload_n (i := 1) dX5_isRight_0 rfl rfl ?_
        refine ev_if_neN 20 dX5_isRight_1 (by decide) (by omega) (fun b1 => ?_) (fun b1 => by exfalso; omega)
        refine ev_iload_n (i := 1) dX5_isRight_20 rfl rfl ?_
        refine ev_bipush (v := nI 30) dX5_isRight_21 rfl ?_
        refine ev_icmp_leN 28 dX5_isRight_23 (by decide) (by omega) (by omega) (fun b23 => ?_) (fun b23 => by exfalso; omega)
        refine ev_iload_n (i := 1) dX5_isRight_28 rfl rfl ?_
        refine ev_iconst (v := nI 1) dX5_isRight_29 rfl ?_
        refine ev_isubN dX5_isRight_30 (by omega) ?_
        refine ev_iconst (v := nI 5) dX5_isRight_31 rfl ?_
        refine ev_iremN dX5_isRight_32 (by omega) (by omega) (by omega) ?_
        refine ev_top (i_op (congrArg nI hr)) ?_
        refine ev_tsw_out 106 dX5_isRight_33 (Or.inr (by decide)) (by decide) ?_
        refine ev_aload_n (i := 0) dX5_isRight_106 rfl rfl ?_
        refine ev_iload_n (i := 1) dX5_isRight_107 rfl rfl ?_
        refine ev_iconst (v := nI 0) dX5_isRight_108 rfl ?_
        refine ev_iconst (v := nI 3) dX5_isRight_109 rfl ?_
        refine ev_V3 (μ1 := mX5_isFigure) dX5_isRight_110 sX5_27 okX5_isFigure (by first | omega | decide) (by first | assumption | (simp (disch := omega) only [mu_s, mu_n]; first | assumption | rfl)) (Nat.le_of_ble_eq_true rfl) (Nat.le_of_ble_eq_true rfl) ?_
        refine c_isFigure hT ho hi (by decide) (by decide) ?_
        refine ev_reti dX5_isRight_113 rfl (bI_nar _) ?_
        exact hp
theorem c_firstFault (hT : kTx M t) (ho : txOk t) (hp : P (some (.int (oI (fltN t)))) M) : Ev 88 (d + 4) mX5_firstFault none 0 [.ref 1, .null] [] M P := by
  have h1 := hT.1
  have h4 := ho.1
  have lp : ∀ (j c : Nat), c + j = t.1 → lf (fun i => !rtB t i) t.1 0 = lf (fun i => !rtB t i) j c → Ev 88 (d + 4) mX5_firstFault none 2 [.ref 1, .int (nI c)] [] M P := by
    intro j
    induction j with
    | zero =>
      intro c hc e
      obtain rfl : c = t.1 := by omega
      unfold fltN at hp
      rw [show lf (fun i => !rtB t i) t.1 0 = none from e] at hp
      by_cases h0 : 0 < t.1
      · by_cases h5 : (t.1 - 1) % 5 = 0
        · have hp : P (some (.int (oI (if 0 < t.1 ∧ (t.1 - 1) % 5 = 0 then none else some t.1)))) M := hp
          rw [if_pos ⟨h0, h5⟩] at hp
          refine ev_iload_n (i := 1) dX5_firstFault_2 rfl rfl ?_
          refine ev_aload_n (i := 0) dX5_firstFault_3 rfl rfl ?_
          refine ev_getfield dX5_firstFault_4 fX5_15 (by first | omega | decide) (by first | assumption | (simp (disch := omega) only [mu_s, mu_n]; first | assumption | rfl)) (by rfl) ?_
          refine ev_icmp_geN 26 dX5_firstFault_7 (by decide) (by omega) (by omega) (fun b7 => ?_) (fun b7 => by exfalso; omega)
          refine ev_aload_n (i := 0) dX5_firstFault_26 rfl rfl ?_
          refine ev_getfield dX5_firstFault_27 fX5_15 (by first | omega | decide) (by first | assumption | (simp (disch := omega) only [mu_s, mu_n]; first | assumption | rfl)) (by rfl) ?_
          refine ev_if_leN 49 dX5_firstFault_30 (by decide) (by omega) (fun b30 => by exfalso; omega) (fun b30 => ?_)
          refine ev_aload_n (i := 0) dX5_firstFault_33 rfl rfl ?_
          refine ev_getfield dX5_firstFault_34 fX5_15 (by first | omega | decide) (by first | assumption | (simp (disch := omega) only [mu_s, mu_n]; first | assumption | rfl)) (by rfl) ?_
          refine ev_iconst (v := nI 1) dX5_firstFault_37 rfl ?_
          refine ev_isubN dX5_firstFault_38 (by omega) ?_
          refine ev_iconst (v := nI 5) dX5_firstFault_39 rfl ?_
          refine ev_iremN dX5_firstFault_40 (by omega) (by omega) (by omega) ?_
          refine ev_if_neN 49 dX5_firstFault_41 (by decide) (by omega) (fun b41 => by exfalso; omega) (fun b41 => ?_)
          refine ev_bipush (v := (-9)) dX5_firstFault_44 rfl ?_
          refine ev_goto 53 dX5_firstFault_46 (by decide) ?_
          refine ev_reti dX5_firstFault_53 rfl rfl ?_
          exact hp
        · have hp : P (some (.int (oI (if 0 < t.1 ∧ (t.1 - 1) % 5 = 0 then none else some t.1)))) M := hp
          rw [if_neg (fun z => h5 z.2)] at hp
          refine ev_iload_n (i := 1) dX5_firstFault_2 rfl rfl ?_
          refine ev_aload_n (i := 0) dX5_firstFault_3 rfl rfl ?_
          refine ev_getfield dX5_firstFault_4 fX5_15 (by first | omega | decide) (by first | assumption | (simp (disch := omega) only [mu_s, mu_n]; first | assumption | rfl)) (by rfl) ?_
          refine ev_icmp_geN 26 dX5_firstFault_7 (by decide) (by omega) (by omega) (fun b7 => ?_) (fun b7 => by exfalso; omega)
          refine ev_aload_n (i := 0) dX5_firstFault_26 rfl rfl ?_
          refine ev_getfield dX5_firstFault_27 fX5_15 (by first | omega | decide) (by first | assumption | (simp (disch := omega) only [mu_s, mu_n]; first | assumption | rfl)) (by rfl) ?_
          refine ev_if_leN 49 dX5_firstFault_30 (by decide) (by omega) (fun b30 => by exfalso; omega) (fun b30 => ?_)
          refine ev_aload_n (i := 0) dX5_firstFault_33 rfl rfl ?_
          refine ev_getfield dX5_firstFault_34 fX5_15 (by first | omega | decide) (by first | assumption | (simp (disch := omega) only [mu_s, mu_n]; first | assumption | rfl)) (by rfl) ?_
          refine ev_iconst (v := nI 1) dX5_firstFault_37 rfl ?_
          refine ev_isubN dX5_firstFault_38 (by omega) ?_
          refine ev_iconst (v := nI 5) dX5_firstFault_39 rfl ?_
          refine ev_iremN dX5_firstFault_40 (by omega) (by omega) (by omega) ?_
          refine ev_if_neN 49 dX5_firstFault_41 (by decide) (by omega) (fun b41 => ?_) (fun b41 => by exfalso; omega)
          refine ev_aload_n (i := 0) dX5_firstFault_49 rfl rfl ?_
          refine ev_getfield dX5_firstFault_50 fX5_15 (by first | omega | decide) (by first | assumption | (simp (disch := omega) only [mu_s, mu_n]; first | assumption | rfl)) (by rfl) ?_
          refine ev_reti dX5_firstFault_53 rfl rfl ?_
          exact hp
      · have hp : P (some (.int (oI (if 0 < t.1 ∧ (t.1 - 1) % 5 = 0 then none else some t.1)))) M := hp
        rw [if_neg (fun z => h0 z.1)] at hp
        refine ev_iload_n (i := 1) dX5_firstFault_2 rfl rfl ?_
        refine ev_aload_n (i := 0) dX5_firstFault_3 rfl rfl ?_
        refine ev_getfield dX5_firstFault_4 fX5_15 (by first | omega | decide) (by first | assumption | (simp (disch := omega) only [mu_s, mu_n]; first | assumption | rfl)) (by rfl) ?_
        refine ev_icmp_geN 26 dX5_firstFault_7 (by decide) (by omega) (by omega) (fun b7 => ?_) (fun b7 => by exfalso; omega)
        refine ev_aload_n (i := 0) dX5_firstFault_26 rfl rfl ?_
        refine ev_getfield dX5_firstFault_27 fX5_15 (by first | omega | decide) (by first | assumption | (simp (disch := omega) only [mu_s, mu_n]; first | assumption | rfl)) (by rfl) ?_
        refine ev_if_leN 49 dX5_firstFault_30 (by decide) (by omega) (fun b30 => ?_) (fun b30 => by exfalso; omega)
        refine ev_aload_n (i := 0) dX5_firstFault_49 rfl rfl ?_
        refine ev_getfield dX5_firstFault_50 fX5_15 (by first | omega | decide) (by first | assumption | (simp (disch := omega) only [mu_s, mu_n]; first | assumption | rfl)) (by rfl) ?_
        refine ev_reti dX5_firstFault_53 rfl rfl ?_
        exact hp
    | succ j ih =>
      intro c hc e
      refine ev_iload_n (i := 1) dX5_firstFault_2 rfl rfl ?_
      refine ev_aload_n (i := 0) dX5_firstFault_3 rfl rfl ?_
      refine ev_getfield dX5_firstFault_4 fX5_15 (by first | omega | decide) (by first | assumption | (simp (disch := omega) only [mu_s, mu_n]; first | assumption | rfl)) (by rfl) ?_
      refine ev_icmp_geN 26 dX5_firstFault_7 (by decide) (by omega) (by omega) (fun b7 => by exfalso; omega) (fun b7 => ?_)
      refine ev_aload_n (i := 0) dX5_firstFault_10 rfl rfl ?_
      refine ev_iload_n (i := 1) dX5_firstFault_11 rfl rfl ?_
      refine ev_V1 (μ1 := mX5_isRight) dX5_firstFault_12 sX5_23 okX5_isRight (by first | omega | decide) (by first | assumption | (simp (disch := omega) only [mu_s, mu_n]; first | assumption | rfl)) (Nat.le_of_ble_eq_true rfl) (Nat.le_of_ble_eq_true rfl) ?_
      refine c_isRight hT ho (by omega) ?_
      refine ev_if_neB 20 dX5_firstFault_15 (by decide) (fun b15 => ?_) (fun b15 => ?_)
      · skip
        refine ev_incN dX5_firstFault_20 (by rfl) (by decide) rfl ?_
        refine ev_goto 2 dX5_firstFault_23 (by decide) ?_
        exact ih _ (by omega) (e.trans (lf_f (by rw [b15]; rfl)))
      · skip
        refine ev_iload_n (i := 1) dX5_firstFault_18 rfl rfl ?_
        refine ev_reti dX5_firstFault_19 rfl rfl ?_
        rw [lf_t (by rw [b15]; rfl)] at e
        unfold fltN at hp
        rw [e] at hp
        exact hp
  refine ev_iconst (v := nI 0) dX5_firstFault_0 rfl ?_
  refine ev_istore_n (i := 1) dX5_firstFault_1 rfl (by decide) rfl ?_
  exact lp t.1 0 (by omega) rfl
end TXT
end
section
/-! ===== over ===== -/
abbrev ov : Type := Nat × (Nat → Nat) × (Nat → Nat)
def ovOk (v : ov) : Prop := v.1 ≤ 6 ∧ ∀ i, i < v.1 → v.2.1 i < 6 ∧ v.2.2 i < 6
def kOv (M : mM) (v : ov) : Prop := M 58 = .inr (2, [.ref 59, .ref 60, .ref 61, .int (nI v.1)]) ∧ arr M 59 6 v.1 v.2.1 ∧ arr M 60 6 v.1 v.2.2 ∧ ∃ w, M 61 = .inl (0, 64, .inl w)
def ovAdd (v : ov) (a b : Nat) : ov := (v.1 + 1, fun i => if i = v.1 then a else v.2.1 i, fun i => if i = v.1 then b else v.2.2 i)
theorem ovAdd_ok {v : ov} {a b : Nat} (h : ovOk v) (hl : v.1 < 6) (ha : a < 6) (hb : b < 6) : ovOk (ovAdd v a b) := by
  refine ⟨hl, fun i hi => ?_⟩
  have hi : i < v.1 + 1 := hi
  show (if i = v.1 then a else v.2.1 i) < 6 ∧ (if i = v.1 then b else v.2.2 i) < 6
  by_cases e : i = v.1
  · rw [if_pos e, if_pos e]; exact ⟨ha, hb⟩
  · rw [if_neg e, if_neg e]; exact h.2 i (by omega)
theorem arr_ag {M M1 : mM} {i n m a b : Nat} {g : Nat → Nat} (h : arr M i n m g) (hg : ag M M1 a b) (hx : b ≤ i ∨ i < a) : arr M1 i n m g := by
  obtain ⟨f, h1, h2⟩ := h
  exact ⟨f, (hg _ (by omega)).trans h1, h2⟩
theorem kOv_ag {M M1 : mM} {a b : Nat} {v : ov} (h : kOv M v) (hg : ag M M1 a b) (hx : b ≤ 58 ∨ 62 ≤ a) : kOv M1 v := by
  obtain ⟨h1, h2, h3, w, h4⟩ := h
  exact ⟨(hg _ (by omega)).trans h1, arr_ag h2 hg (by omega), arr_ag h3 hg (by omega), w, (hg _ (by omega)).trans h4⟩
def andn (a b : Nat) : Nat := (a ||| b) ^^^ b
theorem andn_tb (a b i : Nat) : (andn a b).testBit i = (a.testBit i && !b.testBit i) := by
  unfold andn
  rw [Nat.testBit_xor, Nat.testBit_or]
  cases a.testBit i <;> cases b.testBit i <;> rfl
theorem andn_nI (a b : Nat) : nI a &&& (nI b ^^^ (-1)) = nI (andn a b) := by
  apply Int32.toBitVec_inj.1
  apply BitVec.eq_of_getLsbD_eq
  intro i hi
  have e1 : (-1 : Int32).toBitVec.getLsbD i = true := by
    have h0 : (-1 : Int32).toBitVec = BitVec.allOnes 32 := by decide
    rw [h0, BitVec.getLsbD_allOnes]; exact decide_eq_true hi
  have e2 : ∀ n : Nat, (nI n).toBitVec.getLsbD i = n.testBit i := fun n => by
    show (BitVec.ofNat 32 n).getLsbD i = n.testBit i
    rw [BitVec.getLsbD_ofNat]
    simp [hi]
  rw [Int32.toBitVec_and, BitVec.getLsbD_and, Int32.toBitVec_xor, BitVec.getLsbD_xor, e1, e2, e2, e2, andn_tb]
  cases b.testBit i <;> simp
theorem andn_le (a b : Nat) : andn a b ≤ a := by
  apply Nat.le_of_testBit
  intro i h
  rw [andn_tb, Bool.and_eq_true] at h
  exact h.1
/-- those that a letter lies over -/
def sbN (v : ov) (n l : Nat) : Nat := oN (fun i => decide (v.2.1 i = l) && decide (v.2.2 i < n)) (fun i => 2 ^ v.2.2 i) v.1
theorem sbN_lt {v : ov} (h : ovOk v) (n l : Nat) : sbN v n l < 64 := oN_lt (w := 6) (fun i hi => Nat.pow_lt_pow_right (by decide) (h.2 i hi).2)
def cfB (v : ov) (n pr l : Nat) : Bool := !pr.testBit l && decide (andn (sbN v n l) pr = 0)
/-- the table of the numbers of orders, below k -/
def wtN (v : ov) (n : Nat) : Nat → Nat → Nat
  | 0 => fun _ => 0
  | k + 1 => fun s => if s = k then (if k = 0 then 1 else sN (fun l => if k.testBit l = true ∧ cfB v n (andn k (2 ^ l)) l = true then wtN v n k (andn k (2 ^ l)) else 0) n) else wtN v n k s
def hmN (v : ov) (n : Nat) : Nat := wtN v n (2 ^ n) (2 ^ n - 1)
def foN (v : ov) (n : Nat) : Nat → Nat → Nat → Option Nat
  | 0, _, fg => some fg
  | j + 1, pr, fg => match lf (cfB v n pr) n 0 with
    | none => none
    | some l => foN v n j (pr ||| 2 ^ l) (10 * fg + l + 1)
section OVE
variable {d : Nat} {M : mM} {P : Option Value → mM → Prop} {v : ov}
theorem c_oAdd0 {a b : Nat} (hV : kOv M v) (ho : ovOk v) (hl : ¬ v.1 < 6) (hp : P (some (.int (bI false))) M) : Ev 88 d mX2_add none 0 [.ref 58, .int (nI a), .int (nI b)] [] M P := by
  have h1 := hV.1
  have h4 := ho.1
  refine ev_aload_n (i := 0) dX2_add_0 rfl rfl ?_
  refine ev_getfield dX2_add_1 fX2_21 (by first | omega | decide) (by first | assumption | (simp (disch := omega) only [mu_s, mu_n]; first | assumption | rfl)) (by rfl) ?_
  refine ev_if_ltN 16 dX2_add_4 (by decide) (by omega) (fun b4 => by exfalso; omega) (fun b4 => ?_)
  refine ev_aload_n (i := 0) dX2_add_7 rfl rfl ?_
  refine ev_getfield dX2_add_8 fX2_21 (by first | omega | decide) (by first | assumption | (simp (disch := omega) only [mu_s, mu_n]; first | assumption | rfl)) (by rfl) ?_
  refine ev_bipush (v := nI 6) dX2_add_11 rfl ?_
  refine ev_icmp_ltN 18 dX2_add_13 (by decide) (by omega) (by omega) (fun b13 => by exfalso; omega) (fun b13 => ?_)
  refine ev_iconst (v := nI 0) dX2_add_16 rfl ?_
  refine ev_reti dX2_add_17 rfl rfl ?_
  exact e_retF (rfl) hp
theorem c_oAdd1 {a b : Nat} (hV : kOv M v) (ho : ovOk v) (hl : v.1 < 6) (hp : ∀ M1, ag M M1 58 61 → kOv M1 (ovAdd v a b) → P (some (.int (bI true))) M1) : Ev 88 d mX2_add none 0 [.ref 58, .int (nI a), .int (nI b)] [] M P := by
  obtain ⟨h1, ⟨f, h2, h3⟩, ⟨g, h5, h6⟩, w, h7⟩ := hV
  have h4 := ho.1
  refine ev_aload_n (i := 0) dX2_add_0 rfl rfl ?_
  refine ev_getfield dX2_add_1 fX2_21 (by first | omega | decide) (by first | assumption | (simp (disch := omega) only [mu_s, mu_n]; first | assumption | rfl)) (by rfl) ?_
  refine ev_if_ltN 16 dX2_add_4 (by decide) (by omega) (fun b4 => by exfalso; omega) (fun b4 => ?_)
  refine ev_aload_n (i := 0) dX2_add_7 rfl rfl ?_
  refine ev_getfield dX2_add_8 fX2_21 (by first | omega | decide) (by first | assumption | (simp (disch := omega) only [mu_s, mu_n]; first | assumption | rfl)) (by rfl) ?_
  refine ev_bipush (v := nI 6) dX2_add_11 rfl ?_
  refine ev_icmp_ltN 18 dX2_add_13 (by decide) (by omega) (by omega) (fun b13 => ?_) (fun b13 => by exfalso; omega)
  refine ev_aload_n (i := 0) dX2_add_18 rfl rfl ?_
  refine ev_getfield dX2_add_19 fX2_9 (by first | omega | decide) (by first | assumption | (simp (disch := omega) only [mu_s, mu_n]; first | assumption | rfl)) (by rfl) ?_
  refine ev_aload_n (i := 0) dX2_add_22 rfl rfl ?_
  refine ev_getfield dX2_add_23 fX2_21 (by first | omega | decide) (by first | assumption | (simp (disch := omega) only [mu_s, mu_n]; first | assumption | rfl)) (by rfl) ?_
  refine ev_iload_n (i := 1) dX2_add_26 rfl rfl ?_
  refine ev_iastoreN dX2_add_27 (by first | omega | decide) (by first | assumption | (simp (disch := omega) only [mu_s, mu_n]; first | assumption | rfl)) (by omega) (by decide) ?_
  refine ev_aload_n (i := 0) dX2_add_28 rfl rfl ?_
  refine ev_getfield dX2_add_29 fX2_15 (by first | omega | decide) (by first | assumption | (simp (disch := omega) only [mu_s, mu_n]; first | assumption | rfl)) (by rfl) ?_
  refine ev_aload_n (i := 0) dX2_add_32 rfl rfl ?_
  refine ev_getfield dX2_add_33 fX2_21 (by first | omega | decide) (by first | assumption | (simp (disch := omega) only [mu_s, mu_n]; first | assumption | rfl)) (by rfl) ?_
  refine ev_iload_n (i := 2) dX2_add_36 rfl rfl ?_
  refine ev_iastoreN dX2_add_37 (by first | omega | decide) (by first | assumption | (simp (disch := omega) only [mu_s, mu_n]; first | assumption | rfl)) (by omega) (by decide) ?_
  refine ev_aload_n (i := 0) dX2_add_38 rfl rfl ?_
  refine ev_dup dX2_add_39 rfl ?_
  refine ev_getfield dX2_add_40 fX2_21 (by first | omega | decide) (by first | assumption | (simp (disch := omega) only [mu_s, mu_n]; first | assumption | rfl)) (by rfl) ?_
  refine ev_iconst (v := nI 1) dX2_add_43 rfl ?_
  refine ev_iaddN dX2_add_44 ?_
  refine ev_putI dX2_add_45 fwX2_21 (by first | omega | decide) (by first | assumption | (simp (disch := omega) only [mu_s, mu_n]; first | assumption | rfl)) (Nat.le_of_ble_eq_true rfl) ?_
  refine ev_iconst (v := nI 1) dX2_add_48 rfl ?_
  refine ev_reti dX2_add_49 rfl (rfl) ?_
  refine hp _ (ag_mu (ag_mu (ag_mu (ag_rf M _ _) (by omega) (by omega)) (by omega) (by omega)) (by omega) (by omega)) ⟨mu_s _ _ _, ⟨_, (mu_n (by omega)).trans ((mu_n (by omega)).trans (mu_s _ _ _)), fun i hi => ?_⟩, ⟨_, (mu_n (by omega)).trans (mu_s _ _ _), fun i hi => ?_⟩, w, (mu_n (by omega)).trans ((mu_n (by omega)).trans ((mu_n (by omega)).trans h7))⟩
  · have hi : i < v.1 + 1 := hi
    show (if i = v.1 then nI a else f i) = nI (if i = v.1 then a else v.2.1 i)
    split
    · rfl
    · exact h3 i (by omega)
  · have hi : i < v.1 + 1 := hi
    show (if i = v.1 then nI b else g i) = nI (if i = v.1 then b else v.2.2 i)
    split
    · rfl
    · exact h6 i (by omega)
theorem c_setBelow {l n : Nat} (hV : kOv M v) (ho : ovOk v) (hl : l < 2 ^ 31) (hn : n < 2 ^ 31) (hp : P (some (.int (nI (sbN v n l)))) M) : Ev 88 d mX2_setBelow none 0 [.ref 58, .int (nI l), .int (nI n), .null, .null] [] M P := by
  obtain ⟨h1, ⟨f, h2, h3⟩, ⟨g, h5, h6⟩, w, h7⟩ := hV
  have h4 := ho.1
  have lp : ∀ (j c acc : Nat), c + j = v.1 → acc = oN (fun i => decide (v.2.1 i = l) && decide (v.2.2 i < n)) (fun i => 2 ^ v.2.2 i) c → Ev 88 d mX2_setBelow none 5 [.ref 58, .int (nI l), .int (nI n), .int (nI acc), .int (nI c)] [] M P := by
    intro j
    induction j with
    | zero =>
      intro c acc hc ha
      obtain rfl : c = v.1 := by omega
      subst ha
      refine ev_iload (i := 4) dX2_setBelow_5 rfl ?_
      refine ev_aload_n (i := 0) dX2_setBelow_7 rfl rfl ?_
      refine ev_getfield dX2_setBelow_8 fX2_21 (by first | omega | decide) (by first | assumption | (simp (disch := omega) only [mu_s, mu_n]; first | assumption | rfl)) (by rfl) ?_
      refine ev_icmp_geN 61 dX2_setBelow_11 (by decide) (by omega) (by omega) (fun b11 => ?_) (fun b11 => by exfalso; omega)
      refine ev_iload_n (i := 3) dX2_setBelow_61 rfl rfl ?_
      refine ev_reti dX2_setBelow_62 rfl rfl ?_
      exact hp
    | succ j ih =>
      intro c acc hc ha
      obtain ⟨hu, hw⟩ := ho.2 c (by omega)
      have e1 := h3 c (by omega)
      have e2 := h6 c (by omega)
      refine ev_iload (i := 4) dX2_setBelow_5 rfl ?_
      refine ev_aload_n (i := 0) dX2_setBelow_7 rfl rfl ?_
      refine ev_getfield dX2_setBelow_8 fX2_21 (by first | omega | decide) (by first | assumption | (simp (disch := omega) only [mu_s, mu_n]; first | assumption | rfl)) (by rfl) ?_
      refine ev_icmp_geN 61 dX2_setBelow_11 (by decide) (by omega) (by omega) (fun b11 => by exfalso; omega) (fun b11 => ?_)
      refine ev_iload (i := 4) dX2_setBelow_14 rfl ?_
      refine ev_bipush (v := nI 6) dX2_setBelow_16 rfl ?_
      refine ev_icmp_geN 61 dX2_setBelow_18 (by decide) (by omega) (by omega) (fun b18 => by exfalso; omega) (fun b18 => ?_)
      refine ev_aload_n (i := 0) dX2_setBelow_21 rfl rfl ?_
      refine ev_getfield dX2_setBelow_22 fX2_9 (by first | omega | decide) (by first | assumption | (simp (disch := omega) only [mu_s, mu_n]; first | assumption | rfl)) (by rfl) ?_
      refine ev_iload (i := 4) dX2_setBelow_25 rfl ?_
      refine ev_ialoadN dX2_setBelow_27 (by first | omega | decide) (by first | assumption | (simp (disch := omega) only [mu_s, mu_n]; first | assumption | rfl)) (by omega) (by decide) ?_
      refine ev_top (i_op e1) ?_
      refine ev_iload_n (i := 1) dX2_setBelow_28 rfl rfl ?_
      refine ev_icmp_neN 55 dX2_setBelow_29 (by decide) (by omega) (by omega) (fun b29 => ?_) (fun b29 => ?_)
      · skip
        refine ev_incN dX2_setBelow_55 (by rfl) (by decide) rfl ?_
        refine ev_goto 5 dX2_setBelow_58 (by decide) ?_
        first
        | (have q : v.2.1 c ≠ l := b29
           exact ih _ _ (by omega) (ha.trans (oN_f (by simp [q]))))
        | (have q : n ≤ v.2.2 c := b40
           exact ih _ _ (by omega) (ha.trans (oN_f (by simp; omega))))
        | exact ih _ _ (by omega) (by rw [ha]; exact oN_t (by simp [b29, b40]))
      · skip
        refine ev_aload_n (i := 0) dX2_setBelow_32 rfl rfl ?_
        refine ev_getfield dX2_setBelow_33 fX2_15 (by first | omega | decide) (by first | assumption | (simp (disch := omega) only [mu_s, mu_n]; first | assumption | rfl)) (by rfl) ?_
        refine ev_iload (i := 4) dX2_setBelow_36 rfl ?_
        refine ev_ialoadN dX2_setBelow_38 (by first | omega | decide) (by first | assumption | (simp (disch := omega) only [mu_s, mu_n]; first | assumption | rfl)) (by omega) (by decide) ?_
        refine ev_top (i_op e2) ?_
        refine ev_iload_n (i := 2) dX2_setBelow_39 rfl rfl ?_
        refine ev_icmp_geN 55 dX2_setBelow_40 (by decide) (by omega) (by omega) (fun b40 => ?_) (fun b40 => ?_)
        · skip
          refine ev_incN dX2_setBelow_55 (by rfl) (by decide) rfl ?_
          refine ev_goto 5 dX2_setBelow_58 (by decide) ?_
          first
          | (have q : v.2.1 c ≠ l := b29
             exact ih _ _ (by omega) (ha.trans (oN_f (by simp [q]))))
          | (have q : n ≤ v.2.2 c := b40
             exact ih _ _ (by omega) (ha.trans (oN_f (by simp; omega))))
          | exact ih _ _ (by omega) (by rw [ha]; exact oN_t (by simp [b29, b40]))
        · skip
          refine ev_iload_n (i := 3) dX2_setBelow_43 rfl rfl ?_
          refine ev_iconst (v := nI 1) dX2_setBelow_44 rfl ?_
          refine ev_aload_n (i := 0) dX2_setBelow_45 rfl rfl ?_
          refine ev_getfield dX2_setBelow_46 fX2_15 (by first | omega | decide) (by first | assumption | (simp (disch := omega) only [mu_s, mu_n]; first | assumption | rfl)) (by rfl) ?_
          refine ev_iload (i := 4) dX2_setBelow_49 rfl ?_
          refine ev_ialoadN dX2_setBelow_51 (by first | omega | decide) (by first | assumption | (simp (disch := omega) only [mu_s, mu_n]; first | assumption | rfl)) (by omega) (by decide) ?_
          refine ev_top (i_op e2) ?_
          refine ev_ishl1 dX2_setBelow_52 (by omega) ?_
          refine ev_iorN dX2_setBelow_53 ?_
          refine ev_istore_n (i := 3) dX2_setBelow_54 rfl (by decide) rfl ?_
          refine ev_incN dX2_setBelow_55 (by rfl) (by decide) rfl ?_
          refine ev_goto 5 dX2_setBelow_58 (by decide) ?_
          first
          | (have q : v.2.1 c ≠ l := b29
             exact ih _ _ (by omega) (ha.trans (oN_f (by simp [q]))))
          | (have q : n ≤ v.2.2 c := b40
             exact ih _ _ (by omega) (ha.trans (oN_f (by simp; omega))))
          | exact ih _ _ (by omega) (by rw [ha]; exact oN_t (by simp [b29, b40]))
  refine ev_iconst (v := nI 0) dX2_setBelow_0 rfl ?_
  refine ev_istore_n (i := 3) dX2_setBelow_1 rfl (by decide) rfl ?_
  refine ev_iconst (v := nI 0) dX2_setBelow_2 rfl ?_
  refine ev_istore (i := 4) dX2_setBelow_3 (by decide) rfl ?_
  exact lp v.1 0 0 (by omega) rfl
theorem c_canFollow {l pr n : Nat} (hV : kOv M v) (ho : ovOk v) (hl : l < 32) (hpr : pr < 2 ^ 31) (hn : n < 2 ^ 31) (hp : P (some (.int (bI (cfB v n pr l)))) M) : Ev 88 (d + 1) mX2_canFollow none 0 [.ref 58, .int (nI l), .int (nI pr), .int (nI n)] [] M P := by
  have h1 := hV.1
  have h9 := sbN_lt ho n l
  have h10 := andn_le (sbN v n l) pr
  have eT : pr / 2 ^ l % 2 = 0 → andn (sbN v n l) pr = 0 → cfB v n pr l = true := fun x y => by
    have e : pr.testBit l = false := by
      rw [Bool.eq_false_iff, ne_eq, ← tb_d]; omega
    unfold cfB
    rw [decide_eq_true y, e]; rfl
  have eF1 : andn (sbN v n l) pr ≠ 0 → cfB v n pr l = false := fun y => by
    unfold cfB
    rw [decide_eq_false y, Bool.and_false]
  have eF2 : pr / 2 ^ l % 2 ≠ 0 → cfB v n pr l = false := fun x => by
    unfold cfB
    rw [(tb_d pr l).mp (by omega)]; rfl
  refine ev_iload_n (i := 2) dX2_canFollow_0 rfl rfl ?_
  refine ev_iload_n (i := 1) dX2_canFollow_1 rfl rfl ?_
  refine ev_ishrN dX2_canFollow_2 (by omega) (by omega) ?_
  refine ev_iconst (v := nI 1) dX2_canFollow_3 rfl ?_
  refine ev_iand1 dX2_canFollow_4 ?_
  refine ev_if_neN 25 dX2_canFollow_5 (by decide) (by omega) (fun b5 => ?_) (fun b5 => ?_)
  · skip
    refine ev_iconst (v := nI 0) dX2_canFollow_25 rfl ?_
    refine ev_reti dX2_canFollow_26 rfl rfl ?_
    exact e_retF (by first | exact eF1 b18 | exact eF2 b5) hp
  · skip
    refine ev_aload_n (i := 0) dX2_canFollow_8 rfl rfl ?_
    refine ev_iload_n (i := 1) dX2_canFollow_9 rfl rfl ?_
    refine ev_iload_n (i := 3) dX2_canFollow_10 rfl rfl ?_
    refine ev_V2 (μ1 := mX2_setBelow) dX2_canFollow_11 sX2_25 okX2_setBelow (by first | omega | decide) (by first | assumption | (simp (disch := omega) only [mu_s, mu_n]; first | assumption | rfl)) (Nat.le_of_ble_eq_true rfl) (Nat.le_of_ble_eq_true rfl) ?_
    refine c_setBelow hV ho (by omega) hn ?_
    refine ev_iload_n (i := 2) dX2_canFollow_14 rfl rfl ?_
    refine ev_iconst (v := (-1)) dX2_canFollow_15 rfl ?_
    refine ev_ixor dX2_canFollow_16 ?_
    refine ev_iand dX2_canFollow_17 ?_
    refine ev_top (i_op (andn_nI _ _)) ?_
    refine ev_if_neN 25 dX2_canFollow_18 (by decide) (by omega) (fun b18 => ?_) (fun b18 => ?_)
    · skip
      refine ev_iconst (v := nI 0) dX2_canFollow_25 rfl ?_
      refine ev_reti dX2_canFollow_26 rfl rfl ?_
      exact e_retF (by first | exact eF1 b18 | exact eF2 b5) hp
    · skip
      refine ev_iconst (v := nI 1) dX2_canFollow_21 rfl ?_
      refine ev_goto 26 dX2_canFollow_22 (by decide) ?_
      refine ev_reti dX2_canFollow_26 rfl rfl ?_
      exact e_retT (eT b5 b18) hp
theorem c_leastNext {pr n : Nat} (hV : kOv M v) (ho : ovOk v) (hpr : pr < 2 ^ 31) (hn : n ≤ 6) (hp : P (some (.int (oI (lf (cfB v n pr) n 0)))) M) : Ev 88 (d + 2) mX2_leastNext none 0 [.ref 58, .int (nI pr), .int (nI n), .null] [] M P := by
  have h1 := hV.1
  have lp : ∀ (j c : Nat), c + j = n → lf (cfB v n pr) n 0 = lf (cfB v n pr) j c → Ev 88 (d + 2) mX2_leastNext none 2 [.ref 58, .int (nI pr), .int (nI n), .int (nI c)] [] M P := by
    intro j
    induction j with
    | zero =>
      intro c hc e
      obtain rfl : c = n := by omega
      rw [e] at hp
      refine ev_iload_n (i := 3) dX2_leastNext_2 rfl rfl ?_
      refine ev_iload_n (i := 2) dX2_leastNext_3 rfl rfl ?_
      refine ev_icmp_geN 25 dX2_leastNext_4 (by decide) (by omega) (by omega) (fun b4 => ?_) (fun b4 => by exfalso; omega)
      refine ev_bipush (v := (-9)) dX2_leastNext_25 rfl ?_
      refine ev_reti dX2_leastNext_27 rfl rfl ?_
      exact hp
    | succ j ih =>
      intro c hc e
      refine ev_iload_n (i := 3) dX2_leastNext_2 rfl rfl ?_
      refine ev_iload_n (i := 2) dX2_leastNext_3 rfl rfl ?_
      refine ev_icmp_geN 25 dX2_leastNext_4 (by decide) (by omega) (by omega) (fun b4 => by exfalso; omega) (fun b4 => ?_)
      refine ev_aload_n (i := 0) dX2_leastNext_7 rfl rfl ?_
      refine ev_iload_n (i := 3) dX2_leastNext_8 rfl rfl ?_
      refine ev_iload_n (i := 1) dX2_leastNext_9 rfl rfl ?_
      refine ev_iload_n (i := 2) dX2_leastNext_10 rfl rfl ?_
      refine ev_V3 (μ1 := mX2_canFollow) dX2_leastNext_11 sX2_34 okX2_canFollow (by first | omega | decide) (by first | assumption | (simp (disch := omega) only [mu_s, mu_n]; first | assumption | rfl)) (Nat.le_of_ble_eq_true rfl) (Nat.le_of_ble_eq_true rfl) ?_
      refine c_canFollow hV ho (by omega) hpr (by omega) ?_
      refine ev_if_eqB 19 dX2_leastNext_14 (by decide) (fun b14 => ?_) (fun b14 => ?_)
      · skip
        refine ev_incN dX2_leastNext_19 (by rfl) (by decide) rfl ?_
        refine ev_goto 2 dX2_leastNext_22 (by decide) ?_
        exact ih _ (by omega) (e.trans (lf_f b14))
      · skip
        refine ev_iload_n (i := 3) dX2_leastNext_17 rfl rfl ?_
        refine ev_reti dX2_leastNext_18 rfl rfl ?_
        rw [e, lf_t b14] at hp
        exact hp
  refine ev_iconst (v := nI 0) dX2_leastNext_0 rfl ?_
  refine ev_istore_n (i := 3) dX2_leastNext_1 rfl (by decide) rfl ?_
  exact lp n 0 (by omega) rfl
theorem c_firstOrder {n : Nat} (hV : kOv M v) (ho : ovOk v) (hn : n ≤ 6) (hp : P (some (.int (oI (foN v n n 0 0)))) M) : Ev 88 (d + 3) mX2_firstOrder none 0 [.ref 58, .int (nI n), .null, .null, .null, .null] [] M P := by
  have h1 := hV.1
  have lp : ∀ (j c pr fg : Nat) (lx : Value), c + j = n → pr < 64 → foN v n n 0 0 = foN v n j pr fg → Ev 88 (d + 3) mX2_firstOrder none 7 [.ref 58, .int (nI n), .int (nI pr), .int (nI fg), .int (nI c), lx] [] M P := by
    intro j
    induction j with
    | zero =>
      intro c pr fg lx hc h6 e
      obtain rfl : c = n := by omega
      rw [e] at hp
      refine ev_iload (i := 4) dX2_firstOrder_7 rfl ?_
      refine ev_iload_n (i := 1) dX2_firstOrder_9 rfl rfl ?_
      refine ev_icmp_geN 54 dX2_firstOrder_10 (by decide) (by omega) (by omega) (fun b10 => ?_) (fun b10 => by exfalso; omega)
      refine ev_iload_n (i := 3) dX2_firstOrder_54 rfl rfl ?_
      refine ev_reti dX2_firstOrder_55 rfl rfl ?_
      exact hp
    | succ j ih =>
      intro c pr fg lx hc h6 e
      cases hq : lf (cfB v n pr) n 0 with
      | none =>
        have e2 : foN v n (j + 1) pr fg = none := by unfold foN; rw [hq]
        rw [e, e2] at hp
        refine ev_iload (i := 4) dX2_firstOrder_7 rfl ?_
        refine ev_iload_n (i := 1) dX2_firstOrder_9 rfl rfl ?_
        refine ev_icmp_geN 54 dX2_firstOrder_10 (by decide) (by omega) (by omega) (fun b10 => by exfalso; omega) (fun b10 => ?_)
        refine ev_aload_n (i := 0) dX2_firstOrder_13 rfl rfl ?_
        refine ev_iload_n (i := 2) dX2_firstOrder_14 rfl rfl ?_
        refine ev_iload_n (i := 1) dX2_firstOrder_15 rfl rfl ?_
        refine ev_V2 (μ1 := mX2_leastNext) dX2_firstOrder_16 sX2_38 okX2_leastNext (by first | omega | decide) (by first | assumption | (simp (disch := omega) only [mu_s, mu_n]; first | assumption | rfl)) (Nat.le_of_ble_eq_true rfl) (Nat.le_of_ble_eq_true rfl) ?_
        refine c_leastNext hV ho (by omega) (by omega) ?_
        rw [hq]
        refine ev_istore (i := 5) dX2_firstOrder_19 (by decide) rfl ?_
        refine ev_iload (i := 5) dX2_firstOrder_21 rfl ?_
        refine ev_bipush (v := (-9)) dX2_firstOrder_23 rfl ?_
        refine ev_icmp_ne 31 dX2_firstOrder_25 (by decide) (fun b25 => absurd rfl b25) (fun b25 => ?_)
        refine ev_bipush (v := (-9)) dX2_firstOrder_28 rfl ?_
        refine ev_reti dX2_firstOrder_30 rfl rfl ?_
        exact hp
      | some l =>
        have e2 : foN v n (j + 1) pr fg = foN v n j (pr ||| 2 ^ l) (10 * fg + l + 1) := by
          show (match lf (cfB v n pr) n 0 with | none => none | some l => foN v n j (pr ||| 2 ^ l) (10 * fg + l + 1)) = _
          rw [hq]
        obtain ⟨-, hl, -⟩ := lf_some hq
        have hx : pr ||| 2 ^ l < 64 := Nat.or_lt_two_pow (n := 6) h6 (Nat.pow_lt_pow_right (by decide) (by omega))
        have h9 : ¬ nI l = (-9) := fun z => by
          have h2 : (nI l).toInt = (-9 : Int32).toInt := congrArg Int32.toInt z
          rw [nI_toInt (by omega)] at h2
          exact absurd h2 (by rw [show (-9 : Int32).toInt = -9 from rfl]; omega)
        refine ev_iload (i := 4) dX2_firstOrder_7 rfl ?_
        refine ev_iload_n (i := 1) dX2_firstOrder_9 rfl rfl ?_
        refine ev_icmp_geN 54 dX2_firstOrder_10 (by decide) (by omega) (by omega) (fun b10 => by exfalso; omega) (fun b10 => ?_)
        refine ev_aload_n (i := 0) dX2_firstOrder_13 rfl rfl ?_
        refine ev_iload_n (i := 2) dX2_firstOrder_14 rfl rfl ?_
        refine ev_iload_n (i := 1) dX2_firstOrder_15 rfl rfl ?_
        refine ev_V2 (μ1 := mX2_leastNext) dX2_firstOrder_16 sX2_38 okX2_leastNext (by first | omega | decide) (by first | assumption | (simp (disch := omega) only [mu_s, mu_n]; first | assumption | rfl)) (Nat.le_of_ble_eq_true rfl) (Nat.le_of_ble_eq_true rfl) ?_
        refine c_leastNext hV ho (by omega) (by omega) ?_
        rw [hq]
        show Ev _ _ _ _ _ _ (.int (nI l) :: []) _ _
        refine ev_istore (i := 5) dX2_firstOrder_19 (by decide) rfl ?_
        refine ev_iload (i := 5) dX2_firstOrder_21 rfl ?_
        refine ev_bipush (v := (-9)) dX2_firstOrder_23 rfl ?_
        refine ev_icmp_ne 31 dX2_firstOrder_25 (by decide) (fun b25 => ?_) (fun b25 => absurd b25 h9)
        refine ev_iload_n (i := 2) dX2_firstOrder_31 rfl rfl ?_
        refine ev_iconst (v := nI 1) dX2_firstOrder_32 rfl ?_
        refine ev_iload (i := 5) dX2_firstOrder_33 rfl ?_
        refine ev_ishl1 dX2_firstOrder_35 (by omega) ?_
        refine ev_iorN dX2_firstOrder_36 ?_
        refine ev_istore_n (i := 2) dX2_firstOrder_37 rfl (by decide) rfl ?_
        refine ev_bipush (v := nI 10) dX2_firstOrder_38 rfl ?_
        refine ev_iload_n (i := 3) dX2_firstOrder_40 rfl rfl ?_
        refine ev_imulN dX2_firstOrder_41 ?_
        refine ev_iload (i := 5) dX2_firstOrder_42 rfl ?_
        refine ev_iaddN dX2_firstOrder_44 ?_
        refine ev_iconst (v := nI 1) dX2_firstOrder_45 rfl ?_
        refine ev_iaddN dX2_firstOrder_46 ?_
        refine ev_istore_n (i := 3) dX2_firstOrder_47 rfl (by decide) rfl ?_
        refine ev_incN dX2_firstOrder_48 (by rfl) (by decide) rfl ?_
        refine ev_goto 7 dX2_firstOrder_51 (by decide) ?_
        exact ih _ _ _ _ (by omega) hx (e.trans e2)
  refine ev_iconst (v := nI 0) dX2_firstOrder_0 rfl ?_
  refine ev_istore_n (i := 2) dX2_firstOrder_1 rfl (by decide) rfl ?_
  refine ev_iconst (v := nI 0) dX2_firstOrder_2 rfl ?_
  refine ev_istore_n (i := 3) dX2_firstOrder_3 rfl (by decide) rfl ?_
  refine ev_iconst (v := nI 0) dX2_firstOrder_4 rfl ?_
  refine ev_istore (i := 4) dX2_firstOrder_5 (by decide) rfl ?_
  exact lp n 0 0 0 .null (by omega) (by decide) rfl
end OVE
end
