section
-- ===== PART A: goes FIRST, ahead of the names: the tables' words, and 'selects' of the private methods out of them =====
/-- a private method of a class that the tables say can be made, by its rows of tables_1 -/
def lw_okq (q : MethodName × Nat) : Prop := (q.1.cls ≠ "java/lang/invoke/MethodHandle" ∧ q.1.cls ≠ "java/lang/invoke/VarHandle") ∧ Cond.instantiable q.1.cls q.2 ∈ tables_1 ∧ Cond.privateMethod q.1 ∈ tables_1 ∧ Cond.instanceMethod q.1 ∈ tables_1
theorem lw_p0 : lw_okq (⟨"SweptFloors$Text", "add", "(I)Z"⟩, 8) := ⟨⟨by decide +kernel, by decide +kernel⟩, List.mem_of_getElem? (i := 21) (by decide +kernel), List.mem_of_getElem? (i := 226) (by decide +kernel), List.mem_of_getElem? (i := 227) (by decide +kernel)⟩
theorem lw_p1 : lw_okq (⟨"SweptFloors", "readText", "()I"⟩, 7) := ⟨⟨by decide +kernel, by decide +kernel⟩, List.mem_of_getElem? (i := 13) (by decide +kernel), List.mem_of_getElem? (i := 230) (by decide +kernel), List.mem_of_getElem? (i := 231) (by decide +kernel)⟩
theorem lw_p2 : lw_okq (⟨"SweptFloors$Text", "findFault", "()I"⟩, 8) := ⟨⟨by decide +kernel, by decide +kernel⟩, List.mem_of_getElem? (i := 21) (by decide +kernel), List.mem_of_getElem? (i := 234) (by decide +kernel), List.mem_of_getElem? (i := 235) (by decide +kernel)⟩
theorem lw_p3 : lw_okq (⟨"SweptFloors$Text", "takes", "(I)Z"⟩, 8) := ⟨⟨by decide +kernel, by decide +kernel⟩, List.mem_of_getElem? (i := 21) (by decide +kernel), List.mem_of_getElem? (i := 238) (by decide +kernel), List.mem_of_getElem? (i := 239) (by decide +kernel)⟩
theorem lw_p4 : lw_okq (⟨"SweptFloors$Text", "endsRow", "()Z"⟩, 8) := ⟨⟨by decide +kernel, by decide +kernel⟩, List.mem_of_getElem? (i := 21) (by decide +kernel), List.mem_of_getElem? (i := 242) (by decide +kernel), List.mem_of_getElem? (i := 243) (by decide +kernel)⟩
theorem lw_p5 : lw_okq (⟨"SweptFloors$Text", "takesSign", "(I)Z"⟩, 8) := ⟨⟨by decide +kernel, by decide +kernel⟩, List.mem_of_getElem? (i := 21) (by decide +kernel), List.mem_of_getElem? (i := 249) (by decide +kernel), List.mem_of_getElem? (i := 250) (by decide +kernel)⟩
theorem lw_p6 : lw_okq (⟨"SweptFloors$Ground", "layOut", "(LSweptFloors$Text;)V"⟩, 10) := ⟨⟨by decide +kernel, by decide +kernel⟩, List.mem_of_getElem? (i := 59) (by decide +kernel), List.mem_of_getElem? (i := 253) (by decide +kernel), List.mem_of_getElem? (i := 254) (by decide +kernel)⟩
theorem lw_p7 : lw_okq (⟨"SweptFloors$Ground", "size", "()I"⟩, 10) := ⟨⟨by decide +kernel, by decide +kernel⟩, List.mem_of_getElem? (i := 59) (by decide +kernel), List.mem_of_getElem? (i := 257) (by decide +kernel), List.mem_of_getElem? (i := 258) (by decide +kernel)⟩
theorem lw_p8 : lw_okq (⟨"SweptFloors$Situation", "begin", "()V"⟩, 11) := ⟨⟨by decide +kernel, by decide +kernel⟩, List.mem_of_getElem? (i := 110) (by decide +kernel), List.mem_of_getElem? (i := 267) (by decide +kernel), List.mem_of_getElem? (i := 268) (by decide +kernel)⟩
theorem lw_p9 : lw_okq (⟨"SweptFloors$Album", "empty", "()V"⟩, 2) := ⟨⟨by decide +kernel, by decide +kernel⟩, List.mem_of_getElem? (i := 210) (by decide +kernel), List.mem_of_getElem? (i := 272) (by decide +kernel), List.mem_of_getElem? (i := 273) (by decide +kernel)⟩
theorem lw_p10 : lw_okq (⟨"SweptFloors$Ground", "has", "(I)Z"⟩, 10) := ⟨⟨by decide +kernel, by decide +kernel⟩, List.mem_of_getElem? (i := 59) (by decide +kernel), List.mem_of_getElem? (i := 315) (by decide +kernel), List.mem_of_getElem? (i := 316) (by decide +kernel)⟩
theorem lw_p11 : lw_okq (⟨"SweptFloors$Situation", "kindOf", "(I)I"⟩, 11) := ⟨⟨by decide +kernel, by decide +kernel⟩, List.mem_of_getElem? (i := 110) (by decide +kernel), List.mem_of_getElem? (i := 319) (by decide +kernel), List.mem_of_getElem? (i := 320) (by decide +kernel)⟩
theorem lw_p12 : lw_okq (⟨"SweptFloors$History", "remember", "(LSweptFloors$Situation;)V"⟩, 3) := ⟨⟨by decide +kernel, by decide +kernel⟩, List.mem_of_getElem? (i := 190) (by decide +kernel), List.mem_of_getElem? (i := 331) (by decide +kernel), List.mem_of_getElem? (i := 332) (by decide +kernel)⟩
theorem lw_p13 : lw_okq (⟨"SweptFloors$Situation", "copyFrom", "(LSweptFloors$Situation;)V"⟩, 11) := ⟨⟨by decide +kernel, by decide +kernel⟩, List.mem_of_getElem? (i := 110) (by decide +kernel), List.mem_of_getElem? (i := 335) (by decide +kernel), List.mem_of_getElem? (i := 336) (by decide +kernel)⟩
theorem lw_p14 : lw_okq (⟨"SweptFloors$Situation", "stepTo", "(I)I"⟩, 11) := ⟨⟨by decide +kernel, by decide +kernel⟩, List.mem_of_getElem? (i := 110) (by decide +kernel), List.mem_of_getElem? (i := 355) (by decide +kernel), List.mem_of_getElem? (i := 356) (by decide +kernel)⟩
theorem lw_p15 : lw_okq (⟨"SweptFloors$Ground", "cellBeside", "(II)I"⟩, 10) := ⟨⟨by decide +kernel, by decide +kernel⟩, List.mem_of_getElem? (i := 59) (by decide +kernel), List.mem_of_getElem? (i := 359) (by decide +kernel), List.mem_of_getElem? (i := 360) (by decide +kernel)⟩
def lw_privs_1 : List (MethodName × Nat) := [(⟨"SweptFloors$Text", "add", "(I)Z"⟩, 8), (⟨"SweptFloors", "readText", "()I"⟩, 7), (⟨"SweptFloors$Text", "findFault", "()I"⟩, 8), (⟨"SweptFloors$Text", "takes", "(I)Z"⟩, 8), (⟨"SweptFloors$Text", "endsRow", "()Z"⟩, 8), (⟨"SweptFloors$Text", "takesSign", "(I)Z"⟩, 8), (⟨"SweptFloors$Ground", "layOut", "(LSweptFloors$Text;)V"⟩, 10), (⟨"SweptFloors$Ground", "size", "()I"⟩, 10), (⟨"SweptFloors$Situation", "begin", "()V"⟩, 11), (⟨"SweptFloors$Album", "empty", "()V"⟩, 2), (⟨"SweptFloors$Ground", "has", "(I)Z"⟩, 10), (⟨"SweptFloors$Situation", "kindOf", "(I)I"⟩, 11), (⟨"SweptFloors$History", "remember", "(LSweptFloors$Situation;)V"⟩, 3), (⟨"SweptFloors$Situation", "copyFrom", "(LSweptFloors$Situation;)V"⟩, 11), (⟨"SweptFloors$Situation", "stepTo", "(I)I"⟩, 11), (⟨"SweptFloors$Ground", "cellBeside", "(II)I"⟩, 10)]
theorem lw_r1 : ∀ q ∈ lw_privs_1, lw_okq q := List.forall_mem_cons.mpr ⟨lw_p0, List.forall_mem_cons.mpr ⟨lw_p1, List.forall_mem_cons.mpr ⟨lw_p2, List.forall_mem_cons.mpr ⟨lw_p3, List.forall_mem_cons.mpr ⟨lw_p4, List.forall_mem_cons.mpr ⟨lw_p5, List.forall_mem_cons.mpr ⟨lw_p6, List.forall_mem_cons.mpr ⟨lw_p7, List.forall_mem_cons.mpr ⟨lw_p8, List.forall_mem_cons.mpr ⟨lw_p9, List.forall_mem_cons.mpr ⟨lw_p10, List.forall_mem_cons.mpr ⟨lw_p11, List.forall_mem_cons.mpr ⟨lw_p12, List.forall_mem_cons.mpr ⟨lw_p13, List.forall_mem_cons.mpr ⟨lw_p14, List.forall_mem_cons.mpr ⟨lw_p15, fun _ h => absurd h List.not_mem_nil⟩⟩⟩⟩⟩⟩⟩⟩⟩⟩⟩⟩⟩⟩⟩⟩
theorem lw_p16 : lw_okq (⟨"SweptFloors$Ground", "beside", "(JI)J"⟩, 10) := ⟨⟨by decide +kernel, by decide +kernel⟩, List.mem_of_getElem? (i := 59) (by decide +kernel), List.mem_of_getElem? (i := 363) (by decide +kernel), List.mem_of_getElem? (i := 364) (by decide +kernel)⟩
theorem lw_p17 : lw_okq (⟨"SweptFloors$Situation", "outcomeAt", "(I)I"⟩, 11) := ⟨⟨by decide +kernel, by decide +kernel⟩, List.mem_of_getElem? (i := 110) (by decide +kernel), List.mem_of_getElem? (i := 377) (by decide +kernel), List.mem_of_getElem? (i := 378) (by decide +kernel)⟩
theorem lw_p18 : lw_okq (⟨"SweptFloors$Situation", "freeCells", "()J"⟩, 11) := ⟨⟨by decide +kernel, by decide +kernel⟩, List.mem_of_getElem? (i := 110) (by decide +kernel), List.mem_of_getElem? (i := 381) (by decide +kernel), List.mem_of_getElem? (i := 382) (by decide +kernel)⟩
theorem lw_p19 : lw_okq (⟨"SweptFloors$Situation", "sortOutBy", "(I)V"⟩, 11) := ⟨⟨by decide +kernel, by decide +kernel⟩, List.mem_of_getElem? (i := 110) (by decide +kernel), List.mem_of_getElem? (i := 386) (by decide +kernel), List.mem_of_getElem? (i := 387) (by decide +kernel)⟩
theorem lw_p20 : lw_okq (⟨"SweptFloors$Situation", "keepPlacesThatSee", "(II)V"⟩, 11) := ⟨⟨by decide +kernel, by decide +kernel⟩, List.mem_of_getElem? (i := 110) (by decide +kernel), List.mem_of_getElem? (i := 390) (by decide +kernel), List.mem_of_getElem? (i := 391) (by decide +kernel)⟩
theorem lw_p21 : lw_okq (⟨"SweptFloors$Situation", "cellsThatMaySee", "(II)J"⟩, 11) := ⟨⟨by decide +kernel, by decide +kernel⟩, List.mem_of_getElem? (i := 110) (by decide +kernel), List.mem_of_getElem? (i := 397) (by decide +kernel), List.mem_of_getElem? (i := 398) (by decide +kernel)⟩
theorem lw_p22 : lw_okq (⟨"SweptFloors$Situation", "cellsThatMayShow", "(I)J"⟩, 11) := ⟨⟨by decide +kernel, by decide +kernel⟩, List.mem_of_getElem? (i := 110) (by decide +kernel), List.mem_of_getElem? (i := 401) (by decide +kernel), List.mem_of_getElem? (i := 402) (by decide +kernel)⟩
theorem lw_p23 : lw_okq (⟨"SweptFloors$Situation", "movePlacesAhead", "()V"⟩, 11) := ⟨⟨by decide +kernel, by decide +kernel⟩, List.mem_of_getElem? (i := 110) (by decide +kernel), List.mem_of_getElem? (i := 406) (by decide +kernel), List.mem_of_getElem? (i := 407) (by decide +kernel)⟩
theorem lw_p24 : lw_okq (⟨"SweptFloors$Situation", "beFoundIfSure", "()V"⟩, 11) := ⟨⟨by decide +kernel, by decide +kernel⟩, List.mem_of_getElem? (i := 110) (by decide +kernel), List.mem_of_getElem? (i := 410) (by decide +kernel), List.mem_of_getElem? (i := 411) (by decide +kernel)⟩
theorem lw_p25 : lw_okq (⟨"SweptFloors$Situation", "placeCount", "()I"⟩, 11) := ⟨⟨by decide +kernel, by decide +kernel⟩, List.mem_of_getElem? (i := 110) (by decide +kernel), List.mem_of_getElem? (i := 414) (by decide +kernel), List.mem_of_getElem? (i := 415) (by decide +kernel)⟩
theorem lw_p26 : lw_okq (⟨"SweptFloors$Situation", "learn", "(II)V"⟩, 11) := ⟨⟨by decide +kernel, by decide +kernel⟩, List.mem_of_getElem? (i := 110) (by decide +kernel), List.mem_of_getElem? (i := 419) (by decide +kernel), List.mem_of_getElem? (i := 420) (by decide +kernel)⟩
theorem lw_p27 : lw_okq (⟨"SweptFloors$Situation", "turn", "(I)V"⟩, 11) := ⟨⟨by decide +kernel, by decide +kernel⟩, List.mem_of_getElem? (i := 110) (by decide +kernel), List.mem_of_getElem? (i := 427) (by decide +kernel), List.mem_of_getElem? (i := 428) (by decide +kernel)⟩
theorem lw_p28 : lw_okq (⟨"SweptFloors$Situation", "turnPlaces", "()V"⟩, 11) := ⟨⟨by decide +kernel, by decide +kernel⟩, List.mem_of_getElem? (i := 110) (by decide +kernel), List.mem_of_getElem? (i := 431) (by decide +kernel), List.mem_of_getElem? (i := 432) (by decide +kernel)⟩
theorem lw_p29 : lw_okq (⟨"SweptFloors$Situation", "scanAround", "()I"⟩, 11) := ⟨⟨by decide +kernel, by decide +kernel⟩, List.mem_of_getElem? (i := 110) (by decide +kernel), List.mem_of_getElem? (i := 439) (by decide +kernel), List.mem_of_getElem? (i := 440) (by decide +kernel)⟩
theorem lw_p30 : lw_okq (⟨"SweptFloors$Situation", "seenAt", "(I)I"⟩, 11) := ⟨⟨by decide +kernel, by decide +kernel⟩, List.mem_of_getElem? (i := 110) (by decide +kernel), List.mem_of_getElem? (i := 443) (by decide +kernel), List.mem_of_getElem? (i := 444) (by decide +kernel)⟩
theorem lw_p31 : lw_okq (⟨"SweptFloors$Situation", "carryTo", "(II)I"⟩, 11) := ⟨⟨by decide +kernel, by decide +kernel⟩, List.mem_of_getElem? (i := 110) (by decide +kernel), List.mem_of_getElem? (i := 452) (by decide +kernel), List.mem_of_getElem? (i := 453) (by decide +kernel)⟩
def lw_privs_2 : List (MethodName × Nat) := [(⟨"SweptFloors$Ground", "beside", "(JI)J"⟩, 10), (⟨"SweptFloors$Situation", "outcomeAt", "(I)I"⟩, 11), (⟨"SweptFloors$Situation", "freeCells", "()J"⟩, 11), (⟨"SweptFloors$Situation", "sortOutBy", "(I)V"⟩, 11), (⟨"SweptFloors$Situation", "keepPlacesThatSee", "(II)V"⟩, 11), (⟨"SweptFloors$Situation", "cellsThatMaySee", "(II)J"⟩, 11), (⟨"SweptFloors$Situation", "cellsThatMayShow", "(I)J"⟩, 11), (⟨"SweptFloors$Situation", "movePlacesAhead", "()V"⟩, 11), (⟨"SweptFloors$Situation", "beFoundIfSure", "()V"⟩, 11), (⟨"SweptFloors$Situation", "placeCount", "()I"⟩, 11), (⟨"SweptFloors$Situation", "learn", "(II)V"⟩, 11), (⟨"SweptFloors$Situation", "turn", "(I)V"⟩, 11), (⟨"SweptFloors$Situation", "turnPlaces", "()V"⟩, 11), (⟨"SweptFloors$Situation", "scanAround", "()I"⟩, 11), (⟨"SweptFloors$Situation", "seenAt", "(I)I"⟩, 11), (⟨"SweptFloors$Situation", "carryTo", "(II)I"⟩, 11)]
theorem lw_r2 : ∀ q ∈ lw_privs_2, lw_okq q := List.forall_mem_cons.mpr ⟨lw_p16, List.forall_mem_cons.mpr ⟨lw_p17, List.forall_mem_cons.mpr ⟨lw_p18, List.forall_mem_cons.mpr ⟨lw_p19, List.forall_mem_cons.mpr ⟨lw_p20, List.forall_mem_cons.mpr ⟨lw_p21, List.forall_mem_cons.mpr ⟨lw_p22, List.forall_mem_cons.mpr ⟨lw_p23, List.forall_mem_cons.mpr ⟨lw_p24, List.forall_mem_cons.mpr ⟨lw_p25, List.forall_mem_cons.mpr ⟨lw_p26, List.forall_mem_cons.mpr ⟨lw_p27, List.forall_mem_cons.mpr ⟨lw_p28, List.forall_mem_cons.mpr ⟨lw_p29, List.forall_mem_cons.mpr ⟨lw_p30, List.forall_mem_cons.mpr ⟨lw_p31, fun _ h => absurd h List.not_mem_nil⟩⟩⟩⟩⟩⟩⟩⟩⟩⟩⟩⟩⟩⟩⟩⟩
theorem lw_p32 : lw_okq (⟨"SweptFloors$Pilot", "act", "(LSweptFloors$Situation;)I"⟩, 4) := ⟨⟨by decide +kernel, by decide +kernel⟩, List.mem_of_getElem? (i := 167) (by decide +kernel), List.mem_of_getElem? (i := 460) (by decide +kernel), List.mem_of_getElem? (i := 461) (by decide +kernel)⟩
theorem lw_p33 : lw_okq (⟨"SweptFloors$Pilot", "nextHand", "(LSweptFloors$Situation;)I"⟩, 4) := ⟨⟨by decide +kernel, by decide +kernel⟩, List.mem_of_getElem? (i := 167) (by decide +kernel), List.mem_of_getElem? (i := 465) (by decide +kernel), List.mem_of_getElem? (i := 466) (by decide +kernel)⟩
theorem lw_p34 : lw_okq (⟨"SweptFloors$Pilot", "findsTarget", "(LSweptFloors$Situation;)Z"⟩, 4) := ⟨⟨by decide +kernel, by decide +kernel⟩, List.mem_of_getElem? (i := 167) (by decide +kernel), List.mem_of_getElem? (i := 469) (by decide +kernel), List.mem_of_getElem? (i := 470) (by decide +kernel)⟩
theorem lw_p35 : lw_okq (⟨"SweptFloors$Ground", "within", "(IIJ)J"⟩, 10) := ⟨⟨by decide +kernel, by decide +kernel⟩, List.mem_of_getElem? (i := 59) (by decide +kernel), List.mem_of_getElem? (i := 475) (by decide +kernel), List.mem_of_getElem? (i := 476) (by decide +kernel)⟩
theorem lw_p36 : lw_okq (⟨"SweptFloors$Ground", "around", "(J)J"⟩, 10) := ⟨⟨by decide +kernel, by decide +kernel⟩, List.mem_of_getElem? (i := 59) (by decide +kernel), List.mem_of_getElem? (i := 479) (by decide +kernel), List.mem_of_getElem? (i := 480) (by decide +kernel)⟩
theorem lw_p37 : lw_okq (⟨"SweptFloors$Situation", "homeOf", "(I)I"⟩, 11) := ⟨⟨by decide +kernel, by decide +kernel⟩, List.mem_of_getElem? (i := 110) (by decide +kernel), List.mem_of_getElem? (i := 485) (by decide +kernel), List.mem_of_getElem? (i := 486) (by decide +kernel)⟩
theorem lw_p38 : lw_okq (⟨"SweptFloors$Ground", "stepsBetween", "(IIJ)I"⟩, 10) := ⟨⟨by decide +kernel, by decide +kernel⟩, List.mem_of_getElem? (i := 59) (by decide +kernel), List.mem_of_getElem? (i := 489) (by decide +kernel), List.mem_of_getElem? (i := 490) (by decide +kernel)⟩
theorem lw_p39 : lw_okq (⟨"SweptFloors$History", "bringBack", "(LSweptFloors$Situation;)Z"⟩, 3) := ⟨⟨by decide +kernel, by decide +kernel⟩, List.mem_of_getElem? (i := 190) (by decide +kernel), List.mem_of_getElem? (i := 506) (by decide +kernel), List.mem_of_getElem? (i := 507) (by decide +kernel)⟩
theorem lw_p40 : lw_okq (⟨"SweptFloors$Situation", "knowledgeOf", "(I)I"⟩, 11) := ⟨⟨by decide +kernel, by decide +kernel⟩, List.mem_of_getElem? (i := 110) (by decide +kernel), List.mem_of_getElem? (i := 518) (by decide +kernel), List.mem_of_getElem? (i := 519) (by decide +kernel)⟩
theorem lw_p41 : lw_okq (⟨"SweptFloors$Situation", "placeAt", "(I)I"⟩, 11) := ⟨⟨by decide +kernel, by decide +kernel⟩, List.mem_of_getElem? (i := 110) (by decide +kernel), List.mem_of_getElem? (i := 537) (by decide +kernel), List.mem_of_getElem? (i := 538) (by decide +kernel)⟩
theorem lw_p42 : lw_okq (⟨"SweptFloors", "laneLength", "(IJ)I"⟩, 7) := ⟨⟨by decide +kernel, by decide +kernel⟩, List.mem_of_getElem? (i := 13) (by decide +kernel), List.mem_of_getElem? (i := 551) (by decide +kernel), List.mem_of_getElem? (i := 552) (by decide +kernel)⟩
theorem lw_p43 : lw_okq (⟨"SweptFloors$Ground", "mostSteps", "(IJ)I"⟩, 10) := ⟨⟨by decide +kernel, by decide +kernel⟩, List.mem_of_getElem? (i := 59) (by decide +kernel), List.mem_of_getElem? (i := 564) (by decide +kernel), List.mem_of_getElem? (i := 565) (by decide +kernel)⟩
theorem lw_p44 : lw_okq (⟨"SweptFloors$Pilot", "isThrough", "(LSweptFloors$Situation;)Z"⟩, 4) := ⟨⟨by decide +kernel, by decide +kernel⟩, List.mem_of_getElem? (i := 167) (by decide +kernel), List.mem_of_getElem? (i := 573) (by decide +kernel), List.mem_of_getElem? (i := 574) (by decide +kernel)⟩
theorem lw_p45 : lw_okq (⟨"SweptFloors$Album", "putIn", "(ILSweptFloors$Situation;)V"⟩, 2) := ⟨⟨by decide +kernel, by decide +kernel⟩, List.mem_of_getElem? (i := 210) (by decide +kernel), List.mem_of_getElem? (i := 581) (by decide +kernel), List.mem_of_getElem? (i := 582) (by decide +kernel)⟩
theorem lw_p46 : lw_okq (⟨"SweptFloors$Album", "takeOut", "(ILSweptFloors$Situation;)Z"⟩, 2) := ⟨⟨by decide +kernel, by decide +kernel⟩, List.mem_of_getElem? (i := 210) (by decide +kernel), List.mem_of_getElem? (i := 590) (by decide +kernel), List.mem_of_getElem? (i := 591) (by decide +kernel)⟩
theorem lw_p47 : lw_okq (⟨"SweptFloorsModel", "begins", "()V"⟩, 25) := ⟨⟨by decide +kernel, by decide +kernel⟩, List.mem_of_getElem? (i := 598) (by decide +kernel), List.mem_of_getElem? (i := 604) (by decide +kernel), List.mem_of_getElem? (i := 605) (by decide +kernel)⟩
def lw_privs_3 : List (MethodName × Nat) := [(⟨"SweptFloors$Pilot", "act", "(LSweptFloors$Situation;)I"⟩, 4), (⟨"SweptFloors$Pilot", "nextHand", "(LSweptFloors$Situation;)I"⟩, 4), (⟨"SweptFloors$Pilot", "findsTarget", "(LSweptFloors$Situation;)Z"⟩, 4), (⟨"SweptFloors$Ground", "within", "(IIJ)J"⟩, 10), (⟨"SweptFloors$Ground", "around", "(J)J"⟩, 10), (⟨"SweptFloors$Situation", "homeOf", "(I)I"⟩, 11), (⟨"SweptFloors$Ground", "stepsBetween", "(IIJ)I"⟩, 10), (⟨"SweptFloors$History", "bringBack", "(LSweptFloors$Situation;)Z"⟩, 3), (⟨"SweptFloors$Situation", "knowledgeOf", "(I)I"⟩, 11), (⟨"SweptFloors$Situation", "placeAt", "(I)I"⟩, 11), (⟨"SweptFloors", "laneLength", "(IJ)I"⟩, 7), (⟨"SweptFloors$Ground", "mostSteps", "(IJ)I"⟩, 10), (⟨"SweptFloors$Pilot", "isThrough", "(LSweptFloors$Situation;)Z"⟩, 4), (⟨"SweptFloors$Album", "putIn", "(ILSweptFloors$Situation;)V"⟩, 2), (⟨"SweptFloors$Album", "takeOut", "(ILSweptFloors$Situation;)Z"⟩, 2), (⟨"SweptFloorsModel", "begins", "()V"⟩, 25)]
theorem lw_r3 : ∀ q ∈ lw_privs_3, lw_okq q := List.forall_mem_cons.mpr ⟨lw_p32, List.forall_mem_cons.mpr ⟨lw_p33, List.forall_mem_cons.mpr ⟨lw_p34, List.forall_mem_cons.mpr ⟨lw_p35, List.forall_mem_cons.mpr ⟨lw_p36, List.forall_mem_cons.mpr ⟨lw_p37, List.forall_mem_cons.mpr ⟨lw_p38, List.forall_mem_cons.mpr ⟨lw_p39, List.forall_mem_cons.mpr ⟨lw_p40, List.forall_mem_cons.mpr ⟨lw_p41, List.forall_mem_cons.mpr ⟨lw_p42, List.forall_mem_cons.mpr ⟨lw_p43, List.forall_mem_cons.mpr ⟨lw_p44, List.forall_mem_cons.mpr ⟨lw_p45, List.forall_mem_cons.mpr ⟨lw_p46, List.forall_mem_cons.mpr ⟨lw_p47, fun _ h => absurd h List.not_mem_nil⟩⟩⟩⟩⟩⟩⟩⟩⟩⟩⟩⟩⟩⟩⟩⟩
theorem lw_p48 : lw_okq (⟨"SweptFloorsModel", "cells", "()I"⟩, 25) := ⟨⟨by decide +kernel, by decide +kernel⟩, List.mem_of_getElem? (i := 598) (by decide +kernel), List.mem_of_getElem? (i := 608) (by decide +kernel), List.mem_of_getElem? (i := 609) (by decide +kernel)⟩
theorem lw_p49 : lw_okq (⟨"SweptFloorsModel", "takes", "(I)Z"⟩, 25) := ⟨⟨by decide +kernel, by decide +kernel⟩, List.mem_of_getElem? (i := 598) (by decide +kernel), List.mem_of_getElem? (i := 703) (by decide +kernel), List.mem_of_getElem? (i := 704) (by decide +kernel)⟩
theorem lw_p50 : lw_okq (⟨"SweptFloorsModel", "isCell", "(I)Z"⟩, 25) := ⟨⟨by decide +kernel, by decide +kernel⟩, List.mem_of_getElem? (i := 598) (by decide +kernel), List.mem_of_getElem? (i := 714) (by decide +kernel), List.mem_of_getElem? (i := 715) (by decide +kernel)⟩
theorem lw_p51 : lw_okq (⟨"SweptFloorsModel", "remembers", "()V"⟩, 25) := ⟨⟨by decide +kernel, by decide +kernel⟩, List.mem_of_getElem? (i := 598) (by decide +kernel), List.mem_of_getElem? (i := 722) (by decide +kernel), List.mem_of_getElem? (i := 723) (by decide +kernel)⟩
theorem lw_p52 : lw_okq (⟨"SweptFloorsModel", "isDoor", "(I)Z"⟩, 25) := ⟨⟨by decide +kernel, by decide +kernel⟩, List.mem_of_getElem? (i := 598) (by decide +kernel), List.mem_of_getElem? (i := 730) (by decide +kernel), List.mem_of_getElem? (i := 731) (by decide +kernel)⟩
theorem lw_p53 : lw_okq (⟨"SweptFloorsModel", "stepTo", "(I)I"⟩, 25) := ⟨⟨by decide +kernel, by decide +kernel⟩, List.mem_of_getElem? (i := 598) (by decide +kernel), List.mem_of_getElem? (i := 738) (by decide +kernel), List.mem_of_getElem? (i := 739) (by decide +kernel)⟩
theorem lw_p54 : lw_okq (⟨"SweptFloorsModel", "beside", "(II)I"⟩, 25) := ⟨⟨by decide +kernel, by decide +kernel⟩, List.mem_of_getElem? (i := 598) (by decide +kernel), List.mem_of_getElem? (i := 742) (by decide +kernel), List.mem_of_getElem? (i := 743) (by decide +kernel)⟩
theorem lw_p55 : lw_okq (⟨"SweptFloorsModel", "toldOf", "(I)I"⟩, 25) := ⟨⟨by decide +kernel, by decide +kernel⟩, List.mem_of_getElem? (i := 598) (by decide +kernel), List.mem_of_getElem? (i := 746) (by decide +kernel), List.mem_of_getElem? (i := 747) (by decide +kernel)⟩
theorem lw_p56 : lw_okq (⟨"SweptFloorsModel", "isFree", "(I)Z"⟩, 25) := ⟨⟨by decide +kernel, by decide +kernel⟩, List.mem_of_getElem? (i := 598) (by decide +kernel), List.mem_of_getElem? (i := 750) (by decide +kernel), List.mem_of_getElem? (i := 751) (by decide +kernel)⟩
theorem lw_p57 : lw_okq (⟨"SweptFloorsModel", "stepsPlaces", "(I)V"⟩, 25) := ⟨⟨by decide +kernel, by decide +kernel⟩, List.mem_of_getElem? (i := 598) (by decide +kernel), List.mem_of_getElem? (i := 754) (by decide +kernel), List.mem_of_getElem? (i := 755) (by decide +kernel)⟩
theorem lw_p58 : lw_okq (⟨"SweptFloorsModel", "canBe", "(II)Z"⟩, 25) := ⟨⟨by decide +kernel, by decide +kernel⟩, List.mem_of_getElem? (i := 598) (by decide +kernel), List.mem_of_getElem? (i := 758) (by decide +kernel), List.mem_of_getElem? (i := 759) (by decide +kernel)⟩
theorem lw_p59 : lw_okq (⟨"SweptFloorsModel", "becomePlaces", "()V"⟩, 25) := ⟨⟨by decide +kernel, by decide +kernel⟩, List.mem_of_getElem? (i := 598) (by decide +kernel), List.mem_of_getElem? (i := 762) (by decide +kernel), List.mem_of_getElem? (i := 763) (by decide +kernel)⟩
theorem lw_p60 : lw_okq (⟨"SweptFloorsModel", "findsMaybe", "()V"⟩, 25) := ⟨⟨by decide +kernel, by decide +kernel⟩, List.mem_of_getElem? (i := 598) (by decide +kernel), List.mem_of_getElem? (i := 766) (by decide +kernel), List.mem_of_getElem? (i := 767) (by decide +kernel)⟩
theorem lw_p61 : lw_okq (⟨"SweptFloorsModel", "manyPlaces", "()I"⟩, 25) := ⟨⟨by decide +kernel, by decide +kernel⟩, List.mem_of_getElem? (i := 598) (by decide +kernel), List.mem_of_getElem? (i := 770) (by decide +kernel), List.mem_of_getElem? (i := 771) (by decide +kernel)⟩
theorem lw_p62 : lw_okq (⟨"SweptFloorsModel", "canScan", "(III)Z"⟩, 25) := ⟨⟨by decide +kernel, by decide +kernel⟩, List.mem_of_getElem? (i := 598) (by decide +kernel), List.mem_of_getElem? (i := 782) (by decide +kernel), List.mem_of_getElem? (i := 783) (by decide +kernel)⟩
theorem lw_p63 : lw_okq (⟨"SweptFloorsModel", "acts", "()Z"⟩, 25) := ⟨⟨by decide +kernel, by decide +kernel⟩, List.mem_of_getElem? (i := 598) (by decide +kernel), List.mem_of_getElem? (i := 797) (by decide +kernel), List.mem_of_getElem? (i := 798) (by decide +kernel)⟩
def lw_privs_4 : List (MethodName × Nat) := [(⟨"SweptFloorsModel", "cells", "()I"⟩, 25), (⟨"SweptFloorsModel", "takes", "(I)Z"⟩, 25), (⟨"SweptFloorsModel", "isCell", "(I)Z"⟩, 25), (⟨"SweptFloorsModel", "remembers", "()V"⟩, 25), (⟨"SweptFloorsModel", "isDoor", "(I)Z"⟩, 25), (⟨"SweptFloorsModel", "stepTo", "(I)I"⟩, 25), (⟨"SweptFloorsModel", "beside", "(II)I"⟩, 25), (⟨"SweptFloorsModel", "toldOf", "(I)I"⟩, 25), (⟨"SweptFloorsModel", "isFree", "(I)Z"⟩, 25), (⟨"SweptFloorsModel", "stepsPlaces", "(I)V"⟩, 25), (⟨"SweptFloorsModel", "canBe", "(II)Z"⟩, 25), (⟨"SweptFloorsModel", "becomePlaces", "()V"⟩, 25), (⟨"SweptFloorsModel", "findsMaybe", "()V"⟩, 25), (⟨"SweptFloorsModel", "manyPlaces", "()I"⟩, 25), (⟨"SweptFloorsModel", "canScan", "(III)Z"⟩, 25), (⟨"SweptFloorsModel", "acts", "()Z"⟩, 25)]
theorem lw_r4 : ∀ q ∈ lw_privs_4, lw_okq q := List.forall_mem_cons.mpr ⟨lw_p48, List.forall_mem_cons.mpr ⟨lw_p49, List.forall_mem_cons.mpr ⟨lw_p50, List.forall_mem_cons.mpr ⟨lw_p51, List.forall_mem_cons.mpr ⟨lw_p52, List.forall_mem_cons.mpr ⟨lw_p53, List.forall_mem_cons.mpr ⟨lw_p54, List.forall_mem_cons.mpr ⟨lw_p55, List.forall_mem_cons.mpr ⟨lw_p56, List.forall_mem_cons.mpr ⟨lw_p57, List.forall_mem_cons.mpr ⟨lw_p58, List.forall_mem_cons.mpr ⟨lw_p59, List.forall_mem_cons.mpr ⟨lw_p60, List.forall_mem_cons.mpr ⟨lw_p61, List.forall_mem_cons.mpr ⟨lw_p62, List.forall_mem_cons.mpr ⟨lw_p63, fun _ h => absurd h List.not_mem_nil⟩⟩⟩⟩⟩⟩⟩⟩⟩⟩⟩⟩⟩⟩⟩⟩
theorem lw_p64 : lw_okq (⟨"SweptFloorsModel", "laysTarget", "()V"⟩, 25) := ⟨⟨by decide +kernel, by decide +kernel⟩, List.mem_of_getElem? (i := 598) (by decide +kernel), List.mem_of_getElem? (i := 801) (by decide +kernel), List.mem_of_getElem? (i := 802) (by decide +kernel)⟩
theorem lw_p65 : lw_okq (⟨"SweptFloorsModel", "lays", "(IZ[I)V"⟩, 25) := ⟨⟨by decide +kernel, by decide +kernel⟩, List.mem_of_getElem? (i := 598) (by decide +kernel), List.mem_of_getElem? (i := 805) (by decide +kernel), List.mem_of_getElem? (i := 806) (by decide +kernel)⟩
theorem lw_p66 : lw_okq (⟨"SweptFloorsModel", "looksFor", "(I)V"⟩, 25) := ⟨⟨by decide +kernel, by decide +kernel⟩, List.mem_of_getElem? (i := 598) (by decide +kernel), List.mem_of_getElem? (i := 809) (by decide +kernel), List.mem_of_getElem? (i := 810) (by decide +kernel)⟩
theorem lw_p67 : lw_okq (⟨"SweptFloorsModel", "handOn", "(I)I"⟩, 25) := ⟨⟨by decide +kernel, by decide +kernel⟩, List.mem_of_getElem? (i := 598) (by decide +kernel), List.mem_of_getElem? (i := 813) (by decide +kernel), List.mem_of_getElem? (i := 814) (by decide +kernel)⟩
theorem lw_p68 : lw_okq (⟨"SweptFloorsModel", "handTo", "([II)I"⟩, 25) := ⟨⟨by decide +kernel, by decide +kernel⟩, List.mem_of_getElem? (i := 598) (by decide +kernel), List.mem_of_getElem? (i := 817) (by decide +kernel), List.mem_of_getElem? (i := 818) (by decide +kernel)⟩
theorem lw_p69 : lw_okq (⟨"SweptFloorsModel", "manyKnown", "(I)I"⟩, 25) := ⟨⟨by decide +kernel, by decide +kernel⟩, List.mem_of_getElem? (i := 598) (by decide +kernel), List.mem_of_getElem? (i := 829) (by decide +kernel), List.mem_of_getElem? (i := 830) (by decide +kernel)⟩
theorem lw_p70 : lw_okq (⟨"SweptFloorsModel", "isFirst", "(I)Z"⟩, 25) := ⟨⟨by decide +kernel, by decide +kernel⟩, List.mem_of_getElem? (i := 598) (by decide +kernel), List.mem_of_getElem? (i := 853) (by decide +kernel), List.mem_of_getElem? (i := 854) (by decide +kernel)⟩
theorem lw_p71 : lw_okq (⟨"SweptFloorsModel", "longOf", "(I)I"⟩, 25) := ⟨⟨by decide +kernel, by decide +kernel⟩, List.mem_of_getElem? (i := 598) (by decide +kernel), List.mem_of_getElem? (i := 857) (by decide +kernel), List.mem_of_getElem? (i := 858) (by decide +kernel)⟩
theorem lw_p72 : lw_okq (⟨"SweptFloorsModel", "laysRooms", "()I"⟩, 25) := ⟨⟨by decide +kernel, by decide +kernel⟩, List.mem_of_getElem? (i := 598) (by decide +kernel), List.mem_of_getElem? (i := 865) (by decide +kernel), List.mem_of_getElem? (i := 866) (by decide +kernel)⟩
theorem lw_p73 : lw_okq (⟨"SweptFloorsModel", "isOfRoom", "(I)Z"⟩, 25) := ⟨⟨by decide +kernel, by decide +kernel⟩, List.mem_of_getElem? (i := 598) (by decide +kernel), List.mem_of_getElem? (i := 869) (by decide +kernel), List.mem_of_getElem? (i := 870) (by decide +kernel)⟩
theorem lw_p74 : lw_okq (⟨"SweptFloorsModel", "isAllDone", "()Z"⟩, 25) := ⟨⟨by decide +kernel, by decide +kernel⟩, List.mem_of_getElem? (i := 598) (by decide +kernel), List.mem_of_getElem? (i := 881) (by decide +kernel), List.mem_of_getElem? (i := 882) (by decide +kernel)⟩
def lw_privs_5 : List (MethodName × Nat) := [(⟨"SweptFloorsModel", "laysTarget", "()V"⟩, 25), (⟨"SweptFloorsModel", "lays", "(IZ[I)V"⟩, 25), (⟨"SweptFloorsModel", "looksFor", "(I)V"⟩, 25), (⟨"SweptFloorsModel", "handOn", "(I)I"⟩, 25), (⟨"SweptFloorsModel", "handTo", "([II)I"⟩, 25), (⟨"SweptFloorsModel", "manyKnown", "(I)I"⟩, 25), (⟨"SweptFloorsModel", "isFirst", "(I)Z"⟩, 25), (⟨"SweptFloorsModel", "longOf", "(I)I"⟩, 25), (⟨"SweptFloorsModel", "laysRooms", "()I"⟩, 25), (⟨"SweptFloorsModel", "isOfRoom", "(I)Z"⟩, 25), (⟨"SweptFloorsModel", "isAllDone", "()Z"⟩, 25)]
theorem lw_r5 : ∀ q ∈ lw_privs_5, lw_okq q := List.forall_mem_cons.mpr ⟨lw_p64, List.forall_mem_cons.mpr ⟨lw_p65, List.forall_mem_cons.mpr ⟨lw_p66, List.forall_mem_cons.mpr ⟨lw_p67, List.forall_mem_cons.mpr ⟨lw_p68, List.forall_mem_cons.mpr ⟨lw_p69, List.forall_mem_cons.mpr ⟨lw_p70, List.forall_mem_cons.mpr ⟨lw_p71, List.forall_mem_cons.mpr ⟨lw_p72, List.forall_mem_cons.mpr ⟨lw_p73, List.forall_mem_cons.mpr ⟨lw_p74, fun _ h => absurd h List.not_mem_nil⟩⟩⟩⟩⟩⟩⟩⟩⟩⟩⟩
def lw_privs : List (MethodName × Nat) := lw_privs_1 ++ (lw_privs_2 ++ (lw_privs_3 ++ (lw_privs_4 ++ (lw_privs_5))))
def lw_tbl : List Cond := k2_sels lw_privs ++ tables_1
theorem lw_privs_ok : ∀ q ∈ lw_privs, lw_okq q := by
  show ∀ q ∈ lw_privs_1 ++ (lw_privs_2 ++ (lw_privs_3 ++ (lw_privs_4 ++ (lw_privs_5)))), lw_okq q
  exact List.forall_mem_append.mpr ⟨lw_r1, List.forall_mem_append.mpr ⟨lw_r2, List.forall_mem_append.mpr ⟨lw_r3, List.forall_mem_append.mpr ⟨lw_r4, lw_r5⟩⟩⟩⟩
/-- the words that keep through calls -/
def zgw : List Cond := lw_tbl.filter goodWord
def z_isNest : Cond → Bool
  | .fieldLinkNest .. => true
  | .methodLinkNest .. => true
  | _ => false
def znest : List Cond := lw_tbl.filter z_isNest
theorem zgw_p {w : Cond} (i : Nat) (h : tables_1[i]? = some w) (hg : goodWord w = true) : w ∈ zgw := List.mem_filter.mpr ⟨List.mem_append_right _ (List.mem_of_getElem? h), hg⟩
theorem zgw_s {y : MethodName} {n : Nat} (i : Nat) (h : lw_privs[i]? = some (y, n)) (hg : goodWord (.selects y.cls y y) = true) : Cond.selects y.cls y y ∈ zgw := List.mem_filter.mpr ⟨List.mem_append_left _ (List.mem_map.mpr ⟨(y, n), List.mem_of_getElem? h, rfl⟩), hg⟩
theorem znest_p {w : Cond} (i : Nat) (h : tables_1[i]? = some w) (hg : z_isNest w = true) : w ∈ znest := List.mem_filter.mpr ⟨List.mem_append_right _ (List.mem_of_getElem? h), hg⟩
def zR_F : String := "SweptFloors"
def zT_F : u_T := fun k => match k with
  | 0 => ("SweptFloors", "text", "LSweptFloors$Text;", true)
  | 1 => ("SweptFloors", "ground", "LSweptFloors$Ground;", true)
  | 2 => ("SweptFloors", "now", "LSweptFloors$Situation;", true)
  | 3 => ("SweptFloors", "foreseen", "LSweptFloors$Situation;", true)
  | 4 => ("SweptFloors", "pilot", "LSweptFloors$Pilot;", true)
  | 5 => ("SweptFloors", "history", "LSweptFloors$History;", true)
  | _ => ("SweptFloors", "album", "LSweptFloors$Album;", true)
def zY_F : Nat → FieldType := fun k => match k with
  | 0 => .object "SweptFloors$Text"
  | 1 => .object "SweptFloors$Ground"
  | 2 => .object "SweptFloors$Situation"
  | 3 => .object "SweptFloors$Situation"
  | 4 => .object "SweptFloors$Pilot"
  | 5 => .object "SweptFloors$History"
  | _ => .object "SweptFloors$Album"
theorem zn_F : ∀ a, a < 7 → ∀ b, b < 7 → a ≠ b → (zT_F a).2.1 ≠ (zT_F b).2.1 := by decide +kernel
theorem zy_F : ∀ k, k < 7 → parseFieldDescriptor (zT_F k).2.2.1 = some (zY_F k) := by decide +kernel
theorem zi_F : ∀ w ∈ u_ws zR_F zT_F 7, w ∈ zgw := by
  intro w hw
  obtain ⟨k, hk, rfl⟩ := List.mem_map.mp hw
  have hk := List.mem_range.mp hk
  have hall : ∀ k, k < 7 → tables_1[([282, 284, 286, 288, 290, 292, 294] : List Nat).getD k 0]? = some (u_lay zR_F zT_F k) ∧ goodWord (u_lay zR_F zT_F k) = true := by decide +kernel
  exact zgw_p _ (hall k hk).1 (hall k hk).2
def zR_T : String := "SweptFloors$Text"
def zT_T : u_T := fun k => match k with
  | 0 => ("SweptFloors$Text", "letters", "[I", true)
  | 1 => ("SweptFloors$Text", "length", "I", false)
  | 2 => ("SweptFloors$Text", "kinds", "[I", true)
  | 3 => ("SweptFloors$Text", "cells", "I", false)
  | 4 => ("SweptFloors$Text", "width", "I", false)
  | 5 => ("SweptFloors$Text", "height", "I", false)
  | 6 => ("SweptFloors$Text", "signsInRow", "I", false)
  | _ => ("SweptFloors$Text", "dock", "I", false)
def zY_T : Nat → FieldType := fun k => match k with
  | 0 => .array (.int)
  | 1 => .int
  | 2 => .array (.int)
  | 3 => .int
  | 4 => .int
  | 5 => .int
  | 6 => .int
  | _ => .int
theorem zn_T : ∀ a, a < 8 → ∀ b, b < 8 → a ≠ b → (zT_T a).2.1 ≠ (zT_T b).2.1 := by decide +kernel
theorem zy_T : ∀ k, k < 8 → parseFieldDescriptor (zT_T k).2.2.1 = some (zY_T k) := by decide +kernel
theorem zi_T : ∀ w ∈ u_ws zR_T zT_T 8, w ∈ zgw := by
  intro w hw
  obtain ⟨k, hk, rfl⟩ := List.mem_map.mp hw
  have hk := List.mem_range.mp hk
  have hall : ∀ k, k < 8 → tables_1[([40, 42, 44, 46, 48, 50, 52, 54] : List Nat).getD k 0]? = some (u_lay zR_T zT_T k) ∧ goodWord (u_lay zR_T zT_T k) = true := by decide +kernel
  exact zgw_p _ (hall k hk).1 (hall k hk).2
def zR_G : String := "SweptFloors$Ground"
def zT_G : u_T := fun k => match k with
  | 0 => ("SweptFloors$Ground", "width", "I", false)
  | 1 => ("SweptFloors$Ground", "height", "I", false)
  | 2 => ("SweptFloors$Ground", "dock", "I", false)
  | 3 => ("SweptFloors$Ground", "all", "J", false)
  | 4 => ("SweptFloors$Ground", "plain", "J", false)
  | 5 => ("SweptFloors$Ground", "cliffs", "J", false)
  | 6 => ("SweptFloors$Ground", "barred", "J", false)
  | 7 => ("SweptFloors$Ground", "doors", "J", false)
  | 8 => ("SweptFloors$Ground", "leftmost", "J", false)
  | _ => ("SweptFloors$Ground", "rightmost", "J", false)
def zY_G : Nat → FieldType := fun k => match k with
  | 0 => .int
  | 1 => .int
  | 2 => .int
  | 3 => .long
  | 4 => .long
  | 5 => .long
  | 6 => .long
  | 7 => .long
  | 8 => .long
  | _ => .long
theorem zn_G : ∀ a, a < 10 → ∀ b, b < 10 → a ≠ b → (zT_G a).2.1 ≠ (zT_G b).2.1 := by decide +kernel
theorem zy_G : ∀ k, k < 10 → parseFieldDescriptor (zT_G k).2.2.1 = some (zY_G k) := by decide +kernel
theorem zi_G : ∀ w ∈ u_ws zR_G zT_G 10, w ∈ zgw := by
  intro w hw
  obtain ⟨k, hk, rfl⟩ := List.mem_map.mp hw
  have hk := List.mem_range.mp hk
  have hall : ∀ k, k < 10 → tables_1[([88, 90, 92, 94, 96, 98, 100, 102, 104, 106] : List Nat).getD k 0]? = some (u_lay zR_G zT_G k) ∧ goodWord (u_lay zR_G zT_G k) = true := by decide +kernel
  exact zgw_p _ (hall k hk).1 (hall k hk).2
def zR_S : String := "SweptFloors$Situation"
def zT_S : u_T := fun k => match k with
  | 0 => ("SweptFloors$Situation", "ground", "LSweptFloors$Ground;", true)
  | 1 => ("SweptFloors$Situation", "shut", "J", false)
  | 2 => ("SweptFloors$Situation", "brim", "I", false)
  | 3 => ("SweptFloors$Situation", "rate", "I", false)
  | 4 => ("SweptFloors$Situation", "cell", "I", false)
  | 5 => ("SweptFloors$Situation", "heading", "I", false)
  | 6 => ("SweptFloors$Situation", "charge", "I", false)
  | 7 => ("SweptFloors$Situation", "knownFree", "J", false)
  | 8 => ("SweptFloors$Situation", "knownNotFree", "J", false)
  | 9 => ("SweptFloors$Situation", "lost", "Z", false)
  | _ => ("SweptFloors$Situation", "places", "[J", true)
def zY_S : Nat → FieldType := fun k => match k with
  | 0 => .object "SweptFloors$Ground"
  | 1 => .long
  | 2 => .int
  | 3 => .int
  | 4 => .int
  | 5 => .int
  | 6 => .int
  | 7 => .long
  | 8 => .long
  | 9 => .boolean
  | _ => .array (.long)
theorem zn_S : ∀ a, a < 11 → ∀ b, b < 11 → a ≠ b → (zT_S a).2.1 ≠ (zT_S b).2.1 := by decide +kernel
theorem zy_S : ∀ k, k < 11 → parseFieldDescriptor (zT_S k).2.2.1 = some (zY_S k) := by decide +kernel
theorem zi_S : ∀ w ∈ u_ws zR_S zT_S 11, w ∈ zgw := by
  intro w hw
  obtain ⟨k, hk, rfl⟩ := List.mem_map.mp hw
  have hk := List.mem_range.mp hk
  have hall : ∀ k, k < 11 → tables_1[([142, 144, 146, 148, 150, 152, 154, 156, 158, 160, 162] : List Nat).getD k 0]? = some (u_lay zR_S zT_S k) ∧ goodWord (u_lay zR_S zT_S k) = true := by decide +kernel
  exact zgw_p _ (hall k hk).1 (hall k hk).2
def zR_P : String := "SweptFloors$Pilot"
def zT_P : u_T := fun k => match k with
  | 0 => ("SweptFloors$Pilot", "target", "I", false)
  | 1 => ("SweptFloors$Pilot", "gate", "I", false)
  | 2 => ("SweptFloors$Pilot", "way", "I", false)
  | _ => ("SweptFloors$Pilot", "wayBack", "I", false)
def zY_P : Nat → FieldType := fun k => match k with
  | 0 => .int
  | 1 => .int
  | 2 => .int
  | _ => .int
theorem zn_P : ∀ a, a < 4 → ∀ b, b < 4 → a ≠ b → (zT_P a).2.1 ≠ (zT_P b).2.1 := by decide +kernel
theorem zy_P : ∀ k, k < 4 → parseFieldDescriptor (zT_P k).2.2.1 = some (zY_P k) := by decide +kernel
theorem zi_P : ∀ w ∈ u_ws zR_P zT_P 4, w ∈ zgw := by
  intro w hw
  obtain ⟨k, hk, rfl⟩ := List.mem_map.mp hw
  have hk := List.mem_range.mp hk
  have hall : ∀ k, k < 4 → tables_1[([180, 182, 184, 186] : List Nat).getD k 0]? = some (u_lay zR_P zT_P k) ∧ goodWord (u_lay zR_P zT_P k) = true := by decide +kernel
  exact zgw_p _ (hall k hk).1 (hall k hk).2
def zR_H : String := "SweptFloors$History"
def zT_H : u_T := fun k => match k with
  | 0 => ("SweptFloors$History", "past", "[LSweptFloors$Situation;", true)
  | 1 => ("SweptFloors$History", "latest", "I", false)
  | _ => ("SweptFloors$History", "size", "I", false)
def zY_H : Nat → FieldType := fun k => match k with
  | 0 => .array (.object "SweptFloors$Situation")
  | 1 => .int
  | _ => .int
theorem zn_H : ∀ a, a < 3 → ∀ b, b < 3 → a ≠ b → (zT_H a).2.1 ≠ (zT_H b).2.1 := by decide +kernel
theorem zy_H : ∀ k, k < 3 → parseFieldDescriptor (zT_H k).2.2.1 = some (zY_H k) := by decide +kernel
theorem zi_H : ∀ w ∈ u_ws zR_H zT_H 3, w ∈ zgw := by
  intro w hw
  obtain ⟨k, hk, rfl⟩ := List.mem_map.mp hw
  have hk := List.mem_range.mp hk
  have hall : ∀ k, k < 3 → tables_1[([202, 204, 206] : List Nat).getD k 0]? = some (u_lay zR_H zT_H k) ∧ goodWord (u_lay zR_H zT_H k) = true := by decide +kernel
  exact zgw_p _ (hall k hk).1 (hall k hk).2
def zR_A : String := "SweptFloors$Album"
def zT_A : u_T := fun k => match k with
  | 0 => ("SweptFloors$Album", "pictures", "[LSweptFloors$Situation;", true)
  | _ => ("SweptFloors$Album", "kept", "[Z", true)
def zY_A : Nat → FieldType := fun k => match k with
  | 0 => .array (.object "SweptFloors$Situation")
  | _ => .array (.boolean)
theorem zn_A : ∀ a, a < 2 → ∀ b, b < 2 → a ≠ b → (zT_A a).2.1 ≠ (zT_A b).2.1 := by decide +kernel
theorem zy_A : ∀ k, k < 2 → parseFieldDescriptor (zT_A k).2.2.1 = some (zY_A k) := by decide +kernel
theorem zi_A : ∀ w ∈ u_ws zR_A zT_A 2, w ∈ zgw := by
  intro w hw
  obtain ⟨k, hk, rfl⟩ := List.mem_map.mp hw
  have hk := List.mem_range.mp hk
  have hall : ∀ k, k < 2 → tables_1[([219, 221] : List Nat).getD k 0]? = some (u_lay zR_A zT_A k) ∧ goodWord (u_lay zR_A zT_A k) = true := by decide +kernel
  exact zgw_p _ (hall k hk).1 (hall k hk).2
def zR_M : String := "SweptFloorsModel"
def zT_M : u_T := fun k => match k with
  | 0 => ("SweptFloorsModel", "width", "I", false)
  | 1 => ("SweptFloorsModel", "height", "I", false)
  | 2 => ("SweptFloorsModel", "dock", "I", false)
  | 3 => ("SweptFloorsModel", "s", "[I", true)
  | 4 => ("SweptFloorsModel", "undos", "I", false)
  | 5 => ("SweptFloorsModel", "past", "[I", true)
  | 6 => ("SweptFloorsModel", "isKept", "[Z", true)
  | 7 => ("SweptFloorsModel", "kept", "[I", true)
  | 8 => ("SweptFloorsModel", "spare", "[I", true)
  | 9 => ("SweptFloorsModel", "letters", "I", false)
  | 10 => ("SweptFloorsModel", "text", "[I", true)
  | 11 => ("SweptFloorsModel", "read", "[I", true)
  | 12 => ("SweptFloorsModel", "rows", "I", false)
  | 13 => ("SweptFloorsModel", "wide", "I", false)
  | 14 => ("SweptFloorsModel", "signs", "I", false)
  | 15 => ("SweptFloorsModel", "newDock", "I", false)
  | 16 => ("SweptFloorsModel", "newPlaces", "[I", true)
  | 17 => ("SweptFloorsModel", "far", "[I", true)
  | 18 => ("SweptFloorsModel", "home", "[I", true)
  | 19 => ("SweptFloorsModel", "toGate", "[I", true)
  | 20 => ("SweptFloorsModel", "target", "I", false)
  | 21 => ("SweptFloorsModel", "gate", "I", false)
  | 22 => ("SweptFloorsModel", "wayTo", "I", false)
  | 23 => ("SweptFloorsModel", "wayBack", "I", false)
  | _ => ("SweptFloorsModel", "rooms", "[I", true)
def zY_M : Nat → FieldType := fun k => match k with
  | 0 => .int
  | 1 => .int
  | 2 => .int
  | 3 => .array (.int)
  | 4 => .int
  | 5 => .array (.int)
  | 6 => .array (.boolean)
  | 7 => .array (.int)
  | 8 => .array (.int)
  | 9 => .int
  | 10 => .array (.int)
  | 11 => .array (.int)
  | 12 => .int
  | 13 => .int
  | 14 => .int
  | 15 => .int
  | 16 => .array (.int)
  | 17 => .array (.int)
  | 18 => .array (.int)
  | 19 => .array (.int)
  | 20 => .int
  | 21 => .int
  | 22 => .int
  | 23 => .int
  | _ => .array (.int)
theorem zn_M : ∀ a, a < 25 → ∀ b, b < 25 → a ≠ b → (zT_M a).2.1 ≠ (zT_M b).2.1 := by decide +kernel
theorem zy_M : ∀ k, k < 25 → parseFieldDescriptor (zT_M k).2.2.1 = some (zY_M k) := by decide +kernel
theorem zi_M : ∀ w ∈ u_ws zR_M zT_M 25, w ∈ zgw := by
  intro w hw
  obtain ⟨k, hk, rfl⟩ := List.mem_map.mp hw
  have hk := List.mem_range.mp hk
  have hall : ∀ k, k < 25 → tables_1[([636, 638, 640, 642, 644, 646, 648, 650, 652, 654, 656, 658, 660, 662, 664, 666, 668, 670, 672, 674, 676, 678, 680, 682, 684] : List Nat).getD k 0]? = some (u_lay zR_M zT_M k) ∧ goodWord (u_lay zR_M zT_M k) = true := by decide +kernel
  exact zgw_p _ (hall k hk).1 (hall k hk).2
/-- the classes whose objects the heap holds -/
def zcl : List vw_C := [(zR_F, zT_F, 7), (zR_T, zT_T, 8), (zR_G, zT_G, 10), (zR_S, zT_S, 11), (zR_P, zT_P, 4), (zR_H, zT_H, 3), (zR_A, zT_A, 2), (zR_M, zT_M, 25)]
end
section
/-! ===== the abstract machine: heap cells by their places, its steps proved once over the kit's rows ===== -/
abbrev zC : Type := (Nat × vp_A) ⊕ (Nat × List Value)
abbrev zH : Type := List zC
abbrev zL : Type := List (Nat × Option Value)
abbrev zM : Type := MethodName × ByteArray × Nat × Option FieldType
abbrev zG : Type := Nat × (Nat → ClassId) × va_G
/-- a value of the abstract machine as the machine has it: cell k lies at b + k; retAddr a stands for the cell at a itself -/
def zv (b : Nat) : Value → Value
  | .ref k => .ref (b + k)
  | .retAddr a => .ref a
  | v => v
theorem zv_cat (b : Nat) (v : Value) : (zv b v).category = v.category := by cases v <;> rfl
def zAr (b : Nat) : vp_A → vp_A
  | (n, .inr (.inr (.inr (.inr f)))) => (n, .inr (.inr (.inr (.inr (fun j => (f j).map (b + ·))))))
  | a => a
def zE (b : Nat) (ca : Nat → ClassId) : zC → va_E
  | .inl (t, a) => .inl (ca t, zAr b a)
  | .inr (c, fs) => .inr (c, fs.map (zv b))
def zW (b : Nat) (ca : Nat → ClassId) (h : zH) : va_W := h.mapIdx (fun k c => (b + k, zE b ca c))
theorem zW_get {b : Nat} {ca : Nat → ClassId} {h : zH} {k : Nat} {c : zC} (hk : h[k]? = some c) : (zW b ca h)[k]? = some (b + k, zE b ca c) := by
  simp [zW, hk]
theorem zW_len {b : Nat} {ca : Nat → ClassId} {h : zH} : (zW b ca h).length = h.length := by simp [zW]
theorem zW_set {b : Nat} {ca : Nat → ClassId} {h : zH} {k : Nat} {c : zC} : (zW b ca h).set k (b + k, zE b ca c) = zW b ca (h.set k c) := by
  apply List.ext_getElem?
  intro i
  simp only [zW, List.getElem?_set, List.getElem?_mapIdx, List.length_mapIdx]
  by_cases hi : k = i
  · subst hi
    by_cases hl : k < h.length <;> simp [hl]
  · simp [hi]
theorem zW_app {b : Nat} {ca : Nat → ClassId} {h : zH} {c : zC} : zW b ca h ++ [(b + h.length, zE b ca c)] = zW b ca (h ++ [c]) := by
  simp [zW, List.mapIdx_append]
theorem zW_D {b : Nat} {ca : Nat → ClassId} {h : zH} : va_D (fun q => b ≤ q) (zW b ca h) := by
  refine ⟨fun i j p q hp hq e => ?_, fun k q hq => ?_⟩
  · simp only [zW, List.getElem?_mapIdx, Option.map_eq_some_iff] at hp hq
    obtain ⟨_, -, rfl⟩ := hp
    obtain ⟨_, -, rfl⟩ := hq
    exact Nat.add_left_cancel e
  · simp only [zW, List.getElem?_mapIdx, Option.map_eq_some_iff] at hq
    obtain ⟨_, -, rfl⟩ := hq
    exact Nat.le_add_right _ _
/-- the array classes: of ints, longs, booleans, situations -/
def ztys (g : zG) : List (ClassId × FieldType) := [(g.2.1 0, .int), (g.2.1 1, .long), (g.2.1 2, .boolean), (g.2.1 3, .object "SweptFloors$Situation")]
def zN (U : State) : Prop := ∀ w ∈ znest, va_Nw w U
theorem zN.warm {s U : State} (hW : s.WarmedH U.vm) (h : zN s) : zN U := by
  intro w hw
  have h0 := h w hw
  have hn := (List.mem_filter.mp hw).2
  cases w <;> first | exact va_Nw.warmF hW h0 | exact va_Nw.warmM hW h0 | cases hn
theorem zN.same {u U : State} (e : u.vm = U.vm) (h : zN u) : zN U := by
  intro w hw
  have h0 := h w hw
  have hn := (List.mem_filter.mp hw).2
  cases w <;> first | exact va_Nw.same rfl e h0 | cases hn
def zK (g : zG) (U : State) : Prop := va_K g.2.2 zcl (ztys g) U ∧ zN U
/-- what a method begins with -/
def zB (g : zG) (h : zH) (U : State) : Prop := U.heap.size = g.1 + h.length ∧ va_P g.2.2 zcl (zW g.1 g.2.1 h) U.heap ∧ zK g U
/-- what it ends with -/
def zQ (g : zG) (post : Option Value → zH → Prop) (n1 : Nat) : Array Value → State → Outcome → State → Prop := fun _ st oc t =>
  (∃ (v : Option Value) (h' : zH), oc = .returned (v.map (zv g.1)) ∧ post v h' ∧ h'.length = n1 ∧ va_P g.2.2 zcl (zW g.1 g.2.1 h') t.heap) ∧ va_F (fun q => g.1 ≤ q) st t
def zrm (d mc ms : Nat) : Room := { frames := d, cells := mc, slots := ms, locals := 38 * d }
/-- a method's contract: from the heap h with these arguments it returns, with 'post' of its answer and of the heap behind it -/
def Run (l : Launch) (g : zG) (M : zM) (d mc ms : Nat) (args : List Value) (h : zH) (post : Option Value → zH → Prop) : Prop :=
  Met l M.1 (.code M.1 M.2.1 M.2.2.1 M.2.2.2 :: zgw) (zrm d mc ms) (va_Pc (args.map (zv g.1)) (zB g h)) (zQ g post (h.length + mc)) mc ms (fun q => g.1 ≤ q)
def zfind : Nat → zL → Option Value
  | _, [] => none
  | i, (j, o) :: r => bif i == j then o else zfind i r
def zLs (b nL : Nat) (lsA : Array Slot) (ls : zL) : Prop := lv_has lsA nL [] ∧ ∀ (i : Nat) (v : Value), zfind i ls = some v → lsA[i]? = some (.val (zv b v))
def zX (g : zG) (M : zM) (Z : State → Prop) (p : Program) (s : State) (m : MethodId) (args : Array Value) (meth : Method) (c : Code) : Prop :=
  p.tables.exec = Jvm.exec ∧ c.code = M.2.1 ∧ meth.sig.returnType = M.2.2.2 ∧ c.maxLocals = M.2.2.1 ∧ s.vm.findClass M.1.cls = some m.cls ∧ (∀ w ∈ zgw, w.before args s = true) ∧ meth.locks = false ∧ meth.name = M.1.name ∧ Z s ∧ zK g s ∧ g.1 ≤ s.heap.size
/-- the abstract machine at pc, with locals ls, stack st, heap h, comes to QQ -/
def WW (l : Launch) (g : zG) (M : zM) (R : Room) (Z : State → Prop) (QQ : List Frame → Array Value → State → State → Prop) (pc : Nat) (ls : zL) (st : List Value) (h : zH) (k n : Nat) : Prop :=
  ∀ (p : Program) (e : Env) (s : State) (m : MethodId) (args : Array Value) (below : List Frame) (meth : Method) (c : Code) (H : Heap) (locs : List Loc) (lsA : Array Slot),
    zX g M Z p s m args meth c → s.heap.size + k = g.1 + h.length → va_P g.2.2 zcl (zW g.1 g.2.1 h) H → va_S (fun q => g.1 ≤ q) s.heap H locs → zLs g.1 M.2.2.1 lsA ls →
    W p l e R s m args below meth c H locs k n (QQ below args s) (F0 m pc lsA (st.map (zv g.1)))
def zQQ (g : zG) (post : Option Value → zH → Prop) (n1 mc ms : Nat) : List Frame → Array Value → State → State → Prop := fun below args s => MQ below (zQ g post n1) args s mc ms (fun q => g.1 ≤ q)
/-! locals -/
theorem zfind_cons_eq (i : Nat) (o : Option Value) (r : zL) : zfind i ((i, o) :: r) = o := by simp [zfind]
theorem zfind_cons_ne {i j : Nat} (o : Option Value) (r : zL) (h : i ≠ j) : zfind i ((j, o) :: r) = zfind i r := by
  have e : (i == j) = false := by simpa using h
  simp [zfind, e]
theorem zfind_mem {i : Nat} {v : Value} : ∀ {ls : zL}, zfind i ls = some v → ∃ q ∈ ls, q.1 = i := by
  intro ls
  induction ls with
  | nil => intro h; simp [zfind] at h
  | cons a r ih =>
    intro h
    obtain ⟨j, o⟩ := a
    by_cases e : i = j
    · exact ⟨(j, o), List.mem_cons_self, e.symm⟩
    · rw [zfind_cons_ne o r e] at h
      obtain ⟨q, h1, h2⟩ := ih h
      exact ⟨q, List.mem_cons_of_mem _ h1, h2⟩
def zl (b : Nat) (ls : zL) : List (Nat × Value) := ls.filterMap (fun q => (zfind q.1 ls).map (fun v => (q.1, zv b v)))
theorem zl_mem {b : Nat} {ls : zL} {i : Nat} {v : Value} (h : zfind i ls = some v) : (i, zv b v) ∈ zl b ls := by
  obtain ⟨q, h1, h2⟩ := zfind_mem h
  exact List.mem_filterMap.mpr ⟨q, h1, by rw [h2, h]; rfl⟩
theorem zLs.has {b nL : Nat} {lsA : Array Slot} {ls : zL} (h : zLs b nL lsA ls) : lv_has lsA nL (zl b ls) := by
  refine ⟨h.1.1, h.1.2.1, fun q hq => ?_⟩
  obtain ⟨r, -, h2⟩ := List.mem_filterMap.mp hq
  obtain ⟨v, h3, rfl⟩ := Option.map_eq_some_iff.mp h2
  exact h.2 _ _ h3
def zok (i : Nat) (ls : zL) : Bool := match i with
  | 0 => true
  | j + 1 => match zfind j ls with
    | some v => v.category == 1
    | none => true
theorem zok_ne {i j : Nat} {ls : zL} {v : Value} (h : zok i ls = true) (hj : zfind j ls = some v) (e : j + 1 = i) : v.category = 1 := by
  subst e
  simpa [zok, hj] using h
theorem zLs.put1 {b nL i : Nat} {lsA : Array Slot} {ls : zL} {v : Value} (hk : zok i ls = true) (h : lv_has lsA nL ((i, zv b v) :: (zl b ls).filter (fun q => !(q.1 == i) && !(q.1 + 1 == i && q.2.category == 2)))) : zLs b nL lsA ((i, some v) :: ls) := by
  refine ⟨⟨h.1, h.2.1, fun q hq => by cases hq⟩, fun j w hj => ?_⟩
  by_cases e : j = i
  · subst e
    rw [zfind_cons_eq] at hj
    cases hj
    exact h.2.2 _ List.mem_cons_self
  · rw [zfind_cons_ne _ _ e] at hj
    refine h.2.2 (j, zv b w) (List.mem_cons_of_mem _ (List.mem_filter.mpr ⟨zl_mem hj, ?_⟩))
    by_cases e2 : j + 1 = i
    · have := zok_ne hk hj e2
      simp [e, zv_cat, this]
    · simp [e, e2]
theorem zLs.put2 {b nL i : Nat} {lsA : Array Slot} {ls : zL} {v : Value} (hk : zok i ls = true) (h : lv_has lsA nL ((i, zv b v) :: (zl b ls).filter (fun q => !(q.1 == i) && (!(q.1 == i + 1) && !(q.1 + 1 == i && q.2.category == 2))))) : zLs b nL lsA ((i, some v) :: (i + 1, none) :: ls) := by
  refine ⟨⟨h.1, h.2.1, fun q hq => by cases hq⟩, fun j w hj => ?_⟩
  by_cases e : j = i
  · subst e
    rw [zfind_cons_eq] at hj
    cases hj
    exact h.2.2 _ List.mem_cons_self
  · rw [zfind_cons_ne _ _ e] at hj
    by_cases e1 : j = i + 1
    · subst e1
      rw [zfind_cons_eq] at hj
      cases hj
    · rw [zfind_cons_ne _ _ e1] at hj
      refine h.2.2 (j, zv b w) (List.mem_cons_of_mem _ (List.mem_filter.mpr ⟨zl_mem hj, ?_⟩))
      by_cases e2 : j + 1 = i
      · have := zok_ne hk hj e2
        simp [e, e1, zv_cat, this]
      · simp [e, e1, e2]
/-- fewer locals, in another order -/
def zsub : zL → zL → Prop
  | [], _ => True
  | (i, o) :: r, ls => zfind i ls = o ∧ zsub r ls
theorem zsub_find {ls : zL} : ∀ {r : zL}, zsub r ls → ∀ {i : Nat} {v : Value}, zfind i r = some v → zfind i ls = some v := by
  intro r
  induction r with
  | nil => intro _ i v h; simp [zfind] at h
  | cons a r ih =>
    intro hs i v h
    obtain ⟨j, o⟩ := a
    by_cases e : i = j
    · subst e
      rw [zfind_cons_eq] at h
      exact hs.1.trans h
    · rw [zfind_cons_ne _ _ e] at h
      exact ih hs.2 h
def zargs : Nat → List Value → zL
  | _, [] => []
  | i, v :: vs => (i, some v) :: zargs (if v.category = 2 then i + 2 else i + 1) vs
theorem zargs_find {b : Nat} : ∀ {vs : List Value} {i j : Nat} {v : Value}, zfind j (zargs i vs) = some v → (j, zv b v) ∈ lv_args i (vs.map (zv b)) := by
  intro vs
  induction vs with
  | nil => intro i j v h; simp [zargs, zfind] at h
  | cons a r ih =>
    intro i j v h
    by_cases e : j = i
    · subst e
      rw [zargs, zfind_cons_eq] at h
      cases h
      exact List.mem_cons_self
    · rw [zargs, zfind_cons_ne _ _ e] at h
      refine List.mem_cons_of_mem _ ?_
      show (j, zv b v) ∈ lv_args (if (zv b a).category = 2 then i + 2 else i + 1) (r.map (zv b))
      rw [zv_cat]
      exact ih h

section ZW
variable {l : Launch} {g : zG} {M : zM} {R : Room} {Z : State → Prop} {QQ : List Frame → Array Value → State → State → Prop} {pc : Nat} {ls : zL} {st : List Value} {h : zH} {k n : Nat}
theorem zw_iconst {a : Int} {v : Int32} (hd : decode M.2.1 pc = .ok (.iconst a, 1)) (hv : Int32.ofInt a = v) (kk : WW l g M R Z QQ (pc + 1) ls (.int v :: st) h k n) : WW l g M R Z QQ pc ls st h k n := by
  intro p e s m args below meth c H locs lsA X hz hP hS hL
  exact lv_iconst X.1 X.2.1 hd hv (kk p e s m args below meth c H locs lsA X hz hP hS hL)
theorem zw_bipush {a : Int} {v : Int32} (hd : decode M.2.1 pc = .ok (.bipush a, 2)) (hv : (Int8.ofInt a).toInt32 = v) (kk : WW l g M R Z QQ (pc + 2) ls (.int v :: st) h k n) : WW l g M R Z QQ pc ls st h k n := by
  intro p e s m args below meth c H locs lsA X hz hP hS hL
  exact lv_bipush X.1 X.2.1 hd hv (kk p e s m args below meth c H locs lsA X hz hP hS hL)
theorem zw_sipush {a : Int} {v : Int32} (hd : decode M.2.1 pc = .ok (.sipush a, 3)) (hv : (Int16.ofInt a).toInt32 = v) (kk : WW l g M R Z QQ (pc + 3) ls (.int v :: st) h k n) : WW l g M R Z QQ pc ls st h k n := by
  intro p e s m args below meth c H locs lsA X hz hP hS hL
  exact lv_sipush X.1 X.2.1 hd hv (kk p e s m args below meth c H locs lsA X hz hP hS hL)
theorem zw_lconst {a : Fin 2} {v : Int64} (hd : decode M.2.1 pc = .ok (.lconst a, 1)) (hv : Int64.ofNat (a : Nat) = v) (kk : WW l g M R Z QQ (pc + 1) ls (.long v :: st) h k n) : WW l g M R Z QQ pc ls st h k n := by
  intro p e s m args below meth c H locs lsA X hz hP hS hL
  exact lv_lconst X.1 X.2.1 hd hv (kk p e s m args below meth c H locs lsA X hz hP hS hL)
theorem zw_null  (hd : decode M.2.1 pc = .ok (.aconst_null, 1))  (kk : WW l g M R Z QQ (pc + 1) ls (.null :: st) h k n) : WW l g M R Z QQ pc ls st h k n := by
  intro p e s m args below meth c H locs lsA X hz hP hS hL
  exact lv_null X.1 X.2.1 hd (kk p e s m args below meth c H locs lsA X hz hP hS hL)
theorem zw_ldc2 {idx : Nat} {v : Int64} (hd : decode M.2.1 pc = .ok (.ldc2_w idx, 3)) (hc : Cond.constantLong M.1.cls idx v ∈ zgw) (kk : WW l g M R Z QQ (pc + 3) ls (.long v :: st) h k n) : WW l g M R Z QQ pc ls st h k n := by
  intro p e s m args below meth c H locs lsA X hz hP hS hL
  exact lv_ldc2 X.1 X.2.1 X.2.2.2.2.1 (X.2.2.2.2.2.1 _ hc) hd (kk p e s m args below meth c H locs lsA X hz hP hS hL)
theorem zw_iload_n {a : Fin 4} {x : Int32} (hd : decode M.2.1 pc = .ok (.iload_n a, 1)) (hf : zfind (a : Nat) ls = some (.int x)) (kk : WW l g M R Z QQ (pc + 1) ls (.int x :: st) h k n) : WW l g M R Z QQ pc ls st h k n := by
  intro p e s m args below meth c H locs lsA X hz hP hS hL
  exact lv_iload_n X.1 X.2.1 hd rfl (hL.2 _ _ hf) (kk p e s m args below meth c H locs lsA X hz hP hS hL)
theorem zw_iload {i : Nat} {x : Int32} (hd : decode M.2.1 pc = .ok (.iload i, 2)) (hf : zfind i ls = some (.int x)) (kk : WW l g M R Z QQ (pc + 2) ls (.int x :: st) h k n) : WW l g M R Z QQ pc ls st h k n := by
  intro p e s m args below meth c H locs lsA X hz hP hS hL
  exact lv_iload X.1 X.2.1 hd (hL.2 _ _ hf) (kk p e s m args below meth c H locs lsA X hz hP hS hL)
theorem zw_lload_n {a : Fin 4} {x : Int64} (hd : decode M.2.1 pc = .ok (.lload_n a, 1)) (hf : zfind (a : Nat) ls = some (.long x)) (kk : WW l g M R Z QQ (pc + 1) ls (.long x :: st) h k n) : WW l g M R Z QQ pc ls st h k n := by
  intro p e s m args below meth c H locs lsA X hz hP hS hL
  exact lv_lload_n X.1 X.2.1 hd rfl (hL.2 _ _ hf) (kk p e s m args below meth c H locs lsA X hz hP hS hL)
theorem zw_lload {i : Nat} {x : Int64} (hd : decode M.2.1 pc = .ok (.lload i, 2)) (hf : zfind i ls = some (.long x)) (kk : WW l g M R Z QQ (pc + 2) ls (.long x :: st) h k n) : WW l g M R Z QQ pc ls st h k n := by
  intro p e s m args below meth c H locs lsA X hz hP hS hL
  exact lv_lload X.1 X.2.1 hd (hL.2 _ _ hf) (kk p e s m args below meth c H locs lsA X hz hP hS hL)
theorem zw_aload_n {a : Fin 4} {x : Nat} (hd : decode M.2.1 pc = .ok (.aload_n a, 1)) (hf : zfind (a : Nat) ls = some (.ref x)) (kk : WW l g M R Z QQ (pc + 1) ls (.ref x :: st) h k n) : WW l g M R Z QQ pc ls st h k n := by
  intro p e s m args below meth c H locs lsA X hz hP hS hL
  exact lv_aload_n X.1 X.2.1 hd rfl (hL.2 _ _ hf) (kk p e s m args below meth c H locs lsA X hz hP hS hL)
theorem zw_aload {i : Nat} {x : Nat} (hd : decode M.2.1 pc = .ok (.aload i, 2)) (hf : zfind i ls = some (.ref x)) (kk : WW l g M R Z QQ (pc + 2) ls (.ref x :: st) h k n) : WW l g M R Z QQ pc ls st h k n := by
  intro p e s m args below meth c H locs lsA X hz hP hS hL
  exact lv_aload X.1 X.2.1 hd (hL.2 _ _ hf) (kk p e s m args below meth c H locs lsA X hz hP hS hL)
theorem zw_aloadS_n {a : Fin 4} {x : Nat} (hd : decode M.2.1 pc = .ok (.aload_n a, 1)) (hf : zfind (a : Nat) ls = some (.retAddr x)) (kk : WW l g M R Z QQ (pc + 1) ls (.retAddr x :: st) h k n) : WW l g M R Z QQ pc ls st h k n := by
  intro p e s m args below meth c H locs lsA X hz hP hS hL
  exact lv_aload_n X.1 X.2.1 hd rfl (hL.2 _ _ hf) (kk p e s m args below meth c H locs lsA X hz hP hS hL)
theorem zw_istore_n {a : Fin 4} {x : Int32} (hd : decode M.2.1 pc = .ok (.istore_n a, 1)) (hn : (a : Nat) < M.2.2.1) (hk : zok (a : Nat) ls = true) (kk : WW l g M R Z QQ (pc + 1) (((a : Nat), some (.int x)) :: ls) st h k n) : WW l g M R Z QQ pc ls (.int x :: st) h k n := by
  intro p e s m args below meth c H locs lsA X hz hP hS hL
  refine lv_istore_n X.1 X.2.1 hd rfl hL.has hn rfl (fun ls2 hl2 => ?_)
  exact kk p e s m args below meth c H locs ls2 X hz hP hS (zLs.put1 (v := .int x) hk hl2)
theorem zw_istore {i : Nat} {x : Int32} (hd : decode M.2.1 pc = .ok (.istore i, 2)) (hn : i < M.2.2.1) (hk : zok i ls = true) (kk : WW l g M R Z QQ (pc + 2) ((i, some (.int x)) :: ls) st h k n) : WW l g M R Z QQ pc ls (.int x :: st) h k n := by
  intro p e s m args below meth c H locs lsA X hz hP hS hL
  refine lv_istore X.1 X.2.1 hd hL.has hn rfl (fun ls2 hl2 => ?_)
  exact kk p e s m args below meth c H locs ls2 X hz hP hS (zLs.put1 (v := .int x) hk hl2)
theorem zw_lstore_n {a : Fin 4} {x : Int64} (hd : decode M.2.1 pc = .ok (.lstore_n a, 1)) (hn : (a : Nat) + 1 < M.2.2.1) (hk : zok (a : Nat) ls = true) (kk : WW l g M R Z QQ (pc + 1) (((a : Nat), some (.long x)) :: ((a : Nat) + 1, none) :: ls) st h k n) : WW l g M R Z QQ pc ls (.long x :: st) h k n := by
  intro p e s m args below meth c H locs lsA X hz hP hS hL
  refine lv_lstore_n X.1 X.2.1 hd rfl hL.has hn rfl (fun ls2 hl2 => ?_)
  exact kk p e s m args below meth c H locs ls2 X hz hP hS (zLs.put2 (v := .long x) hk hl2)
theorem zw_lstore {i : Nat} {x : Int64} (hd : decode M.2.1 pc = .ok (.lstore i, 2)) (hn : i + 1 < M.2.2.1) (hk : zok i ls = true) (kk : WW l g M R Z QQ (pc + 2) ((i, some (.long x)) :: (i + 1, none) :: ls) st h k n) : WW l g M R Z QQ pc ls (.long x :: st) h k n := by
  intro p e s m args below meth c H locs lsA X hz hP hS hL
  refine lv_lstore X.1 X.2.1 hd hL.has hn rfl (fun ls2 hl2 => ?_)
  exact kk p e s m args below meth c H locs ls2 X hz hP hS (zLs.put2 (v := .long x) hk hl2)
theorem zw_astore_n {a : Fin 4} {x : Nat} (hd : decode M.2.1 pc = .ok (.astore_n a, 1)) (hn : (a : Nat) < M.2.2.1) (hk : zok (a : Nat) ls = true) (kk : WW l g M R Z QQ (pc + 1) (((a : Nat), some (.ref x)) :: ls) st h k n) : WW l g M R Z QQ pc ls (.ref x :: st) h k n := by
  intro p e s m args below meth c H locs lsA X hz hP hS hL
  refine lv_astore_n X.1 X.2.1 hd rfl hL.has hn rfl (fun ls2 hl2 => ?_)
  exact kk p e s m args below meth c H locs ls2 X hz hP hS (zLs.put1 (v := .ref x) hk hl2)
theorem zw_astore {i : Nat} {x : Nat} (hd : decode M.2.1 pc = .ok (.astore i, 2)) (hn : i < M.2.2.1) (hk : zok i ls = true) (kk : WW l g M R Z QQ (pc + 2) ((i, some (.ref x)) :: ls) st h k n) : WW l g M R Z QQ pc ls (.ref x :: st) h k n := by
  intro p e s m args below meth c H locs lsA X hz hP hS hL
  refine lv_astore X.1 X.2.1 hd hL.has hn rfl (fun ls2 hl2 => ?_)
  exact kk p e s m args below meth c H locs ls2 X hz hP hS (zLs.put1 (v := .ref x) hk hl2)
theorem zw_iinc {i : Nat} {a : Int} {x v : Int32} (hd : decode M.2.1 pc = .ok (.iinc i a, 3)) (hf : zfind i ls = some (.int x)) (hv : x + Int32.ofInt a = v) (hn : i < M.2.2.1) (hk : zok i ls = true) (kk : WW l g M R Z QQ (pc + 3) ((i, some (.int v)) :: ls) st h k n) : WW l g M R Z QQ pc ls st h k n := by
  intro p e s m args below meth c H locs lsA X hz hP hS hL
  obtain ⟨j, hj⟩ := List.getElem?_of_mem (zl_mem (b := g.1) hf)
  refine lv_iinc X.1 X.2.1 hd hL.has (k := j) hj hv hn rfl (fun ls2 hl2 => ?_)
  exact kk p e s m args below meth c H locs ls2 X hz hP hS (zLs.put1 (v := .int v) hk hl2)
theorem zw_iinc1 {i : Nat} {x : Int32} (hd : decode M.2.1 pc = .ok (.iinc i 1, 3)) (hf : zfind i ls = some (.int x)) (hn : i < M.2.2.1) (hk : zok i ls = true) (kk : WW l g M R Z QQ (pc + 3) ((i, some (.int (x + 1))) :: ls) st h k n) : WW l g M R Z QQ pc ls st h k n := zw_iinc hd hf rfl hn hk kk
theorem zw_ls {ls2 : zL} (hs : zsub ls2 ls) (kk : WW l g M R Z QQ pc ls2 st h k n) : WW l g M R Z QQ pc ls st h k n := by
  intro p e s m args below meth c H locs lsA X hz hP hS hL
  exact kk p e s m args below meth c H locs lsA X hz hP hS ⟨hL.1, fun i v hi => hL.2 i v (zsub_find hs hi)⟩
theorem zw_iadd {x y : Int32} (hd : decode M.2.1 pc = .ok (.iadd, 1))  (kk : WW l g M R Z QQ (pc + 1) ls (.int (x + y) :: st) h k n) : WW l g M R Z QQ pc ls (.int y :: .int x :: st) h k n := by
  intro p e s m args below meth c H locs lsA X hz hP hS hL
  exact lv_iadd X.1 X.2.1 hd (kk p e s m args below meth c H locs lsA X hz hP hS hL)
theorem zw_isub {x y : Int32} (hd : decode M.2.1 pc = .ok (.isub, 1))  (kk : WW l g M R Z QQ (pc + 1) ls (.int (x - y) :: st) h k n) : WW l g M R Z QQ pc ls (.int y :: .int x :: st) h k n := by
  intro p e s m args below meth c H locs lsA X hz hP hS hL
  exact lv_isub X.1 X.2.1 hd (kk p e s m args below meth c H locs lsA X hz hP hS hL)
theorem zw_imul {x y : Int32} (hd : decode M.2.1 pc = .ok (.imul, 1))  (kk : WW l g M R Z QQ (pc + 1) ls (.int (x * y) :: st) h k n) : WW l g M R Z QQ pc ls (.int y :: .int x :: st) h k n := by
  intro p e s m args below meth c H locs lsA X hz hP hS hL
  exact lv_imul X.1 X.2.1 hd (kk p e s m args below meth c H locs lsA X hz hP hS hL)
theorem zw_iand {x y : Int32} (hd : decode M.2.1 pc = .ok (.iand, 1))  (kk : WW l g M R Z QQ (pc + 1) ls (.int (x &&& y) :: st) h k n) : WW l g M R Z QQ pc ls (.int y :: .int x :: st) h k n := by
  intro p e s m args below meth c H locs lsA X hz hP hS hL
  exact lv_iand X.1 X.2.1 hd (kk p e s m args below meth c H locs lsA X hz hP hS hL)
theorem zw_ior {x y : Int32} (hd : decode M.2.1 pc = .ok (.ior, 1))  (kk : WW l g M R Z QQ (pc + 1) ls (.int (x ||| y) :: st) h k n) : WW l g M R Z QQ pc ls (.int y :: .int x :: st) h k n := by
  intro p e s m args below meth c H locs lsA X hz hP hS hL
  exact lv_ior X.1 X.2.1 hd (kk p e s m args below meth c H locs lsA X hz hP hS hL)
theorem zw_ixor {x y : Int32} (hd : decode M.2.1 pc = .ok (.ixor, 1))  (kk : WW l g M R Z QQ (pc + 1) ls (.int (x ^^^ y) :: st) h k n) : WW l g M R Z QQ pc ls (.int y :: .int x :: st) h k n := by
  intro p e s m args below meth c H locs lsA X hz hP hS hL
  exact lv_ixor X.1 X.2.1 hd (kk p e s m args below meth c H locs lsA X hz hP hS hL)
theorem zw_ishl {x y : Int32} (hd : decode M.2.1 pc = .ok (.ishl, 1))  (kk : WW l g M R Z QQ (pc + 1) ls (.int (x <<< (y &&& 31)) :: st) h k n) : WW l g M R Z QQ pc ls (.int y :: .int x :: st) h k n := by
  intro p e s m args below meth c H locs lsA X hz hP hS hL
  exact lv_ishl X.1 X.2.1 hd (kk p e s m args below meth c H locs lsA X hz hP hS hL)
theorem zw_ishr {x y : Int32} (hd : decode M.2.1 pc = .ok (.ishr, 1))  (kk : WW l g M R Z QQ (pc + 1) ls (.int (x >>> (y &&& 31)) :: st) h k n) : WW l g M R Z QQ pc ls (.int y :: .int x :: st) h k n := by
  intro p e s m args below meth c H locs lsA X hz hP hS hL
  exact lv_ishr X.1 X.2.1 hd (kk p e s m args below meth c H locs lsA X hz hP hS hL)
theorem zw_ladd {x y : Int64} (hd : decode M.2.1 pc = .ok (.ladd, 1))  (kk : WW l g M R Z QQ (pc + 1) ls (.long (x + y) :: st) h k n) : WW l g M R Z QQ pc ls (.long y :: .long x :: st) h k n := by
  intro p e s m args below meth c H locs lsA X hz hP hS hL
  exact lv_ladd X.1 X.2.1 hd (kk p e s m args below meth c H locs lsA X hz hP hS hL)
theorem zw_lsub {x y : Int64} (hd : decode M.2.1 pc = .ok (.lsub, 1))  (kk : WW l g M R Z QQ (pc + 1) ls (.long (x - y) :: st) h k n) : WW l g M R Z QQ pc ls (.long y :: .long x :: st) h k n := by
  intro p e s m args below meth c H locs lsA X hz hP hS hL
  exact lv_lsub X.1 X.2.1 hd (kk p e s m args below meth c H locs lsA X hz hP hS hL)
theorem zw_land {x y : Int64} (hd : decode M.2.1 pc = .ok (.land, 1))  (kk : WW l g M R Z QQ (pc + 1) ls (.long (x &&& y) :: st) h k n) : WW l g M R Z QQ pc ls (.long y :: .long x :: st) h k n := by
  intro p e s m args below meth c H locs lsA X hz hP hS hL
  exact lv_land X.1 X.2.1 hd (kk p e s m args below meth c H locs lsA X hz hP hS hL)
theorem zw_lor {x y : Int64} (hd : decode M.2.1 pc = .ok (.lor, 1))  (kk : WW l g M R Z QQ (pc + 1) ls (.long (x ||| y) :: st) h k n) : WW l g M R Z QQ pc ls (.long y :: .long x :: st) h k n := by
  intro p e s m args below meth c H locs lsA X hz hP hS hL
  exact lv_lor X.1 X.2.1 hd (kk p e s m args below meth c H locs lsA X hz hP hS hL)
theorem zw_lxor {x y : Int64} (hd : decode M.2.1 pc = .ok (.lxor, 1))  (kk : WW l g M R Z QQ (pc + 1) ls (.long (x ^^^ y) :: st) h k n) : WW l g M R Z QQ pc ls (.long y :: .long x :: st) h k n := by
  intro p e s m args below meth c H locs lsA X hz hP hS hL
  exact lv_lxor X.1 X.2.1 hd (kk p e s m args below meth c H locs lsA X hz hP hS hL)
theorem zw_idiv {x y : Int32} (hd : decode M.2.1 pc = .ok (.idiv, 1)) (hne : ¬ y = 0) (kk : WW l g M R Z QQ (pc + 1) ls (.int (x / y) :: st) h k n) : WW l g M R Z QQ pc ls (.int y :: .int x :: st) h k n := by
  intro p e s m args below meth c H locs lsA X hz hP hS hL
  exact lv_idiv X.1 X.2.1 hd hne (kk p e s m args below meth c H locs lsA X hz hP hS hL)
theorem zw_irem {x y : Int32} (hd : decode M.2.1 pc = .ok (.irem, 1)) (hne : ¬ y = 0) (kk : WW l g M R Z QQ (pc + 1) ls (.int (x - x / y * y) :: st) h k n) : WW l g M R Z QQ pc ls (.int y :: .int x :: st) h k n := by
  intro p e s m args below meth c H locs lsA X hz hP hS hL
  exact lv_irem X.1 X.2.1 hd hne (kk p e s m args below meth c H locs lsA X hz hP hS hL)
theorem zw_lneg {x : Int64} (hd : decode M.2.1 pc = .ok (.lneg, 1))  (kk : WW l g M R Z QQ (pc + 1) ls (.long (-x) :: st) h k n) : WW l g M R Z QQ pc ls (.long x :: st) h k n := by
  intro p e s m args below meth c H locs lsA X hz hP hS hL
  exact lv_lneg X.1 X.2.1 hd (kk p e s m args below meth c H locs lsA X hz hP hS hL)
theorem zw_l2i {x : Int64} (hd : decode M.2.1 pc = .ok (.l2i, 1))  (kk : WW l g M R Z QQ (pc + 1) ls (.int x.toInt32 :: st) h k n) : WW l g M R Z QQ pc ls (.long x :: st) h k n := by
  intro p e s m args below meth c H locs lsA X hz hP hS hL
  exact lv_l2i X.1 X.2.1 hd rfl (kk p e s m args below meth c H locs lsA X hz hP hS hL)
theorem zw_lushr {x : Int64} {y : Int32} (hd : decode M.2.1 pc = .ok (.lushr, 1))  (kk : WW l g M R Z QQ (pc + 1) ls (.long (x.toUInt64 >>> (y.toInt64.toUInt64 &&& Int64.toUInt64 63)).toInt64 :: st) h k n) : WW l g M R Z QQ pc ls (.int y :: .long x :: st) h k n := by
  intro p e s m args below meth c H locs lsA X hz hP hS hL
  exact lv_lushr X.1 X.2.1 hd rfl (kk p e s m args below meth c H locs lsA X hz hP hS hL)
theorem zw_lshl {x : Int64} {y : Int32} (hd : decode M.2.1 pc = .ok (.lshl, 1))  (kk : WW l g M R Z QQ (pc + 1) ls (.long (x <<< (y.toInt64 &&& 63)) :: st) h k n) : WW l g M R Z QQ pc ls (.int y :: .long x :: st) h k n := by
  intro p e s m args below meth c H locs lsA X hz hP hS hL
  exact lv_lshl X.1 X.2.1 hd rfl (kk p e s m args below meth c H locs lsA X hz hP hS hL)
theorem zw_lcmp {x y : Int64} (hd : decode M.2.1 pc = .ok (.lcmp, 1))  (kk : WW l g M R Z QQ (pc + 1) ls (.int (lg_cmp x y) :: st) h k n) : WW l g M R Z QQ pc ls (.long y :: .long x :: st) h k n := by
  intro p e s m args below meth c H locs lsA X hz hP hS hL
  exact W.lcmp X.1 X.2.1 hd (kk p e s m args below meth c H locs lsA X hz hP hS hL)
theorem zw_dup {v : Value} (hd : decode M.2.1 pc = .ok (.dup, 1)) (hc : v.category = 1) (kk : WW l g M R Z QQ (pc + 1) ls (v :: v :: st) h k n) : WW l g M R Z QQ pc ls (v :: st) h k n := by
  intro p e s m args below meth c H locs lsA X hz hP hS hL
  exact lv_dup X.1 X.2.1 hd (by rw [zv_cat]; exact hc) (kk p e s m args below meth c H locs lsA X hz hP hS hL)
theorem zw_pop {v : Value} (hd : decode M.2.1 pc = .ok (.pop, 1)) (hc : v.category = 1) (kk : WW l g M R Z QQ (pc + 1) ls st h k n) : WW l g M R Z QQ pc ls (v :: st) h k n := by
  intro p e s m args below meth c H locs lsA X hz hP hS hL
  exact lv_pop X.1 X.2.1 hd (by rw [zv_cat]; exact hc) (kk p e s m args below meth c H locs lsA X hz hP hS hL)
theorem zw_dup2 {v w : Value} (hd : decode M.2.1 pc = .ok (.dup2, 1)) (hc : v.category = 1) (hc2 : w.category = 1) (kk : WW l g M R Z QQ (pc + 1) ls (v :: w :: v :: w :: st) h k n) : WW l g M R Z QQ pc ls (v :: w :: st) h k n := by
  intro p e s m args below meth c H locs lsA X hz hP hS hL
  exact lv_dup2_11 X.1 X.2.1 hd (by rw [zv_cat]; exact hc) (by rw [zv_cat]; exact hc2) (kk p e s m args below meth c H locs lsA X hz hP hS hL)
theorem zw_if_eq {x : Int32} {off : Int} (tgt : Nat) (hd : decode M.2.1 pc = .ok (.ifCond .eq off, 3)) (ht : (pc : Int) + off = (tgt : Int)) (kt : (x = 0) → WW l g M R Z QQ tgt ls st h k n) (kf : (¬ x = 0) → WW l g M R Z QQ (pc + 3) ls st h k n) : WW l g M R Z QQ pc ls (.int x :: st) h k n := by
  intro p e s m args below meth c H locs lsA X hz hP hS hL
  exact lv_if_eq X.1 X.2.1 hd ht (fun q => kt q p e s m args below meth c H locs lsA X hz hP hS hL) (fun q => kf q p e s m args below meth c H locs lsA X hz hP hS hL)
theorem zw_icmp_eq {x y : Int32} {off : Int} (tgt : Nat) (hd : decode M.2.1 pc = .ok (.if_icmp .eq off, 3)) (ht : (pc : Int) + off = (tgt : Int)) (kt : (x = y) → WW l g M R Z QQ tgt ls st h k n) (kf : (¬ x = y) → WW l g M R Z QQ (pc + 3) ls st h k n) : WW l g M R Z QQ pc ls (.int y :: .int x :: st) h k n := by
  intro p e s m args below meth c H locs lsA X hz hP hS hL
  exact lv_icmp_eq X.1 X.2.1 hd ht (fun q => kt q p e s m args below meth c H locs lsA X hz hP hS hL) (fun q => kf q p e s m args below meth c H locs lsA X hz hP hS hL)
theorem zw_if_ne {x : Int32} {off : Int} (tgt : Nat) (hd : decode M.2.1 pc = .ok (.ifCond .ne off, 3)) (ht : (pc : Int) + off = (tgt : Int)) (kt : (x ≠ 0) → WW l g M R Z QQ tgt ls st h k n) (kf : (x = 0) → WW l g M R Z QQ (pc + 3) ls st h k n) : WW l g M R Z QQ pc ls (.int x :: st) h k n := by
  intro p e s m args below meth c H locs lsA X hz hP hS hL
  exact lv_if_ne X.1 X.2.1 hd ht (fun q => kt q p e s m args below meth c H locs lsA X hz hP hS hL) (fun q => kf q p e s m args below meth c H locs lsA X hz hP hS hL)
theorem zw_icmp_ne {x y : Int32} {off : Int} (tgt : Nat) (hd : decode M.2.1 pc = .ok (.if_icmp .ne off, 3)) (ht : (pc : Int) + off = (tgt : Int)) (kt : (x ≠ y) → WW l g M R Z QQ tgt ls st h k n) (kf : (x = y) → WW l g M R Z QQ (pc + 3) ls st h k n) : WW l g M R Z QQ pc ls (.int y :: .int x :: st) h k n := by
  intro p e s m args below meth c H locs lsA X hz hP hS hL
  exact lv_icmp_ne X.1 X.2.1 hd ht (fun q => kt q p e s m args below meth c H locs lsA X hz hP hS hL) (fun q => kf q p e s m args below meth c H locs lsA X hz hP hS hL)
theorem zw_if_lt {x : Int32} {off : Int} (tgt : Nat) (hd : decode M.2.1 pc = .ok (.ifCond .lt off, 3)) (ht : (pc : Int) + off = (tgt : Int)) (kt : (x < 0) → WW l g M R Z QQ tgt ls st h k n) (kf : (¬ x < 0) → WW l g M R Z QQ (pc + 3) ls st h k n) : WW l g M R Z QQ pc ls (.int x :: st) h k n := by
  intro p e s m args below meth c H locs lsA X hz hP hS hL
  exact lv_if_lt X.1 X.2.1 hd ht (fun q => kt q p e s m args below meth c H locs lsA X hz hP hS hL) (fun q => kf q p e s m args below meth c H locs lsA X hz hP hS hL)
theorem zw_icmp_lt {x y : Int32} {off : Int} (tgt : Nat) (hd : decode M.2.1 pc = .ok (.if_icmp .lt off, 3)) (ht : (pc : Int) + off = (tgt : Int)) (kt : (x < y) → WW l g M R Z QQ tgt ls st h k n) (kf : (¬ x < y) → WW l g M R Z QQ (pc + 3) ls st h k n) : WW l g M R Z QQ pc ls (.int y :: .int x :: st) h k n := by
  intro p e s m args below meth c H locs lsA X hz hP hS hL
  exact lv_icmp_lt X.1 X.2.1 hd ht (fun q => kt q p e s m args below meth c H locs lsA X hz hP hS hL) (fun q => kf q p e s m args below meth c H locs lsA X hz hP hS hL)
theorem zw_if_ge {x : Int32} {off : Int} (tgt : Nat) (hd : decode M.2.1 pc = .ok (.ifCond .ge off, 3)) (ht : (pc : Int) + off = (tgt : Int)) (kt : (0 ≤ x) → WW l g M R Z QQ tgt ls st h k n) (kf : (¬ 0 ≤ x) → WW l g M R Z QQ (pc + 3) ls st h k n) : WW l g M R Z QQ pc ls (.int x :: st) h k n := by
  intro p e s m args below meth c H locs lsA X hz hP hS hL
  exact lv_if_ge X.1 X.2.1 hd ht (fun q => kt q p e s m args below meth c H locs lsA X hz hP hS hL) (fun q => kf q p e s m args below meth c H locs lsA X hz hP hS hL)
theorem zw_icmp_ge {x y : Int32} {off : Int} (tgt : Nat) (hd : decode M.2.1 pc = .ok (.if_icmp .ge off, 3)) (ht : (pc : Int) + off = (tgt : Int)) (kt : (y ≤ x) → WW l g M R Z QQ tgt ls st h k n) (kf : (¬ y ≤ x) → WW l g M R Z QQ (pc + 3) ls st h k n) : WW l g M R Z QQ pc ls (.int y :: .int x :: st) h k n := by
  intro p e s m args below meth c H locs lsA X hz hP hS hL
  exact lv_icmp_ge X.1 X.2.1 hd ht (fun q => kt q p e s m args below meth c H locs lsA X hz hP hS hL) (fun q => kf q p e s m args below meth c H locs lsA X hz hP hS hL)
theorem zw_if_gt {x : Int32} {off : Int} (tgt : Nat) (hd : decode M.2.1 pc = .ok (.ifCond .gt off, 3)) (ht : (pc : Int) + off = (tgt : Int)) (kt : (0 < x) → WW l g M R Z QQ tgt ls st h k n) (kf : (¬ 0 < x) → WW l g M R Z QQ (pc + 3) ls st h k n) : WW l g M R Z QQ pc ls (.int x :: st) h k n := by
  intro p e s m args below meth c H locs lsA X hz hP hS hL
  exact lv_if_gt X.1 X.2.1 hd ht (fun q => kt q p e s m args below meth c H locs lsA X hz hP hS hL) (fun q => kf q p e s m args below meth c H locs lsA X hz hP hS hL)
theorem zw_icmp_gt {x y : Int32} {off : Int} (tgt : Nat) (hd : decode M.2.1 pc = .ok (.if_icmp .gt off, 3)) (ht : (pc : Int) + off = (tgt : Int)) (kt : (y < x) → WW l g M R Z QQ tgt ls st h k n) (kf : (¬ y < x) → WW l g M R Z QQ (pc + 3) ls st h k n) : WW l g M R Z QQ pc ls (.int y :: .int x :: st) h k n := by
  intro p e s m args below meth c H locs lsA X hz hP hS hL
  exact lv_icmp_gt X.1 X.2.1 hd ht (fun q => kt q p e s m args below meth c H locs lsA X hz hP hS hL) (fun q => kf q p e s m args below meth c H locs lsA X hz hP hS hL)
theorem zw_if_le {x : Int32} {off : Int} (tgt : Nat) (hd : decode M.2.1 pc = .ok (.ifCond .le off, 3)) (ht : (pc : Int) + off = (tgt : Int)) (kt : (x ≤ 0) → WW l g M R Z QQ tgt ls st h k n) (kf : (¬ x ≤ 0) → WW l g M R Z QQ (pc + 3) ls st h k n) : WW l g M R Z QQ pc ls (.int x :: st) h k n := by
  intro p e s m args below meth c H locs lsA X hz hP hS hL
  exact lv_if_le X.1 X.2.1 hd ht (fun q => kt q p e s m args below meth c H locs lsA X hz hP hS hL) (fun q => kf q p e s m args below meth c H locs lsA X hz hP hS hL)
theorem zw_icmp_le {x y : Int32} {off : Int} (tgt : Nat) (hd : decode M.2.1 pc = .ok (.if_icmp .le off, 3)) (ht : (pc : Int) + off = (tgt : Int)) (kt : (x ≤ y) → WW l g M R Z QQ tgt ls st h k n) (kf : (¬ x ≤ y) → WW l g M R Z QQ (pc + 3) ls st h k n) : WW l g M R Z QQ pc ls (.int y :: .int x :: st) h k n := by
  intro p e s m args below meth c H locs lsA X hz hP hS hL
  exact lv_icmp_le X.1 X.2.1 hd ht (fun q => kt q p e s m args below meth c H locs lsA X hz hP hS hL) (fun q => kf q p e s m args below meth c H locs lsA X hz hP hS hL)
theorem zw_goto {off : Int} (tgt : Nat) (hd : decode M.2.1 pc = .ok (.goto off, 3)) (ht : (pc : Int) + off = (tgt : Int)) (kk : WW l g M R Z QQ tgt ls st h k n) : WW l g M R Z QQ pc ls st h k n := by
  intro p e s m args below meth c H locs lsA X hz hP hS hL
  exact lv_goto X.1 X.2.1 hd ht (kk p e s m args below meth c H locs lsA X hz hP hS hL)
theorem zw_ifnonnull {x : Nat} {off : Int} (tgt : Nat) (hd : decode M.2.1 pc = .ok (.ifnonnull off, 3)) (ht : (pc : Int) + off = (tgt : Int)) (kk : WW l g M R Z QQ tgt ls st h k n) : WW l g M R Z QQ pc ls (.ref x :: st) h k n := by
  intro p e s m args below meth c H locs lsA X hz hP hS hL
  exact lv_ifnonnull X.1 X.2.1 hd ht (kk p e s m args below meth c H locs lsA X hz hP hS hL)
theorem zw_ifnull {x : Nat} {off : Int} (hd : decode M.2.1 pc = .ok (.ifnull off, 3)) (kk : WW l g M R Z QQ (pc + 3) ls st h k n) : WW l g M R Z QQ pc ls (.ref x :: st) h k n := by
  intro p e s m args below meth c H locs lsA X hz hP hS hL
  exact lv_ifnull X.1 X.2.1 hd (kk p e s m args below meth c H locs lsA X hz hP hS hL)
theorem zw_tabOut {dflt lo hi : Int} {offs : Array Int} {len : Nat} {x : Int32} (tgt : Nat) (hd : decode M.2.1 pc = .ok (.tableswitch dflt lo hi offs, len)) (h1 : x.toInt < lo ∨ hi < x.toInt) (ht : (pc : Int) + dflt = (tgt : Int)) (kk : WW l g M R Z QQ tgt ls st h k n) : WW l g M R Z QQ pc ls (.int x :: st) h k n := by
  intro p e s m args below meth c H locs lsA X hz hP hS hL
  exact lv_tableOut X.1 X.2.1 hd h1 ht (kk p e s m args below meth c H locs lsA X hz hP hS hL)
theorem zw_tabIn {dflt lo hi : Int} {offs : Array Int} {len : Nat} {x : Int32} {off : Int} (tgt : Nat) (hd : decode M.2.1 pc = .ok (.tableswitch dflt lo hi offs, len)) (h1 : ¬ x.toInt < lo) (h2 : ¬ hi < x.toInt) (ho : offs[(x.toInt - lo).toNat]? = some off) (ht : (pc : Int) + off = (tgt : Int)) (kk : WW l g M R Z QQ tgt ls st h k n) : WW l g M R Z QQ pc ls (.int x :: st) h k n := by
  intro p e s m args below meth c H locs lsA X hz hP hS hL
  exact lv_tableIn X.1 X.2.1 hd h1 h2 ho ht (kk p e s m args below meth c H locs lsA X hz hP hS hL)
theorem zw_look {dflt : Int} {ps : Array (Int × Int)} {len : Nat} {x : Int32} {off : Int} (tgt : Nat) (hd : decode M.2.1 pc = .ok (.lookupswitch dflt ps, len)) (hp : (ps.toList.zip (ps.toList.drop 1)).all (fun (a, next) => a.1 < next.1) = true) (ho : Op.lookupswitch.offset ps.toList dflt x.toInt = off) (ht : (pc : Int) + off = (tgt : Int)) (kk : WW l g M R Z QQ tgt ls st h k n) : WW l g M R Z QQ pc ls (.int x :: st) h k n := by
  intro p e s m args below meth c H locs lsA X hz hP hS hL
  exact lv_lookup X.1 X.2.1 hd hp ho ht (kk p e s m args below meth c H locs lsA X hz hP hS hL)
/-- a field that an instruction names: entry idx of the class own's pool is field a of class number ci -/
def zfl (own : String) (idx ci a : Nat) (fin : Bool) (ty : FieldType) : Prop := ∃ (C : String) (T : u_T) (N : Nat) (Y : Nat → FieldType), zcl[ci]? = some (C, T, N) ∧ a < N ∧ (∀ w ∈ u_ws C T N, w ∈ zgw) ∧ (∀ k, k < N → parseFieldDescriptor (T k).2.2.1 = some (Y k)) ∧ (∀ a, a < N → ∀ b, b < N → a ≠ b → (T a).2.1 ≠ (T b).2.1) ∧ (T a).1 = C ∧ (T a).2.2.2 = fin ∧ Y a = ty ∧
  (Cond.fieldLink own idx C (T a).2.1 (T a).2.2.1 ∈ zgw ∨ Cond.fieldLinkNest own idx C (T a).2.1 (T a).2.2.1 "SweptFloors" ∈ znest)
theorem zw_get {idx ci a q : Nat} {fin : Bool} {ty : FieldType} {v : Value} {fs : List Value} (hd : decode M.2.1 pc = .ok (.getfield idx, 3)) (hl : zfl M.1.cls idx ci a fin ty) (hq : h[q]? = some (.inr (ci, fs))) (hv : fs[a]? = some v) (kk : WW l g M R Z QQ (pc + 3) ls (v :: st) h k n) : WW l g M R Z QQ pc ls (.ref q :: st) h k n := by
  intro p e s m args below meth c H locs lsA X hz hP hS hL
  obtain ⟨C, T, N, Y, h1, h2, h3, h4, h5, h6, h7, h8, h9⟩ := hl
  have hv2 : (fs.map (zv g.1))[a]? = some (zv g.1 v) := by rw [List.getElem?_map, hv]; rfl
  have hsame : ∀ x, s.fieldFound? (T a).1 (T a).2.1 (T a).2.2.1 = some x → s.fieldFound? C (T a).2.1 (T a).2.2.1 = some x := by rw [h6]; exact fun _ h => h
  rcases h9 with h9 | h9
  · exact va_get X.1 X.2.1 X.2.2.2.2.2.1 h3 X.2.2.2.2.1 X.2.2.2.2.2.2.2.2.2.1.1 hP q (zW_get hq) h1 a h2 (X.2.2.2.2.2.1 _ h9) hsame hv2 hd (kk p e s m args below meth c H locs lsA X hz hP hS hL)
  · exact va_getN X.1 X.2.1 X.2.2.2.2.2.1 h3 X.2.2.2.2.1 X.2.2.2.2.2.2.2.2.2.1.1 hP q (zW_get hq) h1 a h2 (va_Nw.use rfl (X.2.2.2.2.2.2.2.2.2.1.2 _ h9)) hsame hv2 hd (kk p e s m args below meth c H locs lsA X hz hP hS hL)
theorem zw_put {idx ci a q : Nat} {ty : FieldType} {v : Value} {fs : List Value} (hd : decode M.2.1 pc = .ok (.putfield idx, 3)) (hl : zfl M.1.cls idx ci a false ty) (hq : h[q]? = some (.inr (ci, fs))) (hn : narrow ty (zv g.1 v) = zv g.1 v) (hfit : fits ty (zv g.1 v) = true) (hlen : a < fs.length) (kk : WW l g M R Z QQ (pc + 3) ls st (h.set q (.inr (ci, fs.set a v))) k n) : WW l g M R Z QQ pc ls (v :: .ref q :: st) h k n := by
  intro p e s m args below meth c H locs lsA X hz hP hS hL
  obtain ⟨C, T, N, Y, h1, h2, h3, h4, h5, h6, h7, h8, h9⟩ := hl
  have hsame : ∀ x, s.fieldFound? (T a).1 (T a).2.1 (T a).2.2.1 = some x → s.fieldFound? C (T a).2.1 (T a).2.2.1 = some x := by rw [h6]; exact fun _ h => h
  have hset : (g.1 + q, Sum.inr (ci, (fs.map (zv g.1)).set a (zv g.1 v))) = (g.1 + q, zE g.1 g.2.1 (.inr (ci, fs.set a v))) := by simp [zE, List.map_set]
  have hty : parseFieldDescriptor (T a).2.2.1 = some ty := by rw [h4 a h2, h8]
  rcases h9 with h9 | h9
  · refine va_put X.1 X.2.1 X.2.2.2.2.2.1 h3 Y h4 h5 X.2.2.2.2.1 X.2.2.2.2.2.2.2.2.2.1.1 hP zW_D hS q (zW_get hq) h1 a h2 (X.2.2.2.2.2.1 _ h9) hsame h7 hty hn hfit (by simpa using hlen) hd (fun H1 locs1 hP1 hD1 hS1 => ?_)
    rw [hset, zW_set] at hP1
    exact kk p e s m args below meth c H1 locs1 lsA X (by rw [List.length_set]; exact hz) hP1 hS1 hL
  · refine va_putN X.1 X.2.1 X.2.2.2.2.2.1 h3 Y h4 h5 X.2.2.2.2.1 X.2.2.2.2.2.2.2.2.2.1.1 hP zW_D hS q (zW_get hq) h1 a h2 (va_Nw.use rfl (X.2.2.2.2.2.2.2.2.2.1.2 _ h9)) hsame h7 hty hn hfit (by simpa using hlen) hd (fun H1 locs1 hP1 hD1 hS1 => ?_)
    rw [hset, zW_set] at hP1
    exact kk p e s m args below meth c H1 locs1 lsA X (by rw [List.length_set]; exact hz) hP1 hS1 hL
theorem zw_puti {idx ci a q : Nat} {x : Int32} {fs : List Value} (hd : decode M.2.1 pc = .ok (.putfield idx, 3)) (hl : zfl M.1.cls idx ci a false .int) (hq : h[q]? = some (.inr (ci, fs))) (hlen : a < fs.length) (kk : WW l g M R Z QQ (pc + 3) ls st (h.set q (.inr (ci, fs.set a (.int x)))) k n) : WW l g M R Z QQ pc ls (.int x :: .ref q :: st) h k n := zw_put hd hl hq rfl rfl hlen kk
theorem zw_putl {idx ci a q : Nat} {x : Int64} {fs : List Value} (hd : decode M.2.1 pc = .ok (.putfield idx, 3)) (hl : zfl M.1.cls idx ci a false .long) (hq : h[q]? = some (.inr (ci, fs))) (hlen : a < fs.length) (kk : WW l g M R Z QQ (pc + 3) ls st (h.set q (.inr (ci, fs.set a (.long x)))) k n) : WW l g M R Z QQ pc ls (.long x :: .ref q :: st) h k n := zw_put hd hl hq rfl rfl hlen kk
/-- a final field of the own class, in its constructor -/
def zflF (own : String) (idx ci a : Nat) (ty : FieldType) : Prop := ∃ (T : u_T) (N : Nat) (Y : Nat → FieldType), zcl[ci]? = some (own, T, N) ∧ a < N ∧ (∀ w ∈ u_ws own T N, w ∈ zgw) ∧ (∀ k, k < N → parseFieldDescriptor (T k).2.2.1 = some (Y k)) ∧ (∀ a, a < N → ∀ b, b < N → a ≠ b → (T a).2.1 ≠ (T b).2.1) ∧ (T a).1 = own ∧ (T a).2.2.2 = true ∧ Y a = ty ∧ Cond.fieldLink own idx own (T a).2.1 (T a).2.2.1 ∈ zgw
theorem zw_putF {idx ci a q : Nat} {ty : FieldType} {v : Value} {fs : List Value} (hd : decode M.2.1 pc = .ok (.putfield idx, 3)) (hl : zflF M.1.cls idx ci a ty) (hin : M.1.name = "<init>") (hq : h[q]? = some (.inr (ci, fs))) (hn : narrow ty (zv g.1 v) = zv g.1 v) (hfit : fits ty (zv g.1 v) = true) (hlen : a < fs.length) (kk : WW l g M R Z QQ (pc + 3) ls st (h.set q (.inr (ci, fs.set a v))) k n) : WW l g M R Z QQ pc ls (v :: .ref q :: st) h k n := by
  intro p e s m args below meth c H locs lsA X hz hP hS hL
  obtain ⟨T, N, Y, h1, h2, h3, h4, h5, h6, h7, h8, h9⟩ := hl
  have hsame : ∀ x, s.fieldFound? (T a).1 (T a).2.1 (T a).2.2.1 = some x → s.fieldFound? M.1.cls (T a).2.1 (T a).2.2.1 = some x := by rw [h6]; exact fun _ h => h
  have hset : (g.1 + q, Sum.inr (ci, (fs.map (zv g.1)).set a (zv g.1 v))) = (g.1 + q, zE g.1 g.2.1 (.inr (ci, fs.set a v))) := by simp [zE, List.map_set]
  have hty : parseFieldDescriptor (T a).2.2.1 = some ty := by rw [h4 a h2, h8]
  refine va_putF X.1 X.2.1 X.2.2.2.2.2.1 h3 Y h4 h5 X.2.2.2.2.1 X.2.2.2.2.2.2.2.2.2.1.1 hP zW_D hS q (zW_get hq) h1 a h2 (X.2.2.2.2.2.1 _ h9) hsame h7 (X.2.2.2.2.2.2.2.1.trans hin) h6 hty hn hfit (by simpa using hlen) hd (fun H1 locs1 hP1 hD1 hS1 => ?_)
  rw [hset, zW_set] at hP1
  exact kk p e s m args below meth c H1 locs1 lsA X (by rw [List.length_set]; exact hz) hP1 hS1 hL
theorem zw_iald {q N : Nat} {f : Nat → Int32} {x : Int32} (hd : decode M.2.1 pc = .ok (.iaload, 1)) (hq : h[q]? = some (.inl (0, N, .inl f))) (hin : vp_in x N) (kk : WW l g M R Z QQ (pc + 1) ls (.int (f x.toNatClampNeg) :: st) h k n) : WW l g M R Z QQ pc ls (.int x :: .ref q :: st) h k n := by
  intro p e s m args below meth c H locs lsA X hz hP hS hL
  exact va_iald X.1 X.2.1 X.2.2.2.2.2.2.2.2.2.1.1 hP q 0 (zW_get hq) rfl hin hd (kk p e s m args below meth c H locs lsA X hz hP hS hL)
theorem zw_zald {q N : Nat} {f : Nat → Int32} {x : Int32} (hd : decode M.2.1 pc = .ok (.baload, 1)) (hq : h[q]? = some (.inl (2, N, .inl f))) (hin : vp_in x N) (kk : WW l g M R Z QQ (pc + 1) ls (.int (f x.toNatClampNeg) :: st) h k n) : WW l g M R Z QQ pc ls (.int x :: .ref q :: st) h k n := by
  intro p e s m args below meth c H locs lsA X hz hP hS hL
  exact va_zald X.1 X.2.1 X.2.2.2.2.2.2.2.2.2.1.1 hP q 2 (zW_get hq) rfl hin hd (kk p e s m args below meth c H locs lsA X hz hP hS hL)
theorem zw_lald {q N : Nat} {f : Nat → Int64} {x : Int32} (hd : decode M.2.1 pc = .ok (.laload, 1)) (hq : h[q]? = some (.inl (1, N, .inr (.inl f)))) (hin : vp_in x N) (kk : WW l g M R Z QQ (pc + 1) ls (.long (f x.toNatClampNeg) :: st) h k n) : WW l g M R Z QQ pc ls (.int x :: .ref q :: st) h k n := by
  intro p e s m args below meth c H locs lsA X hz hP hS hL
  exact va_lald X.1 X.2.1 X.2.2.2.2.2.2.2.2.2.1.1 hP q 1 (zW_get hq) rfl hin hd (kk p e s m args below meth c H locs lsA X hz hP hS hL)
theorem zw_iast {q N : Nat} {f : Nat → Int32} {x : Int32} {y : Int32} (hd : decode M.2.1 pc = .ok (.iastore, 1)) (hq : h[q]? = some (.inl (0, N, .inl f))) (hin : vp_in x N) (kk : WW l g M R Z QQ (pc + 1) ls st (h.set q (.inl (0, N, .inl (upd f x.toNatClampNeg y)))) k n) : WW l g M R Z QQ pc ls (.int y :: .int x :: .ref q :: st) h k n := by
  intro p e s m args below meth c H locs lsA X hz hP hS hL
  refine va_iast X.1 X.2.1 X.2.2.2.2.2.2.2.2.2.1.1 hP zW_D hS q 0 (zW_get hq) rfl hin hd (fun H1 locs1 hP1 hD1 hS1 => ?_)
  have hP2 : va_P g.2.2 zcl ((zW g.1 g.2.1 h).set q (g.1 + q, zE g.1 g.2.1 (.inl (0, N, .inl (upd f x.toNatClampNeg y))))) H1 := hP1
  rw [zW_set] at hP2
  exact kk p e s m args below meth c H1 locs1 lsA X (by rw [List.length_set]; exact hz) hP2 hS1 hL
theorem zw_zast {q N : Nat} {f : Nat → Int32} {x : Int32} {y : Int32} (hd : decode M.2.1 pc = .ok (.bastore, 1)) (hq : h[q]? = some (.inl (2, N, .inl f))) (hin : vp_in x N) (kk : WW l g M R Z QQ (pc + 1) ls st (h.set q (.inl (2, N, .inl (upd f x.toNatClampNeg (vp_nar .boolean y))))) k n) : WW l g M R Z QQ pc ls (.int y :: .int x :: .ref q :: st) h k n := by
  intro p e s m args below meth c H locs lsA X hz hP hS hL
  refine va_zast X.1 X.2.1 X.2.2.2.2.2.2.2.2.2.1.1 hP zW_D hS q 2 (zW_get hq) rfl hin hd (fun H1 locs1 hP1 hD1 hS1 => ?_)
  have hP2 : va_P g.2.2 zcl ((zW g.1 g.2.1 h).set q (g.1 + q, zE g.1 g.2.1 (.inl (2, N, .inl (upd f x.toNatClampNeg (vp_nar .boolean y)))))) H1 := hP1
  rw [zW_set] at hP2
  exact kk p e s m args below meth c H1 locs1 lsA X (by rw [List.length_set]; exact hz) hP2 hS1 hL
theorem zw_last {q N : Nat} {f : Nat → Int64} {x : Int32} {y : Int64} (hd : decode M.2.1 pc = .ok (.lastore, 1)) (hq : h[q]? = some (.inl (1, N, .inr (.inl f)))) (hin : vp_in x N) (kk : WW l g M R Z QQ (pc + 1) ls st (h.set q (.inl (1, N, .inr (.inl (vp_updL f x.toNatClampNeg y))))) k n) : WW l g M R Z QQ pc ls (.long y :: .int x :: .ref q :: st) h k n := by
  intro p e s m args below meth c H locs lsA X hz hP hS hL
  refine va_last X.1 X.2.1 X.2.2.2.2.2.2.2.2.2.1.1 hP zW_D hS q 1 (zW_get hq) rfl hin hd (fun H1 locs1 hP1 hD1 hS1 => ?_)
  have hP2 : va_P g.2.2 zcl ((zW g.1 g.2.1 h).set q (g.1 + q, zE g.1 g.2.1 (.inl (1, N, .inr (.inl (vp_updL f x.toNatClampNeg y)))))) H1 := hP1
  rw [zW_set] at hP2
  exact kk p e s m args below meth c H1 locs1 lsA X (by rw [List.length_set]; exact hz) hP2 hS1 hL
theorem zw_aald {q N r : Nat} {f : Nat → Option Nat} {x : Int32} (hd : decode M.2.1 pc = .ok (.aaload, 1)) (hq : h[q]? = some (.inl (3, N, .inr (.inr (.inr (.inr f)))))) (hin : vp_in x N) (hr : f x.toNatClampNeg = some r) (kk : WW l g M R Z QQ (pc + 1) ls (.ref r :: st) h k n) : WW l g M R Z QQ pc ls (.int x :: .ref q :: st) h k n := by
  intro p e s m args below meth c H locs lsA X hz hP hS hL
  refine va_aldq X.1 X.2.1 X.2.2.2.2.2.2.2.2.2.1.1 hP q 3 (zW_get hq) rfl hin hd ?_
  have e1 : va_rf ((f x.toNatClampNeg).map (g.1 + ·)) = zv g.1 (.ref r) := by rw [hr]; rfl
  rw [e1]
  exact (kk p e s m args below meth c H locs lsA X hz hP hS hL)
theorem zw_aast {q N r : Nat} {f : Nat → Option Nat} {x : Int32} {fs : List Value} (hd : decode M.2.1 pc = .ok (.aastore, 1)) (hq : h[q]? = some (.inl (3, N, .inr (.inr (.inr (.inr f)))))) (hr : h[r]? = some (.inr (3, fs))) (hin : vp_in x N) (kk : WW l g M R Z QQ (pc + 1) ls st (h.set q (.inl (3, N, .inr (.inr (.inr (.inr (va_up f x.toNatClampNeg (some r)))))))) k n) : WW l g M R Z QQ pc ls (.ref r :: .int x :: .ref q :: st) h k n := by
  intro p e s m args below meth c H locs lsA X hz hP hS hL
  refine va_astq X.1 X.2.1 X.2.2.2.2.2.2.2.2.2.1.1 hP zW_D hS q 3 r 3 (zW_get hq) (r := (zR_S, zT_S, 11)) rfl (zW_get hr) rfl hin hd (fun H1 locs1 hP1 hD1 hS1 => ?_)
  have e1 : (fun j => (va_up f x.toNatClampNeg (some r) j).map (g.1 + ·)) = va_up (fun j => (f j).map (g.1 + ·)) x.toNatClampNeg (some (g.1 + r)) := by
    funext j
    by_cases hj : j = x.toNatClampNeg <;> simp [va_up, hj]
  have hP2 : va_P g.2.2 zcl ((zW g.1 g.2.1 h).set q (g.1 + q, zE g.1 g.2.1 (.inl (3, N, .inr (.inr (.inr (.inr (va_up f x.toNatClampNeg (some r))))))))) H1 := by
    show va_P g.2.2 zcl ((zW g.1 g.2.1 h).set q (g.1 + q, .inl (g.2.1 3, N, .inr (.inr (.inr (.inr (fun j => (va_up f x.toNatClampNeg (some r) j).map (g.1 + ·)))))))) H1
    rw [e1]
    exact hP1
  rw [zW_set] at hP2
  exact kk p e s m args below meth c H1 locs1 lsA X (by rw [List.length_set]; exact hz) hP2 hS1 hL
/-- the script: an int array at the cell a, outside the world -/
def zS (g : zG) (a L : Nat) (xs : Nat → Int32) : State → Prop := fun s => va_X a L xs s s.heap ∧ a < g.1
theorem zw_sld {a L : Nat} {xs : Nat → Int32} {x : Int32} (hZ : ∀ s, Z s → zS g a L xs s) (hd : decode M.2.1 pc = .ok (.iaload, 1)) (hin : vp_in x L) (kk : WW l g M R Z QQ (pc + 1) ls (.int (xs x.toNatClampNeg) :: st) h k n) : WW l g M R Z QQ pc ls (.int x :: .retAddr a :: st) h k n := by
  intro p e s m args below meth c H locs lsA X hz hP hS hL
  obtain ⟨z1, z2⟩ := hZ s X.2.2.2.2.2.2.2.2.1
  exact va_sld X.1 X.2.1 z1 (Nat.lt_of_lt_of_le z2 X.2.2.2.2.2.2.2.2.2.2) (Nat.not_le.mpr z2) hS hin hd (kk p e s m args below meth c H locs lsA X hz hP hS hL)
theorem zw_slen {a L : Nat} {xs : Nat → Int32} (hZ : ∀ s, Z s → zS g a L xs s) (hd : decode M.2.1 pc = .ok (.arraylength, 1)) (kk : WW l g M R Z QQ (pc + 1) ls (.int (Int32.ofNat L) :: st) h k n) : WW l g M R Z QQ pc ls (.retAddr a :: st) h k n := by
  intro p e s m args below meth c H locs lsA X hz hP hS hL
  obtain ⟨z1, z2⟩ := hZ s X.2.2.2.2.2.2.2.2.1
  exact va_slen X.1 X.2.1 z1 (Nat.lt_of_lt_of_le z2 X.2.2.2.2.2.2.2.2.2.2) (Nat.not_le.mpr z2) hS hd (kk p e s m args below meth c H locs lsA X hz hP hS hL)
end ZW
section ZR
variable {l : Launch} {g : zG} {M : zM} {R : Room} {Z : State → Prop} {post : Option Value → zH → Prop} {n1 : Nat} {pc : Nat} {ls : zL} {st : List Value} {h : zH} {k n : Nat}
theorem zw_iret {x : Int32} (hd : decode M.2.1 pc = .ok (.ireturn, 1)) {ty : FieldType} (hr : M.2.2.2 = some ty) (hn : narrow ty (.int x) = .int x) (hlen : h.length = n1) (hp : post (some (.int x)) h) : WW l g M R Z (zQQ g post n1 k n) pc ls [.int x] h k n := by
  intro p e s m args below meth c H locs lsA X hz hP hS hL
  have hq : ∀ t : State, t.heap = H → s.WarmedH t.vm → zQ g post n1 args s (.returned (some (.int x))) t := fun t ht hW => ⟨⟨(some (.int x)), h, rfl, hp, hlen, by rw [ht]; exact hP⟩, hS.F ht⟩
  exact W.zret X.1 X.2.1 (X.2.2.1.trans hr) hn hq hS.2.2 hd X.2.2.2.2.2.2.1
theorem zw_lret {x : Int64} (hd : decode M.2.1 pc = .ok (.lreturn, 1)) (hr : M.2.2.2 = some .long) (hlen : h.length = n1) (hp : post (some (.long x)) h) : WW l g M R Z (zQQ g post n1 k n) pc ls [.long x] h k n := by
  intro p e s m args below meth c H locs lsA X hz hP hS hL
  have hq : ∀ t : State, t.heap = H → s.WarmedH t.vm → zQ g post n1 args s (.returned (some (.long x))) t := fun t ht hW => ⟨⟨(some (.long x)), h, rfl, hp, hlen, by rw [ht]; exact hP⟩, hS.F ht⟩
  exact W.lret X.1 X.2.1 (X.2.2.1.trans hr) hq hS.2.2 hd X.2.2.2.2.2.2.1
theorem zw_vret  (hd : decode M.2.1 pc = .ok (.return_, 1)) (hr : M.2.2.2 = none) (hlen : h.length = n1) (hp : post none h) : WW l g M R Z (zQQ g post n1 k n) pc ls [] h k n := by
  intro p e s m args below meth c H locs lsA X hz hP hS hL
  have hq : ∀ t : State, t.heap = H → s.WarmedH t.vm → zQ g post n1 args s (.returned (none)) t := fun t ht hW => ⟨⟨none, h, rfl, hp, hlen, by rw [ht]; exact hP⟩, hS.F ht⟩
  exact W.vret X.1 X.2.1 (X.2.2.1.trans hr) hq hS.2.2 hd X.2.2.2.2.2.2.1
theorem zw_widen {QQ : List Frame → Array Value → State → State → Prop} {n2 : Nat} (h2 : n ≤ n2) (kk : WW l g M R Z QQ pc ls st h k n2) : WW l g M R Z QQ pc ls st h k n := by
  intro p e s m args below meth c H locs lsA X hz hP hS hL
  exact W.widen (Nat.le_refl _) h2 (kk p e s m args below meth c H locs lsA X hz hP hS hL)
theorem zsl_len (b : Nat) (vs : List Value) : (lg_sl (vs.map (zv b))).length = (lg_sl vs).length := by
  induction vs with
  | nil => rfl
  | cons a r ih =>
    simp only [lg_sl, List.map_cons, List.flatMap_cons, List.length_append] at ih ⊢
    rw [ih, zv_cat]
    split <;> rfl
/-- a contract out of the walk of its body -/
theorem run_of {d mc ms : Nat} {args : List Value} (hy : plainName M.1.cls = true) (hl : (lg_sl args).length ≤ M.2.2.1) (kk : WW l g M (zrm d mc ms) (fun _ => True) (zQQ g post (h.length + mc) mc ms) 0 (zargs 0 args) [] h 0 0) : Run l g M d mc ms args h post := by
  refine Met.ofW (cc := M.2.1) (maxL := M.2.2.1) (ret := M.2.2.2) hy rfl ?_
  intro p e s m args' below meth c s₁ B hml hv
  obtain ⟨rfl, hsz, hP, hK⟩ := hv
  have hts := atoms_spec (ws := .code M.1 M.2.1 M.2.2.1 M.2.2.2 :: zgw) B.pre
  rw [lg_entry_eq]
  have hl0 := lv_entry (args.map (zv g.1)) (n := M.2.2.1) (by rw [zsl_len]; exact hl)
  exact kk p e s m _ below meth c s.heap [] _ ⟨B.exec, B.bytes, B.returns, hml, findClass_of_methodNamed B.named, fun w hw => hts w (List.mem_cons_of_mem _ hw), B.notSynchronized, (name_of_methodNamed B.named B.method).1, trivial, hK, by rw [hsz]; exact Nat.le_add_right _ _⟩ hsz hP va_S.rf ⟨⟨hl0.1, hl0.2.1, fun q hq => by cases hq⟩, fun i v hi => hl0.2.2 (i, zv g.1 v) (zargs_find hi)⟩
theorem Run.mono {d mc ms : Nat} {args : List Value} {post2 : Option Value → zH → Prop} (hr : Run l g M d mc ms args h post) (hp : ∀ v h', post v h' → post2 v h') : Run l g M d mc ms args h post2 := by
  intro p e ha hc hk s m a below hf hpre hP hK
  obtain ⟨t, o, h1, h2, h3, ⟨⟨v, h', e1, e2, e3, e4⟩, hF⟩, hL⟩ := hr p e ha hc hk s m a below hf hpre hP hK
  exact ⟨t, o, h1, h2, h3, ⟨⟨v, h', e1, hp v h' e2, e3, e4⟩, hF⟩, hL⟩
end ZR
/-! calls -/
def zmd (M : zM) (n : Nat) : Prop := Cond.code M.1 M.2.1 M.2.2.1 M.2.2.2 ∈ zgw ∧ Cond.initialized M.1.cls ∈ zgw ∧ (M.1.cls ≠ "java/lang/invoke/MethodHandle" ∧ M.1.cls ≠ "java/lang/invoke/VarHandle" ∧ (parseMethodDescriptor M.1.desc).map (fun d => d.parameters.length) = some n) ∧ M.2.2.1 ≤ 19
def zmV (M : zM) (n : Nat) : Prop := zmd M n ∧ Cond.instanceMethod M.1 ∈ zgw ∧ Cond.selects M.1.cls M.1 M.1 ∈ zgw
def zmS (M : zM) (n : Nat) : Prop := zmd M n ∧ Cond.static M.1 ∈ zgw
def zmI (M : zM) (n : Nat) : Prop := zmd M n ∧ Cond.instanceMethod M.1 ∈ zgw ∧ M.1.name = "<init>" ∧ M.2.2.2 = none
def zlk (own : String) (idx : Nat) (y : MethodName) : Prop := Cond.methodLink own idx y ∈ zgw ∨ Cond.methodLinkNest own idx y "SweptFloors" ∈ znest
theorem zgood {w : Cond} (h : w ∈ zgw) : GoodIn zgw (w :: zgw) := by
  intro x hx
  have hm : x ∈ zgw := by
    rcases List.mem_cons.mp hx with e | e
    · rw [e]; exact h
    · exact e
  exact ⟨hm, good_of_word (List.mem_filter.mp hm).2⟩
section ZC
variable {l : Launch} {g : zG} {M : zM} {R : Room} {Z : State → Prop} {QQ : List Frame → Array Value → State → State → Prop} {pc : Nat} {ls : zL} {st : List Value} {h : zH} {k n : Nat}
theorem zsize {p : Program} {e : Env} {s : State} {m : MethodId} {args : Array Value} {below : List Frame} {meth : Method} {c : Code} {T : State} {H : Heap} {locs : List Loc} (X : zX g M Z p s m args meth c) (hz : s.heap.size + k = g.1 + h.length) (hP : va_P g.2.2 zcl (zW g.1 g.2.1 h) H) (hS : va_S (fun q => g.1 ≤ q) s.heap H locs) (hT : T.heap = H) (X0 : Stand p l e R s m args below meth c T locs k n) : H.size = g.1 + h.length := by
  have hu : T.heap.size ≤ s.heap.size + k := X0.same.2.2.1
  rw [hT] at hu
  have hlo : g.1 + h.length ≤ H.size := by
    cases hh : h.length with
    | zero => exact Nat.le_trans X.2.2.2.2.2.2.2.2.2.2 hS.1
    | succ j =>
      have hj : j < h.length := by omega
      have h1 := (hP j _ (zW_get (List.getElem?_eq_getElem hj))).lt
      exact h1
  omega
theorem zB_blind (As : List Value) : FrameBlind (va_Pc (As.map (zv g.1)) (zB g h)) := fun a U f mk q => ⟨q.1, q.2.1, q.2.2.1, va_K.moved (u := U) (U := U.calling f mk a) (Vm.Alike.refl U.vm) q.2.2.2.1, zN.same (u := U) (U := U.calling f mk a) rfl q.2.2.2.2⟩
theorem zB_pre {p : Program} {s : State} {m : MethodId} {args : Array Value} {meth : Method} {c : Code} {H : Heap} (As : List Value) (X : zX g M Z p s m args meth c) (hsz : H.size = g.1 + h.length) (hP : va_P g.2.2 zcl (zW g.1 g.2.1 h) H) : ∀ U : State, U.heap = H → s.WarmedH U.vm → va_Pc (As.map (zv g.1)) (zB g h) (As.map (zv g.1)).toArray U :=
  fun U hU hW => ⟨rfl, by rw [hU]; exact hsz, by rw [hU]; exact hP, va_K.moved hW.alike X.2.2.2.2.2.2.2.2.2.1.1, zN.warm hW X.2.2.2.2.2.2.2.2.2.1.2⟩
theorem zcall {p : Program} {e : Env} {s : State} {m : MethodId} {args : Array Value} {below : List Frame} {meth : Method} {c : Code} {H : Heap} {locs : List Loc} {lsA : Array Slot} {T : State} {mc ms : Nat} {post : Option Value → zH → Prop} {a : Array Value} {st0 : List Value}
    (X : zX g M Z p s m args meth c) (hz : s.heap.size + k = g.1 + h.length) (hS : va_S (fun q => g.1 ≤ q) s.heap H locs) (hL : zLs g.1 M.2.2.1 lsA ls) (hT : T.heap = H) (X0 : Stand p l e R s m args below meth c T locs k n)
    (hr : va_Run p l e R s m args below meth c H locs k n mc ms (F0 m pc lsA st0) (st.map (zv g.1)) (zQ g post (h.length + mc) a) (fun q => g.1 ≤ q))
    (kk : ∀ v h', post v h' → WW l g M R Z QQ (pc + 3) ls (v.toList ++ st) h' (k + mc) (n + ms)) : ∃ t, Steps p.tables e below (T.setTop (F0 m pc lsA st0)) t ∧ QQ below args s t := by
  obtain ⟨v, st₀, t, T', L, h0, X', hL', e1, e2, ⟨⟨v1, h', hv, hp, hlen, hP'⟩, hF⟩, hst⟩ := hr T hT X0
  have hv' : v = v1.map (zv g.1) := by injection hv
  subst hv'
  have hz1 := hF.1
  have hk1 := hF.2
  rw [h0] at hz1 hk1
  have hS' : va_S (fun q => g.1 ≤ q) s.heap T'.heap (locs ++ L) := ⟨Nat.le_trans hS.1 (by rw [e1]; exact hz1), fun q h1 h2 => by rw [e1, hk1 q (Nat.lt_of_lt_of_le h1 hS.1) h2]; exact hS.2.1 q h1 h2, fun q hq => by
      rcases List.mem_append.mp hq with h | h
      · exact hS.2.2 q h
      · exact hL' q h⟩
  have K := kk v1 h' hp p e s m args below meth c T'.heap (locs ++ L) lsA X (by rw [hlen]; omega) (by rw [e1]; exact hP') hS' hL
  obtain ⟨t2, a1, b1⟩ := K T' rfl X'
  refine ⟨t2, hst t2 ?_, b1⟩
  have e3 : (v1.map (zv g.1)).toList ++ st.map (zv g.1) = (v1.toList ++ st).map (zv g.1) := by cases v1 <;> simp
  show Steps p.tables e below (T'.setTop (F0 m (pc + 3) lsA ((v1.map (zv g.1)).toList ++ st.map (zv g.1)))) t2
  rw [e3]
  exact a1
theorem zst_room (hc : (st.map Value.category).sum ≤ 8) : ((st.map (zv g.1)).map fun v => v.category).sum ≤ 8 := by
  have e : (st.map (zv g.1)).map (fun v => v.category) = st.map Value.category := by
    rw [List.map_map]
    exact List.map_congr_left (fun v _ => zv_cat g.1 v)
  rw [e]
  exact hc
theorem zw_callV {M' : zM} {idx d mc ms q ci : Nat} {fs : List Value} {T' : u_T} {N' : Nat} {post : Option Value → zH → Prop} (As : List Value) (hd : decode M.2.1 pc = .ok (.invokevirtual idx, 3)) (hm : zmV M' As.length) (hk : zlk M.1.cls idx M'.1) (hR : d + 1 ≤ R.frames ∧ 38 * d + 38 ≤ R.locals) (hq : h[q]? = some (.inr (ci, fs))) (hc : zcl[ci]? = some (M'.1.cls, T', N')) (hf : k + mc ≤ R.cells ∧ n + ms ≤ R.slots) (hst : (st.map Value.category).sum ≤ 8)
    (hrun : Run l g M' d mc ms (.ref q :: As) h post) (kk : ∀ v h', post v h' → WW l g M R Z QQ (pc + 3) ls (v.toList ++ st) h' (k + mc) (n + ms)) : WW l g M R Z QQ pc ls (As.reverse ++ .ref q :: st) h k n := by
  intro p e s m args below meth c H locs lsA X hz hP hS hL T hT X0
  have hsz := zsize X hz hP hS hT X0
  have hst0 : (As.reverse ++ .ref q :: st).map (zv g.1) = (As.map (zv g.1)).reverse ++ .ref (g.1 + q) :: st.map (zv g.1) := by simp [zv]
  obtain ⟨⟨m1, m2, m3, m4⟩, m5, m6⟩ := hm
  have hrm : (zrm d mc ms).frames + 1 ≤ R.frames ∧ 8 + (M'.2.2.1 + 11) + (zrm d mc ms).locals ≤ R.locals := ⟨hR.1, by have := hR.2; show 8 + (M'.2.2.1 + 11) + 38 * d ≤ R.locals; omega⟩
  have hts := X.2.2.2.2.2.1
  have hp : PreV s H M'.1.cls (g.1 + q) (va_Pc ((.ref q :: As).map (zv g.1)) (zB g h)) (As.map (zv g.1)) := ⟨zB_blind _, va_recv X.2.2.2.2.2.2.2.2.2.1.1 hP hc (zW_get hq), zB_pre _ X hsz hP⟩
  refine zcall (st0 := (As.reverse ++ .ref q :: st).map (zv g.1)) X hz hS hL hT X0 (mc := mc) (ms := ms) (post := post) (a := (Value.ref (g.1 + q) :: As.map (zv g.1)).toArray) ?_ kk
  rcases hk with hk | hk
  · exact va_runV (n := As.length) (C := M'.1.cls) (Ts := zgw) (rm := zrm d mc ms) ⟨X.1, X.2.1, X.2.2.2.1, X.2.2.2.2.1, hts⟩ hrun ⟨callB_of As.length hts (zgood m1) rfl rfl rfl (hts _ m2) (hts _ hk) m3 hrm, hts _ m5, hts _ m6⟩ hp rfl (by simp) hL.1.1 hst0 (lv_room (zst_room hst)) hd hf
  · exact va_runVN (n := As.length) (C := M'.1.cls) (Ts := zgw) (rm := zrm d mc ms) ⟨X.1, X.2.1, X.2.2.2.1, X.2.2.2.2.1, hts⟩ hrun ⟨va_cnB As.length hts (zgood m1) rfl rfl rfl (X.2.2.2.2.2.2.2.2.2.1.2 _ hk) (hts _ m2) m3 hrm, hts _ m5, hts _ m6⟩ hp rfl (by simp) hL.1.1 hst0 (lv_room (zst_room hst)) hd hf
theorem zw_callS {M' : zM} {idx d mc ms : Nat} {post : Option Value → zH → Prop} (As : List Value) (hd : decode M.2.1 pc = .ok (.invokestatic idx, 3)) (hm : zmS M' As.length) (hk : zlk M.1.cls idx M'.1) (hR : d + 1 ≤ R.frames ∧ 38 * d + 38 ≤ R.locals) (hf : k + mc ≤ R.cells ∧ n + ms ≤ R.slots) (hst : (st.map Value.category).sum ≤ 8)
    (hrun : Run l g M' d mc ms As h post) (kk : ∀ v h', post v h' → WW l g M R Z QQ (pc + 3) ls (v.toList ++ st) h' (k + mc) (n + ms)) : WW l g M R Z QQ pc ls (As.reverse ++ st) h k n := by
  intro p e s m args below meth c H locs lsA X hz hP hS hL T hT X0
  have hsz := zsize X hz hP hS hT X0
  have hst0 : (As.reverse ++ st).map (zv g.1) = (As.map (zv g.1)).reverse ++ st.map (zv g.1) := by simp
  obtain ⟨⟨m1, m2, m3, m4⟩, m5⟩ := hm
  have hrm : (zrm d mc ms).frames + 1 ≤ R.frames ∧ 8 + (M'.2.2.1 + 11) + (zrm d mc ms).locals ≤ R.locals := ⟨hR.1, by have := hR.2; show 8 + (M'.2.2.1 + 11) + 38 * d ≤ R.locals; omega⟩
  have hts := X.2.2.2.2.2.1
  have hp : PreS s H (va_Pc (As.map (zv g.1)) (zB g h)) (As.map (zv g.1)) := ⟨zB_blind _, zB_pre _ X hsz hP⟩
  refine zcall (st0 := (As.reverse ++ st).map (zv g.1)) X hz hS hL hT X0 (mc := mc) (ms := ms) (post := post) (a := (As.map (zv g.1)).toArray) ?_ kk
  rcases hk with hk | hk
  · exact va_runS (n := As.length) (Ts := zgw) (rm := zrm d mc ms) ⟨X.1, X.2.1, X.2.2.2.1, X.2.2.2.2.1, hts⟩ hrun ⟨callB_of As.length hts (zgood m1) rfl rfl rfl (hts _ m2) (hts _ hk) m3 hrm, hts _ m5⟩ hp rfl (by simp) hL.1.1 hst0 (lv_room (zst_room hst)) hd hf
  · exact va_runSN (n := As.length) (Ts := zgw) (rm := zrm d mc ms) ⟨X.1, X.2.1, X.2.2.2.1, X.2.2.2.2.1, hts⟩ hrun ⟨va_cnB As.length hts (zgood m1) rfl rfl rfl (X.2.2.2.2.2.2.2.2.2.1.2 _ hk) (hts _ m2) m3 hrm, hts _ m5, trivial⟩ hp rfl (by simp) hL.1.1 hst0 (lv_room (zst_room hst)) hd hf
theorem zw_callI {M' : zM} {idx d mc ms q : Nat} {post : Option Value → zH → Prop} (As : List Value) (hd : decode M.2.1 pc = .ok (.invokespecial idx, 3)) (hm : zmI M' As.length) (hk : zlk M.1.cls idx M'.1) (hR : d + 1 ≤ R.frames ∧ 38 * d + 38 ≤ R.locals) (hf : k + mc ≤ R.cells ∧ n + ms ≤ R.slots) (hst : (st.map Value.category).sum ≤ 8)
    (hrun : Run l g M' d mc ms (.ref q :: As) h post) (kk : ∀ v h', post v h' → WW l g M R Z QQ (pc + 3) ls (v.toList ++ st) h' (k + mc) (n + ms)) : WW l g M R Z QQ pc ls (As.reverse ++ .ref q :: st) h k n := by
  intro p e s m args below meth c H locs lsA X hz hP hS hL T hT X0
  have hsz := zsize X hz hP hS hT X0
  have hst0 : (As.reverse ++ .ref q :: st).map (zv g.1) = (As.map (zv g.1)).reverse ++ .ref (g.1 + q) :: st.map (zv g.1) := by simp [zv]
  obtain ⟨⟨m1, m2, m3, m4⟩, m5, m6, m7⟩ := hm
  have hrm : (zrm d mc ms).frames + 1 ≤ R.frames ∧ 8 + (M'.2.2.1 + 11) + (zrm d mc ms).locals ≤ R.locals := ⟨hR.1, by have := hR.2; show 8 + (M'.2.2.1 + 11) + 38 * d ≤ R.locals; omega⟩
  have hts := X.2.2.2.2.2.1
  have hp : PreS s H (va_Pc ((.ref q :: As).map (zv g.1)) (zB g h)) (.ref (g.1 + q) :: As.map (zv g.1)) := ⟨zB_blind _, zB_pre (.ref q :: As) X hsz hP⟩
  refine zcall (st0 := (As.reverse ++ .ref q :: st).map (zv g.1)) X hz hS hL hT X0 (mc := mc) (ms := ms) (post := post) (a := (Value.ref (g.1 + q) :: As.map (zv g.1)).toArray) ?_ kk
  unfold Run at hrun
  rw [m7] at hrun m1
  rcases hk with hk | hk
  · exact va_runI (n := As.length) (Ts := zgw) (rm := zrm d mc ms) ⟨X.1, X.2.1, X.2.2.2.1, X.2.2.2.2.1, hts⟩ hrun ⟨callB_of As.length hts (zgood m1) rfl rfl rfl (hts _ m2) (hts _ hk) m3 hrm, m6, hts _ m5⟩ hp rfl (by simp) hL.1.1 hst0 (lv_room (zst_room hst)) hd hf
  · exact va_runIN (n := As.length) (Ts := zgw) (rm := zrm d mc ms) ⟨X.1, X.2.1, X.2.2.2.1, X.2.2.2.2.1, hts⟩ hrun ⟨va_cnB As.length hts (zgood m1) rfl rfl rfl (X.2.2.2.2.2.2.2.2.2.1.2 _ hk) (hts _ m2) m3 hrm, m6, hts _ m5⟩ hp rfl (by simp) hL.1.1 hst0 (lv_room (zst_room hst)) hd hf
theorem zw_objInit {idx q : Nat} (hd : decode M.2.1 pc = .ok (.invokespecial idx, 3)) (hl : Cond.methodLink M.1.cls idx Lib.objectInit ∈ zgw) (hi : Cond.instanceMethod Lib.objectInit ∈ zgw) (hc : Cond.code Lib.objectInit ⟨#[0xb1]⟩ 1 none ∈ zgw) (hR : 1 ≤ R.frames ∧ 38 ≤ R.locals) (hst : (st.map Value.category).sum ≤ 8) (kk : WW l g M R Z QQ (pc + 3) ls st h k n) : WW l g M R Z QQ pc ls (.ref q :: st) h k n := by
  intro p e s m args below meth c H locs lsA X hz hP hS hL
  have hts := X.2.2.2.2.2.1
  have h8 := lv_room (m := m) (pc := pc) (ls := lsA) (rest := (Value.ref q :: st).map (zv g.1)) (zst_room (g := g) hst)
  exact W.objInit X.1 X.2.1 X.2.2.2.2.1 (hts _ hl) (hts _ hi) (hts _ hc) rfl (hL.1.1.trans X.2.2.2.1.symm) rfl hd hR.1 (by have := hR.2; omega) (kk p e s m args below meth c H locs lsA X hz hP hS hL)
/-! new cells -/
theorem zfresh {p : Program} {e : Env} {s : State} {m : MethodId} {args : Array Value} {below : List Frame} {meth : Method} {c : Code} {T : State} {H1 : Heap} {locs : List Loc} {n2 q : Nat} {E : va_E} (X : zX g M Z p s m args meth c) (hz : s.heap.size + k = g.1 + h.length) (hP : va_P g.2.2 zcl (zW g.1 g.2.1 h ++ [(q, E)]) H1) (hD : va_D (fun q => g.1 ≤ q) (zW g.1 g.2.1 h ++ [(q, E)])) (hT : T.heap = H1) (X0 : Stand p l e R s m args below meth c T locs (k + 1) n2) : q = g.1 + h.length := by
  have hu : T.heap.size ≤ s.heap.size + (k + 1) := X0.same.2.2.1
  rw [hT] at hu
  have hat : (zW g.1 g.2.1 h ++ [(q, E)])[h.length]? = some (q, E) := by
    rw [List.getElem?_append_right (by rw [zW_len]; exact Nat.le_refl _), zW_len, Nat.sub_self]; rfl
  have hlt : q < H1.size := (hP _ _ hat).lt
  have hge : g.1 ≤ q := hD.2 _ _ hat
  rcases Nat.lt_or_ge (q - g.1) h.length with hh | hh
  · exfalso
    have h1 : (zW g.1 g.2.1 h ++ [(q, E)])[q - g.1]? = some (g.1 + (q - g.1), zE g.1 g.2.1 h[q - g.1]) := by
      rw [List.getElem?_append_left (by rw [zW_len]; exact hh)]
      exact zW_get (List.getElem?_eq_getElem hh)
    have := hD.1 _ _ _ _ h1 hat (by show g.1 + (q - g.1) = q; omega)
    omega
  · omega
theorem zw_new {idx ci N : Nat} {fs : List Value} {C : String} {T' : u_T} {Y : Nat → FieldType} (hd : decode M.2.1 pc = .ok (.new idx, 3)) (hc : zcl[ci]? = some (C, T', N)) (hi : ∀ w ∈ u_ws C T' N, w ∈ zgw) (hy : ∀ k, k < N → parseFieldDescriptor (T' k).2.2.1 = some (Y k)) (hl : Cond.classLink M.1.cls idx C ∈ zgw) (hin : Cond.instantiable C N ∈ zgw) (hini : Cond.initialized C ∈ zgw) (hfs : ∀ j, j < N → defaultValue (Y j) = vp_V fs j) (hfz : fs.map (zv g.1) = fs) (hf : k + 1 ≤ R.cells ∧ n + N ≤ R.slots)
    (kk : WW l g M R Z QQ (pc + 3) ls (.ref h.length :: st) (h ++ [.inr (ci, fs)]) (k + 1) (n + N)) : WW l g M R Z QQ pc ls st h k n := by
  intro p e s m args below meth c H locs lsA X hz hP hS hL
  have hts := X.2.2.2.2.2.1
  refine va_new X.1 X.2.1 hts hi Y hy X.2.2.2.2.1 (hts _ hl) (hts _ hin) (hts _ hini) X.2.2.2.2.2.2.2.2.2.1.1 hP zW_D hS (fun q hq => Nat.le_trans X.2.2.2.2.2.2.2.2.2.2 hq) hc hfs hf.1 hf.2 hd (fun q H1 hP1 hD1 hS1 => ?_)
  intro T hT X0
  have hq := zfresh X hz hP1 hD1 hT X0
  subst hq
  have hP2 : va_P g.2.2 zcl (zW g.1 g.2.1 h ++ [(g.1 + h.length, zE g.1 g.2.1 (.inr (ci, fs)))]) H1 := by
    show va_P g.2.2 zcl (zW g.1 g.2.1 h ++ [(g.1 + h.length, .inr (ci, fs.map (zv g.1)))]) H1
    rw [hfz]; exact hP1
  rw [zW_app] at hP2
  exact kk p e s m args below meth c H1 locs lsA X (by simp; omega) hP2 hS1 hL T hT X0
theorem zRA {s : State} {c1 c2 : ClassId} {ty : FieldType} (h1 : va_RA s c1 ty) (h2 : va_RA s c2 ty) : c1 = c2 := by
  cases ty with
  | object C =>
    obtain ⟨_, _, -, -, -, a⟩ := h1
    obtain ⟨_, _, -, -, -, b⟩ := h2
    exact Option.some.inj (a.symm.trans b)
  | _ => exact Option.some.inj (Eq.trans (Eq.symm h1) h2)

theorem zw_newi {x : Int32} {N : Nat} (hd : decode M.2.1 pc = .ok (.newarray .int, 2)) (ha : Cond.arrayClass (newarray.typeOf .int) ∈ zgw) (h0 : ¬ x < 0) (hN : x.toNatClampNeg = N) (hb : N * 8 ≤ 536870912) (hf : k + 1 ≤ R.cells ∧ n + N ≤ R.slots) (kk : WW l g M R Z QQ (pc + 2) ls (.ref h.length :: st) (h ++ [.inl (0, N, .inl (fun _ => 0))]) (k + 1) (n + N)) : WW l g M R Z QQ pc ls (.int x :: st) h k n := by
  intro p e s m args below meth c H locs lsA X hz hP hS hL
  have hts := X.2.2.2.2.2.1
  refine va_newa (atype := .int) (ty := .int) (a0 := (N, .inl (fun _ => 0))) X.1 X.2.1 (hts _ ha) rfl X.2.2.2.2.2.2.2.2.2.1.1 hP zW_D hS (fun q hq => Nat.le_trans X.2.2.2.2.2.2.2.2.2.2 hq) (fun cA => rfl) h0 hN (by show N * componentBytes .int ≤ 536870912; simp [componentBytes]; omega) hf.1 hf.2 hd (fun q cA H1 hK1 hP1 hD1 hS1 => ?_)
  have hcA : cA = g.2.1 0 := zRA (hK1.2 4 (cA, .int) rfl).2 (hK1.2 0 (g.2.1 0, .int) rfl).2
  subst hcA
  intro T hT X0
  have hq := zfresh X hz hP1 hD1 hT X0
  subst hq
  have hP2 : va_P g.2.2 zcl (zW g.1 g.2.1 h ++ [(g.1 + h.length, zE g.1 g.2.1 (.inl (0, N, .inl (fun _ => 0))))]) H1 := hP1
  rw [zW_app] at hP2
  exact kk p e s m args below meth c H1 locs lsA X (by simp; omega) hP2 hS1 hL T hT X0
theorem zw_newl {x : Int32} {N : Nat} (hd : decode M.2.1 pc = .ok (.newarray .long, 2)) (ha : Cond.arrayClass (newarray.typeOf .long) ∈ zgw) (h0 : ¬ x < 0) (hN : x.toNatClampNeg = N) (hb : N * 8 ≤ 536870912) (hf : k + 1 ≤ R.cells ∧ n + N ≤ R.slots) (kk : WW l g M R Z QQ (pc + 2) ls (.ref h.length :: st) (h ++ [.inl (1, N, .inr (.inl (fun _ => 0)))]) (k + 1) (n + N)) : WW l g M R Z QQ pc ls (.int x :: st) h k n := by
  intro p e s m args below meth c H locs lsA X hz hP hS hL
  have hts := X.2.2.2.2.2.1
  refine va_newa (atype := .long) (ty := .long) (a0 := (N, .inr (.inl (fun _ => 0)))) X.1 X.2.1 (hts _ ha) rfl X.2.2.2.2.2.2.2.2.2.1.1 hP zW_D hS (fun q hq => Nat.le_trans X.2.2.2.2.2.2.2.2.2.2 hq) (fun cA => rfl) h0 hN (by show N * componentBytes .long ≤ 536870912; simp [componentBytes]; omega) hf.1 hf.2 hd (fun q cA H1 hK1 hP1 hD1 hS1 => ?_)
  have hcA : cA = g.2.1 1 := zRA (hK1.2 4 (cA, .long) rfl).2 (hK1.2 1 (g.2.1 1, .long) rfl).2
  subst hcA
  intro T hT X0
  have hq := zfresh X hz hP1 hD1 hT X0
  subst hq
  have hP2 : va_P g.2.2 zcl (zW g.1 g.2.1 h ++ [(g.1 + h.length, zE g.1 g.2.1 (.inl (1, N, .inr (.inl (fun _ => 0)))))]) H1 := hP1
  rw [zW_app] at hP2
  exact kk p e s m args below meth c H1 locs lsA X (by simp; omega) hP2 hS1 hL T hT X0
theorem zw_newz {x : Int32} {N : Nat} (hd : decode M.2.1 pc = .ok (.newarray .boolean, 2)) (ha : Cond.arrayClass (newarray.typeOf .boolean) ∈ zgw) (h0 : ¬ x < 0) (hN : x.toNatClampNeg = N) (hb : N * 8 ≤ 536870912) (hf : k + 1 ≤ R.cells ∧ n + N ≤ R.slots) (kk : WW l g M R Z QQ (pc + 2) ls (.ref h.length :: st) (h ++ [.inl (2, N, .inl (fun _ => 0))]) (k + 1) (n + N)) : WW l g M R Z QQ pc ls (.int x :: st) h k n := by
  intro p e s m args below meth c H locs lsA X hz hP hS hL
  have hts := X.2.2.2.2.2.1
  refine va_newa (atype := .boolean) (ty := .boolean) (a0 := (N, .inl (fun _ => 0))) X.1 X.2.1 (hts _ ha) rfl X.2.2.2.2.2.2.2.2.2.1.1 hP zW_D hS (fun q hq => Nat.le_trans X.2.2.2.2.2.2.2.2.2.2 hq) (fun cA => rfl) h0 hN (by show N * componentBytes .boolean ≤ 536870912; simp [componentBytes]; omega) hf.1 hf.2 hd (fun q cA H1 hK1 hP1 hD1 hS1 => ?_)
  have hcA : cA = g.2.1 2 := zRA (hK1.2 4 (cA, .boolean) rfl).2 (hK1.2 2 (g.2.1 2, .boolean) rfl).2
  subst hcA
  intro T hT X0
  have hq := zfresh X hz hP1 hD1 hT X0
  subst hq
  have hP2 : va_P g.2.2 zcl (zW g.1 g.2.1 h ++ [(g.1 + h.length, zE g.1 g.2.1 (.inl (2, N, .inl (fun _ => 0))))]) H1 := hP1
  rw [zW_app] at hP2
  exact kk p e s m args below meth c H1 locs lsA X (by simp; omega) hP2 hS1 hL T hT X0
theorem zw_newq {idx : Nat} {x : Int32} {N : Nat} (hd : decode M.2.1 pc = .ok (.anewarray idx, 3)) (hl : Cond.classLink M.1.cls idx "SweptFloors$Situation" ∈ zgw) (ha : Cond.arrayOver (.object "SweptFloors$Situation") ∈ zgw) (h0 : ¬ x < 0) (hN : x.toNatClampNeg = N) (hb : N * 8 ≤ 536870912) (hf : k + 1 ≤ R.cells ∧ n + N ≤ R.slots) (kk : WW l g M R Z QQ (pc + 3) ls (.ref h.length :: st) (h ++ [.inl (3, N, .inr (.inr (.inr (.inr (fun _ => none)))))]) (k + 1) (n + N)) : WW l g M R Z QQ pc ls (.int x :: st) h k n := by
  intro p e s m args below meth c H locs lsA X hz hP hS hL
  have hts := X.2.2.2.2.2.1
  refine va_newq X.1 X.2.1 X.2.2.2.2.1 (hts _ hl) (va_AO.of (hts _ ha)) X.2.2.2.2.2.2.2.2.2.1.1 hP zW_D hS (fun q hq => Nat.le_trans X.2.2.2.2.2.2.2.2.2.2 hq) h0 hN (by omega) hf.1 hf.2 hd (fun q cA H1 hK1 hP1 hD1 hS1 => ?_)
  have hcA : cA = g.2.1 3 := zRA (hK1.2 4 (cA, .object "SweptFloors$Situation") rfl).2 (hK1.2 3 (g.2.1 3, .object "SweptFloors$Situation") rfl).2
  subst hcA
  intro T hT X0
  have hq := zfresh X hz hP1 hD1 hT X0
  subst hq
  have hP2 : va_P g.2.2 zcl (zW g.1 g.2.1 h ++ [(g.1 + h.length, zE g.1 g.2.1 (.inl (3, N, .inr (.inr (.inr (.inr (fun _ => none)))))))]) H1 := hP1
  rw [zW_app] at hP2
  exact kk p e s m args below meth c H1 locs lsA X (by simp; omega) hP2 hS1 hL T hT X0
theorem zw_copyl {idx q0 q1 n0 n1 : Nat} {f f2 : Nat → Int64} (hd : decode M.2.1 pc = .ok (.invokestatic idx, 3)) (hl : Cond.methodLink M.1.cls idx arraycopyName ∈ zgw) (hna : Cond.native arraycopyName ∈ zgw) (hsc : Cond.static arraycopyName ∈ zgw) (hini : Cond.initialized "java/lang/System" ∈ zgw) (h0 : h[q0]? = some (.inl (1, n0, .inr (.inl f)))) (h1 : h[q1]? = some (.inl (1, n1, .inr (.inl f2)))) {sp dp len : Int32} (g1 : ¬ sp < 0) (g2 : ¬ dp < 0) (g3 : ¬ len < 0) (g4 : sp.toNatClampNeg + len.toNatClampNeg ≤ n0) (g5 : dp.toNatClampNeg + len.toNatClampNeg ≤ n1) (hR : 1 ≤ R.frames ∧ (st.map Value.category).sum + (nativeFrameWords "java/lang/System" "arraycopy" 5 + 11) ≤ R.locals)
    (kk : WW l g M R Z QQ (pc + 3) ls st (h.set q1 (.inl (1, n1, .inr (.inl (va_cpy f f2 sp.toNatClampNeg dp.toNatClampNeg len.toNatClampNeg))))) k n) : WW l g M R Z QQ pc ls (.int len :: .int dp :: .ref q1 :: .int sp :: .ref q0 :: st) h k n := by
  intro p e s m args below meth c H locs lsA X hz hP hS hL
  have hts := X.2.2.2.2.2.1
  have hroom : ((st.map (zv g.1)).map fun v => v.category).sum + (nativeFrameWords "java/lang/System" "arraycopy" 5 + 11) ≤ R.locals := by
    have e : (st.map (zv g.1)).map (fun v => v.category) = st.map Value.category := by
      rw [List.map_map]
      exact List.map_congr_left (fun v _ => zv_cat g.1 v)
    rw [e]; exact hR.2
  refine va_copyl X.1 X.2.1 (X.2.2.2.1.trans hL.1.1.symm) X.2.2.2.2.1 (hts _ hl) (hts _ hna) (hts _ hsc) (hts _ hini) X.2.2.2.2.2.2.2.2.2.1.1 hP zW_D hS q0 q1 1 1 (zW_get h0) (zW_get h1) rfl rfl rfl g1 g2 g3 g4 g5 (fun i _ => rfl) hR.1 hroom hd (fun H1 locs1 hP1 hD1 hS1 => ?_)
  have hP2 : va_P g.2.2 zcl ((zW g.1 g.2.1 h).set q1 (g.1 + q1, zE g.1 g.2.1 (.inl (1, n1, .inr (.inl (va_cpy f f2 sp.toNatClampNeg dp.toNatClampNeg len.toNatClampNeg)))))) H1 := hP1
  rw [zW_set] at hP2
  exact kk p e s m args below meth c H1 locs1 lsA X (by rw [List.length_set]; exact hz) hP2 hS1 hL
end ZC
def PI (r : Int32) (h1 : zH) : Option Value → zH → Prop := fun v h' => v = some (.int r) ∧ h' = h1
def PL (r : Int64) (h1 : zH) : Option Value → zH → Prop := fun v h' => v = some (.long r) ∧ h' = h1
def PV (h1 : zH) : Option Value → zH → Prop := fun v h' => v = none ∧ h' = h1
theorem zRR {d mc ms : Nat} : d + 1 ≤ (zrm (d + 1) mc ms).frames ∧ 38 * d + 38 ≤ (zrm (d + 1) mc ms).locals := ⟨Nat.le_refl _, Nat.le_refl _⟩

section ZF
variable {l : Launch} {g : zG} {M : zM} {R : Room} {Z : State → Prop} {QQ : List Frame → Array Value → State → State → Prop} {pc : Nat} {ls : zL} {st : List Value} {h h1 : zH} {k n : Nat} {M' : zM} {idx d q ci : Nat} {fs : List Value} {T' : u_T} {N' : Nat} {post : Option Value → zH → Prop}
theorem zc_V0I {r : Int32} (hd : decode M.2.1 pc = .ok (.invokevirtual idx, 3)) (hm : zmV M' 0) (hk : zlk M.1.cls idx M'.1) (hq : h[q]? = some (.inr (ci, fs))) (hc : zcl[ci]? = some (M'.1.cls, T', N')) (hrun : Run l g M' d 0 0 [.ref q] h (PI r h1)) (kk : WW l g M R Z QQ (pc + 3) ls (.int r :: st) h1 k n) (hR : d + 1 ≤ R.frames ∧ 38 * d + 38 ≤ R.locals) (hst : (st.map Value.category).sum ≤ 8) (hf : k ≤ R.cells ∧ n ≤ R.slots) : WW l g M R Z QQ pc ls (.ref q :: st) h k n := zw_callV [] hd hm hk hR hq hc hf hst hrun (fun v h2 ⟨e1, e2⟩ => by subst e1; subst e2; exact kk)
theorem zc_V0L {r : Int64} (hd : decode M.2.1 pc = .ok (.invokevirtual idx, 3)) (hm : zmV M' 0) (hk : zlk M.1.cls idx M'.1) (hq : h[q]? = some (.inr (ci, fs))) (hc : zcl[ci]? = some (M'.1.cls, T', N')) (hrun : Run l g M' d 0 0 [.ref q] h (PL r h1)) (kk : WW l g M R Z QQ (pc + 3) ls (.long r :: st) h1 k n) (hR : d + 1 ≤ R.frames ∧ 38 * d + 38 ≤ R.locals) (hst : (st.map Value.category).sum ≤ 8) (hf : k ≤ R.cells ∧ n ≤ R.slots) : WW l g M R Z QQ pc ls (.ref q :: st) h k n := zw_callV [] hd hm hk hR hq hc hf hst hrun (fun v h2 ⟨e1, e2⟩ => by subst e1; subst e2; exact kk)
theorem zc_V0V (hd : decode M.2.1 pc = .ok (.invokevirtual idx, 3)) (hm : zmV M' 0) (hk : zlk M.1.cls idx M'.1) (hq : h[q]? = some (.inr (ci, fs))) (hc : zcl[ci]? = some (M'.1.cls, T', N')) (hrun : Run l g M' d 0 0 [.ref q] h (PV h1)) (kk : WW l g M R Z QQ (pc + 3) ls st h1 k n) (hR : d + 1 ≤ R.frames ∧ 38 * d + 38 ≤ R.locals) (hst : (st.map Value.category).sum ≤ 8) (hf : k ≤ R.cells ∧ n ≤ R.slots) : WW l g M R Z QQ pc ls (.ref q :: st) h k n := zw_callV [] hd hm hk hR hq hc hf hst hrun (fun v h2 ⟨e1, e2⟩ => by subst e1; subst e2; exact kk)
theorem zg_V0 {mc ms : Nat} (hd : decode M.2.1 pc = .ok (.invokevirtual idx, 3)) (hm : zmV M' 0) (hk : zlk M.1.cls idx M'.1) (hq : h[q]? = some (.inr (ci, fs))) (hc : zcl[ci]? = some (M'.1.cls, T', N')) (hrun : Run l g M' d mc ms [.ref q] h post) (hR : d + 1 ≤ R.frames ∧ 38 * d + 38 ≤ R.locals) (hst : (st.map Value.category).sum ≤ 8) (hf : k + mc ≤ R.cells ∧ n + ms ≤ R.slots) (kk : ∀ v h', post v h' → WW l g M R Z QQ (pc + 3) ls (v.toList ++ st) h' (k + mc) (n + ms)) : WW l g M R Z QQ pc ls (.ref q :: st) h k n := zw_callV [] hd hm hk hR hq hc hf hst hrun kk
theorem zc_V1I {a1 : Value} {r : Int32} (hd : decode M.2.1 pc = .ok (.invokevirtual idx, 3)) (hm : zmV M' 1) (hk : zlk M.1.cls idx M'.1) (hq : h[q]? = some (.inr (ci, fs))) (hc : zcl[ci]? = some (M'.1.cls, T', N')) (hrun : Run l g M' d 0 0 [.ref q, a1] h (PI r h1)) (kk : WW l g M R Z QQ (pc + 3) ls (.int r :: st) h1 k n) (hR : d + 1 ≤ R.frames ∧ 38 * d + 38 ≤ R.locals) (hst : (st.map Value.category).sum ≤ 8) (hf : k ≤ R.cells ∧ n ≤ R.slots) : WW l g M R Z QQ pc ls (a1 :: .ref q :: st) h k n := zw_callV [a1] hd hm hk hR hq hc hf hst hrun (fun v h2 ⟨e1, e2⟩ => by subst e1; subst e2; exact kk)
theorem zc_V1L {a1 : Value} {r : Int64} (hd : decode M.2.1 pc = .ok (.invokevirtual idx, 3)) (hm : zmV M' 1) (hk : zlk M.1.cls idx M'.1) (hq : h[q]? = some (.inr (ci, fs))) (hc : zcl[ci]? = some (M'.1.cls, T', N')) (hrun : Run l g M' d 0 0 [.ref q, a1] h (PL r h1)) (kk : WW l g M R Z QQ (pc + 3) ls (.long r :: st) h1 k n) (hR : d + 1 ≤ R.frames ∧ 38 * d + 38 ≤ R.locals) (hst : (st.map Value.category).sum ≤ 8) (hf : k ≤ R.cells ∧ n ≤ R.slots) : WW l g M R Z QQ pc ls (a1 :: .ref q :: st) h k n := zw_callV [a1] hd hm hk hR hq hc hf hst hrun (fun v h2 ⟨e1, e2⟩ => by subst e1; subst e2; exact kk)
theorem zc_V1V {a1 : Value} (hd : decode M.2.1 pc = .ok (.invokevirtual idx, 3)) (hm : zmV M' 1) (hk : zlk M.1.cls idx M'.1) (hq : h[q]? = some (.inr (ci, fs))) (hc : zcl[ci]? = some (M'.1.cls, T', N')) (hrun : Run l g M' d 0 0 [.ref q, a1] h (PV h1)) (kk : WW l g M R Z QQ (pc + 3) ls st h1 k n) (hR : d + 1 ≤ R.frames ∧ 38 * d + 38 ≤ R.locals) (hst : (st.map Value.category).sum ≤ 8) (hf : k ≤ R.cells ∧ n ≤ R.slots) : WW l g M R Z QQ pc ls (a1 :: .ref q :: st) h k n := zw_callV [a1] hd hm hk hR hq hc hf hst hrun (fun v h2 ⟨e1, e2⟩ => by subst e1; subst e2; exact kk)
theorem zg_V1 {a1 : Value} {mc ms : Nat} (hd : decode M.2.1 pc = .ok (.invokevirtual idx, 3)) (hm : zmV M' 1) (hk : zlk M.1.cls idx M'.1) (hq : h[q]? = some (.inr (ci, fs))) (hc : zcl[ci]? = some (M'.1.cls, T', N')) (hrun : Run l g M' d mc ms [.ref q, a1] h post) (hR : d + 1 ≤ R.frames ∧ 38 * d + 38 ≤ R.locals) (hst : (st.map Value.category).sum ≤ 8) (hf : k + mc ≤ R.cells ∧ n + ms ≤ R.slots) (kk : ∀ v h', post v h' → WW l g M R Z QQ (pc + 3) ls (v.toList ++ st) h' (k + mc) (n + ms)) : WW l g M R Z QQ pc ls (a1 :: .ref q :: st) h k n := zw_callV [a1] hd hm hk hR hq hc hf hst hrun kk
theorem zc_V2I {a1 a2 : Value} {r : Int32} (hd : decode M.2.1 pc = .ok (.invokevirtual idx, 3)) (hm : zmV M' 2) (hk : zlk M.1.cls idx M'.1) (hq : h[q]? = some (.inr (ci, fs))) (hc : zcl[ci]? = some (M'.1.cls, T', N')) (hrun : Run l g M' d 0 0 [.ref q, a1, a2] h (PI r h1)) (kk : WW l g M R Z QQ (pc + 3) ls (.int r :: st) h1 k n) (hR : d + 1 ≤ R.frames ∧ 38 * d + 38 ≤ R.locals) (hst : (st.map Value.category).sum ≤ 8) (hf : k ≤ R.cells ∧ n ≤ R.slots) : WW l g M R Z QQ pc ls (a2 :: a1 :: .ref q :: st) h k n := zw_callV [a1, a2] hd hm hk hR hq hc hf hst hrun (fun v h2 ⟨e1, e2⟩ => by subst e1; subst e2; exact kk)
theorem zc_V2L {a1 a2 : Value} {r : Int64} (hd : decode M.2.1 pc = .ok (.invokevirtual idx, 3)) (hm : zmV M' 2) (hk : zlk M.1.cls idx M'.1) (hq : h[q]? = some (.inr (ci, fs))) (hc : zcl[ci]? = some (M'.1.cls, T', N')) (hrun : Run l g M' d 0 0 [.ref q, a1, a2] h (PL r h1)) (kk : WW l g M R Z QQ (pc + 3) ls (.long r :: st) h1 k n) (hR : d + 1 ≤ R.frames ∧ 38 * d + 38 ≤ R.locals) (hst : (st.map Value.category).sum ≤ 8) (hf : k ≤ R.cells ∧ n ≤ R.slots) : WW l g M R Z QQ pc ls (a2 :: a1 :: .ref q :: st) h k n := zw_callV [a1, a2] hd hm hk hR hq hc hf hst hrun (fun v h2 ⟨e1, e2⟩ => by subst e1; subst e2; exact kk)
theorem zc_V2V {a1 a2 : Value} (hd : decode M.2.1 pc = .ok (.invokevirtual idx, 3)) (hm : zmV M' 2) (hk : zlk M.1.cls idx M'.1) (hq : h[q]? = some (.inr (ci, fs))) (hc : zcl[ci]? = some (M'.1.cls, T', N')) (hrun : Run l g M' d 0 0 [.ref q, a1, a2] h (PV h1)) (kk : WW l g M R Z QQ (pc + 3) ls st h1 k n) (hR : d + 1 ≤ R.frames ∧ 38 * d + 38 ≤ R.locals) (hst : (st.map Value.category).sum ≤ 8) (hf : k ≤ R.cells ∧ n ≤ R.slots) : WW l g M R Z QQ pc ls (a2 :: a1 :: .ref q :: st) h k n := zw_callV [a1, a2] hd hm hk hR hq hc hf hst hrun (fun v h2 ⟨e1, e2⟩ => by subst e1; subst e2; exact kk)
theorem zg_V2 {a1 a2 : Value} {mc ms : Nat} (hd : decode M.2.1 pc = .ok (.invokevirtual idx, 3)) (hm : zmV M' 2) (hk : zlk M.1.cls idx M'.1) (hq : h[q]? = some (.inr (ci, fs))) (hc : zcl[ci]? = some (M'.1.cls, T', N')) (hrun : Run l g M' d mc ms [.ref q, a1, a2] h post) (hR : d + 1 ≤ R.frames ∧ 38 * d + 38 ≤ R.locals) (hst : (st.map Value.category).sum ≤ 8) (hf : k + mc ≤ R.cells ∧ n + ms ≤ R.slots) (kk : ∀ v h', post v h' → WW l g M R Z QQ (pc + 3) ls (v.toList ++ st) h' (k + mc) (n + ms)) : WW l g M R Z QQ pc ls (a2 :: a1 :: .ref q :: st) h k n := zw_callV [a1, a2] hd hm hk hR hq hc hf hst hrun kk
theorem zc_V3I {a1 a2 a3 : Value} {r : Int32} (hd : decode M.2.1 pc = .ok (.invokevirtual idx, 3)) (hm : zmV M' 3) (hk : zlk M.1.cls idx M'.1) (hq : h[q]? = some (.inr (ci, fs))) (hc : zcl[ci]? = some (M'.1.cls, T', N')) (hrun : Run l g M' d 0 0 [.ref q, a1, a2, a3] h (PI r h1)) (kk : WW l g M R Z QQ (pc + 3) ls (.int r :: st) h1 k n) (hR : d + 1 ≤ R.frames ∧ 38 * d + 38 ≤ R.locals) (hst : (st.map Value.category).sum ≤ 8) (hf : k ≤ R.cells ∧ n ≤ R.slots) : WW l g M R Z QQ pc ls (a3 :: a2 :: a1 :: .ref q :: st) h k n := zw_callV [a1, a2, a3] hd hm hk hR hq hc hf hst hrun (fun v h2 ⟨e1, e2⟩ => by subst e1; subst e2; exact kk)
theorem zc_V3L {a1 a2 a3 : Value} {r : Int64} (hd : decode M.2.1 pc = .ok (.invokevirtual idx, 3)) (hm : zmV M' 3) (hk : zlk M.1.cls idx M'.1) (hq : h[q]? = some (.inr (ci, fs))) (hc : zcl[ci]? = some (M'.1.cls, T', N')) (hrun : Run l g M' d 0 0 [.ref q, a1, a2, a3] h (PL r h1)) (kk : WW l g M R Z QQ (pc + 3) ls (.long r :: st) h1 k n) (hR : d + 1 ≤ R.frames ∧ 38 * d + 38 ≤ R.locals) (hst : (st.map Value.category).sum ≤ 8) (hf : k ≤ R.cells ∧ n ≤ R.slots) : WW l g M R Z QQ pc ls (a3 :: a2 :: a1 :: .ref q :: st) h k n := zw_callV [a1, a2, a3] hd hm hk hR hq hc hf hst hrun (fun v h2 ⟨e1, e2⟩ => by subst e1; subst e2; exact kk)
theorem zc_V3V {a1 a2 a3 : Value} (hd : decode M.2.1 pc = .ok (.invokevirtual idx, 3)) (hm : zmV M' 3) (hk : zlk M.1.cls idx M'.1) (hq : h[q]? = some (.inr (ci, fs))) (hc : zcl[ci]? = some (M'.1.cls, T', N')) (hrun : Run l g M' d 0 0 [.ref q, a1, a2, a3] h (PV h1)) (kk : WW l g M R Z QQ (pc + 3) ls st h1 k n) (hR : d + 1 ≤ R.frames ∧ 38 * d + 38 ≤ R.locals) (hst : (st.map Value.category).sum ≤ 8) (hf : k ≤ R.cells ∧ n ≤ R.slots) : WW l g M R Z QQ pc ls (a3 :: a2 :: a1 :: .ref q :: st) h k n := zw_callV [a1, a2, a3] hd hm hk hR hq hc hf hst hrun (fun v h2 ⟨e1, e2⟩ => by subst e1; subst e2; exact kk)
theorem zg_V3 {a1 a2 a3 : Value} {mc ms : Nat} (hd : decode M.2.1 pc = .ok (.invokevirtual idx, 3)) (hm : zmV M' 3) (hk : zlk M.1.cls idx M'.1) (hq : h[q]? = some (.inr (ci, fs))) (hc : zcl[ci]? = some (M'.1.cls, T', N')) (hrun : Run l g M' d mc ms [.ref q, a1, a2, a3] h post) (hR : d + 1 ≤ R.frames ∧ 38 * d + 38 ≤ R.locals) (hst : (st.map Value.category).sum ≤ 8) (hf : k + mc ≤ R.cells ∧ n + ms ≤ R.slots) (kk : ∀ v h', post v h' → WW l g M R Z QQ (pc + 3) ls (v.toList ++ st) h' (k + mc) (n + ms)) : WW l g M R Z QQ pc ls (a3 :: a2 :: a1 :: .ref q :: st) h k n := zw_callV [a1, a2, a3] hd hm hk hR hq hc hf hst hrun kk
theorem zc_S1I {a1 : Value} {r : Int32} (hd : decode M.2.1 pc = .ok (.invokestatic idx, 3)) (hm : zmS M' 1) (hk : zlk M.1.cls idx M'.1) (hrun : Run l g M' d 0 0 [a1] h (PI r h1)) (kk : WW l g M R Z QQ (pc + 3) ls (.int r :: st) h1 k n) (hR : d + 1 ≤ R.frames ∧ 38 * d + 38 ≤ R.locals) (hst : (st.map Value.category).sum ≤ 8) (hf : k ≤ R.cells ∧ n ≤ R.slots) : WW l g M R Z QQ pc ls (a1 :: st) h k n := zw_callS [a1] hd hm hk hR hf hst hrun (fun v h2 ⟨e1, e2⟩ => by subst e1; subst e2; exact kk)
theorem zc_S1L {a1 : Value} {r : Int64} (hd : decode M.2.1 pc = .ok (.invokestatic idx, 3)) (hm : zmS M' 1) (hk : zlk M.1.cls idx M'.1) (hrun : Run l g M' d 0 0 [a1] h (PL r h1)) (kk : WW l g M R Z QQ (pc + 3) ls (.long r :: st) h1 k n) (hR : d + 1 ≤ R.frames ∧ 38 * d + 38 ≤ R.locals) (hst : (st.map Value.category).sum ≤ 8) (hf : k ≤ R.cells ∧ n ≤ R.slots) : WW l g M R Z QQ pc ls (a1 :: st) h k n := zw_callS [a1] hd hm hk hR hf hst hrun (fun v h2 ⟨e1, e2⟩ => by subst e1; subst e2; exact kk)
theorem zc_S1V {a1 : Value} (hd : decode M.2.1 pc = .ok (.invokestatic idx, 3)) (hm : zmS M' 1) (hk : zlk M.1.cls idx M'.1) (hrun : Run l g M' d 0 0 [a1] h (PV h1)) (kk : WW l g M R Z QQ (pc + 3) ls st h1 k n) (hR : d + 1 ≤ R.frames ∧ 38 * d + 38 ≤ R.locals) (hst : (st.map Value.category).sum ≤ 8) (hf : k ≤ R.cells ∧ n ≤ R.slots) : WW l g M R Z QQ pc ls (a1 :: st) h k n := zw_callS [a1] hd hm hk hR hf hst hrun (fun v h2 ⟨e1, e2⟩ => by subst e1; subst e2; exact kk)
theorem zg_S1 {a1 : Value} {mc ms : Nat} (hd : decode M.2.1 pc = .ok (.invokestatic idx, 3)) (hm : zmS M' 1) (hk : zlk M.1.cls idx M'.1) (hrun : Run l g M' d mc ms [a1] h post) (hR : d + 1 ≤ R.frames ∧ 38 * d + 38 ≤ R.locals) (hst : (st.map Value.category).sum ≤ 8) (hf : k + mc ≤ R.cells ∧ n + ms ≤ R.slots) (kk : ∀ v h', post v h' → WW l g M R Z QQ (pc + 3) ls (v.toList ++ st) h' (k + mc) (n + ms)) : WW l g M R Z QQ pc ls (a1 :: st) h k n := zw_callS [a1] hd hm hk hR hf hst hrun kk
theorem zc_S2I {a1 a2 : Value} {r : Int32} (hd : decode M.2.1 pc = .ok (.invokestatic idx, 3)) (hm : zmS M' 2) (hk : zlk M.1.cls idx M'.1) (hrun : Run l g M' d 0 0 [a1, a2] h (PI r h1)) (kk : WW l g M R Z QQ (pc + 3) ls (.int r :: st) h1 k n) (hR : d + 1 ≤ R.frames ∧ 38 * d + 38 ≤ R.locals) (hst : (st.map Value.category).sum ≤ 8) (hf : k ≤ R.cells ∧ n ≤ R.slots) : WW l g M R Z QQ pc ls (a2 :: a1 :: st) h k n := zw_callS [a1, a2] hd hm hk hR hf hst hrun (fun v h2 ⟨e1, e2⟩ => by subst e1; subst e2; exact kk)
theorem zc_S2L {a1 a2 : Value} {r : Int64} (hd : decode M.2.1 pc = .ok (.invokestatic idx, 3)) (hm : zmS M' 2) (hk : zlk M.1.cls idx M'.1) (hrun : Run l g M' d 0 0 [a1, a2] h (PL r h1)) (kk : WW l g M R Z QQ (pc + 3) ls (.long r :: st) h1 k n) (hR : d + 1 ≤ R.frames ∧ 38 * d + 38 ≤ R.locals) (hst : (st.map Value.category).sum ≤ 8) (hf : k ≤ R.cells ∧ n ≤ R.slots) : WW l g M R Z QQ pc ls (a2 :: a1 :: st) h k n := zw_callS [a1, a2] hd hm hk hR hf hst hrun (fun v h2 ⟨e1, e2⟩ => by subst e1; subst e2; exact kk)
theorem zc_S2V {a1 a2 : Value} (hd : decode M.2.1 pc = .ok (.invokestatic idx, 3)) (hm : zmS M' 2) (hk : zlk M.1.cls idx M'.1) (hrun : Run l g M' d 0 0 [a1, a2] h (PV h1)) (kk : WW l g M R Z QQ (pc + 3) ls st h1 k n) (hR : d + 1 ≤ R.frames ∧ 38 * d + 38 ≤ R.locals) (hst : (st.map Value.category).sum ≤ 8) (hf : k ≤ R.cells ∧ n ≤ R.slots) : WW l g M R Z QQ pc ls (a2 :: a1 :: st) h k n := zw_callS [a1, a2] hd hm hk hR hf hst hrun (fun v h2 ⟨e1, e2⟩ => by subst e1; subst e2; exact kk)
theorem zg_S2 {a1 a2 : Value} {mc ms : Nat} (hd : decode M.2.1 pc = .ok (.invokestatic idx, 3)) (hm : zmS M' 2) (hk : zlk M.1.cls idx M'.1) (hrun : Run l g M' d mc ms [a1, a2] h post) (hR : d + 1 ≤ R.frames ∧ 38 * d + 38 ≤ R.locals) (hst : (st.map Value.category).sum ≤ 8) (hf : k + mc ≤ R.cells ∧ n + ms ≤ R.slots) (kk : ∀ v h', post v h' → WW l g M R Z QQ (pc + 3) ls (v.toList ++ st) h' (k + mc) (n + ms)) : WW l g M R Z QQ pc ls (a2 :: a1 :: st) h k n := zw_callS [a1, a2] hd hm hk hR hf hst hrun kk
theorem zc_S3I {a1 a2 a3 : Value} {r : Int32} (hd : decode M.2.1 pc = .ok (.invokestatic idx, 3)) (hm : zmS M' 3) (hk : zlk M.1.cls idx M'.1) (hrun : Run l g M' d 0 0 [a1, a2, a3] h (PI r h1)) (kk : WW l g M R Z QQ (pc + 3) ls (.int r :: st) h1 k n) (hR : d + 1 ≤ R.frames ∧ 38 * d + 38 ≤ R.locals) (hst : (st.map Value.category).sum ≤ 8) (hf : k ≤ R.cells ∧ n ≤ R.slots) : WW l g M R Z QQ pc ls (a3 :: a2 :: a1 :: st) h k n := zw_callS [a1, a2, a3] hd hm hk hR hf hst hrun (fun v h2 ⟨e1, e2⟩ => by subst e1; subst e2; exact kk)
theorem zc_S3L {a1 a2 a3 : Value} {r : Int64} (hd : decode M.2.1 pc = .ok (.invokestatic idx, 3)) (hm : zmS M' 3) (hk : zlk M.1.cls idx M'.1) (hrun : Run l g M' d 0 0 [a1, a2, a3] h (PL r h1)) (kk : WW l g M R Z QQ (pc + 3) ls (.long r :: st) h1 k n) (hR : d + 1 ≤ R.frames ∧ 38 * d + 38 ≤ R.locals) (hst : (st.map Value.category).sum ≤ 8) (hf : k ≤ R.cells ∧ n ≤ R.slots) : WW l g M R Z QQ pc ls (a3 :: a2 :: a1 :: st) h k n := zw_callS [a1, a2, a3] hd hm hk hR hf hst hrun (fun v h2 ⟨e1, e2⟩ => by subst e1; subst e2; exact kk)
theorem zc_S3V {a1 a2 a3 : Value} (hd : decode M.2.1 pc = .ok (.invokestatic idx, 3)) (hm : zmS M' 3) (hk : zlk M.1.cls idx M'.1) (hrun : Run l g M' d 0 0 [a1, a2, a3] h (PV h1)) (kk : WW l g M R Z QQ (pc + 3) ls st h1 k n) (hR : d + 1 ≤ R.frames ∧ 38 * d + 38 ≤ R.locals) (hst : (st.map Value.category).sum ≤ 8) (hf : k ≤ R.cells ∧ n ≤ R.slots) : WW l g M R Z QQ pc ls (a3 :: a2 :: a1 :: st) h k n := zw_callS [a1, a2, a3] hd hm hk hR hf hst hrun (fun v h2 ⟨e1, e2⟩ => by subst e1; subst e2; exact kk)
theorem zg_S3 {a1 a2 a3 : Value} {mc ms : Nat} (hd : decode M.2.1 pc = .ok (.invokestatic idx, 3)) (hm : zmS M' 3) (hk : zlk M.1.cls idx M'.1) (hrun : Run l g M' d mc ms [a1, a2, a3] h post) (hR : d + 1 ≤ R.frames ∧ 38 * d + 38 ≤ R.locals) (hst : (st.map Value.category).sum ≤ 8) (hf : k + mc ≤ R.cells ∧ n + ms ≤ R.slots) (kk : ∀ v h', post v h' → WW l g M R Z QQ (pc + 3) ls (v.toList ++ st) h' (k + mc) (n + ms)) : WW l g M R Z QQ pc ls (a3 :: a2 :: a1 :: st) h k n := zw_callS [a1, a2, a3] hd hm hk hR hf hst hrun kk
theorem zc_I0V (hd : decode M.2.1 pc = .ok (.invokespecial idx, 3)) (hm : zmI M' 0) (hk : zlk M.1.cls idx M'.1) (hrun : Run l g M' d 0 0 [.ref q] h (PV h1)) (kk : WW l g M R Z QQ (pc + 3) ls st h1 k n) (hR : d + 1 ≤ R.frames ∧ 38 * d + 38 ≤ R.locals) (hst : (st.map Value.category).sum ≤ 8) (hf : k ≤ R.cells ∧ n ≤ R.slots) : WW l g M R Z QQ pc ls (.ref q :: st) h k n := zw_callI [] hd hm hk hR hf hst hrun (fun v h2 ⟨e1, e2⟩ => by subst e1; subst e2; exact kk)
theorem zg_I0 {mc ms : Nat} (hd : decode M.2.1 pc = .ok (.invokespecial idx, 3)) (hm : zmI M' 0) (hk : zlk M.1.cls idx M'.1) (hrun : Run l g M' d mc ms [.ref q] h post) (hR : d + 1 ≤ R.frames ∧ 38 * d + 38 ≤ R.locals) (hst : (st.map Value.category).sum ≤ 8) (hf : k + mc ≤ R.cells ∧ n + ms ≤ R.slots) (kk : ∀ v h', post v h' → WW l g M R Z QQ (pc + 3) ls (v.toList ++ st) h' (k + mc) (n + ms)) : WW l g M R Z QQ pc ls (.ref q :: st) h k n := zw_callI [] hd hm hk hR hf hst hrun kk
theorem zc_I1V {a1 : Value} (hd : decode M.2.1 pc = .ok (.invokespecial idx, 3)) (hm : zmI M' 1) (hk : zlk M.1.cls idx M'.1) (hrun : Run l g M' d 0 0 [.ref q, a1] h (PV h1)) (kk : WW l g M R Z QQ (pc + 3) ls st h1 k n) (hR : d + 1 ≤ R.frames ∧ 38 * d + 38 ≤ R.locals) (hst : (st.map Value.category).sum ≤ 8) (hf : k ≤ R.cells ∧ n ≤ R.slots) : WW l g M R Z QQ pc ls (a1 :: .ref q :: st) h k n := zw_callI [a1] hd hm hk hR hf hst hrun (fun v h2 ⟨e1, e2⟩ => by subst e1; subst e2; exact kk)
theorem zg_I1 {a1 : Value} {mc ms : Nat} (hd : decode M.2.1 pc = .ok (.invokespecial idx, 3)) (hm : zmI M' 1) (hk : zlk M.1.cls idx M'.1) (hrun : Run l g M' d mc ms [.ref q, a1] h post) (hR : d + 1 ≤ R.frames ∧ 38 * d + 38 ≤ R.locals) (hst : (st.map Value.category).sum ≤ 8) (hf : k + mc ≤ R.cells ∧ n + ms ≤ R.slots) (kk : ∀ v h', post v h' → WW l g M R Z QQ (pc + 3) ls (v.toList ++ st) h' (k + mc) (n + ms)) : WW l g M R Z QQ pc ls (a1 :: .ref q :: st) h k n := zw_callI [a1] hd hm hk hR hf hst hrun kk
theorem zc_I2V {a1 a2 : Value} (hd : decode M.2.1 pc = .ok (.invokespecial idx, 3)) (hm : zmI M' 2) (hk : zlk M.1.cls idx M'.1) (hrun : Run l g M' d 0 0 [.ref q, a1, a2] h (PV h1)) (kk : WW l g M R Z QQ (pc + 3) ls st h1 k n) (hR : d + 1 ≤ R.frames ∧ 38 * d + 38 ≤ R.locals) (hst : (st.map Value.category).sum ≤ 8) (hf : k ≤ R.cells ∧ n ≤ R.slots) : WW l g M R Z QQ pc ls (a2 :: a1 :: .ref q :: st) h k n := zw_callI [a1, a2] hd hm hk hR hf hst hrun (fun v h2 ⟨e1, e2⟩ => by subst e1; subst e2; exact kk)
theorem zg_I2 {a1 a2 : Value} {mc ms : Nat} (hd : decode M.2.1 pc = .ok (.invokespecial idx, 3)) (hm : zmI M' 2) (hk : zlk M.1.cls idx M'.1) (hrun : Run l g M' d mc ms [.ref q, a1, a2] h post) (hR : d + 1 ≤ R.frames ∧ 38 * d + 38 ≤ R.locals) (hst : (st.map Value.category).sum ≤ 8) (hf : k + mc ≤ R.cells ∧ n + ms ≤ R.slots) (kk : ∀ v h', post v h' → WW l g M R Z QQ (pc + 3) ls (v.toList ++ st) h' (k + mc) (n + ms)) : WW l g M R Z QQ pc ls (a2 :: a1 :: .ref q :: st) h k n := zw_callI [a1, a2] hd hm hk hR hf hst hrun kk
theorem zc_I3V {a1 a2 a3 : Value} (hd : decode M.2.1 pc = .ok (.invokespecial idx, 3)) (hm : zmI M' 3) (hk : zlk M.1.cls idx M'.1) (hrun : Run l g M' d 0 0 [.ref q, a1, a2, a3] h (PV h1)) (kk : WW l g M R Z QQ (pc + 3) ls st h1 k n) (hR : d + 1 ≤ R.frames ∧ 38 * d + 38 ≤ R.locals) (hst : (st.map Value.category).sum ≤ 8) (hf : k ≤ R.cells ∧ n ≤ R.slots) : WW l g M R Z QQ pc ls (a3 :: a2 :: a1 :: .ref q :: st) h k n := zw_callI [a1, a2, a3] hd hm hk hR hf hst hrun (fun v h2 ⟨e1, e2⟩ => by subst e1; subst e2; exact kk)
theorem zg_I3 {a1 a2 a3 : Value} {mc ms : Nat} (hd : decode M.2.1 pc = .ok (.invokespecial idx, 3)) (hm : zmI M' 3) (hk : zlk M.1.cls idx M'.1) (hrun : Run l g M' d mc ms [.ref q, a1, a2, a3] h post) (hR : d + 1 ≤ R.frames ∧ 38 * d + 38 ≤ R.locals) (hst : (st.map Value.category).sum ≤ 8) (hf : k + mc ≤ R.cells ∧ n + ms ≤ R.slots) (kk : ∀ v h', post v h' → WW l g M R Z QQ (pc + 3) ls (v.toList ++ st) h' (k + mc) (n + ms)) : WW l g M R Z QQ pc ls (a3 :: a2 :: a1 :: .ref q :: st) h k n := zw_callI [a1, a2, a3] hd hm hk hR hf hst hrun kk
end ZF
end
section
theorem zmd_mk {M : zM} {n : Nat} (i1 i2 : Nat) (h : (tables_1[i1]? = some (.code M.1 M.2.1 M.2.2.1 M.2.2.2) ∧ goodWord (.code M.1 M.2.1 M.2.2.1 M.2.2.2) = true) ∧ (tables_1[i2]? = some (.initialized M.1.cls) ∧ goodWord (.initialized M.1.cls) = true) ∧ (M.1.cls ≠ "java/lang/invoke/MethodHandle" ∧ M.1.cls ≠ "java/lang/invoke/VarHandle" ∧ (parseMethodDescriptor M.1.desc).map (fun d => d.parameters.length) = some n) ∧ M.2.2.1 ≤ 19) : zmd M n :=
  ⟨zgw_p i1 h.1.1 h.1.2, zgw_p i2 h.2.1.1 h.2.1.2, h.2.2.1, h.2.2.2⟩
def mA_init : zM := (⟨"SweptFloors$Album", "<init>", "(LSweptFloors$Ground;)V"⟩, prog_2_method_1_code, 3, none)
theorem zm_A_init : zmI mA_init 1 := ⟨zmd_mk 213 7 (by decide +kernel), zgw_p 212 (by decide +kernel) (by decide +kernel), rfl, rfl⟩
def mA_empty : zM := (⟨"SweptFloors$Album", "empty", "()V"⟩, prog_2_method_2_code, 2, none)
theorem zm_A_empty : zmV mA_empty 0 := ⟨zmd_mk 274 7 (by decide +kernel), zgw_p 273 (by decide +kernel) (by decide +kernel), zgw_s (y := ⟨"SweptFloors$Album", "empty", "()V"⟩) (n := 2) 9 (by decide +kernel) (by decide +kernel)⟩
def mA_putIn : zM := (⟨"SweptFloors$Album", "putIn", "(ILSweptFloors$Situation;)V"⟩, prog_2_method_3_code, 4, none)
theorem zm_A_putIn : zmV mA_putIn 2 := ⟨zmd_mk 583 7 (by decide +kernel), zgw_p 582 (by decide +kernel) (by decide +kernel), zgw_s (y := ⟨"SweptFloors$Album", "putIn", "(ILSweptFloors$Situation;)V"⟩) (n := 2) 45 (by decide +kernel) (by decide +kernel)⟩
def mA_takeOut : zM := (⟨"SweptFloors$Album", "takeOut", "(ILSweptFloors$Situation;)Z"⟩, prog_2_method_4_code, 4, some .boolean)
theorem zm_A_takeOut : zmV mA_takeOut 2 := ⟨zmd_mk 592 7 (by decide +kernel), zgw_p 591 (by decide +kernel) (by decide +kernel), zgw_s (y := ⟨"SweptFloors$Album", "takeOut", "(ILSweptFloors$Situation;)Z"⟩) (n := 2) 46 (by decide +kernel) (by decide +kernel)⟩
def mG_init : zM := (⟨"SweptFloors$Ground", "<init>", "()V"⟩, prog_3_method_1_code, 1, none)
theorem zm_G_init : zmI mG_init 0 := ⟨zmd_mk 62 3 (by decide +kernel), zgw_p 61 (by decide +kernel) (by decide +kernel), rfl, rfl⟩
def mG_layOut : zM := (⟨"SweptFloors$Ground", "layOut", "(LSweptFloors$Text;)V"⟩, prog_3_method_2_code, 3, none)
theorem zm_G_layOut : zmV mG_layOut 1 := ⟨zmd_mk 255 3 (by decide +kernel), zgw_p 254 (by decide +kernel) (by decide +kernel), zgw_s (y := ⟨"SweptFloors$Ground", "layOut", "(LSweptFloors$Text;)V"⟩) (n := 10) 6 (by decide +kernel) (by decide +kernel)⟩
def mG_cellsOfKind : zM := (⟨"SweptFloors$Ground", "cellsOfKind", "(LSweptFloors$Text;I)J"⟩, prog_3_method_3_code, 5, some .long)
theorem zm_G_cellsOfKind : zmS mG_cellsOfKind 2 := ⟨zmd_mk 262 3 (by decide +kernel), zgw_p 261 (by decide +kernel) (by decide +kernel)⟩
def mG_size : zM := (⟨"SweptFloors$Ground", "size", "()I"⟩, prog_3_method_4_code, 1, some .int)
theorem zm_G_size : zmV mG_size 0 := ⟨zmd_mk 259 3 (by decide +kernel), zgw_p 258 (by decide +kernel) (by decide +kernel), zgw_s (y := ⟨"SweptFloors$Ground", "size", "()I"⟩) (n := 10) 7 (by decide +kernel) (by decide +kernel)⟩
def mG_has : zM := (⟨"SweptFloors$Ground", "has", "(I)Z"⟩, prog_3_method_5_code, 2, some .boolean)
theorem zm_G_has : zmV mG_has 1 := ⟨zmd_mk 317 3 (by decide +kernel), zgw_p 316 (by decide +kernel) (by decide +kernel), zgw_s (y := ⟨"SweptFloors$Ground", "has", "(I)Z"⟩) (n := 10) 10 (by decide +kernel) (by decide +kernel)⟩
def mG_beside : zM := (⟨"SweptFloors$Ground", "beside", "(JI)J"⟩, prog_3_method_6_code, 4, some .long)
theorem zm_G_beside : zmV mG_beside 2 := ⟨zmd_mk 365 3 (by decide +kernel), zgw_p 364 (by decide +kernel) (by decide +kernel), zgw_s (y := ⟨"SweptFloors$Ground", "beside", "(JI)J"⟩) (n := 10) 16 (by decide +kernel) (by decide +kernel)⟩
def mG_cellBeside : zM := (⟨"SweptFloors$Ground", "cellBeside", "(II)I"⟩, prog_3_method_7_code, 3, some .int)
theorem zm_G_cellBeside : zmV mG_cellBeside 2 := ⟨zmd_mk 361 3 (by decide +kernel), zgw_p 360 (by decide +kernel) (by decide +kernel), zgw_s (y := ⟨"SweptFloors$Ground", "cellBeside", "(II)I"⟩) (n := 10) 15 (by decide +kernel) (by decide +kernel)⟩
def mG_around : zM := (⟨"SweptFloors$Ground", "around", "(J)J"⟩, prog_3_method_8_code, 3, some .long)
theorem zm_G_around : zmV mG_around 1 := ⟨zmd_mk 481 3 (by decide +kernel), zgw_p 480 (by decide +kernel) (by decide +kernel), zgw_s (y := ⟨"SweptFloors$Ground", "around", "(J)J"⟩) (n := 10) 36 (by decide +kernel) (by decide +kernel)⟩
def mG_within : zM := (⟨"SweptFloors$Ground", "within", "(IIJ)J"⟩, prog_3_method_9_code, 10, some .long)
theorem zm_G_within : zmV mG_within 3 := ⟨zmd_mk 477 3 (by decide +kernel), zgw_p 476 (by decide +kernel) (by decide +kernel), zgw_s (y := ⟨"SweptFloors$Ground", "within", "(IIJ)J"⟩) (n := 10) 35 (by decide +kernel) (by decide +kernel)⟩
def mG_stepsBetween : zM := (⟨"SweptFloors$Ground", "stepsBetween", "(IIJ)I"⟩, prog_3_method_10_code, 12, some .int)
theorem zm_G_stepsBetween : zmV mG_stepsBetween 3 := ⟨zmd_mk 491 3 (by decide +kernel), zgw_p 490 (by decide +kernel) (by decide +kernel), zgw_s (y := ⟨"SweptFloors$Ground", "stepsBetween", "(IIJ)I"⟩) (n := 10) 38 (by decide +kernel) (by decide +kernel)⟩
def mG_mostSteps : zM := (⟨"SweptFloors$Ground", "mostSteps", "(IJ)I"⟩, prog_3_method_11_code, 9, some .int)
theorem zm_G_mostSteps : zmV mG_mostSteps 2 := ⟨zmd_mk 566 3 (by decide +kernel), zgw_p 565 (by decide +kernel) (by decide +kernel), zgw_s (y := ⟨"SweptFloors$Ground", "mostSteps", "(IJ)I"⟩) (n := 10) 43 (by decide +kernel) (by decide +kernel)⟩
def mH_init : zM := (⟨"SweptFloors$History", "<init>", "(LSweptFloors$Ground;)V"⟩, prog_4_method_1_code, 3, none)
theorem zm_H_init : zmI mH_init 1 := ⟨zmd_mk 193 6 (by decide +kernel), zgw_p 192 (by decide +kernel) (by decide +kernel), rfl, rfl⟩
def mH_remember : zM := (⟨"SweptFloors$History", "remember", "(LSweptFloors$Situation;)V"⟩, prog_4_method_2_code, 3, none)
theorem zm_H_remember : zmV mH_remember 1 := ⟨zmd_mk 333 6 (by decide +kernel), zgw_p 332 (by decide +kernel) (by decide +kernel), zgw_s (y := ⟨"SweptFloors$History", "remember", "(LSweptFloors$Situation;)V"⟩) (n := 3) 12 (by decide +kernel) (by decide +kernel)⟩
def mH_bringBack : zM := (⟨"SweptFloors$History", "bringBack", "(LSweptFloors$Situation;)Z"⟩, prog_4_method_3_code, 3, some .boolean)
theorem zm_H_bringBack : zmV mH_bringBack 1 := ⟨zmd_mk 508 6 (by decide +kernel), zgw_p 507 (by decide +kernel) (by decide +kernel), zgw_s (y := ⟨"SweptFloors$History", "bringBack", "(LSweptFloors$Situation;)Z"⟩) (n := 3) 39 (by decide +kernel) (by decide +kernel)⟩
def mP_init : zM := (⟨"SweptFloors$Pilot", "<init>", "()V"⟩, prog_5_method_1_code, 1, none)
theorem zm_P_init : zmI mP_init 0 := ⟨zmd_mk 170 5 (by decide +kernel), zgw_p 169 (by decide +kernel) (by decide +kernel), rfl, rfl⟩
def mP_act : zM := (⟨"SweptFloors$Pilot", "act", "(LSweptFloors$Situation;)I"⟩, prog_5_method_2_code, 3, some .int)
theorem zm_P_act : zmV mP_act 1 := ⟨zmd_mk 462 5 (by decide +kernel), zgw_p 461 (by decide +kernel) (by decide +kernel), zgw_s (y := ⟨"SweptFloors$Pilot", "act", "(LSweptFloors$Situation;)I"⟩) (n := 4) 32 (by decide +kernel) (by decide +kernel)⟩
def mP_isThrough : zM := (⟨"SweptFloors$Pilot", "isThrough", "(LSweptFloors$Situation;)Z"⟩, prog_5_method_3_code, 2, some .boolean)
theorem zm_P_isThrough : zmV mP_isThrough 1 := ⟨zmd_mk 575 5 (by decide +kernel), zgw_p 574 (by decide +kernel) (by decide +kernel), zgw_s (y := ⟨"SweptFloors$Pilot", "isThrough", "(LSweptFloors$Situation;)Z"⟩) (n := 4) 44 (by decide +kernel) (by decide +kernel)⟩
def mP_nextHand : zM := (⟨"SweptFloors$Pilot", "nextHand", "(LSweptFloors$Situation;)I"⟩, prog_5_method_4_code, 2, some .int)
theorem zm_P_nextHand : zmV mP_nextHand 1 := ⟨zmd_mk 467 5 (by decide +kernel), zgw_p 466 (by decide +kernel) (by decide +kernel), zgw_s (y := ⟨"SweptFloors$Pilot", "nextHand", "(LSweptFloors$Situation;)I"⟩) (n := 4) 33 (by decide +kernel) (by decide +kernel)⟩
def mP_handOnto : zM := (⟨"SweptFloors$Pilot", "handOnto", "(LSweptFloors$Situation;I)I"⟩, prog_5_method_5_code, 3, some .int)
theorem zm_P_handOnto : zmS mP_handOnto 2 := ⟨zmd_mk 494 5 (by decide +kernel), zgw_p 493 (by decide +kernel) (by decide +kernel)⟩
def mP_handNearer : zM := (⟨"SweptFloors$Pilot", "handNearer", "(LSweptFloors$Situation;I)I"⟩, prog_5_method_6_code, 5, some .int)
theorem zm_P_handNearer : zmS mP_handNearer 2 := ⟨zmd_mk 498 5 (by decide +kernel), zgw_p 497 (by decide +kernel) (by decide +kernel)⟩
def mP_findsTarget : zM := (⟨"SweptFloors$Pilot", "findsTarget", "(LSweptFloors$Situation;)Z"⟩, prog_5_method_7_code, 15, some .boolean)
theorem zm_P_findsTarget : zmV mP_findsTarget 1 := ⟨zmd_mk 471 5 (by decide +kernel), zgw_p 470 (by decide +kernel) (by decide +kernel), zgw_s (y := ⟨"SweptFloors$Pilot", "findsTarget", "(LSweptFloors$Situation;)Z"⟩) (n := 4) 34 (by decide +kernel) (by decide +kernel)⟩
def mS_init : zM := (⟨"SweptFloors$Situation", "<init>", "(LSweptFloors$Ground;)V"⟩, prog_6_method_1_code, 2, none)
theorem zm_S_init : zmI mS_init 1 := ⟨zmd_mk 113 4 (by decide +kernel), zgw_p 112 (by decide +kernel) (by decide +kernel), rfl, rfl⟩
def mS_begin : zM := (⟨"SweptFloors$Situation", "begin", "()V"⟩, prog_6_method_2_code, 1, none)
theorem zm_S_begin : zmV mS_begin 0 := ⟨zmd_mk 269 4 (by decide +kernel), zgw_p 268 (by decide +kernel) (by decide +kernel), zgw_s (y := ⟨"SweptFloors$Situation", "begin", "()V"⟩) (n := 11) 8 (by decide +kernel) (by decide +kernel)⟩
def mS_copyFrom : zM := (⟨"SweptFloors$Situation", "copyFrom", "(LSweptFloors$Situation;)V"⟩, prog_6_method_3_code, 2, none)
theorem zm_S_copyFrom : zmV mS_copyFrom 1 := ⟨zmd_mk 337 4 (by decide +kernel), zgw_p 336 (by decide +kernel) (by decide +kernel), zgw_s (y := ⟨"SweptFloors$Situation", "copyFrom", "(LSweptFloors$Situation;)V"⟩) (n := 11) 13 (by decide +kernel) (by decide +kernel)⟩
def mS_freeCells : zM := (⟨"SweptFloors$Situation", "freeCells", "()J"⟩, prog_6_method_4_code, 1, some .long)
theorem zm_S_freeCells : zmV mS_freeCells 0 := ⟨zmd_mk 383 4 (by decide +kernel), zgw_p 382 (by decide +kernel) (by decide +kernel), zgw_s (y := ⟨"SweptFloors$Situation", "freeCells", "()J"⟩) (n := 11) 18 (by decide +kernel) (by decide +kernel)⟩
def mS_kindOf : zM := (⟨"SweptFloors$Situation", "kindOf", "(I)I"⟩, prog_6_method_5_code, 2, some .int)
theorem zm_S_kindOf : zmV mS_kindOf 1 := ⟨zmd_mk 321 4 (by decide +kernel), zgw_p 320 (by decide +kernel) (by decide +kernel), zgw_s (y := ⟨"SweptFloors$Situation", "kindOf", "(I)I"⟩) (n := 11) 11 (by decide +kernel) (by decide +kernel)⟩
def mS_knowledgeOf : zM := (⟨"SweptFloors$Situation", "knowledgeOf", "(I)I"⟩, prog_6_method_6_code, 2, some .int)
theorem zm_S_knowledgeOf : zmV mS_knowledgeOf 1 := ⟨zmd_mk 520 4 (by decide +kernel), zgw_p 519 (by decide +kernel) (by decide +kernel), zgw_s (y := ⟨"SweptFloors$Situation", "knowledgeOf", "(I)I"⟩) (n := 11) 40 (by decide +kernel) (by decide +kernel)⟩
def mS_homeOf : zM := (⟨"SweptFloors$Situation", "homeOf", "(I)I"⟩, prog_6_method_7_code, 2, some .int)
theorem zm_S_homeOf : zmV mS_homeOf 1 := ⟨zmd_mk 487 4 (by decide +kernel), zgw_p 486 (by decide +kernel) (by decide +kernel), zgw_s (y := ⟨"SweptFloors$Situation", "homeOf", "(I)I"⟩) (n := 11) 37 (by decide +kernel) (by decide +kernel)⟩
def mS_stepTo : zM := (⟨"SweptFloors$Situation", "stepTo", "(I)I"⟩, prog_6_method_8_code, 4, some .int)
theorem zm_S_stepTo : zmV mS_stepTo 1 := ⟨zmd_mk 357 4 (by decide +kernel), zgw_p 356 (by decide +kernel) (by decide +kernel), zgw_s (y := ⟨"SweptFloors$Situation", "stepTo", "(I)I"⟩) (n := 11) 14 (by decide +kernel) (by decide +kernel)⟩
def mS_outcomeAt : zM := (⟨"SweptFloors$Situation", "outcomeAt", "(I)I"⟩, prog_6_method_9_code, 2, some .int)
theorem zm_S_outcomeAt : zmV mS_outcomeAt 1 := ⟨zmd_mk 379 4 (by decide +kernel), zgw_p 378 (by decide +kernel) (by decide +kernel), zgw_s (y := ⟨"SweptFloors$Situation", "outcomeAt", "(I)I"⟩) (n := 11) 17 (by decide +kernel) (by decide +kernel)⟩
def mS_learn : zM := (⟨"SweptFloors$Situation", "learn", "(II)V"⟩, prog_6_method_10_code, 3, none)
theorem zm_S_learn : zmV mS_learn 2 := ⟨zmd_mk 421 4 (by decide +kernel), zgw_p 420 (by decide +kernel) (by decide +kernel), zgw_s (y := ⟨"SweptFloors$Situation", "learn", "(II)V"⟩) (n := 11) 26 (by decide +kernel) (by decide +kernel)⟩
def mS_turn : zM := (⟨"SweptFloors$Situation", "turn", "(I)V"⟩, prog_6_method_11_code, 3, none)
theorem zm_S_turn : zmV mS_turn 1 := ⟨zmd_mk 429 4 (by decide +kernel), zgw_p 428 (by decide +kernel) (by decide +kernel), zgw_s (y := ⟨"SweptFloors$Situation", "turn", "(I)V"⟩) (n := 11) 27 (by decide +kernel) (by decide +kernel)⟩
def mS_scanAround : zM := (⟨"SweptFloors$Situation", "scanAround", "()I"⟩, prog_6_method_12_code, 4, some .int)
theorem zm_S_scanAround : zmV mS_scanAround 0 := ⟨zmd_mk 441 4 (by decide +kernel), zgw_p 440 (by decide +kernel) (by decide +kernel), zgw_s (y := ⟨"SweptFloors$Situation", "scanAround", "()I"⟩) (n := 11) 29 (by decide +kernel) (by decide +kernel)⟩
def mS_seenAt : zM := (⟨"SweptFloors$Situation", "seenAt", "(I)I"⟩, prog_6_method_13_code, 2, some .int)
theorem zm_S_seenAt : zmV mS_seenAt 1 := ⟨zmd_mk 445 4 (by decide +kernel), zgw_p 444 (by decide +kernel) (by decide +kernel), zgw_s (y := ⟨"SweptFloors$Situation", "seenAt", "(I)I"⟩) (n := 11) 30 (by decide +kernel) (by decide +kernel)⟩
def mS_carryTo : zM := (⟨"SweptFloors$Situation", "carryTo", "(II)I"⟩, prog_6_method_14_code, 4, some .int)
theorem zm_S_carryTo : zmV mS_carryTo 2 := ⟨zmd_mk 454 4 (by decide +kernel), zgw_p 453 (by decide +kernel) (by decide +kernel), zgw_s (y := ⟨"SweptFloors$Situation", "carryTo", "(II)I"⟩) (n := 11) 31 (by decide +kernel) (by decide +kernel)⟩
def mS_sortOutBy : zM := (⟨"SweptFloors$Situation", "sortOutBy", "(I)V"⟩, prog_6_method_15_code, 2, none)
theorem zm_S_sortOutBy : zmV mS_sortOutBy 1 := ⟨zmd_mk 388 4 (by decide +kernel), zgw_p 387 (by decide +kernel) (by decide +kernel), zgw_s (y := ⟨"SweptFloors$Situation", "sortOutBy", "(I)V"⟩) (n := 11) 19 (by decide +kernel) (by decide +kernel)⟩
def mS_keepPlacesThatSee : zM := (⟨"SweptFloors$Situation", "keepPlacesThatSee", "(II)V"⟩, prog_6_method_16_code, 4, none)
theorem zm_S_keepPlacesThatSee : zmV mS_keepPlacesThatSee 2 := ⟨zmd_mk 392 4 (by decide +kernel), zgw_p 391 (by decide +kernel) (by decide +kernel), zgw_s (y := ⟨"SweptFloors$Situation", "keepPlacesThatSee", "(II)V"⟩) (n := 11) 20 (by decide +kernel) (by decide +kernel)⟩
def mS_movePlacesAhead : zM := (⟨"SweptFloors$Situation", "movePlacesAhead", "()V"⟩, prog_6_method_17_code, 2, none)
theorem zm_S_movePlacesAhead : zmV mS_movePlacesAhead 0 := ⟨zmd_mk 408 4 (by decide +kernel), zgw_p 407 (by decide +kernel) (by decide +kernel), zgw_s (y := ⟨"SweptFloors$Situation", "movePlacesAhead", "()V"⟩) (n := 11) 23 (by decide +kernel) (by decide +kernel)⟩
def mS_turnPlaces : zM := (⟨"SweptFloors$Situation", "turnPlaces", "()V"⟩, prog_6_method_18_code, 3, none)
theorem zm_S_turnPlaces : zmV mS_turnPlaces 0 := ⟨zmd_mk 433 4 (by decide +kernel), zgw_p 432 (by decide +kernel) (by decide +kernel), zgw_s (y := ⟨"SweptFloors$Situation", "turnPlaces", "()V"⟩) (n := 11) 28 (by decide +kernel) (by decide +kernel)⟩
def mS_beFoundIfSure : zM := (⟨"SweptFloors$Situation", "beFoundIfSure", "()V"⟩, prog_6_method_19_code, 1, none)
theorem zm_S_beFoundIfSure : zmV mS_beFoundIfSure 0 := ⟨zmd_mk 412 4 (by decide +kernel), zgw_p 411 (by decide +kernel) (by decide +kernel), zgw_s (y := ⟨"SweptFloors$Situation", "beFoundIfSure", "()V"⟩) (n := 11) 24 (by decide +kernel) (by decide +kernel)⟩
def mS_cellsThatMaySee : zM := (⟨"SweptFloors$Situation", "cellsThatMaySee", "(II)J"⟩, prog_6_method_20_code, 6, some .long)
theorem zm_S_cellsThatMaySee : zmV mS_cellsThatMaySee 2 := ⟨zmd_mk 399 4 (by decide +kernel), zgw_p 398 (by decide +kernel) (by decide +kernel), zgw_s (y := ⟨"SweptFloors$Situation", "cellsThatMaySee", "(II)J"⟩) (n := 11) 21 (by decide +kernel) (by decide +kernel)⟩
def mS_cellsThatMayShow : zM := (⟨"SweptFloors$Situation", "cellsThatMayShow", "(I)J"⟩, prog_6_method_21_code, 4, some .long)
theorem zm_S_cellsThatMayShow : zmV mS_cellsThatMayShow 1 := ⟨zmd_mk 403 4 (by decide +kernel), zgw_p 402 (by decide +kernel) (by decide +kernel), zgw_s (y := ⟨"SweptFloors$Situation", "cellsThatMayShow", "(I)J"⟩) (n := 11) 22 (by decide +kernel) (by decide +kernel)⟩
def mS_placeCount : zM := (⟨"SweptFloors$Situation", "placeCount", "()I"⟩, prog_6_method_22_code, 3, some .int)
theorem zm_S_placeCount : zmV mS_placeCount 0 := ⟨zmd_mk 416 4 (by decide +kernel), zgw_p 415 (by decide +kernel) (by decide +kernel), zgw_s (y := ⟨"SweptFloors$Situation", "placeCount", "()I"⟩) (n := 11) 25 (by decide +kernel) (by decide +kernel)⟩
def mS_placeAt : zM := (⟨"SweptFloors$Situation", "placeAt", "(I)I"⟩, prog_6_method_23_code, 4, some .int)
theorem zm_S_placeAt : zmV mS_placeAt 1 := ⟨zmd_mk 539 4 (by decide +kernel), zgw_p 538 (by decide +kernel) (by decide +kernel), zgw_s (y := ⟨"SweptFloors$Situation", "placeAt", "(I)I"⟩) (n := 11) 41 (by decide +kernel) (by decide +kernel)⟩
def mT_init : zM := (⟨"SweptFloors$Text", "<init>", "()V"⟩, prog_7_method_1_code, 1, none)
theorem zm_T_init : zmI mT_init 0 := ⟨zmd_mk 24 2 (by decide +kernel), zgw_p 23 (by decide +kernel) (by decide +kernel), rfl, rfl⟩
def mT_add : zM := (⟨"SweptFloors$Text", "add", "(I)Z"⟩, prog_7_method_2_code, 2, some .boolean)
theorem zm_T_add : zmV mT_add 1 := ⟨zmd_mk 228 2 (by decide +kernel), zgw_p 227 (by decide +kernel) (by decide +kernel), zgw_s (y := ⟨"SweptFloors$Text", "add", "(I)Z"⟩) (n := 8) 0 (by decide +kernel) (by decide +kernel)⟩
def mT_findFault : zM := (⟨"SweptFloors$Text", "findFault", "()I"⟩, prog_7_method_3_code, 2, some .int)
theorem zm_T_findFault : zmV mT_findFault 0 := ⟨zmd_mk 236 2 (by decide +kernel), zgw_p 235 (by decide +kernel) (by decide +kernel), zgw_s (y := ⟨"SweptFloors$Text", "findFault", "()I"⟩) (n := 8) 2 (by decide +kernel) (by decide +kernel)⟩
def mT_takes : zM := (⟨"SweptFloors$Text", "takes", "(I)Z"⟩, prog_7_method_4_code, 2, some .boolean)
theorem zm_T_takes : zmV mT_takes 1 := ⟨zmd_mk 240 2 (by decide +kernel), zgw_p 239 (by decide +kernel) (by decide +kernel), zgw_s (y := ⟨"SweptFloors$Text", "takes", "(I)Z"⟩) (n := 8) 3 (by decide +kernel) (by decide +kernel)⟩
def mT_endsRow : zM := (⟨"SweptFloors$Text", "endsRow", "()Z"⟩, prog_7_method_5_code, 1, some .boolean)
theorem zm_T_endsRow : zmV mT_endsRow 0 := ⟨zmd_mk 244 2 (by decide +kernel), zgw_p 243 (by decide +kernel) (by decide +kernel), zgw_s (y := ⟨"SweptFloors$Text", "endsRow", "()Z"⟩) (n := 8) 4 (by decide +kernel) (by decide +kernel)⟩
def mT_takesSign : zM := (⟨"SweptFloors$Text", "takesSign", "(I)Z"⟩, prog_7_method_6_code, 3, some .boolean)
theorem zm_T_takesSign : zmV mT_takesSign 1 := ⟨zmd_mk 251 2 (by decide +kernel), zgw_p 250 (by decide +kernel) (by decide +kernel), zgw_s (y := ⟨"SweptFloors$Text", "takesSign", "(I)Z"⟩) (n := 8) 5 (by decide +kernel) (by decide +kernel)⟩
def mT_kindOfSign : zM := (⟨"SweptFloors$Text", "kindOfSign", "(I)I"⟩, prog_7_method_7_code, 1, some .int)
theorem zm_T_kindOfSign : zmS mT_kindOfSign 1 := ⟨zmd_mk 247 2 (by decide +kernel), zgw_p 246 (by decide +kernel) (by decide +kernel)⟩
def mF_init : zM := (⟨"SweptFloors", "<init>", "()V"⟩, prog_1_method_1_code, 1, none)
theorem zm_F_init : zmI mF_init 0 := ⟨zmd_mk 16 1 (by decide +kernel), zgw_p 15 (by decide +kernel) (by decide +kernel), rfl, rfl⟩
def mF_type : zM := (⟨"SweptFloors", "type", "(I)I"⟩, prog_1_method_2_code, 2, some .int)
theorem zm_F_type : zmV mF_type 1 := ⟨zmd_mk 300 1 (by decide +kernel), zgw_p 298 (by decide +kernel) (by decide +kernel), zgw_p 299 (by decide +kernel) (by decide +kernel)⟩
def mF_clear : zM := (⟨"SweptFloors", "clear", "()I"⟩, prog_1_method_3_code, 2, some .int)
theorem zm_F_clear : zmV mF_clear 0 := ⟨zmd_mk 304 1 (by decide +kernel), zgw_p 302 (by decide +kernel) (by decide +kernel), zgw_p 303 (by decide +kernel) (by decide +kernel)⟩
def mF_floor : zM := (⟨"SweptFloors", "floor", "()I"⟩, prog_1_method_4_code, 2, some .int)
theorem zm_F_floor : zmV mF_floor 0 := ⟨zmd_mk 308 1 (by decide +kernel), zgw_p 306 (by decide +kernel) (by decide +kernel), zgw_p 307 (by decide +kernel) (by decide +kernel)⟩
def mF_cell : zM := (⟨"SweptFloors", "cell", "(I)I"⟩, prog_1_method_5_code, 2, some .int)
theorem zm_F_cell : zmV mF_cell 1 := ⟨zmd_mk 313 1 (by decide +kernel), zgw_p 311 (by decide +kernel) (by decide +kernel), zgw_p 312 (by decide +kernel) (by decide +kernel)⟩
def mF_powers : zM := (⟨"SweptFloors", "powers", "(II)I"⟩, prog_1_method_6_code, 3, some .int)
theorem zm_F_powers : zmV mF_powers 2 := ⟨zmd_mk 329 1 (by decide +kernel), zgw_p 327 (by decide +kernel) (by decide +kernel), zgw_p 328 (by decide +kernel) (by decide +kernel)⟩
def mF_moves : zM := (⟨"SweptFloors", "moves", "(I)I"⟩, prog_1_method_7_code, 2, some .int)
theorem zm_F_moves : zmV mF_moves 1 := ⟨zmd_mk 348 1 (by decide +kernel), zgw_p 346 (by decide +kernel) (by decide +kernel), zgw_p 347 (by decide +kernel) (by decide +kernel)⟩
def mF_steps : zM := (⟨"SweptFloors", "steps", "()I"⟩, prog_1_method_8_code, 1, some .int)
theorem zm_F_steps : zmV mF_steps 0 := ⟨zmd_mk 353 1 (by decide +kernel), zgw_p 351 (by decide +kernel) (by decide +kernel), zgw_p 352 (by decide +kernel) (by decide +kernel)⟩
def mF_rotates : zM := (⟨"SweptFloors", "rotates", "(I)I"⟩, prog_1_method_9_code, 2, some .int)
theorem zm_F_rotates : zmV mF_rotates 1 := ⟨zmd_mk 425 1 (by decide +kernel), zgw_p 423 (by decide +kernel) (by decide +kernel), zgw_p 424 (by decide +kernel) (by decide +kernel)⟩
def mF_scans : zM := (⟨"SweptFloors", "scans", "()I"⟩, prog_1_method_10_code, 1, some .int)
theorem zm_F_scans : zmV mF_scans 0 := ⟨zmd_mk 437 1 (by decide +kernel), zgw_p 435 (by decide +kernel) (by decide +kernel), zgw_p 436 (by decide +kernel) (by decide +kernel)⟩
def mF_carries : zM := (⟨"SweptFloors", "carries", "(II)I"⟩, prog_1_method_11_code, 3, some .int)
theorem zm_F_carries : zmV mF_carries 2 := ⟨zmd_mk 449 1 (by decide +kernel), zgw_p 447 (by decide +kernel) (by decide +kernel), zgw_p 448 (by decide +kernel) (by decide +kernel)⟩
def mF_goes : zM := (⟨"SweptFloors", "goes", "(I)I"⟩, prog_1_method_12_code, 5, some .int)
theorem zm_F_goes : zmV mF_goes 1 := ⟨zmd_mk 458 1 (by decide +kernel), zgw_p 456 (by decide +kernel) (by decide +kernel), zgw_p 457 (by decide +kernel) (by decide +kernel)⟩
def mF_undo : zM := (⟨"SweptFloors", "undo", "()I"⟩, prog_1_method_13_code, 1, some .int)
theorem zm_F_undo : zmV mF_undo 0 := ⟨zmd_mk 504 1 (by decide +kernel), zgw_p 502 (by decide +kernel) (by decide +kernel), zgw_p 503 (by decide +kernel) (by decide +kernel)⟩
def mF_robot : zM := (⟨"SweptFloors", "robot", "(I)I"⟩, prog_1_method_14_code, 2, some .int)
theorem zm_F_robot : zmV mF_robot 1 := ⟨zmd_mk 512 1 (by decide +kernel), zgw_p 510 (by decide +kernel) (by decide +kernel), zgw_p 511 (by decide +kernel) (by decide +kernel)⟩
def mF_knows : zM := (⟨"SweptFloors", "knows", "(I)I"⟩, prog_1_method_15_code, 2, some .int)
theorem zm_F_knows : zmV mF_knows 1 := ⟨zmd_mk 516 1 (by decide +kernel), zgw_p 514 (by decide +kernel) (by decide +kernel), zgw_p 515 (by decide +kernel) (by decide +kernel)⟩
def mF_home : zM := (⟨"SweptFloors", "home", "(I)I"⟩, prog_1_method_16_code, 2, some .int)
theorem zm_F_home : zmV mF_home 1 := ⟨zmd_mk 524 1 (by decide +kernel), zgw_p 522 (by decide +kernel) (by decide +kernel), zgw_p 523 (by decide +kernel) (by decide +kernel)⟩
def mF_target : zM := (⟨"SweptFloors", "target", "(I)I"⟩, prog_1_method_17_code, 2, some .int)
theorem zm_F_target : zmV mF_target 1 := ⟨zmd_mk 529 1 (by decide +kernel), zgw_p 527 (by decide +kernel) (by decide +kernel), zgw_p 528 (by decide +kernel) (by decide +kernel)⟩
def mF_place : zM := (⟨"SweptFloors", "place", "(I)I"⟩, prog_1_method_18_code, 2, some .int)
theorem zm_F_place : zmV mF_place 1 := ⟨zmd_mk 534 1 (by decide +kernel), zgw_p 532 (by decide +kernel) (by decide +kernel), zgw_p 533 (by decide +kernel) (by decide +kernel)⟩
def mF_lane : zM := (⟨"SweptFloors", "lane", "(II)I"⟩, prog_1_method_19_code, 8, some .int)
theorem zm_F_lane : zmV mF_lane 2 := ⟨zmd_mk 543 1 (by decide +kernel), zgw_p 541 (by decide +kernel) (by decide +kernel), zgw_p 542 (by decide +kernel) (by decide +kernel)⟩
def mF_room : zM := (⟨"SweptFloors", "room", "(I)I"⟩, prog_1_method_20_code, 8, some .int)
theorem zm_F_room : zmV mF_room 1 := ⟨zmd_mk 557 1 (by decide +kernel), zgw_p 555 (by decide +kernel) (by decide +kernel), zgw_p 556 (by decide +kernel) (by decide +kernel)⟩
def mF_reach : zM := (⟨"SweptFloors", "reach", "(I)I"⟩, prog_1_method_21_code, 4, some .int)
theorem zm_F_reach : zmV mF_reach 1 := ⟨zmd_mk 562 1 (by decide +kernel), zgw_p 560 (by decide +kernel) (by decide +kernel), zgw_p 561 (by decide +kernel) (by decide +kernel)⟩
def mF_when : zM := (⟨"SweptFloors", "when", "()I"⟩, prog_1_method_22_code, 2, some .int)
theorem zm_F_when : zmV mF_when 0 := ⟨zmd_mk 570 1 (by decide +kernel), zgw_p 568 (by decide +kernel) (by decide +kernel), zgw_p 569 (by decide +kernel) (by decide +kernel)⟩
def mF_keep : zM := (⟨"SweptFloors", "keep", "(I)I"⟩, prog_1_method_23_code, 2, some .int)
theorem zm_F_keep : zmV mF_keep 1 := ⟨zmd_mk 579 1 (by decide +kernel), zgw_p 577 (by decide +kernel) (by decide +kernel), zgw_p 578 (by decide +kernel) (by decide +kernel)⟩
def mF_back : zM := (⟨"SweptFloors", "back", "(I)I"⟩, prog_1_method_24_code, 2, some .int)
theorem zm_F_back : zmV mF_back 1 := ⟨zmd_mk 588 1 (by decide +kernel), zgw_p 586 (by decide +kernel) (by decide +kernel), zgw_p 587 (by decide +kernel) (by decide +kernel)⟩
def mF_count : zM := (⟨"SweptFloors", "count", "(I)I"⟩, prog_1_method_25_code, 2, some .int)
theorem zm_F_count : zmV mF_count 1 := ⟨zmd_mk 596 1 (by decide +kernel), zgw_p 594 (by decide +kernel) (by decide +kernel), zgw_p 595 (by decide +kernel) (by decide +kernel)⟩
def mF_readText : zM := (⟨"SweptFloors", "readText", "()I"⟩, prog_1_method_26_code, 2, some .int)
theorem zm_F_readText : zmV mF_readText 0 := ⟨zmd_mk 232 1 (by decide +kernel), zgw_p 231 (by decide +kernel) (by decide +kernel), zgw_s (y := ⟨"SweptFloors", "readText", "()I"⟩) (n := 7) 1 (by decide +kernel) (by decide +kernel)⟩
def mF_laneLength : zM := (⟨"SweptFloors", "laneLength", "(IJ)I"⟩, prog_1_method_27_code, 8, some .int)
theorem zm_F_laneLength : zmV mF_laneLength 2 := ⟨zmd_mk 553 1 (by decide +kernel), zgw_p 552 (by decide +kernel) (by decide +kernel), zgw_s (y := ⟨"SweptFloors", "laneLength", "(IJ)I"⟩) (n := 7) 42 (by decide +kernel) (by decide +kernel)⟩
def mF_only : zM := (⟨"SweptFloors", "only", "(I)J"⟩, prog_1_method_28_code, 1, some .long)
theorem zm_F_only : zmS mF_only 1 := ⟨zmd_mk 265 1 (by decide +kernel), zgw_p 264 (by decide +kernel) (by decide +kernel)⟩
def mF_holds : zM := (⟨"SweptFloors", "holds", "(JI)Z"⟩, prog_1_method_29_code, 3, some .boolean)
theorem zm_F_holds : zmS mF_holds 2 := ⟨zmd_mk 324 1 (by decide +kernel), zgw_p 323 (by decide +kernel) (by decide +kernel)⟩
def mF_lowestOf : zM := (⟨"SweptFloors", "lowestOf", "(J)I"⟩, prog_1_method_30_code, 2, some .int)
theorem zm_F_lowestOf : zmS mF_lowestOf 1 := ⟨zmd_mk 369 1 (by decide +kernel), zgw_p 368 (by decide +kernel) (by decide +kernel)⟩
def mF_memberAt : zM := (⟨"SweptFloors", "memberAt", "(JI)I"⟩, prog_1_method_31_code, 6, some .int)
theorem zm_F_memberAt : zmS mF_memberAt 2 := ⟨zmd_mk 548 1 (by decide +kernel), zgw_p 547 (by decide +kernel) (by decide +kernel)⟩
def mF_turned : zM := (⟨"SweptFloors", "turned", "(II)I"⟩, prog_1_method_32_code, 2, some .int)
theorem zm_F_turned : zmS mF_turned 2 := ⟨zmd_mk 395 1 (by decide +kernel), zgw_p 394 (by decide +kernel) (by decide +kernel)⟩
def mM_in : zM := (⟨"SweptFloorsModel", "in", "(III)Z"⟩, prog_9_method_1_code, 3, some .boolean)
theorem zm_M_in : zmS mM_in 3 := ⟨zmd_mk 693 8 (by decide +kernel), zgw_p 692 (by decide +kernel) (by decide +kernel)⟩
def mM_init : zM := (⟨"SweptFloorsModel", "<init>", "()V"⟩, prog_9_method_2_code, 1, none)
theorem zm_M_init : zmI mM_init 0 := ⟨zmd_mk 601 8 (by decide +kernel), zgw_p 600 (by decide +kernel) (by decide +kernel), rfl, rfl⟩
def mM_cells : zM := (⟨"SweptFloorsModel", "cells", "()I"⟩, prog_9_method_3_code, 1, some .int)
theorem zm_M_cells : zmV mM_cells 0 := ⟨zmd_mk 610 8 (by decide +kernel), zgw_p 609 (by decide +kernel) (by decide +kernel), zgw_s (y := ⟨"SweptFloorsModel", "cells", "()I"⟩) (n := 25) 48 (by decide +kernel) (by decide +kernel)⟩
def mM_begins : zM := (⟨"SweptFloorsModel", "begins", "()V"⟩, prog_9_method_4_code, 2, none)
theorem zm_M_begins : zmV mM_begins 0 := ⟨zmd_mk 606 8 (by decide +kernel), zgw_p 605 (by decide +kernel) (by decide +kernel), zgw_s (y := ⟨"SweptFloorsModel", "begins", "()V"⟩) (n := 25) 47 (by decide +kernel) (by decide +kernel)⟩
def mM_type : zM := (⟨"SweptFloorsModel", "type", "(I)I"⟩, prog_9_method_5_code, 2, some .int)
theorem zm_M_type : zmV mM_type 1 := ⟨zmd_mk 690 8 (by decide +kernel), zgw_p 688 (by decide +kernel) (by decide +kernel), zgw_p 689 (by decide +kernel) (by decide +kernel)⟩
def mM_clear : zM := (⟨"SweptFloorsModel", "clear", "()I"⟩, prog_9_method_6_code, 2, some .int)
theorem zm_M_clear : zmV mM_clear 0 := ⟨zmd_mk 697 8 (by decide +kernel), zgw_p 695 (by decide +kernel) (by decide +kernel), zgw_p 696 (by decide +kernel) (by decide +kernel)⟩
def mM_kindOf : zM := (⟨"SweptFloorsModel", "kindOf", "(I)I"⟩, prog_9_method_7_code, 1, some .int)
theorem zm_M_kindOf : zmS mM_kindOf 1 := ⟨zmd_mk 708 8 (by decide +kernel), zgw_p 707 (by decide +kernel) (by decide +kernel)⟩
def mM_takes : zM := (⟨"SweptFloorsModel", "takes", "(I)Z"⟩, prog_9_method_8_code, 5, some .boolean)
theorem zm_M_takes : zmV mM_takes 1 := ⟨zmd_mk 705 8 (by decide +kernel), zgw_p 704 (by decide +kernel) (by decide +kernel), zgw_s (y := ⟨"SweptFloorsModel", "takes", "(I)Z"⟩) (n := 25) 49 (by decide +kernel) (by decide +kernel)⟩
def mM_floor : zM := (⟨"SweptFloorsModel", "floor", "()I"⟩, prog_9_method_9_code, 2, some .int)
theorem zm_M_floor : zmV mM_floor 0 := ⟨zmd_mk 701 8 (by decide +kernel), zgw_p 699 (by decide +kernel) (by decide +kernel), zgw_p 700 (by decide +kernel) (by decide +kernel)⟩
def mM_isCell : zM := (⟨"SweptFloorsModel", "isCell", "(I)Z"⟩, prog_9_method_10_code, 2, some .boolean)
theorem zm_M_isCell : zmV mM_isCell 1 := ⟨zmd_mk 716 8 (by decide +kernel), zgw_p 715 (by decide +kernel) (by decide +kernel), zgw_s (y := ⟨"SweptFloorsModel", "isCell", "(I)Z"⟩) (n := 25) 50 (by decide +kernel) (by decide +kernel)⟩
def mM_isFree : zM := (⟨"SweptFloorsModel", "isFree", "(I)Z"⟩, prog_9_method_11_code, 2, some .boolean)
theorem zm_M_isFree : zmV mM_isFree 1 := ⟨zmd_mk 752 8 (by decide +kernel), zgw_p 751 (by decide +kernel) (by decide +kernel), zgw_s (y := ⟨"SweptFloorsModel", "isFree", "(I)Z"⟩) (n := 25) 56 (by decide +kernel) (by decide +kernel)⟩
def mM_isDoor : zM := (⟨"SweptFloorsModel", "isDoor", "(I)Z"⟩, prog_9_method_12_code, 2, some .boolean)
theorem zm_M_isDoor : zmV mM_isDoor 1 := ⟨zmd_mk 732 8 (by decide +kernel), zgw_p 731 (by decide +kernel) (by decide +kernel), zgw_s (y := ⟨"SweptFloorsModel", "isDoor", "(I)Z"⟩) (n := 25) 52 (by decide +kernel) (by decide +kernel)⟩
def mM_beside : zM := (⟨"SweptFloorsModel", "beside", "(II)I"⟩, prog_9_method_13_code, 5, some .int)
theorem zm_M_beside : zmV mM_beside 2 := ⟨zmd_mk 744 8 (by decide +kernel), zgw_p 743 (by decide +kernel) (by decide +kernel), zgw_s (y := ⟨"SweptFloorsModel", "beside", "(II)I"⟩) (n := 25) 54 (by decide +kernel) (by decide +kernel)⟩
def mM_cell : zM := (⟨"SweptFloorsModel", "cell", "(I)I"⟩, prog_9_method_14_code, 2, some .int)
theorem zm_M_cell : zmV mM_cell 1 := ⟨zmd_mk 712 8 (by decide +kernel), zgw_p 710 (by decide +kernel) (by decide +kernel), zgw_p 711 (by decide +kernel) (by decide +kernel)⟩
def mM_remembers : zM := (⟨"SweptFloorsModel", "remembers", "()V"⟩, prog_9_method_15_code, 2, none)
theorem zm_M_remembers : zmV mM_remembers 0 := ⟨zmd_mk 724 8 (by decide +kernel), zgw_p 723 (by decide +kernel) (by decide +kernel), zgw_s (y := ⟨"SweptFloorsModel", "remembers", "()V"⟩) (n := 25) 51 (by decide +kernel) (by decide +kernel)⟩
def mM_powers : zM := (⟨"SweptFloorsModel", "powers", "(II)I"⟩, prog_9_method_16_code, 3, some .int)
theorem zm_M_powers : zmV mM_powers 2 := ⟨zmd_mk 720 8 (by decide +kernel), zgw_p 718 (by decide +kernel) (by decide +kernel), zgw_p 719 (by decide +kernel) (by decide +kernel)⟩
def mM_moves : zM := (⟨"SweptFloorsModel", "moves", "(I)I"⟩, prog_9_method_17_code, 2, some .int)
theorem zm_M_moves : zmV mM_moves 1 := ⟨zmd_mk 728 8 (by decide +kernel), zgw_p 726 (by decide +kernel) (by decide +kernel), zgw_p 727 (by decide +kernel) (by decide +kernel)⟩
def mM_toldOf : zM := (⟨"SweptFloorsModel", "toldOf", "(I)I"⟩, prog_9_method_18_code, 2, some .int)
theorem zm_M_toldOf : zmV mM_toldOf 1 := ⟨zmd_mk 748 8 (by decide +kernel), zgw_p 747 (by decide +kernel) (by decide +kernel), zgw_s (y := ⟨"SweptFloorsModel", "toldOf", "(I)I"⟩) (n := 25) 55 (by decide +kernel) (by decide +kernel)⟩
def mM_canBe : zM := (⟨"SweptFloorsModel", "canBe", "(II)Z"⟩, prog_9_method_19_code, 3, some .boolean)
theorem zm_M_canBe : zmV mM_canBe 2 := ⟨zmd_mk 760 8 (by decide +kernel), zgw_p 759 (by decide +kernel) (by decide +kernel), zgw_s (y := ⟨"SweptFloorsModel", "canBe", "(II)Z"⟩) (n := 25) 58 (by decide +kernel) (by decide +kernel)⟩
def mM_manyPlaces : zM := (⟨"SweptFloorsModel", "manyPlaces", "()I"⟩, prog_9_method_20_code, 3, some .int)
theorem zm_M_manyPlaces : zmV mM_manyPlaces 0 := ⟨zmd_mk 772 8 (by decide +kernel), zgw_p 771 (by decide +kernel) (by decide +kernel), zgw_s (y := ⟨"SweptFloorsModel", "manyPlaces", "()I"⟩) (n := 25) 61 (by decide +kernel) (by decide +kernel)⟩
def mM_findsMaybe : zM := (⟨"SweptFloorsModel", "findsMaybe", "()V"⟩, prog_9_method_21_code, 2, none)
theorem zm_M_findsMaybe : zmV mM_findsMaybe 0 := ⟨zmd_mk 768 8 (by decide +kernel), zgw_p 767 (by decide +kernel) (by decide +kernel), zgw_s (y := ⟨"SweptFloorsModel", "findsMaybe", "()V"⟩) (n := 25) 60 (by decide +kernel) (by decide +kernel)⟩
def mM_becomePlaces : zM := (⟨"SweptFloorsModel", "becomePlaces", "()V"⟩, prog_9_method_22_code, 2, none)
theorem zm_M_becomePlaces : zmV mM_becomePlaces 0 := ⟨zmd_mk 764 8 (by decide +kernel), zgw_p 763 (by decide +kernel) (by decide +kernel), zgw_s (y := ⟨"SweptFloorsModel", "becomePlaces", "()V"⟩) (n := 25) 59 (by decide +kernel) (by decide +kernel)⟩
def mM_stepsPlaces : zM := (⟨"SweptFloorsModel", "stepsPlaces", "(I)V"⟩, prog_9_method_23_code, 4, none)
theorem zm_M_stepsPlaces : zmV mM_stepsPlaces 1 := ⟨zmd_mk 756 8 (by decide +kernel), zgw_p 755 (by decide +kernel) (by decide +kernel), zgw_s (y := ⟨"SweptFloorsModel", "stepsPlaces", "(I)V"⟩) (n := 25) 57 (by decide +kernel) (by decide +kernel)⟩
def mM_stepTo : zM := (⟨"SweptFloorsModel", "stepTo", "(I)I"⟩, prog_9_method_24_code, 5, some .int)
theorem zm_M_stepTo : zmV mM_stepTo 1 := ⟨zmd_mk 740 8 (by decide +kernel), zgw_p 739 (by decide +kernel) (by decide +kernel), zgw_s (y := ⟨"SweptFloorsModel", "stepTo", "(I)I"⟩) (n := 25) 53 (by decide +kernel) (by decide +kernel)⟩
def mM_steps : zM := (⟨"SweptFloorsModel", "steps", "()I"⟩, prog_9_method_25_code, 1, some .int)
theorem zm_M_steps : zmV mM_steps 0 := ⟨zmd_mk 736 8 (by decide +kernel), zgw_p 734 (by decide +kernel) (by decide +kernel), zgw_p 735 (by decide +kernel) (by decide +kernel)⟩
def mM_rotates : zM := (⟨"SweptFloorsModel", "rotates", "(I)I"⟩, prog_9_method_26_code, 4, some .int)
theorem zm_M_rotates : zmV mM_rotates 1 := ⟨zmd_mk 776 8 (by decide +kernel), zgw_p 774 (by decide +kernel) (by decide +kernel), zgw_p 775 (by decide +kernel) (by decide +kernel)⟩
def mM_part : zM := (⟨"SweptFloorsModel", "part", "(II)I"⟩, prog_9_method_27_code, 4, some .int)
theorem zm_M_part : zmS mM_part 2 := ⟨zmd_mk 787 8 (by decide +kernel), zgw_p 786 (by decide +kernel) (by decide +kernel)⟩
def mM_canScan : zM := (⟨"SweptFloorsModel", "canScan", "(III)Z"⟩, prog_9_method_28_code, 6, some .boolean)
theorem zm_M_canScan : zmV mM_canScan 3 := ⟨zmd_mk 784 8 (by decide +kernel), zgw_p 783 (by decide +kernel) (by decide +kernel), zgw_s (y := ⟨"SweptFloorsModel", "canScan", "(III)Z"⟩) (n := 25) 62 (by decide +kernel) (by decide +kernel)⟩
def mM_scans : zM := (⟨"SweptFloorsModel", "scans", "()I"⟩, prog_9_method_29_code, 3, some .int)
theorem zm_M_scans : zmV mM_scans 0 := ⟨zmd_mk 780 8 (by decide +kernel), zgw_p 778 (by decide +kernel) (by decide +kernel), zgw_p 779 (by decide +kernel) (by decide +kernel)⟩
def mM_carries : zM := (⟨"SweptFloorsModel", "carries", "(II)I"⟩, prog_9_method_30_code, 5, some .int)
theorem zm_M_carries : zmV mM_carries 2 := ⟨zmd_mk 791 8 (by decide +kernel), zgw_p 789 (by decide +kernel) (by decide +kernel), zgw_p 790 (by decide +kernel) (by decide +kernel)⟩
def mM_lays : zM := (⟨"SweptFloorsModel", "lays", "(IZ[I)V"⟩, prog_9_method_31_code, 9, none)
theorem zm_M_lays : zmV mM_lays 3 := ⟨zmd_mk 807 8 (by decide +kernel), zgw_p 806 (by decide +kernel) (by decide +kernel), zgw_s (y := ⟨"SweptFloorsModel", "lays", "(IZ[I)V"⟩) (n := 25) 65 (by decide +kernel) (by decide +kernel)⟩
def mM_laysTarget : zM := (⟨"SweptFloorsModel", "laysTarget", "()V"⟩, prog_9_method_32_code, 2, none)
theorem zm_M_laysTarget : zmV mM_laysTarget 0 := ⟨zmd_mk 803 8 (by decide +kernel), zgw_p 802 (by decide +kernel) (by decide +kernel), zgw_s (y := ⟨"SweptFloorsModel", "laysTarget", "()V"⟩) (n := 25) 64 (by decide +kernel) (by decide +kernel)⟩
def mM_looksFor : zM := (⟨"SweptFloorsModel", "looksFor", "(I)V"⟩, prog_9_method_33_code, 5, none)
theorem zm_M_looksFor : zmV mM_looksFor 1 := ⟨zmd_mk 811 8 (by decide +kernel), zgw_p 810 (by decide +kernel) (by decide +kernel), zgw_s (y := ⟨"SweptFloorsModel", "looksFor", "(I)V"⟩) (n := 25) 66 (by decide +kernel) (by decide +kernel)⟩
def mM_handTo : zM := (⟨"SweptFloorsModel", "handTo", "([II)I"⟩, prog_9_method_34_code, 4, some .int)
theorem zm_M_handTo : zmV mM_handTo 2 := ⟨zmd_mk 819 8 (by decide +kernel), zgw_p 818 (by decide +kernel) (by decide +kernel), zgw_s (y := ⟨"SweptFloorsModel", "handTo", "([II)I"⟩) (n := 25) 68 (by decide +kernel) (by decide +kernel)⟩
def mM_handOn : zM := (⟨"SweptFloorsModel", "handOn", "(I)I"⟩, prog_9_method_35_code, 3, some .int)
theorem zm_M_handOn : zmV mM_handOn 1 := ⟨zmd_mk 815 8 (by decide +kernel), zgw_p 814 (by decide +kernel) (by decide +kernel), zgw_s (y := ⟨"SweptFloorsModel", "handOn", "(I)I"⟩) (n := 25) 67 (by decide +kernel) (by decide +kernel)⟩
def mM_acts : zM := (⟨"SweptFloorsModel", "acts", "()Z"⟩, prog_9_method_36_code, 1, some .boolean)
theorem zm_M_acts : zmV mM_acts 0 := ⟨zmd_mk 799 8 (by decide +kernel), zgw_p 798 (by decide +kernel) (by decide +kernel), zgw_s (y := ⟨"SweptFloorsModel", "acts", "()Z"⟩) (n := 25) 63 (by decide +kernel) (by decide +kernel)⟩
def mM_goes : zM := (⟨"SweptFloorsModel", "goes", "(I)I"⟩, prog_9_method_37_code, 4, some .int)
theorem zm_M_goes : zmV mM_goes 1 := ⟨zmd_mk 795 8 (by decide +kernel), zgw_p 793 (by decide +kernel) (by decide +kernel), zgw_p 794 (by decide +kernel) (by decide +kernel)⟩
def mM_undo : zM := (⟨"SweptFloorsModel", "undo", "()I"⟩, prog_9_method_38_code, 2, some .int)
theorem zm_M_undo : zmV mM_undo 0 := ⟨zmd_mk 823 8 (by decide +kernel), zgw_p 821 (by decide +kernel) (by decide +kernel), zgw_p 822 (by decide +kernel) (by decide +kernel)⟩
def mM_manyKnown : zM := (⟨"SweptFloorsModel", "manyKnown", "(I)I"⟩, prog_9_method_39_code, 4, some .int)
theorem zm_M_manyKnown : zmV mM_manyKnown 1 := ⟨zmd_mk 831 8 (by decide +kernel), zgw_p 830 (by decide +kernel) (by decide +kernel), zgw_s (y := ⟨"SweptFloorsModel", "manyKnown", "(I)I"⟩) (n := 25) 69 (by decide +kernel) (by decide +kernel)⟩
def mM_robot : zM := (⟨"SweptFloorsModel", "robot", "(I)I"⟩, prog_9_method_40_code, 2, some .int)
theorem zm_M_robot : zmV mM_robot 1 := ⟨zmd_mk 827 8 (by decide +kernel), zgw_p 825 (by decide +kernel) (by decide +kernel), zgw_p 826 (by decide +kernel) (by decide +kernel)⟩
def mM_knows : zM := (⟨"SweptFloorsModel", "knows", "(I)I"⟩, prog_9_method_41_code, 2, some .int)
theorem zm_M_knows : zmV mM_knows 1 := ⟨zmd_mk 835 8 (by decide +kernel), zgw_p 833 (by decide +kernel) (by decide +kernel), zgw_p 834 (by decide +kernel) (by decide +kernel)⟩
def mM_home : zM := (⟨"SweptFloorsModel", "home", "(I)I"⟩, prog_9_method_42_code, 2, some .int)
theorem zm_M_home : zmV mM_home 1 := ⟨zmd_mk 839 8 (by decide +kernel), zgw_p 837 (by decide +kernel) (by decide +kernel), zgw_p 838 (by decide +kernel) (by decide +kernel)⟩
def mM_target : zM := (⟨"SweptFloorsModel", "target", "(I)I"⟩, prog_9_method_43_code, 2, some .int)
theorem zm_M_target : zmV mM_target 1 := ⟨zmd_mk 843 8 (by decide +kernel), zgw_p 841 (by decide +kernel) (by decide +kernel), zgw_p 842 (by decide +kernel) (by decide +kernel)⟩
def mM_place : zM := (⟨"SweptFloorsModel", "place", "(I)I"⟩, prog_9_method_44_code, 4, some .int)
theorem zm_M_place : zmV mM_place 1 := ⟨zmd_mk 847 8 (by decide +kernel), zgw_p 845 (by decide +kernel) (by decide +kernel), zgw_p 846 (by decide +kernel) (by decide +kernel)⟩
def mM_isFirst : zM := (⟨"SweptFloorsModel", "isFirst", "(I)Z"⟩, prog_9_method_45_code, 2, some .boolean)
theorem zm_M_isFirst : zmV mM_isFirst 1 := ⟨zmd_mk 855 8 (by decide +kernel), zgw_p 854 (by decide +kernel) (by decide +kernel), zgw_s (y := ⟨"SweptFloorsModel", "isFirst", "(I)Z"⟩) (n := 25) 70 (by decide +kernel) (by decide +kernel)⟩
def mM_longOf : zM := (⟨"SweptFloorsModel", "longOf", "(I)I"⟩, prog_9_method_46_code, 3, some .int)
theorem zm_M_longOf : zmV mM_longOf 1 := ⟨zmd_mk 859 8 (by decide +kernel), zgw_p 858 (by decide +kernel) (by decide +kernel), zgw_s (y := ⟨"SweptFloorsModel", "longOf", "(I)I"⟩) (n := 25) 71 (by decide +kernel) (by decide +kernel)⟩
def mM_lane : zM := (⟨"SweptFloorsModel", "lane", "(II)I"⟩, prog_9_method_47_code, 5, some .int)
theorem zm_M_lane : zmV mM_lane 2 := ⟨zmd_mk 851 8 (by decide +kernel), zgw_p 849 (by decide +kernel) (by decide +kernel), zgw_p 850 (by decide +kernel) (by decide +kernel)⟩
def mM_isOfRoom : zM := (⟨"SweptFloorsModel", "isOfRoom", "(I)Z"⟩, prog_9_method_48_code, 2, some .boolean)
theorem zm_M_isOfRoom : zmV mM_isOfRoom 1 := ⟨zmd_mk 871 8 (by decide +kernel), zgw_p 870 (by decide +kernel) (by decide +kernel), zgw_s (y := ⟨"SweptFloorsModel", "isOfRoom", "(I)Z"⟩) (n := 25) 73 (by decide +kernel) (by decide +kernel)⟩
def mM_laysRooms : zM := (⟨"SweptFloorsModel", "laysRooms", "()I"⟩, prog_9_method_49_code, 6, some .int)
theorem zm_M_laysRooms : zmV mM_laysRooms 0 := ⟨zmd_mk 867 8 (by decide +kernel), zgw_p 866 (by decide +kernel) (by decide +kernel), zgw_s (y := ⟨"SweptFloorsModel", "laysRooms", "()I"⟩) (n := 25) 72 (by decide +kernel) (by decide +kernel)⟩
def mM_room : zM := (⟨"SweptFloorsModel", "room", "(I)I"⟩, prog_9_method_50_code, 3, some .int)
theorem zm_M_room : zmV mM_room 1 := ⟨zmd_mk 863 8 (by decide +kernel), zgw_p 861 (by decide +kernel) (by decide +kernel), zgw_p 862 (by decide +kernel) (by decide +kernel)⟩
def mM_reach : zM := (⟨"SweptFloorsModel", "reach", "(I)I"⟩, prog_9_method_51_code, 5, some .int)
theorem zm_M_reach : zmV mM_reach 1 := ⟨zmd_mk 875 8 (by decide +kernel), zgw_p 873 (by decide +kernel) (by decide +kernel), zgw_p 874 (by decide +kernel) (by decide +kernel)⟩
def mM_isAllDone : zM := (⟨"SweptFloorsModel", "isAllDone", "()Z"⟩, prog_9_method_52_code, 1, some .boolean)
theorem zm_M_isAllDone : zmV mM_isAllDone 0 := ⟨zmd_mk 883 8 (by decide +kernel), zgw_p 882 (by decide +kernel) (by decide +kernel), zgw_s (y := ⟨"SweptFloorsModel", "isAllDone", "()Z"⟩) (n := 25) 74 (by decide +kernel) (by decide +kernel)⟩
def mM_when : zM := (⟨"SweptFloorsModel", "when", "()I"⟩, prog_9_method_53_code, 3, some .int)
theorem zm_M_when : zmV mM_when 0 := ⟨zmd_mk 879 8 (by decide +kernel), zgw_p 877 (by decide +kernel) (by decide +kernel), zgw_p 878 (by decide +kernel) (by decide +kernel)⟩
def mM_keep : zM := (⟨"SweptFloorsModel", "keep", "(I)I"⟩, prog_9_method_54_code, 3, some .int)
theorem zm_M_keep : zmV mM_keep 1 := ⟨zmd_mk 887 8 (by decide +kernel), zgw_p 885 (by decide +kernel) (by decide +kernel), zgw_p 886 (by decide +kernel) (by decide +kernel)⟩
def mM_back : zM := (⟨"SweptFloorsModel", "back", "(I)I"⟩, prog_9_method_55_code, 3, some .int)
theorem zm_M_back : zmV mM_back 1 := ⟨zmd_mk 891 8 (by decide +kernel), zgw_p 889 (by decide +kernel) (by decide +kernel), zgw_p 890 (by decide +kernel) (by decide +kernel)⟩
def mM_count : zM := (⟨"SweptFloorsModel", "count", "(I)I"⟩, prog_9_method_56_code, 2, some .int)
theorem zm_M_count : zmV mM_count 1 := ⟨zmd_mk 895 8 (by decide +kernel), zgw_p 893 (by decide +kernel) (by decide +kernel), zgw_p 894 (by decide +kernel) (by decide +kernel)⟩
def mJ_bitCount : zM := (⟨"java/lang/Long", "bitCount", "(J)I"⟩, prog_10_method_50_code, 2, some .int)
theorem zm_J_bitCount : zmS mJ_bitCount 1 := ⟨zmd_mk 372 11 (by decide +kernel), zgw_p 371 (by decide +kernel) (by decide +kernel)⟩
def mJ_min : zM := (⟨"java/lang/Math", "min", "(II)I"⟩, prog_11_method_69_code, 2, some .int)
theorem zm_J_min : zmS mJ_min 2 := ⟨zmd_mk 343 10 (by decide +kernel), zgw_p 342 (by decide +kernel) (by decide +kernel)⟩
def mL_law : zM := (x, code, maxLocals, ret)
theorem zk_L_9 : zlk "SweptFloorsLaw" 9 mF_init.1 := Or.inl (zgw_p 14 (by decide +kernel) (by decide +kernel))
theorem zk_F_3 : Cond.methodLink "SweptFloors" 3 Lib.objectInit ∈ zgw := zgw_p 17 (by decide +kernel) (by decide +kernel)
theorem zk_F_11 : zlk "SweptFloors" 11 mT_init.1 := Or.inr (znest_p 22 (by decide +kernel) rfl)
theorem zk_T_3 : Cond.methodLink "SweptFloors$Text" 3 Lib.objectInit ∈ zgw := zgw_p 25 (by decide +kernel) (by decide +kernel)
theorem zk_F_18 : zlk "SweptFloors" 18 mG_init.1 := Or.inr (znest_p 60 (by decide +kernel) rfl)
theorem zk_G_3 : Cond.methodLink "SweptFloors$Ground" 3 Lib.objectInit ∈ zgw := zgw_p 63 (by decide +kernel) (by decide +kernel)
theorem zk_F_25 : zlk "SweptFloors" 25 mS_init.1 := Or.inr (znest_p 111 (by decide +kernel) rfl)
theorem zk_S_3 : Cond.methodLink "SweptFloors$Situation" 3 Lib.objectInit ∈ zgw := zgw_p 114 (by decide +kernel) (by decide +kernel)
theorem zk_F_37 : zlk "SweptFloors" 37 mP_init.1 := Or.inr (znest_p 168 (by decide +kernel) rfl)
theorem zk_P_3 : Cond.methodLink "SweptFloors$Pilot" 3 Lib.objectInit ∈ zgw := zgw_p 171 (by decide +kernel) (by decide +kernel)
theorem zk_F_44 : zlk "SweptFloors" 44 mH_init.1 := Or.inr (znest_p 191 (by decide +kernel) rfl)
theorem zk_H_3 : Cond.methodLink "SweptFloors$History" 3 Lib.objectInit ∈ zgw := zgw_p 194 (by decide +kernel) (by decide +kernel)
theorem zk_H_17 : zlk "SweptFloors$History" 17 mS_init.1 := Or.inr (znest_p 197 (by decide +kernel) rfl)
theorem zk_F_51 : zlk "SweptFloors" 51 mA_init.1 := Or.inr (znest_p 211 (by decide +kernel) rfl)
theorem zk_A_3 : Cond.methodLink "SweptFloors$Album" 3 Lib.objectInit ∈ zgw := zgw_p 214 (by decide +kernel) (by decide +kernel)
theorem zk_A_21 : zlk "SweptFloors$Album" 21 mS_init.1 := Or.inr (znest_p 216 (by decide +kernel) rfl)
theorem zk_F_56 : zlk "SweptFloors" 56 mT_add.1 := Or.inr (znest_p 225 (by decide +kernel) rfl)
theorem zk_F_60 : zlk "SweptFloors" 60 mF_readText.1 := Or.inl (zgw_p 229 (by decide +kernel) (by decide +kernel))
theorem zk_F_235 : zlk "SweptFloors" 235 mT_findFault.1 := Or.inr (znest_p 233 (by decide +kernel) rfl)
theorem zk_T_37 : zlk "SweptFloors$Text" 37 mT_takes.1 := Or.inl (zgw_p 237 (by decide +kernel) (by decide +kernel))
theorem zk_T_41 : zlk "SweptFloors$Text" 41 mT_endsRow.1 := Or.inl (zgw_p 241 (by decide +kernel) (by decide +kernel))
theorem zk_T_45 : zlk "SweptFloors$Text" 45 mT_kindOfSign.1 := Or.inl (zgw_p 245 (by decide +kernel) (by decide +kernel))
theorem zk_T_49 : zlk "SweptFloors$Text" 49 mT_takesSign.1 := Or.inl (zgw_p 248 (by decide +kernel) (by decide +kernel))
theorem zk_F_238 : zlk "SweptFloors" 238 mG_layOut.1 := Or.inr (znest_p 252 (by decide +kernel) rfl)
theorem zk_G_26 : zlk "SweptFloors$Ground" 26 mG_size.1 := Or.inl (zgw_p 256 (by decide +kernel) (by decide +kernel))
theorem zk_G_34 : zlk "SweptFloors$Ground" 34 mG_cellsOfKind.1 := Or.inl (zgw_p 260 (by decide +kernel) (by decide +kernel))
theorem zk_G_53 : zlk "SweptFloors$Ground" 53 mF_only.1 := Or.inr (znest_p 263 (by decide +kernel) rfl)
theorem zk_F_242 : zlk "SweptFloors" 242 mS_begin.1 := Or.inr (znest_p 266 (by decide +kernel) rfl)
theorem zk_S_44 : zlk "SweptFloors$Situation" 44 mF_only.1 := Or.inr (znest_p 270 (by decide +kernel) rfl)
theorem zk_F_245 : zlk "SweptFloors" 245 mA_empty.1 := Or.inr (znest_p 271 (by decide +kernel) rfl)
theorem zk_L_13 : zlk "SweptFloorsLaw" 13 mF_type.1 := Or.inl (zgw_p 297 (by decide +kernel) (by decide +kernel))
theorem zk_L_18 : zlk "SweptFloorsLaw" 18 mF_clear.1 := Or.inl (zgw_p 301 (by decide +kernel) (by decide +kernel))
theorem zk_L_23 : zlk "SweptFloorsLaw" 23 mF_floor.1 := Or.inl (zgw_p 305 (by decide +kernel) (by decide +kernel))
theorem zk_F_68 : zlk "SweptFloors" 68 mG_size.1 := Or.inr (znest_p 309 (by decide +kernel) rfl)
theorem zk_L_27 : zlk "SweptFloorsLaw" 27 mF_cell.1 := Or.inl (zgw_p 310 (by decide +kernel) (by decide +kernel))
theorem zk_F_71 : zlk "SweptFloors" 71 mG_has.1 := Or.inr (znest_p 314 (by decide +kernel) rfl)
theorem zk_F_74 : zlk "SweptFloors" 74 mS_kindOf.1 := Or.inr (znest_p 318 (by decide +kernel) rfl)
theorem zk_S_72 : zlk "SweptFloors$Situation" 72 mF_holds.1 := Or.inr (znest_p 322 (by decide +kernel) rfl)
theorem zk_F_111 : zlk "SweptFloors" 111 mF_only.1 := Or.inl (zgw_p 325 (by decide +kernel) (by decide +kernel))
theorem zk_L_31 : zlk "SweptFloorsLaw" 31 mF_powers.1 := Or.inl (zgw_p 326 (by decide +kernel) (by decide +kernel))
theorem zk_F_84 : zlk "SweptFloors" 84 mH_remember.1 := Or.inr (znest_p 330 (by decide +kernel) rfl)
theorem zk_H_24 : zlk "SweptFloors$History" 24 mS_copyFrom.1 := Or.inr (znest_p 334 (by decide +kernel) rfl)
theorem zk_S_58 : Cond.methodLink "SweptFloors$Situation" 58 arraycopyName ∈ zgw := zgw_p 338 (by decide +kernel) (by decide +kernel)
theorem zk_H_31 : zlk "SweptFloors$History" 31 mJ_min.1 := Or.inl (zgw_p 341 (by decide +kernel) (by decide +kernel))
theorem zk_F_91 : zlk "SweptFloors" 91 mJ_min.1 := Or.inl (zgw_p 344 (by decide +kernel) (by decide +kernel))
theorem zk_L_36 : zlk "SweptFloorsLaw" 36 mF_moves.1 := Or.inl (zgw_p 345 (by decide +kernel) (by decide +kernel))
theorem zk_F_101 : zlk "SweptFloors" 101 mF_holds.1 := Or.inl (zgw_p 349 (by decide +kernel) (by decide +kernel))
theorem zk_L_40 : zlk "SweptFloorsLaw" 40 mF_steps.1 := Or.inl (zgw_p 350 (by decide +kernel) (by decide +kernel))
theorem zk_F_118 : zlk "SweptFloors" 118 mS_stepTo.1 := Or.inr (znest_p 354 (by decide +kernel) rfl)
theorem zk_S_86 : zlk "SweptFloors$Situation" 86 mG_cellBeside.1 := Or.inr (znest_p 358 (by decide +kernel) rfl)
theorem zk_G_69 : zlk "SweptFloors$Ground" 69 mG_beside.1 := Or.inl (zgw_p 362 (by decide +kernel) (by decide +kernel))
theorem zk_G_73 : zlk "SweptFloors$Ground" 73 mF_lowestOf.1 := Or.inr (znest_p 367 (by decide +kernel) rfl)
theorem zk_F_152 : zlk "SweptFloors" 152 mJ_bitCount.1 := Or.inl (zgw_p 370 (by decide +kernel) (by decide +kernel))
theorem zk_S_90 : zlk "SweptFloors$Situation" 90 mS_outcomeAt.1 := Or.inl (zgw_p 376 (by decide +kernel) (by decide +kernel))
theorem zk_S_102 : zlk "SweptFloors$Situation" 102 mS_freeCells.1 := Or.inl (zgw_p 380 (by decide +kernel) (by decide +kernel))
theorem zk_S_94 : zlk "SweptFloors$Situation" 94 mS_sortOutBy.1 := Or.inl (zgw_p 385 (by decide +kernel) (by decide +kernel))
theorem zk_S_118 : zlk "SweptFloors$Situation" 118 mS_keepPlacesThatSee.1 := Or.inl (zgw_p 389 (by decide +kernel) (by decide +kernel))
theorem zk_S_106 : zlk "SweptFloors$Situation" 106 mF_turned.1 := Or.inr (znest_p 393 (by decide +kernel) rfl)
theorem zk_S_131 : zlk "SweptFloors$Situation" 131 mS_cellsThatMaySee.1 := Or.inl (zgw_p 396 (by decide +kernel) (by decide +kernel))
theorem zk_S_121 : zlk "SweptFloors$Situation" 121 mS_cellsThatMayShow.1 := Or.inl (zgw_p 400 (by decide +kernel) (by decide +kernel))
theorem zk_S_135 : zlk "SweptFloors$Situation" 135 mG_beside.1 := Or.inr (znest_p 404 (by decide +kernel) rfl)
theorem zk_S_128 : zlk "SweptFloors$Situation" 128 mS_movePlacesAhead.1 := Or.inl (zgw_p 405 (by decide +kernel) (by decide +kernel))
theorem zk_S_112 : zlk "SweptFloors$Situation" 112 mS_beFoundIfSure.1 := Or.inl (zgw_p 409 (by decide +kernel) (by decide +kernel))
theorem zk_S_124 : zlk "SweptFloors$Situation" 124 mS_placeCount.1 := Or.inl (zgw_p 413 (by decide +kernel) (by decide +kernel))
theorem zk_S_142 : zlk "SweptFloors$Situation" 142 mJ_bitCount.1 := Or.inl (zgw_p 417 (by decide +kernel) (by decide +kernel))
theorem zk_S_98 : zlk "SweptFloors$Situation" 98 mS_learn.1 := Or.inl (zgw_p 418 (by decide +kernel) (by decide +kernel))
theorem zk_L_44 : zlk "SweptFloorsLaw" 44 mF_rotates.1 := Or.inl (zgw_p 422 (by decide +kernel) (by decide +kernel))
theorem zk_F_121 : zlk "SweptFloors" 121 mS_turn.1 := Or.inr (znest_p 426 (by decide +kernel) rfl)
theorem zk_S_109 : zlk "SweptFloors$Situation" 109 mS_turnPlaces.1 := Or.inl (zgw_p 430 (by decide +kernel) (by decide +kernel))
theorem zk_L_48 : zlk "SweptFloorsLaw" 48 mF_scans.1 := Or.inl (zgw_p 434 (by decide +kernel) (by decide +kernel))
theorem zk_F_125 : zlk "SweptFloors" 125 mS_scanAround.1 := Or.inr (znest_p 438 (by decide +kernel) rfl)
theorem zk_S_115 : zlk "SweptFloors$Situation" 115 mS_seenAt.1 := Or.inl (zgw_p 442 (by decide +kernel) (by decide +kernel))
theorem zk_L_52 : zlk "SweptFloorsLaw" 52 mF_carries.1 := Or.inl (zgw_p 446 (by decide +kernel) (by decide +kernel))
theorem zk_F_128 : zlk "SweptFloors" 128 mS_freeCells.1 := Or.inr (znest_p 450 (by decide +kernel) rfl)
theorem zk_F_132 : zlk "SweptFloors" 132 mS_carryTo.1 := Or.inr (znest_p 451 (by decide +kernel) rfl)
theorem zk_L_56 : zlk "SweptFloorsLaw" 56 mF_goes.1 := Or.inl (zgw_p 455 (by decide +kernel) (by decide +kernel))
theorem zk_F_139 : zlk "SweptFloors" 139 mP_act.1 := Or.inr (znest_p 459 (by decide +kernel) rfl)
theorem zk_P_33 : zlk "SweptFloors$Pilot" 33 mJ_min.1 := Or.inl (zgw_p 463 (by decide +kernel) (by decide +kernel))
theorem zk_P_39 : zlk "SweptFloors$Pilot" 39 mP_nextHand.1 := Or.inl (zgw_p 464 (by decide +kernel) (by decide +kernel))
theorem zk_P_49 : zlk "SweptFloors$Pilot" 49 mP_findsTarget.1 := Or.inl (zgw_p 468 (by decide +kernel) (by decide +kernel))
theorem zk_P_88 : zlk "SweptFloors$Pilot" 88 mF_only.1 := Or.inr (znest_p 473 (by decide +kernel) rfl)
theorem zk_P_92 : zlk "SweptFloors$Pilot" 92 mG_within.1 := Or.inr (znest_p 474 (by decide +kernel) rfl)
theorem zk_G_77 : zlk "SweptFloors$Ground" 77 mG_around.1 := Or.inl (zgw_p 478 (by decide +kernel) (by decide +kernel))
theorem zk_P_96 : zlk "SweptFloors$Pilot" 96 mG_around.1 := Or.inr (znest_p 482 (by decide +kernel) rfl)
theorem zk_P_100 : zlk "SweptFloors$Pilot" 100 mF_lowestOf.1 := Or.inr (znest_p 483 (by decide +kernel) rfl)
theorem zk_P_107 : zlk "SweptFloors$Pilot" 107 mS_homeOf.1 := Or.inr (znest_p 484 (by decide +kernel) rfl)
theorem zk_S_82 : zlk "SweptFloors$Situation" 82 mG_stepsBetween.1 := Or.inr (znest_p 488 (by decide +kernel) rfl)
theorem zk_P_59 : zlk "SweptFloors$Pilot" 59 mP_handOnto.1 := Or.inl (zgw_p 492 (by decide +kernel) (by decide +kernel))
theorem zk_P_66 : zlk "SweptFloors$Pilot" 66 mG_cellBeside.1 := Or.inr (znest_p 495 (by decide +kernel) rfl)
theorem zk_P_63 : zlk "SweptFloors$Pilot" 63 mP_handNearer.1 := Or.inl (zgw_p 496 (by decide +kernel) (by decide +kernel))
theorem zk_P_73 : zlk "SweptFloors$Pilot" 73 mG_stepsBetween.1 := Or.inr (znest_p 499 (by decide +kernel) rfl)
theorem zk_P_45 : zlk "SweptFloors$Pilot" 45 mS_stepTo.1 := Or.inr (znest_p 500 (by decide +kernel) rfl)
theorem zk_L_60 : zlk "SweptFloorsLaw" 60 mF_undo.1 := Or.inl (zgw_p 501 (by decide +kernel) (by decide +kernel))
theorem zk_F_143 : zlk "SweptFloors" 143 mH_bringBack.1 := Or.inr (znest_p 505 (by decide +kernel) rfl)
theorem zk_L_64 : zlk "SweptFloorsLaw" 64 mF_robot.1 := Or.inl (zgw_p 509 (by decide +kernel) (by decide +kernel))
theorem zk_L_68 : zlk "SweptFloorsLaw" 68 mF_knows.1 := Or.inl (zgw_p 513 (by decide +kernel) (by decide +kernel))
theorem zk_F_161 : zlk "SweptFloors" 161 mS_knowledgeOf.1 := Or.inr (znest_p 517 (by decide +kernel) rfl)
theorem zk_L_72 : zlk "SweptFloorsLaw" 72 mF_home.1 := Or.inl (zgw_p 521 (by decide +kernel) (by decide +kernel))
theorem zk_F_164 : zlk "SweptFloors" 164 mS_homeOf.1 := Or.inr (znest_p 525 (by decide +kernel) rfl)
theorem zk_L_76 : zlk "SweptFloorsLaw" 76 mF_target.1 := Or.inl (zgw_p 526 (by decide +kernel) (by decide +kernel))
theorem zk_F_167 : zlk "SweptFloors" 167 mP_findsTarget.1 := Or.inr (znest_p 530 (by decide +kernel) rfl)
theorem zk_L_80 : zlk "SweptFloorsLaw" 80 mF_place.1 := Or.inl (zgw_p 531 (by decide +kernel) (by decide +kernel))
theorem zk_F_182 : zlk "SweptFloors" 182 mS_placeCount.1 := Or.inr (znest_p 535 (by decide +kernel) rfl)
theorem zk_F_185 : zlk "SweptFloors" 185 mS_placeAt.1 := Or.inr (znest_p 536 (by decide +kernel) rfl)
theorem zk_L_84 : zlk "SweptFloorsLaw" 84 mF_lane.1 := Or.inl (zgw_p 540 (by decide +kernel) (by decide +kernel))
theorem zk_F_188 : zlk "SweptFloors" 188 mG_beside.1 := Or.inr (znest_p 544 (by decide +kernel) rfl)
theorem zk_F_194 : zlk "SweptFloors" 194 mF_memberAt.1 := Or.inl (zgw_p 546 (by decide +kernel) (by decide +kernel))
theorem zk_F_248 : zlk "SweptFloors" 248 mF_lowestOf.1 := Or.inl (zgw_p 549 (by decide +kernel) (by decide +kernel))
theorem zk_F_198 : zlk "SweptFloors" 198 mF_laneLength.1 := Or.inl (zgw_p 550 (by decide +kernel) (by decide +kernel))
theorem zk_L_88 : zlk "SweptFloorsLaw" 88 mF_room.1 := Or.inl (zgw_p 554 (by decide +kernel) (by decide +kernel))
theorem zk_F_208 : zlk "SweptFloors" 208 mG_within.1 := Or.inr (znest_p 558 (by decide +kernel) rfl)
theorem zk_L_92 : zlk "SweptFloorsLaw" 92 mF_reach.1 := Or.inl (zgw_p 559 (by decide +kernel) (by decide +kernel))
theorem zk_F_212 : zlk "SweptFloors" 212 mG_mostSteps.1 := Or.inr (znest_p 563 (by decide +kernel) rfl)
theorem zk_L_96 : zlk "SweptFloorsLaw" 96 mF_when.1 := Or.inl (zgw_p 567 (by decide +kernel) (by decide +kernel))
theorem zk_F_215 : zlk "SweptFloors" 215 mS_copyFrom.1 := Or.inr (znest_p 571 (by decide +kernel) rfl)
theorem zk_F_218 : zlk "SweptFloors" 218 mP_isThrough.1 := Or.inr (znest_p 572 (by decide +kernel) rfl)
theorem zk_L_100 : zlk "SweptFloorsLaw" 100 mF_keep.1 := Or.inl (zgw_p 576 (by decide +kernel) (by decide +kernel))
theorem zk_F_221 : zlk "SweptFloors" 221 mA_putIn.1 := Or.inr (znest_p 580 (by decide +kernel) rfl)
theorem zk_A_24 : zlk "SweptFloors$Album" 24 mS_copyFrom.1 := Or.inr (znest_p 584 (by decide +kernel) rfl)
theorem zk_L_104 : zlk "SweptFloorsLaw" 104 mF_back.1 := Or.inl (zgw_p 585 (by decide +kernel) (by decide +kernel))
theorem zk_F_225 : zlk "SweptFloors" 225 mA_takeOut.1 := Or.inr (znest_p 589 (by decide +kernel) rfl)
theorem zk_L_108 : zlk "SweptFloorsLaw" 108 mF_count.1 := Or.inl (zgw_p 593 (by decide +kernel) (by decide +kernel))
theorem zk_L_12 : zlk "SweptFloorsLaw" 12 mM_init.1 := Or.inl (zgw_p 599 (by decide +kernel) (by decide +kernel))
theorem zk_M_1 : Cond.methodLink "SweptFloorsModel" 1 Lib.objectInit ∈ zgw := zgw_p 602 (by decide +kernel) (by decide +kernel)
theorem zk_M_54 : zlk "SweptFloorsModel" 54 mM_begins.1 := Or.inl (zgw_p 603 (by decide +kernel) (by decide +kernel))
theorem zk_M_57 : zlk "SweptFloorsModel" 57 mM_cells.1 := Or.inl (zgw_p 607 (by decide +kernel) (by decide +kernel))
theorem zk_L_17 : zlk "SweptFloorsLaw" 17 mM_type.1 := Or.inl (zgw_p 687 (by decide +kernel) (by decide +kernel))
theorem zk_M_67 : zlk "SweptFloorsModel" 67 mM_in.1 := Or.inl (zgw_p 691 (by decide +kernel) (by decide +kernel))
theorem zk_L_22 : zlk "SweptFloorsLaw" 22 mM_clear.1 := Or.inl (zgw_p 694 (by decide +kernel) (by decide +kernel))
theorem zk_L_26 : zlk "SweptFloorsLaw" 26 mM_floor.1 := Or.inl (zgw_p 698 (by decide +kernel) (by decide +kernel))
theorem zk_M_90 : zlk "SweptFloorsModel" 90 mM_takes.1 := Or.inl (zgw_p 702 (by decide +kernel) (by decide +kernel))
theorem zk_M_83 : zlk "SweptFloorsModel" 83 mM_kindOf.1 := Or.inl (zgw_p 706 (by decide +kernel) (by decide +kernel))
theorem zk_L_30 : zlk "SweptFloorsLaw" 30 mM_cell.1 := Or.inl (zgw_p 709 (by decide +kernel) (by decide +kernel))
theorem zk_M_94 : zlk "SweptFloorsModel" 94 mM_isCell.1 := Or.inl (zgw_p 713 (by decide +kernel) (by decide +kernel))
theorem zk_L_35 : zlk "SweptFloorsLaw" 35 mM_powers.1 := Or.inl (zgw_p 717 (by decide +kernel) (by decide +kernel))
theorem zk_M_97 : zlk "SweptFloorsModel" 97 mM_remembers.1 := Or.inl (zgw_p 721 (by decide +kernel) (by decide +kernel))
theorem zk_L_39 : zlk "SweptFloorsLaw" 39 mM_moves.1 := Or.inl (zgw_p 725 (by decide +kernel) (by decide +kernel))
theorem zk_M_100 : zlk "SweptFloorsModel" 100 mM_isDoor.1 := Or.inl (zgw_p 729 (by decide +kernel) (by decide +kernel))
theorem zk_L_43 : zlk "SweptFloorsLaw" 43 mM_steps.1 := Or.inl (zgw_p 733 (by decide +kernel) (by decide +kernel))
theorem zk_M_130 : zlk "SweptFloorsModel" 130 mM_stepTo.1 := Or.inl (zgw_p 737 (by decide +kernel) (by decide +kernel))
theorem zk_M_109 : zlk "SweptFloorsModel" 109 mM_beside.1 := Or.inl (zgw_p 741 (by decide +kernel) (by decide +kernel))
theorem zk_M_123 : zlk "SweptFloorsModel" 123 mM_toldOf.1 := Or.inl (zgw_p 745 (by decide +kernel) (by decide +kernel))
theorem zk_M_103 : zlk "SweptFloorsModel" 103 mM_isFree.1 := Or.inl (zgw_p 749 (by decide +kernel) (by decide +kernel))
theorem zk_M_126 : zlk "SweptFloorsModel" 126 mM_stepsPlaces.1 := Or.inl (zgw_p 753 (by decide +kernel) (by decide +kernel))
theorem zk_M_113 : zlk "SweptFloorsModel" 113 mM_canBe.1 := Or.inl (zgw_p 757 (by decide +kernel) (by decide +kernel))
theorem zk_M_117 : zlk "SweptFloorsModel" 117 mM_becomePlaces.1 := Or.inl (zgw_p 761 (by decide +kernel) (by decide +kernel))
theorem zk_M_120 : zlk "SweptFloorsModel" 120 mM_findsMaybe.1 := Or.inl (zgw_p 765 (by decide +kernel) (by decide +kernel))
theorem zk_M_106 : zlk "SweptFloorsModel" 106 mM_manyPlaces.1 := Or.inl (zgw_p 769 (by decide +kernel) (by decide +kernel))
theorem zk_L_47 : zlk "SweptFloorsLaw" 47 mM_rotates.1 := Or.inl (zgw_p 773 (by decide +kernel) (by decide +kernel))
theorem zk_L_51 : zlk "SweptFloorsLaw" 51 mM_scans.1 := Or.inl (zgw_p 777 (by decide +kernel) (by decide +kernel))
theorem zk_M_136 : zlk "SweptFloorsModel" 136 mM_canScan.1 := Or.inl (zgw_p 781 (by decide +kernel) (by decide +kernel))
theorem zk_M_133 : zlk "SweptFloorsModel" 133 mM_part.1 := Or.inl (zgw_p 785 (by decide +kernel) (by decide +kernel))
theorem zk_L_55 : zlk "SweptFloorsLaw" 55 mM_carries.1 := Or.inl (zgw_p 788 (by decide +kernel) (by decide +kernel))
theorem zk_L_59 : zlk "SweptFloorsLaw" 59 mM_goes.1 := Or.inl (zgw_p 792 (by decide +kernel) (by decide +kernel))
theorem zk_M_168 : zlk "SweptFloorsModel" 168 mM_acts.1 := Or.inl (zgw_p 796 (by decide +kernel) (by decide +kernel))
theorem zk_M_158 : zlk "SweptFloorsModel" 158 mM_laysTarget.1 := Or.inl (zgw_p 800 (by decide +kernel) (by decide +kernel))
theorem zk_M_139 : zlk "SweptFloorsModel" 139 mM_lays.1 := Or.inl (zgw_p 804 (by decide +kernel) (by decide +kernel))
theorem zk_M_146 : zlk "SweptFloorsModel" 146 mM_looksFor.1 := Or.inl (zgw_p 808 (by decide +kernel) (by decide +kernel))
theorem zk_M_161 : zlk "SweptFloorsModel" 161 mM_handOn.1 := Or.inl (zgw_p 812 (by decide +kernel) (by decide +kernel))
theorem zk_M_164 : zlk "SweptFloorsModel" 164 mM_handTo.1 := Or.inl (zgw_p 816 (by decide +kernel) (by decide +kernel))
theorem zk_L_63 : zlk "SweptFloorsLaw" 63 mM_undo.1 := Or.inl (zgw_p 820 (by decide +kernel) (by decide +kernel))
theorem zk_L_67 : zlk "SweptFloorsLaw" 67 mM_robot.1 := Or.inl (zgw_p 824 (by decide +kernel) (by decide +kernel))
theorem zk_M_172 : zlk "SweptFloorsModel" 172 mM_manyKnown.1 := Or.inl (zgw_p 828 (by decide +kernel) (by decide +kernel))
theorem zk_L_71 : zlk "SweptFloorsLaw" 71 mM_knows.1 := Or.inl (zgw_p 832 (by decide +kernel) (by decide +kernel))
theorem zk_L_75 : zlk "SweptFloorsLaw" 75 mM_home.1 := Or.inl (zgw_p 836 (by decide +kernel) (by decide +kernel))
theorem zk_L_79 : zlk "SweptFloorsLaw" 79 mM_target.1 := Or.inl (zgw_p 840 (by decide +kernel) (by decide +kernel))
theorem zk_L_83 : zlk "SweptFloorsLaw" 83 mM_place.1 := Or.inl (zgw_p 844 (by decide +kernel) (by decide +kernel))
theorem zk_L_87 : zlk "SweptFloorsLaw" 87 mM_lane.1 := Or.inl (zgw_p 848 (by decide +kernel) (by decide +kernel))
theorem zk_M_175 : zlk "SweptFloorsModel" 175 mM_isFirst.1 := Or.inl (zgw_p 852 (by decide +kernel) (by decide +kernel))
theorem zk_M_178 : zlk "SweptFloorsModel" 178 mM_longOf.1 := Or.inl (zgw_p 856 (by decide +kernel) (by decide +kernel))
theorem zk_L_91 : zlk "SweptFloorsLaw" 91 mM_room.1 := Or.inl (zgw_p 860 (by decide +kernel) (by decide +kernel))
theorem zk_M_184 : zlk "SweptFloorsModel" 184 mM_laysRooms.1 := Or.inl (zgw_p 864 (by decide +kernel) (by decide +kernel))
theorem zk_M_181 : zlk "SweptFloorsModel" 181 mM_isOfRoom.1 := Or.inl (zgw_p 868 (by decide +kernel) (by decide +kernel))
theorem zk_L_95 : zlk "SweptFloorsLaw" 95 mM_reach.1 := Or.inl (zgw_p 872 (by decide +kernel) (by decide +kernel))
theorem zk_L_99 : zlk "SweptFloorsLaw" 99 mM_when.1 := Or.inl (zgw_p 876 (by decide +kernel) (by decide +kernel))
theorem zk_M_187 : zlk "SweptFloorsModel" 187 mM_isAllDone.1 := Or.inl (zgw_p 880 (by decide +kernel) (by decide +kernel))
theorem zk_L_103 : zlk "SweptFloorsLaw" 103 mM_keep.1 := Or.inl (zgw_p 884 (by decide +kernel) (by decide +kernel))
theorem zk_L_107 : zlk "SweptFloorsLaw" 107 mM_back.1 := Or.inl (zgw_p 888 (by decide +kernel) (by decide +kernel))
theorem zk_L_111 : zlk "SweptFloorsLaw" 111 mM_count.1 := Or.inl (zgw_p 892 (by decide +kernel) (by decide +kernel))
theorem zoi_i : Cond.instanceMethod Lib.objectInit ∈ zgw := zgw_p 18 (by decide +kernel) (by decide +kernel)
theorem zoi_c : Cond.code Lib.objectInit ⟨#[0xb1]⟩ 1 none ∈ zgw := zgw_p 19 (by decide +kernel) (by decide +kernel)
theorem zac_n : Cond.native arraycopyName ∈ zgw := zgw_p 340 (by decide +kernel) (by decide +kernel)
theorem zac_s : Cond.static arraycopyName ∈ zgw := zgw_p 339 (by decide +kernel) (by decide +kernel)
theorem zac_i : Cond.initialized "java/lang/System" ∈ zgw := zgw_p 9 (by decide +kernel) (by decide +kernel)
theorem zar_int : Cond.arrayClass (newarray.typeOf .int) ∈ zgw := zgw_p 57 (by decide +kernel) (by decide +kernel)
theorem zar_long : Cond.arrayClass (newarray.typeOf .long) ∈ zgw := zgw_p 165 (by decide +kernel) (by decide +kernel)
theorem zar_boolean : Cond.arrayClass (newarray.typeOf .boolean) ∈ zgw := zgw_p 224 (by decide +kernel) (by decide +kernel)
theorem zar_o : Cond.arrayOver (.object "SweptFloors$Situation") ∈ lw_tbl := List.mem_append_right _ (List.mem_of_getElem? (i := 196) (by decide +kernel))
theorem zf_T_9 : zfl "SweptFloors$Text" 9 1 0 true (.array (.int)) := ⟨zR_T, zT_T, 8, zY_T, rfl, by decide, zi_T, zy_T, zn_T, rfl, rfl, rfl, Or.inl (zgw_p 26 (by decide +kernel) (by decide +kernel))⟩
theorem zfF_T_9 : zflF "SweptFloors$Text" 9 1 0 (.array (.int)) := ⟨zT_T, 8, zY_T, rfl, by decide, zi_T, zy_T, zn_T, rfl, rfl, rfl, zgw_p 26 (by decide +kernel) (by decide +kernel)⟩
theorem zf_T_18 : zfl "SweptFloors$Text" 18 1 1 false .int := ⟨zR_T, zT_T, 8, zY_T, rfl, by decide, zi_T, zy_T, zn_T, rfl, rfl, rfl, Or.inl (zgw_p 27 (by decide +kernel) (by decide +kernel))⟩
theorem zf_F_64 : zfl "SweptFloors" 64 1 1 false .int := ⟨zR_T, zT_T, 8, zY_T, rfl, by decide, zi_T, zy_T, zn_T, rfl, rfl, rfl, Or.inr (znest_p 28 (by decide +kernel) rfl)⟩
theorem zf_T_15 : zfl "SweptFloors$Text" 15 1 2 true (.array (.int)) := ⟨zR_T, zT_T, 8, zY_T, rfl, by decide, zi_T, zy_T, zn_T, rfl, rfl, rfl, Or.inl (zgw_p 29 (by decide +kernel) (by decide +kernel))⟩
theorem zfF_T_15 : zflF "SweptFloors$Text" 15 1 2 (.array (.int)) := ⟨zT_T, 8, zY_T, rfl, by decide, zi_T, zy_T, zn_T, rfl, rfl, rfl, zgw_p 29 (by decide +kernel) (by decide +kernel)⟩
theorem zf_G_63 : zfl "SweptFloors$Ground" 63 1 2 true (.array (.int)) := ⟨zR_T, zT_T, 8, zY_T, rfl, by decide, zi_T, zy_T, zn_T, rfl, rfl, rfl, Or.inr (znest_p 30 (by decide +kernel) rfl)⟩
theorem zf_T_22 : zfl "SweptFloors$Text" 22 1 3 false .int := ⟨zR_T, zT_T, 8, zY_T, rfl, by decide, zi_T, zy_T, zn_T, rfl, rfl, rfl, Or.inl (zgw_p 31 (by decide +kernel) (by decide +kernel))⟩
theorem zf_G_60 : zfl "SweptFloors$Ground" 60 1 3 false .int := ⟨zR_T, zT_T, 8, zY_T, rfl, by decide, zi_T, zy_T, zn_T, rfl, rfl, rfl, Or.inr (znest_p 32 (by decide +kernel) rfl)⟩
theorem zf_G_9 : zfl "SweptFloors$Ground" 9 1 4 false .int := ⟨zR_T, zT_T, 8, zY_T, rfl, by decide, zi_T, zy_T, zn_T, rfl, rfl, rfl, Or.inr (znest_p 33 (by decide +kernel) rfl)⟩
theorem zf_T_25 : zfl "SweptFloors$Text" 25 1 4 false .int := ⟨zR_T, zT_T, 8, zY_T, rfl, by decide, zi_T, zy_T, zn_T, rfl, rfl, rfl, Or.inl (zgw_p 34 (by decide +kernel) (by decide +kernel))⟩
theorem zf_G_18 : zfl "SweptFloors$Ground" 18 1 5 false .int := ⟨zR_T, zT_T, 8, zY_T, rfl, by decide, zi_T, zy_T, zn_T, rfl, rfl, rfl, Or.inr (znest_p 35 (by decide +kernel) rfl)⟩
theorem zf_T_28 : zfl "SweptFloors$Text" 28 1 5 false .int := ⟨zR_T, zT_T, 8, zY_T, rfl, by decide, zi_T, zy_T, zn_T, rfl, rfl, rfl, Or.inl (zgw_p 36 (by decide +kernel) (by decide +kernel))⟩
theorem zf_T_31 : zfl "SweptFloors$Text" 31 1 6 false .int := ⟨zR_T, zT_T, 8, zY_T, rfl, by decide, zi_T, zy_T, zn_T, rfl, rfl, rfl, Or.inl (zgw_p 37 (by decide +kernel) (by decide +kernel))⟩
theorem zf_G_22 : zfl "SweptFloors$Ground" 22 1 7 false .int := ⟨zR_T, zT_T, 8, zY_T, rfl, by decide, zi_T, zy_T, zn_T, rfl, rfl, rfl, Or.inr (znest_p 38 (by decide +kernel) rfl)⟩
theorem zf_T_34 : zfl "SweptFloors$Text" 34 1 7 false .int := ⟨zR_T, zT_T, 8, zY_T, rfl, by decide, zi_T, zy_T, zn_T, rfl, rfl, rfl, Or.inl (zgw_p 39 (by decide +kernel) (by decide +kernel))⟩
theorem zf_G_15 : zfl "SweptFloors$Ground" 15 2 0 false .int := ⟨zR_G, zT_G, 10, zY_G, rfl, by decide, zi_G, zy_G, zn_G, rfl, rfl, rfl, Or.inl (zgw_p 64 (by decide +kernel) (by decide +kernel))⟩
theorem zf_F_229 : zfl "SweptFloors" 229 2 0 false .int := ⟨zR_G, zT_G, 10, zY_G, rfl, by decide, zi_G, zy_G, zn_G, rfl, rfl, rfl, Or.inr (znest_p 65 (by decide +kernel) rfl)⟩
theorem zf_G_21 : zfl "SweptFloors$Ground" 21 2 1 false .int := ⟨zR_G, zT_G, 10, zY_G, rfl, by decide, zi_G, zy_G, zn_G, rfl, rfl, rfl, Or.inl (zgw_p 66 (by decide +kernel) (by decide +kernel))⟩
theorem zf_F_232 : zfl "SweptFloors" 232 2 1 false .int := ⟨zR_G, zT_G, 10, zY_G, rfl, by decide, zi_G, zy_G, zn_G, rfl, rfl, rfl, Or.inr (znest_p 67 (by decide +kernel) rfl)⟩
theorem zf_P_19 : zfl "SweptFloors$Pilot" 19 2 2 false .int := ⟨zR_G, zT_G, 10, zY_G, rfl, by decide, zi_G, zy_G, zn_G, rfl, rfl, rfl, Or.inr (znest_p 68 (by decide +kernel) rfl)⟩
theorem zf_G_25 : zfl "SweptFloors$Ground" 25 2 2 false .int := ⟨zR_G, zT_G, 10, zY_G, rfl, by decide, zi_G, zy_G, zn_G, rfl, rfl, rfl, Or.inl (zgw_p 69 (by decide +kernel) (by decide +kernel))⟩
theorem zf_S_30 : zfl "SweptFloors$Situation" 30 2 2 false .int := ⟨zR_G, zT_G, 10, zY_G, rfl, by decide, zi_G, zy_G, zn_G, rfl, rfl, rfl, Or.inr (znest_p 70 (by decide +kernel) rfl)⟩
theorem zf_F_205 : zfl "SweptFloors" 205 2 2 false .int := ⟨zR_G, zT_G, 10, zY_G, rfl, by decide, zi_G, zy_G, zn_G, rfl, rfl, rfl, Or.inr (znest_p 71 (by decide +kernel) rfl)⟩
theorem zf_G_30 : zfl "SweptFloors$Ground" 30 2 3 false .long := ⟨zR_G, zT_G, 10, zY_G, rfl, by decide, zi_G, zy_G, zn_G, rfl, rfl, rfl, Or.inl (zgw_p 72 (by decide +kernel) (by decide +kernel))⟩
theorem zf_P_77 : zfl "SweptFloors$Pilot" 77 2 3 false .long := ⟨zR_G, zT_G, 10, zY_G, rfl, by decide, zi_G, zy_G, zn_G, rfl, rfl, rfl, Or.inr (znest_p 73 (by decide +kernel) rfl)⟩
theorem zf_S_139 : zfl "SweptFloors$Situation" 139 2 3 false .long := ⟨zR_G, zT_G, 10, zY_G, rfl, by decide, zi_G, zy_G, zn_G, rfl, rfl, rfl, Or.inr (znest_p 74 (by decide +kernel) rfl)⟩
theorem zf_G_38 : zfl "SweptFloors$Ground" 38 2 4 false .long := ⟨zR_G, zT_G, 10, zY_G, rfl, by decide, zi_G, zy_G, zn_G, rfl, rfl, rfl, Or.inl (zgw_p 75 (by decide +kernel) (by decide +kernel))⟩
theorem zf_S_64 : zfl "SweptFloors$Situation" 64 2 4 false .long := ⟨zR_G, zT_G, 10, zY_G, rfl, by decide, zi_G, zy_G, zn_G, rfl, rfl, rfl, Or.inr (znest_p 76 (by decide +kernel) rfl)⟩
theorem zf_F_202 : zfl "SweptFloors" 202 2 4 false .long := ⟨zR_G, zT_G, 10, zY_G, rfl, by decide, zi_G, zy_G, zn_G, rfl, rfl, rfl, Or.inr (znest_p 77 (by decide +kernel) rfl)⟩
theorem zf_G_41 : zfl "SweptFloors$Ground" 41 2 5 false .long := ⟨zR_G, zT_G, 10, zY_G, rfl, by decide, zi_G, zy_G, zn_G, rfl, rfl, rfl, Or.inl (zgw_p 78 (by decide +kernel) (by decide +kernel))⟩
theorem zf_S_79 : zfl "SweptFloors$Situation" 79 2 5 false .long := ⟨zR_G, zT_G, 10, zY_G, rfl, by decide, zi_G, zy_G, zn_G, rfl, rfl, rfl, Or.inr (znest_p 79 (by decide +kernel) rfl)⟩
theorem zf_G_44 : zfl "SweptFloors$Ground" 44 2 6 false .long := ⟨zR_G, zT_G, 10, zY_G, rfl, by decide, zi_G, zy_G, zn_G, rfl, rfl, rfl, Or.inl (zgw_p 80 (by decide +kernel) (by decide +kernel))⟩
theorem zf_S_76 : zfl "SweptFloors$Situation" 76 2 6 false .long := ⟨zR_G, zT_G, 10, zY_G, rfl, by decide, zi_G, zy_G, zn_G, rfl, rfl, rfl, Or.inr (znest_p 81 (by decide +kernel) rfl)⟩
theorem zf_P_80 : zfl "SweptFloors$Pilot" 80 2 6 false .long := ⟨zR_G, zT_G, 10, zY_G, rfl, by decide, zi_G, zy_G, zn_G, rfl, rfl, rfl, Or.inr (znest_p 82 (by decide +kernel) rfl)⟩
theorem zf_G_47 : zfl "SweptFloors$Ground" 47 2 7 false .long := ⟨zR_G, zT_G, 10, zY_G, rfl, by decide, zi_G, zy_G, zn_G, rfl, rfl, rfl, Or.inl (zgw_p 83 (by decide +kernel) (by decide +kernel))⟩
theorem zf_S_67 : zfl "SweptFloors$Situation" 67 2 7 false .long := ⟨zR_G, zT_G, 10, zY_G, rfl, by decide, zi_G, zy_G, zn_G, rfl, rfl, rfl, Or.inr (znest_p 84 (by decide +kernel) rfl)⟩
theorem zf_F_97 : zfl "SweptFloors" 97 2 7 false .long := ⟨zR_G, zT_G, 10, zY_G, rfl, by decide, zi_G, zy_G, zn_G, rfl, rfl, rfl, Or.inr (znest_p 85 (by decide +kernel) rfl)⟩
theorem zf_G_50 : zfl "SweptFloors$Ground" 50 2 8 false .long := ⟨zR_G, zT_G, 10, zY_G, rfl, by decide, zi_G, zy_G, zn_G, rfl, rfl, rfl, Or.inl (zgw_p 86 (by decide +kernel) (by decide +kernel))⟩
theorem zf_G_57 : zfl "SweptFloors$Ground" 57 2 9 false .long := ⟨zR_G, zT_G, 10, zY_G, rfl, by decide, zi_G, zy_G, zn_G, rfl, rfl, rfl, Or.inl (zgw_p 87 (by decide +kernel) (by decide +kernel))⟩
theorem zf_S_15 : zfl "SweptFloors$Situation" 15 3 0 true (.object "SweptFloors$Ground") := ⟨zR_S, zT_S, 11, zY_S, rfl, by decide, zi_S, zy_S, zn_S, rfl, rfl, rfl, Or.inl (zgw_p 115 (by decide +kernel) (by decide +kernel))⟩
theorem zfF_S_15 : zflF "SweptFloors$Situation" 15 3 0 (.object "SweptFloors$Ground") := ⟨zT_S, 11, zY_S, rfl, by decide, zi_S, zy_S, zn_S, rfl, rfl, rfl, zgw_p 115 (by decide +kernel) (by decide +kernel)⟩
theorem zf_P_15 : zfl "SweptFloors$Pilot" 15 3 0 true (.object "SweptFloors$Ground") := ⟨zR_S, zT_S, 11, zY_S, rfl, by decide, zi_S, zy_S, zn_S, rfl, rfl, rfl, Or.inr (znest_p 116 (by decide +kernel) rfl)⟩
theorem zf_S_19 : zfl "SweptFloors$Situation" 19 3 1 false .long := ⟨zR_S, zT_S, 11, zY_S, rfl, by decide, zi_S, zy_S, zn_S, rfl, rfl, rfl, Or.inl (zgw_p 117 (by decide +kernel) (by decide +kernel))⟩
theorem zf_F_108 : zfl "SweptFloors" 108 3 1 false .long := ⟨zR_S, zT_S, 11, zY_S, rfl, by decide, zi_S, zy_S, zn_S, rfl, rfl, rfl, Or.inr (znest_p 118 (by decide +kernel) rfl)⟩
theorem zf_S_23 : zfl "SweptFloors$Situation" 23 3 2 false .int := ⟨zR_S, zT_S, 11, zY_S, rfl, by decide, zi_S, zy_S, zn_S, rfl, rfl, rfl, Or.inl (zgw_p 119 (by decide +kernel) (by decide +kernel))⟩
theorem zf_P_27 : zfl "SweptFloors$Pilot" 27 3 2 false .int := ⟨zR_S, zT_S, 11, zY_S, rfl, by decide, zi_S, zy_S, zn_S, rfl, rfl, rfl, Or.inr (znest_p 120 (by decide +kernel) rfl)⟩
theorem zf_F_78 : zfl "SweptFloors" 78 3 2 false .int := ⟨zR_S, zT_S, 11, zY_S, rfl, by decide, zi_S, zy_S, zn_S, rfl, rfl, rfl, Or.inr (znest_p 121 (by decide +kernel) rfl)⟩
theorem zf_S_27 : zfl "SweptFloors$Situation" 27 3 3 false .int := ⟨zR_S, zT_S, 11, zY_S, rfl, by decide, zi_S, zy_S, zn_S, rfl, rfl, rfl, Or.inl (zgw_p 122 (by decide +kernel) (by decide +kernel))⟩
theorem zf_P_30 : zfl "SweptFloors$Pilot" 30 3 3 false .int := ⟨zR_S, zT_S, 11, zY_S, rfl, by decide, zi_S, zy_S, zn_S, rfl, rfl, rfl, Or.inr (znest_p 123 (by decide +kernel) rfl)⟩
theorem zf_F_81 : zfl "SweptFloors" 81 3 3 false .int := ⟨zR_S, zT_S, 11, zY_S, rfl, by decide, zi_S, zy_S, zn_S, rfl, rfl, rfl, Or.inr (znest_p 124 (by decide +kernel) rfl)⟩
theorem zf_P_9 : zfl "SweptFloors$Pilot" 9 3 4 false .int := ⟨zR_S, zT_S, 11, zY_S, rfl, by decide, zi_S, zy_S, zn_S, rfl, rfl, rfl, Or.inr (znest_p 125 (by decide +kernel) rfl)⟩
theorem zf_S_35 : zfl "SweptFloors$Situation" 35 3 4 false .int := ⟨zR_S, zT_S, 11, zY_S, rfl, by decide, zi_S, zy_S, zn_S, rfl, rfl, rfl, Or.inl (zgw_p 126 (by decide +kernel) (by decide +kernel))⟩
theorem zf_F_105 : zfl "SweptFloors" 105 3 4 false .int := ⟨zR_S, zT_S, 11, zY_S, rfl, by decide, zi_S, zy_S, zn_S, rfl, rfl, rfl, Or.inr (znest_p 127 (by decide +kernel) rfl)⟩
theorem zf_S_38 : zfl "SweptFloors$Situation" 38 3 5 false .int := ⟨zR_S, zT_S, 11, zY_S, rfl, by decide, zi_S, zy_S, zn_S, rfl, rfl, rfl, Or.inl (zgw_p 128 (by decide +kernel) (by decide +kernel))⟩
theorem zf_F_115 : zfl "SweptFloors" 115 3 5 false .int := ⟨zR_S, zT_S, 11, zY_S, rfl, by decide, zi_S, zy_S, zn_S, rfl, rfl, rfl, Or.inr (znest_p 129 (by decide +kernel) rfl)⟩
theorem zf_P_24 : zfl "SweptFloors$Pilot" 24 3 6 false .int := ⟨zR_S, zT_S, 11, zY_S, rfl, by decide, zi_S, zy_S, zn_S, rfl, rfl, rfl, Or.inr (znest_p 130 (by decide +kernel) rfl)⟩
theorem zf_S_41 : zfl "SweptFloors$Situation" 41 3 6 false .int := ⟨zR_S, zT_S, 11, zY_S, rfl, by decide, zi_S, zy_S, zn_S, rfl, rfl, rfl, Or.inl (zgw_p 131 (by decide +kernel) (by decide +kernel))⟩
theorem zf_F_88 : zfl "SweptFloors" 88 3 6 false .int := ⟨zR_S, zT_S, 11, zY_S, rfl, by decide, zi_S, zy_S, zn_S, rfl, rfl, rfl, Or.inr (znest_p 132 (by decide +kernel) rfl)⟩
theorem zf_S_48 : zfl "SweptFloors$Situation" 48 3 7 false .long := ⟨zR_S, zT_S, 11, zY_S, rfl, by decide, zi_S, zy_S, zn_S, rfl, rfl, rfl, Or.inl (zgw_p 133 (by decide +kernel) (by decide +kernel))⟩
theorem zf_P_69 : zfl "SweptFloors$Pilot" 69 3 7 false .long := ⟨zR_S, zT_S, 11, zY_S, rfl, by decide, zi_S, zy_S, zn_S, rfl, rfl, rfl, Or.inr (znest_p 134 (by decide +kernel) rfl)⟩
theorem zf_F_149 : zfl "SweptFloors" 149 3 7 false .long := ⟨zR_S, zT_S, 11, zY_S, rfl, by decide, zi_S, zy_S, zn_S, rfl, rfl, rfl, Or.inr (znest_p 135 (by decide +kernel) rfl)⟩
theorem zf_S_51 : zfl "SweptFloors$Situation" 51 3 8 false .long := ⟨zR_S, zT_S, 11, zY_S, rfl, by decide, zi_S, zy_S, zn_S, rfl, rfl, rfl, Or.inl (zgw_p 136 (by decide +kernel) (by decide +kernel))⟩
theorem zf_P_85 : zfl "SweptFloors$Pilot" 85 3 8 false .long := ⟨zR_S, zT_S, 11, zY_S, rfl, by decide, zi_S, zy_S, zn_S, rfl, rfl, rfl, Or.inr (znest_p 137 (by decide +kernel) rfl)⟩
theorem zf_F_158 : zfl "SweptFloors" 158 3 8 false .long := ⟨zR_S, zT_S, 11, zY_S, rfl, by decide, zi_S, zy_S, zn_S, rfl, rfl, rfl, Or.inr (znest_p 138 (by decide +kernel) rfl)⟩
theorem zf_S_54 : zfl "SweptFloors$Situation" 54 3 9 false .boolean := ⟨zR_S, zT_S, 11, zY_S, rfl, by decide, zi_S, zy_S, zn_S, rfl, rfl, rfl, Or.inl (zgw_p 139 (by decide +kernel) (by decide +kernel))⟩
theorem zf_F_135 : zfl "SweptFloors" 135 3 9 false .boolean := ⟨zR_S, zT_S, 11, zY_S, rfl, by decide, zi_S, zy_S, zn_S, rfl, rfl, rfl, Or.inr (znest_p 140 (by decide +kernel) rfl)⟩
theorem zf_S_9 : zfl "SweptFloors$Situation" 9 3 10 true (.array (.long)) := ⟨zR_S, zT_S, 11, zY_S, rfl, by decide, zi_S, zy_S, zn_S, rfl, rfl, rfl, Or.inl (zgw_p 141 (by decide +kernel) (by decide +kernel))⟩
theorem zfF_S_9 : zflF "SweptFloors$Situation" 9 3 10 (.array (.long)) := ⟨zT_S, 11, zY_S, rfl, by decide, zi_S, zy_S, zn_S, rfl, rfl, rfl, zgw_p 141 (by decide +kernel) (by decide +kernel)⟩
theorem zf_P_56 : zfl "SweptFloors$Pilot" 56 4 0 false .int := ⟨zR_P, zT_P, 4, zY_P, rfl, by decide, zi_P, zy_P, zn_P, rfl, rfl, rfl, Or.inl (zgw_p 172 (by decide +kernel) (by decide +kernel))⟩
theorem zf_F_170 : zfl "SweptFloors" 170 4 0 false .int := ⟨zR_P, zT_P, 4, zY_P, rfl, by decide, zi_P, zy_P, zn_P, rfl, rfl, rfl, Or.inr (znest_p 173 (by decide +kernel) rfl)⟩
theorem zf_P_53 : zfl "SweptFloors$Pilot" 53 4 1 false .int := ⟨zR_P, zT_P, 4, zY_P, rfl, by decide, zi_P, zy_P, zn_P, rfl, rfl, rfl, Or.inl (zgw_p 174 (by decide +kernel) (by decide +kernel))⟩
theorem zf_F_179 : zfl "SweptFloors" 179 4 1 false .int := ⟨zR_P, zT_P, 4, zY_P, rfl, by decide, zi_P, zy_P, zn_P, rfl, rfl, rfl, Or.inr (znest_p 175 (by decide +kernel) rfl)⟩
theorem zf_P_104 : zfl "SweptFloors$Pilot" 104 4 2 false .int := ⟨zR_P, zT_P, 4, zY_P, rfl, by decide, zi_P, zy_P, zn_P, rfl, rfl, rfl, Or.inl (zgw_p 176 (by decide +kernel) (by decide +kernel))⟩
theorem zf_F_173 : zfl "SweptFloors" 173 4 2 false .int := ⟨zR_P, zT_P, 4, zY_P, rfl, by decide, zi_P, zy_P, zn_P, rfl, rfl, rfl, Or.inr (znest_p 177 (by decide +kernel) rfl)⟩
theorem zf_P_110 : zfl "SweptFloors$Pilot" 110 4 3 false .int := ⟨zR_P, zT_P, 4, zY_P, rfl, by decide, zi_P, zy_P, zn_P, rfl, rfl, rfl, Or.inl (zgw_p 178 (by decide +kernel) (by decide +kernel))⟩
theorem zf_F_176 : zfl "SweptFloors" 176 4 3 false .int := ⟨zR_P, zT_P, 4, zY_P, rfl, by decide, zi_P, zy_P, zn_P, rfl, rfl, rfl, Or.inr (znest_p 179 (by decide +kernel) rfl)⟩
theorem zf_H_11 : zfl "SweptFloors$History" 11 5 0 true (.array (.object "SweptFloors$Situation")) := ⟨zR_H, zT_H, 3, zY_H, rfl, by decide, zi_H, zy_H, zn_H, rfl, rfl, rfl, Or.inl (zgw_p 198 (by decide +kernel) (by decide +kernel))⟩
theorem zfF_H_11 : zflF "SweptFloors$History" 11 5 0 (.array (.object "SweptFloors$Situation")) := ⟨zT_H, 3, zY_H, rfl, by decide, zi_H, zy_H, zn_H, rfl, rfl, rfl, zgw_p 198 (by decide +kernel) (by decide +kernel)⟩
theorem zf_H_20 : zfl "SweptFloors$History" 20 5 1 false .int := ⟨zR_H, zT_H, 3, zY_H, rfl, by decide, zi_H, zy_H, zn_H, rfl, rfl, rfl, Or.inl (zgw_p 199 (by decide +kernel) (by decide +kernel))⟩
theorem zf_H_28 : zfl "SweptFloors$History" 28 5 2 false .int := ⟨zR_H, zT_H, 3, zY_H, rfl, by decide, zi_H, zy_H, zn_H, rfl, rfl, rfl, Or.inl (zgw_p 200 (by decide +kernel) (by decide +kernel))⟩
theorem zf_F_147 : zfl "SweptFloors" 147 5 2 false .int := ⟨zR_H, zT_H, 3, zY_H, rfl, by decide, zi_H, zy_H, zn_H, rfl, rfl, rfl, Or.inr (znest_p 201 (by decide +kernel) rfl)⟩
theorem zf_A_11 : zfl "SweptFloors$Album" 11 6 0 true (.array (.object "SweptFloors$Situation")) := ⟨zR_A, zT_A, 2, zY_A, rfl, by decide, zi_A, zy_A, zn_A, rfl, rfl, rfl, Or.inl (zgw_p 217 (by decide +kernel) (by decide +kernel))⟩
theorem zfF_A_11 : zflF "SweptFloors$Album" 11 6 0 (.array (.object "SweptFloors$Situation")) := ⟨zT_A, 2, zY_A, rfl, by decide, zi_A, zy_A, zn_A, rfl, rfl, rfl, zgw_p 217 (by decide +kernel) (by decide +kernel)⟩
theorem zf_A_17 : zfl "SweptFloors$Album" 17 6 1 true (.array (.boolean)) := ⟨zR_A, zT_A, 2, zY_A, rfl, by decide, zi_A, zy_A, zn_A, rfl, rfl, rfl, Or.inl (zgw_p 218 (by decide +kernel) (by decide +kernel))⟩
theorem zfF_A_17 : zflF "SweptFloors$Album" 17 6 1 (.array (.boolean)) := ⟨zT_A, 2, zY_A, rfl, by decide, zi_A, zy_A, zn_A, rfl, rfl, rfl, zgw_p 218 (by decide +kernel) (by decide +kernel)⟩
theorem zf_F_12 : zfl "SweptFloors" 12 0 0 true (.object "SweptFloors$Text") := ⟨zR_F, zT_F, 7, zY_F, rfl, by decide, zi_F, zy_F, zn_F, rfl, rfl, rfl, Or.inl (zgw_p 275 (by decide +kernel) (by decide +kernel))⟩
theorem zfF_F_12 : zflF "SweptFloors" 12 0 0 (.object "SweptFloors$Text") := ⟨zT_F, 7, zY_F, rfl, by decide, zi_F, zy_F, zn_F, rfl, rfl, rfl, zgw_p 275 (by decide +kernel) (by decide +kernel)⟩
theorem zf_F_19 : zfl "SweptFloors" 19 0 1 true (.object "SweptFloors$Ground") := ⟨zR_F, zT_F, 7, zY_F, rfl, by decide, zi_F, zy_F, zn_F, rfl, rfl, rfl, Or.inl (zgw_p 276 (by decide +kernel) (by decide +kernel))⟩
theorem zfF_F_19 : zflF "SweptFloors" 19 0 1 (.object "SweptFloors$Ground") := ⟨zT_F, 7, zY_F, rfl, by decide, zi_F, zy_F, zn_F, rfl, rfl, rfl, zgw_p 276 (by decide +kernel) (by decide +kernel)⟩
theorem zf_F_28 : zfl "SweptFloors" 28 0 2 true (.object "SweptFloors$Situation") := ⟨zR_F, zT_F, 7, zY_F, rfl, by decide, zi_F, zy_F, zn_F, rfl, rfl, rfl, Or.inl (zgw_p 277 (by decide +kernel) (by decide +kernel))⟩
theorem zfF_F_28 : zflF "SweptFloors" 28 0 2 (.object "SweptFloors$Situation") := ⟨zT_F, 7, zY_F, rfl, by decide, zi_F, zy_F, zn_F, rfl, rfl, rfl, zgw_p 277 (by decide +kernel) (by decide +kernel)⟩
theorem zf_F_32 : zfl "SweptFloors" 32 0 3 true (.object "SweptFloors$Situation") := ⟨zR_F, zT_F, 7, zY_F, rfl, by decide, zi_F, zy_F, zn_F, rfl, rfl, rfl, Or.inl (zgw_p 278 (by decide +kernel) (by decide +kernel))⟩
theorem zfF_F_32 : zflF "SweptFloors" 32 0 3 (.object "SweptFloors$Situation") := ⟨zT_F, 7, zY_F, rfl, by decide, zi_F, zy_F, zn_F, rfl, rfl, rfl, zgw_p 278 (by decide +kernel) (by decide +kernel)⟩
theorem zf_F_38 : zfl "SweptFloors" 38 0 4 true (.object "SweptFloors$Pilot") := ⟨zR_F, zT_F, 7, zY_F, rfl, by decide, zi_F, zy_F, zn_F, rfl, rfl, rfl, Or.inl (zgw_p 279 (by decide +kernel) (by decide +kernel))⟩
theorem zfF_F_38 : zflF "SweptFloors" 38 0 4 (.object "SweptFloors$Pilot") := ⟨zT_F, 7, zY_F, rfl, by decide, zi_F, zy_F, zn_F, rfl, rfl, rfl, zgw_p 279 (by decide +kernel) (by decide +kernel)⟩
theorem zf_F_45 : zfl "SweptFloors" 45 0 5 true (.object "SweptFloors$History") := ⟨zR_F, zT_F, 7, zY_F, rfl, by decide, zi_F, zy_F, zn_F, rfl, rfl, rfl, Or.inl (zgw_p 280 (by decide +kernel) (by decide +kernel))⟩
theorem zfF_F_45 : zflF "SweptFloors" 45 0 5 (.object "SweptFloors$History") := ⟨zT_F, 7, zY_F, rfl, by decide, zi_F, zy_F, zn_F, rfl, rfl, rfl, zgw_p 280 (by decide +kernel) (by decide +kernel)⟩
theorem zf_F_52 : zfl "SweptFloors" 52 0 6 true (.object "SweptFloors$Album") := ⟨zR_F, zT_F, 7, zY_F, rfl, by decide, zi_F, zy_F, zn_F, rfl, rfl, rfl, Or.inl (zgw_p 281 (by decide +kernel) (by decide +kernel))⟩
theorem zfF_F_52 : zflF "SweptFloors" 52 0 6 (.object "SweptFloors$Album") := ⟨zT_F, 7, zY_F, rfl, by decide, zi_F, zy_F, zn_F, rfl, rfl, rfl, zgw_p 281 (by decide +kernel) (by decide +kernel)⟩
theorem zf_M_7 : zfl "SweptFloorsModel" 7 7 0 false .int := ⟨zR_M, zT_M, 25, zY_M, rfl, by decide, zi_M, zy_M, zn_M, rfl, rfl, rfl, Or.inl (zgw_p 611 (by decide +kernel) (by decide +kernel))⟩
theorem zf_M_13 : zfl "SweptFloorsModel" 13 7 1 false .int := ⟨zR_M, zT_M, 25, zY_M, rfl, by decide, zi_M, zy_M, zn_M, rfl, rfl, rfl, Or.inl (zgw_p 612 (by decide +kernel) (by decide +kernel))⟩
theorem zf_M_61 : zfl "SweptFloorsModel" 61 7 2 false .int := ⟨zR_M, zT_M, 25, zY_M, rfl, by decide, zi_M, zy_M, zn_M, rfl, rfl, rfl, Or.inl (zgw_p 613 (by decide +kernel) (by decide +kernel))⟩
theorem zf_M_16 : zfl "SweptFloorsModel" 16 7 3 true (.array (.int)) := ⟨zR_M, zT_M, 25, zY_M, rfl, by decide, zi_M, zy_M, zn_M, rfl, rfl, rfl, Or.inl (zgw_p 614 (by decide +kernel) (by decide +kernel))⟩
theorem zfF_M_16 : zflF "SweptFloorsModel" 16 7 3 (.array (.int)) := ⟨zT_M, 25, zY_M, rfl, by decide, zi_M, zy_M, zn_M, rfl, rfl, rfl, zgw_p 614 (by decide +kernel) (by decide +kernel)⟩
theorem zf_M_64 : zfl "SweptFloorsModel" 64 7 4 false .int := ⟨zR_M, zT_M, 25, zY_M, rfl, by decide, zi_M, zy_M, zn_M, rfl, rfl, rfl, Or.inl (zgw_p 615 (by decide +kernel) (by decide +kernel))⟩
theorem zf_M_20 : zfl "SweptFloorsModel" 20 7 5 true (.array (.int)) := ⟨zR_M, zT_M, 25, zY_M, rfl, by decide, zi_M, zy_M, zn_M, rfl, rfl, rfl, Or.inl (zgw_p 616 (by decide +kernel) (by decide +kernel))⟩
theorem zfF_M_20 : zflF "SweptFloorsModel" 20 7 5 (.array (.int)) := ⟨zT_M, 25, zY_M, rfl, by decide, zi_M, zy_M, zn_M, rfl, rfl, rfl, zgw_p 616 (by decide +kernel) (by decide +kernel)⟩
theorem zf_M_23 : zfl "SweptFloorsModel" 23 7 6 true (.array (.boolean)) := ⟨zR_M, zT_M, 25, zY_M, rfl, by decide, zi_M, zy_M, zn_M, rfl, rfl, rfl, Or.inl (zgw_p 617 (by decide +kernel) (by decide +kernel))⟩
theorem zfF_M_23 : zflF "SweptFloorsModel" 23 7 6 (.array (.boolean)) := ⟨zT_M, 25, zY_M, rfl, by decide, zi_M, zy_M, zn_M, rfl, rfl, rfl, zgw_p 617 (by decide +kernel) (by decide +kernel)⟩
theorem zf_M_27 : zfl "SweptFloorsModel" 27 7 7 true (.array (.int)) := ⟨zR_M, zT_M, 25, zY_M, rfl, by decide, zi_M, zy_M, zn_M, rfl, rfl, rfl, Or.inl (zgw_p 618 (by decide +kernel) (by decide +kernel))⟩
theorem zfF_M_27 : zflF "SweptFloorsModel" 27 7 7 (.array (.int)) := ⟨zT_M, 25, zY_M, rfl, by decide, zi_M, zy_M, zn_M, rfl, rfl, rfl, zgw_p 618 (by decide +kernel) (by decide +kernel)⟩
theorem zf_M_30 : zfl "SweptFloorsModel" 30 7 8 true (.array (.int)) := ⟨zR_M, zT_M, 25, zY_M, rfl, by decide, zi_M, zy_M, zn_M, rfl, rfl, rfl, Or.inl (zgw_p 619 (by decide +kernel) (by decide +kernel))⟩
theorem zfF_M_30 : zflF "SweptFloorsModel" 30 7 8 (.array (.int)) := ⟨zT_M, 25, zY_M, rfl, by decide, zi_M, zy_M, zn_M, rfl, rfl, rfl, zgw_p 619 (by decide +kernel) (by decide +kernel)⟩
theorem zf_M_71 : zfl "SweptFloorsModel" 71 7 9 false .int := ⟨zR_M, zT_M, 25, zY_M, rfl, by decide, zi_M, zy_M, zn_M, rfl, rfl, rfl, Or.inl (zgw_p 620 (by decide +kernel) (by decide +kernel))⟩
theorem zf_M_33 : zfl "SweptFloorsModel" 33 7 10 true (.array (.int)) := ⟨zR_M, zT_M, 25, zY_M, rfl, by decide, zi_M, zy_M, zn_M, rfl, rfl, rfl, Or.inl (zgw_p 621 (by decide +kernel) (by decide +kernel))⟩
theorem zfF_M_33 : zflF "SweptFloorsModel" 33 7 10 (.array (.int)) := ⟨zT_M, 25, zY_M, rfl, by decide, zi_M, zy_M, zn_M, rfl, rfl, rfl, zgw_p 621 (by decide +kernel) (by decide +kernel)⟩
theorem zf_M_36 : zfl "SweptFloorsModel" 36 7 11 true (.array (.int)) := ⟨zR_M, zT_M, 25, zY_M, rfl, by decide, zi_M, zy_M, zn_M, rfl, rfl, rfl, Or.inl (zgw_p 622 (by decide +kernel) (by decide +kernel))⟩
theorem zfF_M_36 : zflF "SweptFloorsModel" 36 7 11 (.array (.int)) := ⟨zT_M, 25, zY_M, rfl, by decide, zi_M, zy_M, zn_M, rfl, rfl, rfl, zgw_p 622 (by decide +kernel) (by decide +kernel)⟩
theorem zf_M_77 : zfl "SweptFloorsModel" 77 7 12 false .int := ⟨zR_M, zT_M, 25, zY_M, rfl, by decide, zi_M, zy_M, zn_M, rfl, rfl, rfl, Or.inl (zgw_p 623 (by decide +kernel) (by decide +kernel))⟩
theorem zf_M_80 : zfl "SweptFloorsModel" 80 7 13 false .int := ⟨zR_M, zT_M, 25, zY_M, rfl, by decide, zi_M, zy_M, zn_M, rfl, rfl, rfl, Or.inl (zgw_p 624 (by decide +kernel) (by decide +kernel))⟩
theorem zf_M_74 : zfl "SweptFloorsModel" 74 7 14 false .int := ⟨zR_M, zT_M, 25, zY_M, rfl, by decide, zi_M, zy_M, zn_M, rfl, rfl, rfl, Or.inl (zgw_p 625 (by decide +kernel) (by decide +kernel))⟩
theorem zf_M_87 : zfl "SweptFloorsModel" 87 7 15 false .int := ⟨zR_M, zT_M, 25, zY_M, rfl, by decide, zi_M, zy_M, zn_M, rfl, rfl, rfl, Or.inl (zgw_p 626 (by decide +kernel) (by decide +kernel))⟩
theorem zf_M_39 : zfl "SweptFloorsModel" 39 7 16 true (.array (.int)) := ⟨zR_M, zT_M, 25, zY_M, rfl, by decide, zi_M, zy_M, zn_M, rfl, rfl, rfl, Or.inl (zgw_p 627 (by decide +kernel) (by decide +kernel))⟩
theorem zfF_M_39 : zflF "SweptFloorsModel" 39 7 16 (.array (.int)) := ⟨zT_M, 25, zY_M, rfl, by decide, zi_M, zy_M, zn_M, rfl, rfl, rfl, zgw_p 627 (by decide +kernel) (by decide +kernel)⟩
theorem zf_M_42 : zfl "SweptFloorsModel" 42 7 17 true (.array (.int)) := ⟨zR_M, zT_M, 25, zY_M, rfl, by decide, zi_M, zy_M, zn_M, rfl, rfl, rfl, Or.inl (zgw_p 628 (by decide +kernel) (by decide +kernel))⟩
theorem zfF_M_42 : zflF "SweptFloorsModel" 42 7 17 (.array (.int)) := ⟨zT_M, 25, zY_M, rfl, by decide, zi_M, zy_M, zn_M, rfl, rfl, rfl, zgw_p 628 (by decide +kernel) (by decide +kernel)⟩
theorem zf_M_45 : zfl "SweptFloorsModel" 45 7 18 true (.array (.int)) := ⟨zR_M, zT_M, 25, zY_M, rfl, by decide, zi_M, zy_M, zn_M, rfl, rfl, rfl, Or.inl (zgw_p 629 (by decide +kernel) (by decide +kernel))⟩
theorem zfF_M_45 : zflF "SweptFloorsModel" 45 7 18 (.array (.int)) := ⟨zT_M, 25, zY_M, rfl, by decide, zi_M, zy_M, zn_M, rfl, rfl, rfl, zgw_p 629 (by decide +kernel) (by decide +kernel)⟩
theorem zf_M_48 : zfl "SweptFloorsModel" 48 7 19 true (.array (.int)) := ⟨zR_M, zT_M, 25, zY_M, rfl, by decide, zi_M, zy_M, zn_M, rfl, rfl, rfl, Or.inl (zgw_p 630 (by decide +kernel) (by decide +kernel))⟩
theorem zfF_M_48 : zflF "SweptFloorsModel" 48 7 19 (.array (.int)) := ⟨zT_M, 25, zY_M, rfl, by decide, zi_M, zy_M, zn_M, rfl, rfl, rfl, zgw_p 630 (by decide +kernel) (by decide +kernel)⟩
theorem zf_M_143 : zfl "SweptFloorsModel" 143 7 20 false .int := ⟨zR_M, zT_M, 25, zY_M, rfl, by decide, zi_M, zy_M, zn_M, rfl, rfl, rfl, Or.inl (zgw_p 631 (by decide +kernel) (by decide +kernel))⟩
theorem zf_M_152 : zfl "SweptFloorsModel" 152 7 21 false .int := ⟨zR_M, zT_M, 25, zY_M, rfl, by decide, zi_M, zy_M, zn_M, rfl, rfl, rfl, Or.inl (zgw_p 632 (by decide +kernel) (by decide +kernel))⟩
theorem zf_M_149 : zfl "SweptFloorsModel" 149 7 22 false .int := ⟨zR_M, zT_M, 25, zY_M, rfl, by decide, zi_M, zy_M, zn_M, rfl, rfl, rfl, Or.inl (zgw_p 633 (by decide +kernel) (by decide +kernel))⟩
theorem zf_M_155 : zfl "SweptFloorsModel" 155 7 23 false .int := ⟨zR_M, zT_M, 25, zY_M, rfl, by decide, zi_M, zy_M, zn_M, rfl, rfl, rfl, Or.inl (zgw_p 634 (by decide +kernel) (by decide +kernel))⟩
theorem zf_M_51 : zfl "SweptFloorsModel" 51 7 24 true (.array (.int)) := ⟨zR_M, zT_M, 25, zY_M, rfl, by decide, zi_M, zy_M, zn_M, rfl, rfl, rfl, Or.inl (zgw_p 635 (by decide +kernel) (by decide +kernel))⟩
theorem zfF_M_51 : zflF "SweptFloorsModel" 51 7 24 (.array (.int)) := ⟨zT_M, 25, zY_M, rfl, by decide, zi_M, zy_M, zn_M, rfl, rfl, rfl, zgw_p 635 (by decide +kernel) (by decide +kernel)⟩
theorem zcK_L_7 : Cond.classLink "SweptFloorsLaw" 7 "SweptFloors" ∈ zgw := zgw_p 12 (by decide +kernel) (by decide +kernel)
theorem zin_F : Cond.instantiable "SweptFloors" 7 ∈ zgw := zgw_p 13 (by decide +kernel) (by decide +kernel)
theorem zii_F : Cond.initialized "SweptFloors" ∈ zgw := zgw_p 1 (by decide +kernel) (by decide +kernel)
theorem zcK_F_9 : Cond.classLink "SweptFloors" 9 "SweptFloors$Text" ∈ zgw := zgw_p 20 (by decide +kernel) (by decide +kernel)
theorem zin_T : Cond.instantiable "SweptFloors$Text" 8 ∈ zgw := zgw_p 21 (by decide +kernel) (by decide +kernel)
theorem zii_T : Cond.initialized "SweptFloors$Text" ∈ zgw := zgw_p 2 (by decide +kernel) (by decide +kernel)
theorem zcK_F_16 : Cond.classLink "SweptFloors" 16 "SweptFloors$Ground" ∈ zgw := zgw_p 58 (by decide +kernel) (by decide +kernel)
theorem zin_G : Cond.instantiable "SweptFloors$Ground" 10 ∈ zgw := zgw_p 59 (by decide +kernel) (by decide +kernel)
theorem zii_G : Cond.initialized "SweptFloors$Ground" ∈ zgw := zgw_p 3 (by decide +kernel) (by decide +kernel)
theorem zcK_F_23 : Cond.classLink "SweptFloors" 23 "SweptFloors$Situation" ∈ zgw := zgw_p 109 (by decide +kernel) (by decide +kernel)
theorem zin_S : Cond.instantiable "SweptFloors$Situation" 11 ∈ zgw := zgw_p 110 (by decide +kernel) (by decide +kernel)
theorem zii_S : Cond.initialized "SweptFloors$Situation" ∈ zgw := zgw_p 4 (by decide +kernel) (by decide +kernel)
theorem zcK_F_35 : Cond.classLink "SweptFloors" 35 "SweptFloors$Pilot" ∈ zgw := zgw_p 166 (by decide +kernel) (by decide +kernel)
theorem zin_P : Cond.instantiable "SweptFloors$Pilot" 4 ∈ zgw := zgw_p 167 (by decide +kernel) (by decide +kernel)
theorem zii_P : Cond.initialized "SweptFloors$Pilot" ∈ zgw := zgw_p 5 (by decide +kernel) (by decide +kernel)
theorem zcK_F_42 : Cond.classLink "SweptFloors" 42 "SweptFloors$History" ∈ zgw := zgw_p 189 (by decide +kernel) (by decide +kernel)
theorem zin_H : Cond.instantiable "SweptFloors$History" 3 ∈ zgw := zgw_p 190 (by decide +kernel) (by decide +kernel)
theorem zii_H : Cond.initialized "SweptFloors$History" ∈ zgw := zgw_p 6 (by decide +kernel) (by decide +kernel)
theorem zcK_H_9 : Cond.classLink "SweptFloors$History" 9 "SweptFloors$Situation" ∈ zgw := zgw_p 195 (by decide +kernel) (by decide +kernel)
theorem zcK_F_49 : Cond.classLink "SweptFloors" 49 "SweptFloors$Album" ∈ zgw := zgw_p 209 (by decide +kernel) (by decide +kernel)
theorem zin_A : Cond.instantiable "SweptFloors$Album" 2 ∈ zgw := zgw_p 210 (by decide +kernel) (by decide +kernel)
theorem zii_A : Cond.initialized "SweptFloors$Album" ∈ zgw := zgw_p 7 (by decide +kernel) (by decide +kernel)
theorem zcK_A_9 : Cond.classLink "SweptFloors$Album" 9 "SweptFloors$Situation" ∈ zgw := zgw_p 215 (by decide +kernel) (by decide +kernel)
theorem zcl_G_67 : Cond.constantLong "SweptFloors$Ground" 67 (-1) ∈ zgw := zgw_p 366 (by decide +kernel) (by decide +kernel)
theorem zcl_J_314 : Cond.constantLong "java/lang/Long" 314 (6148914691236517205) ∈ zgw := zgw_p 373 (by decide +kernel) (by decide +kernel)
theorem zcl_J_316 : Cond.constantLong "java/lang/Long" 316 (3689348814741910323) ∈ zgw := zgw_p 374 (by decide +kernel) (by decide +kernel)
theorem zcl_J_318 : Cond.constantLong "java/lang/Long" 318 (1085102592571150095) ∈ zgw := zgw_p 375 (by decide +kernel) (by decide +kernel)
theorem zcl_S_70 : Cond.constantLong "SweptFloors$Situation" 70 (-1) ∈ zgw := zgw_p 384 (by decide +kernel) (by decide +kernel)
theorem zcl_P_83 : Cond.constantLong "SweptFloors$Pilot" 83 (-1) ∈ zgw := zgw_p 472 (by decide +kernel) (by decide +kernel)
theorem zcl_F_192 : Cond.constantLong "SweptFloors" 192 (-1) ∈ zgw := zgw_p 545 (by decide +kernel) (by decide +kernel)
theorem zcK_L_10 : Cond.classLink "SweptFloorsLaw" 10 "SweptFloorsModel" ∈ zgw := zgw_p 597 (by decide +kernel) (by decide +kernel)
theorem zin_M : Cond.instantiable "SweptFloorsModel" 25 ∈ zgw := zgw_p 598 (by decide +kernel) (by decide +kernel)
theorem zii_M : Cond.initialized "SweptFloorsModel" ∈ zgw := zgw_p 8 (by decide +kernel) (by decide +kernel)
end
