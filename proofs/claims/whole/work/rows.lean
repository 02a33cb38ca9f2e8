section
-- ===== PART A: goes FIRST, ahead of the names: the tables' words, and 'selects' of the private methods out of them =====
/-- a private method of a class that the tables say can be made, by its rows of tables_1 -/
def lw_okq (q : MethodName × Nat) : Prop := (q.1.cls ≠ "java/lang/invoke/MethodHandle" ∧ q.1.cls ≠ "java/lang/invoke/VarHandle") ∧ Cond.instantiable q.1.cls q.2 ∈ tables_1 ∧ Cond.privateMethod q.1 ∈ tables_1 ∧ Cond.instanceMethod q.1 ∈ tables_1
theorem lw_p0 : lw_okq (⟨"SweptFloors$Text", "add", "(I)Z"⟩, 8) := ⟨⟨by decide +kernel, by decide +kernel⟩, List.mem_of_getElem? (i := 21) (by decide +kernel), List.mem_of_getElem? (i := 226) (by decide +kernel), List.mem_of_getElem? (i := 227) (by decide +kernel)⟩
theorem lw_p1 : lw_okq (⟨"SweptFloors", "readText", "()I"⟩, 7) := ⟨⟨by decide +kernel, by decide +kernel⟩, List.mem_of_getElem? (i := 13) (by decide +kernel), List.mem_of_getElem? (i := 230) (by decide +kernel), List.mem_of_getElem? (i := 231) (by decide +kernel)⟩
theorem lw_p2 : lw_okq (⟨"SweptFloors$Text", "findFault", "()I"⟩, 8) := ⟨⟨by decide +kernel, by decide +kernel⟩, List.mem_of_getElem? (i := 21) (by decide +kernel), List.mem_of_getElem? (i := 234) (by decide +kernel), List.mem_of_getElem? (i := 235) (by decide +kernel)⟩
theorem lw_p3 : lw_okq (⟨"SweptFloors$Text", "takes", "(I)Z"⟩, 8) := ⟨⟨by decide +kernel, by decide +kernel⟩, List.mem_of_getElem? (i := 21) (by decide +kernel), List.mem_of_getElem? (i := 238) (by decide +kernel), List.mem_of_getElem? (i := 239) (by decide +kernel)⟩
theorem lw_p4 : lw_okq (⟨"SweptFloors$Text", "endsRow", "()Z"⟩, 8) := ⟨⟨by decide +kernel, by decide +kernel⟩, List.mem_of_getElem? (i := 21) (by decide +kernel), List.mem_of_getElem? (i := 242) (by decide +kernel), List.mem_of_getElem? (i := 243) (by decide +kernel)⟩
theorem lw_p5 : lw_okq (⟨"SweptFloors$Text", "takesSign", "(I)Z"⟩, 8) := ⟨⟨by decide +kernel, by decide +kernel⟩, List.mem_of_getElem? (i := 21) (by decide +kernel), List.mem_of_getElem? (i := 249) (by decide +kernel), List.mem_of_getElem? (i := 250) (by decide +kernel)⟩
theorem lw_p6 : lw_okq (⟨"SweptFloors$Ground", "layOut", "(LSweptFloors$Text;)V"⟩, 10) := ⟨⟨by decide +kernel, by decide +kernel⟩, List.mem_of_getElem? (i := 59) (by decide +kernel), List.mem_of_getElem? (i := 253) (by decide +kernel), List.mem_of_getElem? (i := 254) (by decide +kernel)⟩
theorem lw_p7 : lw_okq (⟨"SweptFloors$Ground", "size", "()I"⟩, 10) := ⟨⟨by decide +kernel, by decide +kernel⟩, List.mem_of_getElem? (i := 59) (by decide +kernel), List.mem_of_getElem? (i := 257) (by decide +kernel), List.mem_of_getElem? (i := 258) (by decide +kernel)⟩
theorem lw_p8 : lw_okq (⟨"SweptFloors$Situation", "begin", "()V"⟩, 11) := ⟨⟨by decide +kernel, by decide +kernel⟩, List.mem_of_getElem? (i := 110) (by decide +kernel), List.mem_of_getElem? (i := 267) (by decide +kernel), List.mem_of_getElem? (i := 268) (by decide +kernel)⟩
theorem lw_p9 : lw_okq (⟨"SweptFloors$Album", "empty", "()V"⟩, 2) := ⟨⟨by decide +kernel, by decide +kernel⟩, List.mem_of_getElem? (i := 210) (by decide +kernel), List.mem_of_getElem? (i := 272) (by decide +kernel), List.mem_of_getElem? (i := 273) (by decide +kernel)⟩
theorem lw_p10 : lw_okq (⟨"SweptFloors$Ground", "has", "(I)Z"⟩, 10) := ⟨⟨by decide +kernel, by decide +kernel⟩, List.mem_of_getElem? (i := 59) (by decide +kernel), List.mem_of_getElem? (i := 315) (by decide +kernel), List.mem_of_getElem? (i := 316) (by decide +kernel)⟩
theorem lw_p11 : lw_okq (⟨"SweptFloors$Situation", "kindOf", "(I)I"⟩, 11) := ⟨⟨by decide +kernel, by decide +kernel⟩, List.mem_of_getElem? (i := 110) (by decide +kernel), List.mem_of_getElem? (i := 319) (by decide +kernel), List.mem_of_getElem? (i := 320) (by decide +kernel)⟩
theorem lw_p12 : lw_okq (⟨"SweptFloors$History", "remember", "(LSweptFloors$Situation;)V"⟩, 3) := ⟨⟨by decide +kernel, by decide +kernel⟩, List.mem_of_getElem? (i := 190) (by decide +kernel), List.mem_of_getElem? (i := 331) (by decide +kernel), List.mem_of_getElem? (i := 332) (by decide +kernel)⟩
theorem lw_p13 : lw_okq (⟨"SweptFloors$Situation", "copyFrom", "(LSweptFloors$Situation;)V"⟩, 11) := ⟨⟨by decide +kernel, by decide +kernel⟩, List.mem_of_getElem? (i := 110) (by decide +kernel), List.mem_of_getElem? (i := 335) (by decide +kernel), List.mem_of_getElem? (i := 336) (by decide +kernel)⟩
theorem lw_p14 : lw_okq (⟨"SweptFloors$Situation", "stepTo", "(I)I"⟩, 11) := ⟨⟨by decide +kernel, by decide +kernel⟩, List.mem_of_getElem? (i := 110) (by decide +kernel), List.mem_of_getElem? (i := 355) (by decide +kernel), List.mem_of_getElem? (i := 356) (by decide +kernel)⟩
theorem lw_p15 : lw_okq (⟨"SweptFloors$Ground", "cellBeside", "(II)I"⟩, 10) := ⟨⟨by decide +kernel, by decide +kernel⟩, List.mem_of_getElem? (i := 59) (by decide +kernel), List.mem_of_getElem? (i := 359) (by decide +kernel), List.mem_of_getElem? (i := 360) (by decide +kernel)⟩
def lw_privs_1 : List (MethodName × Nat) := [(⟨"SweptFloors$Text", "add", "(I)Z"⟩, 8), (⟨"SweptFloors", "readText", "()I"⟩, 7), (⟨"SweptFloors$Text", "findFault", "()I"⟩, 8), (⟨"SweptFloors$Text", "takes", "(I)Z"⟩, 8), (⟨"SweptFloors$Text", "endsRow", "()Z"⟩, 8), (⟨"SweptFloors$Text", "takesSign", "(I)Z"⟩, 8), (⟨"SweptFloors$Ground", "layOut", "(LSweptFloors$Text;)V"⟩, 10), (⟨"SweptFloors$Ground", "size", "()I"⟩, 10), (⟨"SweptFloors$Situation", "begin", "()V"⟩, 11), (⟨"SweptFloors$Album", "empty", "()V"⟩, 2), (⟨"SweptFloors$Ground", "has", "(I)Z"⟩, 10), (⟨"SweptFloors$Situation", "kindOf", "(I)I"⟩, 11), (⟨"SweptFloors$History", "remember", "(LSweptFloors$Situation;)V"⟩, 3), (⟨"SweptFloors$Situation", "copyFrom", "(LSweptFloors$Situation;)V"⟩, 11), (⟨"SweptFloors$Situation", "stepTo", "(I)I"⟩, 11), (⟨"SweptFloors$Ground", "cellBeside", "(II)I"⟩, 10)]
theorem lw_r1 : ∀ q ∈ lw_privs_1, lw_okq q := List.forall_mem_cons.mpr ⟨lw_p0, List.forall_mem_cons.mpr ⟨lw_p1, List.forall_mem_cons.mpr ⟨lw_p2, List.forall_mem_cons.mpr ⟨lw_p3, List.forall_mem_cons.mpr ⟨lw_p4, List.forall_mem_cons.mpr ⟨lw_p5, List.forall_mem_cons.mpr ⟨lw_p6, List.forall_mem_cons.mpr ⟨lw_p7, List.forall_mem_cons.mpr ⟨lw_p8, List.forall_mem_cons.mpr ⟨lw_p9, List.forall_mem_cons.mpr ⟨lw_p10, List.forall_mem_cons.mpr ⟨lw_p11, List.forall_mem_cons.mpr ⟨lw_p12, List.forall_mem_cons.mpr ⟨lw_p13, List.forall_mem_cons.mpr ⟨lw_p14, List.forall_mem_cons.mpr ⟨lw_p15, fun _ h => absurd h List.not_mem_nil⟩⟩⟩⟩⟩⟩⟩⟩⟩⟩⟩⟩⟩⟩⟩⟩
theorem lw_p16 : lw_okq (⟨"SweptFloors$Ground", "beside", "(JI)J"⟩, 10) := ⟨⟨by decide +kernel, by decide +kernel⟩, List.mem_of_getElem? (i := 59) (by decide +kernel), List.mem_of_getElem? (i := 363) (by decide +kernel), List.mem_of_getElem? (i := 364) (by decide +kernel)⟩
theorem lw_p17 : lw_okq (⟨"SweptFloors$Situation", "outcomeAt", "(I)I"⟩, 11) := ⟨⟨by decide +kernel, by decide +kernel⟩, List.mem_of_getElem? (i := 110) (by decide +kernel), List.mem_of_getElem? (i := 377) (by decide +kernel), List.mem_of_getElem? (i := 378) (by decide +kernel)⟩
theorem lw_p18 : lw_okq (⟨"SweptFloors$Situation", "freeCells", "()J"⟩, 11) := ⟨⟨by decide +kernel, by decide +kernel⟩, List.mem_of_getElem? (i := 110) (by decide +kernel), List.mem_of_getElem? (i := 381) (by decide +kernel), List.mem_of_getElem? (i := 382) (by decide +kernel)⟩
theorem lw_p19 : lw_okq (⟨"SweptFloors$Situation", "sortOutBy", "(I)V"⟩, 11) := ⟨⟨by decide +kernel, by decide +kernel⟩, List.mem_of_getElem? (i := 110) (by decide +kernel), List.mem_of_getElem? (i := 386) (by decide +kernel), List.mem_of_getElem? (i := 387) (by decide +kernel)⟩
theorem lw_p20 : lw_okq (⟨"SweptFloors$Situation", "keepPlacesThatSee", "(II)V"⟩, 11) := ⟨⟨by decide +kernel, by decide +kernel⟩, List.mem_of_getElem? (i := 110) (by decide +kernel), List.mem_of_getElem? (i := 390) (by decide +kernel), List.mem_of_getElem? (i := 391) (by decide +kernel)⟩
theorem lw_p21 : lw_okq (⟨"SweptFloors$Situation", "cellsThatMaySee", "(II)J"⟩, 11) := ⟨⟨by decide +kernel, by decide +kernel⟩, List.mem_of_getElem? (i := 110) (by decide +kernel), List.mem_of_getElem? (i := 397) (by decide +kernel), List.mem_of_getElem? (i := 398) (by decide +kernel)⟩
theorem lw_p22 : lw_okq (⟨"SweptFloors$Situation", "cellsThatMayShow", "(I)J"⟩, 11) := ⟨⟨by decide +kernel, by decide +kernel⟩, List.mem_of_getElem? (i := 110) (by decide +kernel), List.mem_of_getElem? (i := 401) (by decide +kernel), List.mem_of_getElem? (i := 402) (by decide +kernel)⟩
theorem lw_p23 : lw_okq (⟨"SweptFloors$Situation", "movePlacesAhead", "()V"⟩, 11) := ⟨⟨by decide +kernel, by decide +kernel⟩, List.mem_of_getElem? (i := 110) (by decide +kernel), List.mem_of_getElem? (i := 406) (by decide +kernel), List.mem_of_getElem? (i := 407) (by decide +kernel)⟩
theorem lw_p24 : lw_okq (⟨"SweptFloors$Situation", "beFoundIfSure", "()V"⟩, 11) := ⟨⟨by decide +kernel, by decide +kernel⟩, List.mem_of_getElem? (i := 110) (by decide +kernel), List.mem_of_getElem? (i := 410) (by decide +kernel), List.mem_of_getElem? (i := 411) (by decide +kernel)⟩
theorem lw_p25 : lw_okq (⟨"SweptFloors$Situation", "placeCount", "()I"⟩, 11) := ⟨⟨by decide +kernel, by decide +kernel⟩, List.mem_of_getElem? (i := 110) (by decide +kernel), List.mem_of_getElem? (i := 414) (by decide +kernel), List.mem_of_getElem? (i := 415) (by decide +kernel)⟩
theorem lw_p26 : lw_okq (⟨"SweptFloors$Situation", "learn", "(II)V"⟩, 11) := ⟨⟨by decide +kernel, by decide +kernel⟩, List.mem_of_getElem? (i := 110) (by decide +kernel), List.mem_of_getElem? (i := 419) (by decide +kernel), List.mem_of_getElem? (i := 420) (by decide +kernel)⟩
theorem lw_p27 : lw_okq (⟨"SweptFloors$Situation", "turn", "(I)V"⟩, 11) := ⟨⟨by decide +kernel, by decide +kernel⟩, List.mem_of_getElem? (i := 110) (by decide +kernel), List.mem_of_getElem? (i := 427) (by decide +kernel), List.mem_of_getElem? (i := 428) (by decide +kernel)⟩
theorem lw_p28 : lw_okq (⟨"SweptFloors$Situation", "turnPlaces", "()V"⟩, 11) := ⟨⟨by decide +kernel, by decide +kernel⟩, List.mem_of_getElem? (i := 110) (by decide +kernel), List.mem_of_getElem? (i := 431) (by decide +kernel), List.mem_of_getElem? (i := 432) (by decide +kernel)⟩
theorem lw_p29 : lw_okq (⟨"SweptFloors$Situation", "scanAround", "()I"⟩, 11) := ⟨⟨by decide +kernel, by decide +kernel⟩, List.mem_of_getElem? (i := 110) (by decide +kernel), List.mem_of_getElem? (i := 439) (by decide +kernel), List.mem_of_getElem? (i := 440) (by decide +kernel)⟩
theorem lw_p30 : lw_okq (⟨"SweptFloors$Situation", "seenAt", "(I)I"⟩, 11) := ⟨⟨by decide +kernel, by decide +kernel⟩, List.mem_of_getElem? (i := 110) (by decide +kernel), List.mem_of_getElem? (i := 443) (by decide +kernel), List.mem_of_getElem? (i := 444) (by decide +kernel)⟩
theorem lw_p31 : lw_okq (⟨"SweptFloors$Situation", "carryTo", "(II)I"⟩, 11) := ⟨⟨by decide +kernel, by decide +kernel⟩, List.mem_of_getElem? (i := 110) (by decide +kernel), List.mem_of_getElem? (i := 452) (by decide +kernel), List.mem_of_getElem? (i := 453) (by decide +kernel)⟩
def lw_privs_2 : List (MethodName × Nat) := [(⟨"SweptFloors$Ground", "beside", "(JI)J"⟩, 10), (⟨"SweptFloors$Situation", "outcomeAt", "(I)I"⟩, 11), (⟨"SweptFloors$Situation", "freeCells", "()J"⟩, 11), (⟨"SweptFloors$Situation", "sortOutBy", "(I)V"⟩, 11), (⟨"SweptFloors$Situation", "keepPlacesThatSee", "(II)V"⟩, 11), (⟨"SweptFloors$Situation", "cellsThatMaySee", "(II)J"⟩, 11), (⟨"SweptFloors$Situation", "cellsThatMayShow", "(I)J"⟩, 11), (⟨"SweptFloors$Situation", "movePlacesAhead", "()V"⟩, 11), (⟨"SweptFloors$Situation", "beFoundIfSure", "()V"⟩, 11), (⟨"SweptFloors$Situation", "placeCount", "()I"⟩, 11), (⟨"SweptFloors$Situation", "learn", "(II)V"⟩, 11), (⟨"SweptFloors$Situation", "turn", "(I)V"⟩, 11), (⟨"SweptFloors$Situation", "turnPlaces", "()V"⟩, 11), (⟨"SweptFloors$Situation", "scanAround", "()I"⟩, 11), (⟨"SweptFloors$Situation", "seenAt", "(I)I"⟩, 11), (⟨"SweptFloors$Situation", "carryTo", "(II)I"⟩, 11)]
theorem lw_r2 : ∀ q ∈ lw_privs_2, lw_okq q := List.forall_mem_cons.mpr ⟨lw_p16, List.forall_mem_cons.mpr ⟨lw_p17, List.forall_mem_cons.mpr ⟨lw_p18, List.forall_mem_cons.mpr ⟨lw_p19, List.forall_mem_cons.mpr ⟨lw_p20, List.forall_mem_cons.mpr ⟨lw_p21, List.forall_mem_cons.mpr ⟨lw_p22, List.forall_mem_cons.mpr ⟨lw_p23, List.forall_mem_cons.mpr ⟨lw_p24, List.forall_mem_cons.mpr ⟨lw_p25, List.forall_mem_cons.mpr ⟨lw_p26, List.forall_mem_cons.mpr ⟨lw_p27, List.forall_mem_cons.mpr ⟨lw_p28, List.forall_mem_cons.mpr ⟨lw_p29, List.forall_mem_cons.mpr ⟨lw_p30, List.forall_mem_cons.mpr ⟨lw_p31, fun _ h => absurd h List.not_mem_nil⟩⟩⟩⟩⟩⟩⟩⟩⟩⟩⟩⟩⟩⟩⟩⟩
theorem lw_p32 : lw_okq (⟨"SweptFloors$Pilot", "act", "(LSweptFloors$Situation;)I"⟩, 4) := ⟨⟨by decide +kernel, by decide +kernel⟩, List.mem_of_getElem? (i := 167) (by decide +kernel), List.mem_of_getElem? (i := 460) (by decide +kernel), List.mem_of_getElem? (i := 461) (by decide +kernel)⟩
theorem lw_p33 : lw_okq (⟨"SweptFloors$Pilot", "nextHand", "(LSweptFloors$Situation;)I"⟩, 4) := ⟨⟨by decide +kernel, by decide +kernel⟩, List.mem_of_getElem? (i := 167) (by decide +kernel), List.mem_of_getElem? (i := 465) (by decide +kernel), List.mem_of_getElem? (i := 466) (by decide +kernel)⟩
theorem lw_p34 : lw_okq (⟨"SweptFloors$Pilot", "findsTarget", "(LSweptFloors$Situation;)Z"⟩, 4) := ⟨⟨by decide +kernel, by decide +kernel⟩, List.mem_of_getElem? (i := 167) (by decide +kernel), List.mem_of_getElem? (i := 469) (by decide +kernel), List.mem_of_getElem? (i := 470) (by decide +kernel)⟩
theorem lw_p35 : lw_okq (⟨"SweptFloors$Ground", "within", "(IIJ)J"⟩, 10) := ⟨⟨by decide +kernel, by decide +kernel⟩, List.mem_of_getElem? (i := 59) (by decide +kernel), List.mem_of_getElem? (i := 475) (by decide +kernel), List.mem_of_getElem? (i := 476) (by decide +kernel)⟩
theorem lw_p36 : lw_okq (⟨"SweptFloors$Ground", "around", "(J)J"⟩, 10) := ⟨⟨by decide +kernel, by decide +kernel⟩, List.mem_of_getElem? (i := 59) (by decide +kernel), List.mem_of_getElem? (i := 479) (by decide +kernel), List.mem_of_getElem? (i := 480) (by decide +kernel)⟩
theorem lw_p37 : lw_okq (⟨"SweptFloors$Situation", "homeOf", "(I)I"⟩, 11) := ⟨⟨by decide +kernel, by decide +kernel⟩, List.mem_of_getElem? (i := 110) (by decide +kernel), List.mem_of_getElem? (i := 485) (by decide +kernel), List.mem_of_getElem? (i := 486) (by decide +kernel)⟩
theorem lw_p38 : lw_okq (⟨"SweptFloors$Ground", "stepsBetween", "(IIJ)I"⟩, 10) := ⟨⟨by decide +kernel, by decide +kernel⟩, List.mem_of_getElem? (i := 59) (by decide +kernel), List.mem_of_getElem? (i := 489) (by decide +kernel), List.mem_of_getElem? (i := 490) (by decide +kernel)⟩
theorem lw_p39 : lw_okq (⟨"SweptFloors$History", "bringBack", "(LSweptFloors$Situation;)Z"⟩, 3) := ⟨⟨by decide +kernel, by decide +kernel⟩, List.mem_of_getElem? (i := 190) (by decide +kernel), List.mem_of_getElem? (i := 506) (by decide +kernel), List.mem_of_getElem? (i := 507) (by decide +kernel)⟩
theorem lw_p40 : lw_okq (⟨"SweptFloors$Situation", "knowledgeOf", "(I)I"⟩, 11) := ⟨⟨by decide +kernel, by decide +kernel⟩, List.mem_of_getElem? (i := 110) (by decide +kernel), List.mem_of_getElem? (i := 518) (by decide +kernel), List.mem_of_getElem? (i := 519) (by decide +kernel)⟩
theorem lw_p41 : lw_okq (⟨"SweptFloors$Situation", "placeAt", "(I)I"⟩, 11) := ⟨⟨by decide +kernel, by decide +kernel⟩, List.mem_of_getElem? (i := 110) (by decide +kernel), List.mem_of_getElem? (i := 537) (by decide +kernel), List.mem_of_getElem? (i := 538) (by decide +kernel)⟩
theorem lw_p42 : lw_okq (⟨"SweptFloors", "laneLength", "(IJ)I"⟩, 7) := ⟨⟨by decide +kernel, by decide +kernel⟩, List.mem_of_getElem? (i := 13) (by decide +kernel), List.mem_of_getElem? (i := 551) (by decide +kernel), List.mem_of_getElem? (i := 552) (by decide +kernel)⟩
theorem lw_p43 : lw_okq (⟨"SweptFloors$Ground", "mostSteps", "(IJ)I"⟩, 10) := ⟨⟨by decide +kernel, by decide +kernel⟩, List.mem_of_getElem? (i := 59) (by decide +kernel), List.mem_of_getElem? (i := 564) (by decide +kernel), List.mem_of_getElem? (i := 565) (by decide +kernel)⟩
theorem lw_p44 : lw_okq (⟨"SweptFloors$Pilot", "isThrough", "(LSweptFloors$Situation;)Z"⟩, 4) := ⟨⟨by decide +kernel, by decide +kernel⟩, List.mem_of_getElem? (i := 167) (by decide +kernel), List.mem_of_getElem? (i := 573) (by decide +kernel), List.mem_of_getElem? (i := 574) (by decide +kernel)⟩
theorem lw_p45 : lw_okq (⟨"SweptFloors$Album", "putIn", "(ILSweptFloors$Situation;)V"⟩, 2) := ⟨⟨by decide +kernel, by decide +kernel⟩, List.mem_of_getElem? (i := 210) (by decide +kernel), List.mem_of_getElem? (i := 581) (by decide +kernel), List.mem_of_getElem? (i := 582) (by decide +kernel)⟩
theorem lw_p46 : lw_okq (⟨"SweptFloors$Album", "takeOut", "(ILSweptFloors$Situation;)Z"⟩, 2) := ⟨⟨by decide +kernel, by decide +kernel⟩, List.mem_of_getElem? (i := 210) (by decide +kernel), List.mem_of_getElem? (i := 590) (by decide +kernel), List.mem_of_getElem? (i := 591) (by decide +kernel)⟩
theorem lw_p47 : lw_okq (⟨"SweptFloorsModel", "begins", "()V"⟩, 25) := ⟨⟨by decide +kernel, by decide +kernel⟩, List.mem_of_getElem? (i := 598) (by decide +kernel), List.mem_of_getElem? (i := 604) (by decide +kernel), List.mem_of_getElem? (i := 605) (by decide +kernel)⟩
def lw_privs_3 : List (MethodName × Nat) := [(⟨"SweptFloors$Pilot", "act", "(LSweptFloors$Situation;)I"⟩, 4), (⟨"SweptFloors$Pilot", "nextHand", "(LSweptFloors$Situation;)I"⟩, 4), (⟨"SweptFloors$Pilot", "findsTarget", "(LSweptFloors$Situation;)Z"⟩, 4), (⟨"SweptFloors$Ground", "within", "(IIJ)J"⟩, 10), (⟨"SweptFloors$Ground", "around", "(J)J"⟩, 10), (⟨"SweptFloors$Situation", "homeOf", "(I)I"⟩, 11), (⟨"SweptFloors$Ground", "stepsBetween", "(IIJ)I"⟩, 10), (⟨"SweptFloors$History", "bringBack", "(LSweptFloors$Situation;)Z"⟩, 3), (⟨"SweptFloors$Situation", "knowledgeOf", "(I)I"⟩, 11), (⟨"SweptFloors$Situation", "placeAt", "(I)I"⟩, 11), (⟨"SweptFloors", "laneLength", "(IJ)I"⟩, 7), (⟨"SweptFloors$Ground", "mostSteps", "(IJ)I"⟩, 10), (⟨"SweptFloors$Pilot", "isThrough", "(LSweptFloors$Situation;)Z"⟩, 4), (⟨"SweptFloors$Album", "putIn", "(ILSweptFloors$Situation;)V"⟩, 2), (⟨"SweptFloors$Album", "takeOut", "(ILSweptFloors$Situation;)Z"⟩, 2), (⟨"SweptFloorsModel", "begins", "()V"⟩, 25)]
theorem lw_r3 : ∀ q ∈ lw_privs_3, lw_okq q := List.forall_mem_cons.mpr ⟨lw_p32, List.forall_mem_cons.mpr ⟨lw_p33, List.forall_mem_cons.mpr ⟨lw_p34, List.forall_mem_cons.mpr ⟨lw_p35, List.forall_mem_cons.mpr ⟨lw_p36, List.forall_mem_cons.mpr ⟨lw_p37, List.forall_mem_cons.mpr ⟨lw_p38, List.forall_mem_cons.mpr ⟨lw_p39, List.forall_mem_cons.mpr ⟨lw_p40, List.forall_mem_cons.mpr ⟨lw_p41, List.forall_mem_cons.mpr ⟨lw_p42, List.forall_mem_cons.mpr ⟨lw_p43, List.forall_mem_cons.mpr ⟨lw_p44, List.forall_mem_cons.mpr ⟨lw_p45, List.forall_mem_cons.mpr ⟨lw_p46, List.forall_mem_cons.mpr ⟨lw_p47, fun _ h => absurd h List.not_mem_nil⟩⟩⟩⟩⟩⟩⟩⟩⟩⟩⟩⟩⟩⟩⟩⟩
theorem lw_p48 : lw_okq (⟨"SweptFloorsModel", "cells", "()I"⟩, 25) := ⟨⟨by decide +kernel, by decide +kernel⟩, List.mem_of_getElem? (i := 598) (by decide +kernel), List.mem_of_getElem? (i := 608) (by decide +kernel), List.mem_of_getElem? (i := 609) (by decide +kernel)⟩
theorem lw_p49 : lw_okq (⟨"SweptFloorsModel", "takes", "(I)Z"⟩, 25) := ⟨⟨by decide +kernel, by decide +kernel⟩, List.mem_of_getElem? (i := 598) (by decide +kernel), List.mem_of_getElem? (i := 703) (by decide +kernel), List.mem_of_getElem? (i := 704) (by decide +kernel)⟩
theorem lw_p50 : lw_okq (⟨"SweptFloorsModel", "isCell", "(I)Z"⟩, 25) := ⟨⟨by decide +kernel, by decide +kernel⟩, List.mem_of_getElem? (i := 598) (by decide +kernel), List.mem_of_getElem? (i := 714) (by decide +kernel), List.mem_of_getElem? (i := 715) (by decide +kernel)⟩
theorem lw_p51 : lw_okq (⟨"SweptFloorsModel", "remembers", "()V"⟩, 25) := ⟨⟨by decide +kernel, by decide +kernel⟩, List.mem_of_getElem? (i := 598) (by decide +kernel), List.mem_of_getElem? (i := 722) (by decide +kernel), List.mem_of_getElem? (i := 723) (by decide +kernel)⟩
theorem lw_p52 : lw_okq (⟨"SweptFloorsModel", "isDoor", "(I)Z"⟩, 25) := ⟨⟨by decide +kernel, by decide +kernel⟩, List.mem_of_getElem? (i := 598) (by decide +kernel), List.mem_of_getElem? (i := 730) (by decide +kernel), List.mem_of_getElem? (i := 731) (by decide +kernel)⟩
theorem lw_p53 : lw_okq (⟨"SweptFloorsModel", "stepTo", "(I)I"⟩, 25) := ⟨⟨by decide +kernel, by decide +kernel⟩, List.mem_of_getElem? (i := 598) (by decide +kernel), List.mem_of_getElem? (i := 738) (by decide +kernel), List.mem_of_getElem? (i := 739) (by decide +kernel)⟩
theorem lw_p54 : lw_okq (⟨"SweptFloorsModel", "beside", "(II)I"⟩, 25) := ⟨⟨by decide +kernel, by decide +kernel⟩, List.mem_of_getElem? (i := 598) (by decide +kernel), List.mem_of_getElem? (i := 742) (by decide +kernel), List.mem_of_getElem? (i := 743) (by decide +kernel)⟩
theorem lw_p55 : lw_okq (⟨"SweptFloorsModel", "toldOf", "(I)I"⟩, 25) := ⟨⟨by decide +kernel, by decide +kernel⟩, List.mem_of_getElem? (i := 598) (by decide +kernel), List.mem_of_getElem? (i := 746) (by decide +kernel), List.mem_of_getElem? (i := 747) (by decide +kernel)⟩
theorem lw_p56 : lw_okq (⟨"SweptFloorsModel", "isFree", "(I)Z"⟩, 25) := ⟨⟨by decide +kernel, by decide +kernel⟩, List.mem_of_getElem? (i := 598) (by decide +kernel), List.mem_of_getElem? (i := 750) (by decide +kernel), List.mem_of_getElem? (i := 751) (by decide +kernel)⟩
theorem lw_p57 : lw_okq (⟨"SweptFloorsModel", "stepsPlaces", "(I)V"⟩, 25) := ⟨⟨by decide +kernel, by decide +kernel⟩, List.mem_of_getElem? (i := 598) (by decide +kernel), List.mem_of_getElem? (i := 754) (by decide +kernel), List.mem_of_getElem? (i := 755) (by decide +kernel)⟩
theorem lw_p58 : lw_okq (⟨"SweptFloorsModel", "canBe", "(II)Z"⟩, 25) := ⟨⟨by decide +kernel, by decide +kernel⟩, List.mem_of_getElem? (i := 598) (by decide +kernel), List.mem_of_getElem? (i := 758) (by decide +kernel), List.mem_of_getElem? (i := 759) (by decide +kernel)⟩
theorem lw_p59 : lw_okq (⟨"SweptFloorsModel", "becomePlaces", "()V"⟩, 25) := ⟨⟨by decide +kernel, by decide +kernel⟩, List.mem_of_getElem? (i := 598) (by decide +kernel), List.mem_of_getElem? (i := 762) (by decide +kernel), List.mem_of_getElem? (i := 763) (by decide +kernel)⟩
theorem lw_p60 : lw_okq (⟨"SweptFloorsModel", "findsMaybe", "()V"⟩, 25) := ⟨⟨by decide +kernel, by decide +kernel⟩, List.mem_of_getElem? (i := 598) (by decide +kernel), List.mem_of_getElem? (i := 766) (by decide +kernel), List.mem_of_getElem? (i := 767) (by decide +kernel)⟩
theorem lw_p61 : lw_okq (⟨"SweptFloorsModel", "manyPlaces", "()I"⟩, 25) := ⟨⟨by decide +kernel, by decide +kernel⟩, List.mem_of_getElem? (i := 598) (by decide +kernel), List.mem_of_getElem? (i := 770) (by decide +kernel), List.mem_of_getElem? (i := 771) (by decide +kernel)⟩
theorem lw_p62 : lw_okq (⟨"SweptFloorsModel", "canScan", "(III)Z"⟩, 25) := ⟨⟨by decide +kernel, by decide +kernel⟩, List.mem_of_getElem? (i := 598) (by decide +kernel), List.mem_of_getElem? (i := 782) (by decide +kernel), List.mem_of_getElem? (i := 783) (by decide +kernel)⟩
theorem lw_p63 : lw_okq (⟨"SweptFloorsModel", "acts", "()Z"⟩, 25) := ⟨⟨by decide +kernel, by decide +kernel⟩, List.mem_of_getElem? (i := 598) (by decide +kernel), List.mem_of_getElem? (i := 797) (by decide +kernel), List.mem_of_getElem? (i := 798) (by decide +kernel)⟩
def lw_privs_4 : List (MethodName × Nat) := [(⟨"SweptFloorsModel", "cells", "()I"⟩, 25), (⟨"SweptFloorsModel", "takes", "(I)Z"⟩, 25), (⟨"SweptFloorsModel", "isCell", "(I)Z"⟩, 25), (⟨"SweptFloorsModel", "remembers", "()V"⟩, 25), (⟨"SweptFloorsModel", "isDoor", "(I)Z"⟩, 25), (⟨"SweptFloorsModel", "stepTo", "(I)I"⟩, 25), (⟨"SweptFloorsModel", "beside", "(II)I"⟩, 25), (⟨"SweptFloorsModel", "toldOf", "(I)I"⟩, 25), (⟨"SweptFloorsModel", "isFree", "(I)Z"⟩, 25), (⟨"SweptFloorsModel", "stepsPlaces", "(I)V"⟩, 25), (⟨"SweptFloorsModel", "canBe", "(II)Z"⟩, 25), (⟨"SweptFloorsModel", "becomePlaces", "()V"⟩, 25), (⟨"SweptFloorsModel", "findsMaybe", "()V"⟩, 25), (⟨"SweptFloorsModel", "manyPlaces", "()I"⟩, 25), (⟨"SweptFloorsModel", "canScan", "(III)Z"⟩, 25), (⟨"SweptFloorsModel", "acts", "()Z"⟩, 25)]
theorem lw_r4 : ∀ q ∈ lw_privs_4, lw_okq q := List.forall_mem_cons.mpr ⟨lw_p48, List.forall_mem_cons.mpr ⟨lw_p49, List.forall_mem_cons.mpr ⟨lw_p50, List.forall_mem_cons.mpr ⟨lw_p51, List.forall_mem_cons.mpr ⟨lw_p52, List.forall_mem_cons.mpr ⟨lw_p53, List.forall_mem_cons.mpr ⟨lw_p54, List.forall_mem_cons.mpr ⟨lw_p55, List.forall_mem_cons.mpr ⟨lw_p56, List.forall_mem_cons.mpr ⟨lw_p57, List.forall_mem_cons.mpr ⟨lw_p58, List.forall_mem_cons.mpr ⟨lw_p59, List.forall_mem_cons.mpr ⟨lw_p60, List.forall_mem_cons.mpr ⟨lw_p61, List.forall_mem_cons.mpr ⟨lw_p62, List.forall_mem_cons.mpr ⟨lw_p63, fun _ h => absurd h List.not_mem_nil⟩⟩⟩⟩⟩⟩⟩⟩⟩⟩⟩⟩⟩⟩⟩⟩
theorem lw_p64 : lw_okq (⟨"SweptFloorsModel", "laysTarget", "()V"⟩, 25) := ⟨⟨by decide +kernel, by decide +kernel⟩, List.mem_of_getElem? (i := 598) (by decide +kernel), List.mem_of_getElem? (i := 801) (by decide +kernel), List.mem_of_getElem? (i := 802) (by decide +kernel)⟩
theorem lw_p65 : lw_okq (⟨"SweptFloorsModel", "lays", "(IZ[I)V"⟩, 25) := ⟨⟨by decide +kernel, by decide +kernel⟩, List.mem_of_getElem? (i := 598) (by decide +kernel), List.mem_of_getElem? (i := 805) (by decide +kernel), List.mem_of_getElem? (i := 806) (by decide +kernel)⟩
theorem lw_p66 : lw_okq (⟨"SweptFloorsModel", "looksFor", "(I)V"⟩, 25) := ⟨⟨by decide +kernel, by decide +kernel⟩, List.mem_of_getElem? (i := 598) (by decide +kernel), List.mem_of_getElem? (i := 809) (by decide +kernel), List.mem_of_getElem? (i := 810) (by decide +kernel)⟩
theorem lw_p67 : lw_okq (⟨"SweptFloorsModel", "handOn", "(I)I"⟩, 25) := ⟨⟨by decide +kernel, by decide +kernel⟩, List.mem_of_getElem? (i := 598) (by decide +kernel), List.mem_of_getElem? (i := 813) (by decide +kernel), List.mem_of_getElem? (i := 814) (by decide +kernel)⟩
theorem lw_p68 : lw_okq (⟨"SweptFloorsModel", "handTo", "([II)I"⟩, 25) := ⟨⟨by decide +kernel, by decide +kernel⟩, List.mem_of_getElem? (i := 598) (by decide +kernel), List.mem_of_getElem? (i := 817) (by decide +kernel), List.mem_of_getElem? (i := 818) (by decide +kernel)⟩
theorem lw_p69 : lw_okq (⟨"SweptFloorsModel", "manyKnown", "(I)I"⟩, 25) := ⟨⟨by decide +kernel, by decide +kernel⟩, List.mem_of_getElem? (i := 598) (by decide +kernel), List.mem_of_getElem? (i := 829) (by decide +kernel), List.mem_of_getElem? (i := 830) (by decide +kernel)⟩
theorem lw_p70 : lw_okq (⟨"SweptFloorsModel", "isFirst", "(I)Z"⟩, 25) := ⟨⟨by decide +kernel, by decide +kernel⟩, List.mem_of_getElem? (i := 598) (by decide +kernel), List.mem_of_getElem? (i := 853) (by decide +kernel), List.mem_of_getElem? (i := 854) (by decide +kernel)⟩
theorem lw_p71 : lw_okq (⟨"SweptFloorsModel", "longOf", "(I)I"⟩, 25) := ⟨⟨by decide +kernel, by decide +kernel⟩, List.mem_of_getElem? (i := 598) (by decide +kernel), List.mem_of_getElem? (i := 857) (by decide +kernel), List.mem_of_getElem? (i := 858) (by decide +kernel)⟩
theorem lw_p72 : lw_okq (⟨"SweptFloorsModel", "laysRooms", "()I"⟩, 25) := ⟨⟨by decide +kernel, by decide +kernel⟩, List.mem_of_getElem? (i := 598) (by decide +kernel), List.mem_of_getElem? (i := 865) (by decide +kernel), List.mem_of_getElem? (i := 866) (by decide +kernel)⟩
theorem lw_p73 : lw_okq (⟨"SweptFloorsModel", "isOfRoom", "(I)Z"⟩, 25) := ⟨⟨by decide +kernel, by decide +kernel⟩, List.mem_of_getElem? (i := 598) (by decide +kernel), List.mem_of_getElem? (i := 869) (by decide +kernel), List.mem_of_getElem? (i := 870) (by decide +kernel)⟩
theorem lw_p74 : lw_okq (⟨"SweptFloorsModel", "isAllDone", "()Z"⟩, 25) := ⟨⟨by decide +kernel, by decide +kernel⟩, List.mem_of_getElem? (i := 598) (by decide +kernel), List.mem_of_getElem? (i := 881) (by decide +kernel), List.mem_of_getElem? (i := 882) (by decide +kernel)⟩
def lw_privs_5 : List (MethodName × Nat) := [(⟨"SweptFloorsModel", "laysTarget", "()V"⟩, 25), (⟨"SweptFloorsModel", "lays", "(IZ[I)V"⟩, 25), (⟨"SweptFloorsModel", "looksFor", "(I)V"⟩, 25), (⟨"SweptFloorsModel", "handOn", "(I)I"⟩, 25), (⟨"SweptFloorsModel", "handTo", "([II)I"⟩, 25), (⟨"SweptFloorsModel", "manyKnown", "(I)I"⟩, 25), (⟨"SweptFloorsModel", "isFirst", "(I)Z"⟩, 25), (⟨"SweptFloorsModel", "longOf", "(I)I"⟩, 25), (⟨"SweptFloorsModel", "laysRooms", "()I"⟩, 25), (⟨"SweptFloorsModel", "isOfRoom", "(I)Z"⟩, 25), (⟨"SweptFloorsModel", "isAllDone", "()Z"⟩, 25)]
theorem lw_r5 : ∀ q ∈ lw_privs_5, lw_okq q := List.forall_mem_cons.mpr ⟨lw_p64, List.forall_mem_cons.mpr ⟨lw_p65, List.forall_mem_cons.mpr ⟨lw_p66, List.forall_mem_cons.mpr ⟨lw_p67, List.forall_mem_cons.mpr ⟨lw_p68, List.forall_mem_cons.mpr ⟨lw_p69, List.forall_mem_cons.mpr ⟨lw_p70, List.forall_mem_cons.mpr ⟨lw_p71, List.forall_mem_cons.mpr ⟨lw_p72, List.forall_mem_cons.mpr ⟨lw_p73, List.forall_mem_cons.mpr ⟨lw_p74, fun _ h => absurd h List.not_mem_nil⟩⟩⟩⟩⟩⟩⟩⟩⟩⟩⟩
def lw_privs : List (MethodName × Nat) := lw_privs_1 ++ (lw_privs_2 ++ (lw_privs_3 ++ (lw_privs_4 ++ (lw_privs_5))))
def lw_tbl : List Cond := k2_sels lw_privs ++ tables_1
theorem lw_privs_ok : ∀ q ∈ lw_privs, lw_okq q := by
  show ∀ q ∈ lw_privs_1 ++ (lw_privs_2 ++ (lw_privs_3 ++ (lw_privs_4 ++ (lw_privs_5)))), lw_okq q
  exact List.forall_mem_append.mpr ⟨lw_r1, List.forall_mem_append.mpr ⟨lw_r2, List.forall_mem_append.mpr ⟨lw_r3, List.forall_mem_append.mpr ⟨lw_r4, lw_r5⟩⟩⟩⟩
/-- the words that keep through calls -/
def zgw : List Cond := lw_tbl.filter goodWord
def z_isNest : Cond → Bool
  | .fieldLinkNest .. => true
  | .methodLinkNest .. => true
  | _ => false
def znest : List Cond := lw_tbl.filter z_isNest
theorem zgw_p {w : Cond} (i : Nat) (h : tables_1[i]? = some w) (hg : goodWord w = true) : w ∈ zgw := List.mem_filter.mpr ⟨List.mem_append_right _ (List.mem_of_getElem? h), hg⟩
theorem zgw_s {y : MethodName} {n : Nat} (i : Nat) (h : lw_privs[i]? = some (y, n)) (hg : goodWord (.selects y.cls y y) = true) : Cond.selects y.cls y y ∈ zgw := List.mem_filter.mpr ⟨List.mem_append_left _ (List.mem_map.mpr ⟨(y, n), List.mem_of_getElem? h, rfl⟩), hg⟩
theorem znest_p {w : Cond} (i : Nat) (h : tables_1[i]? = some w) (hg : z_isNest w = true) : w ∈ znest := List.mem_filter.mpr ⟨List.mem_append_right _ (List.mem_of_getElem? h), hg⟩
def zR_F : String := "SweptFloors"
def zT_F : u_T := fun k => match k with
  | 0 => ("SweptFloors", "text", "LSweptFloors$Text;", true)
  | 1 => ("SweptFloors", "ground", "LSweptFloors$Ground;", true)
  | 2 => ("SweptFloors", "now", "LSweptFloors$Situation;", true)
  | 3 => ("SweptFloors", "foreseen", "LSweptFloors$Situation;", true)
  | 4 => ("SweptFloors", "pilot", "LSweptFloors$Pilot;", true)
  | 5 => ("SweptFloors", "history", "LSweptFloors$History;", true)
  | _ => ("SweptFloors", "album", "LSweptFloors$Album;", true)
def zY_F : Nat → FieldType := fun k => match k with
  | 0 => .object "SweptFloors$Text"
  | 1 => .object "SweptFloors$Ground"
  | 2 => .object "SweptFloors$Situation"
  | 3 => .object "SweptFloors$Situation"
  | 4 => .object "SweptFloors$Pilot"
  | 5 => .object "SweptFloors$History"
  | _ => .object "SweptFloors$Album"
theorem zn_F : ∀ a, a < 7 → ∀ b, b < 7 → a ≠ b → (zT_F a).2.1 ≠ (zT_F b).2.1 := by decide +kernel
theorem zy_F : ∀ k, k < 7 → parseFieldDescriptor (zT_F k).2.2.1 = some (zY_F k) := by decide +kernel
theorem zi_F : ∀ w ∈ u_ws zR_F zT_F 7, w ∈ zgw := by
  intro w hw
  obtain ⟨k, hk, rfl⟩ := List.mem_map.mp hw
  have hk := List.mem_range.mp hk
  have hall : ∀ k, k < 7 → tables_1[([282, 284, 286, 288, 290, 292, 294] : List Nat).getD k 0]? = some (u_lay zR_F zT_F k) ∧ goodWord (u_lay zR_F zT_F k) = true := by decide +kernel
  exact zgw_p _ (hall k hk).1 (hall k hk).2
def zR_T : String := "SweptFloors$Text"
def zT_T : u_T := fun k => match k with
  | 0 => ("SweptFloors$Text", "letters", "[I", true)
  | 1 => ("SweptFloors$Text", "length", "I", false)
  | 2 => ("SweptFloors$Text", "kinds", "[I", true)
  | 3 => ("SweptFloors$Text", "cells", "I", false)
  | 4 => ("SweptFloors$Text", "width", "I", false)
  | 5 => ("SweptFloors$Text", "height", "I", false)
  | 6 => ("SweptFloors$Text", "signsInRow", "I", false)
  | _ => ("SweptFloors$Text", "dock", "I", false)
def zY_T : Nat → FieldType := fun k => match k with
  | 0 => .array (.int)
  | 1 => .int
  | 2 => .array (.int)
  | 3 => .int
  | 4 => .int
  | 5 => .int
  | 6 => .int
  | _ => .int
theorem zn_T : ∀ a, a < 8 → ∀ b, b < 8 → a ≠ b → (zT_T a).2.1 ≠ (zT_T b).2.1 := by decide +kernel
theorem zy_T : ∀ k, k < 8 → parseFieldDescriptor (zT_T k).2.2.1 = some (zY_T k) := by decide +kernel
theorem zi_T : ∀ w ∈ u_ws zR_T zT_T 8, w ∈ zgw := by
  intro w hw
  obtain ⟨k, hk, rfl⟩ := List.mem_map.mp hw
  have hk := List.mem_range.mp hk
  have hall : ∀ k, k < 8 → tables_1[([40, 42, 44, 46, 48, 50, 52, 54] : List Nat).getD k 0]? = some (u_lay zR_T zT_T k) ∧ goodWord (u_lay zR_T zT_T k) = true := by decide +kernel
  exact zgw_p _ (hall k hk).1 (hall k hk).2
def zR_G : String := "SweptFloors$Ground"
def zT_G : u_T := fun k => match k with
  | 0 => ("SweptFloors$Ground", "width", "I", false)
  | 1 => ("SweptFloors$Ground", "height", "I", false)
  | 2 => ("SweptFloors$Ground", "dock", "I", false)
  | 3 => ("SweptFloors$Ground", "all", "J", false)
  | 4 => ("SweptFloors$Ground", "plain", "J", false)
  | 5 => ("SweptFloors$Ground", "cliffs", "J", false)
  | 6 => ("SweptFloors$Ground", "barred", "J", false)
  | 7 => ("SweptFloors$Ground", "doors", "J", false)
  | 8 => ("SweptFloors$Ground", "leftmost", "J", false)
  | _ => ("SweptFloors$Ground", "rightmost", "J", false)
def zY_G : Nat → FieldType := fun k => match k with
  | 0 => .int
  | 1 => .int
  | 2 => .int
  | 3 => .long
  | 4 => .long
  | 5 => .long
  | 6 => .long
  | 7 => .long
  | 8 => .long
  | _ => .long
theorem zn_G : ∀ a, a < 10 → ∀ b, b < 10 → a ≠ b → (zT_G a).2.1 ≠ (zT_G b).2.1 := by decide +kernel
theorem zy_G : ∀ k, k < 10 → parseFieldDescriptor (zT_G k).2.2.1 = some (zY_G k) := by decide +kernel
theorem zi_G : ∀ w ∈ u_ws zR_G zT_G 10, w ∈ zgw := by
  intro w hw
  obtain ⟨k, hk, rfl⟩ := List.mem_map.mp hw
  have hk := List.mem_range.mp hk
  have hall : ∀ k, k < 10 → tables_1[([88, 90, 92, 94, 96, 98, 100, 102, 104, 106] : List Nat).getD k 0]? = some (u_lay zR_G zT_G k) ∧ goodWord (u_lay zR_G zT_G k) = true := by decide +kernel
  exact zgw_p _ (hall k hk).1 (hall k hk).2
def zR_S : String := "SweptFloors$Situation"
def zT_S : u_T := fun k => match k with
  | 0 => ("SweptFloors$Situation", "ground", "LSweptFloors$Ground;", true)
  | 1 => ("SweptFloors$Situation", "shut", "J", false)
  | 2 => ("SweptFloors$Situation", "brim", "I", false)
  | 3 => ("SweptFloors$Situation", "rate", "I", false)
  | 4 => ("SweptFloors$Situation", "cell", "I", false)
  | 5 => ("SweptFloors$Situation", "heading", "I", false)
  | 6 => ("SweptFloors$Situation", "charge", "I", false)
  | 7 => ("SweptFloors$Situation", "knownFree", "J", false)
  | 8 => ("SweptFloors$Situation", "knownNotFree", "J", false)
  | 9 => ("SweptFloors$Situation", "lost", "Z", false)
  | _ => ("SweptFloors$Situation", "places", "[J", true)
def zY_S : Nat → FieldType := fun k => match k with
  | 0 => .object "SweptFloors$Ground"
  | 1 => .long
  | 2 => .int
  | 3 => .int
  | 4 => .int
  | 5 => .int
  | 6 => .int
  | 7 => .long
  | 8 => .long
  | 9 => .boolean
  | _ => .array (.long)
theorem zn_S : ∀ a, a < 11 → ∀ b, b < 11 → a ≠ b → (zT_S a).2.1 ≠ (zT_S b).2.1 := by decide +kernel
theorem zy_S : ∀ k, k < 11 → parseFieldDescriptor (zT_S k).2.2.1 = some (zY_S k) := by decide +kernel
theorem zi_S : ∀ w ∈ u_ws zR_S zT_S 11, w ∈ zgw := by
  intro w hw
  obtain ⟨k, hk, rfl⟩ := List.mem_map.mp hw
  have hk := List.mem_range.mp hk
  have hall : ∀ k, k < 11 → tables_1[([142, 144, 146, 148, 150, 152, 154, 156, 158, 160, 162] : List Nat).getD k 0]? = some (u_lay zR_S zT_S k) ∧ goodWord (u_lay zR_S zT_S k) = true := by decide +kernel
  exact zgw_p _ (hall k hk).1 (hall k hk).2
def zR_P : String := "SweptFloors$Pilot"
def zT_P : u_T := fun k => match k with
  | 0 => ("SweptFloors$Pilot", "target", "I", false)
  | 1 => ("SweptFloors$Pilot", "gate", "I", false)
  | 2 => ("SweptFloors$Pilot", "way", "I", false)
  | _ => ("SweptFloors$Pilot", "wayBack", "I", false)
def zY_P : Nat → FieldType := fun k => match k with
  | 0 => .int
  | 1 => .int
  | 2 => .int
  | _ => .int
theorem zn_P : ∀ a, a < 4 → ∀ b, b < 4 → a ≠ b → (zT_P a).2.1 ≠ (zT_P b).2.1 := by decide +kernel
theorem zy_P : ∀ k, k < 4 → parseFieldDescriptor (zT_P k).2.2.1 = some (zY_P k) := by decide +kernel
theorem zi_P : ∀ w ∈ u_ws zR_P zT_P 4, w ∈ zgw := by
  intro w hw
  obtain ⟨k, hk, rfl⟩ := List.mem_map.mp hw
  have hk := List.mem_range.mp hk
  have hall : ∀ k, k < 4 → tables_1[([180, 182, 184, 186] : List Nat).getD k 0]? = some (u_lay zR_P zT_P k) ∧ goodWord (u_lay zR_P zT_P k) = true := by decide +kernel
  exact zgw_p _ (hall k hk).1 (hall k hk).2
def zR_H : String := "SweptFloors$History"
def zT_H : u_T := fun k => match k with
  | 0 => ("SweptFloors$History", "past", "[LSweptFloors$Situation;", true)
  | 1 => ("SweptFloors$History", "latest", "I", false)
  | _ => ("SweptFloors$History", "size", "I", false)
def zY_H : Nat → FieldType := fun k => match k with
  | 0 => .array (.object "SweptFloors$Situation")
  | 1 => .int
  | _ => .int
theorem zn_H : ∀ a, a < 3 → ∀ b, b < 3 → a ≠ b → (zT_H a).2.1 ≠ (zT_H b).2.1 := by decide +kernel
theorem zy_H : ∀ k, k < 3 → parseFieldDescriptor (zT_H k).2.2.1 = some (zY_H k) := by decide +kernel
theorem zi_H : ∀ w ∈ u_ws zR_H zT_H 3, w ∈ zgw := by
  intro w hw
  obtain ⟨k, hk, rfl⟩ := List.mem_map.mp hw
  have hk := List.mem_range.mp hk
  have hall : ∀ k, k < 3 → tables_1[([202, 204, 206] : List Nat).getD k 0]? = some (u_lay zR_H zT_H k) ∧ goodWord (u_lay zR_H zT_H k) = true := by decide +kernel
  exact zgw_p _ (hall k hk).1 (hall k hk).2
def zR_A : String := "SweptFloors$Album"
def zT_A : u_T := fun k => match k with
  | 0 => ("SweptFloors$Album", "pictures", "[LSweptFloors$Situation;", true)
  | _ => ("SweptFloors$Album", "kept", "[Z", true)
def zY_A : Nat → FieldType := fun k => match k with
  | 0 => .array (.object "SweptFloors$Situation")
  | _ => .array (.boolean)
theorem zn_A : ∀ a, a < 2 → ∀ b, b < 2 → a ≠ b → (zT_A a).2.1 ≠ (zT_A b).2.1 := by decide +kernel
theorem zy_A : ∀ k, k < 2 → parseFieldDescriptor (zT_A k).2.2.1 = some (zY_A k) := by decide +kernel
theorem zi_A : ∀ w ∈ u_ws zR_A zT_A 2, w ∈ zgw := by
  intro w hw
  obtain ⟨k, hk, rfl⟩ := List.mem_map.mp hw
  have hk := List.mem_range.mp hk
  have hall : ∀ k, k < 2 → tables_1[([219, 221] : List Nat).getD k 0]? = some (u_lay zR_A zT_A k) ∧ goodWord (u_lay zR_A zT_A k) = true := by decide +kernel
  exact zgw_p _ (hall k hk).1 (hall k hk).2
def zR_M : String := "SweptFloorsModel"
def zT_M : u_T := fun k => match k with
  | 0 => ("SweptFloorsModel", "width", "I", false)
  | 1 => ("SweptFloorsModel", "height", "I", false)
  | 2 => ("SweptFloorsModel", "dock", "I", false)
  | 3 => ("SweptFloorsModel", "s", "[I", true)
  | 4 => ("SweptFloorsModel", "undos", "I", false)
  | 5 => ("SweptFloorsModel", "past", "[I", true)
  | 6 => ("SweptFloorsModel", "isKept", "[Z", true)
  | 7 => ("SweptFloorsModel", "kept", "[I", true)
  | 8 => ("SweptFloorsModel", "spare", "[I", true)
  | 9 => ("SweptFloorsModel", "letters", "I", false)
  | 10 => ("SweptFloorsModel", "text", "[I", true)
  | 11 => ("SweptFloorsModel", "read", "[I", true)
  | 12 => ("SweptFloorsModel", "rows", "I", false)
  | 13 => ("SweptFloorsModel", "wide", "I", false)
  | 14 => ("SweptFloorsModel", "signs", "I", false)
  | 15 => ("SweptFloorsModel", "newDock", "I", false)
  | 16 => ("SweptFloorsModel", "newPlaces", "[I", true)
  | 17 => ("SweptFloorsModel", "far", "[I", true)
  | 18 => ("SweptFloorsModel", "home", "[I", true)
  | 19 => ("SweptFloorsModel", "toGate", "[I", true)
  | 20 => ("SweptFloorsModel", "target", "I", false)
  | 21 => ("SweptFloorsModel", "gate", "I", false)
  | 22 => ("SweptFloorsModel", "wayTo", "I", false)
  | 23 => ("SweptFloorsModel", "wayBack", "I", false)
  | _ => ("SweptFloorsModel", "rooms", "[I", true)
def zY_M : Nat → FieldType := fun k => match k with
  | 0 => .int
  | 1 => .int
  | 2 => .int
  | 3 => .array (.int)
  | 4 => .int
  | 5 => .array (.int)
  | 6 => .array (.boolean)
  | 7 => .array (.int)
  | 8 => .array (.int)
  | 9 => .int
  | 10 => .array (.int)
  | 11 => .array (.int)
  | 12 => .int
  | 13 => .int
  | 14 => .int
  | 15 => .int
  | 16 => .array (.int)
  | 17 => .array (.int)
  | 18 => .array (.int)
  | 19 => .array (.int)
  | 20 => .int
  | 21 => .int
  | 22 => .int
  | 23 => .int
  | _ => .array (.int)
theorem zn_M : ∀ a, a < 25 → ∀ b, b < 25 → a ≠ b → (zT_M a).2.1 ≠ (zT_M b).2.1 := by decide +kernel
theorem zy_M : ∀ k, k < 25 → parseFieldDescriptor (zT_M k).2.2.1 = some (zY_M k) := by decide +kernel
theorem zi_M : ∀ w ∈ u_ws zR_M zT_M 25, w ∈ zgw := by
  intro w hw
  obtain ⟨k, hk, rfl⟩ := List.mem_map.mp hw
  have hk := List.mem_range.mp hk
  have hall : ∀ k, k < 25 → tables_1[([636, 638, 640, 642, 644, 646, 648, 650, 652, 654, 656, 658, 660, 662, 664, 666, 668, 670, 672, 674, 676, 678, 680, 682, 684] : List Nat).getD k 0]? = some (u_lay zR_M zT_M k) ∧ goodWord (u_lay zR_M zT_M k) = true := by decide +kernel
  exact zgw_p _ (hall k hk).1 (hall k hk).2
/-- the classes whose objects the heap holds -/
def zcl : List vw_C := [(zR_F, zT_F, 7), (zR_T, zT_T, 8), (zR_G, zT_G, 10), (zR_S, zT_S, 11), (zR_P, zT_P, 4), (zR_H, zT_H, 3), (zR_A, zT_A, 2), (zR_M, zT_M, 25)]
end
section
/-! ===== the abstract machine: heap cells by their places, its steps proved once over the kit's rows ===== -/
abbrev zC : Type := (Nat × vp_A) ⊕ (Nat × List Value)
abbrev zH : Type := List zC
abbrev zL : Type := List (Nat × Option Value)
abbrev zM : Type := MethodName × ByteArray × Nat × Option FieldType
abbrev zG : Type := Nat × (Nat → ClassId) × va_G
/-- a value of the abstract machine as the machine has it: cell k lies at b + k; retAddr a stands for the cell at a itself -/
def zv (b : Nat) : Value → Value
  | .ref k => .ref (b + k)
  | .retAddr a => .ref a
  | v => v
theorem zv_cat (b : Nat) (v : Value) : (zv b v).category = v.category := by cases v <;> rfl
def zAr (b : Nat) : vp_A → vp_A
  | (n, .inr (.inr (.inr (.inr f)))) => (n, .inr (.inr (.inr (.inr (fun j => (f j).map (b + ·))))))
  | a => a
def zE (b : Nat) (ca : Nat → ClassId) : zC → va_E
  | .inl (t, a) => .inl (ca t, zAr b a)
  | .inr (c, fs) => .inr (c, fs.map (zv b))
def zW (b : Nat) (ca : Nat → ClassId) (h : zH) : va_W := h.mapIdx (fun k c => (b + k, zE b ca c))
theorem zW_get {b : Nat} {ca : Nat → ClassId} {h : zH} {k : Nat} {c : zC} (hk : h[k]? = some c) : (zW b ca h)[k]? = some (b + k, zE b ca c) := by
  simp [zW, hk]
theorem zW_len {b : Nat} {ca : Nat → ClassId} {h : zH} : (zW b ca h).length = h.length := by simp [zW]
theorem zW_set {b : Nat} {ca : Nat → ClassId} {h : zH} {k : Nat} {c : zC} : (zW b ca h).set k (b + k, zE b ca c) = zW b ca (h.set k c) := by
  apply List.ext_getElem?
  intro i
  simp only [zW, List.getElem?_set, List.getElem?_mapIdx, List.length_mapIdx]
  by_cases hi : k = i
  · subst hi
    by_cases hl : k < h.length <;> simp [hl]
  · simp [hi]
theorem zW_app {b : Nat} {ca : Nat → ClassId} {h : zH} {c : zC} : zW b ca h ++ [(b + h.length, zE b ca c)] = zW b ca (h ++ [c]) := by
  simp [zW, List.mapIdx_append]
theorem zW_D {b : Nat} {ca : Nat → ClassId} {h : zH} : va_D (fun q => b ≤ q) (zW b ca h) := by
  refine ⟨fun i j p q hp hq e => ?_, fun k q hq => ?_⟩
  · simp only [zW, List.getElem?_mapIdx, Option.map_eq_some_iff] at hp hq
    obtain ⟨_, -, rfl⟩ := hp
    obtain ⟨_, -, rfl⟩ := hq
    exact Nat.add_left_cancel e
  · simp only [zW, List.getElem?_mapIdx, Option.map_eq_some_iff] at hq
    obtain ⟨_, -, rfl⟩ := hq
    exact Nat.le_add_right _ _
/-- the array classes: of ints, longs, booleans, situations -/
def ztys (g : zG) : List (ClassId × FieldType) := [(g.2.1 0, .int), (g.2.1 1, .long), (g.2.1 2, .boolean), (g.2.1 3, .object "SweptFloors$Situation")]
def zN (U : State) : Prop := ∀ w ∈ znest, va_Nw w U
theorem zN.warm {s U : State} (hW : s.WarmedH U.vm) (h : zN s) : zN U := by
  intro w hw
  have h0 := h w hw
  have hn := (List.mem_filter.mp hw).2
  cases w <;> first | exact va_Nw.warmF hW h0 | exact va_Nw.warmM hW h0 | cases hn
theorem zN.same {u U : State} (e : u.vm = U.vm) (h : zN u) : zN U := by
  intro w hw
  have h0 := h w hw
  have hn := (List.mem_filter.mp hw).2
  cases w <;> first | exact va_Nw.same rfl e h0 | cases hn
def zK (g : zG) (U : State) : Prop := va_K g.2.2 zcl (ztys g) U ∧ zN U
/-- what a method begins with -/
def zB (g : zG) (h : zH) (U : State) : Prop := U.heap.size = g.1 + h.length ∧ va_P g.2.2 zcl (zW g.1 g.2.1 h) U.heap ∧ zK g U
/-- what it ends with -/
def zQ (g : zG) (post : Option Value → zH → Prop) (n1 : Nat) : Array Value → State → Outcome → State → Prop := fun _ st oc t =>
  (∃ (v : Option Value) (h' : zH), oc = .returned (v.map (zv g.1)) ∧ post v h' ∧ h'.length = n1 ∧ va_P g.2.2 zcl (zW g.1 g.2.1 h') t.heap) ∧ va_F (fun q => g.1 ≤ q) st t
def zrm (d mc ms : Nat) : Room := { frames := d, cells := mc, slots := ms, locals := 38 * d }
/-- a method's contract: from the heap h with these arguments it returns, with 'post' of its answer and of the heap behind it -/
def Run (l : Launch) (g : zG) (M : zM) (d mc ms : Nat) (args : List Value) (h : zH) (post : Option Value → zH → Prop) : Prop :=
  Met l M.1 (.code M.1 M.2.1 M.2.2.1 M.2.2.2 :: zgw) (zrm d mc ms) (va_Pc (args.map (zv g.1)) (zB g h)) (zQ g post (h.length + mc)) mc ms (fun q => g.1 ≤ q)
def zfind : Nat → zL → Option Value
  | _, [] => none
  | i, (j, o) :: r => bif i == j then o else zfind i r
def zLs (b nL : Nat) (lsA : Array Slot) (ls : zL) : Prop := lv_has lsA nL [] ∧ ∀ (i : Nat) (v : Value), zfind i ls = some v → lsA[i]? = some (.val (zv b v))
def zX (g : zG) (M : zM) (Z : State → Prop) (p : Program) (s : State) (m : MethodId) (args : Array Value) (meth : Method) (c : Code) : Prop :=
  p.tables.exec = Jvm.exec ∧ c.code = M.2.1 ∧ meth.sig.returnType = M.2.2.2 ∧ c.maxLocals = M.2.2.1 ∧ s.vm.findClass M.1.cls = some m.cls ∧ (∀ w ∈ zgw, w.before args s = true) ∧ meth.locks = false ∧ meth.name = M.1.name ∧ Z s ∧ zK g s ∧ g.1 ≤ s.heap.size
/-- the abstract machine at pc, with locals ls, stack st, heap h, comes to QQ -/
def WW (l : Launch) (g : zG) (M : zM) (R : Room) (Z : State → Prop) (QQ : List Frame → Array Value → State → State → Prop) (pc : Nat) (ls : zL) (st : List Value) (h : zH) (k n : Nat) : Prop :=
  ∀ (p : Program) (e : Env) (s : State) (m : MethodId) (args : Array Value) (below : List Frame) (meth : Method) (c : Code) (H : Heap) (locs : List Loc) (lsA : Array Slot),
    zX g M Z p s m args meth c → s.heap.size + k = g.1 + h.length → va_P g.2.2 zcl (zW g.1 g.2.1 h) H → va_S (fun q => g.1 ≤ q) s.heap H locs → zLs g.1 M.2.2.1 lsA ls →
    W p l e R s m args below meth c H locs k n (QQ below args s) (F0 m pc lsA (st.map (zv g.1)))
def zQQ (g : zG) (post : Option Value → zH → Prop) (n1 mc ms : Nat) : List Frame → Array Value → State → State → Prop := fun below args s => MQ below (zQ g post n1) args s mc ms (fun q => g.1 ≤ q)
/-! locals -/
theorem zfind_cons_eq (i : Nat) (o : Option Value) (r : zL) : zfind i ((i, o) :: r) = o := by simp [zfind]
theorem zfind_cons_ne {i j : Nat} (o : Option Value) (r : zL) (h : i ≠ j) : zfind i ((j, o) :: r) = zfind i r := by
  have e : (i == j) = false := by simpa using h
  simp [zfind, e]
theorem zfind_mem {i : Nat} {v : Value} : ∀ {ls : zL}, zfind i ls = some v → ∃ q ∈ ls, q.1 = i := by
  intro ls
  induction ls with
  | nil => intro h; simp [zfind] at h
  | cons a r ih =>
    intro h
    obtain ⟨j, o⟩ := a
    by_cases e : i = j
    · exact ⟨(j, o), List.mem_cons_self, e.symm⟩
    · rw [zfind_cons_ne o r e] at h
      obtain ⟨q, h1, h2⟩ := ih h
      exact ⟨q, List.mem_cons_of_mem _ h1, h2⟩
def zl (b : Nat) (ls : zL) : List (Nat × Value) := ls.filterMap (fun q => (zfind q.1 ls).map (fun v => (q.1, zv b v)))
theorem zl_mem {b : Nat} {ls : zL} {i : Nat} {v : Value} (h : zfind i ls = some v) : (i, zv b v) ∈ zl b ls := by
  obtain ⟨q, h1, h2⟩ := zfind_mem h
  exact List.mem_filterMap.mpr ⟨q, h1, by rw [h2, h]; rfl⟩
theorem zLs.has {b nL : Nat} {lsA : Array Slot} {ls : zL} (h : zLs b nL lsA ls) : lv_has lsA nL (zl b ls) := by
  refine ⟨h.1.1, h.1.2.1, fun q hq => ?_⟩
  obtain ⟨r, -, h2⟩ := List.mem_filterMap.mp hq
  obtain ⟨v, h3, rfl⟩ := Option.map_eq_some_iff.mp h2
  exact h.2 _ _ h3
def zok (i : Nat) (ls : zL) : Bool := match i with
  | 0 => true
  | j + 1 => match zfind j ls with
    | some v => v.category == 1
    | none => true
theorem zok_ne {i j : Nat} {ls : zL} {v : Value} (h : zok i ls = true) (hj : zfind j ls = some v) (e : j + 1 = i) : v.category = 1 := by
  subst e
  simpa [zok, hj] using h
theorem zLs.put1 {b nL i : Nat} {lsA : Array Slot} {ls : zL} {v : Value} (hk : zok i ls = true) (h : lv_has lsA nL ((i, zv b v) :: (zl b ls).filter (fun q => !(q.1 == i) && !(q.1 + 1 == i && q.2.category == 2)))) : zLs b nL lsA ((i, some v) :: ls) := by
  refine ⟨⟨h.1, h.2.1, fun q hq => by cases hq⟩, fun j w hj => ?_⟩
  by_cases e : j = i
  · subst e
    rw [zfind_cons_eq] at hj
    cases hj
    exact h.2.2 _ List.mem_cons_self
  · rw [zfind_cons_ne _ _ e] at hj
    refine h.2.2 (j, zv b w) (List.mem_cons_of_mem _ (List.mem_filter.mpr ⟨zl_mem hj, ?_⟩))
    by_cases e2 : j + 1 = i
    · have := zok_ne hk hj e2
      simp [e, zv_cat, this]
    · simp [e, e2]
theorem zLs.put2 {b nL i : Nat} {lsA : Array Slot} {ls : zL} {v : Value} (hk : zok i ls = true) (h : lv_has lsA nL ((i, zv b v) :: (zl b ls).filter (fun q => !(q.1 == i) && (!(q.1 == i + 1) && !(q.1 + 1 == i && q.2.category == 2))))) : zLs b nL lsA ((i, some v) :: (i + 1, none) :: ls) := by
  refine ⟨⟨h.1, h.2.1, fun q hq => by cases hq⟩, fun j w hj => ?_⟩
  by_cases e : j = i
  · subst e
    rw [zfind_cons_eq] at hj
    cases hj
    exact h.2.2 _ List.mem_cons_self
  · rw [zfind_cons_ne _ _ e] at hj
    by_cases e1 : j = i + 1
    · subst e1
      rw [zfind_cons_eq] at hj
      cases hj
    · rw [zfind_cons_ne _ _ e1] at hj
      refine h.2.2 (j, zv b w) (List.mem_cons_of_mem _ (List.mem_filter.mpr ⟨zl_mem hj, ?_⟩))
      by_cases e2 : j + 1 = i
      · have := zok_ne hk hj e2
        simp [e, e1, zv_cat, this]
      · simp [e, e1, e2]
/-- fewer locals, in another order -/
def zsub : zL → zL → Prop
  | [], _ => True
  | (i, o) :: r, ls => zfind i ls = o ∧ zsub r ls
theorem zsub_find {ls : zL} : ∀ {r : zL}, zsub r ls → ∀ {i : Nat} {v : Value}, zfind i r = some v → zfind i ls = some v := by
  intro r
  induction r with
  | nil => intro _ i v h; simp [zfind] at h
  | cons a r ih =>
    intro hs i v h
    obtain ⟨j, o⟩ := a
    by_cases e : i = j
    · subst e
      rw [zfind_cons_eq] at h
      exact hs.1.trans h
    · rw [zfind_cons_ne _ _ e] at h
      exact ih hs.2 h
def zargs : Nat → List Value → zL
  | _, [] => []
  | i, v :: vs => (i, some v) :: zargs (if v.category = 2 then i + 2 else i + 1) vs
theorem zargs_find {b : Nat} : ∀ {vs : List Value} {i j : Nat} {v : Value}, zfind j (zargs i vs) = some v → (j, zv b v) ∈ lv_args i (vs.map (zv b)) := by
  intro vs
  induction vs with
  | nil => intro i j v h; simp [zargs, zfind] at h
  | cons a r ih =>
    intro i j v h
    by_cases e : j = i
    · subst e
      rw [zargs, zfind_cons_eq] at h
      cases h
      exact List.mem_cons_self
    · rw [zargs, zfind_cons_ne _ _ e] at h
      refine List.mem_cons_of_mem _ ?_
      show (j, zv b v) ∈ lv_args (if (zv b a).category = 2 then i + 2 else i + 1) (r.map (zv b))
      rw [zv_cat]
      exact ih h

section ZW
variable {l : Launch} {g : zG} {M : zM} {R : Room} {Z : State → Prop} {QQ : List Frame → Array Value → State → State → Prop} {pc : Nat} {ls : zL} {st : List Value} {h : zH} {k n : Nat}
theorem zw_iconst {a : Int} {v : Int32} (hd : decode M.2.1 pc = .ok (.iconst a, 1)) (hv : Int32.ofInt a = v) (kk : WW l g M R Z QQ (pc + 1) ls (.int v :: st) h k n) : WW l g M R Z QQ pc ls st h k n := by
  intro p e s m args below meth c H locs lsA X hz hP hS hL
  exact lv_iconst X.1 X.2.1 hd hv (kk p e s m args below meth c H locs lsA X hz hP hS hL)
theorem zw_bipush {a : Int} {v : Int32} (hd : decode M.2.1 pc = .ok (.bipush a, 2)) (hv : (Int8.ofInt a).toInt32 = v) (kk : WW l g M R Z QQ (pc + 2) ls (.int v :: st) h k n) : WW l g M R Z QQ pc ls st h k n := by
  intro p e s m args below meth c H locs lsA X hz hP hS hL
  exact lv_bipush X.1 X.2.1 hd hv (kk p e s m args below meth c H locs lsA X hz hP hS hL)
theorem zw_sipush {a : Int} {v : Int32} (hd : decode M.2.1 pc = .ok (.sipush a, 3)) (hv : (Int16.ofInt a).toInt32 = v) (kk : WW l g M R Z QQ (pc + 3) ls (.int v :: st) h k n) : WW l g M R Z QQ pc ls st h k n := by
  intro p e s m args below meth c H locs lsA X hz hP hS hL
  exact lv_sipush X.1 X.2.1 hd hv (kk p e s m args below meth c H locs lsA X hz hP hS hL)
theorem zw_lconst {a : Fin 2} {v : Int64} (hd : decode M.2.1 pc = .ok (.lconst a, 1)) (hv : Int64.ofNat (a : Nat) = v) (kk : WW l g M R Z QQ (pc + 1) ls (.long v :: st) h k n) : WW l g M R Z QQ pc ls st h k n := by
  intro p e s m args below meth c H locs lsA X hz hP hS hL
  exact lv_lconst X.1 X.2.1 hd hv (kk p e s m args below meth c H locs lsA X hz hP hS hL)
theorem zw_null  (hd : decode M.2.1 pc = .ok (.aconst_null, 1))  (kk : WW l g M R Z QQ (pc + 1) ls (.null :: st) h k n) : WW l g M R Z QQ pc ls st h k n := by
  intro p e s m args below meth c H locs lsA X hz hP hS hL
  exact lv_null X.1 X.2.1 hd (kk p e s m args below meth c H locs lsA X hz hP hS hL)
theorem zw_ldc2 {idx : Nat} {v : Int64} (hd : decode M.2.1 pc = .ok (.ldc2_w idx, 3)) (hc : Cond.constantLong M.1.cls idx v ∈ zgw) (kk : WW l g M R Z QQ (pc + 3) ls (.long v :: st) h k n) : WW l g M R Z QQ pc ls st h k n := by
  intro p e s m args below meth c H locs lsA X hz hP hS hL
  exact lv_ldc2 X.1 X.2.1 X.2.2.2.2.1 (X.2.2.2.2.2.1 _ hc) hd (kk p e s m args below meth c H locs lsA X hz hP hS hL)
theorem zw_iload_n {a : Fin 4} {x : Int32} (hd : decode M.2.1 pc = .ok (.iload_n a, 1)) (hf : zfind (a : Nat) ls = some (.int x)) (kk : WW l g M R Z QQ (pc + 1) ls (.int x :: st) h k n) : WW l g M R Z QQ pc ls st h k n := by
  intro p e s m args below meth c H locs lsA X hz hP hS hL
  exact lv_iload_n X.1 X.2.1 hd rfl (hL.2 _ _ hf) (kk p e s m args below meth c H locs lsA X hz hP hS hL)
theorem zw_iload {i : Nat} {x : Int32} (hd : decode M.2.1 pc = .ok (.iload i, 2)) (hf : zfind i ls = some (.int x)) (kk : WW l g M R Z QQ (pc + 2) ls (.int x :: st) h k n) : WW l g M R Z QQ pc ls st h k n := by
  intro p e s m args below meth c H locs lsA X hz hP hS hL
  exact lv_iload X.1 X.2.1 hd (hL.2 _ _ hf) (kk p e s m args below meth c H locs lsA X hz hP hS hL)
theorem zw_lload_n {a : Fin 4} {x : Int64} (hd : decode M.2.1 pc = .ok (.lload_n a, 1)) (hf : zfind (a : Nat) ls = some (.long x)) (kk : WW l g M R Z QQ (pc + 1) ls (.long x :: st) h k n) : WW l g M R Z QQ pc ls st h k n := by
  intro p e s m args below meth c H locs lsA X hz hP hS hL
  exact lv_lload_n X.1 X.2.1 hd rfl (hL.2 _ _ hf) (kk p e s m args below meth c H locs lsA X hz hP hS hL)
theorem zw_lload {i : Nat} {x : Int64} (hd : decode M.2.1 pc = .ok (.lload i, 2)) (hf : zfind i ls = some (.long x)) (kk : WW l g M R Z QQ (pc + 2) ls (.long x :: st) h k n) : WW l g M R Z QQ pc ls st h k n := by
  intro p e s m args below meth c H locs lsA X hz hP hS hL
  exact lv_lload X.1 X.2.1 hd (hL.2 _ _ hf) (kk p e s m args below meth c H locs lsA X hz hP hS hL)
theorem zw_aload_n {a : Fin 4} {x : Nat} (hd : decode M.2.1 pc = .ok (.aload_n a, 1)) (hf : zfind (a : Nat) ls = some (.ref x)) (kk : WW l g M R Z QQ (pc + 1) ls (.ref x :: st) h k n) : WW l g M R Z QQ pc ls st h k n := by
  intro p e s m args below meth c H locs lsA X hz hP hS hL
  exact lv_aload_n X.1 X.2.1 hd rfl (hL.2 _ _ hf) (kk p e s m args below meth c H locs lsA X hz hP hS hL)
theorem zw_aload {i : Nat} {x : Nat} (hd : decode M.2.1 pc = .ok (.aload i, 2)) (hf : zfind i ls = some (.ref x)) (kk : WW l g M R Z QQ (pc + 2) ls (.ref x :: st) h k n) : WW l g M R Z QQ pc ls st h k n := by
  intro p e s m args below meth c H locs lsA X hz hP hS hL
  exact lv_aload X.1 X.2.1 hd (hL.2 _ _ hf) (kk p e s m args below meth c H locs lsA X hz hP hS hL)
theorem zw_aloadS_n {a : Fin 4} {x : Nat} (hd : decode M.2.1 pc = .ok (.aload_n a, 1)) (hf : zfind (a : Nat) ls = some (.retAddr x)) (kk : WW l g M R Z QQ (pc + 1) ls (.retAddr x :: st) h k n) : WW l g M R Z QQ pc ls st h k n := by
  intro p e s m args below meth c H locs lsA X hz hP hS hL
  exact lv_aload_n X.1 X.2.1 hd rfl (hL.2 _ _ hf) (kk p e s m args below meth c H locs lsA X hz hP hS hL)
theorem zw_istore_n {a : Fin 4} {x : Int32} (hd : decode M.2.1 pc = .ok (.istore_n a, 1)) (hn : (a : Nat) < M.2.2.1) (hk : zok (a : Nat) ls = true) (kk : WW l g M R Z QQ (pc + 1) (((a : Nat), some (.int x)) :: ls) st h k n) : WW l g M R Z QQ pc ls (.int x :: st) h k n := by
  intro p e s m args below meth c H locs lsA X hz hP hS hL
  refine lv_istore_n X.1 X.2.1 hd rfl hL.has hn rfl (fun ls2 hl2 => ?_)
  exact kk p e s m args below meth c H locs ls2 X hz hP hS (zLs.put1 (v := .int x) hk hl2)
theorem zw_istore {i : Nat} {x : Int32} (hd : decode M.2.1 pc = .ok (.istore i, 2)) (hn : i < M.2.2.1) (hk : zok i ls = true) (kk : WW l g M R Z QQ (pc + 2) ((i, some (.int x)) :: ls) st h k n) : WW l g M R Z QQ pc ls (.int x :: st) h k n := by
  intro p e s m args below meth c H locs lsA X hz hP hS hL
  refine lv_istore X.1 X.2.1 hd hL.has hn rfl (fun ls2 hl2 => ?_)
  exact kk p e s m args below meth c H locs ls2 X hz hP hS (zLs.put1 (v := .int x) hk hl2)
theorem zw_lstore_n {a : Fin 4} {x : Int64} (hd : decode M.2.1 pc = .ok (.lstore_n a, 1)) (hn : (a : Nat) + 1 < M.2.2.1) (hk : zok (a : Nat) ls = true) (kk : WW l g M R Z QQ (pc + 1) (((a : Nat), some (.long x)) :: ((a : Nat) + 1, none) :: ls) st h k n) : WW l g M R Z QQ pc ls (.long x :: st) h k n := by
  intro p e s m args below meth c H locs lsA X hz hP hS hL
  refine lv_lstore_n X.1 X.2.1 hd rfl hL.has hn rfl (fun ls2 hl2 => ?_)
  exact kk p e s m args below meth c H locs ls2 X hz hP hS (zLs.put2 (v := .long x) hk hl2)
theorem zw_lstore {i : Nat} {x : Int64} (hd : decode M.2.1 pc = .ok (.lstore i, 2)) (hn : i + 1 < M.2.2.1) (hk : zok i ls = true) (kk : WW l g M R Z QQ (pc + 2) ((i, some (.long x)) :: (i + 1, none) :: ls) st h k n) : WW l g M R Z QQ pc ls (.long x :: st) h k n := by
  intro p e s m args below meth c H locs lsA X hz hP hS hL
  refine lv_lstore X.1 X.2.1 hd hL.has hn rfl (fun ls2 hl2 => ?_)
  exact kk p e s m args below meth c H locs ls2 X hz hP hS (zLs.put2 (v := .long x) hk hl2)
theorem zw_astore_n {a : Fin 4} {x : Nat} (hd : decode M.2.1 pc = .ok (.astore_n a, 1)) (hn : (a : Nat) < M.2.2.1) (hk : zok (a : Nat) ls = true) (kk : WW l g M R Z QQ (pc + 1) (((a : Nat), some (.ref x)) :: ls) st h k n) : WW l g M R Z QQ pc ls (.ref x :: st) h k n := by
  intro p e s m args below meth c H locs lsA X hz hP hS hL
  refine lv_astore_n X.1 X.2.1 hd rfl hL.has hn rfl (fun ls2 hl2 => ?_)
  exact kk p e s m args below meth c H locs ls2 X hz hP hS (zLs.put1 (v := .ref x) hk hl2)
theorem zw_astore {i : Nat} {x : Nat} (hd : decode M.2.1 pc = .ok (.astore i, 2)) (hn : i < M.2.2.1) (hk : zok i ls = true) (kk : WW l g M R Z QQ (pc + 2) ((i, some (.ref x)) :: ls) st h k n) : WW l g M R Z QQ pc ls (.ref x :: st) h k n := by
  intro p e s m args below meth c H locs lsA X hz hP hS hL
  refine lv_astore X.1 X.2.1 hd hL.has hn rfl (fun ls2 hl2 => ?_)
  exact kk p e s m args below meth c H locs ls2 X hz hP hS (zLs.put1 (v := .ref x) hk hl2)
theorem zw_iinc {i : Nat} {a : Int} {x v : Int32} (hd : decode M.2.1 pc = .ok (.iinc i a, 3)) (hf : zfind i ls = some (.int x)) (hv : x + Int32.ofInt a = v) (hn : i < M.2.2.1) (hk : zok i ls = true) (kk : WW l g M R Z QQ (pc + 3) ((i, some (.int v)) :: ls) st h k n) : WW l g M R Z QQ pc ls st h k n := by
  intro p e s m args below meth c H locs lsA X hz hP hS hL
  obtain ⟨j, hj⟩ := List.getElem?_of_mem (zl_mem (b := g.1) hf)
  refine lv_iinc X.1 X.2.1 hd hL.has (k := j) hj hv hn rfl (fun ls2 hl2 => ?_)
  exact kk p e s m args below meth c H locs ls2 X hz hP hS (zLs.put1 (v := .int v) hk hl2)
theorem zw_iinc1 {i : Nat} {x : Int32} (hd : decode M.2.1 pc = .ok (.iinc i 1, 3)) (hf : zfind i ls = some (.int x)) (hn : i < M.2.2.1) (hk : zok i ls = true) (kk : WW l g M R Z QQ (pc + 3) ((i, some (.int (x + 1))) :: ls) st h k n) : WW l g M R Z QQ pc ls st h k n := zw_iinc hd hf rfl hn hk kk
theorem zw_ls {ls2 : zL} (hs : zsub ls2 ls) (kk : WW l g M R Z QQ pc ls2 st h k n) : WW l g M R Z QQ pc ls st h k n := by
  intro p e s m args below meth c H locs lsA X hz hP hS hL
  exact kk p e s m args below meth c H locs lsA X hz hP hS ⟨hL.1, fun i v hi => hL.2 i v (zsub_find hs hi)⟩
theorem zw_iadd {x y : Int32} (hd : decode M.2.1 pc = .ok (.iadd, 1))  (kk : WW l g M R Z QQ (pc + 1) ls (.int (x + y) :: st) h k n) : WW l g M R Z QQ pc ls (.int y :: .int x :: st) h k n := by
  intro p e s m args below meth c H locs lsA X hz hP hS hL
  exact lv_iadd X.1 X.2.1 hd (kk p e s m args below meth c H locs lsA X hz hP hS hL)
theorem zw_isub {x y : Int32} (hd : decode M.2.1 pc = .ok (.isub, 1))  (kk : WW l g M R Z QQ (pc + 1) ls (.int (x - y) :: st) h k n) : WW l g M R Z QQ pc ls (.int y :: .int x :: st) h k n := by
  intro p e s m args below meth c H locs lsA X hz hP hS hL
  exact lv_isub X.1 X.2.1 hd (kk p e s m args below meth c H locs lsA X hz hP hS hL)
theorem zw_imul {x y : Int32} (hd : decode M.2.1 pc = .ok (.imul, 1))  (kk : WW l g M R Z QQ (pc + 1) ls (.int (x * y) :: st) h k n) : WW l g M R Z QQ pc ls (.int y :: .int x :: st) h k n := by
  intro p e s m args below meth c H locs lsA X hz hP hS hL
  exact lv_imul X.1 X.2.1 hd (kk p e s m args below meth c H locs lsA X hz hP hS hL)
theorem zw_iand {x y : Int32} (hd : decode M.2.1 pc = .ok (.iand, 1))  (kk : WW l g M R Z QQ (pc + 1) ls (.int (x &&& y) :: st) h k n) : WW l g M R Z QQ pc ls (.int y :: .int x :: st) h k n := by
  intro p e s m args below meth c H locs lsA X hz hP hS hL
  exact lv_iand X.1 X.2.1 hd (kk p e s m args below meth c H locs lsA X hz hP hS hL)
theorem zw_ior {x y : Int32} (hd : decode M.2.1 pc = .ok (.ior, 1))  (kk : WW l g M R Z QQ (pc + 1) ls (.int (x ||| y) :: st) h k n) : WW l g M R Z QQ pc ls (.int y :: .int x :: st) h k n := by
  intro p e s m args below meth c H locs lsA X hz hP hS hL
  exact lv_ior X.1 X.2.1 hd (kk p e s m args below meth c H locs lsA X hz hP hS hL)
theorem zw_ixor {x y : Int32} (hd : decode M.2.1 pc = .ok (.ixor, 1))  (kk : WW l g M R Z QQ (pc + 1) ls (.int (x ^^^ y) :: st) h k n) : WW l g M R Z QQ pc ls (.int y :: .int x :: st) h k n := by
  intro p e s m args below meth c H locs lsA X hz hP hS hL
  exact lv_ixor X.1 X.2.1 hd (kk p e s m args below meth c H locs lsA X hz hP hS hL)
theorem zw_ishl {x y : Int32} (hd : decode M.2.1 pc = .ok (.ishl, 1))  (kk : WW l g M R Z QQ (pc + 1) ls (.int (x <<< (y &&& 31)) :: st) h k n) : WW l g M R Z QQ pc ls (.int y :: .int x :: st) h k n := by
  intro p e s m args below meth c H locs lsA X hz hP hS hL
  exact lv_ishl X.1 X.2.1 hd (kk p e s m args below meth c H locs lsA X hz hP hS hL)
theorem zw_ishr {x y : Int32} (hd : decode M.2.1 pc = .ok (.ishr, 1))  (kk : WW l g M R Z QQ (pc + 1) ls (.int (x >>> (y &&& 31)) :: st) h k n) : WW l g M R Z QQ pc ls (.int y :: .int x :: st) h k n := by
  intro p e s m args below meth c H locs lsA X hz hP hS hL
  exact lv_ishr X.1 X.2.1 hd (kk p e s m args below meth c H locs lsA X hz hP hS hL)
theorem zw_ladd {x y : Int64} (hd : decode M.2.1 pc = .ok (.ladd, 1))  (kk : WW l g M R Z QQ (pc + 1) ls (.long (x + y) :: st) h k n) : WW l g M R Z QQ pc ls (.long y :: .long x :: st) h k n := by
  intro p e s m args below meth c H locs lsA X hz hP hS hL
  exact lv_ladd X.1 X.2.1 hd (kk p e s m args below meth c H locs lsA X hz hP hS hL)
theorem zw_lsub {x y : Int64} (hd : decode M.2.1 pc = .ok (.lsub, 1))  (kk : WW l g M R Z QQ (pc + 1) ls (.long (x - y) :: st) h k n) : WW l g M R Z QQ pc ls (.long y :: .long x :: st) h k n := by
  intro p e s m args below meth c H locs lsA X hz hP hS hL
  exact lv_lsub X.1 X.2.1 hd (kk p e s m args below meth c H locs lsA X hz hP hS hL)
theorem zw_land {x y : Int64} (hd : decode M.2.1 pc = .ok (.land, 1))  (kk : WW l g M R Z QQ (pc + 1) ls (.long (x &&& y) :: st) h k n) : WW l g M R Z QQ pc ls (.long y :: .long x :: st) h k n := by
  intro p e s m args below meth c H locs lsA X hz hP hS hL
  exact lv_land X.1 X.2.1 hd (kk p e s m args below meth c H locs lsA X hz hP hS hL)
theorem zw_lor {x y : Int64} (hd : decode M.2.1 pc = .ok (.lor, 1))  (kk : WW l g M R Z QQ (pc + 1) ls (.long (x ||| y) :: st) h k n) : WW l g M R Z QQ pc ls (.long y :: .long x :: st) h k n := by
  intro p e s m args below meth c H locs lsA X hz hP hS hL
  exact lv_lor X.1 X.2.1 hd (kk p e s m args below meth c H locs lsA X hz hP hS hL)
theorem zw_lxor {x y : Int64} (hd : decode M.2.1 pc = .ok (.lxor, 1))  (kk : WW l g M R Z QQ (pc + 1) ls (.long (x ^^^ y) :: st) h k n) : WW l g M R Z QQ pc ls (.long y :: .long x :: st) h k n := by
  intro p e s m args below meth c H locs lsA X hz hP hS hL
  exact lv_lxor X.1 X.2.1 hd (kk p e s m args below meth c H locs lsA X hz hP hS hL)
theorem zw_idiv {x y : Int32} (hd : decode M.2.1 pc = .ok (.idiv, 1)) (hne : ¬ y = 0) (kk : WW l g M R Z QQ (pc + 1) ls (.int (x / y) :: st) h k n) : WW l g M R Z QQ pc ls (.int y :: .int x :: st) h k n := by
  intro p e s m args below meth c H locs lsA X hz hP hS hL
  exact lv_idiv X.1 X.2.1 hd hne (kk p e s m args below meth c H locs lsA X hz hP hS hL)
theorem zw_irem {x y : Int32} (hd : decode M.2.1 pc = .ok (.irem, 1)) (hne : ¬ y = 0) (kk : WW l g M R Z QQ (pc + 1) ls (.int (x - x / y * y) :: st) h k n) : WW l g M R Z QQ pc ls (.int y :: .int x :: st) h k n := by
  intro p e s m args below meth c H locs lsA X hz hP hS hL
  exact lv_irem X.1 X.2.1 hd hne (kk p e s m args below meth c H locs lsA X hz hP hS hL)
theorem zw_lneg {x : Int64} (hd : decode M.2.1 pc = .ok (.lneg, 1))  (kk : WW l g M R Z QQ (pc + 1) ls (.long (-x) :: st) h k n) : WW l g M R Z QQ pc ls (.long x :: st) h k n := by
  intro p e s m args below meth c H locs lsA X hz hP hS hL
  exact lv_lneg X.1 X.2.1 hd (kk p e s m args below meth c H locs lsA X hz hP hS hL)
theorem zw_l2i {x : Int64} (hd : decode M.2.1 pc = .ok (.l2i, 1))  (kk : WW l g M R Z QQ (pc + 1) ls (.int x.toInt32 :: st) h k n) : WW l g M R Z QQ pc ls (.long x :: st) h k n := by
  intro p e s m args below meth c H locs lsA X hz hP hS hL
  exact lv_l2i X.1 X.2.1 hd rfl (kk p e s m args below meth c H locs lsA X hz hP hS hL)
theorem zw_lushr {x : Int64} {y : Int32} (hd : decode M.2.1 pc = .ok (.lushr, 1))  (kk : WW l g M R Z QQ (pc + 1) ls (.long (x.toUInt64 >>> (y.toInt64.toUInt64 &&& Int64.toUInt64 63)).toInt64 :: st) h k n) : WW l g M R Z QQ pc ls (.int y :: .long x :: st) h k n := by
  intro p e s m args below meth c H locs lsA X hz hP hS hL
  exact lv_lushr X.1 X.2.1 hd rfl (kk p e s m args below meth c H locs lsA X hz hP hS hL)
theorem zw_lshl {x : Int64} {y : Int32} (hd : decode M.2.1 pc = .ok (.lshl, 1))  (kk : WW l g M R Z QQ (pc + 1) ls (.long (x <<< (y.toInt64 &&& 63)) :: st) h k n) : WW l g M R Z QQ pc ls (.int y :: .long x :: st) h k n := by
  intro p e s m args below meth c H locs lsA X hz hP hS hL
  exact lv_lshl X.1 X.2.1 hd rfl (kk p e s m args below meth c H locs lsA X hz hP hS hL)
theorem zw_lcmp {x y : Int64} (hd : decode M.2.1 pc = .ok (.lcmp, 1))  (kk : WW l g M R Z QQ (pc + 1) ls (.int (lg_cmp x y) :: st) h k n) : WW l g M R Z QQ pc ls (.long y :: .long x :: st) h k n := by
  intro p e s m args below meth c H locs lsA X hz hP hS hL
  exact W.lcmp X.1 X.2.1 hd (kk p e s m args below meth c H locs lsA X hz hP hS hL)
theorem zw_dup {v : Value} (hd : decode M.2.1 pc = .ok (.dup, 1)) (hc : v.category = 1) (kk : WW l g M R Z QQ (pc + 1) ls (v :: v :: st) h k n) : WW l g M R Z QQ pc ls (v :: st) h k n := by
  intro p e s m args below meth c H locs lsA X hz hP hS hL
  exact lv_dup X.1 X.2.1 hd (by rw [zv_cat]; exact hc) (kk p e s m args below meth c H locs lsA X hz hP hS hL)
theorem zw_pop {v : Value} (hd : decode M.2.1 pc = .ok (.pop, 1)) (hc : v.category = 1) (kk : WW l g M R Z QQ (pc + 1) ls st h k n) : WW l g M R Z QQ pc ls (v :: st) h k n := by
  intro p e s m args below meth c H locs lsA X hz hP hS hL
  exact lv_pop X.1 X.2.1 hd (by rw [zv_cat]; exact hc) (kk p e s m args below meth c H locs lsA X hz hP hS hL)
theorem zw_dup2 {v w : Value} (hd : decode M.2.1 pc = .ok (.dup2, 1)) (hc : v.category = 1) (hc2 : w.category = 1) (kk : WW l g M R Z QQ (pc + 1) ls (v :: w :: v :: w :: st) h k n) : WW l g M R Z QQ pc ls (v :: w :: st) h k n := by
  intro p e s m args below meth c H locs lsA X hz hP hS hL
  exact lv_dup2_11 X.1 X.2.1 hd (by rw [zv_cat]; exact hc) (by rw [zv_cat]; exact hc2) (kk p e s m args below meth c H locs lsA X hz hP hS hL)
theorem zw_if_eq {x : Int32} {off : Int} (tgt : Nat) (hd : decode M.2.1 pc = .ok (.ifCond .eq off, 3)) (ht : (pc : Int) + off = (tgt : Int)) (kt : (x = 0) → WW l g M R Z QQ tgt ls st h k n) (kf : (¬ x = 0) → WW l g M R Z QQ (pc + 3) ls st h k n) : WW l g M R Z QQ pc ls (.int x :: st) h k n := by
  intro p e s m args below meth c H locs lsA X hz hP hS hL
  exact lv_if_eq X.1 X.2.1 hd ht (fun q => kt q p e s m args below meth c H locs lsA X hz hP hS hL) (fun q => kf q p e s m args below meth c H locs lsA X hz hP hS hL)
theorem zw_icmp_eq {x y : Int32} {off : Int} (tgt : Nat) (hd : decode M.2.1 pc = .ok (.if_icmp .eq off, 3)) (ht : (pc : Int) + off = (tgt : Int)) (kt : (x = y) → WW l g M R Z QQ tgt ls st h k n) (kf : (¬ x = y) → WW l g M R Z QQ (pc + 3) ls st h k n) : WW l g M R Z QQ pc ls (.int y :: .int x :: st) h k n := by
  intro p e s m args below meth c H locs lsA X hz hP hS hL
  exact lv_icmp_eq X.1 X.2.1 hd ht (fun q => kt q p e s m args below meth c H locs lsA X hz hP hS hL) (fun q => kf q p e s m args below meth c H locs lsA X hz hP hS hL)
theorem zw_if_ne {x : Int32} {off : Int} (tgt : Nat) (hd : decode M.2.1 pc = .ok (.ifCond .ne off, 3)) (ht : (pc : Int) + off = (tgt : Int)) (kt : (x ≠ 0) → WW l g M R Z QQ tgt ls st h k n) (kf : (x = 0) → WW l g M R Z QQ (pc + 3) ls st h k n) : WW l g M R Z QQ pc ls (.int x :: st) h k n := by
  intro p e s m args below meth c H locs lsA X hz hP hS hL
  exact lv_if_ne X.1 X.2.1 hd ht (fun q => kt q p e s m args below meth c H locs lsA X hz hP hS hL) (fun q => kf q p e s m args below meth c H locs lsA X hz hP hS hL)
theorem zw_icmp_ne {x y : Int32} {off : Int} (tgt : Nat) (hd : decode M.2.1 pc = .ok (.if_icmp .ne off, 3)) (ht : (pc : Int) + off = (tgt : Int)) (kt : (x ≠ y) → WW l g M R Z QQ tgt ls st h k n) (kf : (x = y) → WW l g M R Z QQ (pc + 3) ls st h k n) : WW l g M R Z QQ pc ls (.int y :: .int x :: st) h k n := by
  intro p e s m args below meth c H locs lsA X hz hP hS hL
  exact lv_icmp_ne X.1 X.2.1 hd ht (fun q => kt q p e s m args below meth c H locs lsA X hz hP hS hL) (fun q => kf q p e s m args below meth c H locs lsA X hz hP hS hL)
theorem zw_if_lt {x : Int32} {off : Int} (tgt : Nat) (hd : decode M.2.1 pc = .ok (.ifCond .lt off, 3)) (ht : (pc : Int) + off = (tgt : Int)) (kt : (x < 0) → WW l g M R Z QQ tgt ls st h k n) (kf : (¬ x < 0) → WW l g M R Z QQ (pc + 3) ls st h k n) : WW l g M R Z QQ pc ls (.int x :: st) h k n := by
  intro p e s m args below meth c H locs lsA X hz hP hS hL
  exact lv_if_lt X.1 X.2.1 hd ht (fun q => kt q p e s m args below meth c H locs lsA X hz hP hS hL) (fun q => kf q p e s m args below meth c H locs lsA X hz hP hS hL)
theorem zw_icmp_lt {x y : Int32} {off : Int} (tgt : Nat) (hd : decode M.2.1 pc = .ok (.if_icmp .lt off, 3)) (ht : (pc : Int) + off = (tgt : Int)) (kt : (x < y) → WW l g M R Z QQ tgt ls st h k n) (kf : (¬ x < y) → WW l g M R Z QQ (pc + 3) ls st h k n) : WW l g M R Z QQ pc ls (.int y :: .int x :: st) h k n := by
  intro p e s m args below meth c H locs lsA X hz hP hS hL
  exact lv_icmp_lt X.1 X.2.1 hd ht (fun q => kt q p e s m args below meth c H locs lsA X hz hP hS hL) (fun q => kf q p e s m args below meth c H locs lsA X hz hP hS hL)
theorem zw_if_ge {x : Int32} {off : Int} (tgt : Nat) (hd : decode M.2.1 pc = .ok (.ifCond .ge off, 3)) (ht : (pc : Int) + off = (tgt : Int)) (kt : (0 ≤ x) → WW l g M R Z QQ tgt ls st h k n) (kf : (¬ 0 ≤ x) → WW l g M R Z QQ (pc + 3) ls st h k n) : WW l g M R Z QQ pc ls (.int x :: st) h k n := by
  intro p e s m args below meth c H locs lsA X hz hP hS hL
  exact lv_if_ge X.1 X.2.1 hd ht (fun q => kt q p e s m args below meth c H locs lsA X hz hP hS hL) (fun q => kf q p e s m args below meth c H locs lsA X hz hP hS hL)
theorem zw_icmp_ge {x y : Int32} {off : Int} (tgt : Nat) (hd : decode M.2.1 pc = .ok (.if_icmp .ge off, 3)) (ht : (pc : Int) + off = (tgt : Int)) (kt : (y ≤ x) → WW l g M R Z QQ tgt ls st h k n) (kf : (¬ y ≤ x) → WW l g M R Z QQ (pc + 3) ls st h k n) : WW l g M R Z QQ pc ls (.int y :: .int x :: st) h k n := by
  intro p e s m args below meth c H locs lsA X hz hP hS hL
  exact lv_icmp_ge X.1 X.2.1 hd ht (fun q => kt q p e s m args below meth c H locs lsA X hz hP hS hL) (fun q => kf q p e s m args below meth c H locs lsA X hz hP hS hL)
theorem zw_if_gt {x : Int32} {off : Int} (tgt : Nat) (hd : decode M.2.1 pc = .ok (.ifCond .gt off, 3)) (ht : (pc : Int) + off = (tgt : Int)) (kt : (0 < x) → WW l g M R Z QQ tgt ls st h k n) (kf : (¬ 0 < x) → WW l g M R Z QQ (pc + 3) ls st h k n) : WW l g M R Z QQ pc ls (.int x :: st) h k n := by
  intro p e s m args below meth c H locs lsA X hz hP hS hL
  exact lv_if_gt X.1 X.2.1 hd ht (fun q => kt q p e s m args below meth c H locs lsA X hz hP hS hL) (fun q => kf q p e s m args below meth c H locs lsA X hz hP hS hL)
theorem zw_icmp_gt {x y : Int32} {off : Int} (tgt : Nat) (hd : decode M.2.1 pc = .ok (.if_icmp .gt off, 3)) (ht : (pc : Int) + off = (tgt : Int)) (kt : (y < x) → WW l g M R Z QQ tgt ls st h k n) (kf : (¬ y < x) → WW l g M R Z QQ (pc + 3) ls st h k n) : WW l g M R Z QQ pc ls (.int y :: .int x :: st) h k n := by
  intro p e s m args below meth c H locs lsA X hz hP hS hL
  exact lv_icmp_gt X.1 X.2.1 hd ht (fun q => kt q p e s m args below meth c H locs lsA X hz hP hS hL) (fun q => kf q p e s m args below meth c H locs lsA X hz hP hS hL)
theorem zw_if_le {x : Int32} {off : Int} (tgt : Nat) (hd : decode M.2.1 pc = .ok (.ifCond .le off, 3)) (ht : (pc : Int) + off = (tgt : Int)) (kt : (x ≤ 0) → WW l g M R Z QQ tgt ls st h k n) (kf : (¬ x ≤ 0) → WW l g M R Z QQ (pc + 3) ls st h k n) : WW l g M R Z QQ pc ls (.int x :: st) h k n := by
  intro p e s m args below meth c H locs lsA X hz hP hS hL
  exact lv_if_le X.1 X.2.1 hd ht (fun q => kt q p e s m args below meth c H locs lsA X hz hP hS hL) (fun q => kf q p e s m args below meth c H locs lsA X hz hP hS hL)
theorem zw_icmp_le {x y : Int32} {off : Int} (tgt : Nat) (hd : decode M.2.1 pc = .ok (.if_icmp .le off, 3)) (ht : (pc : Int) + off = (tgt : Int)) (kt : (x ≤ y) → WW l g M R Z QQ tgt ls st h k n) (kf : (¬ x ≤ y) → WW l g M R Z QQ (pc + 3) ls st h k n) : WW l g M R Z QQ pc ls (.int y :: .int x :: st) h k n := by
  intro p e s m args below meth c H locs lsA X hz hP hS hL
  exact lv_icmp_le X.1 X.2.1 hd ht (fun q => kt q p e s m args below meth c H locs lsA X hz hP hS hL) (fun q => kf q p e s m args below meth c H locs lsA X hz hP hS hL)
theorem zw_goto {off : Int} (tgt : Nat) (hd : decode M.2.1 pc = .ok (.goto off, 3)) (ht : (pc : Int) + off = (tgt : Int)) (kk : WW l g M R Z QQ tgt ls st h k n) : WW l g M R Z QQ pc ls st h k n := by
  intro p e s m args below meth c H locs lsA X hz hP hS hL
  exact lv_goto X.1 X.2.1 hd ht (kk p e s m args below meth c H locs lsA X hz hP hS hL)
theorem zw_ifnonnull {x : Nat} {off : Int} (tgt : Nat) (hd : decode M.2.1 pc = .ok (.ifnonnull off, 3)) (ht : (pc : Int) + off = (tgt : Int)) (kk : WW l g M R Z QQ tgt ls st h k n) : WW l g M R Z QQ pc ls (.ref x :: st) h k n := by
  intro p e s m args below meth c H locs lsA X hz hP hS hL
  exact lv_ifnonnull X.1 X.2.1 hd ht (kk p e s m args below meth c H locs lsA X hz hP hS hL)
theorem zw_ifnull {x : Nat} {off : Int} (hd : decode M.2.1 pc = .ok (.ifnull off, 3)) (kk : WW l g M R Z QQ (pc + 3) ls st h k n) : WW l g M R Z QQ pc ls (.ref x :: st) h k n := by
  intro p e s m args below meth c H locs lsA X hz hP hS hL
  exact lv_ifnull X.1 X.2.1 hd (kk p e s m args below meth c H locs lsA X hz hP hS hL)
theorem zw_tabOut {dflt lo hi : Int} {offs : Array Int} {len : Nat} {x : Int32} (tgt : Nat) (hd : decode M.2.1 pc = .ok (.tableswitch dflt lo hi offs, len)) (h1 : x.toInt < lo ∨ hi < x.toInt) (ht : (pc : Int) + dflt = (tgt : Int)) (kk : WW l g M R Z QQ tgt ls st h k n) : WW l g M R Z QQ pc ls (.int x :: st) h k n := by
  intro p e s m args below meth c H locs lsA X hz hP hS hL
  exact lv_tableOut X.1 X.2.1 hd h1 ht (kk p e s m args below meth c H locs lsA X hz hP hS hL)
theorem zw_tabIn {dflt lo hi : Int} {offs : Array Int} {len : Nat} {x : Int32} {off : Int} (tgt : Nat) (hd : decode M.2.1 pc = .ok (.tableswitch dflt lo hi offs, len)) (h1 : ¬ x.toInt < lo) (h2 : ¬ hi < x.toInt) (ho : offs[(x.toInt - lo).toNat]? = some off) (ht : (pc : Int) + off = (tgt : Int)) (kk : WW l g M R Z QQ tgt ls st h k n) : WW l g M R Z QQ pc ls (.int x :: st) h k n := by
  intro p e s m args below meth c H locs lsA X hz hP hS hL
  exact lv_tableIn X.1 X.2.1 hd h1 h2 ho ht (kk p e s m args below meth c H locs lsA X hz hP hS hL)
theorem zw_look {dflt : Int} {ps : Array (Int × Int)} {len : Nat} {x : Int32} {off : Int} (tgt : Nat) (hd : decode M.2.1 pc = .ok (.lookupswitch dflt ps, len)) (hp : (ps.toList.zip (ps.toList.drop 1)).all (fun (a, next) => a.1 < next.1) = true) (ho : Op.lookupswitch.offset ps.toList dflt x.toInt = off) (ht : (pc : Int) + off = (tgt : Int)) (kk : WW l g M R Z QQ tgt ls st h k n) : WW l g M R Z QQ pc ls (.int x :: st) h k n := by
  intro p e s m args below meth c H locs lsA X hz hP hS hL
  exact lv_lookup X.1 X.2.1 hd hp ho ht (kk p e s m args below meth c H locs lsA X hz hP hS hL)
/-- a field that an instruction names: entry idx of the class own's pool is field a of class number ci -/
def zfl (own : String) (idx ci a : Nat) (fin : Bool) (ty : FieldType) : Prop := ∃ (C : String) (T : u_T) (N : Nat) (Y : Nat → FieldType), zcl[ci]? = some (C, T, N) ∧ a < N ∧ (∀ w ∈ u_ws C T N, w ∈ zgw) ∧ (∀ k, k < N → parseFieldDescriptor (T k).2.2.1 = some (Y k)) ∧ (∀ a, a < N → ∀ b, b < N → a ≠ b → (T a).2.1 ≠ (T b).2.1) ∧ (T a).1 = C ∧ (T a).2.2.2 = fin ∧ Y a = ty ∧
  (Cond.fieldLink own idx C (T a).2.1 (T a).2.2.1 ∈ zgw ∨ Cond.fieldLinkNest own idx C (T a).2.1 (T a).2.2.1 "SweptFloors" ∈ znest)
theorem zw_get {idx ci a q : Nat} {fin : Bool} {ty : FieldType} {v : Value} {fs : List Value} (hd : decode M.2.1 pc = .ok (.getfield idx, 3)) (hl : zfl M.1.cls idx ci a fin ty) (hq : h[q]? = some (.inr (ci, fs))) (hv : fs[a]? = some v) (kk : WW l g M R Z QQ (pc + 3) ls (v :: st) h k n) : WW l g M R Z QQ pc ls (.ref q :: st) h k n := by
  intro p e s m args below meth c H locs lsA X hz hP hS hL
  obtain ⟨C, T, N, Y, h1, h2, h3, h4, h5, h6, h7, h8, h9⟩ := hl
  have hv2 : (fs.map (zv g.1))[a]? = some (zv g.1 v) := by rw [List.getElem?_map, hv]; rfl
  have hsame : ∀ x, s.fieldFound? (T a).1 (T a).2.1 (T a).2.2.1 = some x → s.fieldFound? C (T a).2.1 (T a).2.2.1 = some x := by rw [h6]; exact fun _ h => h
  rcases h9 with h9 | h9
  · exact va_get X.1 X.2.1 X.2.2.2.2.2.1 h3 X.2.2.2.2.1 X.2.2.2.2.2.2.2.2.2.1.1 hP q (zW_get hq) h1 a h2 (X.2.2.2.2.2.1 _ h9) hsame hv2 hd (kk p e s m args below meth c H locs lsA X hz hP hS hL)
  · exact va_getN X.1 X.2.1 X.2.2.2.2.2.1 h3 X.2.2.2.2.1 X.2.2.2.2.2.2.2.2.2.1.1 hP q (zW_get hq) h1 a h2 (va_Nw.use rfl (X.2.2.2.2.2.2.2.2.2.1.2 _ h9)) hsame hv2 hd (kk p e s m args below meth c H locs lsA X hz hP hS hL)
theorem zw_put {idx ci a q : Nat} {ty : FieldType} {v : Value} {fs : List Value} (hd : decode M.2.1 pc = .ok (.putfield idx, 3)) (hl : zfl M.1.cls idx ci a false ty) (hq : h[q]? = some (.inr (ci, fs))) (hn : narrow ty (zv g.1 v) = zv g.1 v) (hfit : fits ty (zv g.1 v) = true) (hlen : a < fs.length) (kk : WW l g M R Z QQ (pc + 3) ls st (h.set q (.inr (ci, fs.set a v))) k n) : WW l g M R Z QQ pc ls (v :: .ref q :: st) h k n := by
  intro p e s m args below meth c H locs lsA X hz hP hS hL
  obtain ⟨C, T, N, Y, h1, h2, h3, h4, h5, h6, h7, h8, h9⟩ := hl
  have hsame : ∀ x, s.fieldFound? (T a).1 (T a).2.1 (T a).2.2.1 = some x → s.fieldFound? C (T a).2.1 (T a).2.2.1 = some x := by rw [h6]; exact fun _ h => h
  have hset : (g.1 + q, Sum.inr (ci, (fs.map (zv g.1)).set a (zv g.1 v))) = (g.1 + q, zE g.1 g.2.1 (.inr (ci, fs.set a v))) := by simp [zE, List.map_set]
  have hty : parseFieldDescriptor (T a).2.2.1 = some ty := by rw [h4 a h2, h8]
  rcases h9 with h9 | h9
  · refine va_put X.1 X.2.1 X.2.2.2.2.2.1 h3 Y h4 h5 X.2.2.2.2.1 X.2.2.2.2.2.2.2.2.2.1.1 hP zW_D hS q (zW_get hq) h1 a h2 (X.2.2.2.2.2.1 _ h9) hsame h7 hty hn hfit (by simpa using hlen) hd (fun H1 locs1 hP1 hD1 hS1 => ?_)
    rw [hset, zW_set] at hP1
    exact kk p e s m args below meth c H1 locs1 lsA X (by rw [List.length_set]; exact hz) hP1 hS1 hL
  · refine va_putN X.1 X.2.1 X.2.2.2.2.2.1 h3 Y h4 h5 X.2.2.2.2.1 X.2.2.2.2.2.2.2.2.2.1.1 hP zW_D hS q (zW_get hq) h1 a h2 (va_Nw.use rfl (X.2.2.2.2.2.2.2.2.2.1.2 _ h9)) hsame h7 hty hn hfit (by simpa using hlen) hd (fun H1 locs1 hP1 hD1 hS1 => ?_)
    rw [hset, zW_set] at hP1
    exact kk p e s m args below meth c H1 locs1 lsA X (by rw [List.length_set]; exact hz) hP1 hS1 hL
theorem zw_puti {idx ci a q : Nat} {x : Int32} {fs : List Value} (hd : decode M.2.1 pc = .ok (.putfield idx, 3)) (hl : zfl M.1.cls idx ci a false .int) (hq : h[q]? = some (.inr (ci, fs))) (hlen : a < fs.length) (kk : WW l g M R Z QQ (pc + 3) ls st (h.set q (.inr (ci, fs.set a (.int x)))) k n) : WW l g M R Z QQ pc ls (.int x :: .ref q :: st) h k n := zw_put hd hl hq rfl rfl hlen kk
theorem zw_putl {idx ci a q : Nat} {x : Int64} {fs : List Value} (hd : decode M.2.1 pc = .ok (.putfield idx, 3)) (hl : zfl M.1.cls idx ci a false .long) (hq : h[q]? = some (.inr (ci, fs))) (hlen : a < fs.length) (kk : WW l g M R Z QQ (pc + 3) ls st (h.set q (.inr (ci, fs.set a (.long x)))) k n) : WW l g M R Z QQ pc ls (.long x :: .ref q :: st) h k n := zw_put hd hl hq rfl rfl hlen kk
/-- a final field of the own class, in its constructor -/
def zflF (own : String) (idx ci a : Nat) (ty : FieldType) : Prop := ∃ (T : u_T) (N : Nat) (Y : Nat → FieldType), zcl[ci]? = some (own, T, N) ∧ a < N ∧ (∀ w ∈ u_ws own T N, w ∈ zgw) ∧ (∀ k, k < N → parseFieldDescriptor (T k).2.2.1 = some (Y k)) ∧ (∀ a, a < N → ∀ b, b < N → a ≠ b → (T a).2.1 ≠ (T b).2.1) ∧ (T a).1 = own ∧ (T a).2.2.2 = true ∧ Y a = ty ∧ Cond.fieldLink own idx own (T a).2.1 (T a).2.2.1 ∈ zgw
theorem zw_putF {idx ci a q : Nat} {ty : FieldType} {v : Value} {fs : List Value} (hd : decode M.2.1 pc = .ok (.putfield idx, 3)) (hl : zflF M.1.cls idx ci a ty) (hin : M.1.name = "<init>") (hq : h[q]? = some (.inr (ci, fs))) (hn : narrow ty (zv g.1 v) = zv g.1 v) (hfit : fits ty (zv g.1 v) = true) (hlen : a < fs.length) (kk : WW l g M R Z QQ (pc + 3) ls st (h.set q (.inr (ci, fs.set a v))) k n) : WW l g M R Z QQ pc ls (v :: .ref q :: st) h k n := by
  intro p e s m args below meth c H locs lsA X hz hP hS hL
  obtain ⟨T, N, Y, h1, h2, h3, h4, h5, h6, h7, h8, h9⟩ := hl
  have hsame : ∀ x, s.fieldFound? (T a).1 (T a).2.1 (T a).2.2.1 = some x → s.fieldFound? M.1.cls (T a).2.1 (T a).2.2.1 = some x := by rw [h6]; exact fun _ h => h
  have hset : (g.1 + q, Sum.inr (ci, (fs.map (zv g.1)).set a (zv g.1 v))) = (g.1 + q, zE g.1 g.2.1 (.inr (ci, fs.set a v))) := by simp [zE, List.map_set]
  have hty : parseFieldDescriptor (T a).2.2.1 = some ty := by rw [h4 a h2, h8]
  refine va_putF X.1 X.2.1 X.2.2.2.2.2.1 h3 Y h4 h5 X.2.2.2.2.1 X.2.2.2.2.2.2.2.2.2.1.1 hP zW_D hS q (zW_get hq) h1 a h2 (X.2.2.2.2.2.1 _ h9) hsame h7 (X.2.2.2.2.2.2.2.1.trans hin) h6 hty hn hfit (by simpa using hlen) hd (fun H1 locs1 hP1 hD1 hS1 => ?_)
  rw [hset, zW_set] at hP1
  exact kk p e s m args below meth c H1 locs1 lsA X (by rw [List.length_set]; exact hz) hP1 hS1 hL
theorem zw_iald {q N : Nat} {f : Nat → Int32} {x : Int32} (hd : decode M.2.1 pc = .ok (.iaload, 1)) (hq : h[q]? = some (.inl (0, N, .inl f))) (hin : vp_in x N) (kk : WW l g M R Z QQ (pc + 1) ls (.int (f x.toNatClampNeg) :: st) h k n) : WW l g M R Z QQ pc ls (.int x :: .ref q :: st) h k n := by
  intro p e s m args below meth c H locs lsA X hz hP hS hL
  exact va_iald X.1 X.2.1 X.2.2.2.2.2.2.2.2.2.1.1 hP q 0 (zW_get hq) rfl hin hd (kk p e s m args below meth c H locs lsA X hz hP hS hL)
theorem zw_zald {q N : Nat} {f : Nat → Int32} {x : Int32} (hd : decode M.2.1 pc = .ok (.baload, 1)) (hq : h[q]? = some (.inl (2, N, .inl f))) (hin : vp_in x N) (kk : WW l g M R Z QQ (pc + 1) ls (.int (f x.toNatClampNeg) :: st) h k n) : WW l g M R Z QQ pc ls (.int x :: .ref q :: st) h k n := by
  intro p e s m args below meth c H locs lsA X hz hP hS hL
  exact va_zald X.1 X.2.1 X.2.2.2.2.2.2.2.2.2.1.1 hP q 2 (zW_get hq) rfl hin hd (kk p e s m args below meth c H locs lsA X hz hP hS hL)
theorem zw_lald {q N : Nat} {f : Nat → Int64} {x : Int32} (hd : decode M.2.1 pc = .ok (.laload, 1)) (hq : h[q]? = some (.inl (1, N, .inr (.inl f)))) (hin : vp_in x N) (kk : WW l g M R Z QQ (pc + 1) ls (.long (f x.toNatClampNeg) :: st) h k n) : WW l g M R Z QQ pc ls (.int x :: .ref q :: st) h k n := by
  intro p e s m args below meth c H locs lsA X hz hP hS hL
  exact va_lald X.1 X.2.1 X.2.2.2.2.2.2.2.2.2.1.1 hP q 1 (zW_get hq) rfl hin hd (kk p e s m args below meth c H locs lsA X hz hP hS hL)
theorem zw_iast {q N : Nat} {f : Nat → Int32} {x : Int32} {y : Int32} (hd : decode M.2.1 pc = .ok (.iastore, 1)) (hq : h[q]? = some (.inl (0, N, .inl f))) (hin : vp_in x N) (kk : WW l g M R Z QQ (pc + 1) ls st (h.set q (.inl (0, N, .inl (upd f x.toNatClampNeg y)))) k n) : WW l g M R Z QQ pc ls (.int y :: .int x :: .ref q :: st) h k n := by
  intro p e s m args below meth c H locs lsA X hz hP hS hL
  refine va_iast X.1 X.2.1 X.2.2.2.2.2.2.2.2.2.1.1 hP zW_D hS q 0 (zW_get hq) rfl hin hd (fun H1 locs1 hP1 hD1 hS1 => ?_)
  have hP2 : va_P g.2.2 zcl ((zW g.1 g.2.1 h).set q (g.1 + q, zE g.1 g.2.1 (.inl (0, N, .inl (upd f x.toNatClampNeg y))))) H1 := hP1
  rw [zW_set] at hP2
  exact kk p e s m args below meth c H1 locs1 lsA X (by rw [List.length_set]; exact hz) hP2 hS1 hL
theorem zw_zast {q N : Nat} {f : Nat → Int32} {x : Int32} {y : Int32} (hd : decode M.2.1 pc = .ok (.bastore, 1)) (hq : h[q]? = some (.inl (2, N, .inl f))) (hin : vp_in x N) (kk : WW l g M R Z QQ (pc + 1) ls st (h.set q (.inl (2, N, .inl (upd f x.toNatClampNeg (vp_nar .boolean y))))) k n) : WW l g M R Z QQ pc ls (.int y :: .int x :: .ref q :: st) h k n := by
  intro p e s m args below meth c H locs lsA X hz hP hS hL
  refine va_zast X.1 X.2.1 X.2.2.2.2.2.2.2.2.2.1.1 hP zW_D hS q 2 (zW_get hq) rfl hin hd (fun H1 locs1 hP1 hD1 hS1 => ?_)
  have hP2 : va_P g.2.2 zcl ((zW g.1 g.2.1 h).set q (g.1 + q, zE g.1 g.2.1 (.inl (2, N, .inl (upd f x.toNatClampNeg (vp_nar .boolean y)))))) H1 := hP1
  rw [zW_set] at hP2
  exact kk p e s m args below meth c H1 locs1 lsA X (by rw [List.length_set]; exact hz) hP2 hS1 hL
theorem zw_last {q N : Nat} {f : Nat → Int64} {x : Int32} {y : Int64} (hd : decode M.2.1 pc = .ok (.lastore, 1)) (hq : h[q]? = some (.inl (1, N, .inr (.inl f)))) (hin : vp_in x N) (kk : WW l g M R Z QQ (pc + 1) ls st (h.set q (.inl (1, N, .inr (.inl (vp_updL f x.toNatClampNeg y))))) k n) : WW l g M R Z QQ pc ls (.long y :: .int x :: .ref q :: st) h k n := by
  intro p e s m args below meth c H locs lsA X hz hP hS hL
  refine va_last X.1 X.2.1 X.2.2.2.2.2.2.2.2.2.1.1 hP zW_D hS q 1 (zW_get hq) rfl hin hd (fun H1 locs1 hP1 hD1 hS1 => ?_)
  have hP2 : va_P g.2.2 zcl ((zW g.1 g.2.1 h).set q (g.1 + q, zE g.1 g.2.1 (.inl (1, N, .inr (.inl (vp_updL f x.toNatClampNeg y)))))) H1 := hP1
  rw [zW_set] at hP2
  exact kk p e s m args below meth c H1 locs1 lsA X (by rw [List.length_set]; exact hz) hP2 hS1 hL
theorem zw_aald {q N r : Nat} {f : Nat → Option Nat} {x : Int32} (hd : decode M.2.1 pc = .ok (.aaload, 1)) (hq : h[q]? = some (.inl (3, N, .inr (.inr (.inr (.inr f)))))) (hin : vp_in x N) (hr : f x.toNatClampNeg = some r) (kk : WW l g M R Z QQ (pc + 1) ls (.ref r :: st) h k n) : WW l g M R Z QQ pc ls (.int x :: .ref q :: st) h k n := by
  intro p e s m args below meth c H locs lsA X hz hP hS hL
  refine va_aldq X.1 X.2.1 X.2.2.2.2.2.2.2.2.2.1.1 hP q 3 (zW_get hq) rfl hin hd ?_
  have e1 : va_rf ((f x.toNatClampNeg).map (g.1 + ·)) = zv g.1 (.ref r) := by rw [hr]; rfl
  rw [e1]
  exact (kk p e s m args below meth c H locs lsA X hz hP hS hL)
theorem zw_aast {q N r : Nat} {f : Nat → Option Nat} {x : Int32} {fs : List Value} (hd : decode M.2.1 pc = .ok (.aastore, 1)) (hq : h[q]? = some (.inl (3, N, .inr (.inr (.inr (.inr f)))))) (hr : h[r]? = some (.inr (3, fs))) (hin : vp_in x N) (kk : WW l g M R Z QQ (pc + 1) ls st (h.set q (.inl (3, N, .inr (.inr (.inr (.inr (va_up f x.toNatClampNeg (some r)))))))) k n) : WW l g M R Z QQ pc ls (.ref r :: .int x :: .ref q :: st) h k n := by
  intro p e s m args below meth c H locs lsA X hz hP hS hL
  refine va_astq X.1 X.2.1 X.2.2.2.2.2.2.2.2.2.1.1 hP zW_D hS q 3 r 3 (zW_get hq) (r := (zR_S, zT_S, 11)) rfl (zW_get hr) rfl hin hd (fun H1 locs1 hP1 hD1 hS1 => ?_)
  have e1 : (fun j => (va_up f x.toNatClampNeg (some r) j).map (g.1 + ·)) = va_up (fun j => (f j).map (g.1 + ·)) x.toNatClampNeg (some (g.1 + r)) := by
    funext j
    by_cases hj : j = x.toNatClampNeg <;> simp [va_up, hj]
  have hP2 : va_P g.2.2 zcl ((zW g.1 g.2.1 h).set q (g.1 + q, zE g.1 g.2.1 (.inl (3, N, .inr (.inr (.inr (.inr (va_up f x.toNatClampNeg (some r))))))))) H1 := by
    show va_P g.2.2 zcl ((zW g.1 g.2.1 h).set q (g.1 + q, .inl (g.2.1 3, N, .inr (.inr (.inr (.inr (fun j => (va_up f x.toNatClampNeg (some r) j).map (g.1 + ·)))))))) H1
    rw [e1]
    exact hP1
  rw [zW_set] at hP2
  exact kk p e s m args below meth c H1 locs1 lsA X (by rw [List.length_set]; exact hz) hP2 hS1 hL
/-- the script: an int array at the cell a, outside the world -/
def zS (g : zG) (a L : Nat) (xs : Nat → Int32) : State → Prop := fun s => va_X a L xs s s.heap ∧ a < g.1
theorem zw_sld {a L : Nat} {xs : Nat → Int32} {x : Int32} (hZ : ∀ s, Z s → zS g a L xs s) (hd : decode M.2.1 pc = .ok (.iaload, 1)) (hin : vp_in x L) (kk : WW l g M R Z QQ (pc + 1) ls (.int (xs x.toNatClampNeg) :: st) h k n) : WW l g M R Z QQ pc ls (.int x :: .retAddr a :: st) h k n := by
  intro p e s m args below meth c H locs lsA X hz hP hS hL
  obtain ⟨z1, z2⟩ := hZ s X.2.2.2.2.2.2.2.2.1
  exact va_sld X.1 X.2.1 z1 (Nat.lt_of_lt_of_le z2 X.2.2.2.2.2.2.2.2.2.2) (Nat.not_le.mpr z2) hS hin hd (kk p e s m args below meth c H locs lsA X hz hP hS hL)
theorem zw_slen {a L : Nat} {xs : Nat → Int32} (hZ : ∀ s, Z s → zS g a L xs s) (hd : decode M.2.1 pc = .ok (.arraylength, 1)) (kk : WW l g M R Z QQ (pc + 1) ls (.int (Int32.ofNat L) :: st) h k n) : WW l g M R Z QQ pc ls (.retAddr a :: st) h k n := by
  intro p e s m args below meth c H locs lsA X hz hP hS hL
  obtain ⟨z1, z2⟩ := hZ s X.2.2.2.2.2.2.2.2.1
  exact va_slen X.1 X.2.1 z1 (Nat.lt_of_lt_of_le z2 X.2.2.2.2.2.2.2.2.2.2) (Nat.not_le.mpr z2) hS hd (kk p e s m args below meth c H locs lsA X hz hP hS hL)
end ZW
section ZR
variable {l : Launch} {g : zG} {M : zM} {R : Room} {Z : State → Prop} {post : Option Value → zH → Prop} {n1 : Nat} {pc : Nat} {ls : zL} {st : List Value} {h : zH} {k n : Nat}
theorem zw_iret {x : Int32} (hd : decode M.2.1 pc = .ok (.ireturn, 1)) {ty : FieldType} (hr : M.2.2.2 = some ty) (hn : narrow ty (.int x) = .int x) (hlen : h.length = n1) (hp : post (some (.int x)) h) : WW l g M R Z (zQQ g post n1 k n) pc ls [.int x] h k n := by
  intro p e s m args below meth c H locs lsA X hz hP hS hL
  have hq : ∀ t : State, t.heap = H → s.WarmedH t.vm → zQ g post n1 args s (.returned (some (.int x))) t := fun t ht hW => ⟨⟨(some (.int x)), h, rfl, hp, hlen, by rw [ht]; exact hP⟩, hS.F ht⟩
  exact W.zret X.1 X.2.1 (X.2.2.1.trans hr) hn hq hS.2.2 hd X.2.2.2.2.2.2.1
theorem zw_lret {x : Int64} (hd : decode M.2.1 pc = .ok (.lreturn, 1)) (hr : M.2.2.2 = some .long) (hlen : h.length = n1) (hp : post (some (.long x)) h) : WW l g M R Z (zQQ g post n1 k n) pc ls [.long x] h k n := by
  intro p e s m args below meth c H locs lsA X hz hP hS hL
  have hq : ∀ t : State, t.heap = H → s.WarmedH t.vm → zQ g post n1 args s (.returned (some (.long x))) t := fun t ht hW => ⟨⟨(some (.long x)), h, rfl, hp, hlen, by rw [ht]; exact hP⟩, hS.F ht⟩
  exact W.lret X.1 X.2.1 (X.2.2.1.trans hr) hq hS.2.2 hd X.2.2.2.2.2.2.1
theorem zw_vret  (hd : decode M.2.1 pc = .ok (.return_, 1)) (hr : M.2.2.2 = none) (hlen : h.length = n1) (hp : post none h) : WW l g M R Z (zQQ g post n1 k n) pc ls [] h k n := by
  intro p e s m args below meth c H locs lsA X hz hP hS hL
  have hq : ∀ t : State, t.heap = H → s.WarmedH t.vm → zQ g post n1 args s (.returned (none)) t := fun t ht hW => ⟨⟨none, h, rfl, hp, hlen, by rw [ht]; exact hP⟩, hS.F ht⟩
  exact W.vret X.1 X.2.1 (X.2.2.1.trans hr) hq hS.2.2 hd X.2.2.2.2.2.2.1
theorem zw_widen {QQ : List Frame → Array Value → State → State → Prop} {n2 : Nat} (h2 : n ≤ n2) (kk : WW l g M R Z QQ pc ls st h k n2) : WW l g M R Z QQ pc ls st h k n := by
  intro p e s m args below meth c H locs lsA X hz hP hS hL
  exact W.widen (Nat.le_refl _) h2 (kk p e s m args below meth c H locs lsA X hz hP hS hL)
theorem zsl_len (b : Nat) (vs : List Value) : (lg_sl (vs.map (zv b))).length = (lg_sl vs).length := by
  induction vs with
  | nil => rfl
  | cons a r ih =>
    simp only [lg_sl, List.map_cons, List.flatMap_cons, List.length_append] at ih ⊢
    rw [ih, zv_cat]
    split <;> rfl
/-- a contract out of the walk of its body -/
theorem run_of {d mc ms : Nat} {args : List Value} (hy : plainName M.1.cls = true) (hl : (lg_sl args).length ≤ M.2.2.1) (kk : WW l g M (zrm d mc ms) (fun _ => True) (zQQ g post (h.length + mc) mc ms) 0 (zargs 0 args) [] h 0 0) : Run l g M d mc ms args h post := by
  refine Met.ofW (cc := M.2.1) (maxL := M.2.2.1) (ret := M.2.2.2) hy rfl ?_
  intro p e s m args' below meth c s₁ B hml hv
  obtain ⟨rfl, hsz, hP, hK⟩ := hv
  have hts := atoms_spec (ws := .code M.1 M.2.1 M.2.2.1 M.2.2.2 :: zgw) B.pre
  rw [lg_entry_eq]
  have hl0 := lv_entry (args.map (zv g.1)) (n := M.2.2.1) (by rw [zsl_len]; exact hl)
  exact kk p e s m _ below meth c s.heap [] _ ⟨B.exec, B.bytes, B.returns, hml, findClass_of_methodNamed B.named, fun w hw => hts w (List.mem_cons_of_mem _ hw), B.notSynchronized, (name_of_methodNamed B.named B.method).1, trivial, hK, by rw [hsz]; exact Nat.le_add_right _ _⟩ hsz hP va_S.rf ⟨⟨hl0.1, hl0.2.1, fun q hq => by cases hq⟩, fun i v hi => hl0.2.2 (i, zv g.1 v) (zargs_find hi)⟩
theorem Run.mono {d mc ms : Nat} {args : List Value} {post2 : Option Value → zH → Prop} (hr : Run l g M d mc ms args h post) (hp : ∀ v h', post v h' → post2 v h') : Run l g M d mc ms args h post2 := by
  intro p e ha hc hk s m a below hf hpre hP hK
  obtain ⟨t, o, h1, h2, h3, ⟨⟨v, h', e1, e2, e3, e4⟩, hF⟩, hL⟩ := hr p e ha hc hk s m a below hf hpre hP hK
  exact ⟨t, o, h1, h2, h3, ⟨⟨v, h', e1, hp v h' e2, e3, e4⟩, hF⟩, hL⟩
end ZR
/-! calls -/
def zmd (M : zM) (n : Nat) : Prop := Cond.code M.1 M.2.1 M.2.2.1 M.2.2.2 ∈ zgw ∧ Cond.initialized M.1.cls ∈ zgw ∧ (M.1.cls ≠ "java/lang/invoke/MethodHandle" ∧ M.1.cls ≠ "java/lang/invoke/VarHandle" ∧ (parseMethodDescriptor M.1.desc).map (fun d => d.parameters.length) = some n) ∧ M.2.2.1 ≤ 19
def zmV (M : zM) (n : Nat) : Prop := zmd M n ∧ Cond.instanceMethod M.1 ∈ zgw ∧ Cond.selects M.1.cls M.1 M.1 ∈ zgw
def zmS (M : zM) (n : Nat) : Prop := zmd M n ∧ Cond.static M.1 ∈ zgw
def zmI (M : zM) (n : Nat) : Prop := zmd M n ∧ Cond.instanceMethod M.1 ∈ zgw ∧ M.1.name = "<init>" ∧ M.2.2.2 = none
def zlk (own : String) (idx : Nat) (y : MethodName) : Prop := Cond.methodLink own idx y ∈ zgw ∨ Cond.methodLinkNest own idx y "SweptFloors" ∈ znest
theorem zgood {w : Cond} (h : w ∈ zgw) : GoodIn zgw (w :: zgw) := by
  intro x hx
  have hm : x ∈ zgw := by
    rcases List.mem_cons.mp hx with e | e
    · rw [e]; exact h
    · exact e
  exact ⟨hm, good_of_word (List.mem_filter.mp hm).2⟩
section ZC
variable {l : Launch} {g : zG} {M : zM} {R : Room} {Z : State → Prop} {QQ : List Frame → Array Value → State → State → Prop} {pc : Nat} {ls : zL} {st : List Value} {h : zH} {k n : Nat}
theorem zsize {p : Program} {e : Env} {s : State} {m : MethodId} {args : Array Value} {below : List Frame} {meth : Method} {c : Code} {T : State} {H : Heap} {locs : List Loc} (X : zX g M Z p s m args meth c) (hz : s.heap.size + k = g.1 + h.length) (hP : va_P g.2.2 zcl (zW g.1 g.2.1 h) H) (hS : va_S (fun q => g.1 ≤ q) s.heap H locs) (hT : T.heap = H) (X0 : Stand p l e R s m args below meth c T locs k n) : H.size = g.1 + h.length := by
  have hu : T.heap.size ≤ s.heap.size + k := X0.same.2.2.1
  rw [hT] at hu
  have hlo : g.1 + h.length ≤ H.size := by
    cases hh : h.length with
    | zero => exact Nat.le_trans X.2.2.2.2.2.2.2.2.2.2 hS.1
    | succ j =>
      have hj : j < h.length := by omega
      have h1 := (hP j _ (zW_get (List.getElem?_eq_getElem hj))).lt
      exact h1
  omega
theorem zB_blind (As : List Value) : FrameBlind (va_Pc (As.map (zv g.1)) (zB g h)) := fun a U f mk q => ⟨q.1, q.2.1, q.2.2.1, va_K.moved (u := U) (U := U.calling f mk a) (Vm.Alike.refl U.vm) q.2.2.2.1, zN.same (u := U) (U := U.calling f mk a) rfl q.2.2.2.2⟩
theorem zB_pre {p : Program} {s : State} {m : MethodId} {args : Array Value} {meth : Method} {c : Code} {H : Heap} (As : List Value) (X : zX g M Z p s m args meth c) (hsz : H.size = g.1 + h.length) (hP : va_P g.2.2 zcl (zW g.1 g.2.1 h) H) : ∀ U : State, U.heap = H → s.WarmedH U.vm → va_Pc (As.map (zv g.1)) (zB g h) (As.map (zv g.1)).toArray U :=
  fun U hU hW => ⟨rfl, by rw [hU]; exact hsz, by rw [hU]; exact hP, va_K.moved hW.alike X.2.2.2.2.2.2.2.2.2.1.1, zN.warm hW X.2.2.2.2.2.2.2.2.2.1.2⟩
theorem zcall {p : Program} {e : Env} {s : State} {m : MethodId} {args : Array Value} {below : List Frame} {meth : Method} {c : Code} {H : Heap} {locs : List Loc} {lsA : Array Slot} {T : State} {mc ms : Nat} {post : Option Value → zH → Prop} {a : Array Value} {st0 : List Value}
    (X : zX g M Z p s m args meth c) (hz : s.heap.size + k = g.1 + h.length) (hS : va_S (fun q => g.1 ≤ q) s.heap H locs) (hL : zLs g.1 M.2.2.1 lsA ls) (hT : T.heap = H) (X0 : Stand p l e R s m args below meth c T locs k n)
    (hr : va_Run p l e R s m args below meth c H locs k n mc ms (F0 m pc lsA st0) (st.map (zv g.1)) (zQ g post (h.length + mc) a) (fun q => g.1 ≤ q))
    (kk : ∀ v h', post v h' → WW l g M R Z QQ (pc + 3) ls (v.toList ++ st) h' (k + mc) (n + ms)) : ∃ t, Steps p.tables e below (T.setTop (F0 m pc lsA st0)) t ∧ QQ below args s t := by
  obtain ⟨v, st₀, t, T', L, h0, X', hL', e1, e2, ⟨⟨v1, h', hv, hp, hlen, hP'⟩, hF⟩, hst⟩ := hr T hT X0
  have hv' : v = v1.map (zv g.1) := by injection hv
  subst hv'
  have hz1 := hF.1
  have hk1 := hF.2
  rw [h0] at hz1 hk1
  have hS' : va_S (fun q => g.1 ≤ q) s.heap T'.heap (locs ++ L) := ⟨Nat.le_trans hS.1 (by rw [e1]; exact hz1), fun q h1 h2 => by rw [e1, hk1 q (Nat.lt_of_lt_of_le h1 hS.1) h2]; exact hS.2.1 q h1 h2, fun q hq => by
      rcases List.mem_append.mp hq with h | h
      · exact hS.2.2 q h
      · exact hL' q h⟩
  have K := kk v1 h' hp p e s m args below meth c T'.heap (locs ++ L) lsA X (by rw [hlen]; omega) (by rw [e1]; exact hP') hS' hL
  obtain ⟨t2, a1, b1⟩ := K T' rfl X'
  refine ⟨t2, hst t2 ?_, b1⟩
  have e3 : (v1.map (zv g.1)).toList ++ st.map (zv g.1) = (v1.toList ++ st).map (zv g.1) := by cases v1 <;> simp
  show Steps p.tables e below (T'.setTop (F0 m (pc + 3) lsA ((v1.map (zv g.1)).toList ++ st.map (zv g.1)))) t2
  rw [e3]
  exact a1
theorem zst_room (hc : (st.map Value.category).sum ≤ 8) : ((st.map (zv g.1)).map fun v => v.category).sum ≤ 8 := by
  have e : (st.map (zv g.1)).map (fun v => v.category) = st.map Value.category := by
    rw [List.map_map]
    exact List.map_congr_left (fun v _ => zv_cat g.1 v)
  rw [e]
  exact hc
theorem zw_callV {M' : zM} {idx d mc ms q ci : Nat} {fs : List Value} {T' : u_T} {N' : Nat} {post : Option Value → zH → Prop} (As : List Value) (hd : decode M.2.1 pc = .ok (.invokevirtual idx, 3)) (hm : zmV M' As.length) (hk : zlk M.1.cls idx M'.1) (hR : d + 1 ≤ R.frames ∧ 38 * d + 38 ≤ R.locals) (hq : h[q]? = some (.inr (ci, fs))) (hc : zcl[ci]? = some (M'.1.cls, T', N')) (hf : k + mc ≤ R.cells ∧ n + ms ≤ R.slots) (hst : (st.map Value.category).sum ≤ 8)
    (hrun : Run l g M' d mc ms (.ref q :: As) h post) (kk : ∀ v h', post v h' → WW l g M R Z QQ (pc + 3) ls (v.toList ++ st) h' (k + mc) (n + ms)) : WW l g M R Z QQ pc ls (As.reverse ++ .ref q :: st) h k n := by
  intro p e s m args below meth c H locs lsA X hz hP hS hL T hT X0
  have hsz := zsize X hz hP hS hT X0
  have hst0 : (As.reverse ++ .ref q :: st).map (zv g.1) = (As.map (zv g.1)).reverse ++ .ref (g.1 + q) :: st.map (zv g.1) := by simp [zv]
  obtain ⟨⟨m1, m2, m3, m4⟩, m5, m6⟩ := hm
  have hrm : (zrm d mc ms).frames + 1 ≤ R.frames ∧ 8 + (M'.2.2.1 + 11) + (zrm d mc ms).locals ≤ R.locals := ⟨hR.1, by have := hR.2; show 8 + (M'.2.2.1 + 11) + 38 * d ≤ R.locals; omega⟩
  have hts := X.2.2.2.2.2.1
  have hp : PreV s H M'.1.cls (g.1 + q) (va_Pc ((.ref q :: As).map (zv g.1)) (zB g h)) (As.map (zv g.1)) := ⟨zB_blind _, va_recv X.2.2.2.2.2.2.2.2.2.1.1 hP hc (zW_get hq), zB_pre _ X hsz hP⟩
  refine zcall (st0 := (As.reverse ++ .ref q :: st).map (zv g.1)) X hz hS hL hT X0 (mc := mc) (ms := ms) (post := post) (a := (Value.ref (g.1 + q) :: As.map (zv g.1)).toArray) ?_ kk
  rcases hk with hk | hk
  · exact va_runV (n := As.length) (C := M'.1.cls) (Ts := zgw) (rm := zrm d mc ms) ⟨X.1, X.2.1, X.2.2.2.1, X.2.2.2.2.1, hts⟩ hrun ⟨callB_of As.length hts (zgood m1) rfl rfl rfl (hts _ m2) (hts _ hk) m3 hrm, hts _ m5, hts _ m6⟩ hp rfl (by simp) hL.1.1 hst0 (lv_room (zst_room hst)) hd hf
  · exact va_runVN (n := As.length) (C := M'.1.cls) (Ts := zgw) (rm := zrm d mc ms) ⟨X.1, X.2.1, X.2.2.2.1, X.2.2.2.2.1, hts⟩ hrun ⟨va_cnB As.length hts (zgood m1) rfl rfl rfl (X.2.2.2.2.2.2.2.2.2.1.2 _ hk) (hts _ m2) m3 hrm, hts _ m5, hts _ m6⟩ hp rfl (by simp) hL.1.1 hst0 (lv_room (zst_room hst)) hd hf
theorem zw_callS {M' : zM} {idx d mc ms : Nat} {post : Option Value → zH → Prop} (As : List Value) (hd : decode M.2.1 pc = .ok (.invokestatic idx, 3)) (hm : zmS M' As.length) (hk : zlk M.1.cls idx M'.1) (hR : d + 1 ≤ R.frames ∧ 38 * d + 38 ≤ R.locals) (hf : k + mc ≤ R.cells ∧ n + ms ≤ R.slots) (hst : (st.map Value.category).sum ≤ 8)
    (hrun : Run l g M' d mc ms As h post) (kk : ∀ v h', post v h' → WW l g M R Z QQ (pc + 3) ls (v.toList ++ st) h' (k + mc) (n + ms)) : WW l g M R Z QQ pc ls (As.reverse ++ st) h k n := by
  intro p e s m args below meth c H locs lsA X hz hP hS hL T hT X0
  have hsz := zsize X hz hP hS hT X0
  have hst0 : (As.reverse ++ st).map (zv g.1) = (As.map (zv g.1)).reverse ++ st.map (zv g.1) := by simp
  obtain ⟨⟨m1, m2, m3, m4⟩, m5⟩ := hm
  have hrm : (zrm d mc ms).frames + 1 ≤ R.frames ∧ 8 + (M'.2.2.1 + 11) + (zrm d mc ms).locals ≤ R.locals := ⟨hR.1, by have := hR.2; show 8 + (M'.2.2.1 + 11) + 38 * d ≤ R.locals; omega⟩
  have hts := X.2.2.2.2.2.1
  have hp : PreS s H (va_Pc (As.map (zv g.1)) (zB g h)) (As.map (zv g.1)) := ⟨zB_blind _, zB_pre _ X hsz hP⟩
  refine zcall (st0 := (As.reverse ++ st).map (zv g.1)) X hz hS hL hT X0 (mc := mc) (ms := ms) (post := post) (a := (As.map (zv g.1)).toArray) ?_ kk
  rcases hk with hk | hk
  · exact va_runS (n := As.length) (Ts := zgw) (rm := zrm d mc ms) ⟨X.1, X.2.1, X.2.2.2.1, X.2.2.2.2.1, hts⟩ hrun ⟨callB_of As.length hts (zgood m1) rfl rfl rfl (hts _ m2) (hts _ hk) m3 hrm, hts _ m5⟩ hp rfl (by simp) hL.1.1 hst0 (lv_room (zst_room hst)) hd hf
  · exact va_runSN (n := As.length) (Ts := zgw) (rm := zrm d mc ms) ⟨X.1, X.2.1, X.2.2.2.1, X.2.2.2.2.1, hts⟩ hrun ⟨va_cnB As.length hts (zgood m1) rfl rfl rfl (X.2.2.2.2.2.2.2.2.2.1.2 _ hk) (hts _ m2) m3 hrm, hts _ m5, trivial⟩ hp rfl (by simp) hL.1.1 hst0 (lv_room (zst_room hst)) hd hf
theorem zw_callI {M' : zM} {idx d mc ms q : Nat} {post : Option Value → zH → Prop} (As : List Value) (hd : decode M.2.1 pc = .ok (.invokespecial idx, 3)) (hm : zmI M' As.length) (hk : zlk M.1.cls idx M'.1) (hR : d + 1 ≤ R.frames ∧ 38 * d + 38 ≤ R.locals) (hf : k + mc ≤ R.cells ∧ n + ms ≤ R.slots) (hst : (st.map Value.category).sum ≤ 8)
    (hrun : Run l g M' d mc ms (.ref q :: As) h post) (kk : ∀ v h', post v h' → WW l g M R Z QQ (pc + 3) ls (v.toList ++ st) h' (k + mc) (n + ms)) : WW l g M R Z QQ pc ls (As.reverse ++ .ref q :: st) h k n := by
  intro p e s m args below meth c H locs lsA X hz hP hS hL T hT X0
  have hsz := zsize X hz hP hS hT X0
  have hst0 : (As.reverse ++ .ref q :: st).map (zv g.1) = (As.map (zv g.1)).reverse ++ .ref (g.1 + q) :: st.map (zv g.1) := by simp [zv]
  obtain ⟨⟨m1, m2, m3, m4⟩, m5, m6, m7⟩ := hm
  have hrm : (zrm d mc ms).frames + 1 ≤ R.frames ∧ 8 + (M'.2.2.1 + 11) + (zrm d mc ms).locals ≤ R.locals := ⟨hR.1, by have := hR.2; show 8 + (M'.2.2.1 + 11) + 38 * d ≤ R.locals; omega⟩
  have hts := X.2.2.2.2.2.1
  have hp : PreS s H (va_Pc ((.ref q :: As).map (zv g.1)) (zB g h)) (.ref (g.1 + q) :: As.map (zv g.1)) := ⟨zB_blind _, zB_pre (.ref q :: As) X hsz hP⟩
  refine zcall (st0 := (As.reverse ++ .ref q :: st).map (zv g.1)) X hz hS hL hT X0 (mc := mc) (ms := ms) (post := post) (a := (Value.ref (g.1 + q) :: As.map (zv g.1)).toArray) ?_ kk
  unfold Run at hrun
  rw [m7] at hrun m1
  rcases hk with hk | hk
  · exact va_runI (n := As.length) (Ts := zgw) (rm := zrm d mc ms) ⟨X.1, X.2.1, X.2.2.2.1, X.2.2.2.2.1, hts⟩ hrun ⟨callB_of As.length hts (zgood m1) rfl rfl rfl (hts _ m2) (hts _ hk) m3 hrm, m6, hts _ m5⟩ hp rfl (by simp) hL.1.1 hst0 (lv_room (zst_room hst)) hd hf
  · exact va_runIN (n := As.length) (Ts := zgw) (rm := zrm d mc ms) ⟨X.1, X.2.1, X.2.2.2.1, X.2.2.2.2.1, hts⟩ hrun ⟨va_cnB As.length hts (zgood m1) rfl rfl rfl (X.2.2.2.2.2.2.2.2.2.1.2 _ hk) (hts _ m2) m3 hrm, m6, hts _ m5⟩ hp rfl (by simp) hL.1.1 hst0 (lv_room (zst_room hst)) hd hf
theorem zw_objInit {idx q : Nat} (hd : decode M.2.1 pc = .ok (.invokespecial idx, 3)) (hl : Cond.methodLink M.1.cls idx Lib.objectInit ∈ zgw) (hi : Cond.instanceMethod Lib.objectInit ∈ zgw) (hc : Cond.code Lib.objectInit ⟨#[0xb1]⟩ 1 none ∈ zgw) (hR : 1 ≤ R.frames ∧ 38 ≤ R.locals) (hst : (st.map Value.category).sum ≤ 8) (kk : WW l g M R Z QQ (pc + 3) ls st h k n) : WW l g M R Z QQ pc ls (.ref q :: st) h k n := by
  intro p e s m args below meth c H locs lsA X hz hP hS hL
  have hts := X.2.2.2.2.2.1
  have h8 := lv_room (m := m) (pc := pc) (ls := lsA) (rest := (Value.ref q :: st).map (zv g.1)) (zst_room (g := g) hst)
  exact W.objInit X.1 X.2.1 X.2.2.2.2.1 (hts _ hl) (hts _ hi) (hts _ hc) rfl (hL.1.1.trans X.2.2.2.1.symm) rfl hd hR.1 (by have := hR.2; omega) (kk p e s m args below meth c H locs lsA X hz hP hS hL)
/-! new cells -/
theorem zfresh {p : Program} {e : Env} {s : State} {m : MethodId} {args : Array Value} {below : List Frame} {meth : Method} {c : Code} {T : State} {H1 : Heap} {locs : List Loc} {n2 q : Nat} {E : va_E} (X : zX g M Z p s m args meth c) (hz : s.heap.size + k = g.1 + h.length) (hP : va_P g.2.2 zcl (zW g.1 g.2.1 h ++ [(q, E)]) H1) (hD : va_D (fun q => g.1 ≤ q) (zW g.1 g.2.1 h ++ [(q, E)])) (hT : T.heap = H1) (X0 : Stand p l e R s m args below meth c T locs (k + 1) n2) : q = g.1 + h.length := by
  have hu : T.heap.size ≤ s.heap.size + (k + 1) := X0.same.2.2.1
  rw [hT] at hu
  have hat : (zW g.1 g.2.1 h ++ [(q, E)])[h.length]? = some (q, E) := by
    rw [List.getElem?_append_right (by rw [zW_len]; exact Nat.le_refl _), zW_len, Nat.sub_self]; rfl
  have hlt : q < H1.size := (hP _ _ hat).lt
  have hge : g.1 ≤ q := hD.2 _ _ hat
  rcases Nat.lt_or_ge (q - g.1) h.length with hh | hh
  · exfalso
    have h1 : (zW g.1 g.2.1 h ++ [(q, E)])[q - g.1]? = some (g.1 + (q - g.1), zE g.1 g.2.1 h[q - g.1]) := by
      rw [List.getElem?_append_left (by rw [zW_len]; exact hh)]
      exact zW_get (List.getElem?_eq_getElem hh)
    have := hD.1 _ _ _ _ h1 hat (by show g.1 + (q - g.1) = q; omega)
    omega
  · omega
theorem zw_new {idx ci N : Nat} {fs : List Value} {C : String} {T' : u_T} {Y : Nat → FieldType} (hd : decode M.2.1 pc = .ok (.new idx, 3)) (hc : zcl[ci]? = some (C, T', N)) (hi : ∀ w ∈ u_ws C T' N, w ∈ zgw) (hy : ∀ k, k < N → parseFieldDescriptor (T' k).2.2.1 = some (Y k)) (hl : Cond.classLink M.1.cls idx C ∈ zgw) (hin : Cond.instantiable C N ∈ zgw) (hini : Cond.initialized C ∈ zgw) (hfs : ∀ j, j < N → defaultValue (Y j) = vp_V fs j) (hfz : fs.map (zv g.1) = fs) (hf : k + 1 ≤ R.cells ∧ n + N ≤ R.slots)
    (kk : WW l g M R Z QQ (pc + 3) ls (.ref h.length :: st) (h ++ [.inr (ci, fs)]) (k + 1) (n + N)) : WW l g M R Z QQ pc ls st h k n := by
  intro p e s m args below meth c H locs lsA X hz hP hS hL
  have hts := X.2.2.2.2.2.1
  refine va_new X.1 X.2.1 hts hi Y hy X.2.2.2.2.1 (hts _ hl) (hts _ hin) (hts _ hini) X.2.2.2.2.2.2.2.2.2.1.1 hP zW_D hS (fun q hq => Nat.le_trans X.2.2.2.2.2.2.2.2.2.2 hq) hc hfs hf.1 hf.2 hd (fun q H1 hP1 hD1 hS1 => ?_)
  intro T hT X0
  have hq := zfresh X hz hP1 hD1 hT X0
  subst hq
  have hP2 : va_P g.2.2 zcl (zW g.1 g.2.1 h ++ [(g.1 + h.length, zE g.1 g.2.1 (.inr (ci, fs)))]) H1 := by
    show va_P g.2.2 zcl (zW g.1 g.2.1 h ++ [(g.1 + h.length, .inr (ci, fs.map (zv g.1)))]) H1
    rw [hfz]; exact hP1
  rw [zW_app] at hP2
  exact kk p e s m args below meth c H1 locs lsA X (by simp; omega) hP2 hS1 hL T hT X0
theorem zRA {s : State} {c1 c2 : ClassId} {ty : FieldType} (h1 : va_RA s c1 ty) (h2 : va_RA s c2 ty) : c1 = c2 := by
  cases ty with
  | object C =>
    obtain ⟨_, _, -, -, -, a⟩ := h1
    obtain ⟨_, _, -, -, -, b⟩ := h2
    exact Option.some.inj (a.symm.trans b)
  | _ => exact Option.some.inj (Eq.trans (Eq.symm h1) h2)

theorem zw_newi {x : Int32} {N : Nat} (hd : decode M.2.1 pc = .ok (.newarray .int, 2)) (ha : Cond.arrayClass (newarray.typeOf .int) ∈ zgw) (h0 : ¬ x < 0) (hN : x.toNatClampNeg = N) (hb : N * 8 ≤ 536870912) (hf : k + 1 ≤ R.cells ∧ n + N ≤ R.slots) (kk : WW l g M R Z QQ (pc + 2) ls (.ref h.length :: st) (h ++ [.inl (0, N, .inl (fun _ => 0))]) (k + 1) (n + N)) : WW l g M R Z QQ pc ls (.int x :: st) h k n := by
  intro p e s m args below meth c H locs lsA X hz hP hS hL
  have hts := X.2.2.2.2.2.1
  refine va_newa (atype := .int) (ty := .int) (a0 := (N, .inl (fun _ => 0))) X.1 X.2.1 (hts _ ha) rfl X.2.2.2.2.2.2.2.2.2.1.1 hP zW_D hS (fun q hq => Nat.le_trans X.2.2.2.2.2.2.2.2.2.2 hq) (fun cA => rfl) h0 hN (by show N * componentBytes .int ≤ 536870912; simp [componentBytes]; omega) hf.1 hf.2 hd (fun q cA H1 hK1 hP1 hD1 hS1 => ?_)
  have hcA : cA = g.2.1 0 := zRA (hK1.2 4 (cA, .int) rfl).2 (hK1.2 0 (g.2.1 0, .int) rfl).2
  subst hcA
  intro T hT X0
  have hq := zfresh X hz hP1 hD1 hT X0
  subst hq
  have hP2 : va_P g.2.2 zcl (zW g.1 g.2.1 h ++ [(g.1 + h.length, zE g.1 g.2.1 (.inl (0, N, .inl (fun _ => 0))))]) H1 := hP1
  rw [zW_app] at hP2
  exact kk p e s m args below meth c H1 locs lsA X (by simp; omega) hP2 hS1 hL T hT X0
theorem zw_newl {x : Int32} {N : Nat} (hd : decode M.2.1 pc = .ok (.newarray .long, 2)) (ha : Cond.arrayClass (newarray.typeOf .long) ∈ zgw) (h0 : ¬ x < 0) (hN : x.toNatClampNeg = N) (hb : N * 8 ≤ 536870912) (hf : k + 1 ≤ R.cells ∧ n + N ≤ R.slots) (kk : WW l g M R Z QQ (pc + 2) ls (.ref h.length :: st) (h ++ [.inl (1, N, .inr (.inl (fun _ => 0)))]) (k + 1) (n + N)) : WW l g M R Z QQ pc ls (.int x :: st) h k n := by
  intro p e s m args below meth c H locs lsA X hz hP hS hL
  have hts := X.2.2.2.2.2.1
  refine va_newa (atype := .long) (ty := .long) (a0 := (N, .inr (.inl (fun _ => 0)))) X.1 X.2.1 (hts _ ha) rfl X.2.2.2.2.2.2.2.2.2.1.1 hP zW_D hS (fun q hq => Nat.le_trans X.2.2.2.2.2.2.2.2.2.2 hq) (fun cA => rfl) h0 hN (by show N * componentBytes .long ≤ 536870912; simp [componentBytes]; omega) hf.1 hf.2 hd (fun q cA H1 hK1 hP1 hD1 hS1 => ?_)
  have hcA : cA = g.2.1 1 := zRA (hK1.2 4 (cA, .long) rfl).2 (hK1.2 1 (g.2.1 1, .long) rfl).2
  subst hcA
  intro T hT X0
  have hq := zfresh X hz hP1 hD1 hT X0
  subst hq
  have hP2 : va_P g.2.2 zcl (zW g.1 g.2.1 h ++ [(g.1 + h.length, zE g.1 g.2.1 (.inl (1, N, .inr (.inl (fun _ => 0)))))]) H1 := hP1
  rw [zW_app] at hP2
  exact kk p e s m args below meth c H1 locs lsA X (by simp; omega) hP2 hS1 hL T hT X0
theorem zw_newz {x : Int32} {N : Nat} (hd : decode M.2.1 pc = .ok (.newarray .boolean, 2)) (ha : Cond.arrayClass (newarray.typeOf .boolean) ∈ zgw) (h0 : ¬ x < 0) (hN : x.toNatClampNeg = N) (hb : N * 8 ≤ 536870912) (hf : k + 1 ≤ R.cells ∧ n + N ≤ R.slots) (kk : WW l g M R Z QQ (pc + 2) ls (.ref h.length :: st) (h ++ [.inl (2, N, .inl (fun _ => 0))]) (k + 1) (n + N)) : WW l g M R Z QQ pc ls (.int x :: st) h k n := by
  intro p e s m args below meth c H locs lsA X hz hP hS hL
  have hts := X.2.2.2.2.2.1
  refine va_newa (atype := .boolean) (ty := .boolean) (a0 := (N, .inl (fun _ => 0))) X.1 X.2.1 (hts _ ha) rfl X.2.2.2.2.2.2.2.2.2.1.1 hP zW_D hS (fun q hq => Nat.le_trans X.2.2.2.2.2.2.2.2.2.2 hq) (fun cA => rfl) h0 hN (by show N * componentBytes .boolean ≤ 536870912; simp [componentBytes]; omega) hf.1 hf.2 hd (fun q cA H1 hK1 hP1 hD1 hS1 => ?_)
  have hcA : cA = g.2.1 2 := zRA (hK1.2 4 (cA, .boolean) rfl).2 (hK1.2 2 (g.2.1 2, .boolean) rfl).2
  subst hcA
  intro T hT X0
  have hq := zfresh X hz hP1 hD1 hT X0
  subst hq
  have hP2 : va_P g.2.2 zcl (zW g.1 g.2.1 h ++ [(g.1 + h.length, zE g.1 g.2.1 (.inl (2, N, .inl (fun _ => 0))))]) H1 := hP1
  rw [zW_app] at hP2
  exact kk p e s m args below meth c H1 locs lsA X (by simp; omega) hP2 hS1 hL T hT X0
theorem zw_newq {idx : Nat} {x : Int32} {N : Nat} (hd : decode M.2.1 pc = .ok (.anewarray idx, 3)) (hl : Cond.classLink M.1.cls idx "SweptFloors$Situation" ∈ zgw) (ha : Cond.arrayOver (.object "SweptFloors$Situation") ∈ zgw) (h0 : ¬ x < 0) (hN : x.toNatClampNeg = N) (hb : N * 8 ≤ 536870912) (hf : k + 1 ≤ R.cells ∧ n + N ≤ R.slots) (kk : WW l g M R Z QQ (pc + 3) ls (.ref h.length :: st) (h ++ [.inl (3, N, .inr (.inr (.inr (.inr (fun _ => none)))))]) (k + 1) (n + N)) : WW l g M R Z QQ pc ls (.int x :: st) h k n := by
  intro p e s m args below meth c H locs lsA X hz hP hS hL
  have hts := X.2.2.2.2.2.1
  refine va_newq X.1 X.2.1 X.2.2.2.2.1 (hts _ hl) (va_AO.of (hts _ ha)) X.2.2.2.2.2.2.2.2.2.1.1 hP zW_D hS (fun q hq => Nat.le_trans X.2.2.2.2.2.2.2.2.2.2 hq) h0 hN (by omega) hf.1 hf.2 hd (fun q cA H1 hK1 hP1 hD1 hS1 => ?_)
  have hcA : cA = g.2.1 3 := zRA (hK1.2 4 (cA, .object "SweptFloors$Situation") rfl).2 (hK1.2 3 (g.2.1 3, .object "SweptFloors$Situation") rfl).2
  subst hcA
  intro T hT X0
  have hq := zfresh X hz hP1 hD1 hT X0
  subst hq
  have hP2 : va_P g.2.2 zcl (zW g.1 g.2.1 h ++ [(g.1 + h.length, zE g.1 g.2.1 (.inl (3, N, .inr (.inr (.inr (.inr (fun _ => none)))))))]) H1 := hP1
  rw [zW_app] at hP2
  exact kk p e s m args below meth c H1 locs lsA X (by simp; omega) hP2 hS1 hL T hT X0
theorem zw_copyl {idx q0 q1 n0 n1 : Nat} {f f2 : Nat → Int64} (hd : decode M.2.1 pc = .ok (.invokestatic idx, 3)) (hl : Cond.methodLink M.1.cls idx arraycopyName ∈ zgw) (hna : Cond.native arraycopyName ∈ zgw) (hsc : Cond.static arraycopyName ∈ zgw) (hini : Cond.initialized "java/lang/System" ∈ zgw) (h0 : h[q0]? = some (.inl (1, n0, .inr (.inl f)))) (h1 : h[q1]? = some (.inl (1, n1, .inr (.inl f2)))) {sp dp len : Int32} (g1 : ¬ sp < 0) (g2 : ¬ dp < 0) (g3 : ¬ len < 0) (g4 : sp.toNatClampNeg + len.toNatClampNeg ≤ n0) (g5 : dp.toNatClampNeg + len.toNatClampNeg ≤ n1) (hR : 1 ≤ R.frames ∧ (st.map Value.category).sum + (nativeFrameWords "java/lang/System" "arraycopy" 5 + 11) ≤ R.locals)
    (kk : WW l g M R Z QQ (pc + 3) ls st (h.set q1 (.inl (1, n1, .inr (.inl (va_cpy f f2 sp.toNatClampNeg dp.toNatClampNeg len.toNatClampNeg))))) k n) : WW l g M R Z QQ pc ls (.int len :: .int dp :: .ref q1 :: .int sp :: .ref q0 :: st) h k n := by
  intro p e s m args below meth c H locs lsA X hz hP hS hL
  have hts := X.2.2.2.2.2.1
  have hroom : ((st.map (zv g.1)).map fun v => v.category).sum + (nativeFrameWords "java/lang/System" "arraycopy" 5 + 11) ≤ R.locals := by
    have e : (st.map (zv g.1)).map (fun v => v.category) = st.map Value.category := by
      rw [List.map_map]
      exact List.map_congr_left (fun v _ => zv_cat g.1 v)
    rw [e]; exact hR.2
  refine va_copyl X.1 X.2.1 (X.2.2.2.1.trans hL.1.1.symm) X.2.2.2.2.1 (hts _ hl) (hts _ hna) (hts _ hsc) (hts _ hini) X.2.2.2.2.2.2.2.2.2.1.1 hP zW_D hS q0 q1 1 1 (zW_get h0) (zW_get h1) rfl rfl rfl g1 g2 g3 g4 g5 (fun i _ => rfl) hR.1 hroom hd (fun H1 locs1 hP1 hD1 hS1 => ?_)
  have hP2 : va_P g.2.2 zcl ((zW g.1 g.2.1 h).set q1 (g.1 + q1, zE g.1 g.2.1 (.inl (1, n1, .inr (.inl (va_cpy f f2 sp.toNatClampNeg dp.toNatClampNeg len.toNatClampNeg)))))) H1 := hP1
  rw [zW_set] at hP2
  exact kk p e s m args below meth c H1 locs1 lsA X (by rw [List.length_set]; exact hz) hP2 hS1 hL
end ZC
def PI (r : Int32) (h1 : zH) : Option Value → zH → Prop := fun v h' => v = some (.int r) ∧ h' = h1
def PL (r : Int64) (h1 : zH) : Option Value → zH → Prop := fun v h' => v = some (.long r) ∧ h' = h1
def PV (h1 : zH) : Option Value → zH → Prop := fun v h' => v = none ∧ h' = h1
theorem zRR {d mc ms : Nat} : d + 1 ≤ (zrm (d + 1) mc ms).frames ∧ 38 * d + 38 ≤ (zrm (d + 1) mc ms).locals := ⟨Nat.le_refl _, Nat.le_refl _⟩

section ZF
variable {l : Launch} {g : zG} {M : zM} {R : Room} {Z : State → Prop} {QQ : List Frame → Array Value → State → State → Prop} {pc : Nat} {ls : zL} {st : List Value} {h h1 : zH} {k n : Nat} {M' : zM} {idx d q ci : Nat} {fs : List Value} {T' : u_T} {N' : Nat} {post : Option Value → zH → Prop}
theorem zc_V0I {r : Int32} (hd : decode M.2.1 pc = .ok (.invokevirtual idx, 3)) (hm : zmV M' 0) (hk : zlk M.1.cls idx M'.1) (hq : h[q]? = some (.inr (ci, fs))) (hc : zcl[ci]? = some (M'.1.cls, T', N')) (hrun : Run l g M' d 0 0 [.ref q] h (PI r h1)) (kk : WW l g M R Z QQ (pc + 3) ls (.int r :: st) h1 k n) (hR : d + 1 ≤ R.frames ∧ 38 * d + 38 ≤ R.locals) (hst : (st.map Value.category).sum ≤ 8) (hf : k ≤ R.cells ∧ n ≤ R.slots) : WW l g M R Z QQ pc ls (.ref q :: st) h k n := zw_callV [] hd hm hk hR hq hc hf hst hrun (fun v h2 ⟨e1, e2⟩ => by subst e1; subst e2; exact kk)
theorem zc_V0L {r : Int64} (hd : decode M.2.1 pc = .ok (.invokevirtual idx, 3)) (hm : zmV M' 0) (hk : zlk M.1.cls idx M'.1) (hq : h[q]? = some (.inr (ci, fs))) (hc : zcl[ci]? = some (M'.1.cls, T', N')) (hrun : Run l g M' d 0 0 [.ref q] h (PL r h1)) (kk : WW l g M R Z QQ (pc + 3) ls (.long r :: st) h1 k n) (hR : d + 1 ≤ R.frames ∧ 38 * d + 38 ≤ R.locals) (hst : (st.map Value.category).sum ≤ 8) (hf : k ≤ R.cells ∧ n ≤ R.slots) : WW l g M R Z QQ pc ls (.ref q :: st) h k n := zw_callV [] hd hm hk hR hq hc hf hst hrun (fun v h2 ⟨e1, e2⟩ => by subst e1; subst e2; exact kk)
theorem zc_V0V (hd : decode M.2.1 pc = .ok (.invokevirtual idx, 3)) (hm : zmV M' 0) (hk : zlk M.1.cls idx M'.1) (hq : h[q]? = some (.inr (ci, fs))) (hc : zcl[ci]? = some (M'.1.cls, T', N')) (hrun : Run l g M' d 0 0 [.ref q] h (PV h1)) (kk : WW l g M R Z QQ (pc + 3) ls st h1 k n) (hR : d + 1 ≤ R.frames ∧ 38 * d + 38 ≤ R.locals) (hst : (st.map Value.category).sum ≤ 8) (hf : k ≤ R.cells ∧ n ≤ R.slots) : WW l g M R Z QQ pc ls (.ref q :: st) h k n := zw_callV [] hd hm hk hR hq hc hf hst hrun (fun v h2 ⟨e1, e2⟩ => by subst e1; subst e2; exact kk)
theorem zg_V0 {mc ms : Nat} (hd : decode M.2.1 pc = .ok (.invokevirtual idx, 3)) (hm : zmV M' 0) (hk : zlk M.1.cls idx M'.1) (hq : h[q]? = some (.inr (ci, fs))) (hc : zcl[ci]? = some (M'.1.cls, T', N')) (hrun : Run l g M' d mc ms [.ref q] h post) (hR : d + 1 ≤ R.frames ∧ 38 * d + 38 ≤ R.locals) (hst : (st.map Value.category).sum ≤ 8) (hf : k + mc ≤ R.cells ∧ n + ms ≤ R.slots) (kk : ∀ v h', post v h' → WW l g M R Z QQ (pc + 3) ls (v.toList ++ st) h' (k + mc) (n + ms)) : WW l g M R Z QQ pc ls (.ref q :: st) h k n := zw_callV [] hd hm hk hR hq hc hf hst hrun kk
theorem zc_V1I {a1 : Value} {r : Int32} (hd : decode M.2.1 pc = .ok (.invokevirtual idx, 3)) (hm : zmV M' 1) (hk : zlk M.1.cls idx M'.1) (hq : h[q]? = some (.inr (ci, fs))) (hc : zcl[ci]? = some (M'.1.cls, T', N')) (hrun : Run l g M' d 0 0 [.ref q, a1] h (PI r h1)) (kk : WW l g M R Z QQ (pc + 3) ls (.int r :: st) h1 k n) (hR : d + 1 ≤ R.frames ∧ 38 * d + 38 ≤ R.locals) (hst : (st.map Value.category).sum ≤ 8) (hf : k ≤ R.cells ∧ n ≤ R.slots) : WW l g M R Z QQ pc ls (a1 :: .ref q :: st) h k n := zw_callV [a1] hd hm hk hR hq hc hf hst hrun (fun v h2 ⟨e1, e2⟩ => by subst e1; subst e2; exact kk)
theorem zc_V1L {a1 : Value} {r : Int64} (hd : decode M.2.1 pc = .ok (.invokevirtual idx, 3)) (hm : zmV M' 1) (hk : zlk M.1.cls idx M'.1) (hq : h[q]? = some (.inr (ci, fs))) (hc : zcl[ci]? = some (M'.1.cls, T', N')) (hrun : Run l g M' d 0 0 [.ref q, a1] h (PL r h1)) (kk : WW l g M R Z QQ (pc + 3) ls (.long r :: st) h1 k n) (hR : d + 1 ≤ R.frames ∧ 38 * d + 38 ≤ R.locals) (hst : (st.map Value.category).sum ≤ 8) (hf : k ≤ R.cells ∧ n ≤ R.slots) : WW l g M R Z QQ pc ls (a1 :: .ref q :: st) h k n := zw_callV [a1] hd hm hk hR hq hc hf hst hrun (fun v h2 ⟨e1, e2⟩ => by subst e1; subst e2; exact kk)
theorem zc_V1V {a1 : Value} (hd : decode M.2.1 pc = .ok (.invokevirtual idx, 3)) (hm : zmV M' 1) (hk : zlk M.1.cls idx M'.1) (hq : h[q]? = some (.inr (ci, fs))) (hc : zcl[ci]? = some (M'.1.cls, T', N')) (hrun : Run l g M' d 0 0 [.ref q, a1] h (PV h1)) (kk : WW l g M R Z QQ (pc + 3) ls st h1 k n) (hR : d + 1 ≤ R.frames ∧ 38 * d + 38 ≤ R.locals) (hst : (st.map Value.category).sum ≤ 8) (hf : k ≤ R.cells ∧ n ≤ R.slots) : WW l g M R Z QQ pc ls (a1 :: .ref q :: st) h k n := zw_callV [a1] hd hm hk hR hq hc hf hst hrun (fun v h2 ⟨e1, e2⟩ => by subst e1; subst e2; exact kk)
theorem zg_V1 {a1 : Value} {mc ms : Nat} (hd : decode M.2.1 pc = .ok (.invokevirtual idx, 3)) (hm : zmV M' 1) (hk : zlk M.1.cls idx M'.1) (hq : h[q]? = some (.inr (ci, fs))) (hc : zcl[ci]? = some (M'.1.cls, T', N')) (hrun : Run l g M' d mc ms [.ref q, a1] h post) (hR : d + 1 ≤ R.frames ∧ 38 * d + 38 ≤ R.locals) (hst : (st.map Value.category).sum ≤ 8) (hf : k + mc ≤ R.cells ∧ n + ms ≤ R.slots) (kk : ∀ v h', post v h' → WW l g M R Z QQ (pc + 3) ls (v.toList ++ st) h' (k + mc) (n + ms)) : WW l g M R Z QQ pc ls (a1 :: .ref q :: st) h k n := zw_callV [a1] hd hm hk hR hq hc hf hst hrun kk
theorem zc_V2I {a1 a2 : Value} {r : Int32} (hd : decode M.2.1 pc = .ok (.invokevirtual idx, 3)) (hm : zmV M' 2) (hk : zlk M.1.cls idx M'.1) (hq : h[q]? = some (.inr (ci, fs))) (hc : zcl[ci]? = some (M'.1.cls, T', N')) (hrun : Run l g M' d 0 0 [.ref q, a1, a2] h (PI r h1)) (kk : WW l g M R Z QQ (pc + 3) ls (.int r :: st) h1 k n) (hR : d + 1 ≤ R.frames ∧ 38 * d + 38 ≤ R.locals) (hst : (st.map Value.category).sum ≤ 8) (hf : k ≤ R.cells ∧ n ≤ R.slots) : WW l g M R Z QQ pc ls (a2 :: a1 :: .ref q :: st) h k n := zw_callV [a1, a2] hd hm hk hR hq hc hf hst hrun (fun v h2 ⟨e1, e2⟩ => by subst e1; subst e2; exact kk)
theorem zc_V2L {a1 a2 : Value} {r : Int64} (hd : decode M.2.1 pc = .ok (.invokevirtual idx, 3)) (hm : zmV M' 2) (hk : zlk M.1.cls idx M'.1) (hq : h[q]? = some (.inr (ci, fs))) (hc : zcl[ci]? = some (M'.1.cls, T', N')) (hrun : Run l g M' d 0 0 [.ref q, a1, a2] h (PL r h1)) (kk : WW l g M R Z QQ (pc + 3) ls (.long r :: st) h1 k n) (hR : d + 1 ≤ R.frames ∧ 38 * d + 38 ≤ R.locals) (hst : (st.map Value.category).sum ≤ 8) (hf : k ≤ R.cells ∧ n ≤ R.slots) : WW l g M R Z QQ pc ls (a2 :: a1 :: .ref q :: st) h k n := zw_callV [a1, a2] hd hm hk hR hq hc hf hst hrun (fun v h2 ⟨e1, e2⟩ => by subst e1; subst e2; exact kk)
theorem zc_V2V {a1 a2 : Value} (hd : decode M.2.1 pc = .ok (.invokevirtual idx, 3)) (hm : zmV M' 2) (hk : zlk M.1.cls idx M'.1) (hq : h[q]? = some (.inr (ci, fs))) (hc : zcl[ci]? = some (M'.1.cls, T', N')) (hrun : Run l g M' d 0 0 [.ref q, a1, a2] h (PV h1)) (kk : WW l g M R Z QQ (pc + 3) ls st h1 k n) (hR : d + 1 ≤ R.frames ∧ 38 * d + 38 ≤ R.locals) (hst : (st.map Value.category).sum ≤ 8) (hf : k ≤ R.cells ∧ n ≤ R.slots) : WW l g M R Z QQ pc ls (a2 :: a1 :: .ref q :: st) h k n := zw_callV [a1, a2] hd hm hk hR hq hc hf hst hrun (fun v h2 ⟨e1, e2⟩ => by subst e1; subst e2; exact kk)
theorem zg_V2 {a1 a2 : Value} {mc ms : Nat} (hd : decode M.2.1 pc = .ok (.invokevirtual idx, 3)) (hm : zmV M' 2) (hk : zlk M.1.cls idx M'.1) (hq : h[q]? = some (.inr (ci, fs))) (hc : zcl[ci]? = some (M'.1.cls, T', N')) (hrun : Run l g M' d mc ms [.ref q, a1, a2] h post) (hR : d + 1 ≤ R.frames ∧ 38 * d + 38 ≤ R.locals) (hst : (st.map Value.category).sum ≤ 8) (hf : k + mc ≤ R.cells ∧ n + ms ≤ R.slots) (kk : ∀ v h', post v h' → WW l g M R Z QQ (pc + 3) ls (v.toList ++ st) h' (k + mc) (n + ms)) : WW l g M R Z QQ pc ls (a2 :: a1 :: .ref q :: st) h k n := zw_callV [a1, a2] hd hm hk hR hq hc hf hst hrun kk
theorem zc_V3I {a1 a2 a3 : Value} {r : Int32} (hd : decode M.2.1 pc = .ok (.invokevirtual idx, 3)) (hm : zmV M' 3) (hk : zlk M.1.cls idx M'.1) (hq : h[q]? = some (.inr (ci, fs))) (hc : zcl[ci]? = some (M'.1.cls, T', N')) (hrun : Run l g M' d 0 0 [.ref q, a1, a2, a3] h (PI r h1)) (kk : WW l g M R Z QQ (pc + 3) ls (.int r :: st) h1 k n) (hR : d + 1 ≤ R.frames ∧ 38 * d + 38 ≤ R.locals) (hst : (st.map Value.category).sum ≤ 8) (hf : k ≤ R.cells ∧ n ≤ R.slots) : WW l g M R Z QQ pc ls (a3 :: a2 :: a1 :: .ref q :: st) h k n := zw_callV [a1, a2, a3] hd hm hk hR hq hc hf hst hrun (fun v h2 ⟨e1, e2⟩ => by subst e1; subst e2; exact kk)
theorem zc_V3L {a1 a2 a3 : Value} {r : Int64} (hd : decode M.2.1 pc = .ok (.invokevirtual idx, 3)) (hm : zmV M' 3) (hk : zlk M.1.cls idx M'.1) (hq : h[q]? = some (.inr (ci, fs))) (hc : zcl[ci]? = some (M'.1.cls, T', N')) (hrun : Run l g M' d 0 0 [.ref q, a1, a2, a3] h (PL r h1)) (kk : WW l g M R Z QQ (pc + 3) ls (.long r :: st) h1 k n) (hR : d + 1 ≤ R.frames ∧ 38 * d + 38 ≤ R.locals) (hst : (st.map Value.category).sum ≤ 8) (hf : k ≤ R.cells ∧ n ≤ R.slots) : WW l g M R Z QQ pc ls (a3 :: a2 :: a1 :: .ref q :: st) h k n := zw_callV [a1, a2, a3] hd hm hk hR hq hc hf hst hrun (fun v h2 ⟨e1, e2⟩ => by subst e1; subst e2; exact kk)
theorem zc_V3V {a1 a2 a3 : Value} (hd : decode M.2.1 pc = .ok (.invokevirtual idx, 3)) (hm : zmV M' 3) (hk : zlk M.1.cls idx M'.1) (hq : h[q]? = some (.inr (ci, fs))) (hc : zcl[ci]? = some (M'.1.cls, T', N')) (hrun : Run l g M' d 0 0 [.ref q, a1, a2, a3] h (PV h1)) (kk : WW l g M R Z QQ (pc + 3) ls st h1 k n) (hR : d + 1 ≤ R.frames ∧ 38 * d + 38 ≤ R.locals) (hst : (st.map Value.category).sum ≤ 8) (hf : k ≤ R.cells ∧ n ≤ R.slots) : WW l g M R Z QQ pc ls (a3 :: a2 :: a1 :: .ref q :: st) h k n := zw_callV [a1, a2, a3] hd hm hk hR hq hc hf hst hrun (fun v h2 ⟨e1, e2⟩ => by subst e1; subst e2; exact kk)
theorem zg_V3 {a1 a2 a3 : Value} {mc ms : Nat} (hd : decode M.2.1 pc = .ok (.invokevirtual idx, 3)) (hm : zmV M' 3) (hk : zlk M.1.cls idx M'.1) (hq : h[q]? = some (.inr (ci, fs))) (hc : zcl[ci]? = some (M'.1.cls, T', N')) (hrun : Run l g M' d mc ms [.ref q, a1, a2, a3] h post) (hR : d + 1 ≤ R.frames ∧ 38 * d + 38 ≤ R.locals) (hst : (st.map Value.category).sum ≤ 8) (hf : k + mc ≤ R.cells ∧ n + ms ≤ R.slots) (kk : ∀ v h', post v h' → WW l g M R Z QQ (pc + 3) ls (v.toList ++ st) h' (k + mc) (n + ms)) : WW l g M R Z QQ pc ls (a3 :: a2 :: a1 :: .ref q :: st) h k n := zw_callV [a1, a2, a3] hd hm hk hR hq hc hf hst hrun kk
theorem zc_S1I {a1 : Value} {r : Int32} (hd : decode M.2.1 pc = .ok (.invokestatic idx, 3)) (hm : zmS M' 1) (hk : zlk M.1.cls idx M'.1) (hrun : Run l g M' d 0 0 [a1] h (PI r h1)) (kk : WW l g M R Z QQ (pc + 3) ls (.int r :: st) h1 k n) (hR : d + 1 ≤ R.frames ∧ 38 * d + 38 ≤ R.locals) (hst : (st.map Value.category).sum ≤ 8) (hf : k ≤ R.cells ∧ n ≤ R.slots) : WW l g M R Z QQ pc ls (a1 :: st) h k n := zw_callS [a1] hd hm hk hR hf hst hrun (fun v h2 ⟨e1, e2⟩ => by subst e1; subst e2; exact kk)
theorem zc_S1L {a1 : Value} {r : Int64} (hd : decode M.2.1 pc = .ok (.invokestatic idx, 3)) (hm : zmS M' 1) (hk : zlk M.1.cls idx M'.1) (hrun : Run l g M' d 0 0 [a1] h (PL r h1)) (kk : WW l g M R Z QQ (pc + 3) ls (.long r :: st) h1 k n) (hR : d + 1 ≤ R.frames ∧ 38 * d + 38 ≤ R.locals) (hst : (st.map Value.category).sum ≤ 8) (hf : k ≤ R.cells ∧ n ≤ R.slots) : WW l g M R Z QQ pc ls (a1 :: st) h k n := zw_callS [a1] hd hm hk hR hf hst hrun (fun v h2 ⟨e1, e2⟩ => by subst e1; subst e2; exact kk)
theorem zc_S1V {a1 : Value} (hd : decode M.2.1 pc = .ok (.invokestatic idx, 3)) (hm : zmS M' 1) (hk : zlk M.1.cls idx M'.1) (hrun : Run l g M' d 0 0 [a1] h (PV h1)) (kk : WW l g M R Z QQ (pc + 3) ls st h1 k n) (hR : d + 1 ≤ R.frames ∧ 38 * d + 38 ≤ R.locals) (hst : (st.map Value.category).sum ≤ 8) (hf : k ≤ R.cells ∧ n ≤ R.slots) : WW l g M R Z QQ pc ls (a1 :: st) h k n := zw_callS [a1] hd hm hk hR hf hst hrun (fun v h2 ⟨e1, e2⟩ => by subst e1; subst e2; exact kk)
theorem zg_S1 {a1 : Value} {mc ms : Nat} (hd : decode M.2.1 pc = .ok (.invokestatic idx, 3)) (hm : zmS M' 1) (hk : zlk M.1.cls idx M'.1) (hrun : Run l g M' d mc ms [a1] h post) (hR : d + 1 ≤ R.frames ∧ 38 * d + 38 ≤ R.locals) (hst : (st.map Value.category).sum ≤ 8) (hf : k + mc ≤ R.cells ∧ n + ms ≤ R.slots) (kk : ∀ v h', post v h' → WW l g M R Z QQ (pc + 3) ls (v.toList ++ st) h' (k + mc) (n + ms)) : WW l g M R Z QQ pc ls (a1 :: st) h k n := zw_callS [a1] hd hm hk hR hf hst hrun kk
theorem zc_S2I {a1 a2 : Value} {r : Int32} (hd : decode M.2.1 pc = .ok (.invokestatic idx, 3)) (hm : zmS M' 2) (hk : zlk M.1.cls idx M'.1) (hrun : Run l g M' d 0 0 [a1, a2] h (PI r h1)) (kk : WW l g M R Z QQ (pc + 3) ls (.int r :: st) h1 k n) (hR : d + 1 ≤ R.frames ∧ 38 * d + 38 ≤ R.locals) (hst : (st.map Value.category).sum ≤ 8) (hf : k ≤ R.cells ∧ n ≤ R.slots) : WW l g M R Z QQ pc ls (a2 :: a1 :: st) h k n := zw_callS [a1, a2] hd hm hk hR hf hst hrun (fun v h2 ⟨e1, e2⟩ => by subst e1; subst e2; exact kk)
theorem zc_S2L {a1 a2 : Value} {r : Int64} (hd : decode M.2.1 pc = .ok (.invokestatic idx, 3)) (hm : zmS M' 2) (hk : zlk M.1.cls idx M'.1) (hrun : Run l g M' d 0 0 [a1, a2] h (PL r h1)) (kk : WW l g M R Z QQ (pc + 3) ls (.long r :: st) h1 k n) (hR : d + 1 ≤ R.frames ∧ 38 * d + 38 ≤ R.locals) (hst : (st.map Value.category).sum ≤ 8) (hf : k ≤ R.cells ∧ n ≤ R.slots) : WW l g M R Z QQ pc ls (a2 :: a1 :: st) h k n := zw_callS [a1, a2] hd hm hk hR hf hst hrun (fun v h2 ⟨e1, e2⟩ => by subst e1; subst e2; exact kk)
theorem zc_S2V {a1 a2 : Value} (hd : decode M.2.1 pc = .ok (.invokestatic idx, 3)) (hm : zmS M' 2) (hk : zlk M.1.cls idx M'.1) (hrun : Run l g M' d 0 0 [a1, a2] h (PV h1)) (kk : WW l g M R Z QQ (pc + 3) ls st h1 k n) (hR : d + 1 ≤ R.frames ∧ 38 * d + 38 ≤ R.locals) (hst : (st.map Value.category).sum ≤ 8) (hf : k ≤ R.cells ∧ n ≤ R.slots) : WW l g M R Z QQ pc ls (a2 :: a1 :: st) h k n := zw_callS [a1, a2] hd hm hk hR hf hst hrun (fun v h2 ⟨e1, e2⟩ => by subst e1; subst e2; exact kk)
theorem zg_S2 {a1 a2 : Value} {mc ms : Nat} (hd : decode M.2.1 pc = .ok (.invokestatic idx, 3)) (hm : zmS M' 2) (hk : zlk M.1.cls idx M'.1) (hrun : Run l g M' d mc ms [a1, a2] h post) (hR : d + 1 ≤ R.frames ∧ 38 * d + 38 ≤ R.locals) (hst : (st.map Value.category).sum ≤ 8) (hf : k + mc ≤ R.cells ∧ n + ms ≤ R.slots) (kk : ∀ v h', post v h' → WW l g M R Z QQ (pc + 3) ls (v.toList ++ st) h' (k + mc) (n + ms)) : WW l g M R Z QQ pc ls (a2 :: a1 :: st) h k n := zw_callS [a1, a2] hd hm hk hR hf hst hrun kk
theorem zc_S3I {a1 a2 a3 : Value} {r : Int32} (hd : decode M.2.1 pc = .ok (.invokestatic idx, 3)) (hm : zmS M' 3) (hk : zlk M.1.cls idx M'.1) (hrun : Run l g M' d 0 0 [a1, a2, a3] h (PI r h1)) (kk : WW l g M R Z QQ (pc + 3) ls (.int r :: st) h1 k n) (hR : d + 1 ≤ R.frames ∧ 38 * d + 38 ≤ R.locals) (hst : (st.map Value.category).sum ≤ 8) (hf : k ≤ R.cells ∧ n ≤ R.slots) : WW l g M R Z QQ pc ls (a3 :: a2 :: a1 :: st) h k n := zw_callS [a1, a2, a3] hd hm hk hR hf hst hrun (fun v h2 ⟨e1, e2⟩ => by subst e1; subst e2; exact kk)
theorem zc_S3L {a1 a2 a3 : Value} {r : Int64} (hd : decode M.2.1 pc = .ok (.invokestatic idx, 3)) (hm : zmS M' 3) (hk : zlk M.1.cls idx M'.1) (hrun : Run l g M' d 0 0 [a1, a2, a3] h (PL r h1)) (kk : WW l g M R Z QQ (pc + 3) ls (.long r :: st) h1 k n) (hR : d + 1 ≤ R.frames ∧ 38 * d + 38 ≤ R.locals) (hst : (st.map Value.category).sum ≤ 8) (hf : k ≤ R.cells ∧ n ≤ R.slots) : WW l g M R Z QQ pc ls (a3 :: a2 :: a1 :: st) h k n := zw_callS [a1, a2, a3] hd hm hk hR hf hst hrun (fun v h2 ⟨e1, e2⟩ => by subst e1; subst e2; exact kk)
theorem zc_S3V {a1 a2 a3 : Value} (hd : decode M.2.1 pc = .ok (.invokestatic idx, 3)) (hm : zmS M' 3) (hk : zlk M.1.cls idx M'.1) (hrun : Run l g M' d 0 0 [a1, a2, a3] h (PV h1)) (kk : WW l g M R Z QQ (pc + 3) ls st h1 k n) (hR : d + 1 ≤ R.frames ∧ 38 * d + 38 ≤ R.locals) (hst : (st.map Value.category).sum ≤ 8) (hf : k ≤ R.cells ∧ n ≤ R.slots) : WW l g M R Z QQ pc ls (a3 :: a2 :: a1 :: st) h k n := zw_callS [a1, a2, a3] hd hm hk hR hf hst hrun (fun v h2 ⟨e1, e2⟩ => by subst e1; subst e2; exact kk)
theorem zg_S3 {a1 a2 a3 : Value} {mc ms : Nat} (hd : decode M.2.1 pc = .ok (.invokestatic idx, 3)) (hm : zmS M' 3) (hk : zlk M.1.cls idx M'.1) (hrun : Run l g M' d mc ms [a1, a2, a3] h post) (hR : d + 1 ≤ R.frames ∧ 38 * d + 38 ≤ R.locals) (hst : (st.map Value.category).sum ≤ 8) (hf : k + mc ≤ R.cells ∧ n + ms ≤ R.slots) (kk : ∀ v h', post v h' → WW l g M R Z QQ (pc + 3) ls (v.toList ++ st) h' (k + mc) (n + ms)) : WW l g M R Z QQ pc ls (a3 :: a2 :: a1 :: st) h k n := zw_callS [a1, a2, a3] hd hm hk hR hf hst hrun kk
theorem zc_I0V (hd : decode M.2.1 pc = .ok (.invokespecial idx, 3)) (hm : zmI M' 0) (hk : zlk M.1.cls idx M'.1) (hrun : Run l g M' d 0 0 [.ref q] h (PV h1)) (kk : WW l g M R Z QQ (pc + 3) ls st h1 k n) (hR : d + 1 ≤ R.frames ∧ 38 * d + 38 ≤ R.locals) (hst : (st.map Value.category).sum ≤ 8) (hf : k ≤ R.cells ∧ n ≤ R.slots) : WW l g M R Z QQ pc ls (.ref q :: st) h k n := zw_callI [] hd hm hk hR hf hst hrun (fun v h2 ⟨e1, e2⟩ => by subst e1; subst e2; exact kk)
theorem zg_I0 {mc ms : Nat} (hd : decode M.2.1 pc = .ok (.invokespecial idx, 3)) (hm : zmI M' 0) (hk : zlk M.1.cls idx M'.1) (hrun : Run l g M' d mc ms [.ref q] h post) (hR : d + 1 ≤ R.frames ∧ 38 * d + 38 ≤ R.locals) (hst : (st.map Value.category).sum ≤ 8) (hf : k + mc ≤ R.cells ∧ n + ms ≤ R.slots) (kk : ∀ v h', post v h' → WW l g M R Z QQ (pc + 3) ls (v.toList ++ st) h' (k + mc) (n + ms)) : WW l g M R Z QQ pc ls (.ref q :: st) h k n := zw_callI [] hd hm hk hR hf hst hrun kk
theorem zc_I1V {a1 : Value} (hd : decode M.2.1 pc = .ok (.invokespecial idx, 3)) (hm : zmI M' 1) (hk : zlk M.1.cls idx M'.1) (hrun : Run l g M' d 0 0 [.ref q, a1] h (PV h1)) (kk : WW l g M R Z QQ (pc + 3) ls st h1 k n) (hR : d + 1 ≤ R.frames ∧ 38 * d + 38 ≤ R.locals) (hst : (st.map Value.category).sum ≤ 8) (hf : k ≤ R.cells ∧ n ≤ R.slots) : WW l g M R Z QQ pc ls (a1 :: .ref q :: st) h k n := zw_callI [a1] hd hm hk hR hf hst hrun (fun v h2 ⟨e1, e2⟩ => by subst e1; subst e2; exact kk)
theorem zg_I1 {a1 : Value} {mc ms : Nat} (hd : decode M.2.1 pc = .ok (.invokespecial idx, 3)) (hm : zmI M' 1) (hk : zlk M.1.cls idx M'.1) (hrun : Run l g M' d mc ms [.ref q, a1] h post) (hR : d + 1 ≤ R.frames ∧ 38 * d + 38 ≤ R.locals) (hst : (st.map Value.category).sum ≤ 8) (hf : k + mc ≤ R.cells ∧ n + ms ≤ R.slots) (kk : ∀ v h', post v h' → WW l g M R Z QQ (pc + 3) ls (v.toList ++ st) h' (k + mc) (n + ms)) : WW l g M R Z QQ pc ls (a1 :: .ref q :: st) h k n := zw_callI [a1] hd hm hk hR hf hst hrun kk
theorem zc_I2V {a1 a2 : Value} (hd : decode M.2.1 pc = .ok (.invokespecial idx, 3)) (hm : zmI M' 2) (hk : zlk M.1.cls idx M'.1) (hrun : Run l g M' d 0 0 [.ref q, a1, a2] h (PV h1)) (kk : WW l g M R Z QQ (pc + 3) ls st h1 k n) (hR : d + 1 ≤ R.frames ∧ 38 * d + 38 ≤ R.locals) (hst : (st.map Value.category).sum ≤ 8) (hf : k ≤ R.cells ∧ n ≤ R.slots) : WW l g M R Z QQ pc ls (a2 :: a1 :: .ref q :: st) h k n := zw_callI [a1, a2] hd hm hk hR hf hst hrun (fun v h2 ⟨e1, e2⟩ => by subst e1; subst e2; exact kk)
theorem zg_I2 {a1 a2 : Value} {mc ms : Nat} (hd : decode M.2.1 pc = .ok (.invokespecial idx, 3)) (hm : zmI M' 2) (hk : zlk M.1.cls idx M'.1) (hrun : Run l g M' d mc ms [.ref q, a1, a2] h post) (hR : d + 1 ≤ R.frames ∧ 38 * d + 38 ≤ R.locals) (hst : (st.map Value.category).sum ≤ 8) (hf : k + mc ≤ R.cells ∧ n + ms ≤ R.slots) (kk : ∀ v h', post v h' → WW l g M R Z QQ (pc + 3) ls (v.toList ++ st) h' (k + mc) (n + ms)) : WW l g M R Z QQ pc ls (a2 :: a1 :: .ref q :: st) h k n := zw_callI [a1, a2] hd hm hk hR hf hst hrun kk
theorem zc_I3V {a1 a2 a3 : Value} (hd : decode M.2.1 pc = .ok (.invokespecial idx, 3)) (hm : zmI M' 3) (hk : zlk M.1.cls idx M'.1) (hrun : Run l g M' d 0 0 [.ref q, a1, a2, a3] h (PV h1)) (kk : WW l g M R Z QQ (pc + 3) ls st h1 k n) (hR : d + 1 ≤ R.frames ∧ 38 * d + 38 ≤ R.locals) (hst : (st.map Value.category).sum ≤ 8) (hf : k ≤ R.cells ∧ n ≤ R.slots) : WW l g M R Z QQ pc ls (a3 :: a2 :: a1 :: .ref q :: st) h k n := zw_callI [a1, a2, a3] hd hm hk hR hf hst hrun (fun v h2 ⟨e1, e2⟩ => by subst e1; subst e2; exact kk)
theorem zg_I3 {a1 a2 a3 : Value} {mc ms : Nat} (hd : decode M.2.1 pc = .ok (.invokespecial idx, 3)) (hm : zmI M' 3) (hk : zlk M.1.cls idx M'.1) (hrun : Run l g M' d mc ms [.ref q, a1, a2, a3] h post) (hR : d + 1 ≤ R.frames ∧ 38 * d + 38 ≤ R.locals) (hst : (st.map Value.category).sum ≤ 8) (hf : k + mc ≤ R.cells ∧ n + ms ≤ R.slots) (kk : ∀ v h', post v h' → WW l g M R Z QQ (pc + 3) ls (v.toList ++ st) h' (k + mc) (n + ms)) : WW l g M R Z QQ pc ls (a3 :: a2 :: a1 :: .ref q :: st) h k n := zw_callI [a1, a2, a3] hd hm hk hR hf hst hrun kk
end ZF
end
section
theorem zmd_mk {M : zM} {n : Nat} (i1 i2 : Nat) (h : (tables_1[i1]? = some (.code M.1 M.2.1 M.2.2.1 M.2.2.2) ∧ goodWord (.code M.1 M.2.1 M.2.2.1 M.2.2.2) = true) ∧ (tables_1[i2]? = some (.initialized M.1.cls) ∧ goodWord (.initialized M.1.cls) = true) ∧ (M.1.cls ≠ "java/lang/invoke/MethodHandle" ∧ M.1.cls ≠ "java/lang/invoke/VarHandle" ∧ (parseMethodDescriptor M.1.desc).map (fun d => d.parameters.length) = some n) ∧ M.2.2.1 ≤ 19) : zmd M n :=
  ⟨zgw_p i1 h.1.1 h.1.2, zgw_p i2 h.2.1.1 h.2.1.2, h.2.2.1, h.2.2.2⟩
def mA_init : zM := (⟨"SweptFloors$Album", "<init>", "(LSweptFloors$Ground;)V"⟩, prog_2_method_1_code, 3, none)
theorem zm_A_init : zmI mA_init 1 := ⟨zmd_mk 213 7 (by decide +kernel), zgw_p 212 (by decide +kernel) (by decide +kernel), rfl, rfl⟩
def mA_empty : zM := (⟨"SweptFloors$Album", "empty", "()V"⟩, prog_2_method_2_code, 2, none)
theorem zm_A_empty : zmV mA_empty 0 := ⟨zmd_mk 274 7 (by decide +kernel), zgw_p 273 (by decide +kernel) (by decide +kernel), zgw_s (y := ⟨"SweptFloors$Album", "empty", "()V"⟩) (n := 2) 9 (by decide +kernel) (by decide +kernel)⟩
def mA_putIn : zM := (⟨"SweptFloors$Album", "putIn", "(ILSweptFloors$Situation;)V"⟩, prog_2_method_3_code, 4, none)
theorem zm_A_putIn : zmV mA_putIn 2 := ⟨zmd_mk 583 7 (by decide +kernel), zgw_p 582 (by decide +kernel) (by decide +kernel), zgw_s (y := ⟨"SweptFloors$Album", "putIn", "(ILSweptFloors$Situation;)V"⟩) (n := 2) 45 (by decide +kernel) (by decide +kernel)⟩
def mA_takeOut : zM := (⟨"SweptFloors$Album", "takeOut", "(ILSweptFloors$Situation;)Z"⟩, prog_2_method_4_code, 4, some .boolean)
theorem zm_A_takeOut : zmV mA_takeOut 2 := ⟨zmd_mk 592 7 (by decide +kernel), zgw_p 591 (by decide +kernel) (by decide +kernel), zgw_s (y := ⟨"SweptFloors$Album", "takeOut", "(ILSweptFloors$Situation;)Z"⟩) (n := 2) 46 (by decide +kernel) (by decide +kernel)⟩
def mG_init : zM := (⟨"SweptFloors$Ground", "<init>", "()V"⟩, prog_3_method_1_code, 1, none)
theorem zm_G_init : zmI mG_init 0 := ⟨zmd_mk 62 3 (by decide +kernel), zgw_p 61 (by decide +kernel) (by decide +kernel), rfl, rfl⟩
def mG_layOut : zM := (⟨"SweptFloors$Ground", "layOut", "(LSweptFloors$Text;)V"⟩, prog_3_method_2_code, 3, none)
theorem zm_G_layOut : zmV mG_layOut 1 := ⟨zmd_mk 255 3 (by decide +kernel), zgw_p 254 (by decide +kernel) (by decide +kernel), zgw_s (y := ⟨"SweptFloors$Ground", "layOut", "(LSweptFloors$Text;)V"⟩) (n := 10) 6 (by decide +kernel) (by decide +kernel)⟩
def mG_cellsOfKind : zM := (⟨"SweptFloors$Ground", "cellsOfKind", "(LSweptFloors$Text;I)J"⟩, prog_3_method_3_code, 5, some .long)
theorem zm_G_cellsOfKind : zmS mG_cellsOfKind 2 := ⟨zmd_mk 262 3 (by decide +kernel), zgw_p 261 (by decide +kernel) (by decide +kernel)⟩
def mG_size : zM := (⟨"SweptFloors$Ground", "size", "()I"⟩, prog_3_method_4_code, 1, some .int)
theorem zm_G_size : zmV mG_size 0 := ⟨zmd_mk 259 3 (by decide +kernel), zgw_p 258 (by decide +kernel) (by decide +kernel), zgw_s (y := ⟨"SweptFloors$Ground", "size", "()I"⟩) (n := 10) 7 (by decide +kernel) (by decide +kernel)⟩
def mG_has : zM := (⟨"SweptFloors$Ground", "has", "(I)Z"⟩, prog_3_method_5_code, 2, some .boolean)
theorem zm_G_has : zmV mG_has 1 := ⟨zmd_mk 317 3 (by decide +kernel), zgw_p 316 (by decide +kernel) (by decide +kernel), zgw_s (y := ⟨"SweptFloors$Ground", "has", "(I)Z"⟩) (n := 10) 10 (by decide +kernel) (by decide +kernel)⟩
def mG_beside : zM := (⟨"SweptFloors$Ground", "beside", "(JI)J"⟩, prog_3_method_6_code, 4, some .long)
theorem zm_G_beside : zmV mG_beside 2 := ⟨zmd_mk 365 3 (by decide +kernel), zgw_p 364 (by decide +kernel) (by decide +kernel), zgw_s (y := ⟨"SweptFloors$Ground", "beside", "(JI)J"⟩) (n := 10) 16 (by decide +kernel) (by decide +kernel)⟩
def mG_cellBeside : zM := (⟨"SweptFloors$Ground", "cellBeside", "(II)I"⟩, prog_3_method_7_code, 3, some .int)
theorem zm_G_cellBeside : zmV mG_cellBeside 2 := ⟨zmd_mk 361 3 (by decide +kernel), zgw_p 360 (by decide +kernel) (by decide +kernel), zgw_s (y := ⟨"SweptFloors$Ground", "cellBeside", "(II)I"⟩) (n := 10) 15 (by decide +kernel) (by decide +kernel)⟩
def mG_around : zM := (⟨"SweptFloors$Ground", "around", "(J)J"⟩, prog_3_method_8_code, 3, some .long)
theorem zm_G_around : zmV mG_around 1 := ⟨zmd_mk 481 3 (by decide +kernel), zgw_p 480 (by decide +kernel) (by decide +kernel), zgw_s (y := ⟨"SweptFloors$Ground", "around", "(J)J"⟩) (n := 10) 36 (by decide +kernel) (by decide +kernel)⟩
def mG_within : zM := (⟨"SweptFloors$Ground", "within", "(IIJ)J"⟩, prog_3_method_9_code, 10, some .long)
theorem zm_G_within : zmV mG_within 3 := ⟨zmd_mk 477 3 (by decide +kernel), zgw_p 476 (by decide +kernel) (by decide +kernel), zgw_s (y := ⟨"SweptFloors$Ground", "within", "(IIJ)J"⟩) (n := 10) 35 (by decide +kernel) (by decide +kernel)⟩
def mG_stepsBetween : zM := (⟨"SweptFloors$Ground", "stepsBetween", "(IIJ)I"⟩, prog_3_method_10_code, 12, some .int)
theorem zm_G_stepsBetween : zmV mG_stepsBetween 3 := ⟨zmd_mk 491 3 (by decide +kernel), zgw_p 490 (by decide +kernel) (by decide +kernel), zgw_s (y := ⟨"SweptFloors$Ground", "stepsBetween", "(IIJ)I"⟩) (n := 10) 38 (by decide +kernel) (by decide +kernel)⟩
def mG_mostSteps : zM := (⟨"SweptFloors$Ground", "mostSteps", "(IJ)I"⟩, prog_3_method_11_code, 9, some .int)
theorem zm_G_mostSteps : zmV mG_mostSteps 2 := ⟨zmd_mk 566 3 (by decide +kernel), zgw_p 565 (by decide +kernel) (by decide +kernel), zgw_s (y := ⟨"SweptFloors$Ground", "mostSteps", "(IJ)I"⟩) (n := 10) 43 (by decide +kernel) (by decide +kernel)⟩
def mH_init : zM := (⟨"SweptFloors$History", "<init>", "(LSweptFloors$Ground;)V"⟩, prog_4_method_1_code, 3, none)
theorem zm_H_init : zmI mH_init 1 := ⟨zmd_mk 193 6 (by decide +kernel), zgw_p 192 (by decide +kernel) (by decide +kernel), rfl, rfl⟩
def mH_remember : zM := (⟨"SweptFloors$History", "remember", "(LSweptFloors$Situation;)V"⟩, prog_4_method_2_code, 3, none)
theorem zm_H_remember : zmV mH_remember 1 := ⟨zmd_mk 333 6 (by decide +kernel), zgw_p 332 (by decide +kernel) (by decide +kernel), zgw_s (y := ⟨"SweptFloors$History", "remember", "(LSweptFloors$Situation;)V"⟩) (n := 3) 12 (by decide +kernel) (by decide +kernel)⟩
def mH_bringBack : zM := (⟨"SweptFloors$History", "bringBack", "(LSweptFloors$Situation;)Z"⟩, prog_4_method_3_code, 3, some .boolean)
theorem zm_H_bringBack : zmV mH_bringBack 1 := ⟨zmd_mk 508 6 (by decide +kernel), zgw_p 507 (by decide +kernel) (by decide +kernel), zgw_s (y := ⟨"SweptFloors$History", "bringBack", "(LSweptFloors$Situation;)Z"⟩) (n := 3) 39 (by decide +kernel) (by decide +kernel)⟩
def mP_init : zM := (⟨"SweptFloors$Pilot", "<init>", "()V"⟩, prog_5_method_1_code, 1, none)
theorem zm_P_init : zmI mP_init 0 := ⟨zmd_mk 170 5 (by decide +kernel), zgw_p 169 (by decide +kernel) (by decide +kernel), rfl, rfl⟩
def mP_act : zM := (⟨"SweptFloors$Pilot", "act", "(LSweptFloors$Situation;)I"⟩, prog_5_method_2_code, 3, some .int)
theorem zm_P_act : zmV mP_act 1 := ⟨zmd_mk 462 5 (by decide +kernel), zgw_p 461 (by decide +kernel) (by decide +kernel), zgw_s (y := ⟨"SweptFloors$Pilot", "act", "(LSweptFloors$Situation;)I"⟩) (n := 4) 32 (by decide +kernel) (by decide +kernel)⟩
def mP_isThrough : zM := (⟨"SweptFloors$Pilot", "isThrough", "(LSweptFloors$Situation;)Z"⟩, prog_5_method_3_code, 2, some .boolean)
theorem zm_P_isThrough : zmV mP_isThrough 1 := ⟨zmd_mk 575 5 (by decide +kernel), zgw_p 574 (by decide +kernel) (by decide +kernel), zgw_s (y := ⟨"SweptFloors$Pilot", "isThrough", "(LSweptFloors$Situation;)Z"⟩) (n := 4) 44 (by decide +kernel) (by decide +kernel)⟩
def mP_nextHand : zM := (⟨"SweptFloors$Pilot", "nextHand", "(LSweptFloors$Situation;)I"⟩, prog_5_method_4_code, 2, some .int)
theorem zm_P_nextHand : zmV mP_nextHand 1 := ⟨zmd_mk 467 5 (by decide +kernel), zgw_p 466 (by decide +kernel) (by decide +kernel), zgw_s (y := ⟨"SweptFloors$Pilot", "nextHand", "(LSweptFloors$Situation;)I"⟩) (n := 4) 33 (by decide +kernel) (by decide +kernel)⟩
def mP_handOnto : zM := (⟨"SweptFloors$Pilot", "handOnto", "(LSweptFloors$Situation;I)I"⟩, prog_5_method_5_code, 3, some .int)
theorem zm_P_handOnto : zmS mP_handOnto 2 := ⟨zmd_mk 494 5 (by decide +kernel), zgw_p 493 (by decide +kernel) (by decide +kernel)⟩
def mP_handNearer : zM := (⟨"SweptFloors$Pilot", "handNearer", "(LSweptFloors$Situation;I)I"⟩, prog_5_method_6_code, 5, some .int)
theorem zm_P_handNearer : zmS mP_handNearer 2 := ⟨zmd_mk 498 5 (by decide +kernel), zgw_p 497 (by decide +kernel) (by decide +kernel)⟩
def mP_findsTarget : zM := (⟨"SweptFloors$Pilot", "findsTarget", "(LSweptFloors$Situation;)Z"⟩, prog_5_method_7_code, 15, some .boolean)
theorem zm_P_findsTarget : zmV mP_findsTarget 1 := ⟨zmd_mk 471 5 (by decide +kernel), zgw_p 470 (by decide +kernel) (by decide +kernel), zgw_s (y := ⟨"SweptFloors$Pilot", "findsTarget", "(LSweptFloors$Situation;)Z"⟩) (n := 4) 34 (by decide +kernel) (by decide +kernel)⟩
def mS_init : zM := (⟨"SweptFloors$Situation", "<init>", "(LSweptFloors$Ground;)V"⟩, prog_6_method_1_code, 2, none)
theorem zm_S_init : zmI mS_init 1 := ⟨zmd_mk 113 4 (by decide +kernel), zgw_p 112 (by decide +kernel) (by decide +kernel), rfl, rfl⟩
def mS_begin : zM := (⟨"SweptFloors$Situation", "begin", "()V"⟩, prog_6_method_2_code, 1, none)
theorem zm_S_begin : zmV mS_begin 0 := ⟨zmd_mk 269 4 (by decide +kernel), zgw_p 268 (by decide +kernel) (by decide +kernel), zgw_s (y := ⟨"SweptFloors$Situation", "begin", "()V"⟩) (n := 11) 8 (by decide +kernel) (by decide +kernel)⟩
def mS_copyFrom : zM := (⟨"SweptFloors$Situation", "copyFrom", "(LSweptFloors$Situation;)V"⟩, prog_6_method_3_code, 2, none)
theorem zm_S_copyFrom : zmV mS_copyFrom 1 := ⟨zmd_mk 337 4 (by decide +kernel), zgw_p 336 (by decide +kernel) (by decide +kernel), zgw_s (y := ⟨"SweptFloors$Situation", "copyFrom", "(LSweptFloors$Situation;)V"⟩) (n := 11) 13 (by decide +kernel) (by decide +kernel)⟩
def mS_freeCells : zM := (⟨"SweptFloors$Situation", "freeCells", "()J"⟩, prog_6_method_4_code, 1, some .long)
theorem zm_S_freeCells : zmV mS_freeCells 0 := ⟨zmd_mk 383 4 (by decide +kernel), zgw_p 382 (by decide +kernel) (by decide +kernel), zgw_s (y := ⟨"SweptFloors$Situation", "freeCells", "()J"⟩) (n := 11) 18 (by decide +kernel) (by decide +kernel)⟩
def mS_kindOf : zM := (⟨"SweptFloors$Situation", "kindOf", "(I)I"⟩, prog_6_method_5_code, 2, some .int)
theorem zm_S_kindOf : zmV mS_kindOf 1 := ⟨zmd_mk 321 4 (by decide +kernel), zgw_p 320 (by decide +kernel) (by decide +kernel), zgw_s (y := ⟨"SweptFloors$Situation", "kindOf", "(I)I"⟩) (n := 11) 11 (by decide +kernel) (by decide +kernel)⟩
def mS_knowledgeOf : zM := (⟨"SweptFloors$Situation", "knowledgeOf", "(I)I"⟩, prog_6_method_6_code, 2, some .int)
theorem zm_S_knowledgeOf : zmV mS_knowledgeOf 1 := ⟨zmd_mk 520 4 (by decide +kernel), zgw_p 519 (by decide +kernel) (by decide +kernel), zgw_s (y := ⟨"SweptFloors$Situation", "knowledgeOf", "(I)I"⟩) (n := 11) 40 (by decide +kernel) (by decide +kernel)⟩
def mS_homeOf : zM := (⟨"SweptFloors$Situation", "homeOf", "(I)I"⟩, prog_6_method_7_code, 2, some .int)
theorem zm_S_homeOf : zmV mS_homeOf 1 := ⟨zmd_mk 487 4 (by decide +kernel), zgw_p 486 (by decide +kernel) (by decide +kernel), zgw_s (y := ⟨"SweptFloors$Situation", "homeOf", "(I)I"⟩) (n := 11) 37 (by decide +kernel) (by decide +kernel)⟩
def mS_stepTo : zM := (⟨"SweptFloors$Situation", "stepTo", "(I)I"⟩, prog_6_method_8_code, 4, some .int)
theorem zm_S_stepTo : zmV mS_stepTo 1 := ⟨zmd_mk 357 4 (by decide +kernel), zgw_p 356 (by decide +kernel) (by decide +kernel), zgw_s (y := ⟨"SweptFloors$Situation", "stepTo", "(I)I"⟩) (n := 11) 14 (by decide +kernel) (by decide +kernel)⟩
def mS_outcomeAt : zM := (⟨"SweptFloors$Situation", "outcomeAt", "(I)I"⟩, prog_6_method_9_code, 2, some .int)
theorem zm_S_outcomeAt : zmV mS_outcomeAt 1 := ⟨zmd_mk 379 4 (by decide +kernel), zgw_p 378 (by decide +kernel) (by decide +kernel), zgw_s (y := ⟨"SweptFloors$Situation", "outcomeAt", "(I)I"⟩) (n := 11) 17 (by decide +kernel) (by decide +kernel)⟩
def mS_learn : zM := (⟨"SweptFloors$Situation", "learn", "(II)V"⟩, prog_6_method_10_code, 3, none)
theorem zm_S_learn : zmV mS_learn 2 := ⟨zmd_mk 421 4 (by decide +kernel), zgw_p 420 (by decide +kernel) (by decide +kernel), zgw_s (y := ⟨"SweptFloors$Situation", "learn", "(II)V"⟩) (n := 11) 26 (by decide +kernel) (by decide +kernel)⟩
def mS_turn : zM := (⟨"SweptFloors$Situation", "turn", "(I)V"⟩, prog_6_method_11_code, 3, none)
theorem zm_S_turn : zmV mS_turn 1 := ⟨zmd_mk 429 4 (by decide +kernel), zgw_p 428 (by decide +kernel) (by decide +kernel), zgw_s (y := ⟨"SweptFloors$Situation", "turn", "(I)V"⟩) (n := 11) 27 (by decide +kernel) (by decide +kernel)⟩
def mS_scanAround : zM := (⟨"SweptFloors$Situation", "scanAround", "()I"⟩, prog_6_method_12_code, 4, some .int)
theorem zm_S_scanAround : zmV mS_scanAround 0 := ⟨zmd_mk 441 4 (by decide +kernel), zgw_p 440 (by decide +kernel) (by decide +kernel), zgw_s (y := ⟨"SweptFloors$Situation", "scanAround", "()I"⟩) (n := 11) 29 (by decide +kernel) (by decide +kernel)⟩
def mS_seenAt : zM := (⟨"SweptFloors$Situation", "seenAt", "(I)I"⟩, prog_6_method_13_code, 2, some .int)
theorem zm_S_seenAt : zmV mS_seenAt 1 := ⟨zmd_mk 445 4 (by decide +kernel), zgw_p 444 (by decide +kernel) (by decide +kernel), zgw_s (y := ⟨"SweptFloors$Situation", "seenAt", "(I)I"⟩) (n := 11) 30 (by decide +kernel) (by decide +kernel)⟩
def mS_carryTo : zM := (⟨"SweptFloors$Situation", "carryTo", "(II)I"⟩, prog_6_method_14_code, 4, some .int)
theorem zm_S_carryTo : zmV mS_carryTo 2 := ⟨zmd_mk 454 4 (by decide +kernel), zgw_p 453 (by decide +kernel) (by decide +kernel), zgw_s (y := ⟨"SweptFloors$Situation", "carryTo", "(II)I"⟩) (n := 11) 31 (by decide +kernel) (by decide +kernel)⟩
def mS_sortOutBy : zM := (⟨"SweptFloors$Situation", "sortOutBy", "(I)V"⟩, prog_6_method_15_code, 2, none)
theorem zm_S_sortOutBy : zmV mS_sortOutBy 1 := ⟨zmd_mk 388 4 (by decide +kernel), zgw_p 387 (by decide +kernel) (by decide +kernel), zgw_s (y := ⟨"SweptFloors$Situation", "sortOutBy", "(I)V"⟩) (n := 11) 19 (by decide +kernel) (by decide +kernel)⟩
def mS_keepPlacesThatSee : zM := (⟨"SweptFloors$Situation", "keepPlacesThatSee", "(II)V"⟩, prog_6_method_16_code, 4, none)
theorem zm_S_keepPlacesThatSee : zmV mS_keepPlacesThatSee 2 := ⟨zmd_mk 392 4 (by decide +kernel), zgw_p 391 (by decide +kernel) (by decide +kernel), zgw_s (y := ⟨"SweptFloors$Situation", "keepPlacesThatSee", "(II)V"⟩) (n := 11) 20 (by decide +kernel) (by decide +kernel)⟩
def mS_movePlacesAhead : zM := (⟨"SweptFloors$Situation", "movePlacesAhead", "()V"⟩, prog_6_method_17_code, 2, none)
theorem zm_S_movePlacesAhead : zmV mS_movePlacesAhead 0 := ⟨zmd_mk 408 4 (by decide +kernel), zgw_p 407 (by decide +kernel) (by decide +kernel), zgw_s (y := ⟨"SweptFloors$Situation", "movePlacesAhead", "()V"⟩) (n := 11) 23 (by decide +kernel) (by decide +kernel)⟩
def mS_turnPlaces : zM := (⟨"SweptFloors$Situation", "turnPlaces", "()V"⟩, prog_6_method_18_code, 3, none)
theorem zm_S_turnPlaces : zmV mS_turnPlaces 0 := ⟨zmd_mk 433 4 (by decide +kernel), zgw_p 432 (by decide +kernel) (by decide +kernel), zgw_s (y := ⟨"SweptFloors$Situation", "turnPlaces", "()V"⟩) (n := 11) 28 (by decide +kernel) (by decide +kernel)⟩
def mS_beFoundIfSure : zM := (⟨"SweptFloors$Situation", "beFoundIfSure", "()V"⟩, prog_6_method_19_code, 1, none)
theorem zm_S_beFoundIfSure : zmV mS_beFoundIfSure 0 := ⟨zmd_mk 412 4 (by decide +kernel), zgw_p 411 (by decide +kernel) (by decide +kernel), zgw_s (y := ⟨"SweptFloors$Situation", "beFoundIfSure", "()V"⟩) (n := 11) 24 (by decide +kernel) (by decide +kernel)⟩
def mS_cellsThatMaySee : zM := (⟨"SweptFloors$Situation", "cellsThatMaySee", "(II)J"⟩, prog_6_method_20_code, 6, some .long)
theorem zm_S_cellsThatMaySee : zmV mS_cellsThatMaySee 2 := ⟨zmd_mk 399 4 (by decide +kernel), zgw_p 398 (by decide +kernel) (by decide +kernel), zgw_s (y := ⟨"SweptFloors$Situation", "cellsThatMaySee", "(II)J"⟩) (n := 11) 21 (by decide +kernel) (by decide +kernel)⟩
def mS_cellsThatMayShow : zM := (⟨"SweptFloors$Situation", "cellsThatMayShow", "(I)J"⟩, prog_6_method_21_code, 4, some .long)
theorem zm_S_cellsThatMayShow : zmV mS_cellsThatMayShow 1 := ⟨zmd_mk 403 4 (by decide +kernel), zgw_p 402 (by decide +kernel) (by decide +kernel), zgw_s (y := ⟨"SweptFloors$Situation", "cellsThatMayShow", "(I)J"⟩) (n := 11) 22 (by decide +kernel) (by decide +kernel)⟩
def mS_placeCount : zM := (⟨"SweptFloors$Situation", "placeCount", "()I"⟩, prog_6_method_22_code, 3, some .int)
theorem zm_S_placeCount : zmV mS_placeCount 0 := ⟨zmd_mk 416 4 (by decide +kernel), zgw_p 415 (by decide +kernel) (by decide +kernel), zgw_s (y := ⟨"SweptFloors$Situation", "placeCount", "()I"⟩) (n := 11) 25 (by decide +kernel) (by decide +kernel)⟩
def mS_placeAt : zM := (⟨"SweptFloors$Situation", "placeAt", "(I)I"⟩, prog_6_method_23_code, 4, some .int)
theorem zm_S_placeAt : zmV mS_placeAt 1 := ⟨zmd_mk 539 4 (by decide +kernel), zgw_p 538 (by decide +kernel) (by decide +kernel), zgw_s (y := ⟨"SweptFloors$Situation", "placeAt", "(I)I"⟩) (n := 11) 41 (by decide +kernel) (by decide +kernel)⟩
def mT_init : zM := (⟨"SweptFloors$Text", "<init>", "()V"⟩, prog_7_method_1_code, 1, none)
theorem zm_T_init : zmI mT_init 0 := ⟨zmd_mk 24 2 (by decide +kernel), zgw_p 23 (by decide +kernel) (by decide +kernel), rfl, rfl⟩
def mT_add : zM := (⟨"SweptFloors$Text", "add", "(I)Z"⟩, prog_7_method_2_code, 2, some .boolean)
theorem zm_T_add : zmV mT_add 1 := ⟨zmd_mk 228 2 (by decide +kernel), zgw_p 227 (by decide +kernel) (by decide +kernel), zgw_s (y := ⟨"SweptFloors$Text", "add", "(I)Z"⟩) (n := 8) 0 (by decide +kernel) (by decide +kernel)⟩
def mT_findFault : zM := (⟨"SweptFloors$Text", "findFault", "()I"⟩, prog_7_method_3_code, 2, some .int)
theorem zm_T_findFault : zmV mT_findFault 0 := ⟨zmd_mk 236 2 (by decide +kernel), zgw_p 235 (by decide +kernel) (by decide +kernel), zgw_s (y := ⟨"SweptFloors$Text", "findFault", "()I"⟩) (n := 8) 2 (by decide +kernel) (by decide +kernel)⟩
def mT_takes : zM := (⟨"SweptFloors$Text", "takes", "(I)Z"⟩, prog_7_method_4_code, 2, some .boolean)
theorem zm_T_takes : zmV mT_takes 1 := ⟨zmd_mk 240 2 (by decide +kernel), zgw_p 239 (by decide +kernel) (by decide +kernel), zgw_s (y := ⟨"SweptFloors$Text", "takes", "(I)Z"⟩) (n := 8) 3 (by decide +kernel) (by decide +kernel)⟩
def mT_endsRow : zM := (⟨"SweptFloors$Text", "endsRow", "()Z"⟩, prog_7_method_5_code, 1, some .boolean)
theorem zm_T_endsRow : zmV mT_endsRow 0 := ⟨zmd_mk 244 2 (by decide +kernel), zgw_p 243 (by decide +kernel) (by decide +kernel), zgw_s (y := ⟨"SweptFloors$Text", "endsRow", "()Z"⟩) (n := 8) 4 (by decide +kernel) (by decide +kernel)⟩
def mT_takesSign : zM := (⟨"SweptFloors$Text", "takesSign", "(I)Z"⟩, prog_7_method_6_code, 3, some .boolean)
theorem zm_T_takesSign : zmV mT_takesSign 1 := ⟨zmd_mk 251 2 (by decide +kernel), zgw_p 250 (by decide +kernel) (by decide +kernel), zgw_s (y := ⟨"SweptFloors$Text", "takesSign", "(I)Z"⟩) (n := 8) 5 (by decide +kernel) (by decide +kernel)⟩
def mT_kindOfSign : zM := (⟨"SweptFloors$Text", "kindOfSign", "(I)I"⟩, prog_7_method_7_code, 1, some .int)
theorem zm_T_kindOfSign : zmS mT_kindOfSign 1 := ⟨zmd_mk 247 2 (by decide +kernel), zgw_p 246 (by decide +kernel) (by decide +kernel)⟩
def mF_init : zM := (⟨"SweptFloors", "<init>", "()V"⟩, prog_1_method_1_code, 1, none)
theorem zm_F_init : zmI mF_init 0 := ⟨zmd_mk 16 1 (by decide +kernel), zgw_p 15 (by decide +kernel) (by decide +kernel), rfl, rfl⟩
def mF_type : zM := (⟨"SweptFloors", "type", "(I)I"⟩, prog_1_method_2_code, 2, some .int)
theorem zm_F_type : zmV mF_type 1 := ⟨zmd_mk 300 1 (by decide +kernel), zgw_p 298 (by decide +kernel) (by decide +kernel), zgw_p 299 (by decide +kernel) (by decide +kernel)⟩
def mF_clear : zM := (⟨"SweptFloors", "clear", "()I"⟩, prog_1_method_3_code, 2, some .int)
theorem zm_F_clear : zmV mF_clear 0 := ⟨zmd_mk 304 1 (by decide +kernel), zgw_p 302 (by decide +kernel) (by decide +kernel), zgw_p 303 (by decide +kernel) (by decide +kernel)⟩
def mF_floor : zM := (⟨"SweptFloors", "floor", "()I"⟩, prog_1_method_4_code, 2, some .int)
theorem zm_F_floor : zmV mF_floor 0 := ⟨zmd_mk 308 1 (by decide +kernel), zgw_p 306 (by decide +kernel) (by decide +kernel), zgw_p 307 (by decide +kernel) (by decide +kernel)⟩
def mF_cell : zM := (⟨"SweptFloors", "cell", "(I)I"⟩, prog_1_method_5_code, 2, some .int)
theorem zm_F_cell : zmV mF_cell 1 := ⟨zmd_mk 313 1 (by decide +kernel), zgw_p 311 (by decide +kernel) (by decide +kernel), zgw_p 312 (by decide +kernel) (by decide +kernel)⟩
def mF_powers : zM := (⟨"SweptFloors", "powers", "(II)I"⟩, prog_1_method_6_code, 3, some .int)
theorem zm_F_powers : zmV mF_powers 2 := ⟨zmd_mk 329 1 (by decide +kernel), zgw_p 327 (by decide +kernel) (by decide +kernel), zgw_p 328 (by decide +kernel) (by decide +kernel)⟩
def mF_moves : zM := (⟨"SweptFloors", "moves", "(I)I"⟩, prog_1_method_7_code, 2, some .int)
theorem zm_F_moves : zmV mF_moves 1 := ⟨zmd_mk 348 1 (by decide +kernel), zgw_p 346 (by decide +kernel) (by decide +kernel), zgw_p 347 (by decide +kernel) (by decide +kernel)⟩
def mF_steps : zM := (⟨"SweptFloors", "steps", "()I"⟩, prog_1_method_8_code, 1, some .int)
theorem zm_F_steps : zmV mF_steps 0 := ⟨zmd_mk 353 1 (by decide +kernel), zgw_p 351 (by decide +kernel) (by decide +kernel), zgw_p 352 (by decide +kernel) (by decide +kernel)⟩
def mF_rotates : zM := (⟨"SweptFloors", "rotates", "(I)I"⟩, prog_1_method_9_code, 2, some .int)
theorem zm_F_rotates : zmV mF_rotates 1 := ⟨zmd_mk 425 1 (by decide +kernel), zgw_p 423 (by decide +kernel) (by decide +kernel), zgw_p 424 (by decide +kernel) (by decide +kernel)⟩
def mF_scans : zM := (⟨"SweptFloors", "scans", "()I"⟩, prog_1_method_10_code, 1, some .int)
theorem zm_F_scans : zmV mF_scans 0 := ⟨zmd_mk 437 1 (by decide +kernel), zgw_p 435 (by decide +kernel) (by decide +kernel), zgw_p 436 (by decide +kernel) (by decide +kernel)⟩
def mF_carries : zM := (⟨"SweptFloors", "carries", "(II)I"⟩, prog_1_method_11_code, 3, some .int)
theorem zm_F_carries : zmV mF_carries 2 := ⟨zmd_mk 449 1 (by decide +kernel), zgw_p 447 (by decide +kernel) (by decide +kernel), zgw_p 448 (by decide +kernel) (by decide +kernel)⟩
def mF_goes : zM := (⟨"SweptFloors", "goes", "(I)I"⟩, prog_1_method_12_code, 5, some .int)
theorem zm_F_goes : zmV mF_goes 1 := ⟨zmd_mk 458 1 (by decide +kernel), zgw_p 456 (by decide +kernel) (by decide +kernel), zgw_p 457 (by decide +kernel) (by decide +kernel)⟩
def mF_undo : zM := (⟨"SweptFloors", "undo", "()I"⟩, prog_1_method_13_code, 1, some .int)
theorem zm_F_undo : zmV mF_undo 0 := ⟨zmd_mk 504 1 (by decide +kernel), zgw_p 502 (by decide +kernel) (by decide +kernel), zgw_p 503 (by decide +kernel) (by decide +kernel)⟩
def mF_robot : zM := (⟨"SweptFloors", "robot", "(I)I"⟩, prog_1_method_14_code, 2, some .int)
theorem zm_F_robot : zmV mF_robot 1 := ⟨zmd_mk 512 1 (by decide +kernel), zgw_p 510 (by decide +kernel) (by decide +kernel), zgw_p 511 (by decide +kernel) (by decide +kernel)⟩
def mF_knows : zM := (⟨"SweptFloors", "knows", "(I)I"⟩, prog_1_method_15_code, 2, some .int)
theorem zm_F_knows : zmV mF_knows 1 := ⟨zmd_mk 516 1 (by decide +kernel), zgw_p 514 (by decide +kernel) (by decide +kernel), zgw_p 515 (by decide +kernel) (by decide +kernel)⟩
def mF_home : zM := (⟨"SweptFloors", "home", "(I)I"⟩, prog_1_method_16_code, 2, some .int)
theorem zm_F_home : zmV mF_home 1 := ⟨zmd_mk 524 1 (by decide +kernel), zgw_p 522 (by decide +kernel) (by decide +kernel), zgw_p 523 (by decide +kernel) (by decide +kernel)⟩
def mF_target : zM := (⟨"SweptFloors", "target", "(I)I"⟩, prog_1_method_17_code, 2, some .int)
theorem zm_F_target : zmV mF_target 1 := ⟨zmd_mk 529 1 (by decide +kernel), zgw_p 527 (by decide +kernel) (by decide +kernel), zgw_p 528 (by decide +kernel) (by decide +kernel)⟩
def mF_place : zM := (⟨"SweptFloors", "place", "(I)I"⟩, prog_1_method_18_code, 2, some .int)
theorem zm_F_place : zmV mF_place 1 := ⟨zmd_mk 534 1 (by decide +kernel), zgw_p 532 (by decide +kernel) (by decide +kernel), zgw_p 533 (by decide +kernel) (by decide +kernel)⟩
def mF_lane : zM := (⟨"SweptFloors", "lane", "(II)I"⟩, prog_1_method_19_code, 8, some .int)
theorem zm_F_lane : zmV mF_lane 2 := ⟨zmd_mk 543 1 (by decide +kernel), zgw_p 541 (by decide +kernel) (by decide +kernel), zgw_p 542 (by decide +kernel) (by decide +kernel)⟩
def mF_room : zM := (⟨"SweptFloors", "room", "(I)I"⟩, prog_1_method_20_code, 8, some .int)
theorem zm_F_room : zmV mF_room 1 := ⟨zmd_mk 557 1 (by decide +kernel), zgw_p 555 (by decide +kernel) (by decide +kernel), zgw_p 556 (by decide +kernel) (by decide +kernel)⟩
def mF_reach : zM := (⟨"SweptFloors", "reach", "(I)I"⟩, prog_1_method_21_code, 4, some .int)
theorem zm_F_reach : zmV mF_reach 1 := ⟨zmd_mk 562 1 (by decide +kernel), zgw_p 560 (by decide +kernel) (by decide +kernel), zgw_p 561 (by decide +kernel) (by decide +kernel)⟩
def mF_when : zM := (⟨"SweptFloors", "when", "()I"⟩, prog_1_method_22_code, 2, some .int)
theorem zm_F_when : zmV mF_when 0 := ⟨zmd_mk 570 1 (by decide +kernel), zgw_p 568 (by decide +kernel) (by decide +kernel), zgw_p 569 (by decide +kernel) (by decide +kernel)⟩
def mF_keep : zM := (⟨"SweptFloors", "keep", "(I)I"⟩, prog_1_method_23_code, 2, some .int)
theorem zm_F_keep : zmV mF_keep 1 := ⟨zmd_mk 579 1 (by decide +kernel), zgw_p 577 (by decide +kernel) (by decide +kernel), zgw_p 578 (by decide +kernel) (by decide +kernel)⟩
def mF_back : zM := (⟨"SweptFloors", "back", "(I)I"⟩, prog_1_method_24_code, 2, some .int)
theorem zm_F_back : zmV mF_back 1 := ⟨zmd_mk 588 1 (by decide +kernel), zgw_p 586 (by decide +kernel) (by decide +kernel), zgw_p 587 (by decide +kernel) (by decide +kernel)⟩
def mF_count : zM := (⟨"SweptFloors", "count", "(I)I"⟩, prog_1_method_25_code, 2, some .int)
theorem zm_F_count : zmV mF_count 1 := ⟨zmd_mk 596 1 (by decide +kernel), zgw_p 594 (by decide +kernel) (by decide +kernel), zgw_p 595 (by decide +kernel) (by decide +kernel)⟩
def mF_readText : zM := (⟨"SweptFloors", "readText", "()I"⟩, prog_1_method_26_code, 2, some .int)
theorem zm_F_readText : zmV mF_readText 0 := ⟨zmd_mk 232 1 (by decide +kernel), zgw_p 231 (by decide +kernel) (by decide +kernel), zgw_s (y := ⟨"SweptFloors", "readText", "()I"⟩) (n := 7) 1 (by decide +kernel) (by decide +kernel)⟩
def mF_laneLength : zM := (⟨"SweptFloors", "laneLength", "(IJ)I"⟩, prog_1_method_27_code, 8, some .int)
theorem zm_F_laneLength : zmV mF_laneLength 2 := ⟨zmd_mk 553 1 (by decide +kernel), zgw_p 552 (by decide +kernel) (by decide +kernel), zgw_s (y := ⟨"SweptFloors", "laneLength", "(IJ)I"⟩) (n := 7) 42 (by decide +kernel) (by decide +kernel)⟩
def mF_only : zM := (⟨"SweptFloors", "only", "(I)J"⟩, prog_1_method_28_code, 1, some .long)
theorem zm_F_only : zmS mF_only 1 := ⟨zmd_mk 265 1 (by decide +kernel), zgw_p 264 (by decide +kernel) (by decide +kernel)⟩
def mF_holds : zM := (⟨"SweptFloors", "holds", "(JI)Z"⟩, prog_1_method_29_code, 3, some .boolean)
theorem zm_F_holds : zmS mF_holds 2 := ⟨zmd_mk 324 1 (by decide +kernel), zgw_p 323 (by decide +kernel) (by decide +kernel)⟩
def mF_lowestOf : zM := (⟨"SweptFloors", "lowestOf", "(J)I"⟩, prog_1_method_30_code, 2, some .int)
theorem zm_F_lowestOf : zmS mF_lowestOf 1 := ⟨zmd_mk 369 1 (by decide +kernel), zgw_p 368 (by decide +kernel) (by decide +kernel)⟩
def mF_memberAt : zM := (⟨"SweptFloors", "memberAt", "(JI)I"⟩, prog_1_method_31_code, 6, some .int)
theorem zm_F_memberAt : zmS mF_memberAt 2 := ⟨zmd_mk 548 1 (by decide +kernel), zgw_p 547 (by decide +kernel) (by decide +kernel)⟩
def mF_turned : zM := (⟨"SweptFloors", "turned", "(II)I"⟩, prog_1_method_32_code, 2, some .int)
theorem zm_F_turned : zmS mF_turned 2 := ⟨zmd_mk 395 1 (by decide +kernel), zgw_p 394 (by decide +kernel) (by decide +kernel)⟩
def mM_in : zM := (⟨"SweptFloorsModel", "in", "(III)Z"⟩, prog_9_method_1_code, 3, some .boolean)
theorem zm_M_in : zmS mM_in 3 := ⟨zmd_mk 693 8 (by decide +kernel), zgw_p 692 (by decide +kernel) (by decide +kernel)⟩
def mM_init : zM := (⟨"SweptFloorsModel", "<init>", "()V"⟩, prog_9_method_2_code, 1, none)
theorem zm_M_init : zmI mM_init 0 := ⟨zmd_mk 601 8 (by decide +kernel), zgw_p 600 (by decide +kernel) (by decide +kernel), rfl, rfl⟩
def mM_cells : zM := (⟨"SweptFloorsModel", "cells", "()I"⟩, prog_9_method_3_code, 1, some .int)
theorem zm_M_cells : zmV mM_cells 0 := ⟨zmd_mk 610 8 (by decide +kernel), zgw_p 609 (by decide +kernel) (by decide +kernel), zgw_s (y := ⟨"SweptFloorsModel", "cells", "()I"⟩) (n := 25) 48 (by decide +kernel) (by decide +kernel)⟩
def mM_begins : zM := (⟨"SweptFloorsModel", "begins", "()V"⟩, prog_9_method_4_code, 2, none)
theorem zm_M_begins : zmV mM_begins 0 := ⟨zmd_mk 606 8 (by decide +kernel), zgw_p 605 (by decide +kernel) (by decide +kernel), zgw_s (y := ⟨"SweptFloorsModel", "begins", "()V"⟩) (n := 25) 47 (by decide +kernel) (by decide +kernel)⟩
def mM_type : zM := (⟨"SweptFloorsModel", "type", "(I)I"⟩, prog_9_method_5_code, 2, some .int)
theorem zm_M_type : zmV mM_type 1 := ⟨zmd_mk 690 8 (by decide +kernel), zgw_p 688 (by decide +kernel) (by decide +kernel), zgw_p 689 (by decide +kernel) (by decide +kernel)⟩
def mM_clear : zM := (⟨"SweptFloorsModel", "clear", "()I"⟩, prog_9_method_6_code, 2, some .int)
theorem zm_M_clear : zmV mM_clear 0 := ⟨zmd_mk 697 8 (by decide +kernel), zgw_p 695 (by decide +kernel) (by decide +kernel), zgw_p 696 (by decide +kernel) (by decide +kernel)⟩
def mM_kindOf : zM := (⟨"SweptFloorsModel", "kindOf", "(I)I"⟩, prog_9_method_7_code, 1, some .int)
theorem zm_M_kindOf : zmS mM_kindOf 1 := ⟨zmd_mk 708 8 (by decide +kernel), zgw_p 707 (by decide +kernel) (by decide +kernel)⟩
def mM_takes : zM := (⟨"SweptFloorsModel", "takes", "(I)Z"⟩, prog_9_method_8_code, 5, some .boolean)
theorem zm_M_takes : zmV mM_takes 1 := ⟨zmd_mk 705 8 (by decide +kernel), zgw_p 704 (by decide +kernel) (by decide +kernel), zgw_s (y := ⟨"SweptFloorsModel", "takes", "(I)Z"⟩) (n := 25) 49 (by decide +kernel) (by decide +kernel)⟩
def mM_floor : zM := (⟨"SweptFloorsModel", "floor", "()I"⟩, prog_9_method_9_code, 2, some .int)
theorem zm_M_floor : zmV mM_floor 0 := ⟨zmd_mk 701 8 (by decide +kernel), zgw_p 699 (by decide +kernel) (by decide +kernel), zgw_p 700 (by decide +kernel) (by decide +kernel)⟩
def mM_isCell : zM := (⟨"SweptFloorsModel", "isCell", "(I)Z"⟩, prog_9_method_10_code, 2, some .boolean)
theorem zm_M_isCell : zmV mM_isCell 1 := ⟨zmd_mk 716 8 (by decide +kernel), zgw_p 715 (by decide +kernel) (by decide +kernel), zgw_s (y := ⟨"SweptFloorsModel", "isCell", "(I)Z"⟩) (n := 25) 50 (by decide +kernel) (by decide +kernel)⟩
def mM_isFree : zM := (⟨"SweptFloorsModel", "isFree", "(I)Z"⟩, prog_9_method_11_code, 2, some .boolean)
theorem zm_M_isFree : zmV mM_isFree 1 := ⟨zmd_mk 752 8 (by decide +kernel), zgw_p 751 (by decide +kernel) (by decide +kernel), zgw_s (y := ⟨"SweptFloorsModel", "isFree", "(I)Z"⟩) (n := 25) 56 (by decide +kernel) (by decide +kernel)⟩
def mM_isDoor : zM := (⟨"SweptFloorsModel", "isDoor", "(I)Z"⟩, prog_9_method_12_code, 2, some .boolean)
theorem zm_M_isDoor : zmV mM_isDoor 1 := ⟨zmd_mk 732 8 (by decide +kernel), zgw_p 731 (by decide +kernel) (by decide +kernel), zgw_s (y := ⟨"SweptFloorsModel", "isDoor", "(I)Z"⟩) (n := 25) 52 (by decide +kernel) (by decide +kernel)⟩
def mM_beside : zM := (⟨"SweptFloorsModel", "beside", "(II)I"⟩, prog_9_method_13_code, 5, some .int)
theorem zm_M_beside : zmV mM_beside 2 := ⟨zmd_mk 744 8 (by decide +kernel), zgw_p 743 (by decide +kernel) (by decide +kernel), zgw_s (y := ⟨"SweptFloorsModel", "beside", "(II)I"⟩) (n := 25) 54 (by decide +kernel) (by decide +kernel)⟩
def mM_cell : zM := (⟨"SweptFloorsModel", "cell", "(I)I"⟩, prog_9_method_14_code, 2, some .int)
theorem zm_M_cell : zmV mM_cell 1 := ⟨zmd_mk 712 8 (by decide +kernel), zgw_p 710 (by decide +kernel) (by decide +kernel), zgw_p 711 (by decide +kernel) (by decide +kernel)⟩
def mM_remembers : zM := (⟨"SweptFloorsModel", "remembers", "()V"⟩, prog_9_method_15_code, 2, none)
theorem zm_M_remembers : zmV mM_remembers 0 := ⟨zmd_mk 724 8 (by decide +kernel), zgw_p 723 (by decide +kernel) (by decide +kernel), zgw_s (y := ⟨"SweptFloorsModel", "remembers", "()V"⟩) (n := 25) 51 (by decide +kernel) (by decide +kernel)⟩
def mM_powers : zM := (⟨"SweptFloorsModel", "powers", "(II)I"⟩, prog_9_method_16_code, 3, some .int)
theorem zm_M_powers : zmV mM_powers 2 := ⟨zmd_mk 720 8 (by decide +kernel), zgw_p 718 (by decide +kernel) (by decide +kernel), zgw_p 719 (by decide +kernel) (by decide +kernel)⟩
def mM_moves : zM := (⟨"SweptFloorsModel", "moves", "(I)I"⟩, prog_9_method_17_code, 2, some .int)
theorem zm_M_moves : zmV mM_moves 1 := ⟨zmd_mk 728 8 (by decide +kernel), zgw_p 726 (by decide +kernel) (by decide +kernel), zgw_p 727 (by decide +kernel) (by decide +kernel)⟩
def mM_toldOf : zM := (⟨"SweptFloorsModel", "toldOf", "(I)I"⟩, prog_9_method_18_code, 2, some .int)
theorem zm_M_toldOf : zmV mM_toldOf 1 := ⟨zmd_mk 748 8 (by decide +kernel), zgw_p 747 (by decide +kernel) (by decide +kernel), zgw_s (y := ⟨"SweptFloorsModel", "toldOf", "(I)I"⟩) (n := 25) 55 (by decide +kernel) (by decide +kernel)⟩
def mM_canBe : zM := (⟨"SweptFloorsModel", "canBe", "(II)Z"⟩, prog_9_method_19_code, 3, some .boolean)
theorem zm_M_canBe : zmV mM_canBe 2 := ⟨zmd_mk 760 8 (by decide +kernel), zgw_p 759 (by decide +kernel) (by decide +kernel), zgw_s (y := ⟨"SweptFloorsModel", "canBe", "(II)Z"⟩) (n := 25) 58 (by decide +kernel) (by decide +kernel)⟩
def mM_manyPlaces : zM := (⟨"SweptFloorsModel", "manyPlaces", "()I"⟩, prog_9_method_20_code, 3, some .int)
theorem zm_M_manyPlaces : zmV mM_manyPlaces 0 := ⟨zmd_mk 772 8 (by decide +kernel), zgw_p 771 (by decide +kernel) (by decide +kernel), zgw_s (y := ⟨"SweptFloorsModel", "manyPlaces", "()I"⟩) (n := 25) 61 (by decide +kernel) (by decide +kernel)⟩
def mM_findsMaybe : zM := (⟨"SweptFloorsModel", "findsMaybe", "()V"⟩, prog_9_method_21_code, 2, none)
theorem zm_M_findsMaybe : zmV mM_findsMaybe 0 := ⟨zmd_mk 768 8 (by decide +kernel), zgw_p 767 (by decide +kernel) (by decide +kernel), zgw_s (y := ⟨"SweptFloorsModel", "findsMaybe", "()V"⟩) (n := 25) 60 (by decide +kernel) (by decide +kernel)⟩
def mM_becomePlaces : zM := (⟨"SweptFloorsModel", "becomePlaces", "()V"⟩, prog_9_method_22_code, 2, none)
theorem zm_M_becomePlaces : zmV mM_becomePlaces 0 := ⟨zmd_mk 764 8 (by decide +kernel), zgw_p 763 (by decide +kernel) (by decide +kernel), zgw_s (y := ⟨"SweptFloorsModel", "becomePlaces", "()V"⟩) (n := 25) 59 (by decide +kernel) (by decide +kernel)⟩
def mM_stepsPlaces : zM := (⟨"SweptFloorsModel", "stepsPlaces", "(I)V"⟩, prog_9_method_23_code, 4, none)
theorem zm_M_stepsPlaces : zmV mM_stepsPlaces 1 := ⟨zmd_mk 756 8 (by decide +kernel), zgw_p 755 (by decide +kernel) (by decide +kernel), zgw_s (y := ⟨"SweptFloorsModel", "stepsPlaces", "(I)V"⟩) (n := 25) 57 (by decide +kernel) (by decide +kernel)⟩
def mM_stepTo : zM := (⟨"SweptFloorsModel", "stepTo", "(I)I"⟩, prog_9_method_24_code, 5, some .int)
theorem zm_M_stepTo : zmV mM_stepTo 1 := ⟨zmd_mk 740 8 (by decide +kernel), zgw_p 739 (by decide +kernel) (by decide +kernel), zgw_s (y := ⟨"SweptFloorsModel", "stepTo", "(I)I"⟩) (n := 25) 53 (by decide +kernel) (by decide +kernel)⟩
def mM_steps : zM := (⟨"SweptFloorsModel", "steps", "()I"⟩, prog_9_method_25_code, 1, some .int)
theorem zm_M_steps : zmV mM_steps 0 := ⟨zmd_mk 736 8 (by decide +kernel), zgw_p 734 (by decide +kernel) (by decide +kernel), zgw_p 735 (by decide +kernel) (by decide +kernel)⟩
def mM_rotates : zM := (⟨"SweptFloorsModel", "rotates", "(I)I"⟩, prog_9_method_26_code, 4, some .int)
theorem zm_M_rotates : zmV mM_rotates 1 := ⟨zmd_mk 776 8 (by decide +kernel), zgw_p 774 (by decide +kernel) (by decide +kernel), zgw_p 775 (by decide +kernel) (by decide +kernel)⟩
def mM_part : zM := (⟨"SweptFloorsModel", "part", "(II)I"⟩, prog_9_method_27_code, 4, some .int)
theorem zm_M_part : zmS mM_part 2 := ⟨zmd_mk 787 8 (by decide +kernel), zgw_p 786 (by decide +kernel) (by decide +kernel)⟩
def mM_canScan : zM := (⟨"SweptFloorsModel", "canScan", "(III)Z"⟩, prog_9_method_28_code, 6, some .boolean)
theorem zm_M_canScan : zmV mM_canScan 3 := ⟨zmd_mk 784 8 (by decide +kernel), zgw_p 783 (by decide +kernel) (by decide +kernel), zgw_s (y := ⟨"SweptFloorsModel", "canScan", "(III)Z"⟩) (n := 25) 62 (by decide +kernel) (by decide +kernel)⟩
def mM_scans : zM := (⟨"SweptFloorsModel", "scans", "()I"⟩, prog_9_method_29_code, 3, some .int)
theorem zm_M_scans : zmV mM_scans 0 := ⟨zmd_mk 780 8 (by decide +kernel), zgw_p 778 (by decide +kernel) (by decide +kernel), zgw_p 779 (by decide +kernel) (by decide +kernel)⟩
def mM_carries : zM := (⟨"SweptFloorsModel", "carries", "(II)I"⟩, prog_9_method_30_code, 5, some .int)
theorem zm_M_carries : zmV mM_carries 2 := ⟨zmd_mk 791 8 (by decide +kernel), zgw_p 789 (by decide +kernel) (by decide +kernel), zgw_p 790 (by decide +kernel) (by decide +kernel)⟩
def mM_lays : zM := (⟨"SweptFloorsModel", "lays", "(IZ[I)V"⟩, prog_9_method_31_code, 9, none)
theorem zm_M_lays : zmV mM_lays 3 := ⟨zmd_mk 807 8 (by decide +kernel), zgw_p 806 (by decide +kernel) (by decide +kernel), zgw_s (y := ⟨"SweptFloorsModel", "lays", "(IZ[I)V"⟩) (n := 25) 65 (by decide +kernel) (by decide +kernel)⟩
def mM_laysTarget : zM := (⟨"SweptFloorsModel", "laysTarget", "()V"⟩, prog_9_method_32_code, 2, none)
theorem zm_M_laysTarget : zmV mM_laysTarget 0 := ⟨zmd_mk 803 8 (by decide +kernel), zgw_p 802 (by decide +kernel) (by decide +kernel), zgw_s (y := ⟨"SweptFloorsModel", "laysTarget", "()V"⟩) (n := 25) 64 (by decide +kernel) (by decide +kernel)⟩
def mM_looksFor : zM := (⟨"SweptFloorsModel", "looksFor", "(I)V"⟩, prog_9_method_33_code, 5, none)
theorem zm_M_looksFor : zmV mM_looksFor 1 := ⟨zmd_mk 811 8 (by decide +kernel), zgw_p 810 (by decide +kernel) (by decide +kernel), zgw_s (y := ⟨"SweptFloorsModel", "looksFor", "(I)V"⟩) (n := 25) 66 (by decide +kernel) (by decide +kernel)⟩
def mM_handTo : zM := (⟨"SweptFloorsModel", "handTo", "([II)I"⟩, prog_9_method_34_code, 4, some .int)
theorem zm_M_handTo : zmV mM_handTo 2 := ⟨zmd_mk 819 8 (by decide +kernel), zgw_p 818 (by decide +kernel) (by decide +kernel), zgw_s (y := ⟨"SweptFloorsModel", "handTo", "([II)I"⟩) (n := 25) 68 (by decide +kernel) (by decide +kernel)⟩
def mM_handOn : zM := (⟨"SweptFloorsModel", "handOn", "(I)I"⟩, prog_9_method_35_code, 3, some .int)
theorem zm_M_handOn : zmV mM_handOn 1 := ⟨zmd_mk 815 8 (by decide +kernel), zgw_p 814 (by decide +kernel) (by decide +kernel), zgw_s (y := ⟨"SweptFloorsModel", "handOn", "(I)I"⟩) (n := 25) 67 (by decide +kernel) (by decide +kernel)⟩
def mM_acts : zM := (⟨"SweptFloorsModel", "acts", "()Z"⟩, prog_9_method_36_code, 1, some .boolean)
theorem zm_M_acts : zmV mM_acts 0 := ⟨zmd_mk 799 8 (by decide +kernel), zgw_p 798 (by decide +kernel) (by decide +kernel), zgw_s (y := ⟨"SweptFloorsModel", "acts", "()Z"⟩) (n := 25) 63 (by decide +kernel) (by decide +kernel)⟩
def mM_goes : zM := (⟨"SweptFloorsModel", "goes", "(I)I"⟩, prog_9_method_37_code, 4, some .int)
theorem zm_M_goes : zmV mM_goes 1 := ⟨zmd_mk 795 8 (by decide +kernel), zgw_p 793 (by decide +kernel) (by decide +kernel), zgw_p 794 (by decide +kernel) (by decide +kernel)⟩
def mM_undo : zM := (⟨"SweptFloorsModel", "undo", "()I"⟩, prog_9_method_38_code, 2, some .int)
theorem zm_M_undo : zmV mM_undo 0 := ⟨zmd_mk 823 8 (by decide +kernel), zgw_p 821 (by decide +kernel) (by decide +kernel), zgw_p 822 (by decide +kernel) (by decide +kernel)⟩
def mM_manyKnown : zM := (⟨"SweptFloorsModel", "manyKnown", "(I)I"⟩, prog_9_method_39_code, 4, some .int)
theorem zm_M_manyKnown : zmV mM_manyKnown 1 := ⟨zmd_mk 831 8 (by decide +kernel), zgw_p 830 (by decide +kernel) (by decide +kernel), zgw_s (y := ⟨"SweptFloorsModel", "manyKnown", "(I)I"⟩) (n := 25) 69 (by decide +kernel) (by decide +kernel)⟩
def mM_robot : zM := (⟨"SweptFloorsModel", "robot", "(I)I"⟩, prog_9_method_40_code, 2, some .int)
theorem zm_M_robot : zmV mM_robot 1 := ⟨zmd_mk 827 8 (by decide +kernel), zgw_p 825 (by decide +kernel) (by decide +kernel), zgw_p 826 (by decide +kernel) (by decide +kernel)⟩
def mM_knows : zM := (⟨"SweptFloorsModel", "knows", "(I)I"⟩, prog_9_method_41_code, 2, some .int)
theorem zm_M_knows : zmV mM_knows 1 := ⟨zmd_mk 835 8 (by decide +kernel), zgw_p 833 (by decide +kernel) (by decide +kernel), zgw_p 834 (by decide +kernel) (by decide +kernel)⟩
def mM_home : zM := (⟨"SweptFloorsModel", "home", "(I)I"⟩, prog_9_method_42_code, 2, some .int)
theorem zm_M_home : zmV mM_home 1 := ⟨zmd_mk 839 8 (by decide +kernel), zgw_p 837 (by decide +kernel) (by decide +kernel), zgw_p 838 (by decide +kernel) (by decide +kernel)⟩
def mM_target : zM := (⟨"SweptFloorsModel", "target", "(I)I"⟩, prog_9_method_43_code, 2, some .int)
theorem zm_M_target : zmV mM_target 1 := ⟨zmd_mk 843 8 (by decide +kernel), zgw_p 841 (by decide +kernel) (by decide +kernel), zgw_p 842 (by decide +kernel) (by decide +kernel)⟩
def mM_place : zM := (⟨"SweptFloorsModel", "place", "(I)I"⟩, prog_9_method_44_code, 4, some .int)
theorem zm_M_place : zmV mM_place 1 := ⟨zmd_mk 847 8 (by decide +kernel), zgw_p 845 (by decide +kernel) (by decide +kernel), zgw_p 846 (by decide +kernel) (by decide +kernel)⟩
def mM_isFirst : zM := (⟨"SweptFloorsModel", "isFirst", "(I)Z"⟩, prog_9_method_45_code, 2, some .boolean)
theorem zm_M_isFirst : zmV mM_isFirst 1 := ⟨zmd_mk 855 8 (by decide +kernel), zgw_p 854 (by decide +kernel) (by decide +kernel), zgw_s (y := ⟨"SweptFloorsModel", "isFirst", "(I)Z"⟩) (n := 25) 70 (by decide +kernel) (by decide +kernel)⟩
def mM_longOf : zM := (⟨"SweptFloorsModel", "longOf", "(I)I"⟩, prog_9_method_46_code, 3, some .int)
theorem zm_M_longOf : zmV mM_longOf 1 := ⟨zmd_mk 859 8 (by decide +kernel), zgw_p 858 (by decide +kernel) (by decide +kernel), zgw_s (y := ⟨"SweptFloorsModel", "longOf", "(I)I"⟩) (n := 25) 71 (by decide +kernel) (by decide +kernel)⟩
def mM_lane : zM := (⟨"SweptFloorsModel", "lane", "(II)I"⟩, prog_9_method_47_code, 5, some .int)
theorem zm_M_lane : zmV mM_lane 2 := ⟨zmd_mk 851 8 (by decide +kernel), zgw_p 849 (by decide +kernel) (by decide +kernel), zgw_p 850 (by decide +kernel) (by decide +kernel)⟩
def mM_isOfRoom : zM := (⟨"SweptFloorsModel", "isOfRoom", "(I)Z"⟩, prog_9_method_48_code, 2, some .boolean)
theorem zm_M_isOfRoom : zmV mM_isOfRoom 1 := ⟨zmd_mk 871 8 (by decide +kernel), zgw_p 870 (by decide +kernel) (by decide +kernel), zgw_s (y := ⟨"SweptFloorsModel", "isOfRoom", "(I)Z"⟩) (n := 25) 73 (by decide +kernel) (by decide +kernel)⟩
def mM_laysRooms : zM := (⟨"SweptFloorsModel", "laysRooms", "()I"⟩, prog_9_method_49_code, 6, some .int)
theorem zm_M_laysRooms : zmV mM_laysRooms 0 := ⟨zmd_mk 867 8 (by decide +kernel), zgw_p 866 (by decide +kernel) (by decide +kernel), zgw_s (y := ⟨"SweptFloorsModel", "laysRooms", "()I"⟩) (n := 25) 72 (by decide +kernel) (by decide +kernel)⟩
def mM_room : zM := (⟨"SweptFloorsModel", "room", "(I)I"⟩, prog_9_method_50_code, 3, some .int)
theorem zm_M_room : zmV mM_room 1 := ⟨zmd_mk 863 8 (by decide +kernel), zgw_p 861 (by decide +kernel) (by decide +kernel), zgw_p 862 (by decide +kernel) (by decide +kernel)⟩
def mM_reach : zM := (⟨"SweptFloorsModel", "reach", "(I)I"⟩, prog_9_method_51_code, 5, some .int)
theorem zm_M_reach : zmV mM_reach 1 := ⟨zmd_mk 875 8 (by decide +kernel), zgw_p 873 (by decide +kernel) (by decide +kernel), zgw_p 874 (by decide +kernel) (by decide +kernel)⟩
def mM_isAllDone : zM := (⟨"SweptFloorsModel", "isAllDone", "()Z"⟩, prog_9_method_52_code, 1, some .boolean)
theorem zm_M_isAllDone : zmV mM_isAllDone 0 := ⟨zmd_mk 883 8 (by decide +kernel), zgw_p 882 (by decide +kernel) (by decide +kernel), zgw_s (y := ⟨"SweptFloorsModel", "isAllDone", "()Z"⟩) (n := 25) 74 (by decide +kernel) (by decide +kernel)⟩
def mM_when : zM := (⟨"SweptFloorsModel", "when", "()I"⟩, prog_9_method_53_code, 3, some .int)
theorem zm_M_when : zmV mM_when 0 := ⟨zmd_mk 879 8 (by decide +kernel), zgw_p 877 (by decide +kernel) (by decide +kernel), zgw_p 878 (by decide +kernel) (by decide +kernel)⟩
def mM_keep : zM := (⟨"SweptFloorsModel", "keep", "(I)I"⟩, prog_9_method_54_code, 3, some .int)
theorem zm_M_keep : zmV mM_keep 1 := ⟨zmd_mk 887 8 (by decide +kernel), zgw_p 885 (by decide +kernel) (by decide +kernel), zgw_p 886 (by decide +kernel) (by decide +kernel)⟩
def mM_back : zM := (⟨"SweptFloorsModel", "back", "(I)I"⟩, prog_9_method_55_code, 3, some .int)
theorem zm_M_back : zmV mM_back 1 := ⟨zmd_mk 891 8 (by decide +kernel), zgw_p 889 (by decide +kernel) (by decide +kernel), zgw_p 890 (by decide +kernel) (by decide +kernel)⟩
def mM_count : zM := (⟨"SweptFloorsModel", "count", "(I)I"⟩, prog_9_method_56_code, 2, some .int)
theorem zm_M_count : zmV mM_count 1 := ⟨zmd_mk 895 8 (by decide +kernel), zgw_p 893 (by decide +kernel) (by decide +kernel), zgw_p 894 (by decide +kernel) (by decide +kernel)⟩
def mJ_bitCount : zM := (⟨"java/lang/Long", "bitCount", "(J)I"⟩, prog_10_method_50_code, 2, some .int)
theorem zm_J_bitCount : zmS mJ_bitCount 1 := ⟨zmd_mk 372 11 (by decide +kernel), zgw_p 371 (by decide +kernel) (by decide +kernel)⟩
def mJ_min : zM := (⟨"java/lang/Math", "min", "(II)I"⟩, prog_11_method_69_code, 2, some .int)
theorem zm_J_min : zmS mJ_min 2 := ⟨zmd_mk 343 10 (by decide +kernel), zgw_p 342 (by decide +kernel) (by decide +kernel)⟩
def mL_law : zM := (x, code, maxLocals, ret)
theorem zk_L_9 : zlk "SweptFloorsLaw" 9 mF_init.1 := Or.inl (zgw_p 14 (by decide +kernel) (by decide +kernel))
theorem zk_F_3 : Cond.methodLink "SweptFloors" 3 Lib.objectInit ∈ zgw := zgw_p 17 (by decide +kernel) (by decide +kernel)
theorem zk_F_11 : zlk "SweptFloors" 11 mT_init.1 := Or.inr (znest_p 22 (by decide +kernel) rfl)
theorem zk_T_3 : Cond.methodLink "SweptFloors$Text" 3 Lib.objectInit ∈ zgw := zgw_p 25 (by decide +kernel) (by decide +kernel)
theorem zk_F_18 : zlk "SweptFloors" 18 mG_init.1 := Or.inr (znest_p 60 (by decide +kernel) rfl)
theorem zk_G_3 : Cond.methodLink "SweptFloors$Ground" 3 Lib.objectInit ∈ zgw := zgw_p 63 (by decide +kernel) (by decide +kernel)
theorem zk_F_25 : zlk "SweptFloors" 25 mS_init.1 := Or.inr (znest_p 111 (by decide +kernel) rfl)
theorem zk_S_3 : Cond.methodLink "SweptFloors$Situation" 3 Lib.objectInit ∈ zgw := zgw_p 114 (by decide +kernel) (by decide +kernel)
theorem zk_F_37 : zlk "SweptFloors" 37 mP_init.1 := Or.inr (znest_p 168 (by decide +kernel) rfl)
theorem zk_P_3 : Cond.methodLink "SweptFloors$Pilot" 3 Lib.objectInit ∈ zgw := zgw_p 171 (by decide +kernel) (by decide +kernel)
theorem zk_F_44 : zlk "SweptFloors" 44 mH_init.1 := Or.inr (znest_p 191 (by decide +kernel) rfl)
theorem zk_H_3 : Cond.methodLink "SweptFloors$History" 3 Lib.objectInit ∈ zgw := zgw_p 194 (by decide +kernel) (by decide +kernel)
theorem zk_H_17 : zlk "SweptFloors$History" 17 mS_init.1 := Or.inr (znest_p 197 (by decide +kernel) rfl)
theorem zk_F_51 : zlk "SweptFloors" 51 mA_init.1 := Or.inr (znest_p 211 (by decide +kernel) rfl)
theorem zk_A_3 : Cond.methodLink "SweptFloors$Album" 3 Lib.objectInit ∈ zgw := zgw_p 214 (by decide +kernel) (by decide +kernel)
theorem zk_A_21 : zlk "SweptFloors$Album" 21 mS_init.1 := Or.inr (znest_p 216 (by decide +kernel) rfl)
theorem zk_F_56 : zlk "SweptFloors" 56 mT_add.1 := Or.inr (znest_p 225 (by decide +kernel) rfl)
theorem zk_F_60 : zlk "SweptFloors" 60 mF_readText.1 := Or.inl (zgw_p 229 (by decide +kernel) (by decide +kernel))
theorem zk_F_235 : zlk "SweptFloors" 235 mT_findFault.1 := Or.inr (znest_p 233 (by decide +kernel) rfl)
theorem zk_T_37 : zlk "SweptFloors$Text" 37 mT_takes.1 := Or.inl (zgw_p 237 (by decide +kernel) (by decide +kernel))
theorem zk_T_41 : zlk "SweptFloors$Text" 41 mT_endsRow.1 := Or.inl (zgw_p 241 (by decide +kernel) (by decide +kernel))
theorem zk_T_45 : zlk "SweptFloors$Text" 45 mT_kindOfSign.1 := Or.inl (zgw_p 245 (by decide +kernel) (by decide +kernel))
theorem zk_T_49 : zlk "SweptFloors$Text" 49 mT_takesSign.1 := Or.inl (zgw_p 248 (by decide +kernel) (by decide +kernel))
theorem zk_F_238 : zlk "SweptFloors" 238 mG_layOut.1 := Or.inr (znest_p 252 (by decide +kernel) rfl)
theorem zk_G_26 : zlk "SweptFloors$Ground" 26 mG_size.1 := Or.inl (zgw_p 256 (by decide +kernel) (by decide +kernel))
theorem zk_G_34 : zlk "SweptFloors$Ground" 34 mG_cellsOfKind.1 := Or.inl (zgw_p 260 (by decide +kernel) (by decide +kernel))
theorem zk_G_53 : zlk "SweptFloors$Ground" 53 mF_only.1 := Or.inr (znest_p 263 (by decide +kernel) rfl)
theorem zk_F_242 : zlk "SweptFloors" 242 mS_begin.1 := Or.inr (znest_p 266 (by decide +kernel) rfl)
theorem zk_S_44 : zlk "SweptFloors$Situation" 44 mF_only.1 := Or.inr (znest_p 270 (by decide +kernel) rfl)
theorem zk_F_245 : zlk "SweptFloors" 245 mA_empty.1 := Or.inr (znest_p 271 (by decide +kernel) rfl)
theorem zk_L_13 : zlk "SweptFloorsLaw" 13 mF_type.1 := Or.inl (zgw_p 297 (by decide +kernel) (by decide +kernel))
theorem zk_L_18 : zlk "SweptFloorsLaw" 18 mF_clear.1 := Or.inl (zgw_p 301 (by decide +kernel) (by decide +kernel))
theorem zk_L_23 : zlk "SweptFloorsLaw" 23 mF_floor.1 := Or.inl (zgw_p 305 (by decide +kernel) (by decide +kernel))
theorem zk_F_68 : zlk "SweptFloors" 68 mG_size.1 := Or.inr (znest_p 309 (by decide +kernel) rfl)
theorem zk_L_27 : zlk "SweptFloorsLaw" 27 mF_cell.1 := Or.inl (zgw_p 310 (by decide +kernel) (by decide +kernel))
theorem zk_F_71 : zlk "SweptFloors" 71 mG_has.1 := Or.inr (znest_p 314 (by decide +kernel) rfl)
theorem zk_F_74 : zlk "SweptFloors" 74 mS_kindOf.1 := Or.inr (znest_p 318 (by decide +kernel) rfl)
theorem zk_S_72 : zlk "SweptFloors$Situation" 72 mF_holds.1 := Or.inr (znest_p 322 (by decide +kernel) rfl)
theorem zk_F_111 : zlk "SweptFloors" 111 mF_only.1 := Or.inl (zgw_p 325 (by decide +kernel) (by decide +kernel))
theorem zk_L_31 : zlk "SweptFloorsLaw" 31 mF_powers.1 := Or.inl (zgw_p 326 (by decide +kernel) (by decide +kernel))
theorem zk_F_84 : zlk "SweptFloors" 84 mH_remember.1 := Or.inr (znest_p 330 (by decide +kernel) rfl)
theorem zk_H_24 : zlk "SweptFloors$History" 24 mS_copyFrom.1 := Or.inr (znest_p 334 (by decide +kernel) rfl)
theorem zk_S_58 : Cond.methodLink "SweptFloors$Situation" 58 arraycopyName ∈ zgw := zgw_p 338 (by decide +kernel) (by decide +kernel)
theorem zk_H_31 : zlk "SweptFloors$History" 31 mJ_min.1 := Or.inl (zgw_p 341 (by decide +kernel) (by decide +kernel))
theorem zk_F_91 : zlk "SweptFloors" 91 mJ_min.1 := Or.inl (zgw_p 344 (by decide +kernel) (by decide +kernel))
theorem zk_L_36 : zlk "SweptFloorsLaw" 36 mF_moves.1 := Or.inl (zgw_p 345 (by decide +kernel) (by decide +kernel))
theorem zk_F_101 : zlk "SweptFloors" 101 mF_holds.1 := Or.inl (zgw_p 349 (by decide +kernel) (by decide +kernel))
theorem zk_L_40 : zlk "SweptFloorsLaw" 40 mF_steps.1 := Or.inl (zgw_p 350 (by decide +kernel) (by decide +kernel))
theorem zk_F_118 : zlk "SweptFloors" 118 mS_stepTo.1 := Or.inr (znest_p 354 (by decide +kernel) rfl)
theorem zk_S_86 : zlk "SweptFloors$Situation" 86 mG_cellBeside.1 := Or.inr (znest_p 358 (by decide +kernel) rfl)
theorem zk_G_69 : zlk "SweptFloors$Ground" 69 mG_beside.1 := Or.inl (zgw_p 362 (by decide +kernel) (by decide +kernel))
theorem zk_G_73 : zlk "SweptFloors$Ground" 73 mF_lowestOf.1 := Or.inr (znest_p 367 (by decide +kernel) rfl)
theorem zk_F_152 : zlk "SweptFloors" 152 mJ_bitCount.1 := Or.inl (zgw_p 370 (by decide +kernel) (by decide +kernel))
theorem zk_S_90 : zlk "SweptFloors$Situation" 90 mS_outcomeAt.1 := Or.inl (zgw_p 376 (by decide +kernel) (by decide +kernel))
theorem zk_S_102 : zlk "SweptFloors$Situation" 102 mS_freeCells.1 := Or.inl (zgw_p 380 (by decide +kernel) (by decide +kernel))
theorem zk_S_94 : zlk "SweptFloors$Situation" 94 mS_sortOutBy.1 := Or.inl (zgw_p 385 (by decide +kernel) (by decide +kernel))
theorem zk_S_118 : zlk "SweptFloors$Situation" 118 mS_keepPlacesThatSee.1 := Or.inl (zgw_p 389 (by decide +kernel) (by decide +kernel))
theorem zk_S_106 : zlk "SweptFloors$Situation" 106 mF_turned.1 := Or.inr (znest_p 393 (by decide +kernel) rfl)
theorem zk_S_131 : zlk "SweptFloors$Situation" 131 mS_cellsThatMaySee.1 := Or.inl (zgw_p 396 (by decide +kernel) (by decide +kernel))
theorem zk_S_121 : zlk "SweptFloors$Situation" 121 mS_cellsThatMayShow.1 := Or.inl (zgw_p 400 (by decide +kernel) (by decide +kernel))
theorem zk_S_135 : zlk "SweptFloors$Situation" 135 mG_beside.1 := Or.inr (znest_p 404 (by decide +kernel) rfl)
theorem zk_S_128 : zlk "SweptFloors$Situation" 128 mS_movePlacesAhead.1 := Or.inl (zgw_p 405 (by decide +kernel) (by decide +kernel))
theorem zk_S_112 : zlk "SweptFloors$Situation" 112 mS_beFoundIfSure.1 := Or.inl (zgw_p 409 (by decide +kernel) (by decide +kernel))
theorem zk_S_124 : zlk "SweptFloors$Situation" 124 mS_placeCount.1 := Or.inl (zgw_p 413 (by decide +kernel) (by decide +kernel))
theorem zk_S_142 : zlk "SweptFloors$Situation" 142 mJ_bitCount.1 := Or.inl (zgw_p 417 (by decide +kernel) (by decide +kernel))
theorem zk_S_98 : zlk "SweptFloors$Situation" 98 mS_learn.1 := Or.inl (zgw_p 418 (by decide +kernel) (by decide +kernel))
theorem zk_L_44 : zlk "SweptFloorsLaw" 44 mF_rotates.1 := Or.inl (zgw_p 422 (by decide +kernel) (by decide +kernel))
theorem zk_F_121 : zlk "SweptFloors" 121 mS_turn.1 := Or.inr (znest_p 426 (by decide +kernel) rfl)
theorem zk_S_109 : zlk "SweptFloors$Situation" 109 mS_turnPlaces.1 := Or.inl (zgw_p 430 (by decide +kernel) (by decide +kernel))
theorem zk_L_48 : zlk "SweptFloorsLaw" 48 mF_scans.1 := Or.inl (zgw_p 434 (by decide +kernel) (by decide +kernel))
theorem zk_F_125 : zlk "SweptFloors" 125 mS_scanAround.1 := Or.inr (znest_p 438 (by decide +kernel) rfl)
theorem zk_S_115 : zlk "SweptFloors$Situation" 115 mS_seenAt.1 := Or.inl (zgw_p 442 (by decide +kernel) (by decide +kernel))
theorem zk_L_52 : zlk "SweptFloorsLaw" 52 mF_carries.1 := Or.inl (zgw_p 446 (by decide +kernel) (by decide +kernel))
theorem zk_F_128 : zlk "SweptFloors" 128 mS_freeCells.1 := Or.inr (znest_p 450 (by decide +kernel) rfl)
theorem zk_F_132 : zlk "SweptFloors" 132 mS_carryTo.1 := Or.inr (znest_p 451 (by decide +kernel) rfl)
theorem zk_L_56 : zlk "SweptFloorsLaw" 56 mF_goes.1 := Or.inl (zgw_p 455 (by decide +kernel) (by decide +kernel))
theorem zk_F_139 : zlk "SweptFloors" 139 mP_act.1 := Or.inr (znest_p 459 (by decide +kernel) rfl)
theorem zk_P_33 : zlk "SweptFloors$Pilot" 33 mJ_min.1 := Or.inl (zgw_p 463 (by decide +kernel) (by decide +kernel))
theorem zk_P_39 : zlk "SweptFloors$Pilot" 39 mP_nextHand.1 := Or.inl (zgw_p 464 (by decide +kernel) (by decide +kernel))
theorem zk_P_49 : zlk "SweptFloors$Pilot" 49 mP_findsTarget.1 := Or.inl (zgw_p 468 (by decide +kernel) (by decide +kernel))
theorem zk_P_88 : zlk "SweptFloors$Pilot" 88 mF_only.1 := Or.inr (znest_p 473 (by decide +kernel) rfl)
theorem zk_P_92 : zlk "SweptFloors$Pilot" 92 mG_within.1 := Or.inr (znest_p 474 (by decide +kernel) rfl)
theorem zk_G_77 : zlk "SweptFloors$Ground" 77 mG_around.1 := Or.inl (zgw_p 478 (by decide +kernel) (by decide +kernel))
theorem zk_P_96 : zlk "SweptFloors$Pilot" 96 mG_around.1 := Or.inr (znest_p 482 (by decide +kernel) rfl)
theorem zk_P_100 : zlk "SweptFloors$Pilot" 100 mF_lowestOf.1 := Or.inr (znest_p 483 (by decide +kernel) rfl)
theorem zk_P_107 : zlk "SweptFloors$Pilot" 107 mS_homeOf.1 := Or.inr (znest_p 484 (by decide +kernel) rfl)
theorem zk_S_82 : zlk "SweptFloors$Situation" 82 mG_stepsBetween.1 := Or.inr (znest_p 488 (by decide +kernel) rfl)
theorem zk_P_59 : zlk "SweptFloors$Pilot" 59 mP_handOnto.1 := Or.inl (zgw_p 492 (by decide +kernel) (by decide +kernel))
theorem zk_P_66 : zlk "SweptFloors$Pilot" 66 mG_cellBeside.1 := Or.inr (znest_p 495 (by decide +kernel) rfl)
theorem zk_P_63 : zlk "SweptFloors$Pilot" 63 mP_handNearer.1 := Or.inl (zgw_p 496 (by decide +kernel) (by decide +kernel))
theorem zk_P_73 : zlk "SweptFloors$Pilot" 73 mG_stepsBetween.1 := Or.inr (znest_p 499 (by decide +kernel) rfl)
theorem zk_P_45 : zlk "SweptFloors$Pilot" 45 mS_stepTo.1 := Or.inr (znest_p 500 (by decide +kernel) rfl)
theorem zk_L_60 : zlk "SweptFloorsLaw" 60 mF_undo.1 := Or.inl (zgw_p 501 (by decide +kernel) (by decide +kernel))
theorem zk_F_143 : zlk "SweptFloors" 143 mH_bringBack.1 := Or.inr (znest_p 505 (by decide +kernel) rfl)
theorem zk_L_64 : zlk "SweptFloorsLaw" 64 mF_robot.1 := Or.inl (zgw_p 509 (by decide +kernel) (by decide +kernel))
theorem zk_L_68 : zlk "SweptFloorsLaw" 68 mF_knows.1 := Or.inl (zgw_p 513 (by decide +kernel) (by decide +kernel))
theorem zk_F_161 : zlk "SweptFloors" 161 mS_knowledgeOf.1 := Or.inr (znest_p 517 (by decide +kernel) rfl)
theorem zk_L_72 : zlk "SweptFloorsLaw" 72 mF_home.1 := Or.inl (zgw_p 521 (by decide +kernel) (by decide +kernel))
theorem zk_F_164 : zlk "SweptFloors" 164 mS_homeOf.1 := Or.inr (znest_p 525 (by decide +kernel) rfl)
theorem zk_L_76 : zlk "SweptFloorsLaw" 76 mF_target.1 := Or.inl (zgw_p 526 (by decide +kernel) (by decide +kernel))
theorem zk_F_167 : zlk "SweptFloors" 167 mP_findsTarget.1 := Or.inr (znest_p 530 (by decide +kernel) rfl)
theorem zk_L_80 : zlk "SweptFloorsLaw" 80 mF_place.1 := Or.inl (zgw_p 531 (by decide +kernel) (by decide +kernel))
theorem zk_F_182 : zlk "SweptFloors" 182 mS_placeCount.1 := Or.inr (znest_p 535 (by decide +kernel) rfl)
theorem zk_F_185 : zlk "SweptFloors" 185 mS_placeAt.1 := Or.inr (znest_p 536 (by decide +kernel) rfl)
theorem zk_L_84 : zlk "SweptFloorsLaw" 84 mF_lane.1 := Or.inl (zgw_p 540 (by decide +kernel) (by decide +kernel))
theorem zk_F_188 : zlk "SweptFloors" 188 mG_beside.1 := Or.inr (znest_p 544 (by decide +kernel) rfl)
theorem zk_F_194 : zlk "SweptFloors" 194 mF_memberAt.1 := Or.inl (zgw_p 546 (by decide +kernel) (by decide +kernel))
theorem zk_F_248 : zlk "SweptFloors" 248 mF_lowestOf.1 := Or.inl (zgw_p 549 (by decide +kernel) (by decide +kernel))
theorem zk_F_198 : zlk "SweptFloors" 198 mF_laneLength.1 := Or.inl (zgw_p 550 (by decide +kernel) (by decide +kernel))
theorem zk_L_88 : zlk "SweptFloorsLaw" 88 mF_room.1 := Or.inl (zgw_p 554 (by decide +kernel) (by decide +kernel))
theorem zk_F_208 : zlk "SweptFloors" 208 mG_within.1 := Or.inr (znest_p 558 (by decide +kernel) rfl)
theorem zk_L_92 : zlk "SweptFloorsLaw" 92 mF_reach.1 := Or.inl (zgw_p 559 (by decide +kernel) (by decide +kernel))
theorem zk_F_212 : zlk "SweptFloors" 212 mG_mostSteps.1 := Or.inr (znest_p 563 (by decide +kernel) rfl)
theorem zk_L_96 : zlk "SweptFloorsLaw" 96 mF_when.1 := Or.inl (zgw_p 567 (by decide +kernel) (by decide +kernel))
theorem zk_F_215 : zlk "SweptFloors" 215 mS_copyFrom.1 := Or.inr (znest_p 571 (by decide +kernel) rfl)
theorem zk_F_218 : zlk "SweptFloors" 218 mP_isThrough.1 := Or.inr (znest_p 572 (by decide +kernel) rfl)
theorem zk_L_100 : zlk "SweptFloorsLaw" 100 mF_keep.1 := Or.inl (zgw_p 576 (by decide +kernel) (by decide +kernel))
theorem zk_F_221 : zlk "SweptFloors" 221 mA_putIn.1 := Or.inr (znest_p 580 (by decide +kernel) rfl)
theorem zk_A_24 : zlk "SweptFloors$Album" 24 mS_copyFrom.1 := Or.inr (znest_p 584 (by decide +kernel) rfl)
theorem zk_L_104 : zlk "SweptFloorsLaw" 104 mF_back.1 := Or.inl (zgw_p 585 (by decide +kernel) (by decide +kernel))
theorem zk_F_225 : zlk "SweptFloors" 225 mA_takeOut.1 := Or.inr (znest_p 589 (by decide +kernel) rfl)
theorem zk_L_108 : zlk "SweptFloorsLaw" 108 mF_count.1 := Or.inl (zgw_p 593 (by decide +kernel) (by decide +kernel))
theorem zk_L_12 : zlk "SweptFloorsLaw" 12 mM_init.1 := Or.inl (zgw_p 599 (by decide +kernel) (by decide +kernel))
theorem zk_M_1 : Cond.methodLink "SweptFloorsModel" 1 Lib.objectInit ∈ zgw := zgw_p 602 (by decide +kernel) (by decide +kernel)
theorem zk_M_54 : zlk "SweptFloorsModel" 54 mM_begins.1 := Or.inl (zgw_p 603 (by decide +kernel) (by decide +kernel))
theorem zk_M_57 : zlk "SweptFloorsModel" 57 mM_cells.1 := Or.inl (zgw_p 607 (by decide +kernel) (by decide +kernel))
theorem zk_L_17 : zlk "SweptFloorsLaw" 17 mM_type.1 := Or.inl (zgw_p 687 (by decide +kernel) (by decide +kernel))
theorem zk_M_67 : zlk "SweptFloorsModel" 67 mM_in.1 := Or.inl (zgw_p 691 (by decide +kernel) (by decide +kernel))
theorem zk_L_22 : zlk "SweptFloorsLaw" 22 mM_clear.1 := Or.inl (zgw_p 694 (by decide +kernel) (by decide +kernel))
theorem zk_L_26 : zlk "SweptFloorsLaw" 26 mM_floor.1 := Or.inl (zgw_p 698 (by decide +kernel) (by decide +kernel))
theorem zk_M_90 : zlk "SweptFloorsModel" 90 mM_takes.1 := Or.inl (zgw_p 702 (by decide +kernel) (by decide +kernel))
theorem zk_M_83 : zlk "SweptFloorsModel" 83 mM_kindOf.1 := Or.inl (zgw_p 706 (by decide +kernel) (by decide +kernel))
theorem zk_L_30 : zlk "SweptFloorsLaw" 30 mM_cell.1 := Or.inl (zgw_p 709 (by decide +kernel) (by decide +kernel))
theorem zk_M_94 : zlk "SweptFloorsModel" 94 mM_isCell.1 := Or.inl (zgw_p 713 (by decide +kernel) (by decide +kernel))
theorem zk_L_35 : zlk "SweptFloorsLaw" 35 mM_powers.1 := Or.inl (zgw_p 717 (by decide +kernel) (by decide +kernel))
theorem zk_M_97 : zlk "SweptFloorsModel" 97 mM_remembers.1 := Or.inl (zgw_p 721 (by decide +kernel) (by decide +kernel))
theorem zk_L_39 : zlk "SweptFloorsLaw" 39 mM_moves.1 := Or.inl (zgw_p 725 (by decide +kernel) (by decide +kernel))
theorem zk_M_100 : zlk "SweptFloorsModel" 100 mM_isDoor.1 := Or.inl (zgw_p 729 (by decide +kernel) (by decide +kernel))
theorem zk_L_43 : zlk "SweptFloorsLaw" 43 mM_steps.1 := Or.inl (zgw_p 733 (by decide +kernel) (by decide +kernel))
theorem zk_M_130 : zlk "SweptFloorsModel" 130 mM_stepTo.1 := Or.inl (zgw_p 737 (by decide +kernel) (by decide +kernel))
theorem zk_M_109 : zlk "SweptFloorsModel" 109 mM_beside.1 := Or.inl (zgw_p 741 (by decide +kernel) (by decide +kernel))
theorem zk_M_123 : zlk "SweptFloorsModel" 123 mM_toldOf.1 := Or.inl (zgw_p 745 (by decide +kernel) (by decide +kernel))
theorem zk_M_103 : zlk "SweptFloorsModel" 103 mM_isFree.1 := Or.inl (zgw_p 749 (by decide +kernel) (by decide +kernel))
theorem zk_M_126 : zlk "SweptFloorsModel" 126 mM_stepsPlaces.1 := Or.inl (zgw_p 753 (by decide +kernel) (by decide +kernel))
theorem zk_M_113 : zlk "SweptFloorsModel" 113 mM_canBe.1 := Or.inl (zgw_p 757 (by decide +kernel) (by decide +kernel))
theorem zk_M_117 : zlk "SweptFloorsModel" 117 mM_becomePlaces.1 := Or.inl (zgw_p 761 (by decide +kernel) (by decide +kernel))
theorem zk_M_120 : zlk "SweptFloorsModel" 120 mM_findsMaybe.1 := Or.inl (zgw_p 765 (by decide +kernel) (by decide +kernel))
theorem zk_M_106 : zlk "SweptFloorsModel" 106 mM_manyPlaces.1 := Or.inl (zgw_p 769 (by decide +kernel) (by decide +kernel))
theorem zk_L_47 : zlk "SweptFloorsLaw" 47 mM_rotates.1 := Or.inl (zgw_p 773 (by decide +kernel) (by decide +kernel))
theorem zk_L_51 : zlk "SweptFloorsLaw" 51 mM_scans.1 := Or.inl (zgw_p 777 (by decide +kernel) (by decide +kernel))
theorem zk_M_136 : zlk "SweptFloorsModel" 136 mM_canScan.1 := Or.inl (zgw_p 781 (by decide +kernel) (by decide +kernel))
theorem zk_M_133 : zlk "SweptFloorsModel" 133 mM_part.1 := Or.inl (zgw_p 785 (by decide +kernel) (by decide +kernel))
theorem zk_L_55 : zlk "SweptFloorsLaw" 55 mM_carries.1 := Or.inl (zgw_p 788 (by decide +kernel) (by decide +kernel))
theorem zk_L_59 : zlk "SweptFloorsLaw" 59 mM_goes.1 := Or.inl (zgw_p 792 (by decide +kernel) (by decide +kernel))
theorem zk_M_168 : zlk "SweptFloorsModel" 168 mM_acts.1 := Or.inl (zgw_p 796 (by decide +kernel) (by decide +kernel))
theorem zk_M_158 : zlk "SweptFloorsModel" 158 mM_laysTarget.1 := Or.inl (zgw_p 800 (by decide +kernel) (by decide +kernel))
theorem zk_M_139 : zlk "SweptFloorsModel" 139 mM_lays.1 := Or.inl (zgw_p 804 (by decide +kernel) (by decide +kernel))
theorem zk_M_146 : zlk "SweptFloorsModel" 146 mM_looksFor.1 := Or.inl (zgw_p 808 (by decide +kernel) (by decide +kernel))
theorem zk_M_161 : zlk "SweptFloorsModel" 161 mM_handOn.1 := Or.inl (zgw_p 812 (by decide +kernel) (by decide +kernel))
theorem zk_M_164 : zlk "SweptFloorsModel" 164 mM_handTo.1 := Or.inl (zgw_p 816 (by decide +kernel) (by decide +kernel))
theorem zk_L_63 : zlk "SweptFloorsLaw" 63 mM_undo.1 := Or.inl (zgw_p 820 (by decide +kernel) (by decide +kernel))
theorem zk_L_67 : zlk "SweptFloorsLaw" 67 mM_robot.1 := Or.inl (zgw_p 824 (by decide +kernel) (by decide +kernel))
theorem zk_M_172 : zlk "SweptFloorsModel" 172 mM_manyKnown.1 := Or.inl (zgw_p 828 (by decide +kernel) (by decide +kernel))
theorem zk_L_71 : zlk "SweptFloorsLaw" 71 mM_knows.1 := Or.inl (zgw_p 832 (by decide +kernel) (by decide +kernel))
theorem zk_L_75 : zlk "SweptFloorsLaw" 75 mM_home.1 := Or.inl (zgw_p 836 (by decide +kernel) (by decide +kernel))
theorem zk_L_79 : zlk "SweptFloorsLaw" 79 mM_target.1 := Or.inl (zgw_p 840 (by decide +kernel) (by decide +kernel))
theorem zk_L_83 : zlk "SweptFloorsLaw" 83 mM_place.1 := Or.inl (zgw_p 844 (by decide +kernel) (by decide +kernel))
theorem zk_L_87 : zlk "SweptFloorsLaw" 87 mM_lane.1 := Or.inl (zgw_p 848 (by decide +kernel) (by decide +kernel))
theorem zk_M_175 : zlk "SweptFloorsModel" 175 mM_isFirst.1 := Or.inl (zgw_p 852 (by decide +kernel) (by decide +kernel))
theorem zk_M_178 : zlk "SweptFloorsModel" 178 mM_longOf.1 := Or.inl (zgw_p 856 (by decide +kernel) (by decide +kernel))
theorem zk_L_91 : zlk "SweptFloorsLaw" 91 mM_room.1 := Or.inl (zgw_p 860 (by decide +kernel) (by decide +kernel))
theorem zk_M_184 : zlk "SweptFloorsModel" 184 mM_laysRooms.1 := Or.inl (zgw_p 864 (by decide +kernel) (by decide +kernel))
theorem zk_M_181 : zlk "SweptFloorsModel" 181 mM_isOfRoom.1 := Or.inl (zgw_p 868 (by decide +kernel) (by decide +kernel))
theorem zk_L_95 : zlk "SweptFloorsLaw" 95 mM_reach.1 := Or.inl (zgw_p 872 (by decide +kernel) (by decide +kernel))
theorem zk_L_99 : zlk "SweptFloorsLaw" 99 mM_when.1 := Or.inl (zgw_p 876 (by decide +kernel) (by decide +kernel))
theorem zk_M_187 : zlk "SweptFloorsModel" 187 mM_isAllDone.1 := Or.inl (zgw_p 880 (by decide +kernel) (by decide +kernel))
theorem zk_L_103 : zlk "SweptFloorsLaw" 103 mM_keep.1 := Or.inl (zgw_p 884 (by decide +kernel) (by decide +kernel))
theorem zk_L_107 : zlk "SweptFloorsLaw" 107 mM_back.1 := Or.inl (zgw_p 888 (by decide +kernel) (by decide +kernel))
theorem zk_L_111 : zlk "SweptFloorsLaw" 111 mM_count.1 := Or.inl (zgw_p 892 (by decide +kernel) (by decide +kernel))
theorem zoi_i : Cond.instanceMethod Lib.objectInit ∈ zgw := zgw_p 18 (by decide +kernel) (by decide +kernel)
theorem zoi_c : Cond.code Lib.objectInit ⟨#[0xb1]⟩ 1 none ∈ zgw := zgw_p 19 (by decide +kernel) (by decide +kernel)
theorem zac_n : Cond.native arraycopyName ∈ zgw := zgw_p 340 (by decide +kernel) (by decide +kernel)
theorem zac_s : Cond.static arraycopyName ∈ zgw := zgw_p 339 (by decide +kernel) (by decide +kernel)
theorem zac_i : Cond.initialized "java/lang/System" ∈ zgw := zgw_p 9 (by decide +kernel) (by decide +kernel)
theorem zar_int : Cond.arrayClass (newarray.typeOf .int) ∈ zgw := zgw_p 57 (by decide +kernel) (by decide +kernel)
theorem zar_long : Cond.arrayClass (newarray.typeOf .long) ∈ zgw := zgw_p 165 (by decide +kernel) (by decide +kernel)
theorem zar_boolean : Cond.arrayClass (newarray.typeOf .boolean) ∈ zgw := zgw_p 224 (by decide +kernel) (by decide +kernel)
theorem zar_o : Cond.arrayOver (.object "SweptFloors$Situation") ∈ lw_tbl := List.mem_append_right _ (List.mem_of_getElem? (i := 196) (by decide +kernel))
theorem zf_T_9 : zfl "SweptFloors$Text" 9 1 0 true (.array (.int)) := ⟨zR_T, zT_T, 8, zY_T, rfl, by decide, zi_T, zy_T, zn_T, rfl, rfl, rfl, Or.inl (zgw_p 26 (by decide +kernel) (by decide +kernel))⟩
theorem zfF_T_9 : zflF "SweptFloors$Text" 9 1 0 (.array (.int)) := ⟨zT_T, 8, zY_T, rfl, by decide, zi_T, zy_T, zn_T, rfl, rfl, rfl, zgw_p 26 (by decide +kernel) (by decide +kernel)⟩
theorem zf_T_18 : zfl "SweptFloors$Text" 18 1 1 false .int := ⟨zR_T, zT_T, 8, zY_T, rfl, by decide, zi_T, zy_T, zn_T, rfl, rfl, rfl, Or.inl (zgw_p 27 (by decide +kernel) (by decide +kernel))⟩
theorem zf_F_64 : zfl "SweptFloors" 64 1 1 false .int := ⟨zR_T, zT_T, 8, zY_T, rfl, by decide, zi_T, zy_T, zn_T, rfl, rfl, rfl, Or.inr (znest_p 28 (by decide +kernel) rfl)⟩
theorem zf_T_15 : zfl "SweptFloors$Text" 15 1 2 true (.array (.int)) := ⟨zR_T, zT_T, 8, zY_T, rfl, by decide, zi_T, zy_T, zn_T, rfl, rfl, rfl, Or.inl (zgw_p 29 (by decide +kernel) (by decide +kernel))⟩
theorem zfF_T_15 : zflF "SweptFloors$Text" 15 1 2 (.array (.int)) := ⟨zT_T, 8, zY_T, rfl, by decide, zi_T, zy_T, zn_T, rfl, rfl, rfl, zgw_p 29 (by decide +kernel) (by decide +kernel)⟩
theorem zf_G_63 : zfl "SweptFloors$Ground" 63 1 2 true (.array (.int)) := ⟨zR_T, zT_T, 8, zY_T, rfl, by decide, zi_T, zy_T, zn_T, rfl, rfl, rfl, Or.inr (znest_p 30 (by decide +kernel) rfl)⟩
theorem zf_T_22 : zfl "SweptFloors$Text" 22 1 3 false .int := ⟨zR_T, zT_T, 8, zY_T, rfl, by decide, zi_T, zy_T, zn_T, rfl, rfl, rfl, Or.inl (zgw_p 31 (by decide +kernel) (by decide +kernel))⟩
theorem zf_G_60 : zfl "SweptFloors$Ground" 60 1 3 false .int := ⟨zR_T, zT_T, 8, zY_T, rfl, by decide, zi_T, zy_T, zn_T, rfl, rfl, rfl, Or.inr (znest_p 32 (by decide +kernel) rfl)⟩
theorem zf_G_9 : zfl "SweptFloors$Ground" 9 1 4 false .int := ⟨zR_T, zT_T, 8, zY_T, rfl, by decide, zi_T, zy_T, zn_T, rfl, rfl, rfl, Or.inr (znest_p 33 (by decide +kernel) rfl)⟩
theorem zf_T_25 : zfl "SweptFloors$Text" 25 1 4 false .int := ⟨zR_T, zT_T, 8, zY_T, rfl, by decide, zi_T, zy_T, zn_T, rfl, rfl, rfl, Or.inl (zgw_p 34 (by decide +kernel) (by decide +kernel))⟩
theorem zf_G_18 : zfl "SweptFloors$Ground" 18 1 5 false .int := ⟨zR_T, zT_T, 8, zY_T, rfl, by decide, zi_T, zy_T, zn_T, rfl, rfl, rfl, Or.inr (znest_p 35 (by decide +kernel) rfl)⟩
theorem zf_T_28 : zfl "SweptFloors$Text" 28 1 5 false .int := ⟨zR_T, zT_T, 8, zY_T, rfl, by decide, zi_T, zy_T, zn_T, rfl, rfl, rfl, Or.inl (zgw_p 36 (by decide +kernel) (by decide +kernel))⟩
theorem zf_T_31 : zfl "SweptFloors$Text" 31 1 6 false .int := ⟨zR_T, zT_T, 8, zY_T, rfl, by decide, zi_T, zy_T, zn_T, rfl, rfl, rfl, Or.inl (zgw_p 37 (by decide +kernel) (by decide +kernel))⟩
theorem zf_G_22 : zfl "SweptFloors$Ground" 22 1 7 false .int := ⟨zR_T, zT_T, 8, zY_T, rfl, by decide, zi_T, zy_T, zn_T, rfl, rfl, rfl, Or.inr (znest_p 38 (by decide +kernel) rfl)⟩
theorem zf_T_34 : zfl "SweptFloors$Text" 34 1 7 false .int := ⟨zR_T, zT_T, 8, zY_T, rfl, by decide, zi_T, zy_T, zn_T, rfl, rfl, rfl, Or.inl (zgw_p 39 (by decide +kernel) (by decide +kernel))⟩
theorem zf_G_15 : zfl "SweptFloors$Ground" 15 2 0 false .int := ⟨zR_G, zT_G, 10, zY_G, rfl, by decide, zi_G, zy_G, zn_G, rfl, rfl, rfl, Or.inl (zgw_p 64 (by decide +kernel) (by decide +kernel))⟩
theorem zf_F_229 : zfl "SweptFloors" 229 2 0 false .int := ⟨zR_G, zT_G, 10, zY_G, rfl, by decide, zi_G, zy_G, zn_G, rfl, rfl, rfl, Or.inr (znest_p 65 (by decide +kernel) rfl)⟩
theorem zf_G_21 : zfl "SweptFloors$Ground" 21 2 1 false .int := ⟨zR_G, zT_G, 10, zY_G, rfl, by decide, zi_G, zy_G, zn_G, rfl, rfl, rfl, Or.inl (zgw_p 66 (by decide +kernel) (by decide +kernel))⟩
theorem zf_F_232 : zfl "SweptFloors" 232 2 1 false .int := ⟨zR_G, zT_G, 10, zY_G, rfl, by decide, zi_G, zy_G, zn_G, rfl, rfl, rfl, Or.inr (znest_p 67 (by decide +kernel) rfl)⟩
theorem zf_P_19 : zfl "SweptFloors$Pilot" 19 2 2 false .int := ⟨zR_G, zT_G, 10, zY_G, rfl, by decide, zi_G, zy_G, zn_G, rfl, rfl, rfl, Or.inr (znest_p 68 (by decide +kernel) rfl)⟩
theorem zf_G_25 : zfl "SweptFloors$Ground" 25 2 2 false .int := ⟨zR_G, zT_G, 10, zY_G, rfl, by decide, zi_G, zy_G, zn_G, rfl, rfl, rfl, Or.inl (zgw_p 69 (by decide +kernel) (by decide +kernel))⟩
theorem zf_S_30 : zfl "SweptFloors$Situation" 30 2 2 false .int := ⟨zR_G, zT_G, 10, zY_G, rfl, by decide, zi_G, zy_G, zn_G, rfl, rfl, rfl, Or.inr (znest_p 70 (by decide +kernel) rfl)⟩
theorem zf_F_205 : zfl "SweptFloors" 205 2 2 false .int := ⟨zR_G, zT_G, 10, zY_G, rfl, by decide, zi_G, zy_G, zn_G, rfl, rfl, rfl, Or.inr (znest_p 71 (by decide +kernel) rfl)⟩
theorem zf_G_30 : zfl "SweptFloors$Ground" 30 2 3 false .long := ⟨zR_G, zT_G, 10, zY_G, rfl, by decide, zi_G, zy_G, zn_G, rfl, rfl, rfl, Or.inl (zgw_p 72 (by decide +kernel) (by decide +kernel))⟩
theorem zf_P_77 : zfl "SweptFloors$Pilot" 77 2 3 false .long := ⟨zR_G, zT_G, 10, zY_G, rfl, by decide, zi_G, zy_G, zn_G, rfl, rfl, rfl, Or.inr (znest_p 73 (by decide +kernel) rfl)⟩
theorem zf_S_139 : zfl "SweptFloors$Situation" 139 2 3 false .long := ⟨zR_G, zT_G, 10, zY_G, rfl, by decide, zi_G, zy_G, zn_G, rfl, rfl, rfl, Or.inr (znest_p 74 (by decide +kernel) rfl)⟩
theorem zf_G_38 : zfl "SweptFloors$Ground" 38 2 4 false .long := ⟨zR_G, zT_G, 10, zY_G, rfl, by decide, zi_G, zy_G, zn_G, rfl, rfl, rfl, Or.inl (zgw_p 75 (by decide +kernel) (by decide +kernel))⟩
theorem zf_S_64 : zfl "SweptFloors$Situation" 64 2 4 false .long := ⟨zR_G, zT_G, 10, zY_G, rfl, by decide, zi_G, zy_G, zn_G, rfl, rfl, rfl, Or.inr (znest_p 76 (by decide +kernel) rfl)⟩
theorem zf_F_202 : zfl "SweptFloors" 202 2 4 false .long := ⟨zR_G, zT_G, 10, zY_G, rfl, by decide, zi_G, zy_G, zn_G, rfl, rfl, rfl, Or.inr (znest_p 77 (by decide +kernel) rfl)⟩
theorem zf_G_41 : zfl "SweptFloors$Ground" 41 2 5 false .long := ⟨zR_G, zT_G, 10, zY_G, rfl, by decide, zi_G, zy_G, zn_G, rfl, rfl, rfl, Or.inl (zgw_p 78 (by decide +kernel) (by decide +kernel))⟩
theorem zf_S_79 : zfl "SweptFloors$Situation" 79 2 5 false .long := ⟨zR_G, zT_G, 10, zY_G, rfl, by decide, zi_G, zy_G, zn_G, rfl, rfl, rfl, Or.inr (znest_p 79 (by decide +kernel) rfl)⟩
theorem zf_G_44 : zfl "SweptFloors$Ground" 44 2 6 false .long := ⟨zR_G, zT_G, 10, zY_G, rfl, by decide, zi_G, zy_G, zn_G, rfl, rfl, rfl, Or.inl (zgw_p 80 (by decide +kernel) (by decide +kernel))⟩
theorem zf_S_76 : zfl "SweptFloors$Situation" 76 2 6 false .long := ⟨zR_G, zT_G, 10, zY_G, rfl, by decide, zi_G, zy_G, zn_G, rfl, rfl, rfl, Or.inr (znest_p 81 (by decide +kernel) rfl)⟩
theorem zf_P_80 : zfl "SweptFloors$Pilot" 80 2 6 false .long := ⟨zR_G, zT_G, 10, zY_G, rfl, by decide, zi_G, zy_G, zn_G, rfl, rfl, rfl, Or.inr (znest_p 82 (by decide +kernel) rfl)⟩
theorem zf_G_47 : zfl "SweptFloors$Ground" 47 2 7 false .long := ⟨zR_G, zT_G, 10, zY_G, rfl, by decide, zi_G, zy_G, zn_G, rfl, rfl, rfl, Or.inl (zgw_p 83 (by decide +kernel) (by decide +kernel))⟩
theorem zf_S_67 : zfl "SweptFloors$Situation" 67 2 7 false .long := ⟨zR_G, zT_G, 10, zY_G, rfl, by decide, zi_G, zy_G, zn_G, rfl, rfl, rfl, Or.inr (znest_p 84 (by decide +kernel) rfl)⟩
theorem zf_F_97 : zfl "SweptFloors" 97 2 7 false .long := ⟨zR_G, zT_G, 10, zY_G, rfl, by decide, zi_G, zy_G, zn_G, rfl, rfl, rfl, Or.inr (znest_p 85 (by decide +kernel) rfl)⟩
theorem zf_G_50 : zfl "SweptFloors$Ground" 50 2 8 false .long := ⟨zR_G, zT_G, 10, zY_G, rfl, by decide, zi_G, zy_G, zn_G, rfl, rfl, rfl, Or.inl (zgw_p 86 (by decide +kernel) (by decide +kernel))⟩
theorem zf_G_57 : zfl "SweptFloors$Ground" 57 2 9 false .long := ⟨zR_G, zT_G, 10, zY_G, rfl, by decide, zi_G, zy_G, zn_G, rfl, rfl, rfl, Or.inl (zgw_p 87 (by decide +kernel) (by decide +kernel))⟩
theorem zf_S_15 : zfl "SweptFloors$Situation" 15 3 0 true (.object "SweptFloors$Ground") := ⟨zR_S, zT_S, 11, zY_S, rfl, by decide, zi_S, zy_S, zn_S, rfl, rfl, rfl, Or.inl (zgw_p 115 (by decide +kernel) (by decide +kernel))⟩
theorem zfF_S_15 : zflF "SweptFloors$Situation" 15 3 0 (.object "SweptFloors$Ground") := ⟨zT_S, 11, zY_S, rfl, by decide, zi_S, zy_S, zn_S, rfl, rfl, rfl, zgw_p 115 (by decide +kernel) (by decide +kernel)⟩
theorem zf_P_15 : zfl "SweptFloors$Pilot" 15 3 0 true (.object "SweptFloors$Ground") := ⟨zR_S, zT_S, 11, zY_S, rfl, by decide, zi_S, zy_S, zn_S, rfl, rfl, rfl, Or.inr (znest_p 116 (by decide +kernel) rfl)⟩
theorem zf_S_19 : zfl "SweptFloors$Situation" 19 3 1 false .long := ⟨zR_S, zT_S, 11, zY_S, rfl, by decide, zi_S, zy_S, zn_S, rfl, rfl, rfl, Or.inl (zgw_p 117 (by decide +kernel) (by decide +kernel))⟩
theorem zf_F_108 : zfl "SweptFloors" 108 3 1 false .long := ⟨zR_S, zT_S, 11, zY_S, rfl, by decide, zi_S, zy_S, zn_S, rfl, rfl, rfl, Or.inr (znest_p 118 (by decide +kernel) rfl)⟩
theorem zf_S_23 : zfl "SweptFloors$Situation" 23 3 2 false .int := ⟨zR_S, zT_S, 11, zY_S, rfl, by decide, zi_S, zy_S, zn_S, rfl, rfl, rfl, Or.inl (zgw_p 119 (by decide +kernel) (by decide +kernel))⟩
theorem zf_P_27 : zfl "SweptFloors$Pilot" 27 3 2 false .int := ⟨zR_S, zT_S, 11, zY_S, rfl, by decide, zi_S, zy_S, zn_S, rfl, rfl, rfl, Or.inr (znest_p 120 (by decide +kernel) rfl)⟩
theorem zf_F_78 : zfl "SweptFloors" 78 3 2 false .int := ⟨zR_S, zT_S, 11, zY_S, rfl, by decide, zi_S, zy_S, zn_S, rfl, rfl, rfl, Or.inr (znest_p 121 (by decide +kernel) rfl)⟩
theorem zf_S_27 : zfl "SweptFloors$Situation" 27 3 3 false .int := ⟨zR_S, zT_S, 11, zY_S, rfl, by decide, zi_S, zy_S, zn_S, rfl, rfl, rfl, Or.inl (zgw_p 122 (by decide +kernel) (by decide +kernel))⟩
theorem zf_P_30 : zfl "SweptFloors$Pilot" 30 3 3 false .int := ⟨zR_S, zT_S, 11, zY_S, rfl, by decide, zi_S, zy_S, zn_S, rfl, rfl, rfl, Or.inr (znest_p 123 (by decide +kernel) rfl)⟩
theorem zf_F_81 : zfl "SweptFloors" 81 3 3 false .int := ⟨zR_S, zT_S, 11, zY_S, rfl, by decide, zi_S, zy_S, zn_S, rfl, rfl, rfl, Or.inr (znest_p 124 (by decide +kernel) rfl)⟩
theorem zf_P_9 : zfl "SweptFloors$Pilot" 9 3 4 false .int := ⟨zR_S, zT_S, 11, zY_S, rfl, by decide, zi_S, zy_S, zn_S, rfl, rfl, rfl, Or.inr (znest_p 125 (by decide +kernel) rfl)⟩
theorem zf_S_35 : zfl "SweptFloors$Situation" 35 3 4 false .int := ⟨zR_S, zT_S, 11, zY_S, rfl, by decide, zi_S, zy_S, zn_S, rfl, rfl, rfl, Or.inl (zgw_p 126 (by decide +kernel) (by decide +kernel))⟩
theorem zf_F_105 : zfl "SweptFloors" 105 3 4 false .int := ⟨zR_S, zT_S, 11, zY_S, rfl, by decide, zi_S, zy_S, zn_S, rfl, rfl, rfl, Or.inr (znest_p 127 (by decide +kernel) rfl)⟩
theorem zf_S_38 : zfl "SweptFloors$Situation" 38 3 5 false .int := ⟨zR_S, zT_S, 11, zY_S, rfl, by decide, zi_S, zy_S, zn_S, rfl, rfl, rfl, Or.inl (zgw_p 128 (by decide +kernel) (by decide +kernel))⟩
theorem zf_F_115 : zfl "SweptFloors" 115 3 5 false .int := ⟨zR_S, zT_S, 11, zY_S, rfl, by decide, zi_S, zy_S, zn_S, rfl, rfl, rfl, Or.inr (znest_p 129 (by decide +kernel) rfl)⟩
theorem zf_P_24 : zfl "SweptFloors$Pilot" 24 3 6 false .int := ⟨zR_S, zT_S, 11, zY_S, rfl, by decide, zi_S, zy_S, zn_S, rfl, rfl, rfl, Or.inr (znest_p 130 (by decide +kernel) rfl)⟩
theorem zf_S_41 : zfl "SweptFloors$Situation" 41 3 6 false .int := ⟨zR_S, zT_S, 11, zY_S, rfl, by decide, zi_S, zy_S, zn_S, rfl, rfl, rfl, Or.inl (zgw_p 131 (by decide +kernel) (by decide +kernel))⟩
theorem zf_F_88 : zfl "SweptFloors" 88 3 6 false .int := ⟨zR_S, zT_S, 11, zY_S, rfl, by decide, zi_S, zy_S, zn_S, rfl, rfl, rfl, Or.inr (znest_p 132 (by decide +kernel) rfl)⟩
theorem zf_S_48 : zfl "SweptFloors$Situation" 48 3 7 false .long := ⟨zR_S, zT_S, 11, zY_S, rfl, by decide, zi_S, zy_S, zn_S, rfl, rfl, rfl, Or.inl (zgw_p 133 (by decide +kernel) (by decide +kernel))⟩
theorem zf_P_69 : zfl "SweptFloors$Pilot" 69 3 7 false .long := ⟨zR_S, zT_S, 11, zY_S, rfl, by decide, zi_S, zy_S, zn_S, rfl, rfl, rfl, Or.inr (znest_p 134 (by decide +kernel) rfl)⟩
theorem zf_F_149 : zfl "SweptFloors" 149 3 7 false .long := ⟨zR_S, zT_S, 11, zY_S, rfl, by decide, zi_S, zy_S, zn_S, rfl, rfl, rfl, Or.inr (znest_p 135 (by decide +kernel) rfl)⟩
theorem zf_S_51 : zfl "SweptFloors$Situation" 51 3 8 false .long := ⟨zR_S, zT_S, 11, zY_S, rfl, by decide, zi_S, zy_S, zn_S, rfl, rfl, rfl, Or.inl (zgw_p 136 (by decide +kernel) (by decide +kernel))⟩
theorem zf_P_85 : zfl "SweptFloors$Pilot" 85 3 8 false .long := ⟨zR_S, zT_S, 11, zY_S, rfl, by decide, zi_S, zy_S, zn_S, rfl, rfl, rfl, Or.inr (znest_p 137 (by decide +kernel) rfl)⟩
theorem zf_F_158 : zfl "SweptFloors" 158 3 8 false .long := ⟨zR_S, zT_S, 11, zY_S, rfl, by decide, zi_S, zy_S, zn_S, rfl, rfl, rfl, Or.inr (znest_p 138 (by decide +kernel) rfl)⟩
theorem zf_S_54 : zfl "SweptFloors$Situation" 54 3 9 false .boolean := ⟨zR_S, zT_S, 11, zY_S, rfl, by decide, zi_S, zy_S, zn_S, rfl, rfl, rfl, Or.inl (zgw_p 139 (by decide +kernel) (by decide +kernel))⟩
theorem zf_F_135 : zfl "SweptFloors" 135 3 9 false .boolean := ⟨zR_S, zT_S, 11, zY_S, rfl, by decide, zi_S, zy_S, zn_S, rfl, rfl, rfl, Or.inr (znest_p 140 (by decide +kernel) rfl)⟩
theorem zf_S_9 : zfl "SweptFloors$Situation" 9 3 10 true (.array (.long)) := ⟨zR_S, zT_S, 11, zY_S, rfl, by decide, zi_S, zy_S, zn_S, rfl, rfl, rfl, Or.inl (zgw_p 141 (by decide +kernel) (by decide +kernel))⟩
theorem zfF_S_9 : zflF "SweptFloors$Situation" 9 3 10 (.array (.long)) := ⟨zT_S, 11, zY_S, rfl, by decide, zi_S, zy_S, zn_S, rfl, rfl, rfl, zgw_p 141 (by decide +kernel) (by decide +kernel)⟩
theorem zf_P_56 : zfl "SweptFloors$Pilot" 56 4 0 false .int := ⟨zR_P, zT_P, 4, zY_P, rfl, by decide, zi_P, zy_P, zn_P, rfl, rfl, rfl, Or.inl (zgw_p 172 (by decide +kernel) (by decide +kernel))⟩
theorem zf_F_170 : zfl "SweptFloors" 170 4 0 false .int := ⟨zR_P, zT_P, 4, zY_P, rfl, by decide, zi_P, zy_P, zn_P, rfl, rfl, rfl, Or.inr (znest_p 173 (by decide +kernel) rfl)⟩
theorem zf_P_53 : zfl "SweptFloors$Pilot" 53 4 1 false .int := ⟨zR_P, zT_P, 4, zY_P, rfl, by decide, zi_P, zy_P, zn_P, rfl, rfl, rfl, Or.inl (zgw_p 174 (by decide +kernel) (by decide +kernel))⟩
theorem zf_F_179 : zfl "SweptFloors" 179 4 1 false .int := ⟨zR_P, zT_P, 4, zY_P, rfl, by decide, zi_P, zy_P, zn_P, rfl, rfl, rfl, Or.inr (znest_p 175 (by decide +kernel) rfl)⟩
theorem zf_P_104 : zfl "SweptFloors$Pilot" 104 4 2 false .int := ⟨zR_P, zT_P, 4, zY_P, rfl, by decide, zi_P, zy_P, zn_P, rfl, rfl, rfl, Or.inl (zgw_p 176 (by decide +kernel) (by decide +kernel))⟩
theorem zf_F_173 : zfl "SweptFloors" 173 4 2 false .int := ⟨zR_P, zT_P, 4, zY_P, rfl, by decide, zi_P, zy_P, zn_P, rfl, rfl, rfl, Or.inr (znest_p 177 (by decide +kernel) rfl)⟩
theorem zf_P_110 : zfl "SweptFloors$Pilot" 110 4 3 false .int := ⟨zR_P, zT_P, 4, zY_P, rfl, by decide, zi_P, zy_P, zn_P, rfl, rfl, rfl, Or.inl (zgw_p 178 (by decide +kernel) (by decide +kernel))⟩
theorem zf_F_176 : zfl "SweptFloors" 176 4 3 false .int := ⟨zR_P, zT_P, 4, zY_P, rfl, by decide, zi_P, zy_P, zn_P, rfl, rfl, rfl, Or.inr (znest_p 179 (by decide +kernel) rfl)⟩
theorem zf_H_11 : zfl "SweptFloors$History" 11 5 0 true (.array (.object "SweptFloors$Situation")) := ⟨zR_H, zT_H, 3, zY_H, rfl, by decide, zi_H, zy_H, zn_H, rfl, rfl, rfl, Or.inl (zgw_p 198 (by decide +kernel) (by decide +kernel))⟩
theorem zfF_H_11 : zflF "SweptFloors$History" 11 5 0 (.array (.object "SweptFloors$Situation")) := ⟨zT_H, 3, zY_H, rfl, by decide, zi_H, zy_H, zn_H, rfl, rfl, rfl, zgw_p 198 (by decide +kernel) (by decide +kernel)⟩
theorem zf_H_20 : zfl "SweptFloors$History" 20 5 1 false .int := ⟨zR_H, zT_H, 3, zY_H, rfl, by decide, zi_H, zy_H, zn_H, rfl, rfl, rfl, Or.inl (zgw_p 199 (by decide +kernel) (by decide +kernel))⟩
theorem zf_H_28 : zfl "SweptFloors$History" 28 5 2 false .int := ⟨zR_H, zT_H, 3, zY_H, rfl, by decide, zi_H, zy_H, zn_H, rfl, rfl, rfl, Or.inl (zgw_p 200 (by decide +kernel) (by decide +kernel))⟩
theorem zf_F_147 : zfl "SweptFloors" 147 5 2 false .int := ⟨zR_H, zT_H, 3, zY_H, rfl, by decide, zi_H, zy_H, zn_H, rfl, rfl, rfl, Or.inr (znest_p 201 (by decide +kernel) rfl)⟩
theorem zf_A_11 : zfl "SweptFloors$Album" 11 6 0 true (.array (.object "SweptFloors$Situation")) := ⟨zR_A, zT_A, 2, zY_A, rfl, by decide, zi_A, zy_A, zn_A, rfl, rfl, rfl, Or.inl (zgw_p 217 (by decide +kernel) (by decide +kernel))⟩
theorem zfF_A_11 : zflF "SweptFloors$Album" 11 6 0 (.array (.object "SweptFloors$Situation")) := ⟨zT_A, 2, zY_A, rfl, by decide, zi_A, zy_A, zn_A, rfl, rfl, rfl, zgw_p 217 (by decide +kernel) (by decide +kernel)⟩
theorem zf_A_17 : zfl "SweptFloors$Album" 17 6 1 true (.array (.boolean)) := ⟨zR_A, zT_A, 2, zY_A, rfl, by decide, zi_A, zy_A, zn_A, rfl, rfl, rfl, Or.inl (zgw_p 218 (by decide +kernel) (by decide +kernel))⟩
theorem zfF_A_17 : zflF "SweptFloors$Album" 17 6 1 (.array (.boolean)) := ⟨zT_A, 2, zY_A, rfl, by decide, zi_A, zy_A, zn_A, rfl, rfl, rfl, zgw_p 218 (by decide +kernel) (by decide +kernel)⟩
theorem zf_F_12 : zfl "SweptFloors" 12 0 0 true (.object "SweptFloors$Text") := ⟨zR_F, zT_F, 7, zY_F, rfl, by decide, zi_F, zy_F, zn_F, rfl, rfl, rfl, Or.inl (zgw_p 275 (by decide +kernel) (by decide +kernel))⟩
theorem zfF_F_12 : zflF "SweptFloors" 12 0 0 (.object "SweptFloors$Text") := ⟨zT_F, 7, zY_F, rfl, by decide, zi_F, zy_F, zn_F, rfl, rfl, rfl, zgw_p 275 (by decide +kernel) (by decide +kernel)⟩
theorem zf_F_19 : zfl "SweptFloors" 19 0 1 true (.object "SweptFloors$Ground") := ⟨zR_F, zT_F, 7, zY_F, rfl, by decide, zi_F, zy_F, zn_F, rfl, rfl, rfl, Or.inl (zgw_p 276 (by decide +kernel) (by decide +kernel))⟩
theorem zfF_F_19 : zflF "SweptFloors" 19 0 1 (.object "SweptFloors$Ground") := ⟨zT_F, 7, zY_F, rfl, by decide, zi_F, zy_F, zn_F, rfl, rfl, rfl, zgw_p 276 (by decide +kernel) (by decide +kernel)⟩
theorem zf_F_28 : zfl "SweptFloors" 28 0 2 true (.object "SweptFloors$Situation") := ⟨zR_F, zT_F, 7, zY_F, rfl, by decide, zi_F, zy_F, zn_F, rfl, rfl, rfl, Or.inl (zgw_p 277 (by decide +kernel) (by decide +kernel))⟩
theorem zfF_F_28 : zflF "SweptFloors" 28 0 2 (.object "SweptFloors$Situation") := ⟨zT_F, 7, zY_F, rfl, by decide, zi_F, zy_F, zn_F, rfl, rfl, rfl, zgw_p 277 (by decide +kernel) (by decide +kernel)⟩
theorem zf_F_32 : zfl "SweptFloors" 32 0 3 true (.object "SweptFloors$Situation") := ⟨zR_F, zT_F, 7, zY_F, rfl, by decide, zi_F, zy_F, zn_F, rfl, rfl, rfl, Or.inl (zgw_p 278 (by decide +kernel) (by decide +kernel))⟩
theorem zfF_F_32 : zflF "SweptFloors" 32 0 3 (.object "SweptFloors$Situation") := ⟨zT_F, 7, zY_F, rfl, by decide, zi_F, zy_F, zn_F, rfl, rfl, rfl, zgw_p 278 (by decide +kernel) (by decide +kernel)⟩
theorem zf_F_38 : zfl "SweptFloors" 38 0 4 true (.object "SweptFloors$Pilot") := ⟨zR_F, zT_F, 7, zY_F, rfl, by decide, zi_F, zy_F, zn_F, rfl, rfl, rfl, Or.inl (zgw_p 279 (by decide +kernel) (by decide +kernel))⟩
theorem zfF_F_38 : zflF "SweptFloors" 38 0 4 (.object "SweptFloors$Pilot") := ⟨zT_F, 7, zY_F, rfl, by decide, zi_F, zy_F, zn_F, rfl, rfl, rfl, zgw_p 279 (by decide +kernel) (by decide +kernel)⟩
theorem zf_F_45 : zfl "SweptFloors" 45 0 5 true (.object "SweptFloors$History") := ⟨zR_F, zT_F, 7, zY_F, rfl, by decide, zi_F, zy_F, zn_F, rfl, rfl, rfl, Or.inl (zgw_p 280 (by decide +kernel) (by decide +kernel))⟩
theorem zfF_F_45 : zflF "SweptFloors" 45 0 5 (.object "SweptFloors$History") := ⟨zT_F, 7, zY_F, rfl, by decide, zi_F, zy_F, zn_F, rfl, rfl, rfl, zgw_p 280 (by decide +kernel) (by decide +kernel)⟩
theorem zf_F_52 : zfl "SweptFloors" 52 0 6 true (.object "SweptFloors$Album") := ⟨zR_F, zT_F, 7, zY_F, rfl, by decide, zi_F, zy_F, zn_F, rfl, rfl, rfl, Or.inl (zgw_p 281 (by decide +kernel) (by decide +kernel))⟩
theorem zfF_F_52 : zflF "SweptFloors" 52 0 6 (.object "SweptFloors$Album") := ⟨zT_F, 7, zY_F, rfl, by decide, zi_F, zy_F, zn_F, rfl, rfl, rfl, zgw_p 281 (by decide +kernel) (by decide +kernel)⟩
theorem zf_M_7 : zfl "SweptFloorsModel" 7 7 0 false .int := ⟨zR_M, zT_M, 25, zY_M, rfl, by decide, zi_M, zy_M, zn_M, rfl, rfl, rfl, Or.inl (zgw_p 611 (by decide +kernel) (by decide +kernel))⟩
theorem zf_M_13 : zfl "SweptFloorsModel" 13 7 1 false .int := ⟨zR_M, zT_M, 25, zY_M, rfl, by decide, zi_M, zy_M, zn_M, rfl, rfl, rfl, Or.inl (zgw_p 612 (by decide +kernel) (by decide +kernel))⟩
theorem zf_M_61 : zfl "SweptFloorsModel" 61 7 2 false .int := ⟨zR_M, zT_M, 25, zY_M, rfl, by decide, zi_M, zy_M, zn_M, rfl, rfl, rfl, Or.inl (zgw_p 613 (by decide +kernel) (by decide +kernel))⟩
theorem zf_M_16 : zfl "SweptFloorsModel" 16 7 3 true (.array (.int)) := ⟨zR_M, zT_M, 25, zY_M, rfl, by decide, zi_M, zy_M, zn_M, rfl, rfl, rfl, Or.inl (zgw_p 614 (by decide +kernel) (by decide +kernel))⟩
theorem zfF_M_16 : zflF "SweptFloorsModel" 16 7 3 (.array (.int)) := ⟨zT_M, 25, zY_M, rfl, by decide, zi_M, zy_M, zn_M, rfl, rfl, rfl, zgw_p 614 (by decide +kernel) (by decide +kernel)⟩
theorem zf_M_64 : zfl "SweptFloorsModel" 64 7 4 false .int := ⟨zR_M, zT_M, 25, zY_M, rfl, by decide, zi_M, zy_M, zn_M, rfl, rfl, rfl, Or.inl (zgw_p 615 (by decide +kernel) (by decide +kernel))⟩
theorem zf_M_20 : zfl "SweptFloorsModel" 20 7 5 true (.array (.int)) := ⟨zR_M, zT_M, 25, zY_M, rfl, by decide, zi_M, zy_M, zn_M, rfl, rfl, rfl, Or.inl (zgw_p 616 (by decide +kernel) (by decide +kernel))⟩
theorem zfF_M_20 : zflF "SweptFloorsModel" 20 7 5 (.array (.int)) := ⟨zT_M, 25, zY_M, rfl, by decide, zi_M, zy_M, zn_M, rfl, rfl, rfl, zgw_p 616 (by decide +kernel) (by decide +kernel)⟩
theorem zf_M_23 : zfl "SweptFloorsModel" 23 7 6 true (.array (.boolean)) := ⟨zR_M, zT_M, 25, zY_M, rfl, by decide, zi_M, zy_M, zn_M, rfl, rfl, rfl, Or.inl (zgw_p 617 (by decide +kernel) (by decide +kernel))⟩
theorem zfF_M_23 : zflF "SweptFloorsModel" 23 7 6 (.array (.boolean)) := ⟨zT_M, 25, zY_M, rfl, by decide, zi_M, zy_M, zn_M, rfl, rfl, rfl, zgw_p 617 (by decide +kernel) (by decide +kernel)⟩
theorem zf_M_27 : zfl "SweptFloorsModel" 27 7 7 true (.array (.int)) := ⟨zR_M, zT_M, 25, zY_M, rfl, by decide, zi_M, zy_M, zn_M, rfl, rfl, rfl, Or.inl (zgw_p 618 (by decide +kernel) (by decide +kernel))⟩
theorem zfF_M_27 : zflF "SweptFloorsModel" 27 7 7 (.array (.int)) := ⟨zT_M, 25, zY_M, rfl, by decide, zi_M, zy_M, zn_M, rfl, rfl, rfl, zgw_p 618 (by decide +kernel) (by decide +kernel)⟩
theorem zf_M_30 : zfl "SweptFloorsModel" 30 7 8 true (.array (.int)) := ⟨zR_M, zT_M, 25, zY_M, rfl, by decide, zi_M, zy_M, zn_M, rfl, rfl, rfl, Or.inl (zgw_p 619 (by decide +kernel) (by decide +kernel))⟩
theorem zfF_M_30 : zflF "SweptFloorsModel" 30 7 8 (.array (.int)) := ⟨zT_M, 25, zY_M, rfl, by decide, zi_M, zy_M, zn_M, rfl, rfl, rfl, zgw_p 619 (by decide +kernel) (by decide +kernel)⟩
theorem zf_M_71 : zfl "SweptFloorsModel" 71 7 9 false .int := ⟨zR_M, zT_M, 25, zY_M, rfl, by decide, zi_M, zy_M, zn_M, rfl, rfl, rfl, Or.inl (zgw_p 620 (by decide +kernel) (by decide +kernel))⟩
theorem zf_M_33 : zfl "SweptFloorsModel" 33 7 10 true (.array (.int)) := ⟨zR_M, zT_M, 25, zY_M, rfl, by decide, zi_M, zy_M, zn_M, rfl, rfl, rfl, Or.inl (zgw_p 621 (by decide +kernel) (by decide +kernel))⟩
theorem zfF_M_33 : zflF "SweptFloorsModel" 33 7 10 (.array (.int)) := ⟨zT_M, 25, zY_M, rfl, by decide, zi_M, zy_M, zn_M, rfl, rfl, rfl, zgw_p 621 (by decide +kernel) (by decide +kernel)⟩
theorem zf_M_36 : zfl "SweptFloorsModel" 36 7 11 true (.array (.int)) := ⟨zR_M, zT_M, 25, zY_M, rfl, by decide, zi_M, zy_M, zn_M, rfl, rfl, rfl, Or.inl (zgw_p 622 (by decide +kernel) (by decide +kernel))⟩
theorem zfF_M_36 : zflF "SweptFloorsModel" 36 7 11 (.array (.int)) := ⟨zT_M, 25, zY_M, rfl, by decide, zi_M, zy_M, zn_M, rfl, rfl, rfl, zgw_p 622 (by decide +kernel) (by decide +kernel)⟩
theorem zf_M_77 : zfl "SweptFloorsModel" 77 7 12 false .int := ⟨zR_M, zT_M, 25, zY_M, rfl, by decide, zi_M, zy_M, zn_M, rfl, rfl, rfl, Or.inl (zgw_p 623 (by decide +kernel) (by decide +kernel))⟩
theorem zf_M_80 : zfl "SweptFloorsModel" 80 7 13 false .int := ⟨zR_M, zT_M, 25, zY_M, rfl, by decide, zi_M, zy_M, zn_M, rfl, rfl, rfl, Or.inl (zgw_p 624 (by decide +kernel) (by decide +kernel))⟩
theorem zf_M_74 : zfl "SweptFloorsModel" 74 7 14 false .int := ⟨zR_M, zT_M, 25, zY_M, rfl, by decide, zi_M, zy_M, zn_M, rfl, rfl, rfl, Or.inl (zgw_p 625 (by decide +kernel) (by decide +kernel))⟩
theorem zf_M_87 : zfl "SweptFloorsModel" 87 7 15 false .int := ⟨zR_M, zT_M, 25, zY_M, rfl, by decide, zi_M, zy_M, zn_M, rfl, rfl, rfl, Or.inl (zgw_p 626 (by decide +kernel) (by decide +kernel))⟩
theorem zf_M_39 : zfl "SweptFloorsModel" 39 7 16 true (.array (.int)) := ⟨zR_M, zT_M, 25, zY_M, rfl, by decide, zi_M, zy_M, zn_M, rfl, rfl, rfl, Or.inl (zgw_p 627 (by decide +kernel) (by decide +kernel))⟩
theorem zfF_M_39 : zflF "SweptFloorsModel" 39 7 16 (.array (.int)) := ⟨zT_M, 25, zY_M, rfl, by decide, zi_M, zy_M, zn_M, rfl, rfl, rfl, zgw_p 627 (by decide +kernel) (by decide +kernel)⟩
theorem zf_M_42 : zfl "SweptFloorsModel" 42 7 17 true (.array (.int)) := ⟨zR_M, zT_M, 25, zY_M, rfl, by decide, zi_M, zy_M, zn_M, rfl, rfl, rfl, Or.inl (zgw_p 628 (by decide +kernel) (by decide +kernel))⟩
theorem zfF_M_42 : zflF "SweptFloorsModel" 42 7 17 (.array (.int)) := ⟨zT_M, 25, zY_M, rfl, by decide, zi_M, zy_M, zn_M, rfl, rfl, rfl, zgw_p 628 (by decide +kernel) (by decide +kernel)⟩
theorem zf_M_45 : zfl "SweptFloorsModel" 45 7 18 true (.array (.int)) := ⟨zR_M, zT_M, 25, zY_M, rfl, by decide, zi_M, zy_M, zn_M, rfl, rfl, rfl, Or.inl (zgw_p 629 (by decide +kernel) (by decide +kernel))⟩
theorem zfF_M_45 : zflF "SweptFloorsModel" 45 7 18 (.array (.int)) := ⟨zT_M, 25, zY_M, rfl, by decide, zi_M, zy_M, zn_M, rfl, rfl, rfl, zgw_p 629 (by decide +kernel) (by decide +kernel)⟩
theorem zf_M_48 : zfl "SweptFloorsModel" 48 7 19 true (.array (.int)) := ⟨zR_M, zT_M, 25, zY_M, rfl, by decide, zi_M, zy_M, zn_M, rfl, rfl, rfl, Or.inl (zgw_p 630 (by decide +kernel) (by decide +kernel))⟩
theorem zfF_M_48 : zflF "SweptFloorsModel" 48 7 19 (.array (.int)) := ⟨zT_M, 25, zY_M, rfl, by decide, zi_M, zy_M, zn_M, rfl, rfl, rfl, zgw_p 630 (by decide +kernel) (by decide +kernel)⟩
theorem zf_M_143 : zfl "SweptFloorsModel" 143 7 20 false .int := ⟨zR_M, zT_M, 25, zY_M, rfl, by decide, zi_M, zy_M, zn_M, rfl, rfl, rfl, Or.inl (zgw_p 631 (by decide +kernel) (by decide +kernel))⟩
theorem zf_M_152 : zfl "SweptFloorsModel" 152 7 21 false .int := ⟨zR_M, zT_M, 25, zY_M, rfl, by decide, zi_M, zy_M, zn_M, rfl, rfl, rfl, Or.inl (zgw_p 632 (by decide +kernel) (by decide +kernel))⟩
theorem zf_M_149 : zfl "SweptFloorsModel" 149 7 22 false .int := ⟨zR_M, zT_M, 25, zY_M, rfl, by decide, zi_M, zy_M, zn_M, rfl, rfl, rfl, Or.inl (zgw_p 633 (by decide +kernel) (by decide +kernel))⟩
theorem zf_M_155 : zfl "SweptFloorsModel" 155 7 23 false .int := ⟨zR_M, zT_M, 25, zY_M, rfl, by decide, zi_M, zy_M, zn_M, rfl, rfl, rfl, Or.inl (zgw_p 634 (by decide +kernel) (by decide +kernel))⟩
theorem zf_M_51 : zfl "SweptFloorsModel" 51 7 24 true (.array (.int)) := ⟨zR_M, zT_M, 25, zY_M, rfl, by decide, zi_M, zy_M, zn_M, rfl, rfl, rfl, Or.inl (zgw_p 635 (by decide +kernel) (by decide +kernel))⟩
theorem zfF_M_51 : zflF "SweptFloorsModel" 51 7 24 (.array (.int)) := ⟨zT_M, 25, zY_M, rfl, by decide, zi_M, zy_M, zn_M, rfl, rfl, rfl, zgw_p 635 (by decide +kernel) (by decide +kernel)⟩
theorem zcK_L_7 : Cond.classLink "SweptFloorsLaw" 7 "SweptFloors" ∈ zgw := zgw_p 12 (by decide +kernel) (by decide +kernel)
theorem zin_F : Cond.instantiable "SweptFloors" 7 ∈ zgw := zgw_p 13 (by decide +kernel) (by decide +kernel)
theorem zii_F : Cond.initialized "SweptFloors" ∈ zgw := zgw_p 1 (by decide +kernel) (by decide +kernel)
theorem zcK_F_9 : Cond.classLink "SweptFloors" 9 "SweptFloors$Text" ∈ zgw := zgw_p 20 (by decide +kernel) (by decide +kernel)
theorem zin_T : Cond.instantiable "SweptFloors$Text" 8 ∈ zgw := zgw_p 21 (by decide +kernel) (by decide +kernel)
theorem zii_T : Cond.initialized "SweptFloors$Text" ∈ zgw := zgw_p 2 (by decide +kernel) (by decide +kernel)
theorem zcK_F_16 : Cond.classLink "SweptFloors" 16 "SweptFloors$Ground" ∈ zgw := zgw_p 58 (by decide +kernel) (by decide +kernel)
theorem zin_G : Cond.instantiable "SweptFloors$Ground" 10 ∈ zgw := zgw_p 59 (by decide +kernel) (by decide +kernel)
theorem zii_G : Cond.initialized "SweptFloors$Ground" ∈ zgw := zgw_p 3 (by decide +kernel) (by decide +kernel)
theorem zcK_F_23 : Cond.classLink "SweptFloors" 23 "SweptFloors$Situation" ∈ zgw := zgw_p 109 (by decide +kernel) (by decide +kernel)
theorem zin_S : Cond.instantiable "SweptFloors$Situation" 11 ∈ zgw := zgw_p 110 (by decide +kernel) (by decide +kernel)
theorem zii_S : Cond.initialized "SweptFloors$Situation" ∈ zgw := zgw_p 4 (by decide +kernel) (by decide +kernel)
theorem zcK_F_35 : Cond.classLink "SweptFloors" 35 "SweptFloors$Pilot" ∈ zgw := zgw_p 166 (by decide +kernel) (by decide +kernel)
theorem zin_P : Cond.instantiable "SweptFloors$Pilot" 4 ∈ zgw := zgw_p 167 (by decide +kernel) (by decide +kernel)
theorem zii_P : Cond.initialized "SweptFloors$Pilot" ∈ zgw := zgw_p 5 (by decide +kernel) (by decide +kernel)
theorem zcK_F_42 : Cond.classLink "SweptFloors" 42 "SweptFloors$History" ∈ zgw := zgw_p 189 (by decide +kernel) (by decide +kernel)
theorem zin_H : Cond.instantiable "SweptFloors$History" 3 ∈ zgw := zgw_p 190 (by decide +kernel) (by decide +kernel)
theorem zii_H : Cond.initialized "SweptFloors$History" ∈ zgw := zgw_p 6 (by decide +kernel) (by decide +kernel)
theorem zcK_H_9 : Cond.classLink "SweptFloors$History" 9 "SweptFloors$Situation" ∈ zgw := zgw_p 195 (by decide +kernel) (by decide +kernel)
theorem zcK_F_49 : Cond.classLink "SweptFloors" 49 "SweptFloors$Album" ∈ zgw := zgw_p 209 (by decide +kernel) (by decide +kernel)
theorem zin_A : Cond.instantiable "SweptFloors$Album" 2 ∈ zgw := zgw_p 210 (by decide +kernel) (by decide +kernel)
theorem zii_A : Cond.initialized "SweptFloors$Album" ∈ zgw := zgw_p 7 (by decide +kernel) (by decide +kernel)
theorem zcK_A_9 : Cond.classLink "SweptFloors$Album" 9 "SweptFloors$Situation" ∈ zgw := zgw_p 215 (by decide +kernel) (by decide +kernel)
theorem zcl_G_67 : Cond.constantLong "SweptFloors$Ground" 67 (-1) ∈ zgw := zgw_p 366 (by decide +kernel) (by decide +kernel)
theorem zcl_J_314 : Cond.constantLong "java/lang/Long" 314 (6148914691236517205) ∈ zgw := zgw_p 373 (by decide +kernel) (by decide +kernel)
theorem zcl_J_316 : Cond.constantLong "java/lang/Long" 316 (3689348814741910323) ∈ zgw := zgw_p 374 (by decide +kernel) (by decide +kernel)
theorem zcl_J_318 : Cond.constantLong "java/lang/Long" 318 (1085102592571150095) ∈ zgw := zgw_p 375 (by decide +kernel) (by decide +kernel)
theorem zcl_S_70 : Cond.constantLong "SweptFloors$Situation" 70 (-1) ∈ zgw := zgw_p 384 (by decide +kernel) (by decide +kernel)
theorem zcl_P_83 : Cond.constantLong "SweptFloors$Pilot" 83 (-1) ∈ zgw := zgw_p 472 (by decide +kernel) (by decide +kernel)
theorem zcl_F_192 : Cond.constantLong "SweptFloors" 192 (-1) ∈ zgw := zgw_p 545 (by decide +kernel) (by decide +kernel)
theorem zcK_L_10 : Cond.classLink "SweptFloorsLaw" 10 "SweptFloorsModel" ∈ zgw := zgw_p 597 (by decide +kernel) (by decide +kernel)
theorem zin_M : Cond.instantiable "SweptFloorsModel" 25 ∈ zgw := zgw_p 598 (by decide +kernel) (by decide +kernel)
theorem zii_M : Cond.initialized "SweptFloorsModel" ∈ zgw := zgw_p 8 (by decide +kernel) (by decide +kernel)
end
section
theorem dA_init_0 : decode mA_init.2.1 0 = .ok (.aload_n 0, 1) := by decide +kernel
theorem dA_init_1 : decode mA_init.2.1 1 = .ok (.invokespecial 3, 3) := by decide +kernel
theorem dA_init_4 : decode mA_init.2.1 4 = .ok (.aload_n 0, 1) := by decide +kernel
theorem dA_init_5 : decode mA_init.2.1 5 = .ok (.iconst 2, 1) := by decide +kernel
theorem dA_init_6 : decode mA_init.2.1 6 = .ok (.anewarray 9, 3) := by decide +kernel
theorem dA_init_9 : decode mA_init.2.1 9 = .ok (.putfield 11, 3) := by decide +kernel
theorem dA_init_12 : decode mA_init.2.1 12 = .ok (.aload_n 0, 1) := by decide +kernel
theorem dA_init_13 : decode mA_init.2.1 13 = .ok (.iconst 2, 1) := by decide +kernel
theorem dA_init_14 : decode mA_init.2.1 14 = .ok (.newarray .boolean, 2) := by decide +kernel
theorem dA_init_16 : decode mA_init.2.1 16 = .ok (.putfield 17, 3) := by decide +kernel
theorem dA_init_19 : decode mA_init.2.1 19 = .ok (.iconst 0, 1) := by decide +kernel
theorem dA_init_20 : decode mA_init.2.1 20 = .ok (.istore_n 2, 1) := by decide +kernel
theorem dA_init_21 : decode mA_init.2.1 21 = .ok (.iload_n 2, 1) := by decide +kernel
theorem dA_init_22 : decode mA_init.2.1 22 = .ok (.iconst 2, 1) := by decide +kernel
theorem dA_init_23 : decode mA_init.2.1 23 = .ok (.if_icmp .ge 23, 3) := by decide +kernel
theorem dA_init_26 : decode mA_init.2.1 26 = .ok (.aload_n 0, 1) := by decide +kernel
theorem dA_init_27 : decode mA_init.2.1 27 = .ok (.getfield 11, 3) := by decide +kernel
theorem dA_init_30 : decode mA_init.2.1 30 = .ok (.iload_n 2, 1) := by decide +kernel
theorem dA_init_31 : decode mA_init.2.1 31 = .ok (.new 9, 3) := by decide +kernel
theorem dA_init_34 : decode mA_init.2.1 34 = .ok (.dup, 1) := by decide +kernel
theorem dA_init_35 : decode mA_init.2.1 35 = .ok (.aload_n 1, 1) := by decide +kernel
theorem dA_init_36 : decode mA_init.2.1 36 = .ok (.invokespecial 21, 3) := by decide +kernel
theorem dA_init_39 : decode mA_init.2.1 39 = .ok (.aastore, 1) := by decide +kernel
theorem dA_init_40 : decode mA_init.2.1 40 = .ok (.iinc 2 1, 3) := by decide +kernel
theorem dA_init_43 : decode mA_init.2.1 43 = .ok (.goto (-22), 3) := by decide +kernel
theorem dA_init_46 : decode mA_init.2.1 46 = .ok (.return_, 1) := by decide +kernel
theorem dA_empty_0 : decode mA_empty.2.1 0 = .ok (.iconst 0, 1) := by decide +kernel
theorem dA_empty_1 : decode mA_empty.2.1 1 = .ok (.istore_n 1, 1) := by decide +kernel
theorem dA_empty_2 : decode mA_empty.2.1 2 = .ok (.iload_n 1, 1) := by decide +kernel
theorem dA_empty_3 : decode mA_empty.2.1 3 = .ok (.iconst 2, 1) := by decide +kernel
theorem dA_empty_4 : decode mA_empty.2.1 4 = .ok (.if_icmp .ge 16, 3) := by decide +kernel
theorem dA_empty_7 : decode mA_empty.2.1 7 = .ok (.aload_n 0, 1) := by decide +kernel
theorem dA_empty_8 : decode mA_empty.2.1 8 = .ok (.getfield 17, 3) := by decide +kernel
theorem dA_empty_11 : decode mA_empty.2.1 11 = .ok (.iload_n 1, 1) := by decide +kernel
theorem dA_empty_12 : decode mA_empty.2.1 12 = .ok (.iconst 0, 1) := by decide +kernel
theorem dA_empty_13 : decode mA_empty.2.1 13 = .ok (.bastore, 1) := by decide +kernel
theorem dA_empty_14 : decode mA_empty.2.1 14 = .ok (.iinc 1 1, 3) := by decide +kernel
theorem dA_empty_17 : decode mA_empty.2.1 17 = .ok (.goto (-15), 3) := by decide +kernel
theorem dA_empty_20 : decode mA_empty.2.1 20 = .ok (.return_, 1) := by decide +kernel
theorem dA_putIn_0 : decode mA_putIn.2.1 0 = .ok (.iload_n 1, 1) := by decide +kernel
theorem dA_putIn_1 : decode mA_putIn.2.1 1 = .ok (.ifCond .lt 17, 3) := by decide +kernel
theorem dA_putIn_4 : decode mA_putIn.2.1 4 = .ok (.iload_n 1, 1) := by decide +kernel
theorem dA_putIn_5 : decode mA_putIn.2.1 5 = .ok (.iconst 2, 1) := by decide +kernel
theorem dA_putIn_6 : decode mA_putIn.2.1 6 = .ok (.if_icmp .ge 12, 3) := by decide +kernel
theorem dA_putIn_9 : decode mA_putIn.2.1 9 = .ok (.aload_n 0, 1) := by decide +kernel
theorem dA_putIn_10 : decode mA_putIn.2.1 10 = .ok (.getfield 11, 3) := by decide +kernel
theorem dA_putIn_13 : decode mA_putIn.2.1 13 = .ok (.iload_n 1, 1) := by decide +kernel
theorem dA_putIn_14 : decode mA_putIn.2.1 14 = .ok (.aaload, 1) := by decide +kernel
theorem dA_putIn_15 : decode mA_putIn.2.1 15 = .ok (.goto 4, 3) := by decide +kernel
theorem dA_putIn_18 : decode mA_putIn.2.1 18 = .ok (.aconst_null, 1) := by decide +kernel
theorem dA_putIn_19 : decode mA_putIn.2.1 19 = .ok (.astore_n 3, 1) := by decide +kernel
theorem dA_putIn_20 : decode mA_putIn.2.1 20 = .ok (.aload_n 3, 1) := by decide +kernel
theorem dA_putIn_21 : decode mA_putIn.2.1 21 = .ok (.ifnull 15, 3) := by decide +kernel
theorem dA_putIn_24 : decode mA_putIn.2.1 24 = .ok (.aload_n 3, 1) := by decide +kernel
theorem dA_putIn_25 : decode mA_putIn.2.1 25 = .ok (.aload_n 2, 1) := by decide +kernel
theorem dA_putIn_26 : decode mA_putIn.2.1 26 = .ok (.invokevirtual 24, 3) := by decide +kernel
theorem dA_putIn_29 : decode mA_putIn.2.1 29 = .ok (.aload_n 0, 1) := by decide +kernel
theorem dA_putIn_30 : decode mA_putIn.2.1 30 = .ok (.getfield 17, 3) := by decide +kernel
theorem dA_putIn_33 : decode mA_putIn.2.1 33 = .ok (.iload_n 1, 1) := by decide +kernel
theorem dA_putIn_34 : decode mA_putIn.2.1 34 = .ok (.iconst 1, 1) := by decide +kernel
theorem dA_putIn_35 : decode mA_putIn.2.1 35 = .ok (.bastore, 1) := by decide +kernel
theorem dA_putIn_36 : decode mA_putIn.2.1 36 = .ok (.return_, 1) := by decide +kernel
theorem dA_takeOut_0 : decode mA_takeOut.2.1 0 = .ok (.iload_n 1, 1) := by decide +kernel
theorem dA_takeOut_1 : decode mA_takeOut.2.1 1 = .ok (.ifCond .lt 17, 3) := by decide +kernel
theorem dA_takeOut_4 : decode mA_takeOut.2.1 4 = .ok (.iload_n 1, 1) := by decide +kernel
theorem dA_takeOut_5 : decode mA_takeOut.2.1 5 = .ok (.iconst 2, 1) := by decide +kernel
theorem dA_takeOut_6 : decode mA_takeOut.2.1 6 = .ok (.if_icmp .ge 12, 3) := by decide +kernel
theorem dA_takeOut_9 : decode mA_takeOut.2.1 9 = .ok (.aload_n 0, 1) := by decide +kernel
theorem dA_takeOut_10 : decode mA_takeOut.2.1 10 = .ok (.getfield 11, 3) := by decide +kernel
theorem dA_takeOut_13 : decode mA_takeOut.2.1 13 = .ok (.iload_n 1, 1) := by decide +kernel
theorem dA_takeOut_14 : decode mA_takeOut.2.1 14 = .ok (.aaload, 1) := by decide +kernel
theorem dA_takeOut_15 : decode mA_takeOut.2.1 15 = .ok (.goto 4, 3) := by decide +kernel
theorem dA_takeOut_18 : decode mA_takeOut.2.1 18 = .ok (.aconst_null, 1) := by decide +kernel
theorem dA_takeOut_19 : decode mA_takeOut.2.1 19 = .ok (.astore_n 3, 1) := by decide +kernel
theorem dA_takeOut_20 : decode mA_takeOut.2.1 20 = .ok (.aload_n 3, 1) := by decide +kernel
theorem dA_takeOut_21 : decode mA_takeOut.2.1 21 = .ok (.ifnull 12, 3) := by decide +kernel
theorem dA_takeOut_24 : decode mA_takeOut.2.1 24 = .ok (.aload_n 0, 1) := by decide +kernel
theorem dA_takeOut_25 : decode mA_takeOut.2.1 25 = .ok (.getfield 17, 3) := by decide +kernel
theorem dA_takeOut_28 : decode mA_takeOut.2.1 28 = .ok (.iload_n 1, 1) := by decide +kernel
theorem dA_takeOut_29 : decode mA_takeOut.2.1 29 = .ok (.baload, 1) := by decide +kernel
theorem dA_takeOut_30 : decode mA_takeOut.2.1 30 = .ok (.ifCond .ne 5, 3) := by decide +kernel
theorem dA_takeOut_33 : decode mA_takeOut.2.1 33 = .ok (.iconst 0, 1) := by decide +kernel
theorem dA_takeOut_34 : decode mA_takeOut.2.1 34 = .ok (.ireturn, 1) := by decide +kernel
theorem dA_takeOut_35 : decode mA_takeOut.2.1 35 = .ok (.aload_n 2, 1) := by decide +kernel
theorem dA_takeOut_36 : decode mA_takeOut.2.1 36 = .ok (.aload_n 3, 1) := by decide +kernel
theorem dA_takeOut_37 : decode mA_takeOut.2.1 37 = .ok (.invokevirtual 24, 3) := by decide +kernel
theorem dA_takeOut_40 : decode mA_takeOut.2.1 40 = .ok (.iconst 1, 1) := by decide +kernel
theorem dA_takeOut_41 : decode mA_takeOut.2.1 41 = .ok (.ireturn, 1) := by decide +kernel
theorem dG_init_0 : decode mG_init.2.1 0 = .ok (.aload_n 0, 1) := by decide +kernel
theorem dG_init_1 : decode mG_init.2.1 1 = .ok (.invokespecial 3, 3) := by decide +kernel
theorem dG_init_4 : decode mG_init.2.1 4 = .ok (.return_, 1) := by decide +kernel
theorem dG_layOut_0 : decode mG_layOut.2.1 0 = .ok (.aload_n 0, 1) := by decide +kernel
theorem dG_layOut_1 : decode mG_layOut.2.1 1 = .ok (.aload_n 1, 1) := by decide +kernel
theorem dG_layOut_2 : decode mG_layOut.2.1 2 = .ok (.getfield 9, 3) := by decide +kernel
theorem dG_layOut_5 : decode mG_layOut.2.1 5 = .ok (.putfield 15, 3) := by decide +kernel
theorem dG_layOut_8 : decode mG_layOut.2.1 8 = .ok (.aload_n 0, 1) := by decide +kernel
theorem dG_layOut_9 : decode mG_layOut.2.1 9 = .ok (.aload_n 1, 1) := by decide +kernel
theorem dG_layOut_10 : decode mG_layOut.2.1 10 = .ok (.getfield 18, 3) := by decide +kernel
theorem dG_layOut_13 : decode mG_layOut.2.1 13 = .ok (.putfield 21, 3) := by decide +kernel
theorem dG_layOut_16 : decode mG_layOut.2.1 16 = .ok (.aload_n 0, 1) := by decide +kernel
theorem dG_layOut_17 : decode mG_layOut.2.1 17 = .ok (.aload_n 1, 1) := by decide +kernel
theorem dG_layOut_18 : decode mG_layOut.2.1 18 = .ok (.getfield 22, 3) := by decide +kernel
theorem dG_layOut_21 : decode mG_layOut.2.1 21 = .ok (.putfield 25, 3) := by decide +kernel
theorem dG_layOut_24 : decode mG_layOut.2.1 24 = .ok (.aload_n 0, 1) := by decide +kernel
theorem dG_layOut_25 : decode mG_layOut.2.1 25 = .ok (.lconst 1, 1) := by decide +kernel
theorem dG_layOut_26 : decode mG_layOut.2.1 26 = .ok (.aload_n 0, 1) := by decide +kernel
theorem dG_layOut_27 : decode mG_layOut.2.1 27 = .ok (.invokevirtual 26, 3) := by decide +kernel
theorem dG_layOut_30 : decode mG_layOut.2.1 30 = .ok (.lshl, 1) := by decide +kernel
theorem dG_layOut_31 : decode mG_layOut.2.1 31 = .ok (.lconst 1, 1) := by decide +kernel
theorem dG_layOut_32 : decode mG_layOut.2.1 32 = .ok (.lsub, 1) := by decide +kernel
theorem dG_layOut_33 : decode mG_layOut.2.1 33 = .ok (.putfield 30, 3) := by decide +kernel
theorem dG_layOut_36 : decode mG_layOut.2.1 36 = .ok (.aload_n 0, 1) := by decide +kernel
theorem dG_layOut_37 : decode mG_layOut.2.1 37 = .ok (.aload_n 1, 1) := by decide +kernel
theorem dG_layOut_38 : decode mG_layOut.2.1 38 = .ok (.iconst 0, 1) := by decide +kernel
theorem dG_layOut_39 : decode mG_layOut.2.1 39 = .ok (.invokestatic 34, 3) := by decide +kernel
theorem dG_layOut_42 : decode mG_layOut.2.1 42 = .ok (.putfield 38, 3) := by decide +kernel
theorem dG_layOut_45 : decode mG_layOut.2.1 45 = .ok (.aload_n 0, 1) := by decide +kernel
theorem dG_layOut_46 : decode mG_layOut.2.1 46 = .ok (.aload_n 1, 1) := by decide +kernel
theorem dG_layOut_47 : decode mG_layOut.2.1 47 = .ok (.iconst 2, 1) := by decide +kernel
theorem dG_layOut_48 : decode mG_layOut.2.1 48 = .ok (.invokestatic 34, 3) := by decide +kernel
theorem dG_layOut_51 : decode mG_layOut.2.1 51 = .ok (.putfield 41, 3) := by decide +kernel
theorem dG_layOut_54 : decode mG_layOut.2.1 54 = .ok (.aload_n 0, 1) := by decide +kernel
theorem dG_layOut_55 : decode mG_layOut.2.1 55 = .ok (.aload_n 1, 1) := by decide +kernel
theorem dG_layOut_56 : decode mG_layOut.2.1 56 = .ok (.iconst 3, 1) := by decide +kernel
theorem dG_layOut_57 : decode mG_layOut.2.1 57 = .ok (.invokestatic 34, 3) := by decide +kernel
theorem dG_layOut_60 : decode mG_layOut.2.1 60 = .ok (.putfield 44, 3) := by decide +kernel
theorem dG_layOut_63 : decode mG_layOut.2.1 63 = .ok (.aload_n 0, 1) := by decide +kernel
theorem dG_layOut_64 : decode mG_layOut.2.1 64 = .ok (.aload_n 1, 1) := by decide +kernel
theorem dG_layOut_65 : decode mG_layOut.2.1 65 = .ok (.iconst 4, 1) := by decide +kernel
theorem dG_layOut_66 : decode mG_layOut.2.1 66 = .ok (.invokestatic 34, 3) := by decide +kernel
theorem dG_layOut_69 : decode mG_layOut.2.1 69 = .ok (.putfield 47, 3) := by decide +kernel
theorem dG_layOut_72 : decode mG_layOut.2.1 72 = .ok (.aload_n 0, 1) := by decide +kernel
theorem dG_layOut_73 : decode mG_layOut.2.1 73 = .ok (.lconst 0, 1) := by decide +kernel
theorem dG_layOut_74 : decode mG_layOut.2.1 74 = .ok (.putfield 50, 3) := by decide +kernel
theorem dG_layOut_77 : decode mG_layOut.2.1 77 = .ok (.iconst 0, 1) := by decide +kernel
theorem dG_layOut_78 : decode mG_layOut.2.1 78 = .ok (.istore_n 2, 1) := by decide +kernel
theorem dG_layOut_79 : decode mG_layOut.2.1 79 = .ok (.iload_n 2, 1) := by decide +kernel
theorem dG_layOut_80 : decode mG_layOut.2.1 80 = .ok (.aload_n 0, 1) := by decide +kernel
theorem dG_layOut_81 : decode mG_layOut.2.1 81 = .ok (.getfield 21, 3) := by decide +kernel
theorem dG_layOut_84 : decode mG_layOut.2.1 84 = .ok (.if_icmp .ge 27, 3) := by decide +kernel
theorem dG_layOut_87 : decode mG_layOut.2.1 87 = .ok (.aload_n 0, 1) := by decide +kernel
theorem dG_layOut_88 : decode mG_layOut.2.1 88 = .ok (.dup, 1) := by decide +kernel
theorem dG_layOut_89 : decode mG_layOut.2.1 89 = .ok (.getfield 50, 3) := by decide +kernel
theorem dG_layOut_92 : decode mG_layOut.2.1 92 = .ok (.iload_n 2, 1) := by decide +kernel
theorem dG_layOut_93 : decode mG_layOut.2.1 93 = .ok (.aload_n 0, 1) := by decide +kernel
theorem dG_layOut_94 : decode mG_layOut.2.1 94 = .ok (.getfield 15, 3) := by decide +kernel
theorem dG_layOut_97 : decode mG_layOut.2.1 97 = .ok (.imul, 1) := by decide +kernel
theorem dG_layOut_98 : decode mG_layOut.2.1 98 = .ok (.invokestatic 53, 3) := by decide +kernel
theorem dG_layOut_101 : decode mG_layOut.2.1 101 = .ok (.lor, 1) := by decide +kernel
theorem dG_layOut_102 : decode mG_layOut.2.1 102 = .ok (.putfield 50, 3) := by decide +kernel
theorem dG_layOut_105 : decode mG_layOut.2.1 105 = .ok (.iinc 2 1, 3) := by decide +kernel
theorem dG_layOut_108 : decode mG_layOut.2.1 108 = .ok (.goto (-29), 3) := by decide +kernel
theorem dG_layOut_111 : decode mG_layOut.2.1 111 = .ok (.aload_n 0, 1) := by decide +kernel
theorem dG_layOut_112 : decode mG_layOut.2.1 112 = .ok (.aload_n 0, 1) := by decide +kernel
theorem dG_layOut_113 : decode mG_layOut.2.1 113 = .ok (.getfield 50, 3) := by decide +kernel
theorem dG_layOut_116 : decode mG_layOut.2.1 116 = .ok (.aload_n 0, 1) := by decide +kernel
theorem dG_layOut_117 : decode mG_layOut.2.1 117 = .ok (.getfield 15, 3) := by decide +kernel
theorem dG_layOut_120 : decode mG_layOut.2.1 120 = .ok (.iconst 1, 1) := by decide +kernel
theorem dG_layOut_121 : decode mG_layOut.2.1 121 = .ok (.isub, 1) := by decide +kernel
theorem dG_layOut_122 : decode mG_layOut.2.1 122 = .ok (.lshl, 1) := by decide +kernel
theorem dG_layOut_123 : decode mG_layOut.2.1 123 = .ok (.putfield 57, 3) := by decide +kernel
theorem dG_layOut_126 : decode mG_layOut.2.1 126 = .ok (.return_, 1) := by decide +kernel
theorem dG_cellsOfKind_0 : decode mG_cellsOfKind.2.1 0 = .ok (.lconst 0, 1) := by decide +kernel
theorem dG_cellsOfKind_1 : decode mG_cellsOfKind.2.1 1 = .ok (.lstore_n 2, 1) := by decide +kernel
theorem dG_cellsOfKind_2 : decode mG_cellsOfKind.2.1 2 = .ok (.iconst 0, 1) := by decide +kernel
theorem dG_cellsOfKind_3 : decode mG_cellsOfKind.2.1 3 = .ok (.istore 4, 2) := by decide +kernel
theorem dG_cellsOfKind_5 : decode mG_cellsOfKind.2.1 5 = .ok (.iload 4, 2) := by decide +kernel
theorem dG_cellsOfKind_7 : decode mG_cellsOfKind.2.1 7 = .ok (.aload_n 0, 1) := by decide +kernel
theorem dG_cellsOfKind_8 : decode mG_cellsOfKind.2.1 8 = .ok (.getfield 60, 3) := by decide +kernel
theorem dG_cellsOfKind_11 : decode mG_cellsOfKind.2.1 11 = .ok (.if_icmp .ge 35, 3) := by decide +kernel
theorem dG_cellsOfKind_14 : decode mG_cellsOfKind.2.1 14 = .ok (.iload 4, 2) := by decide +kernel
theorem dG_cellsOfKind_16 : decode mG_cellsOfKind.2.1 16 = .ok (.bipush 36, 2) := by decide +kernel
theorem dG_cellsOfKind_18 : decode mG_cellsOfKind.2.1 18 = .ok (.if_icmp .ge 28, 3) := by decide +kernel
theorem dG_cellsOfKind_21 : decode mG_cellsOfKind.2.1 21 = .ok (.aload_n 0, 1) := by decide +kernel
theorem dG_cellsOfKind_22 : decode mG_cellsOfKind.2.1 22 = .ok (.getfield 63, 3) := by decide +kernel
theorem dG_cellsOfKind_25 : decode mG_cellsOfKind.2.1 25 = .ok (.iload 4, 2) := by decide +kernel
theorem dG_cellsOfKind_27 : decode mG_cellsOfKind.2.1 27 = .ok (.iaload, 1) := by decide +kernel
theorem dG_cellsOfKind_28 : decode mG_cellsOfKind.2.1 28 = .ok (.iload_n 1, 1) := by decide +kernel
theorem dG_cellsOfKind_29 : decode mG_cellsOfKind.2.1 29 = .ok (.if_icmp .ne 11, 3) := by decide +kernel
theorem dG_cellsOfKind_32 : decode mG_cellsOfKind.2.1 32 = .ok (.lload_n 2, 1) := by decide +kernel
theorem dG_cellsOfKind_33 : decode mG_cellsOfKind.2.1 33 = .ok (.iload 4, 2) := by decide +kernel
theorem dG_cellsOfKind_35 : decode mG_cellsOfKind.2.1 35 = .ok (.invokestatic 53, 3) := by decide +kernel
theorem dG_cellsOfKind_38 : decode mG_cellsOfKind.2.1 38 = .ok (.lor, 1) := by decide +kernel
theorem dG_cellsOfKind_39 : decode mG_cellsOfKind.2.1 39 = .ok (.lstore_n 2, 1) := by decide +kernel
theorem dG_cellsOfKind_40 : decode mG_cellsOfKind.2.1 40 = .ok (.iinc 4 1, 3) := by decide +kernel
theorem dG_cellsOfKind_43 : decode mG_cellsOfKind.2.1 43 = .ok (.goto (-38), 3) := by decide +kernel
theorem dG_cellsOfKind_46 : decode mG_cellsOfKind.2.1 46 = .ok (.lload_n 2, 1) := by decide +kernel
theorem dG_cellsOfKind_47 : decode mG_cellsOfKind.2.1 47 = .ok (.lreturn, 1) := by decide +kernel
theorem dG_size_0 : decode mG_size.2.1 0 = .ok (.aload_n 0, 1) := by decide +kernel
theorem dG_size_1 : decode mG_size.2.1 1 = .ok (.getfield 15, 3) := by decide +kernel
theorem dG_size_4 : decode mG_size.2.1 4 = .ok (.aload_n 0, 1) := by decide +kernel
theorem dG_size_5 : decode mG_size.2.1 5 = .ok (.getfield 21, 3) := by decide +kernel
theorem dG_size_8 : decode mG_size.2.1 8 = .ok (.imul, 1) := by decide +kernel
theorem dG_size_9 : decode mG_size.2.1 9 = .ok (.ireturn, 1) := by decide +kernel
theorem dG_has_0 : decode mG_has.2.1 0 = .ok (.iload_n 1, 1) := by decide +kernel
theorem dG_has_1 : decode mG_has.2.1 1 = .ok (.ifCond .lt 15, 3) := by decide +kernel
theorem dG_has_4 : decode mG_has.2.1 4 = .ok (.iload_n 1, 1) := by decide +kernel
theorem dG_has_5 : decode mG_has.2.1 5 = .ok (.aload_n 0, 1) := by decide +kernel
theorem dG_has_6 : decode mG_has.2.1 6 = .ok (.invokevirtual 26, 3) := by decide +kernel
theorem dG_has_9 : decode mG_has.2.1 9 = .ok (.if_icmp .ge 7, 3) := by decide +kernel
theorem dG_has_12 : decode mG_has.2.1 12 = .ok (.iconst 1, 1) := by decide +kernel
theorem dG_has_13 : decode mG_has.2.1 13 = .ok (.goto 4, 3) := by decide +kernel
theorem dG_has_16 : decode mG_has.2.1 16 = .ok (.iconst 0, 1) := by decide +kernel
theorem dG_has_17 : decode mG_has.2.1 17 = .ok (.ireturn, 1) := by decide +kernel
theorem dG_beside_0 : decode mG_beside.2.1 0 = .ok (.iload_n 3, 1) := by decide +kernel
theorem dG_beside_1 : decode mG_beside.2.1 1 = .ok (.tableswitch 59 0 2 #[27, 34, 47], 27) := by decide +kernel
theorem dG_beside_28 : decode mG_beside.2.1 28 = .ok (.lload_n 1, 1) := by decide +kernel
theorem dG_beside_29 : decode mG_beside.2.1 29 = .ok (.aload_n 0, 1) := by decide +kernel
theorem dG_beside_30 : decode mG_beside.2.1 30 = .ok (.getfield 15, 3) := by decide +kernel
theorem dG_beside_33 : decode mG_beside.2.1 33 = .ok (.lushr, 1) := by decide +kernel
theorem dG_beside_34 : decode mG_beside.2.1 34 = .ok (.lreturn, 1) := by decide +kernel
theorem dG_beside_35 : decode mG_beside.2.1 35 = .ok (.lload_n 1, 1) := by decide +kernel
theorem dG_beside_36 : decode mG_beside.2.1 36 = .ok (.aload_n 0, 1) := by decide +kernel
theorem dG_beside_37 : decode mG_beside.2.1 37 = .ok (.getfield 57, 3) := by decide +kernel
theorem dG_beside_40 : decode mG_beside.2.1 40 = .ok (.ldc2_w 67, 3) := by decide +kernel
theorem dG_beside_43 : decode mG_beside.2.1 43 = .ok (.lxor, 1) := by decide +kernel
theorem dG_beside_44 : decode mG_beside.2.1 44 = .ok (.land, 1) := by decide +kernel
theorem dG_beside_45 : decode mG_beside.2.1 45 = .ok (.iconst 1, 1) := by decide +kernel
theorem dG_beside_46 : decode mG_beside.2.1 46 = .ok (.lshl, 1) := by decide +kernel
theorem dG_beside_47 : decode mG_beside.2.1 47 = .ok (.lreturn, 1) := by decide +kernel
theorem dG_beside_48 : decode mG_beside.2.1 48 = .ok (.lload_n 1, 1) := by decide +kernel
theorem dG_beside_49 : decode mG_beside.2.1 49 = .ok (.aload_n 0, 1) := by decide +kernel
theorem dG_beside_50 : decode mG_beside.2.1 50 = .ok (.getfield 15, 3) := by decide +kernel
theorem dG_beside_53 : decode mG_beside.2.1 53 = .ok (.lshl, 1) := by decide +kernel
theorem dG_beside_54 : decode mG_beside.2.1 54 = .ok (.aload_n 0, 1) := by decide +kernel
theorem dG_beside_55 : decode mG_beside.2.1 55 = .ok (.getfield 30, 3) := by decide +kernel
theorem dG_beside_58 : decode mG_beside.2.1 58 = .ok (.land, 1) := by decide +kernel
theorem dG_beside_59 : decode mG_beside.2.1 59 = .ok (.lreturn, 1) := by decide +kernel
theorem dG_beside_60 : decode mG_beside.2.1 60 = .ok (.lload_n 1, 1) := by decide +kernel
theorem dG_beside_61 : decode mG_beside.2.1 61 = .ok (.aload_n 0, 1) := by decide +kernel
theorem dG_beside_62 : decode mG_beside.2.1 62 = .ok (.getfield 50, 3) := by decide +kernel
theorem dG_beside_65 : decode mG_beside.2.1 65 = .ok (.ldc2_w 67, 3) := by decide +kernel
theorem dG_beside_68 : decode mG_beside.2.1 68 = .ok (.lxor, 1) := by decide +kernel
theorem dG_beside_69 : decode mG_beside.2.1 69 = .ok (.land, 1) := by decide +kernel
theorem dG_beside_70 : decode mG_beside.2.1 70 = .ok (.iconst 1, 1) := by decide +kernel
theorem dG_beside_71 : decode mG_beside.2.1 71 = .ok (.lushr, 1) := by decide +kernel
theorem dG_beside_72 : decode mG_beside.2.1 72 = .ok (.lreturn, 1) := by decide +kernel
theorem dG_cellBeside_0 : decode mG_cellBeside.2.1 0 = .ok (.aload_n 0, 1) := by decide +kernel
theorem dG_cellBeside_1 : decode mG_cellBeside.2.1 1 = .ok (.iload_n 1, 1) := by decide +kernel
theorem dG_cellBeside_2 : decode mG_cellBeside.2.1 2 = .ok (.invokestatic 53, 3) := by decide +kernel
theorem dG_cellBeside_5 : decode mG_cellBeside.2.1 5 = .ok (.iload_n 2, 1) := by decide +kernel
theorem dG_cellBeside_6 : decode mG_cellBeside.2.1 6 = .ok (.invokevirtual 69, 3) := by decide +kernel
theorem dG_cellBeside_9 : decode mG_cellBeside.2.1 9 = .ok (.invokestatic 73, 3) := by decide +kernel
theorem dG_cellBeside_12 : decode mG_cellBeside.2.1 12 = .ok (.ireturn, 1) := by decide +kernel
theorem dG_around_0 : decode mG_around.2.1 0 = .ok (.lload_n 1, 1) := by decide +kernel
theorem dG_around_1 : decode mG_around.2.1 1 = .ok (.aload_n 0, 1) := by decide +kernel
theorem dG_around_2 : decode mG_around.2.1 2 = .ok (.getfield 15, 3) := by decide +kernel
theorem dG_around_5 : decode mG_around.2.1 5 = .ok (.lushr, 1) := by decide +kernel
theorem dG_around_6 : decode mG_around.2.1 6 = .ok (.lload_n 1, 1) := by decide +kernel
theorem dG_around_7 : decode mG_around.2.1 7 = .ok (.aload_n 0, 1) := by decide +kernel
theorem dG_around_8 : decode mG_around.2.1 8 = .ok (.getfield 15, 3) := by decide +kernel
theorem dG_around_11 : decode mG_around.2.1 11 = .ok (.lshl, 1) := by decide +kernel
theorem dG_around_12 : decode mG_around.2.1 12 = .ok (.aload_n 0, 1) := by decide +kernel
theorem dG_around_13 : decode mG_around.2.1 13 = .ok (.getfield 30, 3) := by decide +kernel
theorem dG_around_16 : decode mG_around.2.1 16 = .ok (.land, 1) := by decide +kernel
theorem dG_around_17 : decode mG_around.2.1 17 = .ok (.lor, 1) := by decide +kernel
theorem dG_around_18 : decode mG_around.2.1 18 = .ok (.lload_n 1, 1) := by decide +kernel
theorem dG_around_19 : decode mG_around.2.1 19 = .ok (.aload_n 0, 1) := by decide +kernel
theorem dG_around_20 : decode mG_around.2.1 20 = .ok (.getfield 57, 3) := by decide +kernel
theorem dG_around_23 : decode mG_around.2.1 23 = .ok (.ldc2_w 67, 3) := by decide +kernel
theorem dG_around_26 : decode mG_around.2.1 26 = .ok (.lxor, 1) := by decide +kernel
theorem dG_around_27 : decode mG_around.2.1 27 = .ok (.land, 1) := by decide +kernel
theorem dG_around_28 : decode mG_around.2.1 28 = .ok (.iconst 1, 1) := by decide +kernel
theorem dG_around_29 : decode mG_around.2.1 29 = .ok (.lshl, 1) := by decide +kernel
theorem dG_around_30 : decode mG_around.2.1 30 = .ok (.lor, 1) := by decide +kernel
theorem dG_around_31 : decode mG_around.2.1 31 = .ok (.lload_n 1, 1) := by decide +kernel
theorem dG_around_32 : decode mG_around.2.1 32 = .ok (.aload_n 0, 1) := by decide +kernel
theorem dG_around_33 : decode mG_around.2.1 33 = .ok (.getfield 50, 3) := by decide +kernel
theorem dG_around_36 : decode mG_around.2.1 36 = .ok (.ldc2_w 67, 3) := by decide +kernel
theorem dG_around_39 : decode mG_around.2.1 39 = .ok (.lxor, 1) := by decide +kernel
theorem dG_around_40 : decode mG_around.2.1 40 = .ok (.land, 1) := by decide +kernel
theorem dG_around_41 : decode mG_around.2.1 41 = .ok (.iconst 1, 1) := by decide +kernel
theorem dG_around_42 : decode mG_around.2.1 42 = .ok (.lushr, 1) := by decide +kernel
theorem dG_around_43 : decode mG_around.2.1 43 = .ok (.lor, 1) := by decide +kernel
theorem dG_around_44 : decode mG_around.2.1 44 = .ok (.lreturn, 1) := by decide +kernel
theorem dG_within_0 : decode mG_within.2.1 0 = .ok (.iload_n 1, 1) := by decide +kernel
theorem dG_within_1 : decode mG_within.2.1 1 = .ok (.ifCond .ge 7, 3) := by decide +kernel
theorem dG_within_4 : decode mG_within.2.1 4 = .ok (.lconst 0, 1) := by decide +kernel
theorem dG_within_5 : decode mG_within.2.1 5 = .ok (.goto 9, 3) := by decide +kernel
theorem dG_within_8 : decode mG_within.2.1 8 = .ok (.iload_n 2, 1) := by decide +kernel
theorem dG_within_9 : decode mG_within.2.1 9 = .ok (.invokestatic 53, 3) := by decide +kernel
theorem dG_within_12 : decode mG_within.2.1 12 = .ok (.lload_n 3, 1) := by decide +kernel
theorem dG_within_13 : decode mG_within.2.1 13 = .ok (.land, 1) := by decide +kernel
theorem dG_within_14 : decode mG_within.2.1 14 = .ok (.lstore 5, 2) := by decide +kernel
theorem dG_within_16 : decode mG_within.2.1 16 = .ok (.iconst 0, 1) := by decide +kernel
theorem dG_within_17 : decode mG_within.2.1 17 = .ok (.istore 7, 2) := by decide +kernel
theorem dG_within_19 : decode mG_within.2.1 19 = .ok (.iload 7, 2) := by decide +kernel
theorem dG_within_21 : decode mG_within.2.1 21 = .ok (.iload_n 1, 1) := by decide +kernel
theorem dG_within_22 : decode mG_within.2.1 22 = .ok (.if_icmp .ge 44, 3) := by decide +kernel
theorem dG_within_25 : decode mG_within.2.1 25 = .ok (.iload 7, 2) := by decide +kernel
theorem dG_within_27 : decode mG_within.2.1 27 = .ok (.bipush 36, 2) := by decide +kernel
theorem dG_within_29 : decode mG_within.2.1 29 = .ok (.if_icmp .ge 37, 3) := by decide +kernel
theorem dG_within_32 : decode mG_within.2.1 32 = .ok (.lload 5, 2) := by decide +kernel
theorem dG_within_34 : decode mG_within.2.1 34 = .ok (.aload_n 0, 1) := by decide +kernel
theorem dG_within_35 : decode mG_within.2.1 35 = .ok (.lload 5, 2) := by decide +kernel
theorem dG_within_37 : decode mG_within.2.1 37 = .ok (.invokevirtual 77, 3) := by decide +kernel
theorem dG_within_40 : decode mG_within.2.1 40 = .ok (.lload_n 3, 1) := by decide +kernel
theorem dG_within_41 : decode mG_within.2.1 41 = .ok (.land, 1) := by decide +kernel
theorem dG_within_42 : decode mG_within.2.1 42 = .ok (.lor, 1) := by decide +kernel
theorem dG_within_43 : decode mG_within.2.1 43 = .ok (.lstore 8, 2) := by decide +kernel
theorem dG_within_45 : decode mG_within.2.1 45 = .ok (.lload 8, 2) := by decide +kernel
theorem dG_within_47 : decode mG_within.2.1 47 = .ok (.lload 5, 2) := by decide +kernel
theorem dG_within_49 : decode mG_within.2.1 49 = .ok (.lcmp, 1) := by decide +kernel
theorem dG_within_50 : decode mG_within.2.1 50 = .ok (.ifCond .ne 6, 3) := by decide +kernel
theorem dG_within_53 : decode mG_within.2.1 53 = .ok (.goto 13, 3) := by decide +kernel
theorem dG_within_56 : decode mG_within.2.1 56 = .ok (.lload 8, 2) := by decide +kernel
theorem dG_within_58 : decode mG_within.2.1 58 = .ok (.lstore 5, 2) := by decide +kernel
theorem dG_within_60 : decode mG_within.2.1 60 = .ok (.iinc 7 1, 3) := by decide +kernel
theorem dG_within_63 : decode mG_within.2.1 63 = .ok (.goto (-44), 3) := by decide +kernel
theorem dG_within_66 : decode mG_within.2.1 66 = .ok (.lload 5, 2) := by decide +kernel
theorem dG_within_68 : decode mG_within.2.1 68 = .ok (.lreturn, 1) := by decide +kernel
theorem dG_stepsBetween_0 : decode mG_stepsBetween.2.1 0 = .ok (.iload_n 2, 1) := by decide +kernel
theorem dG_stepsBetween_1 : decode mG_stepsBetween.2.1 1 = .ok (.invokestatic 53, 3) := by decide +kernel
theorem dG_stepsBetween_4 : decode mG_stepsBetween.2.1 4 = .ok (.lstore 5, 2) := by decide +kernel
theorem dG_stepsBetween_6 : decode mG_stepsBetween.2.1 6 = .ok (.iload_n 1, 1) := by decide +kernel
theorem dG_stepsBetween_7 : decode mG_stepsBetween.2.1 7 = .ok (.invokestatic 53, 3) := by decide +kernel
theorem dG_stepsBetween_10 : decode mG_stepsBetween.2.1 10 = .ok (.lload_n 3, 1) := by decide +kernel
theorem dG_stepsBetween_11 : decode mG_stepsBetween.2.1 11 = .ok (.land, 1) := by decide +kernel
theorem dG_stepsBetween_12 : decode mG_stepsBetween.2.1 12 = .ok (.lstore 7, 2) := by decide +kernel
theorem dG_stepsBetween_14 : decode mG_stepsBetween.2.1 14 = .ok (.iconst 0, 1) := by decide +kernel
theorem dG_stepsBetween_15 : decode mG_stepsBetween.2.1 15 = .ok (.istore 9, 2) := by decide +kernel
theorem dG_stepsBetween_17 : decode mG_stepsBetween.2.1 17 = .ok (.iload 9, 2) := by decide +kernel
theorem dG_stepsBetween_19 : decode mG_stepsBetween.2.1 19 = .ok (.bipush 36, 2) := by decide +kernel
theorem dG_stepsBetween_21 : decode mG_stepsBetween.2.1 21 = .ok (.if_icmp .ge 50, 3) := by decide +kernel
theorem dG_stepsBetween_24 : decode mG_stepsBetween.2.1 24 = .ok (.lload 7, 2) := by decide +kernel
theorem dG_stepsBetween_26 : decode mG_stepsBetween.2.1 26 = .ok (.lload 5, 2) := by decide +kernel
theorem dG_stepsBetween_28 : decode mG_stepsBetween.2.1 28 = .ok (.land, 1) := by decide +kernel
theorem dG_stepsBetween_29 : decode mG_stepsBetween.2.1 29 = .ok (.lconst 0, 1) := by decide +kernel
theorem dG_stepsBetween_30 : decode mG_stepsBetween.2.1 30 = .ok (.lcmp, 1) := by decide +kernel
theorem dG_stepsBetween_31 : decode mG_stepsBetween.2.1 31 = .ok (.ifCond .eq 6, 3) := by decide +kernel
theorem dG_stepsBetween_34 : decode mG_stepsBetween.2.1 34 = .ok (.iload 9, 2) := by decide +kernel
theorem dG_stepsBetween_36 : decode mG_stepsBetween.2.1 36 = .ok (.ireturn, 1) := by decide +kernel
theorem dG_stepsBetween_37 : decode mG_stepsBetween.2.1 37 = .ok (.lload 7, 2) := by decide +kernel
theorem dG_stepsBetween_39 : decode mG_stepsBetween.2.1 39 = .ok (.aload_n 0, 1) := by decide +kernel
theorem dG_stepsBetween_40 : decode mG_stepsBetween.2.1 40 = .ok (.lload 7, 2) := by decide +kernel
theorem dG_stepsBetween_42 : decode mG_stepsBetween.2.1 42 = .ok (.invokevirtual 77, 3) := by decide +kernel
theorem dG_stepsBetween_45 : decode mG_stepsBetween.2.1 45 = .ok (.lload_n 3, 1) := by decide +kernel
theorem dG_stepsBetween_46 : decode mG_stepsBetween.2.1 46 = .ok (.land, 1) := by decide +kernel
theorem dG_stepsBetween_47 : decode mG_stepsBetween.2.1 47 = .ok (.lor, 1) := by decide +kernel
theorem dG_stepsBetween_48 : decode mG_stepsBetween.2.1 48 = .ok (.lstore 10, 2) := by decide +kernel
theorem dG_stepsBetween_50 : decode mG_stepsBetween.2.1 50 = .ok (.lload 10, 2) := by decide +kernel
theorem dG_stepsBetween_52 : decode mG_stepsBetween.2.1 52 = .ok (.lload 7, 2) := by decide +kernel
theorem dG_stepsBetween_54 : decode mG_stepsBetween.2.1 54 = .ok (.lcmp, 1) := by decide +kernel
theorem dG_stepsBetween_55 : decode mG_stepsBetween.2.1 55 = .ok (.ifCond .ne 6, 3) := by decide +kernel
theorem dG_stepsBetween_58 : decode mG_stepsBetween.2.1 58 = .ok (.bipush (-9), 2) := by decide +kernel
theorem dG_stepsBetween_60 : decode mG_stepsBetween.2.1 60 = .ok (.ireturn, 1) := by decide +kernel
theorem dG_stepsBetween_61 : decode mG_stepsBetween.2.1 61 = .ok (.lload 10, 2) := by decide +kernel
theorem dG_stepsBetween_63 : decode mG_stepsBetween.2.1 63 = .ok (.lstore 7, 2) := by decide +kernel
theorem dG_stepsBetween_65 : decode mG_stepsBetween.2.1 65 = .ok (.iinc 9 1, 3) := by decide +kernel
theorem dG_stepsBetween_68 : decode mG_stepsBetween.2.1 68 = .ok (.goto (-51), 3) := by decide +kernel
theorem dG_stepsBetween_71 : decode mG_stepsBetween.2.1 71 = .ok (.bipush (-9), 2) := by decide +kernel
theorem dG_stepsBetween_73 : decode mG_stepsBetween.2.1 73 = .ok (.ireturn, 1) := by decide +kernel
theorem dG_mostSteps_0 : decode mG_mostSteps.2.1 0 = .ok (.iload_n 1, 1) := by decide +kernel
theorem dG_mostSteps_1 : decode mG_mostSteps.2.1 1 = .ok (.invokestatic 53, 3) := by decide +kernel
theorem dG_mostSteps_4 : decode mG_mostSteps.2.1 4 = .ok (.lload_n 2, 1) := by decide +kernel
theorem dG_mostSteps_5 : decode mG_mostSteps.2.1 5 = .ok (.land, 1) := by decide +kernel
theorem dG_mostSteps_6 : decode mG_mostSteps.2.1 6 = .ok (.lstore 4, 2) := by decide +kernel
theorem dG_mostSteps_8 : decode mG_mostSteps.2.1 8 = .ok (.iconst 0, 1) := by decide +kernel
theorem dG_mostSteps_9 : decode mG_mostSteps.2.1 9 = .ok (.istore 6, 2) := by decide +kernel
theorem dG_mostSteps_11 : decode mG_mostSteps.2.1 11 = .ok (.iload 6, 2) := by decide +kernel
theorem dG_mostSteps_13 : decode mG_mostSteps.2.1 13 = .ok (.bipush 36, 2) := by decide +kernel
theorem dG_mostSteps_15 : decode mG_mostSteps.2.1 15 = .ok (.if_icmp .ge 37, 3) := by decide +kernel
theorem dG_mostSteps_18 : decode mG_mostSteps.2.1 18 = .ok (.lload 4, 2) := by decide +kernel
theorem dG_mostSteps_20 : decode mG_mostSteps.2.1 20 = .ok (.aload_n 0, 1) := by decide +kernel
theorem dG_mostSteps_21 : decode mG_mostSteps.2.1 21 = .ok (.lload 4, 2) := by decide +kernel
theorem dG_mostSteps_23 : decode mG_mostSteps.2.1 23 = .ok (.invokevirtual 77, 3) := by decide +kernel
theorem dG_mostSteps_26 : decode mG_mostSteps.2.1 26 = .ok (.lload_n 2, 1) := by decide +kernel
theorem dG_mostSteps_27 : decode mG_mostSteps.2.1 27 = .ok (.land, 1) := by decide +kernel
theorem dG_mostSteps_28 : decode mG_mostSteps.2.1 28 = .ok (.lor, 1) := by decide +kernel
theorem dG_mostSteps_29 : decode mG_mostSteps.2.1 29 = .ok (.lstore 7, 2) := by decide +kernel
theorem dG_mostSteps_31 : decode mG_mostSteps.2.1 31 = .ok (.lload 7, 2) := by decide +kernel
theorem dG_mostSteps_33 : decode mG_mostSteps.2.1 33 = .ok (.lload 4, 2) := by decide +kernel
theorem dG_mostSteps_35 : decode mG_mostSteps.2.1 35 = .ok (.lcmp, 1) := by decide +kernel
theorem dG_mostSteps_36 : decode mG_mostSteps.2.1 36 = .ok (.ifCond .ne 6, 3) := by decide +kernel
theorem dG_mostSteps_39 : decode mG_mostSteps.2.1 39 = .ok (.iload 6, 2) := by decide +kernel
theorem dG_mostSteps_41 : decode mG_mostSteps.2.1 41 = .ok (.ireturn, 1) := by decide +kernel
theorem dG_mostSteps_42 : decode mG_mostSteps.2.1 42 = .ok (.lload 7, 2) := by decide +kernel
theorem dG_mostSteps_44 : decode mG_mostSteps.2.1 44 = .ok (.lstore 4, 2) := by decide +kernel
theorem dG_mostSteps_46 : decode mG_mostSteps.2.1 46 = .ok (.iinc 6 1, 3) := by decide +kernel
theorem dG_mostSteps_49 : decode mG_mostSteps.2.1 49 = .ok (.goto (-38), 3) := by decide +kernel
theorem dG_mostSteps_52 : decode mG_mostSteps.2.1 52 = .ok (.bipush 35, 2) := by decide +kernel
theorem dG_mostSteps_54 : decode mG_mostSteps.2.1 54 = .ok (.ireturn, 1) := by decide +kernel
theorem dH_init_0 : decode mH_init.2.1 0 = .ok (.aload_n 0, 1) := by decide +kernel
theorem dH_init_1 : decode mH_init.2.1 1 = .ok (.invokespecial 3, 3) := by decide +kernel
theorem dH_init_4 : decode mH_init.2.1 4 = .ok (.aload_n 0, 1) := by decide +kernel
theorem dH_init_5 : decode mH_init.2.1 5 = .ok (.bipush 6, 2) := by decide +kernel
theorem dH_init_7 : decode mH_init.2.1 7 = .ok (.anewarray 9, 3) := by decide +kernel
theorem dH_init_10 : decode mH_init.2.1 10 = .ok (.putfield 11, 3) := by decide +kernel
theorem dH_init_13 : decode mH_init.2.1 13 = .ok (.iconst 0, 1) := by decide +kernel
theorem dH_init_14 : decode mH_init.2.1 14 = .ok (.istore_n 2, 1) := by decide +kernel
theorem dH_init_15 : decode mH_init.2.1 15 = .ok (.iload_n 2, 1) := by decide +kernel
theorem dH_init_16 : decode mH_init.2.1 16 = .ok (.bipush 6, 2) := by decide +kernel
theorem dH_init_18 : decode mH_init.2.1 18 = .ok (.if_icmp .ge 23, 3) := by decide +kernel
theorem dH_init_21 : decode mH_init.2.1 21 = .ok (.aload_n 0, 1) := by decide +kernel
theorem dH_init_22 : decode mH_init.2.1 22 = .ok (.getfield 11, 3) := by decide +kernel
theorem dH_init_25 : decode mH_init.2.1 25 = .ok (.iload_n 2, 1) := by decide +kernel
theorem dH_init_26 : decode mH_init.2.1 26 = .ok (.new 9, 3) := by decide +kernel
theorem dH_init_29 : decode mH_init.2.1 29 = .ok (.dup, 1) := by decide +kernel
theorem dH_init_30 : decode mH_init.2.1 30 = .ok (.aload_n 1, 1) := by decide +kernel
theorem dH_init_31 : decode mH_init.2.1 31 = .ok (.invokespecial 17, 3) := by decide +kernel
theorem dH_init_34 : decode mH_init.2.1 34 = .ok (.aastore, 1) := by decide +kernel
theorem dH_init_35 : decode mH_init.2.1 35 = .ok (.iinc 2 1, 3) := by decide +kernel
theorem dH_init_38 : decode mH_init.2.1 38 = .ok (.goto (-23), 3) := by decide +kernel
theorem dH_init_41 : decode mH_init.2.1 41 = .ok (.return_, 1) := by decide +kernel
theorem dH_remember_0 : decode mH_remember.2.1 0 = .ok (.aload_n 0, 1) := by decide +kernel
theorem dH_remember_1 : decode mH_remember.2.1 1 = .ok (.aload_n 0, 1) := by decide +kernel
theorem dH_remember_2 : decode mH_remember.2.1 2 = .ok (.getfield 20, 3) := by decide +kernel
theorem dH_remember_5 : decode mH_remember.2.1 5 = .ok (.iconst 1, 1) := by decide +kernel
theorem dH_remember_6 : decode mH_remember.2.1 6 = .ok (.iadd, 1) := by decide +kernel
theorem dH_remember_7 : decode mH_remember.2.1 7 = .ok (.bipush 6, 2) := by decide +kernel
theorem dH_remember_9 : decode mH_remember.2.1 9 = .ok (.if_icmp .ge 12, 3) := by decide +kernel
theorem dH_remember_12 : decode mH_remember.2.1 12 = .ok (.aload_n 0, 1) := by decide +kernel
theorem dH_remember_13 : decode mH_remember.2.1 13 = .ok (.getfield 20, 3) := by decide +kernel
theorem dH_remember_16 : decode mH_remember.2.1 16 = .ok (.iconst 1, 1) := by decide +kernel
theorem dH_remember_17 : decode mH_remember.2.1 17 = .ok (.iadd, 1) := by decide +kernel
theorem dH_remember_18 : decode mH_remember.2.1 18 = .ok (.goto 4, 3) := by decide +kernel
theorem dH_remember_21 : decode mH_remember.2.1 21 = .ok (.iconst 0, 1) := by decide +kernel
theorem dH_remember_22 : decode mH_remember.2.1 22 = .ok (.putfield 20, 3) := by decide +kernel
theorem dH_remember_25 : decode mH_remember.2.1 25 = .ok (.aload_n 0, 1) := by decide +kernel
theorem dH_remember_26 : decode mH_remember.2.1 26 = .ok (.getfield 11, 3) := by decide +kernel
theorem dH_remember_29 : decode mH_remember.2.1 29 = .ok (.aload_n 0, 1) := by decide +kernel
theorem dH_remember_30 : decode mH_remember.2.1 30 = .ok (.getfield 20, 3) := by decide +kernel
theorem dH_remember_33 : decode mH_remember.2.1 33 = .ok (.aaload, 1) := by decide +kernel
theorem dH_remember_34 : decode mH_remember.2.1 34 = .ok (.astore_n 2, 1) := by decide +kernel
theorem dH_remember_35 : decode mH_remember.2.1 35 = .ok (.aload_n 2, 1) := by decide +kernel
theorem dH_remember_36 : decode mH_remember.2.1 36 = .ok (.ifnull 23, 3) := by decide +kernel
theorem dH_remember_39 : decode mH_remember.2.1 39 = .ok (.aload_n 2, 1) := by decide +kernel
theorem dH_remember_40 : decode mH_remember.2.1 40 = .ok (.aload_n 1, 1) := by decide +kernel
theorem dH_remember_41 : decode mH_remember.2.1 41 = .ok (.invokevirtual 24, 3) := by decide +kernel
theorem dH_remember_44 : decode mH_remember.2.1 44 = .ok (.aload_n 0, 1) := by decide +kernel
theorem dH_remember_45 : decode mH_remember.2.1 45 = .ok (.aload_n 0, 1) := by decide +kernel
theorem dH_remember_46 : decode mH_remember.2.1 46 = .ok (.getfield 28, 3) := by decide +kernel
theorem dH_remember_49 : decode mH_remember.2.1 49 = .ok (.iconst 1, 1) := by decide +kernel
theorem dH_remember_50 : decode mH_remember.2.1 50 = .ok (.iadd, 1) := by decide +kernel
theorem dH_remember_51 : decode mH_remember.2.1 51 = .ok (.bipush 6, 2) := by decide +kernel
theorem dH_remember_53 : decode mH_remember.2.1 53 = .ok (.invokestatic 31, 3) := by decide +kernel
theorem dH_remember_56 : decode mH_remember.2.1 56 = .ok (.putfield 28, 3) := by decide +kernel
theorem dH_remember_59 : decode mH_remember.2.1 59 = .ok (.return_, 1) := by decide +kernel
theorem dH_bringBack_0 : decode mH_bringBack.2.1 0 = .ok (.aload_n 0, 1) := by decide +kernel
theorem dH_bringBack_1 : decode mH_bringBack.2.1 1 = .ok (.getfield 11, 3) := by decide +kernel
theorem dH_bringBack_4 : decode mH_bringBack.2.1 4 = .ok (.aload_n 0, 1) := by decide +kernel
theorem dH_bringBack_5 : decode mH_bringBack.2.1 5 = .ok (.getfield 20, 3) := by decide +kernel
theorem dH_bringBack_8 : decode mH_bringBack.2.1 8 = .ok (.aaload, 1) := by decide +kernel
theorem dH_bringBack_9 : decode mH_bringBack.2.1 9 = .ok (.astore_n 2, 1) := by decide +kernel
theorem dH_bringBack_10 : decode mH_bringBack.2.1 10 = .ok (.aload_n 0, 1) := by decide +kernel
theorem dH_bringBack_11 : decode mH_bringBack.2.1 11 = .ok (.getfield 28, 3) := by decide +kernel
theorem dH_bringBack_14 : decode mH_bringBack.2.1 14 = .ok (.ifCond .le 7, 3) := by decide +kernel
theorem dH_bringBack_17 : decode mH_bringBack.2.1 17 = .ok (.aload_n 2, 1) := by decide +kernel
theorem dH_bringBack_18 : decode mH_bringBack.2.1 18 = .ok (.ifnonnull 5, 3) := by decide +kernel
theorem dH_bringBack_21 : decode mH_bringBack.2.1 21 = .ok (.iconst 0, 1) := by decide +kernel
theorem dH_bringBack_22 : decode mH_bringBack.2.1 22 = .ok (.ireturn, 1) := by decide +kernel
theorem dH_bringBack_23 : decode mH_bringBack.2.1 23 = .ok (.aload_n 1, 1) := by decide +kernel
theorem dH_bringBack_24 : decode mH_bringBack.2.1 24 = .ok (.aload_n 2, 1) := by decide +kernel
theorem dH_bringBack_25 : decode mH_bringBack.2.1 25 = .ok (.invokevirtual 24, 3) := by decide +kernel
theorem dH_bringBack_28 : decode mH_bringBack.2.1 28 = .ok (.aload_n 0, 1) := by decide +kernel
theorem dH_bringBack_29 : decode mH_bringBack.2.1 29 = .ok (.aload_n 0, 1) := by decide +kernel
theorem dH_bringBack_30 : decode mH_bringBack.2.1 30 = .ok (.getfield 20, 3) := by decide +kernel
theorem dH_bringBack_33 : decode mH_bringBack.2.1 33 = .ok (.ifCond .le 12, 3) := by decide +kernel
theorem dH_bringBack_36 : decode mH_bringBack.2.1 36 = .ok (.aload_n 0, 1) := by decide +kernel
theorem dH_bringBack_37 : decode mH_bringBack.2.1 37 = .ok (.getfield 20, 3) := by decide +kernel
theorem dH_bringBack_40 : decode mH_bringBack.2.1 40 = .ok (.iconst 1, 1) := by decide +kernel
theorem dH_bringBack_41 : decode mH_bringBack.2.1 41 = .ok (.isub, 1) := by decide +kernel
theorem dH_bringBack_42 : decode mH_bringBack.2.1 42 = .ok (.goto 4, 3) := by decide +kernel
theorem dH_bringBack_45 : decode mH_bringBack.2.1 45 = .ok (.iconst 5, 1) := by decide +kernel
theorem dH_bringBack_46 : decode mH_bringBack.2.1 46 = .ok (.putfield 20, 3) := by decide +kernel
theorem dH_bringBack_49 : decode mH_bringBack.2.1 49 = .ok (.aload_n 0, 1) := by decide +kernel
theorem dH_bringBack_50 : decode mH_bringBack.2.1 50 = .ok (.dup, 1) := by decide +kernel
theorem dH_bringBack_51 : decode mH_bringBack.2.1 51 = .ok (.getfield 28, 3) := by decide +kernel
theorem dH_bringBack_54 : decode mH_bringBack.2.1 54 = .ok (.iconst 1, 1) := by decide +kernel
theorem dH_bringBack_55 : decode mH_bringBack.2.1 55 = .ok (.isub, 1) := by decide +kernel
theorem dH_bringBack_56 : decode mH_bringBack.2.1 56 = .ok (.putfield 28, 3) := by decide +kernel
theorem dH_bringBack_59 : decode mH_bringBack.2.1 59 = .ok (.iconst 1, 1) := by decide +kernel
theorem dH_bringBack_60 : decode mH_bringBack.2.1 60 = .ok (.ireturn, 1) := by decide +kernel
theorem dP_init_0 : decode mP_init.2.1 0 = .ok (.aload_n 0, 1) := by decide +kernel
theorem dP_init_1 : decode mP_init.2.1 1 = .ok (.invokespecial 3, 3) := by decide +kernel
theorem dP_init_4 : decode mP_init.2.1 4 = .ok (.return_, 1) := by decide +kernel
theorem dP_act_0 : decode mP_act.2.1 0 = .ok (.aload_n 1, 1) := by decide +kernel
theorem dP_act_1 : decode mP_act.2.1 1 = .ok (.getfield 9, 3) := by decide +kernel
theorem dP_act_4 : decode mP_act.2.1 4 = .ok (.aload_n 1, 1) := by decide +kernel
theorem dP_act_5 : decode mP_act.2.1 5 = .ok (.getfield 15, 3) := by decide +kernel
theorem dP_act_8 : decode mP_act.2.1 8 = .ok (.getfield 19, 3) := by decide +kernel
theorem dP_act_11 : decode mP_act.2.1 11 = .ok (.if_icmp .ne 36, 3) := by decide +kernel
theorem dP_act_14 : decode mP_act.2.1 14 = .ok (.aload_n 1, 1) := by decide +kernel
theorem dP_act_15 : decode mP_act.2.1 15 = .ok (.getfield 24, 3) := by decide +kernel
theorem dP_act_18 : decode mP_act.2.1 18 = .ok (.aload_n 1, 1) := by decide +kernel
theorem dP_act_19 : decode mP_act.2.1 19 = .ok (.getfield 27, 3) := by decide +kernel
theorem dP_act_22 : decode mP_act.2.1 22 = .ok (.if_icmp .ge 25, 3) := by decide +kernel
theorem dP_act_25 : decode mP_act.2.1 25 = .ok (.aload_n 1, 1) := by decide +kernel
theorem dP_act_26 : decode mP_act.2.1 26 = .ok (.aload_n 1, 1) := by decide +kernel
theorem dP_act_27 : decode mP_act.2.1 27 = .ok (.getfield 24, 3) := by decide +kernel
theorem dP_act_30 : decode mP_act.2.1 30 = .ok (.aload_n 1, 1) := by decide +kernel
theorem dP_act_31 : decode mP_act.2.1 31 = .ok (.getfield 30, 3) := by decide +kernel
theorem dP_act_34 : decode mP_act.2.1 34 = .ok (.iadd, 1) := by decide +kernel
theorem dP_act_35 : decode mP_act.2.1 35 = .ok (.aload_n 1, 1) := by decide +kernel
theorem dP_act_36 : decode mP_act.2.1 36 = .ok (.getfield 27, 3) := by decide +kernel
theorem dP_act_39 : decode mP_act.2.1 39 = .ok (.invokestatic 33, 3) := by decide +kernel
theorem dP_act_42 : decode mP_act.2.1 42 = .ok (.putfield 24, 3) := by decide +kernel
theorem dP_act_45 : decode mP_act.2.1 45 = .ok (.iconst 1, 1) := by decide +kernel
theorem dP_act_46 : decode mP_act.2.1 46 = .ok (.ireturn, 1) := by decide +kernel
theorem dP_act_47 : decode mP_act.2.1 47 = .ok (.aload_n 1, 1) := by decide +kernel
theorem dP_act_48 : decode mP_act.2.1 48 = .ok (.getfield 24, 3) := by decide +kernel
theorem dP_act_51 : decode mP_act.2.1 51 = .ok (.ifCond .gt 5, 3) := by decide +kernel
theorem dP_act_54 : decode mP_act.2.1 54 = .ok (.iconst 0, 1) := by decide +kernel
theorem dP_act_55 : decode mP_act.2.1 55 = .ok (.ireturn, 1) := by decide +kernel
theorem dP_act_56 : decode mP_act.2.1 56 = .ok (.aload_n 0, 1) := by decide +kernel
theorem dP_act_57 : decode mP_act.2.1 57 = .ok (.aload_n 1, 1) := by decide +kernel
theorem dP_act_58 : decode mP_act.2.1 58 = .ok (.invokevirtual 39, 3) := by decide +kernel
theorem dP_act_61 : decode mP_act.2.1 61 = .ok (.istore_n 2, 1) := by decide +kernel
theorem dP_act_62 : decode mP_act.2.1 62 = .ok (.iload_n 2, 1) := by decide +kernel
theorem dP_act_63 : decode mP_act.2.1 63 = .ok (.iconst (-1), 1) := by decide +kernel
theorem dP_act_64 : decode mP_act.2.1 64 = .ok (.if_icmp .ne 5, 3) := by decide +kernel
theorem dP_act_67 : decode mP_act.2.1 67 = .ok (.iconst 0, 1) := by decide +kernel
theorem dP_act_68 : decode mP_act.2.1 68 = .ok (.ireturn, 1) := by decide +kernel
theorem dP_act_69 : decode mP_act.2.1 69 = .ok (.aload_n 1, 1) := by decide +kernel
theorem dP_act_70 : decode mP_act.2.1 70 = .ok (.iload_n 2, 1) := by decide +kernel
theorem dP_act_71 : decode mP_act.2.1 71 = .ok (.invokevirtual 45, 3) := by decide +kernel
theorem dP_act_74 : decode mP_act.2.1 74 = .ok (.pop, 1) := by decide +kernel
theorem dP_act_75 : decode mP_act.2.1 75 = .ok (.iconst 2, 1) := by decide +kernel
theorem dP_act_76 : decode mP_act.2.1 76 = .ok (.ireturn, 1) := by decide +kernel
theorem dP_isThrough_0 : decode mP_isThrough.2.1 0 = .ok (.aload_n 1, 1) := by decide +kernel
theorem dP_isThrough_1 : decode mP_isThrough.2.1 1 = .ok (.getfield 9, 3) := by decide +kernel
theorem dP_isThrough_4 : decode mP_isThrough.2.1 4 = .ok (.aload_n 1, 1) := by decide +kernel
theorem dP_isThrough_5 : decode mP_isThrough.2.1 5 = .ok (.getfield 15, 3) := by decide +kernel
theorem dP_isThrough_8 : decode mP_isThrough.2.1 8 = .ok (.getfield 19, 3) := by decide +kernel
theorem dP_isThrough_11 : decode mP_isThrough.2.1 11 = .ok (.if_icmp .ne 26, 3) := by decide +kernel
theorem dP_isThrough_14 : decode mP_isThrough.2.1 14 = .ok (.aload_n 1, 1) := by decide +kernel
theorem dP_isThrough_15 : decode mP_isThrough.2.1 15 = .ok (.getfield 24, 3) := by decide +kernel
theorem dP_isThrough_18 : decode mP_isThrough.2.1 18 = .ok (.aload_n 1, 1) := by decide +kernel
theorem dP_isThrough_19 : decode mP_isThrough.2.1 19 = .ok (.getfield 27, 3) := by decide +kernel
theorem dP_isThrough_22 : decode mP_isThrough.2.1 22 = .ok (.if_icmp .ne 15, 3) := by decide +kernel
theorem dP_isThrough_25 : decode mP_isThrough.2.1 25 = .ok (.aload_n 0, 1) := by decide +kernel
theorem dP_isThrough_26 : decode mP_isThrough.2.1 26 = .ok (.aload_n 1, 1) := by decide +kernel
theorem dP_isThrough_27 : decode mP_isThrough.2.1 27 = .ok (.invokevirtual 49, 3) := by decide +kernel
theorem dP_isThrough_30 : decode mP_isThrough.2.1 30 = .ok (.ifCond .ne 7, 3) := by decide +kernel
theorem dP_isThrough_33 : decode mP_isThrough.2.1 33 = .ok (.iconst 1, 1) := by decide +kernel
theorem dP_isThrough_34 : decode mP_isThrough.2.1 34 = .ok (.goto 4, 3) := by decide +kernel
theorem dP_isThrough_37 : decode mP_isThrough.2.1 37 = .ok (.iconst 0, 1) := by decide +kernel
theorem dP_isThrough_38 : decode mP_isThrough.2.1 38 = .ok (.ireturn, 1) := by decide +kernel
theorem dP_nextHand_0 : decode mP_nextHand.2.1 0 = .ok (.aload_n 0, 1) := by decide +kernel
theorem dP_nextHand_1 : decode mP_nextHand.2.1 1 = .ok (.aload_n 1, 1) := by decide +kernel
theorem dP_nextHand_2 : decode mP_nextHand.2.1 2 = .ok (.invokevirtual 49, 3) := by decide +kernel
theorem dP_nextHand_5 : decode mP_nextHand.2.1 5 = .ok (.ifCond .eq 34, 3) := by decide +kernel
theorem dP_nextHand_8 : decode mP_nextHand.2.1 8 = .ok (.aload_n 1, 1) := by decide +kernel
theorem dP_nextHand_9 : decode mP_nextHand.2.1 9 = .ok (.getfield 9, 3) := by decide +kernel
theorem dP_nextHand_12 : decode mP_nextHand.2.1 12 = .ok (.aload_n 0, 1) := by decide +kernel
theorem dP_nextHand_13 : decode mP_nextHand.2.1 13 = .ok (.getfield 53, 3) := by decide +kernel
theorem dP_nextHand_16 : decode mP_nextHand.2.1 16 = .ok (.if_icmp .ne 14, 3) := by decide +kernel
theorem dP_nextHand_19 : decode mP_nextHand.2.1 19 = .ok (.aload_n 1, 1) := by decide +kernel
theorem dP_nextHand_20 : decode mP_nextHand.2.1 20 = .ok (.aload_n 0, 1) := by decide +kernel
theorem dP_nextHand_21 : decode mP_nextHand.2.1 21 = .ok (.getfield 56, 3) := by decide +kernel
theorem dP_nextHand_24 : decode mP_nextHand.2.1 24 = .ok (.invokestatic 59, 3) := by decide +kernel
theorem dP_nextHand_27 : decode mP_nextHand.2.1 27 = .ok (.goto 11, 3) := by decide +kernel
theorem dP_nextHand_30 : decode mP_nextHand.2.1 30 = .ok (.aload_n 1, 1) := by decide +kernel
theorem dP_nextHand_31 : decode mP_nextHand.2.1 31 = .ok (.aload_n 0, 1) := by decide +kernel
theorem dP_nextHand_32 : decode mP_nextHand.2.1 32 = .ok (.getfield 53, 3) := by decide +kernel
theorem dP_nextHand_35 : decode mP_nextHand.2.1 35 = .ok (.invokestatic 63, 3) := by decide +kernel
theorem dP_nextHand_38 : decode mP_nextHand.2.1 38 = .ok (.ireturn, 1) := by decide +kernel
theorem dP_nextHand_39 : decode mP_nextHand.2.1 39 = .ok (.aload_n 1, 1) := by decide +kernel
theorem dP_nextHand_40 : decode mP_nextHand.2.1 40 = .ok (.getfield 9, 3) := by decide +kernel
theorem dP_nextHand_43 : decode mP_nextHand.2.1 43 = .ok (.aload_n 1, 1) := by decide +kernel
theorem dP_nextHand_44 : decode mP_nextHand.2.1 44 = .ok (.getfield 15, 3) := by decide +kernel
theorem dP_nextHand_47 : decode mP_nextHand.2.1 47 = .ok (.getfield 19, 3) := by decide +kernel
theorem dP_nextHand_50 : decode mP_nextHand.2.1 50 = .ok (.if_icmp .ne 7, 3) := by decide +kernel
theorem dP_nextHand_53 : decode mP_nextHand.2.1 53 = .ok (.iconst (-1), 1) := by decide +kernel
theorem dP_nextHand_54 : decode mP_nextHand.2.1 54 = .ok (.goto 14, 3) := by decide +kernel
theorem dP_nextHand_57 : decode mP_nextHand.2.1 57 = .ok (.aload_n 1, 1) := by decide +kernel
theorem dP_nextHand_58 : decode mP_nextHand.2.1 58 = .ok (.aload_n 1, 1) := by decide +kernel
theorem dP_nextHand_59 : decode mP_nextHand.2.1 59 = .ok (.getfield 15, 3) := by decide +kernel
theorem dP_nextHand_62 : decode mP_nextHand.2.1 62 = .ok (.getfield 19, 3) := by decide +kernel
theorem dP_nextHand_65 : decode mP_nextHand.2.1 65 = .ok (.invokestatic 63, 3) := by decide +kernel
theorem dP_nextHand_68 : decode mP_nextHand.2.1 68 = .ok (.ireturn, 1) := by decide +kernel
theorem dP_handOnto_0 : decode mP_handOnto.2.1 0 = .ok (.iconst 0, 1) := by decide +kernel
theorem dP_handOnto_1 : decode mP_handOnto.2.1 1 = .ok (.istore_n 2, 1) := by decide +kernel
theorem dP_handOnto_2 : decode mP_handOnto.2.1 2 = .ok (.iload_n 2, 1) := by decide +kernel
theorem dP_handOnto_3 : decode mP_handOnto.2.1 3 = .ok (.iconst 4, 1) := by decide +kernel
theorem dP_handOnto_4 : decode mP_handOnto.2.1 4 = .ok (.if_icmp .ge 27, 3) := by decide +kernel
theorem dP_handOnto_7 : decode mP_handOnto.2.1 7 = .ok (.aload_n 0, 1) := by decide +kernel
theorem dP_handOnto_8 : decode mP_handOnto.2.1 8 = .ok (.getfield 15, 3) := by decide +kernel
theorem dP_handOnto_11 : decode mP_handOnto.2.1 11 = .ok (.aload_n 0, 1) := by decide +kernel
theorem dP_handOnto_12 : decode mP_handOnto.2.1 12 = .ok (.getfield 9, 3) := by decide +kernel
theorem dP_handOnto_15 : decode mP_handOnto.2.1 15 = .ok (.iload_n 2, 1) := by decide +kernel
theorem dP_handOnto_16 : decode mP_handOnto.2.1 16 = .ok (.invokevirtual 66, 3) := by decide +kernel
theorem dP_handOnto_19 : decode mP_handOnto.2.1 19 = .ok (.iload_n 1, 1) := by decide +kernel
theorem dP_handOnto_20 : decode mP_handOnto.2.1 20 = .ok (.if_icmp .ne 5, 3) := by decide +kernel
theorem dP_handOnto_23 : decode mP_handOnto.2.1 23 = .ok (.iload_n 2, 1) := by decide +kernel
theorem dP_handOnto_24 : decode mP_handOnto.2.1 24 = .ok (.ireturn, 1) := by decide +kernel
theorem dP_handOnto_25 : decode mP_handOnto.2.1 25 = .ok (.iinc 2 1, 3) := by decide +kernel
theorem dP_handOnto_28 : decode mP_handOnto.2.1 28 = .ok (.goto (-26), 3) := by decide +kernel
theorem dP_handOnto_31 : decode mP_handOnto.2.1 31 = .ok (.iconst (-1), 1) := by decide +kernel
theorem dP_handOnto_32 : decode mP_handOnto.2.1 32 = .ok (.ireturn, 1) := by decide +kernel
theorem dP_handNearer_0 : decode mP_handNearer.2.1 0 = .ok (.aload_n 0, 1) := by decide +kernel
theorem dP_handNearer_1 : decode mP_handNearer.2.1 1 = .ok (.getfield 15, 3) := by decide +kernel
theorem dP_handNearer_4 : decode mP_handNearer.2.1 4 = .ok (.aload_n 0, 1) := by decide +kernel
theorem dP_handNearer_5 : decode mP_handNearer.2.1 5 = .ok (.getfield 9, 3) := by decide +kernel
theorem dP_handNearer_8 : decode mP_handNearer.2.1 8 = .ok (.iload_n 1, 1) := by decide +kernel
theorem dP_handNearer_9 : decode mP_handNearer.2.1 9 = .ok (.aload_n 0, 1) := by decide +kernel
theorem dP_handNearer_10 : decode mP_handNearer.2.1 10 = .ok (.getfield 69, 3) := by decide +kernel
theorem dP_handNearer_13 : decode mP_handNearer.2.1 13 = .ok (.invokevirtual 73, 3) := by decide +kernel
theorem dP_handNearer_16 : decode mP_handNearer.2.1 16 = .ok (.istore_n 2, 1) := by decide +kernel
theorem dP_handNearer_17 : decode mP_handNearer.2.1 17 = .ok (.iload_n 2, 1) := by decide +kernel
theorem dP_handNearer_18 : decode mP_handNearer.2.1 18 = .ok (.bipush (-9), 2) := by decide +kernel
theorem dP_handNearer_20 : decode mP_handNearer.2.1 20 = .ok (.if_icmp .ne 5, 3) := by decide +kernel
theorem dP_handNearer_23 : decode mP_handNearer.2.1 23 = .ok (.iconst (-1), 1) := by decide +kernel
theorem dP_handNearer_24 : decode mP_handNearer.2.1 24 = .ok (.ireturn, 1) := by decide +kernel
theorem dP_handNearer_25 : decode mP_handNearer.2.1 25 = .ok (.iconst 0, 1) := by decide +kernel
theorem dP_handNearer_26 : decode mP_handNearer.2.1 26 = .ok (.istore_n 3, 1) := by decide +kernel
theorem dP_handNearer_27 : decode mP_handNearer.2.1 27 = .ok (.iload_n 3, 1) := by decide +kernel
theorem dP_handNearer_28 : decode mP_handNearer.2.1 28 = .ok (.iconst 4, 1) := by decide +kernel
theorem dP_handNearer_29 : decode mP_handNearer.2.1 29 = .ok (.if_icmp .ge 45, 3) := by decide +kernel
theorem dP_handNearer_32 : decode mP_handNearer.2.1 32 = .ok (.aload_n 0, 1) := by decide +kernel
theorem dP_handNearer_33 : decode mP_handNearer.2.1 33 = .ok (.getfield 15, 3) := by decide +kernel
theorem dP_handNearer_36 : decode mP_handNearer.2.1 36 = .ok (.aload_n 0, 1) := by decide +kernel
theorem dP_handNearer_37 : decode mP_handNearer.2.1 37 = .ok (.getfield 9, 3) := by decide +kernel
theorem dP_handNearer_40 : decode mP_handNearer.2.1 40 = .ok (.iload_n 3, 1) := by decide +kernel
theorem dP_handNearer_41 : decode mP_handNearer.2.1 41 = .ok (.invokevirtual 66, 3) := by decide +kernel
theorem dP_handNearer_44 : decode mP_handNearer.2.1 44 = .ok (.istore 4, 2) := by decide +kernel
theorem dP_handNearer_46 : decode mP_handNearer.2.1 46 = .ok (.aload_n 0, 1) := by decide +kernel
theorem dP_handNearer_47 : decode mP_handNearer.2.1 47 = .ok (.getfield 15, 3) := by decide +kernel
theorem dP_handNearer_50 : decode mP_handNearer.2.1 50 = .ok (.iload 4, 2) := by decide +kernel
theorem dP_handNearer_52 : decode mP_handNearer.2.1 52 = .ok (.iload_n 1, 1) := by decide +kernel
theorem dP_handNearer_53 : decode mP_handNearer.2.1 53 = .ok (.aload_n 0, 1) := by decide +kernel
theorem dP_handNearer_54 : decode mP_handNearer.2.1 54 = .ok (.getfield 69, 3) := by decide +kernel
theorem dP_handNearer_57 : decode mP_handNearer.2.1 57 = .ok (.invokevirtual 73, 3) := by decide +kernel
theorem dP_handNearer_60 : decode mP_handNearer.2.1 60 = .ok (.iload_n 2, 1) := by decide +kernel
theorem dP_handNearer_61 : decode mP_handNearer.2.1 61 = .ok (.iconst 1, 1) := by decide +kernel
theorem dP_handNearer_62 : decode mP_handNearer.2.1 62 = .ok (.isub, 1) := by decide +kernel
theorem dP_handNearer_63 : decode mP_handNearer.2.1 63 = .ok (.if_icmp .ne 5, 3) := by decide +kernel
theorem dP_handNearer_66 : decode mP_handNearer.2.1 66 = .ok (.iload_n 3, 1) := by decide +kernel
theorem dP_handNearer_67 : decode mP_handNearer.2.1 67 = .ok (.ireturn, 1) := by decide +kernel
theorem dP_handNearer_68 : decode mP_handNearer.2.1 68 = .ok (.iinc 3 1, 3) := by decide +kernel
theorem dP_handNearer_71 : decode mP_handNearer.2.1 71 = .ok (.goto (-44), 3) := by decide +kernel
theorem dP_handNearer_74 : decode mP_handNearer.2.1 74 = .ok (.iconst (-1), 1) := by decide +kernel
theorem dP_handNearer_75 : decode mP_handNearer.2.1 75 = .ok (.ireturn, 1) := by decide +kernel
theorem dP_findsTarget_0 : decode mP_findsTarget.2.1 0 = .ok (.aload_n 1, 1) := by decide +kernel
theorem dP_findsTarget_1 : decode mP_findsTarget.2.1 1 = .ok (.getfield 15, 3) := by decide +kernel
theorem dP_findsTarget_4 : decode mP_findsTarget.2.1 4 = .ok (.astore_n 2, 1) := by decide +kernel
theorem dP_findsTarget_5 : decode mP_findsTarget.2.1 5 = .ok (.aload_n 2, 1) := by decide +kernel
theorem dP_findsTarget_6 : decode mP_findsTarget.2.1 6 = .ok (.getfield 77, 3) := by decide +kernel
theorem dP_findsTarget_9 : decode mP_findsTarget.2.1 9 = .ok (.aload_n 2, 1) := by decide +kernel
theorem dP_findsTarget_10 : decode mP_findsTarget.2.1 10 = .ok (.getfield 80, 3) := by decide +kernel
theorem dP_findsTarget_13 : decode mP_findsTarget.2.1 13 = .ok (.ldc2_w 83, 3) := by decide +kernel
theorem dP_findsTarget_16 : decode mP_findsTarget.2.1 16 = .ok (.lxor, 1) := by decide +kernel
theorem dP_findsTarget_17 : decode mP_findsTarget.2.1 17 = .ok (.land, 1) := by decide +kernel
theorem dP_findsTarget_18 : decode mP_findsTarget.2.1 18 = .ok (.aload_n 1, 1) := by decide +kernel
theorem dP_findsTarget_19 : decode mP_findsTarget.2.1 19 = .ok (.getfield 69, 3) := by decide +kernel
theorem dP_findsTarget_22 : decode mP_findsTarget.2.1 22 = .ok (.ldc2_w 83, 3) := by decide +kernel
theorem dP_findsTarget_25 : decode mP_findsTarget.2.1 25 = .ok (.lxor, 1) := by decide +kernel
theorem dP_findsTarget_26 : decode mP_findsTarget.2.1 26 = .ok (.land, 1) := by decide +kernel
theorem dP_findsTarget_27 : decode mP_findsTarget.2.1 27 = .ok (.aload_n 1, 1) := by decide +kernel
theorem dP_findsTarget_28 : decode mP_findsTarget.2.1 28 = .ok (.getfield 85, 3) := by decide +kernel
theorem dP_findsTarget_31 : decode mP_findsTarget.2.1 31 = .ok (.ldc2_w 83, 3) := by decide +kernel
theorem dP_findsTarget_34 : decode mP_findsTarget.2.1 34 = .ok (.lxor, 1) := by decide +kernel
theorem dP_findsTarget_35 : decode mP_findsTarget.2.1 35 = .ok (.land, 1) := by decide +kernel
theorem dP_findsTarget_36 : decode mP_findsTarget.2.1 36 = .ok (.lstore_n 3, 1) := by decide +kernel
theorem dP_findsTarget_37 : decode mP_findsTarget.2.1 37 = .ok (.aload_n 1, 1) := by decide +kernel
theorem dP_findsTarget_38 : decode mP_findsTarget.2.1 38 = .ok (.getfield 9, 3) := by decide +kernel
theorem dP_findsTarget_41 : decode mP_findsTarget.2.1 41 = .ok (.invokestatic 88, 3) := by decide +kernel
theorem dP_findsTarget_44 : decode mP_findsTarget.2.1 44 = .ok (.aload_n 1, 1) := by decide +kernel
theorem dP_findsTarget_45 : decode mP_findsTarget.2.1 45 = .ok (.getfield 69, 3) := by decide +kernel
theorem dP_findsTarget_48 : decode mP_findsTarget.2.1 48 = .ok (.land, 1) := by decide +kernel
theorem dP_findsTarget_49 : decode mP_findsTarget.2.1 49 = .ok (.lstore 5, 2) := by decide +kernel
theorem dP_findsTarget_51 : decode mP_findsTarget.2.1 51 = .ok (.lload 5, 2) := by decide +kernel
theorem dP_findsTarget_53 : decode mP_findsTarget.2.1 53 = .ok (.lstore 7, 2) := by decide +kernel
theorem dP_findsTarget_55 : decode mP_findsTarget.2.1 55 = .ok (.iconst 0, 1) := by decide +kernel
theorem dP_findsTarget_56 : decode mP_findsTarget.2.1 56 = .ok (.istore 9, 2) := by decide +kernel
theorem dP_findsTarget_58 : decode mP_findsTarget.2.1 58 = .ok (.iload 9, 2) := by decide +kernel
theorem dP_findsTarget_60 : decode mP_findsTarget.2.1 60 = .ok (.bipush 36, 2) := by decide +kernel
theorem dP_findsTarget_62 : decode mP_findsTarget.2.1 62 = .ok (.if_icmp .ge 146, 3) := by decide +kernel
theorem dP_findsTarget_65 : decode mP_findsTarget.2.1 65 = .ok (.lload 7, 2) := by decide +kernel
theorem dP_findsTarget_67 : decode mP_findsTarget.2.1 67 = .ok (.lconst 0, 1) := by decide +kernel
theorem dP_findsTarget_68 : decode mP_findsTarget.2.1 68 = .ok (.lcmp, 1) := by decide +kernel
theorem dP_findsTarget_69 : decode mP_findsTarget.2.1 69 = .ok (.ifCond .eq 139, 3) := by decide +kernel
theorem dP_findsTarget_72 : decode mP_findsTarget.2.1 72 = .ok (.aload_n 1, 1) := by decide +kernel
theorem dP_findsTarget_73 : decode mP_findsTarget.2.1 73 = .ok (.getfield 24, 3) := by decide +kernel
theorem dP_findsTarget_76 : decode mP_findsTarget.2.1 76 = .ok (.iload 9, 2) := by decide +kernel
theorem dP_findsTarget_78 : decode mP_findsTarget.2.1 78 = .ok (.iconst 1, 1) := by decide +kernel
theorem dP_findsTarget_79 : decode mP_findsTarget.2.1 79 = .ok (.iadd, 1) := by decide +kernel
theorem dP_findsTarget_80 : decode mP_findsTarget.2.1 80 = .ok (.isub, 1) := by decide +kernel
theorem dP_findsTarget_81 : decode mP_findsTarget.2.1 81 = .ok (.iconst 1, 1) := by decide +kernel
theorem dP_findsTarget_82 : decode mP_findsTarget.2.1 82 = .ok (.isub, 1) := by decide +kernel
theorem dP_findsTarget_83 : decode mP_findsTarget.2.1 83 = .ok (.istore 10, 2) := by decide +kernel
theorem dP_findsTarget_85 : decode mP_findsTarget.2.1 85 = .ok (.lload 7, 2) := by decide +kernel
theorem dP_findsTarget_87 : decode mP_findsTarget.2.1 87 = .ok (.aload_n 2, 1) := by decide +kernel
theorem dP_findsTarget_88 : decode mP_findsTarget.2.1 88 = .ok (.iload 10, 2) := by decide +kernel
theorem dP_findsTarget_90 : decode mP_findsTarget.2.1 90 = .ok (.aload_n 2, 1) := by decide +kernel
theorem dP_findsTarget_91 : decode mP_findsTarget.2.1 91 = .ok (.getfield 19, 3) := by decide +kernel
theorem dP_findsTarget_94 : decode mP_findsTarget.2.1 94 = .ok (.aload_n 1, 1) := by decide +kernel
theorem dP_findsTarget_95 : decode mP_findsTarget.2.1 95 = .ok (.getfield 69, 3) := by decide +kernel
theorem dP_findsTarget_98 : decode mP_findsTarget.2.1 98 = .ok (.invokevirtual 92, 3) := by decide +kernel
theorem dP_findsTarget_101 : decode mP_findsTarget.2.1 101 = .ok (.land, 1) := by decide +kernel
theorem dP_findsTarget_102 : decode mP_findsTarget.2.1 102 = .ok (.lstore 11, 2) := by decide +kernel
theorem dP_findsTarget_104 : decode mP_findsTarget.2.1 104 = .ok (.aload_n 2, 1) := by decide +kernel
theorem dP_findsTarget_105 : decode mP_findsTarget.2.1 105 = .ok (.lload 11, 2) := by decide +kernel
theorem dP_findsTarget_107 : decode mP_findsTarget.2.1 107 = .ok (.invokevirtual 96, 3) := by decide +kernel
theorem dP_findsTarget_110 : decode mP_findsTarget.2.1 110 = .ok (.lload_n 3, 1) := by decide +kernel
theorem dP_findsTarget_111 : decode mP_findsTarget.2.1 111 = .ok (.land, 1) := by decide +kernel
theorem dP_findsTarget_112 : decode mP_findsTarget.2.1 112 = .ok (.lstore 13, 2) := by decide +kernel
theorem dP_findsTarget_114 : decode mP_findsTarget.2.1 114 = .ok (.lload 13, 2) := by decide +kernel
theorem dP_findsTarget_116 : decode mP_findsTarget.2.1 116 = .ok (.lconst 0, 1) := by decide +kernel
theorem dP_findsTarget_117 : decode mP_findsTarget.2.1 117 = .ok (.lcmp, 1) := by decide +kernel
theorem dP_findsTarget_118 : decode mP_findsTarget.2.1 118 = .ok (.ifCond .eq 57, 3) := by decide +kernel
theorem dP_findsTarget_121 : decode mP_findsTarget.2.1 121 = .ok (.aload_n 0, 1) := by decide +kernel
theorem dP_findsTarget_122 : decode mP_findsTarget.2.1 122 = .ok (.lload 13, 2) := by decide +kernel
theorem dP_findsTarget_124 : decode mP_findsTarget.2.1 124 = .ok (.invokestatic 100, 3) := by decide +kernel
theorem dP_findsTarget_127 : decode mP_findsTarget.2.1 127 = .ok (.putfield 56, 3) := by decide +kernel
theorem dP_findsTarget_130 : decode mP_findsTarget.2.1 130 = .ok (.aload_n 0, 1) := by decide +kernel
theorem dP_findsTarget_131 : decode mP_findsTarget.2.1 131 = .ok (.lload 11, 2) := by decide +kernel
theorem dP_findsTarget_133 : decode mP_findsTarget.2.1 133 = .ok (.aload_n 2, 1) := by decide +kernel
theorem dP_findsTarget_134 : decode mP_findsTarget.2.1 134 = .ok (.aload_n 0, 1) := by decide +kernel
theorem dP_findsTarget_135 : decode mP_findsTarget.2.1 135 = .ok (.getfield 56, 3) := by decide +kernel
theorem dP_findsTarget_138 : decode mP_findsTarget.2.1 138 = .ok (.invokestatic 88, 3) := by decide +kernel
theorem dP_findsTarget_141 : decode mP_findsTarget.2.1 141 = .ok (.invokevirtual 96, 3) := by decide +kernel
theorem dP_findsTarget_144 : decode mP_findsTarget.2.1 144 = .ok (.land, 1) := by decide +kernel
theorem dP_findsTarget_145 : decode mP_findsTarget.2.1 145 = .ok (.invokestatic 100, 3) := by decide +kernel
theorem dP_findsTarget_148 : decode mP_findsTarget.2.1 148 = .ok (.putfield 53, 3) := by decide +kernel
theorem dP_findsTarget_151 : decode mP_findsTarget.2.1 151 = .ok (.aload_n 0, 1) := by decide +kernel
theorem dP_findsTarget_152 : decode mP_findsTarget.2.1 152 = .ok (.iload 9, 2) := by decide +kernel
theorem dP_findsTarget_154 : decode mP_findsTarget.2.1 154 = .ok (.iconst 1, 1) := by decide +kernel
theorem dP_findsTarget_155 : decode mP_findsTarget.2.1 155 = .ok (.iadd, 1) := by decide +kernel
theorem dP_findsTarget_156 : decode mP_findsTarget.2.1 156 = .ok (.putfield 104, 3) := by decide +kernel
theorem dP_findsTarget_159 : decode mP_findsTarget.2.1 159 = .ok (.aload_n 0, 1) := by decide +kernel
theorem dP_findsTarget_160 : decode mP_findsTarget.2.1 160 = .ok (.aload_n 1, 1) := by decide +kernel
theorem dP_findsTarget_161 : decode mP_findsTarget.2.1 161 = .ok (.aload_n 0, 1) := by decide +kernel
theorem dP_findsTarget_162 : decode mP_findsTarget.2.1 162 = .ok (.getfield 53, 3) := by decide +kernel
theorem dP_findsTarget_165 : decode mP_findsTarget.2.1 165 = .ok (.invokevirtual 107, 3) := by decide +kernel
theorem dP_findsTarget_168 : decode mP_findsTarget.2.1 168 = .ok (.iconst 1, 1) := by decide +kernel
theorem dP_findsTarget_169 : decode mP_findsTarget.2.1 169 = .ok (.iadd, 1) := by decide +kernel
theorem dP_findsTarget_170 : decode mP_findsTarget.2.1 170 = .ok (.putfield 110, 3) := by decide +kernel
theorem dP_findsTarget_173 : decode mP_findsTarget.2.1 173 = .ok (.iconst 1, 1) := by decide +kernel
theorem dP_findsTarget_174 : decode mP_findsTarget.2.1 174 = .ok (.ireturn, 1) := by decide +kernel
theorem dP_findsTarget_175 : decode mP_findsTarget.2.1 175 = .ok (.aload_n 2, 1) := by decide +kernel
theorem dP_findsTarget_176 : decode mP_findsTarget.2.1 176 = .ok (.lload 5, 2) := by decide +kernel
theorem dP_findsTarget_178 : decode mP_findsTarget.2.1 178 = .ok (.invokevirtual 96, 3) := by decide +kernel
theorem dP_findsTarget_181 : decode mP_findsTarget.2.1 181 = .ok (.aload_n 1, 1) := by decide +kernel
theorem dP_findsTarget_182 : decode mP_findsTarget.2.1 182 = .ok (.getfield 69, 3) := by decide +kernel
theorem dP_findsTarget_185 : decode mP_findsTarget.2.1 185 = .ok (.land, 1) := by decide +kernel
theorem dP_findsTarget_186 : decode mP_findsTarget.2.1 186 = .ok (.lload 5, 2) := by decide +kernel
theorem dP_findsTarget_188 : decode mP_findsTarget.2.1 188 = .ok (.ldc2_w 83, 3) := by decide +kernel
theorem dP_findsTarget_191 : decode mP_findsTarget.2.1 191 = .ok (.lxor, 1) := by decide +kernel
theorem dP_findsTarget_192 : decode mP_findsTarget.2.1 192 = .ok (.land, 1) := by decide +kernel
theorem dP_findsTarget_193 : decode mP_findsTarget.2.1 193 = .ok (.lstore 7, 2) := by decide +kernel
theorem dP_findsTarget_195 : decode mP_findsTarget.2.1 195 = .ok (.lload 5, 2) := by decide +kernel
theorem dP_findsTarget_197 : decode mP_findsTarget.2.1 197 = .ok (.lload 7, 2) := by decide +kernel
theorem dP_findsTarget_199 : decode mP_findsTarget.2.1 199 = .ok (.lor, 1) := by decide +kernel
theorem dP_findsTarget_200 : decode mP_findsTarget.2.1 200 = .ok (.lstore 5, 2) := by decide +kernel
theorem dP_findsTarget_202 : decode mP_findsTarget.2.1 202 = .ok (.iinc 9 1, 3) := by decide +kernel
theorem dP_findsTarget_205 : decode mP_findsTarget.2.1 205 = .ok (.goto (-147), 3) := by decide +kernel
theorem dP_findsTarget_208 : decode mP_findsTarget.2.1 208 = .ok (.iconst 0, 1) := by decide +kernel
theorem dP_findsTarget_209 : decode mP_findsTarget.2.1 209 = .ok (.ireturn, 1) := by decide +kernel
theorem dS_init_0 : decode mS_init.2.1 0 = .ok (.aload_n 0, 1) := by decide +kernel
theorem dS_init_1 : decode mS_init.2.1 1 = .ok (.invokespecial 3, 3) := by decide +kernel
theorem dS_init_4 : decode mS_init.2.1 4 = .ok (.aload_n 0, 1) := by decide +kernel
theorem dS_init_5 : decode mS_init.2.1 5 = .ok (.iconst 4, 1) := by decide +kernel
theorem dS_init_6 : decode mS_init.2.1 6 = .ok (.newarray .long, 2) := by decide +kernel
theorem dS_init_8 : decode mS_init.2.1 8 = .ok (.putfield 9, 3) := by decide +kernel
theorem dS_init_11 : decode mS_init.2.1 11 = .ok (.aload_n 0, 1) := by decide +kernel
theorem dS_init_12 : decode mS_init.2.1 12 = .ok (.aload_n 1, 1) := by decide +kernel
theorem dS_init_13 : decode mS_init.2.1 13 = .ok (.putfield 15, 3) := by decide +kernel
theorem dS_init_16 : decode mS_init.2.1 16 = .ok (.return_, 1) := by decide +kernel
theorem dS_begin_0 : decode mS_begin.2.1 0 = .ok (.aload_n 0, 1) := by decide +kernel
theorem dS_begin_1 : decode mS_begin.2.1 1 = .ok (.lconst 0, 1) := by decide +kernel
theorem dS_begin_2 : decode mS_begin.2.1 2 = .ok (.putfield 19, 3) := by decide +kernel
theorem dS_begin_5 : decode mS_begin.2.1 5 = .ok (.aload_n 0, 1) := by decide +kernel
theorem dS_begin_6 : decode mS_begin.2.1 6 = .ok (.bipush 40, 2) := by decide +kernel
theorem dS_begin_8 : decode mS_begin.2.1 8 = .ok (.putfield 23, 3) := by decide +kernel
theorem dS_begin_11 : decode mS_begin.2.1 11 = .ok (.aload_n 0, 1) := by decide +kernel
theorem dS_begin_12 : decode mS_begin.2.1 12 = .ok (.iconst 5, 1) := by decide +kernel
theorem dS_begin_13 : decode mS_begin.2.1 13 = .ok (.putfield 27, 3) := by decide +kernel
theorem dS_begin_16 : decode mS_begin.2.1 16 = .ok (.aload_n 0, 1) := by decide +kernel
theorem dS_begin_17 : decode mS_begin.2.1 17 = .ok (.aload_n 0, 1) := by decide +kernel
theorem dS_begin_18 : decode mS_begin.2.1 18 = .ok (.getfield 15, 3) := by decide +kernel
theorem dS_begin_21 : decode mS_begin.2.1 21 = .ok (.getfield 30, 3) := by decide +kernel
theorem dS_begin_24 : decode mS_begin.2.1 24 = .ok (.putfield 35, 3) := by decide +kernel
theorem dS_begin_27 : decode mS_begin.2.1 27 = .ok (.aload_n 0, 1) := by decide +kernel
theorem dS_begin_28 : decode mS_begin.2.1 28 = .ok (.iconst 0, 1) := by decide +kernel
theorem dS_begin_29 : decode mS_begin.2.1 29 = .ok (.putfield 38, 3) := by decide +kernel
theorem dS_begin_32 : decode mS_begin.2.1 32 = .ok (.aload_n 0, 1) := by decide +kernel
theorem dS_begin_33 : decode mS_begin.2.1 33 = .ok (.bipush 40, 2) := by decide +kernel
theorem dS_begin_35 : decode mS_begin.2.1 35 = .ok (.putfield 41, 3) := by decide +kernel
theorem dS_begin_38 : decode mS_begin.2.1 38 = .ok (.aload_n 0, 1) := by decide +kernel
theorem dS_begin_39 : decode mS_begin.2.1 39 = .ok (.aload_n 0, 1) := by decide +kernel
theorem dS_begin_40 : decode mS_begin.2.1 40 = .ok (.getfield 15, 3) := by decide +kernel
theorem dS_begin_43 : decode mS_begin.2.1 43 = .ok (.getfield 30, 3) := by decide +kernel
theorem dS_begin_46 : decode mS_begin.2.1 46 = .ok (.invokestatic 44, 3) := by decide +kernel
theorem dS_begin_49 : decode mS_begin.2.1 49 = .ok (.putfield 48, 3) := by decide +kernel
theorem dS_begin_52 : decode mS_begin.2.1 52 = .ok (.aload_n 0, 1) := by decide +kernel
theorem dS_begin_53 : decode mS_begin.2.1 53 = .ok (.lconst 0, 1) := by decide +kernel
theorem dS_begin_54 : decode mS_begin.2.1 54 = .ok (.putfield 51, 3) := by decide +kernel
theorem dS_begin_57 : decode mS_begin.2.1 57 = .ok (.aload_n 0, 1) := by decide +kernel
theorem dS_begin_58 : decode mS_begin.2.1 58 = .ok (.iconst 0, 1) := by decide +kernel
theorem dS_begin_59 : decode mS_begin.2.1 59 = .ok (.putfield 54, 3) := by decide +kernel
theorem dS_begin_62 : decode mS_begin.2.1 62 = .ok (.return_, 1) := by decide +kernel
theorem dS_copyFrom_0 : decode mS_copyFrom.2.1 0 = .ok (.aload_n 0, 1) := by decide +kernel
theorem dS_copyFrom_1 : decode mS_copyFrom.2.1 1 = .ok (.aload_n 1, 1) := by decide +kernel
theorem dS_copyFrom_2 : decode mS_copyFrom.2.1 2 = .ok (.getfield 19, 3) := by decide +kernel
theorem dS_copyFrom_5 : decode mS_copyFrom.2.1 5 = .ok (.putfield 19, 3) := by decide +kernel
theorem dS_copyFrom_8 : decode mS_copyFrom.2.1 8 = .ok (.aload_n 0, 1) := by decide +kernel
theorem dS_copyFrom_9 : decode mS_copyFrom.2.1 9 = .ok (.aload_n 1, 1) := by decide +kernel
theorem dS_copyFrom_10 : decode mS_copyFrom.2.1 10 = .ok (.getfield 23, 3) := by decide +kernel
theorem dS_copyFrom_13 : decode mS_copyFrom.2.1 13 = .ok (.putfield 23, 3) := by decide +kernel
theorem dS_copyFrom_16 : decode mS_copyFrom.2.1 16 = .ok (.aload_n 0, 1) := by decide +kernel
theorem dS_copyFrom_17 : decode mS_copyFrom.2.1 17 = .ok (.aload_n 1, 1) := by decide +kernel
theorem dS_copyFrom_18 : decode mS_copyFrom.2.1 18 = .ok (.getfield 27, 3) := by decide +kernel
theorem dS_copyFrom_21 : decode mS_copyFrom.2.1 21 = .ok (.putfield 27, 3) := by decide +kernel
theorem dS_copyFrom_24 : decode mS_copyFrom.2.1 24 = .ok (.aload_n 0, 1) := by decide +kernel
theorem dS_copyFrom_25 : decode mS_copyFrom.2.1 25 = .ok (.aload_n 1, 1) := by decide +kernel
theorem dS_copyFrom_26 : decode mS_copyFrom.2.1 26 = .ok (.getfield 35, 3) := by decide +kernel
theorem dS_copyFrom_29 : decode mS_copyFrom.2.1 29 = .ok (.putfield 35, 3) := by decide +kernel
theorem dS_copyFrom_32 : decode mS_copyFrom.2.1 32 = .ok (.aload_n 0, 1) := by decide +kernel
theorem dS_copyFrom_33 : decode mS_copyFrom.2.1 33 = .ok (.aload_n 1, 1) := by decide +kernel
theorem dS_copyFrom_34 : decode mS_copyFrom.2.1 34 = .ok (.getfield 38, 3) := by decide +kernel
theorem dS_copyFrom_37 : decode mS_copyFrom.2.1 37 = .ok (.putfield 38, 3) := by decide +kernel
theorem dS_copyFrom_40 : decode mS_copyFrom.2.1 40 = .ok (.aload_n 0, 1) := by decide +kernel
theorem dS_copyFrom_41 : decode mS_copyFrom.2.1 41 = .ok (.aload_n 1, 1) := by decide +kernel
theorem dS_copyFrom_42 : decode mS_copyFrom.2.1 42 = .ok (.getfield 41, 3) := by decide +kernel
theorem dS_copyFrom_45 : decode mS_copyFrom.2.1 45 = .ok (.putfield 41, 3) := by decide +kernel
theorem dS_copyFrom_48 : decode mS_copyFrom.2.1 48 = .ok (.aload_n 0, 1) := by decide +kernel
theorem dS_copyFrom_49 : decode mS_copyFrom.2.1 49 = .ok (.aload_n 1, 1) := by decide +kernel
theorem dS_copyFrom_50 : decode mS_copyFrom.2.1 50 = .ok (.getfield 48, 3) := by decide +kernel
theorem dS_copyFrom_53 : decode mS_copyFrom.2.1 53 = .ok (.putfield 48, 3) := by decide +kernel
theorem dS_copyFrom_56 : decode mS_copyFrom.2.1 56 = .ok (.aload_n 0, 1) := by decide +kernel
theorem dS_copyFrom_57 : decode mS_copyFrom.2.1 57 = .ok (.aload_n 1, 1) := by decide +kernel
theorem dS_copyFrom_58 : decode mS_copyFrom.2.1 58 = .ok (.getfield 51, 3) := by decide +kernel
theorem dS_copyFrom_61 : decode mS_copyFrom.2.1 61 = .ok (.putfield 51, 3) := by decide +kernel
theorem dS_copyFrom_64 : decode mS_copyFrom.2.1 64 = .ok (.aload_n 0, 1) := by decide +kernel
theorem dS_copyFrom_65 : decode mS_copyFrom.2.1 65 = .ok (.aload_n 1, 1) := by decide +kernel
theorem dS_copyFrom_66 : decode mS_copyFrom.2.1 66 = .ok (.getfield 54, 3) := by decide +kernel
theorem dS_copyFrom_69 : decode mS_copyFrom.2.1 69 = .ok (.putfield 54, 3) := by decide +kernel
theorem dS_copyFrom_72 : decode mS_copyFrom.2.1 72 = .ok (.aload_n 1, 1) := by decide +kernel
theorem dS_copyFrom_73 : decode mS_copyFrom.2.1 73 = .ok (.getfield 9, 3) := by decide +kernel
theorem dS_copyFrom_76 : decode mS_copyFrom.2.1 76 = .ok (.iconst 0, 1) := by decide +kernel
theorem dS_copyFrom_77 : decode mS_copyFrom.2.1 77 = .ok (.aload_n 0, 1) := by decide +kernel
theorem dS_copyFrom_78 : decode mS_copyFrom.2.1 78 = .ok (.getfield 9, 3) := by decide +kernel
theorem dS_copyFrom_81 : decode mS_copyFrom.2.1 81 = .ok (.iconst 0, 1) := by decide +kernel
theorem dS_copyFrom_82 : decode mS_copyFrom.2.1 82 = .ok (.iconst 4, 1) := by decide +kernel
theorem dS_copyFrom_83 : decode mS_copyFrom.2.1 83 = .ok (.invokestatic 58, 3) := by decide +kernel
theorem dS_copyFrom_86 : decode mS_copyFrom.2.1 86 = .ok (.return_, 1) := by decide +kernel
theorem dS_freeCells_0 : decode mS_freeCells.2.1 0 = .ok (.aload_n 0, 1) := by decide +kernel
theorem dS_freeCells_1 : decode mS_freeCells.2.1 1 = .ok (.getfield 15, 3) := by decide +kernel
theorem dS_freeCells_4 : decode mS_freeCells.2.1 4 = .ok (.getfield 64, 3) := by decide +kernel
theorem dS_freeCells_7 : decode mS_freeCells.2.1 7 = .ok (.aload_n 0, 1) := by decide +kernel
theorem dS_freeCells_8 : decode mS_freeCells.2.1 8 = .ok (.getfield 15, 3) := by decide +kernel
theorem dS_freeCells_11 : decode mS_freeCells.2.1 11 = .ok (.getfield 30, 3) := by decide +kernel
theorem dS_freeCells_14 : decode mS_freeCells.2.1 14 = .ok (.invokestatic 44, 3) := by decide +kernel
theorem dS_freeCells_17 : decode mS_freeCells.2.1 17 = .ok (.lor, 1) := by decide +kernel
theorem dS_freeCells_18 : decode mS_freeCells.2.1 18 = .ok (.aload_n 0, 1) := by decide +kernel
theorem dS_freeCells_19 : decode mS_freeCells.2.1 19 = .ok (.getfield 15, 3) := by decide +kernel
theorem dS_freeCells_22 : decode mS_freeCells.2.1 22 = .ok (.getfield 67, 3) := by decide +kernel
theorem dS_freeCells_25 : decode mS_freeCells.2.1 25 = .ok (.lor, 1) := by decide +kernel
theorem dS_freeCells_26 : decode mS_freeCells.2.1 26 = .ok (.aload_n 0, 1) := by decide +kernel
theorem dS_freeCells_27 : decode mS_freeCells.2.1 27 = .ok (.getfield 19, 3) := by decide +kernel
theorem dS_freeCells_30 : decode mS_freeCells.2.1 30 = .ok (.ldc2_w 70, 3) := by decide +kernel
theorem dS_freeCells_33 : decode mS_freeCells.2.1 33 = .ok (.lxor, 1) := by decide +kernel
theorem dS_freeCells_34 : decode mS_freeCells.2.1 34 = .ok (.land, 1) := by decide +kernel
theorem dS_freeCells_35 : decode mS_freeCells.2.1 35 = .ok (.lreturn, 1) := by decide +kernel
theorem dS_kindOf_0 : decode mS_kindOf.2.1 0 = .ok (.iload_n 1, 1) := by decide +kernel
theorem dS_kindOf_1 : decode mS_kindOf.2.1 1 = .ok (.aload_n 0, 1) := by decide +kernel
theorem dS_kindOf_2 : decode mS_kindOf.2.1 2 = .ok (.getfield 15, 3) := by decide +kernel
theorem dS_kindOf_5 : decode mS_kindOf.2.1 5 = .ok (.getfield 30, 3) := by decide +kernel
theorem dS_kindOf_8 : decode mS_kindOf.2.1 8 = .ok (.if_icmp .ne 6, 3) := by decide +kernel
theorem dS_kindOf_11 : decode mS_kindOf.2.1 11 = .ok (.bipush 6, 2) := by decide +kernel
theorem dS_kindOf_13 : decode mS_kindOf.2.1 13 = .ok (.ireturn, 1) := by decide +kernel
theorem dS_kindOf_14 : decode mS_kindOf.2.1 14 = .ok (.aload_n 0, 1) := by decide +kernel
theorem dS_kindOf_15 : decode mS_kindOf.2.1 15 = .ok (.getfield 15, 3) := by decide +kernel
theorem dS_kindOf_18 : decode mS_kindOf.2.1 18 = .ok (.getfield 64, 3) := by decide +kernel
theorem dS_kindOf_21 : decode mS_kindOf.2.1 21 = .ok (.iload_n 1, 1) := by decide +kernel
theorem dS_kindOf_22 : decode mS_kindOf.2.1 22 = .ok (.invokestatic 72, 3) := by decide +kernel
theorem dS_kindOf_25 : decode mS_kindOf.2.1 25 = .ok (.ifCond .eq 5, 3) := by decide +kernel
theorem dS_kindOf_28 : decode mS_kindOf.2.1 28 = .ok (.iconst 0, 1) := by decide +kernel
theorem dS_kindOf_29 : decode mS_kindOf.2.1 29 = .ok (.ireturn, 1) := by decide +kernel
theorem dS_kindOf_30 : decode mS_kindOf.2.1 30 = .ok (.aload_n 0, 1) := by decide +kernel
theorem dS_kindOf_31 : decode mS_kindOf.2.1 31 = .ok (.getfield 15, 3) := by decide +kernel
theorem dS_kindOf_34 : decode mS_kindOf.2.1 34 = .ok (.getfield 67, 3) := by decide +kernel
theorem dS_kindOf_37 : decode mS_kindOf.2.1 37 = .ok (.iload_n 1, 1) := by decide +kernel
theorem dS_kindOf_38 : decode mS_kindOf.2.1 38 = .ok (.invokestatic 72, 3) := by decide +kernel
theorem dS_kindOf_41 : decode mS_kindOf.2.1 41 = .ok (.ifCond .eq 20, 3) := by decide +kernel
theorem dS_kindOf_44 : decode mS_kindOf.2.1 44 = .ok (.aload_n 0, 1) := by decide +kernel
theorem dS_kindOf_45 : decode mS_kindOf.2.1 45 = .ok (.getfield 19, 3) := by decide +kernel
theorem dS_kindOf_48 : decode mS_kindOf.2.1 48 = .ok (.iload_n 1, 1) := by decide +kernel
theorem dS_kindOf_49 : decode mS_kindOf.2.1 49 = .ok (.invokestatic 72, 3) := by decide +kernel
theorem dS_kindOf_52 : decode mS_kindOf.2.1 52 = .ok (.ifCond .eq 7, 3) := by decide +kernel
theorem dS_kindOf_55 : decode mS_kindOf.2.1 55 = .ok (.iconst 5, 1) := by decide +kernel
theorem dS_kindOf_56 : decode mS_kindOf.2.1 56 = .ok (.goto 4, 3) := by decide +kernel
theorem dS_kindOf_59 : decode mS_kindOf.2.1 59 = .ok (.iconst 4, 1) := by decide +kernel
theorem dS_kindOf_60 : decode mS_kindOf.2.1 60 = .ok (.ireturn, 1) := by decide +kernel
theorem dS_kindOf_61 : decode mS_kindOf.2.1 61 = .ok (.aload_n 0, 1) := by decide +kernel
theorem dS_kindOf_62 : decode mS_kindOf.2.1 62 = .ok (.getfield 15, 3) := by decide +kernel
theorem dS_kindOf_65 : decode mS_kindOf.2.1 65 = .ok (.getfield 76, 3) := by decide +kernel
theorem dS_kindOf_68 : decode mS_kindOf.2.1 68 = .ok (.iload_n 1, 1) := by decide +kernel
theorem dS_kindOf_69 : decode mS_kindOf.2.1 69 = .ok (.invokestatic 72, 3) := by decide +kernel
theorem dS_kindOf_72 : decode mS_kindOf.2.1 72 = .ok (.ifCond .eq 5, 3) := by decide +kernel
theorem dS_kindOf_75 : decode mS_kindOf.2.1 75 = .ok (.iconst 3, 1) := by decide +kernel
theorem dS_kindOf_76 : decode mS_kindOf.2.1 76 = .ok (.ireturn, 1) := by decide +kernel
theorem dS_kindOf_77 : decode mS_kindOf.2.1 77 = .ok (.aload_n 0, 1) := by decide +kernel
theorem dS_kindOf_78 : decode mS_kindOf.2.1 78 = .ok (.getfield 15, 3) := by decide +kernel
theorem dS_kindOf_81 : decode mS_kindOf.2.1 81 = .ok (.getfield 79, 3) := by decide +kernel
theorem dS_kindOf_84 : decode mS_kindOf.2.1 84 = .ok (.iload_n 1, 1) := by decide +kernel
theorem dS_kindOf_85 : decode mS_kindOf.2.1 85 = .ok (.invokestatic 72, 3) := by decide +kernel
theorem dS_kindOf_88 : decode mS_kindOf.2.1 88 = .ok (.ifCond .eq 7, 3) := by decide +kernel
theorem dS_kindOf_91 : decode mS_kindOf.2.1 91 = .ok (.iconst 2, 1) := by decide +kernel
theorem dS_kindOf_92 : decode mS_kindOf.2.1 92 = .ok (.goto 4, 3) := by decide +kernel
theorem dS_kindOf_95 : decode mS_kindOf.2.1 95 = .ok (.iconst 1, 1) := by decide +kernel
theorem dS_kindOf_96 : decode mS_kindOf.2.1 96 = .ok (.ireturn, 1) := by decide +kernel
theorem dS_knowledgeOf_0 : decode mS_knowledgeOf.2.1 0 = .ok (.aload_n 0, 1) := by decide +kernel
theorem dS_knowledgeOf_1 : decode mS_knowledgeOf.2.1 1 = .ok (.getfield 48, 3) := by decide +kernel
theorem dS_knowledgeOf_4 : decode mS_knowledgeOf.2.1 4 = .ok (.iload_n 1, 1) := by decide +kernel
theorem dS_knowledgeOf_5 : decode mS_knowledgeOf.2.1 5 = .ok (.invokestatic 72, 3) := by decide +kernel
theorem dS_knowledgeOf_8 : decode mS_knowledgeOf.2.1 8 = .ok (.ifCond .eq 5, 3) := by decide +kernel
theorem dS_knowledgeOf_11 : decode mS_knowledgeOf.2.1 11 = .ok (.iconst 1, 1) := by decide +kernel
theorem dS_knowledgeOf_12 : decode mS_knowledgeOf.2.1 12 = .ok (.ireturn, 1) := by decide +kernel
theorem dS_knowledgeOf_13 : decode mS_knowledgeOf.2.1 13 = .ok (.aload_n 0, 1) := by decide +kernel
theorem dS_knowledgeOf_14 : decode mS_knowledgeOf.2.1 14 = .ok (.getfield 51, 3) := by decide +kernel
theorem dS_knowledgeOf_17 : decode mS_knowledgeOf.2.1 17 = .ok (.iload_n 1, 1) := by decide +kernel
theorem dS_knowledgeOf_18 : decode mS_knowledgeOf.2.1 18 = .ok (.invokestatic 72, 3) := by decide +kernel
theorem dS_knowledgeOf_21 : decode mS_knowledgeOf.2.1 21 = .ok (.ifCond .eq 7, 3) := by decide +kernel
theorem dS_knowledgeOf_24 : decode mS_knowledgeOf.2.1 24 = .ok (.iconst 2, 1) := by decide +kernel
theorem dS_knowledgeOf_25 : decode mS_knowledgeOf.2.1 25 = .ok (.goto 4, 3) := by decide +kernel
theorem dS_knowledgeOf_28 : decode mS_knowledgeOf.2.1 28 = .ok (.iconst 0, 1) := by decide +kernel
theorem dS_knowledgeOf_29 : decode mS_knowledgeOf.2.1 29 = .ok (.ireturn, 1) := by decide +kernel
theorem dS_homeOf_0 : decode mS_homeOf.2.1 0 = .ok (.aload_n 0, 1) := by decide +kernel
theorem dS_homeOf_1 : decode mS_homeOf.2.1 1 = .ok (.getfield 15, 3) := by decide +kernel
theorem dS_homeOf_4 : decode mS_homeOf.2.1 4 = .ok (.iload_n 1, 1) := by decide +kernel
theorem dS_homeOf_5 : decode mS_homeOf.2.1 5 = .ok (.aload_n 0, 1) := by decide +kernel
theorem dS_homeOf_6 : decode mS_homeOf.2.1 6 = .ok (.getfield 15, 3) := by decide +kernel
theorem dS_homeOf_9 : decode mS_homeOf.2.1 9 = .ok (.getfield 30, 3) := by decide +kernel
theorem dS_homeOf_12 : decode mS_homeOf.2.1 12 = .ok (.aload_n 0, 1) := by decide +kernel
theorem dS_homeOf_13 : decode mS_homeOf.2.1 13 = .ok (.getfield 48, 3) := by decide +kernel
theorem dS_homeOf_16 : decode mS_homeOf.2.1 16 = .ok (.invokevirtual 82, 3) := by decide +kernel
theorem dS_homeOf_19 : decode mS_homeOf.2.1 19 = .ok (.ireturn, 1) := by decide +kernel
theorem dS_stepTo_0 : decode mS_stepTo.2.1 0 = .ok (.aload_n 0, 1) := by decide +kernel
theorem dS_stepTo_1 : decode mS_stepTo.2.1 1 = .ok (.iload_n 1, 1) := by decide +kernel
theorem dS_stepTo_2 : decode mS_stepTo.2.1 2 = .ok (.putfield 38, 3) := by decide +kernel
theorem dS_stepTo_5 : decode mS_stepTo.2.1 5 = .ok (.aload_n 0, 1) := by decide +kernel
theorem dS_stepTo_6 : decode mS_stepTo.2.1 6 = .ok (.dup, 1) := by decide +kernel
theorem dS_stepTo_7 : decode mS_stepTo.2.1 7 = .ok (.getfield 41, 3) := by decide +kernel
theorem dS_stepTo_10 : decode mS_stepTo.2.1 10 = .ok (.iconst 1, 1) := by decide +kernel
theorem dS_stepTo_11 : decode mS_stepTo.2.1 11 = .ok (.isub, 1) := by decide +kernel
theorem dS_stepTo_12 : decode mS_stepTo.2.1 12 = .ok (.putfield 41, 3) := by decide +kernel
theorem dS_stepTo_15 : decode mS_stepTo.2.1 15 = .ok (.aload_n 0, 1) := by decide +kernel
theorem dS_stepTo_16 : decode mS_stepTo.2.1 16 = .ok (.getfield 15, 3) := by decide +kernel
theorem dS_stepTo_19 : decode mS_stepTo.2.1 19 = .ok (.aload_n 0, 1) := by decide +kernel
theorem dS_stepTo_20 : decode mS_stepTo.2.1 20 = .ok (.getfield 35, 3) := by decide +kernel
theorem dS_stepTo_23 : decode mS_stepTo.2.1 23 = .ok (.iload_n 1, 1) := by decide +kernel
theorem dS_stepTo_24 : decode mS_stepTo.2.1 24 = .ok (.invokevirtual 86, 3) := by decide +kernel
theorem dS_stepTo_27 : decode mS_stepTo.2.1 27 = .ok (.istore_n 2, 1) := by decide +kernel
theorem dS_stepTo_28 : decode mS_stepTo.2.1 28 = .ok (.aload_n 0, 1) := by decide +kernel
theorem dS_stepTo_29 : decode mS_stepTo.2.1 29 = .ok (.iload_n 2, 1) := by decide +kernel
theorem dS_stepTo_30 : decode mS_stepTo.2.1 30 = .ok (.invokevirtual 90, 3) := by decide +kernel
theorem dS_stepTo_33 : decode mS_stepTo.2.1 33 = .ok (.istore_n 3, 1) := by decide +kernel
theorem dS_stepTo_34 : decode mS_stepTo.2.1 34 = .ok (.aload_n 0, 1) := by decide +kernel
theorem dS_stepTo_35 : decode mS_stepTo.2.1 35 = .ok (.getfield 54, 3) := by decide +kernel
theorem dS_stepTo_38 : decode mS_stepTo.2.1 38 = .ok (.ifCond .eq 11, 3) := by decide +kernel
theorem dS_stepTo_41 : decode mS_stepTo.2.1 41 = .ok (.aload_n 0, 1) := by decide +kernel
theorem dS_stepTo_42 : decode mS_stepTo.2.1 42 = .ok (.iload_n 3, 1) := by decide +kernel
theorem dS_stepTo_43 : decode mS_stepTo.2.1 43 = .ok (.invokevirtual 94, 3) := by decide +kernel
theorem dS_stepTo_46 : decode mS_stepTo.2.1 46 = .ok (.goto 9, 3) := by decide +kernel
theorem dS_stepTo_49 : decode mS_stepTo.2.1 49 = .ok (.aload_n 0, 1) := by decide +kernel
theorem dS_stepTo_50 : decode mS_stepTo.2.1 50 = .ok (.iload_n 2, 1) := by decide +kernel
theorem dS_stepTo_51 : decode mS_stepTo.2.1 51 = .ok (.iload_n 3, 1) := by decide +kernel
theorem dS_stepTo_52 : decode mS_stepTo.2.1 52 = .ok (.invokevirtual 98, 3) := by decide +kernel
theorem dS_stepTo_55 : decode mS_stepTo.2.1 55 = .ok (.iload_n 3, 1) := by decide +kernel
theorem dS_stepTo_56 : decode mS_stepTo.2.1 56 = .ok (.ifCond .ne 8, 3) := by decide +kernel
theorem dS_stepTo_59 : decode mS_stepTo.2.1 59 = .ok (.aload_n 0, 1) := by decide +kernel
theorem dS_stepTo_60 : decode mS_stepTo.2.1 60 = .ok (.iload_n 2, 1) := by decide +kernel
theorem dS_stepTo_61 : decode mS_stepTo.2.1 61 = .ok (.putfield 35, 3) := by decide +kernel
theorem dS_stepTo_64 : decode mS_stepTo.2.1 64 = .ok (.iload_n 3, 1) := by decide +kernel
theorem dS_stepTo_65 : decode mS_stepTo.2.1 65 = .ok (.ireturn, 1) := by decide +kernel
theorem dS_outcomeAt_0 : decode mS_outcomeAt.2.1 0 = .ok (.aload_n 0, 1) := by decide +kernel
theorem dS_outcomeAt_1 : decode mS_outcomeAt.2.1 1 = .ok (.invokevirtual 102, 3) := by decide +kernel
theorem dS_outcomeAt_4 : decode mS_outcomeAt.2.1 4 = .ok (.iload_n 1, 1) := by decide +kernel
theorem dS_outcomeAt_5 : decode mS_outcomeAt.2.1 5 = .ok (.invokestatic 72, 3) := by decide +kernel
theorem dS_outcomeAt_8 : decode mS_outcomeAt.2.1 8 = .ok (.ifCond .eq 5, 3) := by decide +kernel
theorem dS_outcomeAt_11 : decode mS_outcomeAt.2.1 11 = .ok (.iconst 0, 1) := by decide +kernel
theorem dS_outcomeAt_12 : decode mS_outcomeAt.2.1 12 = .ok (.ireturn, 1) := by decide +kernel
theorem dS_outcomeAt_13 : decode mS_outcomeAt.2.1 13 = .ok (.aload_n 0, 1) := by decide +kernel
theorem dS_outcomeAt_14 : decode mS_outcomeAt.2.1 14 = .ok (.getfield 15, 3) := by decide +kernel
theorem dS_outcomeAt_17 : decode mS_outcomeAt.2.1 17 = .ok (.getfield 79, 3) := by decide +kernel
theorem dS_outcomeAt_20 : decode mS_outcomeAt.2.1 20 = .ok (.iload_n 1, 1) := by decide +kernel
theorem dS_outcomeAt_21 : decode mS_outcomeAt.2.1 21 = .ok (.invokestatic 72, 3) := by decide +kernel
theorem dS_outcomeAt_24 : decode mS_outcomeAt.2.1 24 = .ok (.ifCond .eq 5, 3) := by decide +kernel
theorem dS_outcomeAt_27 : decode mS_outcomeAt.2.1 27 = .ok (.iconst 2, 1) := by decide +kernel
theorem dS_outcomeAt_28 : decode mS_outcomeAt.2.1 28 = .ok (.ireturn, 1) := by decide +kernel
theorem dS_outcomeAt_29 : decode mS_outcomeAt.2.1 29 = .ok (.aload_n 0, 1) := by decide +kernel
theorem dS_outcomeAt_30 : decode mS_outcomeAt.2.1 30 = .ok (.getfield 15, 3) := by decide +kernel
theorem dS_outcomeAt_33 : decode mS_outcomeAt.2.1 33 = .ok (.getfield 76, 3) := by decide +kernel
theorem dS_outcomeAt_36 : decode mS_outcomeAt.2.1 36 = .ok (.iload_n 1, 1) := by decide +kernel
theorem dS_outcomeAt_37 : decode mS_outcomeAt.2.1 37 = .ok (.invokestatic 72, 3) := by decide +kernel
theorem dS_outcomeAt_40 : decode mS_outcomeAt.2.1 40 = .ok (.ifCond .eq 7, 3) := by decide +kernel
theorem dS_outcomeAt_43 : decode mS_outcomeAt.2.1 43 = .ok (.iconst 3, 1) := by decide +kernel
theorem dS_outcomeAt_44 : decode mS_outcomeAt.2.1 44 = .ok (.goto 4, 3) := by decide +kernel
theorem dS_outcomeAt_47 : decode mS_outcomeAt.2.1 47 = .ok (.iconst 1, 1) := by decide +kernel
theorem dS_outcomeAt_48 : decode mS_outcomeAt.2.1 48 = .ok (.ireturn, 1) := by decide +kernel
theorem dS_learn_0 : decode mS_learn.2.1 0 = .ok (.iload_n 2, 1) := by decide +kernel
theorem dS_learn_1 : decode mS_learn.2.1 1 = .ok (.ifCond .ne 36, 3) := by decide +kernel
theorem dS_learn_4 : decode mS_learn.2.1 4 = .ok (.aload_n 0, 1) := by decide +kernel
theorem dS_learn_5 : decode mS_learn.2.1 5 = .ok (.dup, 1) := by decide +kernel
theorem dS_learn_6 : decode mS_learn.2.1 6 = .ok (.getfield 48, 3) := by decide +kernel
theorem dS_learn_9 : decode mS_learn.2.1 9 = .ok (.iload_n 1, 1) := by decide +kernel
theorem dS_learn_10 : decode mS_learn.2.1 10 = .ok (.invokestatic 44, 3) := by decide +kernel
theorem dS_learn_13 : decode mS_learn.2.1 13 = .ok (.lor, 1) := by decide +kernel
theorem dS_learn_14 : decode mS_learn.2.1 14 = .ok (.putfield 48, 3) := by decide +kernel
theorem dS_learn_17 : decode mS_learn.2.1 17 = .ok (.aload_n 0, 1) := by decide +kernel
theorem dS_learn_18 : decode mS_learn.2.1 18 = .ok (.dup, 1) := by decide +kernel
theorem dS_learn_19 : decode mS_learn.2.1 19 = .ok (.getfield 51, 3) := by decide +kernel
theorem dS_learn_22 : decode mS_learn.2.1 22 = .ok (.iload_n 1, 1) := by decide +kernel
theorem dS_learn_23 : decode mS_learn.2.1 23 = .ok (.invokestatic 44, 3) := by decide +kernel
theorem dS_learn_26 : decode mS_learn.2.1 26 = .ok (.ldc2_w 70, 3) := by decide +kernel
theorem dS_learn_29 : decode mS_learn.2.1 29 = .ok (.lxor, 1) := by decide +kernel
theorem dS_learn_30 : decode mS_learn.2.1 30 = .ok (.land, 1) := by decide +kernel
theorem dS_learn_31 : decode mS_learn.2.1 31 = .ok (.putfield 51, 3) := by decide +kernel
theorem dS_learn_34 : decode mS_learn.2.1 34 = .ok (.goto 38, 3) := by decide +kernel
theorem dS_learn_37 : decode mS_learn.2.1 37 = .ok (.iload_n 2, 1) := by decide +kernel
theorem dS_learn_38 : decode mS_learn.2.1 38 = .ok (.iconst 3, 1) := by decide +kernel
theorem dS_learn_39 : decode mS_learn.2.1 39 = .ok (.if_icmp .eq 33, 3) := by decide +kernel
theorem dS_learn_42 : decode mS_learn.2.1 42 = .ok (.aload_n 0, 1) := by decide +kernel
theorem dS_learn_43 : decode mS_learn.2.1 43 = .ok (.dup, 1) := by decide +kernel
theorem dS_learn_44 : decode mS_learn.2.1 44 = .ok (.getfield 51, 3) := by decide +kernel
theorem dS_learn_47 : decode mS_learn.2.1 47 = .ok (.iload_n 1, 1) := by decide +kernel
theorem dS_learn_48 : decode mS_learn.2.1 48 = .ok (.invokestatic 44, 3) := by decide +kernel
theorem dS_learn_51 : decode mS_learn.2.1 51 = .ok (.lor, 1) := by decide +kernel
theorem dS_learn_52 : decode mS_learn.2.1 52 = .ok (.putfield 51, 3) := by decide +kernel
theorem dS_learn_55 : decode mS_learn.2.1 55 = .ok (.aload_n 0, 1) := by decide +kernel
theorem dS_learn_56 : decode mS_learn.2.1 56 = .ok (.dup, 1) := by decide +kernel
theorem dS_learn_57 : decode mS_learn.2.1 57 = .ok (.getfield 48, 3) := by decide +kernel
theorem dS_learn_60 : decode mS_learn.2.1 60 = .ok (.iload_n 1, 1) := by decide +kernel
theorem dS_learn_61 : decode mS_learn.2.1 61 = .ok (.invokestatic 44, 3) := by decide +kernel
theorem dS_learn_64 : decode mS_learn.2.1 64 = .ok (.ldc2_w 70, 3) := by decide +kernel
theorem dS_learn_67 : decode mS_learn.2.1 67 = .ok (.lxor, 1) := by decide +kernel
theorem dS_learn_68 : decode mS_learn.2.1 68 = .ok (.land, 1) := by decide +kernel
theorem dS_learn_69 : decode mS_learn.2.1 69 = .ok (.putfield 48, 3) := by decide +kernel
theorem dS_learn_72 : decode mS_learn.2.1 72 = .ok (.return_, 1) := by decide +kernel
theorem dS_turn_0 : decode mS_turn.2.1 0 = .ok (.aload_n 0, 1) := by decide +kernel
theorem dS_turn_1 : decode mS_turn.2.1 1 = .ok (.aload_n 0, 1) := by decide +kernel
theorem dS_turn_2 : decode mS_turn.2.1 2 = .ok (.getfield 38, 3) := by decide +kernel
theorem dS_turn_5 : decode mS_turn.2.1 5 = .ok (.iload_n 1, 1) := by decide +kernel
theorem dS_turn_6 : decode mS_turn.2.1 6 = .ok (.invokestatic 106, 3) := by decide +kernel
theorem dS_turn_9 : decode mS_turn.2.1 9 = .ok (.putfield 38, 3) := by decide +kernel
theorem dS_turn_12 : decode mS_turn.2.1 12 = .ok (.aload_n 0, 1) := by decide +kernel
theorem dS_turn_13 : decode mS_turn.2.1 13 = .ok (.getfield 54, 3) := by decide +kernel
theorem dS_turn_16 : decode mS_turn.2.1 16 = .ok (.ifCond .eq 29, 3) := by decide +kernel
theorem dS_turn_19 : decode mS_turn.2.1 19 = .ok (.iconst 0, 1) := by decide +kernel
theorem dS_turn_20 : decode mS_turn.2.1 20 = .ok (.istore_n 2, 1) := by decide +kernel
theorem dS_turn_21 : decode mS_turn.2.1 21 = .ok (.iload_n 2, 1) := by decide +kernel
theorem dS_turn_22 : decode mS_turn.2.1 22 = .ok (.iload_n 1, 1) := by decide +kernel
theorem dS_turn_23 : decode mS_turn.2.1 23 = .ok (.if_icmp .ge 18, 3) := by decide +kernel
theorem dS_turn_26 : decode mS_turn.2.1 26 = .ok (.iload_n 2, 1) := by decide +kernel
theorem dS_turn_27 : decode mS_turn.2.1 27 = .ok (.iconst 4, 1) := by decide +kernel
theorem dS_turn_28 : decode mS_turn.2.1 28 = .ok (.if_icmp .ge 13, 3) := by decide +kernel
theorem dS_turn_31 : decode mS_turn.2.1 31 = .ok (.aload_n 0, 1) := by decide +kernel
theorem dS_turn_32 : decode mS_turn.2.1 32 = .ok (.invokevirtual 109, 3) := by decide +kernel
theorem dS_turn_35 : decode mS_turn.2.1 35 = .ok (.iinc 2 1, 3) := by decide +kernel
theorem dS_turn_38 : decode mS_turn.2.1 38 = .ok (.goto (-17), 3) := by decide +kernel
theorem dS_turn_41 : decode mS_turn.2.1 41 = .ok (.aload_n 0, 1) := by decide +kernel
theorem dS_turn_42 : decode mS_turn.2.1 42 = .ok (.invokevirtual 112, 3) := by decide +kernel
theorem dS_turn_45 : decode mS_turn.2.1 45 = .ok (.return_, 1) := by decide +kernel
theorem dS_scanAround_0 : decode mS_scanAround.2.1 0 = .ok (.iconst 0, 1) := by decide +kernel
theorem dS_scanAround_1 : decode mS_scanAround.2.1 1 = .ok (.istore_n 1, 1) := by decide +kernel
theorem dS_scanAround_2 : decode mS_scanAround.2.1 2 = .ok (.iconst 0, 1) := by decide +kernel
theorem dS_scanAround_3 : decode mS_scanAround.2.1 3 = .ok (.istore_n 2, 1) := by decide +kernel
theorem dS_scanAround_4 : decode mS_scanAround.2.1 4 = .ok (.iload_n 2, 1) := by decide +kernel
theorem dS_scanAround_5 : decode mS_scanAround.2.1 5 = .ok (.iconst 4, 1) := by decide +kernel
theorem dS_scanAround_6 : decode mS_scanAround.2.1 6 = .ok (.if_icmp .ge 52, 3) := by decide +kernel
theorem dS_scanAround_9 : decode mS_scanAround.2.1 9 = .ok (.aload_n 0, 1) := by decide +kernel
theorem dS_scanAround_10 : decode mS_scanAround.2.1 10 = .ok (.aload_n 0, 1) := by decide +kernel
theorem dS_scanAround_11 : decode mS_scanAround.2.1 11 = .ok (.getfield 15, 3) := by decide +kernel
theorem dS_scanAround_14 : decode mS_scanAround.2.1 14 = .ok (.aload_n 0, 1) := by decide +kernel
theorem dS_scanAround_15 : decode mS_scanAround.2.1 15 = .ok (.getfield 35, 3) := by decide +kernel
theorem dS_scanAround_18 : decode mS_scanAround.2.1 18 = .ok (.aload_n 0, 1) := by decide +kernel
theorem dS_scanAround_19 : decode mS_scanAround.2.1 19 = .ok (.getfield 38, 3) := by decide +kernel
theorem dS_scanAround_22 : decode mS_scanAround.2.1 22 = .ok (.iload_n 2, 1) := by decide +kernel
theorem dS_scanAround_23 : decode mS_scanAround.2.1 23 = .ok (.invokestatic 106, 3) := by decide +kernel
theorem dS_scanAround_26 : decode mS_scanAround.2.1 26 = .ok (.invokevirtual 86, 3) := by decide +kernel
theorem dS_scanAround_29 : decode mS_scanAround.2.1 29 = .ok (.invokevirtual 115, 3) := by decide +kernel
theorem dS_scanAround_32 : decode mS_scanAround.2.1 32 = .ok (.istore_n 3, 1) := by decide +kernel
theorem dS_scanAround_33 : decode mS_scanAround.2.1 33 = .ok (.iload_n 1, 1) := by decide +kernel
theorem dS_scanAround_34 : decode mS_scanAround.2.1 34 = .ok (.iconst 3, 1) := by decide +kernel
theorem dS_scanAround_35 : decode mS_scanAround.2.1 35 = .ok (.imul, 1) := by decide +kernel
theorem dS_scanAround_36 : decode mS_scanAround.2.1 36 = .ok (.iload_n 3, 1) := by decide +kernel
theorem dS_scanAround_37 : decode mS_scanAround.2.1 37 = .ok (.iadd, 1) := by decide +kernel
theorem dS_scanAround_38 : decode mS_scanAround.2.1 38 = .ok (.istore_n 1, 1) := by decide +kernel
theorem dS_scanAround_39 : decode mS_scanAround.2.1 39 = .ok (.aload_n 0, 1) := by decide +kernel
theorem dS_scanAround_40 : decode mS_scanAround.2.1 40 = .ok (.getfield 54, 3) := by decide +kernel
theorem dS_scanAround_43 : decode mS_scanAround.2.1 43 = .ok (.ifCond .eq 9, 3) := by decide +kernel
theorem dS_scanAround_46 : decode mS_scanAround.2.1 46 = .ok (.aload_n 0, 1) := by decide +kernel
theorem dS_scanAround_47 : decode mS_scanAround.2.1 47 = .ok (.iload_n 3, 1) := by decide +kernel
theorem dS_scanAround_48 : decode mS_scanAround.2.1 48 = .ok (.iload_n 2, 1) := by decide +kernel
theorem dS_scanAround_49 : decode mS_scanAround.2.1 49 = .ok (.invokevirtual 118, 3) := by decide +kernel
theorem dS_scanAround_52 : decode mS_scanAround.2.1 52 = .ok (.iinc 2 1, 3) := by decide +kernel
theorem dS_scanAround_55 : decode mS_scanAround.2.1 55 = .ok (.goto (-51), 3) := by decide +kernel
theorem dS_scanAround_58 : decode mS_scanAround.2.1 58 = .ok (.aload_n 0, 1) := by decide +kernel
theorem dS_scanAround_59 : decode mS_scanAround.2.1 59 = .ok (.getfield 54, 3) := by decide +kernel
theorem dS_scanAround_62 : decode mS_scanAround.2.1 62 = .ok (.ifCond .eq 7, 3) := by decide +kernel
theorem dS_scanAround_65 : decode mS_scanAround.2.1 65 = .ok (.aload_n 0, 1) := by decide +kernel
theorem dS_scanAround_66 : decode mS_scanAround.2.1 66 = .ok (.invokevirtual 112, 3) := by decide +kernel
theorem dS_scanAround_69 : decode mS_scanAround.2.1 69 = .ok (.iload_n 1, 1) := by decide +kernel
theorem dS_scanAround_70 : decode mS_scanAround.2.1 70 = .ok (.ireturn, 1) := by decide +kernel
theorem dS_seenAt_0 : decode mS_seenAt.2.1 0 = .ok (.aload_n 0, 1) := by decide +kernel
theorem dS_seenAt_1 : decode mS_seenAt.2.1 1 = .ok (.invokevirtual 102, 3) := by decide +kernel
theorem dS_seenAt_4 : decode mS_seenAt.2.1 4 = .ok (.iload_n 1, 1) := by decide +kernel
theorem dS_seenAt_5 : decode mS_seenAt.2.1 5 = .ok (.invokestatic 72, 3) := by decide +kernel
theorem dS_seenAt_8 : decode mS_seenAt.2.1 8 = .ok (.ifCond .eq 5, 3) := by decide +kernel
theorem dS_seenAt_11 : decode mS_seenAt.2.1 11 = .ok (.iconst 0, 1) := by decide +kernel
theorem dS_seenAt_12 : decode mS_seenAt.2.1 12 = .ok (.ireturn, 1) := by decide +kernel
theorem dS_seenAt_13 : decode mS_seenAt.2.1 13 = .ok (.aload_n 0, 1) := by decide +kernel
theorem dS_seenAt_14 : decode mS_seenAt.2.1 14 = .ok (.getfield 15, 3) := by decide +kernel
theorem dS_seenAt_17 : decode mS_seenAt.2.1 17 = .ok (.getfield 76, 3) := by decide +kernel
theorem dS_seenAt_20 : decode mS_seenAt.2.1 20 = .ok (.iload_n 1, 1) := by decide +kernel
theorem dS_seenAt_21 : decode mS_seenAt.2.1 21 = .ok (.invokestatic 72, 3) := by decide +kernel
theorem dS_seenAt_24 : decode mS_seenAt.2.1 24 = .ok (.ifCond .eq 7, 3) := by decide +kernel
theorem dS_seenAt_27 : decode mS_seenAt.2.1 27 = .ok (.iconst 2, 1) := by decide +kernel
theorem dS_seenAt_28 : decode mS_seenAt.2.1 28 = .ok (.goto 4, 3) := by decide +kernel
theorem dS_seenAt_31 : decode mS_seenAt.2.1 31 = .ok (.iconst 1, 1) := by decide +kernel
theorem dS_seenAt_32 : decode mS_seenAt.2.1 32 = .ok (.ireturn, 1) := by decide +kernel
theorem dS_carryTo_0 : decode mS_carryTo.2.1 0 = .ok (.aload_n 0, 1) := by decide +kernel
theorem dS_carryTo_1 : decode mS_carryTo.2.1 1 = .ok (.iload_n 1, 1) := by decide +kernel
theorem dS_carryTo_2 : decode mS_carryTo.2.1 2 = .ok (.putfield 35, 3) := by decide +kernel
theorem dS_carryTo_5 : decode mS_carryTo.2.1 5 = .ok (.aload_n 0, 1) := by decide +kernel
theorem dS_carryTo_6 : decode mS_carryTo.2.1 6 = .ok (.iload_n 2, 1) := by decide +kernel
theorem dS_carryTo_7 : decode mS_carryTo.2.1 7 = .ok (.putfield 38, 3) := by decide +kernel
theorem dS_carryTo_10 : decode mS_carryTo.2.1 10 = .ok (.aload_n 0, 1) := by decide +kernel
theorem dS_carryTo_11 : decode mS_carryTo.2.1 11 = .ok (.iconst 1, 1) := by decide +kernel
theorem dS_carryTo_12 : decode mS_carryTo.2.1 12 = .ok (.putfield 54, 3) := by decide +kernel
theorem dS_carryTo_15 : decode mS_carryTo.2.1 15 = .ok (.iconst 0, 1) := by decide +kernel
theorem dS_carryTo_16 : decode mS_carryTo.2.1 16 = .ok (.istore_n 3, 1) := by decide +kernel
theorem dS_carryTo_17 : decode mS_carryTo.2.1 17 = .ok (.iload_n 3, 1) := by decide +kernel
theorem dS_carryTo_18 : decode mS_carryTo.2.1 18 = .ok (.iconst 4, 1) := by decide +kernel
theorem dS_carryTo_19 : decode mS_carryTo.2.1 19 = .ok (.if_icmp .ge 20, 3) := by decide +kernel
theorem dS_carryTo_22 : decode mS_carryTo.2.1 22 = .ok (.aload_n 0, 1) := by decide +kernel
theorem dS_carryTo_23 : decode mS_carryTo.2.1 23 = .ok (.getfield 9, 3) := by decide +kernel
theorem dS_carryTo_26 : decode mS_carryTo.2.1 26 = .ok (.iload_n 3, 1) := by decide +kernel
theorem dS_carryTo_27 : decode mS_carryTo.2.1 27 = .ok (.aload_n 0, 1) := by decide +kernel
theorem dS_carryTo_28 : decode mS_carryTo.2.1 28 = .ok (.iconst 0, 1) := by decide +kernel
theorem dS_carryTo_29 : decode mS_carryTo.2.1 29 = .ok (.invokevirtual 121, 3) := by decide +kernel
theorem dS_carryTo_32 : decode mS_carryTo.2.1 32 = .ok (.lastore, 1) := by decide +kernel
theorem dS_carryTo_33 : decode mS_carryTo.2.1 33 = .ok (.iinc 3 1, 3) := by decide +kernel
theorem dS_carryTo_36 : decode mS_carryTo.2.1 36 = .ok (.goto (-19), 3) := by decide +kernel
theorem dS_carryTo_39 : decode mS_carryTo.2.1 39 = .ok (.aload_n 0, 1) := by decide +kernel
theorem dS_carryTo_40 : decode mS_carryTo.2.1 40 = .ok (.invokevirtual 124, 3) := by decide +kernel
theorem dS_carryTo_43 : decode mS_carryTo.2.1 43 = .ok (.istore_n 3, 1) := by decide +kernel
theorem dS_carryTo_44 : decode mS_carryTo.2.1 44 = .ok (.aload_n 0, 1) := by decide +kernel
theorem dS_carryTo_45 : decode mS_carryTo.2.1 45 = .ok (.invokevirtual 112, 3) := by decide +kernel
theorem dS_carryTo_48 : decode mS_carryTo.2.1 48 = .ok (.iload_n 3, 1) := by decide +kernel
theorem dS_carryTo_49 : decode mS_carryTo.2.1 49 = .ok (.ireturn, 1) := by decide +kernel
theorem dS_sortOutBy_0 : decode mS_sortOutBy.2.1 0 = .ok (.iload_n 1, 1) := by decide +kernel
theorem dS_sortOutBy_1 : decode mS_sortOutBy.2.1 1 = .ok (.ifCond .ne 16, 3) := by decide +kernel
theorem dS_sortOutBy_4 : decode mS_sortOutBy.2.1 4 = .ok (.aload_n 0, 1) := by decide +kernel
theorem dS_sortOutBy_5 : decode mS_sortOutBy.2.1 5 = .ok (.iconst 0, 1) := by decide +kernel
theorem dS_sortOutBy_6 : decode mS_sortOutBy.2.1 6 = .ok (.iconst 0, 1) := by decide +kernel
theorem dS_sortOutBy_7 : decode mS_sortOutBy.2.1 7 = .ok (.invokevirtual 118, 3) := by decide +kernel
theorem dS_sortOutBy_10 : decode mS_sortOutBy.2.1 10 = .ok (.aload_n 0, 1) := by decide +kernel
theorem dS_sortOutBy_11 : decode mS_sortOutBy.2.1 11 = .ok (.invokevirtual 128, 3) := by decide +kernel
theorem dS_sortOutBy_14 : decode mS_sortOutBy.2.1 14 = .ok (.goto 18, 3) := by decide +kernel
theorem dS_sortOutBy_17 : decode mS_sortOutBy.2.1 17 = .ok (.aload_n 0, 1) := by decide +kernel
theorem dS_sortOutBy_18 : decode mS_sortOutBy.2.1 18 = .ok (.iload_n 1, 1) := by decide +kernel
theorem dS_sortOutBy_19 : decode mS_sortOutBy.2.1 19 = .ok (.iconst 3, 1) := by decide +kernel
theorem dS_sortOutBy_20 : decode mS_sortOutBy.2.1 20 = .ok (.if_icmp .ne 7, 3) := by decide +kernel
theorem dS_sortOutBy_23 : decode mS_sortOutBy.2.1 23 = .ok (.iconst 2, 1) := by decide +kernel
theorem dS_sortOutBy_24 : decode mS_sortOutBy.2.1 24 = .ok (.goto 4, 3) := by decide +kernel
theorem dS_sortOutBy_27 : decode mS_sortOutBy.2.1 27 = .ok (.iconst 1, 1) := by decide +kernel
theorem dS_sortOutBy_28 : decode mS_sortOutBy.2.1 28 = .ok (.iconst 0, 1) := by decide +kernel
theorem dS_sortOutBy_29 : decode mS_sortOutBy.2.1 29 = .ok (.invokevirtual 118, 3) := by decide +kernel
theorem dS_sortOutBy_32 : decode mS_sortOutBy.2.1 32 = .ok (.aload_n 0, 1) := by decide +kernel
theorem dS_sortOutBy_33 : decode mS_sortOutBy.2.1 33 = .ok (.invokevirtual 112, 3) := by decide +kernel
theorem dS_sortOutBy_36 : decode mS_sortOutBy.2.1 36 = .ok (.return_, 1) := by decide +kernel
theorem dS_keepPlacesThatSee_0 : decode mS_keepPlacesThatSee.2.1 0 = .ok (.iconst 0, 1) := by decide +kernel
theorem dS_keepPlacesThatSee_1 : decode mS_keepPlacesThatSee.2.1 1 = .ok (.istore_n 3, 1) := by decide +kernel
theorem dS_keepPlacesThatSee_2 : decode mS_keepPlacesThatSee.2.1 2 = .ok (.iload_n 3, 1) := by decide +kernel
theorem dS_keepPlacesThatSee_3 : decode mS_keepPlacesThatSee.2.1 3 = .ok (.iconst 4, 1) := by decide +kernel
theorem dS_keepPlacesThatSee_4 : decode mS_keepPlacesThatSee.2.1 4 = .ok (.if_icmp .ge 28, 3) := by decide +kernel
theorem dS_keepPlacesThatSee_7 : decode mS_keepPlacesThatSee.2.1 7 = .ok (.aload_n 0, 1) := by decide +kernel
theorem dS_keepPlacesThatSee_8 : decode mS_keepPlacesThatSee.2.1 8 = .ok (.getfield 9, 3) := by decide +kernel
theorem dS_keepPlacesThatSee_11 : decode mS_keepPlacesThatSee.2.1 11 = .ok (.iload_n 3, 1) := by decide +kernel
theorem dS_keepPlacesThatSee_12 : decode mS_keepPlacesThatSee.2.1 12 = .ok (.dup2, 1) := by decide +kernel
theorem dS_keepPlacesThatSee_13 : decode mS_keepPlacesThatSee.2.1 13 = .ok (.laload, 1) := by decide +kernel
theorem dS_keepPlacesThatSee_14 : decode mS_keepPlacesThatSee.2.1 14 = .ok (.aload_n 0, 1) := by decide +kernel
theorem dS_keepPlacesThatSee_15 : decode mS_keepPlacesThatSee.2.1 15 = .ok (.iload_n 1, 1) := by decide +kernel
theorem dS_keepPlacesThatSee_16 : decode mS_keepPlacesThatSee.2.1 16 = .ok (.iload_n 3, 1) := by decide +kernel
theorem dS_keepPlacesThatSee_17 : decode mS_keepPlacesThatSee.2.1 17 = .ok (.iload_n 2, 1) := by decide +kernel
theorem dS_keepPlacesThatSee_18 : decode mS_keepPlacesThatSee.2.1 18 = .ok (.invokestatic 106, 3) := by decide +kernel
theorem dS_keepPlacesThatSee_21 : decode mS_keepPlacesThatSee.2.1 21 = .ok (.invokevirtual 131, 3) := by decide +kernel
theorem dS_keepPlacesThatSee_24 : decode mS_keepPlacesThatSee.2.1 24 = .ok (.land, 1) := by decide +kernel
theorem dS_keepPlacesThatSee_25 : decode mS_keepPlacesThatSee.2.1 25 = .ok (.lastore, 1) := by decide +kernel
theorem dS_keepPlacesThatSee_26 : decode mS_keepPlacesThatSee.2.1 26 = .ok (.iinc 3 1, 3) := by decide +kernel
theorem dS_keepPlacesThatSee_29 : decode mS_keepPlacesThatSee.2.1 29 = .ok (.goto (-27), 3) := by decide +kernel
theorem dS_keepPlacesThatSee_32 : decode mS_keepPlacesThatSee.2.1 32 = .ok (.return_, 1) := by decide +kernel
theorem dS_movePlacesAhead_0 : decode mS_movePlacesAhead.2.1 0 = .ok (.iconst 0, 1) := by decide +kernel
theorem dS_movePlacesAhead_1 : decode mS_movePlacesAhead.2.1 1 = .ok (.istore_n 1, 1) := by decide +kernel
theorem dS_movePlacesAhead_2 : decode mS_movePlacesAhead.2.1 2 = .ok (.iload_n 1, 1) := by decide +kernel
theorem dS_movePlacesAhead_3 : decode mS_movePlacesAhead.2.1 3 = .ok (.iconst 4, 1) := by decide +kernel
theorem dS_movePlacesAhead_4 : decode mS_movePlacesAhead.2.1 4 = .ok (.if_icmp .ge 29, 3) := by decide +kernel
theorem dS_movePlacesAhead_7 : decode mS_movePlacesAhead.2.1 7 = .ok (.aload_n 0, 1) := by decide +kernel
theorem dS_movePlacesAhead_8 : decode mS_movePlacesAhead.2.1 8 = .ok (.getfield 9, 3) := by decide +kernel
theorem dS_movePlacesAhead_11 : decode mS_movePlacesAhead.2.1 11 = .ok (.iload_n 1, 1) := by decide +kernel
theorem dS_movePlacesAhead_12 : decode mS_movePlacesAhead.2.1 12 = .ok (.aload_n 0, 1) := by decide +kernel
theorem dS_movePlacesAhead_13 : decode mS_movePlacesAhead.2.1 13 = .ok (.getfield 15, 3) := by decide +kernel
theorem dS_movePlacesAhead_16 : decode mS_movePlacesAhead.2.1 16 = .ok (.aload_n 0, 1) := by decide +kernel
theorem dS_movePlacesAhead_17 : decode mS_movePlacesAhead.2.1 17 = .ok (.getfield 9, 3) := by decide +kernel
theorem dS_movePlacesAhead_20 : decode mS_movePlacesAhead.2.1 20 = .ok (.iload_n 1, 1) := by decide +kernel
theorem dS_movePlacesAhead_21 : decode mS_movePlacesAhead.2.1 21 = .ok (.laload, 1) := by decide +kernel
theorem dS_movePlacesAhead_22 : decode mS_movePlacesAhead.2.1 22 = .ok (.iload_n 1, 1) := by decide +kernel
theorem dS_movePlacesAhead_23 : decode mS_movePlacesAhead.2.1 23 = .ok (.invokevirtual 135, 3) := by decide +kernel
theorem dS_movePlacesAhead_26 : decode mS_movePlacesAhead.2.1 26 = .ok (.lastore, 1) := by decide +kernel
theorem dS_movePlacesAhead_27 : decode mS_movePlacesAhead.2.1 27 = .ok (.iinc 1 1, 3) := by decide +kernel
theorem dS_movePlacesAhead_30 : decode mS_movePlacesAhead.2.1 30 = .ok (.goto (-28), 3) := by decide +kernel
theorem dS_movePlacesAhead_33 : decode mS_movePlacesAhead.2.1 33 = .ok (.return_, 1) := by decide +kernel
theorem dS_turnPlaces_0 : decode mS_turnPlaces.2.1 0 = .ok (.aload_n 0, 1) := by decide +kernel
theorem dS_turnPlaces_1 : decode mS_turnPlaces.2.1 1 = .ok (.getfield 9, 3) := by decide +kernel
theorem dS_turnPlaces_4 : decode mS_turnPlaces.2.1 4 = .ok (.iconst 3, 1) := by decide +kernel
theorem dS_turnPlaces_5 : decode mS_turnPlaces.2.1 5 = .ok (.laload, 1) := by decide +kernel
theorem dS_turnPlaces_6 : decode mS_turnPlaces.2.1 6 = .ok (.lstore_n 1, 1) := by decide +kernel
theorem dS_turnPlaces_7 : decode mS_turnPlaces.2.1 7 = .ok (.aload_n 0, 1) := by decide +kernel
theorem dS_turnPlaces_8 : decode mS_turnPlaces.2.1 8 = .ok (.getfield 9, 3) := by decide +kernel
theorem dS_turnPlaces_11 : decode mS_turnPlaces.2.1 11 = .ok (.iconst 3, 1) := by decide +kernel
theorem dS_turnPlaces_12 : decode mS_turnPlaces.2.1 12 = .ok (.aload_n 0, 1) := by decide +kernel
theorem dS_turnPlaces_13 : decode mS_turnPlaces.2.1 13 = .ok (.getfield 9, 3) := by decide +kernel
theorem dS_turnPlaces_16 : decode mS_turnPlaces.2.1 16 = .ok (.iconst 2, 1) := by decide +kernel
theorem dS_turnPlaces_17 : decode mS_turnPlaces.2.1 17 = .ok (.laload, 1) := by decide +kernel
theorem dS_turnPlaces_18 : decode mS_turnPlaces.2.1 18 = .ok (.lastore, 1) := by decide +kernel
theorem dS_turnPlaces_19 : decode mS_turnPlaces.2.1 19 = .ok (.aload_n 0, 1) := by decide +kernel
theorem dS_turnPlaces_20 : decode mS_turnPlaces.2.1 20 = .ok (.getfield 9, 3) := by decide +kernel
theorem dS_turnPlaces_23 : decode mS_turnPlaces.2.1 23 = .ok (.iconst 2, 1) := by decide +kernel
theorem dS_turnPlaces_24 : decode mS_turnPlaces.2.1 24 = .ok (.aload_n 0, 1) := by decide +kernel
theorem dS_turnPlaces_25 : decode mS_turnPlaces.2.1 25 = .ok (.getfield 9, 3) := by decide +kernel
theorem dS_turnPlaces_28 : decode mS_turnPlaces.2.1 28 = .ok (.iconst 1, 1) := by decide +kernel
theorem dS_turnPlaces_29 : decode mS_turnPlaces.2.1 29 = .ok (.laload, 1) := by decide +kernel
theorem dS_turnPlaces_30 : decode mS_turnPlaces.2.1 30 = .ok (.lastore, 1) := by decide +kernel
theorem dS_turnPlaces_31 : decode mS_turnPlaces.2.1 31 = .ok (.aload_n 0, 1) := by decide +kernel
theorem dS_turnPlaces_32 : decode mS_turnPlaces.2.1 32 = .ok (.getfield 9, 3) := by decide +kernel
theorem dS_turnPlaces_35 : decode mS_turnPlaces.2.1 35 = .ok (.iconst 1, 1) := by decide +kernel
theorem dS_turnPlaces_36 : decode mS_turnPlaces.2.1 36 = .ok (.aload_n 0, 1) := by decide +kernel
theorem dS_turnPlaces_37 : decode mS_turnPlaces.2.1 37 = .ok (.getfield 9, 3) := by decide +kernel
theorem dS_turnPlaces_40 : decode mS_turnPlaces.2.1 40 = .ok (.iconst 0, 1) := by decide +kernel
theorem dS_turnPlaces_41 : decode mS_turnPlaces.2.1 41 = .ok (.laload, 1) := by decide +kernel
theorem dS_turnPlaces_42 : decode mS_turnPlaces.2.1 42 = .ok (.lastore, 1) := by decide +kernel
theorem dS_turnPlaces_43 : decode mS_turnPlaces.2.1 43 = .ok (.aload_n 0, 1) := by decide +kernel
theorem dS_turnPlaces_44 : decode mS_turnPlaces.2.1 44 = .ok (.getfield 9, 3) := by decide +kernel
theorem dS_turnPlaces_47 : decode mS_turnPlaces.2.1 47 = .ok (.iconst 0, 1) := by decide +kernel
theorem dS_turnPlaces_48 : decode mS_turnPlaces.2.1 48 = .ok (.lload_n 1, 1) := by decide +kernel
theorem dS_turnPlaces_49 : decode mS_turnPlaces.2.1 49 = .ok (.lastore, 1) := by decide +kernel
theorem dS_turnPlaces_50 : decode mS_turnPlaces.2.1 50 = .ok (.return_, 1) := by decide +kernel
theorem dS_beFoundIfSure_0 : decode mS_beFoundIfSure.2.1 0 = .ok (.aload_n 0, 1) := by decide +kernel
theorem dS_beFoundIfSure_1 : decode mS_beFoundIfSure.2.1 1 = .ok (.invokevirtual 124, 3) := by decide +kernel
theorem dS_beFoundIfSure_4 : decode mS_beFoundIfSure.2.1 4 = .ok (.iconst 1, 1) := by decide +kernel
theorem dS_beFoundIfSure_5 : decode mS_beFoundIfSure.2.1 5 = .ok (.if_icmp .ne 8, 3) := by decide +kernel
theorem dS_beFoundIfSure_8 : decode mS_beFoundIfSure.2.1 8 = .ok (.aload_n 0, 1) := by decide +kernel
theorem dS_beFoundIfSure_9 : decode mS_beFoundIfSure.2.1 9 = .ok (.iconst 0, 1) := by decide +kernel
theorem dS_beFoundIfSure_10 : decode mS_beFoundIfSure.2.1 10 = .ok (.putfield 54, 3) := by decide +kernel
theorem dS_beFoundIfSure_13 : decode mS_beFoundIfSure.2.1 13 = .ok (.return_, 1) := by decide +kernel
theorem dS_cellsThatMaySee_0 : decode mS_cellsThatMaySee.2.1 0 = .ok (.iload_n 2, 1) := by decide +kernel
theorem dS_cellsThatMaySee_1 : decode mS_cellsThatMaySee.2.1 1 = .ok (.iconst 2, 1) := by decide +kernel
theorem dS_cellsThatMaySee_2 : decode mS_cellsThatMaySee.2.1 2 = .ok (.invokestatic 106, 3) := by decide +kernel
theorem dS_cellsThatMaySee_5 : decode mS_cellsThatMaySee.2.1 5 = .ok (.istore_n 3, 1) := by decide +kernel
theorem dS_cellsThatMaySee_6 : decode mS_cellsThatMaySee.2.1 6 = .ok (.aload_n 0, 1) := by decide +kernel
theorem dS_cellsThatMaySee_7 : decode mS_cellsThatMaySee.2.1 7 = .ok (.getfield 15, 3) := by decide +kernel
theorem dS_cellsThatMaySee_10 : decode mS_cellsThatMaySee.2.1 10 = .ok (.aload_n 0, 1) := by decide +kernel
theorem dS_cellsThatMaySee_11 : decode mS_cellsThatMaySee.2.1 11 = .ok (.iload_n 1, 1) := by decide +kernel
theorem dS_cellsThatMaySee_12 : decode mS_cellsThatMaySee.2.1 12 = .ok (.invokevirtual 121, 3) := by decide +kernel
theorem dS_cellsThatMaySee_15 : decode mS_cellsThatMaySee.2.1 15 = .ok (.iload_n 3, 1) := by decide +kernel
theorem dS_cellsThatMaySee_16 : decode mS_cellsThatMaySee.2.1 16 = .ok (.invokevirtual 135, 3) := by decide +kernel
theorem dS_cellsThatMaySee_19 : decode mS_cellsThatMaySee.2.1 19 = .ok (.lstore 4, 2) := by decide +kernel
theorem dS_cellsThatMaySee_21 : decode mS_cellsThatMaySee.2.1 21 = .ok (.iload_n 1, 1) := by decide +kernel
theorem dS_cellsThatMaySee_22 : decode mS_cellsThatMaySee.2.1 22 = .ok (.iconst 1, 1) := by decide +kernel
theorem dS_cellsThatMaySee_23 : decode mS_cellsThatMaySee.2.1 23 = .ok (.if_icmp .ne 35, 3) := by decide +kernel
theorem dS_cellsThatMaySee_26 : decode mS_cellsThatMaySee.2.1 26 = .ok (.lload 4, 2) := by decide +kernel
theorem dS_cellsThatMaySee_28 : decode mS_cellsThatMaySee.2.1 28 = .ok (.aload_n 0, 1) := by decide +kernel
theorem dS_cellsThatMaySee_29 : decode mS_cellsThatMaySee.2.1 29 = .ok (.getfield 15, 3) := by decide +kernel
theorem dS_cellsThatMaySee_32 : decode mS_cellsThatMaySee.2.1 32 = .ok (.getfield 139, 3) := by decide +kernel
theorem dS_cellsThatMaySee_35 : decode mS_cellsThatMaySee.2.1 35 = .ok (.aload_n 0, 1) := by decide +kernel
theorem dS_cellsThatMaySee_36 : decode mS_cellsThatMaySee.2.1 36 = .ok (.getfield 15, 3) := by decide +kernel
theorem dS_cellsThatMaySee_39 : decode mS_cellsThatMaySee.2.1 39 = .ok (.aload_n 0, 1) := by decide +kernel
theorem dS_cellsThatMaySee_40 : decode mS_cellsThatMaySee.2.1 40 = .ok (.getfield 15, 3) := by decide +kernel
theorem dS_cellsThatMaySee_43 : decode mS_cellsThatMaySee.2.1 43 = .ok (.getfield 139, 3) := by decide +kernel
theorem dS_cellsThatMaySee_46 : decode mS_cellsThatMaySee.2.1 46 = .ok (.iload_n 3, 1) := by decide +kernel
theorem dS_cellsThatMaySee_47 : decode mS_cellsThatMaySee.2.1 47 = .ok (.invokevirtual 135, 3) := by decide +kernel
theorem dS_cellsThatMaySee_50 : decode mS_cellsThatMaySee.2.1 50 = .ok (.ldc2_w 70, 3) := by decide +kernel
theorem dS_cellsThatMaySee_53 : decode mS_cellsThatMaySee.2.1 53 = .ok (.lxor, 1) := by decide +kernel
theorem dS_cellsThatMaySee_54 : decode mS_cellsThatMaySee.2.1 54 = .ok (.land, 1) := by decide +kernel
theorem dS_cellsThatMaySee_55 : decode mS_cellsThatMaySee.2.1 55 = .ok (.lor, 1) := by decide +kernel
theorem dS_cellsThatMaySee_56 : decode mS_cellsThatMaySee.2.1 56 = .ok (.lstore 4, 2) := by decide +kernel
theorem dS_cellsThatMaySee_58 : decode mS_cellsThatMaySee.2.1 58 = .ok (.lload 4, 2) := by decide +kernel
theorem dS_cellsThatMaySee_60 : decode mS_cellsThatMaySee.2.1 60 = .ok (.lreturn, 1) := by decide +kernel
theorem dS_cellsThatMayShow_0 : decode mS_cellsThatMayShow.2.1 0 = .ok (.iload_n 1, 1) := by decide +kernel
theorem dS_cellsThatMayShow_1 : decode mS_cellsThatMayShow.2.1 1 = .ok (.iconst 2, 1) := by decide +kernel
theorem dS_cellsThatMayShow_2 : decode mS_cellsThatMayShow.2.1 2 = .ok (.if_icmp .ne 11, 3) := by decide +kernel
theorem dS_cellsThatMayShow_5 : decode mS_cellsThatMayShow.2.1 5 = .ok (.aload_n 0, 1) := by decide +kernel
theorem dS_cellsThatMayShow_6 : decode mS_cellsThatMayShow.2.1 6 = .ok (.getfield 15, 3) := by decide +kernel
theorem dS_cellsThatMayShow_9 : decode mS_cellsThatMayShow.2.1 9 = .ok (.getfield 76, 3) := by decide +kernel
theorem dS_cellsThatMayShow_12 : decode mS_cellsThatMayShow.2.1 12 = .ok (.lreturn, 1) := by decide +kernel
theorem dS_cellsThatMayShow_13 : decode mS_cellsThatMayShow.2.1 13 = .ok (.iload_n 1, 1) := by decide +kernel
theorem dS_cellsThatMayShow_14 : decode mS_cellsThatMayShow.2.1 14 = .ok (.ifCond .ne 10, 3) := by decide +kernel
theorem dS_cellsThatMayShow_17 : decode mS_cellsThatMayShow.2.1 17 = .ok (.aload_n 0, 1) := by decide +kernel
theorem dS_cellsThatMayShow_18 : decode mS_cellsThatMayShow.2.1 18 = .ok (.getfield 51, 3) := by decide +kernel
theorem dS_cellsThatMayShow_21 : decode mS_cellsThatMayShow.2.1 21 = .ok (.goto 7, 3) := by decide +kernel
theorem dS_cellsThatMayShow_24 : decode mS_cellsThatMayShow.2.1 24 = .ok (.aload_n 0, 1) := by decide +kernel
theorem dS_cellsThatMayShow_25 : decode mS_cellsThatMayShow.2.1 25 = .ok (.getfield 48, 3) := by decide +kernel
theorem dS_cellsThatMayShow_28 : decode mS_cellsThatMayShow.2.1 28 = .ok (.lstore_n 2, 1) := by decide +kernel
theorem dS_cellsThatMayShow_29 : decode mS_cellsThatMayShow.2.1 29 = .ok (.aload_n 0, 1) := by decide +kernel
theorem dS_cellsThatMayShow_30 : decode mS_cellsThatMayShow.2.1 30 = .ok (.getfield 15, 3) := by decide +kernel
theorem dS_cellsThatMayShow_33 : decode mS_cellsThatMayShow.2.1 33 = .ok (.getfield 139, 3) := by decide +kernel
theorem dS_cellsThatMayShow_36 : decode mS_cellsThatMayShow.2.1 36 = .ok (.aload_n 0, 1) := by decide +kernel
theorem dS_cellsThatMayShow_37 : decode mS_cellsThatMayShow.2.1 37 = .ok (.getfield 15, 3) := by decide +kernel
theorem dS_cellsThatMayShow_40 : decode mS_cellsThatMayShow.2.1 40 = .ok (.getfield 76, 3) := by decide +kernel
theorem dS_cellsThatMayShow_43 : decode mS_cellsThatMayShow.2.1 43 = .ok (.ldc2_w 70, 3) := by decide +kernel
theorem dS_cellsThatMayShow_46 : decode mS_cellsThatMayShow.2.1 46 = .ok (.lxor, 1) := by decide +kernel
theorem dS_cellsThatMayShow_47 : decode mS_cellsThatMayShow.2.1 47 = .ok (.land, 1) := by decide +kernel
theorem dS_cellsThatMayShow_48 : decode mS_cellsThatMayShow.2.1 48 = .ok (.lload_n 2, 1) := by decide +kernel
theorem dS_cellsThatMayShow_49 : decode mS_cellsThatMayShow.2.1 49 = .ok (.aload_n 0, 1) := by decide +kernel
theorem dS_cellsThatMayShow_50 : decode mS_cellsThatMayShow.2.1 50 = .ok (.getfield 15, 3) := by decide +kernel
theorem dS_cellsThatMayShow_53 : decode mS_cellsThatMayShow.2.1 53 = .ok (.getfield 67, 3) := by decide +kernel
theorem dS_cellsThatMayShow_56 : decode mS_cellsThatMayShow.2.1 56 = .ok (.ldc2_w 70, 3) := by decide +kernel
theorem dS_cellsThatMayShow_59 : decode mS_cellsThatMayShow.2.1 59 = .ok (.lxor, 1) := by decide +kernel
theorem dS_cellsThatMayShow_60 : decode mS_cellsThatMayShow.2.1 60 = .ok (.land, 1) := by decide +kernel
theorem dS_cellsThatMayShow_61 : decode mS_cellsThatMayShow.2.1 61 = .ok (.ldc2_w 70, 3) := by decide +kernel
theorem dS_cellsThatMayShow_64 : decode mS_cellsThatMayShow.2.1 64 = .ok (.lxor, 1) := by decide +kernel
theorem dS_cellsThatMayShow_65 : decode mS_cellsThatMayShow.2.1 65 = .ok (.land, 1) := by decide +kernel
theorem dS_cellsThatMayShow_66 : decode mS_cellsThatMayShow.2.1 66 = .ok (.lreturn, 1) := by decide +kernel
theorem dS_placeCount_0 : decode mS_placeCount.2.1 0 = .ok (.aload_n 0, 1) := by decide +kernel
theorem dS_placeCount_1 : decode mS_placeCount.2.1 1 = .ok (.getfield 54, 3) := by decide +kernel
theorem dS_placeCount_4 : decode mS_placeCount.2.1 4 = .ok (.ifCond .ne 5, 3) := by decide +kernel
theorem dS_placeCount_7 : decode mS_placeCount.2.1 7 = .ok (.iconst 1, 1) := by decide +kernel
theorem dS_placeCount_8 : decode mS_placeCount.2.1 8 = .ok (.ireturn, 1) := by decide +kernel
theorem dS_placeCount_9 : decode mS_placeCount.2.1 9 = .ok (.iconst 0, 1) := by decide +kernel
theorem dS_placeCount_10 : decode mS_placeCount.2.1 10 = .ok (.istore_n 1, 1) := by decide +kernel
theorem dS_placeCount_11 : decode mS_placeCount.2.1 11 = .ok (.iconst 0, 1) := by decide +kernel
theorem dS_placeCount_12 : decode mS_placeCount.2.1 12 = .ok (.istore_n 2, 1) := by decide +kernel
theorem dS_placeCount_13 : decode mS_placeCount.2.1 13 = .ok (.iload_n 2, 1) := by decide +kernel
theorem dS_placeCount_14 : decode mS_placeCount.2.1 14 = .ok (.iconst 4, 1) := by decide +kernel
theorem dS_placeCount_15 : decode mS_placeCount.2.1 15 = .ok (.if_icmp .ge 21, 3) := by decide +kernel
theorem dS_placeCount_18 : decode mS_placeCount.2.1 18 = .ok (.iload_n 1, 1) := by decide +kernel
theorem dS_placeCount_19 : decode mS_placeCount.2.1 19 = .ok (.aload_n 0, 1) := by decide +kernel
theorem dS_placeCount_20 : decode mS_placeCount.2.1 20 = .ok (.getfield 9, 3) := by decide +kernel
theorem dS_placeCount_23 : decode mS_placeCount.2.1 23 = .ok (.iload_n 2, 1) := by decide +kernel
theorem dS_placeCount_24 : decode mS_placeCount.2.1 24 = .ok (.laload, 1) := by decide +kernel
theorem dS_placeCount_25 : decode mS_placeCount.2.1 25 = .ok (.invokestatic 142, 3) := by decide +kernel
theorem dS_placeCount_28 : decode mS_placeCount.2.1 28 = .ok (.iadd, 1) := by decide +kernel
theorem dS_placeCount_29 : decode mS_placeCount.2.1 29 = .ok (.istore_n 1, 1) := by decide +kernel
theorem dS_placeCount_30 : decode mS_placeCount.2.1 30 = .ok (.iinc 2 1, 3) := by decide +kernel
theorem dS_placeCount_33 : decode mS_placeCount.2.1 33 = .ok (.goto (-20), 3) := by decide +kernel
theorem dS_placeCount_36 : decode mS_placeCount.2.1 36 = .ok (.iload_n 1, 1) := by decide +kernel
theorem dS_placeCount_37 : decode mS_placeCount.2.1 37 = .ok (.ireturn, 1) := by decide +kernel
theorem dS_placeAt_0 : decode mS_placeAt.2.1 0 = .ok (.aload_n 0, 1) := by decide +kernel
theorem dS_placeAt_1 : decode mS_placeAt.2.1 1 = .ok (.getfield 54, 3) := by decide +kernel
theorem dS_placeAt_4 : decode mS_placeAt.2.1 4 = .ok (.ifCond .ne 24, 3) := by decide +kernel
theorem dS_placeAt_7 : decode mS_placeAt.2.1 7 = .ok (.iload_n 1, 1) := by decide +kernel
theorem dS_placeAt_8 : decode mS_placeAt.2.1 8 = .ok (.ifCond .ne 17, 3) := by decide +kernel
theorem dS_placeAt_11 : decode mS_placeAt.2.1 11 = .ok (.iconst 4, 1) := by decide +kernel
theorem dS_placeAt_12 : decode mS_placeAt.2.1 12 = .ok (.aload_n 0, 1) := by decide +kernel
theorem dS_placeAt_13 : decode mS_placeAt.2.1 13 = .ok (.getfield 35, 3) := by decide +kernel
theorem dS_placeAt_16 : decode mS_placeAt.2.1 16 = .ok (.imul, 1) := by decide +kernel
theorem dS_placeAt_17 : decode mS_placeAt.2.1 17 = .ok (.aload_n 0, 1) := by decide +kernel
theorem dS_placeAt_18 : decode mS_placeAt.2.1 18 = .ok (.getfield 38, 3) := by decide +kernel
theorem dS_placeAt_21 : decode mS_placeAt.2.1 21 = .ok (.iadd, 1) := by decide +kernel
theorem dS_placeAt_22 : decode mS_placeAt.2.1 22 = .ok (.goto 5, 3) := by decide +kernel
theorem dS_placeAt_25 : decode mS_placeAt.2.1 25 = .ok (.bipush (-9), 2) := by decide +kernel
theorem dS_placeAt_27 : decode mS_placeAt.2.1 27 = .ok (.ireturn, 1) := by decide +kernel
theorem dS_placeAt_28 : decode mS_placeAt.2.1 28 = .ok (.iconst 0, 1) := by decide +kernel
theorem dS_placeAt_29 : decode mS_placeAt.2.1 29 = .ok (.istore_n 2, 1) := by decide +kernel
theorem dS_placeAt_30 : decode mS_placeAt.2.1 30 = .ok (.iconst 0, 1) := by decide +kernel
theorem dS_placeAt_31 : decode mS_placeAt.2.1 31 = .ok (.istore_n 3, 1) := by decide +kernel
theorem dS_placeAt_32 : decode mS_placeAt.2.1 32 = .ok (.iload_n 3, 1) := by decide +kernel
theorem dS_placeAt_33 : decode mS_placeAt.2.1 33 = .ok (.sipush 144, 3) := by decide +kernel
theorem dS_placeAt_36 : decode mS_placeAt.2.1 36 = .ok (.if_icmp .ge 36, 3) := by decide +kernel
theorem dS_placeAt_39 : decode mS_placeAt.2.1 39 = .ok (.aload_n 0, 1) := by decide +kernel
theorem dS_placeAt_40 : decode mS_placeAt.2.1 40 = .ok (.getfield 9, 3) := by decide +kernel
theorem dS_placeAt_43 : decode mS_placeAt.2.1 43 = .ok (.iload_n 3, 1) := by decide +kernel
theorem dS_placeAt_44 : decode mS_placeAt.2.1 44 = .ok (.iconst 3, 1) := by decide +kernel
theorem dS_placeAt_45 : decode mS_placeAt.2.1 45 = .ok (.iand, 1) := by decide +kernel
theorem dS_placeAt_46 : decode mS_placeAt.2.1 46 = .ok (.laload, 1) := by decide +kernel
theorem dS_placeAt_47 : decode mS_placeAt.2.1 47 = .ok (.iload_n 3, 1) := by decide +kernel
theorem dS_placeAt_48 : decode mS_placeAt.2.1 48 = .ok (.iconst 2, 1) := by decide +kernel
theorem dS_placeAt_49 : decode mS_placeAt.2.1 49 = .ok (.ishr, 1) := by decide +kernel
theorem dS_placeAt_50 : decode mS_placeAt.2.1 50 = .ok (.invokestatic 72, 3) := by decide +kernel
theorem dS_placeAt_53 : decode mS_placeAt.2.1 53 = .ok (.ifCond .eq 13, 3) := by decide +kernel
theorem dS_placeAt_56 : decode mS_placeAt.2.1 56 = .ok (.iload_n 2, 1) := by decide +kernel
theorem dS_placeAt_57 : decode mS_placeAt.2.1 57 = .ok (.iload_n 1, 1) := by decide +kernel
theorem dS_placeAt_58 : decode mS_placeAt.2.1 58 = .ok (.if_icmp .ne 5, 3) := by decide +kernel
theorem dS_placeAt_61 : decode mS_placeAt.2.1 61 = .ok (.iload_n 3, 1) := by decide +kernel
theorem dS_placeAt_62 : decode mS_placeAt.2.1 62 = .ok (.ireturn, 1) := by decide +kernel
theorem dS_placeAt_63 : decode mS_placeAt.2.1 63 = .ok (.iinc 2 1, 3) := by decide +kernel
theorem dS_placeAt_66 : decode mS_placeAt.2.1 66 = .ok (.iinc 3 1, 3) := by decide +kernel
theorem dS_placeAt_69 : decode mS_placeAt.2.1 69 = .ok (.goto (-37), 3) := by decide +kernel
theorem dS_placeAt_72 : decode mS_placeAt.2.1 72 = .ok (.bipush (-9), 2) := by decide +kernel
theorem dS_placeAt_74 : decode mS_placeAt.2.1 74 = .ok (.ireturn, 1) := by decide +kernel
theorem dT_init_0 : decode mT_init.2.1 0 = .ok (.aload_n 0, 1) := by decide +kernel
theorem dT_init_1 : decode mT_init.2.1 1 = .ok (.invokespecial 3, 3) := by decide +kernel
theorem dT_init_4 : decode mT_init.2.1 4 = .ok (.aload_n 0, 1) := by decide +kernel
theorem dT_init_5 : decode mT_init.2.1 5 = .ok (.bipush 60, 2) := by decide +kernel
theorem dT_init_7 : decode mT_init.2.1 7 = .ok (.newarray .int, 2) := by decide +kernel
theorem dT_init_9 : decode mT_init.2.1 9 = .ok (.putfield 9, 3) := by decide +kernel
theorem dT_init_12 : decode mT_init.2.1 12 = .ok (.aload_n 0, 1) := by decide +kernel
theorem dT_init_13 : decode mT_init.2.1 13 = .ok (.bipush 36, 2) := by decide +kernel
theorem dT_init_15 : decode mT_init.2.1 15 = .ok (.newarray .int, 2) := by decide +kernel
theorem dT_init_17 : decode mT_init.2.1 17 = .ok (.putfield 15, 3) := by decide +kernel
theorem dT_init_20 : decode mT_init.2.1 20 = .ok (.return_, 1) := by decide +kernel
theorem dT_add_0 : decode mT_add.2.1 0 = .ok (.aload_n 0, 1) := by decide +kernel
theorem dT_add_1 : decode mT_add.2.1 1 = .ok (.getfield 18, 3) := by decide +kernel
theorem dT_add_4 : decode mT_add.2.1 4 = .ok (.ifCond .lt 12, 3) := by decide +kernel
theorem dT_add_7 : decode mT_add.2.1 7 = .ok (.aload_n 0, 1) := by decide +kernel
theorem dT_add_8 : decode mT_add.2.1 8 = .ok (.getfield 18, 3) := by decide +kernel
theorem dT_add_11 : decode mT_add.2.1 11 = .ok (.bipush 60, 2) := by decide +kernel
theorem dT_add_13 : decode mT_add.2.1 13 = .ok (.if_icmp .lt 5, 3) := by decide +kernel
theorem dT_add_16 : decode mT_add.2.1 16 = .ok (.iconst 0, 1) := by decide +kernel
theorem dT_add_17 : decode mT_add.2.1 17 = .ok (.ireturn, 1) := by decide +kernel
theorem dT_add_18 : decode mT_add.2.1 18 = .ok (.aload_n 0, 1) := by decide +kernel
theorem dT_add_19 : decode mT_add.2.1 19 = .ok (.getfield 9, 3) := by decide +kernel
theorem dT_add_22 : decode mT_add.2.1 22 = .ok (.aload_n 0, 1) := by decide +kernel
theorem dT_add_23 : decode mT_add.2.1 23 = .ok (.getfield 18, 3) := by decide +kernel
theorem dT_add_26 : decode mT_add.2.1 26 = .ok (.iload_n 1, 1) := by decide +kernel
theorem dT_add_27 : decode mT_add.2.1 27 = .ok (.iastore, 1) := by decide +kernel
theorem dT_add_28 : decode mT_add.2.1 28 = .ok (.aload_n 0, 1) := by decide +kernel
theorem dT_add_29 : decode mT_add.2.1 29 = .ok (.dup, 1) := by decide +kernel
theorem dT_add_30 : decode mT_add.2.1 30 = .ok (.getfield 18, 3) := by decide +kernel
theorem dT_add_33 : decode mT_add.2.1 33 = .ok (.iconst 1, 1) := by decide +kernel
theorem dT_add_34 : decode mT_add.2.1 34 = .ok (.iadd, 1) := by decide +kernel
theorem dT_add_35 : decode mT_add.2.1 35 = .ok (.putfield 18, 3) := by decide +kernel
theorem dT_add_38 : decode mT_add.2.1 38 = .ok (.iconst 1, 1) := by decide +kernel
theorem dT_add_39 : decode mT_add.2.1 39 = .ok (.ireturn, 1) := by decide +kernel
theorem dT_findFault_0 : decode mT_findFault.2.1 0 = .ok (.aload_n 0, 1) := by decide +kernel
theorem dT_findFault_1 : decode mT_findFault.2.1 1 = .ok (.iconst 0, 1) := by decide +kernel
theorem dT_findFault_2 : decode mT_findFault.2.1 2 = .ok (.putfield 22, 3) := by decide +kernel
theorem dT_findFault_5 : decode mT_findFault.2.1 5 = .ok (.aload_n 0, 1) := by decide +kernel
theorem dT_findFault_6 : decode mT_findFault.2.1 6 = .ok (.iconst 0, 1) := by decide +kernel
theorem dT_findFault_7 : decode mT_findFault.2.1 7 = .ok (.putfield 25, 3) := by decide +kernel
theorem dT_findFault_10 : decode mT_findFault.2.1 10 = .ok (.aload_n 0, 1) := by decide +kernel
theorem dT_findFault_11 : decode mT_findFault.2.1 11 = .ok (.iconst 0, 1) := by decide +kernel
theorem dT_findFault_12 : decode mT_findFault.2.1 12 = .ok (.putfield 28, 3) := by decide +kernel
theorem dT_findFault_15 : decode mT_findFault.2.1 15 = .ok (.aload_n 0, 1) := by decide +kernel
theorem dT_findFault_16 : decode mT_findFault.2.1 16 = .ok (.iconst 0, 1) := by decide +kernel
theorem dT_findFault_17 : decode mT_findFault.2.1 17 = .ok (.putfield 31, 3) := by decide +kernel
theorem dT_findFault_20 : decode mT_findFault.2.1 20 = .ok (.aload_n 0, 1) := by decide +kernel
theorem dT_findFault_21 : decode mT_findFault.2.1 21 = .ok (.iconst (-1), 1) := by decide +kernel
theorem dT_findFault_22 : decode mT_findFault.2.1 22 = .ok (.putfield 34, 3) := by decide +kernel
theorem dT_findFault_25 : decode mT_findFault.2.1 25 = .ok (.iconst 0, 1) := by decide +kernel
theorem dT_findFault_26 : decode mT_findFault.2.1 26 = .ok (.istore_n 1, 1) := by decide +kernel
theorem dT_findFault_27 : decode mT_findFault.2.1 27 = .ok (.iload_n 1, 1) := by decide +kernel
theorem dT_findFault_28 : decode mT_findFault.2.1 28 = .ok (.aload_n 0, 1) := by decide +kernel
theorem dT_findFault_29 : decode mT_findFault.2.1 29 = .ok (.getfield 18, 3) := by decide +kernel
theorem dT_findFault_32 : decode mT_findFault.2.1 32 = .ok (.if_icmp .ge 41, 3) := by decide +kernel
theorem dT_findFault_35 : decode mT_findFault.2.1 35 = .ok (.iload_n 1, 1) := by decide +kernel
theorem dT_findFault_36 : decode mT_findFault.2.1 36 = .ok (.bipush 60, 2) := by decide +kernel
theorem dT_findFault_38 : decode mT_findFault.2.1 38 = .ok (.if_icmp .ge 35, 3) := by decide +kernel
theorem dT_findFault_41 : decode mT_findFault.2.1 41 = .ok (.aload_n 0, 1) := by decide +kernel
theorem dT_findFault_42 : decode mT_findFault.2.1 42 = .ok (.getfield 9, 3) := by decide +kernel
theorem dT_findFault_45 : decode mT_findFault.2.1 45 = .ok (.iload_n 1, 1) := by decide +kernel
theorem dT_findFault_46 : decode mT_findFault.2.1 46 = .ok (.iaload, 1) := by decide +kernel
theorem dT_findFault_47 : decode mT_findFault.2.1 47 = .ok (.bipush 32, 2) := by decide +kernel
theorem dT_findFault_49 : decode mT_findFault.2.1 49 = .ok (.if_icmp .eq 18, 3) := by decide +kernel
theorem dT_findFault_52 : decode mT_findFault.2.1 52 = .ok (.aload_n 0, 1) := by decide +kernel
theorem dT_findFault_53 : decode mT_findFault.2.1 53 = .ok (.aload_n 0, 1) := by decide +kernel
theorem dT_findFault_54 : decode mT_findFault.2.1 54 = .ok (.getfield 9, 3) := by decide +kernel
theorem dT_findFault_57 : decode mT_findFault.2.1 57 = .ok (.iload_n 1, 1) := by decide +kernel
theorem dT_findFault_58 : decode mT_findFault.2.1 58 = .ok (.iaload, 1) := by decide +kernel
theorem dT_findFault_59 : decode mT_findFault.2.1 59 = .ok (.invokevirtual 37, 3) := by decide +kernel
theorem dT_findFault_62 : decode mT_findFault.2.1 62 = .ok (.ifCond .ne 5, 3) := by decide +kernel
theorem dT_findFault_65 : decode mT_findFault.2.1 65 = .ok (.iload_n 1, 1) := by decide +kernel
theorem dT_findFault_66 : decode mT_findFault.2.1 66 = .ok (.ireturn, 1) := by decide +kernel
theorem dT_findFault_67 : decode mT_findFault.2.1 67 = .ok (.iinc 1 1, 3) := by decide +kernel
theorem dT_findFault_70 : decode mT_findFault.2.1 70 = .ok (.goto (-43), 3) := by decide +kernel
theorem dT_findFault_73 : decode mT_findFault.2.1 73 = .ok (.aload_n 0, 1) := by decide +kernel
theorem dT_findFault_74 : decode mT_findFault.2.1 74 = .ok (.getfield 31, 3) := by decide +kernel
theorem dT_findFault_77 : decode mT_findFault.2.1 77 = .ok (.ifCond .ne 22, 3) := by decide +kernel
theorem dT_findFault_80 : decode mT_findFault.2.1 80 = .ok (.aload_n 0, 1) := by decide +kernel
theorem dT_findFault_81 : decode mT_findFault.2.1 81 = .ok (.getfield 28, 3) := by decide +kernel
theorem dT_findFault_84 : decode mT_findFault.2.1 84 = .ok (.ifCond .le 15, 3) := by decide +kernel
theorem dT_findFault_87 : decode mT_findFault.2.1 87 = .ok (.aload_n 0, 1) := by decide +kernel
theorem dT_findFault_88 : decode mT_findFault.2.1 88 = .ok (.getfield 34, 3) := by decide +kernel
theorem dT_findFault_91 : decode mT_findFault.2.1 91 = .ok (.iconst (-1), 1) := by decide +kernel
theorem dT_findFault_92 : decode mT_findFault.2.1 92 = .ok (.if_icmp .eq 7, 3) := by decide +kernel
theorem dT_findFault_95 : decode mT_findFault.2.1 95 = .ok (.iconst 1, 1) := by decide +kernel
theorem dT_findFault_96 : decode mT_findFault.2.1 96 = .ok (.goto 4, 3) := by decide +kernel
theorem dT_findFault_99 : decode mT_findFault.2.1 99 = .ok (.iconst 0, 1) := by decide +kernel
theorem dT_findFault_100 : decode mT_findFault.2.1 100 = .ok (.istore_n 1, 1) := by decide +kernel
theorem dT_findFault_101 : decode mT_findFault.2.1 101 = .ok (.iload_n 1, 1) := by decide +kernel
theorem dT_findFault_102 : decode mT_findFault.2.1 102 = .ok (.ifCond .eq 7, 3) := by decide +kernel
theorem dT_findFault_105 : decode mT_findFault.2.1 105 = .ok (.iconst (-1), 1) := by decide +kernel
theorem dT_findFault_106 : decode mT_findFault.2.1 106 = .ok (.goto 7, 3) := by decide +kernel
theorem dT_findFault_109 : decode mT_findFault.2.1 109 = .ok (.aload_n 0, 1) := by decide +kernel
theorem dT_findFault_110 : decode mT_findFault.2.1 110 = .ok (.getfield 18, 3) := by decide +kernel
theorem dT_findFault_113 : decode mT_findFault.2.1 113 = .ok (.ireturn, 1) := by decide +kernel
theorem dT_takes_0 : decode mT_takes.2.1 0 = .ok (.iload_n 1, 1) := by decide +kernel
theorem dT_takes_1 : decode mT_takes.2.1 1 = .ok (.bipush 59, 2) := by decide +kernel
theorem dT_takes_3 : decode mT_takes.2.1 3 = .ok (.if_icmp .ne 10, 3) := by decide +kernel
theorem dT_takes_6 : decode mT_takes.2.1 6 = .ok (.aload_n 0, 1) := by decide +kernel
theorem dT_takes_7 : decode mT_takes.2.1 7 = .ok (.invokevirtual 41, 3) := by decide +kernel
theorem dT_takes_10 : decode mT_takes.2.1 10 = .ok (.goto 11, 3) := by decide +kernel
theorem dT_takes_13 : decode mT_takes.2.1 13 = .ok (.aload_n 0, 1) := by decide +kernel
theorem dT_takes_14 : decode mT_takes.2.1 14 = .ok (.iload_n 1, 1) := by decide +kernel
theorem dT_takes_15 : decode mT_takes.2.1 15 = .ok (.invokestatic 45, 3) := by decide +kernel
theorem dT_takes_18 : decode mT_takes.2.1 18 = .ok (.invokevirtual 49, 3) := by decide +kernel
theorem dT_takes_21 : decode mT_takes.2.1 21 = .ok (.ireturn, 1) := by decide +kernel
theorem dT_endsRow_0 : decode mT_endsRow.2.1 0 = .ok (.aload_n 0, 1) := by decide +kernel
theorem dT_endsRow_1 : decode mT_endsRow.2.1 1 = .ok (.getfield 31, 3) := by decide +kernel
theorem dT_endsRow_4 : decode mT_endsRow.2.1 4 = .ok (.ifCond .eq 14, 3) := by decide +kernel
theorem dT_endsRow_7 : decode mT_endsRow.2.1 7 = .ok (.aload_n 0, 1) := by decide +kernel
theorem dT_endsRow_8 : decode mT_endsRow.2.1 8 = .ok (.getfield 31, 3) := by decide +kernel
theorem dT_endsRow_11 : decode mT_endsRow.2.1 11 = .ok (.aload_n 0, 1) := by decide +kernel
theorem dT_endsRow_12 : decode mT_endsRow.2.1 12 = .ok (.getfield 25, 3) := by decide +kernel
theorem dT_endsRow_15 : decode mT_endsRow.2.1 15 = .ok (.if_icmp .ge 5, 3) := by decide +kernel
theorem dT_endsRow_18 : decode mT_endsRow.2.1 18 = .ok (.iconst 0, 1) := by decide +kernel
theorem dT_endsRow_19 : decode mT_endsRow.2.1 19 = .ok (.ireturn, 1) := by decide +kernel
theorem dT_endsRow_20 : decode mT_endsRow.2.1 20 = .ok (.aload_n 0, 1) := by decide +kernel
theorem dT_endsRow_21 : decode mT_endsRow.2.1 21 = .ok (.aload_n 0, 1) := by decide +kernel
theorem dT_endsRow_22 : decode mT_endsRow.2.1 22 = .ok (.getfield 31, 3) := by decide +kernel
theorem dT_endsRow_25 : decode mT_endsRow.2.1 25 = .ok (.putfield 25, 3) := by decide +kernel
theorem dT_endsRow_28 : decode mT_endsRow.2.1 28 = .ok (.aload_n 0, 1) := by decide +kernel
theorem dT_endsRow_29 : decode mT_endsRow.2.1 29 = .ok (.dup, 1) := by decide +kernel
theorem dT_endsRow_30 : decode mT_endsRow.2.1 30 = .ok (.getfield 28, 3) := by decide +kernel
theorem dT_endsRow_33 : decode mT_endsRow.2.1 33 = .ok (.iconst 1, 1) := by decide +kernel
theorem dT_endsRow_34 : decode mT_endsRow.2.1 34 = .ok (.iadd, 1) := by decide +kernel
theorem dT_endsRow_35 : decode mT_endsRow.2.1 35 = .ok (.putfield 28, 3) := by decide +kernel
theorem dT_endsRow_38 : decode mT_endsRow.2.1 38 = .ok (.aload_n 0, 1) := by decide +kernel
theorem dT_endsRow_39 : decode mT_endsRow.2.1 39 = .ok (.iconst 0, 1) := by decide +kernel
theorem dT_endsRow_40 : decode mT_endsRow.2.1 40 = .ok (.putfield 31, 3) := by decide +kernel
theorem dT_endsRow_43 : decode mT_endsRow.2.1 43 = .ok (.iconst 1, 1) := by decide +kernel
theorem dT_endsRow_44 : decode mT_endsRow.2.1 44 = .ok (.ireturn, 1) := by decide +kernel
theorem dT_takesSign_0 : decode mT_takesSign.2.1 0 = .ok (.aload_n 0, 1) := by decide +kernel
theorem dT_takesSign_1 : decode mT_takesSign.2.1 1 = .ok (.getfield 28, 3) := by decide +kernel
theorem dT_takesSign_4 : decode mT_takesSign.2.1 4 = .ok (.ifCond .ne 8, 3) := by decide +kernel
theorem dT_takesSign_7 : decode mT_takesSign.2.1 7 = .ok (.bipush 6, 2) := by decide +kernel
theorem dT_takesSign_9 : decode mT_takesSign.2.1 9 = .ok (.goto 7, 3) := by decide +kernel
theorem dT_takesSign_12 : decode mT_takesSign.2.1 12 = .ok (.aload_n 0, 1) := by decide +kernel
theorem dT_takesSign_13 : decode mT_takesSign.2.1 13 = .ok (.getfield 25, 3) := by decide +kernel
theorem dT_takesSign_16 : decode mT_takesSign.2.1 16 = .ok (.istore_n 2, 1) := by decide +kernel
theorem dT_takesSign_17 : decode mT_takesSign.2.1 17 = .ok (.iload_n 1, 1) := by decide +kernel
theorem dT_takesSign_18 : decode mT_takesSign.2.1 18 = .ok (.bipush (-9), 2) := by decide +kernel
theorem dT_takesSign_20 : decode mT_takesSign.2.1 20 = .ok (.if_icmp .eq 29, 3) := by decide +kernel
theorem dT_takesSign_23 : decode mT_takesSign.2.1 23 = .ok (.aload_n 0, 1) := by decide +kernel
theorem dT_takesSign_24 : decode mT_takesSign.2.1 24 = .ok (.getfield 28, 3) := by decide +kernel
theorem dT_takesSign_27 : decode mT_takesSign.2.1 27 = .ok (.bipush 6, 2) := by decide +kernel
theorem dT_takesSign_29 : decode mT_takesSign.2.1 29 = .ok (.if_icmp .ge 20, 3) := by decide +kernel
theorem dT_takesSign_32 : decode mT_takesSign.2.1 32 = .ok (.aload_n 0, 1) := by decide +kernel
theorem dT_takesSign_33 : decode mT_takesSign.2.1 33 = .ok (.getfield 31, 3) := by decide +kernel
theorem dT_takesSign_36 : decode mT_takesSign.2.1 36 = .ok (.iload_n 2, 1) := by decide +kernel
theorem dT_takesSign_37 : decode mT_takesSign.2.1 37 = .ok (.if_icmp .ge 12, 3) := by decide +kernel
theorem dT_takesSign_40 : decode mT_takesSign.2.1 40 = .ok (.aload_n 0, 1) := by decide +kernel
theorem dT_takesSign_41 : decode mT_takesSign.2.1 41 = .ok (.getfield 22, 3) := by decide +kernel
theorem dT_takesSign_44 : decode mT_takesSign.2.1 44 = .ok (.bipush 36, 2) := by decide +kernel
theorem dT_takesSign_46 : decode mT_takesSign.2.1 46 = .ok (.if_icmp .lt 5, 3) := by decide +kernel
theorem dT_takesSign_49 : decode mT_takesSign.2.1 49 = .ok (.iconst 0, 1) := by decide +kernel
theorem dT_takesSign_50 : decode mT_takesSign.2.1 50 = .ok (.ireturn, 1) := by decide +kernel
theorem dT_takesSign_51 : decode mT_takesSign.2.1 51 = .ok (.iload_n 1, 1) := by decide +kernel
theorem dT_takesSign_52 : decode mT_takesSign.2.1 52 = .ok (.bipush 6, 2) := by decide +kernel
theorem dT_takesSign_54 : decode mT_takesSign.2.1 54 = .ok (.if_icmp .ne 13, 3) := by decide +kernel
theorem dT_takesSign_57 : decode mT_takesSign.2.1 57 = .ok (.aload_n 0, 1) := by decide +kernel
theorem dT_takesSign_58 : decode mT_takesSign.2.1 58 = .ok (.getfield 34, 3) := by decide +kernel
theorem dT_takesSign_61 : decode mT_takesSign.2.1 61 = .ok (.iconst (-1), 1) := by decide +kernel
theorem dT_takesSign_62 : decode mT_takesSign.2.1 62 = .ok (.if_icmp .eq 5, 3) := by decide +kernel
theorem dT_takesSign_65 : decode mT_takesSign.2.1 65 = .ok (.iconst 0, 1) := by decide +kernel
theorem dT_takesSign_66 : decode mT_takesSign.2.1 66 = .ok (.ireturn, 1) := by decide +kernel
theorem dT_takesSign_67 : decode mT_takesSign.2.1 67 = .ok (.iload_n 1, 1) := by decide +kernel
theorem dT_takesSign_68 : decode mT_takesSign.2.1 68 = .ok (.bipush 6, 2) := by decide +kernel
theorem dT_takesSign_70 : decode mT_takesSign.2.1 70 = .ok (.if_icmp .ne 11, 3) := by decide +kernel
theorem dT_takesSign_73 : decode mT_takesSign.2.1 73 = .ok (.aload_n 0, 1) := by decide +kernel
theorem dT_takesSign_74 : decode mT_takesSign.2.1 74 = .ok (.aload_n 0, 1) := by decide +kernel
theorem dT_takesSign_75 : decode mT_takesSign.2.1 75 = .ok (.getfield 22, 3) := by decide +kernel
theorem dT_takesSign_78 : decode mT_takesSign.2.1 78 = .ok (.putfield 34, 3) := by decide +kernel
theorem dT_takesSign_81 : decode mT_takesSign.2.1 81 = .ok (.aload_n 0, 1) := by decide +kernel
theorem dT_takesSign_82 : decode mT_takesSign.2.1 82 = .ok (.getfield 15, 3) := by decide +kernel
theorem dT_takesSign_85 : decode mT_takesSign.2.1 85 = .ok (.aload_n 0, 1) := by decide +kernel
theorem dT_takesSign_86 : decode mT_takesSign.2.1 86 = .ok (.getfield 22, 3) := by decide +kernel
theorem dT_takesSign_89 : decode mT_takesSign.2.1 89 = .ok (.iload_n 1, 1) := by decide +kernel
theorem dT_takesSign_90 : decode mT_takesSign.2.1 90 = .ok (.iastore, 1) := by decide +kernel
theorem dT_takesSign_91 : decode mT_takesSign.2.1 91 = .ok (.aload_n 0, 1) := by decide +kernel
theorem dT_takesSign_92 : decode mT_takesSign.2.1 92 = .ok (.dup, 1) := by decide +kernel
theorem dT_takesSign_93 : decode mT_takesSign.2.1 93 = .ok (.getfield 22, 3) := by decide +kernel
theorem dT_takesSign_96 : decode mT_takesSign.2.1 96 = .ok (.iconst 1, 1) := by decide +kernel
theorem dT_takesSign_97 : decode mT_takesSign.2.1 97 = .ok (.iadd, 1) := by decide +kernel
theorem dT_takesSign_98 : decode mT_takesSign.2.1 98 = .ok (.putfield 22, 3) := by decide +kernel
theorem dT_takesSign_101 : decode mT_takesSign.2.1 101 = .ok (.aload_n 0, 1) := by decide +kernel
theorem dT_takesSign_102 : decode mT_takesSign.2.1 102 = .ok (.dup, 1) := by decide +kernel
theorem dT_takesSign_103 : decode mT_takesSign.2.1 103 = .ok (.getfield 31, 3) := by decide +kernel
theorem dT_takesSign_106 : decode mT_takesSign.2.1 106 = .ok (.iconst 1, 1) := by decide +kernel
theorem dT_takesSign_107 : decode mT_takesSign.2.1 107 = .ok (.iadd, 1) := by decide +kernel
theorem dT_takesSign_108 : decode mT_takesSign.2.1 108 = .ok (.putfield 31, 3) := by decide +kernel
theorem dT_takesSign_111 : decode mT_takesSign.2.1 111 = .ok (.iconst 1, 1) := by decide +kernel
theorem dT_takesSign_112 : decode mT_takesSign.2.1 112 = .ok (.ireturn, 1) := by decide +kernel
theorem dT_kindOfSign_0 : decode mT_kindOfSign.2.1 0 = .ok (.iload_n 0, 1) := by decide +kernel
theorem dT_kindOfSign_1 : decode mT_kindOfSign.2.1 1 = .ok (.lookupswitch 72 #[(33, 63), (35, 61), (46, 59), (68, 69), (100, 67), (110, 65)], 59) := by decide +kernel
theorem dT_kindOfSign_60 : decode mT_kindOfSign.2.1 60 = .ok (.iconst 0, 1) := by decide +kernel
theorem dT_kindOfSign_61 : decode mT_kindOfSign.2.1 61 = .ok (.ireturn, 1) := by decide +kernel
theorem dT_kindOfSign_62 : decode mT_kindOfSign.2.1 62 = .ok (.iconst 1, 1) := by decide +kernel
theorem dT_kindOfSign_63 : decode mT_kindOfSign.2.1 63 = .ok (.ireturn, 1) := by decide +kernel
theorem dT_kindOfSign_64 : decode mT_kindOfSign.2.1 64 = .ok (.iconst 2, 1) := by decide +kernel
theorem dT_kindOfSign_65 : decode mT_kindOfSign.2.1 65 = .ok (.ireturn, 1) := by decide +kernel
theorem dT_kindOfSign_66 : decode mT_kindOfSign.2.1 66 = .ok (.iconst 3, 1) := by decide +kernel
theorem dT_kindOfSign_67 : decode mT_kindOfSign.2.1 67 = .ok (.ireturn, 1) := by decide +kernel
theorem dT_kindOfSign_68 : decode mT_kindOfSign.2.1 68 = .ok (.iconst 4, 1) := by decide +kernel
theorem dT_kindOfSign_69 : decode mT_kindOfSign.2.1 69 = .ok (.ireturn, 1) := by decide +kernel
theorem dT_kindOfSign_70 : decode mT_kindOfSign.2.1 70 = .ok (.bipush 6, 2) := by decide +kernel
theorem dT_kindOfSign_72 : decode mT_kindOfSign.2.1 72 = .ok (.ireturn, 1) := by decide +kernel
theorem dT_kindOfSign_73 : decode mT_kindOfSign.2.1 73 = .ok (.bipush (-9), 2) := by decide +kernel
theorem dT_kindOfSign_75 : decode mT_kindOfSign.2.1 75 = .ok (.ireturn, 1) := by decide +kernel
theorem dF_init_0 : decode mF_init.2.1 0 = .ok (.aload_n 0, 1) := by decide +kernel
theorem dF_init_1 : decode mF_init.2.1 1 = .ok (.invokespecial 3, 3) := by decide +kernel
theorem dF_init_4 : decode mF_init.2.1 4 = .ok (.aload_n 0, 1) := by decide +kernel
theorem dF_init_5 : decode mF_init.2.1 5 = .ok (.new 9, 3) := by decide +kernel
theorem dF_init_8 : decode mF_init.2.1 8 = .ok (.dup, 1) := by decide +kernel
theorem dF_init_9 : decode mF_init.2.1 9 = .ok (.invokespecial 11, 3) := by decide +kernel
theorem dF_init_12 : decode mF_init.2.1 12 = .ok (.putfield 12, 3) := by decide +kernel
theorem dF_init_15 : decode mF_init.2.1 15 = .ok (.aload_n 0, 1) := by decide +kernel
theorem dF_init_16 : decode mF_init.2.1 16 = .ok (.new 16, 3) := by decide +kernel
theorem dF_init_19 : decode mF_init.2.1 19 = .ok (.dup, 1) := by decide +kernel
theorem dF_init_20 : decode mF_init.2.1 20 = .ok (.invokespecial 18, 3) := by decide +kernel
theorem dF_init_23 : decode mF_init.2.1 23 = .ok (.putfield 19, 3) := by decide +kernel
theorem dF_init_26 : decode mF_init.2.1 26 = .ok (.aload_n 0, 1) := by decide +kernel
theorem dF_init_27 : decode mF_init.2.1 27 = .ok (.new 23, 3) := by decide +kernel
theorem dF_init_30 : decode mF_init.2.1 30 = .ok (.dup, 1) := by decide +kernel
theorem dF_init_31 : decode mF_init.2.1 31 = .ok (.aload_n 0, 1) := by decide +kernel
theorem dF_init_32 : decode mF_init.2.1 32 = .ok (.getfield 19, 3) := by decide +kernel
theorem dF_init_35 : decode mF_init.2.1 35 = .ok (.invokespecial 25, 3) := by decide +kernel
theorem dF_init_38 : decode mF_init.2.1 38 = .ok (.putfield 28, 3) := by decide +kernel
theorem dF_init_41 : decode mF_init.2.1 41 = .ok (.aload_n 0, 1) := by decide +kernel
theorem dF_init_42 : decode mF_init.2.1 42 = .ok (.new 23, 3) := by decide +kernel
theorem dF_init_45 : decode mF_init.2.1 45 = .ok (.dup, 1) := by decide +kernel
theorem dF_init_46 : decode mF_init.2.1 46 = .ok (.aload_n 0, 1) := by decide +kernel
theorem dF_init_47 : decode mF_init.2.1 47 = .ok (.getfield 19, 3) := by decide +kernel
theorem dF_init_50 : decode mF_init.2.1 50 = .ok (.invokespecial 25, 3) := by decide +kernel
theorem dF_init_53 : decode mF_init.2.1 53 = .ok (.putfield 32, 3) := by decide +kernel
theorem dF_init_56 : decode mF_init.2.1 56 = .ok (.aload_n 0, 1) := by decide +kernel
theorem dF_init_57 : decode mF_init.2.1 57 = .ok (.new 35, 3) := by decide +kernel
theorem dF_init_60 : decode mF_init.2.1 60 = .ok (.dup, 1) := by decide +kernel
theorem dF_init_61 : decode mF_init.2.1 61 = .ok (.invokespecial 37, 3) := by decide +kernel
theorem dF_init_64 : decode mF_init.2.1 64 = .ok (.putfield 38, 3) := by decide +kernel
theorem dF_init_67 : decode mF_init.2.1 67 = .ok (.aload_n 0, 1) := by decide +kernel
theorem dF_init_68 : decode mF_init.2.1 68 = .ok (.new 42, 3) := by decide +kernel
theorem dF_init_71 : decode mF_init.2.1 71 = .ok (.dup, 1) := by decide +kernel
theorem dF_init_72 : decode mF_init.2.1 72 = .ok (.aload_n 0, 1) := by decide +kernel
theorem dF_init_73 : decode mF_init.2.1 73 = .ok (.getfield 19, 3) := by decide +kernel
theorem dF_init_76 : decode mF_init.2.1 76 = .ok (.invokespecial 44, 3) := by decide +kernel
theorem dF_init_79 : decode mF_init.2.1 79 = .ok (.putfield 45, 3) := by decide +kernel
theorem dF_init_82 : decode mF_init.2.1 82 = .ok (.aload_n 0, 1) := by decide +kernel
theorem dF_init_83 : decode mF_init.2.1 83 = .ok (.new 49, 3) := by decide +kernel
theorem dF_init_86 : decode mF_init.2.1 86 = .ok (.dup, 1) := by decide +kernel
theorem dF_init_87 : decode mF_init.2.1 87 = .ok (.aload_n 0, 1) := by decide +kernel
theorem dF_init_88 : decode mF_init.2.1 88 = .ok (.getfield 19, 3) := by decide +kernel
theorem dF_init_91 : decode mF_init.2.1 91 = .ok (.invokespecial 51, 3) := by decide +kernel
theorem dF_init_94 : decode mF_init.2.1 94 = .ok (.putfield 52, 3) := by decide +kernel
theorem dF_init_97 : decode mF_init.2.1 97 = .ok (.aload_n 0, 1) := by decide +kernel
theorem dF_init_98 : decode mF_init.2.1 98 = .ok (.getfield 12, 3) := by decide +kernel
theorem dF_init_101 : decode mF_init.2.1 101 = .ok (.bipush 68, 2) := by decide +kernel
theorem dF_init_103 : decode mF_init.2.1 103 = .ok (.invokevirtual 56, 3) := by decide +kernel
theorem dF_init_106 : decode mF_init.2.1 106 = .ok (.pop, 1) := by decide +kernel
theorem dF_init_107 : decode mF_init.2.1 107 = .ok (.aload_n 0, 1) := by decide +kernel
theorem dF_init_108 : decode mF_init.2.1 108 = .ok (.getfield 12, 3) := by decide +kernel
theorem dF_init_111 : decode mF_init.2.1 111 = .ok (.bipush 59, 2) := by decide +kernel
theorem dF_init_113 : decode mF_init.2.1 113 = .ok (.invokevirtual 56, 3) := by decide +kernel
theorem dF_init_116 : decode mF_init.2.1 116 = .ok (.pop, 1) := by decide +kernel
theorem dF_init_117 : decode mF_init.2.1 117 = .ok (.aload_n 0, 1) := by decide +kernel
theorem dF_init_118 : decode mF_init.2.1 118 = .ok (.invokevirtual 60, 3) := by decide +kernel
theorem dF_init_121 : decode mF_init.2.1 121 = .ok (.pop, 1) := by decide +kernel
theorem dF_init_122 : decode mF_init.2.1 122 = .ok (.return_, 1) := by decide +kernel
theorem dF_type_0 : decode mF_type.2.1 0 = .ok (.iload_n 1, 1) := by decide +kernel
theorem dF_type_1 : decode mF_type.2.1 1 = .ok (.ifCond .lt 10, 3) := by decide +kernel
theorem dF_type_4 : decode mF_type.2.1 4 = .ok (.iload_n 1, 1) := by decide +kernel
theorem dF_type_5 : decode mF_type.2.1 5 = .ok (.sipush 255, 3) := by decide +kernel
theorem dF_type_8 : decode mF_type.2.1 8 = .ok (.if_icmp .le 5, 3) := by decide +kernel
theorem dF_type_11 : decode mF_type.2.1 11 = .ok (.iconst (-1), 1) := by decide +kernel
theorem dF_type_12 : decode mF_type.2.1 12 = .ok (.ireturn, 1) := by decide +kernel
theorem dF_type_13 : decode mF_type.2.1 13 = .ok (.aload_n 0, 1) := by decide +kernel
theorem dF_type_14 : decode mF_type.2.1 14 = .ok (.getfield 12, 3) := by decide +kernel
theorem dF_type_17 : decode mF_type.2.1 17 = .ok (.iload_n 1, 1) := by decide +kernel
theorem dF_type_18 : decode mF_type.2.1 18 = .ok (.invokevirtual 56, 3) := by decide +kernel
theorem dF_type_21 : decode mF_type.2.1 21 = .ok (.ifCond .eq 13, 3) := by decide +kernel
theorem dF_type_24 : decode mF_type.2.1 24 = .ok (.aload_n 0, 1) := by decide +kernel
theorem dF_type_25 : decode mF_type.2.1 25 = .ok (.getfield 12, 3) := by decide +kernel
theorem dF_type_28 : decode mF_type.2.1 28 = .ok (.getfield 64, 3) := by decide +kernel
theorem dF_type_31 : decode mF_type.2.1 31 = .ok (.goto 5, 3) := by decide +kernel
theorem dF_type_34 : decode mF_type.2.1 34 = .ok (.bipush (-3), 2) := by decide +kernel
theorem dF_type_36 : decode mF_type.2.1 36 = .ok (.ireturn, 1) := by decide +kernel
theorem dF_clear_0 : decode mF_clear.2.1 0 = .ok (.aload_n 0, 1) := by decide +kernel
theorem dF_clear_1 : decode mF_clear.2.1 1 = .ok (.getfield 12, 3) := by decide +kernel
theorem dF_clear_4 : decode mF_clear.2.1 4 = .ok (.getfield 64, 3) := by decide +kernel
theorem dF_clear_7 : decode mF_clear.2.1 7 = .ok (.istore_n 1, 1) := by decide +kernel
theorem dF_clear_8 : decode mF_clear.2.1 8 = .ok (.aload_n 0, 1) := by decide +kernel
theorem dF_clear_9 : decode mF_clear.2.1 9 = .ok (.getfield 12, 3) := by decide +kernel
theorem dF_clear_12 : decode mF_clear.2.1 12 = .ok (.iconst 0, 1) := by decide +kernel
theorem dF_clear_13 : decode mF_clear.2.1 13 = .ok (.putfield 64, 3) := by decide +kernel
theorem dF_clear_16 : decode mF_clear.2.1 16 = .ok (.iload_n 1, 1) := by decide +kernel
theorem dF_clear_17 : decode mF_clear.2.1 17 = .ok (.ireturn, 1) := by decide +kernel
theorem dF_floor_0 : decode mF_floor.2.1 0 = .ok (.aload_n 0, 1) := by decide +kernel
theorem dF_floor_1 : decode mF_floor.2.1 1 = .ok (.invokevirtual 60, 3) := by decide +kernel
theorem dF_floor_4 : decode mF_floor.2.1 4 = .ok (.istore_n 1, 1) := by decide +kernel
theorem dF_floor_5 : decode mF_floor.2.1 5 = .ok (.iload_n 1, 1) := by decide +kernel
theorem dF_floor_6 : decode mF_floor.2.1 6 = .ok (.iconst (-1), 1) := by decide +kernel
theorem dF_floor_7 : decode mF_floor.2.1 7 = .ok (.if_icmp .ne 13, 3) := by decide +kernel
theorem dF_floor_10 : decode mF_floor.2.1 10 = .ok (.aload_n 0, 1) := by decide +kernel
theorem dF_floor_11 : decode mF_floor.2.1 11 = .ok (.getfield 19, 3) := by decide +kernel
theorem dF_floor_14 : decode mF_floor.2.1 14 = .ok (.invokevirtual 68, 3) := by decide +kernel
theorem dF_floor_17 : decode mF_floor.2.1 17 = .ok (.goto 7, 3) := by decide +kernel
theorem dF_floor_20 : decode mF_floor.2.1 20 = .ok (.bipush (-10), 2) := by decide +kernel
theorem dF_floor_22 : decode mF_floor.2.1 22 = .ok (.iload_n 1, 1) := by decide +kernel
theorem dF_floor_23 : decode mF_floor.2.1 23 = .ok (.isub, 1) := by decide +kernel
theorem dF_floor_24 : decode mF_floor.2.1 24 = .ok (.ireturn, 1) := by decide +kernel
theorem dF_cell_0 : decode mF_cell.2.1 0 = .ok (.aload_n 0, 1) := by decide +kernel
theorem dF_cell_1 : decode mF_cell.2.1 1 = .ok (.getfield 19, 3) := by decide +kernel
theorem dF_cell_4 : decode mF_cell.2.1 4 = .ok (.iload_n 1, 1) := by decide +kernel
theorem dF_cell_5 : decode mF_cell.2.1 5 = .ok (.invokevirtual 71, 3) := by decide +kernel
theorem dF_cell_8 : decode mF_cell.2.1 8 = .ok (.ifCond .eq 14, 3) := by decide +kernel
theorem dF_cell_11 : decode mF_cell.2.1 11 = .ok (.aload_n 0, 1) := by decide +kernel
theorem dF_cell_12 : decode mF_cell.2.1 12 = .ok (.getfield 28, 3) := by decide +kernel
theorem dF_cell_15 : decode mF_cell.2.1 15 = .ok (.iload_n 1, 1) := by decide +kernel
theorem dF_cell_16 : decode mF_cell.2.1 16 = .ok (.invokevirtual 74, 3) := by decide +kernel
theorem dF_cell_19 : decode mF_cell.2.1 19 = .ok (.goto 4, 3) := by decide +kernel
theorem dF_cell_22 : decode mF_cell.2.1 22 = .ok (.iconst (-1), 1) := by decide +kernel
theorem dF_cell_23 : decode mF_cell.2.1 23 = .ok (.ireturn, 1) := by decide +kernel
theorem dF_powers_0 : decode mF_powers.2.1 0 = .ok (.iload_n 1, 1) := by decide +kernel
theorem dF_powers_1 : decode mF_powers.2.1 1 = .ok (.iconst 1, 1) := by decide +kernel
theorem dF_powers_2 : decode mF_powers.2.1 2 = .ok (.if_icmp .lt 20, 3) := by decide +kernel
theorem dF_powers_5 : decode mF_powers.2.1 5 = .ok (.iload_n 1, 1) := by decide +kernel
theorem dF_powers_6 : decode mF_powers.2.1 6 = .ok (.bipush 99, 2) := by decide +kernel
theorem dF_powers_8 : decode mF_powers.2.1 8 = .ok (.if_icmp .gt 14, 3) := by decide +kernel
theorem dF_powers_11 : decode mF_powers.2.1 11 = .ok (.iload_n 2, 1) := by decide +kernel
theorem dF_powers_12 : decode mF_powers.2.1 12 = .ok (.iconst 1, 1) := by decide +kernel
theorem dF_powers_13 : decode mF_powers.2.1 13 = .ok (.if_icmp .lt 9, 3) := by decide +kernel
theorem dF_powers_16 : decode mF_powers.2.1 16 = .ok (.iload_n 2, 1) := by decide +kernel
theorem dF_powers_17 : decode mF_powers.2.1 17 = .ok (.bipush 20, 2) := by decide +kernel
theorem dF_powers_19 : decode mF_powers.2.1 19 = .ok (.if_icmp .le 5, 3) := by decide +kernel
theorem dF_powers_22 : decode mF_powers.2.1 22 = .ok (.iconst (-1), 1) := by decide +kernel
theorem dF_powers_23 : decode mF_powers.2.1 23 = .ok (.ireturn, 1) := by decide +kernel
theorem dF_powers_24 : decode mF_powers.2.1 24 = .ok (.iload_n 1, 1) := by decide +kernel
theorem dF_powers_25 : decode mF_powers.2.1 25 = .ok (.aload_n 0, 1) := by decide +kernel
theorem dF_powers_26 : decode mF_powers.2.1 26 = .ok (.getfield 28, 3) := by decide +kernel
theorem dF_powers_29 : decode mF_powers.2.1 29 = .ok (.getfield 78, 3) := by decide +kernel
theorem dF_powers_32 : decode mF_powers.2.1 32 = .ok (.if_icmp .ne 17, 3) := by decide +kernel
theorem dF_powers_35 : decode mF_powers.2.1 35 = .ok (.iload_n 2, 1) := by decide +kernel
theorem dF_powers_36 : decode mF_powers.2.1 36 = .ok (.aload_n 0, 1) := by decide +kernel
theorem dF_powers_37 : decode mF_powers.2.1 37 = .ok (.getfield 28, 3) := by decide +kernel
theorem dF_powers_40 : decode mF_powers.2.1 40 = .ok (.getfield 81, 3) := by decide +kernel
theorem dF_powers_43 : decode mF_powers.2.1 43 = .ok (.if_icmp .ne 6, 3) := by decide +kernel
theorem dF_powers_46 : decode mF_powers.2.1 46 = .ok (.bipush (-2), 2) := by decide +kernel
theorem dF_powers_48 : decode mF_powers.2.1 48 = .ok (.ireturn, 1) := by decide +kernel
theorem dF_powers_49 : decode mF_powers.2.1 49 = .ok (.aload_n 0, 1) := by decide +kernel
theorem dF_powers_50 : decode mF_powers.2.1 50 = .ok (.getfield 45, 3) := by decide +kernel
theorem dF_powers_53 : decode mF_powers.2.1 53 = .ok (.aload_n 0, 1) := by decide +kernel
theorem dF_powers_54 : decode mF_powers.2.1 54 = .ok (.getfield 28, 3) := by decide +kernel
theorem dF_powers_57 : decode mF_powers.2.1 57 = .ok (.invokevirtual 84, 3) := by decide +kernel
theorem dF_powers_60 : decode mF_powers.2.1 60 = .ok (.aload_n 0, 1) := by decide +kernel
theorem dF_powers_61 : decode mF_powers.2.1 61 = .ok (.getfield 28, 3) := by decide +kernel
theorem dF_powers_64 : decode mF_powers.2.1 64 = .ok (.iload_n 1, 1) := by decide +kernel
theorem dF_powers_65 : decode mF_powers.2.1 65 = .ok (.putfield 78, 3) := by decide +kernel
theorem dF_powers_68 : decode mF_powers.2.1 68 = .ok (.aload_n 0, 1) := by decide +kernel
theorem dF_powers_69 : decode mF_powers.2.1 69 = .ok (.getfield 28, 3) := by decide +kernel
theorem dF_powers_72 : decode mF_powers.2.1 72 = .ok (.iload_n 2, 1) := by decide +kernel
theorem dF_powers_73 : decode mF_powers.2.1 73 = .ok (.putfield 81, 3) := by decide +kernel
theorem dF_powers_76 : decode mF_powers.2.1 76 = .ok (.aload_n 0, 1) := by decide +kernel
theorem dF_powers_77 : decode mF_powers.2.1 77 = .ok (.getfield 28, 3) := by decide +kernel
theorem dF_powers_80 : decode mF_powers.2.1 80 = .ok (.aload_n 0, 1) := by decide +kernel
theorem dF_powers_81 : decode mF_powers.2.1 81 = .ok (.getfield 28, 3) := by decide +kernel
theorem dF_powers_84 : decode mF_powers.2.1 84 = .ok (.getfield 88, 3) := by decide +kernel
theorem dF_powers_87 : decode mF_powers.2.1 87 = .ok (.iload_n 1, 1) := by decide +kernel
theorem dF_powers_88 : decode mF_powers.2.1 88 = .ok (.invokestatic 91, 3) := by decide +kernel
theorem dF_powers_91 : decode mF_powers.2.1 91 = .ok (.putfield 88, 3) := by decide +kernel
theorem dF_powers_94 : decode mF_powers.2.1 94 = .ok (.aload_n 0, 1) := by decide +kernel
theorem dF_powers_95 : decode mF_powers.2.1 95 = .ok (.getfield 28, 3) := by decide +kernel
theorem dF_powers_98 : decode mF_powers.2.1 98 = .ok (.getfield 88, 3) := by decide +kernel
theorem dF_powers_101 : decode mF_powers.2.1 101 = .ok (.ireturn, 1) := by decide +kernel
theorem dF_moves_0 : decode mF_moves.2.1 0 = .ok (.aload_n 0, 1) := by decide +kernel
theorem dF_moves_1 : decode mF_moves.2.1 1 = .ok (.getfield 19, 3) := by decide +kernel
theorem dF_moves_4 : decode mF_moves.2.1 4 = .ok (.iload_n 1, 1) := by decide +kernel
theorem dF_moves_5 : decode mF_moves.2.1 5 = .ok (.invokevirtual 71, 3) := by decide +kernel
theorem dF_moves_8 : decode mF_moves.2.1 8 = .ok (.ifCond .eq 17, 3) := by decide +kernel
theorem dF_moves_11 : decode mF_moves.2.1 11 = .ok (.aload_n 0, 1) := by decide +kernel
theorem dF_moves_12 : decode mF_moves.2.1 12 = .ok (.getfield 19, 3) := by decide +kernel
theorem dF_moves_15 : decode mF_moves.2.1 15 = .ok (.getfield 97, 3) := by decide +kernel
theorem dF_moves_18 : decode mF_moves.2.1 18 = .ok (.iload_n 1, 1) := by decide +kernel
theorem dF_moves_19 : decode mF_moves.2.1 19 = .ok (.invokestatic 101, 3) := by decide +kernel
theorem dF_moves_22 : decode mF_moves.2.1 22 = .ok (.ifCond .ne 5, 3) := by decide +kernel
theorem dF_moves_25 : decode mF_moves.2.1 25 = .ok (.iconst (-1), 1) := by decide +kernel
theorem dF_moves_26 : decode mF_moves.2.1 26 = .ok (.ireturn, 1) := by decide +kernel
theorem dF_moves_27 : decode mF_moves.2.1 27 = .ok (.iload_n 1, 1) := by decide +kernel
theorem dF_moves_28 : decode mF_moves.2.1 28 = .ok (.aload_n 0, 1) := by decide +kernel
theorem dF_moves_29 : decode mF_moves.2.1 29 = .ok (.getfield 28, 3) := by decide +kernel
theorem dF_moves_32 : decode mF_moves.2.1 32 = .ok (.getfield 105, 3) := by decide +kernel
theorem dF_moves_35 : decode mF_moves.2.1 35 = .ok (.if_icmp .ne 6, 3) := by decide +kernel
theorem dF_moves_38 : decode mF_moves.2.1 38 = .ok (.bipush (-2), 2) := by decide +kernel
theorem dF_moves_40 : decode mF_moves.2.1 40 = .ok (.ireturn, 1) := by decide +kernel
theorem dF_moves_41 : decode mF_moves.2.1 41 = .ok (.aload_n 0, 1) := by decide +kernel
theorem dF_moves_42 : decode mF_moves.2.1 42 = .ok (.getfield 45, 3) := by decide +kernel
theorem dF_moves_45 : decode mF_moves.2.1 45 = .ok (.aload_n 0, 1) := by decide +kernel
theorem dF_moves_46 : decode mF_moves.2.1 46 = .ok (.getfield 28, 3) := by decide +kernel
theorem dF_moves_49 : decode mF_moves.2.1 49 = .ok (.invokevirtual 84, 3) := by decide +kernel
theorem dF_moves_52 : decode mF_moves.2.1 52 = .ok (.aload_n 0, 1) := by decide +kernel
theorem dF_moves_53 : decode mF_moves.2.1 53 = .ok (.getfield 28, 3) := by decide +kernel
theorem dF_moves_56 : decode mF_moves.2.1 56 = .ok (.dup, 1) := by decide +kernel
theorem dF_moves_57 : decode mF_moves.2.1 57 = .ok (.getfield 108, 3) := by decide +kernel
theorem dF_moves_60 : decode mF_moves.2.1 60 = .ok (.iload_n 1, 1) := by decide +kernel
theorem dF_moves_61 : decode mF_moves.2.1 61 = .ok (.invokestatic 111, 3) := by decide +kernel
theorem dF_moves_64 : decode mF_moves.2.1 64 = .ok (.lxor, 1) := by decide +kernel
theorem dF_moves_65 : decode mF_moves.2.1 65 = .ok (.putfield 108, 3) := by decide +kernel
theorem dF_moves_68 : decode mF_moves.2.1 68 = .ok (.aload_n 0, 1) := by decide +kernel
theorem dF_moves_69 : decode mF_moves.2.1 69 = .ok (.getfield 28, 3) := by decide +kernel
theorem dF_moves_72 : decode mF_moves.2.1 72 = .ok (.getfield 108, 3) := by decide +kernel
theorem dF_moves_75 : decode mF_moves.2.1 75 = .ok (.iload_n 1, 1) := by decide +kernel
theorem dF_moves_76 : decode mF_moves.2.1 76 = .ok (.invokestatic 101, 3) := by decide +kernel
theorem dF_moves_79 : decode mF_moves.2.1 79 = .ok (.ifCond .eq 7, 3) := by decide +kernel
theorem dF_moves_82 : decode mF_moves.2.1 82 = .ok (.iconst 0, 1) := by decide +kernel
theorem dF_moves_83 : decode mF_moves.2.1 83 = .ok (.goto 4, 3) := by decide +kernel
theorem dF_moves_86 : decode mF_moves.2.1 86 = .ok (.iconst 1, 1) := by decide +kernel
theorem dF_moves_87 : decode mF_moves.2.1 87 = .ok (.ireturn, 1) := by decide +kernel
theorem dF_steps_0 : decode mF_steps.2.1 0 = .ok (.aload_n 0, 1) := by decide +kernel
theorem dF_steps_1 : decode mF_steps.2.1 1 = .ok (.getfield 28, 3) := by decide +kernel
theorem dF_steps_4 : decode mF_steps.2.1 4 = .ok (.getfield 88, 3) := by decide +kernel
theorem dF_steps_7 : decode mF_steps.2.1 7 = .ok (.ifCond .gt 6, 3) := by decide +kernel
theorem dF_steps_10 : decode mF_steps.2.1 10 = .ok (.bipush (-2), 2) := by decide +kernel
theorem dF_steps_12 : decode mF_steps.2.1 12 = .ok (.ireturn, 1) := by decide +kernel
theorem dF_steps_13 : decode mF_steps.2.1 13 = .ok (.aload_n 0, 1) := by decide +kernel
theorem dF_steps_14 : decode mF_steps.2.1 14 = .ok (.getfield 45, 3) := by decide +kernel
theorem dF_steps_17 : decode mF_steps.2.1 17 = .ok (.aload_n 0, 1) := by decide +kernel
theorem dF_steps_18 : decode mF_steps.2.1 18 = .ok (.getfield 28, 3) := by decide +kernel
theorem dF_steps_21 : decode mF_steps.2.1 21 = .ok (.invokevirtual 84, 3) := by decide +kernel
theorem dF_steps_24 : decode mF_steps.2.1 24 = .ok (.aload_n 0, 1) := by decide +kernel
theorem dF_steps_25 : decode mF_steps.2.1 25 = .ok (.getfield 28, 3) := by decide +kernel
theorem dF_steps_28 : decode mF_steps.2.1 28 = .ok (.aload_n 0, 1) := by decide +kernel
theorem dF_steps_29 : decode mF_steps.2.1 29 = .ok (.getfield 28, 3) := by decide +kernel
theorem dF_steps_32 : decode mF_steps.2.1 32 = .ok (.getfield 115, 3) := by decide +kernel
theorem dF_steps_35 : decode mF_steps.2.1 35 = .ok (.invokevirtual 118, 3) := by decide +kernel
theorem dF_steps_38 : decode mF_steps.2.1 38 = .ok (.ireturn, 1) := by decide +kernel
theorem dF_rotates_0 : decode mF_rotates.2.1 0 = .ok (.iload_n 1, 1) := by decide +kernel
theorem dF_rotates_1 : decode mF_rotates.2.1 1 = .ok (.iconst 1, 1) := by decide +kernel
theorem dF_rotates_2 : decode mF_rotates.2.1 2 = .ok (.if_icmp .lt 8, 3) := by decide +kernel
theorem dF_rotates_5 : decode mF_rotates.2.1 5 = .ok (.iload_n 1, 1) := by decide +kernel
theorem dF_rotates_6 : decode mF_rotates.2.1 6 = .ok (.iconst 4, 1) := by decide +kernel
theorem dF_rotates_7 : decode mF_rotates.2.1 7 = .ok (.if_icmp .lt 5, 3) := by decide +kernel
theorem dF_rotates_10 : decode mF_rotates.2.1 10 = .ok (.iconst (-1), 1) := by decide +kernel
theorem dF_rotates_11 : decode mF_rotates.2.1 11 = .ok (.ireturn, 1) := by decide +kernel
theorem dF_rotates_12 : decode mF_rotates.2.1 12 = .ok (.aload_n 0, 1) := by decide +kernel
theorem dF_rotates_13 : decode mF_rotates.2.1 13 = .ok (.getfield 45, 3) := by decide +kernel
theorem dF_rotates_16 : decode mF_rotates.2.1 16 = .ok (.aload_n 0, 1) := by decide +kernel
theorem dF_rotates_17 : decode mF_rotates.2.1 17 = .ok (.getfield 28, 3) := by decide +kernel
theorem dF_rotates_20 : decode mF_rotates.2.1 20 = .ok (.invokevirtual 84, 3) := by decide +kernel
theorem dF_rotates_23 : decode mF_rotates.2.1 23 = .ok (.aload_n 0, 1) := by decide +kernel
theorem dF_rotates_24 : decode mF_rotates.2.1 24 = .ok (.getfield 28, 3) := by decide +kernel
theorem dF_rotates_27 : decode mF_rotates.2.1 27 = .ok (.iload_n 1, 1) := by decide +kernel
theorem dF_rotates_28 : decode mF_rotates.2.1 28 = .ok (.invokevirtual 121, 3) := by decide +kernel
theorem dF_rotates_31 : decode mF_rotates.2.1 31 = .ok (.aload_n 0, 1) := by decide +kernel
theorem dF_rotates_32 : decode mF_rotates.2.1 32 = .ok (.getfield 28, 3) := by decide +kernel
theorem dF_rotates_35 : decode mF_rotates.2.1 35 = .ok (.getfield 115, 3) := by decide +kernel
theorem dF_rotates_38 : decode mF_rotates.2.1 38 = .ok (.ireturn, 1) := by decide +kernel
theorem dF_scans_0 : decode mF_scans.2.1 0 = .ok (.aload_n 0, 1) := by decide +kernel
theorem dF_scans_1 : decode mF_scans.2.1 1 = .ok (.getfield 45, 3) := by decide +kernel
theorem dF_scans_4 : decode mF_scans.2.1 4 = .ok (.aload_n 0, 1) := by decide +kernel
theorem dF_scans_5 : decode mF_scans.2.1 5 = .ok (.getfield 28, 3) := by decide +kernel
theorem dF_scans_8 : decode mF_scans.2.1 8 = .ok (.invokevirtual 84, 3) := by decide +kernel
theorem dF_scans_11 : decode mF_scans.2.1 11 = .ok (.aload_n 0, 1) := by decide +kernel
theorem dF_scans_12 : decode mF_scans.2.1 12 = .ok (.getfield 28, 3) := by decide +kernel
theorem dF_scans_15 : decode mF_scans.2.1 15 = .ok (.invokevirtual 125, 3) := by decide +kernel
theorem dF_scans_18 : decode mF_scans.2.1 18 = .ok (.ireturn, 1) := by decide +kernel
theorem dF_carries_0 : decode mF_carries.2.1 0 = .ok (.aload_n 0, 1) := by decide +kernel
theorem dF_carries_1 : decode mF_carries.2.1 1 = .ok (.getfield 19, 3) := by decide +kernel
theorem dF_carries_4 : decode mF_carries.2.1 4 = .ok (.iload_n 1, 1) := by decide +kernel
theorem dF_carries_5 : decode mF_carries.2.1 5 = .ok (.invokevirtual 71, 3) := by decide +kernel
theorem dF_carries_8 : decode mF_carries.2.1 8 = .ok (.ifCond .eq 26, 3) := by decide +kernel
theorem dF_carries_11 : decode mF_carries.2.1 11 = .ok (.aload_n 0, 1) := by decide +kernel
theorem dF_carries_12 : decode mF_carries.2.1 12 = .ok (.getfield 28, 3) := by decide +kernel
theorem dF_carries_15 : decode mF_carries.2.1 15 = .ok (.invokevirtual 128, 3) := by decide +kernel
theorem dF_carries_18 : decode mF_carries.2.1 18 = .ok (.iload_n 1, 1) := by decide +kernel
theorem dF_carries_19 : decode mF_carries.2.1 19 = .ok (.invokestatic 101, 3) := by decide +kernel
theorem dF_carries_22 : decode mF_carries.2.1 22 = .ok (.ifCond .eq 12, 3) := by decide +kernel
theorem dF_carries_25 : decode mF_carries.2.1 25 = .ok (.iload_n 2, 1) := by decide +kernel
theorem dF_carries_26 : decode mF_carries.2.1 26 = .ok (.ifCond .lt 8, 3) := by decide +kernel
theorem dF_carries_29 : decode mF_carries.2.1 29 = .ok (.iload_n 2, 1) := by decide +kernel
theorem dF_carries_30 : decode mF_carries.2.1 30 = .ok (.iconst 4, 1) := by decide +kernel
theorem dF_carries_31 : decode mF_carries.2.1 31 = .ok (.if_icmp .lt 5, 3) := by decide +kernel
theorem dF_carries_34 : decode mF_carries.2.1 34 = .ok (.iconst (-1), 1) := by decide +kernel
theorem dF_carries_35 : decode mF_carries.2.1 35 = .ok (.ireturn, 1) := by decide +kernel
theorem dF_carries_36 : decode mF_carries.2.1 36 = .ok (.aload_n 0, 1) := by decide +kernel
theorem dF_carries_37 : decode mF_carries.2.1 37 = .ok (.getfield 45, 3) := by decide +kernel
theorem dF_carries_40 : decode mF_carries.2.1 40 = .ok (.aload_n 0, 1) := by decide +kernel
theorem dF_carries_41 : decode mF_carries.2.1 41 = .ok (.getfield 28, 3) := by decide +kernel
theorem dF_carries_44 : decode mF_carries.2.1 44 = .ok (.invokevirtual 84, 3) := by decide +kernel
theorem dF_carries_47 : decode mF_carries.2.1 47 = .ok (.aload_n 0, 1) := by decide +kernel
theorem dF_carries_48 : decode mF_carries.2.1 48 = .ok (.getfield 28, 3) := by decide +kernel
theorem dF_carries_51 : decode mF_carries.2.1 51 = .ok (.iload_n 1, 1) := by decide +kernel
theorem dF_carries_52 : decode mF_carries.2.1 52 = .ok (.iload_n 2, 1) := by decide +kernel
theorem dF_carries_53 : decode mF_carries.2.1 53 = .ok (.invokevirtual 132, 3) := by decide +kernel
theorem dF_carries_56 : decode mF_carries.2.1 56 = .ok (.ireturn, 1) := by decide +kernel
theorem dF_goes_0 : decode mF_goes.2.1 0 = .ok (.iload_n 1, 1) := by decide +kernel
theorem dF_goes_1 : decode mF_goes.2.1 1 = .ok (.iconst 1, 1) := by decide +kernel
theorem dF_goes_2 : decode mF_goes.2.1 2 = .ok (.if_icmp .lt 9, 3) := by decide +kernel
theorem dF_goes_5 : decode mF_goes.2.1 5 = .ok (.iload_n 1, 1) := by decide +kernel
theorem dF_goes_6 : decode mF_goes.2.1 6 = .ok (.bipush 60, 2) := by decide +kernel
theorem dF_goes_8 : decode mF_goes.2.1 8 = .ok (.if_icmp .le 5, 3) := by decide +kernel
theorem dF_goes_11 : decode mF_goes.2.1 11 = .ok (.iconst (-1), 1) := by decide +kernel
theorem dF_goes_12 : decode mF_goes.2.1 12 = .ok (.ireturn, 1) := by decide +kernel
theorem dF_goes_13 : decode mF_goes.2.1 13 = .ok (.aload_n 0, 1) := by decide +kernel
theorem dF_goes_14 : decode mF_goes.2.1 14 = .ok (.getfield 28, 3) := by decide +kernel
theorem dF_goes_17 : decode mF_goes.2.1 17 = .ok (.getfield 135, 3) := by decide +kernel
theorem dF_goes_20 : decode mF_goes.2.1 20 = .ok (.ifCond .eq 6, 3) := by decide +kernel
theorem dF_goes_23 : decode mF_goes.2.1 23 = .ok (.bipush (-2), 2) := by decide +kernel
theorem dF_goes_25 : decode mF_goes.2.1 25 = .ok (.ireturn, 1) := by decide +kernel
theorem dF_goes_26 : decode mF_goes.2.1 26 = .ok (.aload_n 0, 1) := by decide +kernel
theorem dF_goes_27 : decode mF_goes.2.1 27 = .ok (.getfield 45, 3) := by decide +kernel
theorem dF_goes_30 : decode mF_goes.2.1 30 = .ok (.aload_n 0, 1) := by decide +kernel
theorem dF_goes_31 : decode mF_goes.2.1 31 = .ok (.getfield 28, 3) := by decide +kernel
theorem dF_goes_34 : decode mF_goes.2.1 34 = .ok (.invokevirtual 84, 3) := by decide +kernel
theorem dF_goes_37 : decode mF_goes.2.1 37 = .ok (.iconst 0, 1) := by decide +kernel
theorem dF_goes_38 : decode mF_goes.2.1 38 = .ok (.istore_n 2, 1) := by decide +kernel
theorem dF_goes_39 : decode mF_goes.2.1 39 = .ok (.iconst 0, 1) := by decide +kernel
theorem dF_goes_40 : decode mF_goes.2.1 40 = .ok (.istore_n 3, 1) := by decide +kernel
theorem dF_goes_41 : decode mF_goes.2.1 41 = .ok (.iload_n 3, 1) := by decide +kernel
theorem dF_goes_42 : decode mF_goes.2.1 42 = .ok (.iload_n 1, 1) := by decide +kernel
theorem dF_goes_43 : decode mF_goes.2.1 43 = .ok (.if_icmp .ge 39, 3) := by decide +kernel
theorem dF_goes_46 : decode mF_goes.2.1 46 = .ok (.aload_n 0, 1) := by decide +kernel
theorem dF_goes_47 : decode mF_goes.2.1 47 = .ok (.getfield 38, 3) := by decide +kernel
theorem dF_goes_50 : decode mF_goes.2.1 50 = .ok (.aload_n 0, 1) := by decide +kernel
theorem dF_goes_51 : decode mF_goes.2.1 51 = .ok (.getfield 28, 3) := by decide +kernel
theorem dF_goes_54 : decode mF_goes.2.1 54 = .ok (.invokevirtual 139, 3) := by decide +kernel
theorem dF_goes_57 : decode mF_goes.2.1 57 = .ok (.istore 4, 2) := by decide +kernel
theorem dF_goes_59 : decode mF_goes.2.1 59 = .ok (.iload 4, 2) := by decide +kernel
theorem dF_goes_61 : decode mF_goes.2.1 61 = .ok (.iconst 2, 1) := by decide +kernel
theorem dF_goes_62 : decode mF_goes.2.1 62 = .ok (.if_icmp .ne 6, 3) := by decide +kernel
theorem dF_goes_65 : decode mF_goes.2.1 65 = .ok (.iinc 2 1, 3) := by decide +kernel
theorem dF_goes_68 : decode mF_goes.2.1 68 = .ok (.iload 4, 2) := by decide +kernel
theorem dF_goes_70 : decode mF_goes.2.1 70 = .ok (.ifCond .ne 6, 3) := by decide +kernel
theorem dF_goes_73 : decode mF_goes.2.1 73 = .ok (.goto 9, 3) := by decide +kernel
theorem dF_goes_76 : decode mF_goes.2.1 76 = .ok (.iinc 3 1, 3) := by decide +kernel
theorem dF_goes_79 : decode mF_goes.2.1 79 = .ok (.goto (-38), 3) := by decide +kernel
theorem dF_goes_82 : decode mF_goes.2.1 82 = .ok (.iload_n 2, 1) := by decide +kernel
theorem dF_goes_83 : decode mF_goes.2.1 83 = .ok (.ireturn, 1) := by decide +kernel
theorem dF_undo_0 : decode mF_undo.2.1 0 = .ok (.aload_n 0, 1) := by decide +kernel
theorem dF_undo_1 : decode mF_undo.2.1 1 = .ok (.getfield 45, 3) := by decide +kernel
theorem dF_undo_4 : decode mF_undo.2.1 4 = .ok (.aload_n 0, 1) := by decide +kernel
theorem dF_undo_5 : decode mF_undo.2.1 5 = .ok (.getfield 28, 3) := by decide +kernel
theorem dF_undo_8 : decode mF_undo.2.1 8 = .ok (.invokevirtual 143, 3) := by decide +kernel
theorem dF_undo_11 : decode mF_undo.2.1 11 = .ok (.ifCond .eq 13, 3) := by decide +kernel
theorem dF_undo_14 : decode mF_undo.2.1 14 = .ok (.aload_n 0, 1) := by decide +kernel
theorem dF_undo_15 : decode mF_undo.2.1 15 = .ok (.getfield 45, 3) := by decide +kernel
theorem dF_undo_18 : decode mF_undo.2.1 18 = .ok (.getfield 147, 3) := by decide +kernel
theorem dF_undo_21 : decode mF_undo.2.1 21 = .ok (.goto 5, 3) := by decide +kernel
theorem dF_undo_24 : decode mF_undo.2.1 24 = .ok (.bipush (-2), 2) := by decide +kernel
theorem dF_undo_26 : decode mF_undo.2.1 26 = .ok (.ireturn, 1) := by decide +kernel
theorem dF_robot_0 : decode mF_robot.2.1 0 = .ok (.iload_n 1, 1) := by decide +kernel
theorem dF_robot_1 : decode mF_robot.2.1 1 = .ok (.tableswitch 101 0 5 #[39, 47, 55, 63, 79, 90], 39) := by decide +kernel
theorem dF_robot_40 : decode mF_robot.2.1 40 = .ok (.aload_n 0, 1) := by decide +kernel
theorem dF_robot_41 : decode mF_robot.2.1 41 = .ok (.getfield 28, 3) := by decide +kernel
theorem dF_robot_44 : decode mF_robot.2.1 44 = .ok (.getfield 105, 3) := by decide +kernel
theorem dF_robot_47 : decode mF_robot.2.1 47 = .ok (.ireturn, 1) := by decide +kernel
theorem dF_robot_48 : decode mF_robot.2.1 48 = .ok (.aload_n 0, 1) := by decide +kernel
theorem dF_robot_49 : decode mF_robot.2.1 49 = .ok (.getfield 28, 3) := by decide +kernel
theorem dF_robot_52 : decode mF_robot.2.1 52 = .ok (.getfield 115, 3) := by decide +kernel
theorem dF_robot_55 : decode mF_robot.2.1 55 = .ok (.ireturn, 1) := by decide +kernel
theorem dF_robot_56 : decode mF_robot.2.1 56 = .ok (.aload_n 0, 1) := by decide +kernel
theorem dF_robot_57 : decode mF_robot.2.1 57 = .ok (.getfield 28, 3) := by decide +kernel
theorem dF_robot_60 : decode mF_robot.2.1 60 = .ok (.getfield 88, 3) := by decide +kernel
theorem dF_robot_63 : decode mF_robot.2.1 63 = .ok (.ireturn, 1) := by decide +kernel
theorem dF_robot_64 : decode mF_robot.2.1 64 = .ok (.aload_n 0, 1) := by decide +kernel
theorem dF_robot_65 : decode mF_robot.2.1 65 = .ok (.getfield 28, 3) := by decide +kernel
theorem dF_robot_68 : decode mF_robot.2.1 68 = .ok (.getfield 135, 3) := by decide +kernel
theorem dF_robot_71 : decode mF_robot.2.1 71 = .ok (.ifCond .eq 7, 3) := by decide +kernel
theorem dF_robot_74 : decode mF_robot.2.1 74 = .ok (.iconst 1, 1) := by decide +kernel
theorem dF_robot_75 : decode mF_robot.2.1 75 = .ok (.goto 4, 3) := by decide +kernel
theorem dF_robot_78 : decode mF_robot.2.1 78 = .ok (.iconst 0, 1) := by decide +kernel
theorem dF_robot_79 : decode mF_robot.2.1 79 = .ok (.ireturn, 1) := by decide +kernel
theorem dF_robot_80 : decode mF_robot.2.1 80 = .ok (.aload_n 0, 1) := by decide +kernel
theorem dF_robot_81 : decode mF_robot.2.1 81 = .ok (.getfield 28, 3) := by decide +kernel
theorem dF_robot_84 : decode mF_robot.2.1 84 = .ok (.getfield 149, 3) := by decide +kernel
theorem dF_robot_87 : decode mF_robot.2.1 87 = .ok (.invokestatic 152, 3) := by decide +kernel
theorem dF_robot_90 : decode mF_robot.2.1 90 = .ok (.ireturn, 1) := by decide +kernel
theorem dF_robot_91 : decode mF_robot.2.1 91 = .ok (.aload_n 0, 1) := by decide +kernel
theorem dF_robot_92 : decode mF_robot.2.1 92 = .ok (.getfield 28, 3) := by decide +kernel
theorem dF_robot_95 : decode mF_robot.2.1 95 = .ok (.getfield 158, 3) := by decide +kernel
theorem dF_robot_98 : decode mF_robot.2.1 98 = .ok (.invokestatic 152, 3) := by decide +kernel
theorem dF_robot_101 : decode mF_robot.2.1 101 = .ok (.ireturn, 1) := by decide +kernel
theorem dF_robot_102 : decode mF_robot.2.1 102 = .ok (.iconst (-1), 1) := by decide +kernel
theorem dF_robot_103 : decode mF_robot.2.1 103 = .ok (.ireturn, 1) := by decide +kernel
theorem dF_knows_0 : decode mF_knows.2.1 0 = .ok (.aload_n 0, 1) := by decide +kernel
theorem dF_knows_1 : decode mF_knows.2.1 1 = .ok (.getfield 19, 3) := by decide +kernel
theorem dF_knows_4 : decode mF_knows.2.1 4 = .ok (.iload_n 1, 1) := by decide +kernel
theorem dF_knows_5 : decode mF_knows.2.1 5 = .ok (.invokevirtual 71, 3) := by decide +kernel
theorem dF_knows_8 : decode mF_knows.2.1 8 = .ok (.ifCond .eq 14, 3) := by decide +kernel
theorem dF_knows_11 : decode mF_knows.2.1 11 = .ok (.aload_n 0, 1) := by decide +kernel
theorem dF_knows_12 : decode mF_knows.2.1 12 = .ok (.getfield 28, 3) := by decide +kernel
theorem dF_knows_15 : decode mF_knows.2.1 15 = .ok (.iload_n 1, 1) := by decide +kernel
theorem dF_knows_16 : decode mF_knows.2.1 16 = .ok (.invokevirtual 161, 3) := by decide +kernel
theorem dF_knows_19 : decode mF_knows.2.1 19 = .ok (.goto 4, 3) := by decide +kernel
theorem dF_knows_22 : decode mF_knows.2.1 22 = .ok (.iconst (-1), 1) := by decide +kernel
theorem dF_knows_23 : decode mF_knows.2.1 23 = .ok (.ireturn, 1) := by decide +kernel
theorem dF_home_0 : decode mF_home.2.1 0 = .ok (.aload_n 0, 1) := by decide +kernel
theorem dF_home_1 : decode mF_home.2.1 1 = .ok (.getfield 19, 3) := by decide +kernel
theorem dF_home_4 : decode mF_home.2.1 4 = .ok (.iload_n 1, 1) := by decide +kernel
theorem dF_home_5 : decode mF_home.2.1 5 = .ok (.invokevirtual 71, 3) := by decide +kernel
theorem dF_home_8 : decode mF_home.2.1 8 = .ok (.ifCond .eq 14, 3) := by decide +kernel
theorem dF_home_11 : decode mF_home.2.1 11 = .ok (.aload_n 0, 1) := by decide +kernel
theorem dF_home_12 : decode mF_home.2.1 12 = .ok (.getfield 28, 3) := by decide +kernel
theorem dF_home_15 : decode mF_home.2.1 15 = .ok (.iload_n 1, 1) := by decide +kernel
theorem dF_home_16 : decode mF_home.2.1 16 = .ok (.invokevirtual 164, 3) := by decide +kernel
theorem dF_home_19 : decode mF_home.2.1 19 = .ok (.goto 4, 3) := by decide +kernel
theorem dF_home_22 : decode mF_home.2.1 22 = .ok (.iconst (-1), 1) := by decide +kernel
theorem dF_home_23 : decode mF_home.2.1 23 = .ok (.ireturn, 1) := by decide +kernel
theorem dF_target_0 : decode mF_target.2.1 0 = .ok (.iload_n 1, 1) := by decide +kernel
theorem dF_target_1 : decode mF_target.2.1 1 = .ok (.ifCond .lt 8, 3) := by decide +kernel
theorem dF_target_4 : decode mF_target.2.1 4 = .ok (.iload_n 1, 1) := by decide +kernel
theorem dF_target_5 : decode mF_target.2.1 5 = .ok (.iconst 3, 1) := by decide +kernel
theorem dF_target_6 : decode mF_target.2.1 6 = .ok (.if_icmp .le 5, 3) := by decide +kernel
theorem dF_target_9 : decode mF_target.2.1 9 = .ok (.iconst (-1), 1) := by decide +kernel
theorem dF_target_10 : decode mF_target.2.1 10 = .ok (.ireturn, 1) := by decide +kernel
theorem dF_target_11 : decode mF_target.2.1 11 = .ok (.aload_n 0, 1) := by decide +kernel
theorem dF_target_12 : decode mF_target.2.1 12 = .ok (.getfield 28, 3) := by decide +kernel
theorem dF_target_15 : decode mF_target.2.1 15 = .ok (.getfield 135, 3) := by decide +kernel
theorem dF_target_18 : decode mF_target.2.1 18 = .ok (.ifCond .ne 17, 3) := by decide +kernel
theorem dF_target_21 : decode mF_target.2.1 21 = .ok (.aload_n 0, 1) := by decide +kernel
theorem dF_target_22 : decode mF_target.2.1 22 = .ok (.getfield 38, 3) := by decide +kernel
theorem dF_target_25 : decode mF_target.2.1 25 = .ok (.aload_n 0, 1) := by decide +kernel
theorem dF_target_26 : decode mF_target.2.1 26 = .ok (.getfield 28, 3) := by decide +kernel
theorem dF_target_29 : decode mF_target.2.1 29 = .ok (.invokevirtual 167, 3) := by decide +kernel
theorem dF_target_32 : decode mF_target.2.1 32 = .ok (.ifCond .ne 6, 3) := by decide +kernel
theorem dF_target_35 : decode mF_target.2.1 35 = .ok (.bipush (-9), 2) := by decide +kernel
theorem dF_target_37 : decode mF_target.2.1 37 = .ok (.ireturn, 1) := by decide +kernel
theorem dF_target_38 : decode mF_target.2.1 38 = .ok (.iload_n 1, 1) := by decide +kernel
theorem dF_target_39 : decode mF_target.2.1 39 = .ok (.tableswitch 49 0 2 #[25, 33, 41], 25) := by decide +kernel
theorem dF_target_64 : decode mF_target.2.1 64 = .ok (.aload_n 0, 1) := by decide +kernel
theorem dF_target_65 : decode mF_target.2.1 65 = .ok (.getfield 38, 3) := by decide +kernel
theorem dF_target_68 : decode mF_target.2.1 68 = .ok (.getfield 170, 3) := by decide +kernel
theorem dF_target_71 : decode mF_target.2.1 71 = .ok (.ireturn, 1) := by decide +kernel
theorem dF_target_72 : decode mF_target.2.1 72 = .ok (.aload_n 0, 1) := by decide +kernel
theorem dF_target_73 : decode mF_target.2.1 73 = .ok (.getfield 38, 3) := by decide +kernel
theorem dF_target_76 : decode mF_target.2.1 76 = .ok (.getfield 173, 3) := by decide +kernel
theorem dF_target_79 : decode mF_target.2.1 79 = .ok (.ireturn, 1) := by decide +kernel
theorem dF_target_80 : decode mF_target.2.1 80 = .ok (.aload_n 0, 1) := by decide +kernel
theorem dF_target_81 : decode mF_target.2.1 81 = .ok (.getfield 38, 3) := by decide +kernel
theorem dF_target_84 : decode mF_target.2.1 84 = .ok (.getfield 176, 3) := by decide +kernel
theorem dF_target_87 : decode mF_target.2.1 87 = .ok (.ireturn, 1) := by decide +kernel
theorem dF_target_88 : decode mF_target.2.1 88 = .ok (.aload_n 0, 1) := by decide +kernel
theorem dF_target_89 : decode mF_target.2.1 89 = .ok (.getfield 38, 3) := by decide +kernel
theorem dF_target_92 : decode mF_target.2.1 92 = .ok (.getfield 179, 3) := by decide +kernel
theorem dF_target_95 : decode mF_target.2.1 95 = .ok (.ireturn, 1) := by decide +kernel
theorem dF_place_0 : decode mF_place.2.1 0 = .ok (.iload_n 1, 1) := by decide +kernel
theorem dF_place_1 : decode mF_place.2.1 1 = .ok (.iconst (-1), 1) := by decide +kernel
theorem dF_place_2 : decode mF_place.2.1 2 = .ok (.if_icmp .ge 5, 3) := by decide +kernel
theorem dF_place_5 : decode mF_place.2.1 5 = .ok (.iconst (-1), 1) := by decide +kernel
theorem dF_place_6 : decode mF_place.2.1 6 = .ok (.ireturn, 1) := by decide +kernel
theorem dF_place_7 : decode mF_place.2.1 7 = .ok (.iload_n 1, 1) := by decide +kernel
theorem dF_place_8 : decode mF_place.2.1 8 = .ok (.iconst (-1), 1) := by decide +kernel
theorem dF_place_9 : decode mF_place.2.1 9 = .ok (.if_icmp .ne 13, 3) := by decide +kernel
theorem dF_place_12 : decode mF_place.2.1 12 = .ok (.aload_n 0, 1) := by decide +kernel
theorem dF_place_13 : decode mF_place.2.1 13 = .ok (.getfield 28, 3) := by decide +kernel
theorem dF_place_16 : decode mF_place.2.1 16 = .ok (.invokevirtual 182, 3) := by decide +kernel
theorem dF_place_19 : decode mF_place.2.1 19 = .ok (.goto 11, 3) := by decide +kernel
theorem dF_place_22 : decode mF_place.2.1 22 = .ok (.aload_n 0, 1) := by decide +kernel
theorem dF_place_23 : decode mF_place.2.1 23 = .ok (.getfield 28, 3) := by decide +kernel
theorem dF_place_26 : decode mF_place.2.1 26 = .ok (.iload_n 1, 1) := by decide +kernel
theorem dF_place_27 : decode mF_place.2.1 27 = .ok (.invokevirtual 185, 3) := by decide +kernel
theorem dF_place_30 : decode mF_place.2.1 30 = .ok (.ireturn, 1) := by decide +kernel
theorem dF_lane_0 : decode mF_lane.2.1 0 = .ok (.iload_n 1, 1) := by decide +kernel
theorem dF_lane_1 : decode mF_lane.2.1 1 = .ok (.iconst (-1), 1) := by decide +kernel
theorem dF_lane_2 : decode mF_lane.2.1 2 = .ok (.if_icmp .lt 12, 3) := by decide +kernel
theorem dF_lane_5 : decode mF_lane.2.1 5 = .ok (.iload_n 2, 1) := by decide +kernel
theorem dF_lane_6 : decode mF_lane.2.1 6 = .ok (.ifCond .lt 8, 3) := by decide +kernel
theorem dF_lane_9 : decode mF_lane.2.1 9 = .ok (.iload_n 2, 1) := by decide +kernel
theorem dF_lane_10 : decode mF_lane.2.1 10 = .ok (.iconst 1, 1) := by decide +kernel
theorem dF_lane_11 : decode mF_lane.2.1 11 = .ok (.if_icmp .le 5, 3) := by decide +kernel
theorem dF_lane_14 : decode mF_lane.2.1 14 = .ok (.iconst (-1), 1) := by decide +kernel
theorem dF_lane_15 : decode mF_lane.2.1 15 = .ok (.ireturn, 1) := by decide +kernel
theorem dF_lane_16 : decode mF_lane.2.1 16 = .ok (.aload_n 0, 1) := by decide +kernel
theorem dF_lane_17 : decode mF_lane.2.1 17 = .ok (.getfield 28, 3) := by decide +kernel
theorem dF_lane_20 : decode mF_lane.2.1 20 = .ok (.invokevirtual 128, 3) := by decide +kernel
theorem dF_lane_23 : decode mF_lane.2.1 23 = .ok (.lstore_n 3, 1) := by decide +kernel
theorem dF_lane_24 : decode mF_lane.2.1 24 = .ok (.lload_n 3, 1) := by decide +kernel
theorem dF_lane_25 : decode mF_lane.2.1 25 = .ok (.aload_n 0, 1) := by decide +kernel
theorem dF_lane_26 : decode mF_lane.2.1 26 = .ok (.getfield 19, 3) := by decide +kernel
theorem dF_lane_29 : decode mF_lane.2.1 29 = .ok (.lload_n 3, 1) := by decide +kernel
theorem dF_lane_30 : decode mF_lane.2.1 30 = .ok (.iconst 1, 1) := by decide +kernel
theorem dF_lane_31 : decode mF_lane.2.1 31 = .ok (.invokevirtual 188, 3) := by decide +kernel
theorem dF_lane_34 : decode mF_lane.2.1 34 = .ok (.ldc2_w 192, 3) := by decide +kernel
theorem dF_lane_37 : decode mF_lane.2.1 37 = .ok (.lxor, 1) := by decide +kernel
theorem dF_lane_38 : decode mF_lane.2.1 38 = .ok (.land, 1) := by decide +kernel
theorem dF_lane_39 : decode mF_lane.2.1 39 = .ok (.lstore 5, 2) := by decide +kernel
theorem dF_lane_41 : decode mF_lane.2.1 41 = .ok (.iload_n 1, 1) := by decide +kernel
theorem dF_lane_42 : decode mF_lane.2.1 42 = .ok (.iconst (-1), 1) := by decide +kernel
theorem dF_lane_43 : decode mF_lane.2.1 43 = .ok (.if_icmp .ne 9, 3) := by decide +kernel
theorem dF_lane_46 : decode mF_lane.2.1 46 = .ok (.lload 5, 2) := by decide +kernel
theorem dF_lane_48 : decode mF_lane.2.1 48 = .ok (.invokestatic 152, 3) := by decide +kernel
theorem dF_lane_51 : decode mF_lane.2.1 51 = .ok (.ireturn, 1) := by decide +kernel
theorem dF_lane_52 : decode mF_lane.2.1 52 = .ok (.lload 5, 2) := by decide +kernel
theorem dF_lane_54 : decode mF_lane.2.1 54 = .ok (.iload_n 1, 1) := by decide +kernel
theorem dF_lane_55 : decode mF_lane.2.1 55 = .ok (.invokestatic 194, 3) := by decide +kernel
theorem dF_lane_58 : decode mF_lane.2.1 58 = .ok (.istore 7, 2) := by decide +kernel
theorem dF_lane_60 : decode mF_lane.2.1 60 = .ok (.iload 7, 2) := by decide +kernel
theorem dF_lane_62 : decode mF_lane.2.1 62 = .ok (.iconst (-1), 1) := by decide +kernel
theorem dF_lane_63 : decode mF_lane.2.1 63 = .ok (.if_icmp .ne 6, 3) := by decide +kernel
theorem dF_lane_66 : decode mF_lane.2.1 66 = .ok (.bipush (-9), 2) := by decide +kernel
theorem dF_lane_68 : decode mF_lane.2.1 68 = .ok (.ireturn, 1) := by decide +kernel
theorem dF_lane_69 : decode mF_lane.2.1 69 = .ok (.iload_n 2, 1) := by decide +kernel
theorem dF_lane_70 : decode mF_lane.2.1 70 = .ok (.ifCond .ne 8, 3) := by decide +kernel
theorem dF_lane_73 : decode mF_lane.2.1 73 = .ok (.iload 7, 2) := by decide +kernel
theorem dF_lane_75 : decode mF_lane.2.1 75 = .ok (.goto 10, 3) := by decide +kernel
theorem dF_lane_78 : decode mF_lane.2.1 78 = .ok (.aload_n 0, 1) := by decide +kernel
theorem dF_lane_79 : decode mF_lane.2.1 79 = .ok (.iload 7, 2) := by decide +kernel
theorem dF_lane_81 : decode mF_lane.2.1 81 = .ok (.lload_n 3, 1) := by decide +kernel
theorem dF_lane_82 : decode mF_lane.2.1 82 = .ok (.invokevirtual 198, 3) := by decide +kernel
theorem dF_lane_85 : decode mF_lane.2.1 85 = .ok (.ireturn, 1) := by decide +kernel
theorem dF_room_0 : decode mF_room.2.1 0 = .ok (.iload_n 1, 1) := by decide +kernel
theorem dF_room_1 : decode mF_room.2.1 1 = .ok (.iconst (-1), 1) := by decide +kernel
theorem dF_room_2 : decode mF_room.2.1 2 = .ok (.if_icmp .eq 16, 3) := by decide +kernel
theorem dF_room_5 : decode mF_room.2.1 5 = .ok (.aload_n 0, 1) := by decide +kernel
theorem dF_room_6 : decode mF_room.2.1 6 = .ok (.getfield 19, 3) := by decide +kernel
theorem dF_room_9 : decode mF_room.2.1 9 = .ok (.iload_n 1, 1) := by decide +kernel
theorem dF_room_10 : decode mF_room.2.1 10 = .ok (.invokevirtual 71, 3) := by decide +kernel
theorem dF_room_13 : decode mF_room.2.1 13 = .ok (.ifCond .ne 5, 3) := by decide +kernel
theorem dF_room_16 : decode mF_room.2.1 16 = .ok (.iconst (-1), 1) := by decide +kernel
theorem dF_room_17 : decode mF_room.2.1 17 = .ok (.ireturn, 1) := by decide +kernel
theorem dF_room_18 : decode mF_room.2.1 18 = .ok (.aload_n 0, 1) := by decide +kernel
theorem dF_room_19 : decode mF_room.2.1 19 = .ok (.getfield 19, 3) := by decide +kernel
theorem dF_room_22 : decode mF_room.2.1 22 = .ok (.getfield 202, 3) := by decide +kernel
theorem dF_room_25 : decode mF_room.2.1 25 = .ok (.aload_n 0, 1) := by decide +kernel
theorem dF_room_26 : decode mF_room.2.1 26 = .ok (.getfield 19, 3) := by decide +kernel
theorem dF_room_29 : decode mF_room.2.1 29 = .ok (.getfield 205, 3) := by decide +kernel
theorem dF_room_32 : decode mF_room.2.1 32 = .ok (.invokestatic 111, 3) := by decide +kernel
theorem dF_room_35 : decode mF_room.2.1 35 = .ok (.lor, 1) := by decide +kernel
theorem dF_room_36 : decode mF_room.2.1 36 = .ok (.lstore_n 2, 1) := by decide +kernel
theorem dF_room_37 : decode mF_room.2.1 37 = .ok (.iconst 0, 1) := by decide +kernel
theorem dF_room_38 : decode mF_room.2.1 38 = .ok (.istore 4, 2) := by decide +kernel
theorem dF_room_40 : decode mF_room.2.1 40 = .ok (.iconst 0, 1) := by decide +kernel
theorem dF_room_41 : decode mF_room.2.1 41 = .ok (.istore 5, 2) := by decide +kernel
theorem dF_room_43 : decode mF_room.2.1 43 = .ok (.iload 5, 2) := by decide +kernel
theorem dF_room_45 : decode mF_room.2.1 45 = .ok (.bipush 36, 2) := by decide +kernel
theorem dF_room_47 : decode mF_room.2.1 47 = .ok (.if_icmp .ge 56, 3) := by decide +kernel
theorem dF_room_50 : decode mF_room.2.1 50 = .ok (.lload_n 2, 1) := by decide +kernel
theorem dF_room_51 : decode mF_room.2.1 51 = .ok (.iload 5, 2) := by decide +kernel
theorem dF_room_53 : decode mF_room.2.1 53 = .ok (.invokestatic 101, 3) := by decide +kernel
theorem dF_room_56 : decode mF_room.2.1 56 = .ok (.ifCond .eq 41, 3) := by decide +kernel
theorem dF_room_59 : decode mF_room.2.1 59 = .ok (.aload_n 0, 1) := by decide +kernel
theorem dF_room_60 : decode mF_room.2.1 60 = .ok (.getfield 19, 3) := by decide +kernel
theorem dF_room_63 : decode mF_room.2.1 63 = .ok (.bipush 36, 2) := by decide +kernel
theorem dF_room_65 : decode mF_room.2.1 65 = .ok (.iload 5, 2) := by decide +kernel
theorem dF_room_67 : decode mF_room.2.1 67 = .ok (.lload_n 2, 1) := by decide +kernel
theorem dF_room_68 : decode mF_room.2.1 68 = .ok (.invokevirtual 208, 3) := by decide +kernel
theorem dF_room_71 : decode mF_room.2.1 71 = .ok (.lstore 6, 2) := by decide +kernel
theorem dF_room_73 : decode mF_room.2.1 73 = .ok (.lload 6, 2) := by decide +kernel
theorem dF_room_75 : decode mF_room.2.1 75 = .ok (.iload_n 1, 1) := by decide +kernel
theorem dF_room_76 : decode mF_room.2.1 76 = .ok (.invokestatic 101, 3) := by decide +kernel
theorem dF_room_79 : decode mF_room.2.1 79 = .ok (.ifCond .eq 6, 3) := by decide +kernel
theorem dF_room_82 : decode mF_room.2.1 82 = .ok (.iload 4, 2) := by decide +kernel
theorem dF_room_84 : decode mF_room.2.1 84 = .ok (.ireturn, 1) := by decide +kernel
theorem dF_room_85 : decode mF_room.2.1 85 = .ok (.lload_n 2, 1) := by decide +kernel
theorem dF_room_86 : decode mF_room.2.1 86 = .ok (.lload 6, 2) := by decide +kernel
theorem dF_room_88 : decode mF_room.2.1 88 = .ok (.ldc2_w 192, 3) := by decide +kernel
theorem dF_room_91 : decode mF_room.2.1 91 = .ok (.lxor, 1) := by decide +kernel
theorem dF_room_92 : decode mF_room.2.1 92 = .ok (.land, 1) := by decide +kernel
theorem dF_room_93 : decode mF_room.2.1 93 = .ok (.lstore_n 2, 1) := by decide +kernel
theorem dF_room_94 : decode mF_room.2.1 94 = .ok (.iinc 4 1, 3) := by decide +kernel
theorem dF_room_97 : decode mF_room.2.1 97 = .ok (.iinc 5 1, 3) := by decide +kernel
theorem dF_room_100 : decode mF_room.2.1 100 = .ok (.goto (-57), 3) := by decide +kernel
theorem dF_room_103 : decode mF_room.2.1 103 = .ok (.iload_n 1, 1) := by decide +kernel
theorem dF_room_104 : decode mF_room.2.1 104 = .ok (.iconst (-1), 1) := by decide +kernel
theorem dF_room_105 : decode mF_room.2.1 105 = .ok (.if_icmp .ne 8, 3) := by decide +kernel
theorem dF_room_108 : decode mF_room.2.1 108 = .ok (.iload 4, 2) := by decide +kernel
theorem dF_room_110 : decode mF_room.2.1 110 = .ok (.goto 5, 3) := by decide +kernel
theorem dF_room_113 : decode mF_room.2.1 113 = .ok (.bipush (-9), 2) := by decide +kernel
theorem dF_room_115 : decode mF_room.2.1 115 = .ok (.ireturn, 1) := by decide +kernel
theorem dF_reach_0 : decode mF_reach.2.1 0 = .ok (.iload_n 1, 1) := by decide +kernel
theorem dF_reach_1 : decode mF_reach.2.1 1 = .ok (.ifCond .lt 8, 3) := by decide +kernel
theorem dF_reach_4 : decode mF_reach.2.1 4 = .ok (.iload_n 1, 1) := by decide +kernel
theorem dF_reach_5 : decode mF_reach.2.1 5 = .ok (.iconst 1, 1) := by decide +kernel
theorem dF_reach_6 : decode mF_reach.2.1 6 = .ok (.if_icmp .le 5, 3) := by decide +kernel
theorem dF_reach_9 : decode mF_reach.2.1 9 = .ok (.iconst (-1), 1) := by decide +kernel
theorem dF_reach_10 : decode mF_reach.2.1 10 = .ok (.ireturn, 1) := by decide +kernel
theorem dF_reach_11 : decode mF_reach.2.1 11 = .ok (.aload_n 0, 1) := by decide +kernel
theorem dF_reach_12 : decode mF_reach.2.1 12 = .ok (.getfield 28, 3) := by decide +kernel
theorem dF_reach_15 : decode mF_reach.2.1 15 = .ok (.invokevirtual 128, 3) := by decide +kernel
theorem dF_reach_18 : decode mF_reach.2.1 18 = .ok (.lstore_n 2, 1) := by decide +kernel
theorem dF_reach_19 : decode mF_reach.2.1 19 = .ok (.iload_n 1, 1) := by decide +kernel
theorem dF_reach_20 : decode mF_reach.2.1 20 = .ok (.ifCond .ne 24, 3) := by decide +kernel
theorem dF_reach_23 : decode mF_reach.2.1 23 = .ok (.aload_n 0, 1) := by decide +kernel
theorem dF_reach_24 : decode mF_reach.2.1 24 = .ok (.getfield 19, 3) := by decide +kernel
theorem dF_reach_27 : decode mF_reach.2.1 27 = .ok (.bipush 36, 2) := by decide +kernel
theorem dF_reach_29 : decode mF_reach.2.1 29 = .ok (.aload_n 0, 1) := by decide +kernel
theorem dF_reach_30 : decode mF_reach.2.1 30 = .ok (.getfield 19, 3) := by decide +kernel
theorem dF_reach_33 : decode mF_reach.2.1 33 = .ok (.getfield 205, 3) := by decide +kernel
theorem dF_reach_36 : decode mF_reach.2.1 36 = .ok (.lload_n 2, 1) := by decide +kernel
theorem dF_reach_37 : decode mF_reach.2.1 37 = .ok (.invokevirtual 208, 3) := by decide +kernel
theorem dF_reach_40 : decode mF_reach.2.1 40 = .ok (.invokestatic 152, 3) := by decide +kernel
theorem dF_reach_43 : decode mF_reach.2.1 43 = .ok (.ireturn, 1) := by decide +kernel
theorem dF_reach_44 : decode mF_reach.2.1 44 = .ok (.iconst 2, 1) := by decide +kernel
theorem dF_reach_45 : decode mF_reach.2.1 45 = .ok (.aload_n 0, 1) := by decide +kernel
theorem dF_reach_46 : decode mF_reach.2.1 46 = .ok (.getfield 19, 3) := by decide +kernel
theorem dF_reach_49 : decode mF_reach.2.1 49 = .ok (.aload_n 0, 1) := by decide +kernel
theorem dF_reach_50 : decode mF_reach.2.1 50 = .ok (.getfield 19, 3) := by decide +kernel
theorem dF_reach_53 : decode mF_reach.2.1 53 = .ok (.getfield 205, 3) := by decide +kernel
theorem dF_reach_56 : decode mF_reach.2.1 56 = .ok (.lload_n 2, 1) := by decide +kernel
theorem dF_reach_57 : decode mF_reach.2.1 57 = .ok (.invokevirtual 212, 3) := by decide +kernel
theorem dF_reach_60 : decode mF_reach.2.1 60 = .ok (.imul, 1) := by decide +kernel
theorem dF_reach_61 : decode mF_reach.2.1 61 = .ok (.ireturn, 1) := by decide +kernel
theorem dF_when_0 : decode mF_when.2.1 0 = .ok (.aload_n 0, 1) := by decide +kernel
theorem dF_when_1 : decode mF_when.2.1 1 = .ok (.getfield 28, 3) := by decide +kernel
theorem dF_when_4 : decode mF_when.2.1 4 = .ok (.getfield 135, 3) := by decide +kernel
theorem dF_when_7 : decode mF_when.2.1 7 = .ok (.ifCond .eq 6, 3) := by decide +kernel
theorem dF_when_10 : decode mF_when.2.1 10 = .ok (.bipush (-9), 2) := by decide +kernel
theorem dF_when_12 : decode mF_when.2.1 12 = .ok (.ireturn, 1) := by decide +kernel
theorem dF_when_13 : decode mF_when.2.1 13 = .ok (.aload_n 0, 1) := by decide +kernel
theorem dF_when_14 : decode mF_when.2.1 14 = .ok (.getfield 32, 3) := by decide +kernel
theorem dF_when_17 : decode mF_when.2.1 17 = .ok (.aload_n 0, 1) := by decide +kernel
theorem dF_when_18 : decode mF_when.2.1 18 = .ok (.getfield 28, 3) := by decide +kernel
theorem dF_when_21 : decode mF_when.2.1 21 = .ok (.invokevirtual 215, 3) := by decide +kernel
theorem dF_when_24 : decode mF_when.2.1 24 = .ok (.iconst 0, 1) := by decide +kernel
theorem dF_when_25 : decode mF_when.2.1 25 = .ok (.istore_n 1, 1) := by decide +kernel
theorem dF_when_26 : decode mF_when.2.1 26 = .ok (.iload_n 1, 1) := by decide +kernel
theorem dF_when_27 : decode mF_when.2.1 27 = .ok (.sipush 400, 3) := by decide +kernel
theorem dF_when_30 : decode mF_when.2.1 30 = .ok (.if_icmp .gt 42, 3) := by decide +kernel
theorem dF_when_33 : decode mF_when.2.1 33 = .ok (.aload_n 0, 1) := by decide +kernel
theorem dF_when_34 : decode mF_when.2.1 34 = .ok (.getfield 38, 3) := by decide +kernel
theorem dF_when_37 : decode mF_when.2.1 37 = .ok (.aload_n 0, 1) := by decide +kernel
theorem dF_when_38 : decode mF_when.2.1 38 = .ok (.getfield 32, 3) := by decide +kernel
theorem dF_when_41 : decode mF_when.2.1 41 = .ok (.invokevirtual 218, 3) := by decide +kernel
theorem dF_when_44 : decode mF_when.2.1 44 = .ok (.ifCond .eq 5, 3) := by decide +kernel
theorem dF_when_47 : decode mF_when.2.1 47 = .ok (.iload_n 1, 1) := by decide +kernel
theorem dF_when_48 : decode mF_when.2.1 48 = .ok (.ireturn, 1) := by decide +kernel
theorem dF_when_49 : decode mF_when.2.1 49 = .ok (.aload_n 0, 1) := by decide +kernel
theorem dF_when_50 : decode mF_when.2.1 50 = .ok (.getfield 38, 3) := by decide +kernel
theorem dF_when_53 : decode mF_when.2.1 53 = .ok (.aload_n 0, 1) := by decide +kernel
theorem dF_when_54 : decode mF_when.2.1 54 = .ok (.getfield 32, 3) := by decide +kernel
theorem dF_when_57 : decode mF_when.2.1 57 = .ok (.invokevirtual 139, 3) := by decide +kernel
theorem dF_when_60 : decode mF_when.2.1 60 = .ok (.ifCond .ne 6, 3) := by decide +kernel
theorem dF_when_63 : decode mF_when.2.1 63 = .ok (.bipush (-9), 2) := by decide +kernel
theorem dF_when_65 : decode mF_when.2.1 65 = .ok (.ireturn, 1) := by decide +kernel
theorem dF_when_66 : decode mF_when.2.1 66 = .ok (.iinc 1 1, 3) := by decide +kernel
theorem dF_when_69 : decode mF_when.2.1 69 = .ok (.goto (-43), 3) := by decide +kernel
theorem dF_when_72 : decode mF_when.2.1 72 = .ok (.bipush (-9), 2) := by decide +kernel
theorem dF_when_74 : decode mF_when.2.1 74 = .ok (.ireturn, 1) := by decide +kernel
theorem dF_keep_0 : decode mF_keep.2.1 0 = .ok (.iload_n 1, 1) := by decide +kernel
theorem dF_keep_1 : decode mF_keep.2.1 1 = .ok (.ifCond .lt 8, 3) := by decide +kernel
theorem dF_keep_4 : decode mF_keep.2.1 4 = .ok (.iload_n 1, 1) := by decide +kernel
theorem dF_keep_5 : decode mF_keep.2.1 5 = .ok (.iconst 2, 1) := by decide +kernel
theorem dF_keep_6 : decode mF_keep.2.1 6 = .ok (.if_icmp .lt 5, 3) := by decide +kernel
theorem dF_keep_9 : decode mF_keep.2.1 9 = .ok (.iconst (-1), 1) := by decide +kernel
theorem dF_keep_10 : decode mF_keep.2.1 10 = .ok (.ireturn, 1) := by decide +kernel
theorem dF_keep_11 : decode mF_keep.2.1 11 = .ok (.aload_n 0, 1) := by decide +kernel
theorem dF_keep_12 : decode mF_keep.2.1 12 = .ok (.getfield 52, 3) := by decide +kernel
theorem dF_keep_15 : decode mF_keep.2.1 15 = .ok (.iload_n 1, 1) := by decide +kernel
theorem dF_keep_16 : decode mF_keep.2.1 16 = .ok (.aload_n 0, 1) := by decide +kernel
theorem dF_keep_17 : decode mF_keep.2.1 17 = .ok (.getfield 28, 3) := by decide +kernel
theorem dF_keep_20 : decode mF_keep.2.1 20 = .ok (.invokevirtual 221, 3) := by decide +kernel
theorem dF_keep_23 : decode mF_keep.2.1 23 = .ok (.aload_n 0, 1) := by decide +kernel
theorem dF_keep_24 : decode mF_keep.2.1 24 = .ok (.getfield 28, 3) := by decide +kernel
theorem dF_keep_27 : decode mF_keep.2.1 27 = .ok (.getfield 105, 3) := by decide +kernel
theorem dF_keep_30 : decode mF_keep.2.1 30 = .ok (.ireturn, 1) := by decide +kernel
theorem dF_back_0 : decode mF_back.2.1 0 = .ok (.iload_n 1, 1) := by decide +kernel
theorem dF_back_1 : decode mF_back.2.1 1 = .ok (.ifCond .lt 8, 3) := by decide +kernel
theorem dF_back_4 : decode mF_back.2.1 4 = .ok (.iload_n 1, 1) := by decide +kernel
theorem dF_back_5 : decode mF_back.2.1 5 = .ok (.iconst 2, 1) := by decide +kernel
theorem dF_back_6 : decode mF_back.2.1 6 = .ok (.if_icmp .lt 5, 3) := by decide +kernel
theorem dF_back_9 : decode mF_back.2.1 9 = .ok (.iconst (-1), 1) := by decide +kernel
theorem dF_back_10 : decode mF_back.2.1 10 = .ok (.ireturn, 1) := by decide +kernel
theorem dF_back_11 : decode mF_back.2.1 11 = .ok (.aload_n 0, 1) := by decide +kernel
theorem dF_back_12 : decode mF_back.2.1 12 = .ok (.getfield 52, 3) := by decide +kernel
theorem dF_back_15 : decode mF_back.2.1 15 = .ok (.iload_n 1, 1) := by decide +kernel
theorem dF_back_16 : decode mF_back.2.1 16 = .ok (.aload_n 0, 1) := by decide +kernel
theorem dF_back_17 : decode mF_back.2.1 17 = .ok (.getfield 28, 3) := by decide +kernel
theorem dF_back_20 : decode mF_back.2.1 20 = .ok (.invokevirtual 225, 3) := by decide +kernel
theorem dF_back_23 : decode mF_back.2.1 23 = .ok (.ifCond .ne 6, 3) := by decide +kernel
theorem dF_back_26 : decode mF_back.2.1 26 = .ok (.bipush (-2), 2) := by decide +kernel
theorem dF_back_28 : decode mF_back.2.1 28 = .ok (.ireturn, 1) := by decide +kernel
theorem dF_back_29 : decode mF_back.2.1 29 = .ok (.aload_n 0, 1) := by decide +kernel
theorem dF_back_30 : decode mF_back.2.1 30 = .ok (.getfield 45, 3) := by decide +kernel
theorem dF_back_33 : decode mF_back.2.1 33 = .ok (.iconst 0, 1) := by decide +kernel
theorem dF_back_34 : decode mF_back.2.1 34 = .ok (.putfield 147, 3) := by decide +kernel
theorem dF_back_37 : decode mF_back.2.1 37 = .ok (.aload_n 0, 1) := by decide +kernel
theorem dF_back_38 : decode mF_back.2.1 38 = .ok (.getfield 28, 3) := by decide +kernel
theorem dF_back_41 : decode mF_back.2.1 41 = .ok (.getfield 105, 3) := by decide +kernel
theorem dF_back_44 : decode mF_back.2.1 44 = .ok (.ireturn, 1) := by decide +kernel
theorem dF_count_0 : decode mF_count.2.1 0 = .ok (.iload_n 1, 1) := by decide +kernel
theorem dF_count_1 : decode mF_count.2.1 1 = .ok (.tableswitch 99 0 6 #[43, 51, 59, 67, 75, 83, 91], 43) := by decide +kernel
theorem dF_count_44 : decode mF_count.2.1 44 = .ok (.aload_n 0, 1) := by decide +kernel
theorem dF_count_45 : decode mF_count.2.1 45 = .ok (.getfield 19, 3) := by decide +kernel
theorem dF_count_48 : decode mF_count.2.1 48 = .ok (.getfield 229, 3) := by decide +kernel
theorem dF_count_51 : decode mF_count.2.1 51 = .ok (.ireturn, 1) := by decide +kernel
theorem dF_count_52 : decode mF_count.2.1 52 = .ok (.aload_n 0, 1) := by decide +kernel
theorem dF_count_53 : decode mF_count.2.1 53 = .ok (.getfield 19, 3) := by decide +kernel
theorem dF_count_56 : decode mF_count.2.1 56 = .ok (.getfield 232, 3) := by decide +kernel
theorem dF_count_59 : decode mF_count.2.1 59 = .ok (.ireturn, 1) := by decide +kernel
theorem dF_count_60 : decode mF_count.2.1 60 = .ok (.aload_n 0, 1) := by decide +kernel
theorem dF_count_61 : decode mF_count.2.1 61 = .ok (.getfield 19, 3) := by decide +kernel
theorem dF_count_64 : decode mF_count.2.1 64 = .ok (.getfield 205, 3) := by decide +kernel
theorem dF_count_67 : decode mF_count.2.1 67 = .ok (.ireturn, 1) := by decide +kernel
theorem dF_count_68 : decode mF_count.2.1 68 = .ok (.aload_n 0, 1) := by decide +kernel
theorem dF_count_69 : decode mF_count.2.1 69 = .ok (.getfield 28, 3) := by decide +kernel
theorem dF_count_72 : decode mF_count.2.1 72 = .ok (.getfield 78, 3) := by decide +kernel
theorem dF_count_75 : decode mF_count.2.1 75 = .ok (.ireturn, 1) := by decide +kernel
theorem dF_count_76 : decode mF_count.2.1 76 = .ok (.aload_n 0, 1) := by decide +kernel
theorem dF_count_77 : decode mF_count.2.1 77 = .ok (.getfield 28, 3) := by decide +kernel
theorem dF_count_80 : decode mF_count.2.1 80 = .ok (.getfield 81, 3) := by decide +kernel
theorem dF_count_83 : decode mF_count.2.1 83 = .ok (.ireturn, 1) := by decide +kernel
theorem dF_count_84 : decode mF_count.2.1 84 = .ok (.aload_n 0, 1) := by decide +kernel
theorem dF_count_85 : decode mF_count.2.1 85 = .ok (.getfield 12, 3) := by decide +kernel
theorem dF_count_88 : decode mF_count.2.1 88 = .ok (.getfield 64, 3) := by decide +kernel
theorem dF_count_91 : decode mF_count.2.1 91 = .ok (.ireturn, 1) := by decide +kernel
theorem dF_count_92 : decode mF_count.2.1 92 = .ok (.aload_n 0, 1) := by decide +kernel
theorem dF_count_93 : decode mF_count.2.1 93 = .ok (.getfield 45, 3) := by decide +kernel
theorem dF_count_96 : decode mF_count.2.1 96 = .ok (.getfield 147, 3) := by decide +kernel
theorem dF_count_99 : decode mF_count.2.1 99 = .ok (.ireturn, 1) := by decide +kernel
theorem dF_count_100 : decode mF_count.2.1 100 = .ok (.iconst (-1), 1) := by decide +kernel
theorem dF_count_101 : decode mF_count.2.1 101 = .ok (.ireturn, 1) := by decide +kernel
theorem dF_readText_0 : decode mF_readText.2.1 0 = .ok (.aload_n 0, 1) := by decide +kernel
theorem dF_readText_1 : decode mF_readText.2.1 1 = .ok (.getfield 12, 3) := by decide +kernel
theorem dF_readText_4 : decode mF_readText.2.1 4 = .ok (.invokevirtual 235, 3) := by decide +kernel
theorem dF_readText_7 : decode mF_readText.2.1 7 = .ok (.istore_n 1, 1) := by decide +kernel
theorem dF_readText_8 : decode mF_readText.2.1 8 = .ok (.iload_n 1, 1) := by decide +kernel
theorem dF_readText_9 : decode mF_readText.2.1 9 = .ok (.iconst (-1), 1) := by decide +kernel
theorem dF_readText_10 : decode mF_readText.2.1 10 = .ok (.if_icmp .eq 5, 3) := by decide +kernel
theorem dF_readText_13 : decode mF_readText.2.1 13 = .ok (.iload_n 1, 1) := by decide +kernel
theorem dF_readText_14 : decode mF_readText.2.1 14 = .ok (.ireturn, 1) := by decide +kernel
theorem dF_readText_15 : decode mF_readText.2.1 15 = .ok (.aload_n 0, 1) := by decide +kernel
theorem dF_readText_16 : decode mF_readText.2.1 16 = .ok (.getfield 19, 3) := by decide +kernel
theorem dF_readText_19 : decode mF_readText.2.1 19 = .ok (.aload_n 0, 1) := by decide +kernel
theorem dF_readText_20 : decode mF_readText.2.1 20 = .ok (.getfield 12, 3) := by decide +kernel
theorem dF_readText_23 : decode mF_readText.2.1 23 = .ok (.invokevirtual 238, 3) := by decide +kernel
theorem dF_readText_26 : decode mF_readText.2.1 26 = .ok (.aload_n 0, 1) := by decide +kernel
theorem dF_readText_27 : decode mF_readText.2.1 27 = .ok (.getfield 28, 3) := by decide +kernel
theorem dF_readText_30 : decode mF_readText.2.1 30 = .ok (.invokevirtual 242, 3) := by decide +kernel
theorem dF_readText_33 : decode mF_readText.2.1 33 = .ok (.aload_n 0, 1) := by decide +kernel
theorem dF_readText_34 : decode mF_readText.2.1 34 = .ok (.getfield 45, 3) := by decide +kernel
theorem dF_readText_37 : decode mF_readText.2.1 37 = .ok (.iconst 0, 1) := by decide +kernel
theorem dF_readText_38 : decode mF_readText.2.1 38 = .ok (.putfield 147, 3) := by decide +kernel
theorem dF_readText_41 : decode mF_readText.2.1 41 = .ok (.aload_n 0, 1) := by decide +kernel
theorem dF_readText_42 : decode mF_readText.2.1 42 = .ok (.getfield 52, 3) := by decide +kernel
theorem dF_readText_45 : decode mF_readText.2.1 45 = .ok (.invokevirtual 245, 3) := by decide +kernel
theorem dF_readText_48 : decode mF_readText.2.1 48 = .ok (.aload_n 0, 1) := by decide +kernel
theorem dF_readText_49 : decode mF_readText.2.1 49 = .ok (.getfield 12, 3) := by decide +kernel
theorem dF_readText_52 : decode mF_readText.2.1 52 = .ok (.iconst 0, 1) := by decide +kernel
theorem dF_readText_53 : decode mF_readText.2.1 53 = .ok (.putfield 64, 3) := by decide +kernel
theorem dF_readText_56 : decode mF_readText.2.1 56 = .ok (.iconst (-1), 1) := by decide +kernel
theorem dF_readText_57 : decode mF_readText.2.1 57 = .ok (.ireturn, 1) := by decide +kernel
theorem dF_laneLength_0 : decode mF_laneLength.2.1 0 = .ok (.iconst 0, 1) := by decide +kernel
theorem dF_laneLength_1 : decode mF_laneLength.2.1 1 = .ok (.istore 4, 2) := by decide +kernel
theorem dF_laneLength_3 : decode mF_laneLength.2.1 3 = .ok (.iload_n 1, 1) := by decide +kernel
theorem dF_laneLength_4 : decode mF_laneLength.2.1 4 = .ok (.invokestatic 111, 3) := by decide +kernel
theorem dF_laneLength_7 : decode mF_laneLength.2.1 7 = .ok (.lload_n 2, 1) := by decide +kernel
theorem dF_laneLength_8 : decode mF_laneLength.2.1 8 = .ok (.land, 1) := by decide +kernel
theorem dF_laneLength_9 : decode mF_laneLength.2.1 9 = .ok (.lstore 5, 2) := by decide +kernel
theorem dF_laneLength_11 : decode mF_laneLength.2.1 11 = .ok (.iconst 0, 1) := by decide +kernel
theorem dF_laneLength_12 : decode mF_laneLength.2.1 12 = .ok (.istore 7, 2) := by decide +kernel
theorem dF_laneLength_14 : decode mF_laneLength.2.1 14 = .ok (.iload 7, 2) := by decide +kernel
theorem dF_laneLength_16 : decode mF_laneLength.2.1 16 = .ok (.bipush 6, 2) := by decide +kernel
theorem dF_laneLength_18 : decode mF_laneLength.2.1 18 = .ok (.if_icmp .ge 33, 3) := by decide +kernel
theorem dF_laneLength_21 : decode mF_laneLength.2.1 21 = .ok (.lload 5, 2) := by decide +kernel
theorem dF_laneLength_23 : decode mF_laneLength.2.1 23 = .ok (.lconst 0, 1) := by decide +kernel
theorem dF_laneLength_24 : decode mF_laneLength.2.1 24 = .ok (.lcmp, 1) := by decide +kernel
theorem dF_laneLength_25 : decode mF_laneLength.2.1 25 = .ok (.ifCond .eq 26, 3) := by decide +kernel
theorem dF_laneLength_28 : decode mF_laneLength.2.1 28 = .ok (.iinc 4 1, 3) := by decide +kernel
theorem dF_laneLength_31 : decode mF_laneLength.2.1 31 = .ok (.aload_n 0, 1) := by decide +kernel
theorem dF_laneLength_32 : decode mF_laneLength.2.1 32 = .ok (.getfield 19, 3) := by decide +kernel
theorem dF_laneLength_35 : decode mF_laneLength.2.1 35 = .ok (.lload 5, 2) := by decide +kernel
theorem dF_laneLength_37 : decode mF_laneLength.2.1 37 = .ok (.iconst 1, 1) := by decide +kernel
theorem dF_laneLength_38 : decode mF_laneLength.2.1 38 = .ok (.invokevirtual 188, 3) := by decide +kernel
theorem dF_laneLength_41 : decode mF_laneLength.2.1 41 = .ok (.lload_n 2, 1) := by decide +kernel
theorem dF_laneLength_42 : decode mF_laneLength.2.1 42 = .ok (.land, 1) := by decide +kernel
theorem dF_laneLength_43 : decode mF_laneLength.2.1 43 = .ok (.lstore 5, 2) := by decide +kernel
theorem dF_laneLength_45 : decode mF_laneLength.2.1 45 = .ok (.iinc 7 1, 3) := by decide +kernel
theorem dF_laneLength_48 : decode mF_laneLength.2.1 48 = .ok (.goto (-34), 3) := by decide +kernel
theorem dF_laneLength_51 : decode mF_laneLength.2.1 51 = .ok (.iload 4, 2) := by decide +kernel
theorem dF_laneLength_53 : decode mF_laneLength.2.1 53 = .ok (.ireturn, 1) := by decide +kernel
theorem dF_only_0 : decode mF_only.2.1 0 = .ok (.iload_n 0, 1) := by decide +kernel
theorem dF_only_1 : decode mF_only.2.1 1 = .ok (.ifCond .lt 15, 3) := by decide +kernel
theorem dF_only_4 : decode mF_only.2.1 4 = .ok (.iload_n 0, 1) := by decide +kernel
theorem dF_only_5 : decode mF_only.2.1 5 = .ok (.bipush 36, 2) := by decide +kernel
theorem dF_only_7 : decode mF_only.2.1 7 = .ok (.if_icmp .ge 9, 3) := by decide +kernel
theorem dF_only_10 : decode mF_only.2.1 10 = .ok (.lconst 1, 1) := by decide +kernel
theorem dF_only_11 : decode mF_only.2.1 11 = .ok (.iload_n 0, 1) := by decide +kernel
theorem dF_only_12 : decode mF_only.2.1 12 = .ok (.lshl, 1) := by decide +kernel
theorem dF_only_13 : decode mF_only.2.1 13 = .ok (.goto 4, 3) := by decide +kernel
theorem dF_only_16 : decode mF_only.2.1 16 = .ok (.lconst 0, 1) := by decide +kernel
theorem dF_only_17 : decode mF_only.2.1 17 = .ok (.lreturn, 1) := by decide +kernel
theorem dF_holds_0 : decode mF_holds.2.1 0 = .ok (.lload_n 0, 1) := by decide +kernel
theorem dF_holds_1 : decode mF_holds.2.1 1 = .ok (.iload_n 2, 1) := by decide +kernel
theorem dF_holds_2 : decode mF_holds.2.1 2 = .ok (.invokestatic 111, 3) := by decide +kernel
theorem dF_holds_5 : decode mF_holds.2.1 5 = .ok (.land, 1) := by decide +kernel
theorem dF_holds_6 : decode mF_holds.2.1 6 = .ok (.lconst 0, 1) := by decide +kernel
theorem dF_holds_7 : decode mF_holds.2.1 7 = .ok (.lcmp, 1) := by decide +kernel
theorem dF_holds_8 : decode mF_holds.2.1 8 = .ok (.ifCond .eq 7, 3) := by decide +kernel
theorem dF_holds_11 : decode mF_holds.2.1 11 = .ok (.iconst 1, 1) := by decide +kernel
theorem dF_holds_12 : decode mF_holds.2.1 12 = .ok (.goto 4, 3) := by decide +kernel
theorem dF_holds_15 : decode mF_holds.2.1 15 = .ok (.iconst 0, 1) := by decide +kernel
theorem dF_holds_16 : decode mF_holds.2.1 16 = .ok (.ireturn, 1) := by decide +kernel
theorem dF_lowestOf_0 : decode mF_lowestOf.2.1 0 = .ok (.lload_n 0, 1) := by decide +kernel
theorem dF_lowestOf_1 : decode mF_lowestOf.2.1 1 = .ok (.lconst 0, 1) := by decide +kernel
theorem dF_lowestOf_2 : decode mF_lowestOf.2.1 2 = .ok (.lcmp, 1) := by decide +kernel
theorem dF_lowestOf_3 : decode mF_lowestOf.2.1 3 = .ok (.ifCond .ne 7, 3) := by decide +kernel
theorem dF_lowestOf_6 : decode mF_lowestOf.2.1 6 = .ok (.iconst (-1), 1) := by decide +kernel
theorem dF_lowestOf_7 : decode mF_lowestOf.2.1 7 = .ok (.goto 12, 3) := by decide +kernel
theorem dF_lowestOf_10 : decode mF_lowestOf.2.1 10 = .ok (.lload_n 0, 1) := by decide +kernel
theorem dF_lowestOf_11 : decode mF_lowestOf.2.1 11 = .ok (.lload_n 0, 1) := by decide +kernel
theorem dF_lowestOf_12 : decode mF_lowestOf.2.1 12 = .ok (.lneg, 1) := by decide +kernel
theorem dF_lowestOf_13 : decode mF_lowestOf.2.1 13 = .ok (.land, 1) := by decide +kernel
theorem dF_lowestOf_14 : decode mF_lowestOf.2.1 14 = .ok (.lconst 1, 1) := by decide +kernel
theorem dF_lowestOf_15 : decode mF_lowestOf.2.1 15 = .ok (.lsub, 1) := by decide +kernel
theorem dF_lowestOf_16 : decode mF_lowestOf.2.1 16 = .ok (.invokestatic 152, 3) := by decide +kernel
theorem dF_lowestOf_19 : decode mF_lowestOf.2.1 19 = .ok (.ireturn, 1) := by decide +kernel
theorem dF_memberAt_0 : decode mF_memberAt.2.1 0 = .ok (.iload_n 2, 1) := by decide +kernel
theorem dF_memberAt_1 : decode mF_memberAt.2.1 1 = .ok (.ifCond .lt 11, 3) := by decide +kernel
theorem dF_memberAt_4 : decode mF_memberAt.2.1 4 = .ok (.iload_n 2, 1) := by decide +kernel
theorem dF_memberAt_5 : decode mF_memberAt.2.1 5 = .ok (.lload_n 0, 1) := by decide +kernel
theorem dF_memberAt_6 : decode mF_memberAt.2.1 6 = .ok (.invokestatic 152, 3) := by decide +kernel
theorem dF_memberAt_9 : decode mF_memberAt.2.1 9 = .ok (.if_icmp .lt 5, 3) := by decide +kernel
theorem dF_memberAt_12 : decode mF_memberAt.2.1 12 = .ok (.iconst (-1), 1) := by decide +kernel
theorem dF_memberAt_13 : decode mF_memberAt.2.1 13 = .ok (.ireturn, 1) := by decide +kernel
theorem dF_memberAt_14 : decode mF_memberAt.2.1 14 = .ok (.lload_n 0, 1) := by decide +kernel
theorem dF_memberAt_15 : decode mF_memberAt.2.1 15 = .ok (.lstore_n 3, 1) := by decide +kernel
theorem dF_memberAt_16 : decode mF_memberAt.2.1 16 = .ok (.iconst 0, 1) := by decide +kernel
theorem dF_memberAt_17 : decode mF_memberAt.2.1 17 = .ok (.istore 5, 2) := by decide +kernel
theorem dF_memberAt_19 : decode mF_memberAt.2.1 19 = .ok (.iload 5, 2) := by decide +kernel
theorem dF_memberAt_21 : decode mF_memberAt.2.1 21 = .ok (.iload_n 2, 1) := by decide +kernel
theorem dF_memberAt_22 : decode mF_memberAt.2.1 22 = .ok (.if_icmp .ge 22, 3) := by decide +kernel
theorem dF_memberAt_25 : decode mF_memberAt.2.1 25 = .ok (.iload 5, 2) := by decide +kernel
theorem dF_memberAt_27 : decode mF_memberAt.2.1 27 = .ok (.bipush 36, 2) := by decide +kernel
theorem dF_memberAt_29 : decode mF_memberAt.2.1 29 = .ok (.if_icmp .ge 15, 3) := by decide +kernel
theorem dF_memberAt_32 : decode mF_memberAt.2.1 32 = .ok (.lload_n 3, 1) := by decide +kernel
theorem dF_memberAt_33 : decode mF_memberAt.2.1 33 = .ok (.lload_n 3, 1) := by decide +kernel
theorem dF_memberAt_34 : decode mF_memberAt.2.1 34 = .ok (.lconst 1, 1) := by decide +kernel
theorem dF_memberAt_35 : decode mF_memberAt.2.1 35 = .ok (.lsub, 1) := by decide +kernel
theorem dF_memberAt_36 : decode mF_memberAt.2.1 36 = .ok (.land, 1) := by decide +kernel
theorem dF_memberAt_37 : decode mF_memberAt.2.1 37 = .ok (.lstore_n 3, 1) := by decide +kernel
theorem dF_memberAt_38 : decode mF_memberAt.2.1 38 = .ok (.iinc 5 1, 3) := by decide +kernel
theorem dF_memberAt_41 : decode mF_memberAt.2.1 41 = .ok (.goto (-22), 3) := by decide +kernel
theorem dF_memberAt_44 : decode mF_memberAt.2.1 44 = .ok (.lload_n 3, 1) := by decide +kernel
theorem dF_memberAt_45 : decode mF_memberAt.2.1 45 = .ok (.invokestatic 248, 3) := by decide +kernel
theorem dF_memberAt_48 : decode mF_memberAt.2.1 48 = .ok (.ireturn, 1) := by decide +kernel
theorem dF_turned_0 : decode mF_turned.2.1 0 = .ok (.iload_n 0, 1) := by decide +kernel
theorem dF_turned_1 : decode mF_turned.2.1 1 = .ok (.iload_n 1, 1) := by decide +kernel
theorem dF_turned_2 : decode mF_turned.2.1 2 = .ok (.iadd, 1) := by decide +kernel
theorem dF_turned_3 : decode mF_turned.2.1 3 = .ok (.iconst 3, 1) := by decide +kernel
theorem dF_turned_4 : decode mF_turned.2.1 4 = .ok (.iand, 1) := by decide +kernel
theorem dF_turned_5 : decode mF_turned.2.1 5 = .ok (.ireturn, 1) := by decide +kernel
theorem dJ_bitCount_0 : decode mJ_bitCount.2.1 0 = .ok (.lload_n 0, 1) := by decide +kernel
theorem dJ_bitCount_1 : decode mJ_bitCount.2.1 1 = .ok (.lload_n 0, 1) := by decide +kernel
theorem dJ_bitCount_2 : decode mJ_bitCount.2.1 2 = .ok (.iconst 1, 1) := by decide +kernel
theorem dJ_bitCount_3 : decode mJ_bitCount.2.1 3 = .ok (.lushr, 1) := by decide +kernel
theorem dJ_bitCount_4 : decode mJ_bitCount.2.1 4 = .ok (.ldc2_w 314, 3) := by decide +kernel
theorem dJ_bitCount_7 : decode mJ_bitCount.2.1 7 = .ok (.land, 1) := by decide +kernel
theorem dJ_bitCount_8 : decode mJ_bitCount.2.1 8 = .ok (.lsub, 1) := by decide +kernel
theorem dJ_bitCount_9 : decode mJ_bitCount.2.1 9 = .ok (.lstore_n 0, 1) := by decide +kernel
theorem dJ_bitCount_10 : decode mJ_bitCount.2.1 10 = .ok (.lload_n 0, 1) := by decide +kernel
theorem dJ_bitCount_11 : decode mJ_bitCount.2.1 11 = .ok (.ldc2_w 316, 3) := by decide +kernel
theorem dJ_bitCount_14 : decode mJ_bitCount.2.1 14 = .ok (.land, 1) := by decide +kernel
theorem dJ_bitCount_15 : decode mJ_bitCount.2.1 15 = .ok (.lload_n 0, 1) := by decide +kernel
theorem dJ_bitCount_16 : decode mJ_bitCount.2.1 16 = .ok (.iconst 2, 1) := by decide +kernel
theorem dJ_bitCount_17 : decode mJ_bitCount.2.1 17 = .ok (.lushr, 1) := by decide +kernel
theorem dJ_bitCount_18 : decode mJ_bitCount.2.1 18 = .ok (.ldc2_w 316, 3) := by decide +kernel
theorem dJ_bitCount_21 : decode mJ_bitCount.2.1 21 = .ok (.land, 1) := by decide +kernel
theorem dJ_bitCount_22 : decode mJ_bitCount.2.1 22 = .ok (.ladd, 1) := by decide +kernel
theorem dJ_bitCount_23 : decode mJ_bitCount.2.1 23 = .ok (.lstore_n 0, 1) := by decide +kernel
theorem dJ_bitCount_24 : decode mJ_bitCount.2.1 24 = .ok (.lload_n 0, 1) := by decide +kernel
theorem dJ_bitCount_25 : decode mJ_bitCount.2.1 25 = .ok (.lload_n 0, 1) := by decide +kernel
theorem dJ_bitCount_26 : decode mJ_bitCount.2.1 26 = .ok (.iconst 4, 1) := by decide +kernel
theorem dJ_bitCount_27 : decode mJ_bitCount.2.1 27 = .ok (.lushr, 1) := by decide +kernel
theorem dJ_bitCount_28 : decode mJ_bitCount.2.1 28 = .ok (.ladd, 1) := by decide +kernel
theorem dJ_bitCount_29 : decode mJ_bitCount.2.1 29 = .ok (.ldc2_w 318, 3) := by decide +kernel
theorem dJ_bitCount_32 : decode mJ_bitCount.2.1 32 = .ok (.land, 1) := by decide +kernel
theorem dJ_bitCount_33 : decode mJ_bitCount.2.1 33 = .ok (.lstore_n 0, 1) := by decide +kernel
theorem dJ_bitCount_34 : decode mJ_bitCount.2.1 34 = .ok (.lload_n 0, 1) := by decide +kernel
theorem dJ_bitCount_35 : decode mJ_bitCount.2.1 35 = .ok (.lload_n 0, 1) := by decide +kernel
theorem dJ_bitCount_36 : decode mJ_bitCount.2.1 36 = .ok (.bipush 8, 2) := by decide +kernel
theorem dJ_bitCount_38 : decode mJ_bitCount.2.1 38 = .ok (.lushr, 1) := by decide +kernel
theorem dJ_bitCount_39 : decode mJ_bitCount.2.1 39 = .ok (.ladd, 1) := by decide +kernel
theorem dJ_bitCount_40 : decode mJ_bitCount.2.1 40 = .ok (.lstore_n 0, 1) := by decide +kernel
theorem dJ_bitCount_41 : decode mJ_bitCount.2.1 41 = .ok (.lload_n 0, 1) := by decide +kernel
theorem dJ_bitCount_42 : decode mJ_bitCount.2.1 42 = .ok (.lload_n 0, 1) := by decide +kernel
theorem dJ_bitCount_43 : decode mJ_bitCount.2.1 43 = .ok (.bipush 16, 2) := by decide +kernel
theorem dJ_bitCount_45 : decode mJ_bitCount.2.1 45 = .ok (.lushr, 1) := by decide +kernel
theorem dJ_bitCount_46 : decode mJ_bitCount.2.1 46 = .ok (.ladd, 1) := by decide +kernel
theorem dJ_bitCount_47 : decode mJ_bitCount.2.1 47 = .ok (.lstore_n 0, 1) := by decide +kernel
theorem dJ_bitCount_48 : decode mJ_bitCount.2.1 48 = .ok (.lload_n 0, 1) := by decide +kernel
theorem dJ_bitCount_49 : decode mJ_bitCount.2.1 49 = .ok (.lload_n 0, 1) := by decide +kernel
theorem dJ_bitCount_50 : decode mJ_bitCount.2.1 50 = .ok (.bipush 32, 2) := by decide +kernel
theorem dJ_bitCount_52 : decode mJ_bitCount.2.1 52 = .ok (.lushr, 1) := by decide +kernel
theorem dJ_bitCount_53 : decode mJ_bitCount.2.1 53 = .ok (.ladd, 1) := by decide +kernel
theorem dJ_bitCount_54 : decode mJ_bitCount.2.1 54 = .ok (.lstore_n 0, 1) := by decide +kernel
theorem dJ_bitCount_55 : decode mJ_bitCount.2.1 55 = .ok (.lload_n 0, 1) := by decide +kernel
theorem dJ_bitCount_56 : decode mJ_bitCount.2.1 56 = .ok (.l2i, 1) := by decide +kernel
theorem dJ_bitCount_57 : decode mJ_bitCount.2.1 57 = .ok (.bipush 127, 2) := by decide +kernel
theorem dJ_bitCount_59 : decode mJ_bitCount.2.1 59 = .ok (.iand, 1) := by decide +kernel
theorem dJ_bitCount_60 : decode mJ_bitCount.2.1 60 = .ok (.ireturn, 1) := by decide +kernel
theorem dJ_min_0 : decode mJ_min.2.1 0 = .ok (.iload_n 0, 1) := by decide +kernel
theorem dJ_min_1 : decode mJ_min.2.1 1 = .ok (.iload_n 1, 1) := by decide +kernel
theorem dJ_min_2 : decode mJ_min.2.1 2 = .ok (.if_icmp .gt 7, 3) := by decide +kernel
theorem dJ_min_5 : decode mJ_min.2.1 5 = .ok (.iload_n 0, 1) := by decide +kernel
theorem dJ_min_6 : decode mJ_min.2.1 6 = .ok (.goto 4, 3) := by decide +kernel
theorem dJ_min_9 : decode mJ_min.2.1 9 = .ok (.iload_n 1, 1) := by decide +kernel
theorem dJ_min_10 : decode mJ_min.2.1 10 = .ok (.ireturn, 1) := by decide +kernel
end
section
theorem dM_in_0 : decode mM_in.2.1 0 = .ok (.iload_n 0, 1) := by decide +kernel
theorem dM_in_1 : decode mM_in.2.1 1 = .ok (.iload_n 1, 1) := by decide +kernel
theorem dM_in_2 : decode mM_in.2.1 2 = .ok (.if_icmp .lt 12, 3) := by decide +kernel
theorem dM_in_5 : decode mM_in.2.1 5 = .ok (.iload_n 0, 1) := by decide +kernel
theorem dM_in_6 : decode mM_in.2.1 6 = .ok (.iload_n 2, 1) := by decide +kernel
theorem dM_in_7 : decode mM_in.2.1 7 = .ok (.if_icmp .gt 7, 3) := by decide +kernel
theorem dM_in_10 : decode mM_in.2.1 10 = .ok (.iconst 1, 1) := by decide +kernel
theorem dM_in_11 : decode mM_in.2.1 11 = .ok (.goto 4, 3) := by decide +kernel
theorem dM_in_14 : decode mM_in.2.1 14 = .ok (.iconst 0, 1) := by decide +kernel
theorem dM_in_15 : decode mM_in.2.1 15 = .ok (.ireturn, 1) := by decide +kernel
theorem dM_init_0 : decode mM_init.2.1 0 = .ok (.aload_n 0, 1) := by decide +kernel
theorem dM_init_1 : decode mM_init.2.1 1 = .ok (.invokespecial 1, 3) := by decide +kernel
theorem dM_init_4 : decode mM_init.2.1 4 = .ok (.aload_n 0, 1) := by decide +kernel
theorem dM_init_5 : decode mM_init.2.1 5 = .ok (.iconst 1, 1) := by decide +kernel
theorem dM_init_6 : decode mM_init.2.1 6 = .ok (.putfield 7, 3) := by decide +kernel
theorem dM_init_9 : decode mM_init.2.1 9 = .ok (.aload_n 0, 1) := by decide +kernel
theorem dM_init_10 : decode mM_init.2.1 10 = .ok (.iconst 1, 1) := by decide +kernel
theorem dM_init_11 : decode mM_init.2.1 11 = .ok (.putfield 13, 3) := by decide +kernel
theorem dM_init_14 : decode mM_init.2.1 14 = .ok (.aload_n 0, 1) := by decide +kernel
theorem dM_init_15 : decode mM_init.2.1 15 = .ok (.bipush 114, 2) := by decide +kernel
theorem dM_init_17 : decode mM_init.2.1 17 = .ok (.newarray .int, 2) := by decide +kernel
theorem dM_init_19 : decode mM_init.2.1 19 = .ok (.putfield 16, 3) := by decide +kernel
theorem dM_init_22 : decode mM_init.2.1 22 = .ok (.aload_n 0, 1) := by decide +kernel
theorem dM_init_23 : decode mM_init.2.1 23 = .ok (.sipush 684, 3) := by decide +kernel
theorem dM_init_26 : decode mM_init.2.1 26 = .ok (.newarray .int, 2) := by decide +kernel
theorem dM_init_28 : decode mM_init.2.1 28 = .ok (.putfield 20, 3) := by decide +kernel
theorem dM_init_31 : decode mM_init.2.1 31 = .ok (.aload_n 0, 1) := by decide +kernel
theorem dM_init_32 : decode mM_init.2.1 32 = .ok (.iconst 2, 1) := by decide +kernel
theorem dM_init_33 : decode mM_init.2.1 33 = .ok (.newarray .boolean, 2) := by decide +kernel
theorem dM_init_35 : decode mM_init.2.1 35 = .ok (.putfield 23, 3) := by decide +kernel
theorem dM_init_38 : decode mM_init.2.1 38 = .ok (.aload_n 0, 1) := by decide +kernel
theorem dM_init_39 : decode mM_init.2.1 39 = .ok (.sipush 228, 3) := by decide +kernel
theorem dM_init_42 : decode mM_init.2.1 42 = .ok (.newarray .int, 2) := by decide +kernel
theorem dM_init_44 : decode mM_init.2.1 44 = .ok (.putfield 27, 3) := by decide +kernel
theorem dM_init_47 : decode mM_init.2.1 47 = .ok (.aload_n 0, 1) := by decide +kernel
theorem dM_init_48 : decode mM_init.2.1 48 = .ok (.bipush 114, 2) := by decide +kernel
theorem dM_init_50 : decode mM_init.2.1 50 = .ok (.newarray .int, 2) := by decide +kernel
theorem dM_init_52 : decode mM_init.2.1 52 = .ok (.putfield 30, 3) := by decide +kernel
theorem dM_init_55 : decode mM_init.2.1 55 = .ok (.aload_n 0, 1) := by decide +kernel
theorem dM_init_56 : decode mM_init.2.1 56 = .ok (.bipush 60, 2) := by decide +kernel
theorem dM_init_58 : decode mM_init.2.1 58 = .ok (.newarray .int, 2) := by decide +kernel
theorem dM_init_60 : decode mM_init.2.1 60 = .ok (.putfield 33, 3) := by decide +kernel
theorem dM_init_63 : decode mM_init.2.1 63 = .ok (.aload_n 0, 1) := by decide +kernel
theorem dM_init_64 : decode mM_init.2.1 64 = .ok (.bipush 36, 2) := by decide +kernel
theorem dM_init_66 : decode mM_init.2.1 66 = .ok (.newarray .int, 2) := by decide +kernel
theorem dM_init_68 : decode mM_init.2.1 68 = .ok (.putfield 36, 3) := by decide +kernel
theorem dM_init_71 : decode mM_init.2.1 71 = .ok (.aload_n 0, 1) := by decide +kernel
theorem dM_init_72 : decode mM_init.2.1 72 = .ok (.bipush 36, 2) := by decide +kernel
theorem dM_init_74 : decode mM_init.2.1 74 = .ok (.newarray .int, 2) := by decide +kernel
theorem dM_init_76 : decode mM_init.2.1 76 = .ok (.putfield 39, 3) := by decide +kernel
theorem dM_init_79 : decode mM_init.2.1 79 = .ok (.aload_n 0, 1) := by decide +kernel
theorem dM_init_80 : decode mM_init.2.1 80 = .ok (.bipush 36, 2) := by decide +kernel
theorem dM_init_82 : decode mM_init.2.1 82 = .ok (.newarray .int, 2) := by decide +kernel
theorem dM_init_84 : decode mM_init.2.1 84 = .ok (.putfield 42, 3) := by decide +kernel
theorem dM_init_87 : decode mM_init.2.1 87 = .ok (.aload_n 0, 1) := by decide +kernel
theorem dM_init_88 : decode mM_init.2.1 88 = .ok (.bipush 36, 2) := by decide +kernel
theorem dM_init_90 : decode mM_init.2.1 90 = .ok (.newarray .int, 2) := by decide +kernel
theorem dM_init_92 : decode mM_init.2.1 92 = .ok (.putfield 45, 3) := by decide +kernel
theorem dM_init_95 : decode mM_init.2.1 95 = .ok (.aload_n 0, 1) := by decide +kernel
theorem dM_init_96 : decode mM_init.2.1 96 = .ok (.bipush 36, 2) := by decide +kernel
theorem dM_init_98 : decode mM_init.2.1 98 = .ok (.newarray .int, 2) := by decide +kernel
theorem dM_init_100 : decode mM_init.2.1 100 = .ok (.putfield 48, 3) := by decide +kernel
theorem dM_init_103 : decode mM_init.2.1 103 = .ok (.aload_n 0, 1) := by decide +kernel
theorem dM_init_104 : decode mM_init.2.1 104 = .ok (.bipush 36, 2) := by decide +kernel
theorem dM_init_106 : decode mM_init.2.1 106 = .ok (.newarray .int, 2) := by decide +kernel
theorem dM_init_108 : decode mM_init.2.1 108 = .ok (.putfield 51, 3) := by decide +kernel
theorem dM_init_111 : decode mM_init.2.1 111 = .ok (.aload_n 0, 1) := by decide +kernel
theorem dM_init_112 : decode mM_init.2.1 112 = .ok (.getfield 16, 3) := by decide +kernel
theorem dM_init_115 : decode mM_init.2.1 115 = .ok (.iconst 0, 1) := by decide +kernel
theorem dM_init_116 : decode mM_init.2.1 116 = .ok (.bipush 6, 2) := by decide +kernel
theorem dM_init_118 : decode mM_init.2.1 118 = .ok (.iastore, 1) := by decide +kernel
theorem dM_init_119 : decode mM_init.2.1 119 = .ok (.aload_n 0, 1) := by decide +kernel
theorem dM_init_120 : decode mM_init.2.1 120 = .ok (.invokevirtual 54, 3) := by decide +kernel
theorem dM_init_123 : decode mM_init.2.1 123 = .ok (.return_, 1) := by decide +kernel
theorem dM_cells_0 : decode mM_cells.2.1 0 = .ok (.aload_n 0, 1) := by decide +kernel
theorem dM_cells_1 : decode mM_cells.2.1 1 = .ok (.getfield 7, 3) := by decide +kernel
theorem dM_cells_4 : decode mM_cells.2.1 4 = .ok (.aload_n 0, 1) := by decide +kernel
theorem dM_cells_5 : decode mM_cells.2.1 5 = .ok (.getfield 13, 3) := by decide +kernel
theorem dM_cells_8 : decode mM_cells.2.1 8 = .ok (.imul, 1) := by decide +kernel
theorem dM_cells_9 : decode mM_cells.2.1 9 = .ok (.ireturn, 1) := by decide +kernel
theorem dM_begins_0 : decode mM_begins.2.1 0 = .ok (.iconst 0, 1) := by decide +kernel
theorem dM_begins_1 : decode mM_begins.2.1 1 = .ok (.istore_n 1, 1) := by decide +kernel
theorem dM_begins_2 : decode mM_begins.2.1 2 = .ok (.iload_n 1, 1) := by decide +kernel
theorem dM_begins_3 : decode mM_begins.2.1 3 = .ok (.aload_n 0, 1) := by decide +kernel
theorem dM_begins_4 : decode mM_begins.2.1 4 = .ok (.invokevirtual 57, 3) := by decide +kernel
theorem dM_begins_7 : decode mM_begins.2.1 7 = .ok (.if_icmp .ge 41, 3) := by decide +kernel
theorem dM_begins_10 : decode mM_begins.2.1 10 = .ok (.aload_n 0, 1) := by decide +kernel
theorem dM_begins_11 : decode mM_begins.2.1 11 = .ok (.getfield 16, 3) := by decide +kernel
theorem dM_begins_14 : decode mM_begins.2.1 14 = .ok (.bipush 36, 2) := by decide +kernel
theorem dM_begins_16 : decode mM_begins.2.1 16 = .ok (.iload_n 1, 1) := by decide +kernel
theorem dM_begins_17 : decode mM_begins.2.1 17 = .ok (.iadd, 1) := by decide +kernel
theorem dM_begins_18 : decode mM_begins.2.1 18 = .ok (.iload_n 1, 1) := by decide +kernel
theorem dM_begins_19 : decode mM_begins.2.1 19 = .ok (.aload_n 0, 1) := by decide +kernel
theorem dM_begins_20 : decode mM_begins.2.1 20 = .ok (.getfield 61, 3) := by decide +kernel
theorem dM_begins_23 : decode mM_begins.2.1 23 = .ok (.if_icmp .ne 7, 3) := by decide +kernel
theorem dM_begins_26 : decode mM_begins.2.1 26 = .ok (.iconst 1, 1) := by decide +kernel
theorem dM_begins_27 : decode mM_begins.2.1 27 = .ok (.goto 4, 3) := by decide +kernel
theorem dM_begins_30 : decode mM_begins.2.1 30 = .ok (.iconst 0, 1) := by decide +kernel
theorem dM_begins_31 : decode mM_begins.2.1 31 = .ok (.iastore, 1) := by decide +kernel
theorem dM_begins_32 : decode mM_begins.2.1 32 = .ok (.aload_n 0, 1) := by decide +kernel
theorem dM_begins_33 : decode mM_begins.2.1 33 = .ok (.getfield 16, 3) := by decide +kernel
theorem dM_begins_36 : decode mM_begins.2.1 36 = .ok (.bipush 72, 2) := by decide +kernel
theorem dM_begins_38 : decode mM_begins.2.1 38 = .ok (.iload_n 1, 1) := by decide +kernel
theorem dM_begins_39 : decode mM_begins.2.1 39 = .ok (.iadd, 1) := by decide +kernel
theorem dM_begins_40 : decode mM_begins.2.1 40 = .ok (.iconst 0, 1) := by decide +kernel
theorem dM_begins_41 : decode mM_begins.2.1 41 = .ok (.iastore, 1) := by decide +kernel
theorem dM_begins_42 : decode mM_begins.2.1 42 = .ok (.iinc 1 1, 3) := by decide +kernel
theorem dM_begins_45 : decode mM_begins.2.1 45 = .ok (.goto (-43), 3) := by decide +kernel
theorem dM_begins_48 : decode mM_begins.2.1 48 = .ok (.aload_n 0, 1) := by decide +kernel
theorem dM_begins_49 : decode mM_begins.2.1 49 = .ok (.getfield 16, 3) := by decide +kernel
theorem dM_begins_52 : decode mM_begins.2.1 52 = .ok (.bipush 108, 2) := by decide +kernel
theorem dM_begins_54 : decode mM_begins.2.1 54 = .ok (.aload_n 0, 1) := by decide +kernel
theorem dM_begins_55 : decode mM_begins.2.1 55 = .ok (.getfield 61, 3) := by decide +kernel
theorem dM_begins_58 : decode mM_begins.2.1 58 = .ok (.iastore, 1) := by decide +kernel
theorem dM_begins_59 : decode mM_begins.2.1 59 = .ok (.aload_n 0, 1) := by decide +kernel
theorem dM_begins_60 : decode mM_begins.2.1 60 = .ok (.getfield 16, 3) := by decide +kernel
theorem dM_begins_63 : decode mM_begins.2.1 63 = .ok (.bipush 109, 2) := by decide +kernel
theorem dM_begins_65 : decode mM_begins.2.1 65 = .ok (.iconst 0, 1) := by decide +kernel
theorem dM_begins_66 : decode mM_begins.2.1 66 = .ok (.iastore, 1) := by decide +kernel
theorem dM_begins_67 : decode mM_begins.2.1 67 = .ok (.aload_n 0, 1) := by decide +kernel
theorem dM_begins_68 : decode mM_begins.2.1 68 = .ok (.getfield 16, 3) := by decide +kernel
theorem dM_begins_71 : decode mM_begins.2.1 71 = .ok (.bipush 112, 2) := by decide +kernel
theorem dM_begins_73 : decode mM_begins.2.1 73 = .ok (.bipush 40, 2) := by decide +kernel
theorem dM_begins_75 : decode mM_begins.2.1 75 = .ok (.iastore, 1) := by decide +kernel
theorem dM_begins_76 : decode mM_begins.2.1 76 = .ok (.aload_n 0, 1) := by decide +kernel
theorem dM_begins_77 : decode mM_begins.2.1 77 = .ok (.getfield 16, 3) := by decide +kernel
theorem dM_begins_80 : decode mM_begins.2.1 80 = .ok (.bipush 113, 2) := by decide +kernel
theorem dM_begins_82 : decode mM_begins.2.1 82 = .ok (.iconst 5, 1) := by decide +kernel
theorem dM_begins_83 : decode mM_begins.2.1 83 = .ok (.iastore, 1) := by decide +kernel
theorem dM_begins_84 : decode mM_begins.2.1 84 = .ok (.aload_n 0, 1) := by decide +kernel
theorem dM_begins_85 : decode mM_begins.2.1 85 = .ok (.getfield 16, 3) := by decide +kernel
theorem dM_begins_88 : decode mM_begins.2.1 88 = .ok (.bipush 110, 2) := by decide +kernel
theorem dM_begins_90 : decode mM_begins.2.1 90 = .ok (.bipush 40, 2) := by decide +kernel
theorem dM_begins_92 : decode mM_begins.2.1 92 = .ok (.iastore, 1) := by decide +kernel
theorem dM_begins_93 : decode mM_begins.2.1 93 = .ok (.aload_n 0, 1) := by decide +kernel
theorem dM_begins_94 : decode mM_begins.2.1 94 = .ok (.getfield 16, 3) := by decide +kernel
theorem dM_begins_97 : decode mM_begins.2.1 97 = .ok (.bipush 111, 2) := by decide +kernel
theorem dM_begins_99 : decode mM_begins.2.1 99 = .ok (.iconst 0, 1) := by decide +kernel
theorem dM_begins_100 : decode mM_begins.2.1 100 = .ok (.iastore, 1) := by decide +kernel
theorem dM_begins_101 : decode mM_begins.2.1 101 = .ok (.aload_n 0, 1) := by decide +kernel
theorem dM_begins_102 : decode mM_begins.2.1 102 = .ok (.iconst 0, 1) := by decide +kernel
theorem dM_begins_103 : decode mM_begins.2.1 103 = .ok (.putfield 64, 3) := by decide +kernel
theorem dM_begins_106 : decode mM_begins.2.1 106 = .ok (.aload_n 0, 1) := by decide +kernel
theorem dM_begins_107 : decode mM_begins.2.1 107 = .ok (.getfield 23, 3) := by decide +kernel
theorem dM_begins_110 : decode mM_begins.2.1 110 = .ok (.iconst 0, 1) := by decide +kernel
theorem dM_begins_111 : decode mM_begins.2.1 111 = .ok (.iconst 0, 1) := by decide +kernel
theorem dM_begins_112 : decode mM_begins.2.1 112 = .ok (.bastore, 1) := by decide +kernel
theorem dM_begins_113 : decode mM_begins.2.1 113 = .ok (.aload_n 0, 1) := by decide +kernel
theorem dM_begins_114 : decode mM_begins.2.1 114 = .ok (.getfield 23, 3) := by decide +kernel
theorem dM_begins_117 : decode mM_begins.2.1 117 = .ok (.iconst 1, 1) := by decide +kernel
theorem dM_begins_118 : decode mM_begins.2.1 118 = .ok (.iconst 0, 1) := by decide +kernel
theorem dM_begins_119 : decode mM_begins.2.1 119 = .ok (.bastore, 1) := by decide +kernel
theorem dM_begins_120 : decode mM_begins.2.1 120 = .ok (.return_, 1) := by decide +kernel
theorem dM_type_0 : decode mM_type.2.1 0 = .ok (.iload_n 1, 1) := by decide +kernel
theorem dM_type_1 : decode mM_type.2.1 1 = .ok (.iconst 0, 1) := by decide +kernel
theorem dM_type_2 : decode mM_type.2.1 2 = .ok (.sipush 255, 3) := by decide +kernel
theorem dM_type_5 : decode mM_type.2.1 5 = .ok (.invokestatic 67, 3) := by decide +kernel
theorem dM_type_8 : decode mM_type.2.1 8 = .ok (.ifCond .ne 5, 3) := by decide +kernel
theorem dM_type_11 : decode mM_type.2.1 11 = .ok (.iconst (-1), 1) := by decide +kernel
theorem dM_type_12 : decode mM_type.2.1 12 = .ok (.ireturn, 1) := by decide +kernel
theorem dM_type_13 : decode mM_type.2.1 13 = .ok (.aload_n 0, 1) := by decide +kernel
theorem dM_type_14 : decode mM_type.2.1 14 = .ok (.getfield 71, 3) := by decide +kernel
theorem dM_type_17 : decode mM_type.2.1 17 = .ok (.bipush 60, 2) := by decide +kernel
theorem dM_type_19 : decode mM_type.2.1 19 = .ok (.if_icmp .ne 6, 3) := by decide +kernel
theorem dM_type_22 : decode mM_type.2.1 22 = .ok (.bipush (-3), 2) := by decide +kernel
theorem dM_type_24 : decode mM_type.2.1 24 = .ok (.ireturn, 1) := by decide +kernel
theorem dM_type_25 : decode mM_type.2.1 25 = .ok (.aload_n 0, 1) := by decide +kernel
theorem dM_type_26 : decode mM_type.2.1 26 = .ok (.getfield 33, 3) := by decide +kernel
theorem dM_type_29 : decode mM_type.2.1 29 = .ok (.aload_n 0, 1) := by decide +kernel
theorem dM_type_30 : decode mM_type.2.1 30 = .ok (.getfield 71, 3) := by decide +kernel
theorem dM_type_33 : decode mM_type.2.1 33 = .ok (.iload_n 1, 1) := by decide +kernel
theorem dM_type_34 : decode mM_type.2.1 34 = .ok (.iastore, 1) := by decide +kernel
theorem dM_type_35 : decode mM_type.2.1 35 = .ok (.aload_n 0, 1) := by decide +kernel
theorem dM_type_36 : decode mM_type.2.1 36 = .ok (.dup, 1) := by decide +kernel
theorem dM_type_37 : decode mM_type.2.1 37 = .ok (.getfield 71, 3) := by decide +kernel
theorem dM_type_40 : decode mM_type.2.1 40 = .ok (.iconst 1, 1) := by decide +kernel
theorem dM_type_41 : decode mM_type.2.1 41 = .ok (.iadd, 1) := by decide +kernel
theorem dM_type_42 : decode mM_type.2.1 42 = .ok (.putfield 71, 3) := by decide +kernel
theorem dM_type_45 : decode mM_type.2.1 45 = .ok (.aload_n 0, 1) := by decide +kernel
theorem dM_type_46 : decode mM_type.2.1 46 = .ok (.getfield 71, 3) := by decide +kernel
theorem dM_type_49 : decode mM_type.2.1 49 = .ok (.ireturn, 1) := by decide +kernel
theorem dM_clear_0 : decode mM_clear.2.1 0 = .ok (.aload_n 0, 1) := by decide +kernel
theorem dM_clear_1 : decode mM_clear.2.1 1 = .ok (.getfield 71, 3) := by decide +kernel
theorem dM_clear_4 : decode mM_clear.2.1 4 = .ok (.istore_n 1, 1) := by decide +kernel
theorem dM_clear_5 : decode mM_clear.2.1 5 = .ok (.aload_n 0, 1) := by decide +kernel
theorem dM_clear_6 : decode mM_clear.2.1 6 = .ok (.iconst 0, 1) := by decide +kernel
theorem dM_clear_7 : decode mM_clear.2.1 7 = .ok (.putfield 71, 3) := by decide +kernel
theorem dM_clear_10 : decode mM_clear.2.1 10 = .ok (.iload_n 1, 1) := by decide +kernel
theorem dM_clear_11 : decode mM_clear.2.1 11 = .ok (.ireturn, 1) := by decide +kernel
theorem dM_kindOf_0 : decode mM_kindOf.2.1 0 = .ok (.iload_n 0, 1) := by decide +kernel
theorem dM_kindOf_1 : decode mM_kindOf.2.1 1 = .ok (.lookupswitch 72 #[(33, 63), (35, 61), (46, 59), (68, 69), (100, 67), (110, 65)], 59) := by decide +kernel
theorem dM_kindOf_60 : decode mM_kindOf.2.1 60 = .ok (.iconst 0, 1) := by decide +kernel
theorem dM_kindOf_61 : decode mM_kindOf.2.1 61 = .ok (.ireturn, 1) := by decide +kernel
theorem dM_kindOf_62 : decode mM_kindOf.2.1 62 = .ok (.iconst 1, 1) := by decide +kernel
theorem dM_kindOf_63 : decode mM_kindOf.2.1 63 = .ok (.ireturn, 1) := by decide +kernel
theorem dM_kindOf_64 : decode mM_kindOf.2.1 64 = .ok (.iconst 2, 1) := by decide +kernel
theorem dM_kindOf_65 : decode mM_kindOf.2.1 65 = .ok (.ireturn, 1) := by decide +kernel
theorem dM_kindOf_66 : decode mM_kindOf.2.1 66 = .ok (.iconst 3, 1) := by decide +kernel
theorem dM_kindOf_67 : decode mM_kindOf.2.1 67 = .ok (.ireturn, 1) := by decide +kernel
theorem dM_kindOf_68 : decode mM_kindOf.2.1 68 = .ok (.iconst 4, 1) := by decide +kernel
theorem dM_kindOf_69 : decode mM_kindOf.2.1 69 = .ok (.ireturn, 1) := by decide +kernel
theorem dM_kindOf_70 : decode mM_kindOf.2.1 70 = .ok (.bipush 6, 2) := by decide +kernel
theorem dM_kindOf_72 : decode mM_kindOf.2.1 72 = .ok (.ireturn, 1) := by decide +kernel
theorem dM_kindOf_73 : decode mM_kindOf.2.1 73 = .ok (.bipush (-9), 2) := by decide +kernel
theorem dM_kindOf_75 : decode mM_kindOf.2.1 75 = .ok (.ireturn, 1) := by decide +kernel
theorem dM_takes_0 : decode mM_takes.2.1 0 = .ok (.iload_n 1, 1) := by decide +kernel
theorem dM_takes_1 : decode mM_takes.2.1 1 = .ok (.bipush 59, 2) := by decide +kernel
theorem dM_takes_3 : decode mM_takes.2.1 3 = .ok (.if_icmp .ne 55, 3) := by decide +kernel
theorem dM_takes_6 : decode mM_takes.2.1 6 = .ok (.aload_n 0, 1) := by decide +kernel
theorem dM_takes_7 : decode mM_takes.2.1 7 = .ok (.getfield 74, 3) := by decide +kernel
theorem dM_takes_10 : decode mM_takes.2.1 10 = .ok (.ifCond .eq 21, 3) := by decide +kernel
theorem dM_takes_13 : decode mM_takes.2.1 13 = .ok (.aload_n 0, 1) := by decide +kernel
theorem dM_takes_14 : decode mM_takes.2.1 14 = .ok (.getfield 77, 3) := by decide +kernel
theorem dM_takes_17 : decode mM_takes.2.1 17 = .ok (.ifCond .le 16, 3) := by decide +kernel
theorem dM_takes_20 : decode mM_takes.2.1 20 = .ok (.aload_n 0, 1) := by decide +kernel
theorem dM_takes_21 : decode mM_takes.2.1 21 = .ok (.getfield 74, 3) := by decide +kernel
theorem dM_takes_24 : decode mM_takes.2.1 24 = .ok (.aload_n 0, 1) := by decide +kernel
theorem dM_takes_25 : decode mM_takes.2.1 25 = .ok (.getfield 80, 3) := by decide +kernel
theorem dM_takes_28 : decode mM_takes.2.1 28 = .ok (.if_icmp .ge 5, 3) := by decide +kernel
theorem dM_takes_31 : decode mM_takes.2.1 31 = .ok (.iconst 0, 1) := by decide +kernel
theorem dM_takes_32 : decode mM_takes.2.1 32 = .ok (.ireturn, 1) := by decide +kernel
theorem dM_takes_33 : decode mM_takes.2.1 33 = .ok (.aload_n 0, 1) := by decide +kernel
theorem dM_takes_34 : decode mM_takes.2.1 34 = .ok (.aload_n 0, 1) := by decide +kernel
theorem dM_takes_35 : decode mM_takes.2.1 35 = .ok (.getfield 74, 3) := by decide +kernel
theorem dM_takes_38 : decode mM_takes.2.1 38 = .ok (.putfield 80, 3) := by decide +kernel
theorem dM_takes_41 : decode mM_takes.2.1 41 = .ok (.aload_n 0, 1) := by decide +kernel
theorem dM_takes_42 : decode mM_takes.2.1 42 = .ok (.dup, 1) := by decide +kernel
theorem dM_takes_43 : decode mM_takes.2.1 43 = .ok (.getfield 77, 3) := by decide +kernel
theorem dM_takes_46 : decode mM_takes.2.1 46 = .ok (.iconst 1, 1) := by decide +kernel
theorem dM_takes_47 : decode mM_takes.2.1 47 = .ok (.iadd, 1) := by decide +kernel
theorem dM_takes_48 : decode mM_takes.2.1 48 = .ok (.putfield 77, 3) := by decide +kernel
theorem dM_takes_51 : decode mM_takes.2.1 51 = .ok (.aload_n 0, 1) := by decide +kernel
theorem dM_takes_52 : decode mM_takes.2.1 52 = .ok (.iconst 0, 1) := by decide +kernel
theorem dM_takes_53 : decode mM_takes.2.1 53 = .ok (.putfield 74, 3) := by decide +kernel
theorem dM_takes_56 : decode mM_takes.2.1 56 = .ok (.iconst 1, 1) := by decide +kernel
theorem dM_takes_57 : decode mM_takes.2.1 57 = .ok (.ireturn, 1) := by decide +kernel
theorem dM_takes_58 : decode mM_takes.2.1 58 = .ok (.iload_n 1, 1) := by decide +kernel
theorem dM_takes_59 : decode mM_takes.2.1 59 = .ok (.invokestatic 83, 3) := by decide +kernel
theorem dM_takes_62 : decode mM_takes.2.1 62 = .ok (.istore_n 2, 1) := by decide +kernel
theorem dM_takes_63 : decode mM_takes.2.1 63 = .ok (.aload_n 0, 1) := by decide +kernel
theorem dM_takes_64 : decode mM_takes.2.1 64 = .ok (.getfield 77, 3) := by decide +kernel
theorem dM_takes_67 : decode mM_takes.2.1 67 = .ok (.ifCond .ne 8, 3) := by decide +kernel
theorem dM_takes_70 : decode mM_takes.2.1 70 = .ok (.bipush 6, 2) := by decide +kernel
theorem dM_takes_72 : decode mM_takes.2.1 72 = .ok (.goto 7, 3) := by decide +kernel
theorem dM_takes_75 : decode mM_takes.2.1 75 = .ok (.aload_n 0, 1) := by decide +kernel
theorem dM_takes_76 : decode mM_takes.2.1 76 = .ok (.getfield 80, 3) := by decide +kernel
theorem dM_takes_79 : decode mM_takes.2.1 79 = .ok (.istore_n 3, 1) := by decide +kernel
theorem dM_takes_80 : decode mM_takes.2.1 80 = .ok (.iload_n 2, 1) := by decide +kernel
theorem dM_takes_81 : decode mM_takes.2.1 81 = .ok (.bipush (-9), 2) := by decide +kernel
theorem dM_takes_83 : decode mM_takes.2.1 83 = .ok (.if_icmp .eq 35, 3) := by decide +kernel
theorem dM_takes_86 : decode mM_takes.2.1 86 = .ok (.aload_n 0, 1) := by decide +kernel
theorem dM_takes_87 : decode mM_takes.2.1 87 = .ok (.getfield 77, 3) := by decide +kernel
theorem dM_takes_90 : decode mM_takes.2.1 90 = .ok (.bipush 6, 2) := by decide +kernel
theorem dM_takes_92 : decode mM_takes.2.1 92 = .ok (.if_icmp .eq 26, 3) := by decide +kernel
theorem dM_takes_95 : decode mM_takes.2.1 95 = .ok (.aload_n 0, 1) := by decide +kernel
theorem dM_takes_96 : decode mM_takes.2.1 96 = .ok (.getfield 74, 3) := by decide +kernel
theorem dM_takes_99 : decode mM_takes.2.1 99 = .ok (.iload_n 3, 1) := by decide +kernel
theorem dM_takes_100 : decode mM_takes.2.1 100 = .ok (.if_icmp .eq 18, 3) := by decide +kernel
theorem dM_takes_103 : decode mM_takes.2.1 103 = .ok (.iload_n 2, 1) := by decide +kernel
theorem dM_takes_104 : decode mM_takes.2.1 104 = .ok (.bipush 6, 2) := by decide +kernel
theorem dM_takes_106 : decode mM_takes.2.1 106 = .ok (.if_icmp .ne 14, 3) := by decide +kernel
theorem dM_takes_109 : decode mM_takes.2.1 109 = .ok (.aload_n 0, 1) := by decide +kernel
theorem dM_takes_110 : decode mM_takes.2.1 110 = .ok (.getfield 87, 3) := by decide +kernel
theorem dM_takes_113 : decode mM_takes.2.1 113 = .ok (.bipush (-9), 2) := by decide +kernel
theorem dM_takes_115 : decode mM_takes.2.1 115 = .ok (.if_icmp .eq 5, 3) := by decide +kernel
theorem dM_takes_118 : decode mM_takes.2.1 118 = .ok (.iconst 0, 1) := by decide +kernel
theorem dM_takes_119 : decode mM_takes.2.1 119 = .ok (.ireturn, 1) := by decide +kernel
theorem dM_takes_120 : decode mM_takes.2.1 120 = .ok (.bipush 6, 2) := by decide +kernel
theorem dM_takes_122 : decode mM_takes.2.1 122 = .ok (.aload_n 0, 1) := by decide +kernel
theorem dM_takes_123 : decode mM_takes.2.1 123 = .ok (.getfield 77, 3) := by decide +kernel
theorem dM_takes_126 : decode mM_takes.2.1 126 = .ok (.imul, 1) := by decide +kernel
theorem dM_takes_127 : decode mM_takes.2.1 127 = .ok (.aload_n 0, 1) := by decide +kernel
theorem dM_takes_128 : decode mM_takes.2.1 128 = .ok (.getfield 74, 3) := by decide +kernel
theorem dM_takes_131 : decode mM_takes.2.1 131 = .ok (.iadd, 1) := by decide +kernel
theorem dM_takes_132 : decode mM_takes.2.1 132 = .ok (.istore 4, 2) := by decide +kernel
theorem dM_takes_134 : decode mM_takes.2.1 134 = .ok (.aload_n 0, 1) := by decide +kernel
theorem dM_takes_135 : decode mM_takes.2.1 135 = .ok (.getfield 36, 3) := by decide +kernel
theorem dM_takes_138 : decode mM_takes.2.1 138 = .ok (.iload 4, 2) := by decide +kernel
theorem dM_takes_140 : decode mM_takes.2.1 140 = .ok (.iload_n 2, 1) := by decide +kernel
theorem dM_takes_141 : decode mM_takes.2.1 141 = .ok (.iastore, 1) := by decide +kernel
theorem dM_takes_142 : decode mM_takes.2.1 142 = .ok (.aload_n 0, 1) := by decide +kernel
theorem dM_takes_143 : decode mM_takes.2.1 143 = .ok (.iload_n 2, 1) := by decide +kernel
theorem dM_takes_144 : decode mM_takes.2.1 144 = .ok (.bipush 6, 2) := by decide +kernel
theorem dM_takes_146 : decode mM_takes.2.1 146 = .ok (.if_icmp .ne 8, 3) := by decide +kernel
theorem dM_takes_149 : decode mM_takes.2.1 149 = .ok (.iload 4, 2) := by decide +kernel
theorem dM_takes_151 : decode mM_takes.2.1 151 = .ok (.goto 7, 3) := by decide +kernel
theorem dM_takes_154 : decode mM_takes.2.1 154 = .ok (.aload_n 0, 1) := by decide +kernel
theorem dM_takes_155 : decode mM_takes.2.1 155 = .ok (.getfield 87, 3) := by decide +kernel
theorem dM_takes_158 : decode mM_takes.2.1 158 = .ok (.putfield 87, 3) := by decide +kernel
theorem dM_takes_161 : decode mM_takes.2.1 161 = .ok (.aload_n 0, 1) := by decide +kernel
theorem dM_takes_162 : decode mM_takes.2.1 162 = .ok (.dup, 1) := by decide +kernel
theorem dM_takes_163 : decode mM_takes.2.1 163 = .ok (.getfield 74, 3) := by decide +kernel
theorem dM_takes_166 : decode mM_takes.2.1 166 = .ok (.iconst 1, 1) := by decide +kernel
theorem dM_takes_167 : decode mM_takes.2.1 167 = .ok (.iadd, 1) := by decide +kernel
theorem dM_takes_168 : decode mM_takes.2.1 168 = .ok (.putfield 74, 3) := by decide +kernel
theorem dM_takes_171 : decode mM_takes.2.1 171 = .ok (.iconst 1, 1) := by decide +kernel
theorem dM_takes_172 : decode mM_takes.2.1 172 = .ok (.ireturn, 1) := by decide +kernel
theorem dM_floor_0 : decode mM_floor.2.1 0 = .ok (.aload_n 0, 1) := by decide +kernel
theorem dM_floor_1 : decode mM_floor.2.1 1 = .ok (.iconst 0, 1) := by decide +kernel
theorem dM_floor_2 : decode mM_floor.2.1 2 = .ok (.putfield 77, 3) := by decide +kernel
theorem dM_floor_5 : decode mM_floor.2.1 5 = .ok (.aload_n 0, 1) := by decide +kernel
theorem dM_floor_6 : decode mM_floor.2.1 6 = .ok (.iconst 0, 1) := by decide +kernel
theorem dM_floor_7 : decode mM_floor.2.1 7 = .ok (.putfield 80, 3) := by decide +kernel
theorem dM_floor_10 : decode mM_floor.2.1 10 = .ok (.aload_n 0, 1) := by decide +kernel
theorem dM_floor_11 : decode mM_floor.2.1 11 = .ok (.iconst 0, 1) := by decide +kernel
theorem dM_floor_12 : decode mM_floor.2.1 12 = .ok (.putfield 74, 3) := by decide +kernel
theorem dM_floor_15 : decode mM_floor.2.1 15 = .ok (.aload_n 0, 1) := by decide +kernel
theorem dM_floor_16 : decode mM_floor.2.1 16 = .ok (.bipush (-9), 2) := by decide +kernel
theorem dM_floor_18 : decode mM_floor.2.1 18 = .ok (.putfield 87, 3) := by decide +kernel
theorem dM_floor_21 : decode mM_floor.2.1 21 = .ok (.iconst 0, 1) := by decide +kernel
theorem dM_floor_22 : decode mM_floor.2.1 22 = .ok (.istore_n 1, 1) := by decide +kernel
theorem dM_floor_23 : decode mM_floor.2.1 23 = .ok (.iload_n 1, 1) := by decide +kernel
theorem dM_floor_24 : decode mM_floor.2.1 24 = .ok (.aload_n 0, 1) := by decide +kernel
theorem dM_floor_25 : decode mM_floor.2.1 25 = .ok (.getfield 71, 3) := by decide +kernel
theorem dM_floor_28 : decode mM_floor.2.1 28 = .ok (.if_icmp .ge 38, 3) := by decide +kernel
theorem dM_floor_31 : decode mM_floor.2.1 31 = .ok (.aload_n 0, 1) := by decide +kernel
theorem dM_floor_32 : decode mM_floor.2.1 32 = .ok (.getfield 33, 3) := by decide +kernel
theorem dM_floor_35 : decode mM_floor.2.1 35 = .ok (.iload_n 1, 1) := by decide +kernel
theorem dM_floor_36 : decode mM_floor.2.1 36 = .ok (.iaload, 1) := by decide +kernel
theorem dM_floor_37 : decode mM_floor.2.1 37 = .ok (.bipush 32, 2) := by decide +kernel
theorem dM_floor_39 : decode mM_floor.2.1 39 = .ok (.if_icmp .eq 21, 3) := by decide +kernel
theorem dM_floor_42 : decode mM_floor.2.1 42 = .ok (.aload_n 0, 1) := by decide +kernel
theorem dM_floor_43 : decode mM_floor.2.1 43 = .ok (.aload_n 0, 1) := by decide +kernel
theorem dM_floor_44 : decode mM_floor.2.1 44 = .ok (.getfield 33, 3) := by decide +kernel
theorem dM_floor_47 : decode mM_floor.2.1 47 = .ok (.iload_n 1, 1) := by decide +kernel
theorem dM_floor_48 : decode mM_floor.2.1 48 = .ok (.iaload, 1) := by decide +kernel
theorem dM_floor_49 : decode mM_floor.2.1 49 = .ok (.invokevirtual 90, 3) := by decide +kernel
theorem dM_floor_52 : decode mM_floor.2.1 52 = .ok (.ifCond .ne 8, 3) := by decide +kernel
theorem dM_floor_55 : decode mM_floor.2.1 55 = .ok (.bipush (-10), 2) := by decide +kernel
theorem dM_floor_57 : decode mM_floor.2.1 57 = .ok (.iload_n 1, 1) := by decide +kernel
theorem dM_floor_58 : decode mM_floor.2.1 58 = .ok (.isub, 1) := by decide +kernel
theorem dM_floor_59 : decode mM_floor.2.1 59 = .ok (.ireturn, 1) := by decide +kernel
theorem dM_floor_60 : decode mM_floor.2.1 60 = .ok (.iinc 1 1, 3) := by decide +kernel
theorem dM_floor_63 : decode mM_floor.2.1 63 = .ok (.goto (-40), 3) := by decide +kernel
theorem dM_floor_66 : decode mM_floor.2.1 66 = .ok (.aload_n 0, 1) := by decide +kernel
theorem dM_floor_67 : decode mM_floor.2.1 67 = .ok (.getfield 74, 3) := by decide +kernel
theorem dM_floor_70 : decode mM_floor.2.1 70 = .ok (.ifCond .gt 19, 3) := by decide +kernel
theorem dM_floor_73 : decode mM_floor.2.1 73 = .ok (.aload_n 0, 1) := by decide +kernel
theorem dM_floor_74 : decode mM_floor.2.1 74 = .ok (.getfield 77, 3) := by decide +kernel
theorem dM_floor_77 : decode mM_floor.2.1 77 = .ok (.ifCond .eq 12, 3) := by decide +kernel
theorem dM_floor_80 : decode mM_floor.2.1 80 = .ok (.aload_n 0, 1) := by decide +kernel
theorem dM_floor_81 : decode mM_floor.2.1 81 = .ok (.getfield 87, 3) := by decide +kernel
theorem dM_floor_84 : decode mM_floor.2.1 84 = .ok (.bipush (-9), 2) := by decide +kernel
theorem dM_floor_86 : decode mM_floor.2.1 86 = .ok (.if_icmp .ne 11, 3) := by decide +kernel
theorem dM_floor_89 : decode mM_floor.2.1 89 = .ok (.bipush (-10), 2) := by decide +kernel
theorem dM_floor_91 : decode mM_floor.2.1 91 = .ok (.aload_n 0, 1) := by decide +kernel
theorem dM_floor_92 : decode mM_floor.2.1 92 = .ok (.getfield 71, 3) := by decide +kernel
theorem dM_floor_95 : decode mM_floor.2.1 95 = .ok (.isub, 1) := by decide +kernel
theorem dM_floor_96 : decode mM_floor.2.1 96 = .ok (.ireturn, 1) := by decide +kernel
theorem dM_floor_97 : decode mM_floor.2.1 97 = .ok (.aload_n 0, 1) := by decide +kernel
theorem dM_floor_98 : decode mM_floor.2.1 98 = .ok (.aload_n 0, 1) := by decide +kernel
theorem dM_floor_99 : decode mM_floor.2.1 99 = .ok (.getfield 80, 3) := by decide +kernel
theorem dM_floor_102 : decode mM_floor.2.1 102 = .ok (.putfield 7, 3) := by decide +kernel
theorem dM_floor_105 : decode mM_floor.2.1 105 = .ok (.aload_n 0, 1) := by decide +kernel
theorem dM_floor_106 : decode mM_floor.2.1 106 = .ok (.aload_n 0, 1) := by decide +kernel
theorem dM_floor_107 : decode mM_floor.2.1 107 = .ok (.getfield 77, 3) := by decide +kernel
theorem dM_floor_110 : decode mM_floor.2.1 110 = .ok (.putfield 13, 3) := by decide +kernel
theorem dM_floor_113 : decode mM_floor.2.1 113 = .ok (.aload_n 0, 1) := by decide +kernel
theorem dM_floor_114 : decode mM_floor.2.1 114 = .ok (.aload_n 0, 1) := by decide +kernel
theorem dM_floor_115 : decode mM_floor.2.1 115 = .ok (.getfield 87, 3) := by decide +kernel
theorem dM_floor_118 : decode mM_floor.2.1 118 = .ok (.bipush 6, 2) := by decide +kernel
theorem dM_floor_120 : decode mM_floor.2.1 120 = .ok (.idiv, 1) := by decide +kernel
theorem dM_floor_121 : decode mM_floor.2.1 121 = .ok (.aload_n 0, 1) := by decide +kernel
theorem dM_floor_122 : decode mM_floor.2.1 122 = .ok (.getfield 7, 3) := by decide +kernel
theorem dM_floor_125 : decode mM_floor.2.1 125 = .ok (.imul, 1) := by decide +kernel
theorem dM_floor_126 : decode mM_floor.2.1 126 = .ok (.aload_n 0, 1) := by decide +kernel
theorem dM_floor_127 : decode mM_floor.2.1 127 = .ok (.getfield 87, 3) := by decide +kernel
theorem dM_floor_130 : decode mM_floor.2.1 130 = .ok (.bipush 6, 2) := by decide +kernel
theorem dM_floor_132 : decode mM_floor.2.1 132 = .ok (.irem, 1) := by decide +kernel
theorem dM_floor_133 : decode mM_floor.2.1 133 = .ok (.iadd, 1) := by decide +kernel
theorem dM_floor_134 : decode mM_floor.2.1 134 = .ok (.putfield 61, 3) := by decide +kernel
theorem dM_floor_137 : decode mM_floor.2.1 137 = .ok (.iconst 0, 1) := by decide +kernel
theorem dM_floor_138 : decode mM_floor.2.1 138 = .ok (.istore_n 1, 1) := by decide +kernel
theorem dM_floor_139 : decode mM_floor.2.1 139 = .ok (.iload_n 1, 1) := by decide +kernel
theorem dM_floor_140 : decode mM_floor.2.1 140 = .ok (.aload_n 0, 1) := by decide +kernel
theorem dM_floor_141 : decode mM_floor.2.1 141 = .ok (.invokevirtual 57, 3) := by decide +kernel
theorem dM_floor_144 : decode mM_floor.2.1 144 = .ok (.if_icmp .ge 36, 3) := by decide +kernel
theorem dM_floor_147 : decode mM_floor.2.1 147 = .ok (.aload_n 0, 1) := by decide +kernel
theorem dM_floor_148 : decode mM_floor.2.1 148 = .ok (.getfield 16, 3) := by decide +kernel
theorem dM_floor_151 : decode mM_floor.2.1 151 = .ok (.iload_n 1, 1) := by decide +kernel
theorem dM_floor_152 : decode mM_floor.2.1 152 = .ok (.aload_n 0, 1) := by decide +kernel
theorem dM_floor_153 : decode mM_floor.2.1 153 = .ok (.getfield 36, 3) := by decide +kernel
theorem dM_floor_156 : decode mM_floor.2.1 156 = .ok (.bipush 6, 2) := by decide +kernel
theorem dM_floor_158 : decode mM_floor.2.1 158 = .ok (.iload_n 1, 1) := by decide +kernel
theorem dM_floor_159 : decode mM_floor.2.1 159 = .ok (.aload_n 0, 1) := by decide +kernel
theorem dM_floor_160 : decode mM_floor.2.1 160 = .ok (.getfield 7, 3) := by decide +kernel
theorem dM_floor_163 : decode mM_floor.2.1 163 = .ok (.idiv, 1) := by decide +kernel
theorem dM_floor_164 : decode mM_floor.2.1 164 = .ok (.imul, 1) := by decide +kernel
theorem dM_floor_165 : decode mM_floor.2.1 165 = .ok (.iload_n 1, 1) := by decide +kernel
theorem dM_floor_166 : decode mM_floor.2.1 166 = .ok (.aload_n 0, 1) := by decide +kernel
theorem dM_floor_167 : decode mM_floor.2.1 167 = .ok (.getfield 7, 3) := by decide +kernel
theorem dM_floor_170 : decode mM_floor.2.1 170 = .ok (.irem, 1) := by decide +kernel
theorem dM_floor_171 : decode mM_floor.2.1 171 = .ok (.iadd, 1) := by decide +kernel
theorem dM_floor_172 : decode mM_floor.2.1 172 = .ok (.iaload, 1) := by decide +kernel
theorem dM_floor_173 : decode mM_floor.2.1 173 = .ok (.iastore, 1) := by decide +kernel
theorem dM_floor_174 : decode mM_floor.2.1 174 = .ok (.iinc 1 1, 3) := by decide +kernel
theorem dM_floor_177 : decode mM_floor.2.1 177 = .ok (.goto (-38), 3) := by decide +kernel
theorem dM_floor_180 : decode mM_floor.2.1 180 = .ok (.aload_n 0, 1) := by decide +kernel
theorem dM_floor_181 : decode mM_floor.2.1 181 = .ok (.invokevirtual 54, 3) := by decide +kernel
theorem dM_floor_184 : decode mM_floor.2.1 184 = .ok (.aload_n 0, 1) := by decide +kernel
theorem dM_floor_185 : decode mM_floor.2.1 185 = .ok (.iconst 0, 1) := by decide +kernel
theorem dM_floor_186 : decode mM_floor.2.1 186 = .ok (.putfield 71, 3) := by decide +kernel
theorem dM_floor_189 : decode mM_floor.2.1 189 = .ok (.aload_n 0, 1) := by decide +kernel
theorem dM_floor_190 : decode mM_floor.2.1 190 = .ok (.invokevirtual 57, 3) := by decide +kernel
theorem dM_floor_193 : decode mM_floor.2.1 193 = .ok (.ireturn, 1) := by decide +kernel
theorem dM_isCell_0 : decode mM_isCell.2.1 0 = .ok (.iload_n 1, 1) := by decide +kernel
theorem dM_isCell_1 : decode mM_isCell.2.1 1 = .ok (.iconst 0, 1) := by decide +kernel
theorem dM_isCell_2 : decode mM_isCell.2.1 2 = .ok (.aload_n 0, 1) := by decide +kernel
theorem dM_isCell_3 : decode mM_isCell.2.1 3 = .ok (.invokevirtual 57, 3) := by decide +kernel
theorem dM_isCell_6 : decode mM_isCell.2.1 6 = .ok (.iconst 1, 1) := by decide +kernel
theorem dM_isCell_7 : decode mM_isCell.2.1 7 = .ok (.isub, 1) := by decide +kernel
theorem dM_isCell_8 : decode mM_isCell.2.1 8 = .ok (.invokestatic 67, 3) := by decide +kernel
theorem dM_isCell_11 : decode mM_isCell.2.1 11 = .ok (.ireturn, 1) := by decide +kernel
theorem dM_isFree_0 : decode mM_isFree.2.1 0 = .ok (.aload_n 0, 1) := by decide +kernel
theorem dM_isFree_1 : decode mM_isFree.2.1 1 = .ok (.getfield 16, 3) := by decide +kernel
theorem dM_isFree_4 : decode mM_isFree.2.1 4 = .ok (.iload_n 1, 1) := by decide +kernel
theorem dM_isFree_5 : decode mM_isFree.2.1 5 = .ok (.iaload, 1) := by decide +kernel
theorem dM_isFree_6 : decode mM_isFree.2.1 6 = .ok (.ifCond .eq 24, 3) := by decide +kernel
theorem dM_isFree_9 : decode mM_isFree.2.1 9 = .ok (.aload_n 0, 1) := by decide +kernel
theorem dM_isFree_10 : decode mM_isFree.2.1 10 = .ok (.getfield 16, 3) := by decide +kernel
theorem dM_isFree_13 : decode mM_isFree.2.1 13 = .ok (.iload_n 1, 1) := by decide +kernel
theorem dM_isFree_14 : decode mM_isFree.2.1 14 = .ok (.iaload, 1) := by decide +kernel
theorem dM_isFree_15 : decode mM_isFree.2.1 15 = .ok (.bipush 6, 2) := by decide +kernel
theorem dM_isFree_17 : decode mM_isFree.2.1 17 = .ok (.if_icmp .eq 13, 3) := by decide +kernel
theorem dM_isFree_20 : decode mM_isFree.2.1 20 = .ok (.aload_n 0, 1) := by decide +kernel
theorem dM_isFree_21 : decode mM_isFree.2.1 21 = .ok (.getfield 16, 3) := by decide +kernel
theorem dM_isFree_24 : decode mM_isFree.2.1 24 = .ok (.iload_n 1, 1) := by decide +kernel
theorem dM_isFree_25 : decode mM_isFree.2.1 25 = .ok (.iaload, 1) := by decide +kernel
theorem dM_isFree_26 : decode mM_isFree.2.1 26 = .ok (.iconst 4, 1) := by decide +kernel
theorem dM_isFree_27 : decode mM_isFree.2.1 27 = .ok (.if_icmp .ne 7, 3) := by decide +kernel
theorem dM_isFree_30 : decode mM_isFree.2.1 30 = .ok (.iconst 1, 1) := by decide +kernel
theorem dM_isFree_31 : decode mM_isFree.2.1 31 = .ok (.goto 4, 3) := by decide +kernel
theorem dM_isFree_34 : decode mM_isFree.2.1 34 = .ok (.iconst 0, 1) := by decide +kernel
theorem dM_isFree_35 : decode mM_isFree.2.1 35 = .ok (.ireturn, 1) := by decide +kernel
theorem dM_isDoor_0 : decode mM_isDoor.2.1 0 = .ok (.aload_n 0, 1) := by decide +kernel
theorem dM_isDoor_1 : decode mM_isDoor.2.1 1 = .ok (.getfield 16, 3) := by decide +kernel
theorem dM_isDoor_4 : decode mM_isDoor.2.1 4 = .ok (.iload_n 1, 1) := by decide +kernel
theorem dM_isDoor_5 : decode mM_isDoor.2.1 5 = .ok (.iaload, 1) := by decide +kernel
theorem dM_isDoor_6 : decode mM_isDoor.2.1 6 = .ok (.iconst 4, 1) := by decide +kernel
theorem dM_isDoor_7 : decode mM_isDoor.2.1 7 = .ok (.if_icmp .eq 13, 3) := by decide +kernel
theorem dM_isDoor_10 : decode mM_isDoor.2.1 10 = .ok (.aload_n 0, 1) := by decide +kernel
theorem dM_isDoor_11 : decode mM_isDoor.2.1 11 = .ok (.getfield 16, 3) := by decide +kernel
theorem dM_isDoor_14 : decode mM_isDoor.2.1 14 = .ok (.iload_n 1, 1) := by decide +kernel
theorem dM_isDoor_15 : decode mM_isDoor.2.1 15 = .ok (.iaload, 1) := by decide +kernel
theorem dM_isDoor_16 : decode mM_isDoor.2.1 16 = .ok (.iconst 5, 1) := by decide +kernel
theorem dM_isDoor_17 : decode mM_isDoor.2.1 17 = .ok (.if_icmp .ne 7, 3) := by decide +kernel
theorem dM_isDoor_20 : decode mM_isDoor.2.1 20 = .ok (.iconst 1, 1) := by decide +kernel
theorem dM_isDoor_21 : decode mM_isDoor.2.1 21 = .ok (.goto 4, 3) := by decide +kernel
theorem dM_isDoor_24 : decode mM_isDoor.2.1 24 = .ok (.iconst 0, 1) := by decide +kernel
theorem dM_isDoor_25 : decode mM_isDoor.2.1 25 = .ok (.ireturn, 1) := by decide +kernel
theorem dM_beside_0 : decode mM_beside.2.1 0 = .ok (.iload_n 1, 1) := by decide +kernel
theorem dM_beside_1 : decode mM_beside.2.1 1 = .ok (.aload_n 0, 1) := by decide +kernel
theorem dM_beside_2 : decode mM_beside.2.1 2 = .ok (.getfield 7, 3) := by decide +kernel
theorem dM_beside_5 : decode mM_beside.2.1 5 = .ok (.irem, 1) := by decide +kernel
theorem dM_beside_6 : decode mM_beside.2.1 6 = .ok (.iload_n 2, 1) := by decide +kernel
theorem dM_beside_7 : decode mM_beside.2.1 7 = .ok (.iconst 1, 1) := by decide +kernel
theorem dM_beside_8 : decode mM_beside.2.1 8 = .ok (.if_icmp .ne 7, 3) := by decide +kernel
theorem dM_beside_11 : decode mM_beside.2.1 11 = .ok (.iconst 1, 1) := by decide +kernel
theorem dM_beside_12 : decode mM_beside.2.1 12 = .ok (.goto 13, 3) := by decide +kernel
theorem dM_beside_15 : decode mM_beside.2.1 15 = .ok (.iload_n 2, 1) := by decide +kernel
theorem dM_beside_16 : decode mM_beside.2.1 16 = .ok (.iconst 3, 1) := by decide +kernel
theorem dM_beside_17 : decode mM_beside.2.1 17 = .ok (.if_icmp .ne 7, 3) := by decide +kernel
theorem dM_beside_20 : decode mM_beside.2.1 20 = .ok (.iconst (-1), 1) := by decide +kernel
theorem dM_beside_21 : decode mM_beside.2.1 21 = .ok (.goto 4, 3) := by decide +kernel
theorem dM_beside_24 : decode mM_beside.2.1 24 = .ok (.iconst 0, 1) := by decide +kernel
theorem dM_beside_25 : decode mM_beside.2.1 25 = .ok (.iadd, 1) := by decide +kernel
theorem dM_beside_26 : decode mM_beside.2.1 26 = .ok (.istore_n 3, 1) := by decide +kernel
theorem dM_beside_27 : decode mM_beside.2.1 27 = .ok (.iload_n 1, 1) := by decide +kernel
theorem dM_beside_28 : decode mM_beside.2.1 28 = .ok (.aload_n 0, 1) := by decide +kernel
theorem dM_beside_29 : decode mM_beside.2.1 29 = .ok (.getfield 7, 3) := by decide +kernel
theorem dM_beside_32 : decode mM_beside.2.1 32 = .ok (.idiv, 1) := by decide +kernel
theorem dM_beside_33 : decode mM_beside.2.1 33 = .ok (.iload_n 2, 1) := by decide +kernel
theorem dM_beside_34 : decode mM_beside.2.1 34 = .ok (.iconst 2, 1) := by decide +kernel
theorem dM_beside_35 : decode mM_beside.2.1 35 = .ok (.if_icmp .ne 7, 3) := by decide +kernel
theorem dM_beside_38 : decode mM_beside.2.1 38 = .ok (.iconst 1, 1) := by decide +kernel
theorem dM_beside_39 : decode mM_beside.2.1 39 = .ok (.goto 12, 3) := by decide +kernel
theorem dM_beside_42 : decode mM_beside.2.1 42 = .ok (.iload_n 2, 1) := by decide +kernel
theorem dM_beside_43 : decode mM_beside.2.1 43 = .ok (.ifCond .ne 7, 3) := by decide +kernel
theorem dM_beside_46 : decode mM_beside.2.1 46 = .ok (.iconst (-1), 1) := by decide +kernel
theorem dM_beside_47 : decode mM_beside.2.1 47 = .ok (.goto 4, 3) := by decide +kernel
theorem dM_beside_50 : decode mM_beside.2.1 50 = .ok (.iconst 0, 1) := by decide +kernel
theorem dM_beside_51 : decode mM_beside.2.1 51 = .ok (.iadd, 1) := by decide +kernel
theorem dM_beside_52 : decode mM_beside.2.1 52 = .ok (.istore 4, 2) := by decide +kernel
theorem dM_beside_54 : decode mM_beside.2.1 54 = .ok (.iload_n 3, 1) := by decide +kernel
theorem dM_beside_55 : decode mM_beside.2.1 55 = .ok (.iconst 0, 1) := by decide +kernel
theorem dM_beside_56 : decode mM_beside.2.1 56 = .ok (.aload_n 0, 1) := by decide +kernel
theorem dM_beside_57 : decode mM_beside.2.1 57 = .ok (.getfield 7, 3) := by decide +kernel
theorem dM_beside_60 : decode mM_beside.2.1 60 = .ok (.iconst 1, 1) := by decide +kernel
theorem dM_beside_61 : decode mM_beside.2.1 61 = .ok (.isub, 1) := by decide +kernel
theorem dM_beside_62 : decode mM_beside.2.1 62 = .ok (.invokestatic 67, 3) := by decide +kernel
theorem dM_beside_65 : decode mM_beside.2.1 65 = .ok (.ifCond .eq 30, 3) := by decide +kernel
theorem dM_beside_68 : decode mM_beside.2.1 68 = .ok (.iload 4, 2) := by decide +kernel
theorem dM_beside_70 : decode mM_beside.2.1 70 = .ok (.iconst 0, 1) := by decide +kernel
theorem dM_beside_71 : decode mM_beside.2.1 71 = .ok (.aload_n 0, 1) := by decide +kernel
theorem dM_beside_72 : decode mM_beside.2.1 72 = .ok (.getfield 13, 3) := by decide +kernel
theorem dM_beside_75 : decode mM_beside.2.1 75 = .ok (.iconst 1, 1) := by decide +kernel
theorem dM_beside_76 : decode mM_beside.2.1 76 = .ok (.isub, 1) := by decide +kernel
theorem dM_beside_77 : decode mM_beside.2.1 77 = .ok (.invokestatic 67, 3) := by decide +kernel
theorem dM_beside_80 : decode mM_beside.2.1 80 = .ok (.ifCond .eq 15, 3) := by decide +kernel
theorem dM_beside_83 : decode mM_beside.2.1 83 = .ok (.aload_n 0, 1) := by decide +kernel
theorem dM_beside_84 : decode mM_beside.2.1 84 = .ok (.getfield 7, 3) := by decide +kernel
theorem dM_beside_87 : decode mM_beside.2.1 87 = .ok (.iload 4, 2) := by decide +kernel
theorem dM_beside_89 : decode mM_beside.2.1 89 = .ok (.imul, 1) := by decide +kernel
theorem dM_beside_90 : decode mM_beside.2.1 90 = .ok (.iload_n 3, 1) := by decide +kernel
theorem dM_beside_91 : decode mM_beside.2.1 91 = .ok (.iadd, 1) := by decide +kernel
theorem dM_beside_92 : decode mM_beside.2.1 92 = .ok (.goto 5, 3) := by decide +kernel
theorem dM_beside_95 : decode mM_beside.2.1 95 = .ok (.bipush (-9), 2) := by decide +kernel
theorem dM_beside_97 : decode mM_beside.2.1 97 = .ok (.ireturn, 1) := by decide +kernel
theorem dM_cell_0 : decode mM_cell.2.1 0 = .ok (.aload_n 0, 1) := by decide +kernel
theorem dM_cell_1 : decode mM_cell.2.1 1 = .ok (.iload_n 1, 1) := by decide +kernel
theorem dM_cell_2 : decode mM_cell.2.1 2 = .ok (.invokevirtual 94, 3) := by decide +kernel
theorem dM_cell_5 : decode mM_cell.2.1 5 = .ok (.ifCond .eq 12, 3) := by decide +kernel
theorem dM_cell_8 : decode mM_cell.2.1 8 = .ok (.aload_n 0, 1) := by decide +kernel
theorem dM_cell_9 : decode mM_cell.2.1 9 = .ok (.getfield 16, 3) := by decide +kernel
theorem dM_cell_12 : decode mM_cell.2.1 12 = .ok (.iload_n 1, 1) := by decide +kernel
theorem dM_cell_13 : decode mM_cell.2.1 13 = .ok (.iaload, 1) := by decide +kernel
theorem dM_cell_14 : decode mM_cell.2.1 14 = .ok (.goto 4, 3) := by decide +kernel
theorem dM_cell_17 : decode mM_cell.2.1 17 = .ok (.iconst (-1), 1) := by decide +kernel
theorem dM_cell_18 : decode mM_cell.2.1 18 = .ok (.ireturn, 1) := by decide +kernel
theorem dM_remembers_0 : decode mM_remembers.2.1 0 = .ok (.aload_n 0, 1) := by decide +kernel
theorem dM_remembers_1 : decode mM_remembers.2.1 1 = .ok (.getfield 64, 3) := by decide +kernel
theorem dM_remembers_4 : decode mM_remembers.2.1 4 = .ok (.bipush 6, 2) := by decide +kernel
theorem dM_remembers_6 : decode mM_remembers.2.1 6 = .ok (.if_icmp .ne 43, 3) := by decide +kernel
theorem dM_remembers_9 : decode mM_remembers.2.1 9 = .ok (.iconst 0, 1) := by decide +kernel
theorem dM_remembers_10 : decode mM_remembers.2.1 10 = .ok (.istore_n 1, 1) := by decide +kernel
theorem dM_remembers_11 : decode mM_remembers.2.1 11 = .ok (.iload_n 1, 1) := by decide +kernel
theorem dM_remembers_12 : decode mM_remembers.2.1 12 = .ok (.sipush 570, 3) := by decide +kernel
theorem dM_remembers_15 : decode mM_remembers.2.1 15 = .ok (.if_icmp .ge 24, 3) := by decide +kernel
theorem dM_remembers_18 : decode mM_remembers.2.1 18 = .ok (.aload_n 0, 1) := by decide +kernel
theorem dM_remembers_19 : decode mM_remembers.2.1 19 = .ok (.getfield 20, 3) := by decide +kernel
theorem dM_remembers_22 : decode mM_remembers.2.1 22 = .ok (.iload_n 1, 1) := by decide +kernel
theorem dM_remembers_23 : decode mM_remembers.2.1 23 = .ok (.aload_n 0, 1) := by decide +kernel
theorem dM_remembers_24 : decode mM_remembers.2.1 24 = .ok (.getfield 20, 3) := by decide +kernel
theorem dM_remembers_27 : decode mM_remembers.2.1 27 = .ok (.iload_n 1, 1) := by decide +kernel
theorem dM_remembers_28 : decode mM_remembers.2.1 28 = .ok (.bipush 114, 2) := by decide +kernel
theorem dM_remembers_30 : decode mM_remembers.2.1 30 = .ok (.iadd, 1) := by decide +kernel
theorem dM_remembers_31 : decode mM_remembers.2.1 31 = .ok (.iaload, 1) := by decide +kernel
theorem dM_remembers_32 : decode mM_remembers.2.1 32 = .ok (.iastore, 1) := by decide +kernel
theorem dM_remembers_33 : decode mM_remembers.2.1 33 = .ok (.iinc 1 1, 3) := by decide +kernel
theorem dM_remembers_36 : decode mM_remembers.2.1 36 = .ok (.goto (-25), 3) := by decide +kernel
theorem dM_remembers_39 : decode mM_remembers.2.1 39 = .ok (.aload_n 0, 1) := by decide +kernel
theorem dM_remembers_40 : decode mM_remembers.2.1 40 = .ok (.dup, 1) := by decide +kernel
theorem dM_remembers_41 : decode mM_remembers.2.1 41 = .ok (.getfield 64, 3) := by decide +kernel
theorem dM_remembers_44 : decode mM_remembers.2.1 44 = .ok (.iconst 1, 1) := by decide +kernel
theorem dM_remembers_45 : decode mM_remembers.2.1 45 = .ok (.isub, 1) := by decide +kernel
theorem dM_remembers_46 : decode mM_remembers.2.1 46 = .ok (.putfield 64, 3) := by decide +kernel
theorem dM_remembers_49 : decode mM_remembers.2.1 49 = .ok (.iconst 0, 1) := by decide +kernel
theorem dM_remembers_50 : decode mM_remembers.2.1 50 = .ok (.istore_n 1, 1) := by decide +kernel
theorem dM_remembers_51 : decode mM_remembers.2.1 51 = .ok (.iload_n 1, 1) := by decide +kernel
theorem dM_remembers_52 : decode mM_remembers.2.1 52 = .ok (.bipush 114, 2) := by decide +kernel
theorem dM_remembers_54 : decode mM_remembers.2.1 54 = .ok (.if_icmp .ge 29, 3) := by decide +kernel
theorem dM_remembers_57 : decode mM_remembers.2.1 57 = .ok (.aload_n 0, 1) := by decide +kernel
theorem dM_remembers_58 : decode mM_remembers.2.1 58 = .ok (.getfield 20, 3) := by decide +kernel
theorem dM_remembers_61 : decode mM_remembers.2.1 61 = .ok (.bipush 114, 2) := by decide +kernel
theorem dM_remembers_63 : decode mM_remembers.2.1 63 = .ok (.aload_n 0, 1) := by decide +kernel
theorem dM_remembers_64 : decode mM_remembers.2.1 64 = .ok (.getfield 64, 3) := by decide +kernel
theorem dM_remembers_67 : decode mM_remembers.2.1 67 = .ok (.imul, 1) := by decide +kernel
theorem dM_remembers_68 : decode mM_remembers.2.1 68 = .ok (.iload_n 1, 1) := by decide +kernel
theorem dM_remembers_69 : decode mM_remembers.2.1 69 = .ok (.iadd, 1) := by decide +kernel
theorem dM_remembers_70 : decode mM_remembers.2.1 70 = .ok (.aload_n 0, 1) := by decide +kernel
theorem dM_remembers_71 : decode mM_remembers.2.1 71 = .ok (.getfield 16, 3) := by decide +kernel
theorem dM_remembers_74 : decode mM_remembers.2.1 74 = .ok (.iload_n 1, 1) := by decide +kernel
theorem dM_remembers_75 : decode mM_remembers.2.1 75 = .ok (.iaload, 1) := by decide +kernel
theorem dM_remembers_76 : decode mM_remembers.2.1 76 = .ok (.iastore, 1) := by decide +kernel
theorem dM_remembers_77 : decode mM_remembers.2.1 77 = .ok (.iinc 1 1, 3) := by decide +kernel
theorem dM_remembers_80 : decode mM_remembers.2.1 80 = .ok (.goto (-29), 3) := by decide +kernel
theorem dM_remembers_83 : decode mM_remembers.2.1 83 = .ok (.aload_n 0, 1) := by decide +kernel
theorem dM_remembers_84 : decode mM_remembers.2.1 84 = .ok (.dup, 1) := by decide +kernel
theorem dM_remembers_85 : decode mM_remembers.2.1 85 = .ok (.getfield 64, 3) := by decide +kernel
theorem dM_remembers_88 : decode mM_remembers.2.1 88 = .ok (.iconst 1, 1) := by decide +kernel
theorem dM_remembers_89 : decode mM_remembers.2.1 89 = .ok (.iadd, 1) := by decide +kernel
theorem dM_remembers_90 : decode mM_remembers.2.1 90 = .ok (.putfield 64, 3) := by decide +kernel
theorem dM_remembers_93 : decode mM_remembers.2.1 93 = .ok (.return_, 1) := by decide +kernel
theorem dM_powers_0 : decode mM_powers.2.1 0 = .ok (.iload_n 1, 1) := by decide +kernel
theorem dM_powers_1 : decode mM_powers.2.1 1 = .ok (.iconst 1, 1) := by decide +kernel
theorem dM_powers_2 : decode mM_powers.2.1 2 = .ok (.bipush 99, 2) := by decide +kernel
theorem dM_powers_4 : decode mM_powers.2.1 4 = .ok (.invokestatic 67, 3) := by decide +kernel
theorem dM_powers_7 : decode mM_powers.2.1 7 = .ok (.ifCond .eq 13, 3) := by decide +kernel
theorem dM_powers_10 : decode mM_powers.2.1 10 = .ok (.iload_n 2, 1) := by decide +kernel
theorem dM_powers_11 : decode mM_powers.2.1 11 = .ok (.iconst 1, 1) := by decide +kernel
theorem dM_powers_12 : decode mM_powers.2.1 12 = .ok (.bipush 20, 2) := by decide +kernel
theorem dM_powers_14 : decode mM_powers.2.1 14 = .ok (.invokestatic 67, 3) := by decide +kernel
theorem dM_powers_17 : decode mM_powers.2.1 17 = .ok (.ifCond .ne 5, 3) := by decide +kernel
theorem dM_powers_20 : decode mM_powers.2.1 20 = .ok (.iconst (-1), 1) := by decide +kernel
theorem dM_powers_21 : decode mM_powers.2.1 21 = .ok (.ireturn, 1) := by decide +kernel
theorem dM_powers_22 : decode mM_powers.2.1 22 = .ok (.aload_n 0, 1) := by decide +kernel
theorem dM_powers_23 : decode mM_powers.2.1 23 = .ok (.getfield 16, 3) := by decide +kernel
theorem dM_powers_26 : decode mM_powers.2.1 26 = .ok (.bipush 112, 2) := by decide +kernel
theorem dM_powers_28 : decode mM_powers.2.1 28 = .ok (.iaload, 1) := by decide +kernel
theorem dM_powers_29 : decode mM_powers.2.1 29 = .ok (.iload_n 1, 1) := by decide +kernel
theorem dM_powers_30 : decode mM_powers.2.1 30 = .ok (.if_icmp .ne 17, 3) := by decide +kernel
theorem dM_powers_33 : decode mM_powers.2.1 33 = .ok (.aload_n 0, 1) := by decide +kernel
theorem dM_powers_34 : decode mM_powers.2.1 34 = .ok (.getfield 16, 3) := by decide +kernel
theorem dM_powers_37 : decode mM_powers.2.1 37 = .ok (.bipush 113, 2) := by decide +kernel
theorem dM_powers_39 : decode mM_powers.2.1 39 = .ok (.iaload, 1) := by decide +kernel
theorem dM_powers_40 : decode mM_powers.2.1 40 = .ok (.iload_n 2, 1) := by decide +kernel
theorem dM_powers_41 : decode mM_powers.2.1 41 = .ok (.if_icmp .ne 6, 3) := by decide +kernel
theorem dM_powers_44 : decode mM_powers.2.1 44 = .ok (.bipush (-2), 2) := by decide +kernel
theorem dM_powers_46 : decode mM_powers.2.1 46 = .ok (.ireturn, 1) := by decide +kernel
theorem dM_powers_47 : decode mM_powers.2.1 47 = .ok (.aload_n 0, 1) := by decide +kernel
theorem dM_powers_48 : decode mM_powers.2.1 48 = .ok (.invokevirtual 97, 3) := by decide +kernel
theorem dM_powers_51 : decode mM_powers.2.1 51 = .ok (.aload_n 0, 1) := by decide +kernel
theorem dM_powers_52 : decode mM_powers.2.1 52 = .ok (.getfield 16, 3) := by decide +kernel
theorem dM_powers_55 : decode mM_powers.2.1 55 = .ok (.bipush 112, 2) := by decide +kernel
theorem dM_powers_57 : decode mM_powers.2.1 57 = .ok (.iload_n 1, 1) := by decide +kernel
theorem dM_powers_58 : decode mM_powers.2.1 58 = .ok (.iastore, 1) := by decide +kernel
theorem dM_powers_59 : decode mM_powers.2.1 59 = .ok (.aload_n 0, 1) := by decide +kernel
theorem dM_powers_60 : decode mM_powers.2.1 60 = .ok (.getfield 16, 3) := by decide +kernel
theorem dM_powers_63 : decode mM_powers.2.1 63 = .ok (.bipush 113, 2) := by decide +kernel
theorem dM_powers_65 : decode mM_powers.2.1 65 = .ok (.iload_n 2, 1) := by decide +kernel
theorem dM_powers_66 : decode mM_powers.2.1 66 = .ok (.iastore, 1) := by decide +kernel
theorem dM_powers_67 : decode mM_powers.2.1 67 = .ok (.aload_n 0, 1) := by decide +kernel
theorem dM_powers_68 : decode mM_powers.2.1 68 = .ok (.getfield 16, 3) := by decide +kernel
theorem dM_powers_71 : decode mM_powers.2.1 71 = .ok (.bipush 110, 2) := by decide +kernel
theorem dM_powers_73 : decode mM_powers.2.1 73 = .ok (.aload_n 0, 1) := by decide +kernel
theorem dM_powers_74 : decode mM_powers.2.1 74 = .ok (.getfield 16, 3) := by decide +kernel
theorem dM_powers_77 : decode mM_powers.2.1 77 = .ok (.bipush 110, 2) := by decide +kernel
theorem dM_powers_79 : decode mM_powers.2.1 79 = .ok (.iaload, 1) := by decide +kernel
theorem dM_powers_80 : decode mM_powers.2.1 80 = .ok (.iload_n 1, 1) := by decide +kernel
theorem dM_powers_81 : decode mM_powers.2.1 81 = .ok (.if_icmp .le 7, 3) := by decide +kernel
theorem dM_powers_84 : decode mM_powers.2.1 84 = .ok (.iload_n 1, 1) := by decide +kernel
theorem dM_powers_85 : decode mM_powers.2.1 85 = .ok (.goto 10, 3) := by decide +kernel
theorem dM_powers_88 : decode mM_powers.2.1 88 = .ok (.aload_n 0, 1) := by decide +kernel
theorem dM_powers_89 : decode mM_powers.2.1 89 = .ok (.getfield 16, 3) := by decide +kernel
theorem dM_powers_92 : decode mM_powers.2.1 92 = .ok (.bipush 110, 2) := by decide +kernel
theorem dM_powers_94 : decode mM_powers.2.1 94 = .ok (.iaload, 1) := by decide +kernel
theorem dM_powers_95 : decode mM_powers.2.1 95 = .ok (.iastore, 1) := by decide +kernel
theorem dM_powers_96 : decode mM_powers.2.1 96 = .ok (.aload_n 0, 1) := by decide +kernel
theorem dM_powers_97 : decode mM_powers.2.1 97 = .ok (.getfield 16, 3) := by decide +kernel
theorem dM_powers_100 : decode mM_powers.2.1 100 = .ok (.bipush 110, 2) := by decide +kernel
theorem dM_powers_102 : decode mM_powers.2.1 102 = .ok (.iaload, 1) := by decide +kernel
theorem dM_powers_103 : decode mM_powers.2.1 103 = .ok (.ireturn, 1) := by decide +kernel
theorem dM_moves_0 : decode mM_moves.2.1 0 = .ok (.aload_n 0, 1) := by decide +kernel
theorem dM_moves_1 : decode mM_moves.2.1 1 = .ok (.iload_n 1, 1) := by decide +kernel
theorem dM_moves_2 : decode mM_moves.2.1 2 = .ok (.invokevirtual 94, 3) := by decide +kernel
theorem dM_moves_5 : decode mM_moves.2.1 5 = .ok (.ifCond .eq 11, 3) := by decide +kernel
theorem dM_moves_8 : decode mM_moves.2.1 8 = .ok (.aload_n 0, 1) := by decide +kernel
theorem dM_moves_9 : decode mM_moves.2.1 9 = .ok (.iload_n 1, 1) := by decide +kernel
theorem dM_moves_10 : decode mM_moves.2.1 10 = .ok (.invokevirtual 100, 3) := by decide +kernel
theorem dM_moves_13 : decode mM_moves.2.1 13 = .ok (.ifCond .ne 5, 3) := by decide +kernel
theorem dM_moves_16 : decode mM_moves.2.1 16 = .ok (.iconst (-1), 1) := by decide +kernel
theorem dM_moves_17 : decode mM_moves.2.1 17 = .ok (.ireturn, 1) := by decide +kernel
theorem dM_moves_18 : decode mM_moves.2.1 18 = .ok (.aload_n 0, 1) := by decide +kernel
theorem dM_moves_19 : decode mM_moves.2.1 19 = .ok (.getfield 16, 3) := by decide +kernel
theorem dM_moves_22 : decode mM_moves.2.1 22 = .ok (.bipush 108, 2) := by decide +kernel
theorem dM_moves_24 : decode mM_moves.2.1 24 = .ok (.iaload, 1) := by decide +kernel
theorem dM_moves_25 : decode mM_moves.2.1 25 = .ok (.iload_n 1, 1) := by decide +kernel
theorem dM_moves_26 : decode mM_moves.2.1 26 = .ok (.if_icmp .ne 6, 3) := by decide +kernel
theorem dM_moves_29 : decode mM_moves.2.1 29 = .ok (.bipush (-2), 2) := by decide +kernel
theorem dM_moves_31 : decode mM_moves.2.1 31 = .ok (.ireturn, 1) := by decide +kernel
theorem dM_moves_32 : decode mM_moves.2.1 32 = .ok (.aload_n 0, 1) := by decide +kernel
theorem dM_moves_33 : decode mM_moves.2.1 33 = .ok (.invokevirtual 97, 3) := by decide +kernel
theorem dM_moves_36 : decode mM_moves.2.1 36 = .ok (.aload_n 0, 1) := by decide +kernel
theorem dM_moves_37 : decode mM_moves.2.1 37 = .ok (.getfield 16, 3) := by decide +kernel
theorem dM_moves_40 : decode mM_moves.2.1 40 = .ok (.iload_n 1, 1) := by decide +kernel
theorem dM_moves_41 : decode mM_moves.2.1 41 = .ok (.aload_n 0, 1) := by decide +kernel
theorem dM_moves_42 : decode mM_moves.2.1 42 = .ok (.getfield 16, 3) := by decide +kernel
theorem dM_moves_45 : decode mM_moves.2.1 45 = .ok (.iload_n 1, 1) := by decide +kernel
theorem dM_moves_46 : decode mM_moves.2.1 46 = .ok (.iaload, 1) := by decide +kernel
theorem dM_moves_47 : decode mM_moves.2.1 47 = .ok (.iconst 4, 1) := by decide +kernel
theorem dM_moves_48 : decode mM_moves.2.1 48 = .ok (.if_icmp .ne 7, 3) := by decide +kernel
theorem dM_moves_51 : decode mM_moves.2.1 51 = .ok (.iconst 5, 1) := by decide +kernel
theorem dM_moves_52 : decode mM_moves.2.1 52 = .ok (.goto 4, 3) := by decide +kernel
theorem dM_moves_55 : decode mM_moves.2.1 55 = .ok (.iconst 4, 1) := by decide +kernel
theorem dM_moves_56 : decode mM_moves.2.1 56 = .ok (.iastore, 1) := by decide +kernel
theorem dM_moves_57 : decode mM_moves.2.1 57 = .ok (.aload_n 0, 1) := by decide +kernel
theorem dM_moves_58 : decode mM_moves.2.1 58 = .ok (.getfield 16, 3) := by decide +kernel
theorem dM_moves_61 : decode mM_moves.2.1 61 = .ok (.iload_n 1, 1) := by decide +kernel
theorem dM_moves_62 : decode mM_moves.2.1 62 = .ok (.iaload, 1) := by decide +kernel
theorem dM_moves_63 : decode mM_moves.2.1 63 = .ok (.iconst 4, 1) := by decide +kernel
theorem dM_moves_64 : decode mM_moves.2.1 64 = .ok (.if_icmp .ne 7, 3) := by decide +kernel
theorem dM_moves_67 : decode mM_moves.2.1 67 = .ok (.iconst 1, 1) := by decide +kernel
theorem dM_moves_68 : decode mM_moves.2.1 68 = .ok (.goto 4, 3) := by decide +kernel
theorem dM_moves_71 : decode mM_moves.2.1 71 = .ok (.iconst 0, 1) := by decide +kernel
theorem dM_moves_72 : decode mM_moves.2.1 72 = .ok (.ireturn, 1) := by decide +kernel
theorem dM_toldOf_0 : decode mM_toldOf.2.1 0 = .ok (.iload_n 1, 1) := by decide +kernel
theorem dM_toldOf_1 : decode mM_toldOf.2.1 1 = .ok (.bipush (-9), 2) := by decide +kernel
theorem dM_toldOf_3 : decode mM_toldOf.2.1 3 = .ok (.if_icmp .ne 7, 3) := by decide +kernel
theorem dM_toldOf_6 : decode mM_toldOf.2.1 6 = .ok (.iconst 1, 1) := by decide +kernel
theorem dM_toldOf_7 : decode mM_toldOf.2.1 7 = .ok (.goto 30, 3) := by decide +kernel
theorem dM_toldOf_10 : decode mM_toldOf.2.1 10 = .ok (.aload_n 0, 1) := by decide +kernel
theorem dM_toldOf_11 : decode mM_toldOf.2.1 11 = .ok (.getfield 16, 3) := by decide +kernel
theorem dM_toldOf_14 : decode mM_toldOf.2.1 14 = .ok (.iload_n 1, 1) := by decide +kernel
theorem dM_toldOf_15 : decode mM_toldOf.2.1 15 = .ok (.iaload, 1) := by decide +kernel
theorem dM_toldOf_16 : decode mM_toldOf.2.1 16 = .ok (.iconst 3, 1) := by decide +kernel
theorem dM_toldOf_17 : decode mM_toldOf.2.1 17 = .ok (.if_icmp .ne 7, 3) := by decide +kernel
theorem dM_toldOf_20 : decode mM_toldOf.2.1 20 = .ok (.iconst 2, 1) := by decide +kernel
theorem dM_toldOf_21 : decode mM_toldOf.2.1 21 = .ok (.goto 16, 3) := by decide +kernel
theorem dM_toldOf_24 : decode mM_toldOf.2.1 24 = .ok (.aload_n 0, 1) := by decide +kernel
theorem dM_toldOf_25 : decode mM_toldOf.2.1 25 = .ok (.iload_n 1, 1) := by decide +kernel
theorem dM_toldOf_26 : decode mM_toldOf.2.1 26 = .ok (.invokevirtual 103, 3) := by decide +kernel
theorem dM_toldOf_29 : decode mM_toldOf.2.1 29 = .ok (.ifCond .eq 7, 3) := by decide +kernel
theorem dM_toldOf_32 : decode mM_toldOf.2.1 32 = .ok (.iconst 0, 1) := by decide +kernel
theorem dM_toldOf_33 : decode mM_toldOf.2.1 33 = .ok (.goto 4, 3) := by decide +kernel
theorem dM_toldOf_36 : decode mM_toldOf.2.1 36 = .ok (.iconst 1, 1) := by decide +kernel
theorem dM_toldOf_37 : decode mM_toldOf.2.1 37 = .ok (.ireturn, 1) := by decide +kernel
theorem dM_canBe_0 : decode mM_canBe.2.1 0 = .ok (.iload_n 1, 1) := by decide +kernel
theorem dM_canBe_1 : decode mM_canBe.2.1 1 = .ok (.bipush (-9), 2) := by decide +kernel
theorem dM_canBe_3 : decode mM_canBe.2.1 3 = .ok (.if_icmp .ne 14, 3) := by decide +kernel
theorem dM_canBe_6 : decode mM_canBe.2.1 6 = .ok (.iload_n 2, 1) := by decide +kernel
theorem dM_canBe_7 : decode mM_canBe.2.1 7 = .ok (.iconst 1, 1) := by decide +kernel
theorem dM_canBe_8 : decode mM_canBe.2.1 8 = .ok (.if_icmp .ne 7, 3) := by decide +kernel
theorem dM_canBe_11 : decode mM_canBe.2.1 11 = .ok (.iconst 1, 1) := by decide +kernel
theorem dM_canBe_12 : decode mM_canBe.2.1 12 = .ok (.goto 4, 3) := by decide +kernel
theorem dM_canBe_15 : decode mM_canBe.2.1 15 = .ok (.iconst 0, 1) := by decide +kernel
theorem dM_canBe_16 : decode mM_canBe.2.1 16 = .ok (.ireturn, 1) := by decide +kernel
theorem dM_canBe_17 : decode mM_canBe.2.1 17 = .ok (.aload_n 0, 1) := by decide +kernel
theorem dM_canBe_18 : decode mM_canBe.2.1 18 = .ok (.getfield 16, 3) := by decide +kernel
theorem dM_canBe_21 : decode mM_canBe.2.1 21 = .ok (.iload_n 1, 1) := by decide +kernel
theorem dM_canBe_22 : decode mM_canBe.2.1 22 = .ok (.iaload, 1) := by decide +kernel
theorem dM_canBe_23 : decode mM_canBe.2.1 23 = .ok (.iconst 3, 1) := by decide +kernel
theorem dM_canBe_24 : decode mM_canBe.2.1 24 = .ok (.if_icmp .eq 8, 3) := by decide +kernel
theorem dM_canBe_27 : decode mM_canBe.2.1 27 = .ok (.iload_n 2, 1) := by decide +kernel
theorem dM_canBe_28 : decode mM_canBe.2.1 28 = .ok (.iconst 2, 1) := by decide +kernel
theorem dM_canBe_29 : decode mM_canBe.2.1 29 = .ok (.if_icmp .ne 24, 3) := by decide +kernel
theorem dM_canBe_32 : decode mM_canBe.2.1 32 = .ok (.aload_n 0, 1) := by decide +kernel
theorem dM_canBe_33 : decode mM_canBe.2.1 33 = .ok (.getfield 16, 3) := by decide +kernel
theorem dM_canBe_36 : decode mM_canBe.2.1 36 = .ok (.iload_n 1, 1) := by decide +kernel
theorem dM_canBe_37 : decode mM_canBe.2.1 37 = .ok (.iaload, 1) := by decide +kernel
theorem dM_canBe_38 : decode mM_canBe.2.1 38 = .ok (.iconst 3, 1) := by decide +kernel
theorem dM_canBe_39 : decode mM_canBe.2.1 39 = .ok (.if_icmp .ne 12, 3) := by decide +kernel
theorem dM_canBe_42 : decode mM_canBe.2.1 42 = .ok (.iload_n 2, 1) := by decide +kernel
theorem dM_canBe_43 : decode mM_canBe.2.1 43 = .ok (.iconst 2, 1) := by decide +kernel
theorem dM_canBe_44 : decode mM_canBe.2.1 44 = .ok (.if_icmp .ne 7, 3) := by decide +kernel
theorem dM_canBe_47 : decode mM_canBe.2.1 47 = .ok (.iconst 1, 1) := by decide +kernel
theorem dM_canBe_48 : decode mM_canBe.2.1 48 = .ok (.goto 4, 3) := by decide +kernel
theorem dM_canBe_51 : decode mM_canBe.2.1 51 = .ok (.iconst 0, 1) := by decide +kernel
theorem dM_canBe_52 : decode mM_canBe.2.1 52 = .ok (.ireturn, 1) := by decide +kernel
theorem dM_canBe_53 : decode mM_canBe.2.1 53 = .ok (.aload_n 0, 1) := by decide +kernel
theorem dM_canBe_54 : decode mM_canBe.2.1 54 = .ok (.iload_n 1, 1) := by decide +kernel
theorem dM_canBe_55 : decode mM_canBe.2.1 55 = .ok (.invokevirtual 100, 3) := by decide +kernel
theorem dM_canBe_58 : decode mM_canBe.2.1 58 = .ok (.ifCond .ne 38, 3) := by decide +kernel
theorem dM_canBe_61 : decode mM_canBe.2.1 61 = .ok (.aload_n 0, 1) := by decide +kernel
theorem dM_canBe_62 : decode mM_canBe.2.1 62 = .ok (.getfield 16, 3) := by decide +kernel
theorem dM_canBe_65 : decode mM_canBe.2.1 65 = .ok (.bipush 36, 2) := by decide +kernel
theorem dM_canBe_67 : decode mM_canBe.2.1 67 = .ok (.iload_n 1, 1) := by decide +kernel
theorem dM_canBe_68 : decode mM_canBe.2.1 68 = .ok (.iadd, 1) := by decide +kernel
theorem dM_canBe_69 : decode mM_canBe.2.1 69 = .ok (.iaload, 1) := by decide +kernel
theorem dM_canBe_70 : decode mM_canBe.2.1 70 = .ok (.ifCond .eq 26, 3) := by decide +kernel
theorem dM_canBe_73 : decode mM_canBe.2.1 73 = .ok (.aload_n 0, 1) := by decide +kernel
theorem dM_canBe_74 : decode mM_canBe.2.1 74 = .ok (.getfield 16, 3) := by decide +kernel
theorem dM_canBe_77 : decode mM_canBe.2.1 77 = .ok (.bipush 36, 2) := by decide +kernel
theorem dM_canBe_79 : decode mM_canBe.2.1 79 = .ok (.iload_n 1, 1) := by decide +kernel
theorem dM_canBe_80 : decode mM_canBe.2.1 80 = .ok (.iadd, 1) := by decide +kernel
theorem dM_canBe_81 : decode mM_canBe.2.1 81 = .ok (.iaload, 1) := by decide +kernel
theorem dM_canBe_82 : decode mM_canBe.2.1 82 = .ok (.iconst 2, 1) := by decide +kernel
theorem dM_canBe_83 : decode mM_canBe.2.1 83 = .ok (.iload_n 2, 1) := by decide +kernel
theorem dM_canBe_84 : decode mM_canBe.2.1 84 = .ok (.ifCond .ne 7, 3) := by decide +kernel
theorem dM_canBe_87 : decode mM_canBe.2.1 87 = .ok (.iconst 1, 1) := by decide +kernel
theorem dM_canBe_88 : decode mM_canBe.2.1 88 = .ok (.goto 4, 3) := by decide +kernel
theorem dM_canBe_91 : decode mM_canBe.2.1 91 = .ok (.iconst 0, 1) := by decide +kernel
theorem dM_canBe_92 : decode mM_canBe.2.1 92 = .ok (.isub, 1) := by decide +kernel
theorem dM_canBe_93 : decode mM_canBe.2.1 93 = .ok (.if_icmp .ne 7, 3) := by decide +kernel
theorem dM_canBe_96 : decode mM_canBe.2.1 96 = .ok (.iconst 1, 1) := by decide +kernel
theorem dM_canBe_97 : decode mM_canBe.2.1 97 = .ok (.goto 4, 3) := by decide +kernel
theorem dM_canBe_100 : decode mM_canBe.2.1 100 = .ok (.iconst 0, 1) := by decide +kernel
theorem dM_canBe_101 : decode mM_canBe.2.1 101 = .ok (.ireturn, 1) := by decide +kernel
theorem dM_manyPlaces_0 : decode mM_manyPlaces.2.1 0 = .ok (.iconst 0, 1) := by decide +kernel
theorem dM_manyPlaces_1 : decode mM_manyPlaces.2.1 1 = .ok (.istore_n 1, 1) := by decide +kernel
theorem dM_manyPlaces_2 : decode mM_manyPlaces.2.1 2 = .ok (.iconst 0, 1) := by decide +kernel
theorem dM_manyPlaces_3 : decode mM_manyPlaces.2.1 3 = .ok (.istore_n 2, 1) := by decide +kernel
theorem dM_manyPlaces_4 : decode mM_manyPlaces.2.1 4 = .ok (.iload_n 2, 1) := by decide +kernel
theorem dM_manyPlaces_5 : decode mM_manyPlaces.2.1 5 = .ok (.iconst 4, 1) := by decide +kernel
theorem dM_manyPlaces_6 : decode mM_manyPlaces.2.1 6 = .ok (.aload_n 0, 1) := by decide +kernel
theorem dM_manyPlaces_7 : decode mM_manyPlaces.2.1 7 = .ok (.invokevirtual 57, 3) := by decide +kernel
theorem dM_manyPlaces_10 : decode mM_manyPlaces.2.1 10 = .ok (.imul, 1) := by decide +kernel
theorem dM_manyPlaces_11 : decode mM_manyPlaces.2.1 11 = .ok (.if_icmp .ge 29, 3) := by decide +kernel
theorem dM_manyPlaces_14 : decode mM_manyPlaces.2.1 14 = .ok (.iload_n 1, 1) := by decide +kernel
theorem dM_manyPlaces_15 : decode mM_manyPlaces.2.1 15 = .ok (.aload_n 0, 1) := by decide +kernel
theorem dM_manyPlaces_16 : decode mM_manyPlaces.2.1 16 = .ok (.getfield 16, 3) := by decide +kernel
theorem dM_manyPlaces_19 : decode mM_manyPlaces.2.1 19 = .ok (.bipush 72, 2) := by decide +kernel
theorem dM_manyPlaces_21 : decode mM_manyPlaces.2.1 21 = .ok (.iload_n 2, 1) := by decide +kernel
theorem dM_manyPlaces_22 : decode mM_manyPlaces.2.1 22 = .ok (.iconst 4, 1) := by decide +kernel
theorem dM_manyPlaces_23 : decode mM_manyPlaces.2.1 23 = .ok (.idiv, 1) := by decide +kernel
theorem dM_manyPlaces_24 : decode mM_manyPlaces.2.1 24 = .ok (.iadd, 1) := by decide +kernel
theorem dM_manyPlaces_25 : decode mM_manyPlaces.2.1 25 = .ok (.iaload, 1) := by decide +kernel
theorem dM_manyPlaces_26 : decode mM_manyPlaces.2.1 26 = .ok (.iload_n 2, 1) := by decide +kernel
theorem dM_manyPlaces_27 : decode mM_manyPlaces.2.1 27 = .ok (.iconst 4, 1) := by decide +kernel
theorem dM_manyPlaces_28 : decode mM_manyPlaces.2.1 28 = .ok (.irem, 1) := by decide +kernel
theorem dM_manyPlaces_29 : decode mM_manyPlaces.2.1 29 = .ok (.ishr, 1) := by decide +kernel
theorem dM_manyPlaces_30 : decode mM_manyPlaces.2.1 30 = .ok (.iconst 1, 1) := by decide +kernel
theorem dM_manyPlaces_31 : decode mM_manyPlaces.2.1 31 = .ok (.iand, 1) := by decide +kernel
theorem dM_manyPlaces_32 : decode mM_manyPlaces.2.1 32 = .ok (.iadd, 1) := by decide +kernel
theorem dM_manyPlaces_33 : decode mM_manyPlaces.2.1 33 = .ok (.istore_n 1, 1) := by decide +kernel
theorem dM_manyPlaces_34 : decode mM_manyPlaces.2.1 34 = .ok (.iinc 2 1, 3) := by decide +kernel
theorem dM_manyPlaces_37 : decode mM_manyPlaces.2.1 37 = .ok (.goto (-33), 3) := by decide +kernel
theorem dM_manyPlaces_40 : decode mM_manyPlaces.2.1 40 = .ok (.iload_n 1, 1) := by decide +kernel
theorem dM_manyPlaces_41 : decode mM_manyPlaces.2.1 41 = .ok (.ireturn, 1) := by decide +kernel
theorem dM_findsMaybe_0 : decode mM_findsMaybe.2.1 0 = .ok (.aload_n 0, 1) := by decide +kernel
theorem dM_findsMaybe_1 : decode mM_findsMaybe.2.1 1 = .ok (.getfield 16, 3) := by decide +kernel
theorem dM_findsMaybe_4 : decode mM_findsMaybe.2.1 4 = .ok (.bipush 111, 2) := by decide +kernel
theorem dM_findsMaybe_6 : decode mM_findsMaybe.2.1 6 = .ok (.iaload, 1) := by decide +kernel
theorem dM_findsMaybe_7 : decode mM_findsMaybe.2.1 7 = .ok (.iconst 1, 1) := by decide +kernel
theorem dM_findsMaybe_8 : decode mM_findsMaybe.2.1 8 = .ok (.if_icmp .ne 45, 3) := by decide +kernel
theorem dM_findsMaybe_11 : decode mM_findsMaybe.2.1 11 = .ok (.aload_n 0, 1) := by decide +kernel
theorem dM_findsMaybe_12 : decode mM_findsMaybe.2.1 12 = .ok (.invokevirtual 106, 3) := by decide +kernel
theorem dM_findsMaybe_15 : decode mM_findsMaybe.2.1 15 = .ok (.iconst 1, 1) := by decide +kernel
theorem dM_findsMaybe_16 : decode mM_findsMaybe.2.1 16 = .ok (.if_icmp .ne 37, 3) := by decide +kernel
theorem dM_findsMaybe_19 : decode mM_findsMaybe.2.1 19 = .ok (.aload_n 0, 1) := by decide +kernel
theorem dM_findsMaybe_20 : decode mM_findsMaybe.2.1 20 = .ok (.getfield 16, 3) := by decide +kernel
theorem dM_findsMaybe_23 : decode mM_findsMaybe.2.1 23 = .ok (.bipush 111, 2) := by decide +kernel
theorem dM_findsMaybe_25 : decode mM_findsMaybe.2.1 25 = .ok (.iconst 0, 1) := by decide +kernel
theorem dM_findsMaybe_26 : decode mM_findsMaybe.2.1 26 = .ok (.iastore, 1) := by decide +kernel
theorem dM_findsMaybe_27 : decode mM_findsMaybe.2.1 27 = .ok (.iconst 0, 1) := by decide +kernel
theorem dM_findsMaybe_28 : decode mM_findsMaybe.2.1 28 = .ok (.istore_n 1, 1) := by decide +kernel
theorem dM_findsMaybe_29 : decode mM_findsMaybe.2.1 29 = .ok (.iload_n 1, 1) := by decide +kernel
theorem dM_findsMaybe_30 : decode mM_findsMaybe.2.1 30 = .ok (.aload_n 0, 1) := by decide +kernel
theorem dM_findsMaybe_31 : decode mM_findsMaybe.2.1 31 = .ok (.invokevirtual 57, 3) := by decide +kernel
theorem dM_findsMaybe_34 : decode mM_findsMaybe.2.1 34 = .ok (.if_icmp .ge 19, 3) := by decide +kernel
theorem dM_findsMaybe_37 : decode mM_findsMaybe.2.1 37 = .ok (.aload_n 0, 1) := by decide +kernel
theorem dM_findsMaybe_38 : decode mM_findsMaybe.2.1 38 = .ok (.getfield 16, 3) := by decide +kernel
theorem dM_findsMaybe_41 : decode mM_findsMaybe.2.1 41 = .ok (.bipush 72, 2) := by decide +kernel
theorem dM_findsMaybe_43 : decode mM_findsMaybe.2.1 43 = .ok (.iload_n 1, 1) := by decide +kernel
theorem dM_findsMaybe_44 : decode mM_findsMaybe.2.1 44 = .ok (.iadd, 1) := by decide +kernel
theorem dM_findsMaybe_45 : decode mM_findsMaybe.2.1 45 = .ok (.iconst 0, 1) := by decide +kernel
theorem dM_findsMaybe_46 : decode mM_findsMaybe.2.1 46 = .ok (.iastore, 1) := by decide +kernel
theorem dM_findsMaybe_47 : decode mM_findsMaybe.2.1 47 = .ok (.iinc 1 1, 3) := by decide +kernel
theorem dM_findsMaybe_50 : decode mM_findsMaybe.2.1 50 = .ok (.goto (-21), 3) := by decide +kernel
theorem dM_findsMaybe_53 : decode mM_findsMaybe.2.1 53 = .ok (.return_, 1) := by decide +kernel
theorem dM_becomePlaces_0 : decode mM_becomePlaces.2.1 0 = .ok (.iconst 0, 1) := by decide +kernel
theorem dM_becomePlaces_1 : decode mM_becomePlaces.2.1 1 = .ok (.istore_n 1, 1) := by decide +kernel
theorem dM_becomePlaces_2 : decode mM_becomePlaces.2.1 2 = .ok (.iload_n 1, 1) := by decide +kernel
theorem dM_becomePlaces_3 : decode mM_becomePlaces.2.1 3 = .ok (.aload_n 0, 1) := by decide +kernel
theorem dM_becomePlaces_4 : decode mM_becomePlaces.2.1 4 = .ok (.invokevirtual 57, 3) := by decide +kernel
theorem dM_becomePlaces_7 : decode mM_becomePlaces.2.1 7 = .ok (.if_icmp .ge 24, 3) := by decide +kernel
theorem dM_becomePlaces_10 : decode mM_becomePlaces.2.1 10 = .ok (.aload_n 0, 1) := by decide +kernel
theorem dM_becomePlaces_11 : decode mM_becomePlaces.2.1 11 = .ok (.getfield 16, 3) := by decide +kernel
theorem dM_becomePlaces_14 : decode mM_becomePlaces.2.1 14 = .ok (.bipush 72, 2) := by decide +kernel
theorem dM_becomePlaces_16 : decode mM_becomePlaces.2.1 16 = .ok (.iload_n 1, 1) := by decide +kernel
theorem dM_becomePlaces_17 : decode mM_becomePlaces.2.1 17 = .ok (.iadd, 1) := by decide +kernel
theorem dM_becomePlaces_18 : decode mM_becomePlaces.2.1 18 = .ok (.aload_n 0, 1) := by decide +kernel
theorem dM_becomePlaces_19 : decode mM_becomePlaces.2.1 19 = .ok (.getfield 39, 3) := by decide +kernel
theorem dM_becomePlaces_22 : decode mM_becomePlaces.2.1 22 = .ok (.iload_n 1, 1) := by decide +kernel
theorem dM_becomePlaces_23 : decode mM_becomePlaces.2.1 23 = .ok (.iaload, 1) := by decide +kernel
theorem dM_becomePlaces_24 : decode mM_becomePlaces.2.1 24 = .ok (.iastore, 1) := by decide +kernel
theorem dM_becomePlaces_25 : decode mM_becomePlaces.2.1 25 = .ok (.iinc 1 1, 3) := by decide +kernel
theorem dM_becomePlaces_28 : decode mM_becomePlaces.2.1 28 = .ok (.goto (-26), 3) := by decide +kernel
theorem dM_becomePlaces_31 : decode mM_becomePlaces.2.1 31 = .ok (.return_, 1) := by decide +kernel
theorem dM_stepsPlaces_0 : decode mM_stepsPlaces.2.1 0 = .ok (.iconst 0, 1) := by decide +kernel
theorem dM_stepsPlaces_1 : decode mM_stepsPlaces.2.1 1 = .ok (.istore_n 2, 1) := by decide +kernel
theorem dM_stepsPlaces_2 : decode mM_stepsPlaces.2.1 2 = .ok (.iload_n 2, 1) := by decide +kernel
theorem dM_stepsPlaces_3 : decode mM_stepsPlaces.2.1 3 = .ok (.aload_n 0, 1) := by decide +kernel
theorem dM_stepsPlaces_4 : decode mM_stepsPlaces.2.1 4 = .ok (.invokevirtual 57, 3) := by decide +kernel
theorem dM_stepsPlaces_7 : decode mM_stepsPlaces.2.1 7 = .ok (.if_icmp .ge 16, 3) := by decide +kernel
theorem dM_stepsPlaces_10 : decode mM_stepsPlaces.2.1 10 = .ok (.aload_n 0, 1) := by decide +kernel
theorem dM_stepsPlaces_11 : decode mM_stepsPlaces.2.1 11 = .ok (.getfield 39, 3) := by decide +kernel
theorem dM_stepsPlaces_14 : decode mM_stepsPlaces.2.1 14 = .ok (.iload_n 2, 1) := by decide +kernel
theorem dM_stepsPlaces_15 : decode mM_stepsPlaces.2.1 15 = .ok (.iconst 0, 1) := by decide +kernel
theorem dM_stepsPlaces_16 : decode mM_stepsPlaces.2.1 16 = .ok (.iastore, 1) := by decide +kernel
theorem dM_stepsPlaces_17 : decode mM_stepsPlaces.2.1 17 = .ok (.iinc 2 1, 3) := by decide +kernel
theorem dM_stepsPlaces_20 : decode mM_stepsPlaces.2.1 20 = .ok (.goto (-18), 3) := by decide +kernel
theorem dM_stepsPlaces_23 : decode mM_stepsPlaces.2.1 23 = .ok (.iconst 0, 1) := by decide +kernel
theorem dM_stepsPlaces_24 : decode mM_stepsPlaces.2.1 24 = .ok (.istore_n 2, 1) := by decide +kernel
theorem dM_stepsPlaces_25 : decode mM_stepsPlaces.2.1 25 = .ok (.iload_n 2, 1) := by decide +kernel
theorem dM_stepsPlaces_26 : decode mM_stepsPlaces.2.1 26 = .ok (.iconst 4, 1) := by decide +kernel
theorem dM_stepsPlaces_27 : decode mM_stepsPlaces.2.1 27 = .ok (.aload_n 0, 1) := by decide +kernel
theorem dM_stepsPlaces_28 : decode mM_stepsPlaces.2.1 28 = .ok (.invokevirtual 57, 3) := by decide +kernel
theorem dM_stepsPlaces_31 : decode mM_stepsPlaces.2.1 31 = .ok (.imul, 1) := by decide +kernel
theorem dM_stepsPlaces_32 : decode mM_stepsPlaces.2.1 32 = .ok (.if_icmp .ge 74, 3) := by decide +kernel
theorem dM_stepsPlaces_35 : decode mM_stepsPlaces.2.1 35 = .ok (.aload_n 0, 1) := by decide +kernel
theorem dM_stepsPlaces_36 : decode mM_stepsPlaces.2.1 36 = .ok (.iload_n 2, 1) := by decide +kernel
theorem dM_stepsPlaces_37 : decode mM_stepsPlaces.2.1 37 = .ok (.iconst 4, 1) := by decide +kernel
theorem dM_stepsPlaces_38 : decode mM_stepsPlaces.2.1 38 = .ok (.idiv, 1) := by decide +kernel
theorem dM_stepsPlaces_39 : decode mM_stepsPlaces.2.1 39 = .ok (.iload_n 2, 1) := by decide +kernel
theorem dM_stepsPlaces_40 : decode mM_stepsPlaces.2.1 40 = .ok (.iconst 4, 1) := by decide +kernel
theorem dM_stepsPlaces_41 : decode mM_stepsPlaces.2.1 41 = .ok (.irem, 1) := by decide +kernel
theorem dM_stepsPlaces_42 : decode mM_stepsPlaces.2.1 42 = .ok (.invokevirtual 109, 3) := by decide +kernel
theorem dM_stepsPlaces_45 : decode mM_stepsPlaces.2.1 45 = .ok (.istore_n 3, 1) := by decide +kernel
theorem dM_stepsPlaces_46 : decode mM_stepsPlaces.2.1 46 = .ok (.aload_n 0, 1) := by decide +kernel
theorem dM_stepsPlaces_47 : decode mM_stepsPlaces.2.1 47 = .ok (.getfield 16, 3) := by decide +kernel
theorem dM_stepsPlaces_50 : decode mM_stepsPlaces.2.1 50 = .ok (.bipush 72, 2) := by decide +kernel
theorem dM_stepsPlaces_52 : decode mM_stepsPlaces.2.1 52 = .ok (.iload_n 2, 1) := by decide +kernel
theorem dM_stepsPlaces_53 : decode mM_stepsPlaces.2.1 53 = .ok (.iconst 4, 1) := by decide +kernel
theorem dM_stepsPlaces_54 : decode mM_stepsPlaces.2.1 54 = .ok (.idiv, 1) := by decide +kernel
theorem dM_stepsPlaces_55 : decode mM_stepsPlaces.2.1 55 = .ok (.iadd, 1) := by decide +kernel
theorem dM_stepsPlaces_56 : decode mM_stepsPlaces.2.1 56 = .ok (.iaload, 1) := by decide +kernel
theorem dM_stepsPlaces_57 : decode mM_stepsPlaces.2.1 57 = .ok (.iload_n 2, 1) := by decide +kernel
theorem dM_stepsPlaces_58 : decode mM_stepsPlaces.2.1 58 = .ok (.iconst 4, 1) := by decide +kernel
theorem dM_stepsPlaces_59 : decode mM_stepsPlaces.2.1 59 = .ok (.irem, 1) := by decide +kernel
theorem dM_stepsPlaces_60 : decode mM_stepsPlaces.2.1 60 = .ok (.ishr, 1) := by decide +kernel
theorem dM_stepsPlaces_61 : decode mM_stepsPlaces.2.1 61 = .ok (.iconst 1, 1) := by decide +kernel
theorem dM_stepsPlaces_62 : decode mM_stepsPlaces.2.1 62 = .ok (.iand, 1) := by decide +kernel
theorem dM_stepsPlaces_63 : decode mM_stepsPlaces.2.1 63 = .ok (.iconst 1, 1) := by decide +kernel
theorem dM_stepsPlaces_64 : decode mM_stepsPlaces.2.1 64 = .ok (.if_icmp .ne 36, 3) := by decide +kernel
theorem dM_stepsPlaces_67 : decode mM_stepsPlaces.2.1 67 = .ok (.aload_n 0, 1) := by decide +kernel
theorem dM_stepsPlaces_68 : decode mM_stepsPlaces.2.1 68 = .ok (.iload_n 3, 1) := by decide +kernel
theorem dM_stepsPlaces_69 : decode mM_stepsPlaces.2.1 69 = .ok (.iload_n 1, 1) := by decide +kernel
theorem dM_stepsPlaces_70 : decode mM_stepsPlaces.2.1 70 = .ok (.invokevirtual 113, 3) := by decide +kernel
theorem dM_stepsPlaces_73 : decode mM_stepsPlaces.2.1 73 = .ok (.ifCond .eq 27, 3) := by decide +kernel
theorem dM_stepsPlaces_76 : decode mM_stepsPlaces.2.1 76 = .ok (.aload_n 0, 1) := by decide +kernel
theorem dM_stepsPlaces_77 : decode mM_stepsPlaces.2.1 77 = .ok (.getfield 39, 3) := by decide +kernel
theorem dM_stepsPlaces_80 : decode mM_stepsPlaces.2.1 80 = .ok (.iload_n 1, 1) := by decide +kernel
theorem dM_stepsPlaces_81 : decode mM_stepsPlaces.2.1 81 = .ok (.ifCond .ne 7, 3) := by decide +kernel
theorem dM_stepsPlaces_84 : decode mM_stepsPlaces.2.1 84 = .ok (.iload_n 3, 1) := by decide +kernel
theorem dM_stepsPlaces_85 : decode mM_stepsPlaces.2.1 85 = .ok (.goto 6, 3) := by decide +kernel
theorem dM_stepsPlaces_88 : decode mM_stepsPlaces.2.1 88 = .ok (.iload_n 2, 1) := by decide +kernel
theorem dM_stepsPlaces_89 : decode mM_stepsPlaces.2.1 89 = .ok (.iconst 4, 1) := by decide +kernel
theorem dM_stepsPlaces_90 : decode mM_stepsPlaces.2.1 90 = .ok (.idiv, 1) := by decide +kernel
theorem dM_stepsPlaces_91 : decode mM_stepsPlaces.2.1 91 = .ok (.dup2, 1) := by decide +kernel
theorem dM_stepsPlaces_92 : decode mM_stepsPlaces.2.1 92 = .ok (.iaload, 1) := by decide +kernel
theorem dM_stepsPlaces_93 : decode mM_stepsPlaces.2.1 93 = .ok (.iconst 1, 1) := by decide +kernel
theorem dM_stepsPlaces_94 : decode mM_stepsPlaces.2.1 94 = .ok (.iload_n 2, 1) := by decide +kernel
theorem dM_stepsPlaces_95 : decode mM_stepsPlaces.2.1 95 = .ok (.iconst 4, 1) := by decide +kernel
theorem dM_stepsPlaces_96 : decode mM_stepsPlaces.2.1 96 = .ok (.irem, 1) := by decide +kernel
theorem dM_stepsPlaces_97 : decode mM_stepsPlaces.2.1 97 = .ok (.ishl, 1) := by decide +kernel
theorem dM_stepsPlaces_98 : decode mM_stepsPlaces.2.1 98 = .ok (.ior, 1) := by decide +kernel
theorem dM_stepsPlaces_99 : decode mM_stepsPlaces.2.1 99 = .ok (.iastore, 1) := by decide +kernel
theorem dM_stepsPlaces_100 : decode mM_stepsPlaces.2.1 100 = .ok (.iinc 2 1, 3) := by decide +kernel
theorem dM_stepsPlaces_103 : decode mM_stepsPlaces.2.1 103 = .ok (.goto (-78), 3) := by decide +kernel
theorem dM_stepsPlaces_106 : decode mM_stepsPlaces.2.1 106 = .ok (.aload_n 0, 1) := by decide +kernel
theorem dM_stepsPlaces_107 : decode mM_stepsPlaces.2.1 107 = .ok (.invokevirtual 117, 3) := by decide +kernel
theorem dM_stepsPlaces_110 : decode mM_stepsPlaces.2.1 110 = .ok (.aload_n 0, 1) := by decide +kernel
theorem dM_stepsPlaces_111 : decode mM_stepsPlaces.2.1 111 = .ok (.invokevirtual 120, 3) := by decide +kernel
theorem dM_stepsPlaces_114 : decode mM_stepsPlaces.2.1 114 = .ok (.return_, 1) := by decide +kernel
theorem dM_stepTo_0 : decode mM_stepTo.2.1 0 = .ok (.aload_n 0, 1) := by decide +kernel
theorem dM_stepTo_1 : decode mM_stepTo.2.1 1 = .ok (.getfield 16, 3) := by decide +kernel
theorem dM_stepTo_4 : decode mM_stepTo.2.1 4 = .ok (.bipush 109, 2) := by decide +kernel
theorem dM_stepTo_6 : decode mM_stepTo.2.1 6 = .ok (.iload_n 1, 1) := by decide +kernel
theorem dM_stepTo_7 : decode mM_stepTo.2.1 7 = .ok (.iastore, 1) := by decide +kernel
theorem dM_stepTo_8 : decode mM_stepTo.2.1 8 = .ok (.aload_n 0, 1) := by decide +kernel
theorem dM_stepTo_9 : decode mM_stepTo.2.1 9 = .ok (.getfield 16, 3) := by decide +kernel
theorem dM_stepTo_12 : decode mM_stepTo.2.1 12 = .ok (.bipush 110, 2) := by decide +kernel
theorem dM_stepTo_14 : decode mM_stepTo.2.1 14 = .ok (.dup2, 1) := by decide +kernel
theorem dM_stepTo_15 : decode mM_stepTo.2.1 15 = .ok (.iaload, 1) := by decide +kernel
theorem dM_stepTo_16 : decode mM_stepTo.2.1 16 = .ok (.iconst 1, 1) := by decide +kernel
theorem dM_stepTo_17 : decode mM_stepTo.2.1 17 = .ok (.isub, 1) := by decide +kernel
theorem dM_stepTo_18 : decode mM_stepTo.2.1 18 = .ok (.iastore, 1) := by decide +kernel
theorem dM_stepTo_19 : decode mM_stepTo.2.1 19 = .ok (.aload_n 0, 1) := by decide +kernel
theorem dM_stepTo_20 : decode mM_stepTo.2.1 20 = .ok (.aload_n 0, 1) := by decide +kernel
theorem dM_stepTo_21 : decode mM_stepTo.2.1 21 = .ok (.getfield 16, 3) := by decide +kernel
theorem dM_stepTo_24 : decode mM_stepTo.2.1 24 = .ok (.bipush 108, 2) := by decide +kernel
theorem dM_stepTo_26 : decode mM_stepTo.2.1 26 = .ok (.iaload, 1) := by decide +kernel
theorem dM_stepTo_27 : decode mM_stepTo.2.1 27 = .ok (.iload_n 1, 1) := by decide +kernel
theorem dM_stepTo_28 : decode mM_stepTo.2.1 28 = .ok (.invokevirtual 109, 3) := by decide +kernel
theorem dM_stepTo_31 : decode mM_stepTo.2.1 31 = .ok (.istore_n 2, 1) := by decide +kernel
theorem dM_stepTo_32 : decode mM_stepTo.2.1 32 = .ok (.aload_n 0, 1) := by decide +kernel
theorem dM_stepTo_33 : decode mM_stepTo.2.1 33 = .ok (.iload_n 2, 1) := by decide +kernel
theorem dM_stepTo_34 : decode mM_stepTo.2.1 34 = .ok (.invokevirtual 123, 3) := by decide +kernel
theorem dM_stepTo_37 : decode mM_stepTo.2.1 37 = .ok (.istore_n 3, 1) := by decide +kernel
theorem dM_stepTo_38 : decode mM_stepTo.2.1 38 = .ok (.aload_n 0, 1) := by decide +kernel
theorem dM_stepTo_39 : decode mM_stepTo.2.1 39 = .ok (.getfield 16, 3) := by decide +kernel
theorem dM_stepTo_42 : decode mM_stepTo.2.1 42 = .ok (.bipush 111, 2) := by decide +kernel
theorem dM_stepTo_44 : decode mM_stepTo.2.1 44 = .ok (.iaload, 1) := by decide +kernel
theorem dM_stepTo_45 : decode mM_stepTo.2.1 45 = .ok (.iconst 1, 1) := by decide +kernel
theorem dM_stepTo_46 : decode mM_stepTo.2.1 46 = .ok (.if_icmp .ne 7, 3) := by decide +kernel
theorem dM_stepTo_49 : decode mM_stepTo.2.1 49 = .ok (.iconst 1, 1) := by decide +kernel
theorem dM_stepTo_50 : decode mM_stepTo.2.1 50 = .ok (.goto 4, 3) := by decide +kernel
theorem dM_stepTo_53 : decode mM_stepTo.2.1 53 = .ok (.iconst 0, 1) := by decide +kernel
theorem dM_stepTo_54 : decode mM_stepTo.2.1 54 = .ok (.istore 4, 2) := by decide +kernel
theorem dM_stepTo_56 : decode mM_stepTo.2.1 56 = .ok (.aload_n 0, 1) := by decide +kernel
theorem dM_stepTo_57 : decode mM_stepTo.2.1 57 = .ok (.getfield 16, 3) := by decide +kernel
theorem dM_stepTo_60 : decode mM_stepTo.2.1 60 = .ok (.bipush 108, 2) := by decide +kernel
theorem dM_stepTo_62 : decode mM_stepTo.2.1 62 = .ok (.iload_n 3, 1) := by decide +kernel
theorem dM_stepTo_63 : decode mM_stepTo.2.1 63 = .ok (.ifCond .ne 7, 3) := by decide +kernel
theorem dM_stepTo_66 : decode mM_stepTo.2.1 66 = .ok (.iload_n 2, 1) := by decide +kernel
theorem dM_stepTo_67 : decode mM_stepTo.2.1 67 = .ok (.goto 10, 3) := by decide +kernel
theorem dM_stepTo_70 : decode mM_stepTo.2.1 70 = .ok (.aload_n 0, 1) := by decide +kernel
theorem dM_stepTo_71 : decode mM_stepTo.2.1 71 = .ok (.getfield 16, 3) := by decide +kernel
theorem dM_stepTo_74 : decode mM_stepTo.2.1 74 = .ok (.bipush 108, 2) := by decide +kernel
theorem dM_stepTo_76 : decode mM_stepTo.2.1 76 = .ok (.iaload, 1) := by decide +kernel
theorem dM_stepTo_77 : decode mM_stepTo.2.1 77 = .ok (.iastore, 1) := by decide +kernel
theorem dM_stepTo_78 : decode mM_stepTo.2.1 78 = .ok (.iload 4, 2) := by decide +kernel
theorem dM_stepTo_80 : decode mM_stepTo.2.1 80 = .ok (.ifCond .eq 11, 3) := by decide +kernel
theorem dM_stepTo_83 : decode mM_stepTo.2.1 83 = .ok (.aload_n 0, 1) := by decide +kernel
theorem dM_stepTo_84 : decode mM_stepTo.2.1 84 = .ok (.iload_n 3, 1) := by decide +kernel
theorem dM_stepTo_85 : decode mM_stepTo.2.1 85 = .ok (.invokevirtual 126, 3) := by decide +kernel
theorem dM_stepTo_88 : decode mM_stepTo.2.1 88 = .ok (.goto 32, 3) := by decide +kernel
theorem dM_stepTo_91 : decode mM_stepTo.2.1 91 = .ok (.iload_n 2, 1) := by decide +kernel
theorem dM_stepTo_92 : decode mM_stepTo.2.1 92 = .ok (.bipush (-9), 2) := by decide +kernel
theorem dM_stepTo_94 : decode mM_stepTo.2.1 94 = .ok (.if_icmp .eq 26, 3) := by decide +kernel
theorem dM_stepTo_97 : decode mM_stepTo.2.1 97 = .ok (.iload_n 3, 1) := by decide +kernel
theorem dM_stepTo_98 : decode mM_stepTo.2.1 98 = .ok (.iconst 2, 1) := by decide +kernel
theorem dM_stepTo_99 : decode mM_stepTo.2.1 99 = .ok (.if_icmp .ge 21, 3) := by decide +kernel
theorem dM_stepTo_102 : decode mM_stepTo.2.1 102 = .ok (.aload_n 0, 1) := by decide +kernel
theorem dM_stepTo_103 : decode mM_stepTo.2.1 103 = .ok (.getfield 16, 3) := by decide +kernel
theorem dM_stepTo_106 : decode mM_stepTo.2.1 106 = .ok (.bipush 36, 2) := by decide +kernel
theorem dM_stepTo_108 : decode mM_stepTo.2.1 108 = .ok (.iload_n 2, 1) := by decide +kernel
theorem dM_stepTo_109 : decode mM_stepTo.2.1 109 = .ok (.iadd, 1) := by decide +kernel
theorem dM_stepTo_110 : decode mM_stepTo.2.1 110 = .ok (.iload_n 3, 1) := by decide +kernel
theorem dM_stepTo_111 : decode mM_stepTo.2.1 111 = .ok (.ifCond .ne 7, 3) := by decide +kernel
theorem dM_stepTo_114 : decode mM_stepTo.2.1 114 = .ok (.iconst 1, 1) := by decide +kernel
theorem dM_stepTo_115 : decode mM_stepTo.2.1 115 = .ok (.goto 4, 3) := by decide +kernel
theorem dM_stepTo_118 : decode mM_stepTo.2.1 118 = .ok (.iconst 2, 1) := by decide +kernel
theorem dM_stepTo_119 : decode mM_stepTo.2.1 119 = .ok (.iastore, 1) := by decide +kernel
theorem dM_stepTo_120 : decode mM_stepTo.2.1 120 = .ok (.iload_n 3, 1) := by decide +kernel
theorem dM_stepTo_121 : decode mM_stepTo.2.1 121 = .ok (.iconst 2, 1) := by decide +kernel
theorem dM_stepTo_122 : decode mM_stepTo.2.1 122 = .ok (.if_icmp .ne 7, 3) := by decide +kernel
theorem dM_stepTo_125 : decode mM_stepTo.2.1 125 = .ok (.iconst 3, 1) := by decide +kernel
theorem dM_stepTo_126 : decode mM_stepTo.2.1 126 = .ok (.goto 32, 3) := by decide +kernel
theorem dM_stepTo_129 : decode mM_stepTo.2.1 129 = .ok (.iload_n 3, 1) := by decide +kernel
theorem dM_stepTo_130 : decode mM_stepTo.2.1 130 = .ok (.ifCond .ne 7, 3) := by decide +kernel
theorem dM_stepTo_133 : decode mM_stepTo.2.1 133 = .ok (.iconst 0, 1) := by decide +kernel
theorem dM_stepTo_134 : decode mM_stepTo.2.1 134 = .ok (.goto 24, 3) := by decide +kernel
theorem dM_stepTo_137 : decode mM_stepTo.2.1 137 = .ok (.iload_n 2, 1) := by decide +kernel
theorem dM_stepTo_138 : decode mM_stepTo.2.1 138 = .ok (.bipush (-9), 2) := by decide +kernel
theorem dM_stepTo_140 : decode mM_stepTo.2.1 140 = .ok (.if_icmp .eq 17, 3) := by decide +kernel
theorem dM_stepTo_143 : decode mM_stepTo.2.1 143 = .ok (.aload_n 0, 1) := by decide +kernel
theorem dM_stepTo_144 : decode mM_stepTo.2.1 144 = .ok (.getfield 16, 3) := by decide +kernel
theorem dM_stepTo_147 : decode mM_stepTo.2.1 147 = .ok (.iload_n 2, 1) := by decide +kernel
theorem dM_stepTo_148 : decode mM_stepTo.2.1 148 = .ok (.iaload, 1) := by decide +kernel
theorem dM_stepTo_149 : decode mM_stepTo.2.1 149 = .ok (.iconst 2, 1) := by decide +kernel
theorem dM_stepTo_150 : decode mM_stepTo.2.1 150 = .ok (.if_icmp .ne 7, 3) := by decide +kernel
theorem dM_stepTo_153 : decode mM_stepTo.2.1 153 = .ok (.iconst 2, 1) := by decide +kernel
theorem dM_stepTo_154 : decode mM_stepTo.2.1 154 = .ok (.goto 4, 3) := by decide +kernel
theorem dM_stepTo_157 : decode mM_stepTo.2.1 157 = .ok (.iconst 1, 1) := by decide +kernel
theorem dM_stepTo_158 : decode mM_stepTo.2.1 158 = .ok (.ireturn, 1) := by decide +kernel
theorem dM_steps_0 : decode mM_steps.2.1 0 = .ok (.aload_n 0, 1) := by decide +kernel
theorem dM_steps_1 : decode mM_steps.2.1 1 = .ok (.getfield 16, 3) := by decide +kernel
theorem dM_steps_4 : decode mM_steps.2.1 4 = .ok (.bipush 110, 2) := by decide +kernel
theorem dM_steps_6 : decode mM_steps.2.1 6 = .ok (.iaload, 1) := by decide +kernel
theorem dM_steps_7 : decode mM_steps.2.1 7 = .ok (.ifCond .ne 6, 3) := by decide +kernel
theorem dM_steps_10 : decode mM_steps.2.1 10 = .ok (.bipush (-2), 2) := by decide +kernel
theorem dM_steps_12 : decode mM_steps.2.1 12 = .ok (.ireturn, 1) := by decide +kernel
theorem dM_steps_13 : decode mM_steps.2.1 13 = .ok (.aload_n 0, 1) := by decide +kernel
theorem dM_steps_14 : decode mM_steps.2.1 14 = .ok (.invokevirtual 97, 3) := by decide +kernel
theorem dM_steps_17 : decode mM_steps.2.1 17 = .ok (.aload_n 0, 1) := by decide +kernel
theorem dM_steps_18 : decode mM_steps.2.1 18 = .ok (.aload_n 0, 1) := by decide +kernel
theorem dM_steps_19 : decode mM_steps.2.1 19 = .ok (.getfield 16, 3) := by decide +kernel
theorem dM_steps_22 : decode mM_steps.2.1 22 = .ok (.bipush 109, 2) := by decide +kernel
theorem dM_steps_24 : decode mM_steps.2.1 24 = .ok (.iaload, 1) := by decide +kernel
theorem dM_steps_25 : decode mM_steps.2.1 25 = .ok (.invokevirtual 130, 3) := by decide +kernel
theorem dM_steps_28 : decode mM_steps.2.1 28 = .ok (.ireturn, 1) := by decide +kernel
theorem dM_rotates_0 : decode mM_rotates.2.1 0 = .ok (.iload_n 1, 1) := by decide +kernel
theorem dM_rotates_1 : decode mM_rotates.2.1 1 = .ok (.iconst 1, 1) := by decide +kernel
theorem dM_rotates_2 : decode mM_rotates.2.1 2 = .ok (.iconst 3, 1) := by decide +kernel
theorem dM_rotates_3 : decode mM_rotates.2.1 3 = .ok (.invokestatic 67, 3) := by decide +kernel
theorem dM_rotates_6 : decode mM_rotates.2.1 6 = .ok (.ifCond .ne 5, 3) := by decide +kernel
theorem dM_rotates_9 : decode mM_rotates.2.1 9 = .ok (.iconst (-1), 1) := by decide +kernel
theorem dM_rotates_10 : decode mM_rotates.2.1 10 = .ok (.ireturn, 1) := by decide +kernel
theorem dM_rotates_11 : decode mM_rotates.2.1 11 = .ok (.aload_n 0, 1) := by decide +kernel
theorem dM_rotates_12 : decode mM_rotates.2.1 12 = .ok (.invokevirtual 97, 3) := by decide +kernel
theorem dM_rotates_15 : decode mM_rotates.2.1 15 = .ok (.aload_n 0, 1) := by decide +kernel
theorem dM_rotates_16 : decode mM_rotates.2.1 16 = .ok (.getfield 16, 3) := by decide +kernel
theorem dM_rotates_19 : decode mM_rotates.2.1 19 = .ok (.bipush 109, 2) := by decide +kernel
theorem dM_rotates_21 : decode mM_rotates.2.1 21 = .ok (.aload_n 0, 1) := by decide +kernel
theorem dM_rotates_22 : decode mM_rotates.2.1 22 = .ok (.getfield 16, 3) := by decide +kernel
theorem dM_rotates_25 : decode mM_rotates.2.1 25 = .ok (.bipush 109, 2) := by decide +kernel
theorem dM_rotates_27 : decode mM_rotates.2.1 27 = .ok (.iaload, 1) := by decide +kernel
theorem dM_rotates_28 : decode mM_rotates.2.1 28 = .ok (.iload_n 1, 1) := by decide +kernel
theorem dM_rotates_29 : decode mM_rotates.2.1 29 = .ok (.iadd, 1) := by decide +kernel
theorem dM_rotates_30 : decode mM_rotates.2.1 30 = .ok (.iconst 4, 1) := by decide +kernel
theorem dM_rotates_31 : decode mM_rotates.2.1 31 = .ok (.irem, 1) := by decide +kernel
theorem dM_rotates_32 : decode mM_rotates.2.1 32 = .ok (.iastore, 1) := by decide +kernel
theorem dM_rotates_33 : decode mM_rotates.2.1 33 = .ok (.iconst 0, 1) := by decide +kernel
theorem dM_rotates_34 : decode mM_rotates.2.1 34 = .ok (.istore_n 2, 1) := by decide +kernel
theorem dM_rotates_35 : decode mM_rotates.2.1 35 = .ok (.iload_n 2, 1) := by decide +kernel
theorem dM_rotates_36 : decode mM_rotates.2.1 36 = .ok (.aload_n 0, 1) := by decide +kernel
theorem dM_rotates_37 : decode mM_rotates.2.1 37 = .ok (.invokevirtual 57, 3) := by decide +kernel
theorem dM_rotates_40 : decode mM_rotates.2.1 40 = .ok (.if_icmp .ge 38, 3) := by decide +kernel
theorem dM_rotates_43 : decode mM_rotates.2.1 43 = .ok (.aload_n 0, 1) := by decide +kernel
theorem dM_rotates_44 : decode mM_rotates.2.1 44 = .ok (.getfield 16, 3) := by decide +kernel
theorem dM_rotates_47 : decode mM_rotates.2.1 47 = .ok (.bipush 72, 2) := by decide +kernel
theorem dM_rotates_49 : decode mM_rotates.2.1 49 = .ok (.iload_n 2, 1) := by decide +kernel
theorem dM_rotates_50 : decode mM_rotates.2.1 50 = .ok (.iadd, 1) := by decide +kernel
theorem dM_rotates_51 : decode mM_rotates.2.1 51 = .ok (.iaload, 1) := by decide +kernel
theorem dM_rotates_52 : decode mM_rotates.2.1 52 = .ok (.iload_n 1, 1) := by decide +kernel
theorem dM_rotates_53 : decode mM_rotates.2.1 53 = .ok (.ishl, 1) := by decide +kernel
theorem dM_rotates_54 : decode mM_rotates.2.1 54 = .ok (.istore_n 3, 1) := by decide +kernel
theorem dM_rotates_55 : decode mM_rotates.2.1 55 = .ok (.aload_n 0, 1) := by decide +kernel
theorem dM_rotates_56 : decode mM_rotates.2.1 56 = .ok (.getfield 16, 3) := by decide +kernel
theorem dM_rotates_59 : decode mM_rotates.2.1 59 = .ok (.bipush 72, 2) := by decide +kernel
theorem dM_rotates_61 : decode mM_rotates.2.1 61 = .ok (.iload_n 2, 1) := by decide +kernel
theorem dM_rotates_62 : decode mM_rotates.2.1 62 = .ok (.iadd, 1) := by decide +kernel
theorem dM_rotates_63 : decode mM_rotates.2.1 63 = .ok (.iload_n 3, 1) := by decide +kernel
theorem dM_rotates_64 : decode mM_rotates.2.1 64 = .ok (.bipush 15, 2) := by decide +kernel
theorem dM_rotates_66 : decode mM_rotates.2.1 66 = .ok (.iand, 1) := by decide +kernel
theorem dM_rotates_67 : decode mM_rotates.2.1 67 = .ok (.iload_n 3, 1) := by decide +kernel
theorem dM_rotates_68 : decode mM_rotates.2.1 68 = .ok (.iconst 4, 1) := by decide +kernel
theorem dM_rotates_69 : decode mM_rotates.2.1 69 = .ok (.ishr, 1) := by decide +kernel
theorem dM_rotates_70 : decode mM_rotates.2.1 70 = .ok (.ior, 1) := by decide +kernel
theorem dM_rotates_71 : decode mM_rotates.2.1 71 = .ok (.iastore, 1) := by decide +kernel
theorem dM_rotates_72 : decode mM_rotates.2.1 72 = .ok (.iinc 2 1, 3) := by decide +kernel
theorem dM_rotates_75 : decode mM_rotates.2.1 75 = .ok (.goto (-40), 3) := by decide +kernel
theorem dM_rotates_78 : decode mM_rotates.2.1 78 = .ok (.aload_n 0, 1) := by decide +kernel
theorem dM_rotates_79 : decode mM_rotates.2.1 79 = .ok (.invokevirtual 120, 3) := by decide +kernel
theorem dM_rotates_82 : decode mM_rotates.2.1 82 = .ok (.aload_n 0, 1) := by decide +kernel
theorem dM_rotates_83 : decode mM_rotates.2.1 83 = .ok (.getfield 16, 3) := by decide +kernel
theorem dM_rotates_86 : decode mM_rotates.2.1 86 = .ok (.bipush 109, 2) := by decide +kernel
theorem dM_rotates_88 : decode mM_rotates.2.1 88 = .ok (.iaload, 1) := by decide +kernel
theorem dM_rotates_89 : decode mM_rotates.2.1 89 = .ok (.ireturn, 1) := by decide +kernel
theorem dM_part_0 : decode mM_part.2.1 0 = .ok (.iload_n 0, 1) := by decide +kernel
theorem dM_part_1 : decode mM_part.2.1 1 = .ok (.istore_n 2, 1) := by decide +kernel
theorem dM_part_2 : decode mM_part.2.1 2 = .ok (.iload_n 1, 1) := by decide +kernel
theorem dM_part_3 : decode mM_part.2.1 3 = .ok (.istore_n 3, 1) := by decide +kernel
theorem dM_part_4 : decode mM_part.2.1 4 = .ok (.iload_n 3, 1) := by decide +kernel
theorem dM_part_5 : decode mM_part.2.1 5 = .ok (.iconst 3, 1) := by decide +kernel
theorem dM_part_6 : decode mM_part.2.1 6 = .ok (.if_icmp .ge 13, 3) := by decide +kernel
theorem dM_part_9 : decode mM_part.2.1 9 = .ok (.iload_n 2, 1) := by decide +kernel
theorem dM_part_10 : decode mM_part.2.1 10 = .ok (.iconst 3, 1) := by decide +kernel
theorem dM_part_11 : decode mM_part.2.1 11 = .ok (.idiv, 1) := by decide +kernel
theorem dM_part_12 : decode mM_part.2.1 12 = .ok (.istore_n 2, 1) := by decide +kernel
theorem dM_part_13 : decode mM_part.2.1 13 = .ok (.iinc 3 1, 3) := by decide +kernel
theorem dM_part_16 : decode mM_part.2.1 16 = .ok (.goto (-12), 3) := by decide +kernel
theorem dM_part_19 : decode mM_part.2.1 19 = .ok (.iload_n 2, 1) := by decide +kernel
theorem dM_part_20 : decode mM_part.2.1 20 = .ok (.iconst 3, 1) := by decide +kernel
theorem dM_part_21 : decode mM_part.2.1 21 = .ok (.irem, 1) := by decide +kernel
theorem dM_part_22 : decode mM_part.2.1 22 = .ok (.ireturn, 1) := by decide +kernel
theorem dM_canScan_0 : decode mM_canScan.2.1 0 = .ok (.iconst 1, 1) := by decide +kernel
theorem dM_canScan_1 : decode mM_canScan.2.1 1 = .ok (.istore 4, 2) := by decide +kernel
theorem dM_canScan_3 : decode mM_canScan.2.1 3 = .ok (.iconst 0, 1) := by decide +kernel
theorem dM_canScan_4 : decode mM_canScan.2.1 4 = .ok (.istore 5, 2) := by decide +kernel
theorem dM_canScan_6 : decode mM_canScan.2.1 6 = .ok (.iload 5, 2) := by decide +kernel
theorem dM_canScan_8 : decode mM_canScan.2.1 8 = .ok (.iconst 4, 1) := by decide +kernel
theorem dM_canScan_9 : decode mM_canScan.2.1 9 = .ok (.if_icmp .ge 45, 3) := by decide +kernel
theorem dM_canScan_12 : decode mM_canScan.2.1 12 = .ok (.iload 4, 2) := by decide +kernel
theorem dM_canScan_14 : decode mM_canScan.2.1 14 = .ok (.ifCond .eq 31, 3) := by decide +kernel
theorem dM_canScan_17 : decode mM_canScan.2.1 17 = .ok (.aload_n 0, 1) := by decide +kernel
theorem dM_canScan_18 : decode mM_canScan.2.1 18 = .ok (.aload_n 0, 1) := by decide +kernel
theorem dM_canScan_19 : decode mM_canScan.2.1 19 = .ok (.iload_n 1, 1) := by decide +kernel
theorem dM_canScan_20 : decode mM_canScan.2.1 20 = .ok (.iload_n 2, 1) := by decide +kernel
theorem dM_canScan_21 : decode mM_canScan.2.1 21 = .ok (.iload 5, 2) := by decide +kernel
theorem dM_canScan_23 : decode mM_canScan.2.1 23 = .ok (.iadd, 1) := by decide +kernel
theorem dM_canScan_24 : decode mM_canScan.2.1 24 = .ok (.iconst 4, 1) := by decide +kernel
theorem dM_canScan_25 : decode mM_canScan.2.1 25 = .ok (.irem, 1) := by decide +kernel
theorem dM_canScan_26 : decode mM_canScan.2.1 26 = .ok (.invokevirtual 109, 3) := by decide +kernel
theorem dM_canScan_29 : decode mM_canScan.2.1 29 = .ok (.iload_n 3, 1) := by decide +kernel
theorem dM_canScan_30 : decode mM_canScan.2.1 30 = .ok (.iload 5, 2) := by decide +kernel
theorem dM_canScan_32 : decode mM_canScan.2.1 32 = .ok (.invokestatic 133, 3) := by decide +kernel
theorem dM_canScan_35 : decode mM_canScan.2.1 35 = .ok (.invokevirtual 113, 3) := by decide +kernel
theorem dM_canScan_38 : decode mM_canScan.2.1 38 = .ok (.ifCond .eq 7, 3) := by decide +kernel
theorem dM_canScan_41 : decode mM_canScan.2.1 41 = .ok (.iconst 1, 1) := by decide +kernel
theorem dM_canScan_42 : decode mM_canScan.2.1 42 = .ok (.goto 4, 3) := by decide +kernel
theorem dM_canScan_45 : decode mM_canScan.2.1 45 = .ok (.iconst 0, 1) := by decide +kernel
theorem dM_canScan_46 : decode mM_canScan.2.1 46 = .ok (.istore 4, 2) := by decide +kernel
theorem dM_canScan_48 : decode mM_canScan.2.1 48 = .ok (.iinc 5 1, 3) := by decide +kernel
theorem dM_canScan_51 : decode mM_canScan.2.1 51 = .ok (.goto (-45), 3) := by decide +kernel
theorem dM_canScan_54 : decode mM_canScan.2.1 54 = .ok (.iload 4, 2) := by decide +kernel
theorem dM_canScan_56 : decode mM_canScan.2.1 56 = .ok (.ireturn, 1) := by decide +kernel
theorem dM_scans_0 : decode mM_scans.2.1 0 = .ok (.aload_n 0, 1) := by decide +kernel
theorem dM_scans_1 : decode mM_scans.2.1 1 = .ok (.invokevirtual 97, 3) := by decide +kernel
theorem dM_scans_4 : decode mM_scans.2.1 4 = .ok (.iconst 0, 1) := by decide +kernel
theorem dM_scans_5 : decode mM_scans.2.1 5 = .ok (.istore_n 1, 1) := by decide +kernel
theorem dM_scans_6 : decode mM_scans.2.1 6 = .ok (.iconst 0, 1) := by decide +kernel
theorem dM_scans_7 : decode mM_scans.2.1 7 = .ok (.istore_n 2, 1) := by decide +kernel
theorem dM_scans_8 : decode mM_scans.2.1 8 = .ok (.iload_n 2, 1) := by decide +kernel
theorem dM_scans_9 : decode mM_scans.2.1 9 = .ok (.iconst 4, 1) := by decide +kernel
theorem dM_scans_10 : decode mM_scans.2.1 10 = .ok (.if_icmp .ge 40, 3) := by decide +kernel
theorem dM_scans_13 : decode mM_scans.2.1 13 = .ok (.iconst 3, 1) := by decide +kernel
theorem dM_scans_14 : decode mM_scans.2.1 14 = .ok (.iload_n 1, 1) := by decide +kernel
theorem dM_scans_15 : decode mM_scans.2.1 15 = .ok (.imul, 1) := by decide +kernel
theorem dM_scans_16 : decode mM_scans.2.1 16 = .ok (.aload_n 0, 1) := by decide +kernel
theorem dM_scans_17 : decode mM_scans.2.1 17 = .ok (.aload_n 0, 1) := by decide +kernel
theorem dM_scans_18 : decode mM_scans.2.1 18 = .ok (.aload_n 0, 1) := by decide +kernel
theorem dM_scans_19 : decode mM_scans.2.1 19 = .ok (.getfield 16, 3) := by decide +kernel
theorem dM_scans_22 : decode mM_scans.2.1 22 = .ok (.bipush 108, 2) := by decide +kernel
theorem dM_scans_24 : decode mM_scans.2.1 24 = .ok (.iaload, 1) := by decide +kernel
theorem dM_scans_25 : decode mM_scans.2.1 25 = .ok (.aload_n 0, 1) := by decide +kernel
theorem dM_scans_26 : decode mM_scans.2.1 26 = .ok (.getfield 16, 3) := by decide +kernel
theorem dM_scans_29 : decode mM_scans.2.1 29 = .ok (.bipush 109, 2) := by decide +kernel
theorem dM_scans_31 : decode mM_scans.2.1 31 = .ok (.iaload, 1) := by decide +kernel
theorem dM_scans_32 : decode mM_scans.2.1 32 = .ok (.iload_n 2, 1) := by decide +kernel
theorem dM_scans_33 : decode mM_scans.2.1 33 = .ok (.iadd, 1) := by decide +kernel
theorem dM_scans_34 : decode mM_scans.2.1 34 = .ok (.iconst 4, 1) := by decide +kernel
theorem dM_scans_35 : decode mM_scans.2.1 35 = .ok (.irem, 1) := by decide +kernel
theorem dM_scans_36 : decode mM_scans.2.1 36 = .ok (.invokevirtual 109, 3) := by decide +kernel
theorem dM_scans_39 : decode mM_scans.2.1 39 = .ok (.invokevirtual 123, 3) := by decide +kernel
theorem dM_scans_42 : decode mM_scans.2.1 42 = .ok (.iadd, 1) := by decide +kernel
theorem dM_scans_43 : decode mM_scans.2.1 43 = .ok (.istore_n 1, 1) := by decide +kernel
theorem dM_scans_44 : decode mM_scans.2.1 44 = .ok (.iinc 2 1, 3) := by decide +kernel
theorem dM_scans_47 : decode mM_scans.2.1 47 = .ok (.goto (-39), 3) := by decide +kernel
theorem dM_scans_50 : decode mM_scans.2.1 50 = .ok (.iconst 0, 1) := by decide +kernel
theorem dM_scans_51 : decode mM_scans.2.1 51 = .ok (.istore_n 2, 1) := by decide +kernel
theorem dM_scans_52 : decode mM_scans.2.1 52 = .ok (.iload_n 2, 1) := by decide +kernel
theorem dM_scans_53 : decode mM_scans.2.1 53 = .ok (.iconst 4, 1) := by decide +kernel
theorem dM_scans_54 : decode mM_scans.2.1 54 = .ok (.aload_n 0, 1) := by decide +kernel
theorem dM_scans_55 : decode mM_scans.2.1 55 = .ok (.invokevirtual 57, 3) := by decide +kernel
theorem dM_scans_58 : decode mM_scans.2.1 58 = .ok (.imul, 1) := by decide +kernel
theorem dM_scans_59 : decode mM_scans.2.1 59 = .ok (.if_icmp .ge 55, 3) := by decide +kernel
theorem dM_scans_62 : decode mM_scans.2.1 62 = .ok (.aload_n 0, 1) := by decide +kernel
theorem dM_scans_63 : decode mM_scans.2.1 63 = .ok (.getfield 16, 3) := by decide +kernel
theorem dM_scans_66 : decode mM_scans.2.1 66 = .ok (.bipush 111, 2) := by decide +kernel
theorem dM_scans_68 : decode mM_scans.2.1 68 = .ok (.iaload, 1) := by decide +kernel
theorem dM_scans_69 : decode mM_scans.2.1 69 = .ok (.iconst 1, 1) := by decide +kernel
theorem dM_scans_70 : decode mM_scans.2.1 70 = .ok (.if_icmp .ne 44, 3) := by decide +kernel
theorem dM_scans_73 : decode mM_scans.2.1 73 = .ok (.aload_n 0, 1) := by decide +kernel
theorem dM_scans_74 : decode mM_scans.2.1 74 = .ok (.iload_n 2, 1) := by decide +kernel
theorem dM_scans_75 : decode mM_scans.2.1 75 = .ok (.iconst 4, 1) := by decide +kernel
theorem dM_scans_76 : decode mM_scans.2.1 76 = .ok (.idiv, 1) := by decide +kernel
theorem dM_scans_77 : decode mM_scans.2.1 77 = .ok (.iload_n 2, 1) := by decide +kernel
theorem dM_scans_78 : decode mM_scans.2.1 78 = .ok (.iconst 4, 1) := by decide +kernel
theorem dM_scans_79 : decode mM_scans.2.1 79 = .ok (.irem, 1) := by decide +kernel
theorem dM_scans_80 : decode mM_scans.2.1 80 = .ok (.iload_n 1, 1) := by decide +kernel
theorem dM_scans_81 : decode mM_scans.2.1 81 = .ok (.invokevirtual 136, 3) := by decide +kernel
theorem dM_scans_84 : decode mM_scans.2.1 84 = .ok (.ifCond .ne 24, 3) := by decide +kernel
theorem dM_scans_87 : decode mM_scans.2.1 87 = .ok (.aload_n 0, 1) := by decide +kernel
theorem dM_scans_88 : decode mM_scans.2.1 88 = .ok (.getfield 16, 3) := by decide +kernel
theorem dM_scans_91 : decode mM_scans.2.1 91 = .ok (.bipush 72, 2) := by decide +kernel
theorem dM_scans_93 : decode mM_scans.2.1 93 = .ok (.iload_n 2, 1) := by decide +kernel
theorem dM_scans_94 : decode mM_scans.2.1 94 = .ok (.iconst 4, 1) := by decide +kernel
theorem dM_scans_95 : decode mM_scans.2.1 95 = .ok (.idiv, 1) := by decide +kernel
theorem dM_scans_96 : decode mM_scans.2.1 96 = .ok (.iadd, 1) := by decide +kernel
theorem dM_scans_97 : decode mM_scans.2.1 97 = .ok (.dup2, 1) := by decide +kernel
theorem dM_scans_98 : decode mM_scans.2.1 98 = .ok (.iaload, 1) := by decide +kernel
theorem dM_scans_99 : decode mM_scans.2.1 99 = .ok (.iconst 1, 1) := by decide +kernel
theorem dM_scans_100 : decode mM_scans.2.1 100 = .ok (.iload_n 2, 1) := by decide +kernel
theorem dM_scans_101 : decode mM_scans.2.1 101 = .ok (.iconst 4, 1) := by decide +kernel
theorem dM_scans_102 : decode mM_scans.2.1 102 = .ok (.irem, 1) := by decide +kernel
theorem dM_scans_103 : decode mM_scans.2.1 103 = .ok (.ishl, 1) := by decide +kernel
theorem dM_scans_104 : decode mM_scans.2.1 104 = .ok (.iconst (-1), 1) := by decide +kernel
theorem dM_scans_105 : decode mM_scans.2.1 105 = .ok (.ixor, 1) := by decide +kernel
theorem dM_scans_106 : decode mM_scans.2.1 106 = .ok (.iand, 1) := by decide +kernel
theorem dM_scans_107 : decode mM_scans.2.1 107 = .ok (.iastore, 1) := by decide +kernel
theorem dM_scans_108 : decode mM_scans.2.1 108 = .ok (.iinc 2 1, 3) := by decide +kernel
theorem dM_scans_111 : decode mM_scans.2.1 111 = .ok (.goto (-59), 3) := by decide +kernel
theorem dM_scans_114 : decode mM_scans.2.1 114 = .ok (.aload_n 0, 1) := by decide +kernel
theorem dM_scans_115 : decode mM_scans.2.1 115 = .ok (.invokevirtual 120, 3) := by decide +kernel
theorem dM_scans_118 : decode mM_scans.2.1 118 = .ok (.iload_n 1, 1) := by decide +kernel
theorem dM_scans_119 : decode mM_scans.2.1 119 = .ok (.ireturn, 1) := by decide +kernel
theorem dM_carries_0 : decode mM_carries.2.1 0 = .ok (.aload_n 0, 1) := by decide +kernel
theorem dM_carries_1 : decode mM_carries.2.1 1 = .ok (.iload_n 1, 1) := by decide +kernel
theorem dM_carries_2 : decode mM_carries.2.1 2 = .ok (.invokevirtual 94, 3) := by decide +kernel
theorem dM_carries_5 : decode mM_carries.2.1 5 = .ok (.ifCond .eq 20, 3) := by decide +kernel
theorem dM_carries_8 : decode mM_carries.2.1 8 = .ok (.aload_n 0, 1) := by decide +kernel
theorem dM_carries_9 : decode mM_carries.2.1 9 = .ok (.iload_n 1, 1) := by decide +kernel
theorem dM_carries_10 : decode mM_carries.2.1 10 = .ok (.invokevirtual 103, 3) := by decide +kernel
theorem dM_carries_13 : decode mM_carries.2.1 13 = .ok (.ifCond .eq 12, 3) := by decide +kernel
theorem dM_carries_16 : decode mM_carries.2.1 16 = .ok (.iload_n 2, 1) := by decide +kernel
theorem dM_carries_17 : decode mM_carries.2.1 17 = .ok (.iconst 0, 1) := by decide +kernel
theorem dM_carries_18 : decode mM_carries.2.1 18 = .ok (.iconst 3, 1) := by decide +kernel
theorem dM_carries_19 : decode mM_carries.2.1 19 = .ok (.invokestatic 67, 3) := by decide +kernel
theorem dM_carries_22 : decode mM_carries.2.1 22 = .ok (.ifCond .ne 5, 3) := by decide +kernel
theorem dM_carries_25 : decode mM_carries.2.1 25 = .ok (.iconst (-1), 1) := by decide +kernel
theorem dM_carries_26 : decode mM_carries.2.1 26 = .ok (.ireturn, 1) := by decide +kernel
theorem dM_carries_27 : decode mM_carries.2.1 27 = .ok (.aload_n 0, 1) := by decide +kernel
theorem dM_carries_28 : decode mM_carries.2.1 28 = .ok (.invokevirtual 97, 3) := by decide +kernel
theorem dM_carries_31 : decode mM_carries.2.1 31 = .ok (.aload_n 0, 1) := by decide +kernel
theorem dM_carries_32 : decode mM_carries.2.1 32 = .ok (.getfield 16, 3) := by decide +kernel
theorem dM_carries_35 : decode mM_carries.2.1 35 = .ok (.bipush 108, 2) := by decide +kernel
theorem dM_carries_37 : decode mM_carries.2.1 37 = .ok (.iload_n 1, 1) := by decide +kernel
theorem dM_carries_38 : decode mM_carries.2.1 38 = .ok (.iastore, 1) := by decide +kernel
theorem dM_carries_39 : decode mM_carries.2.1 39 = .ok (.aload_n 0, 1) := by decide +kernel
theorem dM_carries_40 : decode mM_carries.2.1 40 = .ok (.getfield 16, 3) := by decide +kernel
theorem dM_carries_43 : decode mM_carries.2.1 43 = .ok (.bipush 109, 2) := by decide +kernel
theorem dM_carries_45 : decode mM_carries.2.1 45 = .ok (.iload_n 2, 1) := by decide +kernel
theorem dM_carries_46 : decode mM_carries.2.1 46 = .ok (.iastore, 1) := by decide +kernel
theorem dM_carries_47 : decode mM_carries.2.1 47 = .ok (.aload_n 0, 1) := by decide +kernel
theorem dM_carries_48 : decode mM_carries.2.1 48 = .ok (.getfield 16, 3) := by decide +kernel
theorem dM_carries_51 : decode mM_carries.2.1 51 = .ok (.bipush 111, 2) := by decide +kernel
theorem dM_carries_53 : decode mM_carries.2.1 53 = .ok (.iconst 1, 1) := by decide +kernel
theorem dM_carries_54 : decode mM_carries.2.1 54 = .ok (.iastore, 1) := by decide +kernel
theorem dM_carries_55 : decode mM_carries.2.1 55 = .ok (.iconst 0, 1) := by decide +kernel
theorem dM_carries_56 : decode mM_carries.2.1 56 = .ok (.istore_n 3, 1) := by decide +kernel
theorem dM_carries_57 : decode mM_carries.2.1 57 = .ok (.iload_n 3, 1) := by decide +kernel
theorem dM_carries_58 : decode mM_carries.2.1 58 = .ok (.aload_n 0, 1) := by decide +kernel
theorem dM_carries_59 : decode mM_carries.2.1 59 = .ok (.invokevirtual 57, 3) := by decide +kernel
theorem dM_carries_62 : decode mM_carries.2.1 62 = .ok (.if_icmp .ge 67, 3) := by decide +kernel
theorem dM_carries_65 : decode mM_carries.2.1 65 = .ok (.aload_n 0, 1) := by decide +kernel
theorem dM_carries_66 : decode mM_carries.2.1 66 = .ok (.getfield 16, 3) := by decide +kernel
theorem dM_carries_69 : decode mM_carries.2.1 69 = .ok (.iload_n 3, 1) := by decide +kernel
theorem dM_carries_70 : decode mM_carries.2.1 70 = .ok (.iaload, 1) := by decide +kernel
theorem dM_carries_71 : decode mM_carries.2.1 71 = .ok (.iconst 3, 1) := by decide +kernel
theorem dM_carries_72 : decode mM_carries.2.1 72 = .ok (.if_icmp .eq 28, 3) := by decide +kernel
theorem dM_carries_75 : decode mM_carries.2.1 75 = .ok (.aload_n 0, 1) := by decide +kernel
theorem dM_carries_76 : decode mM_carries.2.1 76 = .ok (.getfield 16, 3) := by decide +kernel
theorem dM_carries_79 : decode mM_carries.2.1 79 = .ok (.bipush 36, 2) := by decide +kernel
theorem dM_carries_81 : decode mM_carries.2.1 81 = .ok (.iload_n 3, 1) := by decide +kernel
theorem dM_carries_82 : decode mM_carries.2.1 82 = .ok (.iadd, 1) := by decide +kernel
theorem dM_carries_83 : decode mM_carries.2.1 83 = .ok (.iaload, 1) := by decide +kernel
theorem dM_carries_84 : decode mM_carries.2.1 84 = .ok (.iconst 2, 1) := by decide +kernel
theorem dM_carries_85 : decode mM_carries.2.1 85 = .ok (.if_icmp .ne 11, 3) := by decide +kernel
theorem dM_carries_88 : decode mM_carries.2.1 88 = .ok (.aload_n 0, 1) := by decide +kernel
theorem dM_carries_89 : decode mM_carries.2.1 89 = .ok (.iload_n 3, 1) := by decide +kernel
theorem dM_carries_90 : decode mM_carries.2.1 90 = .ok (.invokevirtual 100, 3) := by decide +kernel
theorem dM_carries_93 : decode mM_carries.2.1 93 = .ok (.ifCond .eq 7, 3) := by decide +kernel
theorem dM_carries_96 : decode mM_carries.2.1 96 = .ok (.iconst 1, 1) := by decide +kernel
theorem dM_carries_97 : decode mM_carries.2.1 97 = .ok (.goto 4, 3) := by decide +kernel
theorem dM_carries_100 : decode mM_carries.2.1 100 = .ok (.iconst 0, 1) := by decide +kernel
theorem dM_carries_101 : decode mM_carries.2.1 101 = .ok (.istore 4, 2) := by decide +kernel
theorem dM_carries_103 : decode mM_carries.2.1 103 = .ok (.aload_n 0, 1) := by decide +kernel
theorem dM_carries_104 : decode mM_carries.2.1 104 = .ok (.getfield 16, 3) := by decide +kernel
theorem dM_carries_107 : decode mM_carries.2.1 107 = .ok (.bipush 72, 2) := by decide +kernel
theorem dM_carries_109 : decode mM_carries.2.1 109 = .ok (.iload_n 3, 1) := by decide +kernel
theorem dM_carries_110 : decode mM_carries.2.1 110 = .ok (.iadd, 1) := by decide +kernel
theorem dM_carries_111 : decode mM_carries.2.1 111 = .ok (.iload 4, 2) := by decide +kernel
theorem dM_carries_113 : decode mM_carries.2.1 113 = .ok (.ifCond .eq 8, 3) := by decide +kernel
theorem dM_carries_116 : decode mM_carries.2.1 116 = .ok (.bipush 15, 2) := by decide +kernel
theorem dM_carries_118 : decode mM_carries.2.1 118 = .ok (.goto 4, 3) := by decide +kernel
theorem dM_carries_121 : decode mM_carries.2.1 121 = .ok (.iconst 0, 1) := by decide +kernel
theorem dM_carries_122 : decode mM_carries.2.1 122 = .ok (.iastore, 1) := by decide +kernel
theorem dM_carries_123 : decode mM_carries.2.1 123 = .ok (.iinc 3 1, 3) := by decide +kernel
theorem dM_carries_126 : decode mM_carries.2.1 126 = .ok (.goto (-69), 3) := by decide +kernel
theorem dM_carries_129 : decode mM_carries.2.1 129 = .ok (.aload_n 0, 1) := by decide +kernel
theorem dM_carries_130 : decode mM_carries.2.1 130 = .ok (.invokevirtual 106, 3) := by decide +kernel
theorem dM_carries_133 : decode mM_carries.2.1 133 = .ok (.istore_n 3, 1) := by decide +kernel
theorem dM_carries_134 : decode mM_carries.2.1 134 = .ok (.aload_n 0, 1) := by decide +kernel
theorem dM_carries_135 : decode mM_carries.2.1 135 = .ok (.invokevirtual 120, 3) := by decide +kernel
theorem dM_carries_138 : decode mM_carries.2.1 138 = .ok (.iload_n 3, 1) := by decide +kernel
theorem dM_carries_139 : decode mM_carries.2.1 139 = .ok (.ireturn, 1) := by decide +kernel
theorem dM_lays_0 : decode mM_lays.2.1 0 = .ok (.iconst 0, 1) := by decide +kernel
theorem dM_lays_1 : decode mM_lays.2.1 1 = .ok (.istore 4, 2) := by decide +kernel
theorem dM_lays_3 : decode mM_lays.2.1 3 = .ok (.iload 4, 2) := by decide +kernel
theorem dM_lays_5 : decode mM_lays.2.1 5 = .ok (.aload_n 0, 1) := by decide +kernel
theorem dM_lays_6 : decode mM_lays.2.1 6 = .ok (.invokevirtual 57, 3) := by decide +kernel
theorem dM_lays_9 : decode mM_lays.2.1 9 = .ok (.if_icmp .ge 15, 3) := by decide +kernel
theorem dM_lays_12 : decode mM_lays.2.1 12 = .ok (.aload_n 3, 1) := by decide +kernel
theorem dM_lays_13 : decode mM_lays.2.1 13 = .ok (.iload 4, 2) := by decide +kernel
theorem dM_lays_15 : decode mM_lays.2.1 15 = .ok (.bipush (-9), 2) := by decide +kernel
theorem dM_lays_17 : decode mM_lays.2.1 17 = .ok (.iastore, 1) := by decide +kernel
theorem dM_lays_18 : decode mM_lays.2.1 18 = .ok (.iinc 4 1, 3) := by decide +kernel
theorem dM_lays_21 : decode mM_lays.2.1 21 = .ok (.goto (-18), 3) := by decide +kernel
theorem dM_lays_24 : decode mM_lays.2.1 24 = .ok (.iload_n 2, 1) := by decide +kernel
theorem dM_lays_25 : decode mM_lays.2.1 25 = .ok (.ifCond .eq 17, 3) := by decide +kernel
theorem dM_lays_28 : decode mM_lays.2.1 28 = .ok (.aload_n 0, 1) := by decide +kernel
theorem dM_lays_29 : decode mM_lays.2.1 29 = .ok (.getfield 16, 3) := by decide +kernel
theorem dM_lays_32 : decode mM_lays.2.1 32 = .ok (.bipush 36, 2) := by decide +kernel
theorem dM_lays_34 : decode mM_lays.2.1 34 = .ok (.iload_n 1, 1) := by decide +kernel
theorem dM_lays_35 : decode mM_lays.2.1 35 = .ok (.iadd, 1) := by decide +kernel
theorem dM_lays_36 : decode mM_lays.2.1 36 = .ok (.iaload, 1) := by decide +kernel
theorem dM_lays_37 : decode mM_lays.2.1 37 = .ok (.iconst 1, 1) := by decide +kernel
theorem dM_lays_38 : decode mM_lays.2.1 38 = .ok (.if_icmp .eq 4, 3) := by decide +kernel
theorem dM_lays_41 : decode mM_lays.2.1 41 = .ok (.return_, 1) := by decide +kernel
theorem dM_lays_42 : decode mM_lays.2.1 42 = .ok (.aload_n 3, 1) := by decide +kernel
theorem dM_lays_43 : decode mM_lays.2.1 43 = .ok (.iload_n 1, 1) := by decide +kernel
theorem dM_lays_44 : decode mM_lays.2.1 44 = .ok (.iconst 0, 1) := by decide +kernel
theorem dM_lays_45 : decode mM_lays.2.1 45 = .ok (.iastore, 1) := by decide +kernel
theorem dM_lays_46 : decode mM_lays.2.1 46 = .ok (.iconst 0, 1) := by decide +kernel
theorem dM_lays_47 : decode mM_lays.2.1 47 = .ok (.istore 4, 2) := by decide +kernel
theorem dM_lays_49 : decode mM_lays.2.1 49 = .ok (.iload 4, 2) := by decide +kernel
theorem dM_lays_51 : decode mM_lays.2.1 51 = .ok (.aload_n 0, 1) := by decide +kernel
theorem dM_lays_52 : decode mM_lays.2.1 52 = .ok (.invokevirtual 57, 3) := by decide +kernel
theorem dM_lays_55 : decode mM_lays.2.1 55 = .ok (.if_icmp .ge 127, 3) := by decide +kernel
theorem dM_lays_58 : decode mM_lays.2.1 58 = .ok (.iconst 0, 1) := by decide +kernel
theorem dM_lays_59 : decode mM_lays.2.1 59 = .ok (.istore 5, 2) := by decide +kernel
theorem dM_lays_61 : decode mM_lays.2.1 61 = .ok (.iload 5, 2) := by decide +kernel
theorem dM_lays_63 : decode mM_lays.2.1 63 = .ok (.aload_n 0, 1) := by decide +kernel
theorem dM_lays_64 : decode mM_lays.2.1 64 = .ok (.invokevirtual 57, 3) := by decide +kernel
theorem dM_lays_67 : decode mM_lays.2.1 67 = .ok (.if_icmp .ge 109, 3) := by decide +kernel
theorem dM_lays_70 : decode mM_lays.2.1 70 = .ok (.iconst 0, 1) := by decide +kernel
theorem dM_lays_71 : decode mM_lays.2.1 71 = .ok (.istore 6, 2) := by decide +kernel
theorem dM_lays_73 : decode mM_lays.2.1 73 = .ok (.iload 6, 2) := by decide +kernel
theorem dM_lays_75 : decode mM_lays.2.1 75 = .ok (.iconst 4, 1) := by decide +kernel
theorem dM_lays_76 : decode mM_lays.2.1 76 = .ok (.if_icmp .ge 94, 3) := by decide +kernel
theorem dM_lays_79 : decode mM_lays.2.1 79 = .ok (.aload_n 3, 1) := by decide +kernel
theorem dM_lays_80 : decode mM_lays.2.1 80 = .ok (.iload 5, 2) := by decide +kernel
theorem dM_lays_82 : decode mM_lays.2.1 82 = .ok (.iaload, 1) := by decide +kernel
theorem dM_lays_83 : decode mM_lays.2.1 83 = .ok (.iload 4, 2) := by decide +kernel
theorem dM_lays_85 : decode mM_lays.2.1 85 = .ok (.if_icmp .ne 85, 3) := by decide +kernel
theorem dM_lays_88 : decode mM_lays.2.1 88 = .ok (.aload_n 0, 1) := by decide +kernel
theorem dM_lays_89 : decode mM_lays.2.1 89 = .ok (.iload 5, 2) := by decide +kernel
theorem dM_lays_91 : decode mM_lays.2.1 91 = .ok (.iload 6, 2) := by decide +kernel
theorem dM_lays_93 : decode mM_lays.2.1 93 = .ok (.invokevirtual 109, 3) := by decide +kernel
theorem dM_lays_96 : decode mM_lays.2.1 96 = .ok (.istore 7, 2) := by decide +kernel
theorem dM_lays_98 : decode mM_lays.2.1 98 = .ok (.iload 7, 2) := by decide +kernel
theorem dM_lays_100 : decode mM_lays.2.1 100 = .ok (.bipush (-9), 2) := by decide +kernel
theorem dM_lays_102 : decode mM_lays.2.1 102 = .ok (.if_icmp .eq 46, 3) := by decide +kernel
theorem dM_lays_105 : decode mM_lays.2.1 105 = .ok (.aload_n 3, 1) := by decide +kernel
theorem dM_lays_106 : decode mM_lays.2.1 106 = .ok (.iload 7, 2) := by decide +kernel
theorem dM_lays_108 : decode mM_lays.2.1 108 = .ok (.iaload, 1) := by decide +kernel
theorem dM_lays_109 : decode mM_lays.2.1 109 = .ok (.bipush (-9), 2) := by decide +kernel
theorem dM_lays_111 : decode mM_lays.2.1 111 = .ok (.if_icmp .ne 37, 3) := by decide +kernel
theorem dM_lays_114 : decode mM_lays.2.1 114 = .ok (.iload_n 2, 1) := by decide +kernel
theorem dM_lays_115 : decode mM_lays.2.1 115 = .ok (.ifCond .eq 20, 3) := by decide +kernel
theorem dM_lays_118 : decode mM_lays.2.1 118 = .ok (.aload_n 0, 1) := by decide +kernel
theorem dM_lays_119 : decode mM_lays.2.1 119 = .ok (.getfield 16, 3) := by decide +kernel
theorem dM_lays_122 : decode mM_lays.2.1 122 = .ok (.bipush 36, 2) := by decide +kernel
theorem dM_lays_124 : decode mM_lays.2.1 124 = .ok (.iload 7, 2) := by decide +kernel
theorem dM_lays_126 : decode mM_lays.2.1 126 = .ok (.iadd, 1) := by decide +kernel
theorem dM_lays_127 : decode mM_lays.2.1 127 = .ok (.iaload, 1) := by decide +kernel
theorem dM_lays_128 : decode mM_lays.2.1 128 = .ok (.iconst 1, 1) := by decide +kernel
theorem dM_lays_129 : decode mM_lays.2.1 129 = .ok (.if_icmp .ne 19, 3) := by decide +kernel
theorem dM_lays_132 : decode mM_lays.2.1 132 = .ok (.goto 12, 3) := by decide +kernel
theorem dM_lays_135 : decode mM_lays.2.1 135 = .ok (.aload_n 0, 1) := by decide +kernel
theorem dM_lays_136 : decode mM_lays.2.1 136 = .ok (.iload 7, 2) := by decide +kernel
theorem dM_lays_138 : decode mM_lays.2.1 138 = .ok (.invokevirtual 103, 3) := by decide +kernel
theorem dM_lays_141 : decode mM_lays.2.1 141 = .ok (.ifCond .eq 7, 3) := by decide +kernel
theorem dM_lays_144 : decode mM_lays.2.1 144 = .ok (.iconst 1, 1) := by decide +kernel
theorem dM_lays_145 : decode mM_lays.2.1 145 = .ok (.goto 4, 3) := by decide +kernel
theorem dM_lays_148 : decode mM_lays.2.1 148 = .ok (.iconst 0, 1) := by decide +kernel
theorem dM_lays_149 : decode mM_lays.2.1 149 = .ok (.istore 8, 2) := by decide +kernel
theorem dM_lays_151 : decode mM_lays.2.1 151 = .ok (.iload 8, 2) := by decide +kernel
theorem dM_lays_153 : decode mM_lays.2.1 153 = .ok (.ifCond .eq 11, 3) := by decide +kernel
theorem dM_lays_156 : decode mM_lays.2.1 156 = .ok (.aload_n 3, 1) := by decide +kernel
theorem dM_lays_157 : decode mM_lays.2.1 157 = .ok (.iload 7, 2) := by decide +kernel
theorem dM_lays_159 : decode mM_lays.2.1 159 = .ok (.iload 4, 2) := by decide +kernel
theorem dM_lays_161 : decode mM_lays.2.1 161 = .ok (.iconst 1, 1) := by decide +kernel
theorem dM_lays_162 : decode mM_lays.2.1 162 = .ok (.iadd, 1) := by decide +kernel
theorem dM_lays_163 : decode mM_lays.2.1 163 = .ok (.iastore, 1) := by decide +kernel
theorem dM_lays_164 : decode mM_lays.2.1 164 = .ok (.iinc 6 1, 3) := by decide +kernel
theorem dM_lays_167 : decode mM_lays.2.1 167 = .ok (.goto (-94), 3) := by decide +kernel
theorem dM_lays_170 : decode mM_lays.2.1 170 = .ok (.iinc 5 1, 3) := by decide +kernel
theorem dM_lays_173 : decode mM_lays.2.1 173 = .ok (.goto (-112), 3) := by decide +kernel
theorem dM_lays_176 : decode mM_lays.2.1 176 = .ok (.iinc 4 1, 3) := by decide +kernel
theorem dM_lays_179 : decode mM_lays.2.1 179 = .ok (.goto (-130), 3) := by decide +kernel
theorem dM_lays_182 : decode mM_lays.2.1 182 = .ok (.return_, 1) := by decide +kernel
theorem dM_laysTarget_0 : decode mM_laysTarget.2.1 0 = .ok (.aload_n 0, 1) := by decide +kernel
theorem dM_laysTarget_1 : decode mM_laysTarget.2.1 1 = .ok (.aload_n 0, 1) := by decide +kernel
theorem dM_laysTarget_2 : decode mM_laysTarget.2.1 2 = .ok (.getfield 61, 3) := by decide +kernel
theorem dM_laysTarget_5 : decode mM_laysTarget.2.1 5 = .ok (.iconst 1, 1) := by decide +kernel
theorem dM_laysTarget_6 : decode mM_laysTarget.2.1 6 = .ok (.aload_n 0, 1) := by decide +kernel
theorem dM_laysTarget_7 : decode mM_laysTarget.2.1 7 = .ok (.getfield 45, 3) := by decide +kernel
theorem dM_laysTarget_10 : decode mM_laysTarget.2.1 10 = .ok (.invokevirtual 139, 3) := by decide +kernel
theorem dM_laysTarget_13 : decode mM_laysTarget.2.1 13 = .ok (.aload_n 0, 1) := by decide +kernel
theorem dM_laysTarget_14 : decode mM_laysTarget.2.1 14 = .ok (.aload_n 0, 1) := by decide +kernel
theorem dM_laysTarget_15 : decode mM_laysTarget.2.1 15 = .ok (.getfield 16, 3) := by decide +kernel
theorem dM_laysTarget_18 : decode mM_laysTarget.2.1 18 = .ok (.bipush 108, 2) := by decide +kernel
theorem dM_laysTarget_20 : decode mM_laysTarget.2.1 20 = .ok (.iaload, 1) := by decide +kernel
theorem dM_laysTarget_21 : decode mM_laysTarget.2.1 21 = .ok (.iconst 1, 1) := by decide +kernel
theorem dM_laysTarget_22 : decode mM_laysTarget.2.1 22 = .ok (.aload_n 0, 1) := by decide +kernel
theorem dM_laysTarget_23 : decode mM_laysTarget.2.1 23 = .ok (.getfield 42, 3) := by decide +kernel
theorem dM_laysTarget_26 : decode mM_laysTarget.2.1 26 = .ok (.invokevirtual 139, 3) := by decide +kernel
theorem dM_laysTarget_29 : decode mM_laysTarget.2.1 29 = .ok (.aload_n 0, 1) := by decide +kernel
theorem dM_laysTarget_30 : decode mM_laysTarget.2.1 30 = .ok (.bipush (-9), 2) := by decide +kernel
theorem dM_laysTarget_32 : decode mM_laysTarget.2.1 32 = .ok (.putfield 143, 3) := by decide +kernel
theorem dM_laysTarget_35 : decode mM_laysTarget.2.1 35 = .ok (.iconst 0, 1) := by decide +kernel
theorem dM_laysTarget_36 : decode mM_laysTarget.2.1 36 = .ok (.istore_n 1, 1) := by decide +kernel
theorem dM_laysTarget_37 : decode mM_laysTarget.2.1 37 = .ok (.iload_n 1, 1) := by decide +kernel
theorem dM_laysTarget_38 : decode mM_laysTarget.2.1 38 = .ok (.aload_n 0, 1) := by decide +kernel
theorem dM_laysTarget_39 : decode mM_laysTarget.2.1 39 = .ok (.invokevirtual 57, 3) := by decide +kernel
theorem dM_laysTarget_42 : decode mM_laysTarget.2.1 42 = .ok (.if_icmp .ge 46, 3) := by decide +kernel
theorem dM_laysTarget_45 : decode mM_laysTarget.2.1 45 = .ok (.aload_n 0, 1) := by decide +kernel
theorem dM_laysTarget_46 : decode mM_laysTarget.2.1 46 = .ok (.getfield 16, 3) := by decide +kernel
theorem dM_laysTarget_49 : decode mM_laysTarget.2.1 49 = .ok (.bipush 111, 2) := by decide +kernel
theorem dM_laysTarget_51 : decode mM_laysTarget.2.1 51 = .ok (.iaload, 1) := by decide +kernel
theorem dM_laysTarget_52 : decode mM_laysTarget.2.1 52 = .ok (.ifCond .ne 36, 3) := by decide +kernel
theorem dM_laysTarget_55 : decode mM_laysTarget.2.1 55 = .ok (.aload_n 0, 1) := by decide +kernel
theorem dM_laysTarget_56 : decode mM_laysTarget.2.1 56 = .ok (.getfield 16, 3) := by decide +kernel
theorem dM_laysTarget_59 : decode mM_laysTarget.2.1 59 = .ok (.iload_n 1, 1) := by decide +kernel
theorem dM_laysTarget_60 : decode mM_laysTarget.2.1 60 = .ok (.iaload, 1) := by decide +kernel
theorem dM_laysTarget_61 : decode mM_laysTarget.2.1 61 = .ok (.iconst 3, 1) := by decide +kernel
theorem dM_laysTarget_62 : decode mM_laysTarget.2.1 62 = .ok (.if_icmp .eq 20, 3) := by decide +kernel
theorem dM_laysTarget_65 : decode mM_laysTarget.2.1 65 = .ok (.aload_n 0, 1) := by decide +kernel
theorem dM_laysTarget_66 : decode mM_laysTarget.2.1 66 = .ok (.getfield 16, 3) := by decide +kernel
theorem dM_laysTarget_69 : decode mM_laysTarget.2.1 69 = .ok (.bipush 36, 2) := by decide +kernel
theorem dM_laysTarget_71 : decode mM_laysTarget.2.1 71 = .ok (.iload_n 1, 1) := by decide +kernel
theorem dM_laysTarget_72 : decode mM_laysTarget.2.1 72 = .ok (.iadd, 1) := by decide +kernel
theorem dM_laysTarget_73 : decode mM_laysTarget.2.1 73 = .ok (.iaload, 1) := by decide +kernel
theorem dM_laysTarget_74 : decode mM_laysTarget.2.1 74 = .ok (.ifCond .ne 8, 3) := by decide +kernel
theorem dM_laysTarget_77 : decode mM_laysTarget.2.1 77 = .ok (.aload_n 0, 1) := by decide +kernel
theorem dM_laysTarget_78 : decode mM_laysTarget.2.1 78 = .ok (.iload_n 1, 1) := by decide +kernel
theorem dM_laysTarget_79 : decode mM_laysTarget.2.1 79 = .ok (.invokevirtual 146, 3) := by decide +kernel
theorem dM_laysTarget_82 : decode mM_laysTarget.2.1 82 = .ok (.iinc 1 1, 3) := by decide +kernel
theorem dM_laysTarget_85 : decode mM_laysTarget.2.1 85 = .ok (.goto (-48), 3) := by decide +kernel
theorem dM_laysTarget_88 : decode mM_laysTarget.2.1 88 = .ok (.return_, 1) := by decide +kernel
theorem dM_looksFor_0 : decode mM_looksFor.2.1 0 = .ok (.iconst 0, 1) := by decide +kernel
theorem dM_looksFor_1 : decode mM_looksFor.2.1 1 = .ok (.istore_n 2, 1) := by decide +kernel
theorem dM_looksFor_2 : decode mM_looksFor.2.1 2 = .ok (.iload_n 2, 1) := by decide +kernel
theorem dM_looksFor_3 : decode mM_looksFor.2.1 3 = .ok (.aload_n 0, 1) := by decide +kernel
theorem dM_looksFor_4 : decode mM_looksFor.2.1 4 = .ok (.invokevirtual 57, 3) := by decide +kernel
theorem dM_looksFor_7 : decode mM_looksFor.2.1 7 = .ok (.if_icmp .ge 168, 3) := by decide +kernel
theorem dM_looksFor_10 : decode mM_looksFor.2.1 10 = .ok (.iconst 0, 1) := by decide +kernel
theorem dM_looksFor_11 : decode mM_looksFor.2.1 11 = .ok (.istore_n 3, 1) := by decide +kernel
theorem dM_looksFor_12 : decode mM_looksFor.2.1 12 = .ok (.iconst 0, 1) := by decide +kernel
theorem dM_looksFor_13 : decode mM_looksFor.2.1 13 = .ok (.istore 4, 2) := by decide +kernel
theorem dM_looksFor_15 : decode mM_looksFor.2.1 15 = .ok (.iload 4, 2) := by decide +kernel
theorem dM_looksFor_17 : decode mM_looksFor.2.1 17 = .ok (.iconst 4, 1) := by decide +kernel
theorem dM_looksFor_18 : decode mM_looksFor.2.1 18 = .ok (.if_icmp .ge 30, 3) := by decide +kernel
theorem dM_looksFor_21 : decode mM_looksFor.2.1 21 = .ok (.iload_n 3, 1) := by decide +kernel
theorem dM_looksFor_22 : decode mM_looksFor.2.1 22 = .ok (.ifCond .ne 14, 3) := by decide +kernel
theorem dM_looksFor_25 : decode mM_looksFor.2.1 25 = .ok (.aload_n 0, 1) := by decide +kernel
theorem dM_looksFor_26 : decode mM_looksFor.2.1 26 = .ok (.iload_n 1, 1) := by decide +kernel
theorem dM_looksFor_27 : decode mM_looksFor.2.1 27 = .ok (.iload 4, 2) := by decide +kernel
theorem dM_looksFor_29 : decode mM_looksFor.2.1 29 = .ok (.invokevirtual 109, 3) := by decide +kernel
theorem dM_looksFor_32 : decode mM_looksFor.2.1 32 = .ok (.iload_n 2, 1) := by decide +kernel
theorem dM_looksFor_33 : decode mM_looksFor.2.1 33 = .ok (.if_icmp .ne 7, 3) := by decide +kernel
theorem dM_looksFor_36 : decode mM_looksFor.2.1 36 = .ok (.iconst 1, 1) := by decide +kernel
theorem dM_looksFor_37 : decode mM_looksFor.2.1 37 = .ok (.goto 4, 3) := by decide +kernel
theorem dM_looksFor_40 : decode mM_looksFor.2.1 40 = .ok (.iconst 0, 1) := by decide +kernel
theorem dM_looksFor_41 : decode mM_looksFor.2.1 41 = .ok (.istore_n 3, 1) := by decide +kernel
theorem dM_looksFor_42 : decode mM_looksFor.2.1 42 = .ok (.iinc 4 1, 3) := by decide +kernel
theorem dM_looksFor_45 : decode mM_looksFor.2.1 45 = .ok (.goto (-30), 3) := by decide +kernel
theorem dM_looksFor_48 : decode mM_looksFor.2.1 48 = .ok (.iload_n 3, 1) := by decide +kernel
theorem dM_looksFor_49 : decode mM_looksFor.2.1 49 = .ok (.ifCond .eq 54, 3) := by decide +kernel
theorem dM_looksFor_52 : decode mM_looksFor.2.1 52 = .ok (.aload_n 0, 1) := by decide +kernel
theorem dM_looksFor_53 : decode mM_looksFor.2.1 53 = .ok (.getfield 45, 3) := by decide +kernel
theorem dM_looksFor_56 : decode mM_looksFor.2.1 56 = .ok (.iload_n 2, 1) := by decide +kernel
theorem dM_looksFor_57 : decode mM_looksFor.2.1 57 = .ok (.iaload, 1) := by decide +kernel
theorem dM_looksFor_58 : decode mM_looksFor.2.1 58 = .ok (.bipush (-9), 2) := by decide +kernel
theorem dM_looksFor_60 : decode mM_looksFor.2.1 60 = .ok (.if_icmp .eq 43, 3) := by decide +kernel
theorem dM_looksFor_63 : decode mM_looksFor.2.1 63 = .ok (.aload_n 0, 1) := by decide +kernel
theorem dM_looksFor_64 : decode mM_looksFor.2.1 64 = .ok (.getfield 42, 3) := by decide +kernel
theorem dM_looksFor_67 : decode mM_looksFor.2.1 67 = .ok (.iload_n 2, 1) := by decide +kernel
theorem dM_looksFor_68 : decode mM_looksFor.2.1 68 = .ok (.iaload, 1) := by decide +kernel
theorem dM_looksFor_69 : decode mM_looksFor.2.1 69 = .ok (.bipush (-9), 2) := by decide +kernel
theorem dM_looksFor_71 : decode mM_looksFor.2.1 71 = .ok (.if_icmp .eq 32, 3) := by decide +kernel
theorem dM_looksFor_74 : decode mM_looksFor.2.1 74 = .ok (.aload_n 0, 1) := by decide +kernel
theorem dM_looksFor_75 : decode mM_looksFor.2.1 75 = .ok (.getfield 42, 3) := by decide +kernel
theorem dM_looksFor_78 : decode mM_looksFor.2.1 78 = .ok (.iload_n 2, 1) := by decide +kernel
theorem dM_looksFor_79 : decode mM_looksFor.2.1 79 = .ok (.iaload, 1) := by decide +kernel
theorem dM_looksFor_80 : decode mM_looksFor.2.1 80 = .ok (.aload_n 0, 1) := by decide +kernel
theorem dM_looksFor_81 : decode mM_looksFor.2.1 81 = .ok (.getfield 45, 3) := by decide +kernel
theorem dM_looksFor_84 : decode mM_looksFor.2.1 84 = .ok (.iload_n 2, 1) := by decide +kernel
theorem dM_looksFor_85 : decode mM_looksFor.2.1 85 = .ok (.iaload, 1) := by decide +kernel
theorem dM_looksFor_86 : decode mM_looksFor.2.1 86 = .ok (.iadd, 1) := by decide +kernel
theorem dM_looksFor_87 : decode mM_looksFor.2.1 87 = .ok (.iconst 2, 1) := by decide +kernel
theorem dM_looksFor_88 : decode mM_looksFor.2.1 88 = .ok (.iadd, 1) := by decide +kernel
theorem dM_looksFor_89 : decode mM_looksFor.2.1 89 = .ok (.aload_n 0, 1) := by decide +kernel
theorem dM_looksFor_90 : decode mM_looksFor.2.1 90 = .ok (.getfield 16, 3) := by decide +kernel
theorem dM_looksFor_93 : decode mM_looksFor.2.1 93 = .ok (.bipush 110, 2) := by decide +kernel
theorem dM_looksFor_95 : decode mM_looksFor.2.1 95 = .ok (.iaload, 1) := by decide +kernel
theorem dM_looksFor_96 : decode mM_looksFor.2.1 96 = .ok (.if_icmp .gt 7, 3) := by decide +kernel
theorem dM_looksFor_99 : decode mM_looksFor.2.1 99 = .ok (.iconst 1, 1) := by decide +kernel
theorem dM_looksFor_100 : decode mM_looksFor.2.1 100 = .ok (.goto 4, 3) := by decide +kernel
theorem dM_looksFor_103 : decode mM_looksFor.2.1 103 = .ok (.iconst 0, 1) := by decide +kernel
theorem dM_looksFor_104 : decode mM_looksFor.2.1 104 = .ok (.istore 4, 2) := by decide +kernel
theorem dM_looksFor_106 : decode mM_looksFor.2.1 106 = .ok (.iload 4, 2) := by decide +kernel
theorem dM_looksFor_108 : decode mM_looksFor.2.1 108 = .ok (.ifCond .eq 61, 3) := by decide +kernel
theorem dM_looksFor_111 : decode mM_looksFor.2.1 111 = .ok (.aload_n 0, 1) := by decide +kernel
theorem dM_looksFor_112 : decode mM_looksFor.2.1 112 = .ok (.getfield 143, 3) := by decide +kernel
theorem dM_looksFor_115 : decode mM_looksFor.2.1 115 = .ok (.bipush (-9), 2) := by decide +kernel
theorem dM_looksFor_117 : decode mM_looksFor.2.1 117 = .ok (.if_icmp .eq 18, 3) := by decide +kernel
theorem dM_looksFor_120 : decode mM_looksFor.2.1 120 = .ok (.aload_n 0, 1) := by decide +kernel
theorem dM_looksFor_121 : decode mM_looksFor.2.1 121 = .ok (.getfield 42, 3) := by decide +kernel
theorem dM_looksFor_124 : decode mM_looksFor.2.1 124 = .ok (.iload_n 2, 1) := by decide +kernel
theorem dM_looksFor_125 : decode mM_looksFor.2.1 125 = .ok (.iaload, 1) := by decide +kernel
theorem dM_looksFor_126 : decode mM_looksFor.2.1 126 = .ok (.iconst 1, 1) := by decide +kernel
theorem dM_looksFor_127 : decode mM_looksFor.2.1 127 = .ok (.iadd, 1) := by decide +kernel
theorem dM_looksFor_128 : decode mM_looksFor.2.1 128 = .ok (.aload_n 0, 1) := by decide +kernel
theorem dM_looksFor_129 : decode mM_looksFor.2.1 129 = .ok (.getfield 149, 3) := by decide +kernel
theorem dM_looksFor_132 : decode mM_looksFor.2.1 132 = .ok (.if_icmp .ge 37, 3) := by decide +kernel
theorem dM_looksFor_135 : decode mM_looksFor.2.1 135 = .ok (.aload_n 0, 1) := by decide +kernel
theorem dM_looksFor_136 : decode mM_looksFor.2.1 136 = .ok (.iload_n 1, 1) := by decide +kernel
theorem dM_looksFor_137 : decode mM_looksFor.2.1 137 = .ok (.putfield 143, 3) := by decide +kernel
theorem dM_looksFor_140 : decode mM_looksFor.2.1 140 = .ok (.aload_n 0, 1) := by decide +kernel
theorem dM_looksFor_141 : decode mM_looksFor.2.1 141 = .ok (.iload_n 2, 1) := by decide +kernel
theorem dM_looksFor_142 : decode mM_looksFor.2.1 142 = .ok (.putfield 152, 3) := by decide +kernel
theorem dM_looksFor_145 : decode mM_looksFor.2.1 145 = .ok (.aload_n 0, 1) := by decide +kernel
theorem dM_looksFor_146 : decode mM_looksFor.2.1 146 = .ok (.aload_n 0, 1) := by decide +kernel
theorem dM_looksFor_147 : decode mM_looksFor.2.1 147 = .ok (.getfield 42, 3) := by decide +kernel
theorem dM_looksFor_150 : decode mM_looksFor.2.1 150 = .ok (.iload_n 2, 1) := by decide +kernel
theorem dM_looksFor_151 : decode mM_looksFor.2.1 151 = .ok (.iaload, 1) := by decide +kernel
theorem dM_looksFor_152 : decode mM_looksFor.2.1 152 = .ok (.iconst 1, 1) := by decide +kernel
theorem dM_looksFor_153 : decode mM_looksFor.2.1 153 = .ok (.iadd, 1) := by decide +kernel
theorem dM_looksFor_154 : decode mM_looksFor.2.1 154 = .ok (.putfield 149, 3) := by decide +kernel
theorem dM_looksFor_157 : decode mM_looksFor.2.1 157 = .ok (.aload_n 0, 1) := by decide +kernel
theorem dM_looksFor_158 : decode mM_looksFor.2.1 158 = .ok (.aload_n 0, 1) := by decide +kernel
theorem dM_looksFor_159 : decode mM_looksFor.2.1 159 = .ok (.getfield 45, 3) := by decide +kernel
theorem dM_looksFor_162 : decode mM_looksFor.2.1 162 = .ok (.iload_n 2, 1) := by decide +kernel
theorem dM_looksFor_163 : decode mM_looksFor.2.1 163 = .ok (.iaload, 1) := by decide +kernel
theorem dM_looksFor_164 : decode mM_looksFor.2.1 164 = .ok (.iconst 1, 1) := by decide +kernel
theorem dM_looksFor_165 : decode mM_looksFor.2.1 165 = .ok (.iadd, 1) := by decide +kernel
theorem dM_looksFor_166 : decode mM_looksFor.2.1 166 = .ok (.putfield 155, 3) := by decide +kernel
theorem dM_looksFor_169 : decode mM_looksFor.2.1 169 = .ok (.iinc 2 1, 3) := by decide +kernel
theorem dM_looksFor_172 : decode mM_looksFor.2.1 172 = .ok (.goto (-170), 3) := by decide +kernel
theorem dM_looksFor_175 : decode mM_looksFor.2.1 175 = .ok (.return_, 1) := by decide +kernel
theorem dM_handTo_0 : decode mM_handTo.2.1 0 = .ok (.iconst 0, 1) := by decide +kernel
theorem dM_handTo_1 : decode mM_handTo.2.1 1 = .ok (.istore_n 3, 1) := by decide +kernel
theorem dM_handTo_2 : decode mM_handTo.2.1 2 = .ok (.aload_n 0, 1) := by decide +kernel
theorem dM_handTo_3 : decode mM_handTo.2.1 3 = .ok (.aload_n 0, 1) := by decide +kernel
theorem dM_handTo_4 : decode mM_handTo.2.1 4 = .ok (.getfield 16, 3) := by decide +kernel
theorem dM_handTo_7 : decode mM_handTo.2.1 7 = .ok (.bipush 108, 2) := by decide +kernel
theorem dM_handTo_9 : decode mM_handTo.2.1 9 = .ok (.iaload, 1) := by decide +kernel
theorem dM_handTo_10 : decode mM_handTo.2.1 10 = .ok (.iload_n 3, 1) := by decide +kernel
theorem dM_handTo_11 : decode mM_handTo.2.1 11 = .ok (.invokevirtual 109, 3) := by decide +kernel
theorem dM_handTo_14 : decode mM_handTo.2.1 14 = .ok (.bipush (-9), 2) := by decide +kernel
theorem dM_handTo_16 : decode mM_handTo.2.1 16 = .ok (.if_icmp .eq 21, 3) := by decide +kernel
theorem dM_handTo_19 : decode mM_handTo.2.1 19 = .ok (.aload_n 1, 1) := by decide +kernel
theorem dM_handTo_20 : decode mM_handTo.2.1 20 = .ok (.aload_n 0, 1) := by decide +kernel
theorem dM_handTo_21 : decode mM_handTo.2.1 21 = .ok (.aload_n 0, 1) := by decide +kernel
theorem dM_handTo_22 : decode mM_handTo.2.1 22 = .ok (.getfield 16, 3) := by decide +kernel
theorem dM_handTo_25 : decode mM_handTo.2.1 25 = .ok (.bipush 108, 2) := by decide +kernel
theorem dM_handTo_27 : decode mM_handTo.2.1 27 = .ok (.iaload, 1) := by decide +kernel
theorem dM_handTo_28 : decode mM_handTo.2.1 28 = .ok (.iload_n 3, 1) := by decide +kernel
theorem dM_handTo_29 : decode mM_handTo.2.1 29 = .ok (.invokevirtual 109, 3) := by decide +kernel
theorem dM_handTo_32 : decode mM_handTo.2.1 32 = .ok (.iaload, 1) := by decide +kernel
theorem dM_handTo_33 : decode mM_handTo.2.1 33 = .ok (.iload_n 2, 1) := by decide +kernel
theorem dM_handTo_34 : decode mM_handTo.2.1 34 = .ok (.if_icmp .eq 9, 3) := by decide +kernel
theorem dM_handTo_37 : decode mM_handTo.2.1 37 = .ok (.iinc 3 1, 3) := by decide +kernel
theorem dM_handTo_40 : decode mM_handTo.2.1 40 = .ok (.goto (-38), 3) := by decide +kernel
theorem dM_handTo_43 : decode mM_handTo.2.1 43 = .ok (.iload_n 3, 1) := by decide +kernel
theorem dM_handTo_44 : decode mM_handTo.2.1 44 = .ok (.ireturn, 1) := by decide +kernel
theorem dM_handOn_0 : decode mM_handOn.2.1 0 = .ok (.iconst 0, 1) := by decide +kernel
theorem dM_handOn_1 : decode mM_handOn.2.1 1 = .ok (.istore_n 2, 1) := by decide +kernel
theorem dM_handOn_2 : decode mM_handOn.2.1 2 = .ok (.aload_n 0, 1) := by decide +kernel
theorem dM_handOn_3 : decode mM_handOn.2.1 3 = .ok (.aload_n 0, 1) := by decide +kernel
theorem dM_handOn_4 : decode mM_handOn.2.1 4 = .ok (.getfield 16, 3) := by decide +kernel
theorem dM_handOn_7 : decode mM_handOn.2.1 7 = .ok (.bipush 108, 2) := by decide +kernel
theorem dM_handOn_9 : decode mM_handOn.2.1 9 = .ok (.iaload, 1) := by decide +kernel
theorem dM_handOn_10 : decode mM_handOn.2.1 10 = .ok (.iload_n 2, 1) := by decide +kernel
theorem dM_handOn_11 : decode mM_handOn.2.1 11 = .ok (.invokevirtual 109, 3) := by decide +kernel
theorem dM_handOn_14 : decode mM_handOn.2.1 14 = .ok (.iload_n 1, 1) := by decide +kernel
theorem dM_handOn_15 : decode mM_handOn.2.1 15 = .ok (.if_icmp .eq 9, 3) := by decide +kernel
theorem dM_handOn_18 : decode mM_handOn.2.1 18 = .ok (.iinc 2 1, 3) := by decide +kernel
theorem dM_handOn_21 : decode mM_handOn.2.1 21 = .ok (.goto (-19), 3) := by decide +kernel
theorem dM_handOn_24 : decode mM_handOn.2.1 24 = .ok (.iload_n 2, 1) := by decide +kernel
theorem dM_handOn_25 : decode mM_handOn.2.1 25 = .ok (.ireturn, 1) := by decide +kernel
theorem dM_acts_0 : decode mM_acts.2.1 0 = .ok (.aload_n 0, 1) := by decide +kernel
theorem dM_acts_1 : decode mM_acts.2.1 1 = .ok (.getfield 16, 3) := by decide +kernel
theorem dM_acts_4 : decode mM_acts.2.1 4 = .ok (.bipush 108, 2) := by decide +kernel
theorem dM_acts_6 : decode mM_acts.2.1 6 = .ok (.iaload, 1) := by decide +kernel
theorem dM_acts_7 : decode mM_acts.2.1 7 = .ok (.aload_n 0, 1) := by decide +kernel
theorem dM_acts_8 : decode mM_acts.2.1 8 = .ok (.getfield 61, 3) := by decide +kernel
theorem dM_acts_11 : decode mM_acts.2.1 11 = .ok (.if_icmp .ne 79, 3) := by decide +kernel
theorem dM_acts_14 : decode mM_acts.2.1 14 = .ok (.aload_n 0, 1) := by decide +kernel
theorem dM_acts_15 : decode mM_acts.2.1 15 = .ok (.getfield 16, 3) := by decide +kernel
theorem dM_acts_18 : decode mM_acts.2.1 18 = .ok (.bipush 110, 2) := by decide +kernel
theorem dM_acts_20 : decode mM_acts.2.1 20 = .ok (.iaload, 1) := by decide +kernel
theorem dM_acts_21 : decode mM_acts.2.1 21 = .ok (.aload_n 0, 1) := by decide +kernel
theorem dM_acts_22 : decode mM_acts.2.1 22 = .ok (.getfield 16, 3) := by decide +kernel
theorem dM_acts_25 : decode mM_acts.2.1 25 = .ok (.bipush 112, 2) := by decide +kernel
theorem dM_acts_27 : decode mM_acts.2.1 27 = .ok (.iaload, 1) := by decide +kernel
theorem dM_acts_28 : decode mM_acts.2.1 28 = .ok (.if_icmp .ge 62, 3) := by decide +kernel
theorem dM_acts_31 : decode mM_acts.2.1 31 = .ok (.aload_n 0, 1) := by decide +kernel
theorem dM_acts_32 : decode mM_acts.2.1 32 = .ok (.getfield 16, 3) := by decide +kernel
theorem dM_acts_35 : decode mM_acts.2.1 35 = .ok (.bipush 110, 2) := by decide +kernel
theorem dM_acts_37 : decode mM_acts.2.1 37 = .ok (.aload_n 0, 1) := by decide +kernel
theorem dM_acts_38 : decode mM_acts.2.1 38 = .ok (.getfield 16, 3) := by decide +kernel
theorem dM_acts_41 : decode mM_acts.2.1 41 = .ok (.bipush 110, 2) := by decide +kernel
theorem dM_acts_43 : decode mM_acts.2.1 43 = .ok (.iaload, 1) := by decide +kernel
theorem dM_acts_44 : decode mM_acts.2.1 44 = .ok (.aload_n 0, 1) := by decide +kernel
theorem dM_acts_45 : decode mM_acts.2.1 45 = .ok (.getfield 16, 3) := by decide +kernel
theorem dM_acts_48 : decode mM_acts.2.1 48 = .ok (.bipush 113, 2) := by decide +kernel
theorem dM_acts_50 : decode mM_acts.2.1 50 = .ok (.iaload, 1) := by decide +kernel
theorem dM_acts_51 : decode mM_acts.2.1 51 = .ok (.iadd, 1) := by decide +kernel
theorem dM_acts_52 : decode mM_acts.2.1 52 = .ok (.aload_n 0, 1) := by decide +kernel
theorem dM_acts_53 : decode mM_acts.2.1 53 = .ok (.getfield 16, 3) := by decide +kernel
theorem dM_acts_56 : decode mM_acts.2.1 56 = .ok (.bipush 112, 2) := by decide +kernel
theorem dM_acts_58 : decode mM_acts.2.1 58 = .ok (.iaload, 1) := by decide +kernel
theorem dM_acts_59 : decode mM_acts.2.1 59 = .ok (.if_icmp .le 13, 3) := by decide +kernel
theorem dM_acts_62 : decode mM_acts.2.1 62 = .ok (.aload_n 0, 1) := by decide +kernel
theorem dM_acts_63 : decode mM_acts.2.1 63 = .ok (.getfield 16, 3) := by decide +kernel
theorem dM_acts_66 : decode mM_acts.2.1 66 = .ok (.bipush 112, 2) := by decide +kernel
theorem dM_acts_68 : decode mM_acts.2.1 68 = .ok (.iaload, 1) := by decide +kernel
theorem dM_acts_69 : decode mM_acts.2.1 69 = .ok (.goto 18, 3) := by decide +kernel
theorem dM_acts_72 : decode mM_acts.2.1 72 = .ok (.aload_n 0, 1) := by decide +kernel
theorem dM_acts_73 : decode mM_acts.2.1 73 = .ok (.getfield 16, 3) := by decide +kernel
theorem dM_acts_76 : decode mM_acts.2.1 76 = .ok (.bipush 110, 2) := by decide +kernel
theorem dM_acts_78 : decode mM_acts.2.1 78 = .ok (.iaload, 1) := by decide +kernel
theorem dM_acts_79 : decode mM_acts.2.1 79 = .ok (.aload_n 0, 1) := by decide +kernel
theorem dM_acts_80 : decode mM_acts.2.1 80 = .ok (.getfield 16, 3) := by decide +kernel
theorem dM_acts_83 : decode mM_acts.2.1 83 = .ok (.bipush 113, 2) := by decide +kernel
theorem dM_acts_85 : decode mM_acts.2.1 85 = .ok (.iaload, 1) := by decide +kernel
theorem dM_acts_86 : decode mM_acts.2.1 86 = .ok (.iadd, 1) := by decide +kernel
theorem dM_acts_87 : decode mM_acts.2.1 87 = .ok (.iastore, 1) := by decide +kernel
theorem dM_acts_88 : decode mM_acts.2.1 88 = .ok (.iconst 0, 1) := by decide +kernel
theorem dM_acts_89 : decode mM_acts.2.1 89 = .ok (.ireturn, 1) := by decide +kernel
theorem dM_acts_90 : decode mM_acts.2.1 90 = .ok (.aload_n 0, 1) := by decide +kernel
theorem dM_acts_91 : decode mM_acts.2.1 91 = .ok (.getfield 16, 3) := by decide +kernel
theorem dM_acts_94 : decode mM_acts.2.1 94 = .ok (.bipush 110, 2) := by decide +kernel
theorem dM_acts_96 : decode mM_acts.2.1 96 = .ok (.iaload, 1) := by decide +kernel
theorem dM_acts_97 : decode mM_acts.2.1 97 = .ok (.ifCond .ne 5, 3) := by decide +kernel
theorem dM_acts_100 : decode mM_acts.2.1 100 = .ok (.iconst 0, 1) := by decide +kernel
theorem dM_acts_101 : decode mM_acts.2.1 101 = .ok (.ireturn, 1) := by decide +kernel
theorem dM_acts_102 : decode mM_acts.2.1 102 = .ok (.aload_n 0, 1) := by decide +kernel
theorem dM_acts_103 : decode mM_acts.2.1 103 = .ok (.invokevirtual 158, 3) := by decide +kernel
theorem dM_acts_106 : decode mM_acts.2.1 106 = .ok (.aload_n 0, 1) := by decide +kernel
theorem dM_acts_107 : decode mM_acts.2.1 107 = .ok (.getfield 143, 3) := by decide +kernel
theorem dM_acts_110 : decode mM_acts.2.1 110 = .ok (.bipush (-9), 2) := by decide +kernel
theorem dM_acts_112 : decode mM_acts.2.1 112 = .ok (.if_icmp .eq 32, 3) := by decide +kernel
theorem dM_acts_115 : decode mM_acts.2.1 115 = .ok (.aload_n 0, 1) := by decide +kernel
theorem dM_acts_116 : decode mM_acts.2.1 116 = .ok (.getfield 152, 3) := by decide +kernel
theorem dM_acts_119 : decode mM_acts.2.1 119 = .ok (.aload_n 0, 1) := by decide +kernel
theorem dM_acts_120 : decode mM_acts.2.1 120 = .ok (.getfield 16, 3) := by decide +kernel
theorem dM_acts_123 : decode mM_acts.2.1 123 = .ok (.bipush 108, 2) := by decide +kernel
theorem dM_acts_125 : decode mM_acts.2.1 125 = .ok (.iaload, 1) := by decide +kernel
theorem dM_acts_126 : decode mM_acts.2.1 126 = .ok (.if_icmp .ne 18, 3) := by decide +kernel
theorem dM_acts_129 : decode mM_acts.2.1 129 = .ok (.aload_n 0, 1) := by decide +kernel
theorem dM_acts_130 : decode mM_acts.2.1 130 = .ok (.aload_n 0, 1) := by decide +kernel
theorem dM_acts_131 : decode mM_acts.2.1 131 = .ok (.aload_n 0, 1) := by decide +kernel
theorem dM_acts_132 : decode mM_acts.2.1 132 = .ok (.getfield 143, 3) := by decide +kernel
theorem dM_acts_135 : decode mM_acts.2.1 135 = .ok (.invokevirtual 161, 3) := by decide +kernel
theorem dM_acts_138 : decode mM_acts.2.1 138 = .ok (.invokevirtual 130, 3) := by decide +kernel
theorem dM_acts_141 : decode mM_acts.2.1 141 = .ok (.pop, 1) := by decide +kernel
theorem dM_acts_142 : decode mM_acts.2.1 142 = .ok (.iconst 1, 1) := by decide +kernel
theorem dM_acts_143 : decode mM_acts.2.1 143 = .ok (.ireturn, 1) := by decide +kernel
theorem dM_acts_144 : decode mM_acts.2.1 144 = .ok (.aload_n 0, 1) := by decide +kernel
theorem dM_acts_145 : decode mM_acts.2.1 145 = .ok (.getfield 143, 3) := by decide +kernel
theorem dM_acts_148 : decode mM_acts.2.1 148 = .ok (.bipush (-9), 2) := by decide +kernel
theorem dM_acts_150 : decode mM_acts.2.1 150 = .ok (.if_icmp .eq 45, 3) := by decide +kernel
theorem dM_acts_153 : decode mM_acts.2.1 153 = .ok (.aload_n 0, 1) := by decide +kernel
theorem dM_acts_154 : decode mM_acts.2.1 154 = .ok (.aload_n 0, 1) := by decide +kernel
theorem dM_acts_155 : decode mM_acts.2.1 155 = .ok (.getfield 152, 3) := by decide +kernel
theorem dM_acts_158 : decode mM_acts.2.1 158 = .ok (.iconst 1, 1) := by decide +kernel
theorem dM_acts_159 : decode mM_acts.2.1 159 = .ok (.aload_n 0, 1) := by decide +kernel
theorem dM_acts_160 : decode mM_acts.2.1 160 = .ok (.getfield 48, 3) := by decide +kernel
theorem dM_acts_163 : decode mM_acts.2.1 163 = .ok (.invokevirtual 139, 3) := by decide +kernel
theorem dM_acts_166 : decode mM_acts.2.1 166 = .ok (.aload_n 0, 1) := by decide +kernel
theorem dM_acts_167 : decode mM_acts.2.1 167 = .ok (.aload_n 0, 1) := by decide +kernel
theorem dM_acts_168 : decode mM_acts.2.1 168 = .ok (.aload_n 0, 1) := by decide +kernel
theorem dM_acts_169 : decode mM_acts.2.1 169 = .ok (.getfield 48, 3) := by decide +kernel
theorem dM_acts_172 : decode mM_acts.2.1 172 = .ok (.aload_n 0, 1) := by decide +kernel
theorem dM_acts_173 : decode mM_acts.2.1 173 = .ok (.getfield 48, 3) := by decide +kernel
theorem dM_acts_176 : decode mM_acts.2.1 176 = .ok (.aload_n 0, 1) := by decide +kernel
theorem dM_acts_177 : decode mM_acts.2.1 177 = .ok (.getfield 16, 3) := by decide +kernel
theorem dM_acts_180 : decode mM_acts.2.1 180 = .ok (.bipush 108, 2) := by decide +kernel
theorem dM_acts_182 : decode mM_acts.2.1 182 = .ok (.iaload, 1) := by decide +kernel
theorem dM_acts_183 : decode mM_acts.2.1 183 = .ok (.iaload, 1) := by decide +kernel
theorem dM_acts_184 : decode mM_acts.2.1 184 = .ok (.iconst 1, 1) := by decide +kernel
theorem dM_acts_185 : decode mM_acts.2.1 185 = .ok (.isub, 1) := by decide +kernel
theorem dM_acts_186 : decode mM_acts.2.1 186 = .ok (.invokevirtual 164, 3) := by decide +kernel
theorem dM_acts_189 : decode mM_acts.2.1 189 = .ok (.invokevirtual 130, 3) := by decide +kernel
theorem dM_acts_192 : decode mM_acts.2.1 192 = .ok (.pop, 1) := by decide +kernel
theorem dM_acts_193 : decode mM_acts.2.1 193 = .ok (.iconst 1, 1) := by decide +kernel
theorem dM_acts_194 : decode mM_acts.2.1 194 = .ok (.ireturn, 1) := by decide +kernel
theorem dM_acts_195 : decode mM_acts.2.1 195 = .ok (.aload_n 0, 1) := by decide +kernel
theorem dM_acts_196 : decode mM_acts.2.1 196 = .ok (.getfield 16, 3) := by decide +kernel
theorem dM_acts_199 : decode mM_acts.2.1 199 = .ok (.bipush 108, 2) := by decide +kernel
theorem dM_acts_201 : decode mM_acts.2.1 201 = .ok (.iaload, 1) := by decide +kernel
theorem dM_acts_202 : decode mM_acts.2.1 202 = .ok (.aload_n 0, 1) := by decide +kernel
theorem dM_acts_203 : decode mM_acts.2.1 203 = .ok (.getfield 61, 3) := by decide +kernel
theorem dM_acts_206 : decode mM_acts.2.1 206 = .ok (.if_icmp .eq 49, 3) := by decide +kernel
theorem dM_acts_209 : decode mM_acts.2.1 209 = .ok (.aload_n 0, 1) := by decide +kernel
theorem dM_acts_210 : decode mM_acts.2.1 210 = .ok (.getfield 45, 3) := by decide +kernel
theorem dM_acts_213 : decode mM_acts.2.1 213 = .ok (.aload_n 0, 1) := by decide +kernel
theorem dM_acts_214 : decode mM_acts.2.1 214 = .ok (.getfield 16, 3) := by decide +kernel
theorem dM_acts_217 : decode mM_acts.2.1 217 = .ok (.bipush 108, 2) := by decide +kernel
theorem dM_acts_219 : decode mM_acts.2.1 219 = .ok (.iaload, 1) := by decide +kernel
theorem dM_acts_220 : decode mM_acts.2.1 220 = .ok (.iaload, 1) := by decide +kernel
theorem dM_acts_221 : decode mM_acts.2.1 221 = .ok (.bipush (-9), 2) := by decide +kernel
theorem dM_acts_223 : decode mM_acts.2.1 223 = .ok (.if_icmp .eq 32, 3) := by decide +kernel
theorem dM_acts_226 : decode mM_acts.2.1 226 = .ok (.aload_n 0, 1) := by decide +kernel
theorem dM_acts_227 : decode mM_acts.2.1 227 = .ok (.aload_n 0, 1) := by decide +kernel
theorem dM_acts_228 : decode mM_acts.2.1 228 = .ok (.aload_n 0, 1) := by decide +kernel
theorem dM_acts_229 : decode mM_acts.2.1 229 = .ok (.getfield 45, 3) := by decide +kernel
theorem dM_acts_232 : decode mM_acts.2.1 232 = .ok (.aload_n 0, 1) := by decide +kernel
theorem dM_acts_233 : decode mM_acts.2.1 233 = .ok (.getfield 45, 3) := by decide +kernel
theorem dM_acts_236 : decode mM_acts.2.1 236 = .ok (.aload_n 0, 1) := by decide +kernel
theorem dM_acts_237 : decode mM_acts.2.1 237 = .ok (.getfield 16, 3) := by decide +kernel
theorem dM_acts_240 : decode mM_acts.2.1 240 = .ok (.bipush 108, 2) := by decide +kernel
theorem dM_acts_242 : decode mM_acts.2.1 242 = .ok (.iaload, 1) := by decide +kernel
theorem dM_acts_243 : decode mM_acts.2.1 243 = .ok (.iaload, 1) := by decide +kernel
theorem dM_acts_244 : decode mM_acts.2.1 244 = .ok (.iconst 1, 1) := by decide +kernel
theorem dM_acts_245 : decode mM_acts.2.1 245 = .ok (.isub, 1) := by decide +kernel
theorem dM_acts_246 : decode mM_acts.2.1 246 = .ok (.invokevirtual 164, 3) := by decide +kernel
theorem dM_acts_249 : decode mM_acts.2.1 249 = .ok (.invokevirtual 130, 3) := by decide +kernel
theorem dM_acts_252 : decode mM_acts.2.1 252 = .ok (.pop, 1) := by decide +kernel
theorem dM_acts_253 : decode mM_acts.2.1 253 = .ok (.iconst 1, 1) := by decide +kernel
theorem dM_acts_254 : decode mM_acts.2.1 254 = .ok (.ireturn, 1) := by decide +kernel
theorem dM_acts_255 : decode mM_acts.2.1 255 = .ok (.iconst 0, 1) := by decide +kernel
theorem dM_acts_256 : decode mM_acts.2.1 256 = .ok (.ireturn, 1) := by decide +kernel
theorem dM_goes_0 : decode mM_goes.2.1 0 = .ok (.iload_n 1, 1) := by decide +kernel
theorem dM_goes_1 : decode mM_goes.2.1 1 = .ok (.iconst 1, 1) := by decide +kernel
theorem dM_goes_2 : decode mM_goes.2.1 2 = .ok (.bipush 60, 2) := by decide +kernel
theorem dM_goes_4 : decode mM_goes.2.1 4 = .ok (.invokestatic 67, 3) := by decide +kernel
theorem dM_goes_7 : decode mM_goes.2.1 7 = .ok (.ifCond .ne 5, 3) := by decide +kernel
theorem dM_goes_10 : decode mM_goes.2.1 10 = .ok (.iconst (-1), 1) := by decide +kernel
theorem dM_goes_11 : decode mM_goes.2.1 11 = .ok (.ireturn, 1) := by decide +kernel
theorem dM_goes_12 : decode mM_goes.2.1 12 = .ok (.aload_n 0, 1) := by decide +kernel
theorem dM_goes_13 : decode mM_goes.2.1 13 = .ok (.getfield 16, 3) := by decide +kernel
theorem dM_goes_16 : decode mM_goes.2.1 16 = .ok (.bipush 111, 2) := by decide +kernel
theorem dM_goes_18 : decode mM_goes.2.1 18 = .ok (.iaload, 1) := by decide +kernel
theorem dM_goes_19 : decode mM_goes.2.1 19 = .ok (.iconst 1, 1) := by decide +kernel
theorem dM_goes_20 : decode mM_goes.2.1 20 = .ok (.if_icmp .ne 6, 3) := by decide +kernel
theorem dM_goes_23 : decode mM_goes.2.1 23 = .ok (.bipush (-2), 2) := by decide +kernel
theorem dM_goes_25 : decode mM_goes.2.1 25 = .ok (.ireturn, 1) := by decide +kernel
theorem dM_goes_26 : decode mM_goes.2.1 26 = .ok (.aload_n 0, 1) := by decide +kernel
theorem dM_goes_27 : decode mM_goes.2.1 27 = .ok (.invokevirtual 97, 3) := by decide +kernel
theorem dM_goes_30 : decode mM_goes.2.1 30 = .ok (.iconst 0, 1) := by decide +kernel
theorem dM_goes_31 : decode mM_goes.2.1 31 = .ok (.istore_n 2, 1) := by decide +kernel
theorem dM_goes_32 : decode mM_goes.2.1 32 = .ok (.iconst 0, 1) := by decide +kernel
theorem dM_goes_33 : decode mM_goes.2.1 33 = .ok (.istore_n 3, 1) := by decide +kernel
theorem dM_goes_34 : decode mM_goes.2.1 34 = .ok (.iload_n 3, 1) := by decide +kernel
theorem dM_goes_35 : decode mM_goes.2.1 35 = .ok (.iload_n 1, 1) := by decide +kernel
theorem dM_goes_36 : decode mM_goes.2.1 36 = .ok (.if_icmp .ge 24, 3) := by decide +kernel
theorem dM_goes_39 : decode mM_goes.2.1 39 = .ok (.iload_n 2, 1) := by decide +kernel
theorem dM_goes_40 : decode mM_goes.2.1 40 = .ok (.aload_n 0, 1) := by decide +kernel
theorem dM_goes_41 : decode mM_goes.2.1 41 = .ok (.invokevirtual 168, 3) := by decide +kernel
theorem dM_goes_44 : decode mM_goes.2.1 44 = .ok (.ifCond .eq 7, 3) := by decide +kernel
theorem dM_goes_47 : decode mM_goes.2.1 47 = .ok (.iconst 1, 1) := by decide +kernel
theorem dM_goes_48 : decode mM_goes.2.1 48 = .ok (.goto 4, 3) := by decide +kernel
theorem dM_goes_51 : decode mM_goes.2.1 51 = .ok (.iconst 0, 1) := by decide +kernel
theorem dM_goes_52 : decode mM_goes.2.1 52 = .ok (.iadd, 1) := by decide +kernel
theorem dM_goes_53 : decode mM_goes.2.1 53 = .ok (.istore_n 2, 1) := by decide +kernel
theorem dM_goes_54 : decode mM_goes.2.1 54 = .ok (.iinc 3 1, 3) := by decide +kernel
theorem dM_goes_57 : decode mM_goes.2.1 57 = .ok (.goto (-23), 3) := by decide +kernel
theorem dM_goes_60 : decode mM_goes.2.1 60 = .ok (.iload_n 2, 1) := by decide +kernel
theorem dM_goes_61 : decode mM_goes.2.1 61 = .ok (.ireturn, 1) := by decide +kernel
theorem dM_undo_0 : decode mM_undo.2.1 0 = .ok (.aload_n 0, 1) := by decide +kernel
theorem dM_undo_1 : decode mM_undo.2.1 1 = .ok (.getfield 64, 3) := by decide +kernel
theorem dM_undo_4 : decode mM_undo.2.1 4 = .ok (.ifCond .ne 6, 3) := by decide +kernel
theorem dM_undo_7 : decode mM_undo.2.1 7 = .ok (.bipush (-2), 2) := by decide +kernel
theorem dM_undo_9 : decode mM_undo.2.1 9 = .ok (.ireturn, 1) := by decide +kernel
theorem dM_undo_10 : decode mM_undo.2.1 10 = .ok (.aload_n 0, 1) := by decide +kernel
theorem dM_undo_11 : decode mM_undo.2.1 11 = .ok (.dup, 1) := by decide +kernel
theorem dM_undo_12 : decode mM_undo.2.1 12 = .ok (.getfield 64, 3) := by decide +kernel
theorem dM_undo_15 : decode mM_undo.2.1 15 = .ok (.iconst 1, 1) := by decide +kernel
theorem dM_undo_16 : decode mM_undo.2.1 16 = .ok (.isub, 1) := by decide +kernel
theorem dM_undo_17 : decode mM_undo.2.1 17 = .ok (.putfield 64, 3) := by decide +kernel
theorem dM_undo_20 : decode mM_undo.2.1 20 = .ok (.iconst 0, 1) := by decide +kernel
theorem dM_undo_21 : decode mM_undo.2.1 21 = .ok (.istore_n 1, 1) := by decide +kernel
theorem dM_undo_22 : decode mM_undo.2.1 22 = .ok (.iload_n 1, 1) := by decide +kernel
theorem dM_undo_23 : decode mM_undo.2.1 23 = .ok (.bipush 114, 2) := by decide +kernel
theorem dM_undo_25 : decode mM_undo.2.1 25 = .ok (.if_icmp .ge 29, 3) := by decide +kernel
theorem dM_undo_28 : decode mM_undo.2.1 28 = .ok (.aload_n 0, 1) := by decide +kernel
theorem dM_undo_29 : decode mM_undo.2.1 29 = .ok (.getfield 16, 3) := by decide +kernel
theorem dM_undo_32 : decode mM_undo.2.1 32 = .ok (.iload_n 1, 1) := by decide +kernel
theorem dM_undo_33 : decode mM_undo.2.1 33 = .ok (.aload_n 0, 1) := by decide +kernel
theorem dM_undo_34 : decode mM_undo.2.1 34 = .ok (.getfield 20, 3) := by decide +kernel
theorem dM_undo_37 : decode mM_undo.2.1 37 = .ok (.bipush 114, 2) := by decide +kernel
theorem dM_undo_39 : decode mM_undo.2.1 39 = .ok (.aload_n 0, 1) := by decide +kernel
theorem dM_undo_40 : decode mM_undo.2.1 40 = .ok (.getfield 64, 3) := by decide +kernel
theorem dM_undo_43 : decode mM_undo.2.1 43 = .ok (.imul, 1) := by decide +kernel
theorem dM_undo_44 : decode mM_undo.2.1 44 = .ok (.iload_n 1, 1) := by decide +kernel
theorem dM_undo_45 : decode mM_undo.2.1 45 = .ok (.iadd, 1) := by decide +kernel
theorem dM_undo_46 : decode mM_undo.2.1 46 = .ok (.iaload, 1) := by decide +kernel
theorem dM_undo_47 : decode mM_undo.2.1 47 = .ok (.iastore, 1) := by decide +kernel
theorem dM_undo_48 : decode mM_undo.2.1 48 = .ok (.iinc 1 1, 3) := by decide +kernel
theorem dM_undo_51 : decode mM_undo.2.1 51 = .ok (.goto (-29), 3) := by decide +kernel
theorem dM_undo_54 : decode mM_undo.2.1 54 = .ok (.aload_n 0, 1) := by decide +kernel
theorem dM_undo_55 : decode mM_undo.2.1 55 = .ok (.getfield 64, 3) := by decide +kernel
theorem dM_undo_58 : decode mM_undo.2.1 58 = .ok (.ireturn, 1) := by decide +kernel
theorem dM_manyKnown_0 : decode mM_manyKnown.2.1 0 = .ok (.iconst 0, 1) := by decide +kernel
theorem dM_manyKnown_1 : decode mM_manyKnown.2.1 1 = .ok (.istore_n 2, 1) := by decide +kernel
theorem dM_manyKnown_2 : decode mM_manyKnown.2.1 2 = .ok (.iconst 0, 1) := by decide +kernel
theorem dM_manyKnown_3 : decode mM_manyKnown.2.1 3 = .ok (.istore_n 3, 1) := by decide +kernel
theorem dM_manyKnown_4 : decode mM_manyKnown.2.1 4 = .ok (.iload_n 3, 1) := by decide +kernel
theorem dM_manyKnown_5 : decode mM_manyKnown.2.1 5 = .ok (.aload_n 0, 1) := by decide +kernel
theorem dM_manyKnown_6 : decode mM_manyKnown.2.1 6 = .ok (.invokevirtual 57, 3) := by decide +kernel
theorem dM_manyKnown_9 : decode mM_manyKnown.2.1 9 = .ok (.if_icmp .ge 30, 3) := by decide +kernel
theorem dM_manyKnown_12 : decode mM_manyKnown.2.1 12 = .ok (.iload_n 2, 1) := by decide +kernel
theorem dM_manyKnown_13 : decode mM_manyKnown.2.1 13 = .ok (.aload_n 0, 1) := by decide +kernel
theorem dM_manyKnown_14 : decode mM_manyKnown.2.1 14 = .ok (.getfield 16, 3) := by decide +kernel
theorem dM_manyKnown_17 : decode mM_manyKnown.2.1 17 = .ok (.bipush 36, 2) := by decide +kernel
theorem dM_manyKnown_19 : decode mM_manyKnown.2.1 19 = .ok (.iload_n 3, 1) := by decide +kernel
theorem dM_manyKnown_20 : decode mM_manyKnown.2.1 20 = .ok (.iadd, 1) := by decide +kernel
theorem dM_manyKnown_21 : decode mM_manyKnown.2.1 21 = .ok (.iaload, 1) := by decide +kernel
theorem dM_manyKnown_22 : decode mM_manyKnown.2.1 22 = .ok (.iload_n 1, 1) := by decide +kernel
theorem dM_manyKnown_23 : decode mM_manyKnown.2.1 23 = .ok (.if_icmp .ne 7, 3) := by decide +kernel
theorem dM_manyKnown_26 : decode mM_manyKnown.2.1 26 = .ok (.iconst 1, 1) := by decide +kernel
theorem dM_manyKnown_27 : decode mM_manyKnown.2.1 27 = .ok (.goto 4, 3) := by decide +kernel
theorem dM_manyKnown_30 : decode mM_manyKnown.2.1 30 = .ok (.iconst 0, 1) := by decide +kernel
theorem dM_manyKnown_31 : decode mM_manyKnown.2.1 31 = .ok (.iadd, 1) := by decide +kernel
theorem dM_manyKnown_32 : decode mM_manyKnown.2.1 32 = .ok (.istore_n 2, 1) := by decide +kernel
theorem dM_manyKnown_33 : decode mM_manyKnown.2.1 33 = .ok (.iinc 3 1, 3) := by decide +kernel
theorem dM_manyKnown_36 : decode mM_manyKnown.2.1 36 = .ok (.goto (-32), 3) := by decide +kernel
theorem dM_manyKnown_39 : decode mM_manyKnown.2.1 39 = .ok (.iload_n 2, 1) := by decide +kernel
theorem dM_manyKnown_40 : decode mM_manyKnown.2.1 40 = .ok (.ireturn, 1) := by decide +kernel
theorem dM_robot_0 : decode mM_robot.2.1 0 = .ok (.iload_n 1, 1) := by decide +kernel
theorem dM_robot_1 : decode mM_robot.2.1 1 = .ok (.iconst 0, 1) := by decide +kernel
theorem dM_robot_2 : decode mM_robot.2.1 2 = .ok (.iconst 5, 1) := by decide +kernel
theorem dM_robot_3 : decode mM_robot.2.1 3 = .ok (.invokestatic 67, 3) := by decide +kernel
theorem dM_robot_6 : decode mM_robot.2.1 6 = .ok (.ifCond .ne 5, 3) := by decide +kernel
theorem dM_robot_9 : decode mM_robot.2.1 9 = .ok (.iconst (-1), 1) := by decide +kernel
theorem dM_robot_10 : decode mM_robot.2.1 10 = .ok (.ireturn, 1) := by decide +kernel
theorem dM_robot_11 : decode mM_robot.2.1 11 = .ok (.iload_n 1, 1) := by decide +kernel
theorem dM_robot_12 : decode mM_robot.2.1 12 = .ok (.iconst 4, 1) := by decide +kernel
theorem dM_robot_13 : decode mM_robot.2.1 13 = .ok (.if_icmp .ge 15, 3) := by decide +kernel
theorem dM_robot_16 : decode mM_robot.2.1 16 = .ok (.aload_n 0, 1) := by decide +kernel
theorem dM_robot_17 : decode mM_robot.2.1 17 = .ok (.getfield 16, 3) := by decide +kernel
theorem dM_robot_20 : decode mM_robot.2.1 20 = .ok (.bipush 108, 2) := by decide +kernel
theorem dM_robot_22 : decode mM_robot.2.1 22 = .ok (.iload_n 1, 1) := by decide +kernel
theorem dM_robot_23 : decode mM_robot.2.1 23 = .ok (.iadd, 1) := by decide +kernel
theorem dM_robot_24 : decode mM_robot.2.1 24 = .ok (.iaload, 1) := by decide +kernel
theorem dM_robot_25 : decode mM_robot.2.1 25 = .ok (.goto 10, 3) := by decide +kernel
theorem dM_robot_28 : decode mM_robot.2.1 28 = .ok (.aload_n 0, 1) := by decide +kernel
theorem dM_robot_29 : decode mM_robot.2.1 29 = .ok (.iload_n 1, 1) := by decide +kernel
theorem dM_robot_30 : decode mM_robot.2.1 30 = .ok (.iconst 3, 1) := by decide +kernel
theorem dM_robot_31 : decode mM_robot.2.1 31 = .ok (.isub, 1) := by decide +kernel
theorem dM_robot_32 : decode mM_robot.2.1 32 = .ok (.invokevirtual 172, 3) := by decide +kernel
theorem dM_robot_35 : decode mM_robot.2.1 35 = .ok (.ireturn, 1) := by decide +kernel
theorem dM_knows_0 : decode mM_knows.2.1 0 = .ok (.aload_n 0, 1) := by decide +kernel
theorem dM_knows_1 : decode mM_knows.2.1 1 = .ok (.iload_n 1, 1) := by decide +kernel
theorem dM_knows_2 : decode mM_knows.2.1 2 = .ok (.invokevirtual 94, 3) := by decide +kernel
theorem dM_knows_5 : decode mM_knows.2.1 5 = .ok (.ifCond .eq 15, 3) := by decide +kernel
theorem dM_knows_8 : decode mM_knows.2.1 8 = .ok (.aload_n 0, 1) := by decide +kernel
theorem dM_knows_9 : decode mM_knows.2.1 9 = .ok (.getfield 16, 3) := by decide +kernel
theorem dM_knows_12 : decode mM_knows.2.1 12 = .ok (.bipush 36, 2) := by decide +kernel
theorem dM_knows_14 : decode mM_knows.2.1 14 = .ok (.iload_n 1, 1) := by decide +kernel
theorem dM_knows_15 : decode mM_knows.2.1 15 = .ok (.iadd, 1) := by decide +kernel
theorem dM_knows_16 : decode mM_knows.2.1 16 = .ok (.iaload, 1) := by decide +kernel
theorem dM_knows_17 : decode mM_knows.2.1 17 = .ok (.goto 4, 3) := by decide +kernel
theorem dM_knows_20 : decode mM_knows.2.1 20 = .ok (.iconst (-1), 1) := by decide +kernel
theorem dM_knows_21 : decode mM_knows.2.1 21 = .ok (.ireturn, 1) := by decide +kernel
theorem dM_home_0 : decode mM_home.2.1 0 = .ok (.aload_n 0, 1) := by decide +kernel
theorem dM_home_1 : decode mM_home.2.1 1 = .ok (.iload_n 1, 1) := by decide +kernel
theorem dM_home_2 : decode mM_home.2.1 2 = .ok (.invokevirtual 94, 3) := by decide +kernel
theorem dM_home_5 : decode mM_home.2.1 5 = .ok (.ifCond .ne 5, 3) := by decide +kernel
theorem dM_home_8 : decode mM_home.2.1 8 = .ok (.iconst (-1), 1) := by decide +kernel
theorem dM_home_9 : decode mM_home.2.1 9 = .ok (.ireturn, 1) := by decide +kernel
theorem dM_home_10 : decode mM_home.2.1 10 = .ok (.aload_n 0, 1) := by decide +kernel
theorem dM_home_11 : decode mM_home.2.1 11 = .ok (.aload_n 0, 1) := by decide +kernel
theorem dM_home_12 : decode mM_home.2.1 12 = .ok (.getfield 61, 3) := by decide +kernel
theorem dM_home_15 : decode mM_home.2.1 15 = .ok (.iconst 1, 1) := by decide +kernel
theorem dM_home_16 : decode mM_home.2.1 16 = .ok (.aload_n 0, 1) := by decide +kernel
theorem dM_home_17 : decode mM_home.2.1 17 = .ok (.getfield 45, 3) := by decide +kernel
theorem dM_home_20 : decode mM_home.2.1 20 = .ok (.invokevirtual 139, 3) := by decide +kernel
theorem dM_home_23 : decode mM_home.2.1 23 = .ok (.aload_n 0, 1) := by decide +kernel
theorem dM_home_24 : decode mM_home.2.1 24 = .ok (.getfield 45, 3) := by decide +kernel
theorem dM_home_27 : decode mM_home.2.1 27 = .ok (.iload_n 1, 1) := by decide +kernel
theorem dM_home_28 : decode mM_home.2.1 28 = .ok (.iaload, 1) := by decide +kernel
theorem dM_home_29 : decode mM_home.2.1 29 = .ok (.ireturn, 1) := by decide +kernel
theorem dM_target_0 : decode mM_target.2.1 0 = .ok (.iload_n 1, 1) := by decide +kernel
theorem dM_target_1 : decode mM_target.2.1 1 = .ok (.iconst 0, 1) := by decide +kernel
theorem dM_target_2 : decode mM_target.2.1 2 = .ok (.iconst 3, 1) := by decide +kernel
theorem dM_target_3 : decode mM_target.2.1 3 = .ok (.invokestatic 67, 3) := by decide +kernel
theorem dM_target_6 : decode mM_target.2.1 6 = .ok (.ifCond .ne 5, 3) := by decide +kernel
theorem dM_target_9 : decode mM_target.2.1 9 = .ok (.iconst (-1), 1) := by decide +kernel
theorem dM_target_10 : decode mM_target.2.1 10 = .ok (.ireturn, 1) := by decide +kernel
theorem dM_target_11 : decode mM_target.2.1 11 = .ok (.aload_n 0, 1) := by decide +kernel
theorem dM_target_12 : decode mM_target.2.1 12 = .ok (.invokevirtual 158, 3) := by decide +kernel
theorem dM_target_15 : decode mM_target.2.1 15 = .ok (.aload_n 0, 1) := by decide +kernel
theorem dM_target_16 : decode mM_target.2.1 16 = .ok (.getfield 143, 3) := by decide +kernel
theorem dM_target_19 : decode mM_target.2.1 19 = .ok (.bipush (-9), 2) := by decide +kernel
theorem dM_target_21 : decode mM_target.2.1 21 = .ok (.if_icmp .ne 6, 3) := by decide +kernel
theorem dM_target_24 : decode mM_target.2.1 24 = .ok (.bipush (-9), 2) := by decide +kernel
theorem dM_target_26 : decode mM_target.2.1 26 = .ok (.ireturn, 1) := by decide +kernel
theorem dM_target_27 : decode mM_target.2.1 27 = .ok (.iload_n 1, 1) := by decide +kernel
theorem dM_target_28 : decode mM_target.2.1 28 = .ok (.ifCond .ne 10, 3) := by decide +kernel
theorem dM_target_31 : decode mM_target.2.1 31 = .ok (.aload_n 0, 1) := by decide +kernel
theorem dM_target_32 : decode mM_target.2.1 32 = .ok (.getfield 143, 3) := by decide +kernel
theorem dM_target_35 : decode mM_target.2.1 35 = .ok (.goto 31, 3) := by decide +kernel
theorem dM_target_38 : decode mM_target.2.1 38 = .ok (.iload_n 1, 1) := by decide +kernel
theorem dM_target_39 : decode mM_target.2.1 39 = .ok (.iconst 1, 1) := by decide +kernel
theorem dM_target_40 : decode mM_target.2.1 40 = .ok (.if_icmp .ne 10, 3) := by decide +kernel
theorem dM_target_43 : decode mM_target.2.1 43 = .ok (.aload_n 0, 1) := by decide +kernel
theorem dM_target_44 : decode mM_target.2.1 44 = .ok (.getfield 149, 3) := by decide +kernel
theorem dM_target_47 : decode mM_target.2.1 47 = .ok (.goto 19, 3) := by decide +kernel
theorem dM_target_50 : decode mM_target.2.1 50 = .ok (.iload_n 1, 1) := by decide +kernel
theorem dM_target_51 : decode mM_target.2.1 51 = .ok (.iconst 2, 1) := by decide +kernel
theorem dM_target_52 : decode mM_target.2.1 52 = .ok (.if_icmp .ne 10, 3) := by decide +kernel
theorem dM_target_55 : decode mM_target.2.1 55 = .ok (.aload_n 0, 1) := by decide +kernel
theorem dM_target_56 : decode mM_target.2.1 56 = .ok (.getfield 155, 3) := by decide +kernel
theorem dM_target_59 : decode mM_target.2.1 59 = .ok (.goto 7, 3) := by decide +kernel
theorem dM_target_62 : decode mM_target.2.1 62 = .ok (.aload_n 0, 1) := by decide +kernel
theorem dM_target_63 : decode mM_target.2.1 63 = .ok (.getfield 152, 3) := by decide +kernel
theorem dM_target_66 : decode mM_target.2.1 66 = .ok (.ireturn, 1) := by decide +kernel
theorem dM_place_0 : decode mM_place.2.1 0 = .ok (.iload_n 1, 1) := by decide +kernel
theorem dM_place_1 : decode mM_place.2.1 1 = .ok (.iconst (-1), 1) := by decide +kernel
theorem dM_place_2 : decode mM_place.2.1 2 = .ok (.if_icmp .ge 5, 3) := by decide +kernel
theorem dM_place_5 : decode mM_place.2.1 5 = .ok (.iconst (-1), 1) := by decide +kernel
theorem dM_place_6 : decode mM_place.2.1 6 = .ok (.ireturn, 1) := by decide +kernel
theorem dM_place_7 : decode mM_place.2.1 7 = .ok (.aload_n 0, 1) := by decide +kernel
theorem dM_place_8 : decode mM_place.2.1 8 = .ok (.getfield 16, 3) := by decide +kernel
theorem dM_place_11 : decode mM_place.2.1 11 = .ok (.bipush 111, 2) := by decide +kernel
theorem dM_place_13 : decode mM_place.2.1 13 = .ok (.iaload, 1) := by decide +kernel
theorem dM_place_14 : decode mM_place.2.1 14 = .ok (.ifCond .ne 39, 3) := by decide +kernel
theorem dM_place_17 : decode mM_place.2.1 17 = .ok (.iload_n 1, 1) := by decide +kernel
theorem dM_place_18 : decode mM_place.2.1 18 = .ok (.iconst (-1), 1) := by decide +kernel
theorem dM_place_19 : decode mM_place.2.1 19 = .ok (.if_icmp .ne 7, 3) := by decide +kernel
theorem dM_place_22 : decode mM_place.2.1 22 = .ok (.iconst 1, 1) := by decide +kernel
theorem dM_place_23 : decode mM_place.2.1 23 = .ok (.goto 29, 3) := by decide +kernel
theorem dM_place_26 : decode mM_place.2.1 26 = .ok (.iload_n 1, 1) := by decide +kernel
theorem dM_place_27 : decode mM_place.2.1 27 = .ok (.ifCond .ne 23, 3) := by decide +kernel
theorem dM_place_30 : decode mM_place.2.1 30 = .ok (.iconst 4, 1) := by decide +kernel
theorem dM_place_31 : decode mM_place.2.1 31 = .ok (.aload_n 0, 1) := by decide +kernel
theorem dM_place_32 : decode mM_place.2.1 32 = .ok (.getfield 16, 3) := by decide +kernel
theorem dM_place_35 : decode mM_place.2.1 35 = .ok (.bipush 108, 2) := by decide +kernel
theorem dM_place_37 : decode mM_place.2.1 37 = .ok (.iaload, 1) := by decide +kernel
theorem dM_place_38 : decode mM_place.2.1 38 = .ok (.imul, 1) := by decide +kernel
theorem dM_place_39 : decode mM_place.2.1 39 = .ok (.aload_n 0, 1) := by decide +kernel
theorem dM_place_40 : decode mM_place.2.1 40 = .ok (.getfield 16, 3) := by decide +kernel
theorem dM_place_43 : decode mM_place.2.1 43 = .ok (.bipush 109, 2) := by decide +kernel
theorem dM_place_45 : decode mM_place.2.1 45 = .ok (.iaload, 1) := by decide +kernel
theorem dM_place_46 : decode mM_place.2.1 46 = .ok (.iadd, 1) := by decide +kernel
theorem dM_place_47 : decode mM_place.2.1 47 = .ok (.goto 5, 3) := by decide +kernel
theorem dM_place_50 : decode mM_place.2.1 50 = .ok (.bipush (-9), 2) := by decide +kernel
theorem dM_place_52 : decode mM_place.2.1 52 = .ok (.ireturn, 1) := by decide +kernel
theorem dM_place_53 : decode mM_place.2.1 53 = .ok (.iload_n 1, 1) := by decide +kernel
theorem dM_place_54 : decode mM_place.2.1 54 = .ok (.iconst (-1), 1) := by decide +kernel
theorem dM_place_55 : decode mM_place.2.1 55 = .ok (.if_icmp .ne 8, 3) := by decide +kernel
theorem dM_place_58 : decode mM_place.2.1 58 = .ok (.aload_n 0, 1) := by decide +kernel
theorem dM_place_59 : decode mM_place.2.1 59 = .ok (.invokevirtual 106, 3) := by decide +kernel
theorem dM_place_62 : decode mM_place.2.1 62 = .ok (.ireturn, 1) := by decide +kernel
theorem dM_place_63 : decode mM_place.2.1 63 = .ok (.iload_n 1, 1) := by decide +kernel
theorem dM_place_64 : decode mM_place.2.1 64 = .ok (.istore_n 2, 1) := by decide +kernel
theorem dM_place_65 : decode mM_place.2.1 65 = .ok (.iconst 0, 1) := by decide +kernel
theorem dM_place_66 : decode mM_place.2.1 66 = .ok (.istore_n 3, 1) := by decide +kernel
theorem dM_place_67 : decode mM_place.2.1 67 = .ok (.iload_n 3, 1) := by decide +kernel
theorem dM_place_68 : decode mM_place.2.1 68 = .ok (.iconst 4, 1) := by decide +kernel
theorem dM_place_69 : decode mM_place.2.1 69 = .ok (.aload_n 0, 1) := by decide +kernel
theorem dM_place_70 : decode mM_place.2.1 70 = .ok (.invokevirtual 57, 3) := by decide +kernel
theorem dM_place_73 : decode mM_place.2.1 73 = .ok (.imul, 1) := by decide +kernel
theorem dM_place_74 : decode mM_place.2.1 74 = .ok (.if_icmp .ge 39, 3) := by decide +kernel
theorem dM_place_77 : decode mM_place.2.1 77 = .ok (.aload_n 0, 1) := by decide +kernel
theorem dM_place_78 : decode mM_place.2.1 78 = .ok (.getfield 16, 3) := by decide +kernel
theorem dM_place_81 : decode mM_place.2.1 81 = .ok (.bipush 72, 2) := by decide +kernel
theorem dM_place_83 : decode mM_place.2.1 83 = .ok (.iload_n 3, 1) := by decide +kernel
theorem dM_place_84 : decode mM_place.2.1 84 = .ok (.iconst 4, 1) := by decide +kernel
theorem dM_place_85 : decode mM_place.2.1 85 = .ok (.idiv, 1) := by decide +kernel
theorem dM_place_86 : decode mM_place.2.1 86 = .ok (.iadd, 1) := by decide +kernel
theorem dM_place_87 : decode mM_place.2.1 87 = .ok (.iaload, 1) := by decide +kernel
theorem dM_place_88 : decode mM_place.2.1 88 = .ok (.iload_n 3, 1) := by decide +kernel
theorem dM_place_89 : decode mM_place.2.1 89 = .ok (.iconst 4, 1) := by decide +kernel
theorem dM_place_90 : decode mM_place.2.1 90 = .ok (.irem, 1) := by decide +kernel
theorem dM_place_91 : decode mM_place.2.1 91 = .ok (.ishr, 1) := by decide +kernel
theorem dM_place_92 : decode mM_place.2.1 92 = .ok (.iconst 1, 1) := by decide +kernel
theorem dM_place_93 : decode mM_place.2.1 93 = .ok (.iand, 1) := by decide +kernel
theorem dM_place_94 : decode mM_place.2.1 94 = .ok (.iconst 1, 1) := by decide +kernel
theorem dM_place_95 : decode mM_place.2.1 95 = .ok (.if_icmp .ne 12, 3) := by decide +kernel
theorem dM_place_98 : decode mM_place.2.1 98 = .ok (.iload_n 2, 1) := by decide +kernel
theorem dM_place_99 : decode mM_place.2.1 99 = .ok (.ifCond .ne 5, 3) := by decide +kernel
theorem dM_place_102 : decode mM_place.2.1 102 = .ok (.iload_n 3, 1) := by decide +kernel
theorem dM_place_103 : decode mM_place.2.1 103 = .ok (.ireturn, 1) := by decide +kernel
theorem dM_place_104 : decode mM_place.2.1 104 = .ok (.iinc 2 (-1), 3) := by decide +kernel
theorem dM_place_107 : decode mM_place.2.1 107 = .ok (.iinc 3 1, 3) := by decide +kernel
theorem dM_place_110 : decode mM_place.2.1 110 = .ok (.goto (-43), 3) := by decide +kernel
theorem dM_place_113 : decode mM_place.2.1 113 = .ok (.bipush (-9), 2) := by decide +kernel
theorem dM_place_115 : decode mM_place.2.1 115 = .ok (.ireturn, 1) := by decide +kernel
theorem dM_isFirst_0 : decode mM_isFirst.2.1 0 = .ok (.aload_n 0, 1) := by decide +kernel
theorem dM_isFirst_1 : decode mM_isFirst.2.1 1 = .ok (.iload_n 1, 1) := by decide +kernel
theorem dM_isFirst_2 : decode mM_isFirst.2.1 2 = .ok (.invokevirtual 103, 3) := by decide +kernel
theorem dM_isFirst_5 : decode mM_isFirst.2.1 5 = .ok (.ifCond .eq 26, 3) := by decide +kernel
theorem dM_isFirst_8 : decode mM_isFirst.2.1 8 = .ok (.iload_n 1, 1) := by decide +kernel
theorem dM_isFirst_9 : decode mM_isFirst.2.1 9 = .ok (.aload_n 0, 1) := by decide +kernel
theorem dM_isFirst_10 : decode mM_isFirst.2.1 10 = .ok (.getfield 7, 3) := by decide +kernel
theorem dM_isFirst_13 : decode mM_isFirst.2.1 13 = .ok (.irem, 1) := by decide +kernel
theorem dM_isFirst_14 : decode mM_isFirst.2.1 14 = .ok (.ifCond .eq 13, 3) := by decide +kernel
theorem dM_isFirst_17 : decode mM_isFirst.2.1 17 = .ok (.aload_n 0, 1) := by decide +kernel
theorem dM_isFirst_18 : decode mM_isFirst.2.1 18 = .ok (.iload_n 1, 1) := by decide +kernel
theorem dM_isFirst_19 : decode mM_isFirst.2.1 19 = .ok (.iconst 1, 1) := by decide +kernel
theorem dM_isFirst_20 : decode mM_isFirst.2.1 20 = .ok (.isub, 1) := by decide +kernel
theorem dM_isFirst_21 : decode mM_isFirst.2.1 21 = .ok (.invokevirtual 103, 3) := by decide +kernel
theorem dM_isFirst_24 : decode mM_isFirst.2.1 24 = .ok (.ifCond .ne 7, 3) := by decide +kernel
theorem dM_isFirst_27 : decode mM_isFirst.2.1 27 = .ok (.iconst 1, 1) := by decide +kernel
theorem dM_isFirst_28 : decode mM_isFirst.2.1 28 = .ok (.goto 4, 3) := by decide +kernel
theorem dM_isFirst_31 : decode mM_isFirst.2.1 31 = .ok (.iconst 0, 1) := by decide +kernel
theorem dM_isFirst_32 : decode mM_isFirst.2.1 32 = .ok (.ireturn, 1) := by decide +kernel
theorem dM_longOf_0 : decode mM_longOf.2.1 0 = .ok (.iconst 1, 1) := by decide +kernel
theorem dM_longOf_1 : decode mM_longOf.2.1 1 = .ok (.istore_n 2, 1) := by decide +kernel
theorem dM_longOf_2 : decode mM_longOf.2.1 2 = .ok (.iload_n 1, 1) := by decide +kernel
theorem dM_longOf_3 : decode mM_longOf.2.1 3 = .ok (.iload_n 2, 1) := by decide +kernel
theorem dM_longOf_4 : decode mM_longOf.2.1 4 = .ok (.iadd, 1) := by decide +kernel
theorem dM_longOf_5 : decode mM_longOf.2.1 5 = .ok (.aload_n 0, 1) := by decide +kernel
theorem dM_longOf_6 : decode mM_longOf.2.1 6 = .ok (.getfield 7, 3) := by decide +kernel
theorem dM_longOf_9 : decode mM_longOf.2.1 9 = .ok (.irem, 1) := by decide +kernel
theorem dM_longOf_10 : decode mM_longOf.2.1 10 = .ok (.ifCond .eq 19, 3) := by decide +kernel
theorem dM_longOf_13 : decode mM_longOf.2.1 13 = .ok (.aload_n 0, 1) := by decide +kernel
theorem dM_longOf_14 : decode mM_longOf.2.1 14 = .ok (.iload_n 1, 1) := by decide +kernel
theorem dM_longOf_15 : decode mM_longOf.2.1 15 = .ok (.iload_n 2, 1) := by decide +kernel
theorem dM_longOf_16 : decode mM_longOf.2.1 16 = .ok (.iadd, 1) := by decide +kernel
theorem dM_longOf_17 : decode mM_longOf.2.1 17 = .ok (.invokevirtual 103, 3) := by decide +kernel
theorem dM_longOf_20 : decode mM_longOf.2.1 20 = .ok (.ifCond .eq 9, 3) := by decide +kernel
theorem dM_longOf_23 : decode mM_longOf.2.1 23 = .ok (.iinc 2 1, 3) := by decide +kernel
theorem dM_longOf_26 : decode mM_longOf.2.1 26 = .ok (.goto (-24), 3) := by decide +kernel
theorem dM_longOf_29 : decode mM_longOf.2.1 29 = .ok (.iload_n 2, 1) := by decide +kernel
theorem dM_longOf_30 : decode mM_longOf.2.1 30 = .ok (.ireturn, 1) := by decide +kernel
theorem dM_lane_0 : decode mM_lane.2.1 0 = .ok (.iload_n 1, 1) := by decide +kernel
theorem dM_lane_1 : decode mM_lane.2.1 1 = .ok (.iconst (-1), 1) := by decide +kernel
theorem dM_lane_2 : decode mM_lane.2.1 2 = .ok (.if_icmp .lt 12, 3) := by decide +kernel
theorem dM_lane_5 : decode mM_lane.2.1 5 = .ok (.iload_n 2, 1) := by decide +kernel
theorem dM_lane_6 : decode mM_lane.2.1 6 = .ok (.iconst 0, 1) := by decide +kernel
theorem dM_lane_7 : decode mM_lane.2.1 7 = .ok (.iconst 1, 1) := by decide +kernel
theorem dM_lane_8 : decode mM_lane.2.1 8 = .ok (.invokestatic 67, 3) := by decide +kernel
theorem dM_lane_11 : decode mM_lane.2.1 11 = .ok (.ifCond .ne 5, 3) := by decide +kernel
theorem dM_lane_14 : decode mM_lane.2.1 14 = .ok (.iconst (-1), 1) := by decide +kernel
theorem dM_lane_15 : decode mM_lane.2.1 15 = .ok (.ireturn, 1) := by decide +kernel
theorem dM_lane_16 : decode mM_lane.2.1 16 = .ok (.iconst 0, 1) := by decide +kernel
theorem dM_lane_17 : decode mM_lane.2.1 17 = .ok (.istore_n 3, 1) := by decide +kernel
theorem dM_lane_18 : decode mM_lane.2.1 18 = .ok (.iconst 0, 1) := by decide +kernel
theorem dM_lane_19 : decode mM_lane.2.1 19 = .ok (.istore 4, 2) := by decide +kernel
theorem dM_lane_21 : decode mM_lane.2.1 21 = .ok (.iload 4, 2) := by decide +kernel
theorem dM_lane_23 : decode mM_lane.2.1 23 = .ok (.aload_n 0, 1) := by decide +kernel
theorem dM_lane_24 : decode mM_lane.2.1 24 = .ok (.invokevirtual 57, 3) := by decide +kernel
theorem dM_lane_27 : decode mM_lane.2.1 27 = .ok (.if_icmp .ge 42, 3) := by decide +kernel
theorem dM_lane_30 : decode mM_lane.2.1 30 = .ok (.aload_n 0, 1) := by decide +kernel
theorem dM_lane_31 : decode mM_lane.2.1 31 = .ok (.iload 4, 2) := by decide +kernel
theorem dM_lane_33 : decode mM_lane.2.1 33 = .ok (.invokevirtual 175, 3) := by decide +kernel
theorem dM_lane_36 : decode mM_lane.2.1 36 = .ok (.ifCond .eq 27, 3) := by decide +kernel
theorem dM_lane_39 : decode mM_lane.2.1 39 = .ok (.iload_n 3, 1) := by decide +kernel
theorem dM_lane_40 : decode mM_lane.2.1 40 = .ok (.iload_n 1, 1) := by decide +kernel
theorem dM_lane_41 : decode mM_lane.2.1 41 = .ok (.if_icmp .ne 19, 3) := by decide +kernel
theorem dM_lane_44 : decode mM_lane.2.1 44 = .ok (.iload_n 2, 1) := by decide +kernel
theorem dM_lane_45 : decode mM_lane.2.1 45 = .ok (.ifCond .ne 8, 3) := by decide +kernel
theorem dM_lane_48 : decode mM_lane.2.1 48 = .ok (.iload 4, 2) := by decide +kernel
theorem dM_lane_50 : decode mM_lane.2.1 50 = .ok (.goto 9, 3) := by decide +kernel
theorem dM_lane_53 : decode mM_lane.2.1 53 = .ok (.aload_n 0, 1) := by decide +kernel
theorem dM_lane_54 : decode mM_lane.2.1 54 = .ok (.iload 4, 2) := by decide +kernel
theorem dM_lane_56 : decode mM_lane.2.1 56 = .ok (.invokevirtual 178, 3) := by decide +kernel
theorem dM_lane_59 : decode mM_lane.2.1 59 = .ok (.ireturn, 1) := by decide +kernel
theorem dM_lane_60 : decode mM_lane.2.1 60 = .ok (.iinc 3 1, 3) := by decide +kernel
theorem dM_lane_63 : decode mM_lane.2.1 63 = .ok (.iinc 4 1, 3) := by decide +kernel
theorem dM_lane_66 : decode mM_lane.2.1 66 = .ok (.goto (-45), 3) := by decide +kernel
theorem dM_lane_69 : decode mM_lane.2.1 69 = .ok (.iload_n 1, 1) := by decide +kernel
theorem dM_lane_70 : decode mM_lane.2.1 70 = .ok (.iconst (-1), 1) := by decide +kernel
theorem dM_lane_71 : decode mM_lane.2.1 71 = .ok (.if_icmp .ne 7, 3) := by decide +kernel
theorem dM_lane_74 : decode mM_lane.2.1 74 = .ok (.iload_n 3, 1) := by decide +kernel
theorem dM_lane_75 : decode mM_lane.2.1 75 = .ok (.goto 5, 3) := by decide +kernel
theorem dM_lane_78 : decode mM_lane.2.1 78 = .ok (.bipush (-9), 2) := by decide +kernel
theorem dM_lane_80 : decode mM_lane.2.1 80 = .ok (.ireturn, 1) := by decide +kernel
theorem dM_isOfRoom_0 : decode mM_isOfRoom.2.1 0 = .ok (.aload_n 0, 1) := by decide +kernel
theorem dM_isOfRoom_1 : decode mM_isOfRoom.2.1 1 = .ok (.getfield 16, 3) := by decide +kernel
theorem dM_isOfRoom_4 : decode mM_isOfRoom.2.1 4 = .ok (.iload_n 1, 1) := by decide +kernel
theorem dM_isOfRoom_5 : decode mM_isOfRoom.2.1 5 = .ok (.iaload, 1) := by decide +kernel
theorem dM_isOfRoom_6 : decode mM_isOfRoom.2.1 6 = .ok (.ifCond .eq 14, 3) := by decide +kernel
theorem dM_isOfRoom_9 : decode mM_isOfRoom.2.1 9 = .ok (.aload_n 0, 1) := by decide +kernel
theorem dM_isOfRoom_10 : decode mM_isOfRoom.2.1 10 = .ok (.getfield 16, 3) := by decide +kernel
theorem dM_isOfRoom_13 : decode mM_isOfRoom.2.1 13 = .ok (.iload_n 1, 1) := by decide +kernel
theorem dM_isOfRoom_14 : decode mM_isOfRoom.2.1 14 = .ok (.iaload, 1) := by decide +kernel
theorem dM_isOfRoom_15 : decode mM_isOfRoom.2.1 15 = .ok (.bipush 6, 2) := by decide +kernel
theorem dM_isOfRoom_17 : decode mM_isOfRoom.2.1 17 = .ok (.if_icmp .ne 7, 3) := by decide +kernel
theorem dM_isOfRoom_20 : decode mM_isOfRoom.2.1 20 = .ok (.iconst 1, 1) := by decide +kernel
theorem dM_isOfRoom_21 : decode mM_isOfRoom.2.1 21 = .ok (.goto 4, 3) := by decide +kernel
theorem dM_isOfRoom_24 : decode mM_isOfRoom.2.1 24 = .ok (.iconst 0, 1) := by decide +kernel
theorem dM_isOfRoom_25 : decode mM_isOfRoom.2.1 25 = .ok (.ireturn, 1) := by decide +kernel
theorem dM_laysRooms_0 : decode mM_laysRooms.2.1 0 = .ok (.iconst 0, 1) := by decide +kernel
theorem dM_laysRooms_1 : decode mM_laysRooms.2.1 1 = .ok (.istore_n 1, 1) := by decide +kernel
theorem dM_laysRooms_2 : decode mM_laysRooms.2.1 2 = .ok (.iload_n 1, 1) := by decide +kernel
theorem dM_laysRooms_3 : decode mM_laysRooms.2.1 3 = .ok (.aload_n 0, 1) := by decide +kernel
theorem dM_laysRooms_4 : decode mM_laysRooms.2.1 4 = .ok (.invokevirtual 57, 3) := by decide +kernel
theorem dM_laysRooms_7 : decode mM_laysRooms.2.1 7 = .ok (.if_icmp .ge 17, 3) := by decide +kernel
theorem dM_laysRooms_10 : decode mM_laysRooms.2.1 10 = .ok (.aload_n 0, 1) := by decide +kernel
theorem dM_laysRooms_11 : decode mM_laysRooms.2.1 11 = .ok (.getfield 51, 3) := by decide +kernel
theorem dM_laysRooms_14 : decode mM_laysRooms.2.1 14 = .ok (.iload_n 1, 1) := by decide +kernel
theorem dM_laysRooms_15 : decode mM_laysRooms.2.1 15 = .ok (.bipush (-9), 2) := by decide +kernel
theorem dM_laysRooms_17 : decode mM_laysRooms.2.1 17 = .ok (.iastore, 1) := by decide +kernel
theorem dM_laysRooms_18 : decode mM_laysRooms.2.1 18 = .ok (.iinc 1 1, 3) := by decide +kernel
theorem dM_laysRooms_21 : decode mM_laysRooms.2.1 21 = .ok (.goto (-19), 3) := by decide +kernel
theorem dM_laysRooms_24 : decode mM_laysRooms.2.1 24 = .ok (.iconst 0, 1) := by decide +kernel
theorem dM_laysRooms_25 : decode mM_laysRooms.2.1 25 = .ok (.istore_n 1, 1) := by decide +kernel
theorem dM_laysRooms_26 : decode mM_laysRooms.2.1 26 = .ok (.iconst 0, 1) := by decide +kernel
theorem dM_laysRooms_27 : decode mM_laysRooms.2.1 27 = .ok (.istore_n 2, 1) := by decide +kernel
theorem dM_laysRooms_28 : decode mM_laysRooms.2.1 28 = .ok (.iload_n 2, 1) := by decide +kernel
theorem dM_laysRooms_29 : decode mM_laysRooms.2.1 29 = .ok (.aload_n 0, 1) := by decide +kernel
theorem dM_laysRooms_30 : decode mM_laysRooms.2.1 30 = .ok (.invokevirtual 57, 3) := by decide +kernel
theorem dM_laysRooms_33 : decode mM_laysRooms.2.1 33 = .ok (.if_icmp .ge 134, 3) := by decide +kernel
theorem dM_laysRooms_36 : decode mM_laysRooms.2.1 36 = .ok (.aload_n 0, 1) := by decide +kernel
theorem dM_laysRooms_37 : decode mM_laysRooms.2.1 37 = .ok (.iload_n 2, 1) := by decide +kernel
theorem dM_laysRooms_38 : decode mM_laysRooms.2.1 38 = .ok (.invokevirtual 181, 3) := by decide +kernel
theorem dM_laysRooms_41 : decode mM_laysRooms.2.1 41 = .ok (.ifCond .eq 120, 3) := by decide +kernel
theorem dM_laysRooms_44 : decode mM_laysRooms.2.1 44 = .ok (.aload_n 0, 1) := by decide +kernel
theorem dM_laysRooms_45 : decode mM_laysRooms.2.1 45 = .ok (.getfield 51, 3) := by decide +kernel
theorem dM_laysRooms_48 : decode mM_laysRooms.2.1 48 = .ok (.iload_n 2, 1) := by decide +kernel
theorem dM_laysRooms_49 : decode mM_laysRooms.2.1 49 = .ok (.iaload, 1) := by decide +kernel
theorem dM_laysRooms_50 : decode mM_laysRooms.2.1 50 = .ok (.bipush (-9), 2) := by decide +kernel
theorem dM_laysRooms_52 : decode mM_laysRooms.2.1 52 = .ok (.if_icmp .ne 109, 3) := by decide +kernel
theorem dM_laysRooms_55 : decode mM_laysRooms.2.1 55 = .ok (.aload_n 0, 1) := by decide +kernel
theorem dM_laysRooms_56 : decode mM_laysRooms.2.1 56 = .ok (.getfield 51, 3) := by decide +kernel
theorem dM_laysRooms_59 : decode mM_laysRooms.2.1 59 = .ok (.iload_n 2, 1) := by decide +kernel
theorem dM_laysRooms_60 : decode mM_laysRooms.2.1 60 = .ok (.iload_n 1, 1) := by decide +kernel
theorem dM_laysRooms_61 : decode mM_laysRooms.2.1 61 = .ok (.iastore, 1) := by decide +kernel
theorem dM_laysRooms_62 : decode mM_laysRooms.2.1 62 = .ok (.iconst 1, 1) := by decide +kernel
theorem dM_laysRooms_63 : decode mM_laysRooms.2.1 63 = .ok (.istore_n 3, 1) := by decide +kernel
theorem dM_laysRooms_64 : decode mM_laysRooms.2.1 64 = .ok (.iload_n 3, 1) := by decide +kernel
theorem dM_laysRooms_65 : decode mM_laysRooms.2.1 65 = .ok (.ifCond .eq 93, 3) := by decide +kernel
theorem dM_laysRooms_68 : decode mM_laysRooms.2.1 68 = .ok (.iconst 0, 1) := by decide +kernel
theorem dM_laysRooms_69 : decode mM_laysRooms.2.1 69 = .ok (.istore_n 3, 1) := by decide +kernel
theorem dM_laysRooms_70 : decode mM_laysRooms.2.1 70 = .ok (.iconst 0, 1) := by decide +kernel
theorem dM_laysRooms_71 : decode mM_laysRooms.2.1 71 = .ok (.istore 4, 2) := by decide +kernel
theorem dM_laysRooms_73 : decode mM_laysRooms.2.1 73 = .ok (.iload 4, 2) := by decide +kernel
theorem dM_laysRooms_75 : decode mM_laysRooms.2.1 75 = .ok (.iconst 4, 1) := by decide +kernel
theorem dM_laysRooms_76 : decode mM_laysRooms.2.1 76 = .ok (.aload_n 0, 1) := by decide +kernel
theorem dM_laysRooms_77 : decode mM_laysRooms.2.1 77 = .ok (.invokevirtual 57, 3) := by decide +kernel
theorem dM_laysRooms_80 : decode mM_laysRooms.2.1 80 = .ok (.imul, 1) := by decide +kernel
theorem dM_laysRooms_81 : decode mM_laysRooms.2.1 81 = .ok (.if_icmp .ge 74, 3) := by decide +kernel
theorem dM_laysRooms_84 : decode mM_laysRooms.2.1 84 = .ok (.aload_n 0, 1) := by decide +kernel
theorem dM_laysRooms_85 : decode mM_laysRooms.2.1 85 = .ok (.iload 4, 2) := by decide +kernel
theorem dM_laysRooms_87 : decode mM_laysRooms.2.1 87 = .ok (.iconst 4, 1) := by decide +kernel
theorem dM_laysRooms_88 : decode mM_laysRooms.2.1 88 = .ok (.idiv, 1) := by decide +kernel
theorem dM_laysRooms_89 : decode mM_laysRooms.2.1 89 = .ok (.iload 4, 2) := by decide +kernel
theorem dM_laysRooms_91 : decode mM_laysRooms.2.1 91 = .ok (.iconst 4, 1) := by decide +kernel
theorem dM_laysRooms_92 : decode mM_laysRooms.2.1 92 = .ok (.irem, 1) := by decide +kernel
theorem dM_laysRooms_93 : decode mM_laysRooms.2.1 93 = .ok (.invokevirtual 109, 3) := by decide +kernel
theorem dM_laysRooms_96 : decode mM_laysRooms.2.1 96 = .ok (.istore 5, 2) := by decide +kernel
theorem dM_laysRooms_98 : decode mM_laysRooms.2.1 98 = .ok (.aload_n 0, 1) := by decide +kernel
theorem dM_laysRooms_99 : decode mM_laysRooms.2.1 99 = .ok (.getfield 51, 3) := by decide +kernel
theorem dM_laysRooms_102 : decode mM_laysRooms.2.1 102 = .ok (.iload 4, 2) := by decide +kernel
theorem dM_laysRooms_104 : decode mM_laysRooms.2.1 104 = .ok (.iconst 4, 1) := by decide +kernel
theorem dM_laysRooms_105 : decode mM_laysRooms.2.1 105 = .ok (.idiv, 1) := by decide +kernel
theorem dM_laysRooms_106 : decode mM_laysRooms.2.1 106 = .ok (.iaload, 1) := by decide +kernel
theorem dM_laysRooms_107 : decode mM_laysRooms.2.1 107 = .ok (.iload_n 1, 1) := by decide +kernel
theorem dM_laysRooms_108 : decode mM_laysRooms.2.1 108 = .ok (.if_icmp .ne 41, 3) := by decide +kernel
theorem dM_laysRooms_111 : decode mM_laysRooms.2.1 111 = .ok (.iload 5, 2) := by decide +kernel
theorem dM_laysRooms_113 : decode mM_laysRooms.2.1 113 = .ok (.bipush (-9), 2) := by decide +kernel
theorem dM_laysRooms_115 : decode mM_laysRooms.2.1 115 = .ok (.if_icmp .eq 34, 3) := by decide +kernel
theorem dM_laysRooms_118 : decode mM_laysRooms.2.1 118 = .ok (.aload_n 0, 1) := by decide +kernel
theorem dM_laysRooms_119 : decode mM_laysRooms.2.1 119 = .ok (.iload 5, 2) := by decide +kernel
theorem dM_laysRooms_121 : decode mM_laysRooms.2.1 121 = .ok (.invokevirtual 181, 3) := by decide +kernel
theorem dM_laysRooms_124 : decode mM_laysRooms.2.1 124 = .ok (.ifCond .eq 25, 3) := by decide +kernel
theorem dM_laysRooms_127 : decode mM_laysRooms.2.1 127 = .ok (.aload_n 0, 1) := by decide +kernel
theorem dM_laysRooms_128 : decode mM_laysRooms.2.1 128 = .ok (.getfield 51, 3) := by decide +kernel
theorem dM_laysRooms_131 : decode mM_laysRooms.2.1 131 = .ok (.iload 5, 2) := by decide +kernel
theorem dM_laysRooms_133 : decode mM_laysRooms.2.1 133 = .ok (.iaload, 1) := by decide +kernel
theorem dM_laysRooms_134 : decode mM_laysRooms.2.1 134 = .ok (.bipush (-9), 2) := by decide +kernel
theorem dM_laysRooms_136 : decode mM_laysRooms.2.1 136 = .ok (.if_icmp .ne 13, 3) := by decide +kernel
theorem dM_laysRooms_139 : decode mM_laysRooms.2.1 139 = .ok (.aload_n 0, 1) := by decide +kernel
theorem dM_laysRooms_140 : decode mM_laysRooms.2.1 140 = .ok (.getfield 51, 3) := by decide +kernel
theorem dM_laysRooms_143 : decode mM_laysRooms.2.1 143 = .ok (.iload 5, 2) := by decide +kernel
theorem dM_laysRooms_145 : decode mM_laysRooms.2.1 145 = .ok (.iload_n 1, 1) := by decide +kernel
theorem dM_laysRooms_146 : decode mM_laysRooms.2.1 146 = .ok (.iastore, 1) := by decide +kernel
theorem dM_laysRooms_147 : decode mM_laysRooms.2.1 147 = .ok (.iconst 1, 1) := by decide +kernel
theorem dM_laysRooms_148 : decode mM_laysRooms.2.1 148 = .ok (.istore_n 3, 1) := by decide +kernel
theorem dM_laysRooms_149 : decode mM_laysRooms.2.1 149 = .ok (.iinc 4 1, 3) := by decide +kernel
theorem dM_laysRooms_152 : decode mM_laysRooms.2.1 152 = .ok (.goto (-79), 3) := by decide +kernel
theorem dM_laysRooms_155 : decode mM_laysRooms.2.1 155 = .ok (.goto (-91), 3) := by decide +kernel
theorem dM_laysRooms_158 : decode mM_laysRooms.2.1 158 = .ok (.iinc 1 1, 3) := by decide +kernel
theorem dM_laysRooms_161 : decode mM_laysRooms.2.1 161 = .ok (.iinc 2 1, 3) := by decide +kernel
theorem dM_laysRooms_164 : decode mM_laysRooms.2.1 164 = .ok (.goto (-136), 3) := by decide +kernel
theorem dM_laysRooms_167 : decode mM_laysRooms.2.1 167 = .ok (.iload_n 1, 1) := by decide +kernel
theorem dM_laysRooms_168 : decode mM_laysRooms.2.1 168 = .ok (.ireturn, 1) := by decide +kernel
theorem dM_room_0 : decode mM_room.2.1 0 = .ok (.iload_n 1, 1) := by decide +kernel
theorem dM_room_1 : decode mM_room.2.1 1 = .ok (.iconst (-1), 1) := by decide +kernel
theorem dM_room_2 : decode mM_room.2.1 2 = .ok (.if_icmp .eq 13, 3) := by decide +kernel
theorem dM_room_5 : decode mM_room.2.1 5 = .ok (.aload_n 0, 1) := by decide +kernel
theorem dM_room_6 : decode mM_room.2.1 6 = .ok (.iload_n 1, 1) := by decide +kernel
theorem dM_room_7 : decode mM_room.2.1 7 = .ok (.invokevirtual 94, 3) := by decide +kernel
theorem dM_room_10 : decode mM_room.2.1 10 = .ok (.ifCond .ne 5, 3) := by decide +kernel
theorem dM_room_13 : decode mM_room.2.1 13 = .ok (.iconst (-1), 1) := by decide +kernel
theorem dM_room_14 : decode mM_room.2.1 14 = .ok (.ireturn, 1) := by decide +kernel
theorem dM_room_15 : decode mM_room.2.1 15 = .ok (.aload_n 0, 1) := by decide +kernel
theorem dM_room_16 : decode mM_room.2.1 16 = .ok (.invokevirtual 184, 3) := by decide +kernel
theorem dM_room_19 : decode mM_room.2.1 19 = .ok (.istore_n 2, 1) := by decide +kernel
theorem dM_room_20 : decode mM_room.2.1 20 = .ok (.iload_n 1, 1) := by decide +kernel
theorem dM_room_21 : decode mM_room.2.1 21 = .ok (.iconst (-1), 1) := by decide +kernel
theorem dM_room_22 : decode mM_room.2.1 22 = .ok (.if_icmp .ne 7, 3) := by decide +kernel
theorem dM_room_25 : decode mM_room.2.1 25 = .ok (.iload_n 2, 1) := by decide +kernel
theorem dM_room_26 : decode mM_room.2.1 26 = .ok (.goto 9, 3) := by decide +kernel
theorem dM_room_29 : decode mM_room.2.1 29 = .ok (.aload_n 0, 1) := by decide +kernel
theorem dM_room_30 : decode mM_room.2.1 30 = .ok (.getfield 51, 3) := by decide +kernel
theorem dM_room_33 : decode mM_room.2.1 33 = .ok (.iload_n 1, 1) := by decide +kernel
theorem dM_room_34 : decode mM_room.2.1 34 = .ok (.iaload, 1) := by decide +kernel
theorem dM_room_35 : decode mM_room.2.1 35 = .ok (.ireturn, 1) := by decide +kernel
theorem dM_reach_0 : decode mM_reach.2.1 0 = .ok (.iload_n 1, 1) := by decide +kernel
theorem dM_reach_1 : decode mM_reach.2.1 1 = .ok (.iconst 0, 1) := by decide +kernel
theorem dM_reach_2 : decode mM_reach.2.1 2 = .ok (.iconst 1, 1) := by decide +kernel
theorem dM_reach_3 : decode mM_reach.2.1 3 = .ok (.invokestatic 67, 3) := by decide +kernel
theorem dM_reach_6 : decode mM_reach.2.1 6 = .ok (.ifCond .ne 5, 3) := by decide +kernel
theorem dM_reach_9 : decode mM_reach.2.1 9 = .ok (.iconst (-1), 1) := by decide +kernel
theorem dM_reach_10 : decode mM_reach.2.1 10 = .ok (.ireturn, 1) := by decide +kernel
theorem dM_reach_11 : decode mM_reach.2.1 11 = .ok (.aload_n 0, 1) := by decide +kernel
theorem dM_reach_12 : decode mM_reach.2.1 12 = .ok (.aload_n 0, 1) := by decide +kernel
theorem dM_reach_13 : decode mM_reach.2.1 13 = .ok (.getfield 61, 3) := by decide +kernel
theorem dM_reach_16 : decode mM_reach.2.1 16 = .ok (.iconst 0, 1) := by decide +kernel
theorem dM_reach_17 : decode mM_reach.2.1 17 = .ok (.aload_n 0, 1) := by decide +kernel
theorem dM_reach_18 : decode mM_reach.2.1 18 = .ok (.getfield 42, 3) := by decide +kernel
theorem dM_reach_21 : decode mM_reach.2.1 21 = .ok (.invokevirtual 139, 3) := by decide +kernel
theorem dM_reach_24 : decode mM_reach.2.1 24 = .ok (.iconst 0, 1) := by decide +kernel
theorem dM_reach_25 : decode mM_reach.2.1 25 = .ok (.istore_n 2, 1) := by decide +kernel
theorem dM_reach_26 : decode mM_reach.2.1 26 = .ok (.iconst 0, 1) := by decide +kernel
theorem dM_reach_27 : decode mM_reach.2.1 27 = .ok (.istore_n 3, 1) := by decide +kernel
theorem dM_reach_28 : decode mM_reach.2.1 28 = .ok (.iconst 0, 1) := by decide +kernel
theorem dM_reach_29 : decode mM_reach.2.1 29 = .ok (.istore 4, 2) := by decide +kernel
theorem dM_reach_31 : decode mM_reach.2.1 31 = .ok (.iload 4, 2) := by decide +kernel
theorem dM_reach_33 : decode mM_reach.2.1 33 = .ok (.aload_n 0, 1) := by decide +kernel
theorem dM_reach_34 : decode mM_reach.2.1 34 = .ok (.invokevirtual 57, 3) := by decide +kernel
theorem dM_reach_37 : decode mM_reach.2.1 37 = .ok (.if_icmp .ge 52, 3) := by decide +kernel
theorem dM_reach_40 : decode mM_reach.2.1 40 = .ok (.iload_n 2, 1) := by decide +kernel
theorem dM_reach_41 : decode mM_reach.2.1 41 = .ok (.aload_n 0, 1) := by decide +kernel
theorem dM_reach_42 : decode mM_reach.2.1 42 = .ok (.getfield 42, 3) := by decide +kernel
theorem dM_reach_45 : decode mM_reach.2.1 45 = .ok (.iload 4, 2) := by decide +kernel
theorem dM_reach_47 : decode mM_reach.2.1 47 = .ok (.iaload, 1) := by decide +kernel
theorem dM_reach_48 : decode mM_reach.2.1 48 = .ok (.bipush (-9), 2) := by decide +kernel
theorem dM_reach_50 : decode mM_reach.2.1 50 = .ok (.if_icmp .ne 7, 3) := by decide +kernel
theorem dM_reach_53 : decode mM_reach.2.1 53 = .ok (.iconst 0, 1) := by decide +kernel
theorem dM_reach_54 : decode mM_reach.2.1 54 = .ok (.goto 4, 3) := by decide +kernel
theorem dM_reach_57 : decode mM_reach.2.1 57 = .ok (.iconst 1, 1) := by decide +kernel
theorem dM_reach_58 : decode mM_reach.2.1 58 = .ok (.iadd, 1) := by decide +kernel
theorem dM_reach_59 : decode mM_reach.2.1 59 = .ok (.istore_n 2, 1) := by decide +kernel
theorem dM_reach_60 : decode mM_reach.2.1 60 = .ok (.aload_n 0, 1) := by decide +kernel
theorem dM_reach_61 : decode mM_reach.2.1 61 = .ok (.getfield 42, 3) := by decide +kernel
theorem dM_reach_64 : decode mM_reach.2.1 64 = .ok (.iload 4, 2) := by decide +kernel
theorem dM_reach_66 : decode mM_reach.2.1 66 = .ok (.iaload, 1) := by decide +kernel
theorem dM_reach_67 : decode mM_reach.2.1 67 = .ok (.iload_n 3, 1) := by decide +kernel
theorem dM_reach_68 : decode mM_reach.2.1 68 = .ok (.if_icmp .le 13, 3) := by decide +kernel
theorem dM_reach_71 : decode mM_reach.2.1 71 = .ok (.aload_n 0, 1) := by decide +kernel
theorem dM_reach_72 : decode mM_reach.2.1 72 = .ok (.getfield 42, 3) := by decide +kernel
theorem dM_reach_75 : decode mM_reach.2.1 75 = .ok (.iload 4, 2) := by decide +kernel
theorem dM_reach_77 : decode mM_reach.2.1 77 = .ok (.iaload, 1) := by decide +kernel
theorem dM_reach_78 : decode mM_reach.2.1 78 = .ok (.goto 4, 3) := by decide +kernel
theorem dM_reach_81 : decode mM_reach.2.1 81 = .ok (.iload_n 3, 1) := by decide +kernel
theorem dM_reach_82 : decode mM_reach.2.1 82 = .ok (.istore_n 3, 1) := by decide +kernel
theorem dM_reach_83 : decode mM_reach.2.1 83 = .ok (.iinc 4 1, 3) := by decide +kernel
theorem dM_reach_86 : decode mM_reach.2.1 86 = .ok (.goto (-55), 3) := by decide +kernel
theorem dM_reach_89 : decode mM_reach.2.1 89 = .ok (.iload_n 1, 1) := by decide +kernel
theorem dM_reach_90 : decode mM_reach.2.1 90 = .ok (.ifCond .ne 7, 3) := by decide +kernel
theorem dM_reach_93 : decode mM_reach.2.1 93 = .ok (.iload_n 2, 1) := by decide +kernel
theorem dM_reach_94 : decode mM_reach.2.1 94 = .ok (.goto 6, 3) := by decide +kernel
theorem dM_reach_97 : decode mM_reach.2.1 97 = .ok (.iconst 2, 1) := by decide +kernel
theorem dM_reach_98 : decode mM_reach.2.1 98 = .ok (.iload_n 3, 1) := by decide +kernel
theorem dM_reach_99 : decode mM_reach.2.1 99 = .ok (.imul, 1) := by decide +kernel
theorem dM_reach_100 : decode mM_reach.2.1 100 = .ok (.ireturn, 1) := by decide +kernel
theorem dM_isAllDone_0 : decode mM_isAllDone.2.1 0 = .ok (.aload_n 0, 1) := by decide +kernel
theorem dM_isAllDone_1 : decode mM_isAllDone.2.1 1 = .ok (.getfield 16, 3) := by decide +kernel
theorem dM_isAllDone_4 : decode mM_isAllDone.2.1 4 = .ok (.bipush 108, 2) := by decide +kernel
theorem dM_isAllDone_6 : decode mM_isAllDone.2.1 6 = .ok (.iaload, 1) := by decide +kernel
theorem dM_isAllDone_7 : decode mM_isAllDone.2.1 7 = .ok (.aload_n 0, 1) := by decide +kernel
theorem dM_isAllDone_8 : decode mM_isAllDone.2.1 8 = .ok (.getfield 61, 3) := by decide +kernel
theorem dM_isAllDone_11 : decode mM_isAllDone.2.1 11 = .ok (.if_icmp .ne 20, 3) := by decide +kernel
theorem dM_isAllDone_14 : decode mM_isAllDone.2.1 14 = .ok (.aload_n 0, 1) := by decide +kernel
theorem dM_isAllDone_15 : decode mM_isAllDone.2.1 15 = .ok (.getfield 16, 3) := by decide +kernel
theorem dM_isAllDone_18 : decode mM_isAllDone.2.1 18 = .ok (.bipush 110, 2) := by decide +kernel
theorem dM_isAllDone_20 : decode mM_isAllDone.2.1 20 = .ok (.iaload, 1) := by decide +kernel
theorem dM_isAllDone_21 : decode mM_isAllDone.2.1 21 = .ok (.aload_n 0, 1) := by decide +kernel
theorem dM_isAllDone_22 : decode mM_isAllDone.2.1 22 = .ok (.getfield 16, 3) := by decide +kernel
theorem dM_isAllDone_25 : decode mM_isAllDone.2.1 25 = .ok (.bipush 112, 2) := by decide +kernel
theorem dM_isAllDone_27 : decode mM_isAllDone.2.1 27 = .ok (.iaload, 1) := by decide +kernel
theorem dM_isAllDone_28 : decode mM_isAllDone.2.1 28 = .ok (.if_icmp .eq 5, 3) := by decide +kernel
theorem dM_isAllDone_31 : decode mM_isAllDone.2.1 31 = .ok (.iconst 0, 1) := by decide +kernel
theorem dM_isAllDone_32 : decode mM_isAllDone.2.1 32 = .ok (.ireturn, 1) := by decide +kernel
theorem dM_isAllDone_33 : decode mM_isAllDone.2.1 33 = .ok (.aload_n 0, 1) := by decide +kernel
theorem dM_isAllDone_34 : decode mM_isAllDone.2.1 34 = .ok (.invokevirtual 158, 3) := by decide +kernel
theorem dM_isAllDone_37 : decode mM_isAllDone.2.1 37 = .ok (.aload_n 0, 1) := by decide +kernel
theorem dM_isAllDone_38 : decode mM_isAllDone.2.1 38 = .ok (.getfield 143, 3) := by decide +kernel
theorem dM_isAllDone_41 : decode mM_isAllDone.2.1 41 = .ok (.bipush (-9), 2) := by decide +kernel
theorem dM_isAllDone_43 : decode mM_isAllDone.2.1 43 = .ok (.if_icmp .ne 7, 3) := by decide +kernel
theorem dM_isAllDone_46 : decode mM_isAllDone.2.1 46 = .ok (.iconst 1, 1) := by decide +kernel
theorem dM_isAllDone_47 : decode mM_isAllDone.2.1 47 = .ok (.goto 4, 3) := by decide +kernel
theorem dM_isAllDone_50 : decode mM_isAllDone.2.1 50 = .ok (.iconst 0, 1) := by decide +kernel
theorem dM_isAllDone_51 : decode mM_isAllDone.2.1 51 = .ok (.ireturn, 1) := by decide +kernel
theorem dM_when_0 : decode mM_when.2.1 0 = .ok (.aload_n 0, 1) := by decide +kernel
theorem dM_when_1 : decode mM_when.2.1 1 = .ok (.getfield 16, 3) := by decide +kernel
theorem dM_when_4 : decode mM_when.2.1 4 = .ok (.bipush 111, 2) := by decide +kernel
theorem dM_when_6 : decode mM_when.2.1 6 = .ok (.iaload, 1) := by decide +kernel
theorem dM_when_7 : decode mM_when.2.1 7 = .ok (.iconst 1, 1) := by decide +kernel
theorem dM_when_8 : decode mM_when.2.1 8 = .ok (.if_icmp .ne 6, 3) := by decide +kernel
theorem dM_when_11 : decode mM_when.2.1 11 = .ok (.bipush (-9), 2) := by decide +kernel
theorem dM_when_13 : decode mM_when.2.1 13 = .ok (.ireturn, 1) := by decide +kernel
theorem dM_when_14 : decode mM_when.2.1 14 = .ok (.iconst 0, 1) := by decide +kernel
theorem dM_when_15 : decode mM_when.2.1 15 = .ok (.istore_n 1, 1) := by decide +kernel
theorem dM_when_16 : decode mM_when.2.1 16 = .ok (.iload_n 1, 1) := by decide +kernel
theorem dM_when_17 : decode mM_when.2.1 17 = .ok (.bipush 114, 2) := by decide +kernel
theorem dM_when_19 : decode mM_when.2.1 19 = .ok (.if_icmp .ge 21, 3) := by decide +kernel
theorem dM_when_22 : decode mM_when.2.1 22 = .ok (.aload_n 0, 1) := by decide +kernel
theorem dM_when_23 : decode mM_when.2.1 23 = .ok (.getfield 30, 3) := by decide +kernel
theorem dM_when_26 : decode mM_when.2.1 26 = .ok (.iload_n 1, 1) := by decide +kernel
theorem dM_when_27 : decode mM_when.2.1 27 = .ok (.aload_n 0, 1) := by decide +kernel
theorem dM_when_28 : decode mM_when.2.1 28 = .ok (.getfield 16, 3) := by decide +kernel
theorem dM_when_31 : decode mM_when.2.1 31 = .ok (.iload_n 1, 1) := by decide +kernel
theorem dM_when_32 : decode mM_when.2.1 32 = .ok (.iaload, 1) := by decide +kernel
theorem dM_when_33 : decode mM_when.2.1 33 = .ok (.iastore, 1) := by decide +kernel
theorem dM_when_34 : decode mM_when.2.1 34 = .ok (.iinc 1 1, 3) := by decide +kernel
theorem dM_when_37 : decode mM_when.2.1 37 = .ok (.goto (-21), 3) := by decide +kernel
theorem dM_when_40 : decode mM_when.2.1 40 = .ok (.iconst 0, 1) := by decide +kernel
theorem dM_when_41 : decode mM_when.2.1 41 = .ok (.istore_n 1, 1) := by decide +kernel
theorem dM_when_42 : decode mM_when.2.1 42 = .ok (.iload_n 1, 1) := by decide +kernel
theorem dM_when_43 : decode mM_when.2.1 43 = .ok (.sipush 400, 3) := by decide +kernel
theorem dM_when_46 : decode mM_when.2.1 46 = .ok (.if_icmp .gt 21, 3) := by decide +kernel
theorem dM_when_49 : decode mM_when.2.1 49 = .ok (.aload_n 0, 1) := by decide +kernel
theorem dM_when_50 : decode mM_when.2.1 50 = .ok (.invokevirtual 187, 3) := by decide +kernel
theorem dM_when_53 : decode mM_when.2.1 53 = .ok (.ifCond .ne 14, 3) := by decide +kernel
theorem dM_when_56 : decode mM_when.2.1 56 = .ok (.aload_n 0, 1) := by decide +kernel
theorem dM_when_57 : decode mM_when.2.1 57 = .ok (.invokevirtual 168, 3) := by decide +kernel
theorem dM_when_60 : decode mM_when.2.1 60 = .ok (.pop, 1) := by decide +kernel
theorem dM_when_61 : decode mM_when.2.1 61 = .ok (.iinc 1 1, 3) := by decide +kernel
theorem dM_when_64 : decode mM_when.2.1 64 = .ok (.goto (-22), 3) := by decide +kernel
theorem dM_when_67 : decode mM_when.2.1 67 = .ok (.iconst 0, 1) := by decide +kernel
theorem dM_when_68 : decode mM_when.2.1 68 = .ok (.istore_n 2, 1) := by decide +kernel
theorem dM_when_69 : decode mM_when.2.1 69 = .ok (.iload_n 2, 1) := by decide +kernel
theorem dM_when_70 : decode mM_when.2.1 70 = .ok (.bipush 114, 2) := by decide +kernel
theorem dM_when_72 : decode mM_when.2.1 72 = .ok (.if_icmp .ge 21, 3) := by decide +kernel
theorem dM_when_75 : decode mM_when.2.1 75 = .ok (.aload_n 0, 1) := by decide +kernel
theorem dM_when_76 : decode mM_when.2.1 76 = .ok (.getfield 16, 3) := by decide +kernel
theorem dM_when_79 : decode mM_when.2.1 79 = .ok (.iload_n 2, 1) := by decide +kernel
theorem dM_when_80 : decode mM_when.2.1 80 = .ok (.aload_n 0, 1) := by decide +kernel
theorem dM_when_81 : decode mM_when.2.1 81 = .ok (.getfield 30, 3) := by decide +kernel
theorem dM_when_84 : decode mM_when.2.1 84 = .ok (.iload_n 2, 1) := by decide +kernel
theorem dM_when_85 : decode mM_when.2.1 85 = .ok (.iaload, 1) := by decide +kernel
theorem dM_when_86 : decode mM_when.2.1 86 = .ok (.iastore, 1) := by decide +kernel
theorem dM_when_87 : decode mM_when.2.1 87 = .ok (.iinc 2 1, 3) := by decide +kernel
theorem dM_when_90 : decode mM_when.2.1 90 = .ok (.goto (-21), 3) := by decide +kernel
theorem dM_when_93 : decode mM_when.2.1 93 = .ok (.iload_n 1, 1) := by decide +kernel
theorem dM_when_94 : decode mM_when.2.1 94 = .ok (.sipush 400, 3) := by decide +kernel
theorem dM_when_97 : decode mM_when.2.1 97 = .ok (.if_icmp .le 8, 3) := by decide +kernel
theorem dM_when_100 : decode mM_when.2.1 100 = .ok (.bipush (-9), 2) := by decide +kernel
theorem dM_when_102 : decode mM_when.2.1 102 = .ok (.goto 4, 3) := by decide +kernel
theorem dM_when_105 : decode mM_when.2.1 105 = .ok (.iload_n 1, 1) := by decide +kernel
theorem dM_when_106 : decode mM_when.2.1 106 = .ok (.ireturn, 1) := by decide +kernel
theorem dM_keep_0 : decode mM_keep.2.1 0 = .ok (.iload_n 1, 1) := by decide +kernel
theorem dM_keep_1 : decode mM_keep.2.1 1 = .ok (.iconst 0, 1) := by decide +kernel
theorem dM_keep_2 : decode mM_keep.2.1 2 = .ok (.iconst 1, 1) := by decide +kernel
theorem dM_keep_3 : decode mM_keep.2.1 3 = .ok (.invokestatic 67, 3) := by decide +kernel
theorem dM_keep_6 : decode mM_keep.2.1 6 = .ok (.ifCond .ne 5, 3) := by decide +kernel
theorem dM_keep_9 : decode mM_keep.2.1 9 = .ok (.iconst (-1), 1) := by decide +kernel
theorem dM_keep_10 : decode mM_keep.2.1 10 = .ok (.ireturn, 1) := by decide +kernel
theorem dM_keep_11 : decode mM_keep.2.1 11 = .ok (.iconst 0, 1) := by decide +kernel
theorem dM_keep_12 : decode mM_keep.2.1 12 = .ok (.istore_n 2, 1) := by decide +kernel
theorem dM_keep_13 : decode mM_keep.2.1 13 = .ok (.iload_n 2, 1) := by decide +kernel
theorem dM_keep_14 : decode mM_keep.2.1 14 = .ok (.bipush 114, 2) := by decide +kernel
theorem dM_keep_16 : decode mM_keep.2.1 16 = .ok (.if_icmp .ge 26, 3) := by decide +kernel
theorem dM_keep_19 : decode mM_keep.2.1 19 = .ok (.aload_n 0, 1) := by decide +kernel
theorem dM_keep_20 : decode mM_keep.2.1 20 = .ok (.getfield 27, 3) := by decide +kernel
theorem dM_keep_23 : decode mM_keep.2.1 23 = .ok (.bipush 114, 2) := by decide +kernel
theorem dM_keep_25 : decode mM_keep.2.1 25 = .ok (.iload_n 1, 1) := by decide +kernel
theorem dM_keep_26 : decode mM_keep.2.1 26 = .ok (.imul, 1) := by decide +kernel
theorem dM_keep_27 : decode mM_keep.2.1 27 = .ok (.iload_n 2, 1) := by decide +kernel
theorem dM_keep_28 : decode mM_keep.2.1 28 = .ok (.iadd, 1) := by decide +kernel
theorem dM_keep_29 : decode mM_keep.2.1 29 = .ok (.aload_n 0, 1) := by decide +kernel
theorem dM_keep_30 : decode mM_keep.2.1 30 = .ok (.getfield 16, 3) := by decide +kernel
theorem dM_keep_33 : decode mM_keep.2.1 33 = .ok (.iload_n 2, 1) := by decide +kernel
theorem dM_keep_34 : decode mM_keep.2.1 34 = .ok (.iaload, 1) := by decide +kernel
theorem dM_keep_35 : decode mM_keep.2.1 35 = .ok (.iastore, 1) := by decide +kernel
theorem dM_keep_36 : decode mM_keep.2.1 36 = .ok (.iinc 2 1, 3) := by decide +kernel
theorem dM_keep_39 : decode mM_keep.2.1 39 = .ok (.goto (-26), 3) := by decide +kernel
theorem dM_keep_42 : decode mM_keep.2.1 42 = .ok (.aload_n 0, 1) := by decide +kernel
theorem dM_keep_43 : decode mM_keep.2.1 43 = .ok (.getfield 23, 3) := by decide +kernel
theorem dM_keep_46 : decode mM_keep.2.1 46 = .ok (.iload_n 1, 1) := by decide +kernel
theorem dM_keep_47 : decode mM_keep.2.1 47 = .ok (.iconst 1, 1) := by decide +kernel
theorem dM_keep_48 : decode mM_keep.2.1 48 = .ok (.bastore, 1) := by decide +kernel
theorem dM_keep_49 : decode mM_keep.2.1 49 = .ok (.aload_n 0, 1) := by decide +kernel
theorem dM_keep_50 : decode mM_keep.2.1 50 = .ok (.getfield 16, 3) := by decide +kernel
theorem dM_keep_53 : decode mM_keep.2.1 53 = .ok (.bipush 108, 2) := by decide +kernel
theorem dM_keep_55 : decode mM_keep.2.1 55 = .ok (.iaload, 1) := by decide +kernel
theorem dM_keep_56 : decode mM_keep.2.1 56 = .ok (.ireturn, 1) := by decide +kernel
theorem dM_back_0 : decode mM_back.2.1 0 = .ok (.iload_n 1, 1) := by decide +kernel
theorem dM_back_1 : decode mM_back.2.1 1 = .ok (.iconst 0, 1) := by decide +kernel
theorem dM_back_2 : decode mM_back.2.1 2 = .ok (.iconst 1, 1) := by decide +kernel
theorem dM_back_3 : decode mM_back.2.1 3 = .ok (.invokestatic 67, 3) := by decide +kernel
theorem dM_back_6 : decode mM_back.2.1 6 = .ok (.ifCond .ne 5, 3) := by decide +kernel
theorem dM_back_9 : decode mM_back.2.1 9 = .ok (.iconst (-1), 1) := by decide +kernel
theorem dM_back_10 : decode mM_back.2.1 10 = .ok (.ireturn, 1) := by decide +kernel
theorem dM_back_11 : decode mM_back.2.1 11 = .ok (.aload_n 0, 1) := by decide +kernel
theorem dM_back_12 : decode mM_back.2.1 12 = .ok (.getfield 23, 3) := by decide +kernel
theorem dM_back_15 : decode mM_back.2.1 15 = .ok (.iload_n 1, 1) := by decide +kernel
theorem dM_back_16 : decode mM_back.2.1 16 = .ok (.baload, 1) := by decide +kernel
theorem dM_back_17 : decode mM_back.2.1 17 = .ok (.ifCond .ne 6, 3) := by decide +kernel
theorem dM_back_20 : decode mM_back.2.1 20 = .ok (.bipush (-2), 2) := by decide +kernel
theorem dM_back_22 : decode mM_back.2.1 22 = .ok (.ireturn, 1) := by decide +kernel
theorem dM_back_23 : decode mM_back.2.1 23 = .ok (.iconst 0, 1) := by decide +kernel
theorem dM_back_24 : decode mM_back.2.1 24 = .ok (.istore_n 2, 1) := by decide +kernel
theorem dM_back_25 : decode mM_back.2.1 25 = .ok (.iload_n 2, 1) := by decide +kernel
theorem dM_back_26 : decode mM_back.2.1 26 = .ok (.bipush 114, 2) := by decide +kernel
theorem dM_back_28 : decode mM_back.2.1 28 = .ok (.if_icmp .ge 26, 3) := by decide +kernel
theorem dM_back_31 : decode mM_back.2.1 31 = .ok (.aload_n 0, 1) := by decide +kernel
theorem dM_back_32 : decode mM_back.2.1 32 = .ok (.getfield 16, 3) := by decide +kernel
theorem dM_back_35 : decode mM_back.2.1 35 = .ok (.iload_n 2, 1) := by decide +kernel
theorem dM_back_36 : decode mM_back.2.1 36 = .ok (.aload_n 0, 1) := by decide +kernel
theorem dM_back_37 : decode mM_back.2.1 37 = .ok (.getfield 27, 3) := by decide +kernel
theorem dM_back_40 : decode mM_back.2.1 40 = .ok (.bipush 114, 2) := by decide +kernel
theorem dM_back_42 : decode mM_back.2.1 42 = .ok (.iload_n 1, 1) := by decide +kernel
theorem dM_back_43 : decode mM_back.2.1 43 = .ok (.imul, 1) := by decide +kernel
theorem dM_back_44 : decode mM_back.2.1 44 = .ok (.iload_n 2, 1) := by decide +kernel
theorem dM_back_45 : decode mM_back.2.1 45 = .ok (.iadd, 1) := by decide +kernel
theorem dM_back_46 : decode mM_back.2.1 46 = .ok (.iaload, 1) := by decide +kernel
theorem dM_back_47 : decode mM_back.2.1 47 = .ok (.iastore, 1) := by decide +kernel
theorem dM_back_48 : decode mM_back.2.1 48 = .ok (.iinc 2 1, 3) := by decide +kernel
theorem dM_back_51 : decode mM_back.2.1 51 = .ok (.goto (-26), 3) := by decide +kernel
theorem dM_back_54 : decode mM_back.2.1 54 = .ok (.aload_n 0, 1) := by decide +kernel
theorem dM_back_55 : decode mM_back.2.1 55 = .ok (.iconst 0, 1) := by decide +kernel
theorem dM_back_56 : decode mM_back.2.1 56 = .ok (.putfield 64, 3) := by decide +kernel
theorem dM_back_59 : decode mM_back.2.1 59 = .ok (.aload_n 0, 1) := by decide +kernel
theorem dM_back_60 : decode mM_back.2.1 60 = .ok (.getfield 16, 3) := by decide +kernel
theorem dM_back_63 : decode mM_back.2.1 63 = .ok (.bipush 108, 2) := by decide +kernel
theorem dM_back_65 : decode mM_back.2.1 65 = .ok (.iaload, 1) := by decide +kernel
theorem dM_back_66 : decode mM_back.2.1 66 = .ok (.ireturn, 1) := by decide +kernel
theorem dM_count_0 : decode mM_count.2.1 0 = .ok (.iload_n 1, 1) := by decide +kernel
theorem dM_count_1 : decode mM_count.2.1 1 = .ok (.tableswitch 84 0 6 #[43, 48, 53, 58, 66, 74, 79], 43) := by decide +kernel
theorem dM_count_44 : decode mM_count.2.1 44 = .ok (.aload_n 0, 1) := by decide +kernel
theorem dM_count_45 : decode mM_count.2.1 45 = .ok (.getfield 7, 3) := by decide +kernel
theorem dM_count_48 : decode mM_count.2.1 48 = .ok (.ireturn, 1) := by decide +kernel
theorem dM_count_49 : decode mM_count.2.1 49 = .ok (.aload_n 0, 1) := by decide +kernel
theorem dM_count_50 : decode mM_count.2.1 50 = .ok (.getfield 13, 3) := by decide +kernel
theorem dM_count_53 : decode mM_count.2.1 53 = .ok (.ireturn, 1) := by decide +kernel
theorem dM_count_54 : decode mM_count.2.1 54 = .ok (.aload_n 0, 1) := by decide +kernel
theorem dM_count_55 : decode mM_count.2.1 55 = .ok (.getfield 61, 3) := by decide +kernel
theorem dM_count_58 : decode mM_count.2.1 58 = .ok (.ireturn, 1) := by decide +kernel
theorem dM_count_59 : decode mM_count.2.1 59 = .ok (.aload_n 0, 1) := by decide +kernel
theorem dM_count_60 : decode mM_count.2.1 60 = .ok (.getfield 16, 3) := by decide +kernel
theorem dM_count_63 : decode mM_count.2.1 63 = .ok (.bipush 112, 2) := by decide +kernel
theorem dM_count_65 : decode mM_count.2.1 65 = .ok (.iaload, 1) := by decide +kernel
theorem dM_count_66 : decode mM_count.2.1 66 = .ok (.ireturn, 1) := by decide +kernel
theorem dM_count_67 : decode mM_count.2.1 67 = .ok (.aload_n 0, 1) := by decide +kernel
theorem dM_count_68 : decode mM_count.2.1 68 = .ok (.getfield 16, 3) := by decide +kernel
theorem dM_count_71 : decode mM_count.2.1 71 = .ok (.bipush 113, 2) := by decide +kernel
theorem dM_count_73 : decode mM_count.2.1 73 = .ok (.iaload, 1) := by decide +kernel
theorem dM_count_74 : decode mM_count.2.1 74 = .ok (.ireturn, 1) := by decide +kernel
theorem dM_count_75 : decode mM_count.2.1 75 = .ok (.aload_n 0, 1) := by decide +kernel
theorem dM_count_76 : decode mM_count.2.1 76 = .ok (.getfield 71, 3) := by decide +kernel
theorem dM_count_79 : decode mM_count.2.1 79 = .ok (.ireturn, 1) := by decide +kernel
theorem dM_count_80 : decode mM_count.2.1 80 = .ok (.aload_n 0, 1) := by decide +kernel
theorem dM_count_81 : decode mM_count.2.1 81 = .ok (.getfield 64, 3) := by decide +kernel
theorem dM_count_84 : decode mM_count.2.1 84 = .ok (.ireturn, 1) := by decide +kernel
theorem dM_count_85 : decode mM_count.2.1 85 = .ok (.iconst (-1), 1) := by decide +kernel
theorem dM_count_86 : decode mM_count.2.1 86 = .ok (.ireturn, 1) := by decide +kernel
end
section
theorem dL_law_0 : decode mL_law.2.1 0 = .ok (.new 7, 3) := by decide +kernel
theorem dL_law_3 : decode mL_law.2.1 3 = .ok (.dup, 1) := by decide +kernel
theorem dL_law_4 : decode mL_law.2.1 4 = .ok (.invokespecial 9, 3) := by decide +kernel
theorem dL_law_7 : decode mL_law.2.1 7 = .ok (.astore_n 1, 1) := by decide +kernel
theorem dL_law_8 : decode mL_law.2.1 8 = .ok (.new 10, 3) := by decide +kernel
theorem dL_law_11 : decode mL_law.2.1 11 = .ok (.dup, 1) := by decide +kernel
theorem dL_law_12 : decode mL_law.2.1 12 = .ok (.invokespecial 12, 3) := by decide +kernel
theorem dL_law_15 : decode mL_law.2.1 15 = .ok (.astore_n 2, 1) := by decide +kernel
theorem dL_law_16 : decode mL_law.2.1 16 = .ok (.iconst 0, 1) := by decide +kernel
theorem dL_law_17 : decode mL_law.2.1 17 = .ok (.istore_n 3, 1) := by decide +kernel
theorem dL_law_18 : decode mL_law.2.1 18 = .ok (.iload_n 3, 1) := by decide +kernel
theorem dL_law_19 : decode mL_law.2.1 19 = .ok (.aload_n 0, 1) := by decide +kernel
theorem dL_law_20 : decode mL_law.2.1 20 = .ok (.arraylength, 1) := by decide +kernel
theorem dL_law_21 : decode mL_law.2.1 21 = .ok (.iconst 3, 1) := by decide +kernel
theorem dL_law_22 : decode mL_law.2.1 22 = .ok (.isub, 1) := by decide +kernel
theorem dL_law_23 : decode mL_law.2.1 23 = .ok (.if_icmp .gt 649, 3) := by decide +kernel
theorem dL_law_26 : decode mL_law.2.1 26 = .ok (.aload_n 0, 1) := by decide +kernel
theorem dL_law_27 : decode mL_law.2.1 27 = .ok (.iload_n 3, 1) := by decide +kernel
theorem dL_law_28 : decode mL_law.2.1 28 = .ok (.iaload, 1) := by decide +kernel
theorem dL_law_29 : decode mL_law.2.1 29 = .ok (.bipush 31, 2) := by decide +kernel
theorem dL_law_31 : decode mL_law.2.1 31 = .ok (.iand, 1) := by decide +kernel
theorem dL_law_32 : decode mL_law.2.1 32 = .ok (.tableswitch 634 0 23 #[112, 135, 148, 161, 184, 217, 240, 253, 276, 289, 322, 345, 358, 381, 404, 427, 450, 473, 506, 529, 552, 565, 588, 611], 112) := by decide +kernel
theorem dL_law_144 : decode mL_law.2.1 144 = .ok (.aload_n 1, 1) := by decide +kernel
theorem dL_law_145 : decode mL_law.2.1 145 = .ok (.aload_n 0, 1) := by decide +kernel
theorem dL_law_146 : decode mL_law.2.1 146 = .ok (.iload_n 3, 1) := by decide +kernel
theorem dL_law_147 : decode mL_law.2.1 147 = .ok (.iconst 1, 1) := by decide +kernel
theorem dL_law_148 : decode mL_law.2.1 148 = .ok (.iadd, 1) := by decide +kernel
theorem dL_law_149 : decode mL_law.2.1 149 = .ok (.iaload, 1) := by decide +kernel
theorem dL_law_150 : decode mL_law.2.1 150 = .ok (.invokevirtual 13, 3) := by decide +kernel
theorem dL_law_153 : decode mL_law.2.1 153 = .ok (.aload_n 2, 1) := by decide +kernel
theorem dL_law_154 : decode mL_law.2.1 154 = .ok (.aload_n 0, 1) := by decide +kernel
theorem dL_law_155 : decode mL_law.2.1 155 = .ok (.iload_n 3, 1) := by decide +kernel
theorem dL_law_156 : decode mL_law.2.1 156 = .ok (.iconst 1, 1) := by decide +kernel
theorem dL_law_157 : decode mL_law.2.1 157 = .ok (.iadd, 1) := by decide +kernel
theorem dL_law_158 : decode mL_law.2.1 158 = .ok (.iaload, 1) := by decide +kernel
theorem dL_law_159 : decode mL_law.2.1 159 = .ok (.invokevirtual 17, 3) := by decide +kernel
theorem dL_law_162 : decode mL_law.2.1 162 = .ok (.if_icmp .eq 504, 3) := by decide +kernel
theorem dL_law_165 : decode mL_law.2.1 165 = .ok (.iconst 0, 1) := by decide +kernel
theorem dL_law_166 : decode mL_law.2.1 166 = .ok (.ireturn, 1) := by decide +kernel
theorem dL_law_167 : decode mL_law.2.1 167 = .ok (.aload_n 1, 1) := by decide +kernel
theorem dL_law_168 : decode mL_law.2.1 168 = .ok (.invokevirtual 18, 3) := by decide +kernel
theorem dL_law_171 : decode mL_law.2.1 171 = .ok (.aload_n 2, 1) := by decide +kernel
theorem dL_law_172 : decode mL_law.2.1 172 = .ok (.invokevirtual 22, 3) := by decide +kernel
theorem dL_law_175 : decode mL_law.2.1 175 = .ok (.if_icmp .eq 491, 3) := by decide +kernel
theorem dL_law_178 : decode mL_law.2.1 178 = .ok (.iconst 0, 1) := by decide +kernel
theorem dL_law_179 : decode mL_law.2.1 179 = .ok (.ireturn, 1) := by decide +kernel
theorem dL_law_180 : decode mL_law.2.1 180 = .ok (.aload_n 1, 1) := by decide +kernel
theorem dL_law_181 : decode mL_law.2.1 181 = .ok (.invokevirtual 23, 3) := by decide +kernel
theorem dL_law_184 : decode mL_law.2.1 184 = .ok (.aload_n 2, 1) := by decide +kernel
theorem dL_law_185 : decode mL_law.2.1 185 = .ok (.invokevirtual 26, 3) := by decide +kernel
theorem dL_law_188 : decode mL_law.2.1 188 = .ok (.if_icmp .eq 478, 3) := by decide +kernel
theorem dL_law_191 : decode mL_law.2.1 191 = .ok (.iconst 0, 1) := by decide +kernel
theorem dL_law_192 : decode mL_law.2.1 192 = .ok (.ireturn, 1) := by decide +kernel
theorem dL_law_193 : decode mL_law.2.1 193 = .ok (.aload_n 1, 1) := by decide +kernel
theorem dL_law_194 : decode mL_law.2.1 194 = .ok (.aload_n 0, 1) := by decide +kernel
theorem dL_law_195 : decode mL_law.2.1 195 = .ok (.iload_n 3, 1) := by decide +kernel
theorem dL_law_196 : decode mL_law.2.1 196 = .ok (.iconst 1, 1) := by decide +kernel
theorem dL_law_197 : decode mL_law.2.1 197 = .ok (.iadd, 1) := by decide +kernel
theorem dL_law_198 : decode mL_law.2.1 198 = .ok (.iaload, 1) := by decide +kernel
theorem dL_law_199 : decode mL_law.2.1 199 = .ok (.invokevirtual 27, 3) := by decide +kernel
theorem dL_law_202 : decode mL_law.2.1 202 = .ok (.aload_n 2, 1) := by decide +kernel
theorem dL_law_203 : decode mL_law.2.1 203 = .ok (.aload_n 0, 1) := by decide +kernel
theorem dL_law_204 : decode mL_law.2.1 204 = .ok (.iload_n 3, 1) := by decide +kernel
theorem dL_law_205 : decode mL_law.2.1 205 = .ok (.iconst 1, 1) := by decide +kernel
theorem dL_law_206 : decode mL_law.2.1 206 = .ok (.iadd, 1) := by decide +kernel
theorem dL_law_207 : decode mL_law.2.1 207 = .ok (.iaload, 1) := by decide +kernel
theorem dL_law_208 : decode mL_law.2.1 208 = .ok (.invokevirtual 30, 3) := by decide +kernel
theorem dL_law_211 : decode mL_law.2.1 211 = .ok (.if_icmp .eq 455, 3) := by decide +kernel
theorem dL_law_214 : decode mL_law.2.1 214 = .ok (.iconst 0, 1) := by decide +kernel
theorem dL_law_215 : decode mL_law.2.1 215 = .ok (.ireturn, 1) := by decide +kernel
theorem dL_law_216 : decode mL_law.2.1 216 = .ok (.aload_n 1, 1) := by decide +kernel
theorem dL_law_217 : decode mL_law.2.1 217 = .ok (.aload_n 0, 1) := by decide +kernel
theorem dL_law_218 : decode mL_law.2.1 218 = .ok (.iload_n 3, 1) := by decide +kernel
theorem dL_law_219 : decode mL_law.2.1 219 = .ok (.iconst 1, 1) := by decide +kernel
theorem dL_law_220 : decode mL_law.2.1 220 = .ok (.iadd, 1) := by decide +kernel
theorem dL_law_221 : decode mL_law.2.1 221 = .ok (.iaload, 1) := by decide +kernel
theorem dL_law_222 : decode mL_law.2.1 222 = .ok (.aload_n 0, 1) := by decide +kernel
theorem dL_law_223 : decode mL_law.2.1 223 = .ok (.iload_n 3, 1) := by decide +kernel
theorem dL_law_224 : decode mL_law.2.1 224 = .ok (.iconst 2, 1) := by decide +kernel
theorem dL_law_225 : decode mL_law.2.1 225 = .ok (.iadd, 1) := by decide +kernel
theorem dL_law_226 : decode mL_law.2.1 226 = .ok (.iaload, 1) := by decide +kernel
theorem dL_law_227 : decode mL_law.2.1 227 = .ok (.invokevirtual 31, 3) := by decide +kernel
theorem dL_law_230 : decode mL_law.2.1 230 = .ok (.aload_n 2, 1) := by decide +kernel
theorem dL_law_231 : decode mL_law.2.1 231 = .ok (.aload_n 0, 1) := by decide +kernel
theorem dL_law_232 : decode mL_law.2.1 232 = .ok (.iload_n 3, 1) := by decide +kernel
theorem dL_law_233 : decode mL_law.2.1 233 = .ok (.iconst 1, 1) := by decide +kernel
theorem dL_law_234 : decode mL_law.2.1 234 = .ok (.iadd, 1) := by decide +kernel
theorem dL_law_235 : decode mL_law.2.1 235 = .ok (.iaload, 1) := by decide +kernel
theorem dL_law_236 : decode mL_law.2.1 236 = .ok (.aload_n 0, 1) := by decide +kernel
theorem dL_law_237 : decode mL_law.2.1 237 = .ok (.iload_n 3, 1) := by decide +kernel
theorem dL_law_238 : decode mL_law.2.1 238 = .ok (.iconst 2, 1) := by decide +kernel
theorem dL_law_239 : decode mL_law.2.1 239 = .ok (.iadd, 1) := by decide +kernel
theorem dL_law_240 : decode mL_law.2.1 240 = .ok (.iaload, 1) := by decide +kernel
theorem dL_law_241 : decode mL_law.2.1 241 = .ok (.invokevirtual 35, 3) := by decide +kernel
theorem dL_law_244 : decode mL_law.2.1 244 = .ok (.if_icmp .eq 422, 3) := by decide +kernel
theorem dL_law_247 : decode mL_law.2.1 247 = .ok (.iconst 0, 1) := by decide +kernel
theorem dL_law_248 : decode mL_law.2.1 248 = .ok (.ireturn, 1) := by decide +kernel
theorem dL_law_249 : decode mL_law.2.1 249 = .ok (.aload_n 1, 1) := by decide +kernel
theorem dL_law_250 : decode mL_law.2.1 250 = .ok (.aload_n 0, 1) := by decide +kernel
theorem dL_law_251 : decode mL_law.2.1 251 = .ok (.iload_n 3, 1) := by decide +kernel
theorem dL_law_252 : decode mL_law.2.1 252 = .ok (.iconst 1, 1) := by decide +kernel
theorem dL_law_253 : decode mL_law.2.1 253 = .ok (.iadd, 1) := by decide +kernel
theorem dL_law_254 : decode mL_law.2.1 254 = .ok (.iaload, 1) := by decide +kernel
theorem dL_law_255 : decode mL_law.2.1 255 = .ok (.invokevirtual 36, 3) := by decide +kernel
theorem dL_law_258 : decode mL_law.2.1 258 = .ok (.aload_n 2, 1) := by decide +kernel
theorem dL_law_259 : decode mL_law.2.1 259 = .ok (.aload_n 0, 1) := by decide +kernel
theorem dL_law_260 : decode mL_law.2.1 260 = .ok (.iload_n 3, 1) := by decide +kernel
theorem dL_law_261 : decode mL_law.2.1 261 = .ok (.iconst 1, 1) := by decide +kernel
theorem dL_law_262 : decode mL_law.2.1 262 = .ok (.iadd, 1) := by decide +kernel
theorem dL_law_263 : decode mL_law.2.1 263 = .ok (.iaload, 1) := by decide +kernel
theorem dL_law_264 : decode mL_law.2.1 264 = .ok (.invokevirtual 39, 3) := by decide +kernel
theorem dL_law_267 : decode mL_law.2.1 267 = .ok (.if_icmp .eq 399, 3) := by decide +kernel
theorem dL_law_270 : decode mL_law.2.1 270 = .ok (.iconst 0, 1) := by decide +kernel
theorem dL_law_271 : decode mL_law.2.1 271 = .ok (.ireturn, 1) := by decide +kernel
theorem dL_law_272 : decode mL_law.2.1 272 = .ok (.aload_n 1, 1) := by decide +kernel
theorem dL_law_273 : decode mL_law.2.1 273 = .ok (.invokevirtual 40, 3) := by decide +kernel
theorem dL_law_276 : decode mL_law.2.1 276 = .ok (.aload_n 2, 1) := by decide +kernel
theorem dL_law_277 : decode mL_law.2.1 277 = .ok (.invokevirtual 43, 3) := by decide +kernel
theorem dL_law_280 : decode mL_law.2.1 280 = .ok (.if_icmp .eq 386, 3) := by decide +kernel
theorem dL_law_283 : decode mL_law.2.1 283 = .ok (.iconst 0, 1) := by decide +kernel
theorem dL_law_284 : decode mL_law.2.1 284 = .ok (.ireturn, 1) := by decide +kernel
theorem dL_law_285 : decode mL_law.2.1 285 = .ok (.aload_n 1, 1) := by decide +kernel
theorem dL_law_286 : decode mL_law.2.1 286 = .ok (.aload_n 0, 1) := by decide +kernel
theorem dL_law_287 : decode mL_law.2.1 287 = .ok (.iload_n 3, 1) := by decide +kernel
theorem dL_law_288 : decode mL_law.2.1 288 = .ok (.iconst 1, 1) := by decide +kernel
theorem dL_law_289 : decode mL_law.2.1 289 = .ok (.iadd, 1) := by decide +kernel
theorem dL_law_290 : decode mL_law.2.1 290 = .ok (.iaload, 1) := by decide +kernel
theorem dL_law_291 : decode mL_law.2.1 291 = .ok (.invokevirtual 44, 3) := by decide +kernel
theorem dL_law_294 : decode mL_law.2.1 294 = .ok (.aload_n 2, 1) := by decide +kernel
theorem dL_law_295 : decode mL_law.2.1 295 = .ok (.aload_n 0, 1) := by decide +kernel
theorem dL_law_296 : decode mL_law.2.1 296 = .ok (.iload_n 3, 1) := by decide +kernel
theorem dL_law_297 : decode mL_law.2.1 297 = .ok (.iconst 1, 1) := by decide +kernel
theorem dL_law_298 : decode mL_law.2.1 298 = .ok (.iadd, 1) := by decide +kernel
theorem dL_law_299 : decode mL_law.2.1 299 = .ok (.iaload, 1) := by decide +kernel
theorem dL_law_300 : decode mL_law.2.1 300 = .ok (.invokevirtual 47, 3) := by decide +kernel
theorem dL_law_303 : decode mL_law.2.1 303 = .ok (.if_icmp .eq 363, 3) := by decide +kernel
theorem dL_law_306 : decode mL_law.2.1 306 = .ok (.iconst 0, 1) := by decide +kernel
theorem dL_law_307 : decode mL_law.2.1 307 = .ok (.ireturn, 1) := by decide +kernel
theorem dL_law_308 : decode mL_law.2.1 308 = .ok (.aload_n 1, 1) := by decide +kernel
theorem dL_law_309 : decode mL_law.2.1 309 = .ok (.invokevirtual 48, 3) := by decide +kernel
theorem dL_law_312 : decode mL_law.2.1 312 = .ok (.aload_n 2, 1) := by decide +kernel
theorem dL_law_313 : decode mL_law.2.1 313 = .ok (.invokevirtual 51, 3) := by decide +kernel
theorem dL_law_316 : decode mL_law.2.1 316 = .ok (.if_icmp .eq 350, 3) := by decide +kernel
theorem dL_law_319 : decode mL_law.2.1 319 = .ok (.iconst 0, 1) := by decide +kernel
theorem dL_law_320 : decode mL_law.2.1 320 = .ok (.ireturn, 1) := by decide +kernel
theorem dL_law_321 : decode mL_law.2.1 321 = .ok (.aload_n 1, 1) := by decide +kernel
theorem dL_law_322 : decode mL_law.2.1 322 = .ok (.aload_n 0, 1) := by decide +kernel
theorem dL_law_323 : decode mL_law.2.1 323 = .ok (.iload_n 3, 1) := by decide +kernel
theorem dL_law_324 : decode mL_law.2.1 324 = .ok (.iconst 1, 1) := by decide +kernel
theorem dL_law_325 : decode mL_law.2.1 325 = .ok (.iadd, 1) := by decide +kernel
theorem dL_law_326 : decode mL_law.2.1 326 = .ok (.iaload, 1) := by decide +kernel
theorem dL_law_327 : decode mL_law.2.1 327 = .ok (.aload_n 0, 1) := by decide +kernel
theorem dL_law_328 : decode mL_law.2.1 328 = .ok (.iload_n 3, 1) := by decide +kernel
theorem dL_law_329 : decode mL_law.2.1 329 = .ok (.iconst 2, 1) := by decide +kernel
theorem dL_law_330 : decode mL_law.2.1 330 = .ok (.iadd, 1) := by decide +kernel
theorem dL_law_331 : decode mL_law.2.1 331 = .ok (.iaload, 1) := by decide +kernel
theorem dL_law_332 : decode mL_law.2.1 332 = .ok (.invokevirtual 52, 3) := by decide +kernel
theorem dL_law_335 : decode mL_law.2.1 335 = .ok (.aload_n 2, 1) := by decide +kernel
theorem dL_law_336 : decode mL_law.2.1 336 = .ok (.aload_n 0, 1) := by decide +kernel
theorem dL_law_337 : decode mL_law.2.1 337 = .ok (.iload_n 3, 1) := by decide +kernel
theorem dL_law_338 : decode mL_law.2.1 338 = .ok (.iconst 1, 1) := by decide +kernel
theorem dL_law_339 : decode mL_law.2.1 339 = .ok (.iadd, 1) := by decide +kernel
theorem dL_law_340 : decode mL_law.2.1 340 = .ok (.iaload, 1) := by decide +kernel
theorem dL_law_341 : decode mL_law.2.1 341 = .ok (.aload_n 0, 1) := by decide +kernel
theorem dL_law_342 : decode mL_law.2.1 342 = .ok (.iload_n 3, 1) := by decide +kernel
theorem dL_law_343 : decode mL_law.2.1 343 = .ok (.iconst 2, 1) := by decide +kernel
theorem dL_law_344 : decode mL_law.2.1 344 = .ok (.iadd, 1) := by decide +kernel
theorem dL_law_345 : decode mL_law.2.1 345 = .ok (.iaload, 1) := by decide +kernel
theorem dL_law_346 : decode mL_law.2.1 346 = .ok (.invokevirtual 55, 3) := by decide +kernel
theorem dL_law_349 : decode mL_law.2.1 349 = .ok (.if_icmp .eq 317, 3) := by decide +kernel
theorem dL_law_352 : decode mL_law.2.1 352 = .ok (.iconst 0, 1) := by decide +kernel
theorem dL_law_353 : decode mL_law.2.1 353 = .ok (.ireturn, 1) := by decide +kernel
theorem dL_law_354 : decode mL_law.2.1 354 = .ok (.aload_n 1, 1) := by decide +kernel
theorem dL_law_355 : decode mL_law.2.1 355 = .ok (.aload_n 0, 1) := by decide +kernel
theorem dL_law_356 : decode mL_law.2.1 356 = .ok (.iload_n 3, 1) := by decide +kernel
theorem dL_law_357 : decode mL_law.2.1 357 = .ok (.iconst 1, 1) := by decide +kernel
theorem dL_law_358 : decode mL_law.2.1 358 = .ok (.iadd, 1) := by decide +kernel
theorem dL_law_359 : decode mL_law.2.1 359 = .ok (.iaload, 1) := by decide +kernel
theorem dL_law_360 : decode mL_law.2.1 360 = .ok (.invokevirtual 56, 3) := by decide +kernel
theorem dL_law_363 : decode mL_law.2.1 363 = .ok (.aload_n 2, 1) := by decide +kernel
theorem dL_law_364 : decode mL_law.2.1 364 = .ok (.aload_n 0, 1) := by decide +kernel
theorem dL_law_365 : decode mL_law.2.1 365 = .ok (.iload_n 3, 1) := by decide +kernel
theorem dL_law_366 : decode mL_law.2.1 366 = .ok (.iconst 1, 1) := by decide +kernel
theorem dL_law_367 : decode mL_law.2.1 367 = .ok (.iadd, 1) := by decide +kernel
theorem dL_law_368 : decode mL_law.2.1 368 = .ok (.iaload, 1) := by decide +kernel
theorem dL_law_369 : decode mL_law.2.1 369 = .ok (.invokevirtual 59, 3) := by decide +kernel
theorem dL_law_372 : decode mL_law.2.1 372 = .ok (.if_icmp .eq 294, 3) := by decide +kernel
theorem dL_law_375 : decode mL_law.2.1 375 = .ok (.iconst 0, 1) := by decide +kernel
theorem dL_law_376 : decode mL_law.2.1 376 = .ok (.ireturn, 1) := by decide +kernel
theorem dL_law_377 : decode mL_law.2.1 377 = .ok (.aload_n 1, 1) := by decide +kernel
theorem dL_law_378 : decode mL_law.2.1 378 = .ok (.invokevirtual 60, 3) := by decide +kernel
theorem dL_law_381 : decode mL_law.2.1 381 = .ok (.aload_n 2, 1) := by decide +kernel
theorem dL_law_382 : decode mL_law.2.1 382 = .ok (.invokevirtual 63, 3) := by decide +kernel
theorem dL_law_385 : decode mL_law.2.1 385 = .ok (.if_icmp .eq 281, 3) := by decide +kernel
theorem dL_law_388 : decode mL_law.2.1 388 = .ok (.iconst 0, 1) := by decide +kernel
theorem dL_law_389 : decode mL_law.2.1 389 = .ok (.ireturn, 1) := by decide +kernel
theorem dL_law_390 : decode mL_law.2.1 390 = .ok (.aload_n 1, 1) := by decide +kernel
theorem dL_law_391 : decode mL_law.2.1 391 = .ok (.aload_n 0, 1) := by decide +kernel
theorem dL_law_392 : decode mL_law.2.1 392 = .ok (.iload_n 3, 1) := by decide +kernel
theorem dL_law_393 : decode mL_law.2.1 393 = .ok (.iconst 1, 1) := by decide +kernel
theorem dL_law_394 : decode mL_law.2.1 394 = .ok (.iadd, 1) := by decide +kernel
theorem dL_law_395 : decode mL_law.2.1 395 = .ok (.iaload, 1) := by decide +kernel
theorem dL_law_396 : decode mL_law.2.1 396 = .ok (.invokevirtual 64, 3) := by decide +kernel
theorem dL_law_399 : decode mL_law.2.1 399 = .ok (.aload_n 2, 1) := by decide +kernel
theorem dL_law_400 : decode mL_law.2.1 400 = .ok (.aload_n 0, 1) := by decide +kernel
theorem dL_law_401 : decode mL_law.2.1 401 = .ok (.iload_n 3, 1) := by decide +kernel
theorem dL_law_402 : decode mL_law.2.1 402 = .ok (.iconst 1, 1) := by decide +kernel
theorem dL_law_403 : decode mL_law.2.1 403 = .ok (.iadd, 1) := by decide +kernel
theorem dL_law_404 : decode mL_law.2.1 404 = .ok (.iaload, 1) := by decide +kernel
theorem dL_law_405 : decode mL_law.2.1 405 = .ok (.invokevirtual 67, 3) := by decide +kernel
theorem dL_law_408 : decode mL_law.2.1 408 = .ok (.if_icmp .eq 258, 3) := by decide +kernel
theorem dL_law_411 : decode mL_law.2.1 411 = .ok (.iconst 0, 1) := by decide +kernel
theorem dL_law_412 : decode mL_law.2.1 412 = .ok (.ireturn, 1) := by decide +kernel
theorem dL_law_413 : decode mL_law.2.1 413 = .ok (.aload_n 1, 1) := by decide +kernel
theorem dL_law_414 : decode mL_law.2.1 414 = .ok (.aload_n 0, 1) := by decide +kernel
theorem dL_law_415 : decode mL_law.2.1 415 = .ok (.iload_n 3, 1) := by decide +kernel
theorem dL_law_416 : decode mL_law.2.1 416 = .ok (.iconst 1, 1) := by decide +kernel
theorem dL_law_417 : decode mL_law.2.1 417 = .ok (.iadd, 1) := by decide +kernel
theorem dL_law_418 : decode mL_law.2.1 418 = .ok (.iaload, 1) := by decide +kernel
theorem dL_law_419 : decode mL_law.2.1 419 = .ok (.invokevirtual 68, 3) := by decide +kernel
theorem dL_law_422 : decode mL_law.2.1 422 = .ok (.aload_n 2, 1) := by decide +kernel
theorem dL_law_423 : decode mL_law.2.1 423 = .ok (.aload_n 0, 1) := by decide +kernel
theorem dL_law_424 : decode mL_law.2.1 424 = .ok (.iload_n 3, 1) := by decide +kernel
theorem dL_law_425 : decode mL_law.2.1 425 = .ok (.iconst 1, 1) := by decide +kernel
theorem dL_law_426 : decode mL_law.2.1 426 = .ok (.iadd, 1) := by decide +kernel
theorem dL_law_427 : decode mL_law.2.1 427 = .ok (.iaload, 1) := by decide +kernel
theorem dL_law_428 : decode mL_law.2.1 428 = .ok (.invokevirtual 71, 3) := by decide +kernel
theorem dL_law_431 : decode mL_law.2.1 431 = .ok (.if_icmp .eq 235, 3) := by decide +kernel
theorem dL_law_434 : decode mL_law.2.1 434 = .ok (.iconst 0, 1) := by decide +kernel
theorem dL_law_435 : decode mL_law.2.1 435 = .ok (.ireturn, 1) := by decide +kernel
theorem dL_law_436 : decode mL_law.2.1 436 = .ok (.aload_n 1, 1) := by decide +kernel
theorem dL_law_437 : decode mL_law.2.1 437 = .ok (.aload_n 0, 1) := by decide +kernel
theorem dL_law_438 : decode mL_law.2.1 438 = .ok (.iload_n 3, 1) := by decide +kernel
theorem dL_law_439 : decode mL_law.2.1 439 = .ok (.iconst 1, 1) := by decide +kernel
theorem dL_law_440 : decode mL_law.2.1 440 = .ok (.iadd, 1) := by decide +kernel
theorem dL_law_441 : decode mL_law.2.1 441 = .ok (.iaload, 1) := by decide +kernel
theorem dL_law_442 : decode mL_law.2.1 442 = .ok (.invokevirtual 72, 3) := by decide +kernel
theorem dL_law_445 : decode mL_law.2.1 445 = .ok (.aload_n 2, 1) := by decide +kernel
theorem dL_law_446 : decode mL_law.2.1 446 = .ok (.aload_n 0, 1) := by decide +kernel
theorem dL_law_447 : decode mL_law.2.1 447 = .ok (.iload_n 3, 1) := by decide +kernel
theorem dL_law_448 : decode mL_law.2.1 448 = .ok (.iconst 1, 1) := by decide +kernel
theorem dL_law_449 : decode mL_law.2.1 449 = .ok (.iadd, 1) := by decide +kernel
theorem dL_law_450 : decode mL_law.2.1 450 = .ok (.iaload, 1) := by decide +kernel
theorem dL_law_451 : decode mL_law.2.1 451 = .ok (.invokevirtual 75, 3) := by decide +kernel
theorem dL_law_454 : decode mL_law.2.1 454 = .ok (.if_icmp .eq 212, 3) := by decide +kernel
theorem dL_law_457 : decode mL_law.2.1 457 = .ok (.iconst 0, 1) := by decide +kernel
theorem dL_law_458 : decode mL_law.2.1 458 = .ok (.ireturn, 1) := by decide +kernel
theorem dL_law_459 : decode mL_law.2.1 459 = .ok (.aload_n 1, 1) := by decide +kernel
theorem dL_law_460 : decode mL_law.2.1 460 = .ok (.aload_n 0, 1) := by decide +kernel
theorem dL_law_461 : decode mL_law.2.1 461 = .ok (.iload_n 3, 1) := by decide +kernel
theorem dL_law_462 : decode mL_law.2.1 462 = .ok (.iconst 1, 1) := by decide +kernel
theorem dL_law_463 : decode mL_law.2.1 463 = .ok (.iadd, 1) := by decide +kernel
theorem dL_law_464 : decode mL_law.2.1 464 = .ok (.iaload, 1) := by decide +kernel
theorem dL_law_465 : decode mL_law.2.1 465 = .ok (.invokevirtual 76, 3) := by decide +kernel
theorem dL_law_468 : decode mL_law.2.1 468 = .ok (.aload_n 2, 1) := by decide +kernel
theorem dL_law_469 : decode mL_law.2.1 469 = .ok (.aload_n 0, 1) := by decide +kernel
theorem dL_law_470 : decode mL_law.2.1 470 = .ok (.iload_n 3, 1) := by decide +kernel
theorem dL_law_471 : decode mL_law.2.1 471 = .ok (.iconst 1, 1) := by decide +kernel
theorem dL_law_472 : decode mL_law.2.1 472 = .ok (.iadd, 1) := by decide +kernel
theorem dL_law_473 : decode mL_law.2.1 473 = .ok (.iaload, 1) := by decide +kernel
theorem dL_law_474 : decode mL_law.2.1 474 = .ok (.invokevirtual 79, 3) := by decide +kernel
theorem dL_law_477 : decode mL_law.2.1 477 = .ok (.if_icmp .eq 189, 3) := by decide +kernel
theorem dL_law_480 : decode mL_law.2.1 480 = .ok (.iconst 0, 1) := by decide +kernel
theorem dL_law_481 : decode mL_law.2.1 481 = .ok (.ireturn, 1) := by decide +kernel
theorem dL_law_482 : decode mL_law.2.1 482 = .ok (.aload_n 1, 1) := by decide +kernel
theorem dL_law_483 : decode mL_law.2.1 483 = .ok (.aload_n 0, 1) := by decide +kernel
theorem dL_law_484 : decode mL_law.2.1 484 = .ok (.iload_n 3, 1) := by decide +kernel
theorem dL_law_485 : decode mL_law.2.1 485 = .ok (.iconst 1, 1) := by decide +kernel
theorem dL_law_486 : decode mL_law.2.1 486 = .ok (.iadd, 1) := by decide +kernel
theorem dL_law_487 : decode mL_law.2.1 487 = .ok (.iaload, 1) := by decide +kernel
theorem dL_law_488 : decode mL_law.2.1 488 = .ok (.invokevirtual 80, 3) := by decide +kernel
theorem dL_law_491 : decode mL_law.2.1 491 = .ok (.aload_n 2, 1) := by decide +kernel
theorem dL_law_492 : decode mL_law.2.1 492 = .ok (.aload_n 0, 1) := by decide +kernel
theorem dL_law_493 : decode mL_law.2.1 493 = .ok (.iload_n 3, 1) := by decide +kernel
theorem dL_law_494 : decode mL_law.2.1 494 = .ok (.iconst 1, 1) := by decide +kernel
theorem dL_law_495 : decode mL_law.2.1 495 = .ok (.iadd, 1) := by decide +kernel
theorem dL_law_496 : decode mL_law.2.1 496 = .ok (.iaload, 1) := by decide +kernel
theorem dL_law_497 : decode mL_law.2.1 497 = .ok (.invokevirtual 83, 3) := by decide +kernel
theorem dL_law_500 : decode mL_law.2.1 500 = .ok (.if_icmp .eq 166, 3) := by decide +kernel
theorem dL_law_503 : decode mL_law.2.1 503 = .ok (.iconst 0, 1) := by decide +kernel
theorem dL_law_504 : decode mL_law.2.1 504 = .ok (.ireturn, 1) := by decide +kernel
theorem dL_law_505 : decode mL_law.2.1 505 = .ok (.aload_n 1, 1) := by decide +kernel
theorem dL_law_506 : decode mL_law.2.1 506 = .ok (.aload_n 0, 1) := by decide +kernel
theorem dL_law_507 : decode mL_law.2.1 507 = .ok (.iload_n 3, 1) := by decide +kernel
theorem dL_law_508 : decode mL_law.2.1 508 = .ok (.iconst 1, 1) := by decide +kernel
theorem dL_law_509 : decode mL_law.2.1 509 = .ok (.iadd, 1) := by decide +kernel
theorem dL_law_510 : decode mL_law.2.1 510 = .ok (.iaload, 1) := by decide +kernel
theorem dL_law_511 : decode mL_law.2.1 511 = .ok (.aload_n 0, 1) := by decide +kernel
theorem dL_law_512 : decode mL_law.2.1 512 = .ok (.iload_n 3, 1) := by decide +kernel
theorem dL_law_513 : decode mL_law.2.1 513 = .ok (.iconst 2, 1) := by decide +kernel
theorem dL_law_514 : decode mL_law.2.1 514 = .ok (.iadd, 1) := by decide +kernel
theorem dL_law_515 : decode mL_law.2.1 515 = .ok (.iaload, 1) := by decide +kernel
theorem dL_law_516 : decode mL_law.2.1 516 = .ok (.invokevirtual 84, 3) := by decide +kernel
theorem dL_law_519 : decode mL_law.2.1 519 = .ok (.aload_n 2, 1) := by decide +kernel
theorem dL_law_520 : decode mL_law.2.1 520 = .ok (.aload_n 0, 1) := by decide +kernel
theorem dL_law_521 : decode mL_law.2.1 521 = .ok (.iload_n 3, 1) := by decide +kernel
theorem dL_law_522 : decode mL_law.2.1 522 = .ok (.iconst 1, 1) := by decide +kernel
theorem dL_law_523 : decode mL_law.2.1 523 = .ok (.iadd, 1) := by decide +kernel
theorem dL_law_524 : decode mL_law.2.1 524 = .ok (.iaload, 1) := by decide +kernel
theorem dL_law_525 : decode mL_law.2.1 525 = .ok (.aload_n 0, 1) := by decide +kernel
theorem dL_law_526 : decode mL_law.2.1 526 = .ok (.iload_n 3, 1) := by decide +kernel
theorem dL_law_527 : decode mL_law.2.1 527 = .ok (.iconst 2, 1) := by decide +kernel
theorem dL_law_528 : decode mL_law.2.1 528 = .ok (.iadd, 1) := by decide +kernel
theorem dL_law_529 : decode mL_law.2.1 529 = .ok (.iaload, 1) := by decide +kernel
theorem dL_law_530 : decode mL_law.2.1 530 = .ok (.invokevirtual 87, 3) := by decide +kernel
theorem dL_law_533 : decode mL_law.2.1 533 = .ok (.if_icmp .eq 133, 3) := by decide +kernel
theorem dL_law_536 : decode mL_law.2.1 536 = .ok (.iconst 0, 1) := by decide +kernel
theorem dL_law_537 : decode mL_law.2.1 537 = .ok (.ireturn, 1) := by decide +kernel
theorem dL_law_538 : decode mL_law.2.1 538 = .ok (.aload_n 1, 1) := by decide +kernel
theorem dL_law_539 : decode mL_law.2.1 539 = .ok (.aload_n 0, 1) := by decide +kernel
theorem dL_law_540 : decode mL_law.2.1 540 = .ok (.iload_n 3, 1) := by decide +kernel
theorem dL_law_541 : decode mL_law.2.1 541 = .ok (.iconst 1, 1) := by decide +kernel
theorem dL_law_542 : decode mL_law.2.1 542 = .ok (.iadd, 1) := by decide +kernel
theorem dL_law_543 : decode mL_law.2.1 543 = .ok (.iaload, 1) := by decide +kernel
theorem dL_law_544 : decode mL_law.2.1 544 = .ok (.invokevirtual 88, 3) := by decide +kernel
theorem dL_law_547 : decode mL_law.2.1 547 = .ok (.aload_n 2, 1) := by decide +kernel
theorem dL_law_548 : decode mL_law.2.1 548 = .ok (.aload_n 0, 1) := by decide +kernel
theorem dL_law_549 : decode mL_law.2.1 549 = .ok (.iload_n 3, 1) := by decide +kernel
theorem dL_law_550 : decode mL_law.2.1 550 = .ok (.iconst 1, 1) := by decide +kernel
theorem dL_law_551 : decode mL_law.2.1 551 = .ok (.iadd, 1) := by decide +kernel
theorem dL_law_552 : decode mL_law.2.1 552 = .ok (.iaload, 1) := by decide +kernel
theorem dL_law_553 : decode mL_law.2.1 553 = .ok (.invokevirtual 91, 3) := by decide +kernel
theorem dL_law_556 : decode mL_law.2.1 556 = .ok (.if_icmp .eq 110, 3) := by decide +kernel
theorem dL_law_559 : decode mL_law.2.1 559 = .ok (.iconst 0, 1) := by decide +kernel
theorem dL_law_560 : decode mL_law.2.1 560 = .ok (.ireturn, 1) := by decide +kernel
theorem dL_law_561 : decode mL_law.2.1 561 = .ok (.aload_n 1, 1) := by decide +kernel
theorem dL_law_562 : decode mL_law.2.1 562 = .ok (.aload_n 0, 1) := by decide +kernel
theorem dL_law_563 : decode mL_law.2.1 563 = .ok (.iload_n 3, 1) := by decide +kernel
theorem dL_law_564 : decode mL_law.2.1 564 = .ok (.iconst 1, 1) := by decide +kernel
theorem dL_law_565 : decode mL_law.2.1 565 = .ok (.iadd, 1) := by decide +kernel
theorem dL_law_566 : decode mL_law.2.1 566 = .ok (.iaload, 1) := by decide +kernel
theorem dL_law_567 : decode mL_law.2.1 567 = .ok (.invokevirtual 92, 3) := by decide +kernel
theorem dL_law_570 : decode mL_law.2.1 570 = .ok (.aload_n 2, 1) := by decide +kernel
theorem dL_law_571 : decode mL_law.2.1 571 = .ok (.aload_n 0, 1) := by decide +kernel
theorem dL_law_572 : decode mL_law.2.1 572 = .ok (.iload_n 3, 1) := by decide +kernel
theorem dL_law_573 : decode mL_law.2.1 573 = .ok (.iconst 1, 1) := by decide +kernel
theorem dL_law_574 : decode mL_law.2.1 574 = .ok (.iadd, 1) := by decide +kernel
theorem dL_law_575 : decode mL_law.2.1 575 = .ok (.iaload, 1) := by decide +kernel
theorem dL_law_576 : decode mL_law.2.1 576 = .ok (.invokevirtual 95, 3) := by decide +kernel
theorem dL_law_579 : decode mL_law.2.1 579 = .ok (.if_icmp .eq 87, 3) := by decide +kernel
theorem dL_law_582 : decode mL_law.2.1 582 = .ok (.iconst 0, 1) := by decide +kernel
theorem dL_law_583 : decode mL_law.2.1 583 = .ok (.ireturn, 1) := by decide +kernel
theorem dL_law_584 : decode mL_law.2.1 584 = .ok (.aload_n 1, 1) := by decide +kernel
theorem dL_law_585 : decode mL_law.2.1 585 = .ok (.invokevirtual 96, 3) := by decide +kernel
theorem dL_law_588 : decode mL_law.2.1 588 = .ok (.aload_n 2, 1) := by decide +kernel
theorem dL_law_589 : decode mL_law.2.1 589 = .ok (.invokevirtual 99, 3) := by decide +kernel
theorem dL_law_592 : decode mL_law.2.1 592 = .ok (.if_icmp .eq 74, 3) := by decide +kernel
theorem dL_law_595 : decode mL_law.2.1 595 = .ok (.iconst 0, 1) := by decide +kernel
theorem dL_law_596 : decode mL_law.2.1 596 = .ok (.ireturn, 1) := by decide +kernel
theorem dL_law_597 : decode mL_law.2.1 597 = .ok (.aload_n 1, 1) := by decide +kernel
theorem dL_law_598 : decode mL_law.2.1 598 = .ok (.aload_n 0, 1) := by decide +kernel
theorem dL_law_599 : decode mL_law.2.1 599 = .ok (.iload_n 3, 1) := by decide +kernel
theorem dL_law_600 : decode mL_law.2.1 600 = .ok (.iconst 1, 1) := by decide +kernel
theorem dL_law_601 : decode mL_law.2.1 601 = .ok (.iadd, 1) := by decide +kernel
theorem dL_law_602 : decode mL_law.2.1 602 = .ok (.iaload, 1) := by decide +kernel
theorem dL_law_603 : decode mL_law.2.1 603 = .ok (.invokevirtual 100, 3) := by decide +kernel
theorem dL_law_606 : decode mL_law.2.1 606 = .ok (.aload_n 2, 1) := by decide +kernel
theorem dL_law_607 : decode mL_law.2.1 607 = .ok (.aload_n 0, 1) := by decide +kernel
theorem dL_law_608 : decode mL_law.2.1 608 = .ok (.iload_n 3, 1) := by decide +kernel
theorem dL_law_609 : decode mL_law.2.1 609 = .ok (.iconst 1, 1) := by decide +kernel
theorem dL_law_610 : decode mL_law.2.1 610 = .ok (.iadd, 1) := by decide +kernel
theorem dL_law_611 : decode mL_law.2.1 611 = .ok (.iaload, 1) := by decide +kernel
theorem dL_law_612 : decode mL_law.2.1 612 = .ok (.invokevirtual 103, 3) := by decide +kernel
theorem dL_law_615 : decode mL_law.2.1 615 = .ok (.if_icmp .eq 51, 3) := by decide +kernel
theorem dL_law_618 : decode mL_law.2.1 618 = .ok (.iconst 0, 1) := by decide +kernel
theorem dL_law_619 : decode mL_law.2.1 619 = .ok (.ireturn, 1) := by decide +kernel
theorem dL_law_620 : decode mL_law.2.1 620 = .ok (.aload_n 1, 1) := by decide +kernel
theorem dL_law_621 : decode mL_law.2.1 621 = .ok (.aload_n 0, 1) := by decide +kernel
theorem dL_law_622 : decode mL_law.2.1 622 = .ok (.iload_n 3, 1) := by decide +kernel
theorem dL_law_623 : decode mL_law.2.1 623 = .ok (.iconst 1, 1) := by decide +kernel
theorem dL_law_624 : decode mL_law.2.1 624 = .ok (.iadd, 1) := by decide +kernel
theorem dL_law_625 : decode mL_law.2.1 625 = .ok (.iaload, 1) := by decide +kernel
theorem dL_law_626 : decode mL_law.2.1 626 = .ok (.invokevirtual 104, 3) := by decide +kernel
theorem dL_law_629 : decode mL_law.2.1 629 = .ok (.aload_n 2, 1) := by decide +kernel
theorem dL_law_630 : decode mL_law.2.1 630 = .ok (.aload_n 0, 1) := by decide +kernel
theorem dL_law_631 : decode mL_law.2.1 631 = .ok (.iload_n 3, 1) := by decide +kernel
theorem dL_law_632 : decode mL_law.2.1 632 = .ok (.iconst 1, 1) := by decide +kernel
theorem dL_law_633 : decode mL_law.2.1 633 = .ok (.iadd, 1) := by decide +kernel
theorem dL_law_634 : decode mL_law.2.1 634 = .ok (.iaload, 1) := by decide +kernel
theorem dL_law_635 : decode mL_law.2.1 635 = .ok (.invokevirtual 107, 3) := by decide +kernel
theorem dL_law_638 : decode mL_law.2.1 638 = .ok (.if_icmp .eq 28, 3) := by decide +kernel
theorem dL_law_641 : decode mL_law.2.1 641 = .ok (.iconst 0, 1) := by decide +kernel
theorem dL_law_642 : decode mL_law.2.1 642 = .ok (.ireturn, 1) := by decide +kernel
theorem dL_law_643 : decode mL_law.2.1 643 = .ok (.aload_n 1, 1) := by decide +kernel
theorem dL_law_644 : decode mL_law.2.1 644 = .ok (.aload_n 0, 1) := by decide +kernel
theorem dL_law_645 : decode mL_law.2.1 645 = .ok (.iload_n 3, 1) := by decide +kernel
theorem dL_law_646 : decode mL_law.2.1 646 = .ok (.iconst 1, 1) := by decide +kernel
theorem dL_law_647 : decode mL_law.2.1 647 = .ok (.iadd, 1) := by decide +kernel
theorem dL_law_648 : decode mL_law.2.1 648 = .ok (.iaload, 1) := by decide +kernel
theorem dL_law_649 : decode mL_law.2.1 649 = .ok (.invokevirtual 108, 3) := by decide +kernel
theorem dL_law_652 : decode mL_law.2.1 652 = .ok (.aload_n 2, 1) := by decide +kernel
theorem dL_law_653 : decode mL_law.2.1 653 = .ok (.aload_n 0, 1) := by decide +kernel
theorem dL_law_654 : decode mL_law.2.1 654 = .ok (.iload_n 3, 1) := by decide +kernel
theorem dL_law_655 : decode mL_law.2.1 655 = .ok (.iconst 1, 1) := by decide +kernel
theorem dL_law_656 : decode mL_law.2.1 656 = .ok (.iadd, 1) := by decide +kernel
theorem dL_law_657 : decode mL_law.2.1 657 = .ok (.iaload, 1) := by decide +kernel
theorem dL_law_658 : decode mL_law.2.1 658 = .ok (.invokevirtual 111, 3) := by decide +kernel
theorem dL_law_661 : decode mL_law.2.1 661 = .ok (.if_icmp .eq 5, 3) := by decide +kernel
theorem dL_law_664 : decode mL_law.2.1 664 = .ok (.iconst 0, 1) := by decide +kernel
theorem dL_law_665 : decode mL_law.2.1 665 = .ok (.ireturn, 1) := by decide +kernel
theorem dL_law_666 : decode mL_law.2.1 666 = .ok (.iinc 3 3, 3) := by decide +kernel
theorem dL_law_669 : decode mL_law.2.1 669 = .ok (.goto (-651), 3) := by decide +kernel
theorem dL_law_672 : decode mL_law.2.1 672 = .ok (.iconst 1, 1) := by decide +kernel
theorem dL_law_673 : decode mL_law.2.1 673 = .ok (.ireturn, 1) := by decide +kernel
end
section
theorem zmm_H_31 : Cond.methodLink "SweptFloors$History" 31 Lib.Math.min.name ∈ zgw := zgw_p 341 (by decide +kernel) (by decide +kernel)
theorem zmm_F_91 : Cond.methodLink "SweptFloors" 91 Lib.Math.min.name ∈ zgw := zgw_p 344 (by decide +kernel) (by decide +kernel)
theorem zmm_P_33 : Cond.methodLink "SweptFloors$Pilot" 33 Lib.Math.min.name ∈ zgw := zgw_p 463 (by decide +kernel) (by decide +kernel)
theorem zmm_s : Cond.static Lib.Math.min.name ∈ zgw := zgw_p 342 (by decide +kernel) (by decide +kernel)
theorem zmm_i : Cond.initialized "java/lang/Math" ∈ zgw := zgw_p 10 (by decide +kernel) (by decide +kernel)
theorem zmm_c : Cond.code Lib.Math.min.name Lib.Math.min.code 2 (some .int) ∈ zgw := zgw_p 343 (by decide +kernel) (by decide +kernel)
section ZO
variable {l : Launch} {g : zG} {M : zM} {R : Room} {Z : State → Prop} {QQ : List Frame → Array Value → State → State → Prop} {pc : Nat} {ls : zL} {st : List Value} {h : zH} {k n : Nat}
theorem zw_mmin {idx : Nat} {x y : Int32} (hd : decode M.2.1 pc = .ok (.invokestatic idx, 3)) (hl : Cond.methodLink M.1.cls idx Lib.Math.min.name ∈ zgw) (hR : 1 ≤ R.frames ∧ 38 ≤ R.locals) (hst : (st.map Value.category).sum ≤ 8) (hf : k ≤ R.cells ∧ n ≤ R.slots) (kk : WW l g M R Z QQ (pc + 3) ls (.int (if y < x then y else x) :: st) h k n) : WW l g M R Z QQ pc ls (.int y :: .int x :: st) h k n := by
  intro p e s m args below meth c H locs lsA X hz hP hS hL
  have hts := X.2.2.2.2.2.1
  have h8 := zst_room (g := g) hst
  exact va_mmin X.1 X.2.1 (X.2.2.2.1.trans hL.1.1.symm) X.2.2.2.2.1 (hts _ hl) (hts _ zmm_s) (hts _ zmm_i) (hts _ zmm_c) hR.1 (by have := hR.2; omega) hf.1 hf.2 hd (kk p e s m args below meth c H locs lsA X hz hP hS hL)
theorem arrV_ext {cA : ClassId} {N : Nat} {f f2 : Nat → Value} (he : ∀ j, j < N → f j = f2 j) : arrV cA N f = arrV cA N f2 := by
  have e : (fun j : Fin N => f j.val) = (fun j : Fin N => f2 j.val) := funext fun j => he j.val j.isLt
  simp only [arrV]
  rw [e]
theorem zP_swap {D : va_G} {b : Nat} {ca : Nat → ClassId} {H : Heap} {q : Nat} {c c2 : zC} (hq : h[q]? = some c) (he : va_at D zcl (b + q, zE b ca c) H → va_at D zcl (b + q, zE b ca c2) H) (hP : va_P D zcl (zW b ca h) H) : va_P D zcl (zW b ca (h.set q c2)) H := by
  intro i x hx
  by_cases e : q = i
  · subst e
    have hl : q < h.length := (List.getElem?_eq_some_iff.mp hq).1
    have h1 : (h.set q c2)[q]? = some c2 := by simp [hl]
    rw [zW_get h1] at hx
    cases hx
    exact he (hP q _ (zW_get hq))
  · have h1 : (h.set q c2)[i]? = h[i]? := by simp [List.getElem?_set, e]
    have h2 : (zW b ca (h.set q c2))[i]? = (zW b ca h)[i]? := by
      simp only [zW, List.getElem?_mapIdx, h1]
    rw [h2] at hx
    exact hP i x hx
/-- an array's contents count up to its length -/
theorem zw_exti {q t N : Nat} {f : Nat → Int32} (f2 : Nat → Int32) (hq : h[q]? = some (.inl (t, N, .inl f))) (he : ∀ j, j < N → f j = f2 j) (kk : WW l g M R Z QQ pc ls st (h.set q (.inl (t, N, .inl f2))) k n) : WW l g M R Z QQ pc ls st h k n := by
  intro p e s m args below meth c H locs lsA X hz hP hS hL
  refine kk p e s m args below meth c H locs lsA X (by rw [List.length_set]; exact hz) (zP_swap hq (fun ha => ?_) hP) hS hL
  have ha' : H[g.1 + q]? = some (arrV (g.2.1 t) N (fun j => .int (f j))) := ha
  show H[g.1 + q]? = some (arrV (g.2.1 t) N (fun j => .int (f2 j)))
  rw [ha', arrV_ext (fun j hj => by rw [he j hj])]
theorem zw_extl {q t N : Nat} {f : Nat → Int64} (f2 : Nat → Int64) (hq : h[q]? = some (.inl (t, N, .inr (.inl f)))) (he : ∀ j, j < N → f j = f2 j) (kk : WW l g M R Z QQ pc ls st (h.set q (.inl (t, N, .inr (.inl f2)))) k n) : WW l g M R Z QQ pc ls st h k n := by
  intro p e s m args below meth c H locs lsA X hz hP hS hL
  refine kk p e s m args below meth c H locs lsA X (by rw [List.length_set]; exact hz) (zP_swap hq (fun ha => ?_) hP) hS hL
  have ha' : H[g.1 + q]? = some (arrV (g.2.1 t) N (fun j => .long (f j))) := ha
  show H[g.1 + q]? = some (arrV (g.2.1 t) N (fun j => .long (f2 j)))
  rw [ha', arrV_ext (fun j hj => by rw [he j hj])]
theorem zw_h {h2 : zH} (e : h = h2) (kk : WW l g M R Z QQ pc ls st h2 k n) : WW l g M R Z QQ pc ls st h k n := by rw [e]; exact kk
theorem zw_st {st2 : List Value} (e : st = st2) (kk : WW l g M R Z QQ pc ls st2 h k n) : WW l g M R Z QQ pc ls st h k n := by rw [e]; exact kk
theorem zw_incN {i j : Nat} (hd : decode M.2.1 pc = .ok (.iinc i 1, 3)) (hf : zfind i ls = some (.int (nI j))) (hn : i < M.2.2.1) (hk : zok i ls = true) (kk : WW l g M R Z QQ (pc + 3) ((i, some (.int (nI (j + 1)))) :: ls) st h k n) : WW l g M R Z QQ pc ls st h k n := zw_iinc hd hf (nI_1 j) hn hk kk
theorem zw_lk {ls2 : zL} (kk : WW l g M R Z QQ pc ls2 st h k n) (hs : zsub ls2 ls) : WW l g M R Z QQ pc ls st h k n := zw_ls hs kk
end ZO
/-! cells of the heap -/
theorem zg_eq {h : zH} {k : Nat} {c c2 : zC} (hk : h[k]? = some c) : (h.set k c2)[k]? = some c2 := by
  have hl : k < h.length := (List.getElem?_eq_some_iff.mp hk).1
  simp [hl]
theorem zg_ne {h : zH} {k j : Nat} {c2 : zC} {x : Option zC} (hne : k ≠ j) (hj : h[j]? = x) : (h.set k c2)[j]? = x := by
  rw [List.getElem?_set, if_neg hne]; exact hj
theorem zs_self {h : zH} {k : Nat} {c : zC} (hk : h[k]? = some c) : h.set k c = h := by
  apply List.ext_getElem?
  intro i
  by_cases e : k = i
  · subst e; rw [zg_eq hk, hk]
  · rw [zg_ne e rfl]
theorem zs_set (h : zH) (k : Nat) (c c2 : zC) : (h.set k c).set k c2 = h.set k c2 := by simp
theorem zs_comm (h : zH) {k j : Nat} (c c2 : zC) (hne : k ≠ j) : (h.set k c).set j c2 = (h.set j c2).set k c := List.set_comm _ _ hne
theorem zs_len (h : zH) (k : Nat) (c : zC) : (h.set k c).length = h.length := by simp
end
section
/-! ===== sets of cells as longs ===== -/
def mB (p : Nat → Bool) : Nat → BitVec 64
  | 0 => 0#64
  | n + 1 => mB p n ||| (if p n then BitVec.twoPow 64 n else 0#64)
theorem mB_get (p : Nat → Bool) : ∀ n, n ≤ 64 → ∀ i, (mB p n).getLsbD i = (decide (i < n) && p i) := by
  intro n
  induction n with
  | zero => intro _ i; simp [mB]
  | succ n ih =>
    intro hn i
    rw [mB, BitVec.getLsbD_or, ih (by omega)]
    by_cases hi : i = n
    · subst hi
      by_cases hp : p i = true
      · simp [hp, BitVec.getLsbD_twoPow]; omega
      · simp [hp]
    · by_cases hp : p n = true
      · simp only [hp, if_true, BitVec.getLsbD_twoPow]
        have h1 : decide (n = i) = false := by simp; omega
        have h2 : decide (i < n + 1) = decide (i < n) := by simp; omega
        rw [h2, h1]
        simp
      · have h2 : decide (i < n + 1) = decide (i < n) := by simp; omega
        rw [h2]
        simp [hp]
def mset (p : Nat → Bool) : Int64 := Int64.ofBitVec (mB p 36)
def bs (m : Int64) (i : Nat) : Bool := m.toBitVec.getLsbD i
theorem bs_mset (p : Nat → Bool) (i : Nat) : bs (mset p) i = (decide (i < 36) && p i) := by
  show (mB p 36).getLsbD i = _
  exact mB_get p 36 (by decide) i
theorem bs_ext {a b : Int64} (h : ∀ i, i < 64 → bs a i = bs b i) : a = b := Int64.toBitVec_inj.mp (BitVec.eq_of_getLsbD_eq (fun i hi => h i hi))
theorem mset_congr {p q : Nat → Bool} (h : ∀ i, i < 36 → p i = q i) : mset p = mset q := by
  apply bs_ext
  intro i _
  rw [bs_mset, bs_mset]
  by_cases hi : i < 36
  · rw [h i hi]
  · simp [hi]
theorem mset_inj {p q : Nat → Bool} (h : mset p = mset q) : ∀ i, i < 36 → p i = q i := by
  intro i hi
  have h1 : bs (mset p) i = bs (mset q) i := by rw [h]
  rw [bs_mset, bs_mset] at h1
  simpa [hi] using h1
theorem bs_and (a b : Int64) (i : Nat) : bs (a &&& b) i = (bs a i && bs b i) := by simp [bs]
theorem bs_or (a b : Int64) (i : Nat) : bs (a ||| b) i = (bs a i || bs b i) := by simp [bs]
theorem bs_xor (a b : Int64) (i : Nat) : bs (a ^^^ b) i = (bs a i ^^ bs b i) := by simp [bs]
theorem bs_m1 {i : Nat} (h : i < 64) : bs (-1) i = true := by
  have : ∀ i, i < 64 → bs (-1) i = true := by decide +kernel
  exact this i h
theorem bs_0 (i : Nat) : bs 0 i = false := by simp [bs]
theorem bs_not (a : Int64) {i : Nat} (h : i < 64) : bs (a ^^^ (-1)) i = !(bs a i) := by rw [bs_xor, bs_m1 h]; simp
theorem m_or (p q : Nat → Bool) : mset p ||| mset q = mset (fun i => p i || q i) := by
  apply bs_ext; intro i _; rw [bs_or, bs_mset, bs_mset, bs_mset]; by_cases hi : i < 36 <;> simp [hi]
theorem m_and (p q : Nat → Bool) : mset p &&& mset q = mset (fun i => p i && q i) := by
  apply bs_ext; intro i _; rw [bs_and, bs_mset, bs_mset, bs_mset]; by_cases hi : i < 36 <;> simp [hi]
theorem m_xor (p q : Nat → Bool) : mset p ^^^ mset q = mset (fun i => p i ^^ q i) := by
  apply bs_ext; intro i _; rw [bs_xor, bs_mset, bs_mset, bs_mset]; by_cases hi : i < 36 <;> simp [hi]
theorem m_andn (p q : Nat → Bool) : mset p &&& (mset q ^^^ (-1)) = mset (fun i => p i && !q i) := by
  apply bs_ext; intro i h64; rw [bs_and, bs_not _ h64, bs_mset, bs_mset, bs_mset]; by_cases hi : i < 36 <;> simp [hi]
theorem m_0 : (0 : Int64) = mset (fun _ => false) := by
  apply bs_ext; intro i _; rw [bs_mset, bs_0]; simp
theorem m_eq0 (p : Nat → Bool) : mset p = 0 ↔ ∀ i, i < 36 → p i = false := by
  rw [m_0]
  exact ⟨fun h i hi => mset_inj h i hi, fun h => mset_congr h⟩
theorem m_eq (p q : Nat → Bool) : mset p = mset q ↔ ∀ i, i < 36 → p i = q i := ⟨mset_inj, mset_congr⟩
theorem sh_c : ∀ k, k < 64 → ((nI k).toInt64 &&& 63).toBitVec.smod 64 = BitVec.ofNat 64 k := by decide +kernel
theorem sh_u : ∀ k, k < 64 → ((nI k).toInt64.toUInt64 &&& Int64.toUInt64 63).toNat % 64 = k := by decide +kernel
theorem bs_shl (a : Int64) {k i : Nat} (hk : k < 64) (hi : i < 64) : bs (a <<< ((nI k).toInt64 &&& 63)) i = (decide (k ≤ i) && bs a (i - k)) := by
  unfold bs
  rw [Int64.toBitVec_shiftLeft, sh_c k hk, BitVec.shiftLeft_eq', BitVec.getLsbD_shiftLeft]
  have h1 : (BitVec.ofNat 64 k).toNat = k := by simp; omega
  rw [h1]
  by_cases h : k ≤ i
  · have h2 : ¬ i < k := by omega
    simp [h, h2, hi]
  · have h2 : i < k := by omega
    simp [h, h2]
theorem bs_shr (a : Int64) {k : Nat} (hk : k < 64) (i : Nat) : bs (a.toUInt64 >>> ((nI k).toInt64.toUInt64 &&& Int64.toUInt64 63)).toInt64 i = bs a (i + k) := by
  unfold bs
  show (a.toUInt64 >>> ((nI k).toInt64.toUInt64 &&& Int64.toUInt64 63)).toBitVec.getLsbD i = _
  rw [UInt64.toBitVec_shiftRight]
  generalize hz : ((nI k).toInt64.toUInt64 &&& Int64.toUInt64 63) = z
  have hzk : z.toBitVec.toNat % 64 = k := by rw [← hz]; exact sh_u k hk
  have h1 : (z.toBitVec % 64).toNat = k := by
    rw [BitVec.toNat_umod]; exact hzk
  rw [BitVec.ushiftRight_eq', BitVec.getLsbD_ushiftRight, h1, Nat.add_comm]
  rfl
theorem m_shl {p : Nat → Bool} {k : Nat} (hk : k ≤ 6) (hp : ∀ i, p i = true → i + k < 36) : mset p <<< ((nI k).toInt64 &&& 63) = mset (fun i => decide (k ≤ i) && p (i - k)) := by
  apply bs_ext; intro i h64
  rw [bs_shl _ (by omega) h64, bs_mset, bs_mset]
  by_cases h : k ≤ i
  · by_cases hi : i < 36
    · have : i - k < 36 := by omega
      simp [h, hi, this]
    · have : p (i - k) = false := by
        cases hq : p (i - k) with
        | false => rfl
        | true => have := hp _ hq; omega
      simp [h, this]
  · simp [h]
theorem m_shlA {p a : Nat → Bool} {k : Nat} (hk : k ≤ 6) : mset p <<< ((nI k).toInt64 &&& 63) &&& mset a = mset (fun i => (decide (k ≤ i) && p (i - k)) && a i) := by
  apply bs_ext; intro i h64
  rw [bs_and, bs_shl _ (by omega) h64, bs_mset, bs_mset, bs_mset]
  by_cases h : k ≤ i
  · by_cases hi : i < 36
    · have : i - k < 36 := by omega
      simp [h, hi, this]
    · simp [hi]
  · simp [h]
theorem m_shr {p : Nat → Bool} {k : Nat} (hk : k ≤ 6) (hp : ∀ i, p i = true → i < 36) : ((mset p).toUInt64 >>> ((nI k).toInt64.toUInt64 &&& Int64.toUInt64 63)).toInt64 = mset (fun i => p (i + k)) := by
  apply bs_ext; intro i h64
  rw [bs_shr _ (by omega), bs_mset, bs_mset]
  cases hq : p (i + k) with
  | false => simp
  | true => have := hp _ hq; simp; omega
/-- one cell -/
def one (c : Nat) : Nat → Bool := fun i => i == c
theorem m_one : ∀ c, c < 36 → (1 : Int64) <<< ((nI c).toInt64 &&& 63) = mset (one c) := by
  intro c hc
  apply bs_ext; intro i h64
  rw [bs_shl _ (by omega) h64, bs_mset]
  have h1 : ∀ j, j < 64 → bs 1 j = decide (j = 0) := by decide +kernel
  rw [h1 _ (by omega)]
  simp only [one]
  by_cases h : i = c
  · subst h; simp; omega
  · by_cases h2 : c ≤ i
    · have : ¬ (i - c = 0) := by omega
      have h3 : (i == c) = false := by simpa using h
      simp [this, h3]
    · have h3 : (i == c) = false := by simpa using h
      simp [h2, h3]
end
section
/-! ===== the floor ===== -/
abbrev Fl : Type := Nat × Nat × Nat × (Nat → Nat)
def fW (F : Fl) : Nat := F.1
def fH (F : Fl) : Nat := F.2.1
def fD (F : Fl) : Nat := F.2.2.1
def fK (F : Fl) : Nat → Nat := F.2.2.2
def fN (F : Fl) : Nat := F.1 * F.2.1
def fOK (F : Fl) : Prop := (1 ≤ fW F ∧ fW F ≤ 6) ∧ (1 ≤ fH F ∧ fH F ≤ 6) ∧ fD F < fN F ∧ ∀ i, i < fN F → (fK F i ≤ 4 ∨ fK F i = 6) ∧ (fK F i = 6 ↔ i = fD F)
theorem fN_le {F : Fl} (h : fOK F) : fN F ≤ 36 := by
  obtain ⟨⟨_, h1⟩, ⟨_, h2⟩, -⟩ := h
  exact Nat.mul_le_mul h1 h2
theorem fN_pos {F : Fl} (h : fOK F) : 0 < fN F := Nat.lt_of_le_of_lt (Nat.zero_le _) h.2.2.1
/-- the cell on a hand: 0 up, 1 right, 2 down, 3 left -/
def nbW (W H c hand : Nat) : Option Nat :=
  if hand = 0 then (if W ≤ c then some (c - W) else none)
  else if hand = 1 then (if c % W + 1 < W then some (c + 1) else none)
  else if hand = 2 then (if c + W < W * H then some (c + W) else none)
  else (if 0 < c % W then some (c - 1) else none)
def nb (F : Fl) (c hand : Nat) : Option Nat := nbW F.1 F.2.1 c hand
theorem nb_chk : (List.range 7).all (fun W => (List.range 7).all (fun H => (List.range 36).all (fun c => (List.range 4).all (fun hand => !(decide (0 < W) && decide (c < W * H)) || (match nbW W H c hand with | none => true | some b => decide (b < W * H) && (nbW W H b ((hand + 2) % 4) == some c)))))) = true := by decide +kernel
theorem nb_all (W : Nat) (hW : W < 7) (H : Nat) (hH : H < 7) (c : Nat) (hc : c < 36) (hand : Nat) (hh : hand < 4) (h0 : 0 < W) (hn : c < W * H) : (match nbW W H c hand with | none => true | some b => decide (b < W * H) && (nbW W H b ((hand + 2) % 4) == some c)) = true := by
  have h1 := List.all_eq_true.mp (List.all_eq_true.mp (List.all_eq_true.mp (List.all_eq_true.mp nb_chk W (List.mem_range.mpr hW)) H (List.mem_range.mpr hH)) c (List.mem_range.mpr hc)) hand (List.mem_range.mpr hh)
  simpa [h0, hn] using h1
theorem nb_spec {F : Fl} (h : fOK F) {c hand b : Nat} (hc : c < fN F) (hh : hand < 4) (e : nb F c hand = some b) : b < fN F ∧ nb F b ((hand + 2) % 4) = some c := by
  have hn := fN_le h
  obtain ⟨⟨h0, h1⟩, ⟨_, h2⟩, -⟩ := h
  have := nb_all F.1 (Nat.lt_succ_of_le h1) F.2.1 (Nat.lt_succ_of_le h2) c (Nat.lt_of_lt_of_le hc hn) hand hh h0 hc
  unfold nb at e ⊢
  rw [e] at this
  simpa [fN] using this
theorem nb_inv {F : Fl} (h : fOK F) {c hand b : Nat} (hc : c < fN F) (hh : hand < 4) (e : nb F c ((hand + 2) % 4) = some b) : b < fN F ∧ nb F b hand = some c := by
  have h1 := nb_spec h hc (Nat.mod_lt _ (by decide)) e
  refine ⟨h1.1, ?_⟩
  have h2 := h1.2
  have e2 : ((hand + 2) % 4 + 2) % 4 = hand := by omega
  rw [e2] at h2
  exact h2
/-- the cells on that hand of these -/
def bes (F : Fl) (hand : Nat) (p : Nat → Bool) : Nat → Bool := fun c => decide (c < fN F) && (match nb F c ((hand + 2) % 4) with | none => false | some b => p b)
def arn (F : Fl) (p : Nat → Bool) : Nat → Bool := fun c => bes F 0 p c || bes F 2 p c || bes F 1 p c || bes F 3 p c
/-- of the floor -/
def sub (F : Fl) (p : Nat → Bool) : Prop := ∀ i, p i = true → i < fN F
theorem sub36 {F : Fl} (h : fOK F) {p : Nat → Bool} (hp : sub F p) : ∀ i, p i = true → i < 36 := fun i hi => Nat.lt_of_lt_of_le (hp i hi) (fN_le h)
theorem bes_sub (F : Fl) (hand : Nat) (p : Nat → Bool) : sub F (bes F hand p) := by
  intro i hi
  simp only [bes, Bool.and_eq_true, decide_eq_true_eq] at hi
  exact hi.1
theorem arn_sub (F : Fl) (p : Nat → Bool) : sub F (arn F p) := by
  intro i hi
  simp only [arn, Bool.or_eq_true] at hi
  rcases hi with ((h | h) | h) | h <;> exact bes_sub _ _ _ _ h
theorem bes_iff {F : Fl} {hand c : Nat} {p : Nat → Bool} : bes F hand p c = true ↔ c < fN F ∧ ∃ b, nb F c ((hand + 2) % 4) = some b ∧ p b = true := by
  simp only [bes, Bool.and_eq_true, decide_eq_true_eq]
  cases nb F c ((hand + 2) % 4) with
  | none => simp
  | some b => simp
theorem arn_iff {F : Fl} {c : Nat} {p : Nat → Bool} : arn F p c = true ↔ c < fN F ∧ ∃ hand b, hand < 4 ∧ nb F c hand = some b ∧ p b = true := by
  simp only [arn, Bool.or_eq_true, bes_iff]
  constructor
  · rintro (((⟨h, b, h1, h2⟩ | ⟨h, b, h1, h2⟩) | ⟨h, b, h1, h2⟩) | ⟨h, b, h1, h2⟩)
    · exact ⟨h, _, b, by decide, h1, h2⟩
    · exact ⟨h, _, b, by decide, h1, h2⟩
    · exact ⟨h, _, b, by decide, h1, h2⟩
    · exact ⟨h, _, b, by decide, h1, h2⟩
  · rintro ⟨h, hand, b, h4, h1, h2⟩
    rcases (show hand = 0 ∨ hand = 1 ∨ hand = 2 ∨ hand = 3 by omega) with rfl | rfl | rfl | rfl
    · exact Or.inl (Or.inl (Or.inr ⟨h, b, h1, h2⟩))
    · exact Or.inr ⟨h, b, h1, h2⟩
    · exact Or.inl (Or.inl (Or.inl ⟨h, b, h1, h2⟩))
    · exact Or.inl (Or.inr ⟨h, b, h1, h2⟩)
/-! the ground's sets -/
def gAll (F : Fl) : Nat → Bool := fun i => decide (i < fN F)
def gK (F : Fl) (k : Nat) : Nat → Bool := fun i => decide (i < fN F) && (fK F i == k)
def gLeft (F : Fl) : Nat → Bool := fun i => decide (i < fN F) && (i % fW F == 0)
def gRight (F : Fl) : Nat → Bool := fun i => decide (i < fN F) && (i % fW F == fW F - 1)
theorem gAll_sub (F : Fl) : sub F (gAll F) := fun i hi => by simpa [gAll] using hi
theorem gK_sub (F : Fl) (k : Nat) : sub F (gK F k) := fun i hi => by simp [gK] at hi; exact hi.1
theorem r_chk : (List.range 7).all (fun W => (List.range 7).all (fun H => (List.range 37).all (fun i => !(decide (0 < W) && decide (1 ≤ i) && decide (i - 1 < W * H)) || (decide ((i - 1) % W = W - 1) == !(decide (0 < i % W) && decide (i < W * H)))))) = true := by decide +kernel
theorem r_all (W : Nat) (hW : W < 7) (H : Nat) (hH : H < 7) (i : Nat) (hi : i < 37) (h0 : 0 < W) (h1 : 1 ≤ i) (h2 : i - 1 < W * H) : (i - 1) % W = W - 1 ↔ ¬ (0 < i % W ∧ i < W * H) := by
  have h3 := List.all_eq_true.mp (List.all_eq_true.mp (List.all_eq_true.mp r_chk W (List.mem_range.mpr hW)) H (List.mem_range.mpr hH)) i (List.mem_range.mpr hi)
  simp only [h0, h1, h2, decide_true, Bool.and_true, Bool.not_true, Bool.false_or, beq_iff_eq] at h3
  by_cases hA : (i - 1) % W = W - 1 <;> by_cases hB : 0 < i % W <;> by_cases hC : i < W * H <;> simp_all
theorem l_chk : (List.range 7).all (fun W => (List.range 37).all (fun i => !(decide (0 < W)) || (decide ((i + 1) % W = 0) == !(decide (i % W + 1 < W))))) = true := by decide +kernel
theorem l_all (W : Nat) (hW : W < 7) (i : Nat) (hi : i < 37) (h0 : 0 < W) : (i + 1) % W = 0 ↔ ¬ (i % W + 1 < W) := by
  have h3 := List.all_eq_true.mp (List.all_eq_true.mp l_chk W (List.mem_range.mpr hW)) i (List.mem_range.mpr hi)
  simp only [h0, decide_true, Bool.not_true, Bool.false_or, beq_iff_eq] at h3
  by_cases hA : (i + 1) % W = 0 <;> by_cases hB : i % W + 1 < W <;> simp_all
theorem m_up {F : Fl} (h : fOK F) {p : Nat → Bool} (hp : sub F p) : ((mset p).toUInt64 >>> ((nI (fW F)).toInt64.toUInt64 &&& Int64.toUInt64 63)).toInt64 = mset (bes F 0 p) := by
  rw [m_shr h.1.2 (sub36 h hp)]
  apply mset_congr
  intro i _
  simp only [bes, nb, nbW]
  by_cases h2 : i + F.1 < F.1 * F.2.1
  · have h3 : i < fN F := by show i < F.1 * F.2.1; omega
    simp [h2, h3, fW]
  · cases hq : p (i + fW F) with
    | false => simp [h2]
    | true => exact absurd (hp _ hq) h2
theorem m_down {F : Fl} (h : fOK F) {p : Nat → Bool} : (mset p <<< ((nI (fW F)).toInt64 &&& 63)) &&& mset (gAll F) = mset (bes F 2 p) := by
  rw [m_shlA h.1.2]
  apply mset_congr
  intro i _
  simp only [bes, nb, nbW, gAll]
  by_cases h2 : F.1 ≤ i
  · simp [h2, fW, Bool.and_comm]
  · simp [h2, fW]
theorem m_right {F : Fl} (h : fOK F) {p : Nat → Bool} (hp : sub F p) : (mset p &&& (mset (gRight F) ^^^ (-1))) <<< ((1 : Int32).toInt64 &&& 63) = mset (bes F 1 p) := by
  have hn := fN_le h
  have hr : ∀ i, 1 ≤ i → i - 1 < fN F → ((i - 1) % fW F = fW F - 1 ↔ ¬ (0 < i % fW F ∧ i < fN F)) := by
    intro i hi hj
    exact r_all F.1 (Nat.lt_succ_of_le h.1.2) F.2.1 (Nat.lt_succ_of_le h.2.1.2) i (by omega) h.1.1 hi hj
  rw [m_andn, show (1 : Int32) = nI 1 from rfl, m_shl (by decide)]
  · apply mset_congr
    intro i _
    simp only [bes, nb, nbW, gRight]
    by_cases h1 : 1 ≤ i
    · cases hq : p (i - 1) with
      | false => by_cases hz : 0 < i % F.1 <;> simp [hz, hq]
      | true =>
        have hj := hp _ hq
        have := hr i h1 hj
        by_cases hz : 0 < i % F.1 ∧ i < F.1 * F.2.1
        · have h3 : ¬ ((i - 1) % fW F = fW F - 1) := fun e => this.mp e hz
          simp [h1, hj, h3, hz.1, hq, fN, hz.2]
        · have h3 : (i - 1) % fW F = fW F - 1 := this.mpr hz
          by_cases hz1 : 0 < i % F.1
          · have hz2 : ¬ i < F.1 * F.2.1 := fun e => hz ⟨hz1, e⟩
            have hj' : i - 1 < F.1 * F.2.1 := hj
            simp [hj', h3, fN, hz2]
          · simp [hj, h3, hz1]
    · have h0 : i = 0 := by omega
      subst h0
      simp
  · intro i hi
    simp only [Bool.and_eq_true] at hi
    have hj := hp _ hi.1
    have h2 := hi.2
    simp only [gRight, Bool.not_eq_true', Bool.and_eq_false_iff, decide_eq_false_iff_not, beq_eq_false_iff_ne] at h2
    have h3 : i % fW F ≠ fW F - 1 := by
      rcases h2 with h2 | h2
      · exact absurd hj h2
      · exact h2
    have := hr (i + 1) (by omega) (by simpa using hj)
    simp only [Nat.add_sub_cancel] at this
    have h4 : 0 < (i + 1) % fW F ∧ i + 1 < fN F := Classical.byContradiction fun e => h3 (this.mpr e)
    omega
theorem m_left {F : Fl} (h : fOK F) {p : Nat → Bool} (hp : sub F p) : ((mset p &&& (mset (gLeft F) ^^^ (-1))).toUInt64 >>> ((1 : Int32).toInt64.toUInt64 &&& Int64.toUInt64 63)).toInt64 = mset (bes F 3 p) := by
  have hn := fN_le h
  rw [m_andn, show (1 : Int32) = nI 1 from rfl, m_shr (by decide)]
  · apply mset_congr
    intro i hi
    simp only [bes, nb, nbW, gLeft]
    have e := l_all F.1 (Nat.lt_succ_of_le h.1.2) i (by omega) h.1.1
    cases hq : p (i + 1) with
    | false => by_cases hz : i % F.1 + 1 < F.1 <;> simp [hz, hq]
    | true =>
      have hj := hp _ hq
      have hi2 : i < fN F := by omega
      by_cases hz : i % F.1 + 1 < F.1
      · have h3 : ¬ ((i + 1) % fW F = 0) := fun q => e.mp q hz
        simp [hj, h3, hz, hi2, hq]
      · have h3 : (i + 1) % fW F = 0 := e.mpr hz
        simp [hj, h3, hz]
  · intro i hi
    simp only [Bool.and_eq_true] at hi
    exact sub36 h hp i hi.1
theorem m_around {F : Fl} (h : fOK F) {p : Nat → Bool} (hp : sub F p) :
    ((((mset p).toUInt64 >>> ((nI (fW F)).toInt64.toUInt64 &&& Int64.toUInt64 63)).toInt64 ||| ((mset p <<< ((nI (fW F)).toInt64 &&& 63)) &&& mset (gAll F))) ||| ((mset p &&& (mset (gRight F) ^^^ (-1))) <<< ((1 : Int32).toInt64 &&& 63))) ||| ((mset p &&& (mset (gLeft F) ^^^ (-1))).toUInt64 >>> ((1 : Int32).toInt64.toUInt64 &&& Int64.toUInt64 63)).toInt64 = mset (arn F p) := by
  rw [m_up h hp, m_down h, m_right h hp, m_left h hp, m_or, m_or, m_or]
  rfl
end
section
/-! ===== searching, counting ===== -/
/-- the first of n places from s on -/
def fst (p : Nat → Bool) : Nat → Nat → Option Nat
  | 0, _ => none
  | n + 1, s => if p s = true then some s else fst p n (s + 1)
theorem fst_some {p : Nat → Bool} : ∀ {n s k : Nat}, fst p n s = some k ↔ (s ≤ k ∧ k < s + n ∧ p k = true ∧ ∀ j, s ≤ j → j < k → p j = false) := by
  intro n
  induction n with
  | zero =>
    intro s k
    constructor
    · intro h; cases h
    · rintro ⟨h1, h2, -⟩; omega
  | succ n ih =>
    intro s k
    by_cases hp : p s = true
    · simp only [fst, hp, if_true]
      constructor
      · intro h
        cases h
        exact ⟨Nat.le_refl _, by omega, hp, fun j h1 h2 => by omega⟩
      · rintro ⟨h1, h2, h3, h4⟩
        rcases Nat.lt_or_ge s k with h | h
        · have := h4 s (Nat.le_refl _) h
          rw [hp] at this
          cases this
        · congr 1; omega
    · rw [show fst p (n + 1) s = fst p n (s + 1) from by simp [fst, hp], ih]
      constructor
      · rintro ⟨h1, h2, h3, h4⟩
        refine ⟨by omega, by omega, h3, fun j g1 g2 => ?_⟩
        rcases Nat.lt_or_ge s j with h | h
        · exact h4 j h g2
        · have : j = s := by omega
          subst this
          simpa using hp
      · rintro ⟨h1, h2, h3, h4⟩
        have hne : s ≠ k := fun e => hp (by rw [e]; exact h3)
        exact ⟨by omega, by omega, h3, fun j g1 g2 => h4 j (by omega) g2⟩
theorem fst_none {p : Nat → Bool} : ∀ {n s : Nat}, fst p n s = none ↔ (∀ j, s ≤ j → j < s + n → p j = false) := by
  intro n
  induction n with
  | zero => intro s; constructor; (intro _ j h1 h2; omega); intro _; rfl
  | succ n ih =>
    intro s
    by_cases hp : p s = true
    · simp only [fst, hp, if_true]
      constructor
      · intro h; cases h
      · intro h
        have := h s (Nat.le_refl _) (by omega)
        rw [hp] at this; cases this
    · rw [show fst p (n + 1) s = fst p n (s + 1) from by simp [fst, hp], ih]
      constructor
      · intro h j h1 h2
        rcases Nat.lt_or_ge s j with g | g
        · exact h j g (by omega)
        · have : j = s := by omega
          subst this
          simpa using hp
      · intro h j h1 h2
        exact h j (by omega) (by omega)
theorem fst_t {p : Nat → Bool} {n s : Nat} (h : p s = true) : fst p (n + 1) s = some s := by simp [fst, h]
theorem fst_f {p : Nat → Bool} {n s : Nat} (h : p s = false) : fst p (n + 1) s = fst p n (s + 1) := by simp [fst, h]
def cnt (p : Nat → Bool) : Nat → Nat
  | 0 => 0
  | n + 1 => cnt p n + (if p n = true then 1 else 0)
theorem cnt_le (p : Nat → Bool) : ∀ n, cnt p n ≤ n := by
  intro n
  induction n with
  | zero => exact Nat.le_refl _
  | succ n ih => simp only [cnt]; split <;> omega
theorem cnt_congr {p q : Nat → Bool} : ∀ {n : Nat}, (∀ i, i < n → p i = q i) → cnt p n = cnt q n := by
  intro n
  induction n with
  | zero => intro _; rfl
  | succ n ih =>
    intro h
    simp only [cnt]
    rw [ih (fun i hi => h i (by omega)), h n (by omega)]
theorem cnt_more {p : Nat → Bool} {n m : Nat} (hnm : n ≤ m) (h : ∀ i, n ≤ i → i < m → p i = false) : cnt p m = cnt p n := by
  induction m with
  | zero => have : n = 0 := by omega
            subst this; rfl
  | succ m ih =>
    rcases Nat.lt_or_ge m n with g | g
    · have : n = m + 1 := by omega
      subst this; rfl
    · simp only [cnt]
      rw [ih g (fun i h1 h2 => h i h1 (by omega)), h m g (by omega)]
      simp
/-- a cell, or none, as an int -/
def oI : Option Nat → Int32
  | none => -1
  | some c => nI c
def oneO (a : Option Nat) : Nat → Bool := fun i => a == some i
def oOK (a : Option Nat) : Prop := ∀ c, a = some c → c < 36
theorem oOK_none : oOK none := fun _ h => by cases h
theorem oOK_some {c : Nat} (h : c < 36) : oOK (some c) := fun _ e => by cases e; exact h
theorem oneO_some (c : Nat) : oneO (some c) = one c := by
  funext i
  simp only [oneO, one]
  by_cases h : i = c
  · subst h; simp
  · have h1 : (i == c) = false := by simpa using h
    have h2 : (some c == some i) = false := by simpa using fun e => h e.symm
    rw [h1, h2]
theorem oneO_none : oneO none = fun _ => false := by funext i; rfl
def dI : Option Nat → Int32
  | none => -9
  | some k => nI k
/-! ===== steps over a set of cells ===== -/
def lvl (F : Fl) (K : Nat → Bool) (a : Option Nat) : Nat → Nat → Bool
  | 0 => fun c => oneO a c && K c
  | k + 1 => fun c => lvl F K a k c || (arn F (lvl F K a k) c && K c)
theorem lvl_K {F : Fl} {K : Nat → Bool} {a : Option Nat} : ∀ (k c : Nat), lvl F K a k c = true → K c = true := by
  intro k
  induction k with
  | zero => intro c h; simp only [lvl, Bool.and_eq_true] at h; exact h.2
  | succ k ih =>
    intro c h
    simp only [lvl, Bool.or_eq_true, Bool.and_eq_true] at h
    rcases h with h | h
    · exact ih c h
    · exact h.2
theorem lvl_sub {F : Fl} {K : Nat → Bool} {a : Option Nat} (hK : sub F K) (k : Nat) : sub F (lvl F K a k) := fun c h => hK c (lvl_K k c h)
theorem lvl_eq {F : Fl} (h : fOK F) {K : Nat → Bool} {a : Option Nat} (hK : sub F K) {k : Nat} (e : mset (lvl F K a (k + 1)) = mset (lvl F K a k)) : lvl F K a (k + 1) = lvl F K a k := by
  funext i
  by_cases hi : i < 36
  · exact mset_inj e i hi
  · cases h1 : lvl F K a (k + 1) i with
    | true => exact absurd (sub36 h (lvl_sub hK _) i h1) hi
    | false =>
      cases h2 : lvl F K a k i with
      | true => exact absurd (sub36 h (lvl_sub hK _) i h2) hi
      | false => rfl
theorem lvl_stay {F : Fl} {K : Nat → Bool} {a : Option Nat} {k : Nat} (e : lvl F K a (k + 1) = lvl F K a k) : ∀ j, lvl F K a (k + j) = lvl F K a k := by
  intro j
  induction j with
  | zero => rfl
  | succ j ih =>
    have : lvl F K a (k + j + 1) = fun c => lvl F K a (k + j) c || (arn F (lvl F K a (k + j)) c && K c) := rfl
    rw [← Nat.add_assoc, this, ih]
    exact e
theorem lvl_up {F : Fl} {K : Nat → Bool} {a : Option Nat} {k c : Nat} (h : lvl F K a k c = true) : lvl F K a (k + 1) c = true := by
  simp only [lvl, h, Bool.true_or]
theorem lvl_mono {F : Fl} {K : Nat → Bool} {a : Option Nat} {k c : Nat} (h : lvl F K a k c = true) : ∀ j, k ≤ j → lvl F K a j c = true := by
  intro j hj
  induction j with
  | zero => have : k = 0 := by omega
            subst this; exact h
  | succ j ih =>
    rcases Nat.lt_or_ge j k with g | g
    · have : k = j + 1 := by omega
      subst this; exact h
    · exact lvl_up (ih g)
def dst (F : Fl) (K : Nat → Bool) (a : Option Nat) (c : Nat) : Option Nat := fst (fun k => lvl F K a k c) 36 0
/-- the cells to which it is s steps at most -/
def wth (F : Fl) (K : Nat → Bool) (a : Option Nat) (s : Int) : Nat → Bool := if s < 0 then (fun _ => false) else lvl F K a (min s.toNat 36)
/-- when the level stays -/
def mst (F : Fl) (K : Nat → Bool) (a : Option Nat) : Nat := (fst (fun s => (List.range 36).all (fun i => lvl F K a (s + 1) i == lvl F K a s i)) 36 0).getD 35
/-! ===== the robot ===== -/
abbrev Sit : Type := (Nat → Bool) × Nat × Nat × Nat × Nat × Nat × (Nat → Nat) × Bool × (Nat → Nat → Bool)
def sShut (S : Sit) : Nat → Bool := S.1
def sBrim (S : Sit) : Nat := S.2.1
def sRate (S : Sit) : Nat := S.2.2.1
def sAt (S : Sit) : Nat := S.2.2.2.1
def sHd (S : Sit) : Nat := S.2.2.2.2.1
def sCh (S : Sit) : Nat := S.2.2.2.2.2.1
def sKn (S : Sit) : Nat → Nat := S.2.2.2.2.2.2.1
def sLost (S : Sit) : Bool := S.2.2.2.2.2.2.2.1
def sPl (S : Sit) : Nat → Nat → Bool := S.2.2.2.2.2.2.2.2
def kn1 (S : Sit) : Nat → Bool := fun i => sKn S i == 1
def kn2 (S : Sit) : Nat → Bool := fun i => sKn S i == 2
/-- the ground lies at cell 4, a situation's places right behind it -/
def gC (F : Fl) : zC := .inr (2, [.int (nI (fW F)), .int (nI (fH F)), .int (nI (fD F)), .long (mset (gAll F)), .long (mset (gK F 0)), .long (mset (gK F 2)), .long (mset (gK F 3)), .long (mset (gK F 4)), .long (mset (gLeft F)), .long (mset (gRight F))])
def sitC (k : Nat) (S : Sit) : zC := .inr (3, [.ref 4, .long (mset (sShut S)), .int (nI (sBrim S)), .int (nI (sRate S)), .int (nI (sAt S)), .int (nI (sHd S)), .int (nI (sCh S)), .long (mset (kn1 S)), .long (mset (kn2 S)), .int (if sLost S then 1 else 0), .ref (k + 1)])
def plC (S : Sit) : zC := .inl (1, 4, .inr (.inl (fun j => mset (fun c => sPl S c j))))
/-- a FREE cell -/
def fre (F : Fl) (S : Sit) : Nat → Bool := fun i => decide (i < fN F) && (fK F i == 0 || fK F i == 6 || fK F i == 4) && !sShut S i
def told (F : Fl) (S : Sit) : Option Nat → Nat
  | none => 1
  | some c => if fK F c = 3 then 2 else if fre F S c = true then 0 else 1
def outc (F : Fl) (S : Sit) : Option Nat → Nat
  | none => 1
  | some c => if fre F S c = true then 0 else if fK F c = 2 then 2 else if fK F c = 3 then 3 else 1
def canBe (F : Fl) (S : Sit) (t : Nat) : Option Nat → Bool
  | none => t == 1
  | some c => if t = 2 then fK F c == 3 else (!(fK F c == 3)) && (fK F c == 4 || !(sKn S c == (if t = 0 then 2 else 1)))
def keepP (F : Fl) (S : Sit) (t q : Nat) (pl : Nat → Nat → Bool) : Nat → Nat → Bool := fun c h => pl c h && (decide (c < fN F) && canBe F S t (nb F c ((h + q) % 4)))
def moveP (F : Fl) (pl : Nat → Nat → Bool) : Nat → Nat → Bool := fun c h => bes F h (fun b => pl b h) c
def many (pl : Nat → Nat → Bool) : Nat := cnt (fun c => pl c 0) 36 + cnt (fun c => pl c 1) 36 + cnt (fun c => pl c 2) 36 + cnt (fun c => pl c 3) 36
def setPl (S : Sit) (pl : Nat → Nat → Bool) : Sit := (sShut S, sBrim S, sRate S, sAt S, sHd S, sCh S, sKn S, sLost S, pl)
def setLost (S : Sit) (b : Bool) : Sit := (sShut S, sBrim S, sRate S, sAt S, sHd S, sCh S, sKn S, b, sPl S)
def setAt' (S : Sit) (c : Nat) : Sit := (sShut S, sBrim S, sRate S, c, sHd S, sCh S, sKn S, sLost S, sPl S)
def setHd (S : Sit) (c : Nat) : Sit := (sShut S, sBrim S, sRate S, sAt S, c, sCh S, sKn S, sLost S, sPl S)
def setCh (S : Sit) (c : Nat) : Sit := (sShut S, sBrim S, sRate S, sAt S, sHd S, c, sKn S, sLost S, sPl S)
def setKn (S : Sit) (f : Nat → Nat) : Sit := (sShut S, sBrim S, sRate S, sAt S, sHd S, sCh S, f, sLost S, sPl S)
def setShut (S : Sit) (f : Nat → Bool) : Sit := (f, sBrim S, sRate S, sAt S, sHd S, sCh S, sKn S, sLost S, sPl S)
def setPow (S : Sit) (b r : Nat) : Sit := (sShut S, b, r, sAt S, sHd S, sCh S, sKn S, sLost S, sPl S)
/-- FOUND, if there is just one place -/
def found (S : Sit) : Sit := if sLost S = true ∧ many (sPl S) = 1 then setLost S false else S
def lrn (S : Sit) (o : Option Nat) (out : Nat) : Sit := match o with
  | none => S
  | some c => if out = 0 then setKn S (fun i => if i = c then 1 else sKn S i) else if out = 3 then S else setKn S (fun i => if i = c then 2 else sKn S i)
def sortP (F : Fl) (S : Sit) (out : Nat) : Sit := found (setPl S (if out = 0 then moveP F (keepP F S 0 0 (sPl S)) else keepP F S (if out = 3 then 2 else 1) 0 (sPl S)))
/-- a STEP -/
def stepS (F : Fl) (S : Sit) (hand : Nat) : Sit :=
  let S1 := setCh (setHd S hand) (sCh S - 1)
  let o := nb F (sAt S) hand
  let out := outc F S o
  let S2 := if sLost S = true then sortP F S1 out else lrn S1 o out
  if out = 0 then setAt' S2 (o.getD 0) else S2
def stepO (F : Fl) (S : Sit) (hand : Nat) : Nat := outc F S (nb F (sAt S) hand)
def turnP (q : Nat) (pl : Nat → Nat → Bool) : Nat → Nat → Bool := fun c h => pl c ((h + 4 - q) % 4)
def turnS (S : Sit) (q : Nat) : Sit := if sLost S = true then found (setPl (setHd S ((sHd S + q) % 4)) (turnP q (sPl S))) else setHd S ((sHd S + q) % 4)
def scanT (F : Fl) (S : Sit) (q : Nat) : Nat := told F S (nb F (sAt S) ((sHd S + q) % 4))
def scanO (F : Fl) (S : Sit) : Nat := ((scanT F S 0 * 3 + scanT F S 1) * 3 + scanT F S 2) * 3 + scanT F S 3
def scanS (F : Fl) (S : Sit) : Sit := if sLost S = true then found (setPl S (keepP F S (scanT F S 3) 3 (keepP F S (scanT F S 2) 2 (keepP F S (scanT F S 1) 1 (keepP F S (scanT F S 0) 0 (sPl S)))))) else S
def carP (F : Fl) (S : Sit) : Nat → Nat → Bool := fun c _ => decide (c < fN F) && canBe F S 0 (some c)
def carS0 (F : Fl) (S : Sit) (c hd : Nat) : Sit := setPl (setLost (setHd (setAt' S c) hd) true) (carP F S)
def carS (F : Fl) (S : Sit) (c hd : Nat) : Sit := found (carS0 F S c hd)
end
section
section C20
variable {l : Launch} {g : zG} {d : Nat} {h : zH}
theorem c_F_only {a : Option Nat} (ha : oOK a) : Run l g mF_only d 0 0 [.int (oI a)] h (PL (mset (oneO a)) h) := by
  refine run_of (by decide) (Nat.le_of_ble_eq_true rfl) ?_
  cases a with
  | none =>
    refine zw_iload_n dF_only_0 rfl ?_
    refine zw_if_lt 16 dF_only_1 (by decide) (fun c_1 => ?_) (fun c_1 => ?_)
    · refine zw_lconst (v := 0) dF_only_16 (by decide) ?_
      exact zw_lret dF_only_17 rfl rfl ⟨by rw [oneO_none, ← m_0], rfl⟩
    · exact absurd (by decide) c_1
  | some c =>
    have hc := ha c rfl
    refine zw_iload_n dF_only_0 rfl ?_
    refine zw_if_lt 16 dF_only_1 (by decide) (fun c_1 => ?_) (fun c_1 => ?_)
    · exact absurd c_1 (nI_pos (by omega))
    · refine zw_iload_n dF_only_4 rfl ?_
      refine zw_bipush (v := 36) dF_only_5 (by decide) ?_
      refine zw_icmp_ge 16 dF_only_7 (by decide) (fun c_7 => ?_) (fun c_7 => ?_)
      · exact absurd ((nI_leI (a := 36) (b := c) (by omega) (by omega)).mp c_7) (by omega)
      · refine zw_lconst (v := 1) dF_only_10 (by decide) ?_
        refine zw_iload_n dF_only_11 rfl ?_
        refine zw_lshl dF_only_12 ?_
        refine zw_goto 17 dF_only_13 (by decide) ?_
        exact zw_lret dF_only_17 rfl rfl ⟨by rw [oneO_some, ← m_one c hc]; rfl, rfl⟩
theorem lgc_eq (x y : Int64) (h : lg_cmp x y = 0) : x = y := (lg_cmp_eq x y).mp h
theorem lgc_ne (x y : Int64) (h : ¬ lg_cmp x y = 0) : x ≠ y := fun e => h ((lg_cmp_eq x y).mpr e)
theorem m_holds {p : Nat → Bool} {c : Nat} (hc : c < 36) : mset p &&& mset (oneO (some c)) = 0 ↔ p c = false := by
  rw [m_and, m_eq0]
  constructor
  · intro h
    have := h c hc
    simpa [oneO] using this
  · intro h i hi
    by_cases e : i = c
    · subst e; simp [h]
    · have : (some c == some i) = false := by simpa using fun q => e q.symm
      simp [oneO, this]
def holdsB (p : Nat → Bool) : Option Nat → Bool
  | none => false
  | some c => p c
theorem c_F_holds {p : Nat → Bool} {a : Option Nat} (ha : oOK a) : Run l g mF_holds (d + 1) 0 0 [.long (mset p), .int (oI a)] h (PI (if holdsB p a = true then 1 else 0) h) := by
  refine run_of (by decide) (Nat.le_of_ble_eq_true rfl) ?_
  have key : mset p &&& mset (oneO a) = 0 ↔ holdsB p a = false := by
    cases a with
    | none => rw [oneO_none, m_and, m_eq0]; simp [holdsB]
    | some c => exact m_holds (ha c rfl)
  refine zw_lload_n dF_holds_0 rfl ?_
  refine zw_iload_n dF_holds_1 rfl ?_
  refine zc_S1L dF_holds_2 zm_F_only zk_F_111 (c_F_only (by assumption)) ?_ zRR (Nat.le_of_ble_eq_true rfl) ⟨Nat.le_of_ble_eq_true rfl, Nat.le_of_ble_eq_true rfl⟩
  refine zw_land dF_holds_5 ?_
  refine zw_lconst (v := 0) dF_holds_6 (by decide) ?_
  refine zw_lcmp dF_holds_7 ?_
  refine zw_if_eq 15 dF_holds_8 (by decide) (fun c_8 => ?_) (fun c_8 => ?_)
  · refine zw_iconst (v := 0) dF_holds_15 (by decide) ?_
    exact zw_iret dF_holds_16 rfl rfl rfl ⟨by rw [if_neg (by rw [key.mp (lgc_eq _ _ c_8)]; decide)], rfl⟩
  · refine zw_iconst (v := 1) dF_holds_11 (by decide) ?_
    refine zw_goto 16 dF_holds_12 (by decide) ?_
    exact zw_iret dF_holds_16 rfl rfl rfl ⟨by rw [if_pos (by cases hb : holdsB p a with | true => rfl | false => exact absurd (key.mpr hb) (lgc_ne _ _ c_8))], rfl⟩
theorem c_F_turned {a b : Nat} (ha : a < 4) (hb : b < 4) : Run l g mF_turned d 0 0 [.int (nI a), .int (nI b)] h (PI (nI ((a + b) % 4)) h) := by
  refine run_of (by decide) (Nat.le_of_ble_eq_true rfl) ?_
  refine zw_iload_n dF_turned_0 rfl ?_
  refine zw_iload_n dF_turned_1 rfl ?_
  refine zw_iadd dF_turned_2 ?_
  refine zw_iconst (v := 3) dF_turned_3 (by decide) ?_
  refine zw_iand dF_turned_4 ?_
  exact zw_iret dF_turned_5 rfl rfl rfl ⟨by rw [nI_add, show (3 : Int32) = nI 3 from rfl, pk_andN (by omega) 2 (by decide)], rfl⟩
/-- Long.bitCount, as it is computed -/
def bc1 (x : Int64) : Int64 := x - ((x.toUInt64 >>> ((1 : Int32).toInt64.toUInt64 &&& Int64.toUInt64 63)).toInt64 &&& 6148914691236517205)
def bc2 (x : Int64) : Int64 := (x &&& 3689348814741910323) + ((x.toUInt64 >>> ((2 : Int32).toInt64.toUInt64 &&& Int64.toUInt64 63)).toInt64 &&& 3689348814741910323)
def bc3 (x : Int64) : Int64 := (x + (x.toUInt64 >>> ((4 : Int32).toInt64.toUInt64 &&& Int64.toUInt64 63)).toInt64) &&& 1085102592571150095
def bc4 (x : Int64) : Int64 := x + (x.toUInt64 >>> ((8 : Int32).toInt64.toUInt64 &&& Int64.toUInt64 63)).toInt64
def bc5 (x : Int64) : Int64 := x + (x.toUInt64 >>> ((16 : Int32).toInt64.toUInt64 &&& Int64.toUInt64 63)).toInt64
def bc6 (x : Int64) : Int64 := x + (x.toUInt64 >>> ((32 : Int32).toInt64.toUInt64 &&& Int64.toUInt64 63)).toInt64
def bcI (x : Int64) : Int32 := (bc6 (bc5 (bc4 (bc3 (bc2 (bc1 x)))))).toInt32 &&& 127
theorem c_J_bitCountI {x : Int64} : Run l g mJ_bitCount d 0 0 [.long x] h (PI (bcI x) h) := by
  refine run_of (by decide) (Nat.le_of_ble_eq_true rfl) ?_
  refine zw_lload_n dJ_bitCount_0 rfl ?_
  refine zw_lload_n dJ_bitCount_1 rfl ?_
  refine zw_iconst (v := 1) dJ_bitCount_2 (by decide) ?_
  refine zw_lushr dJ_bitCount_3 ?_
  refine zw_ldc2 dJ_bitCount_4 zcl_J_314 ?_
  refine zw_land dJ_bitCount_7 ?_
  refine zw_lsub dJ_bitCount_8 ?_
  refine zw_lstore_n dJ_bitCount_9 (by decide) rfl ?_
  refine zw_lload_n dJ_bitCount_10 rfl ?_
  refine zw_ldc2 dJ_bitCount_11 zcl_J_316 ?_
  refine zw_land dJ_bitCount_14 ?_
  refine zw_lload_n dJ_bitCount_15 rfl ?_
  refine zw_iconst (v := 2) dJ_bitCount_16 (by decide) ?_
  refine zw_lushr dJ_bitCount_17 ?_
  refine zw_ldc2 dJ_bitCount_18 zcl_J_316 ?_
  refine zw_land dJ_bitCount_21 ?_
  refine zw_ladd dJ_bitCount_22 ?_
  refine zw_lstore_n dJ_bitCount_23 (by decide) rfl ?_
  refine zw_lload_n dJ_bitCount_24 rfl ?_
  refine zw_lload_n dJ_bitCount_25 rfl ?_
  refine zw_iconst (v := 4) dJ_bitCount_26 (by decide) ?_
  refine zw_lushr dJ_bitCount_27 ?_
  refine zw_ladd dJ_bitCount_28 ?_
  refine zw_ldc2 dJ_bitCount_29 zcl_J_318 ?_
  refine zw_land dJ_bitCount_32 ?_
  refine zw_lstore_n dJ_bitCount_33 (by decide) rfl ?_
  refine zw_lload_n dJ_bitCount_34 rfl ?_
  refine zw_lload_n dJ_bitCount_35 rfl ?_
  refine zw_bipush (v := 8) dJ_bitCount_36 (by decide) ?_
  refine zw_lushr dJ_bitCount_38 ?_
  refine zw_ladd dJ_bitCount_39 ?_
  refine zw_lstore_n dJ_bitCount_40 (by decide) rfl ?_
  refine zw_lload_n dJ_bitCount_41 rfl ?_
  refine zw_lload_n dJ_bitCount_42 rfl ?_
  refine zw_bipush (v := 16) dJ_bitCount_43 (by decide) ?_
  refine zw_lushr dJ_bitCount_45 ?_
  refine zw_ladd dJ_bitCount_46 ?_
  refine zw_lstore_n dJ_bitCount_47 (by decide) rfl ?_
  refine zw_lload_n dJ_bitCount_48 rfl ?_
  refine zw_lload_n dJ_bitCount_49 rfl ?_
  refine zw_bipush (v := 32) dJ_bitCount_50 (by decide) ?_
  refine zw_lushr dJ_bitCount_52 ?_
  refine zw_ladd dJ_bitCount_53 ?_
  refine zw_lstore_n dJ_bitCount_54 (by decide) rfl ?_
  refine zw_lload_n dJ_bitCount_55 rfl ?_
  refine zw_l2i dJ_bitCount_56 ?_
  refine zw_bipush (v := 127) dJ_bitCount_57 (by decide) ?_
  refine zw_iand dJ_bitCount_59 ?_
  exact zw_iret dJ_bitCount_60 rfl rfl rfl ⟨rfl, rfl⟩
end C20
end
section
section C21
variable {l : Launch} {g : zG} {d : Nat} {h : zH} {F : Fl}
theorem c_G_size (hF : fOK F) (hG : h[4]? = some (gC F)) : Run l g mG_size d 0 0 [.ref 4] h (PI (nI (fN F)) h) := by
  refine run_of (by decide) (Nat.le_of_ble_eq_true rfl) ?_
  refine zw_aload_n dG_size_0 rfl ?_
  refine zw_get dG_size_1 zf_G_15 hG rfl ?_
  refine zw_aload_n dG_size_4 rfl ?_
  refine zw_get dG_size_5 zf_G_21 hG rfl ?_
  refine zw_imul dG_size_8 ?_
  exact zw_iret dG_size_9 rfl rfl rfl ⟨by rw [pk_mul]; rfl, rfl⟩
/-- the cell that an int names -/
def cel (F : Fl) (x : Int32) : Option Nat := if 0 ≤ x.toInt ∧ x.toInt < fN F then some x.toInt.toNat else none
theorem cel_some {F : Fl} (hF : fOK F) {x : Int32} {c : Nat} : cel F x = some c ↔ c < fN F ∧ x = nI c := by
  have hn := fN_le hF
  unfold cel
  constructor
  · intro h
    split at h
    case isTrue hx =>
      cases h
      refine ⟨by omega, ?_⟩
      apply Int32.toInt_inj.mp
      rw [nI_toInt (by omega)]
      omega
    case isFalse => cases h
  · rintro ⟨h1, rfl⟩
    rw [nI_toInt (by omega), if_pos ⟨by omega, by omega⟩]
    simp
theorem cel_none {F : Fl} {x : Int32} : cel F x = none ↔ (x.toInt < 0 ∨ (fN F : Int) ≤ x.toInt) := by
  unfold cel
  constructor
  · intro h
    split at h
    case isTrue => cases h
    case isFalse hx => omega
  · intro h
    rw [if_neg (by omega)]
theorem i_lt0 (x : Int32) : x < 0 ↔ x.toInt < 0 := by rw [Int32.lt_iff_toInt_lt]; rfl
theorem i_le {c : Nat} (h : c < 2 ^ 31) (x : Int32) : nI c ≤ x ↔ (c : Int) ≤ x.toInt := by rw [Int32.le_iff_toInt_le, nI_toInt h]
theorem c_G_has (hF : fOK F) (hG : h[4]? = some (gC F)) {x : Int32} : Run l g mG_has (d + 1) 0 0 [.ref 4, .int x] h (PI (if (cel F x).isSome = true then 1 else 0) h) := by
  refine run_of (by decide) (Nat.le_of_ble_eq_true rfl) ?_
  have hn := fN_le hF
  refine zw_iload_n dG_has_0 rfl ?_
  refine zw_if_lt 16 dG_has_1 (by decide) (fun c_1 => ?_) (fun c_1 => ?_)
  · refine zw_iconst (v := 0) dG_has_16 (by decide) ?_
    exact zw_iret dG_has_17 rfl rfl rfl ⟨by rw [if_neg (by rw [cel_none.mpr (by first | exact Or.inl ((i_lt0 x).mp c_1) | exact Or.inr ((i_le (by omega) x).mp c_9))]; decide)], rfl⟩
  · refine zw_iload_n dG_has_4 rfl ?_
    refine zw_aload_n dG_has_5 rfl ?_
    refine zc_V0I dG_has_6 zm_G_size zk_G_26 hG rfl (c_G_size hF hG) ?_ zRR (Nat.le_of_ble_eq_true rfl) ⟨Nat.le_of_ble_eq_true rfl, Nat.le_of_ble_eq_true rfl⟩
    refine zw_icmp_ge 16 dG_has_9 (by decide) (fun c_9 => ?_) (fun c_9 => ?_)
    · refine zw_iconst (v := 0) dG_has_16 (by decide) ?_
      exact zw_iret dG_has_17 rfl rfl rfl ⟨by rw [if_neg (by rw [cel_none.mpr (by first | exact Or.inl ((i_lt0 x).mp c_1) | exact Or.inr ((i_le (by omega) x).mp c_9))]; decide)], rfl⟩
    · refine zw_iconst (v := 1) dG_has_12 (by decide) ?_
      refine zw_goto 17 dG_has_13 (by decide) ?_
      exact zw_iret dG_has_17 rfl rfl rfl ⟨by rw [if_pos (by cases hc : cel F x with | some c => rfl | none => exact absurd (cel_none.mp hc) (by rw [i_lt0] at c_1; rw [i_le (by omega)] at c_9; omega))], rfl⟩
theorem c_G_beside (hF : fOK F) (hG : h[4]? = some (gC F)) {p : Nat → Bool} (hp : sub F p) {hand : Nat} (hh : hand < 4) : Run l g mG_beside d 0 0 [.ref 4, .long (mset p), .int (nI hand)] h (PL (mset (bes F hand p)) h) := by
  refine run_of (by decide) (Nat.le_of_ble_eq_true rfl) ?_
  rcases (show hand = 0 ∨ hand = 1 ∨ hand = 2 ∨ hand = 3 by omega) with rfl | rfl | rfl | rfl
  · refine zw_iload_n dG_beside_0 rfl ?_
    refine zw_tabIn 28 dG_beside_1 (by decide) (by decide) rfl (by decide) ?_
    refine zw_lload_n dG_beside_28 rfl ?_
    refine zw_aload_n dG_beside_29 rfl ?_
    refine zw_get dG_beside_30 zf_G_15 hG rfl ?_
    refine zw_lushr dG_beside_33 ?_
    exact zw_lret dG_beside_34 rfl rfl ⟨by rw [← m_up hF hp], rfl⟩
  · refine zw_iload_n dG_beside_0 rfl ?_
    refine zw_tabIn 35 dG_beside_1 (by decide) (by decide) rfl (by decide) ?_
    refine zw_lload_n dG_beside_35 rfl ?_
    refine zw_aload_n dG_beside_36 rfl ?_
    refine zw_get dG_beside_37 zf_G_57 hG rfl ?_
    refine zw_ldc2 dG_beside_40 zcl_G_67 ?_
    refine zw_lxor dG_beside_43 ?_
    refine zw_land dG_beside_44 ?_
    refine zw_iconst (v := 1) dG_beside_45 (by decide) ?_
    refine zw_lshl dG_beside_46 ?_
    exact zw_lret dG_beside_47 rfl rfl ⟨by rw [← m_right hF hp], rfl⟩
  · refine zw_iload_n dG_beside_0 rfl ?_
    refine zw_tabIn 48 dG_beside_1 (by decide) (by decide) rfl (by decide) ?_
    refine zw_lload_n dG_beside_48 rfl ?_
    refine zw_aload_n dG_beside_49 rfl ?_
    refine zw_get dG_beside_50 zf_G_15 hG rfl ?_
    refine zw_lshl dG_beside_53 ?_
    refine zw_aload_n dG_beside_54 rfl ?_
    refine zw_get dG_beside_55 zf_G_30 hG rfl ?_
    refine zw_land dG_beside_58 ?_
    exact zw_lret dG_beside_59 rfl rfl ⟨by rw [← m_down hF], rfl⟩
  · refine zw_iload_n dG_beside_0 rfl ?_
    refine zw_tabOut 60 dG_beside_1 (by decide) (by decide) ?_
    refine zw_lload_n dG_beside_60 rfl ?_
    refine zw_aload_n dG_beside_61 rfl ?_
    refine zw_get dG_beside_62 zf_G_50 hG rfl ?_
    refine zw_ldc2 dG_beside_65 zcl_G_67 ?_
    refine zw_lxor dG_beside_68 ?_
    refine zw_land dG_beside_69 ?_
    refine zw_iconst (v := 1) dG_beside_70 (by decide) ?_
    refine zw_lushr dG_beside_71 ?_
    exact zw_lret dG_beside_72 rfl rfl ⟨by rw [← m_left hF hp], rfl⟩
theorem c_G_around (hF : fOK F) (hG : h[4]? = some (gC F)) {p : Nat → Bool} (hp : sub F p) : Run l g mG_around d 0 0 [.ref 4, .long (mset p)] h (PL (mset (arn F p)) h) := by
  refine run_of (by decide) (Nat.le_of_ble_eq_true rfl) ?_
  refine zw_lload_n dG_around_0 rfl ?_
  refine zw_aload_n dG_around_1 rfl ?_
  refine zw_get dG_around_2 zf_G_15 hG rfl ?_
  refine zw_lushr dG_around_5 ?_
  refine zw_lload_n dG_around_6 rfl ?_
  refine zw_aload_n dG_around_7 rfl ?_
  refine zw_get dG_around_8 zf_G_15 hG rfl ?_
  refine zw_lshl dG_around_11 ?_
  refine zw_aload_n dG_around_12 rfl ?_
  refine zw_get dG_around_13 zf_G_30 hG rfl ?_
  refine zw_land dG_around_16 ?_
  refine zw_lor dG_around_17 ?_
  refine zw_lload_n dG_around_18 rfl ?_
  refine zw_aload_n dG_around_19 rfl ?_
  refine zw_get dG_around_20 zf_G_57 hG rfl ?_
  refine zw_ldc2 dG_around_23 zcl_G_67 ?_
  refine zw_lxor dG_around_26 ?_
  refine zw_land dG_around_27 ?_
  refine zw_iconst (v := 1) dG_around_28 (by decide) ?_
  refine zw_lshl dG_around_29 ?_
  refine zw_lor dG_around_30 ?_
  refine zw_lload_n dG_around_31 rfl ?_
  refine zw_aload_n dG_around_32 rfl ?_
  refine zw_get dG_around_33 zf_G_50 hG rfl ?_
  refine zw_ldc2 dG_around_36 zcl_G_67 ?_
  refine zw_lxor dG_around_39 ?_
  refine zw_land dG_around_40 ?_
  refine zw_iconst (v := 1) dG_around_41 (by decide) ?_
  refine zw_lushr dG_around_42 ?_
  refine zw_lor dG_around_43 ?_
  exact zw_lret dG_around_44 rfl rfl ⟨by rw [← m_around hF hp], rfl⟩
theorem wth_neg {F : Fl} {K : Nat → Bool} {a : Option Nat} {s : Int} (h : s < 0) : wth F K a s = fun _ => false := by simp [wth, h]
theorem wth_at {F : Fl} {K : Nat → Bool} {a : Option Nat} {s : Int} (h : 0 ≤ s) : wth F K a s = lvl F K a (min s.toNat 36) := by
  unfold wth; rw [if_neg (by omega)]
theorem m_next {F : Fl} {K : Nat → Bool} {a : Option Nat} (i : Nat) : mset (lvl F K a i) ||| (mset (arn F (lvl F K a i)) &&& mset K) = mset (lvl F K a (i + 1)) := by rw [m_and, m_or]; rfl
theorem m_first {F : Fl} {K : Nat → Bool} {a : Option Nat} : mset (oneO a) &&& mset K = mset (lvl F K a 0) := by rw [m_and]; rfl
theorem c_G_within (hF : fOK F) (hG : h[4]? = some (gC F)) {K : Nat → Bool} (hK : sub F K) {a : Option Nat} (ha : oOK a) {s : Int32} : Run l g mG_within (d + 1) 0 0 [.ref 4, .int s, .int (oI a), .long (mset K)] h (PL (mset (wth F K a s.toInt)) h) := by
  refine run_of (by decide) (Nat.le_of_ble_eq_true rfl) ?_
  have L : 0 ≤ s.toInt → ∀ (m i : Nat), i + m = 36 → (i : Int) ≤ s.toInt → WW l g mG_within (zrm (d + 1) 0 0) (fun _ => True) (zQQ g (PL (mset (wth F K a s.toInt)) h) (h.length + 0) 0 0) 19 [(0, some (.ref 4)), (1, some (.int s)), (3, some (.long (mset K))), (5, some (.long (mset (lvl F K a i)))), (7, some (.int (nI i)))] [] h 0 0 := by
    intro hs m
    induction m with
    | zero =>
      intro i him his
      have hi : i = 36 := by omega
      subst hi
      refine zw_iload dG_within_19 rfl ?_
      refine zw_iload_n dG_within_21 rfl ?_
      refine zw_icmp_ge 66 dG_within_22 (by decide) (fun c_22 => ?_) (fun c_22 => ?_)
      · refine zw_lload dG_within_66 rfl ?_
        exact zw_lret dG_within_68 rfl rfl ⟨by rw [wth_at hs, show min s.toInt.toNat 36 = 36 by omega], rfl⟩
      · refine zw_iload dG_within_25 rfl ?_
        refine zw_bipush (v := 36) dG_within_27 (by decide) ?_
        refine zw_icmp_ge 66 dG_within_29 (by decide) (fun c_29 => ?_) (fun c_29 => ?_)
        · refine zw_lload dG_within_66 rfl ?_
          exact zw_lret dG_within_68 rfl rfl ⟨by rw [wth_at hs, show min s.toInt.toNat 36 = 36 by omega], rfl⟩
        · exact absurd (by decide) c_29
    | succ m ih =>
      intro i him his
      refine zw_iload dG_within_19 rfl ?_
      refine zw_iload_n dG_within_21 rfl ?_
      refine zw_icmp_ge 66 dG_within_22 (by decide) (fun c_22 => ?_) (fun c_22 => ?_)
      · refine zw_lload dG_within_66 rfl ?_
        exact zw_lret dG_within_68 rfl rfl ⟨by rw [wth_at hs, show min s.toInt.toNat 36 = i by have := (Int32.le_iff_toInt_le).mp c_22; rw [nI_toInt (by omega)] at this; omega], rfl⟩
      · refine zw_iload dG_within_25 rfl ?_
        refine zw_bipush (v := 36) dG_within_27 (by decide) ?_
        refine zw_icmp_ge 66 dG_within_29 (by decide) (fun c_29 => ?_) (fun c_29 => ?_)
        · exact absurd ((nI_leI (a := 36) (b := i) (by omega) (by omega)).mp c_29) (by omega)
        · refine zw_lload dG_within_32 rfl ?_
          refine zw_aload_n dG_within_34 rfl ?_
          refine zw_lload dG_within_35 rfl ?_
          refine zc_V1L dG_within_37 zm_G_around zk_G_77 hG rfl (c_G_around hF hG (lvl_sub hK i)) ?_ zRR (Nat.le_of_ble_eq_true rfl) ⟨Nat.le_of_ble_eq_true rfl, Nat.le_of_ble_eq_true rfl⟩
          refine zw_lload_n dG_within_40 rfl ?_
          refine zw_land dG_within_41 ?_
          refine zw_lor dG_within_42 ?_
          rw [m_next]
          refine zw_lstore dG_within_43 (by decide) rfl ?_
          refine zw_lload dG_within_45 rfl ?_
          refine zw_lload dG_within_47 rfl ?_
          refine zw_lcmp dG_within_49 ?_
          refine zw_if_ne 56 dG_within_50 (by decide) (fun c_50 => ?_) (fun c_50 => ?_)
          · refine zw_lload dG_within_56 rfl ?_
            refine zw_lstore dG_within_58 (by decide) rfl ?_
            refine zw_incN dG_within_60 rfl (by decide) rfl ?_
            refine zw_goto 19 dG_within_63 (by decide) ?_
            have c2 : (i : Int) < s.toInt := by
              rcases Int.lt_or_le (i : Int) s.toInt with q | q
              · exact q
              · exact absurd (Int32.le_iff_toInt_le.mpr (by rw [nI_toInt (by omega)]; exact q)) c_22
            exact zw_lk (ih (i + 1) (by omega) (by omega)) ⟨rfl, rfl, rfl, rfl, rfl, trivial⟩
          · refine zw_goto 66 dG_within_53 (by decide) ?_
            refine zw_lload dG_within_66 rfl ?_
            have e := lvl_eq hF hK (lgc_eq _ _ c_50)
            exact zw_lret dG_within_68 rfl rfl ⟨by rw [wth_at hs, show min s.toInt.toNat 36 = i + (min s.toInt.toNat 36 - i) by omega, lvl_stay e], rfl⟩
  refine zw_iload_n dG_within_0 rfl ?_
  refine zw_if_ge 8 dG_within_1 (by decide) (fun c_1 => ?_) (fun c_1 => ?_)
  · have hs : 0 ≤ s.toInt := by have := (Int32.le_iff_toInt_le).mp c_1; simpa using this
    refine zw_iload_n dG_within_8 rfl ?_
    refine zc_S1L dG_within_9 zm_F_only zk_G_53 (c_F_only (by assumption)) ?_ zRR (Nat.le_of_ble_eq_true rfl) ⟨Nat.le_of_ble_eq_true rfl, Nat.le_of_ble_eq_true rfl⟩
    refine zw_lload_n dG_within_12 rfl ?_
    refine zw_land dG_within_13 ?_
    rw [m_first (F := F)]
    refine zw_lstore dG_within_14 (by decide) rfl ?_
    refine zw_iconst (v := 0) dG_within_16 (by decide) ?_
    refine zw_istore dG_within_17 (by decide) rfl ?_
    exact zw_lk (L hs 36 0 rfl (by omega)) ⟨rfl, rfl, rfl, rfl, rfl, trivial⟩
  · have hs : s.toInt < 0 := by
      have : ¬ (0 ≤ s.toInt) := fun q => c_1 ((Int32.le_iff_toInt_le).mpr (by simpa using q))
      omega
    refine zw_lconst (v := 0) dG_within_4 (by decide) ?_
    refine zw_goto 14 dG_within_5 (by decide) ?_
    refine zw_lstore dG_within_14 (by decide) rfl ?_
    refine zw_iconst (v := 0) dG_within_16 (by decide) ?_
    refine zw_istore dG_within_17 (by decide) rfl ?_
    refine zw_iload dG_within_19 rfl ?_
    refine zw_iload_n dG_within_21 rfl ?_
    refine zw_icmp_ge 66 dG_within_22 (by decide) (fun c_22 => ?_) (fun c_22 => ?_)
    · refine zw_lload dG_within_66 rfl ?_
      exact zw_lret dG_within_68 rfl rfl ⟨by rw [wth_neg hs, ← m_0], rfl⟩
    · exact absurd (Int32.le_iff_toInt_le.mpr (by show s.toInt ≤ 0; omega)) c_22
theorem dst_hit {F : Fl} {K : Nat → Bool} {a : Option Nat} {c i : Nat} (hi : i < 36) (h : lvl F K a i c = true) (hb : ∀ j, j < i → lvl F K a j c = false) : dst F K a c = some i := fst_some.mpr ⟨by omega, by omega, h, fun j _ hj => hb j hj⟩
theorem dst_no {F : Fl} {K : Nat → Bool} {a : Option Nat} {c : Nat} (hb : ∀ j, j < 36 → lvl F K a j c = false) : dst F K a c = none := fst_none.mpr (fun j _ hj => hb j (by omega))
theorem c_G_stepsBetween (hF : fOK F) (hG : h[4]? = some (gC F)) {K : Nat → Bool} (hK : sub F K) {a : Option Nat} (ha : oOK a) {c : Nat} (hc : c < 36) : Run l g mG_stepsBetween (d + 1) 0 0 [.ref 4, .int (oI a), .int (oI (some c)), .long (mset K)] h (PI (dI (dst F K a c)) h) := by
  refine run_of (by decide) (Nat.le_of_ble_eq_true rfl) ?_
  have hc2 : oOK (some c) := oOK_some hc
  have L : ∀ (m i : Nat), i + m = 36 → (∀ j, j < i → lvl F K a j c = false) → WW l g mG_stepsBetween (zrm (d + 1) 0 0) (fun _ => True) (zQQ g (PI (dI (dst F K a c)) h) (h.length + 0) 0 0) 17 [(0, some (.ref 4)), (3, some (.long (mset K))), (5, some (.long (mset (oneO (some c))))), (7, some (.long (mset (lvl F K a i)))), (9, some (.int (nI i)))] [] h 0 0 := by
    intro m
    induction m with
    | zero =>
      intro i him hb
      have hi : i = 36 := by omega
      subst hi
      refine zw_iload dG_stepsBetween_17 rfl ?_
      refine zw_bipush (v := 36) dG_stepsBetween_19 (by decide) ?_
      refine zw_icmp_ge 71 dG_stepsBetween_21 (by decide) (fun c_21 => ?_) (fun c_21 => ?_)
      · refine zw_bipush (v := (-9)) dG_stepsBetween_71 (by decide) ?_
        exact zw_iret dG_stepsBetween_73 rfl rfl rfl ⟨by rw [dst_no hb]; rfl, rfl⟩
      · exact absurd (by decide) c_21
    | succ m ih =>
      intro i him hb
      refine zw_iload dG_stepsBetween_17 rfl ?_
      refine zw_bipush (v := 36) dG_stepsBetween_19 (by decide) ?_
      refine zw_icmp_ge 71 dG_stepsBetween_21 (by decide) (fun c_21 => ?_) (fun c_21 => ?_)
      · exact absurd ((nI_leI (a := 36) (b := i) (by omega) (by omega)).mp c_21) (by omega)
      · refine zw_lload dG_stepsBetween_24 rfl ?_
        refine zw_lload dG_stepsBetween_26 rfl ?_
        refine zw_land dG_stepsBetween_28 ?_
        refine zw_lconst (v := 0) dG_stepsBetween_29 (by decide) ?_
        refine zw_lcmp dG_stepsBetween_30 ?_
        refine zw_if_eq 37 dG_stepsBetween_31 (by decide) (fun c_31 => ?_) (fun c_31 => ?_)
        · have hf : lvl F K a i c = false := (m_holds hc).mp (lgc_eq _ _ c_31)
          have hb2 : ∀ j, j < i + 1 → lvl F K a j c = false := fun j hj => by
            rcases Nat.lt_or_ge j i with q | q
            · exact hb j q
            · have : j = i := by omega
              subst this; exact hf
          refine zw_lload dG_stepsBetween_37 rfl ?_
          refine zw_aload_n dG_stepsBetween_39 rfl ?_
          refine zw_lload dG_stepsBetween_40 rfl ?_
          refine zc_V1L dG_stepsBetween_42 zm_G_around zk_G_77 hG rfl (c_G_around hF hG (lvl_sub hK i)) ?_ zRR (Nat.le_of_ble_eq_true rfl) ⟨Nat.le_of_ble_eq_true rfl, Nat.le_of_ble_eq_true rfl⟩
          refine zw_lload_n dG_stepsBetween_45 rfl ?_
          refine zw_land dG_stepsBetween_46 ?_
          refine zw_lor dG_stepsBetween_47 ?_
          rw [m_next]
          refine zw_lstore dG_stepsBetween_48 (by decide) rfl ?_
          refine zw_lload dG_stepsBetween_50 rfl ?_
          refine zw_lload dG_stepsBetween_52 rfl ?_
          refine zw_lcmp dG_stepsBetween_54 ?_
          refine zw_if_ne 61 dG_stepsBetween_55 (by decide) (fun c_55 => ?_) (fun c_55 => ?_)
          · refine zw_lload dG_stepsBetween_61 rfl ?_
            refine zw_lstore dG_stepsBetween_63 (by decide) rfl ?_
            refine zw_incN dG_stepsBetween_65 rfl (by decide) rfl ?_
            refine zw_goto 17 dG_stepsBetween_68 (by decide) ?_
            exact zw_lk (ih (i + 1) (by omega) hb2) ⟨rfl, rfl, rfl, rfl, rfl, trivial⟩
          · refine zw_bipush (v := (-9)) dG_stepsBetween_58 (by decide) ?_
            have e := lvl_eq hF hK (lgc_eq _ _ c_55)
            have hno : ∀ j, j < 36 → lvl F K a j c = false := fun j hj => by
              rcases Nat.lt_or_ge j (i + 1) with q | q
              · exact hb2 j q
              · rw [show j = i + (j - i) by omega, lvl_stay e]; exact hf
            exact zw_iret dG_stepsBetween_60 rfl rfl rfl ⟨by rw [dst_no hno]; rfl, rfl⟩
        · refine zw_iload dG_stepsBetween_34 rfl ?_
          exact zw_iret dG_stepsBetween_36 rfl rfl rfl ⟨by rw [dst_hit (by omega) (by cases hq : lvl F K a i c with | true => rfl | false => exact absurd ((m_holds hc).mpr hq) (lgc_ne _ _ c_31)) hb]; rfl, rfl⟩
  refine zw_iload_n dG_stepsBetween_0 rfl ?_
  refine zc_S1L dG_stepsBetween_1 zm_F_only zk_G_53 (c_F_only hc2) ?_ zRR (Nat.le_of_ble_eq_true rfl) ⟨Nat.le_of_ble_eq_true rfl, Nat.le_of_ble_eq_true rfl⟩
  refine zw_lstore dG_stepsBetween_4 (by decide) rfl ?_
  refine zw_iload_n dG_stepsBetween_6 rfl ?_
  refine zc_S1L dG_stepsBetween_7 zm_F_only zk_G_53 (c_F_only (by assumption)) ?_ zRR (Nat.le_of_ble_eq_true rfl) ⟨Nat.le_of_ble_eq_true rfl, Nat.le_of_ble_eq_true rfl⟩
  refine zw_lload_n dG_stepsBetween_10 rfl ?_
  refine zw_land dG_stepsBetween_11 ?_
  rw [m_first (F := F)]
  refine zw_lstore dG_stepsBetween_12 (by decide) rfl ?_
  refine zw_iconst (v := 0) dG_stepsBetween_14 (by decide) ?_
  refine zw_istore dG_stepsBetween_15 (by decide) rfl ?_
  exact zw_lk (L 36 0 rfl (fun j hj => absurd hj (Nat.not_lt_zero _))) ⟨rfl, rfl, rfl, rfl, rfl, trivial⟩
theorem stay_iff {F : Fl} {K : Nat → Bool} {a : Option Nat} {s : Nat} : ((List.range 36).all (fun i => lvl F K a (s + 1) i == lvl F K a s i)) = true ↔ mset (lvl F K a (s + 1)) = mset (lvl F K a s) := by
  rw [m_eq, List.all_eq_true]
  constructor
  · intro h i hi
    simpa using h i (List.mem_range.mpr hi)
  · intro h i hi
    simpa using h i (List.mem_range.mp hi)
theorem c_G_mostSteps (hF : fOK F) (hG : h[4]? = some (gC F)) {K : Nat → Bool} (hK : sub F K) {a : Option Nat} (ha : oOK a) : Run l g mG_mostSteps (d + 1) 0 0 [.ref 4, .int (oI a), .long (mset K)] h (PI (nI (mst F K a)) h) := by
  refine run_of (by decide) (Nat.le_of_ble_eq_true rfl) ?_
  have L : ∀ (m i : Nat), i + m = 36 → (fst (fun s => (List.range 36).all (fun i => lvl F K a (s + 1) i == lvl F K a s i)) m i).getD 35 = mst F K a → WW l g mG_mostSteps (zrm (d + 1) 0 0) (fun _ => True) (zQQ g (PI (nI (mst F K a)) h) (h.length + 0) 0 0) 11 [(0, some (.ref 4)), (2, some (.long (mset K))), (4, some (.long (mset (lvl F K a i)))), (6, some (.int (nI i)))] [] h 0 0 := by
    intro m
    induction m with
    | zero =>
      intro i him hb
      have hi : i = 36 := by omega
      subst hi
      refine zw_iload dG_mostSteps_11 rfl ?_
      refine zw_bipush (v := 36) dG_mostSteps_13 (by decide) ?_
      refine zw_icmp_ge 52 dG_mostSteps_15 (by decide) (fun c_15 => ?_) (fun c_15 => ?_)
      · refine zw_bipush (v := 35) dG_mostSteps_52 (by decide) ?_
        exact zw_iret dG_mostSteps_54 rfl rfl rfl ⟨by rw [← hb]; rfl, rfl⟩
      · exact absurd (by decide) c_15
    | succ m ih =>
      intro i him hb
      refine zw_iload dG_mostSteps_11 rfl ?_
      refine zw_bipush (v := 36) dG_mostSteps_13 (by decide) ?_
      refine zw_icmp_ge 52 dG_mostSteps_15 (by decide) (fun c_15 => ?_) (fun c_15 => ?_)
      · exact absurd ((nI_leI (a := 36) (b := i) (by omega) (by omega)).mp c_15) (by omega)
      · refine zw_lload dG_mostSteps_18 rfl ?_
        refine zw_aload_n dG_mostSteps_20 rfl ?_
        refine zw_lload dG_mostSteps_21 rfl ?_
        refine zc_V1L dG_mostSteps_23 zm_G_around zk_G_77 hG rfl (c_G_around hF hG (lvl_sub hK i)) ?_ zRR (Nat.le_of_ble_eq_true rfl) ⟨Nat.le_of_ble_eq_true rfl, Nat.le_of_ble_eq_true rfl⟩
        refine zw_lload_n dG_mostSteps_26 rfl ?_
        refine zw_land dG_mostSteps_27 ?_
        refine zw_lor dG_mostSteps_28 ?_
        rw [m_next]
        refine zw_lstore dG_mostSteps_29 (by decide) rfl ?_
        refine zw_lload dG_mostSteps_31 rfl ?_
        refine zw_lload dG_mostSteps_33 rfl ?_
        refine zw_lcmp dG_mostSteps_35 ?_
        refine zw_if_ne 42 dG_mostSteps_36 (by decide) (fun c_36 => ?_) (fun c_36 => ?_)
        · refine zw_lload dG_mostSteps_42 rfl ?_
          refine zw_lstore dG_mostSteps_44 (by decide) rfl ?_
          refine zw_incN dG_mostSteps_46 rfl (by decide) rfl ?_
          refine zw_goto 11 dG_mostSteps_49 (by decide) ?_
          have hq : ((List.range 36).all (fun j => lvl F K a (i + 1) j == lvl F K a i j)) = false := by
            cases hq : ((List.range 36).all (fun j => lvl F K a (i + 1) j == lvl F K a i j)) with
            | false => rfl
            | true => exact absurd (stay_iff.mp hq) (lgc_ne _ _ c_36)
          exact zw_lk (ih (i + 1) (by omega) (by rw [← hb, fst_f hq])) ⟨rfl, rfl, rfl, rfl, trivial⟩
        · refine zw_iload dG_mostSteps_39 rfl ?_
          exact zw_iret dG_mostSteps_41 rfl rfl rfl ⟨by rw [← hb, fst_t (stay_iff.mpr (lgc_eq _ _ c_36))]; rfl, rfl⟩
  refine zw_iload_n dG_mostSteps_0 rfl ?_
  refine zc_S1L dG_mostSteps_1 zm_F_only zk_G_53 (c_F_only (by assumption)) ?_ zRR (Nat.le_of_ble_eq_true rfl) ⟨Nat.le_of_ble_eq_true rfl, Nat.le_of_ble_eq_true rfl⟩
  refine zw_lload_n dG_mostSteps_4 rfl ?_
  refine zw_land dG_mostSteps_5 ?_
  rw [m_first (F := F)]
  refine zw_lstore dG_mostSteps_6 (by decide) rfl ?_
  refine zw_iconst (v := 0) dG_mostSteps_8 (by decide) ?_
  refine zw_istore dG_mostSteps_9 (by decide) rfl ?_
  exact zw_lk (L 36 0 rfl rfl) ⟨rfl, rfl, rfl, rfl, trivial⟩
end C21
end
section
/-! ===== counting the bits of a long ===== -/
def ds (w : Nat) (f : Nat → Nat) : Nat → Nat
  | 0 => 0
  | n + 1 => ds w f n + f n * 2 ^ (w * n)
theorem ds_lt {w : Nat} {f : Nat → Nat} : ∀ {n : Nat}, (∀ j, j < n → f j < 2 ^ w) → ds w f n < 2 ^ (w * n) := by
  intro n
  induction n with
  | zero => intro _; simp [ds]
  | succ n ih =>
    intro h
    have h1 := ih (fun j hj => h j (by omega))
    have h2 : f n + 1 ≤ 2 ^ w := h n (by omega)
    have h3 := Nat.mul_le_mul_right (2 ^ (w * n)) h2
    have e : 2 ^ (w * (n + 1)) = 2 ^ w * 2 ^ (w * n) := by rw [Nat.mul_succ, Nat.add_comm, Nat.pow_add]
    rw [e]
    simp only [ds]
    rw [Nat.add_mul, Nat.one_mul] at h3
    omega
theorem ds_bit {w : Nat} (hw : 0 < w) {f : Nat → Nat} : ∀ {n : Nat}, (∀ j, j < n → f j < 2 ^ w) → ∀ i, (ds w f n).testBit i = (decide (i < w * n) && (f (i / w)).testBit (i % w)) := by
  intro n
  induction n with
  | zero => intro _ i; simp [ds]
  | succ n ih =>
    intro h i
    have h0 : ∀ j, j < n → f j < 2 ^ w := fun j hj => h j (by omega)
    have e : ds w f (n + 1) = 2 ^ (w * n) * f n + ds w f n := by simp only [ds]; rw [Nat.mul_comm (f n), Nat.add_comm]
    rw [e, Nat.testBit_two_pow_mul_add _ (ds_lt h0)]
    by_cases hi : i < w * n
    · rw [if_pos hi, ih h0]
      have : i < w * (n + 1) := by rw [Nat.mul_succ]; omega
      simp [hi, this]
    · rw [if_neg hi]
      by_cases hi2 : i < w * (n + 1)
      · have hd : i / w = n := by
          apply Nat.div_eq_of_lt_le
          · rw [Nat.mul_comm]; omega
          · rw [Nat.mul_comm]; exact hi2
        have hm : i % w = i - w * n := by
          have := Nat.div_add_mod i w
          rw [hd] at this
          omega
        simp [hi2, hd, hm]
      · have : (f n).testBit (i - w * n) = false := by
          apply Nat.testBit_lt_two_pow
          have h1 := h n (by omega)
          have h2 : w ≤ i - w * n := by rw [Nat.mul_succ] at hi2; omega
          exact Nat.lt_of_lt_of_le h1 (Nat.pow_le_pow_right (by decide) h2)
        simp [hi2, this]
theorem ds_congr {w : Nat} {f g : Nat → Nat} : ∀ {n : Nat}, (∀ j, j < n → f j = g j) → ds w f n = ds w g n := by
  intro n
  induction n with
  | zero => intro _; rfl
  | succ n ih => intro h; simp only [ds]; rw [ih (fun j hj => h j (by omega)), h n (by omega)]
theorem ds_add (w : Nat) (f g : Nat → Nat) : ∀ n, ds w f n + ds w g n = ds w (fun j => f j + g j) n := by
  intro n
  induction n with
  | zero => rfl
  | succ n ih => simp only [ds]; rw [← ih, Nat.add_mul]; omega
theorem ds_half {k : Nat} (hk : 0 < k) {f : Nat → Nat} {n : Nat} (h : ∀ j, j < n → f j < 2 ^ (2 * k)) : (ds (2 * k) f n >>> k) &&& ds (2 * k) (fun _ => 2 ^ k - 1) n = ds (2 * k) (fun j => f j / 2 ^ k) n := by
  have hp : 2 ^ k ≤ 2 ^ (2 * k) := Nat.pow_le_pow_right (by decide) (by omega)
  have hp0 : 0 < 2 ^ k := Nat.two_pow_pos k
  apply Nat.eq_of_testBit_eq
  intro i
  rw [Nat.testBit_and, Nat.testBit_shiftRight, ds_bit (by omega) h, ds_bit (by omega) (fun _ _ => by omega), ds_bit (by omega) (fun j hj => Nat.lt_of_le_of_lt (Nat.div_le_self _ _) (h j hj)), Nat.testBit_two_pow_sub_one, Nat.testBit_div_two_pow]
  by_cases hi : i < 2 * k * n
  · by_cases hm : i % (2 * k) < k
    · have hdm := Nat.div_add_mod i (2 * k)
      have e1 : (k + i) / (2 * k) = i / (2 * k) := by
        apply Nat.div_eq_of_lt_le
        · rw [Nat.mul_comm]; omega
        · rw [Nat.add_mul, Nat.one_mul, Nat.mul_comm]; omega
      have e2 : (k + i) % (2 * k) = i % (2 * k) + k := by
        have := Nat.div_add_mod (k + i) (2 * k)
        rw [e1] at this
        omega
      have hi2 : k + i < 2 * k * n := by
        have h1 : i / (2 * k) < n := Nat.div_lt_of_lt_mul hi
        have h2 : 2 * k * (i / (2 * k)) + 2 * k ≤ 2 * k * n := by rw [← Nat.mul_succ]; exact Nat.mul_le_mul_left _ h1
        omega
      simp [hi, hm, hi2, e1, e2]
    · have : (f (i / (2 * k))).testBit (i % (2 * k) + k) = false := by
        apply Nat.testBit_lt_two_pow
        exact Nat.lt_of_lt_of_le (h _ (Nat.div_lt_of_lt_mul hi)) (Nat.pow_le_pow_right (by decide) (by omega))
      simp [hm, this]
  · simp [hi]
theorem ds_low {k : Nat} (hk : 0 < k) {f : Nat → Nat} {n : Nat} (h : ∀ j, j < n → f j < 2 ^ (2 * k)) : ds (2 * k) f n &&& ds (2 * k) (fun _ => 2 ^ k - 1) n = ds (2 * k) (fun j => f j % 2 ^ k) n := by
  have hp : 2 ^ k ≤ 2 ^ (2 * k) := Nat.pow_le_pow_right (by decide) (by omega)
  have hp0 : 0 < 2 ^ k := Nat.two_pow_pos k
  apply Nat.eq_of_testBit_eq
  intro i
  rw [Nat.testBit_and, ds_bit (by omega) h, ds_bit (by omega) (fun _ _ => by omega), ds_bit (by omega) (fun j hj => Nat.lt_of_le_of_lt (Nat.mod_le _ _) (h j hj)), Nat.testBit_two_pow_sub_one, Nat.testBit_mod_two_pow]
  by_cases hi : i < 2 * k * n
  · simp [hi, Bool.and_comm]
  · simp [hi]
theorem ds_shift {w : Nat} (hw : 0 < w) {f : Nat → Nat} {n : Nat} (t : Nat) (h : ∀ j, j < n → f j < 2 ^ w) : ds w f n >>> (w * t) = ds w (fun j => if j + t < n then f (j + t) else 0) n := by
  apply Nat.eq_of_testBit_eq
  intro i
  rw [Nat.testBit_shiftRight, ds_bit hw h, ds_bit hw (fun j _ => by split; (rename_i q; exact h _ q); exact Nat.two_pow_pos w)]
  have e1 : (w * t + i) / w = i / w + t := by rw [Nat.add_comm, Nat.add_mul_div_left _ _ hw]
  have e2 : (w * t + i) % w = i % w := by rw [Nat.add_comm, Nat.add_mul_mod_self_left]
  rw [e1, e2]
  by_cases hi : i / w + t < n
  · have h1 : w * t + i < w * n := by
      have hdm := Nat.div_add_mod i w
      have hml := Nat.mod_lt i hw
      have h2 : w * (i / w + t) + w ≤ w * n := by rw [← Nat.mul_succ]; exact Nat.mul_le_mul_left _ hi
      rw [Nat.mul_add] at h2
      omega
    have h2 : i < w * n := by omega
    simp [h1, h2, hi]
  · have h1 : ¬ (w * t + i < w * n) := by
      intro q
      have hdm := Nat.div_add_mod i w
      have h2 : w * n ≤ w * (i / w + t) := Nat.mul_le_mul_left _ (by omega)
      rw [Nat.mul_add] at h2
      omega
    simp [h1, hi]
theorem ds_pair (w : Nat) (f : Nat → Nat) : ∀ n, ds w f (2 * n) = ds (2 * w) (fun j => f (2 * j) + f (2 * j + 1) * 2 ^ w) n := by
  intro n
  induction n with
  | zero => rfl
  | succ n ih =>
    rw [show 2 * (n + 1) = 2 * n + 1 + 1 by omega]
    simp only [ds]
    rw [ih, Nat.add_mul, Nat.mul_assoc (f (2 * n + 1)) (2 ^ w), ← Nat.pow_add]
    have e1 : w * (2 * n) = 2 * w * n := by rw [← Nat.mul_assoc, Nat.mul_comm w 2]
    have e2 : w * (2 * n + 1) = w + 2 * w * n := by rw [Nat.mul_add, e1]; omega
    rw [e1, e2]
    omega
theorem ds_bits {N n : Nat} (h : N < 2 ^ n) : N = ds 1 (fun j => if N.testBit j = true then 1 else 0) n := by
  apply Nat.eq_of_testBit_eq
  intro i
  rw [ds_bit (by decide) (fun j _ => by split <;> decide)]
  by_cases hi : i < n
  · simp only [Nat.one_mul, hi, decide_true, Nat.div_one, Nat.mod_one, Bool.true_and]
    cases hq : N.testBit i <;> simp
  · have : N.testBit i = false := Nat.testBit_lt_two_pow (Nat.lt_of_lt_of_le h (Nat.pow_le_pow_right (by decide) (by omega)))
    simp [hi, this]
/-- a long as a number -/
def uN (x : Int64) : Nat := x.toBitVec.toNat
theorem uN_bit (x : Int64) (i : Nat) : (uN x).testBit i = bs x i := rfl
theorem uN_lt (x : Int64) : uN x < 2 ^ 64 := x.toBitVec.isLt
theorem uN_shr (x : Int64) {k : Nat} (hk : k < 64) : uN (x.toUInt64 >>> ((nI k).toInt64.toUInt64 &&& Int64.toUInt64 63)).toInt64 = uN x >>> k := by
  apply Nat.eq_of_testBit_eq
  intro i
  rw [uN_bit, bs_shr x hk, Nat.testBit_shiftRight, uN_bit, Nat.add_comm]
theorem uN_and (x y : Int64) : uN (x &&& y) = uN x &&& uN y := by
  apply Nat.eq_of_testBit_eq
  intro i
  rw [uN_bit, bs_and, Nat.testBit_and, uN_bit, uN_bit]
theorem uN_add {x y : Int64} (h : uN x + uN y < 2 ^ 64) : uN (x + y) = uN x + uN y := by
  show (x.toBitVec + y.toBitVec).toNat = _
  rw [BitVec.toNat_add]
  exact Nat.mod_eq_of_lt h
theorem uN_sub {x y : Int64} (h : uN y ≤ uN x) : uN (x - y) = uN x - uN y := by
  show (x.toBitVec - y.toBitVec).toNat = _
  rw [BitVec.toNat_sub]
  have h1 := x.toBitVec.isLt
  have h2 : y.toBitVec.toNat ≤ x.toBitVec.toNat := h
  show (2 ^ 64 - y.toBitVec.toNat + x.toBitVec.toNat) % 2 ^ 64 = x.toBitVec.toNat - y.toBitVec.toNat
  omega
theorem bc_all (x : Int64) : bcI x = nI (cnt (bs x) 64) := by
  generalize hb : (fun j => if bs x j = true then 1 else 0 : Nat → Nat) = b
  have b1 : ∀ j, b j ≤ 1 := by intro j; rw [← hb]; simp only; split <;> decide
  have x0 : uN x = ds 1 b 64 := by rw [← hb]; exact ds_bits (uN_lt x)
  -- two bits
  have x1 : uN x = ds 2 (fun j => b (2 * j) + b (2 * j + 1) * 2 ^ 1) 32 := by rw [x0]; exact ds_pair 1 b 32
  have y1 : uN (bc1 x) = ds 2 (fun j => b (2 * j) + b (2 * j + 1)) 32 := by
    have hm : uN 6148914691236517205 = ds (2 * 1) (fun _ => 2 ^ 1 - 1) 32 := by decide +kernel
    have e : uN ((x.toUInt64 >>> ((1 : Int32).toInt64.toUInt64 &&& Int64.toUInt64 63)).toInt64 &&& 6148914691236517205) = ds 2 (fun j => b (2 * j + 1)) 32 := by
      rw [uN_and, show (1 : Int32) = nI 1 from rfl, uN_shr x (by decide), hm, x1]
      rw [show (2 : Nat) = 2 * 1 from rfl, ds_half (by decide) (fun j _ => by have := b1 (2 * 1 * j); have := b1 (2 * 1 * j + 1); omega)]
      exact ds_congr (fun j _ => by have := b1 (2 * 1 * j); have := b1 (2 * 1 * j + 1); show (b (2 * 1 * j) + b (2 * 1 * j + 1) * 2 ^ 1) / 2 ^ 1 = b (2 * j + 1); simp only [Nat.mul_one] at *; omega)
    have e2 : uN x = ds 2 (fun j => b (2 * j) + b (2 * j + 1)) 32 + ds 2 (fun j => b (2 * j + 1)) 32 := by
      rw [ds_add, x1]
      exact ds_congr (fun j _ => by omega)
    unfold bc1
    rw [uN_sub (by rw [e, e2]; exact Nat.le_add_left _ _), e, e2, Nat.add_sub_cancel]
  generalize hc : (fun j => b (2 * j) + b (2 * j + 1)) = c at y1
  have c1 : ∀ j, c j ≤ 2 := by intro j; rw [← hc]; have := b1 (2 * j); have := b1 (2 * j + 1); show b (2 * j) + b (2 * j + 1) ≤ 2; omega
  have x2 : uN (bc1 x) = ds 4 (fun j => c (2 * j) + c (2 * j + 1) * 2 ^ 2) 16 := by rw [y1]; exact ds_pair 2 c 16
  have y2 : uN (bc2 (bc1 x)) = ds 4 (fun j => c (2 * j) + c (2 * j + 1)) 16 := by
    have hm : uN 3689348814741910323 = ds (2 * 2) (fun _ => 2 ^ 2 - 1) 16 := by decide +kernel
    have e1 : uN (bc1 x &&& 3689348814741910323) = ds 4 (fun j => c (2 * j)) 16 := by
      rw [uN_and, hm, x2]
      rw [show (4 : Nat) = 2 * 2 from rfl, ds_low (by decide) (fun j _ => by have := c1 (2 * j); have := c1 (2 * j + 1); omega)]
      exact ds_congr (fun j _ => by have := c1 (2 * j); have := c1 (2 * j + 1); show (c (2 * j) + c (2 * j + 1) * 2 ^ 2) % 2 ^ 2 = c (2 * j); omega)
    have e2 : uN (((bc1 x).toUInt64 >>> ((2 : Int32).toInt64.toUInt64 &&& Int64.toUInt64 63)).toInt64 &&& 3689348814741910323) = ds 4 (fun j => c (2 * j + 1)) 16 := by
      rw [uN_and, show (2 : Int32) = nI 2 from rfl, uN_shr _ (by decide), hm, x2]
      rw [show (4 : Nat) = 2 * 2 from rfl, ds_half (by decide) (fun j _ => by have := c1 (2 * j); have := c1 (2 * j + 1); omega)]
      exact ds_congr (fun j _ => by have := c1 (2 * j); have := c1 (2 * j + 1); show (c (2 * j) + c (2 * j + 1) * 2 ^ 2) / 2 ^ 2 = c (2 * j + 1); omega)
    have hl : ds 4 (fun j => c (2 * j) + c (2 * j + 1)) 16 < 2 ^ 64 := ds_lt (w := 4) (n := 16) (fun j _ => by have := c1 (2 * j); have := c1 (2 * j + 1); show c (2 * j) + c (2 * j + 1) < 2 ^ 4; omega)
    unfold bc2
    rw [uN_add (by rw [e1, e2, ds_add]; exact hl), e1, e2, ds_add]
  generalize hd : (fun j => c (2 * j) + c (2 * j + 1)) = e at y2
  have e1 : ∀ j, e j ≤ 4 := by intro j; rw [← hd]; have := c1 (2 * j); have := c1 (2 * j + 1); show c (2 * j) + c (2 * j + 1) ≤ 4; omega
  have y3 : uN (bc3 (bc2 (bc1 x))) = ds 8 (fun j => e (2 * j) + e (2 * j + 1)) 8 := by
    have hm : uN 1085102592571150095 = ds (2 * 4) (fun _ => 2 ^ 4 - 1) 8 := by decide +kernel
    have hs : uN ((bc2 (bc1 x)).toUInt64 >>> ((4 : Int32).toInt64.toUInt64 &&& Int64.toUInt64 63)).toInt64 = ds 4 (fun j => if j + 1 < 16 then e (j + 1) else 0) 16 := by
      rw [show (4 : Int32) = nI 4 from rfl, uN_shr _ (by decide), y2]
      exact ds_shift (w := 4) (by decide) 1 (fun j _ => by have := e1 j; omega)
    have hsum : uN (bc2 (bc1 x) + ((bc2 (bc1 x)).toUInt64 >>> ((4 : Int32).toInt64.toUInt64 &&& Int64.toUInt64 63)).toInt64) = ds 4 (fun j => e j + (if j + 1 < 16 then e (j + 1) else 0)) 16 := by
      have hl : ds 4 (fun j => e j + (if j + 1 < 16 then e (j + 1) else 0)) 16 < 2 ^ 64 := ds_lt (w := 4) (n := 16) (fun j _ => by have := e1 j; have := e1 (j + 1); show e j + (if j + 1 < 16 then e (j + 1) else 0) < 2 ^ 4; split <;> omega)
      rw [uN_add (by rw [y2, hs, ds_add]; exact hl), y2, hs, ds_add]
    unfold bc3
    rw [uN_and, hsum, hm]
    generalize hq : (fun j => e j + (if j + 1 < 16 then e (j + 1) else 0)) = q
    have q1 : ∀ j, q j ≤ 8 := by intro j; rw [← hq]; have := e1 j; have := e1 (j + 1); show e j + (if j + 1 < 16 then e (j + 1) else 0) ≤ 8; split <;> omega
    rw [show ds 4 q 16 = ds (2 * 4) (fun j => q (2 * j) + q (2 * j + 1) * 2 ^ 4) 8 from ds_pair 4 q 8]
    rw [ds_low (by decide) (fun j _ => by have := q1 (2 * j); have := q1 (2 * j + 1); show q (2 * j) + q (2 * j + 1) * 2 ^ 4 < 2 ^ (2 * 4); omega)]
    refine ds_congr (fun j hj => ?_)
    have := q1 (2 * j); have := q1 (2 * j + 1)
    have hqe : q (2 * j) = e (2 * j) + e (2 * j + 1) := by rw [← hq]; show e (2 * j) + (if 2 * j + 1 < 16 then e (2 * j + 1) else 0) = _; rw [if_pos (by omega)]
    show (q (2 * j) + q (2 * j + 1) * 2 ^ 4) % 2 ^ 4 = e (2 * j) + e (2 * j + 1)
    omega
  generalize hf : (fun j => e (2 * j) + e (2 * j + 1)) = f at y3
  have f1 : ∀ j, f j ≤ 8 := by intro j; rw [← hf]; have := e1 (2 * j); have := e1 (2 * j + 1); show e (2 * j) + e (2 * j + 1) ≤ 8; omega
  have sh : ∀ (y : Int64) (k t : Nat) (u : Nat → Nat) (B : Nat), k < 64 → k = 8 * t → (∀ j, u j ≤ B) → 2 * B < 256 → uN y = ds 8 u 8 → uN (y + (y.toUInt64 >>> ((nI k).toInt64.toUInt64 &&& Int64.toUInt64 63)).toInt64) = ds 8 (fun j => u j + (if j + t < 8 then u (j + t) else 0)) 8 := by
    intro y k t u B hk ht hu hB hy
    have hs : uN (y.toUInt64 >>> ((nI k).toInt64.toUInt64 &&& Int64.toUInt64 63)).toInt64 = ds 8 (fun j => if j + t < 8 then u (j + t) else 0) 8 := by
      rw [uN_shr _ hk, hy, ht]
      exact ds_shift (w := 8) (by decide) t (fun j _ => by have := hu j; omega)
    have hl : ds 8 (fun j => u j + (if j + t < 8 then u (j + t) else 0)) 8 < 2 ^ 64 := ds_lt (w := 8) (n := 8) (fun j _ => by have := hu j; have := hu (j + t); show u j + (if j + t < 8 then u (j + t) else 0) < 2 ^ 8; split <;> omega)
    rw [uN_add (by rw [hy, hs, ds_add]; exact hl), hy, hs, ds_add]
  have y4 := sh (bc3 (bc2 (bc1 x))) 8 1 f 8 (by decide) rfl f1 (by decide) y3
  have y5 := sh (bc4 (bc3 (bc2 (bc1 x)))) 16 2 _ 16 (by decide) rfl (fun j => by have := f1 j; have := f1 (j + 1); show f j + (if j + 1 < 8 then f (j + 1) else 0) ≤ 16; split <;> omega) (by decide) y4
  have y6 := sh (bc5 (bc4 (bc3 (bc2 (bc1 x))))) 32 4 _ 32 (by decide) rfl (fun j => by
    have := f1 j; have := f1 (j + 1); have := f1 (j + 2); have := f1 (j + 2 + 1)
    show (f j + (if j + 1 < 8 then f (j + 1) else 0)) + (if j + 2 < 8 then f (j + 2) + (if j + 2 + 1 < 8 then f (j + 2 + 1) else 0) else 0) ≤ 32
    split <;> split <;> (try split) <;> omega) (by decide) y5
  have hz : uN (bc6 (bc5 (bc4 (bc3 (bc2 (bc1 x)))))) % 128 = f 0 + f 1 + f 2 + f 3 + f 4 + f 5 + f 6 + f 7 := by
    have y6' : uN (bc6 (bc5 (bc4 (bc3 (bc2 (bc1 x)))))) = _ := y6
    rw [y6']
    have := f1 0; have := f1 1; have := f1 2; have := f1 3; have := f1 4; have := f1 5; have := f1 6; have := f1 7
    simp [ds]
    omega
  have hsum : f 0 + f 1 + f 2 + f 3 + f 4 + f 5 + f 6 + f 7 = cnt (bs x) 64 := by
    rw [← hf, ← hd, ← hc, ← hb]
    simp only [cnt]
    simp
    omega
  unfold bcI
  have hi : (bc6 (bc5 (bc4 (bc3 (bc2 (bc1 x)))))).toInt32.toBitVec.toNat = uN (bc6 (bc5 (bc4 (bc3 (bc2 (bc1 x)))))) % 2 ^ 32 := by
    show (BitVec.signExtend 32 (bc6 (bc5 (bc4 (bc3 (bc2 (bc1 x)))))).toBitVec).toNat = _
    rw [BitVec.signExtend_eq_setWidth_of_le _ (by decide), BitVec.toNat_setWidth]
    rfl
  rw [pk_and _ 7 (by decide), hi, Nat.mod_mod_of_dvd _ (by decide), show (2 : Nat) ^ 7 = 128 from rfl, hz, hsum]
end
section
/-! ===== the lowest cell of a set ===== -/
theorem cnt_mono (p : Nat → Bool) {m n : Nat} (h : m ≤ n) : cnt p m ≤ cnt p n := by
  induction n with
  | zero => have : m = 0 := by omega
            subst this; exact Nat.le_refl _
  | succ n ih =>
    rcases Nat.lt_or_ge n m with q | q
    · have : m = n + 1 := by omega
      subst this; exact Nat.le_refl _
    · exact Nat.le_trans (ih q) (by simp only [cnt]; omega)
theorem cnt_lt {p : Nat → Bool} {y x : Nat} (h : y < x) (hp : p y = true) : cnt p y < cnt p x := by
  have h1 : cnt p (y + 1) ≤ cnt p x := cnt_mono p h
  have h2 : cnt p (y + 1) = cnt p y + 1 := by simp [cnt, hp]
  omega
theorem cnt_bs (p : Nat → Bool) : cnt (bs (mset p)) 64 = cnt p 36 := by
  rw [cnt_more (n := 36) (by decide) (fun i h1 _ => by rw [bs_mset]; simp; omega)]
  exact cnt_congr (fun i hi => by rw [bs_mset]; simp [hi])
theorem bc_mset (p : Nat → Bool) : bcI (mset p) = nI (cnt p 36) := by rw [bc_all, cnt_bs]
theorem tb_pred {N a : Nat} (h1 : N.testBit a = true) (h2 : ∀ j, j < a → N.testBit j = false) (i : Nat) : (N - 1).testBit i = if i < a then true else if i = a then false else N.testBit i := by
  have hz : N % 2 ^ a = 0 := by
    apply Nat.eq_of_testBit_eq
    intro j
    rw [Nat.testBit_mod_two_pow]
    by_cases hj : j < a
    · simp [h2 j hj]
    · simp [hj]
  have hq : N / 2 ^ a % 2 = 1 := by
    have := h1
    rw [Nat.testBit_eq_decide_div_mod_eq] at this
    simpa using this
  have hN : N = 2 ^ a * (N / 2 ^ a) := by have := Nat.div_add_mod N (2 ^ a); omega
  generalize hqq : N / 2 ^ a = q at hq hN
  obtain ⟨m, hm⟩ : ∃ m, q = 2 * m + 1 := ⟨q / 2, by omega⟩
  have hp := Nat.two_pow_pos a
  have e : N - 1 = 2 ^ a * (2 * m) + (2 ^ a - 1) := by
    rw [hN, hm, Nat.mul_add]
    omega
  have e0 : N = 2 ^ a * q + 0 := by omega
  rw [e, Nat.testBit_two_pow_mul_add _ (by omega)]
  by_cases hi : i < a
  · rw [if_pos hi, if_pos hi, Nat.testBit_two_pow_sub_one]; simp [hi]
  · rw [if_neg hi, if_neg hi]
    by_cases hia : i = a
    · subst hia
      simp [Nat.testBit_zero]
    · rw [if_neg hia, e0, Nat.testBit_two_pow_mul_add _ hp, if_neg hi, hm]
      obtain ⟨k, hk⟩ : ∃ k, i - a = k + 1 := ⟨i - a - 1, by omega⟩
      rw [hk, Nat.testBit_succ, Nat.testBit_succ]
      congr 1
      omega
theorem bs_pred {x : Int64} {a : Nat} (h1 : bs x a = true) (h2 : ∀ j, j < a → bs x j = false) (i : Nat) : bs (x - 1) i = if i < a then true else if i = a then false else bs x i := by
  have hx : 1 ≤ uN x := by
    rcases Nat.eq_zero_or_pos (uN x) with q | q
    · have : (uN x).testBit a = true := h1
      rw [q] at this
      simp at this
    · exact q
  have e : uN (x - 1) = uN x - 1 := uN_sub (y := 1) hx
  rw [← uN_bit, e, tb_pred (N := uN x) (a := a) h1 h2]
  rfl
theorem bs_neg {x : Int64} (hx : 1 ≤ uN x) {i : Nat} (hi : i < 64) : bs (-x) i = !(bs (x - 1) i) := by
  have e : -x = (x - 1) ^^^ (-1) := by
    apply Int64.toBitVec_inj.mp
    apply BitVec.eq_of_toNat_eq
    have h1 : ((x - 1) ^^^ (-1)).toBitVec = ~~~ (x - 1).toBitVec := by
      show (x - 1).toBitVec ^^^ (-1 : Int64).toBitVec = _
      rw [show (-1 : Int64).toBitVec = BitVec.allOnes 64 by decide +kernel, BitVec.xor_allOnes]
    rw [h1, BitVec.toNat_not]
    have e2 : (x - 1).toBitVec.toNat = uN x - 1 := uN_sub (y := 1) hx
    rw [e2]
    show (- x.toBitVec).toNat = _
    rw [BitVec.toNat_neg]
    have h3 := uN_lt x
    show (2 ^ 64 - uN x) % 2 ^ 64 = _
    omega
  rw [e, bs_not _ hi]
section LOW
variable {p : Nat → Bool} {a : Nat}
theorem low_bs (h : fst p 36 0 = some a) : bs (mset p) a = true ∧ (∀ j, j < a → bs (mset p) j = false) ∧ a < 36 ∧ p a = true := by
  obtain ⟨-, h2, h3, h4⟩ := fst_some.mp h
  refine ⟨by rw [bs_mset, h3]; simp; omega, fun j hj => by rw [bs_mset, h4 j (by omega) hj]; simp, by omega, h3⟩
theorem m_low (h : fst p 36 0 = some a) : mset p &&& -(mset p) = mset (one a) := by
  obtain ⟨h1, h2, h3, h4⟩ := low_bs h
  have hx : 1 ≤ uN (mset p) := by
    rcases Nat.eq_zero_or_pos (uN (mset p)) with q | q
    · have : (uN (mset p)).testBit a = true := h1
      rw [q] at this
      simp at this
    · exact q
  apply bs_ext
  intro i hi
  rw [bs_and, bs_neg hx hi, bs_pred h1 h2, bs_mset (one a)]
  by_cases q1 : i < a
  · have : (i == a) = false := by simp; omega
    simp [h2 i q1, one, this]
  · by_cases q2 : i = a
    · subst q2
      simp [h1, one, h3]
    · have : (i == a) = false := by simpa using q2
      simp [q1, q2, one, this]
theorem m_pred (ha : a < 36) : mset (one a) - 1 = mset (fun i => decide (i < a)) := by
  have h : fst (one a) 36 0 = some a := fst_some.mpr ⟨by omega, by omega, by simp [one], fun j _ hj => by simp [one]; omega⟩
  obtain ⟨h1, h2, -, -⟩ := low_bs h
  apply bs_ext
  intro i hi
  rw [bs_pred h1 h2, bs_mset, bs_mset]
  by_cases q1 : i < a
  · have : i < 36 := by omega
    simp [q1, this]
  · by_cases q2 : i = a
    · simp [q2]
    · have : (i == a) = false := by simpa using q2
      simp [q1, q2, one, this]
theorem m_drop (h : fst p 36 0 = some a) : mset p &&& (mset p - 1) = mset (fun i => p i && !(i == a)) := by
  obtain ⟨h1, h2, h3, h4⟩ := low_bs h
  apply bs_ext
  intro i hi
  rw [bs_and, bs_pred h1 h2, bs_mset (fun i => p i && !(i == a))]
  by_cases q1 : i < a
  · have : (i == a) = false := by simp; omega
    have h5 := h2 i q1
    rw [h5]
    rw [bs_mset] at h5
    simp only [Bool.false_and, this, Bool.not_false, Bool.and_true]
    exact h5.symm
  · by_cases q2 : i = a
    · simp [q2]
    · have : (i == a) = false := by simpa using q2
      simp only [q1, q2, if_false, this, Bool.not_false, Bool.and_true, Bool.and_self]
      exact bs_mset p i
theorem cnt_below : ∀ (n : Nat), a ≤ n → cnt (fun i => decide (i < a)) n = a := by
  intro n
  induction n with
  | zero => intro h; simp [cnt]; omega
  | succ n ih =>
    intro h
    simp only [cnt]
    rcases Nat.lt_or_ge n a with q | q
    · have : a = n + 1 := by omega
      subst this
      have : ∀ m, m ≤ n + 1 → cnt (fun i => decide (i < n + 1)) m = m := by
        intro m
        induction m with
        | zero => intro _; rfl
        | succ m ih => intro hm; simp only [cnt]; rw [ih (by omega)]; simp; omega
      rw [this n (by omega)]; simp
    · rw [ih q]; simp; omega
theorem fst_no0 (h : fst p 36 0 = none) : mset p = 0 := by
  rw [m_eq0]
  intro i hi
  exact fst_none.mp h i (by omega) (by omega)
end LOW
section C23
variable {l : Launch} {g : zG} {d : Nat} {h : zH} {F : Fl}
theorem c_J_bitCount {p : Nat → Bool} : Run l g mJ_bitCount d 0 0 [.long (mset p)] h (PI (nI (cnt p 36)) h) := by
  have := c_J_bitCountI (l := l) (g := g) (d := d) (h := h) (x := mset p)
  rw [bc_mset] at this
  exact this
theorem c_F_lowestOf {p : Nat → Bool} : Run l g mF_lowestOf (d + 1) 0 0 [.long (mset p)] h (PI (oI (fst p 36 0)) h) := by
  refine run_of (by decide) (Nat.le_of_ble_eq_true rfl) ?_
  cases hq : fst p 36 0 with
  | none =>
    refine zw_lload_n dF_lowestOf_0 rfl ?_
    refine zw_lconst (v := 0) dF_lowestOf_1 (by decide) ?_
    refine zw_lcmp dF_lowestOf_2 ?_
    refine zw_if_ne 10 dF_lowestOf_3 (by decide) (fun c_3 => ?_) (fun c_3 => ?_)
    · exact absurd ((lg_cmp_eq _ _).mpr (fst_no0 hq)) c_3
    · refine zw_iconst (v := (-1)) dF_lowestOf_6 (by decide) ?_
      refine zw_goto 19 dF_lowestOf_7 (by decide) ?_
      exact zw_iret dF_lowestOf_19 rfl rfl rfl ⟨rfl, rfl⟩
  | some a =>
    have ha := low_bs hq
    refine zw_lload_n dF_lowestOf_0 rfl ?_
    refine zw_lconst (v := 0) dF_lowestOf_1 (by decide) ?_
    refine zw_lcmp dF_lowestOf_2 ?_
    refine zw_if_ne 10 dF_lowestOf_3 (by decide) (fun c_3 => ?_) (fun c_3 => ?_)
    · refine zw_lload_n dF_lowestOf_10 rfl ?_
      refine zw_lload_n dF_lowestOf_11 rfl ?_
      refine zw_lneg dF_lowestOf_12 ?_
      refine zw_land dF_lowestOf_13 ?_
      refine zw_lconst (v := 1) dF_lowestOf_14 (by decide) ?_
      refine zw_lsub dF_lowestOf_15 ?_
      rw [m_low hq, m_pred ha.2.2.1]
      refine zc_S1I dF_lowestOf_16 zm_J_bitCount zk_F_152 c_J_bitCount ?_ zRR (Nat.le_of_ble_eq_true rfl) ⟨Nat.le_of_ble_eq_true rfl, Nat.le_of_ble_eq_true rfl⟩
      exact zw_iret dF_lowestOf_19 rfl rfl rfl ⟨by rw [cnt_below 36 (by omega)]; rfl, rfl⟩
    · have e := lgc_eq _ _ c_3
      have h1 := ha.1
      rw [e, bs_0] at h1
      cases h1
/-- the k-th member -/
def nth (p : Nat → Bool) (k : Nat) : Option Nat := fst (fun i => p i && cnt p i == k) 36 0
theorem nth_ex {p : Nat → Bool} {k : Nat} : ∀ {n : Nat}, k < cnt p n → ∃ x, x < n ∧ p x = true ∧ cnt p x = k := by
  intro n
  induction n with
  | zero => intro h; simp [cnt] at h
  | succ n ih =>
    intro h
    rcases Nat.lt_or_ge k (cnt p n) with q | q
    · obtain ⟨x, h1, h2, h3⟩ := ih q
      exact ⟨x, by omega, h2, h3⟩
    · simp only [cnt] at h
      split at h
      case isTrue hp => exact ⟨n, by omega, hp, by omega⟩
      case isFalse hp => omega
def drp (p : Nat → Bool) (k : Nat) : Nat → Bool := fun x => p x && decide (k ≤ cnt p x)
theorem drp_low {p : Nat → Bool} {k x : Nat} (hx : x < 36) (hp : p x = true) (hc : cnt p x = k) : fst (drp p k) 36 0 = some x := by
  refine fst_some.mpr ⟨by omega, by omega, by simp [drp, hp, hc], fun j _ hj => ?_⟩
  cases hq : p j with
  | false => simp [drp, hq]
  | true =>
    have := cnt_lt hj hq
    simp [drp]
    intro _
    omega
theorem drp_next {p : Nat → Bool} {k x : Nat} (hp : p x = true) (hc : cnt p x = k) : (fun i => drp p k i && !(i == x)) = drp p (k + 1) := by
  funext i
  cases hq : p i with
  | false => simp [drp, hq]
  | true =>
    by_cases e : i = x
    · subst e
      simp [drp, hc]
    · have h1 : (i == x) = false := by simpa using e
      have h2 : cnt p i ≠ k := by
        rcases Nat.lt_or_ge i x with q | q
        · have := cnt_lt q hq; omega
        · have := cnt_lt (show x < i by omega) hp; omega
      simp only [drp, hq, h1, Bool.true_and, Bool.not_false, Bool.and_true]
      by_cases h3 : k ≤ cnt p i
      · have : k + 1 ≤ cnt p i := by omega
        simp [h3, this]
      · have : ¬ k + 1 ≤ cnt p i := by omega
        simp [h3, this]
theorem nth_some {p : Nat → Bool} {k x : Nat} (hx : x < 36) (hp : p x = true) (hc : cnt p x = k) : nth p k = some x := by
  refine fst_some.mpr ⟨by omega, by omega, by simp [hp, hc], fun j _ hj => ?_⟩
  cases hq : p j with
  | false => simp
  | true =>
    have := cnt_lt hj hq
    simp
    omega
theorem nth_none {p : Nat → Bool} {k : Nat} (hc : cnt p 36 ≤ k) : nth p k = none := by
  refine fst_none.mpr (fun j _ hj => ?_)
  cases hq : p j with
  | false => simp
  | true =>
    have := cnt_lt (x := 36) (show j < 36 by omega) hq
    simp
    omega
theorem c_F_memberAt {p : Nat → Bool} {k : Nat} (hk : k < 2 ^ 31) : Run l g mF_memberAt (d + 2) 0 0 [.long (mset p), .int (nI k)] h (PI (oI (nth p k)) h) := by
  refine run_of (by decide) (Nat.le_of_ble_eq_true rfl) ?_
  have hc36 := cnt_le p 36
  rcases Nat.lt_or_ge k (cnt p 36) with hlt | hge
  · have L : ∀ (m i : Nat), i + m = k → WW l g mF_memberAt (zrm (d + 2) 0 0) (fun _ => True) (zQQ g (PI (oI (nth p k)) h) (h.length + 0) 0 0) 19 [(2, some (.int (nI k))), (3, some (.long (mset (drp p i)))), (5, some (.int (nI i)))] [] h 0 0 := by
      intro m
      induction m with
      | zero =>
        intro i him
        have hi : i = k := by omega
        subst hi
        obtain ⟨x, hx1, hx2, hx3⟩ := nth_ex hlt
        refine zw_iload dF_memberAt_19 rfl ?_
        refine zw_iload_n dF_memberAt_21 rfl ?_
        refine zw_icmp_ge 44 dF_memberAt_22 (by decide) (fun c_22 => ?_) (fun c_22 => ?_)
        · refine zw_lload_n dF_memberAt_44 rfl ?_
          refine zc_S1I dF_memberAt_45 zm_F_lowestOf zk_F_248 c_F_lowestOf ?_ zRR (Nat.le_of_ble_eq_true rfl) ⟨Nat.le_of_ble_eq_true rfl, Nat.le_of_ble_eq_true rfl⟩
          exact zw_iret dF_memberAt_48 rfl rfl rfl ⟨by rw [nth_some hx1 hx2 hx3, drp_low hx1 hx2 hx3], rfl⟩
        · exact absurd (Int32.le_refl _) c_22
      | succ m ih =>
        intro i him
        obtain ⟨x, hx1, hx2, hx3⟩ := nth_ex (p := p) (k := i) (n := 36) (by omega)
        refine zw_iload dF_memberAt_19 rfl ?_
        refine zw_iload_n dF_memberAt_21 rfl ?_
        refine zw_icmp_ge 44 dF_memberAt_22 (by decide) (fun c_22 => ?_) (fun c_22 => ?_)
        · exact absurd ((nI_leI (by omega) (by omega)).mp c_22) (by omega)
        · refine zw_iload dF_memberAt_25 rfl ?_
          refine zw_bipush (v := 36) dF_memberAt_27 (by decide) ?_
          refine zw_icmp_ge 44 dF_memberAt_29 (by decide) (fun c_29 => ?_) (fun c_29 => ?_)
          · exact absurd ((nI_leI (a := 36) (b := i) (by omega) (by omega)).mp c_29) (by omega)
          · refine zw_lload_n dF_memberAt_32 rfl ?_
            refine zw_lload_n dF_memberAt_33 rfl ?_
            refine zw_lconst (v := 1) dF_memberAt_34 (by decide) ?_
            refine zw_lsub dF_memberAt_35 ?_
            refine zw_land dF_memberAt_36 ?_
            rw [m_drop (drp_low hx1 hx2 hx3), drp_next hx2 hx3]
            refine zw_lstore_n dF_memberAt_37 (by decide) rfl ?_
            refine zw_incN dF_memberAt_38 rfl (by decide) rfl ?_
            refine zw_goto 19 dF_memberAt_41 (by decide) ?_
            exact zw_lk (ih (i + 1) (by omega)) ⟨rfl, rfl, rfl, trivial⟩
    have e0 : drp p 0 = p := by funext x; simp [drp]
    refine zw_iload_n dF_memberAt_0 rfl ?_
    refine zw_if_lt 12 dF_memberAt_1 (by decide) (fun c_1 => ?_) (fun c_1 => ?_)
    · exact absurd c_1 (nI_pos (by omega))
    · refine zw_iload_n dF_memberAt_4 rfl ?_
      refine zw_lload_n dF_memberAt_5 rfl ?_
      refine zc_S1I dF_memberAt_6 zm_J_bitCount zk_F_152 c_J_bitCount ?_ zRR (Nat.le_of_ble_eq_true rfl) ⟨Nat.le_of_ble_eq_true rfl, Nat.le_of_ble_eq_true rfl⟩
      refine zw_icmp_lt 14 dF_memberAt_9 (by decide) (fun c_9 => ?_) (fun c_9 => ?_)
      · refine zw_lload_n dF_memberAt_14 rfl ?_
        refine zw_lstore_n dF_memberAt_15 (by decide) rfl ?_
        refine zw_iconst (v := 0) dF_memberAt_16 (by decide) ?_
        refine zw_istore dF_memberAt_17 (by decide) rfl ?_
        exact zw_lk (L k 0 (by omega)) ⟨rfl, by rw [e0]; rfl, rfl, trivial⟩
      · exact absurd ((nI_ltI (by omega) (by omega)).mpr hlt) c_9
  · refine zw_iload_n dF_memberAt_0 rfl ?_
    refine zw_if_lt 12 dF_memberAt_1 (by decide) (fun c_1 => ?_) (fun c_1 => ?_)
    · exact absurd c_1 (nI_pos (by omega))
    · refine zw_iload_n dF_memberAt_4 rfl ?_
      refine zw_lload_n dF_memberAt_5 rfl ?_
      refine zc_S1I dF_memberAt_6 zm_J_bitCount zk_F_152 c_J_bitCount ?_ zRR (Nat.le_of_ble_eq_true rfl) ⟨Nat.le_of_ble_eq_true rfl, Nat.le_of_ble_eq_true rfl⟩
      refine zw_icmp_lt 14 dF_memberAt_9 (by decide) (fun c_9 => ?_) (fun c_9 => ?_)
      · exact absurd ((nI_ltI (by omega) (by omega)).mp c_9) (by omega)
      · refine zw_iconst (v := (-1)) dF_memberAt_12 (by decide) ?_
        exact zw_iret dF_memberAt_13 rfl rfl rfl ⟨by rw [nth_none hge]; rfl, rfl⟩
theorem nb_low (hF : fOK F) {c hand : Nat} (hc : c < fN F) (hh : hand < 4) : fst (bes F hand (oneO (some c))) 36 0 = nb F c hand := by
  have hn := fN_le hF
  have key : ∀ i, bes F hand (oneO (some c)) i = true ↔ nb F c hand = some i := by
    intro i
    rw [bes_iff]
    constructor
    · rintro ⟨h1, b, h2, h3⟩
      have hb : b = c := by simp only [oneO, beq_iff_eq, Option.some.injEq] at h3; exact h3.symm
      subst hb
      exact (nb_inv hF h1 hh h2).2
    · intro h1
      obtain ⟨h2, h3⟩ := nb_spec hF hc hh h1
      exact ⟨h2, c, h3, by simp [oneO]⟩
  cases hq : nb F c hand with
  | none =>
    refine fst_none.mpr (fun j _ _ => ?_)
    cases hb : bes F hand (oneO (some c)) j with
    | false => rfl
    | true => have := (key j).mp hb; rw [hq] at this; cases this
  | some b =>
    have h1 := (key b).mpr hq
    have h2 := bes_sub F hand _ b h1
    refine fst_some.mpr ⟨by omega, by omega, h1, fun j _ hj => ?_⟩
    cases hb : bes F hand (oneO (some c)) j with
    | false => rfl
    | true => have := (key j).mp hb; rw [hq] at this; cases this; omega
theorem one_sub {c : Nat} (hc : c < fN F) : sub F (oneO (some c)) := by
  intro i hi
  simp only [oneO, beq_iff_eq, Option.some.injEq] at hi
  omega
theorem c_G_cellBeside (hF : fOK F) (hG : h[4]? = some (gC F)) {c hand : Nat} (hc : c < fN F) (hh : hand < 4) : Run l g mG_cellBeside (d + 2) 0 0 [.ref 4, .int (nI c), .int (nI hand)] h (PI (oI (nb F c hand)) h) := by
  refine run_of (by decide) (Nat.le_of_ble_eq_true rfl) ?_
  have hn := fN_le hF
  refine zw_aload_n dG_cellBeside_0 rfl ?_
  refine zw_iload_n dG_cellBeside_1 rfl ?_
  refine zc_S1L dG_cellBeside_2 zm_F_only zk_G_53 (c_F_only (a := some c) (oOK_some (by omega))) ?_ zRR (Nat.le_of_ble_eq_true rfl) ⟨Nat.le_of_ble_eq_true rfl, Nat.le_of_ble_eq_true rfl⟩
  refine zw_iload_n dG_cellBeside_5 rfl ?_
  refine zc_V2L dG_cellBeside_6 zm_G_beside zk_G_69 hG rfl (c_G_beside hF hG (one_sub hc) hh) ?_ zRR (Nat.le_of_ble_eq_true rfl) ⟨Nat.le_of_ble_eq_true rfl, Nat.le_of_ble_eq_true rfl⟩
  refine zc_S1I dG_cellBeside_9 zm_F_lowestOf zk_G_73 c_F_lowestOf ?_ zRR (Nat.le_of_ble_eq_true rfl) ⟨Nat.le_of_ble_eq_true rfl, Nat.le_of_ble_eq_true rfl⟩
  exact zw_iret dG_cellBeside_12 rfl rfl rfl ⟨by rw [nb_low hF hc hh], rfl⟩
end C23
end
section
/-! ===== situations on the heap ===== -/
def hs2 (k : Nat) (S : Sit) (h : zH) : zH := (h.set k (sitC k S)).set (k + 1) (plC S)
theorem hs2_len (k : Nat) (S : Sit) (h : zH) : (hs2 k S h).length = h.length := by simp [hs2]
theorem hs2_self {k : Nat} {S : Sit} {h : zH} (hS : h[k]? = some (sitC k S)) (hp : h[k + 1]? = some (plC S)) : hs2 k S h = h := by
  unfold hs2; rw [zs_self hS, zs_self hp]
theorem hs2_hs2 (k : Nat) (S S' : Sit) (h : zH) : hs2 k S' (hs2 k S h) = hs2 k S' h := by
  unfold hs2
  rw [zs_comm _ _ _ (show k + 1 ≠ k by omega), zs_set, zs_set]
theorem hs2_k {k : Nat} {S : Sit} {h : zH} {c : zC} (hS : h[k]? = some c) : (hs2 k S h)[k]? = some (sitC k S) := zg_ne (by omega) (zg_eq hS)
theorem hs2_p {k : Nat} {S : Sit} {h : zH} {c : zC} (hp : h[k + 1]? = some c) : (hs2 k S h)[k + 1]? = some (plC S) := zg_eq (c := c) (zg_ne (by omega) hp)
theorem hs2_ne {k j : Nat} {S : Sit} {h : zH} {x : Option zC} (h1 : k ≠ j) (h2 : k + 1 ≠ j) (hj : h[j]? = x) : (hs2 k S h)[j]? = x := zg_ne h2 (zg_ne h1 hj)
theorem hs2_sit {k : Nat} {S S' : Sit} {h : zH} {c : zC} (hc : c = sitC k S') (e : plC S' = plC S) (hp : h[k + 1]? = some (plC S)) : h.set k c = hs2 k S' h := by
  subst hc
  unfold hs2
  rw [e, zs_self (zg_ne (by omega) hp)]
theorem hs2_pl {k : Nat} {S S' : Sit} {h : zH} {c : zC} (hc : c = plC S') (e : sitC k S' = sitC k S) (hS : h[k]? = some (sitC k S)) : h.set (k + 1) c = hs2 k S' h := by
  subst hc
  unfold hs2
  rw [e, zs_self hS]
/-! the sets of a situation -/
theorem fre_sub (F : Fl) (S : Sit) : sub F (fre F S) := by
  intro i hi
  simp only [fre, Bool.and_eq_true, decide_eq_true_eq] at hi
  exact hi.1.1
theorem m_free {F : Fl} (hF : fOK F) (S : Sit) : ((mset (gK F 0) ||| mset (oneO (some (fD F)))) ||| mset (gK F 4)) &&& (mset (sShut S) ^^^ (-1)) = mset (fre F S) := by
  rw [m_or, m_or, m_andn]
  apply mset_congr
  intro i _
  simp only [gK, oneO, fre]
  by_cases hi : i < fN F
  · have := (hF.2.2.2 i hi).2
    by_cases hd : i = fD F
    · have h6 := this.mpr hd
      subst hd
      simp [hi, h6]
    · have h6 : ¬ fK F i = 6 := fun q => hd (this.mp q)
      have h7 : (fK F i == 6) = false := by simpa using h6
      have h8 : (some (fD F) == some i) = false := by simpa using fun q => hd q.symm
      simp [hi, h7, h8]
  · have h8 : (some (fD F) == some i) = false := by
      have := hF.2.2.1
      simp
      omega
    simp [hi, h8]
def kdn (F : Fl) (S : Sit) (c : Nat) : Nat := if fK F c = 4 ∧ sShut S c = true then 5 else fK F c
def mayS (F : Fl) (S : Sit) (t : Nat) : Nat → Bool := fun c => decide (c < fN F) && canBe F S t (some c)
def mayO (F : Fl) (S : Sit) (t hand : Nat) : Nat → Bool := fun c => decide (c < fN F) && canBe F S t (nb F c hand)
theorem mayS_sub (F : Fl) (S : Sit) (t : Nat) : sub F (mayS F S t) := by
  intro i hi
  simp only [mayS, Bool.and_eq_true, decide_eq_true_eq] at hi
  exact hi.1
theorem mayS_2 (F : Fl) (S : Sit) : mset (gK F 3) = mset (mayS F S 2) := rfl
theorem mayS_01 (F : Fl) (S : Sit) {t : Nat} (ht : t < 2) : (mset (gAll F) &&& (mset (gK F 3) ^^^ (-1))) &&& ((mset (if t = 0 then kn2 S else kn1 S) &&& (mset (gK F 4) ^^^ (-1))) ^^^ (-1)) = mset (mayS F S t) := by
  rw [m_andn, m_andn, m_andn]
  apply mset_congr
  intro i _
  have ht2 : ¬ t = 2 := by omega
  simp only [gAll, gK, mayS, canBe, ht2, if_false]
  by_cases hi : i < fN F
  · rcases (show t = 0 ∨ t = 1 by omega) with rfl | rfl
    · simp [hi, kn2, Bool.or_comm]
    · simp [hi, kn1, Bool.or_comm]
  · simp [hi]
theorem mayO_eq {F : Fl} (hF : fOK F) (S : Sit) {t hand : Nat} (hh : hand < 4) (ht : t ≠ 1) : bes F ((hand + 2) % 4) (mayS F S t) = mayO F S t hand := by
  funext c
  have e : ((hand + 2) % 4 + 2) % 4 = hand := by omega
  simp only [bes, mayO, e]
  by_cases hc : c < fN F
  · cases hq : nb F c hand with
    | none => have : (t == 1) = false := by simpa using ht
              simp [canBe, this]
    | some b =>
      have hb := (nb_spec hF hc hh hq).1
      simp [mayS, hc, hb]
  · simp [hc]
theorem mayO_1 {F : Fl} (hF : fOK F) (S : Sit) {hand : Nat} (hh : hand < 4) : mset (bes F ((hand + 2) % 4) (mayS F S 1)) ||| (mset (gAll F) &&& (mset (bes F ((hand + 2) % 4) (gAll F)) ^^^ (-1))) = mset (mayO F S 1 hand) := by
  rw [m_andn, m_or]
  apply mset_congr
  intro c _
  have e : ((hand + 2) % 4 + 2) % 4 = hand := by omega
  simp only [bes, mayO, e]
  by_cases hc : c < fN F
  · cases hq : nb F c hand with
    | none => simp [canBe, hc, gAll]
    | some b =>
      have hb := (nb_spec hF hc hh hq).1
      simp [mayS, hc, hb, gAll]
  · simp [hc, gAll]
section C24
variable {l : Launch} {g : zG} {d : Nat} {h : zH} {F : Fl} {S : Sit} {k : Nat}
theorem c_S_freeCells (hF : fOK F) (hG : h[4]? = some (gC F)) (hS : h[k]? = some (sitC k S)) : Run l g mS_freeCells (d + 1) 0 0 [.ref k] h (PL (mset (fre F S)) h) := by
  refine run_of (by decide) (Nat.le_of_ble_eq_true rfl) ?_
  have hD : oOK (some (fD F)) := oOK_some (by have := fN_le hF; have := hF.2.2.1; omega)
  refine zw_aload_n dS_freeCells_0 rfl ?_
  refine zw_get dS_freeCells_1 zf_S_15 (by first | exact hS | exact hG) rfl ?_
  refine zw_get dS_freeCells_4 zf_S_64 (by first | exact hS | exact hG) rfl ?_
  refine zw_aload_n dS_freeCells_7 rfl ?_
  refine zw_get dS_freeCells_8 zf_S_15 (by first | exact hS | exact hG) rfl ?_
  refine zw_get dS_freeCells_11 zf_S_30 (by first | exact hS | exact hG) rfl ?_
  refine zc_S1L dS_freeCells_14 zm_F_only zk_S_44 (c_F_only hD) ?_ zRR (Nat.le_of_ble_eq_true rfl) ⟨Nat.le_of_ble_eq_true rfl, Nat.le_of_ble_eq_true rfl⟩
  refine zw_lor dS_freeCells_17 ?_
  refine zw_aload_n dS_freeCells_18 rfl ?_
  refine zw_get dS_freeCells_19 zf_S_15 (by first | exact hS | exact hG) rfl ?_
  refine zw_get dS_freeCells_22 zf_S_67 (by first | exact hS | exact hG) rfl ?_
  refine zw_lor dS_freeCells_25 ?_
  refine zw_aload_n dS_freeCells_26 rfl ?_
  refine zw_get dS_freeCells_27 zf_S_19 (by first | exact hS | exact hG) rfl ?_
  refine zw_ldc2 dS_freeCells_30 zcl_S_70 ?_
  refine zw_lxor dS_freeCells_33 ?_
  refine zw_land dS_freeCells_34 ?_
  exact zw_lret dS_freeCells_35 rfl rfl ⟨by rw [← m_free hF S], rfl⟩
theorem holds_iff {p : Nat → Bool} {o : Option Nat} {x : Int32} (e : x = if holdsB p o = true then 1 else 0) : (x = 0 → holdsB p o = false) ∧ (¬ x = 0 → holdsB p o = true) := by
  cases hq : holdsB p o with
  | false => rw [hq] at e; simp at e; subst e; exact ⟨fun _ => rfl, fun q => absurd rfl q⟩
  | true => rw [hq] at e; simp at e; subst e; exact ⟨fun q => absurd q (by decide), fun _ => rfl⟩
theorem hb0 {p : Nat → Bool} {o : Option Nat} (c : (if holdsB p o = true then (1 : Int32) else 0) = 0) : holdsB p o = false := (holds_iff rfl).1 c
theorem hb1 {p : Nat → Bool} {o : Option Nat} (c : ¬ (if holdsB p o = true then (1 : Int32) else 0) = 0) : holdsB p o = true := (holds_iff rfl).2 c
theorem gK_at {F : Fl} {c kd : Nat} (hc : c < fN F) : gK F kd c = (fK F c == kd) := by simp [gK, hc]
theorem c_S_outcomeAt (hF : fOK F) (hG : h[4]? = some (gC F)) (hS : h[k]? = some (sitC k S)) {o : Option Nat} (ho : oOK o) (hn : ∀ c, o = some c → c < fN F) : Run l g mS_outcomeAt (d + 2) 0 0 [.ref k, .int (oI o)] h (PI (nI (outc F S o)) h) := by
  refine run_of (by decide) (Nat.le_of_ble_eq_true rfl) ?_
  refine zw_aload_n dS_outcomeAt_0 rfl ?_
  refine zc_V0L dS_outcomeAt_1 zm_S_freeCells zk_S_102 (by first | exact hS | exact hG) rfl (c_S_freeCells hF hG hS) ?_ zRR (Nat.le_of_ble_eq_true rfl) ⟨Nat.le_of_ble_eq_true rfl, Nat.le_of_ble_eq_true rfl⟩
  refine zw_iload_n dS_outcomeAt_4 rfl ?_
  refine zc_S2I dS_outcomeAt_5 zm_F_holds zk_S_72 (c_F_holds ho) ?_ zRR (Nat.le_of_ble_eq_true rfl) ⟨Nat.le_of_ble_eq_true rfl, Nat.le_of_ble_eq_true rfl⟩
  refine zw_if_eq 13 dS_outcomeAt_8 (by decide) (fun c_8 => ?_) (fun c_8 => ?_)
  · refine zw_aload_n dS_outcomeAt_13 rfl ?_
    refine zw_get dS_outcomeAt_14 zf_S_15 (by first | exact hS | exact hG) rfl ?_
    refine zw_get dS_outcomeAt_17 zf_S_79 (by first | exact hS | exact hG) rfl ?_
    refine zw_iload_n dS_outcomeAt_20 rfl ?_
    refine zc_S2I dS_outcomeAt_21 zm_F_holds zk_S_72 (c_F_holds ho) ?_ zRR (Nat.le_of_ble_eq_true rfl) ⟨Nat.le_of_ble_eq_true rfl, Nat.le_of_ble_eq_true rfl⟩
    refine zw_if_eq 29 dS_outcomeAt_24 (by decide) (fun c_24 => ?_) (fun c_24 => ?_)
    · refine zw_aload_n dS_outcomeAt_29 rfl ?_
      refine zw_get dS_outcomeAt_30 zf_S_15 (by first | exact hS | exact hG) rfl ?_
      refine zw_get dS_outcomeAt_33 zf_S_76 (by first | exact hS | exact hG) rfl ?_
      refine zw_iload_n dS_outcomeAt_36 rfl ?_
      refine zc_S2I dS_outcomeAt_37 zm_F_holds zk_S_72 (c_F_holds ho) ?_ zRR (Nat.le_of_ble_eq_true rfl) ⟨Nat.le_of_ble_eq_true rfl, Nat.le_of_ble_eq_true rfl⟩
      refine zw_if_eq 47 dS_outcomeAt_40 (by decide) (fun c_40 => ?_) (fun c_40 => ?_)
      · have e : outc F S o = 1 := by cases o with | none => rfl | some c => have h1 := hb0 c_8; have h2 := hb0 c_24; have h3 := hb0 c_40; simp only [holdsB] at h1 h2 h3; rw [gK_at (hn c rfl)] at h2 h3; simp at h2 h3; simp [outc, h1, h2, h3]
        refine zw_iconst (v := 1) dS_outcomeAt_47 (by decide) ?_
        exact zw_iret dS_outcomeAt_48 rfl rfl rfl ⟨by rw [e]; rfl, rfl⟩
      · have e : outc F S o = 3 := by cases o with | none => exact absurd (hb1 c_40) (by simp [holdsB]) | some c => have h1 := hb0 c_8; have h2 := hb0 c_24; have h3 := hb1 c_40; simp only [holdsB] at h1 h2 h3; rw [gK_at (hn c rfl)] at h2 h3; simp at h2 h3; simp [outc, h1, h2, h3]
        refine zw_iconst (v := 3) dS_outcomeAt_43 (by decide) ?_
        refine zw_goto 48 dS_outcomeAt_44 (by decide) ?_
        exact zw_iret dS_outcomeAt_48 rfl rfl rfl ⟨by rw [e]; rfl, rfl⟩
    · have e : outc F S o = 2 := by cases o with | none => exact absurd (hb1 c_24) (by simp [holdsB]) | some c => have h1 := hb0 c_8; have h2 := hb1 c_24; simp only [holdsB] at h1 h2; rw [gK_at (hn c rfl)] at h2; simp at h2; simp [outc, h1, h2]
      refine zw_iconst (v := 2) dS_outcomeAt_27 (by decide) ?_
      exact zw_iret dS_outcomeAt_28 rfl rfl rfl ⟨by rw [e]; rfl, rfl⟩
  · have e : outc F S o = 0 := by cases o with | none => exact absurd (hb1 c_8) (by simp [holdsB]) | some c => have := hb1 c_8; simp only [holdsB] at this; simp [outc, this]
    refine zw_iconst (v := 0) dS_outcomeAt_11 (by decide) ?_
    exact zw_iret dS_outcomeAt_12 rfl rfl rfl ⟨by rw [e]; rfl, rfl⟩
theorem fre_3 {F : Fl} {S : Sit} {c : Nat} (h : fre F S c = true) : fK F c ≠ 3 := by
  intro q
  simp [fre, q] at h
theorem c_S_seenAt (hF : fOK F) (hG : h[4]? = some (gC F)) (hS : h[k]? = some (sitC k S)) {o : Option Nat} (ho : oOK o) (hn : ∀ c, o = some c → c < fN F) : Run l g mS_seenAt (d + 2) 0 0 [.ref k, .int (oI o)] h (PI (nI (told F S o)) h) := by
  refine run_of (by decide) (Nat.le_of_ble_eq_true rfl) ?_
  refine zw_aload_n dS_seenAt_0 rfl ?_
  refine zc_V0L dS_seenAt_1 zm_S_freeCells zk_S_102 (by first | exact hS | exact hG) rfl (c_S_freeCells hF hG hS) ?_ zRR (Nat.le_of_ble_eq_true rfl) ⟨Nat.le_of_ble_eq_true rfl, Nat.le_of_ble_eq_true rfl⟩
  refine zw_iload_n dS_seenAt_4 rfl ?_
  refine zc_S2I dS_seenAt_5 zm_F_holds zk_S_72 (c_F_holds ho) ?_ zRR (Nat.le_of_ble_eq_true rfl) ⟨Nat.le_of_ble_eq_true rfl, Nat.le_of_ble_eq_true rfl⟩
  refine zw_if_eq 13 dS_seenAt_8 (by decide) (fun c_8 => ?_) (fun c_8 => ?_)
  · refine zw_aload_n dS_seenAt_13 rfl ?_
    refine zw_get dS_seenAt_14 zf_S_15 (by first | exact hS | exact hG) rfl ?_
    refine zw_get dS_seenAt_17 zf_S_76 (by first | exact hS | exact hG) rfl ?_
    refine zw_iload_n dS_seenAt_20 rfl ?_
    refine zc_S2I dS_seenAt_21 zm_F_holds zk_S_72 (c_F_holds ho) ?_ zRR (Nat.le_of_ble_eq_true rfl) ⟨Nat.le_of_ble_eq_true rfl, Nat.le_of_ble_eq_true rfl⟩
    refine zw_if_eq 31 dS_seenAt_24 (by decide) (fun c_24 => ?_) (fun c_24 => ?_)
    · have e : told F S o = 1 := by cases o with | none => rfl | some c => have h1 := hb0 c_8; have h2 := hb0 c_24; simp only [holdsB] at h1 h2; rw [gK_at (hn c rfl)] at h2; simp at h2; simp [told, h1, h2]
      refine zw_iconst (v := 1) dS_seenAt_31 (by decide) ?_
      exact zw_iret dS_seenAt_32 rfl rfl rfl ⟨by rw [e]; rfl, rfl⟩
    · have e : told F S o = 2 := by cases o with | none => exact absurd (hb1 c_24) (by simp [holdsB]) | some c => have h2 := hb1 c_24; simp only [holdsB] at h2; rw [gK_at (hn c rfl)] at h2; simp at h2; simp [told, h2]
      refine zw_iconst (v := 2) dS_seenAt_27 (by decide) ?_
      refine zw_goto 32 dS_seenAt_28 (by decide) ?_
      exact zw_iret dS_seenAt_32 rfl rfl rfl ⟨by rw [e]; rfl, rfl⟩
  · have e : told F S o = 0 := by cases o with | none => exact absurd (hb1 c_8) (by simp [holdsB]) | some c => have := hb1 c_8; simp only [holdsB] at this; simp [told, this, fre_3 this]
    refine zw_iconst (v := 0) dS_seenAt_11 (by decide) ?_
    exact zw_iret dS_seenAt_12 rfl rfl rfl ⟨by rw [e]; rfl, rfl⟩
theorem c_S_kindOf (hF : fOK F) (hG : h[4]? = some (gC F)) (hS : h[k]? = some (sitC k S)) {c : Nat} (hc : c < fN F) (hsh : ∀ i, sShut S i = true → i < fN F ∧ fK F i = 4) : Run l g mS_kindOf (d + 2) 0 0 [.ref k, .int (nI c)] h (PI (nI (kdn F S c)) h) := by
  refine run_of (by decide) (Nat.le_of_ble_eq_true rfl) ?_
  have hn := fN_le hF
  have ho : oOK (some c) := oOK_some (by omega)
  have hkd := (hF.2.2.2 c hc)
  have hdk := hF.2.2.1
  refine zw_iload_n dS_kindOf_0 rfl ?_
  refine zw_aload_n dS_kindOf_1 rfl ?_
  refine zw_get dS_kindOf_2 zf_S_15 (by first | exact hS | exact hG) rfl ?_
  refine zw_get dS_kindOf_5 zf_S_30 (by first | exact hS | exact hG) rfl ?_
  refine zw_icmp_ne 14 dS_kindOf_8 (by decide) (fun c_8 => ?_) (fun c_8 => ?_)
  · refine zw_aload_n dS_kindOf_14 rfl ?_
    refine zw_get dS_kindOf_15 zf_S_15 (by first | exact hS | exact hG) rfl ?_
    refine zw_get dS_kindOf_18 zf_S_64 (by first | exact hS | exact hG) rfl ?_
    refine zw_iload_n dS_kindOf_21 rfl ?_
    refine zc_S2I dS_kindOf_22 zm_F_holds zk_S_72 (c_F_holds (a := some c) ho) ?_ zRR (Nat.le_of_ble_eq_true rfl) ⟨Nat.le_of_ble_eq_true rfl, Nat.le_of_ble_eq_true rfl⟩
    refine zw_if_eq 30 dS_kindOf_25 (by decide) (fun c_25 => ?_) (fun c_25 => ?_)
    · refine zw_aload_n dS_kindOf_30 rfl ?_
      refine zw_get dS_kindOf_31 zf_S_15 (by first | exact hS | exact hG) rfl ?_
      refine zw_get dS_kindOf_34 zf_S_67 (by first | exact hS | exact hG) rfl ?_
      refine zw_iload_n dS_kindOf_37 rfl ?_
      refine zc_S2I dS_kindOf_38 zm_F_holds zk_S_72 (c_F_holds (a := some c) ho) ?_ zRR (Nat.le_of_ble_eq_true rfl) ⟨Nat.le_of_ble_eq_true rfl, Nat.le_of_ble_eq_true rfl⟩
      refine zw_if_eq 61 dS_kindOf_41 (by decide) (fun c_41 => ?_) (fun c_41 => ?_)
      · refine zw_aload_n dS_kindOf_61 rfl ?_
        refine zw_get dS_kindOf_62 zf_S_15 (by first | exact hS | exact hG) rfl ?_
        refine zw_get dS_kindOf_65 zf_S_76 (by first | exact hS | exact hG) rfl ?_
        refine zw_iload_n dS_kindOf_68 rfl ?_
        refine zc_S2I dS_kindOf_69 zm_F_holds zk_S_72 (c_F_holds (a := some c) ho) ?_ zRR (Nat.le_of_ble_eq_true rfl) ⟨Nat.le_of_ble_eq_true rfl, Nat.le_of_ble_eq_true rfl⟩
        refine zw_if_eq 77 dS_kindOf_72 (by decide) (fun c_72 => ?_) (fun c_72 => ?_)
        · refine zw_aload_n dS_kindOf_77 rfl ?_
          refine zw_get dS_kindOf_78 zf_S_15 (by first | exact hS | exact hG) rfl ?_
          refine zw_get dS_kindOf_81 zf_S_79 (by first | exact hS | exact hG) rfl ?_
          refine zw_iload_n dS_kindOf_84 rfl ?_
          refine zc_S2I dS_kindOf_85 zm_F_holds zk_S_72 (c_F_holds (a := some c) ho) ?_ zRR (Nat.le_of_ble_eq_true rfl) ⟨Nat.le_of_ble_eq_true rfl, Nat.le_of_ble_eq_true rfl⟩
          refine zw_if_eq 95 dS_kindOf_88 (by decide) (fun c_88 => ?_) (fun c_88 => ?_)
          · have e : kdn F S c = 1 := by
              have h0 := hb0 c_25; have h1 := hb0 c_41; have h2 := hb0 c_72; have h3 := hb0 c_88
              simp only [holdsB, gK_at hc] at h0 h1 h2 h3
              simp at h0 h1 h2 h3
              have h6 : fK F c ≠ 6 := fun q => c_8 (by rw [hkd.2.mp q])
              have : fK F c = 1 := by omega
              simp [kdn, this]
            refine zw_iconst (v := 1) dS_kindOf_95 (by decide) ?_
            exact zw_iret dS_kindOf_96 rfl rfl rfl ⟨by rw [e]; rfl, rfl⟩
          · have e : kdn F S c = 2 := by have h1 := hb1 c_88; simp only [holdsB, gK_at hc] at h1; simp at h1; simp [kdn, h1]
            refine zw_iconst (v := 2) dS_kindOf_91 (by decide) ?_
            refine zw_goto 96 dS_kindOf_92 (by decide) ?_
            exact zw_iret dS_kindOf_96 rfl rfl rfl ⟨by rw [e]; rfl, rfl⟩
        · have e : kdn F S c = 3 := by have h1 := hb1 c_72; simp only [holdsB, gK_at hc] at h1; simp at h1; simp [kdn, h1]
          refine zw_iconst (v := 3) dS_kindOf_75 (by decide) ?_
          exact zw_iret dS_kindOf_76 rfl rfl rfl ⟨by rw [e]; rfl, rfl⟩
      · refine zw_aload_n dS_kindOf_44 rfl ?_
        refine zw_get dS_kindOf_45 zf_S_19 (by first | exact hS | exact hG) rfl ?_
        refine zw_iload_n dS_kindOf_48 rfl ?_
        refine zc_S2I dS_kindOf_49 zm_F_holds zk_S_72 (c_F_holds (a := some c) ho) ?_ zRR (Nat.le_of_ble_eq_true rfl) ⟨Nat.le_of_ble_eq_true rfl, Nat.le_of_ble_eq_true rfl⟩
        refine zw_if_eq 59 dS_kindOf_52 (by decide) (fun c_52 => ?_) (fun c_52 => ?_)
        · have e : kdn F S c = 4 := by have h1 := hb1 c_41; have h2 := hb0 c_52; simp only [holdsB, gK_at hc] at h1 h2; simp at h1; simp [kdn, h1, h2]
          refine zw_iconst (v := 4) dS_kindOf_59 (by decide) ?_
          exact zw_iret dS_kindOf_60 rfl rfl rfl ⟨by rw [e]; rfl, rfl⟩
        · have e : kdn F S c = 5 := by have h1 := hb1 c_41; have h2 := hb1 c_52; simp only [holdsB, gK_at hc] at h1 h2; simp at h1; simp [kdn, h1, h2]
          refine zw_iconst (v := 5) dS_kindOf_55 (by decide) ?_
          refine zw_goto 60 dS_kindOf_56 (by decide) ?_
          exact zw_iret dS_kindOf_60 rfl rfl rfl ⟨by rw [e]; rfl, rfl⟩
    · have e : kdn F S c = 0 := by have h1 := hb1 c_25; simp only [holdsB, gK_at hc] at h1; simp at h1; simp [kdn, h1]
      refine zw_iconst (v := 0) dS_kindOf_28 (by decide) ?_
      exact zw_iret dS_kindOf_29 rfl rfl rfl ⟨by rw [e]; rfl, rfl⟩
  · have e : kdn F S c = 6 := by have h1 : c = fD F := Classical.byContradiction fun q => q ((nI_eq (by omega) (by omega)).mp c_8); have := hkd.2.mpr h1; simp [kdn, this]
    refine zw_bipush (v := 6) dS_kindOf_11 (by decide) ?_
    exact zw_iret dS_kindOf_13 rfl rfl rfl ⟨by rw [e]; rfl, rfl⟩
theorem c_S_knowledgeOf (hS : h[k]? = some (sitC k S)) {c : Nat} (hc : c < 36) (hk2 : sKn S c ≤ 2) : Run l g mS_knowledgeOf (d + 2) 0 0 [.ref k, .int (nI c)] h (PI (nI (sKn S c)) h) := by
  refine run_of (by decide) (Nat.le_of_ble_eq_true rfl) ?_
  have ho : oOK (some c) := oOK_some (by omega)
  refine zw_aload_n dS_knowledgeOf_0 rfl ?_
  refine zw_get dS_knowledgeOf_1 zf_S_48 hS rfl ?_
  refine zw_iload_n dS_knowledgeOf_4 rfl ?_
  refine zc_S2I dS_knowledgeOf_5 zm_F_holds zk_S_72 (c_F_holds (a := some c) ho) ?_ zRR (Nat.le_of_ble_eq_true rfl) ⟨Nat.le_of_ble_eq_true rfl, Nat.le_of_ble_eq_true rfl⟩
  refine zw_if_eq 13 dS_knowledgeOf_8 (by decide) (fun c_8 => ?_) (fun c_8 => ?_)
  · refine zw_aload_n dS_knowledgeOf_13 rfl ?_
    refine zw_get dS_knowledgeOf_14 zf_S_51 hS rfl ?_
    refine zw_iload_n dS_knowledgeOf_17 rfl ?_
    refine zc_S2I dS_knowledgeOf_18 zm_F_holds zk_S_72 (c_F_holds (a := some c) ho) ?_ zRR (Nat.le_of_ble_eq_true rfl) ⟨Nat.le_of_ble_eq_true rfl, Nat.le_of_ble_eq_true rfl⟩
    refine zw_if_eq 28 dS_knowledgeOf_21 (by decide) (fun c_21 => ?_) (fun c_21 => ?_)
    · have e : sKn S c = 0 := by have h1 := hb0 c_8; have h2 := hb0 c_21; simp only [holdsB, kn1, kn2] at h1 h2; simp at h1 h2; omega
      refine zw_iconst (v := 0) dS_knowledgeOf_28 (by decide) ?_
      exact zw_iret dS_knowledgeOf_29 rfl rfl rfl ⟨by rw [e]; rfl, rfl⟩
    · have e : sKn S c = 2 := by have h1 := hb1 c_21; simp only [holdsB, kn2] at h1; simpa using h1
      refine zw_iconst (v := 2) dS_knowledgeOf_24 (by decide) ?_
      refine zw_goto 29 dS_knowledgeOf_25 (by decide) ?_
      exact zw_iret dS_knowledgeOf_29 rfl rfl rfl ⟨by rw [e]; rfl, rfl⟩
  · have e : sKn S c = 1 := by have h1 := hb1 c_8; simp only [holdsB, kn1] at h1; simpa using h1
    refine zw_iconst (v := 1) dS_knowledgeOf_11 (by decide) ?_
    exact zw_iret dS_knowledgeOf_12 rfl rfl rfl ⟨by rw [e]; rfl, rfl⟩
theorem c_S_homeOf (hF : fOK F) (hG : h[4]? = some (gC F)) (hS : h[k]? = some (sitC k S)) (hK : sub F (kn1 S)) {c : Nat} (hc : c < 36) : Run l g mS_homeOf (d + 2) 0 0 [.ref k, .int (nI c)] h (PI (dI (dst F (kn1 S) (some c) (fD F))) h) := by
  refine run_of (by decide) (Nat.le_of_ble_eq_true rfl) ?_
  have hd36 : fD F < 36 := by have := fN_le hF; have := hF.2.2.1; omega
  refine zw_aload_n dS_homeOf_0 rfl ?_
  refine zw_get dS_homeOf_1 zf_S_15 (by first | exact hS | exact hG) rfl ?_
  refine zw_iload_n dS_homeOf_4 rfl ?_
  refine zw_aload_n dS_homeOf_5 rfl ?_
  refine zw_get dS_homeOf_6 zf_S_15 (by first | exact hS | exact hG) rfl ?_
  refine zw_get dS_homeOf_9 zf_S_30 (by first | exact hS | exact hG) rfl ?_
  refine zw_aload_n dS_homeOf_12 rfl ?_
  refine zw_get dS_homeOf_13 zf_S_48 (by first | exact hS | exact hG) rfl ?_
  refine zc_V3I dS_homeOf_16 zm_G_stepsBetween zk_S_82 (by first | exact hS | exact hG) rfl (c_G_stepsBetween hF hG hK (a := some c) (oOK_some hc) hd36) ?_ zRR (Nat.le_of_ble_eq_true rfl) ⟨Nat.le_of_ble_eq_true rfl, Nat.le_of_ble_eq_true rfl⟩
  exact zw_iret dS_homeOf_19 rfl rfl rfl ⟨rfl, rfl⟩
theorem c_S_cellsThatMayShow (hF : fOK F) (hG : h[4]? = some (gC F)) (hS : h[k]? = some (sitC k S)) {t : Nat} (ht : t < 3) : Run l g mS_cellsThatMayShow d 0 0 [.ref k, .int (nI t)] h (PL (mset (mayS F S t)) h) := by
  refine run_of (by decide) (Nat.le_of_ble_eq_true rfl) ?_
  rcases (show t = 0 ∨ t = 1 ∨ t = 2 by omega) with rfl | rfl | rfl
  · refine zw_iload_n dS_cellsThatMayShow_0 rfl ?_
    refine zw_iconst (v := 2) dS_cellsThatMayShow_1 (by decide) ?_
    refine zw_icmp_ne 13 dS_cellsThatMayShow_2 (by decide) (fun c_2 => ?_) (fun c_2 => ?_)
    · refine zw_iload_n dS_cellsThatMayShow_13 rfl ?_
      refine zw_if_ne 24 dS_cellsThatMayShow_14 (by decide) (fun c_14 => ?_) (fun c_14 => ?_)
      · exact absurd c_14 (by decide)
      · refine zw_aload_n dS_cellsThatMayShow_17 rfl ?_
        refine zw_get dS_cellsThatMayShow_18 zf_S_51 (by first | exact hS | exact hG) rfl ?_
        refine zw_goto 28 dS_cellsThatMayShow_21 (by decide) ?_
        refine zw_lstore_n dS_cellsThatMayShow_28 (by decide) rfl ?_
        refine zw_aload_n dS_cellsThatMayShow_29 rfl ?_
        refine zw_get dS_cellsThatMayShow_30 zf_S_15 (by first | exact hS | exact hG) rfl ?_
        refine zw_get dS_cellsThatMayShow_33 zf_S_139 (by first | exact hS | exact hG) rfl ?_
        refine zw_aload_n dS_cellsThatMayShow_36 rfl ?_
        refine zw_get dS_cellsThatMayShow_37 zf_S_15 (by first | exact hS | exact hG) rfl ?_
        refine zw_get dS_cellsThatMayShow_40 zf_S_76 (by first | exact hS | exact hG) rfl ?_
        refine zw_ldc2 dS_cellsThatMayShow_43 zcl_S_70 ?_
        refine zw_lxor dS_cellsThatMayShow_46 ?_
        refine zw_land dS_cellsThatMayShow_47 ?_
        refine zw_lload_n dS_cellsThatMayShow_48 rfl ?_
        refine zw_aload_n dS_cellsThatMayShow_49 rfl ?_
        refine zw_get dS_cellsThatMayShow_50 zf_S_15 (by first | exact hS | exact hG) rfl ?_
        refine zw_get dS_cellsThatMayShow_53 zf_S_67 (by first | exact hS | exact hG) rfl ?_
        refine zw_ldc2 dS_cellsThatMayShow_56 zcl_S_70 ?_
        refine zw_lxor dS_cellsThatMayShow_59 ?_
        refine zw_land dS_cellsThatMayShow_60 ?_
        refine zw_ldc2 dS_cellsThatMayShow_61 zcl_S_70 ?_
        refine zw_lxor dS_cellsThatMayShow_64 ?_
        refine zw_land dS_cellsThatMayShow_65 ?_
        exact zw_lret dS_cellsThatMayShow_66 rfl rfl ⟨by rw [← mayS_01 F S (t := 0) (by decide)]; rfl, rfl⟩
    · exact absurd c_2 (by decide)
  · refine zw_iload_n dS_cellsThatMayShow_0 rfl ?_
    refine zw_iconst (v := 2) dS_cellsThatMayShow_1 (by decide) ?_
    refine zw_icmp_ne 13 dS_cellsThatMayShow_2 (by decide) (fun c_2 => ?_) (fun c_2 => ?_)
    · refine zw_iload_n dS_cellsThatMayShow_13 rfl ?_
      refine zw_if_ne 24 dS_cellsThatMayShow_14 (by decide) (fun c_14 => ?_) (fun c_14 => ?_)
      · refine zw_aload_n dS_cellsThatMayShow_24 rfl ?_
        refine zw_get dS_cellsThatMayShow_25 zf_S_48 (by first | exact hS | exact hG) rfl ?_
        refine zw_lstore_n dS_cellsThatMayShow_28 (by decide) rfl ?_
        refine zw_aload_n dS_cellsThatMayShow_29 rfl ?_
        refine zw_get dS_cellsThatMayShow_30 zf_S_15 (by first | exact hS | exact hG) rfl ?_
        refine zw_get dS_cellsThatMayShow_33 zf_S_139 (by first | exact hS | exact hG) rfl ?_
        refine zw_aload_n dS_cellsThatMayShow_36 rfl ?_
        refine zw_get dS_cellsThatMayShow_37 zf_S_15 (by first | exact hS | exact hG) rfl ?_
        refine zw_get dS_cellsThatMayShow_40 zf_S_76 (by first | exact hS | exact hG) rfl ?_
        refine zw_ldc2 dS_cellsThatMayShow_43 zcl_S_70 ?_
        refine zw_lxor dS_cellsThatMayShow_46 ?_
        refine zw_land dS_cellsThatMayShow_47 ?_
        refine zw_lload_n dS_cellsThatMayShow_48 rfl ?_
        refine zw_aload_n dS_cellsThatMayShow_49 rfl ?_
        refine zw_get dS_cellsThatMayShow_50 zf_S_15 (by first | exact hS | exact hG) rfl ?_
        refine zw_get dS_cellsThatMayShow_53 zf_S_67 (by first | exact hS | exact hG) rfl ?_
        refine zw_ldc2 dS_cellsThatMayShow_56 zcl_S_70 ?_
        refine zw_lxor dS_cellsThatMayShow_59 ?_
        refine zw_land dS_cellsThatMayShow_60 ?_
        refine zw_ldc2 dS_cellsThatMayShow_61 zcl_S_70 ?_
        refine zw_lxor dS_cellsThatMayShow_64 ?_
        refine zw_land dS_cellsThatMayShow_65 ?_
        exact zw_lret dS_cellsThatMayShow_66 rfl rfl ⟨by rw [← mayS_01 F S (t := 1) (by decide)]; rfl, rfl⟩
      · exact absurd c_14 (by decide)
    · exact absurd c_2 (by decide)
  · refine zw_iload_n dS_cellsThatMayShow_0 rfl ?_
    refine zw_iconst (v := 2) dS_cellsThatMayShow_1 (by decide) ?_
    refine zw_icmp_ne 13 dS_cellsThatMayShow_2 (by decide) (fun c_2 => ?_) (fun c_2 => ?_)
    · exact absurd rfl c_2
    · refine zw_aload_n dS_cellsThatMayShow_5 rfl ?_
      refine zw_get dS_cellsThatMayShow_6 zf_S_15 (by first | exact hS | exact hG) rfl ?_
      refine zw_get dS_cellsThatMayShow_9 zf_S_76 (by first | exact hS | exact hG) rfl ?_
      exact zw_lret dS_cellsThatMayShow_12 rfl rfl ⟨rfl, rfl⟩
theorem c_S_cellsThatMaySee (hF : fOK F) (hG : h[4]? = some (gC F)) (hS : h[k]? = some (sitC k S)) {t hand : Nat} (ht : t < 3) (hh : hand < 4) : Run l g mS_cellsThatMaySee (d + 1) 0 0 [.ref k, .int (nI t), .int (nI hand)] h (PL (mset (mayO F S t hand)) h) := by
  refine run_of (by decide) (Nat.le_of_ble_eq_true rfl) ?_
  have ho : (hand + 2) % 4 < 4 := Nat.mod_lt _ (by decide)
  by_cases h1 : t = 1
  · subst h1
    refine zw_iload_n dS_cellsThatMaySee_0 rfl ?_
    refine zw_iconst (v := 2) dS_cellsThatMaySee_1 (by decide) ?_
    refine zc_S2I dS_cellsThatMaySee_2 zm_F_turned zk_S_106 (c_F_turned (a := hand) (b := 2) hh (by decide)) ?_ zRR (Nat.le_of_ble_eq_true rfl) ⟨Nat.le_of_ble_eq_true rfl, Nat.le_of_ble_eq_true rfl⟩
    refine zw_istore_n dS_cellsThatMaySee_5 (by decide) rfl ?_
    refine zw_aload_n dS_cellsThatMaySee_6 rfl ?_
    refine zw_get dS_cellsThatMaySee_7 zf_S_15 (by first | exact hS | exact hG) rfl ?_
    refine zw_aload_n dS_cellsThatMaySee_10 rfl ?_
    refine zw_iload_n dS_cellsThatMaySee_11 rfl ?_
    refine zc_V1L dS_cellsThatMaySee_12 zm_S_cellsThatMayShow zk_S_121 (by first | exact hS | exact hG) rfl (c_S_cellsThatMayShow hF hG hS (by decide)) ?_ zRR (Nat.le_of_ble_eq_true rfl) ⟨Nat.le_of_ble_eq_true rfl, Nat.le_of_ble_eq_true rfl⟩
    refine zw_iload_n dS_cellsThatMaySee_15 rfl ?_
    refine zc_V2L dS_cellsThatMaySee_16 zm_G_beside zk_S_135 (by first | exact hS | exact hG) rfl (c_G_beside hF hG (mayS_sub F S 1) ho) ?_ zRR (Nat.le_of_ble_eq_true rfl) ⟨Nat.le_of_ble_eq_true rfl, Nat.le_of_ble_eq_true rfl⟩
    refine zw_lstore dS_cellsThatMaySee_19 (by decide) rfl ?_
    refine zw_iload_n dS_cellsThatMaySee_21 rfl ?_
    refine zw_iconst (v := 1) dS_cellsThatMaySee_22 (by decide) ?_
    refine zw_icmp_ne 58 dS_cellsThatMaySee_23 (by decide) (fun c_23 => ?_) (fun c_23 => ?_)
    · exact absurd rfl c_23
    · refine zw_lload dS_cellsThatMaySee_26 rfl ?_
      refine zw_aload_n dS_cellsThatMaySee_28 rfl ?_
      refine zw_get dS_cellsThatMaySee_29 zf_S_15 (by first | exact hS | exact hG) rfl ?_
      refine zw_get dS_cellsThatMaySee_32 zf_S_139 (by first | exact hS | exact hG) rfl ?_
      refine zw_aload_n dS_cellsThatMaySee_35 rfl ?_
      refine zw_get dS_cellsThatMaySee_36 zf_S_15 (by first | exact hS | exact hG) rfl ?_
      refine zw_aload_n dS_cellsThatMaySee_39 rfl ?_
      refine zw_get dS_cellsThatMaySee_40 zf_S_15 (by first | exact hS | exact hG) rfl ?_
      refine zw_get dS_cellsThatMaySee_43 zf_S_139 (by first | exact hS | exact hG) rfl ?_
      refine zw_iload_n dS_cellsThatMaySee_46 rfl ?_
      refine zc_V2L dS_cellsThatMaySee_47 zm_G_beside zk_S_135 (by first | exact hS | exact hG) rfl (c_G_beside hF hG (gAll_sub F) ho) ?_ zRR (Nat.le_of_ble_eq_true rfl) ⟨Nat.le_of_ble_eq_true rfl, Nat.le_of_ble_eq_true rfl⟩
      refine zw_ldc2 dS_cellsThatMaySee_50 zcl_S_70 ?_
      refine zw_lxor dS_cellsThatMaySee_53 ?_
      refine zw_land dS_cellsThatMaySee_54 ?_
      refine zw_lor dS_cellsThatMaySee_55 ?_
      refine zw_lstore dS_cellsThatMaySee_56 (by decide) rfl ?_
      refine zw_lload dS_cellsThatMaySee_58 rfl ?_
      exact zw_lret dS_cellsThatMaySee_60 rfl rfl ⟨by rw [← mayO_1 hF S hh], rfl⟩
  · refine zw_iload_n dS_cellsThatMaySee_0 rfl ?_
    refine zw_iconst (v := 2) dS_cellsThatMaySee_1 (by decide) ?_
    refine zc_S2I dS_cellsThatMaySee_2 zm_F_turned zk_S_106 (c_F_turned (a := hand) (b := 2) hh (by decide)) ?_ zRR (Nat.le_of_ble_eq_true rfl) ⟨Nat.le_of_ble_eq_true rfl, Nat.le_of_ble_eq_true rfl⟩
    refine zw_istore_n dS_cellsThatMaySee_5 (by decide) rfl ?_
    refine zw_aload_n dS_cellsThatMaySee_6 rfl ?_
    refine zw_get dS_cellsThatMaySee_7 zf_S_15 (by first | exact hS | exact hG) rfl ?_
    refine zw_aload_n dS_cellsThatMaySee_10 rfl ?_
    refine zw_iload_n dS_cellsThatMaySee_11 rfl ?_
    refine zc_V1L dS_cellsThatMaySee_12 zm_S_cellsThatMayShow zk_S_121 (by first | exact hS | exact hG) rfl (c_S_cellsThatMayShow hF hG hS ht) ?_ zRR (Nat.le_of_ble_eq_true rfl) ⟨Nat.le_of_ble_eq_true rfl, Nat.le_of_ble_eq_true rfl⟩
    refine zw_iload_n dS_cellsThatMaySee_15 rfl ?_
    refine zc_V2L dS_cellsThatMaySee_16 zm_G_beside zk_S_135 (by first | exact hS | exact hG) rfl (c_G_beside hF hG (mayS_sub F S t) ho) ?_ zRR (Nat.le_of_ble_eq_true rfl) ⟨Nat.le_of_ble_eq_true rfl, Nat.le_of_ble_eq_true rfl⟩
    refine zw_lstore dS_cellsThatMaySee_19 (by decide) rfl ?_
    refine zw_iload_n dS_cellsThatMaySee_21 rfl ?_
    refine zw_iconst (v := 1) dS_cellsThatMaySee_22 (by decide) ?_
    refine zw_icmp_ne 58 dS_cellsThatMaySee_23 (by decide) (fun c_23 => ?_) (fun c_23 => ?_)
    · refine zw_lload dS_cellsThatMaySee_58 rfl ?_
      exact zw_lret dS_cellsThatMaySee_60 rfl rfl ⟨by rw [← mayO_eq hF S hh h1], rfl⟩
    · exact absurd ((nI_eq (by omega) (by omega)).mp (show nI t = nI 1 from c_23)) h1
end C24
end
section
/-! ===== where it may be ===== -/
section C25
variable {l : Launch} {g : zG} {d : Nat} {h : zH} {F : Fl} {S : Sit} {k : Nat}
def mixP (a b : Nat → Nat → Bool) (i : Nat) : Nat → Int64 := fun j => mset (fun c => if j < i then b c j else a c j)
theorem mixP_0 (a b : Nat → Nat → Bool) : mixP a b 0 = fun j => mset (fun c => a c j) := by funext j; simp [mixP]
theorem mixP_up (a b : Nat → Nat → Bool) (i : Nat) : vp_updL (mixP a b i) i (mset (fun c => b c i)) = mixP a b (i + 1) := by
  funext j
  simp only [vp_updL, mixP]
  by_cases e : j = i
  · subst e; simp
  · have : (j < i + 1) ↔ j < i := by omega
    simp [e, this]
theorem mixP_at (a b : Nat → Nat → Bool) (i : Nat) : mixP a b i i = mset (fun c => a c i) := by simp [mixP]
theorem mixP_4 (a b : Nat → Nat → Bool) : ∀ j, j < 4 → mixP a b 4 j = mset (fun c => b c j) := by
  intro j hj
  simp [mixP, hj]
theorem nI4 {i : Nat} (h : i < 4) : vp_in (nI i) 4 := vp_in_nI h (by decide)
theorem cl4 {i : Nat} (h : i < 4) : (nI i).toNatClampNeg = i := nI_clamp (by omega)
theorem sit_pl (S : Sit) (pl : Nat → Nat → Bool) (k : Nat) : sitC k (setPl S pl) = sitC k S := rfl
theorem c_S_keepPlacesThatSee (hk4 : k ≠ 4 ∧ k + 1 ≠ 4) (hF : fOK F) (hG : h[4]? = some (gC F)) (hS : h[k]? = some (sitC k S)) (hp : h[k + 1]? = some (plC S)) {t q : Nat} (ht : t < 3) (hq : q < 4) : Run l g mS_keepPlacesThatSee (d + 2) 0 0 [.ref k, .int (nI t), .int (nI q)] h (PV (hs2 k (setPl S (keepP F S t q (sPl S))) h)) := by
  refine run_of (by decide) (Nat.le_of_ble_eq_true rfl) ?_
  have L : ∀ (m i : Nat), i + m = 4 → WW l g mS_keepPlacesThatSee (zrm (d + 2) 0 0) (fun _ => True) (zQQ g (PV (hs2 k (setPl S (keepP F S t q (sPl S))) h)) (h.length + 0) 0 0) 2 [(0, some (.ref k)), (1, some (.int (nI t))), (2, some (.int (nI q))), (3, some (.int (nI i)))] [] (h.set (k + 1) (.inl (1, 4, .inr (.inl (mixP (sPl S) (keepP F S t q (sPl S)) i))))) 0 0 := by
    intro m
    induction m with
    | zero =>
      intro i him
      have hi : i = 4 := by omega
      subst hi
      refine zw_extl (fun j => mset (fun c => keepP F S t q (sPl S) c j)) (zg_eq hp) (mixP_4 _ _) ?_
      refine zw_h (h2 := hs2 k (setPl S (keepP F S t q (sPl S))) h) ((zs_set _ _ _ _).trans (hs2_pl rfl rfl hS)) ?_
      refine zw_iload_n dS_keepPlacesThatSee_2 rfl ?_
      refine zw_iconst (v := 4) dS_keepPlacesThatSee_3 (by decide) ?_
      refine zw_icmp_ge 32 dS_keepPlacesThatSee_4 (by decide) (fun c_4 => ?_) (fun c_4 => ?_)
      · exact zw_vret dS_keepPlacesThatSee_32 rfl (by rw [hs2_len]; rfl) ⟨rfl, rfl⟩
      · exact absurd (by decide) c_4
    | succ m ih =>
      intro i him
      have hi : i < 4 := by omega
      have hS1 : (h.set (k + 1) (.inl (1, 4, .inr (.inl (mixP (sPl S) (keepP F S t q (sPl S)) i)))))[k]? = some (sitC k S) := zg_ne (by omega) hS
      have hG1 : (h.set (k + 1) (.inl (1, 4, .inr (.inl (mixP (sPl S) (keepP F S t q (sPl S)) i)))))[4]? = some (gC F) := zg_ne hk4.2 hG
      have hp1 : (h.set (k + 1) (.inl (1, 4, .inr (.inl (mixP (sPl S) (keepP F S t q (sPl S)) i)))))[k + 1]? = some (.inl (1, 4, .inr (.inl (mixP (sPl S) (keepP F S t q (sPl S)) i)))) := zg_eq hp
      have hm : (i + q) % 4 < 4 := Nat.mod_lt _ (by decide)
      refine zw_iload_n dS_keepPlacesThatSee_2 rfl ?_
      refine zw_iconst (v := 4) dS_keepPlacesThatSee_3 (by decide) ?_
      refine zw_icmp_ge 32 dS_keepPlacesThatSee_4 (by decide) (fun c_4 => ?_) (fun c_4 => ?_)
      · exact absurd ((nI_leI (a := 4) (b := i) (by omega) (by omega)).mp c_4) (by omega)
      · refine zw_aload_n dS_keepPlacesThatSee_7 rfl ?_
        refine zw_get dS_keepPlacesThatSee_8 zf_S_9 (by first | exact hS1 | exact hG1 | exact hp1) rfl ?_
        refine zw_iload_n dS_keepPlacesThatSee_11 rfl ?_
        refine zw_dup2 dS_keepPlacesThatSee_12 rfl rfl ?_
        refine zw_lald dS_keepPlacesThatSee_13 (by first | exact hS1 | exact hG1 | exact hp1) (nI4 hi) ?_
        rw [cl4 hi, mixP_at]
        refine zw_aload_n dS_keepPlacesThatSee_14 rfl ?_
        refine zw_iload_n dS_keepPlacesThatSee_15 rfl ?_
        refine zw_iload_n dS_keepPlacesThatSee_16 rfl ?_
        refine zw_iload_n dS_keepPlacesThatSee_17 rfl ?_
        refine zc_S2I dS_keepPlacesThatSee_18 zm_F_turned zk_S_106 (c_F_turned hi hq) ?_ zRR (Nat.le_of_ble_eq_true rfl) ⟨Nat.le_of_ble_eq_true rfl, Nat.le_of_ble_eq_true rfl⟩
        refine zc_V2L dS_keepPlacesThatSee_21 zm_S_cellsThatMaySee zk_S_131 (by first | exact hS1 | exact hG1 | exact hp1) rfl (c_S_cellsThatMaySee hF hG1 hS1 ht hm) ?_ zRR (Nat.le_of_ble_eq_true rfl) ⟨Nat.le_of_ble_eq_true rfl, Nat.le_of_ble_eq_true rfl⟩
        refine zw_land dS_keepPlacesThatSee_24 ?_
        rw [m_and]
        refine zw_last dS_keepPlacesThatSee_25 (by first | exact hS1 | exact hG1 | exact hp1) (nI4 hi) ?_
        refine zw_h (h2 := h.set (k + 1) (.inl (1, 4, .inr (.inl (mixP (sPl S) (keepP F S t q (sPl S)) (i + 1)))))) ?_ ?_
        · rw [zs_set, cl4 hi]
          rw [show mset (fun c => sPl S c i && mayO F S t ((i + q) % 4) c) = mset (fun c => keepP F S t q (sPl S) c i) from rfl, mixP_up]
        refine zw_incN dS_keepPlacesThatSee_26 rfl (by decide) rfl ?_
        refine zw_goto 2 dS_keepPlacesThatSee_29 (by decide) ?_
        exact zw_lk (ih (i + 1) (by omega)) ⟨rfl, rfl, rfl, rfl, trivial⟩
  have e0 : h = h.set (k + 1) (.inl (1, 4, .inr (.inl (mixP (sPl S) (keepP F S t q (sPl S)) 0)))) := by
    rw [mixP_0]; exact (zs_self hp).symm
  refine zw_iconst (v := 0) dS_keepPlacesThatSee_0 (by decide) ?_
  refine zw_istore_n dS_keepPlacesThatSee_1 (by decide) rfl ?_
  refine zw_h e0 ?_
  exact zw_lk (L 4 0 rfl) ⟨rfl, rfl, rfl, rfl, trivial⟩
theorem c_S_movePlacesAhead (hk4 : k ≠ 4 ∧ k + 1 ≠ 4) (hF : fOK F) (hG : h[4]? = some (gC F)) (hS : h[k]? = some (sitC k S)) (hp : h[k + 1]? = some (plC S)) (hsb : ∀ j, j < 4 → sub F (fun c => sPl S c j)) : Run l g mS_movePlacesAhead (d + 1) 0 0 [.ref k] h (PV (hs2 k (setPl S (moveP F (sPl S))) h)) := by
  refine run_of (by decide) (Nat.le_of_ble_eq_true rfl) ?_
  have L : ∀ (m i : Nat), i + m = 4 → WW l g mS_movePlacesAhead (zrm (d + 1) 0 0) (fun _ => True) (zQQ g (PV (hs2 k (setPl S (moveP F (sPl S))) h)) (h.length + 0) 0 0) 2 [(0, some (.ref k)), (1, some (.int (nI i)))] [] (h.set (k + 1) (.inl (1, 4, .inr (.inl (mixP (sPl S) (moveP F (sPl S)) i))))) 0 0 := by
    intro m
    induction m with
    | zero =>
      intro i him
      have hi : i = 4 := by omega
      subst hi
      refine zw_extl (fun j => mset (fun c => moveP F (sPl S) c j)) (zg_eq hp) (mixP_4 _ _) ?_
      refine zw_h (h2 := hs2 k (setPl S (moveP F (sPl S))) h) ((zs_set _ _ _ _).trans (hs2_pl rfl rfl hS)) ?_
      refine zw_iload_n dS_movePlacesAhead_2 rfl ?_
      refine zw_iconst (v := 4) dS_movePlacesAhead_3 (by decide) ?_
      refine zw_icmp_ge 33 dS_movePlacesAhead_4 (by decide) (fun c_4 => ?_) (fun c_4 => ?_)
      · exact zw_vret dS_movePlacesAhead_33 rfl (by rw [hs2_len]; rfl) ⟨rfl, rfl⟩
      · exact absurd (by decide) c_4
    | succ m ih =>
      intro i him
      have hi : i < 4 := by omega
      have hS1 : (h.set (k + 1) (.inl (1, 4, .inr (.inl (mixP (sPl S) (moveP F (sPl S)) i)))))[k]? = some (sitC k S) := zg_ne (by omega) hS
      have hG1 : (h.set (k + 1) (.inl (1, 4, .inr (.inl (mixP (sPl S) (moveP F (sPl S)) i)))))[4]? = some (gC F) := zg_ne hk4.2 hG
      have hp1 : (h.set (k + 1) (.inl (1, 4, .inr (.inl (mixP (sPl S) (moveP F (sPl S)) i)))))[k + 1]? = some (.inl (1, 4, .inr (.inl (mixP (sPl S) (moveP F (sPl S)) i)))) := zg_eq hp
      refine zw_iload_n dS_movePlacesAhead_2 rfl ?_
      refine zw_iconst (v := 4) dS_movePlacesAhead_3 (by decide) ?_
      refine zw_icmp_ge 33 dS_movePlacesAhead_4 (by decide) (fun c_4 => ?_) (fun c_4 => ?_)
      · exact absurd ((nI_leI (a := 4) (b := i) (by omega) (by omega)).mp c_4) (by omega)
      · refine zw_aload_n dS_movePlacesAhead_7 rfl ?_
        refine zw_get dS_movePlacesAhead_8 zf_S_9 (by first | exact hS1 | exact hG1 | exact hp1) rfl ?_
        refine zw_iload_n dS_movePlacesAhead_11 rfl ?_
        refine zw_aload_n dS_movePlacesAhead_12 rfl ?_
        refine zw_get dS_movePlacesAhead_13 zf_S_15 (by first | exact hS1 | exact hG1 | exact hp1) rfl ?_
        refine zw_aload_n dS_movePlacesAhead_16 rfl ?_
        refine zw_get dS_movePlacesAhead_17 zf_S_9 (by first | exact hS1 | exact hG1 | exact hp1) rfl ?_
        refine zw_iload_n dS_movePlacesAhead_20 rfl ?_
        refine zw_lald dS_movePlacesAhead_21 (by first | exact hS1 | exact hG1 | exact hp1) (nI4 hi) ?_
        rw [cl4 hi, mixP_at]
        refine zw_iload_n dS_movePlacesAhead_22 rfl ?_
        refine zc_V2L dS_movePlacesAhead_23 zm_G_beside zk_S_135 (by first | exact hS1 | exact hG1 | exact hp1) rfl (c_G_beside hF hG1 (hsb i hi) hi) ?_ zRR (Nat.le_of_ble_eq_true rfl) ⟨Nat.le_of_ble_eq_true rfl, Nat.le_of_ble_eq_true rfl⟩
        refine zw_last dS_movePlacesAhead_26 (by first | exact hS1 | exact hG1 | exact hp1) (nI4 hi) ?_
        refine zw_h (h2 := h.set (k + 1) (.inl (1, 4, .inr (.inl (mixP (sPl S) (moveP F (sPl S)) (i + 1)))))) ?_ ?_
        · rw [zs_set, cl4 hi]
          rw [show mset (bes F i (fun c => sPl S c i)) = mset (fun c => moveP F (sPl S) c i) from rfl, mixP_up]
        refine zw_incN dS_movePlacesAhead_27 rfl (by decide) rfl ?_
        refine zw_goto 2 dS_movePlacesAhead_30 (by decide) ?_
        exact zw_lk (ih (i + 1) (by omega)) ⟨rfl, rfl, trivial⟩
  have e0 : h = h.set (k + 1) (.inl (1, 4, .inr (.inl (mixP (sPl S) (moveP F (sPl S)) 0)))) := by
    rw [mixP_0]; exact (zs_self hp).symm
  refine zw_iconst (v := 0) dS_movePlacesAhead_0 (by decide) ?_
  refine zw_istore_n dS_movePlacesAhead_1 (by decide) rfl ?_
  refine zw_h e0 ?_
  exact zw_lk (L 4 0 rfl) ⟨rfl, rfl, trivial⟩
theorem c_S_turnPlaces (hS : h[k]? = some (sitC k S)) (hp : h[k + 1]? = some (plC S)) : Run l g mS_turnPlaces d 0 0 [.ref k] h (PV (hs2 k (setPl S (turnP 1 (sPl S))) h)) := by
  refine run_of (by decide) (Nat.le_of_ble_eq_true rfl) ?_
  refine zw_aload_n dS_turnPlaces_0 rfl ?_
  refine zw_get dS_turnPlaces_1 zf_S_9 (by first | exact hS | exact hp | exact zg_ne (by omega) hS | exact zg_eq hp | exact zg_ne (by omega) (zg_ne (by omega) hS) | exact zg_eq (zg_eq hp) | exact zg_ne (by omega) (zg_ne (by omega) (zg_ne (by omega) hS)) | exact zg_eq (zg_eq (zg_eq hp))) rfl ?_
  refine zw_iconst (v := 3) dS_turnPlaces_4 (by decide) ?_
  refine zw_lald dS_turnPlaces_5 (by first | exact hS | exact hp | exact zg_ne (by omega) hS | exact zg_eq hp | exact zg_ne (by omega) (zg_ne (by omega) hS) | exact zg_eq (zg_eq hp) | exact zg_ne (by omega) (zg_ne (by omega) (zg_ne (by omega) hS)) | exact zg_eq (zg_eq (zg_eq hp))) (nI4 (i := 3) (by decide)) ?_
  refine zw_lstore_n dS_turnPlaces_6 (by decide) rfl ?_
  refine zw_aload_n dS_turnPlaces_7 rfl ?_
  refine zw_get dS_turnPlaces_8 zf_S_9 (by first | exact hS | exact hp | exact zg_ne (by omega) hS | exact zg_eq hp | exact zg_ne (by omega) (zg_ne (by omega) hS) | exact zg_eq (zg_eq hp) | exact zg_ne (by omega) (zg_ne (by omega) (zg_ne (by omega) hS)) | exact zg_eq (zg_eq (zg_eq hp))) rfl ?_
  refine zw_iconst (v := 3) dS_turnPlaces_11 (by decide) ?_
  refine zw_aload_n dS_turnPlaces_12 rfl ?_
  refine zw_get dS_turnPlaces_13 zf_S_9 (by first | exact hS | exact hp | exact zg_ne (by omega) hS | exact zg_eq hp | exact zg_ne (by omega) (zg_ne (by omega) hS) | exact zg_eq (zg_eq hp) | exact zg_ne (by omega) (zg_ne (by omega) (zg_ne (by omega) hS)) | exact zg_eq (zg_eq (zg_eq hp))) rfl ?_
  refine zw_iconst (v := 2) dS_turnPlaces_16 (by decide) ?_
  refine zw_lald dS_turnPlaces_17 (by first | exact hS | exact hp | exact zg_ne (by omega) hS | exact zg_eq hp | exact zg_ne (by omega) (zg_ne (by omega) hS) | exact zg_eq (zg_eq hp) | exact zg_ne (by omega) (zg_ne (by omega) (zg_ne (by omega) hS)) | exact zg_eq (zg_eq (zg_eq hp))) (nI4 (i := 2) (by decide)) ?_
  refine zw_last dS_turnPlaces_18 (by first | exact hS | exact hp | exact zg_ne (by omega) hS | exact zg_eq hp | exact zg_ne (by omega) (zg_ne (by omega) hS) | exact zg_eq (zg_eq hp) | exact zg_ne (by omega) (zg_ne (by omega) (zg_ne (by omega) hS)) | exact zg_eq (zg_eq (zg_eq hp))) (nI4 (i := 3) (by decide)) ?_
  refine zw_aload_n dS_turnPlaces_19 rfl ?_
  refine zw_get dS_turnPlaces_20 zf_S_9 (by first | exact hS | exact hp | exact zg_ne (by omega) hS | exact zg_eq hp | exact zg_ne (by omega) (zg_ne (by omega) hS) | exact zg_eq (zg_eq hp) | exact zg_ne (by omega) (zg_ne (by omega) (zg_ne (by omega) hS)) | exact zg_eq (zg_eq (zg_eq hp))) rfl ?_
  refine zw_iconst (v := 2) dS_turnPlaces_23 (by decide) ?_
  refine zw_aload_n dS_turnPlaces_24 rfl ?_
  refine zw_get dS_turnPlaces_25 zf_S_9 (by first | exact hS | exact hp | exact zg_ne (by omega) hS | exact zg_eq hp | exact zg_ne (by omega) (zg_ne (by omega) hS) | exact zg_eq (zg_eq hp) | exact zg_ne (by omega) (zg_ne (by omega) (zg_ne (by omega) hS)) | exact zg_eq (zg_eq (zg_eq hp))) rfl ?_
  refine zw_iconst (v := 1) dS_turnPlaces_28 (by decide) ?_
  refine zw_lald dS_turnPlaces_29 (by first | exact hS | exact hp | exact zg_ne (by omega) hS | exact zg_eq hp | exact zg_ne (by omega) (zg_ne (by omega) hS) | exact zg_eq (zg_eq hp) | exact zg_ne (by omega) (zg_ne (by omega) (zg_ne (by omega) hS)) | exact zg_eq (zg_eq (zg_eq hp))) (nI4 (i := 1) (by decide)) ?_
  refine zw_last dS_turnPlaces_30 (by first | exact hS | exact hp | exact zg_ne (by omega) hS | exact zg_eq hp | exact zg_ne (by omega) (zg_ne (by omega) hS) | exact zg_eq (zg_eq hp) | exact zg_ne (by omega) (zg_ne (by omega) (zg_ne (by omega) hS)) | exact zg_eq (zg_eq (zg_eq hp))) (nI4 (i := 2) (by decide)) ?_
  refine zw_aload_n dS_turnPlaces_31 rfl ?_
  refine zw_get dS_turnPlaces_32 zf_S_9 (by first | exact hS | exact hp | exact zg_ne (by omega) hS | exact zg_eq hp | exact zg_ne (by omega) (zg_ne (by omega) hS) | exact zg_eq (zg_eq hp) | exact zg_ne (by omega) (zg_ne (by omega) (zg_ne (by omega) hS)) | exact zg_eq (zg_eq (zg_eq hp))) rfl ?_
  refine zw_iconst (v := 1) dS_turnPlaces_35 (by decide) ?_
  refine zw_aload_n dS_turnPlaces_36 rfl ?_
  refine zw_get dS_turnPlaces_37 zf_S_9 (by first | exact hS | exact hp | exact zg_ne (by omega) hS | exact zg_eq hp | exact zg_ne (by omega) (zg_ne (by omega) hS) | exact zg_eq (zg_eq hp) | exact zg_ne (by omega) (zg_ne (by omega) (zg_ne (by omega) hS)) | exact zg_eq (zg_eq (zg_eq hp))) rfl ?_
  refine zw_iconst (v := 0) dS_turnPlaces_40 (by decide) ?_
  refine zw_lald dS_turnPlaces_41 (by first | exact hS | exact hp | exact zg_ne (by omega) hS | exact zg_eq hp | exact zg_ne (by omega) (zg_ne (by omega) hS) | exact zg_eq (zg_eq hp) | exact zg_ne (by omega) (zg_ne (by omega) (zg_ne (by omega) hS)) | exact zg_eq (zg_eq (zg_eq hp))) (nI4 (i := 0) (by decide)) ?_
  refine zw_last dS_turnPlaces_42 (by first | exact hS | exact hp | exact zg_ne (by omega) hS | exact zg_eq hp | exact zg_ne (by omega) (zg_ne (by omega) hS) | exact zg_eq (zg_eq hp) | exact zg_ne (by omega) (zg_ne (by omega) (zg_ne (by omega) hS)) | exact zg_eq (zg_eq (zg_eq hp))) (nI4 (i := 1) (by decide)) ?_
  refine zw_aload_n dS_turnPlaces_43 rfl ?_
  refine zw_get dS_turnPlaces_44 zf_S_9 (by first | exact hS | exact hp | exact zg_ne (by omega) hS | exact zg_eq hp | exact zg_ne (by omega) (zg_ne (by omega) hS) | exact zg_eq (zg_eq hp) | exact zg_ne (by omega) (zg_ne (by omega) (zg_ne (by omega) hS)) | exact zg_eq (zg_eq (zg_eq hp))) rfl ?_
  refine zw_iconst (v := 0) dS_turnPlaces_47 (by decide) ?_
  refine zw_lload_n dS_turnPlaces_48 rfl ?_
  refine zw_last dS_turnPlaces_49 (by first | exact hS | exact hp | exact zg_ne (by omega) hS | exact zg_eq hp | exact zg_ne (by omega) (zg_ne (by omega) hS) | exact zg_eq (zg_eq hp) | exact zg_ne (by omega) (zg_ne (by omega) (zg_ne (by omega) hS)) | exact zg_eq (zg_eq (zg_eq hp))) (nI4 (i := 0) (by decide)) ?_
  refine zw_extl (fun j => mset (fun c => turnP 1 (sPl S) c j)) (zg_eq (zg_eq (zg_eq (zg_eq hp)))) ?_ ?_
  · intro j hj
    rcases (show j = 0 ∨ j = 1 ∨ j = 2 ∨ j = 3 by omega) with rfl | rfl | rfl | rfl <;> rfl
  refine zw_h (h2 := hs2 k (setPl S (turnP 1 (sPl S))) h) ?_ ?_
  · rw [zs_set, zs_set, zs_set, zs_set]
    exact hs2_pl rfl rfl hS
  exact zw_vret dS_turnPlaces_50 rfl (by rw [hs2_len]; rfl) ⟨rfl, rfl⟩
theorem c_S_placeCount (hS : h[k]? = some (sitC k S)) (hp : h[k + 1]? = some (plC S)) : Run l g mS_placeCount (d + 1) 0 0 [.ref k] h (PI (if sLost S = true then nI (many (sPl S)) else 1) h) := by
  refine run_of (by decide) (Nat.le_of_ble_eq_true rfl) ?_
  cases hl : sLost S with
  | false =>
    have hS0 : h[k]? = some (.inr (3, [.ref 4, .long (mset (sShut S)), .int (nI (sBrim S)), .int (nI (sRate S)), .int (nI (sAt S)), .int (nI (sHd S)), .int (nI (sCh S)), .long (mset (kn1 S)), .long (mset (kn2 S)), .int 0, .ref (k + 1)])) := by rw [hS]; simp [sitC, hl]
    refine zw_aload_n dS_placeCount_0 rfl ?_
    refine zw_get dS_placeCount_1 zf_S_54 hS0 rfl ?_
    refine zw_if_ne 9 dS_placeCount_4 (by decide) (fun c_4 => ?_) (fun c_4 => ?_)
    · exact absurd rfl c_4
    · refine zw_iconst (v := 1) dS_placeCount_7 (by decide) ?_
      exact zw_iret dS_placeCount_8 rfl rfl rfl ⟨rfl, rfl⟩
  | true =>
    have hS0 : h[k]? = some (.inr (3, [.ref 4, .long (mset (sShut S)), .int (nI (sBrim S)), .int (nI (sRate S)), .int (nI (sAt S)), .int (nI (sHd S)), .int (nI (sCh S)), .long (mset (kn1 S)), .long (mset (kn2 S)), .int 1, .ref (k + 1)])) := by rw [hS]; simp [sitC, hl]
    have L : ∀ (m i : Nat) (x : Nat), i + m = 4 → x + (if i < 1 then cnt (fun c => sPl S c 0) 36 else 0) + (if i < 2 then cnt (fun c => sPl S c 1) 36 else 0) + (if i < 3 then cnt (fun c => sPl S c 2) 36 else 0) + (if i < 4 then cnt (fun c => sPl S c 3) 36 else 0) = many (sPl S) → WW l g mS_placeCount (zrm (d + 1) 0 0) (fun _ => True) (zQQ g (PI (if true = true then nI (many (sPl S)) else 1) h) (h.length + 0) 0 0) 13 [(0, some (.ref k)), (1, some (.int (nI x))), (2, some (.int (nI i)))] [] h 0 0 := by
      intro m
      induction m with
      | zero =>
        intro i x him hx
        have hi : i = 4 := by omega
        subst hi
        refine zw_iload_n dS_placeCount_13 rfl ?_
        refine zw_iconst (v := 4) dS_placeCount_14 (by decide) ?_
        refine zw_icmp_ge 36 dS_placeCount_15 (by decide) (fun c_15 => ?_) (fun c_15 => ?_)
        · refine zw_iload_n dS_placeCount_36 rfl ?_
          exact zw_iret dS_placeCount_37 rfl rfl rfl ⟨by simp at hx; rw [hx]; rfl, rfl⟩
        · exact absurd (by decide) c_15
      | succ m ih =>
        intro i x him hx
        have hi : i < 4 := by omega
        refine zw_iload_n dS_placeCount_13 rfl ?_
        refine zw_iconst (v := 4) dS_placeCount_14 (by decide) ?_
        refine zw_icmp_ge 36 dS_placeCount_15 (by decide) (fun c_15 => ?_) (fun c_15 => ?_)
        · exact absurd ((nI_leI (a := 4) (b := i) (by omega) (by omega)).mp c_15) (by omega)
        · refine zw_iload_n dS_placeCount_18 rfl ?_
          refine zw_aload_n dS_placeCount_19 rfl ?_
          refine zw_get dS_placeCount_20 zf_S_9 (by first | exact hS0 | exact hp) rfl ?_
          refine zw_iload_n dS_placeCount_23 rfl ?_
          refine zw_lald dS_placeCount_24 (by first | exact hS0 | exact hp) (nI4 hi) ?_
          rw [cl4 hi]
          refine zc_S1I dS_placeCount_25 zm_J_bitCount zk_S_142 c_J_bitCount ?_ zRR (Nat.le_of_ble_eq_true rfl) ⟨Nat.le_of_ble_eq_true rfl, Nat.le_of_ble_eq_true rfl⟩
          refine zw_iadd dS_placeCount_28 ?_
          rw [nI_add]
          refine zw_istore_n dS_placeCount_29 (by decide) rfl ?_
          refine zw_incN dS_placeCount_30 rfl (by decide) rfl ?_
          refine zw_goto 13 dS_placeCount_33 (by decide) ?_
          refine zw_lk (ih (i + 1) (x + cnt (fun c => sPl S c i) 36) (by omega) ?_) ⟨rfl, rfl, rfl, trivial⟩
          rcases (show i = 0 ∨ i = 1 ∨ i = 2 ∨ i = 3 by omega) with rfl | rfl | rfl | rfl <;> simp at hx ⊢ <;> omega
    refine zw_aload_n dS_placeCount_0 rfl ?_
    refine zw_get dS_placeCount_1 zf_S_54 hS0 rfl ?_
    refine zw_if_ne 9 dS_placeCount_4 (by decide) (fun c_4 => ?_) (fun c_4 => ?_)
    · refine zw_iconst (v := 0) dS_placeCount_9 (by decide) ?_
      refine zw_istore_n dS_placeCount_10 (by decide) rfl ?_
      refine zw_iconst (v := 0) dS_placeCount_11 (by decide) ?_
      refine zw_istore_n dS_placeCount_12 (by decide) rfl ?_
      exact zw_lk (L 4 0 0 rfl (by simp [many])) ⟨rfl, rfl, rfl, trivial⟩
    · exact absurd c_4 (by decide)
theorem many_lt (pl : Nat → Nat → Bool) : many pl ≤ 144 := by
  have := cnt_le (fun c => pl c 0) 36
  have := cnt_le (fun c => pl c 1) 36
  have := cnt_le (fun c => pl c 2) 36
  have := cnt_le (fun c => pl c 3) 36
  unfold many
  omega
theorem found_eq (S : Sit) : found S = if (if sLost S = true then nI (many (sPl S)) else 1) = 1 then setLost S false else S := by
  unfold found
  cases hl : sLost S with
  | false =>
    simp
    unfold setLost
    rw [← hl]
    rfl
  | true =>
    have h1 := many_lt (sPl S)
    have this : nI (many (sPl S)) = 1 ↔ many (sPl S) = 1 := nI_eq (a := many (sPl S)) (b := 1) (by omega) (by decide)
    rw [show (if true = true then nI (many (sPl S)) else 1) = nI (many (sPl S)) from rfl]
    by_cases hm : many (sPl S) = 1
    · rw [if_pos ⟨rfl, hm⟩, if_pos (this.mpr hm)]
    · rw [if_neg (fun q => hm q.2), if_neg (fun q => hm (this.mp q))]
theorem c_S_beFoundIfSure (hS : h[k]? = some (sitC k S)) (hp : h[k + 1]? = some (plC S)) : Run l g mS_beFoundIfSure (d + 2) 0 0 [.ref k] h (PV (hs2 k (found S) h)) := by
  refine run_of (by decide) (Nat.le_of_ble_eq_true rfl) ?_
  refine zw_aload_n dS_beFoundIfSure_0 rfl ?_
  refine zc_V0I dS_beFoundIfSure_1 zm_S_placeCount zk_S_124 hS rfl (c_S_placeCount hS hp) ?_ zRR (Nat.le_of_ble_eq_true rfl) ⟨Nat.le_of_ble_eq_true rfl, Nat.le_of_ble_eq_true rfl⟩
  refine zw_iconst (v := 1) dS_beFoundIfSure_4 (by decide) ?_
  refine zw_icmp_ne 13 dS_beFoundIfSure_5 (by decide) (fun c_5 => ?_) (fun c_5 => ?_)
  · exact zw_vret dS_beFoundIfSure_13 rfl (by first | rfl | (rw [hs2_len]; rfl)) ⟨rfl, by first | (rw [found_eq, if_pos c_5]) | (rw [found_eq, if_neg c_5, hs2_self hS hp])⟩
  · refine zw_aload_n dS_beFoundIfSure_8 rfl ?_
    refine zw_iconst (v := 0) dS_beFoundIfSure_9 (by decide) ?_
    refine zw_put dS_beFoundIfSure_10 zf_S_54 hS rfl rfl (Nat.le_of_ble_eq_true rfl) ?_
    refine zw_h (h2 := hs2 k (setLost S false) h) (hs2_sit (S := S) rfl rfl hp) ?_
    exact zw_vret dS_beFoundIfSure_13 rfl (by first | rfl | (rw [hs2_len]; rfl)) ⟨rfl, by first | (rw [found_eq, if_pos c_5]) | (rw [found_eq, if_neg c_5, hs2_self hS hp])⟩
end C25
end
section
/-! ===== steps, turns, scans ===== -/
theorem lost0 {b : Bool} (c : (if b = true then (1 : Int32) else 0) = 0) : b = false := by cases b with | false => rfl | true => exact absurd c (by decide)
theorem lost1 {b : Bool} (c : ¬ (if b = true then (1 : Int32) else 0) = 0) : b = true := by cases b with | true => rfl | false => exact absurd rfl c
theorem keepP_sub {F : Fl} {S : Sit} {t q : Nat} {pl : Nat → Nat → Bool} (j : Nat) : sub F (fun c => keepP F S t q pl c j) := by
  intro i hi
  simp only [keepP, Bool.and_eq_true, decide_eq_true_eq] at hi
  exact hi.2.1
section C26
variable {l : Launch} {g : zG} {d : Nat} {h : zH} {F : Fl} {S : Sit} {k : Nat}
theorem c_S_sortOutBy (hk4 : k ≠ 4 ∧ k + 1 ≠ 4) (hF : fOK F) (hG : h[4]? = some (gC F)) (hS : h[k]? = some (sitC k S)) (hp : h[k + 1]? = some (plC S)) {out : Nat} (ho : out < 4) : Run l g mS_sortOutBy (d + 3) 0 0 [.ref k, .int (nI out)] h (PV (hs2 k (sortP F S out) h)) := by
  refine run_of (by decide) (Nat.le_of_ble_eq_true rfl) ?_
  by_cases h0 : out = 0
  · subst h0
    have hS1 : (hs2 k (setPl S (keepP F S 0 0 (sPl S))) h)[k]? = some (sitC k (setPl S (keepP F S 0 0 (sPl S)))) := hs2_k hS
    have hp1 : (hs2 k (setPl S (keepP F S 0 0 (sPl S))) h)[k + 1]? = some (plC (setPl S (keepP F S 0 0 (sPl S)))) := hs2_p hp
    have hG1 : (hs2 k (setPl S (keepP F S 0 0 (sPl S))) h)[4]? = some (gC F) := hs2_ne hk4.1 hk4.2 hG
    have hS2 : (hs2 k (setPl S (moveP F (keepP F S 0 0 (sPl S)))) h)[k]? = some (sitC k (setPl S (moveP F (keepP F S 0 0 (sPl S))))) := hs2_k hS
    have hp2 : (hs2 k (setPl S (moveP F (keepP F S 0 0 (sPl S)))) h)[k + 1]? = some (plC (setPl S (moveP F (keepP F S 0 0 (sPl S))))) := hs2_p hp
    refine zw_iload_n dS_sortOutBy_0 rfl ?_
    refine zw_if_ne 17 dS_sortOutBy_1 (by decide) (fun c_1 => ?_) (fun c_1 => ?_)
    · exact absurd rfl c_1
    · refine zw_aload_n dS_sortOutBy_4 rfl ?_
      refine zw_iconst (v := 0) dS_sortOutBy_5 (by decide) ?_
      refine zw_iconst (v := 0) dS_sortOutBy_6 (by decide) ?_
      refine zc_V2V dS_sortOutBy_7 zm_S_keepPlacesThatSee zk_S_118 (by first | exact hS | exact hS1 | exact hS2) rfl (c_S_keepPlacesThatSee (t := 0) (q := 0) hk4 hF hG hS hp (by decide) (by decide)) ?_ zRR (Nat.le_of_ble_eq_true rfl) ⟨Nat.le_of_ble_eq_true rfl, Nat.le_of_ble_eq_true rfl⟩
      refine zw_aload_n dS_sortOutBy_10 rfl ?_
      refine zc_V0V dS_sortOutBy_11 zm_S_movePlacesAhead zk_S_128 (by first | exact hS | exact hS1 | exact hS2) rfl (c_S_movePlacesAhead hk4 hF hG1 hS1 hp1 (fun j _ => keepP_sub j)) ?_ zRR (Nat.le_of_ble_eq_true rfl) ⟨Nat.le_of_ble_eq_true rfl, Nat.le_of_ble_eq_true rfl⟩
      refine zw_h (h2 := hs2 k (setPl S (moveP F (keepP F S 0 0 (sPl S)))) h) (hs2_hs2 _ _ _ _) ?_
      refine zw_goto 32 dS_sortOutBy_14 (by decide) ?_
      refine zw_aload_n dS_sortOutBy_32 rfl ?_
      refine zc_V0V dS_sortOutBy_33 zm_S_beFoundIfSure zk_S_112 (by first | exact hS | exact hS1 | exact hS2) rfl (c_S_beFoundIfSure hS2 hp2) ?_ zRR (Nat.le_of_ble_eq_true rfl) ⟨Nat.le_of_ble_eq_true rfl, Nat.le_of_ble_eq_true rfl⟩
      exact zw_vret dS_sortOutBy_36 rfl (by rw [hs2_len, hs2_len]; rfl) ⟨rfl, by rw [hs2_hs2]; rfl⟩
  · have hS1 : (hs2 k (setPl S (keepP F S (if out = 3 then 2 else 1) 0 (sPl S))) h)[k]? = some (sitC k (setPl S (keepP F S (if out = 3 then 2 else 1) 0 (sPl S)))) := hs2_k hS
    have hp1 : (hs2 k (setPl S (keepP F S (if out = 3 then 2 else 1) 0 (sPl S))) h)[k + 1]? = some (plC (setPl S (keepP F S (if out = 3 then 2 else 1) 0 (sPl S)))) := hs2_p hp
    have e : sortP F S out = found (setPl S (keepP F S (if out = 3 then 2 else 1) 0 (sPl S))) := by unfold sortP; rw [if_neg h0]
    rw [e]
    by_cases h3 : out = 3
    · rw [if_pos h3] at hS1 hp1 ⊢
      subst h3
      refine zw_iload_n dS_sortOutBy_0 rfl ?_
      refine zw_if_ne 17 dS_sortOutBy_1 (by decide) (fun c_1 => ?_) (fun c_1 => ?_)
      · refine zw_aload_n dS_sortOutBy_17 rfl ?_
        refine zw_iload_n dS_sortOutBy_18 rfl ?_
        refine zw_iconst (v := 3) dS_sortOutBy_19 (by decide) ?_
        refine zw_icmp_ne 27 dS_sortOutBy_20 (by decide) (fun c_20 => ?_) (fun c_20 => ?_)
        · exact absurd rfl c_20
        · refine zw_iconst (v := 2) dS_sortOutBy_23 (by decide) ?_
          refine zw_goto 28 dS_sortOutBy_24 (by decide) ?_
          refine zw_iconst (v := 0) dS_sortOutBy_28 (by decide) ?_
          refine zc_V2V dS_sortOutBy_29 zm_S_keepPlacesThatSee zk_S_118 (by first | exact hS | exact hS1) rfl (c_S_keepPlacesThatSee (t := 2) (q := 0) hk4 hF hG hS hp (by decide) (by decide)) ?_ zRR (Nat.le_of_ble_eq_true rfl) ⟨Nat.le_of_ble_eq_true rfl, Nat.le_of_ble_eq_true rfl⟩
          refine zw_aload_n dS_sortOutBy_32 rfl ?_
          refine zc_V0V dS_sortOutBy_33 zm_S_beFoundIfSure zk_S_112 (by first | exact hS | exact hS1) rfl (c_S_beFoundIfSure hS1 hp1) ?_ zRR (Nat.le_of_ble_eq_true rfl) ⟨Nat.le_of_ble_eq_true rfl, Nat.le_of_ble_eq_true rfl⟩
          exact zw_vret dS_sortOutBy_36 rfl (by rw [hs2_len, hs2_len]; rfl) ⟨rfl, by rw [hs2_hs2]⟩
      · exact absurd c_1 (by decide)
    · rw [if_neg h3] at hS1 hp1 ⊢
      refine zw_iload_n dS_sortOutBy_0 rfl ?_
      refine zw_if_ne 17 dS_sortOutBy_1 (by decide) (fun c_1 => ?_) (fun c_1 => ?_)
      · refine zw_aload_n dS_sortOutBy_17 rfl ?_
        refine zw_iload_n dS_sortOutBy_18 rfl ?_
        refine zw_iconst (v := 3) dS_sortOutBy_19 (by decide) ?_
        refine zw_icmp_ne 27 dS_sortOutBy_20 (by decide) (fun c_20 => ?_) (fun c_20 => ?_)
        · refine zw_iconst (v := 1) dS_sortOutBy_27 (by decide) ?_
          refine zw_iconst (v := 0) dS_sortOutBy_28 (by decide) ?_
          refine zc_V2V dS_sortOutBy_29 zm_S_keepPlacesThatSee zk_S_118 (by first | exact hS | exact hS1) rfl (c_S_keepPlacesThatSee (t := 1) (q := 0) hk4 hF hG hS hp (by decide) (by decide)) ?_ zRR (Nat.le_of_ble_eq_true rfl) ⟨Nat.le_of_ble_eq_true rfl, Nat.le_of_ble_eq_true rfl⟩
          refine zw_aload_n dS_sortOutBy_32 rfl ?_
          refine zc_V0V dS_sortOutBy_33 zm_S_beFoundIfSure zk_S_112 (by first | exact hS | exact hS1) rfl (c_S_beFoundIfSure hS1 hp1) ?_ zRR (Nat.le_of_ble_eq_true rfl) ⟨Nat.le_of_ble_eq_true rfl, Nat.le_of_ble_eq_true rfl⟩
          exact zw_vret dS_sortOutBy_36 rfl (by rw [hs2_len, hs2_len]; rfl) ⟨rfl, by rw [hs2_hs2]⟩
        · exact absurd ((nI_eq (a := out) (b := 3) (by omega) (by decide)).mp c_20) h3
      · exact absurd ((nI_eq (a := out) (b := 0) (by omega) (by decide)).mp c_1) h0
theorem m_or_none (p : Nat → Bool) : mset p ||| mset (oneO none) = mset p := by rw [oneO_none, m_or]; simp
theorem m_andn_none (p : Nat → Bool) : mset p &&& (mset (oneO none) ^^^ (-1)) = mset p := by rw [oneO_none, m_andn]; simp
theorem lrn_a (S : Sit) (c : Nat) : mset (kn1 S) ||| mset (oneO (some c)) = mset (kn1 (lrn S (some c) 0)) := by
  rw [m_or, oneO_some]
  apply mset_congr
  intro i _
  show (sKn S i == 1 || i == c) = ((if i = c then 1 else sKn S i) == 1)
  by_cases e : i = c <;> simp [e]
theorem lrn_b (S : Sit) (c : Nat) : mset (kn2 S) &&& (mset (oneO (some c)) ^^^ (-1)) = mset (kn2 (lrn S (some c) 0)) := by
  rw [m_andn, oneO_some]
  apply mset_congr
  intro i _
  show (sKn S i == 2 && !(i == c)) = ((if i = c then 1 else sKn S i) == 2)
  by_cases e : i = c <;> simp [e]
theorem lrn_2 (S : Sit) (c : Nat) {out : Nat} (h0 : out ≠ 0) (h3 : out ≠ 3) : lrn S (some c) out = setKn S (fun i => if i = c then 2 else sKn S i) := by simp [lrn, h0, h3]
theorem lrn_c (S : Sit) (c : Nat) : mset (kn2 S) ||| mset (oneO (some c)) = mset (kn2 (setKn S (fun i => if i = c then 2 else sKn S i))) := by
  rw [m_or, oneO_some]
  apply mset_congr
  intro i _
  show (sKn S i == 2 || i == c) = ((if i = c then 2 else sKn S i) == 2)
  by_cases e : i = c <;> simp [e]
theorem lrn_d (S : Sit) (c : Nat) : mset (kn1 S) &&& (mset (oneO (some c)) ^^^ (-1)) = mset (kn1 (setKn S (fun i => if i = c then 2 else sKn S i))) := by
  rw [m_andn, oneO_some]
  apply mset_congr
  intro i _
  show (sKn S i == 1 && !(i == c)) = ((if i = c then 2 else sKn S i) == 1)
  by_cases e : i = c <;> simp [e]
theorem c_S_learn (hS : h[k]? = some (sitC k S)) (hp : h[k + 1]? = some (plC S)) {o : Option Nat} (ho : oOK o) {out : Nat} (hout : out < 4) : Run l g mS_learn (d + 1) 0 0 [.ref k, .int (oI o), .int (nI out)] h (PV (hs2 k (lrn S o out) h)) := by
  refine run_of (by decide) (Nat.le_of_ble_eq_true rfl) ?_
  cases o with
  | none =>
    have hid : ∀ c : zC, c = sitC k S → h.set k c = h := fun c e => by rw [e]; exact zs_self hS
    refine zw_iload_n dS_learn_0 rfl ?_
    refine zw_if_ne 37 dS_learn_1 (by decide) (fun c_1 => ?_) (fun c_1 => ?_)
    · refine zw_iload_n dS_learn_37 rfl ?_
      refine zw_iconst (v := 3) dS_learn_38 (by decide) ?_
      refine zw_icmp_eq 72 dS_learn_39 (by decide) (fun c_39 => ?_) (fun c_39 => ?_)
      · exact zw_vret dS_learn_72 rfl rfl ⟨rfl, by rw [show lrn S none out = S from rfl, hs2_self hS hp]⟩
      · refine zw_aload_n dS_learn_42 rfl ?_
        refine zw_dup dS_learn_43 rfl ?_
        refine zw_get dS_learn_44 zf_S_51 (by first | exact hS | exact zg_eq hS) rfl ?_
        refine zw_iload_n dS_learn_47 rfl ?_
        refine zc_S1L dS_learn_48 zm_F_only zk_S_44 (c_F_only (a := none) ho) ?_ zRR (Nat.le_of_ble_eq_true rfl) ⟨Nat.le_of_ble_eq_true rfl, Nat.le_of_ble_eq_true rfl⟩
        refine zw_lor dS_learn_51 ?_
        rw [m_or_none]
        refine zw_putl dS_learn_52 zf_S_51 (by first | exact hS | exact zg_eq hS) (Nat.le_of_ble_eq_true rfl) ?_
        refine zw_aload_n dS_learn_55 rfl ?_
        refine zw_dup dS_learn_56 rfl ?_
        refine zw_get dS_learn_57 zf_S_48 (by first | exact hS | exact zg_eq hS) rfl ?_
        refine zw_iload_n dS_learn_60 rfl ?_
        refine zc_S1L dS_learn_61 zm_F_only zk_S_44 (c_F_only (a := none) ho) ?_ zRR (Nat.le_of_ble_eq_true rfl) ⟨Nat.le_of_ble_eq_true rfl, Nat.le_of_ble_eq_true rfl⟩
        refine zw_ldc2 dS_learn_64 zcl_S_70 ?_
        refine zw_lxor dS_learn_67 ?_
        refine zw_land dS_learn_68 ?_
        rw [m_andn_none]
        refine zw_putl dS_learn_69 zf_S_48 (by first | exact hS | exact zg_eq hS) (Nat.le_of_ble_eq_true rfl) ?_
        refine zw_h (h2 := h) ((zs_set _ _ _ _).trans (hid _ rfl)) ?_
        exact zw_vret dS_learn_72 rfl rfl ⟨rfl, by rw [show lrn S none out = S from rfl, hs2_self hS hp]⟩
    · refine zw_aload_n dS_learn_4 rfl ?_
      refine zw_dup dS_learn_5 rfl ?_
      refine zw_get dS_learn_6 zf_S_48 (by first | exact hS | exact zg_eq hS) rfl ?_
      refine zw_iload_n dS_learn_9 rfl ?_
      refine zc_S1L dS_learn_10 zm_F_only zk_S_44 (c_F_only (a := none) ho) ?_ zRR (Nat.le_of_ble_eq_true rfl) ⟨Nat.le_of_ble_eq_true rfl, Nat.le_of_ble_eq_true rfl⟩
      refine zw_lor dS_learn_13 ?_
      rw [m_or_none]
      refine zw_putl dS_learn_14 zf_S_48 (by first | exact hS | exact zg_eq hS) (Nat.le_of_ble_eq_true rfl) ?_
      refine zw_aload_n dS_learn_17 rfl ?_
      refine zw_dup dS_learn_18 rfl ?_
      refine zw_get dS_learn_19 zf_S_51 (by first | exact hS | exact zg_eq hS) rfl ?_
      refine zw_iload_n dS_learn_22 rfl ?_
      refine zc_S1L dS_learn_23 zm_F_only zk_S_44 (c_F_only (a := none) ho) ?_ zRR (Nat.le_of_ble_eq_true rfl) ⟨Nat.le_of_ble_eq_true rfl, Nat.le_of_ble_eq_true rfl⟩
      refine zw_ldc2 dS_learn_26 zcl_S_70 ?_
      refine zw_lxor dS_learn_29 ?_
      refine zw_land dS_learn_30 ?_
      rw [m_andn_none]
      refine zw_putl dS_learn_31 zf_S_51 (by first | exact hS | exact zg_eq hS) (Nat.le_of_ble_eq_true rfl) ?_
      refine zw_h (h2 := h) ((zs_set _ _ _ _).trans (hid _ rfl)) ?_
      refine zw_goto 72 dS_learn_34 (by decide) ?_
      exact zw_vret dS_learn_72 rfl rfl ⟨rfl, by rw [show lrn S none out = S from rfl, hs2_self hS hp]⟩
  | some c =>
    by_cases h0 : out = 0
    · subst h0
      refine zw_iload_n dS_learn_0 rfl ?_
      refine zw_if_ne 37 dS_learn_1 (by decide) (fun c_1 => ?_) (fun c_1 => ?_)
      · exact absurd rfl c_1
      · refine zw_aload_n dS_learn_4 rfl ?_
        refine zw_dup dS_learn_5 rfl ?_
        refine zw_get dS_learn_6 zf_S_48 (by first | exact hS | exact zg_eq hS) rfl ?_
        refine zw_iload_n dS_learn_9 rfl ?_
        refine zc_S1L dS_learn_10 zm_F_only zk_S_44 (c_F_only (a := some c) ho) ?_ zRR (Nat.le_of_ble_eq_true rfl) ⟨Nat.le_of_ble_eq_true rfl, Nat.le_of_ble_eq_true rfl⟩
        refine zw_lor dS_learn_13 ?_
        rw [lrn_a]
        refine zw_putl dS_learn_14 zf_S_48 (by first | exact hS | exact zg_eq hS) (Nat.le_of_ble_eq_true rfl) ?_
        refine zw_aload_n dS_learn_17 rfl ?_
        refine zw_dup dS_learn_18 rfl ?_
        refine zw_get dS_learn_19 zf_S_51 (by first | exact hS | exact zg_eq hS) rfl ?_
        refine zw_iload_n dS_learn_22 rfl ?_
        refine zc_S1L dS_learn_23 zm_F_only zk_S_44 (c_F_only (a := some c) ho) ?_ zRR (Nat.le_of_ble_eq_true rfl) ⟨Nat.le_of_ble_eq_true rfl, Nat.le_of_ble_eq_true rfl⟩
        refine zw_ldc2 dS_learn_26 zcl_S_70 ?_
        refine zw_lxor dS_learn_29 ?_
        refine zw_land dS_learn_30 ?_
        rw [lrn_b]
        refine zw_putl dS_learn_31 zf_S_51 (by first | exact hS | exact zg_eq hS) (Nat.le_of_ble_eq_true rfl) ?_
        refine zw_h (h2 := hs2 k (lrn S (some c) 0) h) ((zs_set _ _ _ _).trans (hs2_sit (S := S) rfl rfl hp)) ?_
        refine zw_goto 72 dS_learn_34 (by decide) ?_
        exact zw_vret dS_learn_72 rfl (by rw [hs2_len]; rfl) ⟨rfl, rfl⟩
    · by_cases h3 : out = 3
      · subst h3
        refine zw_iload_n dS_learn_0 rfl ?_
        refine zw_if_ne 37 dS_learn_1 (by decide) (fun c_1 => ?_) (fun c_1 => ?_)
        · refine zw_iload_n dS_learn_37 rfl ?_
          refine zw_iconst (v := 3) dS_learn_38 (by decide) ?_
          refine zw_icmp_eq 72 dS_learn_39 (by decide) (fun c_39 => ?_) (fun c_39 => ?_)
          · exact zw_vret dS_learn_72 rfl rfl ⟨rfl, by rw [show lrn S (some c) 3 = S from rfl, hs2_self hS hp]⟩
          · exact absurd rfl c_39
        · exact absurd c_1 (by decide)
      · refine zw_iload_n dS_learn_0 rfl ?_
        refine zw_if_ne 37 dS_learn_1 (by decide) (fun c_1 => ?_) (fun c_1 => ?_)
        · refine zw_iload_n dS_learn_37 rfl ?_
          refine zw_iconst (v := 3) dS_learn_38 (by decide) ?_
          refine zw_icmp_eq 72 dS_learn_39 (by decide) (fun c_39 => ?_) (fun c_39 => ?_)
          · exact absurd ((nI_eq (a := out) (b := 3) (by omega) (by decide)).mp c_39) h3
          · refine zw_aload_n dS_learn_42 rfl ?_
            refine zw_dup dS_learn_43 rfl ?_
            refine zw_get dS_learn_44 zf_S_51 (by first | exact hS | exact zg_eq hS) rfl ?_
            refine zw_iload_n dS_learn_47 rfl ?_
            refine zc_S1L dS_learn_48 zm_F_only zk_S_44 (c_F_only (a := some c) ho) ?_ zRR (Nat.le_of_ble_eq_true rfl) ⟨Nat.le_of_ble_eq_true rfl, Nat.le_of_ble_eq_true rfl⟩
            refine zw_lor dS_learn_51 ?_
            rw [lrn_c]
            refine zw_putl dS_learn_52 zf_S_51 (by first | exact hS | exact zg_eq hS) (Nat.le_of_ble_eq_true rfl) ?_
            refine zw_aload_n dS_learn_55 rfl ?_
            refine zw_dup dS_learn_56 rfl ?_
            refine zw_get dS_learn_57 zf_S_48 (by first | exact hS | exact zg_eq hS) rfl ?_
            refine zw_iload_n dS_learn_60 rfl ?_
            refine zc_S1L dS_learn_61 zm_F_only zk_S_44 (c_F_only (a := some c) ho) ?_ zRR (Nat.le_of_ble_eq_true rfl) ⟨Nat.le_of_ble_eq_true rfl, Nat.le_of_ble_eq_true rfl⟩
            refine zw_ldc2 dS_learn_64 zcl_S_70 ?_
            refine zw_lxor dS_learn_67 ?_
            refine zw_land dS_learn_68 ?_
            rw [lrn_d]
            refine zw_putl dS_learn_69 zf_S_48 (by first | exact hS | exact zg_eq hS) (Nat.le_of_ble_eq_true rfl) ?_
            refine zw_h (h2 := hs2 k (lrn S (some c) out) h) ((zs_set _ _ _ _).trans (by rw [lrn_2 S c h0 h3]; exact hs2_sit (S := S) rfl rfl hp)) ?_
            exact zw_vret dS_learn_72 rfl (by rw [hs2_len]; rfl) ⟨rfl, rfl⟩
        · exact absurd ((nI_eq (a := out) (b := 0) (by omega) (by decide)).mp c_1) h0
theorem outc_lt (F : Fl) (S : Sit) (o : Option Nat) : outc F S o < 4 := by
  cases o with
  | none => exact (by decide : 1 < 4)
  | some c => simp only [outc]; split; decide; split; decide; split <;> decide
theorem nb_ok {F : Fl} (hF : fOK F) {c hand : Nat} (hc : c < fN F) (hh : hand < 4) : (∀ b, nb F c hand = some b → b < fN F) ∧ oOK (nb F c hand) := by
  have h1 : ∀ b, nb F c hand = some b → b < fN F := fun b e => (nb_spec hF hc hh e).1
  exact ⟨h1, fun b e => Nat.lt_of_lt_of_le (h1 b e) (fN_le hF)⟩
theorem c_S_stepTo (hk4 : k ≠ 4 ∧ k + 1 ≠ 4) (hF : fOK F) (hG : h[4]? = some (gC F)) (hS : h[k]? = some (sitC k S)) (hp : h[k + 1]? = some (plC S)) {hand : Nat} (hh : hand < 4) (hat : sAt S < fN F) (hch : 0 < sCh S) : Run l g mS_stepTo (d + 4) 0 0 [.ref k, .int (nI hand)] h (PI (nI (stepO F S hand)) (hs2 k (stepS F S hand) h)) := by
  refine run_of (by decide) (Nat.le_of_ble_eq_true rfl) ?_
  obtain ⟨hnb, hnO⟩ := nb_ok hF hat hh
  generalize hS1e : setCh (setHd S hand) (sCh S - 1) = S1
  have hSa : (hs2 k (setHd S hand) h)[k]? = some (sitC k (setHd S hand)) := hs2_k hS
  have hpa : (hs2 k (setHd S hand) h)[k + 1]? = some (plC (setHd S hand)) := hs2_p hp
  have hS1 : (hs2 k S1 h)[k]? = some (sitC k S1) := hs2_k hS
  have hp1 : (hs2 k S1 h)[k + 1]? = some (plC S1) := hs2_p hp
  have hG1 : (hs2 k S1 h)[4]? = some (gC F) := hs2_ne hk4.1 hk4.2 hG
  have eat : sAt S1 = sAt S := by rw [← hS1e]; rfl
  have elost : sLost S1 = sLost S := by rw [← hS1e]; rfl
  have eout : outc F S1 (nb F (sAt S) hand) = outc F S (nb F (sAt S) hand) := by rw [← hS1e]; rfl
  have ech : nI (sCh S) - 1 = nI (sCh S - 1) := pk_sub (b := 1) hch
  have hol := outc_lt F S (nb F (sAt S) hand)
  -- the end: S2 behind learning or sorting out
  have E : ∀ (S2 : Sit), S2 = (if sLost S = true then sortP F S1 (outc F S (nb F (sAt S) hand)) else lrn S1 (nb F (sAt S) hand) (outc F S (nb F (sAt S) hand))) → WW l g mS_stepTo (zrm (d + 4) 0 0) (fun _ => True) (zQQ g (PI (nI (stepO F S hand)) (hs2 k (stepS F S hand) h)) (h.length + 0) 0 0) 55 [(0, some (.ref k)), (1, some (.int (nI hand))), (2, some (.int (oI (nb F (sAt S) hand)))), (3, some (.int (nI (outc F S (nb F (sAt S) hand)))))] [] (hs2 k S2 h) 0 0 := by
    intro S2 hS2e
    have hS2 : (hs2 k S2 h)[k]? = some (sitC k S2) := hs2_k hS
    have hp2 : (hs2 k S2 h)[k + 1]? = some (plC S2) := hs2_p hp
    have efin : stepS F S hand = if outc F S (nb F (sAt S) hand) = 0 then setAt' S2 ((nb F (sAt S) hand).getD 0) else S2 := by rw [hS2e, ← hS1e]; rfl
    by_cases h0 : outc F S (nb F (sAt S) hand) = 0
    · rw [h0] at efin ⊢
      cases hq : nb F (sAt S) hand with
      | none => rw [hq] at h0; exact absurd (show (1 : Nat) = 0 from h0) (by decide)
      | some c =>
        rw [hq] at efin
        rw [efin]
        refine zw_iload_n dS_stepTo_55 rfl ?_
        refine zw_if_ne 64 dS_stepTo_56 (by decide) (fun c_56 => ?_) (fun c_56 => ?_)
        · exact absurd rfl c_56
        · refine zw_aload_n dS_stepTo_59 rfl ?_
          refine zw_iload_n dS_stepTo_60 rfl ?_
          refine zw_puti dS_stepTo_61 zf_S_35 hS2 (Nat.le_of_ble_eq_true rfl) ?_
          refine zw_h (h2 := hs2 k (setAt' S2 c) h) ((hs2_sit (S := S2) (S' := setAt' S2 c) rfl rfl hp2).trans (hs2_hs2 _ _ _ _)) ?_
          refine zw_iload_n dS_stepTo_64 rfl ?_
          exact zw_iret dS_stepTo_65 rfl rfl (by rw [hs2_len]; rfl) ⟨by rw [show stepO F S hand = 0 from by unfold stepO; rw [hq]; rw [hq] at h0; exact h0], rfl⟩
    · rw [if_neg h0] at efin
      rw [efin]
      refine zw_iload_n dS_stepTo_55 rfl ?_
      refine zw_if_ne 64 dS_stepTo_56 (by decide) (fun c_56 => ?_) (fun c_56 => ?_)
      · refine zw_iload_n dS_stepTo_64 rfl ?_
        exact zw_iret dS_stepTo_65 rfl rfl (by rw [hs2_len]; rfl) ⟨rfl, rfl⟩
      · exact absurd ((nI_eq (b := 0) (by omega) (by decide)).mp c_56) h0
  refine zw_aload_n dS_stepTo_0 rfl ?_
  refine zw_iload_n dS_stepTo_1 rfl ?_
  refine zw_puti dS_stepTo_2 zf_S_38 hS (Nat.le_of_ble_eq_true rfl) ?_
  refine zw_h (h2 := hs2 k (setHd S hand) h) (hs2_sit (S := S) rfl rfl hp) ?_
  refine zw_aload_n dS_stepTo_5 rfl ?_
  refine zw_dup dS_stepTo_6 rfl ?_
  refine zw_get dS_stepTo_7 zf_S_41 hSa rfl ?_
  refine zw_iconst (v := 1) dS_stepTo_10 (by decide) ?_
  refine zw_isub dS_stepTo_11 ?_
  rw [show sCh (setHd S hand) = sCh S from rfl, ech]
  refine zw_puti dS_stepTo_12 zf_S_41 hSa (Nat.le_of_ble_eq_true rfl) ?_
  refine zw_h (h2 := hs2 k S1 h) (by rw [← hS1e]; exact (hs2_sit (S := setHd S hand) (S' := setCh (setHd S hand) (sCh S - 1)) rfl rfl hpa).trans (hs2_hs2 _ _ _ _)) ?_
  refine zw_aload_n dS_stepTo_15 rfl ?_
  refine zw_get dS_stepTo_16 zf_S_15 (by first | exact hS1 | exact hG1) rfl ?_
  refine zw_aload_n dS_stepTo_19 rfl ?_
  refine zw_get dS_stepTo_20 zf_S_35 (by first | exact hS1 | exact hG1) rfl ?_
  rw [eat]
  refine zw_iload_n dS_stepTo_23 rfl ?_
  refine zc_V2I dS_stepTo_24 zm_G_cellBeside zk_S_86 (by first | exact hS1 | exact hG1) rfl (c_G_cellBeside hF hG1 hat hh) ?_ zRR (Nat.le_of_ble_eq_true rfl) ⟨Nat.le_of_ble_eq_true rfl, Nat.le_of_ble_eq_true rfl⟩
  refine zw_istore_n dS_stepTo_27 (by decide) rfl ?_
  refine zw_aload_n dS_stepTo_28 rfl ?_
  refine zw_iload_n dS_stepTo_29 rfl ?_
  refine zc_V1I dS_stepTo_30 zm_S_outcomeAt zk_S_90 (by first | exact hS1 | exact hG1) rfl (c_S_outcomeAt hF hG1 hS1 hnO hnb) ?_ zRR (Nat.le_of_ble_eq_true rfl) ⟨Nat.le_of_ble_eq_true rfl, Nat.le_of_ble_eq_true rfl⟩
  rw [eout]
  refine zw_istore_n dS_stepTo_33 (by decide) rfl ?_
  refine zw_aload_n dS_stepTo_34 rfl ?_
  refine zw_get dS_stepTo_35 zf_S_54 (by first | exact hS1 | exact hG1) rfl ?_
  refine zw_if_eq 49 dS_stepTo_38 (by decide) (fun c_38 => ?_) (fun c_38 => ?_)
  · refine zw_aload_n dS_stepTo_49 rfl ?_
    refine zw_iload_n dS_stepTo_50 rfl ?_
    refine zw_iload_n dS_stepTo_51 rfl ?_
    refine zc_V2V dS_stepTo_52 zm_S_learn zk_S_98 (by first | exact hS1 | exact hG1) rfl (c_S_learn hS1 hp1 hnO hol) ?_ zRR (Nat.le_of_ble_eq_true rfl) ⟨Nat.le_of_ble_eq_true rfl, Nat.le_of_ble_eq_true rfl⟩
    refine zw_h (h2 := hs2 k (lrn S1 (nb F (sAt S) hand) (outc F S (nb F (sAt S) hand))) h) (hs2_hs2 _ _ _ _) ?_
    exact zw_lk (E _ (by first | (rw [if_pos (by rw [← elost]; exact lost1 c_38)]) | (rw [if_neg (by rw [← elost, lost0 c_38]; decide)]))) ⟨rfl, rfl, rfl, rfl, trivial⟩
  · refine zw_aload_n dS_stepTo_41 rfl ?_
    refine zw_iload_n dS_stepTo_42 rfl ?_
    refine zc_V1V dS_stepTo_43 zm_S_sortOutBy zk_S_94 (by first | exact hS1 | exact hG1) rfl (c_S_sortOutBy hk4 hF hG1 hS1 hp1 hol) ?_ zRR (Nat.le_of_ble_eq_true rfl) ⟨Nat.le_of_ble_eq_true rfl, Nat.le_of_ble_eq_true rfl⟩
    refine zw_h (h2 := hs2 k (sortP F S1 (outc F S (nb F (sAt S) hand))) h) (hs2_hs2 _ _ _ _) ?_
    refine zw_goto 55 dS_stepTo_46 (by decide) ?_
    exact zw_lk (E _ (by first | (rw [if_pos (by rw [← elost]; exact lost1 c_38)]) | (rw [if_neg (by rw [← elost, lost0 c_38]; decide)]))) ⟨rfl, rfl, rfl, rfl, trivial⟩
end C26
end
section
section C27
variable {l : Launch} {g : zG} {d : Nat} {h : zH} {F : Fl} {S : Sit} {k : Nat}
theorem told_pl (F : Fl) (S : Sit) (pl : Nat → Nat → Bool) (o : Option Nat) : told F (setPl S pl) o = told F S o := by cases o <;> rfl
theorem turnP_0 (pl : Nat → Nat → Bool) : ∀ c j, j < 4 → turnP 0 pl c j = pl c j := by
  intro c j hj
  unfold turnP
  rw [show (j + 4 - 0) % 4 = j by omega]
theorem turnP_s (pl : Nat → Nat → Bool) {i : Nat} (hi : i < 3) : ∀ c j, j < 4 → turnP 1 (turnP i pl) c j = turnP (i + 1) pl c j := by
  intro c j hj
  unfold turnP
  rw [show ((j + 4 - 1) % 4 + 4 - i) % 4 = (j + 4 - (i + 1)) % 4 by omega]
theorem setPl_setPl (S : Sit) (a b : Nat → Nat → Bool) : setPl (setPl S a) b = setPl S b := rfl
theorem sPl_setPl (S : Sit) (a : Nat → Nat → Bool) : sPl (setPl S a) = a := rfl
theorem setPl_self (S : Sit) : setPl S (sPl S) = S := rfl
theorem sHd_setHd (S : Sit) (a : Nat) : sPl (setHd S a) = sPl S := rfl
theorem sLost_setPl (S : Sit) (a : Nat → Nat → Bool) : sLost (setPl S a) = sLost S := rfl
theorem sLost_setHd (S : Sit) (a : Nat) : sLost (setHd S a) = sLost S := rfl
/-- places count for the four headings alone -/
theorem zw_plx {M : zM} {R : Room} {Z : State → Prop} {QQ : List Frame → Array Value → State → State → Prop} {pc : Nat} {ls : zL} {st : List Value} {kc nc : Nat} (P : Nat → Nat → Bool) (hS : h[k]? = some (sitC k S)) (hp : h[k + 1]? = some (plC S)) (he : ∀ c j, j < 4 → sPl S c j = P c j) (kk : WW l g M R Z QQ pc ls st (hs2 k (setPl S P) h) kc nc) : WW l g M R Z QQ pc ls st h kc nc := by
  refine zw_extl (fun j => mset (fun c => P c j)) hp (fun j hj => by rw [show (fun c => sPl S c j) = (fun c => P c j) from funext fun c => he c j hj]) ?_
  exact zw_h (hs2_pl (S := S) (S' := setPl S P) rfl rfl hS) kk
theorem c_S_turn (hS : h[k]? = some (sitC k S)) (hp : h[k + 1]? = some (plC S)) {q : Nat} (hq : q < 4) (hh : sHd S < 4) : Run l g mS_turn (d + 3) 0 0 [.ref k, .int (nI q)] h (PV (hs2 k (turnS S q) h)) := by
  refine run_of (by decide) (Nat.le_of_ble_eq_true rfl) ?_
  have efin0 : ∀ hn, (sHd S + q) % 4 = hn → turnS S q = if sLost S = true then found (setPl (setHd S hn) (turnP q (sPl S))) else setHd S hn := fun hn e => by unfold turnS; rw [e]
  have ct := c_F_turned (l := l) (g := g) (d := d + 2) (h := h) hh hq
  generalize (sHd S + q) % 4 = hn at efin0 ct
  have efin := efin0 hn rfl
  have hhS : (hs2 k (setHd S hn) h)[k]? = some (sitC k (setHd S hn)) := hs2_k hS
  have hhp : (hs2 k (setHd S hn) h)[k + 1]? = some (plC (setHd S hn)) := hs2_p hp
  by_cases hl : sLost S = true
  · rw [if_pos hl] at efin
    rw [efin]
    have L : ∀ (m i : Nat) (P : Nat → Nat → Bool), (∀ c j, j < 4 → P c j = turnP i (sPl S) c j) → i + m = q → WW l g mS_turn (zrm (d + 3) 0 0) (fun _ => True) (zQQ g (PV (hs2 k (found (setPl (setHd S hn) (turnP q (sPl S)))) h)) (h.length + 0) 0 0) 21 [(0, some (.ref k)), (1, some (.int (nI q))), (2, some (.int (nI i)))] [] (hs2 k (setPl (setHd S hn) P) h) 0 0 := by
      intro m
      induction m with
      | zero =>
        intro i P hP him
        have hi : i = q := by omega
        subst hi
        refine zw_plx (turnP i (sPl S)) (hs2_k hS) (hs2_p hp) hP ?_
        rw [hs2_hs2, setPl_setPl]
        generalize turnP i (sPl S) = Q
        have hS1 : (hs2 k (setPl (setHd S hn) Q) h)[k]? = some (sitC k (setPl (setHd S hn) Q)) := hs2_k hS
        have hp1 : (hs2 k (setPl (setHd S hn) Q) h)[k + 1]? = some (plC (setPl (setHd S hn) Q)) := hs2_p hp
        refine zw_iload_n dS_turn_21 rfl ?_
        refine zw_iload_n dS_turn_22 rfl ?_
        refine zw_icmp_ge 41 dS_turn_23 (by decide) (fun c_23 => ?_) (fun c_23 => ?_)
        · refine zw_aload_n dS_turn_41 rfl ?_
          refine zc_V0V dS_turn_42 zm_S_beFoundIfSure zk_S_112 hS1 rfl (c_S_beFoundIfSure hS1 hp1) ?_ zRR (Nat.le_of_ble_eq_true rfl) ⟨Nat.le_of_ble_eq_true rfl, Nat.le_of_ble_eq_true rfl⟩
          exact zw_vret dS_turn_45 rfl (by rw [hs2_len, hs2_len]; rfl) ⟨rfl, hs2_hs2 _ _ _ _⟩
        · exact absurd (Int32.le_refl _) c_23
      | succ m ih =>
        intro i P hP him
        have hS1 : (hs2 k (setPl (setHd S hn) P) h)[k]? = some (sitC k (setPl (setHd S hn) P)) := hs2_k hS
        have hp1 : (hs2 k (setPl (setHd S hn) P) h)[k + 1]? = some (plC (setPl (setHd S hn) P)) := hs2_p hp
        have ct1 := c_S_turnPlaces (l := l) (g := g) (d := d + 2) hS1 hp1
        rw [hs2_hs2, setPl_setPl, sPl_setPl] at ct1
        have hP1 : ∀ c j, j < 4 → turnP 1 P c j = turnP (i + 1) (sPl S) c j := fun c j hj => by
          rw [← turnP_s (sPl S) (by omega) c j hj]
          unfold turnP
          exact hP c _ (Nat.mod_lt _ (by decide))
        generalize turnP 1 P = P1 at ct1 hP1
        refine zw_iload_n dS_turn_21 rfl ?_
        refine zw_iload_n dS_turn_22 rfl ?_
        refine zw_icmp_ge 41 dS_turn_23 (by decide) (fun c_23 => ?_) (fun c_23 => ?_)
        · exact absurd ((nI_leI (by omega) (by omega)).mp c_23) (by omega)
        · refine zw_iload_n dS_turn_26 rfl ?_
          refine zw_iconst (v := 4) dS_turn_27 (by decide) ?_
          refine zw_icmp_ge 41 dS_turn_28 (by decide) (fun c_28 => ?_) (fun c_28 => ?_)
          · exact absurd ((nI_leI (a := 4) (b := i) (by omega) (by omega)).mp c_28) (by omega)
          · refine zw_aload_n dS_turn_31 rfl ?_
            refine zc_V0V dS_turn_32 zm_S_turnPlaces zk_S_109 hS1 rfl ct1 ?_ zRR (Nat.le_of_ble_eq_true rfl) ⟨Nat.le_of_ble_eq_true rfl, Nat.le_of_ble_eq_true rfl⟩
            refine zw_incN dS_turn_35 rfl (by decide) rfl ?_
            refine zw_goto 21 dS_turn_38 (by decide) ?_
            exact zw_lk (ih (i + 1) P1 hP1 (by omega)) ⟨rfl, rfl, rfl, trivial⟩
    refine zw_aload_n dS_turn_0 rfl ?_
    refine zw_aload_n dS_turn_1 rfl ?_
    refine zw_get dS_turn_2 zf_S_38 hS rfl ?_
    refine zw_iload_n dS_turn_5 rfl ?_
    refine zc_S2I dS_turn_6 zm_F_turned zk_S_106 ct ?_ zRR (Nat.le_of_ble_eq_true rfl) ⟨Nat.le_of_ble_eq_true rfl, Nat.le_of_ble_eq_true rfl⟩
    refine zw_puti dS_turn_9 zf_S_38 hS (Nat.le_of_ble_eq_true rfl) ?_
    refine zw_h (h2 := hs2 k (setHd S hn) h) (hs2_sit (S := S) rfl rfl hp) ?_
    refine zw_aload_n dS_turn_12 rfl ?_
    refine zw_get dS_turn_13 zf_S_54 hhS rfl ?_
    refine zw_if_eq 45 dS_turn_16 (by decide) (fun c_16 => ?_) (fun c_16 => ?_)
    · exact absurd hl (by rw [show sLost S = false from lost0 c_16]; decide)
    · refine zw_iconst (v := 0) dS_turn_19 (by decide) ?_
      refine zw_istore_n dS_turn_20 (by decide) rfl ?_
      refine zw_h (h2 := hs2 k (setPl (setHd S hn) (sPl S)) h) rfl ?_
      exact zw_lk (L q 0 (sPl S) (fun c j hj => (turnP_0 (sPl S) c j hj).symm) (by omega)) ⟨rfl, rfl, rfl, trivial⟩
  · rw [if_neg hl] at efin
    rw [efin]
    refine zw_aload_n dS_turn_0 rfl ?_
    refine zw_aload_n dS_turn_1 rfl ?_
    refine zw_get dS_turn_2 zf_S_38 hS rfl ?_
    refine zw_iload_n dS_turn_5 rfl ?_
    refine zc_S2I dS_turn_6 zm_F_turned zk_S_106 ct ?_ zRR (Nat.le_of_ble_eq_true rfl) ⟨Nat.le_of_ble_eq_true rfl, Nat.le_of_ble_eq_true rfl⟩
    refine zw_puti dS_turn_9 zf_S_38 hS (Nat.le_of_ble_eq_true rfl) ?_
    refine zw_h (h2 := hs2 k (setHd S hn) h) (hs2_sit (S := S) rfl rfl hp) ?_
    refine zw_aload_n dS_turn_12 rfl ?_
    refine zw_get dS_turn_13 zf_S_54 hhS rfl ?_
    refine zw_if_eq 45 dS_turn_16 (by decide) (fun c_16 => ?_) (fun c_16 => ?_)
    · exact zw_vret dS_turn_45 rfl (by rw [hs2_len]; rfl) ⟨rfl, rfl⟩
    · exact absurd (lost1 c_16) hl
def sAcc (F : Fl) (S : Sit) : Nat → Nat
  | 0 => 0
  | i + 1 => sAcc F S i * 3 + scanT F S i
def kPs (F : Fl) (S : Sit) : Nat → Nat → Nat → Bool
  | 0 => sPl S
  | i + 1 => keepP F S (scanT F S i) i (kPs F S i)
theorem scanT_lt (F : Fl) (S : Sit) (q : Nat) : scanT F S q < 3 := by
  unfold scanT
  cases nb F (sAt S) ((sHd S + q) % 4) with
  | none => exact (by decide : 1 < 3)
  | some c => simp only [told]; split; decide; split <;> decide
theorem sAcc_4 (F : Fl) (S : Sit) : sAcc F S 4 = scanO F S := by simp [sAcc, scanO]
theorem sAcc_lt (F : Fl) (S : Sit) : ∀ i, i ≤ 4 → sAcc F S i ≤ 80 := by
  have h0 := scanT_lt F S 0; have h1 := scanT_lt F S 1; have h2 := scanT_lt F S 2; have h3 := scanT_lt F S 3
  intro i hi
  rcases (show i = 0 ∨ i = 1 ∨ i = 2 ∨ i = 3 ∨ i = 4 by omega) with rfl | rfl | rfl | rfl | rfl <;> simp only [sAcc] <;> omega
theorem c_S_scanAround (hk4 : k ≠ 4 ∧ k + 1 ≠ 4) (hF : fOK F) (hG : h[4]? = some (gC F)) (hS : h[k]? = some (sitC k S)) (hp : h[k + 1]? = some (plC S)) (hh : sHd S < 4) (hat : sAt S < fN F) : Run l g mS_scanAround (d + 3) 0 0 [.ref k] h (PI (nI (scanO F S)) (hs2 k (scanS F S) h)) := by
  refine run_of (by decide) (Nat.le_of_ble_eq_true rfl) ?_
  cases hl : sLost S with
  | false =>
    have efin : hs2 k (scanS F S) h = h := by unfold scanS; rw [hl]; exact hs2_self hS hp
    have L : ∀ (m i : Nat), i + m = 4 → WW l g mS_scanAround (zrm (d + 3) 0 0) (fun _ => True) (zQQ g (PI (nI (scanO F S)) (hs2 k (scanS F S) h)) (h.length + 0) 0 0) 4 [(0, some (.ref k)), (1, some (.int (nI (sAcc F S i)))), (2, some (.int (nI i)))] [] h 0 0 := by
      intro m
      induction m with
      | zero =>
        intro i him
        have hi : i = 4 := by omega
        subst hi
        refine zw_iload_n dS_scanAround_4 rfl ?_
        refine zw_iconst (v := 4) dS_scanAround_5 (by decide) ?_
        refine zw_icmp_ge 58 dS_scanAround_6 (by decide) (fun c_6 => ?_) (fun c_6 => ?_)
        · refine zw_aload_n dS_scanAround_58 rfl ?_
          refine zw_get dS_scanAround_59 zf_S_54 hS rfl ?_
          refine zw_if_eq 69 dS_scanAround_62 (by decide) (fun c_62 => ?_) (fun c_62 => ?_)
          · refine zw_iload_n dS_scanAround_69 rfl ?_
            exact zw_iret dS_scanAround_70 rfl rfl rfl ⟨by rw [sAcc_4], efin.symm⟩
          · exact absurd (show (if sLost S = true then (1 : Int32) else 0) = 0 by rw [hl]; rfl) c_62
        · exact absurd (by decide) c_6
      | succ m ih =>
        intro i him
        have hi : i < 4 := by omega
        have hm : (sHd S + i) % 4 < 4 := Nat.mod_lt _ (by decide)
        obtain ⟨hnb, hnO⟩ := nb_ok hF hat hm
        refine zw_iload_n dS_scanAround_4 rfl ?_
        refine zw_iconst (v := 4) dS_scanAround_5 (by decide) ?_
        refine zw_icmp_ge 58 dS_scanAround_6 (by decide) (fun c_6 => ?_) (fun c_6 => ?_)
        · exact absurd ((nI_leI (a := 4) (b := i) (by omega) (by omega)).mp c_6) (by omega)
        · refine zw_aload_n dS_scanAround_9 rfl ?_
          refine zw_aload_n dS_scanAround_10 rfl ?_
          refine zw_get dS_scanAround_11 zf_S_15 (by first | exact hS | exact hG) rfl ?_
          refine zw_aload_n dS_scanAround_14 rfl ?_
          refine zw_get dS_scanAround_15 zf_S_35 (by first | exact hS | exact hG) rfl ?_
          refine zw_aload_n dS_scanAround_18 rfl ?_
          refine zw_get dS_scanAround_19 zf_S_38 (by first | exact hS | exact hG) rfl ?_
          refine zw_iload_n dS_scanAround_22 rfl ?_
          refine zc_S2I dS_scanAround_23 zm_F_turned zk_S_106 (c_F_turned hh hi) ?_ zRR (Nat.le_of_ble_eq_true rfl) ⟨Nat.le_of_ble_eq_true rfl, Nat.le_of_ble_eq_true rfl⟩
          refine zc_V2I dS_scanAround_26 zm_G_cellBeside zk_S_86 (by first | exact hS | exact hG) rfl (c_G_cellBeside hF hG hat hm) ?_ zRR (Nat.le_of_ble_eq_true rfl) ⟨Nat.le_of_ble_eq_true rfl, Nat.le_of_ble_eq_true rfl⟩
          refine zc_V1I dS_scanAround_29 zm_S_seenAt zk_S_115 (by first | exact hS | exact hG) rfl (c_S_seenAt hF hG hS hnO hnb) ?_ zRR (Nat.le_of_ble_eq_true rfl) ⟨Nat.le_of_ble_eq_true rfl, Nat.le_of_ble_eq_true rfl⟩
          refine zw_istore_n dS_scanAround_32 (by decide) rfl ?_
          refine zw_iload_n dS_scanAround_33 rfl ?_
          refine zw_iconst (v := 3) dS_scanAround_34 (by decide) ?_
          refine zw_imul dS_scanAround_35 ?_
          rw [show (3 : Int32) = nI 3 from rfl, pk_mul]
          refine zw_iload_n dS_scanAround_36 rfl ?_
          refine zw_iadd dS_scanAround_37 ?_
          rw [nI_add, show told F S (nb F (sAt S) ((sHd S + i) % 4)) = scanT F S i from rfl, show sAcc F S i * 3 + scanT F S i = sAcc F S (i + 1) from rfl]
          refine zw_istore_n dS_scanAround_38 (by decide) rfl ?_
          refine zw_aload_n dS_scanAround_39 rfl ?_
          refine zw_get dS_scanAround_40 zf_S_54 (by first | exact hS | exact hG) rfl ?_
          refine zw_if_eq 52 dS_scanAround_43 (by decide) (fun c_43 => ?_) (fun c_43 => ?_)
          · refine zw_incN dS_scanAround_52 rfl (by decide) rfl ?_
            refine zw_goto 4 dS_scanAround_55 (by decide) ?_
            exact zw_lk (ih (i + 1) (by omega)) ⟨rfl, rfl, rfl, trivial⟩
          · exact absurd (show (if sLost S = true then (1 : Int32) else 0) = 0 by rw [hl]; rfl) c_43
    refine zw_iconst (v := 0) dS_scanAround_0 (by decide) ?_
    refine zw_istore_n dS_scanAround_1 (by decide) rfl ?_
    refine zw_iconst (v := 0) dS_scanAround_2 (by decide) ?_
    refine zw_istore_n dS_scanAround_3 (by decide) rfl ?_
    exact zw_lk (L 4 0 rfl) ⟨rfl, rfl, rfl, trivial⟩
  | true =>
    have L : ∀ (m i : Nat), i + m = 4 → WW l g mS_scanAround (zrm (d + 3) 0 0) (fun _ => True) (zQQ g (PI (nI (scanO F S)) (hs2 k (scanS F S) h)) (h.length + 0) 0 0) 4 [(0, some (.ref k)), (1, some (.int (nI (sAcc F S i)))), (2, some (.int (nI i)))] [] (hs2 k (setPl S (kPs F S i)) h) 0 0 := by
      intro m
      induction m with
      | zero =>
        intro i him
        have hi : i = 4 := by omega
        subst hi
        have hS1 : (hs2 k (setPl S (kPs F S 4)) h)[k]? = some (sitC k (setPl S (kPs F S 4))) := hs2_k hS
        have hp1 : (hs2 k (setPl S (kPs F S 4)) h)[k + 1]? = some (plC (setPl S (kPs F S 4))) := hs2_p hp
        refine zw_iload_n dS_scanAround_4 rfl ?_
        refine zw_iconst (v := 4) dS_scanAround_5 (by decide) ?_
        refine zw_icmp_ge 58 dS_scanAround_6 (by decide) (fun c_6 => ?_) (fun c_6 => ?_)
        · refine zw_aload_n dS_scanAround_58 rfl ?_
          refine zw_get dS_scanAround_59 zf_S_54 hS1 rfl ?_
          refine zw_if_eq 69 dS_scanAround_62 (by decide) (fun c_62 => ?_) (fun c_62 => ?_)
          · exact absurd (lost0 c_62) (by show ¬ sLost S = false; rw [hl]; decide)
          · refine zw_aload_n dS_scanAround_65 rfl ?_
            refine zc_V0V dS_scanAround_66 zm_S_beFoundIfSure zk_S_112 hS1 rfl (c_S_beFoundIfSure hS1 hp1) ?_ zRR (Nat.le_of_ble_eq_true rfl) ⟨Nat.le_of_ble_eq_true rfl, Nat.le_of_ble_eq_true rfl⟩
            refine zw_iload_n dS_scanAround_69 rfl ?_
            exact zw_iret dS_scanAround_70 rfl rfl (by rw [hs2_len, hs2_len]; rfl) ⟨by rw [sAcc_4], by unfold scanS; rw [if_pos hl, hs2_hs2]; rfl⟩
        · exact absurd (by decide) c_6
      | succ m ih =>
        intro i him
        have hi : i < 4 := by omega
        have hm : (sHd S + i) % 4 < 4 := Nat.mod_lt _ (by decide)
        obtain ⟨hnb, hnO⟩ := nb_ok hF hat hm
        have hS1 : (hs2 k (setPl S (kPs F S i)) h)[k]? = some (sitC k (setPl S (kPs F S i))) := hs2_k hS
        have hp1 : (hs2 k (setPl S (kPs F S i)) h)[k + 1]? = some (plC (setPl S (kPs F S i))) := hs2_p hp
        have hG1 : (hs2 k (setPl S (kPs F S i)) h)[4]? = some (gC F) := hs2_ne hk4.1 hk4.2 hG
        refine zw_iload_n dS_scanAround_4 rfl ?_
        refine zw_iconst (v := 4) dS_scanAround_5 (by decide) ?_
        refine zw_icmp_ge 58 dS_scanAround_6 (by decide) (fun c_6 => ?_) (fun c_6 => ?_)
        · exact absurd ((nI_leI (a := 4) (b := i) (by omega) (by omega)).mp c_6) (by omega)
        · refine zw_aload_n dS_scanAround_9 rfl ?_
          refine zw_aload_n dS_scanAround_10 rfl ?_
          refine zw_get dS_scanAround_11 zf_S_15 (by first | exact hS1 | exact hG1) rfl ?_
          refine zw_aload_n dS_scanAround_14 rfl ?_
          refine zw_get dS_scanAround_15 zf_S_35 (by first | exact hS1 | exact hG1) rfl ?_
          refine zw_aload_n dS_scanAround_18 rfl ?_
          refine zw_get dS_scanAround_19 zf_S_38 (by first | exact hS1 | exact hG1) rfl ?_
          refine zw_iload_n dS_scanAround_22 rfl ?_
          refine zc_S2I dS_scanAround_23 zm_F_turned zk_S_106 (c_F_turned (a := sHd S) hh hi) ?_ zRR (Nat.le_of_ble_eq_true rfl) ⟨Nat.le_of_ble_eq_true rfl, Nat.le_of_ble_eq_true rfl⟩
          refine zc_V2I dS_scanAround_26 zm_G_cellBeside zk_S_86 (by first | exact hS1 | exact hG1) rfl (c_G_cellBeside (c := sAt S) hF hG1 hat hm) ?_ zRR (Nat.le_of_ble_eq_true rfl) ⟨Nat.le_of_ble_eq_true rfl, Nat.le_of_ble_eq_true rfl⟩
          refine zc_V1I dS_scanAround_29 zm_S_seenAt zk_S_115 (by first | exact hS1 | exact hG1) rfl (c_S_seenAt hF hG1 hS1 hnO hnb) ?_ zRR (Nat.le_of_ble_eq_true rfl) ⟨Nat.le_of_ble_eq_true rfl, Nat.le_of_ble_eq_true rfl⟩
          rw [told_pl, show told F S (nb F (sAt S) ((sHd S + i) % 4)) = scanT F S i from rfl]
          refine zw_istore_n dS_scanAround_32 (by decide) rfl ?_
          refine zw_iload_n dS_scanAround_33 rfl ?_
          refine zw_iconst (v := 3) dS_scanAround_34 (by decide) ?_
          refine zw_imul dS_scanAround_35 ?_
          rw [show (3 : Int32) = nI 3 from rfl, pk_mul]
          refine zw_iload_n dS_scanAround_36 rfl ?_
          refine zw_iadd dS_scanAround_37 ?_
          rw [nI_add, show sAcc F S i * 3 + scanT F S i = sAcc F S (i + 1) from rfl]
          refine zw_istore_n dS_scanAround_38 (by decide) rfl ?_
          refine zw_aload_n dS_scanAround_39 rfl ?_
          refine zw_get dS_scanAround_40 zf_S_54 (by first | exact hS1 | exact hG1) rfl ?_
          refine zw_if_eq 52 dS_scanAround_43 (by decide) (fun c_43 => ?_) (fun c_43 => ?_)
          · exact absurd (lost0 c_43) (by show ¬ sLost S = false; rw [hl]; decide)
          · refine zw_aload_n dS_scanAround_46 rfl ?_
            refine zw_iload_n dS_scanAround_47 rfl ?_
            refine zw_iload_n dS_scanAround_48 rfl ?_
            refine zc_V2V dS_scanAround_49 zm_S_keepPlacesThatSee zk_S_118 (by first | exact hS1 | exact hG1) rfl (c_S_keepPlacesThatSee hk4 hF hG1 hS1 hp1 (scanT_lt F S i) hi) ?_ zRR (Nat.le_of_ble_eq_true rfl) ⟨Nat.le_of_ble_eq_true rfl, Nat.le_of_ble_eq_true rfl⟩
            refine zw_h (h2 := hs2 k (setPl S (kPs F S (i + 1))) h) (hs2_hs2 _ _ _ _) ?_
            refine zw_incN dS_scanAround_52 rfl (by decide) rfl ?_
            refine zw_goto 4 dS_scanAround_55 (by decide) ?_
            exact zw_lk (ih (i + 1) (by omega)) ⟨rfl, rfl, rfl, trivial⟩
    have e0 : h = hs2 k (setPl S (kPs F S 0)) h := by
      rw [show setPl S (kPs F S 0) = S from rfl, hs2_self hS hp]
    refine zw_iconst (v := 0) dS_scanAround_0 (by decide) ?_
    refine zw_istore_n dS_scanAround_1 (by decide) rfl ?_
    refine zw_iconst (v := 0) dS_scanAround_2 (by decide) ?_
    refine zw_istore_n dS_scanAround_3 (by decide) rfl ?_
    refine zw_h e0 ?_
    exact zw_lk (L 4 0 rfl) ⟨rfl, rfl, rfl, trivial⟩
theorem c_S_carryTo (hk4 : k ≠ 4 ∧ k + 1 ≠ 4) (hF : fOK F) (hG : h[4]? = some (gC F)) (hS : h[k]? = some (sitC k S)) (hp : h[k + 1]? = some (plC S)) {c hd : Nat} : Run l g mS_carryTo (d + 3) 0 0 [.ref k, .int (nI c), .int (nI hd)] h (PI (nI (many (carP F S))) (hs2 k (carS F S c hd) h)) := by
  refine run_of (by decide) (Nat.le_of_ble_eq_true rfl) ?_
  generalize hS1e : setLost (setHd (setAt' S c) hd) true = S1
  have hSa : (hs2 k (setAt' S c) h)[k]? = some (sitC k (setAt' S c)) := hs2_k hS
  have hpa : (hs2 k (setAt' S c) h)[k + 1]? = some (plC (setAt' S c)) := hs2_p hp
  have hSb : (hs2 k (setHd (setAt' S c) hd) h)[k]? = some (sitC k (setHd (setAt' S c) hd)) := hs2_k hS
  have hpb : (hs2 k (setHd (setAt' S c) hd) h)[k + 1]? = some (plC (setHd (setAt' S c) hd)) := hs2_p hp
  have hSc : (hs2 k S1 h)[k]? = some (sitC k S1) := hs2_k hS
  have hpc : (hs2 k S1 h)[k + 1]? = some (plC S1) := hs2_p hp
  have hGc : (hs2 k S1 h)[4]? = some (gC F) := hs2_ne hk4.1 hk4.2 hG
  have hpl : setPl S1 (carP F S) = carS0 F S c hd := by rw [← hS1e]; rfl
  have hmay : mayS F S1 0 = fun x => carP F S x 0 := by rw [← hS1e]; rfl
  have L : ∀ (m i : Nat), i + m = 4 → WW l g mS_carryTo (zrm (d + 3) 0 0) (fun _ => True) (zQQ g (PI (nI (many (carP F S))) (hs2 k (carS F S c hd) h)) (h.length + 0) 0 0) 17 [(0, some (.ref k)), (1, some (.int (nI c))), (2, some (.int (nI hd))), (3, some (.int (nI i)))] [] ((hs2 k S1 h).set (k + 1) (.inl (1, 4, .inr (.inl (mixP (sPl S1) (carP F S) i))))) 0 0 := by
    intro m
    induction m with
    | zero =>
      intro i him
      have hi : i = 4 := by omega
      subst hi
      have hS2 : (hs2 k (carS0 F S c hd) h)[k]? = some (sitC k (carS0 F S c hd)) := hs2_k hS
      have hp2 : (hs2 k (carS0 F S c hd) h)[k + 1]? = some (plC (carS0 F S c hd)) := hs2_p hp
      refine zw_extl (fun j => mset (fun x => carP F S x j)) (zg_eq hpc) (mixP_4 _ _) ?_
      refine zw_h (h2 := hs2 k (carS0 F S c hd) h) ((zs_set _ _ _ _).trans (by rw [← hpl]; exact (hs2_pl (S := S1) (S' := setPl S1 (carP F S)) rfl rfl hSc).trans (hs2_hs2 _ _ _ _))) ?_
      refine zw_iload_n dS_carryTo_17 rfl ?_
      refine zw_iconst (v := 4) dS_carryTo_18 (by decide) ?_
      refine zw_icmp_ge 39 dS_carryTo_19 (by decide) (fun c_19 => ?_) (fun c_19 => ?_)
      · refine zw_aload_n dS_carryTo_39 rfl ?_
        refine zc_V0I dS_carryTo_40 zm_S_placeCount zk_S_124 hS2 rfl (c_S_placeCount hS2 hp2) ?_ zRR (Nat.le_of_ble_eq_true rfl) ⟨Nat.le_of_ble_eq_true rfl, Nat.le_of_ble_eq_true rfl⟩
        rw [show (if sLost (carS0 F S c hd) = true then nI (many (sPl (carS0 F S c hd))) else 1) = nI (many (carP F S)) from rfl]
        refine zw_istore_n dS_carryTo_43 (by decide) rfl ?_
        refine zw_aload_n dS_carryTo_44 rfl ?_
        refine zc_V0V dS_carryTo_45 zm_S_beFoundIfSure zk_S_112 hS2 rfl (c_S_beFoundIfSure hS2 hp2) ?_ zRR (Nat.le_of_ble_eq_true rfl) ⟨Nat.le_of_ble_eq_true rfl, Nat.le_of_ble_eq_true rfl⟩
        refine zw_iload_n dS_carryTo_48 rfl ?_
        exact zw_iret dS_carryTo_49 rfl rfl (by rw [hs2_len, hs2_len]; rfl) ⟨rfl, by rw [hs2_hs2]; rfl⟩
      · exact absurd (by decide) c_19
    | succ m ih =>
      intro i him
      have hi : i < 4 := by omega
      have hS2 : ((hs2 k S1 h).set (k + 1) (.inl (1, 4, .inr (.inl (mixP (sPl S1) (carP F S) i)))))[k]? = some (sitC k S1) := zg_ne (by omega) hSc
      have hG2 : ((hs2 k S1 h).set (k + 1) (.inl (1, 4, .inr (.inl (mixP (sPl S1) (carP F S) i)))))[4]? = some (gC F) := zg_ne hk4.2 hGc
      have hp2 : ((hs2 k S1 h).set (k + 1) (.inl (1, 4, .inr (.inl (mixP (sPl S1) (carP F S) i)))))[k + 1]? = some (.inl (1, 4, .inr (.inl (mixP (sPl S1) (carP F S) i)))) := zg_eq hpc
      refine zw_iload_n dS_carryTo_17 rfl ?_
      refine zw_iconst (v := 4) dS_carryTo_18 (by decide) ?_
      refine zw_icmp_ge 39 dS_carryTo_19 (by decide) (fun c_19 => ?_) (fun c_19 => ?_)
      · exact absurd ((nI_leI (a := 4) (b := i) (by omega) (by omega)).mp c_19) (by omega)
      · refine zw_aload_n dS_carryTo_22 rfl ?_
        refine zw_get dS_carryTo_23 zf_S_9 (by first | exact hS2 | exact hp2) rfl ?_
        refine zw_iload_n dS_carryTo_26 rfl ?_
        refine zw_aload_n dS_carryTo_27 rfl ?_
        refine zw_iconst (v := 0) dS_carryTo_28 (by decide) ?_
        refine zc_V1L dS_carryTo_29 zm_S_cellsThatMayShow zk_S_121 (by first | exact hS2 | exact hp2) rfl (c_S_cellsThatMayShow (t := 0) hF hG2 hS2 (by decide)) ?_ zRR (Nat.le_of_ble_eq_true rfl) ⟨Nat.le_of_ble_eq_true rfl, Nat.le_of_ble_eq_true rfl⟩
        refine zw_last dS_carryTo_32 (by first | exact hS2 | exact hp2) (nI4 hi) ?_
        refine zw_h (h2 := (hs2 k S1 h).set (k + 1) (.inl (1, 4, .inr (.inl (mixP (sPl S1) (carP F S) (i + 1)))))) ?_ ?_
        · rw [zs_set, cl4 hi, hmay, show (fun x => carP F S x 0) = (fun x => carP F S x i) from rfl, mixP_up]
        refine zw_incN dS_carryTo_33 rfl (by decide) rfl ?_
        refine zw_goto 17 dS_carryTo_36 (by decide) ?_
        exact zw_lk (ih (i + 1) (by omega)) ⟨rfl, rfl, rfl, rfl, trivial⟩
  have e0 : hs2 k S1 h = (hs2 k S1 h).set (k + 1) (.inl (1, 4, .inr (.inl (mixP (sPl S1) (carP F S) 0)))) := by
    rw [mixP_0]; exact (zs_self hpc).symm
  refine zw_aload_n dS_carryTo_0 rfl ?_
  refine zw_iload_n dS_carryTo_1 rfl ?_
  refine zw_puti dS_carryTo_2 zf_S_35 hS (Nat.le_of_ble_eq_true rfl) ?_
  refine zw_h (h2 := hs2 k (setAt' S c) h) (hs2_sit (S := S) rfl rfl hp) ?_
  refine zw_aload_n dS_carryTo_5 rfl ?_
  refine zw_iload_n dS_carryTo_6 rfl ?_
  refine zw_puti dS_carryTo_7 zf_S_38 hSa (Nat.le_of_ble_eq_true rfl) ?_
  refine zw_h (h2 := hs2 k (setHd (setAt' S c) hd) h) ((hs2_sit (S := setAt' S c) (S' := setHd (setAt' S c) hd) rfl rfl hpa).trans (hs2_hs2 _ _ _ _)) ?_
  refine zw_aload_n dS_carryTo_10 rfl ?_
  refine zw_iconst (v := 1) dS_carryTo_11 (by decide) ?_
  refine zw_put dS_carryTo_12 zf_S_54 hSb rfl rfl (Nat.le_of_ble_eq_true rfl) ?_
  refine zw_h (h2 := hs2 k S1 h) (by rw [← hS1e]; exact (hs2_sit (S := setHd (setAt' S c) hd) (S' := setLost (setHd (setAt' S c) hd) true) rfl rfl hpb).trans (hs2_hs2 _ _ _ _)) ?_
  refine zw_iconst (v := 0) dS_carryTo_15 (by decide) ?_
  refine zw_istore_n dS_carryTo_16 (by decide) rfl ?_
  refine zw_h e0 ?_
  exact zw_lk (L 4 0 rfl) ⟨rfl, rfl, rfl, rfl, trivial⟩
end C27
end
section
section C28
variable {l : Launch} {g : zG} {d : Nat} {h : zH} {F : Fl} {S S2 : Sit} {k k2 : Nat}
def ppl (pl : Nat → Nat → Bool) : Nat → Bool := fun e => pl (e / 4) (e % 4)
def nthP (pl : Nat → Nat → Bool) (j : Nat) : Option Nat := fst (fun e => ppl pl e && cnt (ppl pl) e == j) 144 0
def plK (S : Sit) (j : Nat) : Option Nat := if sLost S = true then nthP (sPl S) j else if j = 0 then some (4 * sAt S + sHd S) else none
theorem sh2 : ((2 : Int32) &&& 31).toBitVec.smod 32 = 2 := by decide
theorem c_S_placeAt (hS : h[k]? = some (sitC k S)) (hp : h[k + 1]? = some (plC S)) {j : Nat} (hj : j < 2 ^ 31) : Run l g mS_placeAt (d + 2) 0 0 [.ref k, .int (nI j)] h (PI (dI (plK S j)) h) := by
  refine run_of (by decide) (Nat.le_of_ble_eq_true rfl) ?_
  by_cases hl : sLost S = true
  · have efin : plK S j = nthP (sPl S) j := by unfold plK; rw [if_pos hl]
    rw [efin]
    have L : ∀ (m e : Nat), e + m = 144 → fst (fun e => ppl (sPl S) e && cnt (ppl (sPl S)) e == j) m e = nthP (sPl S) j → WW l g mS_placeAt (zrm (d + 2) 0 0) (fun _ => True) (zQQ g (PI (dI (nthP (sPl S) j)) h) (h.length + 0) 0 0) 32 [(0, some (.ref k)), (1, some (.int (nI j))), (2, some (.int (nI (cnt (ppl (sPl S)) e)))), (3, some (.int (nI e)))] [] h 0 0 := by
      intro m
      induction m with
      | zero =>
        intro e hem hfs
        have he : e = 144 := by omega
        subst he
        refine zw_iload_n dS_placeAt_32 rfl ?_
        refine zw_sipush (v := 144) dS_placeAt_33 (by decide) ?_
        refine zw_icmp_ge 72 dS_placeAt_36 (by decide) (fun c_36 => ?_) (fun c_36 => ?_)
        · refine zw_bipush (v := (-9)) dS_placeAt_72 (by decide) ?_
          exact zw_iret dS_placeAt_74 rfl rfl rfl ⟨by rw [← hfs]; rfl, rfl⟩
        · exact absurd (by decide) c_36
      | succ m ih =>
        intro e hem hfs
        have he4 : e % 4 < 4 := Nat.mod_lt _ (by decide)
        have hed : e / 4 < 36 := by omega
        have hcl := cnt_le (ppl (sPl S)) e
        have ho : oOK (some (e / 4)) := oOK_some hed
        have e1 : nI e &&& 3 = nI (e % 4) := pk_andN (m := 3) (by omega) 2 (by decide)
        have e2 : nI e >>> ((2 : Int32) &&& 31) = oI (some (e / 4)) := pk_shrN (by omega) _ 2 (by decide)
        have hpe : ppl (sPl S) e = sPl S (e / 4) (e % 4) := rfl
        generalize hq4 : e % 4 = r at he4 e1 hpe
        generalize hq5 : e / 4 = c at hed ho e2 hpe
        refine zw_iload_n dS_placeAt_32 rfl ?_
        refine zw_sipush (v := 144) dS_placeAt_33 (by decide) ?_
        refine zw_icmp_ge 72 dS_placeAt_36 (by decide) (fun c_36 => ?_) (fun c_36 => ?_)
        · exact absurd ((nI_leI (a := 144) (b := e) (by omega) (by omega)).mp c_36) (by omega)
        · refine zw_aload_n dS_placeAt_39 rfl ?_
          refine zw_get dS_placeAt_40 zf_S_9 (by first | exact hS | exact hp) rfl ?_
          refine zw_iload_n dS_placeAt_43 rfl ?_
          refine zw_iconst (v := 3) dS_placeAt_44 (by decide) ?_
          refine zw_iand dS_placeAt_45 ?_
          rw [e1]
          refine zw_lald dS_placeAt_46 (by first | exact hS | exact hp) (nI4 he4) ?_
          rw [cl4 he4]
          refine zw_iload_n dS_placeAt_47 rfl ?_
          refine zw_iconst (v := 2) dS_placeAt_48 (by decide) ?_
          refine zw_ishr dS_placeAt_49 ?_
          rw [e2]
          refine zc_S2I dS_placeAt_50 zm_F_holds zk_S_72 (c_F_holds ho) ?_ zRR (Nat.le_of_ble_eq_true rfl) ⟨Nat.le_of_ble_eq_true rfl, Nat.le_of_ble_eq_true rfl⟩
          refine zw_if_eq 66 dS_placeAt_53 (by decide) (fun c_53 => ?_) (fun c_53 => ?_)
          · refine zw_incN dS_placeAt_66 rfl (by decide) rfl ?_
            refine zw_goto 32 dS_placeAt_69 (by decide) ?_
            have hb : ppl (sPl S) e = false := by rw [hpe]; exact hb0 c_53
            have hc1 : cnt (ppl (sPl S)) (e + 1) = cnt (ppl (sPl S)) e := by simp [cnt, hb]
            refine zw_lk (ih (e + 1) (by omega) ?_) ⟨rfl, rfl, by rw [hc1]; rfl, rfl, trivial⟩
            rw [← hfs, fst_f]
            simp [hb]
          · have hb : ppl (sPl S) e = true := by rw [hpe]; exact hb1 c_53
            refine zw_iload_n dS_placeAt_56 rfl ?_
            refine zw_iload_n dS_placeAt_57 rfl ?_
            refine zw_icmp_ne 63 dS_placeAt_58 (by decide) (fun c_58 => ?_) (fun c_58 => ?_)
            · refine zw_incN dS_placeAt_63 rfl (by decide) rfl ?_
              refine zw_incN dS_placeAt_66 rfl (by decide) rfl ?_
              refine zw_goto 32 dS_placeAt_69 (by decide) ?_
              have hne : cnt (ppl (sPl S)) e ≠ j := fun q => c_58 (by rw [q])
              have hc1 : cnt (ppl (sPl S)) (e + 1) = cnt (ppl (sPl S)) e + 1 := by simp [cnt, hb]
              refine zw_lk (ih (e + 1) (by omega) ?_) ⟨rfl, rfl, by rw [hc1]; rfl, rfl, trivial⟩
              rw [← hfs, fst_f]
              simp [hb, hne]
            · refine zw_iload_n dS_placeAt_61 rfl ?_
              exact zw_iret dS_placeAt_62 rfl rfl rfl ⟨by rw [← hfs, fst_t (by rw [hb, Bool.true_and, beq_iff_eq]; exact Classical.byContradiction fun q => q ((nI_eq (by omega) hj).mp c_58))]; rfl, rfl⟩
    refine zw_aload_n dS_placeAt_0 rfl ?_
    refine zw_get dS_placeAt_1 zf_S_54 hS rfl ?_
    refine zw_if_ne 28 dS_placeAt_4 (by decide) (fun c_4 => ?_) (fun c_4 => ?_)
    · refine zw_iconst (v := 0) dS_placeAt_28 (by decide) ?_
      refine zw_istore_n dS_placeAt_29 (by decide) rfl ?_
      refine zw_iconst (v := 0) dS_placeAt_30 (by decide) ?_
      refine zw_istore_n dS_placeAt_31 (by decide) rfl ?_
      exact zw_lk (L 144 0 rfl rfl) ⟨rfl, rfl, rfl, rfl, trivial⟩
    · exact absurd hl (by rw [lost0 c_4]; decide)
  · have efin : plK S j = if j = 0 then some (4 * sAt S + sHd S) else none := by unfold plK; rw [if_neg hl]
    rw [efin]
    refine zw_aload_n dS_placeAt_0 rfl ?_
    refine zw_get dS_placeAt_1 zf_S_54 hS rfl ?_
    refine zw_if_ne 28 dS_placeAt_4 (by decide) (fun c_4 => ?_) (fun c_4 => ?_)
    · exact absurd (lost1 c_4) hl
    · refine zw_iload_n dS_placeAt_7 rfl ?_
      refine zw_if_ne 25 dS_placeAt_8 (by decide) (fun c_8 => ?_) (fun c_8 => ?_)
      · refine zw_bipush (v := (-9)) dS_placeAt_25 (by decide) ?_
        exact zw_iret dS_placeAt_27 rfl rfl rfl ⟨by first | (rw [if_pos ((nI_eq (b := 0) hj (by decide)).mp c_8)]; rfl) | (rw [if_neg (fun q => c_8 (by rw [q]; rfl))]; rfl), rfl⟩
      · refine zw_iconst (v := 4) dS_placeAt_11 (by decide) ?_
        refine zw_aload_n dS_placeAt_12 rfl ?_
        refine zw_get dS_placeAt_13 zf_S_35 hS rfl ?_
        refine zw_imul dS_placeAt_16 ?_
        rw [show (4 : Int32) = nI 4 from rfl, pk_mul]
        refine zw_aload_n dS_placeAt_17 rfl ?_
        refine zw_get dS_placeAt_18 zf_S_38 hS rfl ?_
        refine zw_iadd dS_placeAt_21 ?_
        rw [nI_add]
        refine zw_goto 27 dS_placeAt_22 (by decide) ?_
        exact zw_iret dS_placeAt_27 rfl rfl rfl ⟨by first | (rw [if_pos ((nI_eq (b := 0) hj (by decide)).mp c_8)]; rfl) | (rw [if_neg (fun q => c_8 (by rw [q]; rfl))]; rfl), rfl⟩
def bgS (F : Fl) (S : Sit) : Sit := (fun _ => false, 40, 5, fD F, 0, 40, fun i => if i = fD F then 1 else 0, false, sPl S)
theorem bg_1 (F : Fl) (S : Sit) : mset (oneO (some (fD F))) = mset (kn1 (bgS F S)) := by
  rw [oneO_some]
  apply mset_congr
  intro i _
  show (i == fD F) = ((if i = fD F then 1 else 0) == 1)
  by_cases e : i = fD F <;> simp [e]
theorem bg_2 (F : Fl) (S : Sit) : (0 : Int64) = mset (kn2 (bgS F S)) := by
  rw [m_0]
  apply mset_congr
  intro i _
  show false = ((if i = fD F then 1 else 0) == 2)
  by_cases e : i = fD F <;> simp [e]
theorem c_S_begin (hk4 : k ≠ 4) (hF : fOK F) (hG : h[4]? = some (gC F)) (hS : h[k]? = some (sitC k S)) (hp : h[k + 1]? = some (plC S)) : Run l g mS_begin (d + 1) 0 0 [.ref k] h (PV (hs2 k (bgS F S) h)) := by
  refine run_of (by decide) (Nat.le_of_ble_eq_true rfl) ?_
  have hd36 : oOK (some (fD F)) := oOK_some (by have := fN_le hF; have := hF.2.2.1; omega)
  refine zw_aload_n dS_begin_0 rfl ?_
  refine zw_lconst (v := 0) dS_begin_1 (by decide) ?_
  rw [m_0]
  refine zw_putl dS_begin_2 zf_S_19 (by first | exact hS | exact zg_eq hS | exact zg_ne hk4 hG) (Nat.le_of_ble_eq_true rfl) ?_
  refine zw_aload_n dS_begin_5 rfl ?_
  refine zw_bipush (v := 40) dS_begin_6 (by decide) ?_
  refine zw_puti dS_begin_8 zf_S_23 (by first | exact hS | exact zg_eq hS | exact zg_ne hk4 hG) (Nat.le_of_ble_eq_true rfl) ?_
  refine zw_h (zs_set _ _ _ _) ?_
  refine zw_aload_n dS_begin_11 rfl ?_
  refine zw_iconst (v := 5) dS_begin_12 (by decide) ?_
  refine zw_puti dS_begin_13 zf_S_27 (by first | exact hS | exact zg_eq hS | exact zg_ne hk4 hG) (Nat.le_of_ble_eq_true rfl) ?_
  refine zw_h (zs_set _ _ _ _) ?_
  refine zw_aload_n dS_begin_16 rfl ?_
  refine zw_aload_n dS_begin_17 rfl ?_
  refine zw_get dS_begin_18 zf_S_15 (by first | exact hS | exact zg_eq hS | exact zg_ne hk4 hG) rfl ?_
  refine zw_get dS_begin_21 zf_S_30 (by first | exact hS | exact zg_eq hS | exact zg_ne hk4 hG) rfl ?_
  refine zw_puti dS_begin_24 zf_S_35 (by first | exact hS | exact zg_eq hS | exact zg_ne hk4 hG) (Nat.le_of_ble_eq_true rfl) ?_
  refine zw_h (zs_set _ _ _ _) ?_
  refine zw_aload_n dS_begin_27 rfl ?_
  refine zw_iconst (v := 0) dS_begin_28 (by decide) ?_
  refine zw_puti dS_begin_29 zf_S_38 (by first | exact hS | exact zg_eq hS | exact zg_ne hk4 hG) (Nat.le_of_ble_eq_true rfl) ?_
  refine zw_h (zs_set _ _ _ _) ?_
  refine zw_aload_n dS_begin_32 rfl ?_
  refine zw_bipush (v := 40) dS_begin_33 (by decide) ?_
  refine zw_puti dS_begin_35 zf_S_41 (by first | exact hS | exact zg_eq hS | exact zg_ne hk4 hG) (Nat.le_of_ble_eq_true rfl) ?_
  refine zw_h (zs_set _ _ _ _) ?_
  refine zw_aload_n dS_begin_38 rfl ?_
  refine zw_aload_n dS_begin_39 rfl ?_
  refine zw_get dS_begin_40 zf_S_15 (by first | exact hS | exact zg_eq hS | exact zg_ne hk4 hG) rfl ?_
  refine zw_get dS_begin_43 zf_S_30 (by first | exact hS | exact zg_eq hS | exact zg_ne hk4 hG) rfl ?_
  refine zc_S1L dS_begin_46 zm_F_only zk_S_44 (c_F_only hd36) ?_ zRR (Nat.le_of_ble_eq_true rfl) ⟨Nat.le_of_ble_eq_true rfl, Nat.le_of_ble_eq_true rfl⟩
  rw [bg_1 F S]
  refine zw_putl dS_begin_49 zf_S_48 (by first | exact hS | exact zg_eq hS | exact zg_ne hk4 hG) (Nat.le_of_ble_eq_true rfl) ?_
  refine zw_h (zs_set _ _ _ _) ?_
  refine zw_aload_n dS_begin_52 rfl ?_
  refine zw_lconst (v := 0) dS_begin_53 (by decide) ?_
  rw [bg_2 F S]
  refine zw_putl dS_begin_54 zf_S_51 (by first | exact hS | exact zg_eq hS | exact zg_ne hk4 hG) (Nat.le_of_ble_eq_true rfl) ?_
  refine zw_h (zs_set _ _ _ _) ?_
  refine zw_aload_n dS_begin_57 rfl ?_
  refine zw_iconst (v := 0) dS_begin_58 (by decide) ?_
  refine zw_put dS_begin_59 zf_S_54 (by first | exact hS | exact zg_eq hS | exact zg_ne hk4 hG) rfl rfl (Nat.le_of_ble_eq_true rfl) ?_
  refine zw_h (zs_set _ _ _ _) ?_
  refine zw_h (h2 := hs2 k (bgS F S) h) (hs2_sit (S := S) (S' := bgS F S) rfl rfl hp) ?_
  exact zw_vret dS_begin_62 rfl (by rw [hs2_len]; rfl) ⟨rfl, rfl⟩
theorem cpy4 (f f2 : Nat → Int64) : ∀ j, j < 4 → va_cpy f f2 (0 : Int32).toNatClampNeg (0 : Int32).toNatClampNeg (4 : Int32).toNatClampNeg j = f j := by
  intro j hj
  have e0 : (0 : Int32).toNatClampNeg = 0 := by decide
  have e4 : (4 : Int32).toNatClampNeg = 4 := by decide
  rw [e0, e4]
  simp [va_cpy, hj]
theorem zac_R : 1 ≤ (zrm (d + 1) 0 0).frames ∧ (([] : List Value).map Value.category).sum + (nativeFrameWords "java/lang/System" "arraycopy" 5 + 11) ≤ (zrm (d + 1) 0 0).locals := by
  refine ⟨Nat.succ_le_succ (Nat.zero_le _), ?_⟩
  have : nativeFrameWords "java/lang/System" "arraycopy" 5 + 11 ≤ 38 := by decide
  show 0 + (nativeFrameWords "java/lang/System" "arraycopy" 5 + 11) ≤ 38 * (d + 1)
  omega
theorem c_S_copyFrom (hS : h[k]? = some (sitC k S)) (hp : h[k + 1]? = some (plC S)) (hS2 : h[k2]? = some (sitC k2 S2)) (hp2 : h[k2 + 1]? = some (plC S2)) (n1 : k ≠ k2) (n2 : k ≠ k2 + 1) : Run l g mS_copyFrom (d + 1) 0 0 [.ref k, .ref k2] h (PV (hs2 k S2 h)) := by
  refine run_of (by decide) (Nat.le_of_ble_eq_true rfl) ?_
  refine zw_aload_n dS_copyFrom_0 rfl ?_
  refine zw_aload_n dS_copyFrom_1 rfl ?_
  refine zw_get dS_copyFrom_2 zf_S_19 (by first | exact hS | exact hS2 | exact zg_eq hS | exact zg_ne n1 hS2) rfl ?_
  refine zw_putl dS_copyFrom_5 zf_S_19 (by first | exact hS | exact hS2 | exact zg_eq hS | exact zg_ne n1 hS2) (Nat.le_of_ble_eq_true rfl) ?_
  refine zw_aload_n dS_copyFrom_8 rfl ?_
  refine zw_aload_n dS_copyFrom_9 rfl ?_
  refine zw_get dS_copyFrom_10 zf_S_23 (by first | exact hS | exact hS2 | exact zg_eq hS | exact zg_ne n1 hS2) rfl ?_
  refine zw_puti dS_copyFrom_13 zf_S_23 (by first | exact hS | exact hS2 | exact zg_eq hS | exact zg_ne n1 hS2) (Nat.le_of_ble_eq_true rfl) ?_
  refine zw_h (zs_set _ _ _ _) ?_
  refine zw_aload_n dS_copyFrom_16 rfl ?_
  refine zw_aload_n dS_copyFrom_17 rfl ?_
  refine zw_get dS_copyFrom_18 zf_S_27 (by first | exact hS | exact hS2 | exact zg_eq hS | exact zg_ne n1 hS2) rfl ?_
  refine zw_puti dS_copyFrom_21 zf_S_27 (by first | exact hS | exact hS2 | exact zg_eq hS | exact zg_ne n1 hS2) (Nat.le_of_ble_eq_true rfl) ?_
  refine zw_h (zs_set _ _ _ _) ?_
  refine zw_aload_n dS_copyFrom_24 rfl ?_
  refine zw_aload_n dS_copyFrom_25 rfl ?_
  refine zw_get dS_copyFrom_26 zf_S_35 (by first | exact hS | exact hS2 | exact zg_eq hS | exact zg_ne n1 hS2) rfl ?_
  refine zw_puti dS_copyFrom_29 zf_S_35 (by first | exact hS | exact hS2 | exact zg_eq hS | exact zg_ne n1 hS2) (Nat.le_of_ble_eq_true rfl) ?_
  refine zw_h (zs_set _ _ _ _) ?_
  refine zw_aload_n dS_copyFrom_32 rfl ?_
  refine zw_aload_n dS_copyFrom_33 rfl ?_
  refine zw_get dS_copyFrom_34 zf_S_38 (by first | exact hS | exact hS2 | exact zg_eq hS | exact zg_ne n1 hS2) rfl ?_
  refine zw_puti dS_copyFrom_37 zf_S_38 (by first | exact hS | exact hS2 | exact zg_eq hS | exact zg_ne n1 hS2) (Nat.le_of_ble_eq_true rfl) ?_
  refine zw_h (zs_set _ _ _ _) ?_
  refine zw_aload_n dS_copyFrom_40 rfl ?_
  refine zw_aload_n dS_copyFrom_41 rfl ?_
  refine zw_get dS_copyFrom_42 zf_S_41 (by first | exact hS | exact hS2 | exact zg_eq hS | exact zg_ne n1 hS2) rfl ?_
  refine zw_puti dS_copyFrom_45 zf_S_41 (by first | exact hS | exact hS2 | exact zg_eq hS | exact zg_ne n1 hS2) (Nat.le_of_ble_eq_true rfl) ?_
  refine zw_h (zs_set _ _ _ _) ?_
  refine zw_aload_n dS_copyFrom_48 rfl ?_
  refine zw_aload_n dS_copyFrom_49 rfl ?_
  refine zw_get dS_copyFrom_50 zf_S_48 (by first | exact hS | exact hS2 | exact zg_eq hS | exact zg_ne n1 hS2) rfl ?_
  refine zw_putl dS_copyFrom_53 zf_S_48 (by first | exact hS | exact hS2 | exact zg_eq hS | exact zg_ne n1 hS2) (Nat.le_of_ble_eq_true rfl) ?_
  refine zw_h (zs_set _ _ _ _) ?_
  refine zw_aload_n dS_copyFrom_56 rfl ?_
  refine zw_aload_n dS_copyFrom_57 rfl ?_
  refine zw_get dS_copyFrom_58 zf_S_51 (by first | exact hS | exact hS2 | exact zg_eq hS | exact zg_ne n1 hS2) rfl ?_
  refine zw_putl dS_copyFrom_61 zf_S_51 (by first | exact hS | exact hS2 | exact zg_eq hS | exact zg_ne n1 hS2) (Nat.le_of_ble_eq_true rfl) ?_
  refine zw_h (zs_set _ _ _ _) ?_
  refine zw_aload_n dS_copyFrom_64 rfl ?_
  refine zw_aload_n dS_copyFrom_65 rfl ?_
  refine zw_get dS_copyFrom_66 zf_S_54 (by first | exact hS | exact hS2 | exact zg_eq hS | exact zg_ne n1 hS2) rfl ?_
  refine zw_put dS_copyFrom_69 zf_S_54 (by first | exact hS | exact hS2 | exact zg_eq hS | exact zg_ne n1 hS2) (by cases sLost S2 <;> rfl) (by cases sLost S2 <;> rfl) (Nat.le_of_ble_eq_true rfl) ?_
  refine zw_h (zs_set _ _ _ _) ?_
  refine zw_aload_n dS_copyFrom_72 rfl ?_
  refine zw_get dS_copyFrom_73 zf_S_9 (by first | exact hS | exact hS2 | exact zg_eq hS | exact zg_ne n1 hS2) rfl ?_
  refine zw_iconst (v := 0) dS_copyFrom_76 (by decide) ?_
  refine zw_aload_n dS_copyFrom_77 rfl ?_
  refine zw_get dS_copyFrom_78 zf_S_9 (by first | exact hS | exact hS2 | exact zg_eq hS | exact zg_ne n1 hS2) rfl ?_
  refine zw_iconst (v := 0) dS_copyFrom_81 (by decide) ?_
  refine zw_iconst (v := 4) dS_copyFrom_82 (by decide) ?_
  refine zw_copyl dS_copyFrom_83 zk_S_58 zac_n zac_s zac_i (zg_ne n2 hp2) (zg_ne (by omega) hp) (by decide) (by decide) (by decide) (by decide) (by decide) zac_R ?_
  refine zw_extl (fun j => mset (fun c => sPl S2 c j)) (zg_eq (zg_ne (by omega) hp)) (cpy4 _ _) ?_
  refine zw_h (h2 := hs2 k S2 h) (zs_set _ _ _ _) ?_
  exact zw_vret dS_copyFrom_86 rfl (by rw [hs2_len]; rfl) ⟨rfl, rfl⟩
end C28
end
section
/-! ===== ways are the same from both ends ===== -/
def Adj (F : Fl) (c b : Nat) : Prop := ∃ hand, hand < 4 ∧ nb F c hand = some b
theorem Adj.symm {F : Fl} (hF : fOK F) {c b : Nat} (hc : c < fN F) (h : Adj F c b) : b < fN F ∧ Adj F b c := by
  obtain ⟨hand, hh, e⟩ := h
  obtain ⟨h1, h2⟩ := nb_spec hF hc hh e
  exact ⟨h1, _, Nat.mod_lt _ (by decide), h2⟩
theorem arn_adj {F : Fl} {c : Nat} {p : Nat → Bool} : arn F p c = true ↔ c < fN F ∧ ∃ b, Adj F c b ∧ p b = true := by
  rw [arn_iff]
  constructor
  · rintro ⟨h, hand, b, h1, h2, h3⟩; exact ⟨h, b, ⟨hand, h1, h2⟩, h3⟩
  · rintro ⟨h, b, ⟨hand, h1, h2⟩, h3⟩; exact ⟨h, hand, b, h1, h2, h3⟩
section DST
variable {F : Fl} {K : Nat → Bool}
theorem lvl_0 {a c : Nat} : lvl F K (some a) 0 c = true ↔ a = c ∧ K c = true := by
  simp [lvl, oneO]
theorem lvl_s {a : Option Nat} {k c : Nat} : lvl F K a (k + 1) c = true ↔ lvl F K a k c = true ∨ (K c = true ∧ c < fN F ∧ ∃ b, Adj F c b ∧ lvl F K a k b = true) := by
  simp only [lvl, Bool.or_eq_true, Bool.and_eq_true, arn_adj]
  constructor
  · rintro (h | ⟨⟨h1, b, h2⟩, h3⟩)
    · exact Or.inl h
    · exact Or.inr ⟨h3, h1, b, h2⟩
  · rintro (h | ⟨h3, h1, b, h2⟩)
    · exact Or.inl h
    · exact Or.inr ⟨⟨h1, b, h2⟩, h3⟩
theorem lvl_front (hF : fOK F) (hK : sub F K) : ∀ (k a c : Nat), lvl F K (some a) (k + 1) c = true ↔ lvl F K (some a) k c = true ∨ (K a = true ∧ ∃ b, Adj F a b ∧ lvl F K (some b) k c = true) := by
  intro k
  induction k with
  | zero =>
    intro a c
    rw [lvl_s]
    constructor
    · rintro (h | ⟨h1, h2, b, h3, h4⟩)
      · exact Or.inl h
      · obtain ⟨rfl, h5⟩ := lvl_0.mp h4
        exact Or.inr ⟨h5, c, (h3.symm hF h2).2, lvl_0.mpr ⟨rfl, h1⟩⟩
    · rintro (h | ⟨h1, b, h2, h3⟩)
      · exact Or.inl h
      · obtain ⟨rfl, h5⟩ := lvl_0.mp h3
        have ha := hK _ h1
        exact Or.inr ⟨h5, (h2.symm hF ha).1, a, (h2.symm hF ha).2, lvl_0.mpr ⟨rfl, h1⟩⟩
  | succ k ih =>
    intro a c
    constructor
    · intro h
      rcases lvl_s.mp h with h | ⟨h1, h2, b, h3, h4⟩
      · exact Or.inl h
      · rcases (ih a b).mp h4 with h5 | ⟨h5, b2, h6, h7⟩
        · exact Or.inl (lvl_s.mpr (Or.inr ⟨h1, h2, b, h3, h5⟩))
        · exact Or.inr ⟨h5, b2, h6, lvl_s.mpr (Or.inr ⟨h1, h2, b, h3, h7⟩)⟩
    · rintro (h | ⟨h1, b, h2, h3⟩)
      · exact lvl_up h
      · rcases lvl_s.mp h3 with h4 | ⟨h4, h5, b2, h6, h7⟩
        · exact lvl_up ((ih a c).mpr (Or.inr ⟨h1, b, h2, h4⟩))
        · exact lvl_s.mpr (Or.inr ⟨h4, h5, b2, h6, (ih a b2).mpr (Or.inr ⟨h1, b, h2, h7⟩)⟩)
theorem lvl_symm (hF : fOK F) (hK : sub F K) : ∀ (k a c : Nat), lvl F K (some a) k c = true ↔ lvl F K (some c) k a = true := by
  intro k
  induction k with
  | zero =>
    intro a c
    rw [lvl_0, lvl_0]
    constructor
    · rintro ⟨rfl, h⟩; exact ⟨rfl, h⟩
    · rintro ⟨rfl, h⟩; exact ⟨rfl, h⟩
  | succ k ih =>
    intro a c
    rw [lvl_s, lvl_front hF hK k c a, ih a c]
    constructor
    · rintro (h | ⟨h1, h2, b, h3, h4⟩)
      · exact Or.inl h
      · exact Or.inr ⟨h1, b, h3, (ih a b).mp h4⟩
    · rintro (h | ⟨h1, b, h3, h4⟩)
      · exact Or.inl h
      · exact Or.inr ⟨h1, hK _ h1, b, h3, (ih a b).mpr h4⟩
theorem dst_symm (hF : fOK F) (hK : sub F K) (a c : Nat) : dst F K (some a) c = dst F K (some c) a := by
  unfold dst
  congr 1
  funext k
  have := lvl_symm hF hK k a c
  cases h1 : lvl F K (some a) k c with
  | true => exact (this.mp h1).symm
  | false =>
    cases h2 : lvl F K (some c) k a with
    | false => rfl
    | true => rw [this.mpr h2] at h1; cases h1
theorem dst_some {a : Option Nat} {c k : Nat} : dst F K a c = some k ↔ (k < 36 ∧ lvl F K a k c = true ∧ ∀ j, j < k → lvl F K a j c = false) := by
  unfold dst
  rw [fst_some]
  constructor
  · rintro ⟨-, h2, h3, h4⟩; exact ⟨by omega, h3, fun j hj => h4 j (by omega) hj⟩
  · rintro ⟨h2, h3, h4⟩; exact ⟨by omega, by omega, h3, fun j _ hj => h4 j hj⟩
theorem dst_none {a : Option Nat} {c : Nat} : dst F K a c = none ↔ ∀ j, j < 36 → lvl F K a j c = false := by
  unfold dst
  rw [fst_none]
  constructor
  · intro h j hj; exact h j (by omega) (by omega)
  · intro h j _ hj; exact h j (by omega)
/-- a level below 36 gives a distance -/
theorem dst_of {a : Option Nat} {c k : Nat} (hk : k < 36) (h : lvl F K a k c = true) : ∃ m, m ≤ k ∧ dst F K a c = some m := by
  cases hq : dst F K a c with
  | none => rw [dst_none.mp hq k hk] at h; cases h
  | some m =>
    refine ⟨m, ?_, rfl⟩
    obtain ⟨h1, h2, h3⟩ := dst_some.mp hq
    rcases Nat.lt_or_ge k m with q | q
    · rw [h3 k q] at h; cases h
    · exact q
/-! levels stay at the latest behind as many steps as there are cells -/
theorem lvl_cnt (hF : fOK F) (hK : sub F K) {a : Option Nat} : ∀ k, (∀ j, j < k → lvl F K a (j + 1) ≠ lvl F K a j) → k ≤ cnt (lvl F K a k) 36 := by
  intro k
  induction k with
  | zero => intro _; exact Nat.zero_le _
  | succ k ih =>
    intro h
    have h1 := ih (fun j hj => h j (by omega))
    have h2 := h k (by omega)
    have h3 : cnt (lvl F K a k) 36 < cnt (lvl F K a (k + 1)) 36 := by
      have hle : ∀ n, cnt (lvl F K a k) n ≤ cnt (lvl F K a (k + 1)) n := by
        intro n
        induction n with
        | zero => exact Nat.le_refl _
        | succ n ihn =>
          simp only [cnt]
          by_cases hq : lvl F K a k n = true
          · rw [if_pos hq, if_pos (lvl_up hq)]; omega
          · rw [if_neg hq]; omega
      obtain ⟨c, hc⟩ : ∃ c, lvl F K a (k + 1) c ≠ lvl F K a k c := Classical.byContradiction fun q => h2 (funext fun c => Classical.byContradiction fun r => q ⟨c, r⟩)
      have hc1 : lvl F K a (k + 1) c = true ∧ lvl F K a k c = false := by
        cases h5 : lvl F K a k c with
        | true => rw [h5, lvl_up h5] at hc; exact absurd rfl hc
        | false =>
          cases h6 : lvl F K a (k + 1) c with
          | true => exact ⟨rfl, rfl⟩
          | false => rw [h5, h6] at hc; exact absurd rfl hc
      have hc36 : c < 36 := sub36 hF (lvl_sub hK _) c hc1.1
      have hlt : ∀ n, c < n → cnt (lvl F K a k) n < cnt (lvl F K a (k + 1)) n := by
        intro n
        induction n with
        | zero => intro q; omega
        | succ n ihn =>
          intro q
          simp only [cnt]
          rcases Nat.lt_or_ge c n with r | r
          · have := ihn r
            by_cases hq : lvl F K a k n = true
            · rw [if_pos hq, if_pos (lvl_up hq)]; omega
            · rw [if_neg hq]; omega
          · have : c = n := by omega
            subst this
            have := hle c
            rw [if_neg (by rw [hc1.2]; decide), if_pos hc1.1]
            omega
      exact hlt 36 hc36
    omega
theorem cnt_sub (F : Fl) {p : Nat → Bool} (hF : fOK F) (hp : sub F p) : cnt p 36 ≤ fN F := by
  rw [cnt_more (n := fN F) (fN_le hF) (fun i h1 _ => by
    cases hq : p i with
    | false => rfl
    | true => have := hp i hq; omega)]
  exact cnt_le _ _
/-- from 'cells less one' on nothing comes -/
theorem lvl_sat (hF : fOK F) (hK : sub F K) {a : Option Nat} : ∀ j, fN F ≤ j + 1 → lvl F K a j = lvl F K a (fN F - 1) := by
  have hex : ∃ k, k ≤ fN F - 1 ∧ lvl F K a (k + 1) = lvl F K a k := by
    apply Classical.byContradiction
    intro q
    have hpos := fN_pos hF
    have h1 := lvl_cnt hF hK (a := a) (fN F) (fun j hj e => q ⟨j, by omega, e⟩)
    -- the last level has all cells of the floor, and yet it grew from a first level with one cell at most
    have h2 : ∀ k, (∀ j, j < k → lvl F K a (j + 1) ≠ lvl F K a j) → 0 < k → k + 1 ≤ cnt (lvl F K a k) 36 := by
      intro k hk hk0
      have h0 : 0 < cnt (lvl F K a 0) 36 := by
        rcases Nat.eq_zero_or_pos (cnt (lvl F K a 0) 36) with r | r
        · exfalso
          have hz : lvl F K a 0 = fun _ => false := by
            funext c
            cases hq : lvl F K a 0 c with
            | false => rfl
            | true =>
              have := cnt_lt (p := lvl F K a 0) (sub36 hF (lvl_sub hK 0) c hq) hq
              omega
          have : lvl F K a 1 = lvl F K a 0 := by
            funext c
            have e1 : lvl F K a 1 c = (lvl F K a 0 c || (arn F (lvl F K a 0) c && K c)) := rfl
            rw [e1, hz]
            have : arn F (fun _ => false) c = false := by
              cases hq : arn F (fun _ => false) c with
              | false => rfl
              | true => obtain ⟨_, b, _, h3⟩ := arn_adj.mp hq; cases h3
            simp [this]
          exact hk 0 hk0 this
        · exact r
      -- each level grows by one at least
      have grow : ∀ m, m ≤ k → m + cnt (lvl F K a 0) 36 ≤ cnt (lvl F K a m) 36 := by
        intro m
        induction m with
        | zero => intro _; omega
        | succ m ihm =>
          intro hm
          have h3 := ihm (by omega)
          have h4 := hk m (by omega)
          have h5 : cnt (lvl F K a m) 36 < cnt (lvl F K a (m + 1)) 36 := by
            obtain ⟨c, hc⟩ : ∃ c, lvl F K a (m + 1) c ≠ lvl F K a m c := Classical.byContradiction fun q => h4 (funext fun c => Classical.byContradiction fun r => q ⟨c, r⟩)
            have hc1 : lvl F K a (m + 1) c = true ∧ lvl F K a m c = false := by
              cases h5 : lvl F K a m c with
              | true => rw [h5, lvl_up h5] at hc; exact absurd rfl hc
              | false =>
                cases h6 : lvl F K a (m + 1) c with
                | true => exact ⟨rfl, rfl⟩
                | false => rw [h5, h6] at hc; exact absurd rfl hc
            have hc36 : c < 36 := sub36 hF (lvl_sub hK _) c hc1.1
            have hle : ∀ n, cnt (lvl F K a m) n ≤ cnt (lvl F K a (m + 1)) n := by
              intro n
              induction n with
              | zero => exact Nat.le_refl _
              | succ n ihn =>
                simp only [cnt]
                by_cases hq : lvl F K a m n = true
                · rw [if_pos hq, if_pos (lvl_up hq)]; omega
                · rw [if_neg hq]; omega
            have hlt : ∀ n, c < n → cnt (lvl F K a m) n < cnt (lvl F K a (m + 1)) n := by
              intro n
              induction n with
              | zero => intro q; omega
              | succ n ihn =>
                intro q
                simp only [cnt]
                rcases Nat.lt_or_ge c n with r | r
                · have := ihn r
                  by_cases hq : lvl F K a m n = true
                  · rw [if_pos hq, if_pos (lvl_up hq)]; omega
                  · rw [if_neg hq]; omega
                · have : c = n := by omega
                  subst this
                  have := hle c
                  rw [if_neg (by rw [hc1.2]; decide), if_pos hc1.1]
                  omega
            exact hlt 36 hc36
          omega
      have := grow k (Nat.le_refl _)
      omega
    have h3 := h2 (fN F) (fun j hj e => q ⟨j, by omega, e⟩) hpos
    have h4 := cnt_sub F hF (lvl_sub hK (a := a) (fN F))
    omega
  obtain ⟨k, hk, e⟩ := hex
  intro j hj
  have hpos := fN_pos hF
  rw [show j = k + (j - k) by omega, lvl_stay e, show fN F - 1 = k + (fN F - 1 - k) by omega, lvl_stay e]
end DST
end
section
/-! ===== by itself ===== -/
def unk (F : Fl) (S : Sit) : Nat → Bool := fun c => ((decide (c < fN F) && !(fK F c == 3)) && !(kn1 S c)) && !(kn2 S c)
def ex (F : Fl) (K : Nat → Bool) (a : Option Nat) : Nat → Nat → Bool
  | 0 => lvl F K a 0
  | s + 1 => fun c => (arn F (lvl F K a s) c && K c) && !(lvl F K a s c)
def gts (F : Fl) (S : Sit) (s : Nat) : Nat → Bool := fun c => ex F (kn1 S) (some (sAt S)) s c && wth F (kn1 S) (some (fD F)) ((sCh S : Int) - s - 2) c
def tgs (F : Fl) (S : Sit) (s : Nat) : Nat → Bool := fun c => arn F (gts F S s) c && unk F S c
def tHas (F : Fl) (S : Sit) : Nat → Bool := fun s => (fst (tgs F S s) 36 0).isSome
def gat (F : Fl) (S : Sit) (s t : Nat) : Nat → Bool := fun c => gts F S s c && arn F (oneO (some t)) c
def tgt (F : Fl) (S : Sit) : Option (Nat × Nat × Nat × Nat) := match fst (tHas F S) 36 0 with
  | none => none
  | some s => match fst (tgs F S s) 36 0 with
    | none => none
    | some t => match fst (gat F S s t) 36 0 with
      | none => none
      | some gt => match dst F (kn1 S) (some gt) (fD F) with
        | none => none
        | some b => some (t, gt, s + 1, b + 1)
def pilC (t gt w b : Int32) : zC := .inr (4, [.int t, .int gt, .int w, .int b])
def pilH (o : Option (Nat × Nat × Nat × Nat)) (h : zH) : zH := match o with
  | none => h
  | some (t, gt, w, b) => h.set 9 (pilC (nI t) (nI gt) (nI w) (nI b))
theorem ex_lvl {F : Fl} {K : Nat → Bool} {a : Option Nat} : ∀ {s c : Nat}, ex F K a s c = true → lvl F K a s c = true := by
  intro s c h
  cases s with
  | zero => exact h
  | succ s =>
    simp only [ex, Bool.and_eq_true] at h
    simp only [lvl, h.1.1, h.1.2, Bool.and_self, Bool.or_true]
theorem ex_sub {F : Fl} {K : Nat → Bool} {a : Option Nat} (hK : sub F K) (s : Nat) : sub F (ex F K a s) := fun c h => lvl_sub hK s c (ex_lvl h)
theorem gts_sub {F : Fl} {S : Sit} (hK : sub F (kn1 S)) (s : Nat) : sub F (gts F S s) := by
  intro c h
  simp only [gts, Bool.and_eq_true] at h
  exact ex_sub hK s c h.1
theorem ex_dead {F : Fl} {K : Nat → Bool} {a : Option Nat} (hF : fOK F) (hK : sub F K) {s : Nat} (h : mset (ex F K a s) = 0) : ∀ j, s ≤ j → ∀ c, ex F K a j c = false := by
  have h0 : ∀ c, ex F K a s c = false := by
    intro c
    cases hq : ex F K a s c with
    | false => rfl
    | true => rw [(m_eq0 _).mp h c (sub36 hF (ex_sub hK s) c hq)] at hq; cases hq
  cases s with
  | zero =>
    have hz : ∀ j, lvl F K a j = fun _ => false := by
      intro j
      induction j with
      | zero => funext c; exact h0 c
      | succ j ih =>
        funext c
        have e1 : lvl F K a (j + 1) c = (lvl F K a j c || (arn F (lvl F K a j) c && K c)) := rfl
        rw [e1, ih]
        have : arn F (fun _ => false) c = false := by
          cases hq : arn F (fun _ => false) c with
          | false => rfl
          | true => obtain ⟨_, b, _, h3⟩ := arn_adj.mp hq; cases h3
        simp [this]
    intro j _ c
    cases hq : ex F K a j c with
    | false => rfl
    | true => have := ex_lvl hq; rw [hz j] at this; cases this
  | succ s =>
    have e : lvl F K a (s + 1) = lvl F K a s := by
      funext c
      have := h0 c
      have e1 : lvl F K a (s + 1) c = (lvl F K a s c || (arn F (lvl F K a s) c && K c)) := rfl
      rw [e1]
      simp only [ex] at this
      cases h1 : lvl F K a s c with
      | true => rfl
      | false => rw [h1] at this; simp only [Bool.not_false, Bool.and_true] at this; rw [this]; rfl
    intro j hj c
    obtain ⟨i, rfl⟩ : ∃ i, j = s + 1 + i := ⟨j - (s + 1), by omega⟩
    cases hq : ex F K a (s + 1 + i) c with
    | false => rfl
    | true =>
      exfalso
      rw [show s + 1 + i = (s + i) + 1 by omega] at hq
      have h1 := ex_lvl hq
      rw [show s + i + 1 = s + (i + 1) by omega, lvl_stay e] at h1
      simp only [ex, Bool.and_eq_true, Bool.not_eq_true'] at hq
      rw [lvl_stay e] at hq
      rw [h1] at hq
      cases hq.2
theorem has_dead {F : Fl} {S : Sit} (hF : fOK F) (hK : sub F (kn1 S)) {s : Nat} (h : mset (ex F (kn1 S) (some (sAt S)) s) = 0) : ∀ j, s ≤ j → tHas F S j = false := by
  intro j hj
  have h1 := ex_dead hF hK h j hj
  have : fst (tgs F S j) 36 0 = none := by
    refine fst_none.mpr (fun c _ _ => ?_)
    cases hq : tgs F S j c with
    | false => rfl
    | true =>
      simp only [tgs, Bool.and_eq_true] at hq
      obtain ⟨_, b, _, h3⟩ := arn_adj.mp hq.1
      simp only [gts, h1 b, Bool.false_and] at h3
      cases h3
  simp [tHas, this]
theorem m_ex {F : Fl} {K : Nat → Bool} {a : Option Nat} (s : Nat) : (mset (arn F (lvl F K a s)) &&& mset K) &&& (mset (lvl F K a s) ^^^ (-1)) = mset (ex F K a (s + 1)) := by rw [m_and, m_andn]; rfl
theorem m_exl {F : Fl} {K : Nat → Bool} {a : Option Nat} (s : Nat) : mset (lvl F K a s) ||| mset (ex F K a (s + 1)) = mset (lvl F K a (s + 1)) := by
  rw [m_or]
  apply mset_congr
  intro i _
  show (lvl F K a s i || ((arn F (lvl F K a s) i && K i) && !(lvl F K a s i))) = (lvl F K a s i || (arn F (lvl F K a s) i && K i))
  cases lvl F K a s i <;> simp
theorem i_sub1 {y : Int32} (h : -1000 ≤ y.toInt) : (y - 1).toInt = y.toInt - 1 := by
  have hy := Int32.toInt_lt y
  rw [Int32.toInt_sub, show (1 : Int32).toInt = 1 from by decide]
  exact Int.bmod_eq_of_le (by omega) (by omega)
theorem home_in {F : Fl} {S : Sit} (hF : fOK F) (hK : sub F (kn1 S)) {s c : Nat} (h : gts F S s c = true) : ∃ b, dst F (kn1 S) (some c) (fD F) = some b ∧ (b : Int) ≤ (sCh S : Int) - s - 2 := by
  simp only [gts, Bool.and_eq_true] at h
  have h2 := h.2
  unfold wth at h2
  split at h2
  · cases h2
  case isFalse hs =>
    have hn := fN_le hF
    have hpos := fN_pos hF
    have h3 := (lvl_symm hF hK _ _ _).mp h2
    rcases Nat.lt_or_ge (min ((sCh S : Int) - s - 2).toNat 36) 36 with q | q
    · obtain ⟨m, hm, e⟩ := dst_of q h3
      exact ⟨m, e, by omega⟩
    · have e36 : min ((sCh S : Int) - s - 2).toNat 36 = 36 := by omega
      rw [e36, lvl_sat hF hK 36 (by omega)] at h3
      obtain ⟨m, hm, e⟩ := dst_of (by omega) h3
      exact ⟨m, e, by omega⟩
section C30
variable {l : Launch} {g : zG} {d : Nat} {h : zH} {F : Fl} {S : Sit} {k : Nat}
theorem c_P_findsTarget {p0 p1 p2 p3 : Int32} (hk9 : k ≠ 9 ∧ k + 1 ≠ 9) (hF : fOK F) (hG : h[4]? = some (gC F)) (hS : h[k]? = some (sitC k S)) (hK : sub F (kn1 S)) (hat : sAt S < fN F) (hch : sCh S ≤ 99) (hPi : h[9]? = some (pilC p0 p1 p2 p3)) : Run l g mP_findsTarget (d + 4) 0 0 [.ref 9, .ref k] h (PI (if (tgt F S).isSome = true then 1 else 0) (pilH (tgt F S) h)) := by
  refine run_of (by decide) (Nat.le_of_ble_eq_true rfl) ?_
  have hn := fN_le hF
  have hd36 : fD F < 36 := by have := hF.2.2.1; omega
  have hdO : oOK (some (fD F)) := oOK_some hd36
  have haO : oOK (some (sAt S)) := oOK_some (by omega)
  have T : ∀ (s t : Nat), s < 36 → fst (tHas F S) 36 0 = some s → fst (tgs F S s) 36 0 = some t → ∀ (ls : zL), zsub [(0, some (.ref 9)), (1, some (.ref k)), (2, some (.ref 4)), (9, some (.int (nI s))), (11, some (.long (mset (gts F S s)))), (13, some (.long (mset (tgs F S s))))] ls → WW l g mP_findsTarget (zrm (d + 4) 0 0) (fun _ => True) (zQQ g (PI (if (tgt F S).isSome = true then 1 else 0) (pilH (tgt F S) h)) (h.length + 0) 0 0) 121 ls [] h 0 0 := by
    intro s t hs36 hfs hft ls hls
    obtain ⟨-, ht36, htg, -⟩ := fst_some.mp hft
    have ht36 : t < 36 := by omega
    have htO : oOK (some t) := oOK_some ht36
    simp only [tgs, Bool.and_eq_true] at htg
    obtain ⟨htn, b0, hb1, hb2⟩ := arn_adj.mp htg.1
    have hgat : gat F S s t b0 = true := by
      simp only [gat, hb2, Bool.true_and]
      exact arn_adj.mpr ⟨gts_sub hK s b0 hb2, t, (hb1.symm hF htn).2, by simp [oneO]⟩
    have key3 : mset (gts F S s) &&& mset (arn F (oneO (some t))) = mset (gat F S s t) := by rw [m_and]; rfl
    cases hg : fst (gat F S s t) 36 0 with
    | none =>
      have := fst_none.mp hg b0 (by omega) (by have := gts_sub hK s b0 hb2; omega)
      rw [hgat] at this; cases this
    | some gt =>
      obtain ⟨-, hg36, hgg, -⟩ := fst_some.mp hg
      have hgg1 : gts F S s gt = true := by simp only [gat, Bool.and_eq_true] at hgg; exact hgg.1
      obtain ⟨b, hb, -⟩ := home_in hF hK hgg1
      have e : tgt F S = some (t, gt, s + 1, b + 1) := by
        unfold tgt
        rw [hfs]; dsimp only
        rw [hft]; dsimp only
        rw [hg]; dsimp only
        rw [hb]
      have ch := fun (h' : zH) (hG' : h'[4]? = some (gC F)) (hS' : h'[k]? = some (sitC k S)) => c_S_homeOf (l := l) (g := g) (d := d + 1) hF hG' hS' hK (c := gt) (by omega)
      rw [hb] at ch
      rw [e]
      refine zw_lk ?_ hls
      refine zw_aload_n dP_findsTarget_121 rfl ?_
      refine zw_lload dP_findsTarget_122 rfl ?_
      refine zc_S1I dP_findsTarget_124 zm_F_lowestOf zk_P_100 c_F_lowestOf ?_ zRR (Nat.le_of_ble_eq_true rfl) ⟨Nat.le_of_ble_eq_true rfl, Nat.le_of_ble_eq_true rfl⟩
      rw [hft, show oI (some t) = nI t from rfl]
      refine zw_puti dP_findsTarget_127 zf_P_56 hPi (Nat.le_of_ble_eq_true rfl) ?_
      refine zw_aload_n dP_findsTarget_130 rfl ?_
      refine zw_lload dP_findsTarget_131 rfl ?_
      refine zw_aload_n dP_findsTarget_133 rfl ?_
      refine zw_aload_n dP_findsTarget_134 rfl ?_
      refine zw_get dP_findsTarget_135 zf_P_56 (by first | exact zg_eq hPi | exact zg_ne (by omega) hG | exact zg_ne (Ne.symm hk9.1) hS) rfl ?_
      refine zc_S1L dP_findsTarget_138 zm_F_only zk_P_88 (c_F_only htO) ?_ zRR (Nat.le_of_ble_eq_true rfl) ⟨Nat.le_of_ble_eq_true rfl, Nat.le_of_ble_eq_true rfl⟩
      refine zc_V1L dP_findsTarget_141 zm_G_around zk_P_96 (by first | exact zg_eq hPi | exact zg_ne (by omega) hG | exact zg_ne (Ne.symm hk9.1) hS) rfl (c_G_around hF (zg_ne (by omega) hG) (one_sub htn)) ?_ zRR (Nat.le_of_ble_eq_true rfl) ⟨Nat.le_of_ble_eq_true rfl, Nat.le_of_ble_eq_true rfl⟩
      refine zw_land dP_findsTarget_144 ?_
      rw [key3]
      refine zc_S1I dP_findsTarget_145 zm_F_lowestOf zk_P_100 c_F_lowestOf ?_ zRR (Nat.le_of_ble_eq_true rfl) ⟨Nat.le_of_ble_eq_true rfl, Nat.le_of_ble_eq_true rfl⟩
      rw [hg, show oI (some gt) = nI gt from rfl]
      refine zw_puti dP_findsTarget_148 zf_P_53 (by first | exact zg_eq hPi | exact zg_ne (by omega) hG | exact zg_ne (Ne.symm hk9.1) hS) (Nat.le_of_ble_eq_true rfl) ?_
      refine zw_h (zs_set _ _ _ _) ?_
      refine zw_aload_n dP_findsTarget_151 rfl ?_
      refine zw_iload dP_findsTarget_152 rfl ?_
      refine zw_iconst (v := 1) dP_findsTarget_154 (by decide) ?_
      refine zw_iadd dP_findsTarget_155 ?_
      rw [nI_1]
      refine zw_puti dP_findsTarget_156 zf_P_104 (by first | exact zg_eq hPi | exact zg_ne (by omega) hG | exact zg_ne (Ne.symm hk9.1) hS) (Nat.le_of_ble_eq_true rfl) ?_
      refine zw_h (zs_set _ _ _ _) ?_
      refine zw_aload_n dP_findsTarget_159 rfl ?_
      refine zw_aload_n dP_findsTarget_160 rfl ?_
      refine zw_aload_n dP_findsTarget_161 rfl ?_
      refine zw_get dP_findsTarget_162 zf_P_53 (by first | exact zg_eq hPi | exact zg_ne (by omega) hG | exact zg_ne (Ne.symm hk9.1) hS) rfl ?_
      refine zc_V1I dP_findsTarget_165 zm_S_homeOf zk_P_107 (by first | exact zg_eq hPi | exact zg_ne (by omega) hG | exact zg_ne (Ne.symm hk9.1) hS) rfl (ch _ (zg_ne (by omega) hG) (zg_ne (Ne.symm hk9.1) hS)) ?_ zRR (Nat.le_of_ble_eq_true rfl) ⟨Nat.le_of_ble_eq_true rfl, Nat.le_of_ble_eq_true rfl⟩
      rw [show dI (some b) = nI b from rfl]
      refine zw_iconst (v := 1) dP_findsTarget_168 (by decide) ?_
      refine zw_iadd dP_findsTarget_169 ?_
      rw [nI_1]
      refine zw_puti dP_findsTarget_170 zf_P_110 (by first | exact zg_eq hPi | exact zg_ne (by omega) hG | exact zg_ne (Ne.symm hk9.1) hS) (Nat.le_of_ble_eq_true rfl) ?_
      refine zw_h (zs_set _ _ _ _) ?_
      refine zw_iconst (v := 1) dP_findsTarget_173 (by decide) ?_
      exact zw_iret dP_findsTarget_174 rfl rfl (by simp) ⟨rfl, rfl⟩
  have L : ∀ (m s : Nat), s + m = 36 → fst (tHas F S) m s = fst (tHas F S) 36 0 → WW l g mP_findsTarget (zrm (d + 4) 0 0) (fun _ => True) (zQQ g (PI (if (tgt F S).isSome = true then 1 else 0) (pilH (tgt F S) h)) (h.length + 0) 0 0) 58 [(0, some (.ref 9)), (1, some (.ref k)), (2, some (.ref 4)), (3, some (.long (mset (unk F S)))), (5, some (.long (mset (lvl F (kn1 S) (some (sAt S)) s)))), (7, some (.long (mset (ex F (kn1 S) (some (sAt S)) s)))), (9, some (.int (nI s)))] [] h 0 0 := by
    intro m
    induction m with
    | zero =>
      intro s hsm hfs
      have hs : s = 36 := by omega
      subst hs
      have e : tgt F S = none := by unfold tgt; rw [← hfs]; rfl
      refine zw_iload dP_findsTarget_58 rfl ?_
      refine zw_bipush (v := 36) dP_findsTarget_60 (by decide) ?_
      refine zw_icmp_ge 208 dP_findsTarget_62 (by decide) (fun c_62 => ?_) (fun c_62 => ?_)
      · refine zw_iconst (v := 0) dP_findsTarget_208 (by decide) ?_
        exact zw_iret dP_findsTarget_209 rfl rfl rfl ⟨by rw [e]; rfl, by rw [e]; rfl⟩
      · exact absurd (by decide) c_62
    | succ m ih =>
      intro s hsm hfs
      have hmh : (nI (sCh S) - (nI s + 1) - 1).toInt = (sCh S : Int) - s - 2 := by
        rw [nI_1, i_sub1 (by rw [pk_sub_toInt (by omega) (by omega)]; omega), pk_sub_toInt (by omega) (by omega)]
        omega
      have cw := c_G_within (l := l) (g := g) (d := d + 2) hF hG hK hdO (s := nI (sCh S) - (nI s + 1) - 1)
      rw [hmh] at cw
      generalize hmhe : nI (sCh S) - (nI s + 1) - 1 = mh at cw
      have hgs := gts_sub hK s
      have key1 : mset (ex F (kn1 S) (some (sAt S)) s) &&& mset (wth F (kn1 S) (some (fD F)) ((sCh S : Int) - s - 2)) = mset (gts F S s) := by rw [m_and]; rfl
      have key2 : mset (arn F (gts F S s)) &&& mset (unk F S) = mset (tgs F S s) := by rw [m_and]; rfl
      refine zw_iload dP_findsTarget_58 rfl ?_
      refine zw_bipush (v := 36) dP_findsTarget_60 (by decide) ?_
      refine zw_icmp_ge 208 dP_findsTarget_62 (by decide) (fun c_62 => ?_) (fun c_62 => ?_)
      · exact absurd ((nI_leI (a := 36) (b := s) (by omega) (by omega)).mp c_62) (by omega)
      · refine zw_lload dP_findsTarget_65 rfl ?_
        refine zw_lconst (v := 0) dP_findsTarget_67 (by decide) ?_
        refine zw_lcmp dP_findsTarget_68 ?_
        refine zw_if_eq 208 dP_findsTarget_69 (by decide) (fun c_69 => ?_) (fun c_69 => ?_)
        · refine zw_iconst (v := 0) dP_findsTarget_208 (by decide) ?_
          have hdead := has_dead hF hK (lgc_eq _ _ c_69)
          have e : tgt F S = none := by
            have : fst (tHas F S) 36 0 = none := by
              rw [← hfs]
              exact fst_none.mpr (fun j hj _ => hdead j hj)
            unfold tgt; rw [this]
          exact zw_iret dP_findsTarget_209 rfl rfl rfl ⟨by rw [e]; rfl, by rw [e]; rfl⟩
        · refine zw_aload_n dP_findsTarget_72 rfl ?_
          refine zw_get dP_findsTarget_73 zf_P_24 (by first | exact hS | exact hG) rfl ?_
          refine zw_iload dP_findsTarget_76 rfl ?_
          refine zw_iconst (v := 1) dP_findsTarget_78 (by decide) ?_
          refine zw_iadd dP_findsTarget_79 ?_
          refine zw_isub dP_findsTarget_80 ?_
          refine zw_iconst (v := 1) dP_findsTarget_81 (by decide) ?_
          refine zw_isub dP_findsTarget_82 ?_
          rw [hmhe]
          refine zw_istore dP_findsTarget_83 (by decide) rfl ?_
          refine zw_lload dP_findsTarget_85 rfl ?_
          refine zw_aload_n dP_findsTarget_87 rfl ?_
          refine zw_iload dP_findsTarget_88 rfl ?_
          refine zw_aload_n dP_findsTarget_90 rfl ?_
          refine zw_get dP_findsTarget_91 zf_P_19 (by first | exact hS | exact hG) rfl ?_
          refine zw_aload_n dP_findsTarget_94 rfl ?_
          refine zw_get dP_findsTarget_95 zf_P_69 (by first | exact hS | exact hG) rfl ?_
          refine zc_V3L dP_findsTarget_98 zm_G_within zk_P_92 (by first | exact hS | exact hG) rfl cw ?_ zRR (Nat.le_of_ble_eq_true rfl) ⟨Nat.le_of_ble_eq_true rfl, Nat.le_of_ble_eq_true rfl⟩
          refine zw_land dP_findsTarget_101 ?_
          rw [key1]
          refine zw_lstore dP_findsTarget_102 (by decide) rfl ?_
          refine zw_aload_n dP_findsTarget_104 rfl ?_
          refine zw_lload dP_findsTarget_105 rfl ?_
          refine zc_V1L dP_findsTarget_107 zm_G_around zk_P_96 (by first | exact hS | exact hG) rfl (c_G_around hF hG hgs) ?_ zRR (Nat.le_of_ble_eq_true rfl) ⟨Nat.le_of_ble_eq_true rfl, Nat.le_of_ble_eq_true rfl⟩
          refine zw_lload_n dP_findsTarget_110 rfl ?_
          refine zw_land dP_findsTarget_111 ?_
          rw [key2]
          refine zw_lstore dP_findsTarget_112 (by decide) rfl ?_
          refine zw_lload dP_findsTarget_114 rfl ?_
          refine zw_lconst (v := 0) dP_findsTarget_116 (by decide) ?_
          refine zw_lcmp dP_findsTarget_117 ?_
          refine zw_if_eq 175 dP_findsTarget_118 (by decide) (fun c_118 => ?_) (fun c_118 => ?_)
          · refine zw_aload_n dP_findsTarget_175 rfl ?_
            refine zw_lload dP_findsTarget_176 rfl ?_
            refine zc_V1L dP_findsTarget_178 zm_G_around zk_P_96 (by first | exact hS | exact hG) rfl (c_G_around hF hG (lvl_sub hK s)) ?_ zRR (Nat.le_of_ble_eq_true rfl) ⟨Nat.le_of_ble_eq_true rfl, Nat.le_of_ble_eq_true rfl⟩
            refine zw_aload_n dP_findsTarget_181 rfl ?_
            refine zw_get dP_findsTarget_182 zf_P_69 (by first | exact hS | exact hG) rfl ?_
            refine zw_land dP_findsTarget_185 ?_
            refine zw_lload dP_findsTarget_186 rfl ?_
            refine zw_ldc2 dP_findsTarget_188 zcl_P_83 ?_
            refine zw_lxor dP_findsTarget_191 ?_
            refine zw_land dP_findsTarget_192 ?_
            rw [m_ex]
            refine zw_lstore dP_findsTarget_193 (by decide) rfl ?_
            refine zw_lload dP_findsTarget_195 rfl ?_
            refine zw_lload dP_findsTarget_197 rfl ?_
            refine zw_lor dP_findsTarget_199 ?_
            rw [m_exl]
            refine zw_lstore dP_findsTarget_200 (by decide) rfl ?_
            refine zw_incN dP_findsTarget_202 rfl (by decide) rfl ?_
            refine zw_goto 58 dP_findsTarget_205 (by decide) ?_
            have hno : tHas F S s = false := by
              have : fst (tgs F S s) 36 0 = none := fst_none.mpr (fun c _ hc => (m_eq0 _).mp (lgc_eq _ _ c_118) c (by omega))
              simp [tHas, this]
            exact zw_lk (ih (s + 1) (by omega) (by rw [← hfs, fst_f hno])) ⟨rfl, rfl, rfl, rfl, rfl, rfl, rfl, trivial⟩
          · have hne := lgc_ne _ _ c_118
            cases hh : fst (tgs F S s) 36 0 with
            | none => exact absurd (fst_no0 hh) hne
            | some t =>
              exact T s t (by omega) (by rw [← hfs]; exact fst_t (by simp [tHas, hh])) hh _ ⟨rfl, rfl, rfl, rfl, rfl, rfl, trivial⟩
  have eu : ((mset (gAll F) &&& (mset (gK F 3) ^^^ (-1))) &&& (mset (kn1 S) ^^^ (-1))) &&& (mset (kn2 S) ^^^ (-1)) = mset (unk F S) := by
    rw [m_andn, m_andn, m_andn]
    apply mset_congr
    intro c _
    simp only [gAll, gK, unk]
    by_cases hc : c < fN F <;> simp [hc]
  refine zw_aload_n dP_findsTarget_0 rfl ?_
  refine zw_get dP_findsTarget_1 zf_P_15 (by first | exact hS | exact hG) rfl ?_
  refine zw_astore_n dP_findsTarget_4 (by decide) rfl ?_
  refine zw_aload_n dP_findsTarget_5 rfl ?_
  refine zw_get dP_findsTarget_6 zf_P_77 (by first | exact hS | exact hG) rfl ?_
  refine zw_aload_n dP_findsTarget_9 rfl ?_
  refine zw_get dP_findsTarget_10 zf_P_80 (by first | exact hS | exact hG) rfl ?_
  refine zw_ldc2 dP_findsTarget_13 zcl_P_83 ?_
  refine zw_lxor dP_findsTarget_16 ?_
  refine zw_land dP_findsTarget_17 ?_
  refine zw_aload_n dP_findsTarget_18 rfl ?_
  refine zw_get dP_findsTarget_19 zf_P_69 (by first | exact hS | exact hG) rfl ?_
  refine zw_ldc2 dP_findsTarget_22 zcl_P_83 ?_
  refine zw_lxor dP_findsTarget_25 ?_
  refine zw_land dP_findsTarget_26 ?_
  refine zw_aload_n dP_findsTarget_27 rfl ?_
  refine zw_get dP_findsTarget_28 zf_P_85 (by first | exact hS | exact hG) rfl ?_
  refine zw_ldc2 dP_findsTarget_31 zcl_P_83 ?_
  refine zw_lxor dP_findsTarget_34 ?_
  refine zw_land dP_findsTarget_35 ?_
  rw [eu]
  refine zw_lstore_n dP_findsTarget_36 (by decide) rfl ?_
  refine zw_aload_n dP_findsTarget_37 rfl ?_
  refine zw_get dP_findsTarget_38 zf_P_9 (by first | exact hS | exact hG) rfl ?_
  refine zc_S1L dP_findsTarget_41 zm_F_only zk_P_88 (c_F_only haO) ?_ zRR (Nat.le_of_ble_eq_true rfl) ⟨Nat.le_of_ble_eq_true rfl, Nat.le_of_ble_eq_true rfl⟩
  refine zw_aload_n dP_findsTarget_44 rfl ?_
  refine zw_get dP_findsTarget_45 zf_P_69 (by first | exact hS | exact hG) rfl ?_
  refine zw_land dP_findsTarget_48 ?_
  rw [m_first (F := F)]
  refine zw_lstore dP_findsTarget_49 (by decide) rfl ?_
  refine zw_lload dP_findsTarget_51 rfl ?_
  refine zw_lstore dP_findsTarget_53 (by decide) rfl ?_
  refine zw_iconst (v := 0) dP_findsTarget_55 (by decide) ?_
  refine zw_istore dP_findsTarget_56 (by decide) rfl ?_
  exact zw_lk (L 36 0 rfl rfl) ⟨rfl, rfl, rfl, rfl, rfl, rfl, rfl, trivial⟩
end C30
end
section
def hOn (F : Fl) (a t : Nat) : Option Nat := fst (fun hd => nb F a hd == some t) 4 0
def nearB (F : Fl) (K : Nat → Bool) (a goal s : Nat) : Nat → Bool := fun hd => match s with
  | 0 => false
  | m + 1 => dst F K (nb F a hd) goal == some m
def hNr (F : Fl) (K : Nat → Bool) (a goal : Nat) : Option Nat := match dst F K (some a) goal with
  | none => none
  | some s => fst (nearB F K a goal s) 4 0
def nxt (F : Fl) (S : Sit) : Option Nat := match tgt F S with
  | some (t, gt, _, _) => if sAt S = gt then hOn F (sAt S) t else hNr F (kn1 S) (sAt S) gt
  | none => if sAt S = fD F then none else hNr F (kn1 S) (sAt S) (fD F)
def act (F : Fl) (S : Sit) : Nat × Sit :=
  if sAt S = fD F ∧ sCh S < sBrim S then (1, setCh S (min (sCh S + sRate S) (sBrim S)))
  else if sCh S = 0 then (0, S)
  else match nxt F S with
    | none => (0, S)
    | some hd => (2, stepS F S hd)
def thr (F : Fl) (S : Sit) : Bool := decide (sAt S = fD F) && decide (sCh S = sBrim S) && (tgt F S).isNone
theorem oI_eq {o : Option Nat} {t : Nat} (ho : oOK o) (ht : t < 36) : oI o = nI t ↔ o = some t := by
  cases o with
  | none =>
    constructor
    · intro h
      have : (-1 : Int32).toInt = (nI t).toInt := by rw [← h]; rfl
      rw [nI_toInt (by omega)] at this
      have h1 : (-1 : Int32).toInt = -1 := by decide
      omega
    · intro h; cases h
  | some c =>
    have := ho c rfl
    rw [show oI (some c) = nI c from rfl, nI_eq (by omega) (by omega)]
    simp
theorem dI_near {x : Option Nat} {s : Nat} (hx : ∀ k, x = some k → k < 36) (hs : s < 36) : dI x = nI s - 1 ↔ ∃ m, s = m + 1 ∧ x = some m := by
  have h1 : (nI s - 1).toInt = (s : Int) - 1 := pk_sub_toInt (b := 1) (by omega) (by decide)
  have h9 : (-9 : Int32).toInt = -9 := by decide
  cases x with
  | none =>
    constructor
    · intro h
      have : (-9 : Int32).toInt = (nI s - 1).toInt := by rw [← h]; rfl
      omega
    · rintro ⟨m, -, h⟩; cases h
  | some k =>
    have hk := hx k rfl
    constructor
    · intro h
      have : (nI k).toInt = (nI s - 1).toInt := by rw [← h]; rfl
      rw [nI_toInt (by omega)] at this
      exact ⟨k, by omega, rfl⟩
    · rintro ⟨m, rfl, h⟩
      cases h
      exact (nI_pred _).symm
theorem dst_lt {F : Fl} {K : Nat → Bool} {a : Option Nat} {c k : Nat} (h : dst F K a c = some k) : k < 36 := (dst_some.mp h).1
section C31
variable {l : Launch} {g : zG} {d : Nat} {h : zH} {F : Fl} {S : Sit} {k : Nat}
theorem c_P_handOnto (hF : fOK F) (hG : h[4]? = some (gC F)) (hS : h[k]? = some (sitC k S)) (hat : sAt S < fN F) {t : Nat} (ht : t < 36) : Run l g mP_handOnto (d + 3) 0 0 [.ref k, .int (nI t)] h (PI (oI (hOn F (sAt S) t)) h) := by
  refine run_of (by decide) (Nat.le_of_ble_eq_true rfl) ?_
  have L : ∀ (m i : Nat), i + m = 4 → fst (fun hd => nb F (sAt S) hd == some t) m i = hOn F (sAt S) t → WW l g mP_handOnto (zrm (d + 3) 0 0) (fun _ => True) (zQQ g (PI (oI (hOn F (sAt S) t)) h) (h.length + 0) 0 0) 2 [(0, some (.ref k)), (1, some (.int (nI t))), (2, some (.int (nI i)))] [] h 0 0 := by
    intro m
    induction m with
    | zero =>
      intro i him hfs
      have hi : i = 4 := by omega
      subst hi
      refine zw_iload_n dP_handOnto_2 rfl ?_
      refine zw_iconst (v := 4) dP_handOnto_3 (by decide) ?_
      refine zw_icmp_ge 31 dP_handOnto_4 (by decide) (fun c_4 => ?_) (fun c_4 => ?_)
      · refine zw_iconst (v := (-1)) dP_handOnto_31 (by decide) ?_
        exact zw_iret dP_handOnto_32 rfl rfl rfl ⟨by rw [← hfs]; rfl, rfl⟩
      · exact absurd (by decide) c_4
    | succ m ih =>
      intro i him hfs
      have hi : i < 4 := by omega
      have hO := (nb_ok hF hat hi).2
      refine zw_iload_n dP_handOnto_2 rfl ?_
      refine zw_iconst (v := 4) dP_handOnto_3 (by decide) ?_
      refine zw_icmp_ge 31 dP_handOnto_4 (by decide) (fun c_4 => ?_) (fun c_4 => ?_)
      · exact absurd ((nI_leI (a := 4) (b := i) (by omega) (by omega)).mp c_4) (by omega)
      · refine zw_aload_n dP_handOnto_7 rfl ?_
        refine zw_get dP_handOnto_8 zf_P_15 (by first | exact hS | exact hG) rfl ?_
        refine zw_aload_n dP_handOnto_11 rfl ?_
        refine zw_get dP_handOnto_12 zf_P_9 (by first | exact hS | exact hG) rfl ?_
        refine zw_iload_n dP_handOnto_15 rfl ?_
        refine zc_V2I dP_handOnto_16 zm_G_cellBeside zk_P_66 (by first | exact hS | exact hG) rfl (c_G_cellBeside hF hG hat hi) ?_ zRR (Nat.le_of_ble_eq_true rfl) ⟨Nat.le_of_ble_eq_true rfl, Nat.le_of_ble_eq_true rfl⟩
        refine zw_iload_n dP_handOnto_19 rfl ?_
        refine zw_icmp_ne 25 dP_handOnto_20 (by decide) (fun c_20 => ?_) (fun c_20 => ?_)
        · refine zw_incN dP_handOnto_25 rfl (by decide) rfl ?_
          refine zw_goto 2 dP_handOnto_28 (by decide) ?_
          exact zw_lk (ih (i + 1) (by omega) (by rw [← hfs, fst_f (by rw [beq_eq_false_iff_ne]; exact fun q => c_20 ((oI_eq hO ht).mpr q))])) ⟨rfl, rfl, rfl, trivial⟩
        · refine zw_iload_n dP_handOnto_23 rfl ?_
          exact zw_iret dP_handOnto_24 rfl rfl rfl ⟨by rw [← hfs, fst_t (by rw [beq_iff_eq]; exact (oI_eq hO ht).mp (Classical.byContradiction fun q => q c_20))]; rfl, rfl⟩
  refine zw_iconst (v := 0) dP_handOnto_0 (by decide) ?_
  refine zw_istore_n dP_handOnto_1 (by decide) rfl ?_
  exact zw_lk (L 4 0 rfl rfl) ⟨rfl, rfl, rfl, trivial⟩
theorem c_P_handNearer (hF : fOK F) (hG : h[4]? = some (gC F)) (hS : h[k]? = some (sitC k S)) (hat : sAt S < fN F) (hK : sub F (kn1 S)) {c : Nat} (hc : c < 36) : Run l g mP_handNearer (d + 3) 0 0 [.ref k, .int (nI c)] h (PI (oI (hNr F (kn1 S) (sAt S) c)) h) := by
  refine run_of (by decide) (Nat.le_of_ble_eq_true rfl) ?_
  have hn := fN_le hF
  have haO : oOK (some (sAt S)) := oOK_some (by omega)
  cases hd0 : dst F (kn1 S) (some (sAt S)) c with
  | none =>
    have e : hNr F (kn1 S) (sAt S) c = none := by unfold hNr; rw [hd0]
    rw [e]
    have c1 := c_G_stepsBetween (l := l) (g := g) (d := d + 1) hF hG hK haO hc
    rw [hd0] at c1
    refine zw_aload_n dP_handNearer_0 rfl ?_
    refine zw_get dP_handNearer_1 zf_P_15 (by first | exact hS | exact hG) rfl ?_
    refine zw_aload_n dP_handNearer_4 rfl ?_
    refine zw_get dP_handNearer_5 zf_P_9 (by first | exact hS | exact hG) rfl ?_
    refine zw_iload_n dP_handNearer_8 rfl ?_
    refine zw_aload_n dP_handNearer_9 rfl ?_
    refine zw_get dP_handNearer_10 zf_P_69 (by first | exact hS | exact hG) rfl ?_
    refine zc_V3I dP_handNearer_13 zm_G_stepsBetween zk_P_73 (by first | exact hS | exact hG) rfl c1 ?_ zRR (Nat.le_of_ble_eq_true rfl) ⟨Nat.le_of_ble_eq_true rfl, Nat.le_of_ble_eq_true rfl⟩
    refine zw_istore_n dP_handNearer_16 (by decide) rfl ?_
    refine zw_iload_n dP_handNearer_17 rfl ?_
    refine zw_bipush (v := (-9)) dP_handNearer_18 (by decide) ?_
    refine zw_icmp_ne 25 dP_handNearer_20 (by decide) (fun c_20 => ?_) (fun c_20 => ?_)
    · exact absurd rfl c_20
    · refine zw_iconst (v := (-1)) dP_handNearer_23 (by decide) ?_
      exact zw_iret dP_handNearer_24 rfl rfl rfl ⟨rfl, rfl⟩
  | some s =>
    have hs := dst_lt hd0
    have c1 := c_G_stepsBetween (l := l) (g := g) (d := d + 1) hF hG hK haO hc
    rw [hd0] at c1
    have e : hNr F (kn1 S) (sAt S) c = fst (nearB F (kn1 S) (sAt S) c s) 4 0 := by unfold hNr; rw [hd0]
    rw [e]
    have L : ∀ (m i : Nat), i + m = 4 → fst (nearB F (kn1 S) (sAt S) c s) m i = fst (nearB F (kn1 S) (sAt S) c s) 4 0 → WW l g mP_handNearer (zrm (d + 3) 0 0) (fun _ => True) (zQQ g (PI (oI (fst (nearB F (kn1 S) (sAt S) c s) 4 0)) h) (h.length + 0) 0 0) 27 [(0, some (.ref k)), (1, some (.int (nI c))), (2, some (.int (nI s))), (3, some (.int (nI i)))] [] h 0 0 := by
      intro m
      induction m with
      | zero =>
        intro i him hfs
        have hi : i = 4 := by omega
        subst hi
        refine zw_iload_n dP_handNearer_27 rfl ?_
        refine zw_iconst (v := 4) dP_handNearer_28 (by decide) ?_
        refine zw_icmp_ge 74 dP_handNearer_29 (by decide) (fun c_29 => ?_) (fun c_29 => ?_)
        · refine zw_iconst (v := (-1)) dP_handNearer_74 (by decide) ?_
          exact zw_iret dP_handNearer_75 rfl rfl rfl ⟨by rw [← hfs]; rfl, rfl⟩
        · exact absurd (by decide) c_29
      | succ m ih =>
        intro i him hfs
        have hi : i < 4 := by omega
        have hO := (nb_ok hF hat hi).2
        have hkey := dI_near (x := dst F (kn1 S) (nb F (sAt S) i) c) (fun k e => dst_lt e) hs
        refine zw_iload_n dP_handNearer_27 rfl ?_
        refine zw_iconst (v := 4) dP_handNearer_28 (by decide) ?_
        refine zw_icmp_ge 74 dP_handNearer_29 (by decide) (fun c_29 => ?_) (fun c_29 => ?_)
        · exact absurd ((nI_leI (a := 4) (b := i) (by omega) (by omega)).mp c_29) (by omega)
        · refine zw_aload_n dP_handNearer_32 rfl ?_
          refine zw_get dP_handNearer_33 zf_P_15 (by first | exact hS | exact hG) rfl ?_
          refine zw_aload_n dP_handNearer_36 rfl ?_
          refine zw_get dP_handNearer_37 zf_P_9 (by first | exact hS | exact hG) rfl ?_
          refine zw_iload_n dP_handNearer_40 rfl ?_
          refine zc_V2I dP_handNearer_41 zm_G_cellBeside zk_P_66 (by first | exact hS | exact hG) rfl (c_G_cellBeside hF hG hat hi) ?_ zRR (Nat.le_of_ble_eq_true rfl) ⟨Nat.le_of_ble_eq_true rfl, Nat.le_of_ble_eq_true rfl⟩
          refine zw_istore dP_handNearer_44 (by decide) rfl ?_
          refine zw_aload_n dP_handNearer_46 rfl ?_
          refine zw_get dP_handNearer_47 zf_P_15 (by first | exact hS | exact hG) rfl ?_
          refine zw_iload dP_handNearer_50 rfl ?_
          refine zw_iload_n dP_handNearer_52 rfl ?_
          refine zw_aload_n dP_handNearer_53 rfl ?_
          refine zw_get dP_handNearer_54 zf_P_69 (by first | exact hS | exact hG) rfl ?_
          refine zc_V3I dP_handNearer_57 zm_G_stepsBetween zk_P_73 (by first | exact hS | exact hG) rfl (c_G_stepsBetween hF hG hK hO hc) ?_ zRR (Nat.le_of_ble_eq_true rfl) ⟨Nat.le_of_ble_eq_true rfl, Nat.le_of_ble_eq_true rfl⟩
          refine zw_iload_n dP_handNearer_60 rfl ?_
          refine zw_iconst (v := 1) dP_handNearer_61 (by decide) ?_
          refine zw_isub dP_handNearer_62 ?_
          refine zw_icmp_ne 68 dP_handNearer_63 (by decide) (fun c_63 => ?_) (fun c_63 => ?_)
          · refine zw_incN dP_handNearer_68 rfl (by decide) rfl ?_
            refine zw_goto 27 dP_handNearer_71 (by decide) ?_
            have hno : nearB F (kn1 S) (sAt S) c s i = false := by
              cases hq : nearB F (kn1 S) (sAt S) c s i with
              | false => rfl
              | true =>
                exfalso
                cases s with
                | zero => cases hq
                | succ m' => exact c_63 (hkey.mpr ⟨m', rfl, by simpa [nearB] using hq⟩)
            exact zw_lk (ih (i + 1) (by omega) (by rw [← hfs, fst_f hno])) ⟨rfl, rfl, rfl, rfl, trivial⟩
          · obtain ⟨m', hm1, hm2⟩ := hkey.mp (Classical.byContradiction fun q => q c_63)
            refine zw_iload_n dP_handNearer_66 rfl ?_
            exact zw_iret dP_handNearer_67 rfl rfl rfl ⟨by rw [← hfs, fst_t (by rw [hm1]; simp [nearB, hm2])]; rfl, rfl⟩
    refine zw_aload_n dP_handNearer_0 rfl ?_
    refine zw_get dP_handNearer_1 zf_P_15 (by first | exact hS | exact hG) rfl ?_
    refine zw_aload_n dP_handNearer_4 rfl ?_
    refine zw_get dP_handNearer_5 zf_P_9 (by first | exact hS | exact hG) rfl ?_
    refine zw_iload_n dP_handNearer_8 rfl ?_
    refine zw_aload_n dP_handNearer_9 rfl ?_
    refine zw_get dP_handNearer_10 zf_P_69 (by first | exact hS | exact hG) rfl ?_
    refine zc_V3I dP_handNearer_13 zm_G_stepsBetween zk_P_73 (by first | exact hS | exact hG) rfl c1 ?_ zRR (Nat.le_of_ble_eq_true rfl) ⟨Nat.le_of_ble_eq_true rfl, Nat.le_of_ble_eq_true rfl⟩
    refine zw_istore_n dP_handNearer_16 (by decide) rfl ?_
    refine zw_iload_n dP_handNearer_17 rfl ?_
    refine zw_bipush (v := (-9)) dP_handNearer_18 (by decide) ?_
    refine zw_icmp_ne 25 dP_handNearer_20 (by decide) (fun c_20 => ?_) (fun c_20 => ?_)
    · refine zw_iconst (v := 0) dP_handNearer_25 (by decide) ?_
      refine zw_istore_n dP_handNearer_26 (by decide) rfl ?_
      exact zw_lk (L 4 0 rfl rfl) ⟨rfl, rfl, rfl, rfl, trivial⟩
    · have h9 : (-9 : Int32).toInt = -9 := by decide
      have h1 : (nI s).toInt = (-9 : Int32).toInt := by rw [show nI s = -9 from c_20]
      rw [nI_toInt (by omega)] at h1
      omega
theorem tgt_lt (hF : fOK F) (hK : sub F (kn1 S)) {t gt w b : Nat} (e : tgt F S = some (t, gt, w, b)) : t < 36 ∧ gt < 36 := by
  unfold tgt at e
  cases h1 : fst (tHas F S) 36 0 with
  | none => rw [h1] at e; cases e
  | some s =>
    rw [h1] at e; dsimp only at e
    cases h2 : fst (tgs F S s) 36 0 with
    | none => rw [h2] at e; cases e
    | some t' =>
      rw [h2] at e; dsimp only at e
      cases h3 : fst (gat F S s t') 36 0 with
      | none => rw [h3] at e; cases e
      | some g' =>
        rw [h3] at e; dsimp only at e
        cases h4 : dst F (kn1 S) (some g') (fD F) with
        | none => rw [h4] at e; cases e
        | some b' =>
          rw [h4] at e
          cases e
          have a1 := (fst_some.mp h2).2.1
          have a2 := (fst_some.mp h3).2.1
          exact ⟨by omega, by omega⟩
theorem c_P_nextHand {p0 p1 p2 p3 : Int32} (hk9 : k ≠ 9 ∧ k + 1 ≠ 9) (hF : fOK F) (hG : h[4]? = some (gC F)) (hS : h[k]? = some (sitC k S)) (hK : sub F (kn1 S)) (hat : sAt S < fN F) (hch : sCh S ≤ 99) (hPi : h[9]? = some (pilC p0 p1 p2 p3)) : Run l g mP_nextHand (d + 5) 0 0 [.ref 9, .ref k] h (PI (oI (nxt F S)) (pilH (tgt F S) h)) := by
  refine run_of (by decide) (Nat.le_of_ble_eq_true rfl) ?_
  have hn := fN_le hF
  have hd36 : fD F < 36 := by have := hF.2.2.1; omega
  have cf := c_P_findsTarget (l := l) (g := g) (d := d) hk9 hF hG hS hK hat hch hPi
  cases ht : tgt F S with
  | none =>
    rw [ht] at cf
    have e : nxt F S = if sAt S = fD F then none else hNr F (kn1 S) (sAt S) (fD F) := by unfold nxt; rw [ht]
    rw [e]
    refine zw_aload_n dP_nextHand_0 rfl ?_
    refine zw_aload_n dP_nextHand_1 rfl ?_
    refine zc_V1I dP_nextHand_2 zm_P_findsTarget zk_P_49 (by first | exact hPi | exact hS | exact hG) rfl cf ?_ zRR (Nat.le_of_ble_eq_true rfl) ⟨Nat.le_of_ble_eq_true rfl, Nat.le_of_ble_eq_true rfl⟩
    refine zw_if_eq 39 dP_nextHand_5 (by decide) (fun c_5 => ?_) (fun c_5 => ?_)
    · refine zw_aload_n dP_nextHand_39 rfl ?_
      refine zw_get dP_nextHand_40 zf_P_9 (by first | exact hPi | exact hS | exact hG) rfl ?_
      refine zw_aload_n dP_nextHand_43 rfl ?_
      refine zw_get dP_nextHand_44 zf_P_15 (by first | exact hPi | exact hS | exact hG) rfl ?_
      refine zw_get dP_nextHand_47 zf_P_19 (by first | exact hPi | exact hS | exact hG) rfl ?_
      refine zw_icmp_ne 57 dP_nextHand_50 (by decide) (fun c_50 => ?_) (fun c_50 => ?_)
      · refine zw_aload_n dP_nextHand_57 rfl ?_
        refine zw_aload_n dP_nextHand_58 rfl ?_
        refine zw_get dP_nextHand_59 zf_P_15 (by first | exact hPi | exact hS | exact hG) rfl ?_
        refine zw_get dP_nextHand_62 zf_P_19 (by first | exact hPi | exact hS | exact hG) rfl ?_
        refine zc_S2I dP_nextHand_65 zm_P_handNearer zk_P_63 (c_P_handNearer hF hG hS hat hK hd36) ?_ zRR (Nat.le_of_ble_eq_true rfl) ⟨Nat.le_of_ble_eq_true rfl, Nat.le_of_ble_eq_true rfl⟩
        exact zw_iret dP_nextHand_68 rfl rfl rfl ⟨by first | (rw [if_pos ((nI_eq (by omega) (by omega)).mp (Classical.byContradiction fun q => q c_50))]; rfl) | (rw [if_neg (fun q => c_50 (by rw [q]))]), rfl⟩
      · refine zw_iconst (v := (-1)) dP_nextHand_53 (by decide) ?_
        refine zw_goto 68 dP_nextHand_54 (by decide) ?_
        exact zw_iret dP_nextHand_68 rfl rfl rfl ⟨by first | (rw [if_pos ((nI_eq (by omega) (by omega)).mp (Classical.byContradiction fun q => q c_50))]; rfl) | (rw [if_neg (fun q => c_50 (by rw [q]))]), rfl⟩
    · exact absurd rfl c_5
  | some x =>
    obtain ⟨t, gt, w, b⟩ := x
    rw [ht] at cf
    obtain ⟨hl1, hl2⟩ := tgt_lt hF hK ht
    have e : nxt F S = if sAt S = gt then hOn F (sAt S) t else hNr F (kn1 S) (sAt S) gt := by unfold nxt; rw [ht]
    rw [e]
    have hP1 : (pilH (some (t, gt, w, b)) h)[9]? = some (pilC (nI t) (nI gt) (nI w) (nI b)) := zg_eq hPi
    have hS1 : (pilH (some (t, gt, w, b)) h)[k]? = some (sitC k S) := zg_ne (Ne.symm hk9.1) hS
    have hG1 : (pilH (some (t, gt, w, b)) h)[4]? = some (gC F) := zg_ne (by omega) hG
    refine zw_aload_n dP_nextHand_0 rfl ?_
    refine zw_aload_n dP_nextHand_1 rfl ?_
    refine zc_V1I dP_nextHand_2 zm_P_findsTarget zk_P_49 hPi rfl cf ?_ zRR (Nat.le_of_ble_eq_true rfl) ⟨Nat.le_of_ble_eq_true rfl, Nat.le_of_ble_eq_true rfl⟩
    refine zw_if_eq 39 dP_nextHand_5 (by decide) (fun c_5 => ?_) (fun c_5 => ?_)
    · exact absurd c_5 (show ¬ (1 : Int32) = 0 by decide)
    · refine zw_aload_n dP_nextHand_8 rfl ?_
      refine zw_get dP_nextHand_9 zf_P_9 (by first | exact hP1 | exact hS1 | exact hG1) rfl ?_
      refine zw_aload_n dP_nextHand_12 rfl ?_
      refine zw_get dP_nextHand_13 zf_P_53 (by first | exact hP1 | exact hS1 | exact hG1) rfl ?_
      refine zw_icmp_ne 30 dP_nextHand_16 (by decide) (fun c_16 => ?_) (fun c_16 => ?_)
      · refine zw_aload_n dP_nextHand_30 rfl ?_
        refine zw_aload_n dP_nextHand_31 rfl ?_
        refine zw_get dP_nextHand_32 zf_P_53 (by first | exact hP1 | exact hS1 | exact hG1) rfl ?_
        refine zc_S2I dP_nextHand_35 zm_P_handNearer zk_P_63 (c_P_handNearer hF hG1 hS1 hat hK hl2) ?_ zRR (Nat.le_of_ble_eq_true rfl) ⟨Nat.le_of_ble_eq_true rfl, Nat.le_of_ble_eq_true rfl⟩
        exact zw_iret dP_nextHand_38 rfl rfl (by simp [pilH]) ⟨by first | (rw [if_pos ((nI_eq (by omega) (by omega)).mp (Classical.byContradiction fun q => q c_16))]) | (rw [if_neg (fun q => c_16 (by rw [q]))]), rfl⟩
      · refine zw_aload_n dP_nextHand_19 rfl ?_
        refine zw_aload_n dP_nextHand_20 rfl ?_
        refine zw_get dP_nextHand_21 zf_P_56 (by first | exact hP1 | exact hS1 | exact hG1) rfl ?_
        refine zc_S2I dP_nextHand_24 zm_P_handOnto zk_P_59 (c_P_handOnto hF hG1 hS1 hat hl1) ?_ zRR (Nat.le_of_ble_eq_true rfl) ⟨Nat.le_of_ble_eq_true rfl, Nat.le_of_ble_eq_true rfl⟩
        refine zw_goto 38 dP_nextHand_27 (by decide) ?_
        exact zw_iret dP_nextHand_38 rfl rfl (by simp [pilH]) ⟨by first | (rw [if_pos ((nI_eq (by omega) (by omega)).mp (Classical.byContradiction fun q => q c_16))]) | (rw [if_neg (fun q => c_16 (by rw [q]))]), rfl⟩
/-- any contents of the pilot -/
def pilA (h h' : zH) : Prop := ∃ q0 q1 q2 q3 : Int32, h' = h.set 9 (pilC q0 q1 q2 q3)
theorem pilA_self {p0 p1 p2 p3 : Int32} (hPi : h[9]? = some (pilC p0 p1 p2 p3)) : pilA h h := ⟨p0, p1, p2, p3, (zs_self hPi).symm⟩
theorem pilA_H {p0 p1 p2 p3 : Int32} (hPi : h[9]? = some (pilC p0 p1 p2 p3)) (o : Option (Nat × Nat × Nat × Nat)) : pilA h (pilH o h) := by
  cases o with
  | none => exact pilA_self hPi
  | some x => obtain ⟨t, gt, w, b⟩ := x; exact ⟨_, _, _, _, rfl⟩
theorem c_P_isThrough {p0 p1 p2 p3 : Int32} (hk9 : k ≠ 9 ∧ k + 1 ≠ 9) (hF : fOK F) (hG : h[4]? = some (gC F)) (hS : h[k]? = some (sitC k S)) (hK : sub F (kn1 S)) (hat : sAt S < fN F) (hch : sCh S ≤ 99) (hPi : h[9]? = some (pilC p0 p1 p2 p3)) (hbr : sBrim S ≤ 99) : Run l g mP_isThrough (d + 5) 0 0 [.ref 9, .ref k] h (fun v h' => v = some (.int (if thr F S = true then 1 else 0)) ∧ pilA h h') := by
  refine run_of (by decide) (Nat.le_of_ble_eq_true rfl) ?_
  have hn := fN_le hF
  have hd36 : fD F < 36 := by have := hF.2.2.1; omega
  have cf := c_P_findsTarget (l := l) (g := g) (d := d) hk9 hF hG hS hK hat hch hPi
  have hlen : (pilH (tgt F S) h).length = h.length := by cases tgt F S with | none => rfl | some x => obtain ⟨t, gt, w, b⟩ := x; simp [pilH]
  have hself := pilA_self hPi
  have hH := pilA_H hPi (tgt F S)
  generalize pilH (tgt F S) h = hx at cf hlen hH
  refine zw_aload_n dP_isThrough_0 rfl ?_
  refine zw_get dP_isThrough_1 zf_P_9 (by first | exact hPi | exact hS | exact hG) rfl ?_
  refine zw_aload_n dP_isThrough_4 rfl ?_
  refine zw_get dP_isThrough_5 zf_P_15 (by first | exact hPi | exact hS | exact hG) rfl ?_
  refine zw_get dP_isThrough_8 zf_P_19 (by first | exact hPi | exact hS | exact hG) rfl ?_
  refine zw_icmp_ne 37 dP_isThrough_11 (by decide) (fun c_11 => ?_) (fun c_11 => ?_)
  · refine zw_iconst (v := 0) dP_isThrough_37 (by decide) ?_
    have e : thr F S = false := by
      first
        | (have h1 : ¬ sAt S = fD F := fun q => c_11 (by rw [q])
           simp [thr, h1]; done)
        | (have h1 : ¬ sCh S = sBrim S := fun q => c_22 (by rw [q])
           simp [thr, h1]; done)
        | (cases ht : tgt F S with
           | none => rw [ht] at c_30; exact absurd rfl c_30
           | some x => simp [thr, ht])
    exact zw_iret dP_isThrough_38 rfl rfl (by first | rfl | exact hlen) ⟨by rw [e]; rfl, by first | exact hself | exact hH⟩
  · refine zw_aload_n dP_isThrough_14 rfl ?_
    refine zw_get dP_isThrough_15 zf_P_24 (by first | exact hPi | exact hS | exact hG) rfl ?_
    refine zw_aload_n dP_isThrough_18 rfl ?_
    refine zw_get dP_isThrough_19 zf_P_27 (by first | exact hPi | exact hS | exact hG) rfl ?_
    refine zw_icmp_ne 37 dP_isThrough_22 (by decide) (fun c_22 => ?_) (fun c_22 => ?_)
    · refine zw_iconst (v := 0) dP_isThrough_37 (by decide) ?_
      have e : thr F S = false := by
        first
          | (have h1 : ¬ sAt S = fD F := fun q => c_11 (by rw [q])
             simp [thr, h1]; done)
          | (have h1 : ¬ sCh S = sBrim S := fun q => c_22 (by rw [q])
             simp [thr, h1]; done)
          | (cases ht : tgt F S with
             | none => rw [ht] at c_30; exact absurd rfl c_30
             | some x => simp [thr, ht])
      exact zw_iret dP_isThrough_38 rfl rfl (by first | rfl | exact hlen) ⟨by rw [e]; rfl, by first | exact hself | exact hH⟩
    · refine zw_aload_n dP_isThrough_25 rfl ?_
      refine zw_aload_n dP_isThrough_26 rfl ?_
      refine zc_V1I dP_isThrough_27 zm_P_findsTarget zk_P_49 (by first | exact hPi | exact hS | exact hG) rfl cf ?_ zRR (Nat.le_of_ble_eq_true rfl) ⟨Nat.le_of_ble_eq_true rfl, Nat.le_of_ble_eq_true rfl⟩
      refine zw_if_ne 37 dP_isThrough_30 (by decide) (fun c_30 => ?_) (fun c_30 => ?_)
      · refine zw_iconst (v := 0) dP_isThrough_37 (by decide) ?_
        have e : thr F S = false := by
          first
            | (have h1 : ¬ sAt S = fD F := fun q => c_11 (by rw [q])
               simp [thr, h1]; done)
            | (have h1 : ¬ sCh S = sBrim S := fun q => c_22 (by rw [q])
               simp [thr, h1]; done)
            | (cases ht : tgt F S with
               | none => rw [ht] at c_30; exact absurd rfl c_30
               | some x => simp [thr, ht])
        exact zw_iret dP_isThrough_38 rfl rfl (by first | rfl | exact hlen) ⟨by rw [e]; rfl, by first | exact hself | exact hH⟩
      · refine zw_iconst (v := 1) dP_isThrough_33 (by decide) ?_
        refine zw_goto 38 dP_isThrough_34 (by decide) ?_
        have e : thr F S = true := by
          have h1 := (nI_eq (by omega) (by omega)).mp (Classical.byContradiction fun q => q c_11)
          have h2 := (nI_eq (by omega) (by omega)).mp (Classical.byContradiction fun q => q c_22)
          cases ht : tgt F S with
          | none => simp [thr, h1, h2, ht]
          | some x => rw [ht] at c_30; exact absurd c_30 (show ¬ (1 : Int32) = 0 by decide)
        exact zw_iret dP_isThrough_38 rfl rfl hlen ⟨by rw [if_pos e], hH⟩
theorem c_P_act {p0 p1 p2 p3 : Int32} (hk4 : k ≠ 4 ∧ k + 1 ≠ 4) (hk9 : k ≠ 9 ∧ k + 1 ≠ 9) (hF : fOK F) (hG : h[4]? = some (gC F)) (hS : h[k]? = some (sitC k S)) (hK : sub F (kn1 S)) (hat : sAt S < fN F) (hch : sCh S ≤ 99) (hPi : h[9]? = some (pilC p0 p1 p2 p3)) (hp : h[k + 1]? = some (plC S)) (hbr : sBrim S ≤ 99) (hrt : sRate S ≤ 20) : Run l g mP_act (d + 6) 0 0 [.ref 9, .ref k] h (fun v h' => v = some (.int (nI (act F S).1)) ∧ ∃ h1, pilA h h1 ∧ h' = hs2 k (act F S).2 h1) := by
  refine run_of (by decide) (Nat.le_of_ble_eq_true rfl) ?_
  have hn := fN_le hF
  have hd36 : fD F < 36 := by have := hF.2.2.1; omega
  have cn := c_P_nextHand (l := l) (g := g) (d := d) hk9 hF hG hS hK hat hch hPi
  have hlen : (pilH (tgt F S) h).length = h.length := by cases tgt F S with | none => rfl | some x => obtain ⟨t, gt, w, b⟩ := x; simp [pilH]
  have hself := pilA_self hPi
  have hH := pilA_H hPi (tgt F S)
  generalize pilH (tgt F S) h = hx at cn hlen hH
  obtain ⟨q0, q1, q2, q3, hxe⟩ := hH
  have hH : pilA h hx := ⟨q0, q1, q2, q3, hxe⟩
  have hG1 : hx[4]? = some (gC F) := by rw [hxe]; exact zg_ne (by omega) hG
  have hS1 : hx[k]? = some (sitC k S) := by rw [hxe]; exact zg_ne (Ne.symm hk9.1) hS
  have hp1 : hx[k + 1]? = some (plC S) := by rw [hxe]; exact zg_ne (Ne.symm hk9.2) hp
  by_cases hA : sAt S = fD F ∧ sCh S < sBrim S
  · have e : act F S = (1, setCh S (min (sCh S + sRate S) (sBrim S))) := by unfold act; rw [if_pos hA]
    rw [e]
    have emin : (if nI (sBrim S) < nI (sCh S + sRate S) then nI (sBrim S) else nI (sCh S + sRate S)) = nI (min (sCh S + sRate S) (sBrim S)) := by
      rcases Nat.lt_or_ge (sBrim S) (sCh S + sRate S) with q | q
      · rw [if_pos (nI_lt q (by omega)), show min (sCh S + sRate S) (sBrim S) = sBrim S by omega]
      · rw [if_neg (nI_nlt q (by omega)), show min (sCh S + sRate S) (sBrim S) = sCh S + sRate S by omega]
    generalize min (sCh S + sRate S) (sBrim S) = nc at emin
    refine zw_aload_n dP_act_0 rfl ?_
    refine zw_get dP_act_1 zf_P_9 (by first | exact hS | exact hG) rfl ?_
    refine zw_aload_n dP_act_4 rfl ?_
    refine zw_get dP_act_5 zf_P_15 (by first | exact hS | exact hG) rfl ?_
    refine zw_get dP_act_8 zf_P_19 (by first | exact hS | exact hG) rfl ?_
    refine zw_icmp_ne 47 dP_act_11 (by decide) (fun c_11 => ?_) (fun c_11 => ?_)
    · exact absurd (by rw [hA.1]) c_11
    · refine zw_aload_n dP_act_14 rfl ?_
      refine zw_get dP_act_15 zf_P_24 (by first | exact hS | exact hG) rfl ?_
      refine zw_aload_n dP_act_18 rfl ?_
      refine zw_get dP_act_19 zf_P_27 (by first | exact hS | exact hG) rfl ?_
      refine zw_icmp_ge 47 dP_act_22 (by decide) (fun c_22 => ?_) (fun c_22 => ?_)
      · exact absurd ((nI_leI (by omega) (by omega)).mp c_22) (by omega)
      · refine zw_aload_n dP_act_25 rfl ?_
        refine zw_aload_n dP_act_26 rfl ?_
        refine zw_get dP_act_27 zf_P_24 (by first | exact hS | exact hG) rfl ?_
        refine zw_aload_n dP_act_30 rfl ?_
        refine zw_get dP_act_31 zf_P_30 (by first | exact hS | exact hG) rfl ?_
        refine zw_iadd dP_act_34 ?_
        rw [nI_add]
        refine zw_aload_n dP_act_35 rfl ?_
        refine zw_get dP_act_36 zf_P_27 (by first | exact hS | exact hG) rfl ?_
        refine zw_mmin dP_act_39 zmm_P_33 ⟨Nat.succ_le_succ (Nat.zero_le _), by show 38 ≤ 38 * _; omega⟩ (Nat.le_of_ble_eq_true rfl) ⟨Nat.le_of_ble_eq_true rfl, Nat.le_of_ble_eq_true rfl⟩ ?_
        rw [emin]
        refine zw_puti dP_act_42 zf_P_24 (by first | exact hS | exact hG) (Nat.le_of_ble_eq_true rfl) ?_
        refine zw_h (h2 := hs2 k (setCh S nc) h) (hs2_sit (S := S) rfl rfl hp) ?_
        refine zw_iconst (v := 1) dP_act_45 (by decide) ?_
        exact zw_iret dP_act_46 rfl rfl (by rw [hs2_len]; rfl) ⟨rfl, h, hself, rfl⟩
  · have cutA : ∀ (P : Prop), (nI (sAt S) ≠ nI (fD F) → P) → (nI (sBrim S) ≤ nI (sCh S) → P) → P := by
      intro P f1 f2
      by_cases h1 : sAt S = fD F
      · exact f2 (nI_le (by have : ¬ sCh S < sBrim S := fun q => hA ⟨h1, q⟩; omega) (by omega))
      · exact f1 (fun q => h1 ((nI_eq (by omega) (by omega)).mp q))
    have E : WW l g mP_act (zrm (d + 6) 0 0) (fun _ => True) (zQQ g (fun v h' => v = some (.int (nI (act F S).1)) ∧ ∃ h1, pilA h h1 ∧ h' = hs2 k (act F S).2 h1) (h.length + 0) 0 0) 47 [(0, some (.ref 9)), (1, some (.ref k))] [] h 0 0 := by
      by_cases h0 : sCh S = 0
      · have e : act F S = (0, S) := by unfold act; rw [if_neg hA, if_pos h0]
        rw [e]
        refine zw_aload_n dP_act_47 rfl ?_
        refine zw_get dP_act_48 zf_P_24 (by first | exact hS | exact hG) rfl ?_
        refine zw_if_gt 56 dP_act_51 (by decide) (fun c_51 => ?_) (fun c_51 => ?_)
        · exact absurd c_51 (by rw [show sCh S = 0 from h0]; decide)
        · refine zw_iconst (v := 0) dP_act_54 (by decide) ?_
          exact zw_iret dP_act_55 rfl rfl rfl ⟨rfl, h, hself, (hs2_self hS hp).symm⟩
      · have hc0 : 0 < sCh S := by omega
        cases hx2 : nxt F S with
        | none =>
          have e : act F S = (0, S) := by unfold act; rw [if_neg hA, if_neg h0, hx2]
          rw [e]
          rw [hx2] at cn
          refine zw_aload_n dP_act_47 rfl ?_
          refine zw_get dP_act_48 zf_P_24 (by first | exact hPi | exact hS | exact hG) rfl ?_
          refine zw_if_gt 56 dP_act_51 (by decide) (fun c_51 => ?_) (fun c_51 => ?_)
          · refine zw_aload_n dP_act_56 rfl ?_
            refine zw_aload_n dP_act_57 rfl ?_
            refine zc_V1I dP_act_58 zm_P_nextHand zk_P_39 (by first | exact hPi | exact hS | exact hG) rfl cn ?_ zRR (Nat.le_of_ble_eq_true rfl) ⟨Nat.le_of_ble_eq_true rfl, Nat.le_of_ble_eq_true rfl⟩
            refine zw_istore_n dP_act_61 (by decide) rfl ?_
            refine zw_iload_n dP_act_62 rfl ?_
            refine zw_iconst (v := (-1)) dP_act_63 (by decide) ?_
            refine zw_icmp_ne 69 dP_act_64 (by decide) (fun c_64 => ?_) (fun c_64 => ?_)
            · exact absurd rfl c_64
            · refine zw_iconst (v := 0) dP_act_67 (by decide) ?_
              exact zw_iret dP_act_68 rfl rfl (by exact hlen) ⟨rfl, hx, hH, (hs2_self hS1 hp1).symm⟩
          · exact absurd (nI_lt (a := 0) hc0 (by omega)) c_51
        | some hd =>
          have hhd : hd < 4 := by
            have hfst : ∀ (p : Nat → Bool), fst p 4 0 = some hd → hd < 4 := fun p q => by have := (fst_some.mp q).2.1; omega
            have hnear : ∀ gl, hNr F (kn1 S) (sAt S) gl = some hd → hd < 4 := by
              intro gl q
              unfold hNr at q
              cases hdd : dst F (kn1 S) (some (sAt S)) gl with
              | none => rw [hdd] at q; cases q
              | some s => rw [hdd] at q; exact hfst _ q
            unfold nxt at hx2
            cases ht : tgt F S with
            | none =>
              rw [ht] at hx2; dsimp only at hx2
              split at hx2
              · cases hx2
              · exact hnear _ hx2
            | some x =>
              obtain ⟨t, gt, w, b⟩ := x
              rw [ht] at hx2; dsimp only at hx2
              split at hx2
              · exact hfst _ hx2
              · exact hnear _ hx2
          have e : act F S = (2, stepS F S hd) := by unfold act; rw [if_neg hA, if_neg h0, hx2]
          rw [e]
          rw [hx2] at cn
          refine zw_aload_n dP_act_47 rfl ?_
          refine zw_get dP_act_48 zf_P_24 hS rfl ?_
          refine zw_if_gt 56 dP_act_51 (by decide) (fun c_51 => ?_) (fun c_51 => ?_)
          · refine zw_aload_n dP_act_56 rfl ?_
            refine zw_aload_n dP_act_57 rfl ?_
            refine zc_V1I dP_act_58 zm_P_nextHand zk_P_39 hPi rfl cn ?_ zRR (Nat.le_of_ble_eq_true rfl) ⟨Nat.le_of_ble_eq_true rfl, Nat.le_of_ble_eq_true rfl⟩
            refine zw_istore_n dP_act_61 (by decide) rfl ?_
            refine zw_iload_n dP_act_62 rfl ?_
            refine zw_iconst (v := (-1)) dP_act_63 (by decide) ?_
            refine zw_icmp_ne 69 dP_act_64 (by decide) (fun c_64 => ?_) (fun c_64 => ?_)
            · refine zw_aload_n dP_act_69 rfl ?_
              refine zw_iload_n dP_act_70 rfl ?_
              refine zc_V1I dP_act_71 zm_S_stepTo zk_P_45 (by first | exact hS1 | exact hG1) rfl (c_S_stepTo hk4 hF hG1 hS1 hp1 hhd hat hc0) ?_ zRR (Nat.le_of_ble_eq_true rfl) ⟨Nat.le_of_ble_eq_true rfl, Nat.le_of_ble_eq_true rfl⟩
              refine zw_pop dP_act_74 rfl ?_
              refine zw_iconst (v := 2) dP_act_75 (by decide) ?_
              exact zw_iret dP_act_76 rfl rfl (by rw [hs2_len]; exact hlen) ⟨rfl, hx, hH, rfl⟩
            · have h1 : (nI hd).toInt = (-1 : Int32).toInt := by rw [show nI hd = -1 from c_64]
              rw [nI_toInt (by omega), show (-1 : Int32).toInt = -1 from by decide] at h1
              omega
          · exact absurd (nI_lt (a := 0) hc0 (by omega)) c_51
    refine zw_aload_n dP_act_0 rfl ?_
    refine zw_get dP_act_1 zf_P_9 (by first | exact hS | exact hG) rfl ?_
    refine zw_aload_n dP_act_4 rfl ?_
    refine zw_get dP_act_5 zf_P_15 (by first | exact hS | exact hG) rfl ?_
    refine zw_get dP_act_8 zf_P_19 (by first | exact hS | exact hG) rfl ?_
    refine zw_icmp_ne 47 dP_act_11 (by decide) (fun c_11 => ?_) (fun c_11 => ?_)
    · exact zw_lk E ⟨rfl, rfl, trivial⟩
    · refine zw_aload_n dP_act_14 rfl ?_
      refine zw_get dP_act_15 zf_P_24 (by first | exact hS | exact hG) rfl ?_
      refine zw_aload_n dP_act_18 rfl ?_
      refine zw_get dP_act_19 zf_P_27 (by first | exact hS | exact hG) rfl ?_
      refine zw_icmp_ge 47 dP_act_22 (by decide) (fun c_22 => ?_) (fun c_22 => ?_)
      · exact zw_lk E ⟨rfl, rfl, trivial⟩
      · exact (cutA False (fun r => r c_11) (fun r => c_22 r)).elim
end C31
end
