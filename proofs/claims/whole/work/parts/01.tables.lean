-- ===== PART A: goes FIRST, ahead of the names: the tables' words, and 'selects' of the private methods out of them =====
/-- a private method of a class that the tables say can be made, by its rows of tables_1 -/
def lw_okq (q : MethodName × Nat) : Prop := (q.1.cls ≠ "java/lang/invoke/MethodHandle" ∧ q.1.cls ≠ "java/lang/invoke/VarHandle") ∧ Cond.instantiable q.1.cls q.2 ∈ tables_1 ∧ Cond.privateMethod q.1 ∈ tables_1 ∧ Cond.instanceMethod q.1 ∈ tables_1
theorem lw_p0 : lw_okq (⟨"SweptFloors$Text", "add", "(I)Z"⟩, 8) := ⟨⟨by decide +kernel, by decide +kernel⟩, List.mem_of_getElem? (i := 21) (by decide +kernel), List.mem_of_getElem? (i := 226) (by decide +kernel), List.mem_of_getElem? (i := 227) (by decide +kernel)⟩
theorem lw_p1 : lw_okq (⟨"SweptFloors", "readText", "()I"⟩, 7) := ⟨⟨by decide +kernel, by decide +kernel⟩, List.mem_of_getElem? (i := 13) (by decide +kernel), List.mem_of_getElem? (i := 230) (by decide +kernel), List.mem_of_getElem? (i := 231) (by decide +kernel)⟩
theorem lw_p2 : lw_okq (⟨"SweptFloors$Text", "findFault", "()I"⟩, 8) := ⟨⟨by decide +kernel, by decide +kernel⟩, List.mem_of_getElem? (i := 21) (by decide +kernel), List.mem_of_getElem? (i := 234) (by decide +kernel), List.mem_of_getElem? (i := 235) (by decide +kernel)⟩
theorem lw_p3 : lw_okq (⟨"SweptFloors$Text", "takes", "(I)Z"⟩, 8) := ⟨⟨by decide +kernel, by decide +kernel⟩, List.mem_of_getElem? (i := 21) (by decide +kernel), List.mem_of_getElem? (i := 238) (by decide +kernel), List.mem_of_getElem? (i := 239) (by decide +kernel)⟩
theorem lw_p4 : lw_okq (⟨"SweptFloors$Text", "endsRow", "()Z"⟩, 8) := ⟨⟨by decide +kernel, by decide +kernel⟩, List.mem_of_getElem? (i := 21) (by decide +kernel), List.mem_of_getElem? (i := 242) (by decide +kernel), List.mem_of_getElem? (i := 243) (by decide +kernel)⟩
theorem lw_p5 : lw_okq (⟨"SweptFloors$Text", "takesSign", "(I)Z"⟩, 8) := ⟨⟨by decide +kernel, by decide +kernel⟩, List.mem_of_getElem? (i := 21) (by decide +kernel), List.mem_of_getElem? (i := 249) (by decide +kernel), List.mem_of_getElem? (i := 250) (by decide +kernel)⟩
theorem lw_p6 : lw_okq (⟨"SweptFloors$Ground", "layOut", "(LSweptFloors$Text;)V"⟩, 10) := ⟨⟨by decide +kernel, by decide +kernel⟩, List.mem_of_getElem? (i := 59) (by decide +kernel), List.mem_of_getElem? (i := 253) (by decide +kernel), List.mem_of_getElem? (i := 254) (by decide +kernel)⟩
theorem lw_p7 : lw_okq (⟨"SweptFloors$Ground", "size", "()I"⟩, 10) := ⟨⟨by decide +kernel, by decide +kernel⟩, List.mem_of_getElem? (i := 59) (by decide +kernel), List.mem_of_getElem? (i := 257) (by decide +kernel), List.mem_of_getElem? (i := 258) (by decide +kernel)⟩
theorem lw_p8 : lw_okq (⟨"SweptFloors$Situation", "begin", "()V"⟩, 11) := ⟨⟨by decide +kernel, by decide +kernel⟩, List.mem_of_getElem? (i := 110) (by decide +kernel), List.mem_of_getElem? (i := 267) (by decide +kernel), List.mem_of_getElem? (i := 268) (by decide +kernel)⟩
theorem lw_p9 : lw_okq (⟨"SweptFloors$Album", "empty", "()V"⟩, 2) := ⟨⟨by decide +kernel, by decide +kernel⟩, List.mem_of_getElem? (i := 210) (by decide +kernel), List.mem_of_getElem? (i := 272) (by decide +kernel), List.mem_of_getElem? (i := 273) (by decide +kernel)⟩
theorem lw_p10 : lw_okq (⟨"SweptFloors$Ground", "has", "(I)Z"⟩, 10) := ⟨⟨by decide +kernel, by decide +kernel⟩, List.mem_of_getElem? (i := 59) (by decide +kernel), List.mem_of_getElem? (i := 315) (by decide +kernel), List.mem_of_getElem? (i := 316) (by decide +kernel)⟩
theorem lw_p11 : lw_okq (⟨"SweptFloors$Situation", "kindOf", "(I)I"⟩, 11) := ⟨⟨by decide +kernel, by decide +kernel⟩, List.mem_of_getElem? (i := 110) (by decide +kernel), List.mem_of_getElem? (i := 319) (by decide +kernel), List.mem_of_getElem? (i := 320) (by decide +kernel)⟩
theorem lw_p12 : lw_okq (⟨"SweptFloors$History", "remember", "(LSweptFloors$Situation;)V"⟩, 3) := ⟨⟨by decide +kernel, by decide +kernel⟩, List.mem_of_getElem? (i := 190) (by decide +kernel), List.mem_of_getElem? (i := 331) (by decide +kernel), List.mem_of_getElem? (i := 332) (by decide +kernel)⟩
theorem lw_p13 : lw_okq (⟨"SweptFloors$History", "slotOf", "(I)LSweptFloors$Situation;"⟩, 3) := ⟨⟨by decide +kernel, by decide +kernel⟩, List.mem_of_getElem? (i := 190) (by decide +kernel), List.mem_of_getElem? (i := 335) (by decide +kernel), List.mem_of_getElem? (i := 336) (by decide +kernel)⟩
theorem lw_p14 : lw_okq (⟨"SweptFloors$Situation", "copyFrom", "(LSweptFloors$Situation;)V"⟩, 11) := ⟨⟨by decide +kernel, by decide +kernel⟩, List.mem_of_getElem? (i := 110) (by decide +kernel), List.mem_of_getElem? (i := 339) (by decide +kernel), List.mem_of_getElem? (i := 340) (by decide +kernel)⟩
theorem lw_p15 : lw_okq (⟨"SweptFloors$Situation", "stepTo", "(I)I"⟩, 11) := ⟨⟨by decide +kernel, by decide +kernel⟩, List.mem_of_getElem? (i := 110) (by decide +kernel), List.mem_of_getElem? (i := 359) (by decide +kernel), List.mem_of_getElem? (i := 360) (by decide +kernel)⟩
def lw_privs_1 : List (MethodName × Nat) := [(⟨"SweptFloors$Text", "add", "(I)Z"⟩, 8), (⟨"SweptFloors", "readText", "()I"⟩, 7), (⟨"SweptFloors$Text", "findFault", "()I"⟩, 8), (⟨"SweptFloors$Text", "takes", "(I)Z"⟩, 8), (⟨"SweptFloors$Text", "endsRow", "()Z"⟩, 8), (⟨"SweptFloors$Text", "takesSign", "(I)Z"⟩, 8), (⟨"SweptFloors$Ground", "layOut", "(LSweptFloors$Text;)V"⟩, 10), (⟨"SweptFloors$Ground", "size", "()I"⟩, 10), (⟨"SweptFloors$Situation", "begin", "()V"⟩, 11), (⟨"SweptFloors$Album", "empty", "()V"⟩, 2), (⟨"SweptFloors$Ground", "has", "(I)Z"⟩, 10), (⟨"SweptFloors$Situation", "kindOf", "(I)I"⟩, 11), (⟨"SweptFloors$History", "remember", "(LSweptFloors$Situation;)V"⟩, 3), (⟨"SweptFloors$History", "slotOf", "(I)LSweptFloors$Situation;"⟩, 3), (⟨"SweptFloors$Situation", "copyFrom", "(LSweptFloors$Situation;)V"⟩, 11), (⟨"SweptFloors$Situation", "stepTo", "(I)I"⟩, 11)]
theorem lw_r1 : ∀ q ∈ lw_privs_1, lw_okq q := List.forall_mem_cons.mpr ⟨lw_p0, List.forall_mem_cons.mpr ⟨lw_p1, List.forall_mem_cons.mpr ⟨lw_p2, List.forall_mem_cons.mpr ⟨lw_p3, List.forall_mem_cons.mpr ⟨lw_p4, List.forall_mem_cons.mpr ⟨lw_p5, List.forall_mem_cons.mpr ⟨lw_p6, List.forall_mem_cons.mpr ⟨lw_p7, List.forall_mem_cons.mpr ⟨lw_p8, List.forall_mem_cons.mpr ⟨lw_p9, List.forall_mem_cons.mpr ⟨lw_p10, List.forall_mem_cons.mpr ⟨lw_p11, List.forall_mem_cons.mpr ⟨lw_p12, List.forall_mem_cons.mpr ⟨lw_p13, List.forall_mem_cons.mpr ⟨lw_p14, List.forall_mem_cons.mpr ⟨lw_p15, fun _ h => absurd h List.not_mem_nil⟩⟩⟩⟩⟩⟩⟩⟩⟩⟩⟩⟩⟩⟩⟩⟩
theorem lw_p16 : lw_okq (⟨"SweptFloors$Ground", "cellBeside", "(II)I"⟩, 10) := ⟨⟨by decide +kernel, by decide +kernel⟩, List.mem_of_getElem? (i := 59) (by decide +kernel), List.mem_of_getElem? (i := 363) (by decide +kernel), List.mem_of_getElem? (i := 364) (by decide +kernel)⟩
theorem lw_p17 : lw_okq (⟨"SweptFloors$Ground", "beside", "(JI)J"⟩, 10) := ⟨⟨by decide +kernel, by decide +kernel⟩, List.mem_of_getElem? (i := 59) (by decide +kernel), List.mem_of_getElem? (i := 367) (by decide +kernel), List.mem_of_getElem? (i := 368) (by decide +kernel)⟩
theorem lw_p18 : lw_okq (⟨"SweptFloors$Situation", "outcomeAt", "(I)I"⟩, 11) := ⟨⟨by decide +kernel, by decide +kernel⟩, List.mem_of_getElem? (i := 110) (by decide +kernel), List.mem_of_getElem? (i := 381) (by decide +kernel), List.mem_of_getElem? (i := 382) (by decide +kernel)⟩
theorem lw_p19 : lw_okq (⟨"SweptFloors$Situation", "freeCells", "()J"⟩, 11) := ⟨⟨by decide +kernel, by decide +kernel⟩, List.mem_of_getElem? (i := 110) (by decide +kernel), List.mem_of_getElem? (i := 385) (by decide +kernel), List.mem_of_getElem? (i := 386) (by decide +kernel)⟩
theorem lw_p20 : lw_okq (⟨"SweptFloors$Situation", "sortOutBy", "(I)V"⟩, 11) := ⟨⟨by decide +kernel, by decide +kernel⟩, List.mem_of_getElem? (i := 110) (by decide +kernel), List.mem_of_getElem? (i := 390) (by decide +kernel), List.mem_of_getElem? (i := 391) (by decide +kernel)⟩
theorem lw_p21 : lw_okq (⟨"SweptFloors$Situation", "keepPlacesThatSee", "(II)V"⟩, 11) := ⟨⟨by decide +kernel, by decide +kernel⟩, List.mem_of_getElem? (i := 110) (by decide +kernel), List.mem_of_getElem? (i := 394) (by decide +kernel), List.mem_of_getElem? (i := 395) (by decide +kernel)⟩
theorem lw_p22 : lw_okq (⟨"SweptFloors$Situation", "cellsThatMaySee", "(II)J"⟩, 11) := ⟨⟨by decide +kernel, by decide +kernel⟩, List.mem_of_getElem? (i := 110) (by decide +kernel), List.mem_of_getElem? (i := 401) (by decide +kernel), List.mem_of_getElem? (i := 402) (by decide +kernel)⟩
theorem lw_p23 : lw_okq (⟨"SweptFloors$Situation", "cellsThatMayShow", "(I)J"⟩, 11) := ⟨⟨by decide +kernel, by decide +kernel⟩, List.mem_of_getElem? (i := 110) (by decide +kernel), List.mem_of_getElem? (i := 405) (by decide +kernel), List.mem_of_getElem? (i := 406) (by decide +kernel)⟩
theorem lw_p24 : lw_okq (⟨"SweptFloors$Situation", "movePlacesAhead", "()V"⟩, 11) := ⟨⟨by decide +kernel, by decide +kernel⟩, List.mem_of_getElem? (i := 110) (by decide +kernel), List.mem_of_getElem? (i := 410) (by decide +kernel), List.mem_of_getElem? (i := 411) (by decide +kernel)⟩
theorem lw_p25 : lw_okq (⟨"SweptFloors$Situation", "beFoundIfSure", "()V"⟩, 11) := ⟨⟨by decide +kernel, by decide +kernel⟩, List.mem_of_getElem? (i := 110) (by decide +kernel), List.mem_of_getElem? (i := 414) (by decide +kernel), List.mem_of_getElem? (i := 415) (by decide +kernel)⟩
theorem lw_p26 : lw_okq (⟨"SweptFloors$Situation", "placeCount", "()I"⟩, 11) := ⟨⟨by decide +kernel, by decide +kernel⟩, List.mem_of_getElem? (i := 110) (by decide +kernel), List.mem_of_getElem? (i := 418) (by decide +kernel), List.mem_of_getElem? (i := 419) (by decide +kernel)⟩
theorem lw_p27 : lw_okq (⟨"SweptFloors$Situation", "learn", "(II)V"⟩, 11) := ⟨⟨by decide +kernel, by decide +kernel⟩, List.mem_of_getElem? (i := 110) (by decide +kernel), List.mem_of_getElem? (i := 423) (by decide +kernel), List.mem_of_getElem? (i := 424) (by decide +kernel)⟩
theorem lw_p28 : lw_okq (⟨"SweptFloors$Situation", "turn", "(I)V"⟩, 11) := ⟨⟨by decide +kernel, by decide +kernel⟩, List.mem_of_getElem? (i := 110) (by decide +kernel), List.mem_of_getElem? (i := 431) (by decide +kernel), List.mem_of_getElem? (i := 432) (by decide +kernel)⟩
theorem lw_p29 : lw_okq (⟨"SweptFloors$Situation", "turnPlaces", "()V"⟩, 11) := ⟨⟨by decide +kernel, by decide +kernel⟩, List.mem_of_getElem? (i := 110) (by decide +kernel), List.mem_of_getElem? (i := 435) (by decide +kernel), List.mem_of_getElem? (i := 436) (by decide +kernel)⟩
theorem lw_p30 : lw_okq (⟨"SweptFloors$Situation", "scanAround", "()I"⟩, 11) := ⟨⟨by decide +kernel, by decide +kernel⟩, List.mem_of_getElem? (i := 110) (by decide +kernel), List.mem_of_getElem? (i := 443) (by decide +kernel), List.mem_of_getElem? (i := 444) (by decide +kernel)⟩
theorem lw_p31 : lw_okq (⟨"SweptFloors$Situation", "seenAt", "(I)I"⟩, 11) := ⟨⟨by decide +kernel, by decide +kernel⟩, List.mem_of_getElem? (i := 110) (by decide +kernel), List.mem_of_getElem? (i := 447) (by decide +kernel), List.mem_of_getElem? (i := 448) (by decide +kernel)⟩
def lw_privs_2 : List (MethodName × Nat) := [(⟨"SweptFloors$Ground", "cellBeside", "(II)I"⟩, 10), (⟨"SweptFloors$Ground", "beside", "(JI)J"⟩, 10), (⟨"SweptFloors$Situation", "outcomeAt", "(I)I"⟩, 11), (⟨"SweptFloors$Situation", "freeCells", "()J"⟩, 11), (⟨"SweptFloors$Situation", "sortOutBy", "(I)V"⟩, 11), (⟨"SweptFloors$Situation", "keepPlacesThatSee", "(II)V"⟩, 11), (⟨"SweptFloors$Situation", "cellsThatMaySee", "(II)J"⟩, 11), (⟨"SweptFloors$Situation", "cellsThatMayShow", "(I)J"⟩, 11), (⟨"SweptFloors$Situation", "movePlacesAhead", "()V"⟩, 11), (⟨"SweptFloors$Situation", "beFoundIfSure", "()V"⟩, 11), (⟨"SweptFloors$Situation", "placeCount", "()I"⟩, 11), (⟨"SweptFloors$Situation", "learn", "(II)V"⟩, 11), (⟨"SweptFloors$Situation", "turn", "(I)V"⟩, 11), (⟨"SweptFloors$Situation", "turnPlaces", "()V"⟩, 11), (⟨"SweptFloors$Situation", "scanAround", "()I"⟩, 11), (⟨"SweptFloors$Situation", "seenAt", "(I)I"⟩, 11)]
theorem lw_r2 : ∀ q ∈ lw_privs_2, lw_okq q := List.forall_mem_cons.mpr ⟨lw_p16, List.forall_mem_cons.mpr ⟨lw_p17, List.forall_mem_cons.mpr ⟨lw_p18, List.forall_mem_cons.mpr ⟨lw_p19, List.forall_mem_cons.mpr ⟨lw_p20, List.forall_mem_cons.mpr ⟨lw_p21, List.forall_mem_cons.mpr ⟨lw_p22, List.forall_mem_cons.mpr ⟨lw_p23, List.forall_mem_cons.mpr ⟨lw_p24, List.forall_mem_cons.mpr ⟨lw_p25, List.forall_mem_cons.mpr ⟨lw_p26, List.forall_mem_cons.mpr ⟨lw_p27, List.forall_mem_cons.mpr ⟨lw_p28, List.forall_mem_cons.mpr ⟨lw_p29, List.forall_mem_cons.mpr ⟨lw_p30, List.forall_mem_cons.mpr ⟨lw_p31, fun _ h => absurd h List.not_mem_nil⟩⟩⟩⟩⟩⟩⟩⟩⟩⟩⟩⟩⟩⟩⟩⟩
theorem lw_p32 : lw_okq (⟨"SweptFloors$Situation", "carryTo", "(II)I"⟩, 11) := ⟨⟨by decide +kernel, by decide +kernel⟩, List.mem_of_getElem? (i := 110) (by decide +kernel), List.mem_of_getElem? (i := 456) (by decide +kernel), List.mem_of_getElem? (i := 457) (by decide +kernel)⟩
theorem lw_p33 : lw_okq (⟨"SweptFloors$Pilot", "act", "(LSweptFloors$Situation;)I"⟩, 4) := ⟨⟨by decide +kernel, by decide +kernel⟩, List.mem_of_getElem? (i := 167) (by decide +kernel), List.mem_of_getElem? (i := 464) (by decide +kernel), List.mem_of_getElem? (i := 465) (by decide +kernel)⟩
theorem lw_p34 : lw_okq (⟨"SweptFloors$Pilot", "nextHand", "(LSweptFloors$Situation;)I"⟩, 4) := ⟨⟨by decide +kernel, by decide +kernel⟩, List.mem_of_getElem? (i := 167) (by decide +kernel), List.mem_of_getElem? (i := 469) (by decide +kernel), List.mem_of_getElem? (i := 470) (by decide +kernel)⟩
theorem lw_p35 : lw_okq (⟨"SweptFloors$Pilot", "findsTarget", "(LSweptFloors$Situation;)Z"⟩, 4) := ⟨⟨by decide +kernel, by decide +kernel⟩, List.mem_of_getElem? (i := 167) (by decide +kernel), List.mem_of_getElem? (i := 473) (by decide +kernel), List.mem_of_getElem? (i := 474) (by decide +kernel)⟩
theorem lw_p36 : lw_okq (⟨"SweptFloors$Ground", "within", "(IIJ)J"⟩, 10) := ⟨⟨by decide +kernel, by decide +kernel⟩, List.mem_of_getElem? (i := 59) (by decide +kernel), List.mem_of_getElem? (i := 479) (by decide +kernel), List.mem_of_getElem? (i := 480) (by decide +kernel)⟩
theorem lw_p37 : lw_okq (⟨"SweptFloors$Ground", "around", "(J)J"⟩, 10) := ⟨⟨by decide +kernel, by decide +kernel⟩, List.mem_of_getElem? (i := 59) (by decide +kernel), List.mem_of_getElem? (i := 483) (by decide +kernel), List.mem_of_getElem? (i := 484) (by decide +kernel)⟩
theorem lw_p38 : lw_okq (⟨"SweptFloors$Situation", "homeOf", "(I)I"⟩, 11) := ⟨⟨by decide +kernel, by decide +kernel⟩, List.mem_of_getElem? (i := 110) (by decide +kernel), List.mem_of_getElem? (i := 489) (by decide +kernel), List.mem_of_getElem? (i := 490) (by decide +kernel)⟩
theorem lw_p39 : lw_okq (⟨"SweptFloors$Ground", "stepsBetween", "(IIJ)I"⟩, 10) := ⟨⟨by decide +kernel, by decide +kernel⟩, List.mem_of_getElem? (i := 59) (by decide +kernel), List.mem_of_getElem? (i := 493) (by decide +kernel), List.mem_of_getElem? (i := 494) (by decide +kernel)⟩
theorem lw_p40 : lw_okq (⟨"SweptFloors$History", "bringBack", "(LSweptFloors$Situation;)Z"⟩, 3) := ⟨⟨by decide +kernel, by decide +kernel⟩, List.mem_of_getElem? (i := 190) (by decide +kernel), List.mem_of_getElem? (i := 510) (by decide +kernel), List.mem_of_getElem? (i := 511) (by decide +kernel)⟩
theorem lw_p41 : lw_okq (⟨"SweptFloors$Situation", "knowledgeOf", "(I)I"⟩, 11) := ⟨⟨by decide +kernel, by decide +kernel⟩, List.mem_of_getElem? (i := 110) (by decide +kernel), List.mem_of_getElem? (i := 522) (by decide +kernel), List.mem_of_getElem? (i := 523) (by decide +kernel)⟩
theorem lw_p42 : lw_okq (⟨"SweptFloors$Situation", "placeAt", "(I)I"⟩, 11) := ⟨⟨by decide +kernel, by decide +kernel⟩, List.mem_of_getElem? (i := 110) (by decide +kernel), List.mem_of_getElem? (i := 541) (by decide +kernel), List.mem_of_getElem? (i := 542) (by decide +kernel)⟩
theorem lw_p43 : lw_okq (⟨"SweptFloors", "laneLength", "(IJ)I"⟩, 7) := ⟨⟨by decide +kernel, by decide +kernel⟩, List.mem_of_getElem? (i := 13) (by decide +kernel), List.mem_of_getElem? (i := 555) (by decide +kernel), List.mem_of_getElem? (i := 556) (by decide +kernel)⟩
theorem lw_p44 : lw_okq (⟨"SweptFloors$Ground", "mostSteps", "(IJ)I"⟩, 10) := ⟨⟨by decide +kernel, by decide +kernel⟩, List.mem_of_getElem? (i := 59) (by decide +kernel), List.mem_of_getElem? (i := 568) (by decide +kernel), List.mem_of_getElem? (i := 569) (by decide +kernel)⟩
theorem lw_p45 : lw_okq (⟨"SweptFloors$Pilot", "isThrough", "(LSweptFloors$Situation;)Z"⟩, 4) := ⟨⟨by decide +kernel, by decide +kernel⟩, List.mem_of_getElem? (i := 167) (by decide +kernel), List.mem_of_getElem? (i := 577) (by decide +kernel), List.mem_of_getElem? (i := 578) (by decide +kernel)⟩
theorem lw_p46 : lw_okq (⟨"SweptFloors$Album", "putIn", "(ILSweptFloors$Situation;)V"⟩, 2) := ⟨⟨by decide +kernel, by decide +kernel⟩, List.mem_of_getElem? (i := 210) (by decide +kernel), List.mem_of_getElem? (i := 585) (by decide +kernel), List.mem_of_getElem? (i := 586) (by decide +kernel)⟩
theorem lw_p47 : lw_okq (⟨"SweptFloors$Album", "takeOut", "(ILSweptFloors$Situation;)Z"⟩, 2) := ⟨⟨by decide +kernel, by decide +kernel⟩, List.mem_of_getElem? (i := 210) (by decide +kernel), List.mem_of_getElem? (i := 594) (by decide +kernel), List.mem_of_getElem? (i := 595) (by decide +kernel)⟩
def lw_privs_3 : List (MethodName × Nat) := [(⟨"SweptFloors$Situation", "carryTo", "(II)I"⟩, 11), (⟨"SweptFloors$Pilot", "act", "(LSweptFloors$Situation;)I"⟩, 4), (⟨"SweptFloors$Pilot", "nextHand", "(LSweptFloors$Situation;)I"⟩, 4), (⟨"SweptFloors$Pilot", "findsTarget", "(LSweptFloors$Situation;)Z"⟩, 4), (⟨"SweptFloors$Ground", "within", "(IIJ)J"⟩, 10), (⟨"SweptFloors$Ground", "around", "(J)J"⟩, 10), (⟨"SweptFloors$Situation", "homeOf", "(I)I"⟩, 11), (⟨"SweptFloors$Ground", "stepsBetween", "(IIJ)I"⟩, 10), (⟨"SweptFloors$History", "bringBack", "(LSweptFloors$Situation;)Z"⟩, 3), (⟨"SweptFloors$Situation", "knowledgeOf", "(I)I"⟩, 11), (⟨"SweptFloors$Situation", "placeAt", "(I)I"⟩, 11), (⟨"SweptFloors", "laneLength", "(IJ)I"⟩, 7), (⟨"SweptFloors$Ground", "mostSteps", "(IJ)I"⟩, 10), (⟨"SweptFloors$Pilot", "isThrough", "(LSweptFloors$Situation;)Z"⟩, 4), (⟨"SweptFloors$Album", "putIn", "(ILSweptFloors$Situation;)V"⟩, 2), (⟨"SweptFloors$Album", "takeOut", "(ILSweptFloors$Situation;)Z"⟩, 2)]
theorem lw_r3 : ∀ q ∈ lw_privs_3, lw_okq q := List.forall_mem_cons.mpr ⟨lw_p32, List.forall_mem_cons.mpr ⟨lw_p33, List.forall_mem_cons.mpr ⟨lw_p34, List.forall_mem_cons.mpr ⟨lw_p35, List.forall_mem_cons.mpr ⟨lw_p36, List.forall_mem_cons.mpr ⟨lw_p37, List.forall_mem_cons.mpr ⟨lw_p38, List.forall_mem_cons.mpr ⟨lw_p39, List.forall_mem_cons.mpr ⟨lw_p40, List.forall_mem_cons.mpr ⟨lw_p41, List.forall_mem_cons.mpr ⟨lw_p42, List.forall_mem_cons.mpr ⟨lw_p43, List.forall_mem_cons.mpr ⟨lw_p44, List.forall_mem_cons.mpr ⟨lw_p45, List.forall_mem_cons.mpr ⟨lw_p46, List.forall_mem_cons.mpr ⟨lw_p47, fun _ h => absurd h List.not_mem_nil⟩⟩⟩⟩⟩⟩⟩⟩⟩⟩⟩⟩⟩⟩⟩⟩
theorem lw_p48 : lw_okq (⟨"SweptFloorsModel", "begins", "()V"⟩, 25) := ⟨⟨by decide +kernel, by decide +kernel⟩, List.mem_of_getElem? (i := 602) (by decide +kernel), List.mem_of_getElem? (i := 608) (by decide +kernel), List.mem_of_getElem? (i := 609) (by decide +kernel)⟩
theorem lw_p49 : lw_okq (⟨"SweptFloorsModel", "cells", "()I"⟩, 25) := ⟨⟨by decide +kernel, by decide +kernel⟩, List.mem_of_getElem? (i := 602) (by decide +kernel), List.mem_of_getElem? (i := 612) (by decide +kernel), List.mem_of_getElem? (i := 613) (by decide +kernel)⟩
theorem lw_p50 : lw_okq (⟨"SweptFloorsModel", "takes", "(I)Z"⟩, 25) := ⟨⟨by decide +kernel, by decide +kernel⟩, List.mem_of_getElem? (i := 602) (by decide +kernel), List.mem_of_getElem? (i := 707) (by decide +kernel), List.mem_of_getElem? (i := 708) (by decide +kernel)⟩
theorem lw_p51 : lw_okq (⟨"SweptFloorsModel", "isCell", "(I)Z"⟩, 25) := ⟨⟨by decide +kernel, by decide +kernel⟩, List.mem_of_getElem? (i := 602) (by decide +kernel), List.mem_of_getElem? (i := 718) (by decide +kernel), List.mem_of_getElem? (i := 719) (by decide +kernel)⟩
theorem lw_p52 : lw_okq (⟨"SweptFloorsModel", "remembers", "()V"⟩, 25) := ⟨⟨by decide +kernel, by decide +kernel⟩, List.mem_of_getElem? (i := 602) (by decide +kernel), List.mem_of_getElem? (i := 726) (by decide +kernel), List.mem_of_getElem? (i := 727) (by decide +kernel)⟩
theorem lw_p53 : lw_okq (⟨"SweptFloorsModel", "isDoor", "(I)Z"⟩, 25) := ⟨⟨by decide +kernel, by decide +kernel⟩, List.mem_of_getElem? (i := 602) (by decide +kernel), List.mem_of_getElem? (i := 734) (by decide +kernel), List.mem_of_getElem? (i := 735) (by decide +kernel)⟩
theorem lw_p54 : lw_okq (⟨"SweptFloorsModel", "stepTo", "(I)I"⟩, 25) := ⟨⟨by decide +kernel, by decide +kernel⟩, List.mem_of_getElem? (i := 602) (by decide +kernel), List.mem_of_getElem? (i := 742) (by decide +kernel), List.mem_of_getElem? (i := 743) (by decide +kernel)⟩
theorem lw_p55 : lw_okq (⟨"SweptFloorsModel", "beside", "(II)I"⟩, 25) := ⟨⟨by decide +kernel, by decide +kernel⟩, List.mem_of_getElem? (i := 602) (by decide +kernel), List.mem_of_getElem? (i := 746) (by decide +kernel), List.mem_of_getElem? (i := 747) (by decide +kernel)⟩
theorem lw_p56 : lw_okq (⟨"SweptFloorsModel", "toldOf", "(I)I"⟩, 25) := ⟨⟨by decide +kernel, by decide +kernel⟩, List.mem_of_getElem? (i := 602) (by decide +kernel), List.mem_of_getElem? (i := 750) (by decide +kernel), List.mem_of_getElem? (i := 751) (by decide +kernel)⟩
theorem lw_p57 : lw_okq (⟨"SweptFloorsModel", "isFree", "(I)Z"⟩, 25) := ⟨⟨by decide +kernel, by decide +kernel⟩, List.mem_of_getElem? (i := 602) (by decide +kernel), List.mem_of_getElem? (i := 754) (by decide +kernel), List.mem_of_getElem? (i := 755) (by decide +kernel)⟩
theorem lw_p58 : lw_okq (⟨"SweptFloorsModel", "stepsPlaces", "(I)V"⟩, 25) := ⟨⟨by decide +kernel, by decide +kernel⟩, List.mem_of_getElem? (i := 602) (by decide +kernel), List.mem_of_getElem? (i := 758) (by decide +kernel), List.mem_of_getElem? (i := 759) (by decide +kernel)⟩
theorem lw_p59 : lw_okq (⟨"SweptFloorsModel", "canBe", "(II)Z"⟩, 25) := ⟨⟨by decide +kernel, by decide +kernel⟩, List.mem_of_getElem? (i := 602) (by decide +kernel), List.mem_of_getElem? (i := 762) (by decide +kernel), List.mem_of_getElem? (i := 763) (by decide +kernel)⟩
theorem lw_p60 : lw_okq (⟨"SweptFloorsModel", "becomePlaces", "()V"⟩, 25) := ⟨⟨by decide +kernel, by decide +kernel⟩, List.mem_of_getElem? (i := 602) (by decide +kernel), List.mem_of_getElem? (i := 766) (by decide +kernel), List.mem_of_getElem? (i := 767) (by decide +kernel)⟩
theorem lw_p61 : lw_okq (⟨"SweptFloorsModel", "findsMaybe", "()V"⟩, 25) := ⟨⟨by decide +kernel, by decide +kernel⟩, List.mem_of_getElem? (i := 602) (by decide +kernel), List.mem_of_getElem? (i := 770) (by decide +kernel), List.mem_of_getElem? (i := 771) (by decide +kernel)⟩
theorem lw_p62 : lw_okq (⟨"SweptFloorsModel", "manyPlaces", "()I"⟩, 25) := ⟨⟨by decide +kernel, by decide +kernel⟩, List.mem_of_getElem? (i := 602) (by decide +kernel), List.mem_of_getElem? (i := 774) (by decide +kernel), List.mem_of_getElem? (i := 775) (by decide +kernel)⟩
theorem lw_p63 : lw_okq (⟨"SweptFloorsModel", "canScan", "(III)Z"⟩, 25) := ⟨⟨by decide +kernel, by decide +kernel⟩, List.mem_of_getElem? (i := 602) (by decide +kernel), List.mem_of_getElem? (i := 786) (by decide +kernel), List.mem_of_getElem? (i := 787) (by decide +kernel)⟩
def lw_privs_4 : List (MethodName × Nat) := [(⟨"SweptFloorsModel", "begins", "()V"⟩, 25), (⟨"SweptFloorsModel", "cells", "()I"⟩, 25), (⟨"SweptFloorsModel", "takes", "(I)Z"⟩, 25), (⟨"SweptFloorsModel", "isCell", "(I)Z"⟩, 25), (⟨"SweptFloorsModel", "remembers", "()V"⟩, 25), (⟨"SweptFloorsModel", "isDoor", "(I)Z"⟩, 25), (⟨"SweptFloorsModel", "stepTo", "(I)I"⟩, 25), (⟨"SweptFloorsModel", "beside", "(II)I"⟩, 25), (⟨"SweptFloorsModel", "toldOf", "(I)I"⟩, 25), (⟨"SweptFloorsModel", "isFree", "(I)Z"⟩, 25), (⟨"SweptFloorsModel", "stepsPlaces", "(I)V"⟩, 25), (⟨"SweptFloorsModel", "canBe", "(II)Z"⟩, 25), (⟨"SweptFloorsModel", "becomePlaces", "()V"⟩, 25), (⟨"SweptFloorsModel", "findsMaybe", "()V"⟩, 25), (⟨"SweptFloorsModel", "manyPlaces", "()I"⟩, 25), (⟨"SweptFloorsModel", "canScan", "(III)Z"⟩, 25)]
theorem lw_r4 : ∀ q ∈ lw_privs_4, lw_okq q := List.forall_mem_cons.mpr ⟨lw_p48, List.forall_mem_cons.mpr ⟨lw_p49, List.forall_mem_cons.mpr ⟨lw_p50, List.forall_mem_cons.mpr ⟨lw_p51, List.forall_mem_cons.mpr ⟨lw_p52, List.forall_mem_cons.mpr ⟨lw_p53, List.forall_mem_cons.mpr ⟨lw_p54, List.forall_mem_cons.mpr ⟨lw_p55, List.forall_mem_cons.mpr ⟨lw_p56, List.forall_mem_cons.mpr ⟨lw_p57, List.forall_mem_cons.mpr ⟨lw_p58, List.forall_mem_cons.mpr ⟨lw_p59, List.forall_mem_cons.mpr ⟨lw_p60, List.forall_mem_cons.mpr ⟨lw_p61, List.forall_mem_cons.mpr ⟨lw_p62, List.forall_mem_cons.mpr ⟨lw_p63, fun _ h => absurd h List.not_mem_nil⟩⟩⟩⟩⟩⟩⟩⟩⟩⟩⟩⟩⟩⟩⟩⟩
theorem lw_p64 : lw_okq (⟨"SweptFloorsModel", "acts", "()Z"⟩, 25) := ⟨⟨by decide +kernel, by decide +kernel⟩, List.mem_of_getElem? (i := 602) (by decide +kernel), List.mem_of_getElem? (i := 801) (by decide +kernel), List.mem_of_getElem? (i := 802) (by decide +kernel)⟩
theorem lw_p65 : lw_okq (⟨"SweptFloorsModel", "laysTarget", "()V"⟩, 25) := ⟨⟨by decide +kernel, by decide +kernel⟩, List.mem_of_getElem? (i := 602) (by decide +kernel), List.mem_of_getElem? (i := 805) (by decide +kernel), List.mem_of_getElem? (i := 806) (by decide +kernel)⟩
theorem lw_p66 : lw_okq (⟨"SweptFloorsModel", "lays", "(IZ[I)V"⟩, 25) := ⟨⟨by decide +kernel, by decide +kernel⟩, List.mem_of_getElem? (i := 602) (by decide +kernel), List.mem_of_getElem? (i := 809) (by decide +kernel), List.mem_of_getElem? (i := 810) (by decide +kernel)⟩
theorem lw_p67 : lw_okq (⟨"SweptFloorsModel", "looksFor", "(I)V"⟩, 25) := ⟨⟨by decide +kernel, by decide +kernel⟩, List.mem_of_getElem? (i := 602) (by decide +kernel), List.mem_of_getElem? (i := 813) (by decide +kernel), List.mem_of_getElem? (i := 814) (by decide +kernel)⟩
theorem lw_p68 : lw_okq (⟨"SweptFloorsModel", "handOn", "(I)I"⟩, 25) := ⟨⟨by decide +kernel, by decide +kernel⟩, List.mem_of_getElem? (i := 602) (by decide +kernel), List.mem_of_getElem? (i := 817) (by decide +kernel), List.mem_of_getElem? (i := 818) (by decide +kernel)⟩
theorem lw_p69 : lw_okq (⟨"SweptFloorsModel", "handTo", "([II)I"⟩, 25) := ⟨⟨by decide +kernel, by decide +kernel⟩, List.mem_of_getElem? (i := 602) (by decide +kernel), List.mem_of_getElem? (i := 821) (by decide +kernel), List.mem_of_getElem? (i := 822) (by decide +kernel)⟩
theorem lw_p70 : lw_okq (⟨"SweptFloorsModel", "manyKnown", "(I)I"⟩, 25) := ⟨⟨by decide +kernel, by decide +kernel⟩, List.mem_of_getElem? (i := 602) (by decide +kernel), List.mem_of_getElem? (i := 833) (by decide +kernel), List.mem_of_getElem? (i := 834) (by decide +kernel)⟩
theorem lw_p71 : lw_okq (⟨"SweptFloorsModel", "isFirst", "(I)Z"⟩, 25) := ⟨⟨by decide +kernel, by decide +kernel⟩, List.mem_of_getElem? (i := 602) (by decide +kernel), List.mem_of_getElem? (i := 857) (by decide +kernel), List.mem_of_getElem? (i := 858) (by decide +kernel)⟩
theorem lw_p72 : lw_okq (⟨"SweptFloorsModel", "longOf", "(I)I"⟩, 25) := ⟨⟨by decide +kernel, by decide +kernel⟩, List.mem_of_getElem? (i := 602) (by decide +kernel), List.mem_of_getElem? (i := 861) (by decide +kernel), List.mem_of_getElem? (i := 862) (by decide +kernel)⟩
theorem lw_p73 : lw_okq (⟨"SweptFloorsModel", "laysRooms", "()I"⟩, 25) := ⟨⟨by decide +kernel, by decide +kernel⟩, List.mem_of_getElem? (i := 602) (by decide +kernel), List.mem_of_getElem? (i := 869) (by decide +kernel), List.mem_of_getElem? (i := 870) (by decide +kernel)⟩
theorem lw_p74 : lw_okq (⟨"SweptFloorsModel", "isOfRoom", "(I)Z"⟩, 25) := ⟨⟨by decide +kernel, by decide +kernel⟩, List.mem_of_getElem? (i := 602) (by decide +kernel), List.mem_of_getElem? (i := 873) (by decide +kernel), List.mem_of_getElem? (i := 874) (by decide +kernel)⟩
theorem lw_p75 : lw_okq (⟨"SweptFloorsModel", "isAllDone", "()Z"⟩, 25) := ⟨⟨by decide +kernel, by decide +kernel⟩, List.mem_of_getElem? (i := 602) (by decide +kernel), List.mem_of_getElem? (i := 885) (by decide +kernel), List.mem_of_getElem? (i := 886) (by decide +kernel)⟩
def lw_privs_5 : List (MethodName × Nat) := [(⟨"SweptFloorsModel", "acts", "()Z"⟩, 25), (⟨"SweptFloorsModel", "laysTarget", "()V"⟩, 25), (⟨"SweptFloorsModel", "lays", "(IZ[I)V"⟩, 25), (⟨"SweptFloorsModel", "looksFor", "(I)V"⟩, 25), (⟨"SweptFloorsModel", "handOn", "(I)I"⟩, 25), (⟨"SweptFloorsModel", "handTo", "([II)I"⟩, 25), (⟨"SweptFloorsModel", "manyKnown", "(I)I"⟩, 25), (⟨"SweptFloorsModel", "isFirst", "(I)Z"⟩, 25), (⟨"SweptFloorsModel", "longOf", "(I)I"⟩, 25), (⟨"SweptFloorsModel", "laysRooms", "()I"⟩, 25), (⟨"SweptFloorsModel", "isOfRoom", "(I)Z"⟩, 25), (⟨"SweptFloorsModel", "isAllDone", "()Z"⟩, 25)]
theorem lw_r5 : ∀ q ∈ lw_privs_5, lw_okq q := List.forall_mem_cons.mpr ⟨lw_p64, List.forall_mem_cons.mpr ⟨lw_p65, List.forall_mem_cons.mpr ⟨lw_p66, List.forall_mem_cons.mpr ⟨lw_p67, List.forall_mem_cons.mpr ⟨lw_p68, List.forall_mem_cons.mpr ⟨lw_p69, List.forall_mem_cons.mpr ⟨lw_p70, List.forall_mem_cons.mpr ⟨lw_p71, List.forall_mem_cons.mpr ⟨lw_p72, List.forall_mem_cons.mpr ⟨lw_p73, List.forall_mem_cons.mpr ⟨lw_p74, List.forall_mem_cons.mpr ⟨lw_p75, fun _ h => absurd h List.not_mem_nil⟩⟩⟩⟩⟩⟩⟩⟩⟩⟩⟩⟩
def lw_privs : List (MethodName × Nat) := lw_privs_1 ++ (lw_privs_2 ++ (lw_privs_3 ++ (lw_privs_4 ++ (lw_privs_5))))
def lw_tbl : List Cond := k2_sels lw_privs ++ tables_1
theorem lw_privs_ok : ∀ q ∈ lw_privs, lw_okq q := by
  show ∀ q ∈ lw_privs_1 ++ (lw_privs_2 ++ (lw_privs_3 ++ (lw_privs_4 ++ (lw_privs_5)))), lw_okq q
  exact List.forall_mem_append.mpr ⟨lw_r1, List.forall_mem_append.mpr ⟨lw_r2, List.forall_mem_append.mpr ⟨lw_r3, List.forall_mem_append.mpr ⟨lw_r4, lw_r5⟩⟩⟩⟩
/-- the words that keep through calls -/
def zgw : List Cond := lw_tbl.filter goodWord
def z_isNest : Cond → Bool
  | .fieldLinkNest .. => true
  | .methodLinkNest .. => true
  | _ => false
def znest : List Cond := lw_tbl.filter z_isNest
theorem zgw_p {w : Cond} (i : Nat) (h : tables_1[i]? = some w) (hg : goodWord w = true) : w ∈ zgw := List.mem_filter.mpr ⟨List.mem_append_right _ (List.mem_of_getElem? h), hg⟩
theorem zgw_s {y : MethodName} {n : Nat} (i : Nat) (h : lw_privs[i]? = some (y, n)) (hg : goodWord (.selects y.cls y y) = true) : Cond.selects y.cls y y ∈ zgw := List.mem_filter.mpr ⟨List.mem_append_left _ (List.mem_map.mpr ⟨(y, n), List.mem_of_getElem? h, rfl⟩), hg⟩
theorem znest_p {w : Cond} (i : Nat) (h : tables_1[i]? = some w) (hg : z_isNest w = true) : w ∈ znest := List.mem_filter.mpr ⟨List.mem_append_right _ (List.mem_of_getElem? h), hg⟩
def zR_F : String := "SweptFloors"
def zT_F : u_T := fun k => match k with
  | 0 => ("SweptFloors", "text", "LSweptFloors$Text;", true)
  | 1 => ("SweptFloors", "ground", "LSweptFloors$Ground;", true)
  | 2 => ("SweptFloors", "now", "LSweptFloors$Situation;", true)
  | 3 => ("SweptFloors", "foreseen", "LSweptFloors$Situation;", true)
  | 4 => ("SweptFloors", "pilot", "LSweptFloors$Pilot;", true)
  | 5 => ("SweptFloors", "history", "LSweptFloors$History;", true)
  | _ => ("SweptFloors", "album", "LSweptFloors$Album;", true)
def zY_F : Nat → FieldType := fun k => match k with
  | 0 => .object "SweptFloors$Text"
  | 1 => .object "SweptFloors$Ground"
  | 2 => .object "SweptFloors$Situation"
  | 3 => .object "SweptFloors$Situation"
  | 4 => .object "SweptFloors$Pilot"
  | 5 => .object "SweptFloors$History"
  | _ => .object "SweptFloors$Album"
theorem zn_F : ∀ a, a < 7 → ∀ b, b < 7 → a ≠ b → (zT_F a).2.1 ≠ (zT_F b).2.1 := by decide +kernel
theorem zy_F : ∀ k, k < 7 → parseFieldDescriptor (zT_F k).2.2.1 = some (zY_F k) := by decide +kernel
theorem zi_F : ∀ w ∈ u_ws zR_F zT_F 7, w ∈ zgw := by
  intro w hw
  obtain ⟨k, hk, rfl⟩ := List.mem_map.mp hw
  have hk := List.mem_range.mp hk
  have hall : ∀ k, k < 7 → tables_1[([282, 284, 286, 288, 290, 292, 294] : List Nat).getD k 0]? = some (u_lay zR_F zT_F k) ∧ goodWord (u_lay zR_F zT_F k) = true := by decide +kernel
  exact zgw_p _ (hall k hk).1 (hall k hk).2
def zR_T : String := "SweptFloors$Text"
def zT_T : u_T := fun k => match k with
  | 0 => ("SweptFloors$Text", "letters", "[I", true)
  | 1 => ("SweptFloors$Text", "length", "I", false)
  | 2 => ("SweptFloors$Text", "kinds", "[I", true)
  | 3 => ("SweptFloors$Text", "cells", "I", false)
  | 4 => ("SweptFloors$Text", "width", "I", false)
  | 5 => ("SweptFloors$Text", "height", "I", false)
  | 6 => ("SweptFloors$Text", "signsInRow", "I", false)
  | _ => ("SweptFloors$Text", "dock", "I", false)
def zY_T : Nat → FieldType := fun k => match k with
  | 0 => .array (.int)
  | 1 => .int
  | 2 => .array (.int)
  | 3 => .int
  | 4 => .int
  | 5 => .int
  | 6 => .int
  | _ => .int
theorem zn_T : ∀ a, a < 8 → ∀ b, b < 8 → a ≠ b → (zT_T a).2.1 ≠ (zT_T b).2.1 := by decide +kernel
theorem zy_T : ∀ k, k < 8 → parseFieldDescriptor (zT_T k).2.2.1 = some (zY_T k) := by decide +kernel
theorem zi_T : ∀ w ∈ u_ws zR_T zT_T 8, w ∈ zgw := by
  intro w hw
  obtain ⟨k, hk, rfl⟩ := List.mem_map.mp hw
  have hk := List.mem_range.mp hk
  have hall : ∀ k, k < 8 → tables_1[([40, 42, 44, 46, 48, 50, 52, 54] : List Nat).getD k 0]? = some (u_lay zR_T zT_T k) ∧ goodWord (u_lay zR_T zT_T k) = true := by decide +kernel
  exact zgw_p _ (hall k hk).1 (hall k hk).2
def zR_G : String := "SweptFloors$Ground"
def zT_G : u_T := fun k => match k with
  | 0 => ("SweptFloors$Ground", "width", "I", false)
  | 1 => ("SweptFloors$Ground", "height", "I", false)
  | 2 => ("SweptFloors$Ground", "dock", "I", false)
  | 3 => ("SweptFloors$Ground", "all", "J", false)
  | 4 => ("SweptFloors$Ground", "plain", "J", false)
  | 5 => ("SweptFloors$Ground", "cliffs", "J", false)
  | 6 => ("SweptFloors$Ground", "barred", "J", false)
  | 7 => ("SweptFloors$Ground", "doors", "J", false)
  | 8 => ("SweptFloors$Ground", "leftmost", "J", false)
  | _ => ("SweptFloors$Ground", "rightmost", "J", false)
def zY_G : Nat → FieldType := fun k => match k with
  | 0 => .int
  | 1 => .int
  | 2 => .int
  | 3 => .long
  | 4 => .long
  | 5 => .long
  | 6 => .long
  | 7 => .long
  | 8 => .long
  | _ => .long
theorem zn_G : ∀ a, a < 10 → ∀ b, b < 10 → a ≠ b → (zT_G a).2.1 ≠ (zT_G b).2.1 := by decide +kernel
theorem zy_G : ∀ k, k < 10 → parseFieldDescriptor (zT_G k).2.2.1 = some (zY_G k) := by decide +kernel
theorem zi_G : ∀ w ∈ u_ws zR_G zT_G 10, w ∈ zgw := by
  intro w hw
  obtain ⟨k, hk, rfl⟩ := List.mem_map.mp hw
  have hk := List.mem_range.mp hk
  have hall : ∀ k, k < 10 → tables_1[([88, 90, 92, 94, 96, 98, 100, 102, 104, 106] : List Nat).getD k 0]? = some (u_lay zR_G zT_G k) ∧ goodWord (u_lay zR_G zT_G k) = true := by decide +kernel
  exact zgw_p _ (hall k hk).1 (hall k hk).2
def zR_S : String := "SweptFloors$Situation"
def zT_S : u_T := fun k => match k with
  | 0 => ("SweptFloors$Situation", "ground", "LSweptFloors$Ground;", true)
  | 1 => ("SweptFloors$Situation", "shut", "J", false)
  | 2 => ("SweptFloors$Situation", "brim", "I", false)
  | 3 => ("SweptFloors$Situation", "rate", "I", false)
  | 4 => ("SweptFloors$Situation", "cell", "I", false)
  | 5 => ("SweptFloors$Situation", "heading", "I", false)
  | 6 => ("SweptFloors$Situation", "charge", "I", false)
  | 7 => ("SweptFloors$Situation", "knownFree", "J", false)
  | 8 => ("SweptFloors$Situation", "knownNotFree", "J", false)
  | 9 => ("SweptFloors$Situation", "lost", "Z", false)
  | _ => ("SweptFloors$Situation", "places", "[J", true)
def zY_S : Nat → FieldType := fun k => match k with
  | 0 => .object "SweptFloors$Ground"
  | 1 => .long
  | 2 => .int
  | 3 => .int
  | 4 => .int
  | 5 => .int
  | 6 => .int
  | 7 => .long
  | 8 => .long
  | 9 => .boolean
  | _ => .array (.long)
theorem zn_S : ∀ a, a < 11 → ∀ b, b < 11 → a ≠ b → (zT_S a).2.1 ≠ (zT_S b).2.1 := by decide +kernel
theorem zy_S : ∀ k, k < 11 → parseFieldDescriptor (zT_S k).2.2.1 = some (zY_S k) := by decide +kernel
theorem zi_S : ∀ w ∈ u_ws zR_S zT_S 11, w ∈ zgw := by
  intro w hw
  obtain ⟨k, hk, rfl⟩ := List.mem_map.mp hw
  have hk := List.mem_range.mp hk
  have hall : ∀ k, k < 11 → tables_1[([142, 144, 146, 148, 150, 152, 154, 156, 158, 160, 162] : List Nat).getD k 0]? = some (u_lay zR_S zT_S k) ∧ goodWord (u_lay zR_S zT_S k) = true := by decide +kernel
  exact zgw_p _ (hall k hk).1 (hall k hk).2
def zR_P : String := "SweptFloors$Pilot"
def zT_P : u_T := fun k => match k with
  | 0 => ("SweptFloors$Pilot", "target", "I", false)
  | 1 => ("SweptFloors$Pilot", "gate", "I", false)
  | 2 => ("SweptFloors$Pilot", "way", "I", false)
  | _ => ("SweptFloors$Pilot", "wayBack", "I", false)
def zY_P : Nat → FieldType := fun k => match k with
  | 0 => .int
  | 1 => .int
  | 2 => .int
  | _ => .int
theorem zn_P : ∀ a, a < 4 → ∀ b, b < 4 → a ≠ b → (zT_P a).2.1 ≠ (zT_P b).2.1 := by decide +kernel
theorem zy_P : ∀ k, k < 4 → parseFieldDescriptor (zT_P k).2.2.1 = some (zY_P k) := by decide +kernel
theorem zi_P : ∀ w ∈ u_ws zR_P zT_P 4, w ∈ zgw := by
  intro w hw
  obtain ⟨k, hk, rfl⟩ := List.mem_map.mp hw
  have hk := List.mem_range.mp hk
  have hall : ∀ k, k < 4 → tables_1[([180, 182, 184, 186] : List Nat).getD k 0]? = some (u_lay zR_P zT_P k) ∧ goodWord (u_lay zR_P zT_P k) = true := by decide +kernel
  exact zgw_p _ (hall k hk).1 (hall k hk).2
def zR_H : String := "SweptFloors$History"
def zT_H : u_T := fun k => match k with
  | 0 => ("SweptFloors$History", "past", "[LSweptFloors$Situation;", true)
  | 1 => ("SweptFloors$History", "latest", "I", false)
  | _ => ("SweptFloors$History", "size", "I", false)
def zY_H : Nat → FieldType := fun k => match k with
  | 0 => .array (.object "SweptFloors$Situation")
  | 1 => .int
  | _ => .int
theorem zn_H : ∀ a, a < 3 → ∀ b, b < 3 → a ≠ b → (zT_H a).2.1 ≠ (zT_H b).2.1 := by decide +kernel
theorem zy_H : ∀ k, k < 3 → parseFieldDescriptor (zT_H k).2.2.1 = some (zY_H k) := by decide +kernel
theorem zi_H : ∀ w ∈ u_ws zR_H zT_H 3, w ∈ zgw := by
  intro w hw
  obtain ⟨k, hk, rfl⟩ := List.mem_map.mp hw
  have hk := List.mem_range.mp hk
  have hall : ∀ k, k < 3 → tables_1[([202, 204, 206] : List Nat).getD k 0]? = some (u_lay zR_H zT_H k) ∧ goodWord (u_lay zR_H zT_H k) = true := by decide +kernel
  exact zgw_p _ (hall k hk).1 (hall k hk).2
def zR_A : String := "SweptFloors$Album"
def zT_A : u_T := fun k => match k with
  | 0 => ("SweptFloors$Album", "pictures", "[LSweptFloors$Situation;", true)
  | _ => ("SweptFloors$Album", "kept", "[Z", true)
def zY_A : Nat → FieldType := fun k => match k with
  | 0 => .array (.object "SweptFloors$Situation")
  | _ => .array (.boolean)
theorem zn_A : ∀ a, a < 2 → ∀ b, b < 2 → a ≠ b → (zT_A a).2.1 ≠ (zT_A b).2.1 := by decide +kernel
theorem zy_A : ∀ k, k < 2 → parseFieldDescriptor (zT_A k).2.2.1 = some (zY_A k) := by decide +kernel
theorem zi_A : ∀ w ∈ u_ws zR_A zT_A 2, w ∈ zgw := by
  intro w hw
  obtain ⟨k, hk, rfl⟩ := List.mem_map.mp hw
  have hk := List.mem_range.mp hk
  have hall : ∀ k, k < 2 → tables_1[([219, 221] : List Nat).getD k 0]? = some (u_lay zR_A zT_A k) ∧ goodWord (u_lay zR_A zT_A k) = true := by decide +kernel
  exact zgw_p _ (hall k hk).1 (hall k hk).2
def zR_M : String := "SweptFloorsModel"
def zT_M : u_T := fun k => match k with
  | 0 => ("SweptFloorsModel", "width", "I", false)
  | 1 => ("SweptFloorsModel", "height", "I", false)
  | 2 => ("SweptFloorsModel", "dock", "I", false)
  | 3 => ("SweptFloorsModel", "s", "[I", true)
  | 4 => ("SweptFloorsModel", "undos", "I", false)
  | 5 => ("SweptFloorsModel", "past", "[I", true)
  | 6 => ("SweptFloorsModel", "isKept", "[Z", true)
  | 7 => ("SweptFloorsModel", "kept", "[I", true)
  | 8 => ("SweptFloorsModel", "spare", "[I", true)
  | 9 => ("SweptFloorsModel", "letters", "I", false)
  | 10 => ("SweptFloorsModel", "text", "[I", true)
  | 11 => ("SweptFloorsModel", "read", "[I", true)
  | 12 => ("SweptFloorsModel", "rows", "I", false)
  | 13 => ("SweptFloorsModel", "wide", "I", false)
  | 14 => ("SweptFloorsModel", "signs", "I", false)
  | 15 => ("SweptFloorsModel", "newDock", "I", false)
  | 16 => ("SweptFloorsModel", "newPlaces", "[I", true)
  | 17 => ("SweptFloorsModel", "far", "[I", true)
  | 18 => ("SweptFloorsModel", "home", "[I", true)
  | 19 => ("SweptFloorsModel", "toGate", "[I", true)
  | 20 => ("SweptFloorsModel", "target", "I", false)
  | 21 => ("SweptFloorsModel", "gate", "I", false)
  | 22 => ("SweptFloorsModel", "wayTo", "I", false)
  | 23 => ("SweptFloorsModel", "wayBack", "I", false)
  | _ => ("SweptFloorsModel", "rooms", "[I", true)
def zY_M : Nat → FieldType := fun k => match k with
  | 0 => .int
  | 1 => .int
  | 2 => .int
  | 3 => .array (.int)
  | 4 => .int
  | 5 => .array (.int)
  | 6 => .array (.boolean)
  | 7 => .array (.int)
  | 8 => .array (.int)
  | 9 => .int
  | 10 => .array (.int)
  | 11 => .array (.int)
  | 12 => .int
  | 13 => .int
  | 14 => .int
  | 15 => .int
  | 16 => .array (.int)
  | 17 => .array (.int)
  | 18 => .array (.int)
  | 19 => .array (.int)
  | 20 => .int
  | 21 => .int
  | 22 => .int
  | 23 => .int
  | _ => .array (.int)
theorem zn_M : ∀ a, a < 25 → ∀ b, b < 25 → a ≠ b → (zT_M a).2.1 ≠ (zT_M b).2.1 := by decide +kernel
theorem zy_M : ∀ k, k < 25 → parseFieldDescriptor (zT_M k).2.2.1 = some (zY_M k) := by decide +kernel
theorem zi_M : ∀ w ∈ u_ws zR_M zT_M 25, w ∈ zgw := by
  intro w hw
  obtain ⟨k, hk, rfl⟩ := List.mem_map.mp hw
  have hk := List.mem_range.mp hk
  have hall : ∀ k, k < 25 → tables_1[([640, 642, 644, 646, 648, 650, 652, 654, 656, 658, 660, 662, 664, 666, 668, 670, 672, 674, 676, 678, 680, 682, 684, 686, 688] : List Nat).getD k 0]? = some (u_lay zR_M zT_M k) ∧ goodWord (u_lay zR_M zT_M k) = true := by decide +kernel
  exact zgw_p _ (hall k hk).1 (hall k hk).2
/-- the classes whose objects the heap holds -/
def zcl : List vw_C := [(zR_F, zT_F, 7), (zR_T, zT_T, 8), (zR_G, zT_G, 10), (zR_S, zT_S, 11), (zR_P, zT_P, 4), (zR_H, zT_H, 3), (zR_A, zT_A, 2), (zR_M, zT_M, 25)]
