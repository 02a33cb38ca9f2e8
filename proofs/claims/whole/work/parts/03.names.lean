theorem zmd_mk {M : zM} {n : Nat} (i1 i2 : Nat) (h : (tables_1[i1]? = some (.code M.1 M.2.1 M.2.2.1 M.2.2.2) ∧ goodWord (.code M.1 M.2.1 M.2.2.1 M.2.2.2) = true) ∧ (tables_1[i2]? = some (.initialized M.1.cls) ∧ goodWord (.initialized M.1.cls) = true) ∧ (M.1.cls ≠ "java/lang/invoke/MethodHandle" ∧ M.1.cls ≠ "java/lang/invoke/VarHandle" ∧ (parseMethodDescriptor M.1.desc).map (fun d => d.parameters.length) = some n) ∧ M.2.2.1 ≤ 19) : zmd M n :=
  ⟨zgw_p i1 h.1.1 h.1.2, zgw_p i2 h.2.1.1 h.2.1.2, h.2.2.1, h.2.2.2⟩
def mA_init : zM := (⟨"SweptFloors$Album", "<init>", "(LSweptFloors$Ground;)V"⟩, prog_2_method_1_code, 3, none)
theorem zm_A_init : zmI mA_init 1 := ⟨zmd_mk 213 7 (by decide +kernel), zgw_p 212 (by decide +kernel) (by decide +kernel), rfl, rfl⟩
def mA_empty : zM := (⟨"SweptFloors$Album", "empty", "()V"⟩, prog_2_method_2_code, 2, none)
theorem zm_A_empty : zmV mA_empty 0 := ⟨zmd_mk 274 7 (by decide +kernel), zgw_p 273 (by decide +kernel) (by decide +kernel), zgw_s (y := ⟨"SweptFloors$Album", "empty", "()V"⟩) (n := 2) 9 (by decide +kernel) (by decide +kernel)⟩
def mA_putIn : zM := (⟨"SweptFloors$Album", "putIn", "(ILSweptFloors$Situation;)V"⟩, prog_2_method_3_code, 4, none)
theorem zm_A_putIn : zmV mA_putIn 2 := ⟨zmd_mk 587 7 (by decide +kernel), zgw_p 586 (by decide +kernel) (by decide +kernel), zgw_s (y := ⟨"SweptFloors$Album", "putIn", "(ILSweptFloors$Situation;)V"⟩) (n := 2) 46 (by decide +kernel) (by decide +kernel)⟩
def mA_takeOut : zM := (⟨"SweptFloors$Album", "takeOut", "(ILSweptFloors$Situation;)Z"⟩, prog_2_method_4_code, 4, some .boolean)
theorem zm_A_takeOut : zmV mA_takeOut 2 := ⟨zmd_mk 596 7 (by decide +kernel), zgw_p 595 (by decide +kernel) (by decide +kernel), zgw_s (y := ⟨"SweptFloors$Album", "takeOut", "(ILSweptFloors$Situation;)Z"⟩) (n := 2) 47 (by decide +kernel) (by decide +kernel)⟩
def mG_init : zM := (⟨"SweptFloors$Ground", "<init>", "()V"⟩, prog_3_method_1_code, 1, none)
theorem zm_G_init : zmI mG_init 0 := ⟨zmd_mk 62 3 (by decide +kernel), zgw_p 61 (by decide +kernel) (by decide +kernel), rfl, rfl⟩
def mG_layOut : zM := (⟨"SweptFloors$Ground", "layOut", "(LSweptFloors$Text;)V"⟩, prog_3_method_2_code, 3, none)
theorem zm_G_layOut : zmV mG_layOut 1 := ⟨zmd_mk 255 3 (by decide +kernel), zgw_p 254 (by decide +kernel) (by decide +kernel), zgw_s (y := ⟨"SweptFloors$Ground", "layOut", "(LSweptFloors$Text;)V"⟩) (n := 10) 6 (by decide +kernel) (by decide +kernel)⟩
def mG_cellsOfKind : zM := (⟨"SweptFloors$Ground", "cellsOfKind", "(LSweptFloors$Text;I)J"⟩, prog_3_method_3_code, 5, some .long)
theorem zm_G_cellsOfKind : zmS mG_cellsOfKind 2 := ⟨zmd_mk 262 3 (by decide +kernel), zgw_p 261 (by decide +kernel) (by decide +kernel)⟩
def mG_size : zM := (⟨"SweptFloors$Ground", "size", "()I"⟩, prog_3_method_4_code, 1, some .int)
theorem zm_G_size : zmV mG_size 0 := ⟨zmd_mk 259 3 (by decide +kernel), zgw_p 258 (by decide +kernel) (by decide +kernel), zgw_s (y := ⟨"SweptFloors$Ground", "size", "()I"⟩) (n := 10) 7 (by decide +kernel) (by decide +kernel)⟩
def mG_has : zM := (⟨"SweptFloors$Ground", "has", "(I)Z"⟩, prog_3_method_5_code, 2, some .boolean)
theorem zm_G_has : zmV mG_has 1 := ⟨zmd_mk 317 3 (by decide +kernel), zgw_p 316 (by decide +kernel) (by decide +kernel), zgw_s (y := ⟨"SweptFloors$Ground", "has", "(I)Z"⟩) (n := 10) 10 (by decide +kernel) (by decide +kernel)⟩
def mG_beside : zM := (⟨"SweptFloors$Ground", "beside", "(JI)J"⟩, prog_3_method_6_code, 4, some .long)
theorem zm_G_beside : zmV mG_beside 2 := ⟨zmd_mk 369 3 (by decide +kernel), zgw_p 368 (by decide +kernel) (by decide +kernel), zgw_s (y := ⟨"SweptFloors$Ground", "beside", "(JI)J"⟩) (n := 10) 17 (by decide +kernel) (by decide +kernel)⟩
def mG_cellBeside : zM := (⟨"SweptFloors$Ground", "cellBeside", "(II)I"⟩, prog_3_method_7_code, 3, some .int)
theorem zm_G_cellBeside : zmV mG_cellBeside 2 := ⟨zmd_mk 365 3 (by decide +kernel), zgw_p 364 (by decide +kernel) (by decide +kernel), zgw_s (y := ⟨"SweptFloors$Ground", "cellBeside", "(II)I"⟩) (n := 10) 16 (by decide +kernel) (by decide +kernel)⟩
def mG_around : zM := (⟨"SweptFloors$Ground", "around", "(J)J"⟩, prog_3_method_8_code, 3, some .long)
theorem zm_G_around : zmV mG_around 1 := ⟨zmd_mk 485 3 (by decide +kernel), zgw_p 484 (by decide +kernel) (by decide +kernel), zgw_s (y := ⟨"SweptFloors$Ground", "around", "(J)J"⟩) (n := 10) 37 (by decide +kernel) (by decide +kernel)⟩
def mG_within : zM := (⟨"SweptFloors$Ground", "within", "(IIJ)J"⟩, prog_3_method_9_code, 10, some .long)
theorem zm_G_within : zmV mG_within 3 := ⟨zmd_mk 481 3 (by decide +kernel), zgw_p 480 (by decide +kernel) (by decide +kernel), zgw_s (y := ⟨"SweptFloors$Ground", "within", "(IIJ)J"⟩) (n := 10) 36 (by decide +kernel) (by decide +kernel)⟩
def mG_stepsBetween : zM := (⟨"SweptFloors$Ground", "stepsBetween", "(IIJ)I"⟩, prog_3_method_10_code, 12, some .int)
theorem zm_G_stepsBetween : zmV mG_stepsBetween 3 := ⟨zmd_mk 495 3 (by decide +kernel), zgw_p 494 (by decide +kernel) (by decide +kernel), zgw_s (y := ⟨"SweptFloors$Ground", "stepsBetween", "(IIJ)I"⟩) (n := 10) 39 (by decide +kernel) (by decide +kernel)⟩
def mG_mostSteps : zM := (⟨"SweptFloors$Ground", "mostSteps", "(IJ)I"⟩, prog_3_method_11_code, 9, some .int)
theorem zm_G_mostSteps : zmV mG_mostSteps 2 := ⟨zmd_mk 570 3 (by decide +kernel), zgw_p 569 (by decide +kernel) (by decide +kernel), zgw_s (y := ⟨"SweptFloors$Ground", "mostSteps", "(IJ)I"⟩) (n := 10) 44 (by decide +kernel) (by decide +kernel)⟩
def mH_init : zM := (⟨"SweptFloors$History", "<init>", "(LSweptFloors$Ground;)V"⟩, prog_4_method_1_code, 3, none)
theorem zm_H_init : zmI mH_init 1 := ⟨zmd_mk 193 6 (by decide +kernel), zgw_p 192 (by decide +kernel) (by decide +kernel), rfl, rfl⟩
def mH_slotOf : zM := (⟨"SweptFloors$History", "slotOf", "(I)LSweptFloors$Situation;"⟩, prog_4_method_2_code, 2, some (.object "SweptFloors$Situation"))
theorem zm_H_slotOf : zmV mH_slotOf 1 := ⟨zmd_mk 337 6 (by decide +kernel), zgw_p 336 (by decide +kernel) (by decide +kernel), zgw_s (y := ⟨"SweptFloors$History", "slotOf", "(I)LSweptFloors$Situation;"⟩) (n := 3) 13 (by decide +kernel) (by decide +kernel)⟩
def mH_remember : zM := (⟨"SweptFloors$History", "remember", "(LSweptFloors$Situation;)V"⟩, prog_4_method_3_code, 3, none)
theorem zm_H_remember : zmV mH_remember 1 := ⟨zmd_mk 333 6 (by decide +kernel), zgw_p 332 (by decide +kernel) (by decide +kernel), zgw_s (y := ⟨"SweptFloors$History", "remember", "(LSweptFloors$Situation;)V"⟩) (n := 3) 12 (by decide +kernel) (by decide +kernel)⟩
def mH_bringBack : zM := (⟨"SweptFloors$History", "bringBack", "(LSweptFloors$Situation;)Z"⟩, prog_4_method_4_code, 3, some .boolean)
theorem zm_H_bringBack : zmV mH_bringBack 1 := ⟨zmd_mk 512 6 (by decide +kernel), zgw_p 511 (by decide +kernel) (by decide +kernel), zgw_s (y := ⟨"SweptFloors$History", "bringBack", "(LSweptFloors$Situation;)Z"⟩) (n := 3) 40 (by decide +kernel) (by decide +kernel)⟩
def mP_init : zM := (⟨"SweptFloors$Pilot", "<init>", "()V"⟩, prog_5_method_1_code, 1, none)
theorem zm_P_init : zmI mP_init 0 := ⟨zmd_mk 170 5 (by decide +kernel), zgw_p 169 (by decide +kernel) (by decide +kernel), rfl, rfl⟩
def mP_act : zM := (⟨"SweptFloors$Pilot", "act", "(LSweptFloors$Situation;)I"⟩, prog_5_method_2_code, 3, some .int)
theorem zm_P_act : zmV mP_act 1 := ⟨zmd_mk 466 5 (by decide +kernel), zgw_p 465 (by decide +kernel) (by decide +kernel), zgw_s (y := ⟨"SweptFloors$Pilot", "act", "(LSweptFloors$Situation;)I"⟩) (n := 4) 33 (by decide +kernel) (by decide +kernel)⟩
def mP_isThrough : zM := (⟨"SweptFloors$Pilot", "isThrough", "(LSweptFloors$Situation;)Z"⟩, prog_5_method_3_code, 2, some .boolean)
theorem zm_P_isThrough : zmV mP_isThrough 1 := ⟨zmd_mk 579 5 (by decide +kernel), zgw_p 578 (by decide +kernel) (by decide +kernel), zgw_s (y := ⟨"SweptFloors$Pilot", "isThrough", "(LSweptFloors$Situation;)Z"⟩) (n := 4) 45 (by decide +kernel) (by decide +kernel)⟩
def mP_nextHand : zM := (⟨"SweptFloors$Pilot", "nextHand", "(LSweptFloors$Situation;)I"⟩, prog_5_method_4_code, 2, some .int)
theorem zm_P_nextHand : zmV mP_nextHand 1 := ⟨zmd_mk 471 5 (by decide +kernel), zgw_p 470 (by decide +kernel) (by decide +kernel), zgw_s (y := ⟨"SweptFloors$Pilot", "nextHand", "(LSweptFloors$Situation;)I"⟩) (n := 4) 34 (by decide +kernel) (by decide +kernel)⟩
def mP_handOnto : zM := (⟨"SweptFloors$Pilot", "handOnto", "(LSweptFloors$Situation;I)I"⟩, prog_5_method_5_code, 3, some .int)
theorem zm_P_handOnto : zmS mP_handOnto 2 := ⟨zmd_mk 498 5 (by decide +kernel), zgw_p 497 (by decide +kernel) (by decide +kernel)⟩
def mP_handNearer : zM := (⟨"SweptFloors$Pilot", "handNearer", "(LSweptFloors$Situation;I)I"⟩, prog_5_method_6_code, 5, some .int)
theorem zm_P_handNearer : zmS mP_handNearer 2 := ⟨zmd_mk 502 5 (by decide +kernel), zgw_p 501 (by decide +kernel) (by decide +kernel)⟩
def mP_findsTarget : zM := (⟨"SweptFloors$Pilot", "findsTarget", "(LSweptFloors$Situation;)Z"⟩, prog_5_method_7_code, 15, some .boolean)
theorem zm_P_findsTarget : zmV mP_findsTarget 1 := ⟨zmd_mk 475 5 (by decide +kernel), zgw_p 474 (by decide +kernel) (by decide +kernel), zgw_s (y := ⟨"SweptFloors$Pilot", "findsTarget", "(LSweptFloors$Situation;)Z"⟩) (n := 4) 35 (by decide +kernel) (by decide +kernel)⟩
def mS_init : zM := (⟨"SweptFloors$Situation", "<init>", "(LSweptFloors$Ground;)V"⟩, prog_6_method_1_code, 2, none)
theorem zm_S_init : zmI mS_init 1 := ⟨zmd_mk 113 4 (by decide +kernel), zgw_p 112 (by decide +kernel) (by decide +kernel), rfl, rfl⟩
def mS_begin : zM := (⟨"SweptFloors$Situation", "begin", "()V"⟩, prog_6_method_2_code, 1, none)
theorem zm_S_begin : zmV mS_begin 0 := ⟨zmd_mk 269 4 (by decide +kernel), zgw_p 268 (by decide +kernel) (by decide +kernel), zgw_s (y := ⟨"SweptFloors$Situation", "begin", "()V"⟩) (n := 11) 8 (by decide +kernel) (by decide +kernel)⟩
def mS_copyFrom : zM := (⟨"SweptFloors$Situation", "copyFrom", "(LSweptFloors$Situation;)V"⟩, prog_6_method_3_code, 2, none)
theorem zm_S_copyFrom : zmV mS_copyFrom 1 := ⟨zmd_mk 341 4 (by decide +kernel), zgw_p 340 (by decide +kernel) (by decide +kernel), zgw_s (y := ⟨"SweptFloors$Situation", "copyFrom", "(LSweptFloors$Situation;)V"⟩) (n := 11) 14 (by decide +kernel) (by decide +kernel)⟩
def mS_freeCells : zM := (⟨"SweptFloors$Situation", "freeCells", "()J"⟩, prog_6_method_4_code, 1, some .long)
theorem zm_S_freeCells : zmV mS_freeCells 0 := ⟨zmd_mk 387 4 (by decide +kernel), zgw_p 386 (by decide +kernel) (by decide +kernel), zgw_s (y := ⟨"SweptFloors$Situation", "freeCells", "()J"⟩) (n := 11) 19 (by decide +kernel) (by decide +kernel)⟩
def mS_kindOf : zM := (⟨"SweptFloors$Situation", "kindOf", "(I)I"⟩, prog_6_method_5_code, 2, some .int)
theorem zm_S_kindOf : zmV mS_kindOf 1 := ⟨zmd_mk 321 4 (by decide +kernel), zgw_p 320 (by decide +kernel) (by decide +kernel), zgw_s (y := ⟨"SweptFloors$Situation", "kindOf", "(I)I"⟩) (n := 11) 11 (by decide +kernel) (by decide +kernel)⟩
def mS_knowledgeOf : zM := (⟨"SweptFloors$Situation", "knowledgeOf", "(I)I"⟩, prog_6_method_6_code, 2, some .int)
theorem zm_S_knowledgeOf : zmV mS_knowledgeOf 1 := ⟨zmd_mk 524 4 (by decide +kernel), zgw_p 523 (by decide +kernel) (by decide +kernel), zgw_s (y := ⟨"SweptFloors$Situation", "knowledgeOf", "(I)I"⟩) (n := 11) 41 (by decide +kernel) (by decide +kernel)⟩
def mS_homeOf : zM := (⟨"SweptFloors$Situation", "homeOf", "(I)I"⟩, prog_6_method_7_code, 2, some .int)
theorem zm_S_homeOf : zmV mS_homeOf 1 := ⟨zmd_mk 491 4 (by decide +kernel), zgw_p 490 (by decide +kernel) (by decide +kernel), zgw_s (y := ⟨"SweptFloors$Situation", "homeOf", "(I)I"⟩) (n := 11) 38 (by decide +kernel) (by decide +kernel)⟩
def mS_stepTo : zM := (⟨"SweptFloors$Situation", "stepTo", "(I)I"⟩, prog_6_method_8_code, 4, some .int)
theorem zm_S_stepTo : zmV mS_stepTo 1 := ⟨zmd_mk 361 4 (by decide +kernel), zgw_p 360 (by decide +kernel) (by decide +kernel), zgw_s (y := ⟨"SweptFloors$Situation", "stepTo", "(I)I"⟩) (n := 11) 15 (by decide +kernel) (by decide +kernel)⟩
def mS_outcomeAt : zM := (⟨"SweptFloors$Situation", "outcomeAt", "(I)I"⟩, prog_6_method_9_code, 2, some .int)
theorem zm_S_outcomeAt : zmV mS_outcomeAt 1 := ⟨zmd_mk 383 4 (by decide +kernel), zgw_p 382 (by decide +kernel) (by decide +kernel), zgw_s (y := ⟨"SweptFloors$Situation", "outcomeAt", "(I)I"⟩) (n := 11) 18 (by decide +kernel) (by decide +kernel)⟩
def mS_learn : zM := (⟨"SweptFloors$Situation", "learn", "(II)V"⟩, prog_6_method_10_code, 3, none)
theorem zm_S_learn : zmV mS_learn 2 := ⟨zmd_mk 425 4 (by decide +kernel), zgw_p 424 (by decide +kernel) (by decide +kernel), zgw_s (y := ⟨"SweptFloors$Situation", "learn", "(II)V"⟩) (n := 11) 27 (by decide +kernel) (by decide +kernel)⟩
def mS_turn : zM := (⟨"SweptFloors$Situation", "turn", "(I)V"⟩, prog_6_method_11_code, 3, none)
theorem zm_S_turn : zmV mS_turn 1 := ⟨zmd_mk 433 4 (by decide +kernel), zgw_p 432 (by decide +kernel) (by decide +kernel), zgw_s (y := ⟨"SweptFloors$Situation", "turn", "(I)V"⟩) (n := 11) 28 (by decide +kernel) (by decide +kernel)⟩
def mS_scanAround : zM := (⟨"SweptFloors$Situation", "scanAround", "()I"⟩, prog_6_method_12_code, 4, some .int)
theorem zm_S_scanAround : zmV mS_scanAround 0 := ⟨zmd_mk 445 4 (by decide +kernel), zgw_p 444 (by decide +kernel) (by decide +kernel), zgw_s (y := ⟨"SweptFloors$Situation", "scanAround", "()I"⟩) (n := 11) 30 (by decide +kernel) (by decide +kernel)⟩
def mS_seenAt : zM := (⟨"SweptFloors$Situation", "seenAt", "(I)I"⟩, prog_6_method_13_code, 2, some .int)
theorem zm_S_seenAt : zmV mS_seenAt 1 := ⟨zmd_mk 449 4 (by decide +kernel), zgw_p 448 (by decide +kernel) (by decide +kernel), zgw_s (y := ⟨"SweptFloors$Situation", "seenAt", "(I)I"⟩) (n := 11) 31 (by decide +kernel) (by decide +kernel)⟩
def mS_carryTo : zM := (⟨"SweptFloors$Situation", "carryTo", "(II)I"⟩, prog_6_method_14_code, 4, some .int)
theorem zm_S_carryTo : zmV mS_carryTo 2 := ⟨zmd_mk 458 4 (by decide +kernel), zgw_p 457 (by decide +kernel) (by decide +kernel), zgw_s (y := ⟨"SweptFloors$Situation", "carryTo", "(II)I"⟩) (n := 11) 32 (by decide +kernel) (by decide +kernel)⟩
def mS_sortOutBy : zM := (⟨"SweptFloors$Situation", "sortOutBy", "(I)V"⟩, prog_6_method_15_code, 2, none)
theorem zm_S_sortOutBy : zmV mS_sortOutBy 1 := ⟨zmd_mk 392 4 (by decide +kernel), zgw_p 391 (by decide +kernel) (by decide +kernel), zgw_s (y := ⟨"SweptFloors$Situation", "sortOutBy", "(I)V"⟩) (n := 11) 20 (by decide +kernel) (by decide +kernel)⟩
def mS_keepPlacesThatSee : zM := (⟨"SweptFloors$Situation", "keepPlacesThatSee", "(II)V"⟩, prog_6_method_16_code, 4, none)
theorem zm_S_keepPlacesThatSee : zmV mS_keepPlacesThatSee 2 := ⟨zmd_mk 396 4 (by decide +kernel), zgw_p 395 (by decide +kernel) (by decide +kernel), zgw_s (y := ⟨"SweptFloors$Situation", "keepPlacesThatSee", "(II)V"⟩) (n := 11) 21 (by decide +kernel) (by decide +kernel)⟩
def mS_movePlacesAhead : zM := (⟨"SweptFloors$Situation", "movePlacesAhead", "()V"⟩, prog_6_method_17_code, 2, none)
theorem zm_S_movePlacesAhead : zmV mS_movePlacesAhead 0 := ⟨zmd_mk 412 4 (by decide +kernel), zgw_p 411 (by decide +kernel) (by decide +kernel), zgw_s (y := ⟨"SweptFloors$Situation", "movePlacesAhead", "()V"⟩) (n := 11) 24 (by decide +kernel) (by decide +kernel)⟩
def mS_turnPlaces : zM := (⟨"SweptFloors$Situation", "turnPlaces", "()V"⟩, prog_6_method_18_code, 3, none)
theorem zm_S_turnPlaces : zmV mS_turnPlaces 0 := ⟨zmd_mk 437 4 (by decide +kernel), zgw_p 436 (by decide +kernel) (by decide +kernel), zgw_s (y := ⟨"SweptFloors$Situation", "turnPlaces", "()V"⟩) (n := 11) 29 (by decide +kernel) (by decide +kernel)⟩
def mS_beFoundIfSure : zM := (⟨"SweptFloors$Situation", "beFoundIfSure", "()V"⟩, prog_6_method_19_code, 1, none)
theorem zm_S_beFoundIfSure : zmV mS_beFoundIfSure 0 := ⟨zmd_mk 416 4 (by decide +kernel), zgw_p 415 (by decide +kernel) (by decide +kernel), zgw_s (y := ⟨"SweptFloors$Situation", "beFoundIfSure", "()V"⟩) (n := 11) 25 (by decide +kernel) (by decide +kernel)⟩
def mS_cellsThatMaySee : zM := (⟨"SweptFloors$Situation", "cellsThatMaySee", "(II)J"⟩, prog_6_method_20_code, 6, some .long)
theorem zm_S_cellsThatMaySee : zmV mS_cellsThatMaySee 2 := ⟨zmd_mk 403 4 (by decide +kernel), zgw_p 402 (by decide +kernel) (by decide +kernel), zgw_s (y := ⟨"SweptFloors$Situation", "cellsThatMaySee", "(II)J"⟩) (n := 11) 22 (by decide +kernel) (by decide +kernel)⟩
def mS_cellsThatMayShow : zM := (⟨"SweptFloors$Situation", "cellsThatMayShow", "(I)J"⟩, prog_6_method_21_code, 4, some .long)
theorem zm_S_cellsThatMayShow : zmV mS_cellsThatMayShow 1 := ⟨zmd_mk 407 4 (by decide +kernel), zgw_p 406 (by decide +kernel) (by decide +kernel), zgw_s (y := ⟨"SweptFloors$Situation", "cellsThatMayShow", "(I)J"⟩) (n := 11) 23 (by decide +kernel) (by decide +kernel)⟩
def mS_placeCount : zM := (⟨"SweptFloors$Situation", "placeCount", "()I"⟩, prog_6_method_22_code, 3, some .int)
theorem zm_S_placeCount : zmV mS_placeCount 0 := ⟨zmd_mk 420 4 (by decide +kernel), zgw_p 419 (by decide +kernel) (by decide +kernel), zgw_s (y := ⟨"SweptFloors$Situation", "placeCount", "()I"⟩) (n := 11) 26 (by decide +kernel) (by decide +kernel)⟩
def mS_placeAt : zM := (⟨"SweptFloors$Situation", "placeAt", "(I)I"⟩, prog_6_method_23_code, 4, some .int)
theorem zm_S_placeAt : zmV mS_placeAt 1 := ⟨zmd_mk 543 4 (by decide +kernel), zgw_p 542 (by decide +kernel) (by decide +kernel), zgw_s (y := ⟨"SweptFloors$Situation", "placeAt", "(I)I"⟩) (n := 11) 42 (by decide +kernel) (by decide +kernel)⟩
def mT_init : zM := (⟨"SweptFloors$Text", "<init>", "()V"⟩, prog_7_method_1_code, 1, none)
theorem zm_T_init : zmI mT_init 0 := ⟨zmd_mk 24 2 (by decide +kernel), zgw_p 23 (by decide +kernel) (by decide +kernel), rfl, rfl⟩
def mT_add : zM := (⟨"SweptFloors$Text", "add", "(I)Z"⟩, prog_7_method_2_code, 2, some .boolean)
theorem zm_T_add : zmV mT_add 1 := ⟨zmd_mk 228 2 (by decide +kernel), zgw_p 227 (by decide +kernel) (by decide +kernel), zgw_s (y := ⟨"SweptFloors$Text", "add", "(I)Z"⟩) (n := 8) 0 (by decide +kernel) (by decide +kernel)⟩
def mT_findFault : zM := (⟨"SweptFloors$Text", "findFault", "()I"⟩, prog_7_method_3_code, 2, some .int)
theorem zm_T_findFault : zmV mT_findFault 0 := ⟨zmd_mk 236 2 (by decide +kernel), zgw_p 235 (by decide +kernel) (by decide +kernel), zgw_s (y := ⟨"SweptFloors$Text", "findFault", "()I"⟩) (n := 8) 2 (by decide +kernel) (by decide +kernel)⟩
def mT_takes : zM := (⟨"SweptFloors$Text", "takes", "(I)Z"⟩, prog_7_method_4_code, 2, some .boolean)
theorem zm_T_takes : zmV mT_takes 1 := ⟨zmd_mk 240 2 (by decide +kernel), zgw_p 239 (by decide +kernel) (by decide +kernel), zgw_s (y := ⟨"SweptFloors$Text", "takes", "(I)Z"⟩) (n := 8) 3 (by decide +kernel) (by decide +kernel)⟩
def mT_endsRow : zM := (⟨"SweptFloors$Text", "endsRow", "()Z"⟩, prog_7_method_5_code, 1, some .boolean)
theorem zm_T_endsRow : zmV mT_endsRow 0 := ⟨zmd_mk 244 2 (by decide +kernel), zgw_p 243 (by decide +kernel) (by decide +kernel), zgw_s (y := ⟨"SweptFloors$Text", "endsRow", "()Z"⟩) (n := 8) 4 (by decide +kernel) (by decide +kernel)⟩
def mT_takesSign : zM := (⟨"SweptFloors$Text", "takesSign", "(I)Z"⟩, prog_7_method_6_code, 3, some .boolean)
theorem zm_T_takesSign : zmV mT_takesSign 1 := ⟨zmd_mk 251 2 (by decide +kernel), zgw_p 250 (by decide +kernel) (by decide +kernel), zgw_s (y := ⟨"SweptFloors$Text", "takesSign", "(I)Z"⟩) (n := 8) 5 (by decide +kernel) (by decide +kernel)⟩
def mT_kindOfSign : zM := (⟨"SweptFloors$Text", "kindOfSign", "(I)I"⟩, prog_7_method_7_code, 1, some .int)
theorem zm_T_kindOfSign : zmS mT_kindOfSign 1 := ⟨zmd_mk 247 2 (by decide +kernel), zgw_p 246 (by decide +kernel) (by decide +kernel)⟩
def mF_init : zM := (⟨"SweptFloors", "<init>", "()V"⟩, prog_1_method_1_code, 1, none)
theorem zm_F_init : zmI mF_init 0 := ⟨zmd_mk 16 1 (by decide +kernel), zgw_p 15 (by decide +kernel) (by decide +kernel), rfl, rfl⟩
def mF_type : zM := (⟨"SweptFloors", "type", "(I)I"⟩, prog_1_method_2_code, 2, some .int)
theorem zm_F_type : zmV mF_type 1 := ⟨zmd_mk 300 1 (by decide +kernel), zgw_p 298 (by decide +kernel) (by decide +kernel), zgw_p 299 (by decide +kernel) (by decide +kernel)⟩
def mF_clear : zM := (⟨"SweptFloors", "clear", "()I"⟩, prog_1_method_3_code, 2, some .int)
theorem zm_F_clear : zmV mF_clear 0 := ⟨zmd_mk 304 1 (by decide +kernel), zgw_p 302 (by decide +kernel) (by decide +kernel), zgw_p 303 (by decide +kernel) (by decide +kernel)⟩
def mF_floor : zM := (⟨"SweptFloors", "floor", "()I"⟩, prog_1_method_4_code, 2, some .int)
theorem zm_F_floor : zmV mF_floor 0 := ⟨zmd_mk 308 1 (by decide +kernel), zgw_p 306 (by decide +kernel) (by decide +kernel), zgw_p 307 (by decide +kernel) (by decide +kernel)⟩
def mF_cell : zM := (⟨"SweptFloors", "cell", "(I)I"⟩, prog_1_method_5_code, 2, some .int)
theorem zm_F_cell : zmV mF_cell 1 := ⟨zmd_mk 313 1 (by decide +kernel), zgw_p 311 (by decide +kernel) (by decide +kernel), zgw_p 312 (by decide +kernel) (by decide +kernel)⟩
def mF_powers : zM := (⟨"SweptFloors", "powers", "(II)I"⟩, prog_1_method_6_code, 3, some .int)
theorem zm_F_powers : zmV mF_powers 2 := ⟨zmd_mk 329 1 (by decide +kernel), zgw_p 327 (by decide +kernel) (by decide +kernel), zgw_p 328 (by decide +kernel) (by decide +kernel)⟩
def mF_moves : zM := (⟨"SweptFloors", "moves", "(I)I"⟩, prog_1_method_7_code, 2, some .int)
theorem zm_F_moves : zmV mF_moves 1 := ⟨zmd_mk 352 1 (by decide +kernel), zgw_p 350 (by decide +kernel) (by decide +kernel), zgw_p 351 (by decide +kernel) (by decide +kernel)⟩
def mF_steps : zM := (⟨"SweptFloors", "steps", "()I"⟩, prog_1_method_8_code, 1, some .int)
theorem zm_F_steps : zmV mF_steps 0 := ⟨zmd_mk 357 1 (by decide +kernel), zgw_p 355 (by decide +kernel) (by decide +kernel), zgw_p 356 (by decide +kernel) (by decide +kernel)⟩
def mF_rotates : zM := (⟨"SweptFloors", "rotates", "(I)I"⟩, prog_1_method_9_code, 2, some .int)
theorem zm_F_rotates : zmV mF_rotates 1 := ⟨zmd_mk 429 1 (by decide +kernel), zgw_p 427 (by decide +kernel) (by decide +kernel), zgw_p 428 (by decide +kernel) (by decide +kernel)⟩
def mF_scans : zM := (⟨"SweptFloors", "scans", "()I"⟩, prog_1_method_10_code, 1, some .int)
theorem zm_F_scans : zmV mF_scans 0 := ⟨zmd_mk 441 1 (by decide +kernel), zgw_p 439 (by decide +kernel) (by decide +kernel), zgw_p 440 (by decide +kernel) (by decide +kernel)⟩
def mF_carries : zM := (⟨"SweptFloors", "carries", "(II)I"⟩, prog_1_method_11_code, 3, some .int)
theorem zm_F_carries : zmV mF_carries 2 := ⟨zmd_mk 453 1 (by decide +kernel), zgw_p 451 (by decide +kernel) (by decide +kernel), zgw_p 452 (by decide +kernel) (by decide +kernel)⟩
def mF_goes : zM := (⟨"SweptFloors", "goes", "(I)I"⟩, prog_1_method_12_code, 5, some .int)
theorem zm_F_goes : zmV mF_goes 1 := ⟨zmd_mk 462 1 (by decide +kernel), zgw_p 460 (by decide +kernel) (by decide +kernel), zgw_p 461 (by decide +kernel) (by decide +kernel)⟩
def mF_undo : zM := (⟨"SweptFloors", "undo", "()I"⟩, prog_1_method_13_code, 1, some .int)
theorem zm_F_undo : zmV mF_undo 0 := ⟨zmd_mk 508 1 (by decide +kernel), zgw_p 506 (by decide +kernel) (by decide +kernel), zgw_p 507 (by decide +kernel) (by decide +kernel)⟩
def mF_robot : zM := (⟨"SweptFloors", "robot", "(I)I"⟩, prog_1_method_14_code, 2, some .int)
theorem zm_F_robot : zmV mF_robot 1 := ⟨zmd_mk 516 1 (by decide +kernel), zgw_p 514 (by decide +kernel) (by decide +kernel), zgw_p 515 (by decide +kernel) (by decide +kernel)⟩
def mF_knows : zM := (⟨"SweptFloors", "knows", "(I)I"⟩, prog_1_method_15_code, 2, some .int)
theorem zm_F_knows : zmV mF_knows 1 := ⟨zmd_mk 520 1 (by decide +kernel), zgw_p 518 (by decide +kernel) (by decide +kernel), zgw_p 519 (by decide +kernel) (by decide +kernel)⟩
def mF_home : zM := (⟨"SweptFloors", "home", "(I)I"⟩, prog_1_method_16_code, 2, some .int)
theorem zm_F_home : zmV mF_home 1 := ⟨zmd_mk 528 1 (by decide +kernel), zgw_p 526 (by decide +kernel) (by decide +kernel), zgw_p 527 (by decide +kernel) (by decide +kernel)⟩
def mF_target : zM := (⟨"SweptFloors", "target", "(I)I"⟩, prog_1_method_17_code, 2, some .int)
theorem zm_F_target : zmV mF_target 1 := ⟨zmd_mk 533 1 (by decide +kernel), zgw_p 531 (by decide +kernel) (by decide +kernel), zgw_p 532 (by decide +kernel) (by decide +kernel)⟩
def mF_place : zM := (⟨"SweptFloors", "place", "(I)I"⟩, prog_1_method_18_code, 2, some .int)
theorem zm_F_place : zmV mF_place 1 := ⟨zmd_mk 538 1 (by decide +kernel), zgw_p 536 (by decide +kernel) (by decide +kernel), zgw_p 537 (by decide +kernel) (by decide +kernel)⟩
def mF_lane : zM := (⟨"SweptFloors", "lane", "(II)I"⟩, prog_1_method_19_code, 8, some .int)
theorem zm_F_lane : zmV mF_lane 2 := ⟨zmd_mk 547 1 (by decide +kernel), zgw_p 545 (by decide +kernel) (by decide +kernel), zgw_p 546 (by decide +kernel) (by decide +kernel)⟩
def mF_room : zM := (⟨"SweptFloors", "room", "(I)I"⟩, prog_1_method_20_code, 8, some .int)
theorem zm_F_room : zmV mF_room 1 := ⟨zmd_mk 561 1 (by decide +kernel), zgw_p 559 (by decide +kernel) (by decide +kernel), zgw_p 560 (by decide +kernel) (by decide +kernel)⟩
def mF_reach : zM := (⟨"SweptFloors", "reach", "(I)I"⟩, prog_1_method_21_code, 4, some .int)
theorem zm_F_reach : zmV mF_reach 1 := ⟨zmd_mk 566 1 (by decide +kernel), zgw_p 564 (by decide +kernel) (by decide +kernel), zgw_p 565 (by decide +kernel) (by decide +kernel)⟩
def mF_when : zM := (⟨"SweptFloors", "when", "()I"⟩, prog_1_method_22_code, 2, some .int)
theorem zm_F_when : zmV mF_when 0 := ⟨zmd_mk 574 1 (by decide +kernel), zgw_p 572 (by decide +kernel) (by decide +kernel), zgw_p 573 (by decide +kernel) (by decide +kernel)⟩
def mF_keep : zM := (⟨"SweptFloors", "keep", "(I)I"⟩, prog_1_method_23_code, 2, some .int)
theorem zm_F_keep : zmV mF_keep 1 := ⟨zmd_mk 583 1 (by decide +kernel), zgw_p 581 (by decide +kernel) (by decide +kernel), zgw_p 582 (by decide +kernel) (by decide +kernel)⟩
def mF_back : zM := (⟨"SweptFloors", "back", "(I)I"⟩, prog_1_method_24_code, 2, some .int)
theorem zm_F_back : zmV mF_back 1 := ⟨zmd_mk 592 1 (by decide +kernel), zgw_p 590 (by decide +kernel) (by decide +kernel), zgw_p 591 (by decide +kernel) (by decide +kernel)⟩
def mF_count : zM := (⟨"SweptFloors", "count", "(I)I"⟩, prog_1_method_25_code, 2, some .int)
theorem zm_F_count : zmV mF_count 1 := ⟨zmd_mk 600 1 (by decide +kernel), zgw_p 598 (by decide +kernel) (by decide +kernel), zgw_p 599 (by decide +kernel) (by decide +kernel)⟩
def mF_readText : zM := (⟨"SweptFloors", "readText", "()I"⟩, prog_1_method_26_code, 2, some .int)
theorem zm_F_readText : zmV mF_readText 0 := ⟨zmd_mk 232 1 (by decide +kernel), zgw_p 231 (by decide +kernel) (by decide +kernel), zgw_s (y := ⟨"SweptFloors", "readText", "()I"⟩) (n := 7) 1 (by decide +kernel) (by decide +kernel)⟩
def mF_laneLength : zM := (⟨"SweptFloors", "laneLength", "(IJ)I"⟩, prog_1_method_27_code, 8, some .int)
theorem zm_F_laneLength : zmV mF_laneLength 2 := ⟨zmd_mk 557 1 (by decide +kernel), zgw_p 556 (by decide +kernel) (by decide +kernel), zgw_s (y := ⟨"SweptFloors", "laneLength", "(IJ)I"⟩) (n := 7) 43 (by decide +kernel) (by decide +kernel)⟩
def mF_only : zM := (⟨"SweptFloors", "only", "(I)J"⟩, prog_1_method_28_code, 1, some .long)
theorem zm_F_only : zmS mF_only 1 := ⟨zmd_mk 265 1 (by decide +kernel), zgw_p 264 (by decide +kernel) (by decide +kernel)⟩
def mF_holds : zM := (⟨"SweptFloors", "holds", "(JI)Z"⟩, prog_1_method_29_code, 3, some .boolean)
theorem zm_F_holds : zmS mF_holds 2 := ⟨zmd_mk 324 1 (by decide +kernel), zgw_p 323 (by decide +kernel) (by decide +kernel)⟩
def mF_lowestOf : zM := (⟨"SweptFloors", "lowestOf", "(J)I"⟩, prog_1_method_30_code, 2, some .int)
theorem zm_F_lowestOf : zmS mF_lowestOf 1 := ⟨zmd_mk 373 1 (by decide +kernel), zgw_p 372 (by decide +kernel) (by decide +kernel)⟩
def mF_memberAt : zM := (⟨"SweptFloors", "memberAt", "(JI)I"⟩, prog_1_method_31_code, 6, some .int)
theorem zm_F_memberAt : zmS mF_memberAt 2 := ⟨zmd_mk 552 1 (by decide +kernel), zgw_p 551 (by decide +kernel) (by decide +kernel)⟩
def mF_turned : zM := (⟨"SweptFloors", "turned", "(II)I"⟩, prog_1_method_32_code, 2, some .int)
theorem zm_F_turned : zmS mF_turned 2 := ⟨zmd_mk 399 1 (by decide +kernel), zgw_p 398 (by decide +kernel) (by decide +kernel)⟩
def mM_in : zM := (⟨"SweptFloorsModel", "in", "(III)Z"⟩, prog_9_method_1_code, 3, some .boolean)
theorem zm_M_in : zmS mM_in 3 := ⟨zmd_mk 697 8 (by decide +kernel), zgw_p 696 (by decide +kernel) (by decide +kernel)⟩
def mM_init : zM := (⟨"SweptFloorsModel", "<init>", "()V"⟩, prog_9_method_2_code, 1, none)
theorem zm_M_init : zmI mM_init 0 := ⟨zmd_mk 605 8 (by decide +kernel), zgw_p 604 (by decide +kernel) (by decide +kernel), rfl, rfl⟩
def mM_cells : zM := (⟨"SweptFloorsModel", "cells", "()I"⟩, prog_9_method_3_code, 1, some .int)
theorem zm_M_cells : zmV mM_cells 0 := ⟨zmd_mk 614 8 (by decide +kernel), zgw_p 613 (by decide +kernel) (by decide +kernel), zgw_s (y := ⟨"SweptFloorsModel", "cells", "()I"⟩) (n := 25) 49 (by decide +kernel) (by decide +kernel)⟩
def mM_begins : zM := (⟨"SweptFloorsModel", "begins", "()V"⟩, prog_9_method_4_code, 2, none)
theorem zm_M_begins : zmV mM_begins 0 := ⟨zmd_mk 610 8 (by decide +kernel), zgw_p 609 (by decide +kernel) (by decide +kernel), zgw_s (y := ⟨"SweptFloorsModel", "begins", "()V"⟩) (n := 25) 48 (by decide +kernel) (by decide +kernel)⟩
def mM_type : zM := (⟨"SweptFloorsModel", "type", "(I)I"⟩, prog_9_method_5_code, 2, some .int)
theorem zm_M_type : zmV mM_type 1 := ⟨zmd_mk 694 8 (by decide +kernel), zgw_p 692 (by decide +kernel) (by decide +kernel), zgw_p 693 (by decide +kernel) (by decide +kernel)⟩
def mM_clear : zM := (⟨"SweptFloorsModel", "clear", "()I"⟩, prog_9_method_6_code, 2, some .int)
theorem zm_M_clear : zmV mM_clear 0 := ⟨zmd_mk 701 8 (by decide +kernel), zgw_p 699 (by decide +kernel) (by decide +kernel), zgw_p 700 (by decide +kernel) (by decide +kernel)⟩
def mM_kindOf : zM := (⟨"SweptFloorsModel", "kindOf", "(I)I"⟩, prog_9_method_7_code, 1, some .int)
theorem zm_M_kindOf : zmS mM_kindOf 1 := ⟨zmd_mk 712 8 (by decide +kernel), zgw_p 711 (by decide +kernel) (by decide +kernel)⟩
def mM_takes : zM := (⟨"SweptFloorsModel", "takes", "(I)Z"⟩, prog_9_method_8_code, 5, some .boolean)
theorem zm_M_takes : zmV mM_takes 1 := ⟨zmd_mk 709 8 (by decide +kernel), zgw_p 708 (by decide +kernel) (by decide +kernel), zgw_s (y := ⟨"SweptFloorsModel", "takes", "(I)Z"⟩) (n := 25) 50 (by decide +kernel) (by decide +kernel)⟩
def mM_floor : zM := (⟨"SweptFloorsModel", "floor", "()I"⟩, prog_9_method_9_code, 2, some .int)
theorem zm_M_floor : zmV mM_floor 0 := ⟨zmd_mk 705 8 (by decide +kernel), zgw_p 703 (by decide +kernel) (by decide +kernel), zgw_p 704 (by decide +kernel) (by decide +kernel)⟩
def mM_isCell : zM := (⟨"SweptFloorsModel", "isCell", "(I)Z"⟩, prog_9_method_10_code, 2, some .boolean)
theorem zm_M_isCell : zmV mM_isCell 1 := ⟨zmd_mk 720 8 (by decide +kernel), zgw_p 719 (by decide +kernel) (by decide +kernel), zgw_s (y := ⟨"SweptFloorsModel", "isCell", "(I)Z"⟩) (n := 25) 51 (by decide +kernel) (by decide +kernel)⟩
def mM_isFree : zM := (⟨"SweptFloorsModel", "isFree", "(I)Z"⟩, prog_9_method_11_code, 2, some .boolean)
theorem zm_M_isFree : zmV mM_isFree 1 := ⟨zmd_mk 756 8 (by decide +kernel), zgw_p 755 (by decide +kernel) (by decide +kernel), zgw_s (y := ⟨"SweptFloorsModel", "isFree", "(I)Z"⟩) (n := 25) 57 (by decide +kernel) (by decide +kernel)⟩
def mM_isDoor : zM := (⟨"SweptFloorsModel", "isDoor", "(I)Z"⟩, prog_9_method_12_code, 2, some .boolean)
theorem zm_M_isDoor : zmV mM_isDoor 1 := ⟨zmd_mk 736 8 (by decide +kernel), zgw_p 735 (by decide +kernel) (by decide +kernel), zgw_s (y := ⟨"SweptFloorsModel", "isDoor", "(I)Z"⟩) (n := 25) 53 (by decide +kernel) (by decide +kernel)⟩
def mM_beside : zM := (⟨"SweptFloorsModel", "beside", "(II)I"⟩, prog_9_method_13_code, 5, some .int)
theorem zm_M_beside : zmV mM_beside 2 := ⟨zmd_mk 748 8 (by decide +kernel), zgw_p 747 (by decide +kernel) (by decide +kernel), zgw_s (y := ⟨"SweptFloorsModel", "beside", "(II)I"⟩) (n := 25) 55 (by decide +kernel) (by decide +kernel)⟩
def mM_cell : zM := (⟨"SweptFloorsModel", "cell", "(I)I"⟩, prog_9_method_14_code, 2, some .int)
theorem zm_M_cell : zmV mM_cell 1 := ⟨zmd_mk 716 8 (by decide +kernel), zgw_p 714 (by decide +kernel) (by decide +kernel), zgw_p 715 (by decide +kernel) (by decide +kernel)⟩
def mM_remembers : zM := (⟨"SweptFloorsModel", "remembers", "()V"⟩, prog_9_method_15_code, 2, none)
theorem zm_M_remembers : zmV mM_remembers 0 := ⟨zmd_mk 728 8 (by decide +kernel), zgw_p 727 (by decide +kernel) (by decide +kernel), zgw_s (y := ⟨"SweptFloorsModel", "remembers", "()V"⟩) (n := 25) 52 (by decide +kernel) (by decide +kernel)⟩
def mM_powers : zM := (⟨"SweptFloorsModel", "powers", "(II)I"⟩, prog_9_method_16_code, 3, some .int)
theorem zm_M_powers : zmV mM_powers 2 := ⟨zmd_mk 724 8 (by decide +kernel), zgw_p 722 (by decide +kernel) (by decide +kernel), zgw_p 723 (by decide +kernel) (by decide +kernel)⟩
def mM_moves : zM := (⟨"SweptFloorsModel", "moves", "(I)I"⟩, prog_9_method_17_code, 2, some .int)
theorem zm_M_moves : zmV mM_moves 1 := ⟨zmd_mk 732 8 (by decide +kernel), zgw_p 730 (by decide +kernel) (by decide +kernel), zgw_p 731 (by decide +kernel) (by decide +kernel)⟩
def mM_toldOf : zM := (⟨"SweptFloorsModel", "toldOf", "(I)I"⟩, prog_9_method_18_code, 2, some .int)
theorem zm_M_toldOf : zmV mM_toldOf 1 := ⟨zmd_mk 752 8 (by decide +kernel), zgw_p 751 (by decide +kernel) (by decide +kernel), zgw_s (y := ⟨"SweptFloorsModel", "toldOf", "(I)I"⟩) (n := 25) 56 (by decide +kernel) (by decide +kernel)⟩
def mM_canBe : zM := (⟨"SweptFloorsModel", "canBe", "(II)Z"⟩, prog_9_method_19_code, 3, some .boolean)
theorem zm_M_canBe : zmV mM_canBe 2 := ⟨zmd_mk 764 8 (by decide +kernel), zgw_p 763 (by decide +kernel) (by decide +kernel), zgw_s (y := ⟨"SweptFloorsModel", "canBe", "(II)Z"⟩) (n := 25) 59 (by decide +kernel) (by decide +kernel)⟩
def mM_manyPlaces : zM := (⟨"SweptFloorsModel", "manyPlaces", "()I"⟩, prog_9_method_20_code, 3, some .int)
theorem zm_M_manyPlaces : zmV mM_manyPlaces 0 := ⟨zmd_mk 776 8 (by decide +kernel), zgw_p 775 (by decide +kernel) (by decide +kernel), zgw_s (y := ⟨"SweptFloorsModel", "manyPlaces", "()I"⟩) (n := 25) 62 (by decide +kernel) (by decide +kernel)⟩
def mM_findsMaybe : zM := (⟨"SweptFloorsModel", "findsMaybe", "()V"⟩, prog_9_method_21_code, 2, none)
theorem zm_M_findsMaybe : zmV mM_findsMaybe 0 := ⟨zmd_mk 772 8 (by decide +kernel), zgw_p 771 (by decide +kernel) (by decide +kernel), zgw_s (y := ⟨"SweptFloorsModel", "findsMaybe", "()V"⟩) (n := 25) 61 (by decide +kernel) (by decide +kernel)⟩
def mM_becomePlaces : zM := (⟨"SweptFloorsModel", "becomePlaces", "()V"⟩, prog_9_method_22_code, 2, none)
theorem zm_M_becomePlaces : zmV mM_becomePlaces 0 := ⟨zmd_mk 768 8 (by decide +kernel), zgw_p 767 (by decide +kernel) (by decide +kernel), zgw_s (y := ⟨"SweptFloorsModel", "becomePlaces", "()V"⟩) (n := 25) 60 (by decide +kernel) (by decide +kernel)⟩
def mM_stepsPlaces : zM := (⟨"SweptFloorsModel", "stepsPlaces", "(I)V"⟩, prog_9_method_23_code, 4, none)
theorem zm_M_stepsPlaces : zmV mM_stepsPlaces 1 := ⟨zmd_mk 760 8 (by decide +kernel), zgw_p 759 (by decide +kernel) (by decide +kernel), zgw_s (y := ⟨"SweptFloorsModel", "stepsPlaces", "(I)V"⟩) (n := 25) 58 (by decide +kernel) (by decide +kernel)⟩
def mM_stepTo : zM := (⟨"SweptFloorsModel", "stepTo", "(I)I"⟩, prog_9_method_24_code, 5, some .int)
theorem zm_M_stepTo : zmV mM_stepTo 1 := ⟨zmd_mk 744 8 (by decide +kernel), zgw_p 743 (by decide +kernel) (by decide +kernel), zgw_s (y := ⟨"SweptFloorsModel", "stepTo", "(I)I"⟩) (n := 25) 54 (by decide +kernel) (by decide +kernel)⟩
def mM_steps : zM := (⟨"SweptFloorsModel", "steps", "()I"⟩, prog_9_method_25_code, 1, some .int)
theorem zm_M_steps : zmV mM_steps 0 := ⟨zmd_mk 740 8 (by decide +kernel), zgw_p 738 (by decide +kernel) (by decide +kernel), zgw_p 739 (by decide +kernel) (by decide +kernel)⟩
def mM_rotates : zM := (⟨"SweptFloorsModel", "rotates", "(I)I"⟩, prog_9_method_26_code, 4, some .int)
theorem zm_M_rotates : zmV mM_rotates 1 := ⟨zmd_mk 780 8 (by decide +kernel), zgw_p 778 (by decide +kernel) (by decide +kernel), zgw_p 779 (by decide +kernel) (by decide +kernel)⟩
def mM_part : zM := (⟨"SweptFloorsModel", "part", "(II)I"⟩, prog_9_method_27_code, 4, some .int)
theorem zm_M_part : zmS mM_part 2 := ⟨zmd_mk 791 8 (by decide +kernel), zgw_p 790 (by decide +kernel) (by decide +kernel)⟩
def mM_canScan : zM := (⟨"SweptFloorsModel", "canScan", "(III)Z"⟩, prog_9_method_28_code, 6, some .boolean)
theorem zm_M_canScan : zmV mM_canScan 3 := ⟨zmd_mk 788 8 (by decide +kernel), zgw_p 787 (by decide +kernel) (by decide +kernel), zgw_s (y := ⟨"SweptFloorsModel", "canScan", "(III)Z"⟩) (n := 25) 63 (by decide +kernel) (by decide +kernel)⟩
def mM_scans : zM := (⟨"SweptFloorsModel", "scans", "()I"⟩, prog_9_method_29_code, 3, some .int)
theorem zm_M_scans : zmV mM_scans 0 := ⟨zmd_mk 784 8 (by decide +kernel), zgw_p 782 (by decide +kernel) (by decide +kernel), zgw_p 783 (by decide +kernel) (by decide +kernel)⟩
def mM_carries : zM := (⟨"SweptFloorsModel", "carries", "(II)I"⟩, prog_9_method_30_code, 5, some .int)
theorem zm_M_carries : zmV mM_carries 2 := ⟨zmd_mk 795 8 (by decide +kernel), zgw_p 793 (by decide +kernel) (by decide +kernel), zgw_p 794 (by decide +kernel) (by decide +kernel)⟩
def mM_lays : zM := (⟨"SweptFloorsModel", "lays", "(IZ[I)V"⟩, prog_9_method_31_code, 9, none)
theorem zm_M_lays : zmV mM_lays 3 := ⟨zmd_mk 811 8 (by decide +kernel), zgw_p 810 (by decide +kernel) (by decide +kernel), zgw_s (y := ⟨"SweptFloorsModel", "lays", "(IZ[I)V"⟩) (n := 25) 66 (by decide +kernel) (by decide +kernel)⟩
def mM_laysTarget : zM := (⟨"SweptFloorsModel", "laysTarget", "()V"⟩, prog_9_method_32_code, 2, none)
theorem zm_M_laysTarget : zmV mM_laysTarget 0 := ⟨zmd_mk 807 8 (by decide +kernel), zgw_p 806 (by decide +kernel) (by decide +kernel), zgw_s (y := ⟨"SweptFloorsModel", "laysTarget", "()V"⟩) (n := 25) 65 (by decide +kernel) (by decide +kernel)⟩
def mM_looksFor : zM := (⟨"SweptFloorsModel", "looksFor", "(I)V"⟩, prog_9_method_33_code, 5, none)
theorem zm_M_looksFor : zmV mM_looksFor 1 := ⟨zmd_mk 815 8 (by decide +kernel), zgw_p 814 (by decide +kernel) (by decide +kernel), zgw_s (y := ⟨"SweptFloorsModel", "looksFor", "(I)V"⟩) (n := 25) 67 (by decide +kernel) (by decide +kernel)⟩
def mM_handTo : zM := (⟨"SweptFloorsModel", "handTo", "([II)I"⟩, prog_9_method_34_code, 4, some .int)
theorem zm_M_handTo : zmV mM_handTo 2 := ⟨zmd_mk 823 8 (by decide +kernel), zgw_p 822 (by decide +kernel) (by decide +kernel), zgw_s (y := ⟨"SweptFloorsModel", "handTo", "([II)I"⟩) (n := 25) 69 (by decide +kernel) (by decide +kernel)⟩
def mM_handOn : zM := (⟨"SweptFloorsModel", "handOn", "(I)I"⟩, prog_9_method_35_code, 3, some .int)
theorem zm_M_handOn : zmV mM_handOn 1 := ⟨zmd_mk 819 8 (by decide +kernel), zgw_p 818 (by decide +kernel) (by decide +kernel), zgw_s (y := ⟨"SweptFloorsModel", "handOn", "(I)I"⟩) (n := 25) 68 (by decide +kernel) (by decide +kernel)⟩
def mM_acts : zM := (⟨"SweptFloorsModel", "acts", "()Z"⟩, prog_9_method_36_code, 1, some .boolean)
theorem zm_M_acts : zmV mM_acts 0 := ⟨zmd_mk 803 8 (by decide +kernel), zgw_p 802 (by decide +kernel) (by decide +kernel), zgw_s (y := ⟨"SweptFloorsModel", "acts", "()Z"⟩) (n := 25) 64 (by decide +kernel) (by decide +kernel)⟩
def mM_goes : zM := (⟨"SweptFloorsModel", "goes", "(I)I"⟩, prog_9_method_37_code, 4, some .int)
theorem zm_M_goes : zmV mM_goes 1 := ⟨zmd_mk 799 8 (by decide +kernel), zgw_p 797 (by decide +kernel) (by decide +kernel), zgw_p 798 (by decide +kernel) (by decide +kernel)⟩
def mM_undo : zM := (⟨"SweptFloorsModel", "undo", "()I"⟩, prog_9_method_38_code, 2, some .int)
theorem zm_M_undo : zmV mM_undo 0 := ⟨zmd_mk 827 8 (by decide +kernel), zgw_p 825 (by decide +kernel) (by decide +kernel), zgw_p 826 (by decide +kernel) (by decide +kernel)⟩
def mM_manyKnown : zM := (⟨"SweptFloorsModel", "manyKnown", "(I)I"⟩, prog_9_method_39_code, 4, some .int)
theorem zm_M_manyKnown : zmV mM_manyKnown 1 := ⟨zmd_mk 835 8 (by decide +kernel), zgw_p 834 (by decide +kernel) (by decide +kernel), zgw_s (y := ⟨"SweptFloorsModel", "manyKnown", "(I)I"⟩) (n := 25) 70 (by decide +kernel) (by decide +kernel)⟩
def mM_robot : zM := (⟨"SweptFloorsModel", "robot", "(I)I"⟩, prog_9_method_40_code, 2, some .int)
theorem zm_M_robot : zmV mM_robot 1 := ⟨zmd_mk 831 8 (by decide +kernel), zgw_p 829 (by decide +kernel) (by decide +kernel), zgw_p 830 (by decide +kernel) (by decide +kernel)⟩
def mM_knows : zM := (⟨"SweptFloorsModel", "knows", "(I)I"⟩, prog_9_method_41_code, 2, some .int)
theorem zm_M_knows : zmV mM_knows 1 := ⟨zmd_mk 839 8 (by decide +kernel), zgw_p 837 (by decide +kernel) (by decide +kernel), zgw_p 838 (by decide +kernel) (by decide +kernel)⟩
def mM_home : zM := (⟨"SweptFloorsModel", "home", "(I)I"⟩, prog_9_method_42_code, 2, some .int)
theorem zm_M_home : zmV mM_home 1 := ⟨zmd_mk 843 8 (by decide +kernel), zgw_p 841 (by decide +kernel) (by decide +kernel), zgw_p 842 (by decide +kernel) (by decide +kernel)⟩
def mM_target : zM := (⟨"SweptFloorsModel", "target", "(I)I"⟩, prog_9_method_43_code, 2, some .int)
theorem zm_M_target : zmV mM_target 1 := ⟨zmd_mk 847 8 (by decide +kernel), zgw_p 845 (by decide +kernel) (by decide +kernel), zgw_p 846 (by decide +kernel) (by decide +kernel)⟩
def mM_place : zM := (⟨"SweptFloorsModel", "place", "(I)I"⟩, prog_9_method_44_code, 4, some .int)
theorem zm_M_place : zmV mM_place 1 := ⟨zmd_mk 851 8 (by decide +kernel), zgw_p 849 (by decide +kernel) (by decide +kernel), zgw_p 850 (by decide +kernel) (by decide +kernel)⟩
def mM_isFirst : zM := (⟨"SweptFloorsModel", "isFirst", "(I)Z"⟩, prog_9_method_45_code, 2, some .boolean)
theorem zm_M_isFirst : zmV mM_isFirst 1 := ⟨zmd_mk 859 8 (by decide +kernel), zgw_p 858 (by decide +kernel) (by decide +kernel), zgw_s (y := ⟨"SweptFloorsModel", "isFirst", "(I)Z"⟩) (n := 25) 71 (by decide +kernel) (by decide +kernel)⟩
def mM_longOf : zM := (⟨"SweptFloorsModel", "longOf", "(I)I"⟩, prog_9_method_46_code, 3, some .int)
theorem zm_M_longOf : zmV mM_longOf 1 := ⟨zmd_mk 863 8 (by decide +kernel), zgw_p 862 (by decide +kernel) (by decide +kernel), zgw_s (y := ⟨"SweptFloorsModel", "longOf", "(I)I"⟩) (n := 25) 72 (by decide +kernel) (by decide +kernel)⟩
def mM_lane : zM := (⟨"SweptFloorsModel", "lane", "(II)I"⟩, prog_9_method_47_code, 5, some .int)
theorem zm_M_lane : zmV mM_lane 2 := ⟨zmd_mk 855 8 (by decide +kernel), zgw_p 853 (by decide +kernel) (by decide +kernel), zgw_p 854 (by decide +kernel) (by decide +kernel)⟩
def mM_isOfRoom : zM := (⟨"SweptFloorsModel", "isOfRoom", "(I)Z"⟩, prog_9_method_48_code, 2, some .boolean)
theorem zm_M_isOfRoom : zmV mM_isOfRoom 1 := ⟨zmd_mk 875 8 (by decide +kernel), zgw_p 874 (by decide +kernel) (by decide +kernel), zgw_s (y := ⟨"SweptFloorsModel", "isOfRoom", "(I)Z"⟩) (n := 25) 74 (by decide +kernel) (by decide +kernel)⟩
def mM_laysRooms : zM := (⟨"SweptFloorsModel", "laysRooms", "()I"⟩, prog_9_method_49_code, 6, some .int)
theorem zm_M_laysRooms : zmV mM_laysRooms 0 := ⟨zmd_mk 871 8 (by decide +kernel), zgw_p 870 (by decide +kernel) (by decide +kernel), zgw_s (y := ⟨"SweptFloorsModel", "laysRooms", "()I"⟩) (n := 25) 73 (by decide +kernel) (by decide +kernel)⟩
def mM_room : zM := (⟨"SweptFloorsModel", "room", "(I)I"⟩, prog_9_method_50_code, 3, some .int)
theorem zm_M_room : zmV mM_room 1 := ⟨zmd_mk 867 8 (by decide +kernel), zgw_p 865 (by decide +kernel) (by decide +kernel), zgw_p 866 (by decide +kernel) (by decide +kernel)⟩
def mM_reach : zM := (⟨"SweptFloorsModel", "reach", "(I)I"⟩, prog_9_method_51_code, 5, some .int)
theorem zm_M_reach : zmV mM_reach 1 := ⟨zmd_mk 879 8 (by decide +kernel), zgw_p 877 (by decide +kernel) (by decide +kernel), zgw_p 878 (by decide +kernel) (by decide +kernel)⟩
def mM_isAllDone : zM := (⟨"SweptFloorsModel", "isAllDone", "()Z"⟩, prog_9_method_52_code, 1, some .boolean)
theorem zm_M_isAllDone : zmV mM_isAllDone 0 := ⟨zmd_mk 887 8 (by decide +kernel), zgw_p 886 (by decide +kernel) (by decide +kernel), zgw_s (y := ⟨"SweptFloorsModel", "isAllDone", "()Z"⟩) (n := 25) 75 (by decide +kernel) (by decide +kernel)⟩
def mM_when : zM := (⟨"SweptFloorsModel", "when", "()I"⟩, prog_9_method_53_code, 3, some .int)
theorem zm_M_when : zmV mM_when 0 := ⟨zmd_mk 883 8 (by decide +kernel), zgw_p 881 (by decide +kernel) (by decide +kernel), zgw_p 882 (by decide +kernel) (by decide +kernel)⟩
def mM_keep : zM := (⟨"SweptFloorsModel", "keep", "(I)I"⟩, prog_9_method_54_code, 3, some .int)
theorem zm_M_keep : zmV mM_keep 1 := ⟨zmd_mk 891 8 (by decide +kernel), zgw_p 889 (by decide +kernel) (by decide +kernel), zgw_p 890 (by decide +kernel) (by decide +kernel)⟩
def mM_back : zM := (⟨"SweptFloorsModel", "back", "(I)I"⟩, prog_9_method_55_code, 3, some .int)
theorem zm_M_back : zmV mM_back 1 := ⟨zmd_mk 895 8 (by decide +kernel), zgw_p 893 (by decide +kernel) (by decide +kernel), zgw_p 894 (by decide +kernel) (by decide +kernel)⟩
def mM_count : zM := (⟨"SweptFloorsModel", "count", "(I)I"⟩, prog_9_method_56_code, 2, some .int)
theorem zm_M_count : zmV mM_count 1 := ⟨zmd_mk 899 8 (by decide +kernel), zgw_p 897 (by decide +kernel) (by decide +kernel), zgw_p 898 (by decide +kernel) (by decide +kernel)⟩
def mJ_bitCount : zM := (⟨"java/lang/Long", "bitCount", "(J)I"⟩, prog_10_method_50_code, 2, some .int)
theorem zm_J_bitCount : zmS mJ_bitCount 1 := ⟨zmd_mk 376 11 (by decide +kernel), zgw_p 375 (by decide +kernel) (by decide +kernel)⟩
def mJ_min : zM := (⟨"java/lang/Math", "min", "(II)I"⟩, prog_11_method_69_code, 2, some .int)
theorem zm_J_min : zmS mJ_min 2 := ⟨zmd_mk 347 10 (by decide +kernel), zgw_p 346 (by decide +kernel) (by decide +kernel)⟩
def mL_law : zM := (x, code, maxLocals, ret)
theorem zk_L_9 : zlk "SweptFloorsLaw" 9 mF_init.1 := Or.inl (zgw_p 14 (by decide +kernel) (by decide +kernel))
theorem zk_F_3 : Cond.methodLink "SweptFloors" 3 Lib.objectInit ∈ zgw := zgw_p 17 (by decide +kernel) (by decide +kernel)
theorem zk_F_11 : zlk "SweptFloors" 11 mT_init.1 := Or.inr (znest_p 22 (by decide +kernel) rfl)
theorem zk_T_3 : Cond.methodLink "SweptFloors$Text" 3 Lib.objectInit ∈ zgw := zgw_p 25 (by decide +kernel) (by decide +kernel)
theorem zk_F_18 : zlk "SweptFloors" 18 mG_init.1 := Or.inr (znest_p 60 (by decide +kernel) rfl)
theorem zk_G_3 : Cond.methodLink "SweptFloors$Ground" 3 Lib.objectInit ∈ zgw := zgw_p 63 (by decide +kernel) (by decide +kernel)
theorem zk_F_25 : zlk "SweptFloors" 25 mS_init.1 := Or.inr (znest_p 111 (by decide +kernel) rfl)
theorem zk_S_3 : Cond.methodLink "SweptFloors$Situation" 3 Lib.objectInit ∈ zgw := zgw_p 114 (by decide +kernel) (by decide +kernel)
theorem zk_F_37 : zlk "SweptFloors" 37 mP_init.1 := Or.inr (znest_p 168 (by decide +kernel) rfl)
theorem zk_P_3 : Cond.methodLink "SweptFloors$Pilot" 3 Lib.objectInit ∈ zgw := zgw_p 171 (by decide +kernel) (by decide +kernel)
theorem zk_F_44 : zlk "SweptFloors" 44 mH_init.1 := Or.inr (znest_p 191 (by decide +kernel) rfl)
theorem zk_H_3 : Cond.methodLink "SweptFloors$History" 3 Lib.objectInit ∈ zgw := zgw_p 194 (by decide +kernel) (by decide +kernel)
theorem zk_H_17 : zlk "SweptFloors$History" 17 mS_init.1 := Or.inr (znest_p 197 (by decide +kernel) rfl)
theorem zk_F_51 : zlk "SweptFloors" 51 mA_init.1 := Or.inr (znest_p 211 (by decide +kernel) rfl)
theorem zk_A_3 : Cond.methodLink "SweptFloors$Album" 3 Lib.objectInit ∈ zgw := zgw_p 214 (by decide +kernel) (by decide +kernel)
theorem zk_A_21 : zlk "SweptFloors$Album" 21 mS_init.1 := Or.inr (znest_p 216 (by decide +kernel) rfl)
theorem zk_F_56 : zlk "SweptFloors" 56 mT_add.1 := Or.inr (znest_p 225 (by decide +kernel) rfl)
theorem zk_F_60 : zlk "SweptFloors" 60 mF_readText.1 := Or.inl (zgw_p 229 (by decide +kernel) (by decide +kernel))
theorem zk_F_235 : zlk "SweptFloors" 235 mT_findFault.1 := Or.inr (znest_p 233 (by decide +kernel) rfl)
theorem zk_T_37 : zlk "SweptFloors$Text" 37 mT_takes.1 := Or.inl (zgw_p 237 (by decide +kernel) (by decide +kernel))
theorem zk_T_41 : zlk "SweptFloors$Text" 41 mT_endsRow.1 := Or.inl (zgw_p 241 (by decide +kernel) (by decide +kernel))
theorem zk_T_45 : zlk "SweptFloors$Text" 45 mT_kindOfSign.1 := Or.inl (zgw_p 245 (by decide +kernel) (by decide +kernel))
theorem zk_T_49 : zlk "SweptFloors$Text" 49 mT_takesSign.1 := Or.inl (zgw_p 248 (by decide +kernel) (by decide +kernel))
theorem zk_F_238 : zlk "SweptFloors" 238 mG_layOut.1 := Or.inr (znest_p 252 (by decide +kernel) rfl)
theorem zk_G_26 : zlk "SweptFloors$Ground" 26 mG_size.1 := Or.inl (zgw_p 256 (by decide +kernel) (by decide +kernel))
theorem zk_G_34 : zlk "SweptFloors$Ground" 34 mG_cellsOfKind.1 := Or.inl (zgw_p 260 (by decide +kernel) (by decide +kernel))
theorem zk_G_53 : zlk "SweptFloors$Ground" 53 mF_only.1 := Or.inr (znest_p 263 (by decide +kernel) rfl)
theorem zk_F_242 : zlk "SweptFloors" 242 mS_begin.1 := Or.inr (znest_p 266 (by decide +kernel) rfl)
theorem zk_S_44 : zlk "SweptFloors$Situation" 44 mF_only.1 := Or.inr (znest_p 270 (by decide +kernel) rfl)
theorem zk_F_245 : zlk "SweptFloors" 245 mA_empty.1 := Or.inr (znest_p 271 (by decide +kernel) rfl)
theorem zk_L_13 : zlk "SweptFloorsLaw" 13 mF_type.1 := Or.inl (zgw_p 297 (by decide +kernel) (by decide +kernel))
theorem zk_L_18 : zlk "SweptFloorsLaw" 18 mF_clear.1 := Or.inl (zgw_p 301 (by decide +kernel) (by decide +kernel))
theorem zk_L_23 : zlk "SweptFloorsLaw" 23 mF_floor.1 := Or.inl (zgw_p 305 (by decide +kernel) (by decide +kernel))
theorem zk_F_68 : zlk "SweptFloors" 68 mG_size.1 := Or.inr (znest_p 309 (by decide +kernel) rfl)
theorem zk_L_27 : zlk "SweptFloorsLaw" 27 mF_cell.1 := Or.inl (zgw_p 310 (by decide +kernel) (by decide +kernel))
theorem zk_F_71 : zlk "SweptFloors" 71 mG_has.1 := Or.inr (znest_p 314 (by decide +kernel) rfl)
theorem zk_F_74 : zlk "SweptFloors" 74 mS_kindOf.1 := Or.inr (znest_p 318 (by decide +kernel) rfl)
theorem zk_S_72 : zlk "SweptFloors$Situation" 72 mF_holds.1 := Or.inr (znest_p 322 (by decide +kernel) rfl)
theorem zk_F_111 : zlk "SweptFloors" 111 mF_only.1 := Or.inl (zgw_p 325 (by decide +kernel) (by decide +kernel))
theorem zk_L_31 : zlk "SweptFloorsLaw" 31 mF_powers.1 := Or.inl (zgw_p 326 (by decide +kernel) (by decide +kernel))
theorem zk_F_84 : zlk "SweptFloors" 84 mH_remember.1 := Or.inr (znest_p 330 (by decide +kernel) rfl)
theorem zk_H_24 : zlk "SweptFloors$History" 24 mH_slotOf.1 := Or.inl (zgw_p 334 (by decide +kernel) (by decide +kernel))
theorem zk_H_28 : zlk "SweptFloors$History" 28 mS_copyFrom.1 := Or.inr (znest_p 338 (by decide +kernel) rfl)
theorem zk_S_58 : Cond.methodLink "SweptFloors$Situation" 58 arraycopyName ∈ zgw := zgw_p 342 (by decide +kernel) (by decide +kernel)
theorem zk_H_35 : zlk "SweptFloors$History" 35 mJ_min.1 := Or.inl (zgw_p 345 (by decide +kernel) (by decide +kernel))
theorem zk_F_91 : zlk "SweptFloors" 91 mJ_min.1 := Or.inl (zgw_p 348 (by decide +kernel) (by decide +kernel))
theorem zk_L_36 : zlk "SweptFloorsLaw" 36 mF_moves.1 := Or.inl (zgw_p 349 (by decide +kernel) (by decide +kernel))
theorem zk_F_101 : zlk "SweptFloors" 101 mF_holds.1 := Or.inl (zgw_p 353 (by decide +kernel) (by decide +kernel))
theorem zk_L_40 : zlk "SweptFloorsLaw" 40 mF_steps.1 := Or.inl (zgw_p 354 (by decide +kernel) (by decide +kernel))
theorem zk_F_118 : zlk "SweptFloors" 118 mS_stepTo.1 := Or.inr (znest_p 358 (by decide +kernel) rfl)
theorem zk_S_86 : zlk "SweptFloors$Situation" 86 mG_cellBeside.1 := Or.inr (znest_p 362 (by decide +kernel) rfl)
theorem zk_G_69 : zlk "SweptFloors$Ground" 69 mG_beside.1 := Or.inl (zgw_p 366 (by decide +kernel) (by decide +kernel))
theorem zk_G_73 : zlk "SweptFloors$Ground" 73 mF_lowestOf.1 := Or.inr (znest_p 371 (by decide +kernel) rfl)
theorem zk_F_152 : zlk "SweptFloors" 152 mJ_bitCount.1 := Or.inl (zgw_p 374 (by decide +kernel) (by decide +kernel))
theorem zk_S_90 : zlk "SweptFloors$Situation" 90 mS_outcomeAt.1 := Or.inl (zgw_p 380 (by decide +kernel) (by decide +kernel))
theorem zk_S_102 : zlk "SweptFloors$Situation" 102 mS_freeCells.1 := Or.inl (zgw_p 384 (by decide +kernel) (by decide +kernel))
theorem zk_S_94 : zlk "SweptFloors$Situation" 94 mS_sortOutBy.1 := Or.inl (zgw_p 389 (by decide +kernel) (by decide +kernel))
theorem zk_S_118 : zlk "SweptFloors$Situation" 118 mS_keepPlacesThatSee.1 := Or.inl (zgw_p 393 (by decide +kernel) (by decide +kernel))
theorem zk_S_106 : zlk "SweptFloors$Situation" 106 mF_turned.1 := Or.inr (znest_p 397 (by decide +kernel) rfl)
theorem zk_S_131 : zlk "SweptFloors$Situation" 131 mS_cellsThatMaySee.1 := Or.inl (zgw_p 400 (by decide +kernel) (by decide +kernel))
theorem zk_S_121 : zlk "SweptFloors$Situation" 121 mS_cellsThatMayShow.1 := Or.inl (zgw_p 404 (by decide +kernel) (by decide +kernel))
theorem zk_S_135 : zlk "SweptFloors$Situation" 135 mG_beside.1 := Or.inr (znest_p 408 (by decide +kernel) rfl)
theorem zk_S_128 : zlk "SweptFloors$Situation" 128 mS_movePlacesAhead.1 := Or.inl (zgw_p 409 (by decide +kernel) (by decide +kernel))
theorem zk_S_112 : zlk "SweptFloors$Situation" 112 mS_beFoundIfSure.1 := Or.inl (zgw_p 413 (by decide +kernel) (by decide +kernel))
theorem zk_S_124 : zlk "SweptFloors$Situation" 124 mS_placeCount.1 := Or.inl (zgw_p 417 (by decide +kernel) (by decide +kernel))
theorem zk_S_142 : zlk "SweptFloors$Situation" 142 mJ_bitCount.1 := Or.inl (zgw_p 421 (by decide +kernel) (by decide +kernel))
theorem zk_S_98 : zlk "SweptFloors$Situation" 98 mS_learn.1 := Or.inl (zgw_p 422 (by decide +kernel) (by decide +kernel))
theorem zk_L_44 : zlk "SweptFloorsLaw" 44 mF_rotates.1 := Or.inl (zgw_p 426 (by decide +kernel) (by decide +kernel))
theorem zk_F_121 : zlk "SweptFloors" 121 mS_turn.1 := Or.inr (znest_p 430 (by decide +kernel) rfl)
theorem zk_S_109 : zlk "SweptFloors$Situation" 109 mS_turnPlaces.1 := Or.inl (zgw_p 434 (by decide +kernel) (by decide +kernel))
theorem zk_L_48 : zlk "SweptFloorsLaw" 48 mF_scans.1 := Or.inl (zgw_p 438 (by decide +kernel) (by decide +kernel))
theorem zk_F_125 : zlk "SweptFloors" 125 mS_scanAround.1 := Or.inr (znest_p 442 (by decide +kernel) rfl)
theorem zk_S_115 : zlk "SweptFloors$Situation" 115 mS_seenAt.1 := Or.inl (zgw_p 446 (by decide +kernel) (by decide +kernel))
theorem zk_L_52 : zlk "SweptFloorsLaw" 52 mF_carries.1 := Or.inl (zgw_p 450 (by decide +kernel) (by decide +kernel))
theorem zk_F_128 : zlk "SweptFloors" 128 mS_freeCells.1 := Or.inr (znest_p 454 (by decide +kernel) rfl)
theorem zk_F_132 : zlk "SweptFloors" 132 mS_carryTo.1 := Or.inr (znest_p 455 (by decide +kernel) rfl)
theorem zk_L_56 : zlk "SweptFloorsLaw" 56 mF_goes.1 := Or.inl (zgw_p 459 (by decide +kernel) (by decide +kernel))
theorem zk_F_139 : zlk "SweptFloors" 139 mP_act.1 := Or.inr (znest_p 463 (by decide +kernel) rfl)
theorem zk_P_33 : zlk "SweptFloors$Pilot" 33 mJ_min.1 := Or.inl (zgw_p 467 (by decide +kernel) (by decide +kernel))
theorem zk_P_39 : zlk "SweptFloors$Pilot" 39 mP_nextHand.1 := Or.inl (zgw_p 468 (by decide +kernel) (by decide +kernel))
theorem zk_P_49 : zlk "SweptFloors$Pilot" 49 mP_findsTarget.1 := Or.inl (zgw_p 472 (by decide +kernel) (by decide +kernel))
theorem zk_P_88 : zlk "SweptFloors$Pilot" 88 mF_only.1 := Or.inr (znest_p 477 (by decide +kernel) rfl)
theorem zk_P_92 : zlk "SweptFloors$Pilot" 92 mG_within.1 := Or.inr (znest_p 478 (by decide +kernel) rfl)
theorem zk_G_77 : zlk "SweptFloors$Ground" 77 mG_around.1 := Or.inl (zgw_p 482 (by decide +kernel) (by decide +kernel))
theorem zk_P_96 : zlk "SweptFloors$Pilot" 96 mG_around.1 := Or.inr (znest_p 486 (by decide +kernel) rfl)
theorem zk_P_100 : zlk "SweptFloors$Pilot" 100 mF_lowestOf.1 := Or.inr (znest_p 487 (by decide +kernel) rfl)
theorem zk_P_107 : zlk "SweptFloors$Pilot" 107 mS_homeOf.1 := Or.inr (znest_p 488 (by decide +kernel) rfl)
theorem zk_S_82 : zlk "SweptFloors$Situation" 82 mG_stepsBetween.1 := Or.inr (znest_p 492 (by decide +kernel) rfl)
theorem zk_P_59 : zlk "SweptFloors$Pilot" 59 mP_handOnto.1 := Or.inl (zgw_p 496 (by decide +kernel) (by decide +kernel))
theorem zk_P_66 : zlk "SweptFloors$Pilot" 66 mG_cellBeside.1 := Or.inr (znest_p 499 (by decide +kernel) rfl)
theorem zk_P_63 : zlk "SweptFloors$Pilot" 63 mP_handNearer.1 := Or.inl (zgw_p 500 (by decide +kernel) (by decide +kernel))
theorem zk_P_73 : zlk "SweptFloors$Pilot" 73 mG_stepsBetween.1 := Or.inr (znest_p 503 (by decide +kernel) rfl)
theorem zk_P_45 : zlk "SweptFloors$Pilot" 45 mS_stepTo.1 := Or.inr (znest_p 504 (by decide +kernel) rfl)
theorem zk_L_60 : zlk "SweptFloorsLaw" 60 mF_undo.1 := Or.inl (zgw_p 505 (by decide +kernel) (by decide +kernel))
theorem zk_F_143 : zlk "SweptFloors" 143 mH_bringBack.1 := Or.inr (znest_p 509 (by decide +kernel) rfl)
theorem zk_L_64 : zlk "SweptFloorsLaw" 64 mF_robot.1 := Or.inl (zgw_p 513 (by decide +kernel) (by decide +kernel))
theorem zk_L_68 : zlk "SweptFloorsLaw" 68 mF_knows.1 := Or.inl (zgw_p 517 (by decide +kernel) (by decide +kernel))
theorem zk_F_161 : zlk "SweptFloors" 161 mS_knowledgeOf.1 := Or.inr (znest_p 521 (by decide +kernel) rfl)
theorem zk_L_72 : zlk "SweptFloorsLaw" 72 mF_home.1 := Or.inl (zgw_p 525 (by decide +kernel) (by decide +kernel))
theorem zk_F_164 : zlk "SweptFloors" 164 mS_homeOf.1 := Or.inr (znest_p 529 (by decide +kernel) rfl)
theorem zk_L_76 : zlk "SweptFloorsLaw" 76 mF_target.1 := Or.inl (zgw_p 530 (by decide +kernel) (by decide +kernel))
theorem zk_F_167 : zlk "SweptFloors" 167 mP_findsTarget.1 := Or.inr (znest_p 534 (by decide +kernel) rfl)
theorem zk_L_80 : zlk "SweptFloorsLaw" 80 mF_place.1 := Or.inl (zgw_p 535 (by decide +kernel) (by decide +kernel))
theorem zk_F_182 : zlk "SweptFloors" 182 mS_placeCount.1 := Or.inr (znest_p 539 (by decide +kernel) rfl)
theorem zk_F_185 : zlk "SweptFloors" 185 mS_placeAt.1 := Or.inr (znest_p 540 (by decide +kernel) rfl)
theorem zk_L_84 : zlk "SweptFloorsLaw" 84 mF_lane.1 := Or.inl (zgw_p 544 (by decide +kernel) (by decide +kernel))
theorem zk_F_188 : zlk "SweptFloors" 188 mG_beside.1 := Or.inr (znest_p 548 (by decide +kernel) rfl)
theorem zk_F_194 : zlk "SweptFloors" 194 mF_memberAt.1 := Or.inl (zgw_p 550 (by decide +kernel) (by decide +kernel))
theorem zk_F_248 : zlk "SweptFloors" 248 mF_lowestOf.1 := Or.inl (zgw_p 553 (by decide +kernel) (by decide +kernel))
theorem zk_F_198 : zlk "SweptFloors" 198 mF_laneLength.1 := Or.inl (zgw_p 554 (by decide +kernel) (by decide +kernel))
theorem zk_L_88 : zlk "SweptFloorsLaw" 88 mF_room.1 := Or.inl (zgw_p 558 (by decide +kernel) (by decide +kernel))
theorem zk_F_208 : zlk "SweptFloors" 208 mG_within.1 := Or.inr (znest_p 562 (by decide +kernel) rfl)
theorem zk_L_92 : zlk "SweptFloorsLaw" 92 mF_reach.1 := Or.inl (zgw_p 563 (by decide +kernel) (by decide +kernel))
theorem zk_F_212 : zlk "SweptFloors" 212 mG_mostSteps.1 := Or.inr (znest_p 567 (by decide +kernel) rfl)
theorem zk_L_96 : zlk "SweptFloorsLaw" 96 mF_when.1 := Or.inl (zgw_p 571 (by decide +kernel) (by decide +kernel))
theorem zk_F_215 : zlk "SweptFloors" 215 mS_copyFrom.1 := Or.inr (znest_p 575 (by decide +kernel) rfl)
theorem zk_F_218 : zlk "SweptFloors" 218 mP_isThrough.1 := Or.inr (znest_p 576 (by decide +kernel) rfl)
theorem zk_L_100 : zlk "SweptFloorsLaw" 100 mF_keep.1 := Or.inl (zgw_p 580 (by decide +kernel) (by decide +kernel))
theorem zk_F_221 : zlk "SweptFloors" 221 mA_putIn.1 := Or.inr (znest_p 584 (by decide +kernel) rfl)
theorem zk_A_24 : zlk "SweptFloors$Album" 24 mS_copyFrom.1 := Or.inr (znest_p 588 (by decide +kernel) rfl)
theorem zk_L_104 : zlk "SweptFloorsLaw" 104 mF_back.1 := Or.inl (zgw_p 589 (by decide +kernel) (by decide +kernel))
theorem zk_F_225 : zlk "SweptFloors" 225 mA_takeOut.1 := Or.inr (znest_p 593 (by decide +kernel) rfl)
theorem zk_L_108 : zlk "SweptFloorsLaw" 108 mF_count.1 := Or.inl (zgw_p 597 (by decide +kernel) (by decide +kernel))
theorem zk_L_12 : zlk "SweptFloorsLaw" 12 mM_init.1 := Or.inl (zgw_p 603 (by decide +kernel) (by decide +kernel))
theorem zk_M_1 : Cond.methodLink "SweptFloorsModel" 1 Lib.objectInit ∈ zgw := zgw_p 606 (by decide +kernel) (by decide +kernel)
theorem zk_M_54 : zlk "SweptFloorsModel" 54 mM_begins.1 := Or.inl (zgw_p 607 (by decide +kernel) (by decide +kernel))
theorem zk_M_57 : zlk "SweptFloorsModel" 57 mM_cells.1 := Or.inl (zgw_p 611 (by decide +kernel) (by decide +kernel))
theorem zk_L_17 : zlk "SweptFloorsLaw" 17 mM_type.1 := Or.inl (zgw_p 691 (by decide +kernel) (by decide +kernel))
theorem zk_M_67 : zlk "SweptFloorsModel" 67 mM_in.1 := Or.inl (zgw_p 695 (by decide +kernel) (by decide +kernel))
theorem zk_L_22 : zlk "SweptFloorsLaw" 22 mM_clear.1 := Or.inl (zgw_p 698 (by decide +kernel) (by decide +kernel))
theorem zk_L_26 : zlk "SweptFloorsLaw" 26 mM_floor.1 := Or.inl (zgw_p 702 (by decide +kernel) (by decide +kernel))
theorem zk_M_90 : zlk "SweptFloorsModel" 90 mM_takes.1 := Or.inl (zgw_p 706 (by decide +kernel) (by decide +kernel))
theorem zk_M_83 : zlk "SweptFloorsModel" 83 mM_kindOf.1 := Or.inl (zgw_p 710 (by decide +kernel) (by decide +kernel))
theorem zk_L_30 : zlk "SweptFloorsLaw" 30 mM_cell.1 := Or.inl (zgw_p 713 (by decide +kernel) (by decide +kernel))
theorem zk_M_94 : zlk "SweptFloorsModel" 94 mM_isCell.1 := Or.inl (zgw_p 717 (by decide +kernel) (by decide +kernel))
theorem zk_L_35 : zlk "SweptFloorsLaw" 35 mM_powers.1 := Or.inl (zgw_p 721 (by decide +kernel) (by decide +kernel))
theorem zk_M_97 : zlk "SweptFloorsModel" 97 mM_remembers.1 := Or.inl (zgw_p 725 (by decide +kernel) (by decide +kernel))
theorem zk_L_39 : zlk "SweptFloorsLaw" 39 mM_moves.1 := Or.inl (zgw_p 729 (by decide +kernel) (by decide +kernel))
theorem zk_M_100 : zlk "SweptFloorsModel" 100 mM_isDoor.1 := Or.inl (zgw_p 733 (by decide +kernel) (by decide +kernel))
theorem zk_L_43 : zlk "SweptFloorsLaw" 43 mM_steps.1 := Or.inl (zgw_p 737 (by decide +kernel) (by decide +kernel))
theorem zk_M_130 : zlk "SweptFloorsModel" 130 mM_stepTo.1 := Or.inl (zgw_p 741 (by decide +kernel) (by decide +kernel))
theorem zk_M_109 : zlk "SweptFloorsModel" 109 mM_beside.1 := Or.inl (zgw_p 745 (by decide +kernel) (by decide +kernel))
theorem zk_M_123 : zlk "SweptFloorsModel" 123 mM_toldOf.1 := Or.inl (zgw_p 749 (by decide +kernel) (by decide +kernel))
theorem zk_M_103 : zlk "SweptFloorsModel" 103 mM_isFree.1 := Or.inl (zgw_p 753 (by decide +kernel) (by decide +kernel))
theorem zk_M_126 : zlk "SweptFloorsModel" 126 mM_stepsPlaces.1 := Or.inl (zgw_p 757 (by decide +kernel) (by decide +kernel))
theorem zk_M_113 : zlk "SweptFloorsModel" 113 mM_canBe.1 := Or.inl (zgw_p 761 (by decide +kernel) (by decide +kernel))
theorem zk_M_117 : zlk "SweptFloorsModel" 117 mM_becomePlaces.1 := Or.inl (zgw_p 765 (by decide +kernel) (by decide +kernel))
theorem zk_M_120 : zlk "SweptFloorsModel" 120 mM_findsMaybe.1 := Or.inl (zgw_p 769 (by decide +kernel) (by decide +kernel))
theorem zk_M_106 : zlk "SweptFloorsModel" 106 mM_manyPlaces.1 := Or.inl (zgw_p 773 (by decide +kernel) (by decide +kernel))
theorem zk_L_47 : zlk "SweptFloorsLaw" 47 mM_rotates.1 := Or.inl (zgw_p 777 (by decide +kernel) (by decide +kernel))
theorem zk_L_51 : zlk "SweptFloorsLaw" 51 mM_scans.1 := Or.inl (zgw_p 781 (by decide +kernel) (by decide +kernel))
theorem zk_M_136 : zlk "SweptFloorsModel" 136 mM_canScan.1 := Or.inl (zgw_p 785 (by decide +kernel) (by decide +kernel))
theorem zk_M_133 : zlk "SweptFloorsModel" 133 mM_part.1 := Or.inl (zgw_p 789 (by decide +kernel) (by decide +kernel))
theorem zk_L_55 : zlk "SweptFloorsLaw" 55 mM_carries.1 := Or.inl (zgw_p 792 (by decide +kernel) (by decide +kernel))
theorem zk_L_59 : zlk "SweptFloorsLaw" 59 mM_goes.1 := Or.inl (zgw_p 796 (by decide +kernel) (by decide +kernel))
theorem zk_M_168 : zlk "SweptFloorsModel" 168 mM_acts.1 := Or.inl (zgw_p 800 (by decide +kernel) (by decide +kernel))
theorem zk_M_158 : zlk "SweptFloorsModel" 158 mM_laysTarget.1 := Or.inl (zgw_p 804 (by decide +kernel) (by decide +kernel))
theorem zk_M_139 : zlk "SweptFloorsModel" 139 mM_lays.1 := Or.inl (zgw_p 808 (by decide +kernel) (by decide +kernel))
theorem zk_M_146 : zlk "SweptFloorsModel" 146 mM_looksFor.1 := Or.inl (zgw_p 812 (by decide +kernel) (by decide +kernel))
theorem zk_M_161 : zlk "SweptFloorsModel" 161 mM_handOn.1 := Or.inl (zgw_p 816 (by decide +kernel) (by decide +kernel))
theorem zk_M_164 : zlk "SweptFloorsModel" 164 mM_handTo.1 := Or.inl (zgw_p 820 (by decide +kernel) (by decide +kernel))
theorem zk_L_63 : zlk "SweptFloorsLaw" 63 mM_undo.1 := Or.inl (zgw_p 824 (by decide +kernel) (by decide +kernel))
theorem zk_L_67 : zlk "SweptFloorsLaw" 67 mM_robot.1 := Or.inl (zgw_p 828 (by decide +kernel) (by decide +kernel))
theorem zk_M_172 : zlk "SweptFloorsModel" 172 mM_manyKnown.1 := Or.inl (zgw_p 832 (by decide +kernel) (by decide +kernel))
theorem zk_L_71 : zlk "SweptFloorsLaw" 71 mM_knows.1 := Or.inl (zgw_p 836 (by decide +kernel) (by decide +kernel))
theorem zk_L_75 : zlk "SweptFloorsLaw" 75 mM_home.1 := Or.inl (zgw_p 840 (by decide +kernel) (by decide +kernel))
theorem zk_L_79 : zlk "SweptFloorsLaw" 79 mM_target.1 := Or.inl (zgw_p 844 (by decide +kernel) (by decide +kernel))
theorem zk_L_83 : zlk "SweptFloorsLaw" 83 mM_place.1 := Or.inl (zgw_p 848 (by decide +kernel) (by decide +kernel))
theorem zk_L_87 : zlk "SweptFloorsLaw" 87 mM_lane.1 := Or.inl (zgw_p 852 (by decide +kernel) (by decide +kernel))
theorem zk_M_175 : zlk "SweptFloorsModel" 175 mM_isFirst.1 := Or.inl (zgw_p 856 (by decide +kernel) (by decide +kernel))
theorem zk_M_178 : zlk "SweptFloorsModel" 178 mM_longOf.1 := Or.inl (zgw_p 860 (by decide +kernel) (by decide +kernel))
theorem zk_L_91 : zlk "SweptFloorsLaw" 91 mM_room.1 := Or.inl (zgw_p 864 (by decide +kernel) (by decide +kernel))
theorem zk_M_184 : zlk "SweptFloorsModel" 184 mM_laysRooms.1 := Or.inl (zgw_p 868 (by decide +kernel) (by decide +kernel))
theorem zk_M_181 : zlk "SweptFloorsModel" 181 mM_isOfRoom.1 := Or.inl (zgw_p 872 (by decide +kernel) (by decide +kernel))
theorem zk_L_95 : zlk "SweptFloorsLaw" 95 mM_reach.1 := Or.inl (zgw_p 876 (by decide +kernel) (by decide +kernel))
theorem zk_L_99 : zlk "SweptFloorsLaw" 99 mM_when.1 := Or.inl (zgw_p 880 (by decide +kernel) (by decide +kernel))
theorem zk_M_187 : zlk "SweptFloorsModel" 187 mM_isAllDone.1 := Or.inl (zgw_p 884 (by decide +kernel) (by decide +kernel))
theorem zk_L_103 : zlk "SweptFloorsLaw" 103 mM_keep.1 := Or.inl (zgw_p 888 (by decide +kernel) (by decide +kernel))
theorem zk_L_107 : zlk "SweptFloorsLaw" 107 mM_back.1 := Or.inl (zgw_p 892 (by decide +kernel) (by decide +kernel))
theorem zk_L_111 : zlk "SweptFloorsLaw" 111 mM_count.1 := Or.inl (zgw_p 896 (by decide +kernel) (by decide +kernel))
theorem zoi_i : Cond.instanceMethod Lib.objectInit ∈ zgw := zgw_p 18 (by decide +kernel) (by decide +kernel)
theorem zoi_c : Cond.code Lib.objectInit ⟨#[0xb1]⟩ 1 none ∈ zgw := zgw_p 19 (by decide +kernel) (by decide +kernel)
theorem zac_n : Cond.native arraycopyName ∈ zgw := zgw_p 344 (by decide +kernel) (by decide +kernel)
theorem zac_s : Cond.static arraycopyName ∈ zgw := zgw_p 343 (by decide +kernel) (by decide +kernel)
theorem zac_i : Cond.initialized "java/lang/System" ∈ zgw := zgw_p 9 (by decide +kernel) (by decide +kernel)
theorem zar_int : Cond.arrayClass (newarray.typeOf .int) ∈ zgw := zgw_p 57 (by decide +kernel) (by decide +kernel)
theorem zar_long : Cond.arrayClass (newarray.typeOf .long) ∈ zgw := zgw_p 165 (by decide +kernel) (by decide +kernel)
theorem zar_boolean : Cond.arrayClass (newarray.typeOf .boolean) ∈ zgw := zgw_p 224 (by decide +kernel) (by decide +kernel)
theorem zar_o : Cond.arrayOver (.object "SweptFloors$Situation") ∈ lw_tbl := List.mem_append_right _ (List.mem_of_getElem? (i := 196) (by decide +kernel))
theorem zf_T_9 : zfl "SweptFloors$Text" 9 1 0 true (.array (.int)) := ⟨zR_T, zT_T, 8, zY_T, rfl, by decide, zi_T, zy_T, zn_T, rfl, rfl, rfl, Or.inl (zgw_p 26 (by decide +kernel) (by decide +kernel))⟩
theorem zfF_T_9 : zflF "SweptFloors$Text" 9 1 0 (.array (.int)) := ⟨zT_T, 8, zY_T, rfl, by decide, zi_T, zy_T, zn_T, rfl, rfl, rfl, zgw_p 26 (by decide +kernel) (by decide +kernel)⟩
theorem zf_T_18 : zfl "SweptFloors$Text" 18 1 1 false .int := ⟨zR_T, zT_T, 8, zY_T, rfl, by decide, zi_T, zy_T, zn_T, rfl, rfl, rfl, Or.inl (zgw_p 27 (by decide +kernel) (by decide +kernel))⟩
theorem zf_F_64 : zfl "SweptFloors" 64 1 1 false .int := ⟨zR_T, zT_T, 8, zY_T, rfl, by decide, zi_T, zy_T, zn_T, rfl, rfl, rfl, Or.inr (znest_p 28 (by decide +kernel) rfl)⟩
theorem zf_T_15 : zfl "SweptFloors$Text" 15 1 2 true (.array (.int)) := ⟨zR_T, zT_T, 8, zY_T, rfl, by decide, zi_T, zy_T, zn_T, rfl, rfl, rfl, Or.inl (zgw_p 29 (by decide +kernel) (by decide +kernel))⟩
theorem zfF_T_15 : zflF "SweptFloors$Text" 15 1 2 (.array (.int)) := ⟨zT_T, 8, zY_T, rfl, by decide, zi_T, zy_T, zn_T, rfl, rfl, rfl, zgw_p 29 (by decide +kernel) (by decide +kernel)⟩
theorem zf_G_63 : zfl "SweptFloors$Ground" 63 1 2 true (.array (.int)) := ⟨zR_T, zT_T, 8, zY_T, rfl, by decide, zi_T, zy_T, zn_T, rfl, rfl, rfl, Or.inr (znest_p 30 (by decide +kernel) rfl)⟩
theorem zf_T_22 : zfl "SweptFloors$Text" 22 1 3 false .int := ⟨zR_T, zT_T, 8, zY_T, rfl, by decide, zi_T, zy_T, zn_T, rfl, rfl, rfl, Or.inl (zgw_p 31 (by decide +kernel) (by decide +kernel))⟩
theorem zf_G_60 : zfl "SweptFloors$Ground" 60 1 3 false .int := ⟨zR_T, zT_T, 8, zY_T, rfl, by decide, zi_T, zy_T, zn_T, rfl, rfl, rfl, Or.inr (znest_p 32 (by decide +kernel) rfl)⟩
theorem zf_G_9 : zfl "SweptFloors$Ground" 9 1 4 false .int := ⟨zR_T, zT_T, 8, zY_T, rfl, by decide, zi_T, zy_T, zn_T, rfl, rfl, rfl, Or.inr (znest_p 33 (by decide +kernel) rfl)⟩
theorem zf_T_25 : zfl "SweptFloors$Text" 25 1 4 false .int := ⟨zR_T, zT_T, 8, zY_T, rfl, by decide, zi_T, zy_T, zn_T, rfl, rfl, rfl, Or.inl (zgw_p 34 (by decide +kernel) (by decide +kernel))⟩
theorem zf_G_18 : zfl "SweptFloors$Ground" 18 1 5 false .int := ⟨zR_T, zT_T, 8, zY_T, rfl, by decide, zi_T, zy_T, zn_T, rfl, rfl, rfl, Or.inr (znest_p 35 (by decide +kernel) rfl)⟩
theorem zf_T_28 : zfl "SweptFloors$Text" 28 1 5 false .int := ⟨zR_T, zT_T, 8, zY_T, rfl, by decide, zi_T, zy_T, zn_T, rfl, rfl, rfl, Or.inl (zgw_p 36 (by decide +kernel) (by decide +kernel))⟩
theorem zf_T_31 : zfl "SweptFloors$Text" 31 1 6 false .int := ⟨zR_T, zT_T, 8, zY_T, rfl, by decide, zi_T, zy_T, zn_T, rfl, rfl, rfl, Or.inl (zgw_p 37 (by decide +kernel) (by decide +kernel))⟩
theorem zf_G_22 : zfl "SweptFloors$Ground" 22 1 7 false .int := ⟨zR_T, zT_T, 8, zY_T, rfl, by decide, zi_T, zy_T, zn_T, rfl, rfl, rfl, Or.inr (znest_p 38 (by decide +kernel) rfl)⟩
theorem zf_T_34 : zfl "SweptFloors$Text" 34 1 7 false .int := ⟨zR_T, zT_T, 8, zY_T, rfl, by decide, zi_T, zy_T, zn_T, rfl, rfl, rfl, Or.inl (zgw_p 39 (by decide +kernel) (by decide +kernel))⟩
theorem zf_G_15 : zfl "SweptFloors$Ground" 15 2 0 false .int := ⟨zR_G, zT_G, 10, zY_G, rfl, by decide, zi_G, zy_G, zn_G, rfl, rfl, rfl, Or.inl (zgw_p 64 (by decide +kernel) (by decide +kernel))⟩
theorem zf_F_229 : zfl "SweptFloors" 229 2 0 false .int := ⟨zR_G, zT_G, 10, zY_G, rfl, by decide, zi_G, zy_G, zn_G, rfl, rfl, rfl, Or.inr (znest_p 65 (by decide +kernel) rfl)⟩
theorem zf_G_21 : zfl "SweptFloors$Ground" 21 2 1 false .int := ⟨zR_G, zT_G, 10, zY_G, rfl, by decide, zi_G, zy_G, zn_G, rfl, rfl, rfl, Or.inl (zgw_p 66 (by decide +kernel) (by decide +kernel))⟩
theorem zf_F_232 : zfl "SweptFloors" 232 2 1 false .int := ⟨zR_G, zT_G, 10, zY_G, rfl, by decide, zi_G, zy_G, zn_G, rfl, rfl, rfl, Or.inr (znest_p 67 (by decide +kernel) rfl)⟩
theorem zf_P_19 : zfl "SweptFloors$Pilot" 19 2 2 false .int := ⟨zR_G, zT_G, 10, zY_G, rfl, by decide, zi_G, zy_G, zn_G, rfl, rfl, rfl, Or.inr (znest_p 68 (by decide +kernel) rfl)⟩
theorem zf_G_25 : zfl "SweptFloors$Ground" 25 2 2 false .int := ⟨zR_G, zT_G, 10, zY_G, rfl, by decide, zi_G, zy_G, zn_G, rfl, rfl, rfl, Or.inl (zgw_p 69 (by decide +kernel) (by decide +kernel))⟩
theorem zf_S_30 : zfl "SweptFloors$Situation" 30 2 2 false .int := ⟨zR_G, zT_G, 10, zY_G, rfl, by decide, zi_G, zy_G, zn_G, rfl, rfl, rfl, Or.inr (znest_p 70 (by decide +kernel) rfl)⟩
theorem zf_F_205 : zfl "SweptFloors" 205 2 2 false .int := ⟨zR_G, zT_G, 10, zY_G, rfl, by decide, zi_G, zy_G, zn_G, rfl, rfl, rfl, Or.inr (znest_p 71 (by decide +kernel) rfl)⟩
theorem zf_G_30 : zfl "SweptFloors$Ground" 30 2 3 false .long := ⟨zR_G, zT_G, 10, zY_G, rfl, by decide, zi_G, zy_G, zn_G, rfl, rfl, rfl, Or.inl (zgw_p 72 (by decide +kernel) (by decide +kernel))⟩
theorem zf_P_77 : zfl "SweptFloors$Pilot" 77 2 3 false .long := ⟨zR_G, zT_G, 10, zY_G, rfl, by decide, zi_G, zy_G, zn_G, rfl, rfl, rfl, Or.inr (znest_p 73 (by decide +kernel) rfl)⟩
theorem zf_S_139 : zfl "SweptFloors$Situation" 139 2 3 false .long := ⟨zR_G, zT_G, 10, zY_G, rfl, by decide, zi_G, zy_G, zn_G, rfl, rfl, rfl, Or.inr (znest_p 74 (by decide +kernel) rfl)⟩
theorem zf_G_38 : zfl "SweptFloors$Ground" 38 2 4 false .long := ⟨zR_G, zT_G, 10, zY_G, rfl, by decide, zi_G, zy_G, zn_G, rfl, rfl, rfl, Or.inl (zgw_p 75 (by decide +kernel) (by decide +kernel))⟩
theorem zf_S_64 : zfl "SweptFloors$Situation" 64 2 4 false .long := ⟨zR_G, zT_G, 10, zY_G, rfl, by decide, zi_G, zy_G, zn_G, rfl, rfl, rfl, Or.inr (znest_p 76 (by decide +kernel) rfl)⟩
theorem zf_F_202 : zfl "SweptFloors" 202 2 4 false .long := ⟨zR_G, zT_G, 10, zY_G, rfl, by decide, zi_G, zy_G, zn_G, rfl, rfl, rfl, Or.inr (znest_p 77 (by decide +kernel) rfl)⟩
theorem zf_G_41 : zfl "SweptFloors$Ground" 41 2 5 false .long := ⟨zR_G, zT_G, 10, zY_G, rfl, by decide, zi_G, zy_G, zn_G, rfl, rfl, rfl, Or.inl (zgw_p 78 (by decide +kernel) (by decide +kernel))⟩
theorem zf_S_79 : zfl "SweptFloors$Situation" 79 2 5 false .long := ⟨zR_G, zT_G, 10, zY_G, rfl, by decide, zi_G, zy_G, zn_G, rfl, rfl, rfl, Or.inr (znest_p 79 (by decide +kernel) rfl)⟩
theorem zf_G_44 : zfl "SweptFloors$Ground" 44 2 6 false .long := ⟨zR_G, zT_G, 10, zY_G, rfl, by decide, zi_G, zy_G, zn_G, rfl, rfl, rfl, Or.inl (zgw_p 80 (by decide +kernel) (by decide +kernel))⟩
theorem zf_S_76 : zfl "SweptFloors$Situation" 76 2 6 false .long := ⟨zR_G, zT_G, 10, zY_G, rfl, by decide, zi_G, zy_G, zn_G, rfl, rfl, rfl, Or.inr (znest_p 81 (by decide +kernel) rfl)⟩
theorem zf_P_80 : zfl "SweptFloors$Pilot" 80 2 6 false .long := ⟨zR_G, zT_G, 10, zY_G, rfl, by decide, zi_G, zy_G, zn_G, rfl, rfl, rfl, Or.inr (znest_p 82 (by decide +kernel) rfl)⟩
theorem zf_G_47 : zfl "SweptFloors$Ground" 47 2 7 false .long := ⟨zR_G, zT_G, 10, zY_G, rfl, by decide, zi_G, zy_G, zn_G, rfl, rfl, rfl, Or.inl (zgw_p 83 (by decide +kernel) (by decide +kernel))⟩
theorem zf_S_67 : zfl "SweptFloors$Situation" 67 2 7 false .long := ⟨zR_G, zT_G, 10, zY_G, rfl, by decide, zi_G, zy_G, zn_G, rfl, rfl, rfl, Or.inr (znest_p 84 (by decide +kernel) rfl)⟩
theorem zf_F_97 : zfl "SweptFloors" 97 2 7 false .long := ⟨zR_G, zT_G, 10, zY_G, rfl, by decide, zi_G, zy_G, zn_G, rfl, rfl, rfl, Or.inr (znest_p 85 (by decide +kernel) rfl)⟩
theorem zf_G_50 : zfl "SweptFloors$Ground" 50 2 8 false .long := ⟨zR_G, zT_G, 10, zY_G, rfl, by decide, zi_G, zy_G, zn_G, rfl, rfl, rfl, Or.inl (zgw_p 86 (by decide +kernel) (by decide +kernel))⟩
theorem zf_G_57 : zfl "SweptFloors$Ground" 57 2 9 false .long := ⟨zR_G, zT_G, 10, zY_G, rfl, by decide, zi_G, zy_G, zn_G, rfl, rfl, rfl, Or.inl (zgw_p 87 (by decide +kernel) (by decide +kernel))⟩
theorem zf_S_15 : zfl "SweptFloors$Situation" 15 3 0 true (.object "SweptFloors$Ground") := ⟨zR_S, zT_S, 11, zY_S, rfl, by decide, zi_S, zy_S, zn_S, rfl, rfl, rfl, Or.inl (zgw_p 115 (by decide +kernel) (by decide +kernel))⟩
theorem zfF_S_15 : zflF "SweptFloors$Situation" 15 3 0 (.object "SweptFloors$Ground") := ⟨zT_S, 11, zY_S, rfl, by decide, zi_S, zy_S, zn_S, rfl, rfl, rfl, zgw_p 115 (by decide +kernel) (by decide +kernel)⟩
theorem zf_P_15 : zfl "SweptFloors$Pilot" 15 3 0 true (.object "SweptFloors$Ground") := ⟨zR_S, zT_S, 11, zY_S, rfl, by decide, zi_S, zy_S, zn_S, rfl, rfl, rfl, Or.inr (znest_p 116 (by decide +kernel) rfl)⟩
theorem zf_S_19 : zfl "SweptFloors$Situation" 19 3 1 false .long := ⟨zR_S, zT_S, 11, zY_S, rfl, by decide, zi_S, zy_S, zn_S, rfl, rfl, rfl, Or.inl (zgw_p 117 (by decide +kernel) (by decide +kernel))⟩
theorem zf_F_108 : zfl "SweptFloors" 108 3 1 false .long := ⟨zR_S, zT_S, 11, zY_S, rfl, by decide, zi_S, zy_S, zn_S, rfl, rfl, rfl, Or.inr (znest_p 118 (by decide +kernel) rfl)⟩
theorem zf_S_23 : zfl "SweptFloors$Situation" 23 3 2 false .int := ⟨zR_S, zT_S, 11, zY_S, rfl, by decide, zi_S, zy_S, zn_S, rfl, rfl, rfl, Or.inl (zgw_p 119 (by decide +kernel) (by decide +kernel))⟩
theorem zf_P_27 : zfl "SweptFloors$Pilot" 27 3 2 false .int := ⟨zR_S, zT_S, 11, zY_S, rfl, by decide, zi_S, zy_S, zn_S, rfl, rfl, rfl, Or.inr (znest_p 120 (by decide +kernel) rfl)⟩
theorem zf_F_78 : zfl "SweptFloors" 78 3 2 false .int := ⟨zR_S, zT_S, 11, zY_S, rfl, by decide, zi_S, zy_S, zn_S, rfl, rfl, rfl, Or.inr (znest_p 121 (by decide +kernel) rfl)⟩
theorem zf_S_27 : zfl "SweptFloors$Situation" 27 3 3 false .int := ⟨zR_S, zT_S, 11, zY_S, rfl, by decide, zi_S, zy_S, zn_S, rfl, rfl, rfl, Or.inl (zgw_p 122 (by decide +kernel) (by decide +kernel))⟩
theorem zf_P_30 : zfl "SweptFloors$Pilot" 30 3 3 false .int := ⟨zR_S, zT_S, 11, zY_S, rfl, by decide, zi_S, zy_S, zn_S, rfl, rfl, rfl, Or.inr (znest_p 123 (by decide +kernel) rfl)⟩
theorem zf_F_81 : zfl "SweptFloors" 81 3 3 false .int := ⟨zR_S, zT_S, 11, zY_S, rfl, by decide, zi_S, zy_S, zn_S, rfl, rfl, rfl, Or.inr (znest_p 124 (by decide +kernel) rfl)⟩
theorem zf_P_9 : zfl "SweptFloors$Pilot" 9 3 4 false .int := ⟨zR_S, zT_S, 11, zY_S, rfl, by decide, zi_S, zy_S, zn_S, rfl, rfl, rfl, Or.inr (znest_p 125 (by decide +kernel) rfl)⟩
theorem zf_S_35 : zfl "SweptFloors$Situation" 35 3 4 false .int := ⟨zR_S, zT_S, 11, zY_S, rfl, by decide, zi_S, zy_S, zn_S, rfl, rfl, rfl, Or.inl (zgw_p 126 (by decide +kernel) (by decide +kernel))⟩
theorem zf_F_105 : zfl "SweptFloors" 105 3 4 false .int := ⟨zR_S, zT_S, 11, zY_S, rfl, by decide, zi_S, zy_S, zn_S, rfl, rfl, rfl, Or.inr (znest_p 127 (by decide +kernel) rfl)⟩
theorem zf_S_38 : zfl "SweptFloors$Situation" 38 3 5 false .int := ⟨zR_S, zT_S, 11, zY_S, rfl, by decide, zi_S, zy_S, zn_S, rfl, rfl, rfl, Or.inl (zgw_p 128 (by decide +kernel) (by decide +kernel))⟩
theorem zf_F_115 : zfl "SweptFloors" 115 3 5 false .int := ⟨zR_S, zT_S, 11, zY_S, rfl, by decide, zi_S, zy_S, zn_S, rfl, rfl, rfl, Or.inr (znest_p 129 (by decide +kernel) rfl)⟩
theorem zf_P_24 : zfl "SweptFloors$Pilot" 24 3 6 false .int := ⟨zR_S, zT_S, 11, zY_S, rfl, by decide, zi_S, zy_S, zn_S, rfl, rfl, rfl, Or.inr (znest_p 130 (by decide +kernel) rfl)⟩
theorem zf_S_41 : zfl "SweptFloors$Situation" 41 3 6 false .int := ⟨zR_S, zT_S, 11, zY_S, rfl, by decide, zi_S, zy_S, zn_S, rfl, rfl, rfl, Or.inl (zgw_p 131 (by decide +kernel) (by decide +kernel))⟩
theorem zf_F_88 : zfl "SweptFloors" 88 3 6 false .int := ⟨zR_S, zT_S, 11, zY_S, rfl, by decide, zi_S, zy_S, zn_S, rfl, rfl, rfl, Or.inr (znest_p 132 (by decide +kernel) rfl)⟩
theorem zf_S_48 : zfl "SweptFloors$Situation" 48 3 7 false .long := ⟨zR_S, zT_S, 11, zY_S, rfl, by decide, zi_S, zy_S, zn_S, rfl, rfl, rfl, Or.inl (zgw_p 133 (by decide +kernel) (by decide +kernel))⟩
theorem zf_P_69 : zfl "SweptFloors$Pilot" 69 3 7 false .long := ⟨zR_S, zT_S, 11, zY_S, rfl, by decide, zi_S, zy_S, zn_S, rfl, rfl, rfl, Or.inr (znest_p 134 (by decide +kernel) rfl)⟩
theorem zf_F_149 : zfl "SweptFloors" 149 3 7 false .long := ⟨zR_S, zT_S, 11, zY_S, rfl, by decide, zi_S, zy_S, zn_S, rfl, rfl, rfl, Or.inr (znest_p 135 (by decide +kernel) rfl)⟩
theorem zf_S_51 : zfl "SweptFloors$Situation" 51 3 8 false .long := ⟨zR_S, zT_S, 11, zY_S, rfl, by decide, zi_S, zy_S, zn_S, rfl, rfl, rfl, Or.inl (zgw_p 136 (by decide +kernel) (by decide +kernel))⟩
theorem zf_P_85 : zfl "SweptFloors$Pilot" 85 3 8 false .long := ⟨zR_S, zT_S, 11, zY_S, rfl, by decide, zi_S, zy_S, zn_S, rfl, rfl, rfl, Or.inr (znest_p 137 (by decide +kernel) rfl)⟩
theorem zf_F_158 : zfl "SweptFloors" 158 3 8 false .long := ⟨zR_S, zT_S, 11, zY_S, rfl, by decide, zi_S, zy_S, zn_S, rfl, rfl, rfl, Or.inr (znest_p 138 (by decide +kernel) rfl)⟩
theorem zf_S_54 : zfl "SweptFloors$Situation" 54 3 9 false .boolean := ⟨zR_S, zT_S, 11, zY_S, rfl, by decide, zi_S, zy_S, zn_S, rfl, rfl, rfl, Or.inl (zgw_p 139 (by decide +kernel) (by decide +kernel))⟩
theorem zf_F_135 : zfl "SweptFloors" 135 3 9 false .boolean := ⟨zR_S, zT_S, 11, zY_S, rfl, by decide, zi_S, zy_S, zn_S, rfl, rfl, rfl, Or.inr (znest_p 140 (by decide +kernel) rfl)⟩
theorem zf_S_9 : zfl "SweptFloors$Situation" 9 3 10 true (.array (.long)) := ⟨zR_S, zT_S, 11, zY_S, rfl, by decide, zi_S, zy_S, zn_S, rfl, rfl, rfl, Or.inl (zgw_p 141 (by decide +kernel) (by decide +kernel))⟩
theorem zfF_S_9 : zflF "SweptFloors$Situation" 9 3 10 (.array (.long)) := ⟨zT_S, 11, zY_S, rfl, by decide, zi_S, zy_S, zn_S, rfl, rfl, rfl, zgw_p 141 (by decide +kernel) (by decide +kernel)⟩
theorem zf_P_56 : zfl "SweptFloors$Pilot" 56 4 0 false .int := ⟨zR_P, zT_P, 4, zY_P, rfl, by decide, zi_P, zy_P, zn_P, rfl, rfl, rfl, Or.inl (zgw_p 172 (by decide +kernel) (by decide +kernel))⟩
theorem zf_F_170 : zfl "SweptFloors" 170 4 0 false .int := ⟨zR_P, zT_P, 4, zY_P, rfl, by decide, zi_P, zy_P, zn_P, rfl, rfl, rfl, Or.inr (znest_p 173 (by decide +kernel) rfl)⟩
theorem zf_P_53 : zfl "SweptFloors$Pilot" 53 4 1 false .int := ⟨zR_P, zT_P, 4, zY_P, rfl, by decide, zi_P, zy_P, zn_P, rfl, rfl, rfl, Or.inl (zgw_p 174 (by decide +kernel) (by decide +kernel))⟩
theorem zf_F_179 : zfl "SweptFloors" 179 4 1 false .int := ⟨zR_P, zT_P, 4, zY_P, rfl, by decide, zi_P, zy_P, zn_P, rfl, rfl, rfl, Or.inr (znest_p 175 (by decide +kernel) rfl)⟩
theorem zf_P_104 : zfl "SweptFloors$Pilot" 104 4 2 false .int := ⟨zR_P, zT_P, 4, zY_P, rfl, by decide, zi_P, zy_P, zn_P, rfl, rfl, rfl, Or.inl (zgw_p 176 (by decide +kernel) (by decide +kernel))⟩
theorem zf_F_173 : zfl "SweptFloors" 173 4 2 false .int := ⟨zR_P, zT_P, 4, zY_P, rfl, by decide, zi_P, zy_P, zn_P, rfl, rfl, rfl, Or.inr (znest_p 177 (by decide +kernel) rfl)⟩
theorem zf_P_110 : zfl "SweptFloors$Pilot" 110 4 3 false .int := ⟨zR_P, zT_P, 4, zY_P, rfl, by decide, zi_P, zy_P, zn_P, rfl, rfl, rfl, Or.inl (zgw_p 178 (by decide +kernel) (by decide +kernel))⟩
theorem zf_F_176 : zfl "SweptFloors" 176 4 3 false .int := ⟨zR_P, zT_P, 4, zY_P, rfl, by decide, zi_P, zy_P, zn_P, rfl, rfl, rfl, Or.inr (znest_p 179 (by decide +kernel) rfl)⟩
theorem zf_H_11 : zfl "SweptFloors$History" 11 5 0 true (.array (.object "SweptFloors$Situation")) := ⟨zR_H, zT_H, 3, zY_H, rfl, by decide, zi_H, zy_H, zn_H, rfl, rfl, rfl, Or.inl (zgw_p 198 (by decide +kernel) (by decide +kernel))⟩
theorem zfF_H_11 : zflF "SweptFloors$History" 11 5 0 (.array (.object "SweptFloors$Situation")) := ⟨zT_H, 3, zY_H, rfl, by decide, zi_H, zy_H, zn_H, rfl, rfl, rfl, zgw_p 198 (by decide +kernel) (by decide +kernel)⟩
theorem zf_H_20 : zfl "SweptFloors$History" 20 5 1 false .int := ⟨zR_H, zT_H, 3, zY_H, rfl, by decide, zi_H, zy_H, zn_H, rfl, rfl, rfl, Or.inl (zgw_p 199 (by decide +kernel) (by decide +kernel))⟩
theorem zf_H_32 : zfl "SweptFloors$History" 32 5 2 false .int := ⟨zR_H, zT_H, 3, zY_H, rfl, by decide, zi_H, zy_H, zn_H, rfl, rfl, rfl, Or.inl (zgw_p 200 (by decide +kernel) (by decide +kernel))⟩
theorem zf_F_147 : zfl "SweptFloors" 147 5 2 false .int := ⟨zR_H, zT_H, 3, zY_H, rfl, by decide, zi_H, zy_H, zn_H, rfl, rfl, rfl, Or.inr (znest_p 201 (by decide +kernel) rfl)⟩
theorem zf_A_11 : zfl "SweptFloors$Album" 11 6 0 true (.array (.object "SweptFloors$Situation")) := ⟨zR_A, zT_A, 2, zY_A, rfl, by decide, zi_A, zy_A, zn_A, rfl, rfl, rfl, Or.inl (zgw_p 217 (by decide +kernel) (by decide +kernel))⟩
theorem zfF_A_11 : zflF "SweptFloors$Album" 11 6 0 (.array (.object "SweptFloors$Situation")) := ⟨zT_A, 2, zY_A, rfl, by decide, zi_A, zy_A, zn_A, rfl, rfl, rfl, zgw_p 217 (by decide +kernel) (by decide +kernel)⟩
theorem zf_A_17 : zfl "SweptFloors$Album" 17 6 1 true (.array (.boolean)) := ⟨zR_A, zT_A, 2, zY_A, rfl, by decide, zi_A, zy_A, zn_A, rfl, rfl, rfl, Or.inl (zgw_p 218 (by decide +kernel) (by decide +kernel))⟩
theorem zfF_A_17 : zflF "SweptFloors$Album" 17 6 1 (.array (.boolean)) := ⟨zT_A, 2, zY_A, rfl, by decide, zi_A, zy_A, zn_A, rfl, rfl, rfl, zgw_p 218 (by decide +kernel) (by decide +kernel)⟩
theorem zf_F_12 : zfl "SweptFloors" 12 0 0 true (.object "SweptFloors$Text") := ⟨zR_F, zT_F, 7, zY_F, rfl, by decide, zi_F, zy_F, zn_F, rfl, rfl, rfl, Or.inl (zgw_p 275 (by decide +kernel) (by decide +kernel))⟩
theorem zfF_F_12 : zflF "SweptFloors" 12 0 0 (.object "SweptFloors$Text") := ⟨zT_F, 7, zY_F, rfl, by decide, zi_F, zy_F, zn_F, rfl, rfl, rfl, zgw_p 275 (by decide +kernel) (by decide +kernel)⟩
theorem zf_F_19 : zfl "SweptFloors" 19 0 1 true (.object "SweptFloors$Ground") := ⟨zR_F, zT_F, 7, zY_F, rfl, by decide, zi_F, zy_F, zn_F, rfl, rfl, rfl, Or.inl (zgw_p 276 (by decide +kernel) (by decide +kernel))⟩
theorem zfF_F_19 : zflF "SweptFloors" 19 0 1 (.object "SweptFloors$Ground") := ⟨zT_F, 7, zY_F, rfl, by decide, zi_F, zy_F, zn_F, rfl, rfl, rfl, zgw_p 276 (by decide +kernel) (by decide +kernel)⟩
theorem zf_F_28 : zfl "SweptFloors" 28 0 2 true (.object "SweptFloors$Situation") := ⟨zR_F, zT_F, 7, zY_F, rfl, by decide, zi_F, zy_F, zn_F, rfl, rfl, rfl, Or.inl (zgw_p 277 (by decide +kernel) (by decide +kernel))⟩
theorem zfF_F_28 : zflF "SweptFloors" 28 0 2 (.object "SweptFloors$Situation") := ⟨zT_F, 7, zY_F, rfl, by decide, zi_F, zy_F, zn_F, rfl, rfl, rfl, zgw_p 277 (by decide +kernel) (by decide +kernel)⟩
theorem zf_F_32 : zfl "SweptFloors" 32 0 3 true (.object "SweptFloors$Situation") := ⟨zR_F, zT_F, 7, zY_F, rfl, by decide, zi_F, zy_F, zn_F, rfl, rfl, rfl, Or.inl (zgw_p 278 (by decide +kernel) (by decide +kernel))⟩
theorem zfF_F_32 : zflF "SweptFloors" 32 0 3 (.object "SweptFloors$Situation") := ⟨zT_F, 7, zY_F, rfl, by decide, zi_F, zy_F, zn_F, rfl, rfl, rfl, zgw_p 278 (by decide +kernel) (by decide +kernel)⟩
theorem zf_F_38 : zfl "SweptFloors" 38 0 4 true (.object "SweptFloors$Pilot") := ⟨zR_F, zT_F, 7, zY_F, rfl, by decide, zi_F, zy_F, zn_F, rfl, rfl, rfl, Or.inl (zgw_p 279 (by decide +kernel) (by decide +kernel))⟩
theorem zfF_F_38 : zflF "SweptFloors" 38 0 4 (.object "SweptFloors$Pilot") := ⟨zT_F, 7, zY_F, rfl, by decide, zi_F, zy_F, zn_F, rfl, rfl, rfl, zgw_p 279 (by decide +kernel) (by decide +kernel)⟩
theorem zf_F_45 : zfl "SweptFloors" 45 0 5 true (.object "SweptFloors$History") := ⟨zR_F, zT_F, 7, zY_F, rfl, by decide, zi_F, zy_F, zn_F, rfl, rfl, rfl, Or.inl (zgw_p 280 (by decide +kernel) (by decide +kernel))⟩
theorem zfF_F_45 : zflF "SweptFloors" 45 0 5 (.object "SweptFloors$History") := ⟨zT_F, 7, zY_F, rfl, by decide, zi_F, zy_F, zn_F, rfl, rfl, rfl, zgw_p 280 (by decide +kernel) (by decide +kernel)⟩
theorem zf_F_52 : zfl "SweptFloors" 52 0 6 true (.object "SweptFloors$Album") := ⟨zR_F, zT_F, 7, zY_F, rfl, by decide, zi_F, zy_F, zn_F, rfl, rfl, rfl, Or.inl (zgw_p 281 (by decide +kernel) (by decide +kernel))⟩
theorem zfF_F_52 : zflF "SweptFloors" 52 0 6 (.object "SweptFloors$Album") := ⟨zT_F, 7, zY_F, rfl, by decide, zi_F, zy_F, zn_F, rfl, rfl, rfl, zgw_p 281 (by decide +kernel) (by decide +kernel)⟩
theorem zf_M_7 : zfl "SweptFloorsModel" 7 7 0 false .int := ⟨zR_M, zT_M, 25, zY_M, rfl, by decide, zi_M, zy_M, zn_M, rfl, rfl, rfl, Or.inl (zgw_p 615 (by decide +kernel) (by decide +kernel))⟩
theorem zf_M_13 : zfl "SweptFloorsModel" 13 7 1 false .int := ⟨zR_M, zT_M, 25, zY_M, rfl, by decide, zi_M, zy_M, zn_M, rfl, rfl, rfl, Or.inl (zgw_p 616 (by decide +kernel) (by decide +kernel))⟩
theorem zf_M_61 : zfl "SweptFloorsModel" 61 7 2 false .int := ⟨zR_M, zT_M, 25, zY_M, rfl, by decide, zi_M, zy_M, zn_M, rfl, rfl, rfl, Or.inl (zgw_p 617 (by decide +kernel) (by decide +kernel))⟩
theorem zf_M_16 : zfl "SweptFloorsModel" 16 7 3 true (.array (.int)) := ⟨zR_M, zT_M, 25, zY_M, rfl, by decide, zi_M, zy_M, zn_M, rfl, rfl, rfl, Or.inl (zgw_p 618 (by decide +kernel) (by decide +kernel))⟩
theorem zfF_M_16 : zflF "SweptFloorsModel" 16 7 3 (.array (.int)) := ⟨zT_M, 25, zY_M, rfl, by decide, zi_M, zy_M, zn_M, rfl, rfl, rfl, zgw_p 618 (by decide +kernel) (by decide +kernel)⟩
theorem zf_M_64 : zfl "SweptFloorsModel" 64 7 4 false .int := ⟨zR_M, zT_M, 25, zY_M, rfl, by decide, zi_M, zy_M, zn_M, rfl, rfl, rfl, Or.inl (zgw_p 619 (by decide +kernel) (by decide +kernel))⟩
theorem zf_M_20 : zfl "SweptFloorsModel" 20 7 5 true (.array (.int)) := ⟨zR_M, zT_M, 25, zY_M, rfl, by decide, zi_M, zy_M, zn_M, rfl, rfl, rfl, Or.inl (zgw_p 620 (by decide +kernel) (by decide +kernel))⟩
theorem zfF_M_20 : zflF "SweptFloorsModel" 20 7 5 (.array (.int)) := ⟨zT_M, 25, zY_M, rfl, by decide, zi_M, zy_M, zn_M, rfl, rfl, rfl, zgw_p 620 (by decide +kernel) (by decide +kernel)⟩
theorem zf_M_23 : zfl "SweptFloorsModel" 23 7 6 true (.array (.boolean)) := ⟨zR_M, zT_M, 25, zY_M, rfl, by decide, zi_M, zy_M, zn_M, rfl, rfl, rfl, Or.inl (zgw_p 621 (by decide +kernel) (by decide +kernel))⟩
theorem zfF_M_23 : zflF "SweptFloorsModel" 23 7 6 (.array (.boolean)) := ⟨zT_M, 25, zY_M, rfl, by decide, zi_M, zy_M, zn_M, rfl, rfl, rfl, zgw_p 621 (by decide +kernel) (by decide +kernel)⟩
theorem zf_M_27 : zfl "SweptFloorsModel" 27 7 7 true (.array (.int)) := ⟨zR_M, zT_M, 25, zY_M, rfl, by decide, zi_M, zy_M, zn_M, rfl, rfl, rfl, Or.inl (zgw_p 622 (by decide +kernel) (by decide +kernel))⟩
theorem zfF_M_27 : zflF "SweptFloorsModel" 27 7 7 (.array (.int)) := ⟨zT_M, 25, zY_M, rfl, by decide, zi_M, zy_M, zn_M, rfl, rfl, rfl, zgw_p 622 (by decide +kernel) (by decide +kernel)⟩
theorem zf_M_30 : zfl "SweptFloorsModel" 30 7 8 true (.array (.int)) := ⟨zR_M, zT_M, 25, zY_M, rfl, by decide, zi_M, zy_M, zn_M, rfl, rfl, rfl, Or.inl (zgw_p 623 (by decide +kernel) (by decide +kernel))⟩
theorem zfF_M_30 : zflF "SweptFloorsModel" 30 7 8 (.array (.int)) := ⟨zT_M, 25, zY_M, rfl, by decide, zi_M, zy_M, zn_M, rfl, rfl, rfl, zgw_p 623 (by decide +kernel) (by decide +kernel)⟩
theorem zf_M_71 : zfl "SweptFloorsModel" 71 7 9 false .int := ⟨zR_M, zT_M, 25, zY_M, rfl, by decide, zi_M, zy_M, zn_M, rfl, rfl, rfl, Or.inl (zgw_p 624 (by decide +kernel) (by decide +kernel))⟩
theorem zf_M_33 : zfl "SweptFloorsModel" 33 7 10 true (.array (.int)) := ⟨zR_M, zT_M, 25, zY_M, rfl, by decide, zi_M, zy_M, zn_M, rfl, rfl, rfl, Or.inl (zgw_p 625 (by decide +kernel) (by decide +kernel))⟩
theorem zfF_M_33 : zflF "SweptFloorsModel" 33 7 10 (.array (.int)) := ⟨zT_M, 25, zY_M, rfl, by decide, zi_M, zy_M, zn_M, rfl, rfl, rfl, zgw_p 625 (by decide +kernel) (by decide +kernel)⟩
theorem zf_M_36 : zfl "SweptFloorsModel" 36 7 11 true (.array (.int)) := ⟨zR_M, zT_M, 25, zY_M, rfl, by decide, zi_M, zy_M, zn_M, rfl, rfl, rfl, Or.inl (zgw_p 626 (by decide +kernel) (by decide +kernel))⟩
theorem zfF_M_36 : zflF "SweptFloorsModel" 36 7 11 (.array (.int)) := ⟨zT_M, 25, zY_M, rfl, by decide, zi_M, zy_M, zn_M, rfl, rfl, rfl, zgw_p 626 (by decide +kernel) (by decide +kernel)⟩
theorem zf_M_77 : zfl "SweptFloorsModel" 77 7 12 false .int := ⟨zR_M, zT_M, 25, zY_M, rfl, by decide, zi_M, zy_M, zn_M, rfl, rfl, rfl, Or.inl (zgw_p 627 (by decide +kernel) (by decide +kernel))⟩
theorem zf_M_80 : zfl "SweptFloorsModel" 80 7 13 false .int := ⟨zR_M, zT_M, 25, zY_M, rfl, by decide, zi_M, zy_M, zn_M, rfl, rfl, rfl, Or.inl (zgw_p 628 (by decide +kernel) (by decide +kernel))⟩
theorem zf_M_74 : zfl "SweptFloorsModel" 74 7 14 false .int := ⟨zR_M, zT_M, 25, zY_M, rfl, by decide, zi_M, zy_M, zn_M, rfl, rfl, rfl, Or.inl (zgw_p 629 (by decide +kernel) (by decide +kernel))⟩
theorem zf_M_87 : zfl "SweptFloorsModel" 87 7 15 false .int := ⟨zR_M, zT_M, 25, zY_M, rfl, by decide, zi_M, zy_M, zn_M, rfl, rfl, rfl, Or.inl (zgw_p 630 (by decide +kernel) (by decide +kernel))⟩
theorem zf_M_39 : zfl "SweptFloorsModel" 39 7 16 true (.array (.int)) := ⟨zR_M, zT_M, 25, zY_M, rfl, by decide, zi_M, zy_M, zn_M, rfl, rfl, rfl, Or.inl (zgw_p 631 (by decide +kernel) (by decide +kernel))⟩
theorem zfF_M_39 : zflF "SweptFloorsModel" 39 7 16 (.array (.int)) := ⟨zT_M, 25, zY_M, rfl, by decide, zi_M, zy_M, zn_M, rfl, rfl, rfl, zgw_p 631 (by decide +kernel) (by decide +kernel)⟩
theorem zf_M_42 : zfl "SweptFloorsModel" 42 7 17 true (.array (.int)) := ⟨zR_M, zT_M, 25, zY_M, rfl, by decide, zi_M, zy_M, zn_M, rfl, rfl, rfl, Or.inl (zgw_p 632 (by decide +kernel) (by decide +kernel))⟩
theorem zfF_M_42 : zflF "SweptFloorsModel" 42 7 17 (.array (.int)) := ⟨zT_M, 25, zY_M, rfl, by decide, zi_M, zy_M, zn_M, rfl, rfl, rfl, zgw_p 632 (by decide +kernel) (by decide +kernel)⟩
theorem zf_M_45 : zfl "SweptFloorsModel" 45 7 18 true (.array (.int)) := ⟨zR_M, zT_M, 25, zY_M, rfl, by decide, zi_M, zy_M, zn_M, rfl, rfl, rfl, Or.inl (zgw_p 633 (by decide +kernel) (by decide +kernel))⟩
theorem zfF_M_45 : zflF "SweptFloorsModel" 45 7 18 (.array (.int)) := ⟨zT_M, 25, zY_M, rfl, by decide, zi_M, zy_M, zn_M, rfl, rfl, rfl, zgw_p 633 (by decide +kernel) (by decide +kernel)⟩
theorem zf_M_48 : zfl "SweptFloorsModel" 48 7 19 true (.array (.int)) := ⟨zR_M, zT_M, 25, zY_M, rfl, by decide, zi_M, zy_M, zn_M, rfl, rfl, rfl, Or.inl (zgw_p 634 (by decide +kernel) (by decide +kernel))⟩
theorem zfF_M_48 : zflF "SweptFloorsModel" 48 7 19 (.array (.int)) := ⟨zT_M, 25, zY_M, rfl, by decide, zi_M, zy_M, zn_M, rfl, rfl, rfl, zgw_p 634 (by decide +kernel) (by decide +kernel)⟩
theorem zf_M_143 : zfl "SweptFloorsModel" 143 7 20 false .int := ⟨zR_M, zT_M, 25, zY_M, rfl, by decide, zi_M, zy_M, zn_M, rfl, rfl, rfl, Or.inl (zgw_p 635 (by decide +kernel) (by decide +kernel))⟩
theorem zf_M_152 : zfl "SweptFloorsModel" 152 7 21 false .int := ⟨zR_M, zT_M, 25, zY_M, rfl, by decide, zi_M, zy_M, zn_M, rfl, rfl, rfl, Or.inl (zgw_p 636 (by decide +kernel) (by decide +kernel))⟩
theorem zf_M_149 : zfl "SweptFloorsModel" 149 7 22 false .int := ⟨zR_M, zT_M, 25, zY_M, rfl, by decide, zi_M, zy_M, zn_M, rfl, rfl, rfl, Or.inl (zgw_p 637 (by decide +kernel) (by decide +kernel))⟩
theorem zf_M_155 : zfl "SweptFloorsModel" 155 7 23 false .int := ⟨zR_M, zT_M, 25, zY_M, rfl, by decide, zi_M, zy_M, zn_M, rfl, rfl, rfl, Or.inl (zgw_p 638 (by decide +kernel) (by decide +kernel))⟩
theorem zf_M_51 : zfl "SweptFloorsModel" 51 7 24 true (.array (.int)) := ⟨zR_M, zT_M, 25, zY_M, rfl, by decide, zi_M, zy_M, zn_M, rfl, rfl, rfl, Or.inl (zgw_p 639 (by decide +kernel) (by decide +kernel))⟩
theorem zfF_M_51 : zflF "SweptFloorsModel" 51 7 24 (.array (.int)) := ⟨zT_M, 25, zY_M, rfl, by decide, zi_M, zy_M, zn_M, rfl, rfl, rfl, zgw_p 639 (by decide +kernel) (by decide +kernel)⟩
theorem zcK_L_7 : Cond.classLink "SweptFloorsLaw" 7 "SweptFloors" ∈ zgw := zgw_p 12 (by decide +kernel) (by decide +kernel)
theorem zin_F : Cond.instantiable "SweptFloors" 7 ∈ zgw := zgw_p 13 (by decide +kernel) (by decide +kernel)
theorem zii_F : Cond.initialized "SweptFloors" ∈ zgw := zgw_p 1 (by decide +kernel) (by decide +kernel)
theorem zcK_F_9 : Cond.classLink "SweptFloors" 9 "SweptFloors$Text" ∈ zgw := zgw_p 20 (by decide +kernel) (by decide +kernel)
theorem zin_T : Cond.instantiable "SweptFloors$Text" 8 ∈ zgw := zgw_p 21 (by decide +kernel) (by decide +kernel)
theorem zii_T : Cond.initialized "SweptFloors$Text" ∈ zgw := zgw_p 2 (by decide +kernel) (by decide +kernel)
theorem zcK_F_16 : Cond.classLink "SweptFloors" 16 "SweptFloors$Ground" ∈ zgw := zgw_p 58 (by decide +kernel) (by decide +kernel)
theorem zin_G : Cond.instantiable "SweptFloors$Ground" 10 ∈ zgw := zgw_p 59 (by decide +kernel) (by decide +kernel)
theorem zii_G : Cond.initialized "SweptFloors$Ground" ∈ zgw := zgw_p 3 (by decide +kernel) (by decide +kernel)
theorem zcK_F_23 : Cond.classLink "SweptFloors" 23 "SweptFloors$Situation" ∈ zgw := zgw_p 109 (by decide +kernel) (by decide +kernel)
theorem zin_S : Cond.instantiable "SweptFloors$Situation" 11 ∈ zgw := zgw_p 110 (by decide +kernel) (by decide +kernel)
theorem zii_S : Cond.initialized "SweptFloors$Situation" ∈ zgw := zgw_p 4 (by decide +kernel) (by decide +kernel)
theorem zcK_F_35 : Cond.classLink "SweptFloors" 35 "SweptFloors$Pilot" ∈ zgw := zgw_p 166 (by decide +kernel) (by decide +kernel)
theorem zin_P : Cond.instantiable "SweptFloors$Pilot" 4 ∈ zgw := zgw_p 167 (by decide +kernel) (by decide +kernel)
theorem zii_P : Cond.initialized "SweptFloors$Pilot" ∈ zgw := zgw_p 5 (by decide +kernel) (by decide +kernel)
theorem zcK_F_42 : Cond.classLink "SweptFloors" 42 "SweptFloors$History" ∈ zgw := zgw_p 189 (by decide +kernel) (by decide +kernel)
theorem zin_H : Cond.instantiable "SweptFloors$History" 3 ∈ zgw := zgw_p 190 (by decide +kernel) (by decide +kernel)
theorem zii_H : Cond.initialized "SweptFloors$History" ∈ zgw := zgw_p 6 (by decide +kernel) (by decide +kernel)
theorem zcK_H_9 : Cond.classLink "SweptFloors$History" 9 "SweptFloors$Situation" ∈ zgw := zgw_p 195 (by decide +kernel) (by decide +kernel)
theorem zcK_F_49 : Cond.classLink "SweptFloors" 49 "SweptFloors$Album" ∈ zgw := zgw_p 209 (by decide +kernel) (by decide +kernel)
theorem zin_A : Cond.instantiable "SweptFloors$Album" 2 ∈ zgw := zgw_p 210 (by decide +kernel) (by decide +kernel)
theorem zii_A : Cond.initialized "SweptFloors$Album" ∈ zgw := zgw_p 7 (by decide +kernel) (by decide +kernel)
theorem zcK_A_9 : Cond.classLink "SweptFloors$Album" 9 "SweptFloors$Situation" ∈ zgw := zgw_p 215 (by decide +kernel) (by decide +kernel)
theorem zcl_G_67 : Cond.constantLong "SweptFloors$Ground" 67 (-1) ∈ zgw := zgw_p 370 (by decide +kernel) (by decide +kernel)
theorem zcl_J_314 : Cond.constantLong "java/lang/Long" 314 (6148914691236517205) ∈ zgw := zgw_p 377 (by decide +kernel) (by decide +kernel)
theorem zcl_J_316 : Cond.constantLong "java/lang/Long" 316 (3689348814741910323) ∈ zgw := zgw_p 378 (by decide +kernel) (by decide +kernel)
theorem zcl_J_318 : Cond.constantLong "java/lang/Long" 318 (1085102592571150095) ∈ zgw := zgw_p 379 (by decide +kernel) (by decide +kernel)
theorem zcl_S_70 : Cond.constantLong "SweptFloors$Situation" 70 (-1) ∈ zgw := zgw_p 388 (by decide +kernel) (by decide +kernel)
theorem zcl_P_83 : Cond.constantLong "SweptFloors$Pilot" 83 (-1) ∈ zgw := zgw_p 476 (by decide +kernel) (by decide +kernel)
theorem zcl_F_192 : Cond.constantLong "SweptFloors" 192 (-1) ∈ zgw := zgw_p 549 (by decide +kernel) (by decide +kernel)
theorem zcK_L_10 : Cond.classLink "SweptFloorsLaw" 10 "SweptFloorsModel" ∈ zgw := zgw_p 601 (by decide +kernel) (by decide +kernel)
theorem zin_M : Cond.instantiable "SweptFloorsModel" 25 ∈ zgw := zgw_p 602 (by decide +kernel) (by decide +kernel)
theorem zii_M : Cond.initialized "SweptFloorsModel" ∈ zgw := zgw_p 8 (by decide +kernel) (by decide +kernel)
