theorem dM_in_0 : decode mM_in.2.1 0 = .ok (.iload_n 0, 1) := by decide +kernel
theorem dM_in_1 : decode mM_in.2.1 1 = .ok (.iload_n 1, 1) := by decide +kernel
theorem dM_in_2 : decode mM_in.2.1 2 = .ok (.if_icmp .lt 12, 3) := by decide +kernel
theorem dM_in_5 : decode mM_in.2.1 5 = .ok (.iload_n 0, 1) := by decide +kernel
theorem dM_in_6 : decode mM_in.2.1 6 = .ok (.iload_n 2, 1) := by decide +kernel
theorem dM_in_7 : decode mM_in.2.1 7 = .ok (.if_icmp .gt 7, 3) := by decide +kernel
theorem dM_in_10 : decode mM_in.2.1 10 = .ok (.iconst 1, 1) := by decide +kernel
theorem dM_in_11 : decode mM_in.2.1 11 = .ok (.goto 4, 3) := by decide +kernel
theorem dM_in_14 : decode mM_in.2.1 14 = .ok (.iconst 0, 1) := by decide +kernel
theorem dM_in_15 : decode mM_in.2.1 15 = .ok (.ireturn, 1) := by decide +kernel
theorem dM_init_0 : decode mM_init.2.1 0 = .ok (.aload_n 0, 1) := by decide +kernel
theorem dM_init_1 : decode mM_init.2.1 1 = .ok (.invokespecial 1, 3) := by decide +kernel
theorem dM_init_4 : decode mM_init.2.1 4 = .ok (.aload_n 0, 1) := by decide +kernel
theorem dM_init_5 : decode mM_init.2.1 5 = .ok (.iconst 1, 1) := by decide +kernel
theorem dM_init_6 : decode mM_init.2.1 6 = .ok (.putfield 7, 3) := by decide +kernel
theorem dM_init_9 : decode mM_init.2.1 9 = .ok (.aload_n 0, 1) := by decide +kernel
theorem dM_init_10 : decode mM_init.2.1 10 = .ok (.iconst 1, 1) := by decide +kernel
theorem dM_init_11 : decode mM_init.2.1 11 = .ok (.putfield 13, 3) := by decide +kernel
theorem dM_init_14 : decode mM_init.2.1 14 = .ok (.aload_n 0, 1) := by decide +kernel
theorem dM_init_15 : decode mM_init.2.1 15 = .ok (.bipush 114, 2) := by decide +kernel
theorem dM_init_17 : decode mM_init.2.1 17 = .ok (.newarray .int, 2) := by decide +kernel
theorem dM_init_19 : decode mM_init.2.1 19 = .ok (.putfield 16, 3) := by decide +kernel
theorem dM_init_22 : decode mM_init.2.1 22 = .ok (.aload_n 0, 1) := by decide +kernel
theorem dM_init_23 : decode mM_init.2.1 23 = .ok (.sipush 684, 3) := by decide +kernel
theorem dM_init_26 : decode mM_init.2.1 26 = .ok (.newarray .int, 2) := by decide +kernel
theorem dM_init_28 : decode mM_init.2.1 28 = .ok (.putfield 20, 3) := by decide +kernel
theorem dM_init_31 : decode mM_init.2.1 31 = .ok (.aload_n 0, 1) := by decide +kernel
theorem dM_init_32 : decode mM_init.2.1 32 = .ok (.iconst 2, 1) := by decide +kernel
theorem dM_init_33 : decode mM_init.2.1 33 = .ok (.newarray .boolean, 2) := by decide +kernel
theorem dM_init_35 : decode mM_init.2.1 35 = .ok (.putfield 23, 3) := by decide +kernel
theorem dM_init_38 : decode mM_init.2.1 38 = .ok (.aload_n 0, 1) := by decide +kernel
theorem dM_init_39 : decode mM_init.2.1 39 = .ok (.sipush 228, 3) := by decide +kernel
theorem dM_init_42 : decode mM_init.2.1 42 = .ok (.newarray .int, 2) := by decide +kernel
theorem dM_init_44 : decode mM_init.2.1 44 = .ok (.putfield 27, 3) := by decide +kernel
theorem dM_init_47 : decode mM_init.2.1 47 = .ok (.aload_n 0, 1) := by decide +kernel
theorem dM_init_48 : decode mM_init.2.1 48 = .ok (.bipush 114, 2) := by decide +kernel
theorem dM_init_50 : decode mM_init.2.1 50 = .ok (.newarray .int, 2) := by decide +kernel
theorem dM_init_52 : decode mM_init.2.1 52 = .ok (.putfield 30, 3) := by decide +kernel
theorem dM_init_55 : decode mM_init.2.1 55 = .ok (.aload_n 0, 1) := by decide +kernel
theorem dM_init_56 : decode mM_init.2.1 56 = .ok (.bipush 60, 2) := by decide +kernel
theorem dM_init_58 : decode mM_init.2.1 58 = .ok (.newarray .int, 2) := by decide +kernel
theorem dM_init_60 : decode mM_init.2.1 60 = .ok (.putfield 33, 3) := by decide +kernel
theorem dM_init_63 : decode mM_init.2.1 63 = .ok (.aload_n 0, 1) := by decide +kernel
theorem dM_init_64 : decode mM_init.2.1 64 = .ok (.bipush 36, 2) := by decide +kernel
theorem dM_init_66 : decode mM_init.2.1 66 = .ok (.newarray .int, 2) := by decide +kernel
theorem dM_init_68 : decode mM_init.2.1 68 = .ok (.putfield 36, 3) := by decide +kernel
theorem dM_init_71 : decode mM_init.2.1 71 = .ok (.aload_n 0, 1) := by decide +kernel
theorem dM_init_72 : decode mM_init.2.1 72 = .ok (.bipush 36, 2) := by decide +kernel
theorem dM_init_74 : decode mM_init.2.1 74 = .ok (.newarray .int, 2) := by decide +kernel
theorem dM_init_76 : decode mM_init.2.1 76 = .ok (.putfield 39, 3) := by decide +kernel
theorem dM_init_79 : decode mM_init.2.1 79 = .ok (.aload_n 0, 1) := by decide +kernel
theorem dM_init_80 : decode mM_init.2.1 80 = .ok (.bipush 36, 2) := by decide +kernel
theorem dM_init_82 : decode mM_init.2.1 82 = .ok (.newarray .int, 2) := by decide +kernel
theorem dM_init_84 : decode mM_init.2.1 84 = .ok (.putfield 42, 3) := by decide +kernel
theorem dM_init_87 : decode mM_init.2.1 87 = .ok (.aload_n 0, 1) := by decide +kernel
theorem dM_init_88 : decode mM_init.2.1 88 = .ok (.bipush 36, 2) := by decide +kernel
theorem dM_init_90 : decode mM_init.2.1 90 = .ok (.newarray .int, 2) := by decide +kernel
theorem dM_init_92 : decode mM_init.2.1 92 = .ok (.putfield 45, 3) := by decide +kernel
theorem dM_init_95 : decode mM_init.2.1 95 = .ok (.aload_n 0, 1) := by decide +kernel
theorem dM_init_96 : decode mM_init.2.1 96 = .ok (.bipush 36, 2) := by decide +kernel
theorem dM_init_98 : decode mM_init.2.1 98 = .ok (.newarray .int, 2) := by decide +kernel
theorem dM_init_100 : decode mM_init.2.1 100 = .ok (.putfield 48, 3) := by decide +kernel
theorem dM_init_103 : decode mM_init.2.1 103 = .ok (.aload_n 0, 1) := by decide +kernel
theorem dM_init_104 : decode mM_init.2.1 104 = .ok (.bipush 36, 2) := by decide +kernel
theorem dM_init_106 : decode mM_init.2.1 106 = .ok (.newarray .int, 2) := by decide +kernel
theorem dM_init_108 : decode mM_init.2.1 108 = .ok (.putfield 51, 3) := by decide +kernel
theorem dM_init_111 : decode mM_init.2.1 111 = .ok (.aload_n 0, 1) := by decide +kernel
theorem dM_init_112 : decode mM_init.2.1 112 = .ok (.getfield 16, 3) := by decide +kernel
theorem dM_init_115 : decode mM_init.2.1 115 = .ok (.iconst 0, 1) := by decide +kernel
theorem dM_init_116 : decode mM_init.2.1 116 = .ok (.bipush 6, 2) := by decide +kernel
theorem dM_init_118 : decode mM_init.2.1 118 = .ok (.iastore, 1) := by decide +kernel
theorem dM_init_119 : decode mM_init.2.1 119 = .ok (.aload_n 0, 1) := by decide +kernel
theorem dM_init_120 : decode mM_init.2.1 120 = .ok (.invokevirtual 54, 3) := by decide +kernel
theorem dM_init_123 : decode mM_init.2.1 123 = .ok (.return_, 1) := by decide +kernel
theorem dM_cells_0 : decode mM_cells.2.1 0 = .ok (.aload_n 0, 1) := by decide +kernel
theorem dM_cells_1 : decode mM_cells.2.1 1 = .ok (.getfield 7, 3) := by decide +kernel
theorem dM_cells_4 : decode mM_cells.2.1 4 = .ok (.aload_n 0, 1) := by decide +kernel
theorem dM_cells_5 : decode mM_cells.2.1 5 = .ok (.getfield 13, 3) := by decide +kernel
theorem dM_cells_8 : decode mM_cells.2.1 8 = .ok (.imul, 1) := by decide +kernel
theorem dM_cells_9 : decode mM_cells.2.1 9 = .ok (.ireturn, 1) := by decide +kernel
theorem dM_begins_0 : decode mM_begins.2.1 0 = .ok (.iconst 0, 1) := by decide +kernel
theorem dM_begins_1 : decode mM_begins.2.1 1 = .ok (.istore_n 1, 1) := by decide +kernel
theorem dM_begins_2 : decode mM_begins.2.1 2 = .ok (.iload_n 1, 1) := by decide +kernel
theorem dM_begins_3 : decode mM_begins.2.1 3 = .ok (.aload_n 0, 1) := by decide +kernel
theorem dM_begins_4 : decode mM_begins.2.1 4 = .ok (.invokevirtual 57, 3) := by decide +kernel
theorem dM_begins_7 : decode mM_begins.2.1 7 = .ok (.if_icmp .ge 41, 3) := by decide +kernel
theorem dM_begins_10 : decode mM_begins.2.1 10 = .ok (.aload_n 0, 1) := by decide +kernel
theorem dM_begins_11 : decode mM_begins.2.1 11 = .ok (.getfield 16, 3) := by decide +kernel
theorem dM_begins_14 : decode mM_begins.2.1 14 = .ok (.bipush 36, 2) := by decide +kernel
theorem dM_begins_16 : decode mM_begins.2.1 16 = .ok (.iload_n 1, 1) := by decide +kernel
theorem dM_begins_17 : decode mM_begins.2.1 17 = .ok (.iadd, 1) := by decide +kernel
theorem dM_begins_18 : decode mM_begins.2.1 18 = .ok (.iload_n 1, 1) := by decide +kernel
theorem dM_begins_19 : decode mM_begins.2.1 19 = .ok (.aload_n 0, 1) := by decide +kernel
theorem dM_begins_20 : decode mM_begins.2.1 20 = .ok (.getfield 61, 3) := by decide +kernel
theorem dM_begins_23 : decode mM_begins.2.1 23 = .ok (.if_icmp .ne 7, 3) := by decide +kernel
theorem dM_begins_26 : decode mM_begins.2.1 26 = .ok (.iconst 1, 1) := by decide +kernel
theorem dM_begins_27 : decode mM_begins.2.1 27 = .ok (.goto 4, 3) := by decide +kernel
theorem dM_begins_30 : decode mM_begins.2.1 30 = .ok (.iconst 0, 1) := by decide +kernel
theorem dM_begins_31 : decode mM_begins.2.1 31 = .ok (.iastore, 1) := by decide +kernel
theorem dM_begins_32 : decode mM_begins.2.1 32 = .ok (.aload_n 0, 1) := by decide +kernel
theorem dM_begins_33 : decode mM_begins.2.1 33 = .ok (.getfield 16, 3) := by decide +kernel
theorem dM_begins_36 : decode mM_begins.2.1 36 = .ok (.bipush 72, 2) := by decide +kernel
theorem dM_begins_38 : decode mM_begins.2.1 38 = .ok (.iload_n 1, 1) := by decide +kernel
theorem dM_begins_39 : decode mM_begins.2.1 39 = .ok (.iadd, 1) := by decide +kernel
theorem dM_begins_40 : decode mM_begins.2.1 40 = .ok (.iconst 0, 1) := by decide +kernel
theorem dM_begins_41 : decode mM_begins.2.1 41 = .ok (.iastore, 1) := by decide +kernel
theorem dM_begins_42 : decode mM_begins.2.1 42 = .ok (.iinc 1 1, 3) := by decide +kernel
theorem dM_begins_45 : decode mM_begins.2.1 45 = .ok (.goto (-43), 3) := by decide +kernel
theorem dM_begins_48 : decode mM_begins.2.1 48 = .ok (.aload_n 0, 1) := by decide +kernel
theorem dM_begins_49 : decode mM_begins.2.1 49 = .ok (.getfield 16, 3) := by decide +kernel
theorem dM_begins_52 : decode mM_begins.2.1 52 = .ok (.bipush 108, 2) := by decide +kernel
theorem dM_begins_54 : decode mM_begins.2.1 54 = .ok (.aload_n 0, 1) := by decide +kernel
theorem dM_begins_55 : decode mM_begins.2.1 55 = .ok (.getfield 61, 3) := by decide +kernel
theorem dM_begins_58 : decode mM_begins.2.1 58 = .ok (.iastore, 1) := by decide +kernel
theorem dM_begins_59 : decode mM_begins.2.1 59 = .ok (.aload_n 0, 1) := by decide +kernel
theorem dM_begins_60 : decode mM_begins.2.1 60 = .ok (.getfield 16, 3) := by decide +kernel
theorem dM_begins_63 : decode mM_begins.2.1 63 = .ok (.bipush 109, 2) := by decide +kernel
theorem dM_begins_65 : decode mM_begins.2.1 65 = .ok (.iconst 0, 1) := by decide +kernel
theorem dM_begins_66 : decode mM_begins.2.1 66 = .ok (.iastore, 1) := by decide +kernel
theorem dM_begins_67 : decode mM_begins.2.1 67 = .ok (.aload_n 0, 1) := by decide +kernel
theorem dM_begins_68 : decode mM_begins.2.1 68 = .ok (.getfield 16, 3) := by decide +kernel
theorem dM_begins_71 : decode mM_begins.2.1 71 = .ok (.bipush 112, 2) := by decide +kernel
theorem dM_begins_73 : decode mM_begins.2.1 73 = .ok (.bipush 40, 2) := by decide +kernel
theorem dM_begins_75 : decode mM_begins.2.1 75 = .ok (.iastore, 1) := by decide +kernel
theorem dM_begins_76 : decode mM_begins.2.1 76 = .ok (.aload_n 0, 1) := by decide +kernel
theorem dM_begins_77 : decode mM_begins.2.1 77 = .ok (.getfield 16, 3) := by decide +kernel
theorem dM_begins_80 : decode mM_begins.2.1 80 = .ok (.bipush 113, 2) := by decide +kernel
theorem dM_begins_82 : decode mM_begins.2.1 82 = .ok (.iconst 5, 1) := by decide +kernel
theorem dM_begins_83 : decode mM_begins.2.1 83 = .ok (.iastore, 1) := by decide +kernel
theorem dM_begins_84 : decode mM_begins.2.1 84 = .ok (.aload_n 0, 1) := by decide +kernel
theorem dM_begins_85 : decode mM_begins.2.1 85 = .ok (.getfield 16, 3) := by decide +kernel
theorem dM_begins_88 : decode mM_begins.2.1 88 = .ok (.bipush 110, 2) := by decide +kernel
theorem dM_begins_90 : decode mM_begins.2.1 90 = .ok (.bipush 40, 2) := by decide +kernel
theorem dM_begins_92 : decode mM_begins.2.1 92 = .ok (.iastore, 1) := by decide +kernel
theorem dM_begins_93 : decode mM_begins.2.1 93 = .ok (.aload_n 0, 1) := by decide +kernel
theorem dM_begins_94 : decode mM_begins.2.1 94 = .ok (.getfield 16, 3) := by decide +kernel
theorem dM_begins_97 : decode mM_begins.2.1 97 = .ok (.bipush 111, 2) := by decide +kernel
theorem dM_begins_99 : decode mM_begins.2.1 99 = .ok (.iconst 0, 1) := by decide +kernel
theorem dM_begins_100 : decode mM_begins.2.1 100 = .ok (.iastore, 1) := by decide +kernel
theorem dM_begins_101 : decode mM_begins.2.1 101 = .ok (.aload_n 0, 1) := by decide +kernel
theorem dM_begins_102 : decode mM_begins.2.1 102 = .ok (.iconst 0, 1) := by decide +kernel
theorem dM_begins_103 : decode mM_begins.2.1 103 = .ok (.putfield 64, 3) := by decide +kernel
theorem dM_begins_106 : decode mM_begins.2.1 106 = .ok (.aload_n 0, 1) := by decide +kernel
theorem dM_begins_107 : decode mM_begins.2.1 107 = .ok (.getfield 23, 3) := by decide +kernel
theorem dM_begins_110 : decode mM_begins.2.1 110 = .ok (.iconst 0, 1) := by decide +kernel
theorem dM_begins_111 : decode mM_begins.2.1 111 = .ok (.iconst 0, 1) := by decide +kernel
theorem dM_begins_112 : decode mM_begins.2.1 112 = .ok (.bastore, 1) := by decide +kernel
theorem dM_begins_113 : decode mM_begins.2.1 113 = .ok (.aload_n 0, 1) := by decide +kernel
theorem dM_begins_114 : decode mM_begins.2.1 114 = .ok (.getfield 23, 3) := by decide +kernel
theorem dM_begins_117 : decode mM_begins.2.1 117 = .ok (.iconst 1, 1) := by decide +kernel
theorem dM_begins_118 : decode mM_begins.2.1 118 = .ok (.iconst 0, 1) := by decide +kernel
theorem dM_begins_119 : decode mM_begins.2.1 119 = .ok (.bastore, 1) := by decide +kernel
theorem dM_begins_120 : decode mM_begins.2.1 120 = .ok (.return_, 1) := by decide +kernel
theorem dM_type_0 : decode mM_type.2.1 0 = .ok (.iload_n 1, 1) := by decide +kernel
theorem dM_type_1 : decode mM_type.2.1 1 = .ok (.iconst 0, 1) := by decide +kernel
theorem dM_type_2 : decode mM_type.2.1 2 = .ok (.sipush 255, 3) := by decide +kernel
theorem dM_type_5 : decode mM_type.2.1 5 = .ok (.invokestatic 67, 3) := by decide +kernel
theorem dM_type_8 : decode mM_type.2.1 8 = .ok (.ifCond .ne 5, 3) := by decide +kernel
theorem dM_type_11 : decode mM_type.2.1 11 = .ok (.iconst (-1), 1) := by decide +kernel
theorem dM_type_12 : decode mM_type.2.1 12 = .ok (.ireturn, 1) := by decide +kernel
theorem dM_type_13 : decode mM_type.2.1 13 = .ok (.aload_n 0, 1) := by decide +kernel
theorem dM_type_14 : decode mM_type.2.1 14 = .ok (.getfield 71, 3) := by decide +kernel
theorem dM_type_17 : decode mM_type.2.1 17 = .ok (.bipush 60, 2) := by decide +kernel
theorem dM_type_19 : decode mM_type.2.1 19 = .ok (.if_icmp .ne 6, 3) := by decide +kernel
theorem dM_type_22 : decode mM_type.2.1 22 = .ok (.bipush (-3), 2) := by decide +kernel
theorem dM_type_24 : decode mM_type.2.1 24 = .ok (.ireturn, 1) := by decide +kernel
theorem dM_type_25 : decode mM_type.2.1 25 = .ok (.aload_n 0, 1) := by decide +kernel
theorem dM_type_26 : decode mM_type.2.1 26 = .ok (.getfield 33, 3) := by decide +kernel
theorem dM_type_29 : decode mM_type.2.1 29 = .ok (.aload_n 0, 1) := by decide +kernel
theorem dM_type_30 : decode mM_type.2.1 30 = .ok (.getfield 71, 3) := by decide +kernel
theorem dM_type_33 : decode mM_type.2.1 33 = .ok (.iload_n 1, 1) := by decide +kernel
theorem dM_type_34 : decode mM_type.2.1 34 = .ok (.iastore, 1) := by decide +kernel
theorem dM_type_35 : decode mM_type.2.1 35 = .ok (.aload_n 0, 1) := by decide +kernel
theorem dM_type_36 : decode mM_type.2.1 36 = .ok (.dup, 1) := by decide +kernel
theorem dM_type_37 : decode mM_type.2.1 37 = .ok (.getfield 71, 3) := by decide +kernel
theorem dM_type_40 : decode mM_type.2.1 40 = .ok (.iconst 1, 1) := by decide +kernel
theorem dM_type_41 : decode mM_type.2.1 41 = .ok (.iadd, 1) := by decide +kernel
theorem dM_type_42 : decode mM_type.2.1 42 = .ok (.putfield 71, 3) := by decide +kernel
theorem dM_type_45 : decode mM_type.2.1 45 = .ok (.aload_n 0, 1) := by decide +kernel
theorem dM_type_46 : decode mM_type.2.1 46 = .ok (.getfield 71, 3) := by decide +kernel
theorem dM_type_49 : decode mM_type.2.1 49 = .ok (.ireturn, 1) := by decide +kernel
theorem dM_clear_0 : decode mM_clear.2.1 0 = .ok (.aload_n 0, 1) := by decide +kernel
theorem dM_clear_1 : decode mM_clear.2.1 1 = .ok (.getfield 71, 3) := by decide +kernel
theorem dM_clear_4 : decode mM_clear.2.1 4 = .ok (.istore_n 1, 1) := by decide +kernel
theorem dM_clear_5 : decode mM_clear.2.1 5 = .ok (.aload_n 0, 1) := by decide +kernel
theorem dM_clear_6 : decode mM_clear.2.1 6 = .ok (.iconst 0, 1) := by decide +kernel
theorem dM_clear_7 : decode mM_clear.2.1 7 = .ok (.putfield 71, 3) := by decide +kernel
theorem dM_clear_10 : decode mM_clear.2.1 10 = .ok (.iload_n 1, 1) := by decide +kernel
theorem dM_clear_11 : decode mM_clear.2.1 11 = .ok (.ireturn, 1) := by decide +kernel
theorem dM_kindOf_0 : decode mM_kindOf.2.1 0 = .ok (.iload_n 0, 1) := by decide +kernel
theorem dM_kindOf_1 : decode mM_kindOf.2.1 1 = .ok (.lookupswitch 72 #[(33, 63), (35, 61), (46, 59), (68, 69), (100, 67), (110, 65)], 59) := by decide +kernel
theorem dM_kindOf_60 : decode mM_kindOf.2.1 60 = .ok (.iconst 0, 1) := by decide +kernel
theorem dM_kindOf_61 : decode mM_kindOf.2.1 61 = .ok (.ireturn, 1) := by decide +kernel
theorem dM_kindOf_62 : decode mM_kindOf.2.1 62 = .ok (.iconst 1, 1) := by decide +kernel
theorem dM_kindOf_63 : decode mM_kindOf.2.1 63 = .ok (.ireturn, 1) := by decide +kernel
theorem dM_kindOf_64 : decode mM_kindOf.2.1 64 = .ok (.iconst 2, 1) := by decide +kernel
theorem dM_kindOf_65 : decode mM_kindOf.2.1 65 = .ok (.ireturn, 1) := by decide +kernel
theorem dM_kindOf_66 : decode mM_kindOf.2.1 66 = .ok (.iconst 3, 1) := by decide +kernel
theorem dM_kindOf_67 : decode mM_kindOf.2.1 67 = .ok (.ireturn, 1) := by decide +kernel
theorem dM_kindOf_68 : decode mM_kindOf.2.1 68 = .ok (.iconst 4, 1) := by decide +kernel
theorem dM_kindOf_69 : decode mM_kindOf.2.1 69 = .ok (.ireturn, 1) := by decide +kernel
theorem dM_kindOf_70 : decode mM_kindOf.2.1 70 = .ok (.bipush 6, 2) := by decide +kernel
theorem dM_kindOf_72 : decode mM_kindOf.2.1 72 = .ok (.ireturn, 1) := by decide +kernel
theorem dM_kindOf_73 : decode mM_kindOf.2.1 73 = .ok (.bipush (-9), 2) := by decide +kernel
theorem dM_kindOf_75 : decode mM_kindOf.2.1 75 = .ok (.ireturn, 1) := by decide +kernel
theorem dM_takes_0 : decode mM_takes.2.1 0 = .ok (.iload_n 1, 1) := by decide +kernel
theorem dM_takes_1 : decode mM_takes.2.1 1 = .ok (.bipush 59, 2) := by decide +kernel
theorem dM_takes_3 : decode mM_takes.2.1 3 = .ok (.if_icmp .ne 55, 3) := by decide +kernel
theorem dM_takes_6 : decode mM_takes.2.1 6 = .ok (.aload_n 0, 1) := by decide +kernel
theorem dM_takes_7 : decode mM_takes.2.1 7 = .ok (.getfield 74, 3) := by decide +kernel
theorem dM_takes_10 : decode mM_takes.2.1 10 = .ok (.ifCond .eq 21, 3) := by decide +kernel
theorem dM_takes_13 : decode mM_takes.2.1 13 = .ok (.aload_n 0, 1) := by decide +kernel
theorem dM_takes_14 : decode mM_takes.2.1 14 = .ok (.getfield 77, 3) := by decide +kernel
theorem dM_takes_17 : decode mM_takes.2.1 17 = .ok (.ifCond .le 16, 3) := by decide +kernel
theorem dM_takes_20 : decode mM_takes.2.1 20 = .ok (.aload_n 0, 1) := by decide +kernel
theorem dM_takes_21 : decode mM_takes.2.1 21 = .ok (.getfield 74, 3) := by decide +kernel
theorem dM_takes_24 : decode mM_takes.2.1 24 = .ok (.aload_n 0, 1) := by decide +kernel
theorem dM_takes_25 : decode mM_takes.2.1 25 = .ok (.getfield 80, 3) := by decide +kernel
theorem dM_takes_28 : decode mM_takes.2.1 28 = .ok (.if_icmp .ge 5, 3) := by decide +kernel
theorem dM_takes_31 : decode mM_takes.2.1 31 = .ok (.iconst 0, 1) := by decide +kernel
theorem dM_takes_32 : decode mM_takes.2.1 32 = .ok (.ireturn, 1) := by decide +kernel
theorem dM_takes_33 : decode mM_takes.2.1 33 = .ok (.aload_n 0, 1) := by decide +kernel
theorem dM_takes_34 : decode mM_takes.2.1 34 = .ok (.aload_n 0, 1) := by decide +kernel
theorem dM_takes_35 : decode mM_takes.2.1 35 = .ok (.getfield 74, 3) := by decide +kernel
theorem dM_takes_38 : decode mM_takes.2.1 38 = .ok (.putfield 80, 3) := by decide +kernel
theorem dM_takes_41 : decode mM_takes.2.1 41 = .ok (.aload_n 0, 1) := by decide +kernel
theorem dM_takes_42 : decode mM_takes.2.1 42 = .ok (.dup, 1) := by decide +kernel
theorem dM_takes_43 : decode mM_takes.2.1 43 = .ok (.getfield 77, 3) := by decide +kernel
theorem dM_takes_46 : decode mM_takes.2.1 46 = .ok (.iconst 1, 1) := by decide +kernel
theorem dM_takes_47 : decode mM_takes.2.1 47 = .ok (.iadd, 1) := by decide +kernel
theorem dM_takes_48 : decode mM_takes.2.1 48 = .ok (.putfield 77, 3) := by decide +kernel
theorem dM_takes_51 : decode mM_takes.2.1 51 = .ok (.aload_n 0, 1) := by decide +kernel
theorem dM_takes_52 : decode mM_takes.2.1 52 = .ok (.iconst 0, 1) := by decide +kernel
theorem dM_takes_53 : decode mM_takes.2.1 53 = .ok (.putfield 74, 3) := by decide +kernel
theorem dM_takes_56 : decode mM_takes.2.1 56 = .ok (.iconst 1, 1) := by decide +kernel
theorem dM_takes_57 : decode mM_takes.2.1 57 = .ok (.ireturn, 1) := by decide +kernel
theorem dM_takes_58 : decode mM_takes.2.1 58 = .ok (.iload_n 1, 1) := by decide +kernel
theorem dM_takes_59 : decode mM_takes.2.1 59 = .ok (.invokestatic 83, 3) := by decide +kernel
theorem dM_takes_62 : decode mM_takes.2.1 62 = .ok (.istore_n 2, 1) := by decide +kernel
theorem dM_takes_63 : decode mM_takes.2.1 63 = .ok (.aload_n 0, 1) := by decide +kernel
theorem dM_takes_64 : decode mM_takes.2.1 64 = .ok (.getfield 77, 3) := by decide +kernel
theorem dM_takes_67 : decode mM_takes.2.1 67 = .ok (.ifCond .ne 8, 3) := by decide +kernel
theorem dM_takes_70 : decode mM_takes.2.1 70 = .ok (.bipush 6, 2) := by decide +kernel
theorem dM_takes_72 : decode mM_takes.2.1 72 = .ok (.goto 7, 3) := by decide +kernel
theorem dM_takes_75 : decode mM_takes.2.1 75 = .ok (.aload_n 0, 1) := by decide +kernel
theorem dM_takes_76 : decode mM_takes.2.1 76 = .ok (.getfield 80, 3) := by decide +kernel
theorem dM_takes_79 : decode mM_takes.2.1 79 = .ok (.istore_n 3, 1) := by decide +kernel
theorem dM_takes_80 : decode mM_takes.2.1 80 = .ok (.iload_n 2, 1) := by decide +kernel
theorem dM_takes_81 : decode mM_takes.2.1 81 = .ok (.bipush (-9), 2) := by decide +kernel
theorem dM_takes_83 : decode mM_takes.2.1 83 = .ok (.if_icmp .eq 35, 3) := by decide +kernel
theorem dM_takes_86 : decode mM_takes.2.1 86 = .ok (.aload_n 0, 1) := by decide +kernel
theorem dM_takes_87 : decode mM_takes.2.1 87 = .ok (.getfield 77, 3) := by decide +kernel
theorem dM_takes_90 : decode mM_takes.2.1 90 = .ok (.bipush 6, 2) := by decide +kernel
theorem dM_takes_92 : decode mM_takes.2.1 92 = .ok (.if_icmp .eq 26, 3) := by decide +kernel
theorem dM_takes_95 : decode mM_takes.2.1 95 = .ok (.aload_n 0, 1) := by decide +kernel
theorem dM_takes_96 : decode mM_takes.2.1 96 = .ok (.getfield 74, 3) := by decide +kernel
theorem dM_takes_99 : decode mM_takes.2.1 99 = .ok (.iload_n 3, 1) := by decide +kernel
theorem dM_takes_100 : decode mM_takes.2.1 100 = .ok (.if_icmp .eq 18, 3) := by decide +kernel
theorem dM_takes_103 : decode mM_takes.2.1 103 = .ok (.iload_n 2, 1) := by decide +kernel
theorem dM_takes_104 : decode mM_takes.2.1 104 = .ok (.bipush 6, 2) := by decide +kernel
theorem dM_takes_106 : decode mM_takes.2.1 106 = .ok (.if_icmp .ne 14, 3) := by decide +kernel
theorem dM_takes_109 : decode mM_takes.2.1 109 = .ok (.aload_n 0, 1) := by decide +kernel
theorem dM_takes_110 : decode mM_takes.2.1 110 = .ok (.getfield 87, 3) := by decide +kernel
theorem dM_takes_113 : decode mM_takes.2.1 113 = .ok (.bipush (-9), 2) := by decide +kernel
theorem dM_takes_115 : decode mM_takes.2.1 115 = .ok (.if_icmp .eq 5, 3) := by decide +kernel
theorem dM_takes_118 : decode mM_takes.2.1 118 = .ok (.iconst 0, 1) := by decide +kernel
theorem dM_takes_119 : decode mM_takes.2.1 119 = .ok (.ireturn, 1) := by decide +kernel
theorem dM_takes_120 : decode mM_takes.2.1 120 = .ok (.bipush 6, 2) := by decide +kernel
theorem dM_takes_122 : decode mM_takes.2.1 122 = .ok (.aload_n 0, 1) := by decide +kernel
theorem dM_takes_123 : decode mM_takes.2.1 123 = .ok (.getfield 77, 3) := by decide +kernel
theorem dM_takes_126 : decode mM_takes.2.1 126 = .ok (.imul, 1) := by decide +kernel
theorem dM_takes_127 : decode mM_takes.2.1 127 = .ok (.aload_n 0, 1) := by decide +kernel
theorem dM_takes_128 : decode mM_takes.2.1 128 = .ok (.getfield 74, 3) := by decide +kernel
theorem dM_takes_131 : decode mM_takes.2.1 131 = .ok (.iadd, 1) := by decide +kernel
theorem dM_takes_132 : decode mM_takes.2.1 132 = .ok (.istore 4, 2) := by decide +kernel
theorem dM_takes_134 : decode mM_takes.2.1 134 = .ok (.aload_n 0, 1) := by decide +kernel
theorem dM_takes_135 : decode mM_takes.2.1 135 = .ok (.getfield 36, 3) := by decide +kernel
theorem dM_takes_138 : decode mM_takes.2.1 138 = .ok (.iload 4, 2) := by decide +kernel
theorem dM_takes_140 : decode mM_takes.2.1 140 = .ok (.iload_n 2, 1) := by decide +kernel
theorem dM_takes_141 : decode mM_takes.2.1 141 = .ok (.iastore, 1) := by decide +kernel
theorem dM_takes_142 : decode mM_takes.2.1 142 = .ok (.aload_n 0, 1) := by decide +kernel
theorem dM_takes_143 : decode mM_takes.2.1 143 = .ok (.iload_n 2, 1) := by decide +kernel
theorem dM_takes_144 : decode mM_takes.2.1 144 = .ok (.bipush 6, 2) := by decide +kernel
theorem dM_takes_146 : decode mM_takes.2.1 146 = .ok (.if_icmp .ne 8, 3) := by decide +kernel
theorem dM_takes_149 : decode mM_takes.2.1 149 = .ok (.iload 4, 2) := by decide +kernel
theorem dM_takes_151 : decode mM_takes.2.1 151 = .ok (.goto 7, 3) := by decide +kernel
theorem dM_takes_154 : decode mM_takes.2.1 154 = .ok (.aload_n 0, 1) := by decide +kernel
theorem dM_takes_155 : decode mM_takes.2.1 155 = .ok (.getfield 87, 3) := by decide +kernel
theorem dM_takes_158 : decode mM_takes.2.1 158 = .ok (.putfield 87, 3) := by decide +kernel
theorem dM_takes_161 : decode mM_takes.2.1 161 = .ok (.aload_n 0, 1) := by decide +kernel
theorem dM_takes_162 : decode mM_takes.2.1 162 = .ok (.dup, 1) := by decide +kernel
theorem dM_takes_163 : decode mM_takes.2.1 163 = .ok (.getfield 74, 3) := by decide +kernel
theorem dM_takes_166 : decode mM_takes.2.1 166 = .ok (.iconst 1, 1) := by decide +kernel
theorem dM_takes_167 : decode mM_takes.2.1 167 = .ok (.iadd, 1) := by decide +kernel
theorem dM_takes_168 : decode mM_takes.2.1 168 = .ok (.putfield 74, 3) := by decide +kernel
theorem dM_takes_171 : decode mM_takes.2.1 171 = .ok (.iconst 1, 1) := by decide +kernel
theorem dM_takes_172 : decode mM_takes.2.1 172 = .ok (.ireturn, 1) := by decide +kernel
theorem dM_floor_0 : decode mM_floor.2.1 0 = .ok (.aload_n 0, 1) := by decide +kernel
theorem dM_floor_1 : decode mM_floor.2.1 1 = .ok (.iconst 0, 1) := by decide +kernel
theorem dM_floor_2 : decode mM_floor.2.1 2 = .ok (.putfield 77, 3) := by decide +kernel
theorem dM_floor_5 : decode mM_floor.2.1 5 = .ok (.aload_n 0, 1) := by decide +kernel
theorem dM_floor_6 : decode mM_floor.2.1 6 = .ok (.iconst 0, 1) := by decide +kernel
theorem dM_floor_7 : decode mM_floor.2.1 7 = .ok (.putfield 80, 3) := by decide +kernel
theorem dM_floor_10 : decode mM_floor.2.1 10 = .ok (.aload_n 0, 1) := by decide +kernel
theorem dM_floor_11 : decode mM_floor.2.1 11 = .ok (.iconst 0, 1) := by decide +kernel
theorem dM_floor_12 : decode mM_floor.2.1 12 = .ok (.putfield 74, 3) := by decide +kernel
theorem dM_floor_15 : decode mM_floor.2.1 15 = .ok (.aload_n 0, 1) := by decide +kernel
theorem dM_floor_16 : decode mM_floor.2.1 16 = .ok (.bipush (-9), 2) := by decide +kernel
theorem dM_floor_18 : decode mM_floor.2.1 18 = .ok (.putfield 87, 3) := by decide +kernel
theorem dM_floor_21 : decode mM_floor.2.1 21 = .ok (.iconst 0, 1) := by decide +kernel
theorem dM_floor_22 : decode mM_floor.2.1 22 = .ok (.istore_n 1, 1) := by decide +kernel
theorem dM_floor_23 : decode mM_floor.2.1 23 = .ok (.iload_n 1, 1) := by decide +kernel
theorem dM_floor_24 : decode mM_floor.2.1 24 = .ok (.aload_n 0, 1) := by decide +kernel
theorem dM_floor_25 : decode mM_floor.2.1 25 = .ok (.getfield 71, 3) := by decide +kernel
theorem dM_floor_28 : decode mM_floor.2.1 28 = .ok (.if_icmp .ge 38, 3) := by decide +kernel
theorem dM_floor_31 : decode mM_floor.2.1 31 = .ok (.aload_n 0, 1) := by decide +kernel
theorem dM_floor_32 : decode mM_floor.2.1 32 = .ok (.getfield 33, 3) := by decide +kernel
theorem dM_floor_35 : decode mM_floor.2.1 35 = .ok (.iload_n 1, 1) := by decide +kernel
theorem dM_floor_36 : decode mM_floor.2.1 36 = .ok (.iaload, 1) := by decide +kernel
theorem dM_floor_37 : decode mM_floor.2.1 37 = .ok (.bipush 32, 2) := by decide +kernel
theorem dM_floor_39 : decode mM_floor.2.1 39 = .ok (.if_icmp .eq 21, 3) := by decide +kernel
theorem dM_floor_42 : decode mM_floor.2.1 42 = .ok (.aload_n 0, 1) := by decide +kernel
theorem dM_floor_43 : decode mM_floor.2.1 43 = .ok (.aload_n 0, 1) := by decide +kernel
theorem dM_floor_44 : decode mM_floor.2.1 44 = .ok (.getfield 33, 3) := by decide +kernel
theorem dM_floor_47 : decode mM_floor.2.1 47 = .ok (.iload_n 1, 1) := by decide +kernel
theorem dM_floor_48 : decode mM_floor.2.1 48 = .ok (.iaload, 1) := by decide +kernel
theorem dM_floor_49 : decode mM_floor.2.1 49 = .ok (.invokevirtual 90, 3) := by decide +kernel
theorem dM_floor_52 : decode mM_floor.2.1 52 = .ok (.ifCond .ne 8, 3) := by decide +kernel
theorem dM_floor_55 : decode mM_floor.2.1 55 = .ok (.bipush (-10), 2) := by decide +kernel
theorem dM_floor_57 : decode mM_floor.2.1 57 = .ok (.iload_n 1, 1) := by decide +kernel
theorem dM_floor_58 : decode mM_floor.2.1 58 = .ok (.isub, 1) := by decide +kernel
theorem dM_floor_59 : decode mM_floor.2.1 59 = .ok (.ireturn, 1) := by decide +kernel
theorem dM_floor_60 : decode mM_floor.2.1 60 = .ok (.iinc 1 1, 3) := by decide +kernel
theorem dM_floor_63 : decode mM_floor.2.1 63 = .ok (.goto (-40), 3) := by decide +kernel
theorem dM_floor_66 : decode mM_floor.2.1 66 = .ok (.aload_n 0, 1) := by decide +kernel
theorem dM_floor_67 : decode mM_floor.2.1 67 = .ok (.getfield 74, 3) := by decide +kernel
theorem dM_floor_70 : decode mM_floor.2.1 70 = .ok (.ifCond .gt 19, 3) := by decide +kernel
theorem dM_floor_73 : decode mM_floor.2.1 73 = .ok (.aload_n 0, 1) := by decide +kernel
theorem dM_floor_74 : decode mM_floor.2.1 74 = .ok (.getfield 77, 3) := by decide +kernel
theorem dM_floor_77 : decode mM_floor.2.1 77 = .ok (.ifCond .eq 12, 3) := by decide +kernel
theorem dM_floor_80 : decode mM_floor.2.1 80 = .ok (.aload_n 0, 1) := by decide +kernel
theorem dM_floor_81 : decode mM_floor.2.1 81 = .ok (.getfield 87, 3) := by decide +kernel
theorem dM_floor_84 : decode mM_floor.2.1 84 = .ok (.bipush (-9), 2) := by decide +kernel
theorem dM_floor_86 : decode mM_floor.2.1 86 = .ok (.if_icmp .ne 11, 3) := by decide +kernel
theorem dM_floor_89 : decode mM_floor.2.1 89 = .ok (.bipush (-10), 2) := by decide +kernel
theorem dM_floor_91 : decode mM_floor.2.1 91 = .ok (.aload_n 0, 1) := by decide +kernel
theorem dM_floor_92 : decode mM_floor.2.1 92 = .ok (.getfield 71, 3) := by decide +kernel
theorem dM_floor_95 : decode mM_floor.2.1 95 = .ok (.isub, 1) := by decide +kernel
theorem dM_floor_96 : decode mM_floor.2.1 96 = .ok (.ireturn, 1) := by decide +kernel
theorem dM_floor_97 : decode mM_floor.2.1 97 = .ok (.aload_n 0, 1) := by decide +kernel
theorem dM_floor_98 : decode mM_floor.2.1 98 = .ok (.aload_n 0, 1) := by decide +kernel
theorem dM_floor_99 : decode mM_floor.2.1 99 = .ok (.getfield 80, 3) := by decide +kernel
theorem dM_floor_102 : decode mM_floor.2.1 102 = .ok (.putfield 7, 3) := by decide +kernel
theorem dM_floor_105 : decode mM_floor.2.1 105 = .ok (.aload_n 0, 1) := by decide +kernel
theorem dM_floor_106 : decode mM_floor.2.1 106 = .ok (.aload_n 0, 1) := by decide +kernel
theorem dM_floor_107 : decode mM_floor.2.1 107 = .ok (.getfield 77, 3) := by decide +kernel
theorem dM_floor_110 : decode mM_floor.2.1 110 = .ok (.putfield 13, 3) := by decide +kernel
theorem dM_floor_113 : decode mM_floor.2.1 113 = .ok (.aload_n 0, 1) := by decide +kernel
theorem dM_floor_114 : decode mM_floor.2.1 114 = .ok (.aload_n 0, 1) := by decide +kernel
theorem dM_floor_115 : decode mM_floor.2.1 115 = .ok (.getfield 87, 3) := by decide +kernel
theorem dM_floor_118 : decode mM_floor.2.1 118 = .ok (.bipush 6, 2) := by decide +kernel
theorem dM_floor_120 : decode mM_floor.2.1 120 = .ok (.idiv, 1) := by decide +kernel
theorem dM_floor_121 : decode mM_floor.2.1 121 = .ok (.aload_n 0, 1) := by decide +kernel
theorem dM_floor_122 : decode mM_floor.2.1 122 = .ok (.getfield 7, 3) := by decide +kernel
theorem dM_floor_125 : decode mM_floor.2.1 125 = .ok (.imul, 1) := by decide +kernel
theorem dM_floor_126 : decode mM_floor.2.1 126 = .ok (.aload_n 0, 1) := by decide +kernel
theorem dM_floor_127 : decode mM_floor.2.1 127 = .ok (.getfield 87, 3) := by decide +kernel
theorem dM_floor_130 : decode mM_floor.2.1 130 = .ok (.bipush 6, 2) := by decide +kernel
theorem dM_floor_132 : decode mM_floor.2.1 132 = .ok (.irem, 1) := by decide +kernel
theorem dM_floor_133 : decode mM_floor.2.1 133 = .ok (.iadd, 1) := by decide +kernel
theorem dM_floor_134 : decode mM_floor.2.1 134 = .ok (.putfield 61, 3) := by decide +kernel
theorem dM_floor_137 : decode mM_floor.2.1 137 = .ok (.iconst 0, 1) := by decide +kernel
theorem dM_floor_138 : decode mM_floor.2.1 138 = .ok (.istore_n 1, 1) := by decide +kernel
theorem dM_floor_139 : decode mM_floor.2.1 139 = .ok (.iload_n 1, 1) := by decide +kernel
theorem dM_floor_140 : decode mM_floor.2.1 140 = .ok (.aload_n 0, 1) := by decide +kernel
theorem dM_floor_141 : decode mM_floor.2.1 141 = .ok (.invokevirtual 57, 3) := by decide +kernel
theorem dM_floor_144 : decode mM_floor.2.1 144 = .ok (.if_icmp .ge 36, 3) := by decide +kernel
theorem dM_floor_147 : decode mM_floor.2.1 147 = .ok (.aload_n 0, 1) := by decide +kernel
theorem dM_floor_148 : decode mM_floor.2.1 148 = .ok (.getfield 16, 3) := by decide +kernel
theorem dM_floor_151 : decode mM_floor.2.1 151 = .ok (.iload_n 1, 1) := by decide +kernel
theorem dM_floor_152 : decode mM_floor.2.1 152 = .ok (.aload_n 0, 1) := by decide +kernel
theorem dM_floor_153 : decode mM_floor.2.1 153 = .ok (.getfield 36, 3) := by decide +kernel
theorem dM_floor_156 : decode mM_floor.2.1 156 = .ok (.bipush 6, 2) := by decide +kernel
theorem dM_floor_158 : decode mM_floor.2.1 158 = .ok (.iload_n 1, 1) := by decide +kernel
theorem dM_floor_159 : decode mM_floor.2.1 159 = .ok (.aload_n 0, 1) := by decide +kernel
theorem dM_floor_160 : decode mM_floor.2.1 160 = .ok (.getfield 7, 3) := by decide +kernel
theorem dM_floor_163 : decode mM_floor.2.1 163 = .ok (.idiv, 1) := by decide +kernel
theorem dM_floor_164 : decode mM_floor.2.1 164 = .ok (.imul, 1) := by decide +kernel
theorem dM_floor_165 : decode mM_floor.2.1 165 = .ok (.iload_n 1, 1) := by decide +kernel
theorem dM_floor_166 : decode mM_floor.2.1 166 = .ok (.aload_n 0, 1) := by decide +kernel
theorem dM_floor_167 : decode mM_floor.2.1 167 = .ok (.getfield 7, 3) := by decide +kernel
theorem dM_floor_170 : decode mM_floor.2.1 170 = .ok (.irem, 1) := by decide +kernel
theorem dM_floor_171 : decode mM_floor.2.1 171 = .ok (.iadd, 1) := by decide +kernel
theorem dM_floor_172 : decode mM_floor.2.1 172 = .ok (.iaload, 1) := by decide +kernel
theorem dM_floor_173 : decode mM_floor.2.1 173 = .ok (.iastore, 1) := by decide +kernel
theorem dM_floor_174 : decode mM_floor.2.1 174 = .ok (.iinc 1 1, 3) := by decide +kernel
theorem dM_floor_177 : decode mM_floor.2.1 177 = .ok (.goto (-38), 3) := by decide +kernel
theorem dM_floor_180 : decode mM_floor.2.1 180 = .ok (.aload_n 0, 1) := by decide +kernel
theorem dM_floor_181 : decode mM_floor.2.1 181 = .ok (.invokevirtual 54, 3) := by decide +kernel
theorem dM_floor_184 : decode mM_floor.2.1 184 = .ok (.aload_n 0, 1) := by decide +kernel
theorem dM_floor_185 : decode mM_floor.2.1 185 = .ok (.iconst 0, 1) := by decide +kernel
theorem dM_floor_186 : decode mM_floor.2.1 186 = .ok (.putfield 71, 3) := by decide +kernel
theorem dM_floor_189 : decode mM_floor.2.1 189 = .ok (.aload_n 0, 1) := by decide +kernel
theorem dM_floor_190 : decode mM_floor.2.1 190 = .ok (.invokevirtual 57, 3) := by decide +kernel
theorem dM_floor_193 : decode mM_floor.2.1 193 = .ok (.ireturn, 1) := by decide +kernel
theorem dM_isCell_0 : decode mM_isCell.2.1 0 = .ok (.iload_n 1, 1) := by decide +kernel
theorem dM_isCell_1 : decode mM_isCell.2.1 1 = .ok (.iconst 0, 1) := by decide +kernel
theorem dM_isCell_2 : decode mM_isCell.2.1 2 = .ok (.aload_n 0, 1) := by decide +kernel
theorem dM_isCell_3 : decode mM_isCell.2.1 3 = .ok (.invokevirtual 57, 3) := by decide +kernel
theorem dM_isCell_6 : decode mM_isCell.2.1 6 = .ok (.iconst 1, 1) := by decide +kernel
theorem dM_isCell_7 : decode mM_isCell.2.1 7 = .ok (.isub, 1) := by decide +kernel
theorem dM_isCell_8 : decode mM_isCell.2.1 8 = .ok (.invokestatic 67, 3) := by decide +kernel
theorem dM_isCell_11 : decode mM_isCell.2.1 11 = .ok (.ireturn, 1) := by decide +kernel
theorem dM_isFree_0 : decode mM_isFree.2.1 0 = .ok (.aload_n 0, 1) := by decide +kernel
theorem dM_isFree_1 : decode mM_isFree.2.1 1 = .ok (.getfield 16, 3) := by decide +kernel
theorem dM_isFree_4 : decode mM_isFree.2.1 4 = .ok (.iload_n 1, 1) := by decide +kernel
theorem dM_isFree_5 : decode mM_isFree.2.1 5 = .ok (.iaload, 1) := by decide +kernel
theorem dM_isFree_6 : decode mM_isFree.2.1 6 = .ok (.ifCond .eq 24, 3) := by decide +kernel
theorem dM_isFree_9 : decode mM_isFree.2.1 9 = .ok (.aload_n 0, 1) := by decide +kernel
theorem dM_isFree_10 : decode mM_isFree.2.1 10 = .ok (.getfield 16, 3) := by decide +kernel
theorem dM_isFree_13 : decode mM_isFree.2.1 13 = .ok (.iload_n 1, 1) := by decide +kernel
theorem dM_isFree_14 : decode mM_isFree.2.1 14 = .ok (.iaload, 1) := by decide +kernel
theorem dM_isFree_15 : decode mM_isFree.2.1 15 = .ok (.bipush 6, 2) := by decide +kernel
theorem dM_isFree_17 : decode mM_isFree.2.1 17 = .ok (.if_icmp .eq 13, 3) := by decide +kernel
theorem dM_isFree_20 : decode mM_isFree.2.1 20 = .ok (.aload_n 0, 1) := by decide +kernel
theorem dM_isFree_21 : decode mM_isFree.2.1 21 = .ok (.getfield 16, 3) := by decide +kernel
theorem dM_isFree_24 : decode mM_isFree.2.1 24 = .ok (.iload_n 1, 1) := by decide +kernel
theorem dM_isFree_25 : decode mM_isFree.2.1 25 = .ok (.iaload, 1) := by decide +kernel
theorem dM_isFree_26 : decode mM_isFree.2.1 26 = .ok (.iconst 4, 1) := by decide +kernel
theorem dM_isFree_27 : decode mM_isFree.2.1 27 = .ok (.if_icmp .ne 7, 3) := by decide +kernel
theorem dM_isFree_30 : decode mM_isFree.2.1 30 = .ok (.iconst 1, 1) := by decide +kernel
theorem dM_isFree_31 : decode mM_isFree.2.1 31 = .ok (.goto 4, 3) := by decide +kernel
theorem dM_isFree_34 : decode mM_isFree.2.1 34 = .ok (.iconst 0, 1) := by decide +kernel
theorem dM_isFree_35 : decode mM_isFree.2.1 35 = .ok (.ireturn, 1) := by decide +kernel
theorem dM_isDoor_0 : decode mM_isDoor.2.1 0 = .ok (.aload_n 0, 1) := by decide +kernel
theorem dM_isDoor_1 : decode mM_isDoor.2.1 1 = .ok (.getfield 16, 3) := by decide +kernel
theorem dM_isDoor_4 : decode mM_isDoor.2.1 4 = .ok (.iload_n 1, 1) := by decide +kernel
theorem dM_isDoor_5 : decode mM_isDoor.2.1 5 = .ok (.iaload, 1) := by decide +kernel
theorem dM_isDoor_6 : decode mM_isDoor.2.1 6 = .ok (.iconst 4, 1) := by decide +kernel
theorem dM_isDoor_7 : decode mM_isDoor.2.1 7 = .ok (.if_icmp .eq 13, 3) := by decide +kernel
theorem dM_isDoor_10 : decode mM_isDoor.2.1 10 = .ok (.aload_n 0, 1) := by decide +kernel
theorem dM_isDoor_11 : decode mM_isDoor.2.1 11 = .ok (.getfield 16, 3) := by decide +kernel
theorem dM_isDoor_14 : decode mM_isDoor.2.1 14 = .ok (.iload_n 1, 1) := by decide +kernel
theorem dM_isDoor_15 : decode mM_isDoor.2.1 15 = .ok (.iaload, 1) := by decide +kernel
theorem dM_isDoor_16 : decode mM_isDoor.2.1 16 = .ok (.iconst 5, 1) := by decide +kernel
theorem dM_isDoor_17 : decode mM_isDoor.2.1 17 = .ok (.if_icmp .ne 7, 3) := by decide +kernel
theorem dM_isDoor_20 : decode mM_isDoor.2.1 20 = .ok (.iconst 1, 1) := by decide +kernel
theorem dM_isDoor_21 : decode mM_isDoor.2.1 21 = .ok (.goto 4, 3) := by decide +kernel
theorem dM_isDoor_24 : decode mM_isDoor.2.1 24 = .ok (.iconst 0, 1) := by decide +kernel
theorem dM_isDoor_25 : decode mM_isDoor.2.1 25 = .ok (.ireturn, 1) := by decide +kernel
theorem dM_beside_0 : decode mM_beside.2.1 0 = .ok (.iload_n 1, 1) := by decide +kernel
theorem dM_beside_1 : decode mM_beside.2.1 1 = .ok (.aload_n 0, 1) := by decide +kernel
theorem dM_beside_2 : decode mM_beside.2.1 2 = .ok (.getfield 7, 3) := by decide +kernel
theorem dM_beside_5 : decode mM_beside.2.1 5 = .ok (.irem, 1) := by decide +kernel
theorem dM_beside_6 : decode mM_beside.2.1 6 = .ok (.iload_n 2, 1) := by decide +kernel
theorem dM_beside_7 : decode mM_beside.2.1 7 = .ok (.iconst 1, 1) := by decide +kernel
theorem dM_beside_8 : decode mM_beside.2.1 8 = .ok (.if_icmp .ne 7, 3) := by decide +kernel
theorem dM_beside_11 : decode mM_beside.2.1 11 = .ok (.iconst 1, 1) := by decide +kernel
theorem dM_beside_12 : decode mM_beside.2.1 12 = .ok (.goto 13, 3) := by decide +kernel
theorem dM_beside_15 : decode mM_beside.2.1 15 = .ok (.iload_n 2, 1) := by decide +kernel
theorem dM_beside_16 : decode mM_beside.2.1 16 = .ok (.iconst 3, 1) := by decide +kernel
theorem dM_beside_17 : decode mM_beside.2.1 17 = .ok (.if_icmp .ne 7, 3) := by decide +kernel
theorem dM_beside_20 : decode mM_beside.2.1 20 = .ok (.iconst (-1), 1) := by decide +kernel
theorem dM_beside_21 : decode mM_beside.2.1 21 = .ok (.goto 4, 3) := by decide +kernel
theorem dM_beside_24 : decode mM_beside.2.1 24 = .ok (.iconst 0, 1) := by decide +kernel
theorem dM_beside_25 : decode mM_beside.2.1 25 = .ok (.iadd, 1) := by decide +kernel
theorem dM_beside_26 : decode mM_beside.2.1 26 = .ok (.istore_n 3, 1) := by decide +kernel
theorem dM_beside_27 : decode mM_beside.2.1 27 = .ok (.iload_n 1, 1) := by decide +kernel
theorem dM_beside_28 : decode mM_beside.2.1 28 = .ok (.aload_n 0, 1) := by decide +kernel
theorem dM_beside_29 : decode mM_beside.2.1 29 = .ok (.getfield 7, 3) := by decide +kernel
theorem dM_beside_32 : decode mM_beside.2.1 32 = .ok (.idiv, 1) := by decide +kernel
theorem dM_beside_33 : decode mM_beside.2.1 33 = .ok (.iload_n 2, 1) := by decide +kernel
theorem dM_beside_34 : decode mM_beside.2.1 34 = .ok (.iconst 2, 1) := by decide +kernel
theorem dM_beside_35 : decode mM_beside.2.1 35 = .ok (.if_icmp .ne 7, 3) := by decide +kernel
theorem dM_beside_38 : decode mM_beside.2.1 38 = .ok (.iconst 1, 1) := by decide +kernel
theorem dM_beside_39 : decode mM_beside.2.1 39 = .ok (.goto 12, 3) := by decide +kernel
theorem dM_beside_42 : decode mM_beside.2.1 42 = .ok (.iload_n 2, 1) := by decide +kernel
theorem dM_beside_43 : decode mM_beside.2.1 43 = .ok (.ifCond .ne 7, 3) := by decide +kernel
theorem dM_beside_46 : decode mM_beside.2.1 46 = .ok (.iconst (-1), 1) := by decide +kernel
theorem dM_beside_47 : decode mM_beside.2.1 47 = .ok (.goto 4, 3) := by decide +kernel
theorem dM_beside_50 : decode mM_beside.2.1 50 = .ok (.iconst 0, 1) := by decide +kernel
theorem dM_beside_51 : decode mM_beside.2.1 51 = .ok (.iadd, 1) := by decide +kernel
theorem dM_beside_52 : decode mM_beside.2.1 52 = .ok (.istore 4, 2) := by decide +kernel
theorem dM_beside_54 : decode mM_beside.2.1 54 = .ok (.iload_n 3, 1) := by decide +kernel
theorem dM_beside_55 : decode mM_beside.2.1 55 = .ok (.iconst 0, 1) := by decide +kernel
theorem dM_beside_56 : decode mM_beside.2.1 56 = .ok (.aload_n 0, 1) := by decide +kernel
theorem dM_beside_57 : decode mM_beside.2.1 57 = .ok (.getfield 7, 3) := by decide +kernel
theorem dM_beside_60 : decode mM_beside.2.1 60 = .ok (.iconst 1, 1) := by decide +kernel
theorem dM_beside_61 : decode mM_beside.2.1 61 = .ok (.isub, 1) := by decide +kernel
theorem dM_beside_62 : decode mM_beside.2.1 62 = .ok (.invokestatic 67, 3) := by decide +kernel
theorem dM_beside_65 : decode mM_beside.2.1 65 = .ok (.ifCond .eq 30, 3) := by decide +kernel
theorem dM_beside_68 : decode mM_beside.2.1 68 = .ok (.iload 4, 2) := by decide +kernel
theorem dM_beside_70 : decode mM_beside.2.1 70 = .ok (.iconst 0, 1) := by decide +kernel
theorem dM_beside_71 : decode mM_beside.2.1 71 = .ok (.aload_n 0, 1) := by decide +kernel
theorem dM_beside_72 : decode mM_beside.2.1 72 = .ok (.getfield 13, 3) := by decide +kernel
theorem dM_beside_75 : decode mM_beside.2.1 75 = .ok (.iconst 1, 1) := by decide +kernel
theorem dM_beside_76 : decode mM_beside.2.1 76 = .ok (.isub, 1) := by decide +kernel
theorem dM_beside_77 : decode mM_beside.2.1 77 = .ok (.invokestatic 67, 3) := by decide +kernel
theorem dM_beside_80 : decode mM_beside.2.1 80 = .ok (.ifCond .eq 15, 3) := by decide +kernel
theorem dM_beside_83 : decode mM_beside.2.1 83 = .ok (.aload_n 0, 1) := by decide +kernel
theorem dM_beside_84 : decode mM_beside.2.1 84 = .ok (.getfield 7, 3) := by decide +kernel
theorem dM_beside_87 : decode mM_beside.2.1 87 = .ok (.iload 4, 2) := by decide +kernel
theorem dM_beside_89 : decode mM_beside.2.1 89 = .ok (.imul, 1) := by decide +kernel
theorem dM_beside_90 : decode mM_beside.2.1 90 = .ok (.iload_n 3, 1) := by decide +kernel
theorem dM_beside_91 : decode mM_beside.2.1 91 = .ok (.iadd, 1) := by decide +kernel
theorem dM_beside_92 : decode mM_beside.2.1 92 = .ok (.goto 5, 3) := by decide +kernel
theorem dM_beside_95 : decode mM_beside.2.1 95 = .ok (.bipush (-9), 2) := by decide +kernel
theorem dM_beside_97 : decode mM_beside.2.1 97 = .ok (.ireturn, 1) := by decide +kernel
theorem dM_cell_0 : decode mM_cell.2.1 0 = .ok (.aload_n 0, 1) := by decide +kernel
theorem dM_cell_1 : decode mM_cell.2.1 1 = .ok (.iload_n 1, 1) := by decide +kernel
theorem dM_cell_2 : decode mM_cell.2.1 2 = .ok (.invokevirtual 94, 3) := by decide +kernel
theorem dM_cell_5 : decode mM_cell.2.1 5 = .ok (.ifCond .eq 12, 3) := by decide +kernel
theorem dM_cell_8 : decode mM_cell.2.1 8 = .ok (.aload_n 0, 1) := by decide +kernel
theorem dM_cell_9 : decode mM_cell.2.1 9 = .ok (.getfield 16, 3) := by decide +kernel
theorem dM_cell_12 : decode mM_cell.2.1 12 = .ok (.iload_n 1, 1) := by decide +kernel
theorem dM_cell_13 : decode mM_cell.2.1 13 = .ok (.iaload, 1) := by decide +kernel
theorem dM_cell_14 : decode mM_cell.2.1 14 = .ok (.goto 4, 3) := by decide +kernel
theorem dM_cell_17 : decode mM_cell.2.1 17 = .ok (.iconst (-1), 1) := by decide +kernel
theorem dM_cell_18 : decode mM_cell.2.1 18 = .ok (.ireturn, 1) := by decide +kernel
theorem dM_remembers_0 : decode mM_remembers.2.1 0 = .ok (.aload_n 0, 1) := by decide +kernel
theorem dM_remembers_1 : decode mM_remembers.2.1 1 = .ok (.getfield 64, 3) := by decide +kernel
theorem dM_remembers_4 : decode mM_remembers.2.1 4 = .ok (.bipush 6, 2) := by decide +kernel
theorem dM_remembers_6 : decode mM_remembers.2.1 6 = .ok (.if_icmp .ne 43, 3) := by decide +kernel
theorem dM_remembers_9 : decode mM_remembers.2.1 9 = .ok (.iconst 0, 1) := by decide +kernel
theorem dM_remembers_10 : decode mM_remembers.2.1 10 = .ok (.istore_n 1, 1) := by decide +kernel
theorem dM_remembers_11 : decode mM_remembers.2.1 11 = .ok (.iload_n 1, 1) := by decide +kernel
theorem dM_remembers_12 : decode mM_remembers.2.1 12 = .ok (.sipush 570, 3) := by decide +kernel
theorem dM_remembers_15 : decode mM_remembers.2.1 15 = .ok (.if_icmp .ge 24, 3) := by decide +kernel
theorem dM_remembers_18 : decode mM_remembers.2.1 18 = .ok (.aload_n 0, 1) := by decide +kernel
theorem dM_remembers_19 : decode mM_remembers.2.1 19 = .ok (.getfield 20, 3) := by decide +kernel
theorem dM_remembers_22 : decode mM_remembers.2.1 22 = .ok (.iload_n 1, 1) := by decide +kernel
theorem dM_remembers_23 : decode mM_remembers.2.1 23 = .ok (.aload_n 0, 1) := by decide +kernel
theorem dM_remembers_24 : decode mM_remembers.2.1 24 = .ok (.getfield 20, 3) := by decide +kernel
theorem dM_remembers_27 : decode mM_remembers.2.1 27 = .ok (.iload_n 1, 1) := by decide +kernel
theorem dM_remembers_28 : decode mM_remembers.2.1 28 = .ok (.bipush 114, 2) := by decide +kernel
theorem dM_remembers_30 : decode mM_remembers.2.1 30 = .ok (.iadd, 1) := by decide +kernel
theorem dM_remembers_31 : decode mM_remembers.2.1 31 = .ok (.iaload, 1) := by decide +kernel
theorem dM_remembers_32 : decode mM_remembers.2.1 32 = .ok (.iastore, 1) := by decide +kernel
theorem dM_remembers_33 : decode mM_remembers.2.1 33 = .ok (.iinc 1 1, 3) := by decide +kernel
theorem dM_remembers_36 : decode mM_remembers.2.1 36 = .ok (.goto (-25), 3) := by decide +kernel
theorem dM_remembers_39 : decode mM_remembers.2.1 39 = .ok (.aload_n 0, 1) := by decide +kernel
theorem dM_remembers_40 : decode mM_remembers.2.1 40 = .ok (.dup, 1) := by decide +kernel
theorem dM_remembers_41 : decode mM_remembers.2.1 41 = .ok (.getfield 64, 3) := by decide +kernel
theorem dM_remembers_44 : decode mM_remembers.2.1 44 = .ok (.iconst 1, 1) := by decide +kernel
theorem dM_remembers_45 : decode mM_remembers.2.1 45 = .ok (.isub, 1) := by decide +kernel
theorem dM_remembers_46 : decode mM_remembers.2.1 46 = .ok (.putfield 64, 3) := by decide +kernel
theorem dM_remembers_49 : decode mM_remembers.2.1 49 = .ok (.iconst 0, 1) := by decide +kernel
theorem dM_remembers_50 : decode mM_remembers.2.1 50 = .ok (.istore_n 1, 1) := by decide +kernel
theorem dM_remembers_51 : decode mM_remembers.2.1 51 = .ok (.iload_n 1, 1) := by decide +kernel
theorem dM_remembers_52 : decode mM_remembers.2.1 52 = .ok (.bipush 114, 2) := by decide +kernel
theorem dM_remembers_54 : decode mM_remembers.2.1 54 = .ok (.if_icmp .ge 29, 3) := by decide +kernel
theorem dM_remembers_57 : decode mM_remembers.2.1 57 = .ok (.aload_n 0, 1) := by decide +kernel
theorem dM_remembers_58 : decode mM_remembers.2.1 58 = .ok (.getfield 20, 3) := by decide +kernel
theorem dM_remembers_61 : decode mM_remembers.2.1 61 = .ok (.bipush 114, 2) := by decide +kernel
theorem dM_remembers_63 : decode mM_remembers.2.1 63 = .ok (.aload_n 0, 1) := by decide +kernel
theorem dM_remembers_64 : decode mM_remembers.2.1 64 = .ok (.getfield 64, 3) := by decide +kernel
theorem dM_remembers_67 : decode mM_remembers.2.1 67 = .ok (.imul, 1) := by decide +kernel
theorem dM_remembers_68 : decode mM_remembers.2.1 68 = .ok (.iload_n 1, 1) := by decide +kernel
theorem dM_remembers_69 : decode mM_remembers.2.1 69 = .ok (.iadd, 1) := by decide +kernel
theorem dM_remembers_70 : decode mM_remembers.2.1 70 = .ok (.aload_n 0, 1) := by decide +kernel
theorem dM_remembers_71 : decode mM_remembers.2.1 71 = .ok (.getfield 16, 3) := by decide +kernel
theorem dM_remembers_74 : decode mM_remembers.2.1 74 = .ok (.iload_n 1, 1) := by decide +kernel
theorem dM_remembers_75 : decode mM_remembers.2.1 75 = .ok (.iaload, 1) := by decide +kernel
theorem dM_remembers_76 : decode mM_remembers.2.1 76 = .ok (.iastore, 1) := by decide +kernel
theorem dM_remembers_77 : decode mM_remembers.2.1 77 = .ok (.iinc 1 1, 3) := by decide +kernel
theorem dM_remembers_80 : decode mM_remembers.2.1 80 = .ok (.goto (-29), 3) := by decide +kernel
theorem dM_remembers_83 : decode mM_remembers.2.1 83 = .ok (.aload_n 0, 1) := by decide +kernel
theorem dM_remembers_84 : decode mM_remembers.2.1 84 = .ok (.dup, 1) := by decide +kernel
theorem dM_remembers_85 : decode mM_remembers.2.1 85 = .ok (.getfield 64, 3) := by decide +kernel
theorem dM_remembers_88 : decode mM_remembers.2.1 88 = .ok (.iconst 1, 1) := by decide +kernel
theorem dM_remembers_89 : decode mM_remembers.2.1 89 = .ok (.iadd, 1) := by decide +kernel
theorem dM_remembers_90 : decode mM_remembers.2.1 90 = .ok (.putfield 64, 3) := by decide +kernel
theorem dM_remembers_93 : decode mM_remembers.2.1 93 = .ok (.return_, 1) := by decide +kernel
theorem dM_powers_0 : decode mM_powers.2.1 0 = .ok (.iload_n 1, 1) := by decide +kernel
theorem dM_powers_1 : decode mM_powers.2.1 1 = .ok (.iconst 1, 1) := by decide +kernel
theorem dM_powers_2 : decode mM_powers.2.1 2 = .ok (.bipush 99, 2) := by decide +kernel
theorem dM_powers_4 : decode mM_powers.2.1 4 = .ok (.invokestatic 67, 3) := by decide +kernel
theorem dM_powers_7 : decode mM_powers.2.1 7 = .ok (.ifCond .eq 13, 3) := by decide +kernel
theorem dM_powers_10 : decode mM_powers.2.1 10 = .ok (.iload_n 2, 1) := by decide +kernel
theorem dM_powers_11 : decode mM_powers.2.1 11 = .ok (.iconst 1, 1) := by decide +kernel
theorem dM_powers_12 : decode mM_powers.2.1 12 = .ok (.bipush 20, 2) := by decide +kernel
theorem dM_powers_14 : decode mM_powers.2.1 14 = .ok (.invokestatic 67, 3) := by decide +kernel
theorem dM_powers_17 : decode mM_powers.2.1 17 = .ok (.ifCond .ne 5, 3) := by decide +kernel
theorem dM_powers_20 : decode mM_powers.2.1 20 = .ok (.iconst (-1), 1) := by decide +kernel
theorem dM_powers_21 : decode mM_powers.2.1 21 = .ok (.ireturn, 1) := by decide +kernel
theorem dM_powers_22 : decode mM_powers.2.1 22 = .ok (.aload_n 0, 1) := by decide +kernel
theorem dM_powers_23 : decode mM_powers.2.1 23 = .ok (.getfield 16, 3) := by decide +kernel
theorem dM_powers_26 : decode mM_powers.2.1 26 = .ok (.bipush 112, 2) := by decide +kernel
theorem dM_powers_28 : decode mM_powers.2.1 28 = .ok (.iaload, 1) := by decide +kernel
theorem dM_powers_29 : decode mM_powers.2.1 29 = .ok (.iload_n 1, 1) := by decide +kernel
theorem dM_powers_30 : decode mM_powers.2.1 30 = .ok (.if_icmp .ne 17, 3) := by decide +kernel
theorem dM_powers_33 : decode mM_powers.2.1 33 = .ok (.aload_n 0, 1) := by decide +kernel
theorem dM_powers_34 : decode mM_powers.2.1 34 = .ok (.getfield 16, 3) := by decide +kernel
theorem dM_powers_37 : decode mM_powers.2.1 37 = .ok (.bipush 113, 2) := by decide +kernel
theorem dM_powers_39 : decode mM_powers.2.1 39 = .ok (.iaload, 1) := by decide +kernel
theorem dM_powers_40 : decode mM_powers.2.1 40 = .ok (.iload_n 2, 1) := by decide +kernel
theorem dM_powers_41 : decode mM_powers.2.1 41 = .ok (.if_icmp .ne 6, 3) := by decide +kernel
theorem dM_powers_44 : decode mM_powers.2.1 44 = .ok (.bipush (-2), 2) := by decide +kernel
theorem dM_powers_46 : decode mM_powers.2.1 46 = .ok (.ireturn, 1) := by decide +kernel
theorem dM_powers_47 : decode mM_powers.2.1 47 = .ok (.aload_n 0, 1) := by decide +kernel
theorem dM_powers_48 : decode mM_powers.2.1 48 = .ok (.invokevirtual 97, 3) := by decide +kernel
theorem dM_powers_51 : decode mM_powers.2.1 51 = .ok (.aload_n 0, 1) := by decide +kernel
theorem dM_powers_52 : decode mM_powers.2.1 52 = .ok (.getfield 16, 3) := by decide +kernel
theorem dM_powers_55 : decode mM_powers.2.1 55 = .ok (.bipush 112, 2) := by decide +kernel
theorem dM_powers_57 : decode mM_powers.2.1 57 = .ok (.iload_n 1, 1) := by decide +kernel
theorem dM_powers_58 : decode mM_powers.2.1 58 = .ok (.iastore, 1) := by decide +kernel
theorem dM_powers_59 : decode mM_powers.2.1 59 = .ok (.aload_n 0, 1) := by decide +kernel
theorem dM_powers_60 : decode mM_powers.2.1 60 = .ok (.getfield 16, 3) := by decide +kernel
theorem dM_powers_63 : decode mM_powers.2.1 63 = .ok (.bipush 113, 2) := by decide +kernel
theorem dM_powers_65 : decode mM_powers.2.1 65 = .ok (.iload_n 2, 1) := by decide +kernel
theorem dM_powers_66 : decode mM_powers.2.1 66 = .ok (.iastore, 1) := by decide +kernel
theorem dM_powers_67 : decode mM_powers.2.1 67 = .ok (.aload_n 0, 1) := by decide +kernel
theorem dM_powers_68 : decode mM_powers.2.1 68 = .ok (.getfield 16, 3) := by decide +kernel
theorem dM_powers_71 : decode mM_powers.2.1 71 = .ok (.bipush 110, 2) := by decide +kernel
theorem dM_powers_73 : decode mM_powers.2.1 73 = .ok (.aload_n 0, 1) := by decide +kernel
theorem dM_powers_74 : decode mM_powers.2.1 74 = .ok (.getfield 16, 3) := by decide +kernel
theorem dM_powers_77 : decode mM_powers.2.1 77 = .ok (.bipush 110, 2) := by decide +kernel
theorem dM_powers_79 : decode mM_powers.2.1 79 = .ok (.iaload, 1) := by decide +kernel
theorem dM_powers_80 : decode mM_powers.2.1 80 = .ok (.iload_n 1, 1) := by decide +kernel
theorem dM_powers_81 : decode mM_powers.2.1 81 = .ok (.if_icmp .le 7, 3) := by decide +kernel
theorem dM_powers_84 : decode mM_powers.2.1 84 = .ok (.iload_n 1, 1) := by decide +kernel
theorem dM_powers_85 : decode mM_powers.2.1 85 = .ok (.goto 10, 3) := by decide +kernel
theorem dM_powers_88 : decode mM_powers.2.1 88 = .ok (.aload_n 0, 1) := by decide +kernel
theorem dM_powers_89 : decode mM_powers.2.1 89 = .ok (.getfield 16, 3) := by decide +kernel
theorem dM_powers_92 : decode mM_powers.2.1 92 = .ok (.bipush 110, 2) := by decide +kernel
theorem dM_powers_94 : decode mM_powers.2.1 94 = .ok (.iaload, 1) := by decide +kernel
theorem dM_powers_95 : decode mM_powers.2.1 95 = .ok (.iastore, 1) := by decide +kernel
theorem dM_powers_96 : decode mM_powers.2.1 96 = .ok (.aload_n 0, 1) := by decide +kernel
theorem dM_powers_97 : decode mM_powers.2.1 97 = .ok (.getfield 16, 3) := by decide +kernel
theorem dM_powers_100 : decode mM_powers.2.1 100 = .ok (.bipush 110, 2) := by decide +kernel
theorem dM_powers_102 : decode mM_powers.2.1 102 = .ok (.iaload, 1) := by decide +kernel
theorem dM_powers_103 : decode mM_powers.2.1 103 = .ok (.ireturn, 1) := by decide +kernel
theorem dM_moves_0 : decode mM_moves.2.1 0 = .ok (.aload_n 0, 1) := by decide +kernel
theorem dM_moves_1 : decode mM_moves.2.1 1 = .ok (.iload_n 1, 1) := by decide +kernel
theorem dM_moves_2 : decode mM_moves.2.1 2 = .ok (.invokevirtual 94, 3) := by decide +kernel
theorem dM_moves_5 : decode mM_moves.2.1 5 = .ok (.ifCond .eq 11, 3) := by decide +kernel
theorem dM_moves_8 : decode mM_moves.2.1 8 = .ok (.aload_n 0, 1) := by decide +kernel
theorem dM_moves_9 : decode mM_moves.2.1 9 = .ok (.iload_n 1, 1) := by decide +kernel
theorem dM_moves_10 : decode mM_moves.2.1 10 = .ok (.invokevirtual 100, 3) := by decide +kernel
theorem dM_moves_13 : decode mM_moves.2.1 13 = .ok (.ifCond .ne 5, 3) := by decide +kernel
theorem dM_moves_16 : decode mM_moves.2.1 16 = .ok (.iconst (-1), 1) := by decide +kernel
theorem dM_moves_17 : decode mM_moves.2.1 17 = .ok (.ireturn, 1) := by decide +kernel
theorem dM_moves_18 : decode mM_moves.2.1 18 = .ok (.aload_n 0, 1) := by decide +kernel
theorem dM_moves_19 : decode mM_moves.2.1 19 = .ok (.getfield 16, 3) := by decide +kernel
theorem dM_moves_22 : decode mM_moves.2.1 22 = .ok (.bipush 108, 2) := by decide +kernel
theorem dM_moves_24 : decode mM_moves.2.1 24 = .ok (.iaload, 1) := by decide +kernel
theorem dM_moves_25 : decode mM_moves.2.1 25 = .ok (.iload_n 1, 1) := by decide +kernel
theorem dM_moves_26 : decode mM_moves.2.1 26 = .ok (.if_icmp .ne 6, 3) := by decide +kernel
theorem dM_moves_29 : decode mM_moves.2.1 29 = .ok (.bipush (-2), 2) := by decide +kernel
theorem dM_moves_31 : decode mM_moves.2.1 31 = .ok (.ireturn, 1) := by decide +kernel
theorem dM_moves_32 : decode mM_moves.2.1 32 = .ok (.aload_n 0, 1) := by decide +kernel
theorem dM_moves_33 : decode mM_moves.2.1 33 = .ok (.invokevirtual 97, 3) := by decide +kernel
theorem dM_moves_36 : decode mM_moves.2.1 36 = .ok (.aload_n 0, 1) := by decide +kernel
theorem dM_moves_37 : decode mM_moves.2.1 37 = .ok (.getfield 16, 3) := by decide +kernel
theorem dM_moves_40 : decode mM_moves.2.1 40 = .ok (.iload_n 1, 1) := by decide +kernel
theorem dM_moves_41 : decode mM_moves.2.1 41 = .ok (.aload_n 0, 1) := by decide +kernel
theorem dM_moves_42 : decode mM_moves.2.1 42 = .ok (.getfield 16, 3) := by decide +kernel
theorem dM_moves_45 : decode mM_moves.2.1 45 = .ok (.iload_n 1, 1) := by decide +kernel
theorem dM_moves_46 : decode mM_moves.2.1 46 = .ok (.iaload, 1) := by decide +kernel
theorem dM_moves_47 : decode mM_moves.2.1 47 = .ok (.iconst 4, 1) := by decide +kernel
theorem dM_moves_48 : decode mM_moves.2.1 48 = .ok (.if_icmp .ne 7, 3) := by decide +kernel
theorem dM_moves_51 : decode mM_moves.2.1 51 = .ok (.iconst 5, 1) := by decide +kernel
theorem dM_moves_52 : decode mM_moves.2.1 52 = .ok (.goto 4, 3) := by decide +kernel
theorem dM_moves_55 : decode mM_moves.2.1 55 = .ok (.iconst 4, 1) := by decide +kernel
theorem dM_moves_56 : decode mM_moves.2.1 56 = .ok (.iastore, 1) := by decide +kernel
theorem dM_moves_57 : decode mM_moves.2.1 57 = .ok (.aload_n 0, 1) := by decide +kernel
theorem dM_moves_58 : decode mM_moves.2.1 58 = .ok (.getfield 16, 3) := by decide +kernel
theorem dM_moves_61 : decode mM_moves.2.1 61 = .ok (.iload_n 1, 1) := by decide +kernel
theorem dM_moves_62 : decode mM_moves.2.1 62 = .ok (.iaload, 1) := by decide +kernel
theorem dM_moves_63 : decode mM_moves.2.1 63 = .ok (.iconst 4, 1) := by decide +kernel
theorem dM_moves_64 : decode mM_moves.2.1 64 = .ok (.if_icmp .ne 7, 3) := by decide +kernel
theorem dM_moves_67 : decode mM_moves.2.1 67 = .ok (.iconst 1, 1) := by decide +kernel
theorem dM_moves_68 : decode mM_moves.2.1 68 = .ok (.goto 4, 3) := by decide +kernel
theorem dM_moves_71 : decode mM_moves.2.1 71 = .ok (.iconst 0, 1) := by decide +kernel
theorem dM_moves_72 : decode mM_moves.2.1 72 = .ok (.ireturn, 1) := by decide +kernel
theorem dM_toldOf_0 : decode mM_toldOf.2.1 0 = .ok (.iload_n 1, 1) := by decide +kernel
theorem dM_toldOf_1 : decode mM_toldOf.2.1 1 = .ok (.bipush (-9), 2) := by decide +kernel
theorem dM_toldOf_3 : decode mM_toldOf.2.1 3 = .ok (.if_icmp .ne 7, 3) := by decide +kernel
theorem dM_toldOf_6 : decode mM_toldOf.2.1 6 = .ok (.iconst 1, 1) := by decide +kernel
theorem dM_toldOf_7 : decode mM_toldOf.2.1 7 = .ok (.goto 30, 3) := by decide +kernel
theorem dM_toldOf_10 : decode mM_toldOf.2.1 10 = .ok (.aload_n 0, 1) := by decide +kernel
theorem dM_toldOf_11 : decode mM_toldOf.2.1 11 = .ok (.getfield 16, 3) := by decide +kernel
theorem dM_toldOf_14 : decode mM_toldOf.2.1 14 = .ok (.iload_n 1, 1) := by decide +kernel
theorem dM_toldOf_15 : decode mM_toldOf.2.1 15 = .ok (.iaload, 1) := by decide +kernel
theorem dM_toldOf_16 : decode mM_toldOf.2.1 16 = .ok (.iconst 3, 1) := by decide +kernel
theorem dM_toldOf_17 : decode mM_toldOf.2.1 17 = .ok (.if_icmp .ne 7, 3) := by decide +kernel
theorem dM_toldOf_20 : decode mM_toldOf.2.1 20 = .ok (.iconst 2, 1) := by decide +kernel
theorem dM_toldOf_21 : decode mM_toldOf.2.1 21 = .ok (.goto 16, 3) := by decide +kernel
theorem dM_toldOf_24 : decode mM_toldOf.2.1 24 = .ok (.aload_n 0, 1) := by decide +kernel
theorem dM_toldOf_25 : decode mM_toldOf.2.1 25 = .ok (.iload_n 1, 1) := by decide +kernel
theorem dM_toldOf_26 : decode mM_toldOf.2.1 26 = .ok (.invokevirtual 103, 3) := by decide +kernel
theorem dM_toldOf_29 : decode mM_toldOf.2.1 29 = .ok (.ifCond .eq 7, 3) := by decide +kernel
theorem dM_toldOf_32 : decode mM_toldOf.2.1 32 = .ok (.iconst 0, 1) := by decide +kernel
theorem dM_toldOf_33 : decode mM_toldOf.2.1 33 = .ok (.goto 4, 3) := by decide +kernel
theorem dM_toldOf_36 : decode mM_toldOf.2.1 36 = .ok (.iconst 1, 1) := by decide +kernel
theorem dM_toldOf_37 : decode mM_toldOf.2.1 37 = .ok (.ireturn, 1) := by decide +kernel
theorem dM_canBe_0 : decode mM_canBe.2.1 0 = .ok (.iload_n 1, 1) := by decide +kernel
theorem dM_canBe_1 : decode mM_canBe.2.1 1 = .ok (.bipush (-9), 2) := by decide +kernel
theorem dM_canBe_3 : decode mM_canBe.2.1 3 = .ok (.if_icmp .ne 14, 3) := by decide +kernel
theorem dM_canBe_6 : decode mM_canBe.2.1 6 = .ok (.iload_n 2, 1) := by decide +kernel
theorem dM_canBe_7 : decode mM_canBe.2.1 7 = .ok (.iconst 1, 1) := by decide +kernel
theorem dM_canBe_8 : decode mM_canBe.2.1 8 = .ok (.if_icmp .ne 7, 3) := by decide +kernel
theorem dM_canBe_11 : decode mM_canBe.2.1 11 = .ok (.iconst 1, 1) := by decide +kernel
theorem dM_canBe_12 : decode mM_canBe.2.1 12 = .ok (.goto 4, 3) := by decide +kernel
theorem dM_canBe_15 : decode mM_canBe.2.1 15 = .ok (.iconst 0, 1) := by decide +kernel
theorem dM_canBe_16 : decode mM_canBe.2.1 16 = .ok (.ireturn, 1) := by decide +kernel
theorem dM_canBe_17 : decode mM_canBe.2.1 17 = .ok (.aload_n 0, 1) := by decide +kernel
theorem dM_canBe_18 : decode mM_canBe.2.1 18 = .ok (.getfield 16, 3) := by decide +kernel
theorem dM_canBe_21 : decode mM_canBe.2.1 21 = .ok (.iload_n 1, 1) := by decide +kernel
theorem dM_canBe_22 : decode mM_canBe.2.1 22 = .ok (.iaload, 1) := by decide +kernel
theorem dM_canBe_23 : decode mM_canBe.2.1 23 = .ok (.iconst 3, 1) := by decide +kernel
theorem dM_canBe_24 : decode mM_canBe.2.1 24 = .ok (.if_icmp .eq 8, 3) := by decide +kernel
theorem dM_canBe_27 : decode mM_canBe.2.1 27 = .ok (.iload_n 2, 1) := by decide +kernel
theorem dM_canBe_28 : decode mM_canBe.2.1 28 = .ok (.iconst 2, 1) := by decide +kernel
theorem dM_canBe_29 : decode mM_canBe.2.1 29 = .ok (.if_icmp .ne 24, 3) := by decide +kernel
theorem dM_canBe_32 : decode mM_canBe.2.1 32 = .ok (.aload_n 0, 1) := by decide +kernel
theorem dM_canBe_33 : decode mM_canBe.2.1 33 = .ok (.getfield 16, 3) := by decide +kernel
theorem dM_canBe_36 : decode mM_canBe.2.1 36 = .ok (.iload_n 1, 1) := by decide +kernel
theorem dM_canBe_37 : decode mM_canBe.2.1 37 = .ok (.iaload, 1) := by decide +kernel
theorem dM_canBe_38 : decode mM_canBe.2.1 38 = .ok (.iconst 3, 1) := by decide +kernel
theorem dM_canBe_39 : decode mM_canBe.2.1 39 = .ok (.if_icmp .ne 12, 3) := by decide +kernel
theorem dM_canBe_42 : decode mM_canBe.2.1 42 = .ok (.iload_n 2, 1) := by decide +kernel
theorem dM_canBe_43 : decode mM_canBe.2.1 43 = .ok (.iconst 2, 1) := by decide +kernel
theorem dM_canBe_44 : decode mM_canBe.2.1 44 = .ok (.if_icmp .ne 7, 3) := by decide +kernel
theorem dM_canBe_47 : decode mM_canBe.2.1 47 = .ok (.iconst 1, 1) := by decide +kernel
theorem dM_canBe_48 : decode mM_canBe.2.1 48 = .ok (.goto 4, 3) := by decide +kernel
theorem dM_canBe_51 : decode mM_canBe.2.1 51 = .ok (.iconst 0, 1) := by decide +kernel
theorem dM_canBe_52 : decode mM_canBe.2.1 52 = .ok (.ireturn, 1) := by decide +kernel
theorem dM_canBe_53 : decode mM_canBe.2.1 53 = .ok (.aload_n 0, 1) := by decide +kernel
theorem dM_canBe_54 : decode mM_canBe.2.1 54 = .ok (.iload_n 1, 1) := by decide +kernel
theorem dM_canBe_55 : decode mM_canBe.2.1 55 = .ok (.invokevirtual 100, 3) := by decide +kernel
theorem dM_canBe_58 : decode mM_canBe.2.1 58 = .ok (.ifCond .ne 38, 3) := by decide +kernel
theorem dM_canBe_61 : decode mM_canBe.2.1 61 = .ok (.aload_n 0, 1) := by decide +kernel
theorem dM_canBe_62 : decode mM_canBe.2.1 62 = .ok (.getfield 16, 3) := by decide +kernel
theorem dM_canBe_65 : decode mM_canBe.2.1 65 = .ok (.bipush 36, 2) := by decide +kernel
theorem dM_canBe_67 : decode mM_canBe.2.1 67 = .ok (.iload_n 1, 1) := by decide +kernel
theorem dM_canBe_68 : decode mM_canBe.2.1 68 = .ok (.iadd, 1) := by decide +kernel
theorem dM_canBe_69 : decode mM_canBe.2.1 69 = .ok (.iaload, 1) := by decide +kernel
theorem dM_canBe_70 : decode mM_canBe.2.1 70 = .ok (.ifCond .eq 26, 3) := by decide +kernel
theorem dM_canBe_73 : decode mM_canBe.2.1 73 = .ok (.aload_n 0, 1) := by decide +kernel
theorem dM_canBe_74 : decode mM_canBe.2.1 74 = .ok (.getfield 16, 3) := by decide +kernel
theorem dM_canBe_77 : decode mM_canBe.2.1 77 = .ok (.bipush 36, 2) := by decide +kernel
theorem dM_canBe_79 : decode mM_canBe.2.1 79 = .ok (.iload_n 1, 1) := by decide +kernel
theorem dM_canBe_80 : decode mM_canBe.2.1 80 = .ok (.iadd, 1) := by decide +kernel
theorem dM_canBe_81 : decode mM_canBe.2.1 81 = .ok (.iaload, 1) := by decide +kernel
theorem dM_canBe_82 : decode mM_canBe.2.1 82 = .ok (.iconst 2, 1) := by decide +kernel
theorem dM_canBe_83 : decode mM_canBe.2.1 83 = .ok (.iload_n 2, 1) := by decide +kernel
theorem dM_canBe_84 : decode mM_canBe.2.1 84 = .ok (.ifCond .ne 7, 3) := by decide +kernel
theorem dM_canBe_87 : decode mM_canBe.2.1 87 = .ok (.iconst 1, 1) := by decide +kernel
theorem dM_canBe_88 : decode mM_canBe.2.1 88 = .ok (.goto 4, 3) := by decide +kernel
theorem dM_canBe_91 : decode mM_canBe.2.1 91 = .ok (.iconst 0, 1) := by decide +kernel
theorem dM_canBe_92 : decode mM_canBe.2.1 92 = .ok (.isub, 1) := by decide +kernel
theorem dM_canBe_93 : decode mM_canBe.2.1 93 = .ok (.if_icmp .ne 7, 3) := by decide +kernel
theorem dM_canBe_96 : decode mM_canBe.2.1 96 = .ok (.iconst 1, 1) := by decide +kernel
theorem dM_canBe_97 : decode mM_canBe.2.1 97 = .ok (.goto 4, 3) := by decide +kernel
theorem dM_canBe_100 : decode mM_canBe.2.1 100 = .ok (.iconst 0, 1) := by decide +kernel
theorem dM_canBe_101 : decode mM_canBe.2.1 101 = .ok (.ireturn, 1) := by decide +kernel
theorem dM_manyPlaces_0 : decode mM_manyPlaces.2.1 0 = .ok (.iconst 0, 1) := by decide +kernel
theorem dM_manyPlaces_1 : decode mM_manyPlaces.2.1 1 = .ok (.istore_n 1, 1) := by decide +kernel
theorem dM_manyPlaces_2 : decode mM_manyPlaces.2.1 2 = .ok (.iconst 0, 1) := by decide +kernel
theorem dM_manyPlaces_3 : decode mM_manyPlaces.2.1 3 = .ok (.istore_n 2, 1) := by decide +kernel
theorem dM_manyPlaces_4 : decode mM_manyPlaces.2.1 4 = .ok (.iload_n 2, 1) := by decide +kernel
theorem dM_manyPlaces_5 : decode mM_manyPlaces.2.1 5 = .ok (.iconst 4, 1) := by decide +kernel
theorem dM_manyPlaces_6 : decode mM_manyPlaces.2.1 6 = .ok (.aload_n 0, 1) := by decide +kernel
theorem dM_manyPlaces_7 : decode mM_manyPlaces.2.1 7 = .ok (.invokevirtual 57, 3) := by decide +kernel
theorem dM_manyPlaces_10 : decode mM_manyPlaces.2.1 10 = .ok (.imul, 1) := by decide +kernel
theorem dM_manyPlaces_11 : decode mM_manyPlaces.2.1 11 = .ok (.if_icmp .ge 29, 3) := by decide +kernel
theorem dM_manyPlaces_14 : decode mM_manyPlaces.2.1 14 = .ok (.iload_n 1, 1) := by decide +kernel
theorem dM_manyPlaces_15 : decode mM_manyPlaces.2.1 15 = .ok (.aload_n 0, 1) := by decide +kernel
theorem dM_manyPlaces_16 : decode mM_manyPlaces.2.1 16 = .ok (.getfield 16, 3) := by decide +kernel
theorem dM_manyPlaces_19 : decode mM_manyPlaces.2.1 19 = .ok (.bipush 72, 2) := by decide +kernel
theorem dM_manyPlaces_21 : decode mM_manyPlaces.2.1 21 = .ok (.iload_n 2, 1) := by decide +kernel
theorem dM_manyPlaces_22 : decode mM_manyPlaces.2.1 22 = .ok (.iconst 4, 1) := by decide +kernel
theorem dM_manyPlaces_23 : decode mM_manyPlaces.2.1 23 = .ok (.idiv, 1) := by decide +kernel
theorem dM_manyPlaces_24 : decode mM_manyPlaces.2.1 24 = .ok (.iadd, 1) := by decide +kernel
theorem dM_manyPlaces_25 : decode mM_manyPlaces.2.1 25 = .ok (.iaload, 1) := by decide +kernel
theorem dM_manyPlaces_26 : decode mM_manyPlaces.2.1 26 = .ok (.iload_n 2, 1) := by decide +kernel
theorem dM_manyPlaces_27 : decode mM_manyPlaces.2.1 27 = .ok (.iconst 4, 1) := by decide +kernel
theorem dM_manyPlaces_28 : decode mM_manyPlaces.2.1 28 = .ok (.irem, 1) := by decide +kernel
theorem dM_manyPlaces_29 : decode mM_manyPlaces.2.1 29 = .ok (.ishr, 1) := by decide +kernel
theorem dM_manyPlaces_30 : decode mM_manyPlaces.2.1 30 = .ok (.iconst 1, 1) := by decide +kernel
theorem dM_manyPlaces_31 : decode mM_manyPlaces.2.1 31 = .ok (.iand, 1) := by decide +kernel
theorem dM_manyPlaces_32 : decode mM_manyPlaces.2.1 32 = .ok (.iadd, 1) := by decide +kernel
theorem dM_manyPlaces_33 : decode mM_manyPlaces.2.1 33 = .ok (.istore_n 1, 1) := by decide +kernel
theorem dM_manyPlaces_34 : decode mM_manyPlaces.2.1 34 = .ok (.iinc 2 1, 3) := by decide +kernel
theorem dM_manyPlaces_37 : decode mM_manyPlaces.2.1 37 = .ok (.goto (-33), 3) := by decide +kernel
theorem dM_manyPlaces_40 : decode mM_manyPlaces.2.1 40 = .ok (.iload_n 1, 1) := by decide +kernel
theorem dM_manyPlaces_41 : decode mM_manyPlaces.2.1 41 = .ok (.ireturn, 1) := by decide +kernel
theorem dM_findsMaybe_0 : decode mM_findsMaybe.2.1 0 = .ok (.aload_n 0, 1) := by decide +kernel
theorem dM_findsMaybe_1 : decode mM_findsMaybe.2.1 1 = .ok (.getfield 16, 3) := by decide +kernel
theorem dM_findsMaybe_4 : decode mM_findsMaybe.2.1 4 = .ok (.bipush 111, 2) := by decide +kernel
theorem dM_findsMaybe_6 : decode mM_findsMaybe.2.1 6 = .ok (.iaload, 1) := by decide +kernel
theorem dM_findsMaybe_7 : decode mM_findsMaybe.2.1 7 = .ok (.iconst 1, 1) := by decide +kernel
theorem dM_findsMaybe_8 : decode mM_findsMaybe.2.1 8 = .ok (.if_icmp .ne 45, 3) := by decide +kernel
theorem dM_findsMaybe_11 : decode mM_findsMaybe.2.1 11 = .ok (.aload_n 0, 1) := by decide +kernel
theorem dM_findsMaybe_12 : decode mM_findsMaybe.2.1 12 = .ok (.invokevirtual 106, 3) := by decide +kernel
theorem dM_findsMaybe_15 : decode mM_findsMaybe.2.1 15 = .ok (.iconst 1, 1) := by decide +kernel
theorem dM_findsMaybe_16 : decode mM_findsMaybe.2.1 16 = .ok (.if_icmp .ne 37, 3) := by decide +kernel
theorem dM_findsMaybe_19 : decode mM_findsMaybe.2.1 19 = .ok (.aload_n 0, 1) := by decide +kernel
theorem dM_findsMaybe_20 : decode mM_findsMaybe.2.1 20 = .ok (.getfield 16, 3) := by decide +kernel
theorem dM_findsMaybe_23 : decode mM_findsMaybe.2.1 23 = .ok (.bipush 111, 2) := by decide +kernel
theorem dM_findsMaybe_25 : decode mM_findsMaybe.2.1 25 = .ok (.iconst 0, 1) := by decide +kernel
theorem dM_findsMaybe_26 : decode mM_findsMaybe.2.1 26 = .ok (.iastore, 1) := by decide +kernel
theorem dM_findsMaybe_27 : decode mM_findsMaybe.2.1 27 = .ok (.iconst 0, 1) := by decide +kernel
theorem dM_findsMaybe_28 : decode mM_findsMaybe.2.1 28 = .ok (.istore_n 1, 1) := by decide +kernel
theorem dM_findsMaybe_29 : decode mM_findsMaybe.2.1 29 = .ok (.iload_n 1, 1) := by decide +kernel
theorem dM_findsMaybe_30 : decode mM_findsMaybe.2.1 30 = .ok (.aload_n 0, 1) := by decide +kernel
theorem dM_findsMaybe_31 : decode mM_findsMaybe.2.1 31 = .ok (.invokevirtual 57, 3) := by decide +kernel
theorem dM_findsMaybe_34 : decode mM_findsMaybe.2.1 34 = .ok (.if_icmp .ge 19, 3) := by decide +kernel
theorem dM_findsMaybe_37 : decode mM_findsMaybe.2.1 37 = .ok (.aload_n 0, 1) := by decide +kernel
theorem dM_findsMaybe_38 : decode mM_findsMaybe.2.1 38 = .ok (.getfield 16, 3) := by decide +kernel
theorem dM_findsMaybe_41 : decode mM_findsMaybe.2.1 41 = .ok (.bipush 72, 2) := by decide +kernel
theorem dM_findsMaybe_43 : decode mM_findsMaybe.2.1 43 = .ok (.iload_n 1, 1) := by decide +kernel
theorem dM_findsMaybe_44 : decode mM_findsMaybe.2.1 44 = .ok (.iadd, 1) := by decide +kernel
theorem dM_findsMaybe_45 : decode mM_findsMaybe.2.1 45 = .ok (.iconst 0, 1) := by decide +kernel
theorem dM_findsMaybe_46 : decode mM_findsMaybe.2.1 46 = .ok (.iastore, 1) := by decide +kernel
theorem dM_findsMaybe_47 : decode mM_findsMaybe.2.1 47 = .ok (.iinc 1 1, 3) := by decide +kernel
theorem dM_findsMaybe_50 : decode mM_findsMaybe.2.1 50 = .ok (.goto (-21), 3) := by decide +kernel
theorem dM_findsMaybe_53 : decode mM_findsMaybe.2.1 53 = .ok (.return_, 1) := by decide +kernel
theorem dM_becomePlaces_0 : decode mM_becomePlaces.2.1 0 = .ok (.iconst 0, 1) := by decide +kernel
theorem dM_becomePlaces_1 : decode mM_becomePlaces.2.1 1 = .ok (.istore_n 1, 1) := by decide +kernel
theorem dM_becomePlaces_2 : decode mM_becomePlaces.2.1 2 = .ok (.iload_n 1, 1) := by decide +kernel
theorem dM_becomePlaces_3 : decode mM_becomePlaces.2.1 3 = .ok (.aload_n 0, 1) := by decide +kernel
theorem dM_becomePlaces_4 : decode mM_becomePlaces.2.1 4 = .ok (.invokevirtual 57, 3) := by decide +kernel
theorem dM_becomePlaces_7 : decode mM_becomePlaces.2.1 7 = .ok (.if_icmp .ge 24, 3) := by decide +kernel
theorem dM_becomePlaces_10 : decode mM_becomePlaces.2.1 10 = .ok (.aload_n 0, 1) := by decide +kernel
theorem dM_becomePlaces_11 : decode mM_becomePlaces.2.1 11 = .ok (.getfield 16, 3) := by decide +kernel
theorem dM_becomePlaces_14 : decode mM_becomePlaces.2.1 14 = .ok (.bipush 72, 2) := by decide +kernel
theorem dM_becomePlaces_16 : decode mM_becomePlaces.2.1 16 = .ok (.iload_n 1, 1) := by decide +kernel
theorem dM_becomePlaces_17 : decode mM_becomePlaces.2.1 17 = .ok (.iadd, 1) := by decide +kernel
theorem dM_becomePlaces_18 : decode mM_becomePlaces.2.1 18 = .ok (.aload_n 0, 1) := by decide +kernel
theorem dM_becomePlaces_19 : decode mM_becomePlaces.2.1 19 = .ok (.getfield 39, 3) := by decide +kernel
theorem dM_becomePlaces_22 : decode mM_becomePlaces.2.1 22 = .ok (.iload_n 1, 1) := by decide +kernel
theorem dM_becomePlaces_23 : decode mM_becomePlaces.2.1 23 = .ok (.iaload, 1) := by decide +kernel
theorem dM_becomePlaces_24 : decode mM_becomePlaces.2.1 24 = .ok (.iastore, 1) := by decide +kernel
theorem dM_becomePlaces_25 : decode mM_becomePlaces.2.1 25 = .ok (.iinc 1 1, 3) := by decide +kernel
theorem dM_becomePlaces_28 : decode mM_becomePlaces.2.1 28 = .ok (.goto (-26), 3) := by decide +kernel
theorem dM_becomePlaces_31 : decode mM_becomePlaces.2.1 31 = .ok (.return_, 1) := by decide +kernel
theorem dM_stepsPlaces_0 : decode mM_stepsPlaces.2.1 0 = .ok (.iconst 0, 1) := by decide +kernel
theorem dM_stepsPlaces_1 : decode mM_stepsPlaces.2.1 1 = .ok (.istore_n 2, 1) := by decide +kernel
theorem dM_stepsPlaces_2 : decode mM_stepsPlaces.2.1 2 = .ok (.iload_n 2, 1) := by decide +kernel
theorem dM_stepsPlaces_3 : decode mM_stepsPlaces.2.1 3 = .ok (.aload_n 0, 1) := by decide +kernel
theorem dM_stepsPlaces_4 : decode mM_stepsPlaces.2.1 4 = .ok (.invokevirtual 57, 3) := by decide +kernel
theorem dM_stepsPlaces_7 : decode mM_stepsPlaces.2.1 7 = .ok (.if_icmp .ge 16, 3) := by decide +kernel
theorem dM_stepsPlaces_10 : decode mM_stepsPlaces.2.1 10 = .ok (.aload_n 0, 1) := by decide +kernel
theorem dM_stepsPlaces_11 : decode mM_stepsPlaces.2.1 11 = .ok (.getfield 39, 3) := by decide +kernel
theorem dM_stepsPlaces_14 : decode mM_stepsPlaces.2.1 14 = .ok (.iload_n 2, 1) := by decide +kernel
theorem dM_stepsPlaces_15 : decode mM_stepsPlaces.2.1 15 = .ok (.iconst 0, 1) := by decide +kernel
theorem dM_stepsPlaces_16 : decode mM_stepsPlaces.2.1 16 = .ok (.iastore, 1) := by decide +kernel
theorem dM_stepsPlaces_17 : decode mM_stepsPlaces.2.1 17 = .ok (.iinc 2 1, 3) := by decide +kernel
theorem dM_stepsPlaces_20 : decode mM_stepsPlaces.2.1 20 = .ok (.goto (-18), 3) := by decide +kernel
theorem dM_stepsPlaces_23 : decode mM_stepsPlaces.2.1 23 = .ok (.iconst 0, 1) := by decide +kernel
theorem dM_stepsPlaces_24 : decode mM_stepsPlaces.2.1 24 = .ok (.istore_n 2, 1) := by decide +kernel
theorem dM_stepsPlaces_25 : decode mM_stepsPlaces.2.1 25 = .ok (.iload_n 2, 1) := by decide +kernel
theorem dM_stepsPlaces_26 : decode mM_stepsPlaces.2.1 26 = .ok (.iconst 4, 1) := by decide +kernel
theorem dM_stepsPlaces_27 : decode mM_stepsPlaces.2.1 27 = .ok (.aload_n 0, 1) := by decide +kernel
theorem dM_stepsPlaces_28 : decode mM_stepsPlaces.2.1 28 = .ok (.invokevirtual 57, 3) := by decide +kernel
theorem dM_stepsPlaces_31 : decode mM_stepsPlaces.2.1 31 = .ok (.imul, 1) := by decide +kernel
theorem dM_stepsPlaces_32 : decode mM_stepsPlaces.2.1 32 = .ok (.if_icmp .ge 74, 3) := by decide +kernel
theorem dM_stepsPlaces_35 : decode mM_stepsPlaces.2.1 35 = .ok (.aload_n 0, 1) := by decide +kernel
theorem dM_stepsPlaces_36 : decode mM_stepsPlaces.2.1 36 = .ok (.iload_n 2, 1) := by decide +kernel
theorem dM_stepsPlaces_37 : decode mM_stepsPlaces.2.1 37 = .ok (.iconst 4, 1) := by decide +kernel
theorem dM_stepsPlaces_38 : decode mM_stepsPlaces.2.1 38 = .ok (.idiv, 1) := by decide +kernel
theorem dM_stepsPlaces_39 : decode mM_stepsPlaces.2.1 39 = .ok (.iload_n 2, 1) := by decide +kernel
theorem dM_stepsPlaces_40 : decode mM_stepsPlaces.2.1 40 = .ok (.iconst 4, 1) := by decide +kernel
theorem dM_stepsPlaces_41 : decode mM_stepsPlaces.2.1 41 = .ok (.irem, 1) := by decide +kernel
theorem dM_stepsPlaces_42 : decode mM_stepsPlaces.2.1 42 = .ok (.invokevirtual 109, 3) := by decide +kernel
theorem dM_stepsPlaces_45 : decode mM_stepsPlaces.2.1 45 = .ok (.istore_n 3, 1) := by decide +kernel
theorem dM_stepsPlaces_46 : decode mM_stepsPlaces.2.1 46 = .ok (.aload_n 0, 1) := by decide +kernel
theorem dM_stepsPlaces_47 : decode mM_stepsPlaces.2.1 47 = .ok (.getfield 16, 3) := by decide +kernel
theorem dM_stepsPlaces_50 : decode mM_stepsPlaces.2.1 50 = .ok (.bipush 72, 2) := by decide +kernel
theorem dM_stepsPlaces_52 : decode mM_stepsPlaces.2.1 52 = .ok (.iload_n 2, 1) := by decide +kernel
theorem dM_stepsPlaces_53 : decode mM_stepsPlaces.2.1 53 = .ok (.iconst 4, 1) := by decide +kernel
theorem dM_stepsPlaces_54 : decode mM_stepsPlaces.2.1 54 = .ok (.idiv, 1) := by decide +kernel
theorem dM_stepsPlaces_55 : decode mM_stepsPlaces.2.1 55 = .ok (.iadd, 1) := by decide +kernel
theorem dM_stepsPlaces_56 : decode mM_stepsPlaces.2.1 56 = .ok (.iaload, 1) := by decide +kernel
theorem dM_stepsPlaces_57 : decode mM_stepsPlaces.2.1 57 = .ok (.iload_n 2, 1) := by decide +kernel
theorem dM_stepsPlaces_58 : decode mM_stepsPlaces.2.1 58 = .ok (.iconst 4, 1) := by decide +kernel
theorem dM_stepsPlaces_59 : decode mM_stepsPlaces.2.1 59 = .ok (.irem, 1) := by decide +kernel
theorem dM_stepsPlaces_60 : decode mM_stepsPlaces.2.1 60 = .ok (.ishr, 1) := by decide +kernel
theorem dM_stepsPlaces_61 : decode mM_stepsPlaces.2.1 61 = .ok (.iconst 1, 1) := by decide +kernel
theorem dM_stepsPlaces_62 : decode mM_stepsPlaces.2.1 62 = .ok (.iand, 1) := by decide +kernel
theorem dM_stepsPlaces_63 : decode mM_stepsPlaces.2.1 63 = .ok (.iconst 1, 1) := by decide +kernel
theorem dM_stepsPlaces_64 : decode mM_stepsPlaces.2.1 64 = .ok (.if_icmp .ne 36, 3) := by decide +kernel
theorem dM_stepsPlaces_67 : decode mM_stepsPlaces.2.1 67 = .ok (.aload_n 0, 1) := by decide +kernel
theorem dM_stepsPlaces_68 : decode mM_stepsPlaces.2.1 68 = .ok (.iload_n 3, 1) := by decide +kernel
theorem dM_stepsPlaces_69 : decode mM_stepsPlaces.2.1 69 = .ok (.iload_n 1, 1) := by decide +kernel
theorem dM_stepsPlaces_70 : decode mM_stepsPlaces.2.1 70 = .ok (.invokevirtual 113, 3) := by decide +kernel
theorem dM_stepsPlaces_73 : decode mM_stepsPlaces.2.1 73 = .ok (.ifCond .eq 27, 3) := by decide +kernel
theorem dM_stepsPlaces_76 : decode mM_stepsPlaces.2.1 76 = .ok (.aload_n 0, 1) := by decide +kernel
theorem dM_stepsPlaces_77 : decode mM_stepsPlaces.2.1 77 = .ok (.getfield 39, 3) := by decide +kernel
theorem dM_stepsPlaces_80 : decode mM_stepsPlaces.2.1 80 = .ok (.iload_n 1, 1) := by decide +kernel
theorem dM_stepsPlaces_81 : decode mM_stepsPlaces.2.1 81 = .ok (.ifCond .ne 7, 3) := by decide +kernel
theorem dM_stepsPlaces_84 : decode mM_stepsPlaces.2.1 84 = .ok (.iload_n 3, 1) := by decide +kernel
theorem dM_stepsPlaces_85 : decode mM_stepsPlaces.2.1 85 = .ok (.goto 6, 3) := by decide +kernel
theorem dM_stepsPlaces_88 : decode mM_stepsPlaces.2.1 88 = .ok (.iload_n 2, 1) := by decide +kernel
theorem dM_stepsPlaces_89 : decode mM_stepsPlaces.2.1 89 = .ok (.iconst 4, 1) := by decide +kernel
theorem dM_stepsPlaces_90 : decode mM_stepsPlaces.2.1 90 = .ok (.idiv, 1) := by decide +kernel
theorem dM_stepsPlaces_91 : decode mM_stepsPlaces.2.1 91 = .ok (.dup2, 1) := by decide +kernel
theorem dM_stepsPlaces_92 : decode mM_stepsPlaces.2.1 92 = .ok (.iaload, 1) := by decide +kernel
theorem dM_stepsPlaces_93 : decode mM_stepsPlaces.2.1 93 = .ok (.iconst 1, 1) := by decide +kernel
theorem dM_stepsPlaces_94 : decode mM_stepsPlaces.2.1 94 = .ok (.iload_n 2, 1) := by decide +kernel
theorem dM_stepsPlaces_95 : decode mM_stepsPlaces.2.1 95 = .ok (.iconst 4, 1) := by decide +kernel
theorem dM_stepsPlaces_96 : decode mM_stepsPlaces.2.1 96 = .ok (.irem, 1) := by decide +kernel
theorem dM_stepsPlaces_97 : decode mM_stepsPlaces.2.1 97 = .ok (.ishl, 1) := by decide +kernel
theorem dM_stepsPlaces_98 : decode mM_stepsPlaces.2.1 98 = .ok (.ior, 1) := by decide +kernel
theorem dM_stepsPlaces_99 : decode mM_stepsPlaces.2.1 99 = .ok (.iastore, 1) := by decide +kernel
theorem dM_stepsPlaces_100 : decode mM_stepsPlaces.2.1 100 = .ok (.iinc 2 1, 3) := by decide +kernel
theorem dM_stepsPlaces_103 : decode mM_stepsPlaces.2.1 103 = .ok (.goto (-78), 3) := by decide +kernel
theorem dM_stepsPlaces_106 : decode mM_stepsPlaces.2.1 106 = .ok (.aload_n 0, 1) := by decide +kernel
theorem dM_stepsPlaces_107 : decode mM_stepsPlaces.2.1 107 = .ok (.invokevirtual 117, 3) := by decide +kernel
theorem dM_stepsPlaces_110 : decode mM_stepsPlaces.2.1 110 = .ok (.aload_n 0, 1) := by decide +kernel
theorem dM_stepsPlaces_111 : decode mM_stepsPlaces.2.1 111 = .ok (.invokevirtual 120, 3) := by decide +kernel
theorem dM_stepsPlaces_114 : decode mM_stepsPlaces.2.1 114 = .ok (.return_, 1) := by decide +kernel
theorem dM_stepTo_0 : decode mM_stepTo.2.1 0 = .ok (.aload_n 0, 1) := by decide +kernel
theorem dM_stepTo_1 : decode mM_stepTo.2.1 1 = .ok (.getfield 16, 3) := by decide +kernel
theorem dM_stepTo_4 : decode mM_stepTo.2.1 4 = .ok (.bipush 109, 2) := by decide +kernel
theorem dM_stepTo_6 : decode mM_stepTo.2.1 6 = .ok (.iload_n 1, 1) := by decide +kernel
theorem dM_stepTo_7 : decode mM_stepTo.2.1 7 = .ok (.iastore, 1) := by decide +kernel
theorem dM_stepTo_8 : decode mM_stepTo.2.1 8 = .ok (.aload_n 0, 1) := by decide +kernel
theorem dM_stepTo_9 : decode mM_stepTo.2.1 9 = .ok (.getfield 16, 3) := by decide +kernel
theorem dM_stepTo_12 : decode mM_stepTo.2.1 12 = .ok (.bipush 110, 2) := by decide +kernel
theorem dM_stepTo_14 : decode mM_stepTo.2.1 14 = .ok (.dup2, 1) := by decide +kernel
theorem dM_stepTo_15 : decode mM_stepTo.2.1 15 = .ok (.iaload, 1) := by decide +kernel
theorem dM_stepTo_16 : decode mM_stepTo.2.1 16 = .ok (.iconst 1, 1) := by decide +kernel
theorem dM_stepTo_17 : decode mM_stepTo.2.1 17 = .ok (.isub, 1) := by decide +kernel
theorem dM_stepTo_18 : decode mM_stepTo.2.1 18 = .ok (.iastore, 1) := by decide +kernel
theorem dM_stepTo_19 : decode mM_stepTo.2.1 19 = .ok (.aload_n 0, 1) := by decide +kernel
theorem dM_stepTo_20 : decode mM_stepTo.2.1 20 = .ok (.aload_n 0, 1) := by decide +kernel
theorem dM_stepTo_21 : decode mM_stepTo.2.1 21 = .ok (.getfield 16, 3) := by decide +kernel
theorem dM_stepTo_24 : decode mM_stepTo.2.1 24 = .ok (.bipush 108, 2) := by decide +kernel
theorem dM_stepTo_26 : decode mM_stepTo.2.1 26 = .ok (.iaload, 1) := by decide +kernel
theorem dM_stepTo_27 : decode mM_stepTo.2.1 27 = .ok (.iload_n 1, 1) := by decide +kernel
theorem dM_stepTo_28 : decode mM_stepTo.2.1 28 = .ok (.invokevirtual 109, 3) := by decide +kernel
theorem dM_stepTo_31 : decode mM_stepTo.2.1 31 = .ok (.istore_n 2, 1) := by decide +kernel
theorem dM_stepTo_32 : decode mM_stepTo.2.1 32 = .ok (.aload_n 0, 1) := by decide +kernel
theorem dM_stepTo_33 : decode mM_stepTo.2.1 33 = .ok (.iload_n 2, 1) := by decide +kernel
theorem dM_stepTo_34 : decode mM_stepTo.2.1 34 = .ok (.invokevirtual 123, 3) := by decide +kernel
theorem dM_stepTo_37 : decode mM_stepTo.2.1 37 = .ok (.istore_n 3, 1) := by decide +kernel
theorem dM_stepTo_38 : decode mM_stepTo.2.1 38 = .ok (.aload_n 0, 1) := by decide +kernel
theorem dM_stepTo_39 : decode mM_stepTo.2.1 39 = .ok (.getfield 16, 3) := by decide +kernel
theorem dM_stepTo_42 : decode mM_stepTo.2.1 42 = .ok (.bipush 111, 2) := by decide +kernel
theorem dM_stepTo_44 : decode mM_stepTo.2.1 44 = .ok (.iaload, 1) := by decide +kernel
theorem dM_stepTo_45 : decode mM_stepTo.2.1 45 = .ok (.iconst 1, 1) := by decide +kernel
theorem dM_stepTo_46 : decode mM_stepTo.2.1 46 = .ok (.if_icmp .ne 7, 3) := by decide +kernel
theorem dM_stepTo_49 : decode mM_stepTo.2.1 49 = .ok (.iconst 1, 1) := by decide +kernel
theorem dM_stepTo_50 : decode mM_stepTo.2.1 50 = .ok (.goto 4, 3) := by decide +kernel
theorem dM_stepTo_53 : decode mM_stepTo.2.1 53 = .ok (.iconst 0, 1) := by decide +kernel
theorem dM_stepTo_54 : decode mM_stepTo.2.1 54 = .ok (.istore 4, 2) := by decide +kernel
theorem dM_stepTo_56 : decode mM_stepTo.2.1 56 = .ok (.aload_n 0, 1) := by decide +kernel
theorem dM_stepTo_57 : decode mM_stepTo.2.1 57 = .ok (.getfield 16, 3) := by decide +kernel
theorem dM_stepTo_60 : decode mM_stepTo.2.1 60 = .ok (.bipush 108, 2) := by decide +kernel
theorem dM_stepTo_62 : decode mM_stepTo.2.1 62 = .ok (.iload_n 3, 1) := by decide +kernel
theorem dM_stepTo_63 : decode mM_stepTo.2.1 63 = .ok (.ifCond .ne 7, 3) := by decide +kernel
theorem dM_stepTo_66 : decode mM_stepTo.2.1 66 = .ok (.iload_n 2, 1) := by decide +kernel
theorem dM_stepTo_67 : decode mM_stepTo.2.1 67 = .ok (.goto 10, 3) := by decide +kernel
theorem dM_stepTo_70 : decode mM_stepTo.2.1 70 = .ok (.aload_n 0, 1) := by decide +kernel
theorem dM_stepTo_71 : decode mM_stepTo.2.1 71 = .ok (.getfield 16, 3) := by decide +kernel
theorem dM_stepTo_74 : decode mM_stepTo.2.1 74 = .ok (.bipush 108, 2) := by decide +kernel
theorem dM_stepTo_76 : decode mM_stepTo.2.1 76 = .ok (.iaload, 1) := by decide +kernel
theorem dM_stepTo_77 : decode mM_stepTo.2.1 77 = .ok (.iastore, 1) := by decide +kernel
theorem dM_stepTo_78 : decode mM_stepTo.2.1 78 = .ok (.iload 4, 2) := by decide +kernel
theorem dM_stepTo_80 : decode mM_stepTo.2.1 80 = .ok (.ifCond .eq 11, 3) := by decide +kernel
theorem dM_stepTo_83 : decode mM_stepTo.2.1 83 = .ok (.aload_n 0, 1) := by decide +kernel
theorem dM_stepTo_84 : decode mM_stepTo.2.1 84 = .ok (.iload_n 3, 1) := by decide +kernel
theorem dM_stepTo_85 : decode mM_stepTo.2.1 85 = .ok (.invokevirtual 126, 3) := by decide +kernel
theorem dM_stepTo_88 : decode mM_stepTo.2.1 88 = .ok (.goto 32, 3) := by decide +kernel
theorem dM_stepTo_91 : decode mM_stepTo.2.1 91 = .ok (.iload_n 2, 1) := by decide +kernel
theorem dM_stepTo_92 : decode mM_stepTo.2.1 92 = .ok (.bipush (-9), 2) := by decide +kernel
theorem dM_stepTo_94 : decode mM_stepTo.2.1 94 = .ok (.if_icmp .eq 26, 3) := by decide +kernel
theorem dM_stepTo_97 : decode mM_stepTo.2.1 97 = .ok (.iload_n 3, 1) := by decide +kernel
theorem dM_stepTo_98 : decode mM_stepTo.2.1 98 = .ok (.iconst 2, 1) := by decide +kernel
theorem dM_stepTo_99 : decode mM_stepTo.2.1 99 = .ok (.if_icmp .ge 21, 3) := by decide +kernel
theorem dM_stepTo_102 : decode mM_stepTo.2.1 102 = .ok (.aload_n 0, 1) := by decide +kernel
theorem dM_stepTo_103 : decode mM_stepTo.2.1 103 = .ok (.getfield 16, 3) := by decide +kernel
theorem dM_stepTo_106 : decode mM_stepTo.2.1 106 = .ok (.bipush 36, 2) := by decide +kernel
theorem dM_stepTo_108 : decode mM_stepTo.2.1 108 = .ok (.iload_n 2, 1) := by decide +kernel
theorem dM_stepTo_109 : decode mM_stepTo.2.1 109 = .ok (.iadd, 1) := by decide +kernel
theorem dM_stepTo_110 : decode mM_stepTo.2.1 110 = .ok (.iload_n 3, 1) := by decide +kernel
theorem dM_stepTo_111 : decode mM_stepTo.2.1 111 = .ok (.ifCond .ne 7, 3) := by decide +kernel
theorem dM_stepTo_114 : decode mM_stepTo.2.1 114 = .ok (.iconst 1, 1) := by decide +kernel
theorem dM_stepTo_115 : decode mM_stepTo.2.1 115 = .ok (.goto 4, 3) := by decide +kernel
theorem dM_stepTo_118 : decode mM_stepTo.2.1 118 = .ok (.iconst 2, 1) := by decide +kernel
theorem dM_stepTo_119 : decode mM_stepTo.2.1 119 = .ok (.iastore, 1) := by decide +kernel
theorem dM_stepTo_120 : decode mM_stepTo.2.1 120 = .ok (.iload_n 3, 1) := by decide +kernel
theorem dM_stepTo_121 : decode mM_stepTo.2.1 121 = .ok (.iconst 2, 1) := by decide +kernel
theorem dM_stepTo_122 : decode mM_stepTo.2.1 122 = .ok (.if_icmp .ne 7, 3) := by decide +kernel
theorem dM_stepTo_125 : decode mM_stepTo.2.1 125 = .ok (.iconst 3, 1) := by decide +kernel
theorem dM_stepTo_126 : decode mM_stepTo.2.1 126 = .ok (.goto 32, 3) := by decide +kernel
theorem dM_stepTo_129 : decode mM_stepTo.2.1 129 = .ok (.iload_n 3, 1) := by decide +kernel
theorem dM_stepTo_130 : decode mM_stepTo.2.1 130 = .ok (.ifCond .ne 7, 3) := by decide +kernel
theorem dM_stepTo_133 : decode mM_stepTo.2.1 133 = .ok (.iconst 0, 1) := by decide +kernel
theorem dM_stepTo_134 : decode mM_stepTo.2.1 134 = .ok (.goto 24, 3) := by decide +kernel
theorem dM_stepTo_137 : decode mM_stepTo.2.1 137 = .ok (.iload_n 2, 1) := by decide +kernel
theorem dM_stepTo_138 : decode mM_stepTo.2.1 138 = .ok (.bipush (-9), 2) := by decide +kernel
theorem dM_stepTo_140 : decode mM_stepTo.2.1 140 = .ok (.if_icmp .eq 17, 3) := by decide +kernel
theorem dM_stepTo_143 : decode mM_stepTo.2.1 143 = .ok (.aload_n 0, 1) := by decide +kernel
theorem dM_stepTo_144 : decode mM_stepTo.2.1 144 = .ok (.getfield 16, 3) := by decide +kernel
theorem dM_stepTo_147 : decode mM_stepTo.2.1 147 = .ok (.iload_n 2, 1) := by decide +kernel
theorem dM_stepTo_148 : decode mM_stepTo.2.1 148 = .ok (.iaload, 1) := by decide +kernel
theorem dM_stepTo_149 : decode mM_stepTo.2.1 149 = .ok (.iconst 2, 1) := by decide +kernel
theorem dM_stepTo_150 : decode mM_stepTo.2.1 150 = .ok (.if_icmp .ne 7, 3) := by decide +kernel
theorem dM_stepTo_153 : decode mM_stepTo.2.1 153 = .ok (.iconst 2, 1) := by decide +kernel
theorem dM_stepTo_154 : decode mM_stepTo.2.1 154 = .ok (.goto 4, 3) := by decide +kernel
theorem dM_stepTo_157 : decode mM_stepTo.2.1 157 = .ok (.iconst 1, 1) := by decide +kernel
theorem dM_stepTo_158 : decode mM_stepTo.2.1 158 = .ok (.ireturn, 1) := by decide +kernel
theorem dM_steps_0 : decode mM_steps.2.1 0 = .ok (.aload_n 0, 1) := by decide +kernel
theorem dM_steps_1 : decode mM_steps.2.1 1 = .ok (.getfield 16, 3) := by decide +kernel
theorem dM_steps_4 : decode mM_steps.2.1 4 = .ok (.bipush 110, 2) := by decide +kernel
theorem dM_steps_6 : decode mM_steps.2.1 6 = .ok (.iaload, 1) := by decide +kernel
theorem dM_steps_7 : decode mM_steps.2.1 7 = .ok (.ifCond .ne 6, 3) := by decide +kernel
theorem dM_steps_10 : decode mM_steps.2.1 10 = .ok (.bipush (-2), 2) := by decide +kernel
theorem dM_steps_12 : decode mM_steps.2.1 12 = .ok (.ireturn, 1) := by decide +kernel
theorem dM_steps_13 : decode mM_steps.2.1 13 = .ok (.aload_n 0, 1) := by decide +kernel
theorem dM_steps_14 : decode mM_steps.2.1 14 = .ok (.invokevirtual 97, 3) := by decide +kernel
theorem dM_steps_17 : decode mM_steps.2.1 17 = .ok (.aload_n 0, 1) := by decide +kernel
theorem dM_steps_18 : decode mM_steps.2.1 18 = .ok (.aload_n 0, 1) := by decide +kernel
theorem dM_steps_19 : decode mM_steps.2.1 19 = .ok (.getfield 16, 3) := by decide +kernel
theorem dM_steps_22 : decode mM_steps.2.1 22 = .ok (.bipush 109, 2) := by decide +kernel
theorem dM_steps_24 : decode mM_steps.2.1 24 = .ok (.iaload, 1) := by decide +kernel
theorem dM_steps_25 : decode mM_steps.2.1 25 = .ok (.invokevirtual 130, 3) := by decide +kernel
theorem dM_steps_28 : decode mM_steps.2.1 28 = .ok (.ireturn, 1) := by decide +kernel
theorem dM_rotates_0 : decode mM_rotates.2.1 0 = .ok (.iload_n 1, 1) := by decide +kernel
theorem dM_rotates_1 : decode mM_rotates.2.1 1 = .ok (.iconst 1, 1) := by decide +kernel
theorem dM_rotates_2 : decode mM_rotates.2.1 2 = .ok (.iconst 3, 1) := by decide +kernel
theorem dM_rotates_3 : decode mM_rotates.2.1 3 = .ok (.invokestatic 67, 3) := by decide +kernel
theorem dM_rotates_6 : decode mM_rotates.2.1 6 = .ok (.ifCond .ne 5, 3) := by decide +kernel
theorem dM_rotates_9 : decode mM_rotates.2.1 9 = .ok (.iconst (-1), 1) := by decide +kernel
theorem dM_rotates_10 : decode mM_rotates.2.1 10 = .ok (.ireturn, 1) := by decide +kernel
theorem dM_rotates_11 : decode mM_rotates.2.1 11 = .ok (.aload_n 0, 1) := by decide +kernel
theorem dM_rotates_12 : decode mM_rotates.2.1 12 = .ok (.invokevirtual 97, 3) := by decide +kernel
theorem dM_rotates_15 : decode mM_rotates.2.1 15 = .ok (.aload_n 0, 1) := by decide +kernel
theorem dM_rotates_16 : decode mM_rotates.2.1 16 = .ok (.getfield 16, 3) := by decide +kernel
theorem dM_rotates_19 : decode mM_rotates.2.1 19 = .ok (.bipush 109, 2) := by decide +kernel
theorem dM_rotates_21 : decode mM_rotates.2.1 21 = .ok (.aload_n 0, 1) := by decide +kernel
theorem dM_rotates_22 : decode mM_rotates.2.1 22 = .ok (.getfield 16, 3) := by decide +kernel
theorem dM_rotates_25 : decode mM_rotates.2.1 25 = .ok (.bipush 109, 2) := by decide +kernel
theorem dM_rotates_27 : decode mM_rotates.2.1 27 = .ok (.iaload, 1) := by decide +kernel
theorem dM_rotates_28 : decode mM_rotates.2.1 28 = .ok (.iload_n 1, 1) := by decide +kernel
theorem dM_rotates_29 : decode mM_rotates.2.1 29 = .ok (.iadd, 1) := by decide +kernel
theorem dM_rotates_30 : decode mM_rotates.2.1 30 = .ok (.iconst 4, 1) := by decide +kernel
theorem dM_rotates_31 : decode mM_rotates.2.1 31 = .ok (.irem, 1) := by decide +kernel
theorem dM_rotates_32 : decode mM_rotates.2.1 32 = .ok (.iastore, 1) := by decide +kernel
theorem dM_rotates_33 : decode mM_rotates.2.1 33 = .ok (.iconst 0, 1) := by decide +kernel
theorem dM_rotates_34 : decode mM_rotates.2.1 34 = .ok (.istore_n 2, 1) := by decide +kernel
theorem dM_rotates_35 : decode mM_rotates.2.1 35 = .ok (.iload_n 2, 1) := by decide +kernel
theorem dM_rotates_36 : decode mM_rotates.2.1 36 = .ok (.aload_n 0, 1) := by decide +kernel
theorem dM_rotates_37 : decode mM_rotates.2.1 37 = .ok (.invokevirtual 57, 3) := by decide +kernel
theorem dM_rotates_40 : decode mM_rotates.2.1 40 = .ok (.if_icmp .ge 38, 3) := by decide +kernel
theorem dM_rotates_43 : decode mM_rotates.2.1 43 = .ok (.aload_n 0, 1) := by decide +kernel
theorem dM_rotates_44 : decode mM_rotates.2.1 44 = .ok (.getfield 16, 3) := by decide +kernel
theorem dM_rotates_47 : decode mM_rotates.2.1 47 = .ok (.bipush 72, 2) := by decide +kernel
theorem dM_rotates_49 : decode mM_rotates.2.1 49 = .ok (.iload_n 2, 1) := by decide +kernel
theorem dM_rotates_50 : decode mM_rotates.2.1 50 = .ok (.iadd, 1) := by decide +kernel
theorem dM_rotates_51 : decode mM_rotates.2.1 51 = .ok (.iaload, 1) := by decide +kernel
theorem dM_rotates_52 : decode mM_rotates.2.1 52 = .ok (.iload_n 1, 1) := by decide +kernel
theorem dM_rotates_53 : decode mM_rotates.2.1 53 = .ok (.ishl, 1) := by decide +kernel
theorem dM_rotates_54 : decode mM_rotates.2.1 54 = .ok (.istore_n 3, 1) := by decide +kernel
theorem dM_rotates_55 : decode mM_rotates.2.1 55 = .ok (.aload_n 0, 1) := by decide +kernel
theorem dM_rotates_56 : decode mM_rotates.2.1 56 = .ok (.getfield 16, 3) := by decide +kernel
theorem dM_rotates_59 : decode mM_rotates.2.1 59 = .ok (.bipush 72, 2) := by decide +kernel
theorem dM_rotates_61 : decode mM_rotates.2.1 61 = .ok (.iload_n 2, 1) := by decide +kernel
theorem dM_rotates_62 : decode mM_rotates.2.1 62 = .ok (.iadd, 1) := by decide +kernel
theorem dM_rotates_63 : decode mM_rotates.2.1 63 = .ok (.iload_n 3, 1) := by decide +kernel
theorem dM_rotates_64 : decode mM_rotates.2.1 64 = .ok (.bipush 15, 2) := by decide +kernel
theorem dM_rotates_66 : decode mM_rotates.2.1 66 = .ok (.iand, 1) := by decide +kernel
theorem dM_rotates_67 : decode mM_rotates.2.1 67 = .ok (.iload_n 3, 1) := by decide +kernel
theorem dM_rotates_68 : decode mM_rotates.2.1 68 = .ok (.iconst 4, 1) := by decide +kernel
theorem dM_rotates_69 : decode mM_rotates.2.1 69 = .ok (.ishr, 1) := by decide +kernel
theorem dM_rotates_70 : decode mM_rotates.2.1 70 = .ok (.ior, 1) := by decide +kernel
theorem dM_rotates_71 : decode mM_rotates.2.1 71 = .ok (.iastore, 1) := by decide +kernel
theorem dM_rotates_72 : decode mM_rotates.2.1 72 = .ok (.iinc 2 1, 3) := by decide +kernel
theorem dM_rotates_75 : decode mM_rotates.2.1 75 = .ok (.goto (-40), 3) := by decide +kernel
theorem dM_rotates_78 : decode mM_rotates.2.1 78 = .ok (.aload_n 0, 1) := by decide +kernel
theorem dM_rotates_79 : decode mM_rotates.2.1 79 = .ok (.invokevirtual 120, 3) := by decide +kernel
theorem dM_rotates_82 : decode mM_rotates.2.1 82 = .ok (.aload_n 0, 1) := by decide +kernel
theorem dM_rotates_83 : decode mM_rotates.2.1 83 = .ok (.getfield 16, 3) := by decide +kernel
theorem dM_rotates_86 : decode mM_rotates.2.1 86 = .ok (.bipush 109, 2) := by decide +kernel
theorem dM_rotates_88 : decode mM_rotates.2.1 88 = .ok (.iaload, 1) := by decide +kernel
theorem dM_rotates_89 : decode mM_rotates.2.1 89 = .ok (.ireturn, 1) := by decide +kernel
theorem dM_part_0 : decode mM_part.2.1 0 = .ok (.iload_n 0, 1) := by decide +kernel
theorem dM_part_1 : decode mM_part.2.1 1 = .ok (.istore_n 2, 1) := by decide +kernel
theorem dM_part_2 : decode mM_part.2.1 2 = .ok (.iload_n 1, 1) := by decide +kernel
theorem dM_part_3 : decode mM_part.2.1 3 = .ok (.istore_n 3, 1) := by decide +kernel
theorem dM_part_4 : decode mM_part.2.1 4 = .ok (.iload_n 3, 1) := by decide +kernel
theorem dM_part_5 : decode mM_part.2.1 5 = .ok (.iconst 3, 1) := by decide +kernel
theorem dM_part_6 : decode mM_part.2.1 6 = .ok (.if_icmp .ge 13, 3) := by decide +kernel
theorem dM_part_9 : decode mM_part.2.1 9 = .ok (.iload_n 2, 1) := by decide +kernel
theorem dM_part_10 : decode mM_part.2.1 10 = .ok (.iconst 3, 1) := by decide +kernel
theorem dM_part_11 : decode mM_part.2.1 11 = .ok (.idiv, 1) := by decide +kernel
theorem dM_part_12 : decode mM_part.2.1 12 = .ok (.istore_n 2, 1) := by decide +kernel
theorem dM_part_13 : decode mM_part.2.1 13 = .ok (.iinc 3 1, 3) := by decide +kernel
theorem dM_part_16 : decode mM_part.2.1 16 = .ok (.goto (-12), 3) := by decide +kernel
theorem dM_part_19 : decode mM_part.2.1 19 = .ok (.iload_n 2, 1) := by decide +kernel
theorem dM_part_20 : decode mM_part.2.1 20 = .ok (.iconst 3, 1) := by decide +kernel
theorem dM_part_21 : decode mM_part.2.1 21 = .ok (.irem, 1) := by decide +kernel
theorem dM_part_22 : decode mM_part.2.1 22 = .ok (.ireturn, 1) := by decide +kernel
theorem dM_canScan_0 : decode mM_canScan.2.1 0 = .ok (.iconst 1, 1) := by decide +kernel
theorem dM_canScan_1 : decode mM_canScan.2.1 1 = .ok (.istore 4, 2) := by decide +kernel
theorem dM_canScan_3 : decode mM_canScan.2.1 3 = .ok (.iconst 0, 1) := by decide +kernel
theorem dM_canScan_4 : decode mM_canScan.2.1 4 = .ok (.istore 5, 2) := by decide +kernel
theorem dM_canScan_6 : decode mM_canScan.2.1 6 = .ok (.iload 5, 2) := by decide +kernel
theorem dM_canScan_8 : decode mM_canScan.2.1 8 = .ok (.iconst 4, 1) := by decide +kernel
theorem dM_canScan_9 : decode mM_canScan.2.1 9 = .ok (.if_icmp .ge 45, 3) := by decide +kernel
theorem dM_canScan_12 : decode mM_canScan.2.1 12 = .ok (.iload 4, 2) := by decide +kernel
theorem dM_canScan_14 : decode mM_canScan.2.1 14 = .ok (.ifCond .eq 31, 3) := by decide +kernel
theorem dM_canScan_17 : decode mM_canScan.2.1 17 = .ok (.aload_n 0, 1) := by decide +kernel
theorem dM_canScan_18 : decode mM_canScan.2.1 18 = .ok (.aload_n 0, 1) := by decide +kernel
theorem dM_canScan_19 : decode mM_canScan.2.1 19 = .ok (.iload_n 1, 1) := by decide +kernel
theorem dM_canScan_20 : decode mM_canScan.2.1 20 = .ok (.iload_n 2, 1) := by decide +kernel
theorem dM_canScan_21 : decode mM_canScan.2.1 21 = .ok (.iload 5, 2) := by decide +kernel
theorem dM_canScan_23 : decode mM_canScan.2.1 23 = .ok (.iadd, 1) := by decide +kernel
theorem dM_canScan_24 : decode mM_canScan.2.1 24 = .ok (.iconst 4, 1) := by decide +kernel
theorem dM_canScan_25 : decode mM_canScan.2.1 25 = .ok (.irem, 1) := by decide +kernel
theorem dM_canScan_26 : decode mM_canScan.2.1 26 = .ok (.invokevirtual 109, 3) := by decide +kernel
theorem dM_canScan_29 : decode mM_canScan.2.1 29 = .ok (.iload_n 3, 1) := by decide +kernel
theorem dM_canScan_30 : decode mM_canScan.2.1 30 = .ok (.iload 5, 2) := by decide +kernel
theorem dM_canScan_32 : decode mM_canScan.2.1 32 = .ok (.invokestatic 133, 3) := by decide +kernel
theorem dM_canScan_35 : decode mM_canScan.2.1 35 = .ok (.invokevirtual 113, 3) := by decide +kernel
theorem dM_canScan_38 : decode mM_canScan.2.1 38 = .ok (.ifCond .eq 7, 3) := by decide +kernel
theorem dM_canScan_41 : decode mM_canScan.2.1 41 = .ok (.iconst 1, 1) := by decide +kernel
theorem dM_canScan_42 : decode mM_canScan.2.1 42 = .ok (.goto 4, 3) := by decide +kernel
theorem dM_canScan_45 : decode mM_canScan.2.1 45 = .ok (.iconst 0, 1) := by decide +kernel
theorem dM_canScan_46 : decode mM_canScan.2.1 46 = .ok (.istore 4, 2) := by decide +kernel
theorem dM_canScan_48 : decode mM_canScan.2.1 48 = .ok (.iinc 5 1, 3) := by decide +kernel
theorem dM_canScan_51 : decode mM_canScan.2.1 51 = .ok (.goto (-45), 3) := by decide +kernel
theorem dM_canScan_54 : decode mM_canScan.2.1 54 = .ok (.iload 4, 2) := by decide +kernel
theorem dM_canScan_56 : decode mM_canScan.2.1 56 = .ok (.ireturn, 1) := by decide +kernel
theorem dM_scans_0 : decode mM_scans.2.1 0 = .ok (.aload_n 0, 1) := by decide +kernel
theorem dM_scans_1 : decode mM_scans.2.1 1 = .ok (.invokevirtual 97, 3) := by decide +kernel
theorem dM_scans_4 : decode mM_scans.2.1 4 = .ok (.iconst 0, 1) := by decide +kernel
theorem dM_scans_5 : decode mM_scans.2.1 5 = .ok (.istore_n 1, 1) := by decide +kernel
theorem dM_scans_6 : decode mM_scans.2.1 6 = .ok (.iconst 0, 1) := by decide +kernel
theorem dM_scans_7 : decode mM_scans.2.1 7 = .ok (.istore_n 2, 1) := by decide +kernel
theorem dM_scans_8 : decode mM_scans.2.1 8 = .ok (.iload_n 2, 1) := by decide +kernel
theorem dM_scans_9 : decode mM_scans.2.1 9 = .ok (.iconst 4, 1) := by decide +kernel
theorem dM_scans_10 : decode mM_scans.2.1 10 = .ok (.if_icmp .ge 40, 3) := by decide +kernel
theorem dM_scans_13 : decode mM_scans.2.1 13 = .ok (.iconst 3, 1) := by decide +kernel
theorem dM_scans_14 : decode mM_scans.2.1 14 = .ok (.iload_n 1, 1) := by decide +kernel
theorem dM_scans_15 : decode mM_scans.2.1 15 = .ok (.imul, 1) := by decide +kernel
theorem dM_scans_16 : decode mM_scans.2.1 16 = .ok (.aload_n 0, 1) := by decide +kernel
theorem dM_scans_17 : decode mM_scans.2.1 17 = .ok (.aload_n 0, 1) := by decide +kernel
theorem dM_scans_18 : decode mM_scans.2.1 18 = .ok (.aload_n 0, 1) := by decide +kernel
theorem dM_scans_19 : decode mM_scans.2.1 19 = .ok (.getfield 16, 3) := by decide +kernel
theorem dM_scans_22 : decode mM_scans.2.1 22 = .ok (.bipush 108, 2) := by decide +kernel
theorem dM_scans_24 : decode mM_scans.2.1 24 = .ok (.iaload, 1) := by decide +kernel
theorem dM_scans_25 : decode mM_scans.2.1 25 = .ok (.aload_n 0, 1) := by decide +kernel
theorem dM_scans_26 : decode mM_scans.2.1 26 = .ok (.getfield 16, 3) := by decide +kernel
theorem dM_scans_29 : decode mM_scans.2.1 29 = .ok (.bipush 109, 2) := by decide +kernel
theorem dM_scans_31 : decode mM_scans.2.1 31 = .ok (.iaload, 1) := by decide +kernel
theorem dM_scans_32 : decode mM_scans.2.1 32 = .ok (.iload_n 2, 1) := by decide +kernel
theorem dM_scans_33 : decode mM_scans.2.1 33 = .ok (.iadd, 1) := by decide +kernel
theorem dM_scans_34 : decode mM_scans.2.1 34 = .ok (.iconst 4, 1) := by decide +kernel
theorem dM_scans_35 : decode mM_scans.2.1 35 = .ok (.irem, 1) := by decide +kernel
theorem dM_scans_36 : decode mM_scans.2.1 36 = .ok (.invokevirtual 109, 3) := by decide +kernel
theorem dM_scans_39 : decode mM_scans.2.1 39 = .ok (.invokevirtual 123, 3) := by decide +kernel
theorem dM_scans_42 : decode mM_scans.2.1 42 = .ok (.iadd, 1) := by decide +kernel
theorem dM_scans_43 : decode mM_scans.2.1 43 = .ok (.istore_n 1, 1) := by decide +kernel
theorem dM_scans_44 : decode mM_scans.2.1 44 = .ok (.iinc 2 1, 3) := by decide +kernel
theorem dM_scans_47 : decode mM_scans.2.1 47 = .ok (.goto (-39), 3) := by decide +kernel
theorem dM_scans_50 : decode mM_scans.2.1 50 = .ok (.iconst 0, 1) := by decide +kernel
theorem dM_scans_51 : decode mM_scans.2.1 51 = .ok (.istore_n 2, 1) := by decide +kernel
theorem dM_scans_52 : decode mM_scans.2.1 52 = .ok (.iload_n 2, 1) := by decide +kernel
theorem dM_scans_53 : decode mM_scans.2.1 53 = .ok (.iconst 4, 1) := by decide +kernel
theorem dM_scans_54 : decode mM_scans.2.1 54 = .ok (.aload_n 0, 1) := by decide +kernel
theorem dM_scans_55 : decode mM_scans.2.1 55 = .ok (.invokevirtual 57, 3) := by decide +kernel
theorem dM_scans_58 : decode mM_scans.2.1 58 = .ok (.imul, 1) := by decide +kernel
theorem dM_scans_59 : decode mM_scans.2.1 59 = .ok (.if_icmp .ge 55, 3) := by decide +kernel
theorem dM_scans_62 : decode mM_scans.2.1 62 = .ok (.aload_n 0, 1) := by decide +kernel
theorem dM_scans_63 : decode mM_scans.2.1 63 = .ok (.getfield 16, 3) := by decide +kernel
theorem dM_scans_66 : decode mM_scans.2.1 66 = .ok (.bipush 111, 2) := by decide +kernel
theorem dM_scans_68 : decode mM_scans.2.1 68 = .ok (.iaload, 1) := by decide +kernel
theorem dM_scans_69 : decode mM_scans.2.1 69 = .ok (.iconst 1, 1) := by decide +kernel
theorem dM_scans_70 : decode mM_scans.2.1 70 = .ok (.if_icmp .ne 44, 3) := by decide +kernel
theorem dM_scans_73 : decode mM_scans.2.1 73 = .ok (.aload_n 0, 1) := by decide +kernel
theorem dM_scans_74 : decode mM_scans.2.1 74 = .ok (.iload_n 2, 1) := by decide +kernel
theorem dM_scans_75 : decode mM_scans.2.1 75 = .ok (.iconst 4, 1) := by decide +kernel
theorem dM_scans_76 : decode mM_scans.2.1 76 = .ok (.idiv, 1) := by decide +kernel
theorem dM_scans_77 : decode mM_scans.2.1 77 = .ok (.iload_n 2, 1) := by decide +kernel
theorem dM_scans_78 : decode mM_scans.2.1 78 = .ok (.iconst 4, 1) := by decide +kernel
theorem dM_scans_79 : decode mM_scans.2.1 79 = .ok (.irem, 1) := by decide +kernel
theorem dM_scans_80 : decode mM_scans.2.1 80 = .ok (.iload_n 1, 1) := by decide +kernel
theorem dM_scans_81 : decode mM_scans.2.1 81 = .ok (.invokevirtual 136, 3) := by decide +kernel
theorem dM_scans_84 : decode mM_scans.2.1 84 = .ok (.ifCond .ne 24, 3) := by decide +kernel
theorem dM_scans_87 : decode mM_scans.2.1 87 = .ok (.aload_n 0, 1) := by decide +kernel
theorem dM_scans_88 : decode mM_scans.2.1 88 = .ok (.getfield 16, 3) := by decide +kernel
theorem dM_scans_91 : decode mM_scans.2.1 91 = .ok (.bipush 72, 2) := by decide +kernel
theorem dM_scans_93 : decode mM_scans.2.1 93 = .ok (.iload_n 2, 1) := by decide +kernel
theorem dM_scans_94 : decode mM_scans.2.1 94 = .ok (.iconst 4, 1) := by decide +kernel
theorem dM_scans_95 : decode mM_scans.2.1 95 = .ok (.idiv, 1) := by decide +kernel
theorem dM_scans_96 : decode mM_scans.2.1 96 = .ok (.iadd, 1) := by decide +kernel
theorem dM_scans_97 : decode mM_scans.2.1 97 = .ok (.dup2, 1) := by decide +kernel
theorem dM_scans_98 : decode mM_scans.2.1 98 = .ok (.iaload, 1) := by decide +kernel
theorem dM_scans_99 : decode mM_scans.2.1 99 = .ok (.iconst 1, 1) := by decide +kernel
theorem dM_scans_100 : decode mM_scans.2.1 100 = .ok (.iload_n 2, 1) := by decide +kernel
theorem dM_scans_101 : decode mM_scans.2.1 101 = .ok (.iconst 4, 1) := by decide +kernel
theorem dM_scans_102 : decode mM_scans.2.1 102 = .ok (.irem, 1) := by decide +kernel
theorem dM_scans_103 : decode mM_scans.2.1 103 = .ok (.ishl, 1) := by decide +kernel
theorem dM_scans_104 : decode mM_scans.2.1 104 = .ok (.iconst (-1), 1) := by decide +kernel
theorem dM_scans_105 : decode mM_scans.2.1 105 = .ok (.ixor, 1) := by decide +kernel
theorem dM_scans_106 : decode mM_scans.2.1 106 = .ok (.iand, 1) := by decide +kernel
theorem dM_scans_107 : decode mM_scans.2.1 107 = .ok (.iastore, 1) := by decide +kernel
theorem dM_scans_108 : decode mM_scans.2.1 108 = .ok (.iinc 2 1, 3) := by decide +kernel
theorem dM_scans_111 : decode mM_scans.2.1 111 = .ok (.goto (-59), 3) := by decide +kernel
theorem dM_scans_114 : decode mM_scans.2.1 114 = .ok (.aload_n 0, 1) := by decide +kernel
theorem dM_scans_115 : decode mM_scans.2.1 115 = .ok (.invokevirtual 120, 3) := by decide +kernel
theorem dM_scans_118 : decode mM_scans.2.1 118 = .ok (.iload_n 1, 1) := by decide +kernel
theorem dM_scans_119 : decode mM_scans.2.1 119 = .ok (.ireturn, 1) := by decide +kernel
theorem dM_carries_0 : decode mM_carries.2.1 0 = .ok (.aload_n 0, 1) := by decide +kernel
theorem dM_carries_1 : decode mM_carries.2.1 1 = .ok (.iload_n 1, 1) := by decide +kernel
theorem dM_carries_2 : decode mM_carries.2.1 2 = .ok (.invokevirtual 94, 3) := by decide +kernel
theorem dM_carries_5 : decode mM_carries.2.1 5 = .ok (.ifCond .eq 20, 3) := by decide +kernel
theorem dM_carries_8 : decode mM_carries.2.1 8 = .ok (.aload_n 0, 1) := by decide +kernel
theorem dM_carries_9 : decode mM_carries.2.1 9 = .ok (.iload_n 1, 1) := by decide +kernel
theorem dM_carries_10 : decode mM_carries.2.1 10 = .ok (.invokevirtual 103, 3) := by decide +kernel
theorem dM_carries_13 : decode mM_carries.2.1 13 = .ok (.ifCond .eq 12, 3) := by decide +kernel
theorem dM_carries_16 : decode mM_carries.2.1 16 = .ok (.iload_n 2, 1) := by decide +kernel
theorem dM_carries_17 : decode mM_carries.2.1 17 = .ok (.iconst 0, 1) := by decide +kernel
theorem dM_carries_18 : decode mM_carries.2.1 18 = .ok (.iconst 3, 1) := by decide +kernel
theorem dM_carries_19 : decode mM_carries.2.1 19 = .ok (.invokestatic 67, 3) := by decide +kernel
theorem dM_carries_22 : decode mM_carries.2.1 22 = .ok (.ifCond .ne 5, 3) := by decide +kernel
theorem dM_carries_25 : decode mM_carries.2.1 25 = .ok (.iconst (-1), 1) := by decide +kernel
theorem dM_carries_26 : decode mM_carries.2.1 26 = .ok (.ireturn, 1) := by decide +kernel
theorem dM_carries_27 : decode mM_carries.2.1 27 = .ok (.aload_n 0, 1) := by decide +kernel
theorem dM_carries_28 : decode mM_carries.2.1 28 = .ok (.invokevirtual 97, 3) := by decide +kernel
theorem dM_carries_31 : decode mM_carries.2.1 31 = .ok (.aload_n 0, 1) := by decide +kernel
theorem dM_carries_32 : decode mM_carries.2.1 32 = .ok (.getfield 16, 3) := by decide +kernel
theorem dM_carries_35 : decode mM_carries.2.1 35 = .ok (.bipush 108, 2) := by decide +kernel
theorem dM_carries_37 : decode mM_carries.2.1 37 = .ok (.iload_n 1, 1) := by decide +kernel
theorem dM_carries_38 : decode mM_carries.2.1 38 = .ok (.iastore, 1) := by decide +kernel
theorem dM_carries_39 : decode mM_carries.2.1 39 = .ok (.aload_n 0, 1) := by decide +kernel
theorem dM_carries_40 : decode mM_carries.2.1 40 = .ok (.getfield 16, 3) := by decide +kernel
theorem dM_carries_43 : decode mM_carries.2.1 43 = .ok (.bipush 109, 2) := by decide +kernel
theorem dM_carries_45 : decode mM_carries.2.1 45 = .ok (.iload_n 2, 1) := by decide +kernel
theorem dM_carries_46 : decode mM_carries.2.1 46 = .ok (.iastore, 1) := by decide +kernel
theorem dM_carries_47 : decode mM_carries.2.1 47 = .ok (.aload_n 0, 1) := by decide +kernel
theorem dM_carries_48 : decode mM_carries.2.1 48 = .ok (.getfield 16, 3) := by decide +kernel
theorem dM_carries_51 : decode mM_carries.2.1 51 = .ok (.bipush 111, 2) := by decide +kernel
theorem dM_carries_53 : decode mM_carries.2.1 53 = .ok (.iconst 1, 1) := by decide +kernel
theorem dM_carries_54 : decode mM_carries.2.1 54 = .ok (.iastore, 1) := by decide +kernel
theorem dM_carries_55 : decode mM_carries.2.1 55 = .ok (.iconst 0, 1) := by decide +kernel
theorem dM_carries_56 : decode mM_carries.2.1 56 = .ok (.istore_n 3, 1) := by decide +kernel
theorem dM_carries_57 : decode mM_carries.2.1 57 = .ok (.iload_n 3, 1) := by decide +kernel
theorem dM_carries_58 : decode mM_carries.2.1 58 = .ok (.aload_n 0, 1) := by decide +kernel
theorem dM_carries_59 : decode mM_carries.2.1 59 = .ok (.invokevirtual 57, 3) := by decide +kernel
theorem dM_carries_62 : decode mM_carries.2.1 62 = .ok (.if_icmp .ge 67, 3) := by decide +kernel
theorem dM_carries_65 : decode mM_carries.2.1 65 = .ok (.aload_n 0, 1) := by decide +kernel
theorem dM_carries_66 : decode mM_carries.2.1 66 = .ok (.getfield 16, 3) := by decide +kernel
theorem dM_carries_69 : decode mM_carries.2.1 69 = .ok (.iload_n 3, 1) := by decide +kernel
theorem dM_carries_70 : decode mM_carries.2.1 70 = .ok (.iaload, 1) := by decide +kernel
theorem dM_carries_71 : decode mM_carries.2.1 71 = .ok (.iconst 3, 1) := by decide +kernel
theorem dM_carries_72 : decode mM_carries.2.1 72 = .ok (.if_icmp .eq 28, 3) := by decide +kernel
theorem dM_carries_75 : decode mM_carries.2.1 75 = .ok (.aload_n 0, 1) := by decide +kernel
theorem dM_carries_76 : decode mM_carries.2.1 76 = .ok (.getfield 16, 3) := by decide +kernel
theorem dM_carries_79 : decode mM_carries.2.1 79 = .ok (.bipush 36, 2) := by decide +kernel
theorem dM_carries_81 : decode mM_carries.2.1 81 = .ok (.iload_n 3, 1) := by decide +kernel
theorem dM_carries_82 : decode mM_carries.2.1 82 = .ok (.iadd, 1) := by decide +kernel
theorem dM_carries_83 : decode mM_carries.2.1 83 = .ok (.iaload, 1) := by decide +kernel
theorem dM_carries_84 : decode mM_carries.2.1 84 = .ok (.iconst 2, 1) := by decide +kernel
theorem dM_carries_85 : decode mM_carries.2.1 85 = .ok (.if_icmp .ne 11, 3) := by decide +kernel
theorem dM_carries_88 : decode mM_carries.2.1 88 = .ok (.aload_n 0, 1) := by decide +kernel
theorem dM_carries_89 : decode mM_carries.2.1 89 = .ok (.iload_n 3, 1) := by decide +kernel
theorem dM_carries_90 : decode mM_carries.2.1 90 = .ok (.invokevirtual 100, 3) := by decide +kernel
theorem dM_carries_93 : decode mM_carries.2.1 93 = .ok (.ifCond .eq 7, 3) := by decide +kernel
theorem dM_carries_96 : decode mM_carries.2.1 96 = .ok (.iconst 1, 1) := by decide +kernel
theorem dM_carries_97 : decode mM_carries.2.1 97 = .ok (.goto 4, 3) := by decide +kernel
theorem dM_carries_100 : decode mM_carries.2.1 100 = .ok (.iconst 0, 1) := by decide +kernel
theorem dM_carries_101 : decode mM_carries.2.1 101 = .ok (.istore 4, 2) := by decide +kernel
theorem dM_carries_103 : decode mM_carries.2.1 103 = .ok (.aload_n 0, 1) := by decide +kernel
theorem dM_carries_104 : decode mM_carries.2.1 104 = .ok (.getfield 16, 3) := by decide +kernel
theorem dM_carries_107 : decode mM_carries.2.1 107 = .ok (.bipush 72, 2) := by decide +kernel
theorem dM_carries_109 : decode mM_carries.2.1 109 = .ok (.iload_n 3, 1) := by decide +kernel
theorem dM_carries_110 : decode mM_carries.2.1 110 = .ok (.iadd, 1) := by decide +kernel
theorem dM_carries_111 : decode mM_carries.2.1 111 = .ok (.iload 4, 2) := by decide +kernel
theorem dM_carries_113 : decode mM_carries.2.1 113 = .ok (.ifCond .eq 8, 3) := by decide +kernel
theorem dM_carries_116 : decode mM_carries.2.1 116 = .ok (.bipush 15, 2) := by decide +kernel
theorem dM_carries_118 : decode mM_carries.2.1 118 = .ok (.goto 4, 3) := by decide +kernel
theorem dM_carries_121 : decode mM_carries.2.1 121 = .ok (.iconst 0, 1) := by decide +kernel
theorem dM_carries_122 : decode mM_carries.2.1 122 = .ok (.iastore, 1) := by decide +kernel
theorem dM_carries_123 : decode mM_carries.2.1 123 = .ok (.iinc 3 1, 3) := by decide +kernel
theorem dM_carries_126 : decode mM_carries.2.1 126 = .ok (.goto (-69), 3) := by decide +kernel
theorem dM_carries_129 : decode mM_carries.2.1 129 = .ok (.aload_n 0, 1) := by decide +kernel
theorem dM_carries_130 : decode mM_carries.2.1 130 = .ok (.invokevirtual 106, 3) := by decide +kernel
theorem dM_carries_133 : decode mM_carries.2.1 133 = .ok (.istore_n 3, 1) := by decide +kernel
theorem dM_carries_134 : decode mM_carries.2.1 134 = .ok (.aload_n 0, 1) := by decide +kernel
theorem dM_carries_135 : decode mM_carries.2.1 135 = .ok (.invokevirtual 120, 3) := by decide +kernel
theorem dM_carries_138 : decode mM_carries.2.1 138 = .ok (.iload_n 3, 1) := by decide +kernel
theorem dM_carries_139 : decode mM_carries.2.1 139 = .ok (.ireturn, 1) := by decide +kernel
theorem dM_lays_0 : decode mM_lays.2.1 0 = .ok (.iconst 0, 1) := by decide +kernel
theorem dM_lays_1 : decode mM_lays.2.1 1 = .ok (.istore 4, 2) := by decide +kernel
theorem dM_lays_3 : decode mM_lays.2.1 3 = .ok (.iload 4, 2) := by decide +kernel
theorem dM_lays_5 : decode mM_lays.2.1 5 = .ok (.aload_n 0, 1) := by decide +kernel
theorem dM_lays_6 : decode mM_lays.2.1 6 = .ok (.invokevirtual 57, 3) := by decide +kernel
theorem dM_lays_9 : decode mM_lays.2.1 9 = .ok (.if_icmp .ge 15, 3) := by decide +kernel
theorem dM_lays_12 : decode mM_lays.2.1 12 = .ok (.aload_n 3, 1) := by decide +kernel
theorem dM_lays_13 : decode mM_lays.2.1 13 = .ok (.iload 4, 2) := by decide +kernel
theorem dM_lays_15 : decode mM_lays.2.1 15 = .ok (.bipush (-9), 2) := by decide +kernel
theorem dM_lays_17 : decode mM_lays.2.1 17 = .ok (.iastore, 1) := by decide +kernel
theorem dM_lays_18 : decode mM_lays.2.1 18 = .ok (.iinc 4 1, 3) := by decide +kernel
theorem dM_lays_21 : decode mM_lays.2.1 21 = .ok (.goto (-18), 3) := by decide +kernel
theorem dM_lays_24 : decode mM_lays.2.1 24 = .ok (.iload_n 2, 1) := by decide +kernel
theorem dM_lays_25 : decode mM_lays.2.1 25 = .ok (.ifCond .eq 17, 3) := by decide +kernel
theorem dM_lays_28 : decode mM_lays.2.1 28 = .ok (.aload_n 0, 1) := by decide +kernel
theorem dM_lays_29 : decode mM_lays.2.1 29 = .ok (.getfield 16, 3) := by decide +kernel
theorem dM_lays_32 : decode mM_lays.2.1 32 = .ok (.bipush 36, 2) := by decide +kernel
theorem dM_lays_34 : decode mM_lays.2.1 34 = .ok (.iload_n 1, 1) := by decide +kernel
theorem dM_lays_35 : decode mM_lays.2.1 35 = .ok (.iadd, 1) := by decide +kernel
theorem dM_lays_36 : decode mM_lays.2.1 36 = .ok (.iaload, 1) := by decide +kernel
theorem dM_lays_37 : decode mM_lays.2.1 37 = .ok (.iconst 1, 1) := by decide +kernel
theorem dM_lays_38 : decode mM_lays.2.1 38 = .ok (.if_icmp .eq 4, 3) := by decide +kernel
theorem dM_lays_41 : decode mM_lays.2.1 41 = .ok (.return_, 1) := by decide +kernel
theorem dM_lays_42 : decode mM_lays.2.1 42 = .ok (.aload_n 3, 1) := by decide +kernel
theorem dM_lays_43 : decode mM_lays.2.1 43 = .ok (.iload_n 1, 1) := by decide +kernel
theorem dM_lays_44 : decode mM_lays.2.1 44 = .ok (.iconst 0, 1) := by decide +kernel
theorem dM_lays_45 : decode mM_lays.2.1 45 = .ok (.iastore, 1) := by decide +kernel
theorem dM_lays_46 : decode mM_lays.2.1 46 = .ok (.iconst 0, 1) := by decide +kernel
theorem dM_lays_47 : decode mM_lays.2.1 47 = .ok (.istore 4, 2) := by decide +kernel
theorem dM_lays_49 : decode mM_lays.2.1 49 = .ok (.iload 4, 2) := by decide +kernel
theorem dM_lays_51 : decode mM_lays.2.1 51 = .ok (.aload_n 0, 1) := by decide +kernel
theorem dM_lays_52 : decode mM_lays.2.1 52 = .ok (.invokevirtual 57, 3) := by decide +kernel
theorem dM_lays_55 : decode mM_lays.2.1 55 = .ok (.if_icmp .ge 127, 3) := by decide +kernel
theorem dM_lays_58 : decode mM_lays.2.1 58 = .ok (.iconst 0, 1) := by decide +kernel
theorem dM_lays_59 : decode mM_lays.2.1 59 = .ok (.istore 5, 2) := by decide +kernel
theorem dM_lays_61 : decode mM_lays.2.1 61 = .ok (.iload 5, 2) := by decide +kernel
theorem dM_lays_63 : decode mM_lays.2.1 63 = .ok (.aload_n 0, 1) := by decide +kernel
theorem dM_lays_64 : decode mM_lays.2.1 64 = .ok (.invokevirtual 57, 3) := by decide +kernel
theorem dM_lays_67 : decode mM_lays.2.1 67 = .ok (.if_icmp .ge 109, 3) := by decide +kernel
theorem dM_lays_70 : decode mM_lays.2.1 70 = .ok (.iconst 0, 1) := by decide +kernel
theorem dM_lays_71 : decode mM_lays.2.1 71 = .ok (.istore 6, 2) := by decide +kernel
theorem dM_lays_73 : decode mM_lays.2.1 73 = .ok (.iload 6, 2) := by decide +kernel
theorem dM_lays_75 : decode mM_lays.2.1 75 = .ok (.iconst 4, 1) := by decide +kernel
theorem dM_lays_76 : decode mM_lays.2.1 76 = .ok (.if_icmp .ge 94, 3) := by decide +kernel
theorem dM_lays_79 : decode mM_lays.2.1 79 = .ok (.aload_n 3, 1) := by decide +kernel
theorem dM_lays_80 : decode mM_lays.2.1 80 = .ok (.iload 5, 2) := by decide +kernel
theorem dM_lays_82 : decode mM_lays.2.1 82 = .ok (.iaload, 1) := by decide +kernel
theorem dM_lays_83 : decode mM_lays.2.1 83 = .ok (.iload 4, 2) := by decide +kernel
theorem dM_lays_85 : decode mM_lays.2.1 85 = .ok (.if_icmp .ne 85, 3) := by decide +kernel
theorem dM_lays_88 : decode mM_lays.2.1 88 = .ok (.aload_n 0, 1) := by decide +kernel
theorem dM_lays_89 : decode mM_lays.2.1 89 = .ok (.iload 5, 2) := by decide +kernel
theorem dM_lays_91 : decode mM_lays.2.1 91 = .ok (.iload 6, 2) := by decide +kernel
theorem dM_lays_93 : decode mM_lays.2.1 93 = .ok (.invokevirtual 109, 3) := by decide +kernel
theorem dM_lays_96 : decode mM_lays.2.1 96 = .ok (.istore 7, 2) := by decide +kernel
theorem dM_lays_98 : decode mM_lays.2.1 98 = .ok (.iload 7, 2) := by decide +kernel
theorem dM_lays_100 : decode mM_lays.2.1 100 = .ok (.bipush (-9), 2) := by decide +kernel
theorem dM_lays_102 : decode mM_lays.2.1 102 = .ok (.if_icmp .eq 46, 3) := by decide +kernel
theorem dM_lays_105 : decode mM_lays.2.1 105 = .ok (.aload_n 3, 1) := by decide +kernel
theorem dM_lays_106 : decode mM_lays.2.1 106 = .ok (.iload 7, 2) := by decide +kernel
theorem dM_lays_108 : decode mM_lays.2.1 108 = .ok (.iaload, 1) := by decide +kernel
theorem dM_lays_109 : decode mM_lays.2.1 109 = .ok (.bipush (-9), 2) := by decide +kernel
theorem dM_lays_111 : decode mM_lays.2.1 111 = .ok (.if_icmp .ne 37, 3) := by decide +kernel
theorem dM_lays_114 : decode mM_lays.2.1 114 = .ok (.iload_n 2, 1) := by decide +kernel
theorem dM_lays_115 : decode mM_lays.2.1 115 = .ok (.ifCond .eq 20, 3) := by decide +kernel
theorem dM_lays_118 : decode mM_lays.2.1 118 = .ok (.aload_n 0, 1) := by decide +kernel
theorem dM_lays_119 : decode mM_lays.2.1 119 = .ok (.getfield 16, 3) := by decide +kernel
theorem dM_lays_122 : decode mM_lays.2.1 122 = .ok (.bipush 36, 2) := by decide +kernel
theorem dM_lays_124 : decode mM_lays.2.1 124 = .ok (.iload 7, 2) := by decide +kernel
theorem dM_lays_126 : decode mM_lays.2.1 126 = .ok (.iadd, 1) := by decide +kernel
theorem dM_lays_127 : decode mM_lays.2.1 127 = .ok (.iaload, 1) := by decide +kernel
theorem dM_lays_128 : decode mM_lays.2.1 128 = .ok (.iconst 1, 1) := by decide +kernel
theorem dM_lays_129 : decode mM_lays.2.1 129 = .ok (.if_icmp .ne 19, 3) := by decide +kernel
theorem dM_lays_132 : decode mM_lays.2.1 132 = .ok (.goto 12, 3) := by decide +kernel
theorem dM_lays_135 : decode mM_lays.2.1 135 = .ok (.aload_n 0, 1) := by decide +kernel
theorem dM_lays_136 : decode mM_lays.2.1 136 = .ok (.iload 7, 2) := by decide +kernel
theorem dM_lays_138 : decode mM_lays.2.1 138 = .ok (.invokevirtual 103, 3) := by decide +kernel
theorem dM_lays_141 : decode mM_lays.2.1 141 = .ok (.ifCond .eq 7, 3) := by decide +kernel
theorem dM_lays_144 : decode mM_lays.2.1 144 = .ok (.iconst 1, 1) := by decide +kernel
theorem dM_lays_145 : decode mM_lays.2.1 145 = .ok (.goto 4, 3) := by decide +kernel
theorem dM_lays_148 : decode mM_lays.2.1 148 = .ok (.iconst 0, 1) := by decide +kernel
theorem dM_lays_149 : decode mM_lays.2.1 149 = .ok (.istore 8, 2) := by decide +kernel
theorem dM_lays_151 : decode mM_lays.2.1 151 = .ok (.iload 8, 2) := by decide +kernel
theorem dM_lays_153 : decode mM_lays.2.1 153 = .ok (.ifCond .eq 11, 3) := by decide +kernel
theorem dM_lays_156 : decode mM_lays.2.1 156 = .ok (.aload_n 3, 1) := by decide +kernel
theorem dM_lays_157 : decode mM_lays.2.1 157 = .ok (.iload 7, 2) := by decide +kernel
theorem dM_lays_159 : decode mM_lays.2.1 159 = .ok (.iload 4, 2) := by decide +kernel
theorem dM_lays_161 : decode mM_lays.2.1 161 = .ok (.iconst 1, 1) := by decide +kernel
theorem dM_lays_162 : decode mM_lays.2.1 162 = .ok (.iadd, 1) := by decide +kernel
theorem dM_lays_163 : decode mM_lays.2.1 163 = .ok (.iastore, 1) := by decide +kernel
theorem dM_lays_164 : decode mM_lays.2.1 164 = .ok (.iinc 6 1, 3) := by decide +kernel
theorem dM_lays_167 : decode mM_lays.2.1 167 = .ok (.goto (-94), 3) := by decide +kernel
theorem dM_lays_170 : decode mM_lays.2.1 170 = .ok (.iinc 5 1, 3) := by decide +kernel
theorem dM_lays_173 : decode mM_lays.2.1 173 = .ok (.goto (-112), 3) := by decide +kernel
theorem dM_lays_176 : decode mM_lays.2.1 176 = .ok (.iinc 4 1, 3) := by decide +kernel
theorem dM_lays_179 : decode mM_lays.2.1 179 = .ok (.goto (-130), 3) := by decide +kernel
theorem dM_lays_182 : decode mM_lays.2.1 182 = .ok (.return_, 1) := by decide +kernel
theorem dM_laysTarget_0 : decode mM_laysTarget.2.1 0 = .ok (.aload_n 0, 1) := by decide +kernel
theorem dM_laysTarget_1 : decode mM_laysTarget.2.1 1 = .ok (.aload_n 0, 1) := by decide +kernel
theorem dM_laysTarget_2 : decode mM_laysTarget.2.1 2 = .ok (.getfield 61, 3) := by decide +kernel
theorem dM_laysTarget_5 : decode mM_laysTarget.2.1 5 = .ok (.iconst 1, 1) := by decide +kernel
theorem dM_laysTarget_6 : decode mM_laysTarget.2.1 6 = .ok (.aload_n 0, 1) := by decide +kernel
theorem dM_laysTarget_7 : decode mM_laysTarget.2.1 7 = .ok (.getfield 45, 3) := by decide +kernel
theorem dM_laysTarget_10 : decode mM_laysTarget.2.1 10 = .ok (.invokevirtual 139, 3) := by decide +kernel
theorem dM_laysTarget_13 : decode mM_laysTarget.2.1 13 = .ok (.aload_n 0, 1) := by decide +kernel
theorem dM_laysTarget_14 : decode mM_laysTarget.2.1 14 = .ok (.aload_n 0, 1) := by decide +kernel
theorem dM_laysTarget_15 : decode mM_laysTarget.2.1 15 = .ok (.getfield 16, 3) := by decide +kernel
theorem dM_laysTarget_18 : decode mM_laysTarget.2.1 18 = .ok (.bipush 108, 2) := by decide +kernel
theorem dM_laysTarget_20 : decode mM_laysTarget.2.1 20 = .ok (.iaload, 1) := by decide +kernel
theorem dM_laysTarget_21 : decode mM_laysTarget.2.1 21 = .ok (.iconst 1, 1) := by decide +kernel
theorem dM_laysTarget_22 : decode mM_laysTarget.2.1 22 = .ok (.aload_n 0, 1) := by decide +kernel
theorem dM_laysTarget_23 : decode mM_laysTarget.2.1 23 = .ok (.getfield 42, 3) := by decide +kernel
theorem dM_laysTarget_26 : decode mM_laysTarget.2.1 26 = .ok (.invokevirtual 139, 3) := by decide +kernel
theorem dM_laysTarget_29 : decode mM_laysTarget.2.1 29 = .ok (.aload_n 0, 1) := by decide +kernel
theorem dM_laysTarget_30 : decode mM_laysTarget.2.1 30 = .ok (.bipush (-9), 2) := by decide +kernel
theorem dM_laysTarget_32 : decode mM_laysTarget.2.1 32 = .ok (.putfield 143, 3) := by decide +kernel
theorem dM_laysTarget_35 : decode mM_laysTarget.2.1 35 = .ok (.iconst 0, 1) := by decide +kernel
theorem dM_laysTarget_36 : decode mM_laysTarget.2.1 36 = .ok (.istore_n 1, 1) := by decide +kernel
theorem dM_laysTarget_37 : decode mM_laysTarget.2.1 37 = .ok (.iload_n 1, 1) := by decide +kernel
theorem dM_laysTarget_38 : decode mM_laysTarget.2.1 38 = .ok (.aload_n 0, 1) := by decide +kernel
theorem dM_laysTarget_39 : decode mM_laysTarget.2.1 39 = .ok (.invokevirtual 57, 3) := by decide +kernel
theorem dM_laysTarget_42 : decode mM_laysTarget.2.1 42 = .ok (.if_icmp .ge 46, 3) := by decide +kernel
theorem dM_laysTarget_45 : decode mM_laysTarget.2.1 45 = .ok (.aload_n 0, 1) := by decide +kernel
theorem dM_laysTarget_46 : decode mM_laysTarget.2.1 46 = .ok (.getfield 16, 3) := by decide +kernel
theorem dM_laysTarget_49 : decode mM_laysTarget.2.1 49 = .ok (.bipush 111, 2) := by decide +kernel
theorem dM_laysTarget_51 : decode mM_laysTarget.2.1 51 = .ok (.iaload, 1) := by decide +kernel
theorem dM_laysTarget_52 : decode mM_laysTarget.2.1 52 = .ok (.ifCond .ne 36, 3) := by decide +kernel
theorem dM_laysTarget_55 : decode mM_laysTarget.2.1 55 = .ok (.aload_n 0, 1) := by decide +kernel
theorem dM_laysTarget_56 : decode mM_laysTarget.2.1 56 = .ok (.getfield 16, 3) := by decide +kernel
theorem dM_laysTarget_59 : decode mM_laysTarget.2.1 59 = .ok (.iload_n 1, 1) := by decide +kernel
theorem dM_laysTarget_60 : decode mM_laysTarget.2.1 60 = .ok (.iaload, 1) := by decide +kernel
theorem dM_laysTarget_61 : decode mM_laysTarget.2.1 61 = .ok (.iconst 3, 1) := by decide +kernel
theorem dM_laysTarget_62 : decode mM_laysTarget.2.1 62 = .ok (.if_icmp .eq 20, 3) := by decide +kernel
theorem dM_laysTarget_65 : decode mM_laysTarget.2.1 65 = .ok (.aload_n 0, 1) := by decide +kernel
theorem dM_laysTarget_66 : decode mM_laysTarget.2.1 66 = .ok (.getfield 16, 3) := by decide +kernel
theorem dM_laysTarget_69 : decode mM_laysTarget.2.1 69 = .ok (.bipush 36, 2) := by decide +kernel
theorem dM_laysTarget_71 : decode mM_laysTarget.2.1 71 = .ok (.iload_n 1, 1) := by decide +kernel
theorem dM_laysTarget_72 : decode mM_laysTarget.2.1 72 = .ok (.iadd, 1) := by decide +kernel
theorem dM_laysTarget_73 : decode mM_laysTarget.2.1 73 = .ok (.iaload, 1) := by decide +kernel
theorem dM_laysTarget_74 : decode mM_laysTarget.2.1 74 = .ok (.ifCond .ne 8, 3) := by decide +kernel
theorem dM_laysTarget_77 : decode mM_laysTarget.2.1 77 = .ok (.aload_n 0, 1) := by decide +kernel
theorem dM_laysTarget_78 : decode mM_laysTarget.2.1 78 = .ok (.iload_n 1, 1) := by decide +kernel
theorem dM_laysTarget_79 : decode mM_laysTarget.2.1 79 = .ok (.invokevirtual 146, 3) := by decide +kernel
theorem dM_laysTarget_82 : decode mM_laysTarget.2.1 82 = .ok (.iinc 1 1, 3) := by decide +kernel
theorem dM_laysTarget_85 : decode mM_laysTarget.2.1 85 = .ok (.goto (-48), 3) := by decide +kernel
theorem dM_laysTarget_88 : decode mM_laysTarget.2.1 88 = .ok (.return_, 1) := by decide +kernel
theorem dM_looksFor_0 : decode mM_looksFor.2.1 0 = .ok (.iconst 0, 1) := by decide +kernel
theorem dM_looksFor_1 : decode mM_looksFor.2.1 1 = .ok (.istore_n 2, 1) := by decide +kernel
theorem dM_looksFor_2 : decode mM_looksFor.2.1 2 = .ok (.iload_n 2, 1) := by decide +kernel
theorem dM_looksFor_3 : decode mM_looksFor.2.1 3 = .ok (.aload_n 0, 1) := by decide +kernel
theorem dM_looksFor_4 : decode mM_looksFor.2.1 4 = .ok (.invokevirtual 57, 3) := by decide +kernel
theorem dM_looksFor_7 : decode mM_looksFor.2.1 7 = .ok (.if_icmp .ge 168, 3) := by decide +kernel
theorem dM_looksFor_10 : decode mM_looksFor.2.1 10 = .ok (.iconst 0, 1) := by decide +kernel
theorem dM_looksFor_11 : decode mM_looksFor.2.1 11 = .ok (.istore_n 3, 1) := by decide +kernel
theorem dM_looksFor_12 : decode mM_looksFor.2.1 12 = .ok (.iconst 0, 1) := by decide +kernel
theorem dM_looksFor_13 : decode mM_looksFor.2.1 13 = .ok (.istore 4, 2) := by decide +kernel
theorem dM_looksFor_15 : decode mM_looksFor.2.1 15 = .ok (.iload 4, 2) := by decide +kernel
theorem dM_looksFor_17 : decode mM_looksFor.2.1 17 = .ok (.iconst 4, 1) := by decide +kernel
theorem dM_looksFor_18 : decode mM_looksFor.2.1 18 = .ok (.if_icmp .ge 30, 3) := by decide +kernel
theorem dM_looksFor_21 : decode mM_looksFor.2.1 21 = .ok (.iload_n 3, 1) := by decide +kernel
theorem dM_looksFor_22 : decode mM_looksFor.2.1 22 = .ok (.ifCond .ne 14, 3) := by decide +kernel
theorem dM_looksFor_25 : decode mM_looksFor.2.1 25 = .ok (.aload_n 0, 1) := by decide +kernel
theorem dM_looksFor_26 : decode mM_looksFor.2.1 26 = .ok (.iload_n 1, 1) := by decide +kernel
theorem dM_looksFor_27 : decode mM_looksFor.2.1 27 = .ok (.iload 4, 2) := by decide +kernel
theorem dM_looksFor_29 : decode mM_looksFor.2.1 29 = .ok (.invokevirtual 109, 3) := by decide +kernel
theorem dM_looksFor_32 : decode mM_looksFor.2.1 32 = .ok (.iload_n 2, 1) := by decide +kernel
theorem dM_looksFor_33 : decode mM_looksFor.2.1 33 = .ok (.if_icmp .ne 7, 3) := by decide +kernel
theorem dM_looksFor_36 : decode mM_looksFor.2.1 36 = .ok (.iconst 1, 1) := by decide +kernel
theorem dM_looksFor_37 : decode mM_looksFor.2.1 37 = .ok (.goto 4, 3) := by decide +kernel
theorem dM_looksFor_40 : decode mM_looksFor.2.1 40 = .ok (.iconst 0, 1) := by decide +kernel
theorem dM_looksFor_41 : decode mM_looksFor.2.1 41 = .ok (.istore_n 3, 1) := by decide +kernel
theorem dM_looksFor_42 : decode mM_looksFor.2.1 42 = .ok (.iinc 4 1, 3) := by decide +kernel
theorem dM_looksFor_45 : decode mM_looksFor.2.1 45 = .ok (.goto (-30), 3) := by decide +kernel
theorem dM_looksFor_48 : decode mM_looksFor.2.1 48 = .ok (.iload_n 3, 1) := by decide +kernel
theorem dM_looksFor_49 : decode mM_looksFor.2.1 49 = .ok (.ifCond .eq 54, 3) := by decide +kernel
theorem dM_looksFor_52 : decode mM_looksFor.2.1 52 = .ok (.aload_n 0, 1) := by decide +kernel
theorem dM_looksFor_53 : decode mM_looksFor.2.1 53 = .ok (.getfield 45, 3) := by decide +kernel
theorem dM_looksFor_56 : decode mM_looksFor.2.1 56 = .ok (.iload_n 2, 1) := by decide +kernel
theorem dM_looksFor_57 : decode mM_looksFor.2.1 57 = .ok (.iaload, 1) := by decide +kernel
theorem dM_looksFor_58 : decode mM_looksFor.2.1 58 = .ok (.bipush (-9), 2) := by decide +kernel
theorem dM_looksFor_60 : decode mM_looksFor.2.1 60 = .ok (.if_icmp .eq 43, 3) := by decide +kernel
theorem dM_looksFor_63 : decode mM_looksFor.2.1 63 = .ok (.aload_n 0, 1) := by decide +kernel
theorem dM_looksFor_64 : decode mM_looksFor.2.1 64 = .ok (.getfield 42, 3) := by decide +kernel
theorem dM_looksFor_67 : decode mM_looksFor.2.1 67 = .ok (.iload_n 2, 1) := by decide +kernel
theorem dM_looksFor_68 : decode mM_looksFor.2.1 68 = .ok (.iaload, 1) := by decide +kernel
theorem dM_looksFor_69 : decode mM_looksFor.2.1 69 = .ok (.bipush (-9), 2) := by decide +kernel
theorem dM_looksFor_71 : decode mM_looksFor.2.1 71 = .ok (.if_icmp .eq 32, 3) := by decide +kernel
theorem dM_looksFor_74 : decode mM_looksFor.2.1 74 = .ok (.aload_n 0, 1) := by decide +kernel
theorem dM_looksFor_75 : decode mM_looksFor.2.1 75 = .ok (.getfield 42, 3) := by decide +kernel
theorem dM_looksFor_78 : decode mM_looksFor.2.1 78 = .ok (.iload_n 2, 1) := by decide +kernel
theorem dM_looksFor_79 : decode mM_looksFor.2.1 79 = .ok (.iaload, 1) := by decide +kernel
theorem dM_looksFor_80 : decode mM_looksFor.2.1 80 = .ok (.aload_n 0, 1) := by decide +kernel
theorem dM_looksFor_81 : decode mM_looksFor.2.1 81 = .ok (.getfield 45, 3) := by decide +kernel
theorem dM_looksFor_84 : decode mM_looksFor.2.1 84 = .ok (.iload_n 2, 1) := by decide +kernel
theorem dM_looksFor_85 : decode mM_looksFor.2.1 85 = .ok (.iaload, 1) := by decide +kernel
theorem dM_looksFor_86 : decode mM_looksFor.2.1 86 = .ok (.iadd, 1) := by decide +kernel
theorem dM_looksFor_87 : decode mM_looksFor.2.1 87 = .ok (.iconst 2, 1) := by decide +kernel
theorem dM_looksFor_88 : decode mM_looksFor.2.1 88 = .ok (.iadd, 1) := by decide +kernel
theorem dM_looksFor_89 : decode mM_looksFor.2.1 89 = .ok (.aload_n 0, 1) := by decide +kernel
theorem dM_looksFor_90 : decode mM_looksFor.2.1 90 = .ok (.getfield 16, 3) := by decide +kernel
theorem dM_looksFor_93 : decode mM_looksFor.2.1 93 = .ok (.bipush 110, 2) := by decide +kernel
theorem dM_looksFor_95 : decode mM_looksFor.2.1 95 = .ok (.iaload, 1) := by decide +kernel
theorem dM_looksFor_96 : decode mM_looksFor.2.1 96 = .ok (.if_icmp .gt 7, 3) := by decide +kernel
theorem dM_looksFor_99 : decode mM_looksFor.2.1 99 = .ok (.iconst 1, 1) := by decide +kernel
theorem dM_looksFor_100 : decode mM_looksFor.2.1 100 = .ok (.goto 4, 3) := by decide +kernel
theorem dM_looksFor_103 : decode mM_looksFor.2.1 103 = .ok (.iconst 0, 1) := by decide +kernel
theorem dM_looksFor_104 : decode mM_looksFor.2.1 104 = .ok (.istore 4, 2) := by decide +kernel
theorem dM_looksFor_106 : decode mM_looksFor.2.1 106 = .ok (.iload 4, 2) := by decide +kernel
theorem dM_looksFor_108 : decode mM_looksFor.2.1 108 = .ok (.ifCond .eq 61, 3) := by decide +kernel
theorem dM_looksFor_111 : decode mM_looksFor.2.1 111 = .ok (.aload_n 0, 1) := by decide +kernel
theorem dM_looksFor_112 : decode mM_looksFor.2.1 112 = .ok (.getfield 143, 3) := by decide +kernel
theorem dM_looksFor_115 : decode mM_looksFor.2.1 115 = .ok (.bipush (-9), 2) := by decide +kernel
theorem dM_looksFor_117 : decode mM_looksFor.2.1 117 = .ok (.if_icmp .eq 18, 3) := by decide +kernel
theorem dM_looksFor_120 : decode mM_looksFor.2.1 120 = .ok (.aload_n 0, 1) := by decide +kernel
theorem dM_looksFor_121 : decode mM_looksFor.2.1 121 = .ok (.getfield 42, 3) := by decide +kernel
theorem dM_looksFor_124 : decode mM_looksFor.2.1 124 = .ok (.iload_n 2, 1) := by decide +kernel
theorem dM_looksFor_125 : decode mM_looksFor.2.1 125 = .ok (.iaload, 1) := by decide +kernel
theorem dM_looksFor_126 : decode mM_looksFor.2.1 126 = .ok (.iconst 1, 1) := by decide +kernel
theorem dM_looksFor_127 : decode mM_looksFor.2.1 127 = .ok (.iadd, 1) := by decide +kernel
theorem dM_looksFor_128 : decode mM_looksFor.2.1 128 = .ok (.aload_n 0, 1) := by decide +kernel
theorem dM_looksFor_129 : decode mM_looksFor.2.1 129 = .ok (.getfield 149, 3) := by decide +kernel
theorem dM_looksFor_132 : decode mM_looksFor.2.1 132 = .ok (.if_icmp .ge 37, 3) := by decide +kernel
theorem dM_looksFor_135 : decode mM_looksFor.2.1 135 = .ok (.aload_n 0, 1) := by decide +kernel
theorem dM_looksFor_136 : decode mM_looksFor.2.1 136 = .ok (.iload_n 1, 1) := by decide +kernel
theorem dM_looksFor_137 : decode mM_looksFor.2.1 137 = .ok (.putfield 143, 3) := by decide +kernel
theorem dM_looksFor_140 : decode mM_looksFor.2.1 140 = .ok (.aload_n 0, 1) := by decide +kernel
theorem dM_looksFor_141 : decode mM_looksFor.2.1 141 = .ok (.iload_n 2, 1) := by decide +kernel
theorem dM_looksFor_142 : decode mM_looksFor.2.1 142 = .ok (.putfield 152, 3) := by decide +kernel
theorem dM_looksFor_145 : decode mM_looksFor.2.1 145 = .ok (.aload_n 0, 1) := by decide +kernel
theorem dM_looksFor_146 : decode mM_looksFor.2.1 146 = .ok (.aload_n 0, 1) := by decide +kernel
theorem dM_looksFor_147 : decode mM_looksFor.2.1 147 = .ok (.getfield 42, 3) := by decide +kernel
theorem dM_looksFor_150 : decode mM_looksFor.2.1 150 = .ok (.iload_n 2, 1) := by decide +kernel
theorem dM_looksFor_151 : decode mM_looksFor.2.1 151 = .ok (.iaload, 1) := by decide +kernel
theorem dM_looksFor_152 : decode mM_looksFor.2.1 152 = .ok (.iconst 1, 1) := by decide +kernel
theorem dM_looksFor_153 : decode mM_looksFor.2.1 153 = .ok (.iadd, 1) := by decide +kernel
theorem dM_looksFor_154 : decode mM_looksFor.2.1 154 = .ok (.putfield 149, 3) := by decide +kernel
theorem dM_looksFor_157 : decode mM_looksFor.2.1 157 = .ok (.aload_n 0, 1) := by decide +kernel
theorem dM_looksFor_158 : decode mM_looksFor.2.1 158 = .ok (.aload_n 0, 1) := by decide +kernel
theorem dM_looksFor_159 : decode mM_looksFor.2.1 159 = .ok (.getfield 45, 3) := by decide +kernel
theorem dM_looksFor_162 : decode mM_looksFor.2.1 162 = .ok (.iload_n 2, 1) := by decide +kernel
theorem dM_looksFor_163 : decode mM_looksFor.2.1 163 = .ok (.iaload, 1) := by decide +kernel
theorem dM_looksFor_164 : decode mM_looksFor.2.1 164 = .ok (.iconst 1, 1) := by decide +kernel
theorem dM_looksFor_165 : decode mM_looksFor.2.1 165 = .ok (.iadd, 1) := by decide +kernel
theorem dM_looksFor_166 : decode mM_looksFor.2.1 166 = .ok (.putfield 155, 3) := by decide +kernel
theorem dM_looksFor_169 : decode mM_looksFor.2.1 169 = .ok (.iinc 2 1, 3) := by decide +kernel
theorem dM_looksFor_172 : decode mM_looksFor.2.1 172 = .ok (.goto (-170), 3) := by decide +kernel
theorem dM_looksFor_175 : decode mM_looksFor.2.1 175 = .ok (.return_, 1) := by decide +kernel
theorem dM_handTo_0 : decode mM_handTo.2.1 0 = .ok (.iconst 0, 1) := by decide +kernel
theorem dM_handTo_1 : decode mM_handTo.2.1 1 = .ok (.istore_n 3, 1) := by decide +kernel
theorem dM_handTo_2 : decode mM_handTo.2.1 2 = .ok (.aload_n 0, 1) := by decide +kernel
theorem dM_handTo_3 : decode mM_handTo.2.1 3 = .ok (.aload_n 0, 1) := by decide +kernel
theorem dM_handTo_4 : decode mM_handTo.2.1 4 = .ok (.getfield 16, 3) := by decide +kernel
theorem dM_handTo_7 : decode mM_handTo.2.1 7 = .ok (.bipush 108, 2) := by decide +kernel
theorem dM_handTo_9 : decode mM_handTo.2.1 9 = .ok (.iaload, 1) := by decide +kernel
theorem dM_handTo_10 : decode mM_handTo.2.1 10 = .ok (.iload_n 3, 1) := by decide +kernel
theorem dM_handTo_11 : decode mM_handTo.2.1 11 = .ok (.invokevirtual 109, 3) := by decide +kernel
theorem dM_handTo_14 : decode mM_handTo.2.1 14 = .ok (.bipush (-9), 2) := by decide +kernel
theorem dM_handTo_16 : decode mM_handTo.2.1 16 = .ok (.if_icmp .eq 21, 3) := by decide +kernel
theorem dM_handTo_19 : decode mM_handTo.2.1 19 = .ok (.aload_n 1, 1) := by decide +kernel
theorem dM_handTo_20 : decode mM_handTo.2.1 20 = .ok (.aload_n 0, 1) := by decide +kernel
theorem dM_handTo_21 : decode mM_handTo.2.1 21 = .ok (.aload_n 0, 1) := by decide +kernel
theorem dM_handTo_22 : decode mM_handTo.2.1 22 = .ok (.getfield 16, 3) := by decide +kernel
theorem dM_handTo_25 : decode mM_handTo.2.1 25 = .ok (.bipush 108, 2) := by decide +kernel
theorem dM_handTo_27 : decode mM_handTo.2.1 27 = .ok (.iaload, 1) := by decide +kernel
theorem dM_handTo_28 : decode mM_handTo.2.1 28 = .ok (.iload_n 3, 1) := by decide +kernel
theorem dM_handTo_29 : decode mM_handTo.2.1 29 = .ok (.invokevirtual 109, 3) := by decide +kernel
theorem dM_handTo_32 : decode mM_handTo.2.1 32 = .ok (.iaload, 1) := by decide +kernel
theorem dM_handTo_33 : decode mM_handTo.2.1 33 = .ok (.iload_n 2, 1) := by decide +kernel
theorem dM_handTo_34 : decode mM_handTo.2.1 34 = .ok (.if_icmp .eq 9, 3) := by decide +kernel
theorem dM_handTo_37 : decode mM_handTo.2.1 37 = .ok (.iinc 3 1, 3) := by decide +kernel
theorem dM_handTo_40 : decode mM_handTo.2.1 40 = .ok (.goto (-38), 3) := by decide +kernel
theorem dM_handTo_43 : decode mM_handTo.2.1 43 = .ok (.iload_n 3, 1) := by decide +kernel
theorem dM_handTo_44 : decode mM_handTo.2.1 44 = .ok (.ireturn, 1) := by decide +kernel
theorem dM_handOn_0 : decode mM_handOn.2.1 0 = .ok (.iconst 0, 1) := by decide +kernel
theorem dM_handOn_1 : decode mM_handOn.2.1 1 = .ok (.istore_n 2, 1) := by decide +kernel
theorem dM_handOn_2 : decode mM_handOn.2.1 2 = .ok (.aload_n 0, 1) := by decide +kernel
theorem dM_handOn_3 : decode mM_handOn.2.1 3 = .ok (.aload_n 0, 1) := by decide +kernel
theorem dM_handOn_4 : decode mM_handOn.2.1 4 = .ok (.getfield 16, 3) := by decide +kernel
theorem dM_handOn_7 : decode mM_handOn.2.1 7 = .ok (.bipush 108, 2) := by decide +kernel
theorem dM_handOn_9 : decode mM_handOn.2.1 9 = .ok (.iaload, 1) := by decide +kernel
theorem dM_handOn_10 : decode mM_handOn.2.1 10 = .ok (.iload_n 2, 1) := by decide +kernel
theorem dM_handOn_11 : decode mM_handOn.2.1 11 = .ok (.invokevirtual 109, 3) := by decide +kernel
theorem dM_handOn_14 : decode mM_handOn.2.1 14 = .ok (.iload_n 1, 1) := by decide +kernel
theorem dM_handOn_15 : decode mM_handOn.2.1 15 = .ok (.if_icmp .eq 9, 3) := by decide +kernel
theorem dM_handOn_18 : decode mM_handOn.2.1 18 = .ok (.iinc 2 1, 3) := by decide +kernel
theorem dM_handOn_21 : decode mM_handOn.2.1 21 = .ok (.goto (-19), 3) := by decide +kernel
theorem dM_handOn_24 : decode mM_handOn.2.1 24 = .ok (.iload_n 2, 1) := by decide +kernel
theorem dM_handOn_25 : decode mM_handOn.2.1 25 = .ok (.ireturn, 1) := by decide +kernel
theorem dM_acts_0 : decode mM_acts.2.1 0 = .ok (.aload_n 0, 1) := by decide +kernel
theorem dM_acts_1 : decode mM_acts.2.1 1 = .ok (.getfield 16, 3) := by decide +kernel
theorem dM_acts_4 : decode mM_acts.2.1 4 = .ok (.bipush 108, 2) := by decide +kernel
theorem dM_acts_6 : decode mM_acts.2.1 6 = .ok (.iaload, 1) := by decide +kernel
theorem dM_acts_7 : decode mM_acts.2.1 7 = .ok (.aload_n 0, 1) := by decide +kernel
theorem dM_acts_8 : decode mM_acts.2.1 8 = .ok (.getfield 61, 3) := by decide +kernel
theorem dM_acts_11 : decode mM_acts.2.1 11 = .ok (.if_icmp .ne 79, 3) := by decide +kernel
theorem dM_acts_14 : decode mM_acts.2.1 14 = .ok (.aload_n 0, 1) := by decide +kernel
theorem dM_acts_15 : decode mM_acts.2.1 15 = .ok (.getfield 16, 3) := by decide +kernel
theorem dM_acts_18 : decode mM_acts.2.1 18 = .ok (.bipush 110, 2) := by decide +kernel
theorem dM_acts_20 : decode mM_acts.2.1 20 = .ok (.iaload, 1) := by decide +kernel
theorem dM_acts_21 : decode mM_acts.2.1 21 = .ok (.aload_n 0, 1) := by decide +kernel
theorem dM_acts_22 : decode mM_acts.2.1 22 = .ok (.getfield 16, 3) := by decide +kernel
theorem dM_acts_25 : decode mM_acts.2.1 25 = .ok (.bipush 112, 2) := by decide +kernel
theorem dM_acts_27 : decode mM_acts.2.1 27 = .ok (.iaload, 1) := by decide +kernel
theorem dM_acts_28 : decode mM_acts.2.1 28 = .ok (.if_icmp .ge 62, 3) := by decide +kernel
theorem dM_acts_31 : decode mM_acts.2.1 31 = .ok (.aload_n 0, 1) := by decide +kernel
theorem dM_acts_32 : decode mM_acts.2.1 32 = .ok (.getfield 16, 3) := by decide +kernel
theorem dM_acts_35 : decode mM_acts.2.1 35 = .ok (.bipush 110, 2) := by decide +kernel
theorem dM_acts_37 : decode mM_acts.2.1 37 = .ok (.aload_n 0, 1) := by decide +kernel
theorem dM_acts_38 : decode mM_acts.2.1 38 = .ok (.getfield 16, 3) := by decide +kernel
theorem dM_acts_41 : decode mM_acts.2.1 41 = .ok (.bipush 110, 2) := by decide +kernel
theorem dM_acts_43 : decode mM_acts.2.1 43 = .ok (.iaload, 1) := by decide +kernel
theorem dM_acts_44 : decode mM_acts.2.1 44 = .ok (.aload_n 0, 1) := by decide +kernel
theorem dM_acts_45 : decode mM_acts.2.1 45 = .ok (.getfield 16, 3) := by decide +kernel
theorem dM_acts_48 : decode mM_acts.2.1 48 = .ok (.bipush 113, 2) := by decide +kernel
theorem dM_acts_50 : decode mM_acts.2.1 50 = .ok (.iaload, 1) := by decide +kernel
theorem dM_acts_51 : decode mM_acts.2.1 51 = .ok (.iadd, 1) := by decide +kernel
theorem dM_acts_52 : decode mM_acts.2.1 52 = .ok (.aload_n 0, 1) := by decide +kernel
theorem dM_acts_53 : decode mM_acts.2.1 53 = .ok (.getfield 16, 3) := by decide +kernel
theorem dM_acts_56 : decode mM_acts.2.1 56 = .ok (.bipush 112, 2) := by decide +kernel
theorem dM_acts_58 : decode mM_acts.2.1 58 = .ok (.iaload, 1) := by decide +kernel
theorem dM_acts_59 : decode mM_acts.2.1 59 = .ok (.if_icmp .le 13, 3) := by decide +kernel
theorem dM_acts_62 : decode mM_acts.2.1 62 = .ok (.aload_n 0, 1) := by decide +kernel
theorem dM_acts_63 : decode mM_acts.2.1 63 = .ok (.getfield 16, 3) := by decide +kernel
theorem dM_acts_66 : decode mM_acts.2.1 66 = .ok (.bipush 112, 2) := by decide +kernel
theorem dM_acts_68 : decode mM_acts.2.1 68 = .ok (.iaload, 1) := by decide +kernel
theorem dM_acts_69 : decode mM_acts.2.1 69 = .ok (.goto 18, 3) := by decide +kernel
theorem dM_acts_72 : decode mM_acts.2.1 72 = .ok (.aload_n 0, 1) := by decide +kernel
theorem dM_acts_73 : decode mM_acts.2.1 73 = .ok (.getfield 16, 3) := by decide +kernel
theorem dM_acts_76 : decode mM_acts.2.1 76 = .ok (.bipush 110, 2) := by decide +kernel
theorem dM_acts_78 : decode mM_acts.2.1 78 = .ok (.iaload, 1) := by decide +kernel
theorem dM_acts_79 : decode mM_acts.2.1 79 = .ok (.aload_n 0, 1) := by decide +kernel
theorem dM_acts_80 : decode mM_acts.2.1 80 = .ok (.getfield 16, 3) := by decide +kernel
theorem dM_acts_83 : decode mM_acts.2.1 83 = .ok (.bipush 113, 2) := by decide +kernel
theorem dM_acts_85 : decode mM_acts.2.1 85 = .ok (.iaload, 1) := by decide +kernel
theorem dM_acts_86 : decode mM_acts.2.1 86 = .ok (.iadd, 1) := by decide +kernel
theorem dM_acts_87 : decode mM_acts.2.1 87 = .ok (.iastore, 1) := by decide +kernel
theorem dM_acts_88 : decode mM_acts.2.1 88 = .ok (.iconst 0, 1) := by decide +kernel
theorem dM_acts_89 : decode mM_acts.2.1 89 = .ok (.ireturn, 1) := by decide +kernel
theorem dM_acts_90 : decode mM_acts.2.1 90 = .ok (.aload_n 0, 1) := by decide +kernel
theorem dM_acts_91 : decode mM_acts.2.1 91 = .ok (.getfield 16, 3) := by decide +kernel
theorem dM_acts_94 : decode mM_acts.2.1 94 = .ok (.bipush 110, 2) := by decide +kernel
theorem dM_acts_96 : decode mM_acts.2.1 96 = .ok (.iaload, 1) := by decide +kernel
theorem dM_acts_97 : decode mM_acts.2.1 97 = .ok (.ifCond .ne 5, 3) := by decide +kernel
theorem dM_acts_100 : decode mM_acts.2.1 100 = .ok (.iconst 0, 1) := by decide +kernel
theorem dM_acts_101 : decode mM_acts.2.1 101 = .ok (.ireturn, 1) := by decide +kernel
theorem dM_acts_102 : decode mM_acts.2.1 102 = .ok (.aload_n 0, 1) := by decide +kernel
theorem dM_acts_103 : decode mM_acts.2.1 103 = .ok (.invokevirtual 158, 3) := by decide +kernel
theorem dM_acts_106 : decode mM_acts.2.1 106 = .ok (.aload_n 0, 1) := by decide +kernel
theorem dM_acts_107 : decode mM_acts.2.1 107 = .ok (.getfield 143, 3) := by decide +kernel
theorem dM_acts_110 : decode mM_acts.2.1 110 = .ok (.bipush (-9), 2) := by decide +kernel
theorem dM_acts_112 : decode mM_acts.2.1 112 = .ok (.if_icmp .eq 32, 3) := by decide +kernel
theorem dM_acts_115 : decode mM_acts.2.1 115 = .ok (.aload_n 0, 1) := by decide +kernel
theorem dM_acts_116 : decode mM_acts.2.1 116 = .ok (.getfield 152, 3) := by decide +kernel
theorem dM_acts_119 : decode mM_acts.2.1 119 = .ok (.aload_n 0, 1) := by decide +kernel
theorem dM_acts_120 : decode mM_acts.2.1 120 = .ok (.getfield 16, 3) := by decide +kernel
theorem dM_acts_123 : decode mM_acts.2.1 123 = .ok (.bipush 108, 2) := by decide +kernel
theorem dM_acts_125 : decode mM_acts.2.1 125 = .ok (.iaload, 1) := by decide +kernel
theorem dM_acts_126 : decode mM_acts.2.1 126 = .ok (.if_icmp .ne 18, 3) := by decide +kernel
theorem dM_acts_129 : decode mM_acts.2.1 129 = .ok (.aload_n 0, 1) := by decide +kernel
theorem dM_acts_130 : decode mM_acts.2.1 130 = .ok (.aload_n 0, 1) := by decide +kernel
theorem dM_acts_131 : decode mM_acts.2.1 131 = .ok (.aload_n 0, 1) := by decide +kernel
theorem dM_acts_132 : decode mM_acts.2.1 132 = .ok (.getfield 143, 3) := by decide +kernel
theorem dM_acts_135 : decode mM_acts.2.1 135 = .ok (.invokevirtual 161, 3) := by decide +kernel
theorem dM_acts_138 : decode mM_acts.2.1 138 = .ok (.invokevirtual 130, 3) := by decide +kernel
theorem dM_acts_141 : decode mM_acts.2.1 141 = .ok (.pop, 1) := by decide +kernel
theorem dM_acts_142 : decode mM_acts.2.1 142 = .ok (.iconst 1, 1) := by decide +kernel
theorem dM_acts_143 : decode mM_acts.2.1 143 = .ok (.ireturn, 1) := by decide +kernel
theorem dM_acts_144 : decode mM_acts.2.1 144 = .ok (.aload_n 0, 1) := by decide +kernel
theorem dM_acts_145 : decode mM_acts.2.1 145 = .ok (.getfield 143, 3) := by decide +kernel
theorem dM_acts_148 : decode mM_acts.2.1 148 = .ok (.bipush (-9), 2) := by decide +kernel
theorem dM_acts_150 : decode mM_acts.2.1 150 = .ok (.if_icmp .eq 45, 3) := by decide +kernel
theorem dM_acts_153 : decode mM_acts.2.1 153 = .ok (.aload_n 0, 1) := by decide +kernel
theorem dM_acts_154 : decode mM_acts.2.1 154 = .ok (.aload_n 0, 1) := by decide +kernel
theorem dM_acts_155 : decode mM_acts.2.1 155 = .ok (.getfield 152, 3) := by decide +kernel
theorem dM_acts_158 : decode mM_acts.2.1 158 = .ok (.iconst 1, 1) := by decide +kernel
theorem dM_acts_159 : decode mM_acts.2.1 159 = .ok (.aload_n 0, 1) := by decide +kernel
theorem dM_acts_160 : decode mM_acts.2.1 160 = .ok (.getfield 48, 3) := by decide +kernel
theorem dM_acts_163 : decode mM_acts.2.1 163 = .ok (.invokevirtual 139, 3) := by decide +kernel
theorem dM_acts_166 : decode mM_acts.2.1 166 = .ok (.aload_n 0, 1) := by decide +kernel
theorem dM_acts_167 : decode mM_acts.2.1 167 = .ok (.aload_n 0, 1) := by decide +kernel
theorem dM_acts_168 : decode mM_acts.2.1 168 = .ok (.aload_n 0, 1) := by decide +kernel
theorem dM_acts_169 : decode mM_acts.2.1 169 = .ok (.getfield 48, 3) := by decide +kernel
theorem dM_acts_172 : decode mM_acts.2.1 172 = .ok (.aload_n 0, 1) := by decide +kernel
theorem dM_acts_173 : decode mM_acts.2.1 173 = .ok (.getfield 48, 3) := by decide +kernel
theorem dM_acts_176 : decode mM_acts.2.1 176 = .ok (.aload_n 0, 1) := by decide +kernel
theorem dM_acts_177 : decode mM_acts.2.1 177 = .ok (.getfield 16, 3) := by decide +kernel
theorem dM_acts_180 : decode mM_acts.2.1 180 = .ok (.bipush 108, 2) := by decide +kernel
theorem dM_acts_182 : decode mM_acts.2.1 182 = .ok (.iaload, 1) := by decide +kernel
theorem dM_acts_183 : decode mM_acts.2.1 183 = .ok (.iaload, 1) := by decide +kernel
theorem dM_acts_184 : decode mM_acts.2.1 184 = .ok (.iconst 1, 1) := by decide +kernel
theorem dM_acts_185 : decode mM_acts.2.1 185 = .ok (.isub, 1) := by decide +kernel
theorem dM_acts_186 : decode mM_acts.2.1 186 = .ok (.invokevirtual 164, 3) := by decide +kernel
theorem dM_acts_189 : decode mM_acts.2.1 189 = .ok (.invokevirtual 130, 3) := by decide +kernel
theorem dM_acts_192 : decode mM_acts.2.1 192 = .ok (.pop, 1) := by decide +kernel
theorem dM_acts_193 : decode mM_acts.2.1 193 = .ok (.iconst 1, 1) := by decide +kernel
theorem dM_acts_194 : decode mM_acts.2.1 194 = .ok (.ireturn, 1) := by decide +kernel
theorem dM_acts_195 : decode mM_acts.2.1 195 = .ok (.aload_n 0, 1) := by decide +kernel
theorem dM_acts_196 : decode mM_acts.2.1 196 = .ok (.getfield 16, 3) := by decide +kernel
theorem dM_acts_199 : decode mM_acts.2.1 199 = .ok (.bipush 108, 2) := by decide +kernel
theorem dM_acts_201 : decode mM_acts.2.1 201 = .ok (.iaload, 1) := by decide +kernel
theorem dM_acts_202 : decode mM_acts.2.1 202 = .ok (.aload_n 0, 1) := by decide +kernel
theorem dM_acts_203 : decode mM_acts.2.1 203 = .ok (.getfield 61, 3) := by decide +kernel
theorem dM_acts_206 : decode mM_acts.2.1 206 = .ok (.if_icmp .eq 49, 3) := by decide +kernel
theorem dM_acts_209 : decode mM_acts.2.1 209 = .ok (.aload_n 0, 1) := by decide +kernel
theorem dM_acts_210 : decode mM_acts.2.1 210 = .ok (.getfield 45, 3) := by decide +kernel
theorem dM_acts_213 : decode mM_acts.2.1 213 = .ok (.aload_n 0, 1) := by decide +kernel
theorem dM_acts_214 : decode mM_acts.2.1 214 = .ok (.getfield 16, 3) := by decide +kernel
theorem dM_acts_217 : decode mM_acts.2.1 217 = .ok (.bipush 108, 2) := by decide +kernel
theorem dM_acts_219 : decode mM_acts.2.1 219 = .ok (.iaload, 1) := by decide +kernel
theorem dM_acts_220 : decode mM_acts.2.1 220 = .ok (.iaload, 1) := by decide +kernel
theorem dM_acts_221 : decode mM_acts.2.1 221 = .ok (.bipush (-9), 2) := by decide +kernel
theorem dM_acts_223 : decode mM_acts.2.1 223 = .ok (.if_icmp .eq 32, 3) := by decide +kernel
theorem dM_acts_226 : decode mM_acts.2.1 226 = .ok (.aload_n 0, 1) := by decide +kernel
theorem dM_acts_227 : decode mM_acts.2.1 227 = .ok (.aload_n 0, 1) := by decide +kernel
theorem dM_acts_228 : decode mM_acts.2.1 228 = .ok (.aload_n 0, 1) := by decide +kernel
theorem dM_acts_229 : decode mM_acts.2.1 229 = .ok (.getfield 45, 3) := by decide +kernel
theorem dM_acts_232 : decode mM_acts.2.1 232 = .ok (.aload_n 0, 1) := by decide +kernel
theorem dM_acts_233 : decode mM_acts.2.1 233 = .ok (.getfield 45, 3) := by decide +kernel
theorem dM_acts_236 : decode mM_acts.2.1 236 = .ok (.aload_n 0, 1) := by decide +kernel
theorem dM_acts_237 : decode mM_acts.2.1 237 = .ok (.getfield 16, 3) := by decide +kernel
theorem dM_acts_240 : decode mM_acts.2.1 240 = .ok (.bipush 108, 2) := by decide +kernel
theorem dM_acts_242 : decode mM_acts.2.1 242 = .ok (.iaload, 1) := by decide +kernel
theorem dM_acts_243 : decode mM_acts.2.1 243 = .ok (.iaload, 1) := by decide +kernel
theorem dM_acts_244 : decode mM_acts.2.1 244 = .ok (.iconst 1, 1) := by decide +kernel
theorem dM_acts_245 : decode mM_acts.2.1 245 = .ok (.isub, 1) := by decide +kernel
theorem dM_acts_246 : decode mM_acts.2.1 246 = .ok (.invokevirtual 164, 3) := by decide +kernel
theorem dM_acts_249 : decode mM_acts.2.1 249 = .ok (.invokevirtual 130, 3) := by decide +kernel
theorem dM_acts_252 : decode mM_acts.2.1 252 = .ok (.pop, 1) := by decide +kernel
theorem dM_acts_253 : decode mM_acts.2.1 253 = .ok (.iconst 1, 1) := by decide +kernel
theorem dM_acts_254 : decode mM_acts.2.1 254 = .ok (.ireturn, 1) := by decide +kernel
theorem dM_acts_255 : decode mM_acts.2.1 255 = .ok (.iconst 0, 1) := by decide +kernel
theorem dM_acts_256 : decode mM_acts.2.1 256 = .ok (.ireturn, 1) := by decide +kernel
theorem dM_goes_0 : decode mM_goes.2.1 0 = .ok (.iload_n 1, 1) := by decide +kernel
theorem dM_goes_1 : decode mM_goes.2.1 1 = .ok (.iconst 1, 1) := by decide +kernel
theorem dM_goes_2 : decode mM_goes.2.1 2 = .ok (.bipush 60, 2) := by decide +kernel
theorem dM_goes_4 : decode mM_goes.2.1 4 = .ok (.invokestatic 67, 3) := by decide +kernel
theorem dM_goes_7 : decode mM_goes.2.1 7 = .ok (.ifCond .ne 5, 3) := by decide +kernel
theorem dM_goes_10 : decode mM_goes.2.1 10 = .ok (.iconst (-1), 1) := by decide +kernel
theorem dM_goes_11 : decode mM_goes.2.1 11 = .ok (.ireturn, 1) := by decide +kernel
theorem dM_goes_12 : decode mM_goes.2.1 12 = .ok (.aload_n 0, 1) := by decide +kernel
theorem dM_goes_13 : decode mM_goes.2.1 13 = .ok (.getfield 16, 3) := by decide +kernel
theorem dM_goes_16 : decode mM_goes.2.1 16 = .ok (.bipush 111, 2) := by decide +kernel
theorem dM_goes_18 : decode mM_goes.2.1 18 = .ok (.iaload, 1) := by decide +kernel
theorem dM_goes_19 : decode mM_goes.2.1 19 = .ok (.iconst 1, 1) := by decide +kernel
theorem dM_goes_20 : decode mM_goes.2.1 20 = .ok (.if_icmp .ne 6, 3) := by decide +kernel
theorem dM_goes_23 : decode mM_goes.2.1 23 = .ok (.bipush (-2), 2) := by decide +kernel
theorem dM_goes_25 : decode mM_goes.2.1 25 = .ok (.ireturn, 1) := by decide +kernel
theorem dM_goes_26 : decode mM_goes.2.1 26 = .ok (.aload_n 0, 1) := by decide +kernel
theorem dM_goes_27 : decode mM_goes.2.1 27 = .ok (.invokevirtual 97, 3) := by decide +kernel
theorem dM_goes_30 : decode mM_goes.2.1 30 = .ok (.iconst 0, 1) := by decide +kernel
theorem dM_goes_31 : decode mM_goes.2.1 31 = .ok (.istore_n 2, 1) := by decide +kernel
theorem dM_goes_32 : decode mM_goes.2.1 32 = .ok (.iconst 0, 1) := by decide +kernel
theorem dM_goes_33 : decode mM_goes.2.1 33 = .ok (.istore_n 3, 1) := by decide +kernel
theorem dM_goes_34 : decode mM_goes.2.1 34 = .ok (.iload_n 3, 1) := by decide +kernel
theorem dM_goes_35 : decode mM_goes.2.1 35 = .ok (.iload_n 1, 1) := by decide +kernel
theorem dM_goes_36 : decode mM_goes.2.1 36 = .ok (.if_icmp .ge 24, 3) := by decide +kernel
theorem dM_goes_39 : decode mM_goes.2.1 39 = .ok (.iload_n 2, 1) := by decide +kernel
theorem dM_goes_40 : decode mM_goes.2.1 40 = .ok (.aload_n 0, 1) := by decide +kernel
theorem dM_goes_41 : decode mM_goes.2.1 41 = .ok (.invokevirtual 168, 3) := by decide +kernel
theorem dM_goes_44 : decode mM_goes.2.1 44 = .ok (.ifCond .eq 7, 3) := by decide +kernel
theorem dM_goes_47 : decode mM_goes.2.1 47 = .ok (.iconst 1, 1) := by decide +kernel
theorem dM_goes_48 : decode mM_goes.2.1 48 = .ok (.goto 4, 3) := by decide +kernel
theorem dM_goes_51 : decode mM_goes.2.1 51 = .ok (.iconst 0, 1) := by decide +kernel
theorem dM_goes_52 : decode mM_goes.2.1 52 = .ok (.iadd, 1) := by decide +kernel
theorem dM_goes_53 : decode mM_goes.2.1 53 = .ok (.istore_n 2, 1) := by decide +kernel
theorem dM_goes_54 : decode mM_goes.2.1 54 = .ok (.iinc 3 1, 3) := by decide +kernel
theorem dM_goes_57 : decode mM_goes.2.1 57 = .ok (.goto (-23), 3) := by decide +kernel
theorem dM_goes_60 : decode mM_goes.2.1 60 = .ok (.iload_n 2, 1) := by decide +kernel
theorem dM_goes_61 : decode mM_goes.2.1 61 = .ok (.ireturn, 1) := by decide +kernel
theorem dM_undo_0 : decode mM_undo.2.1 0 = .ok (.aload_n 0, 1) := by decide +kernel
theorem dM_undo_1 : decode mM_undo.2.1 1 = .ok (.getfield 64, 3) := by decide +kernel
theorem dM_undo_4 : decode mM_undo.2.1 4 = .ok (.ifCond .ne 6, 3) := by decide +kernel
theorem dM_undo_7 : decode mM_undo.2.1 7 = .ok (.bipush (-2), 2) := by decide +kernel
theorem dM_undo_9 : decode mM_undo.2.1 9 = .ok (.ireturn, 1) := by decide +kernel
theorem dM_undo_10 : decode mM_undo.2.1 10 = .ok (.aload_n 0, 1) := by decide +kernel
theorem dM_undo_11 : decode mM_undo.2.1 11 = .ok (.dup, 1) := by decide +kernel
theorem dM_undo_12 : decode mM_undo.2.1 12 = .ok (.getfield 64, 3) := by decide +kernel
theorem dM_undo_15 : decode mM_undo.2.1 15 = .ok (.iconst 1, 1) := by decide +kernel
theorem dM_undo_16 : decode mM_undo.2.1 16 = .ok (.isub, 1) := by decide +kernel
theorem dM_undo_17 : decode mM_undo.2.1 17 = .ok (.putfield 64, 3) := by decide +kernel
theorem dM_undo_20 : decode mM_undo.2.1 20 = .ok (.iconst 0, 1) := by decide +kernel
theorem dM_undo_21 : decode mM_undo.2.1 21 = .ok (.istore_n 1, 1) := by decide +kernel
theorem dM_undo_22 : decode mM_undo.2.1 22 = .ok (.iload_n 1, 1) := by decide +kernel
theorem dM_undo_23 : decode mM_undo.2.1 23 = .ok (.bipush 114, 2) := by decide +kernel
theorem dM_undo_25 : decode mM_undo.2.1 25 = .ok (.if_icmp .ge 29, 3) := by decide +kernel
theorem dM_undo_28 : decode mM_undo.2.1 28 = .ok (.aload_n 0, 1) := by decide +kernel
theorem dM_undo_29 : decode mM_undo.2.1 29 = .ok (.getfield 16, 3) := by decide +kernel
theorem dM_undo_32 : decode mM_undo.2.1 32 = .ok (.iload_n 1, 1) := by decide +kernel
theorem dM_undo_33 : decode mM_undo.2.1 33 = .ok (.aload_n 0, 1) := by decide +kernel
theorem dM_undo_34 : decode mM_undo.2.1 34 = .ok (.getfield 20, 3) := by decide +kernel
theorem dM_undo_37 : decode mM_undo.2.1 37 = .ok (.bipush 114, 2) := by decide +kernel
theorem dM_undo_39 : decode mM_undo.2.1 39 = .ok (.aload_n 0, 1) := by decide +kernel
theorem dM_undo_40 : decode mM_undo.2.1 40 = .ok (.getfield 64, 3) := by decide +kernel
theorem dM_undo_43 : decode mM_undo.2.1 43 = .ok (.imul, 1) := by decide +kernel
theorem dM_undo_44 : decode mM_undo.2.1 44 = .ok (.iload_n 1, 1) := by decide +kernel
theorem dM_undo_45 : decode mM_undo.2.1 45 = .ok (.iadd, 1) := by decide +kernel
theorem dM_undo_46 : decode mM_undo.2.1 46 = .ok (.iaload, 1) := by decide +kernel
theorem dM_undo_47 : decode mM_undo.2.1 47 = .ok (.iastore, 1) := by decide +kernel
theorem dM_undo_48 : decode mM_undo.2.1 48 = .ok (.iinc 1 1, 3) := by decide +kernel
theorem dM_undo_51 : decode mM_undo.2.1 51 = .ok (.goto (-29), 3) := by decide +kernel
theorem dM_undo_54 : decode mM_undo.2.1 54 = .ok (.aload_n 0, 1) := by decide +kernel
theorem dM_undo_55 : decode mM_undo.2.1 55 = .ok (.getfield 64, 3) := by decide +kernel
theorem dM_undo_58 : decode mM_undo.2.1 58 = .ok (.ireturn, 1) := by decide +kernel
theorem dM_manyKnown_0 : decode mM_manyKnown.2.1 0 = .ok (.iconst 0, 1) := by decide +kernel
theorem dM_manyKnown_1 : decode mM_manyKnown.2.1 1 = .ok (.istore_n 2, 1) := by decide +kernel
theorem dM_manyKnown_2 : decode mM_manyKnown.2.1 2 = .ok (.iconst 0, 1) := by decide +kernel
theorem dM_manyKnown_3 : decode mM_manyKnown.2.1 3 = .ok (.istore_n 3, 1) := by decide +kernel
theorem dM_manyKnown_4 : decode mM_manyKnown.2.1 4 = .ok (.iload_n 3, 1) := by decide +kernel
theorem dM_manyKnown_5 : decode mM_manyKnown.2.1 5 = .ok (.aload_n 0, 1) := by decide +kernel
theorem dM_manyKnown_6 : decode mM_manyKnown.2.1 6 = .ok (.invokevirtual 57, 3) := by decide +kernel
theorem dM_manyKnown_9 : decode mM_manyKnown.2.1 9 = .ok (.if_icmp .ge 30, 3) := by decide +kernel
theorem dM_manyKnown_12 : decode mM_manyKnown.2.1 12 = .ok (.iload_n 2, 1) := by decide +kernel
theorem dM_manyKnown_13 : decode mM_manyKnown.2.1 13 = .ok (.aload_n 0, 1) := by decide +kernel
theorem dM_manyKnown_14 : decode mM_manyKnown.2.1 14 = .ok (.getfield 16, 3) := by decide +kernel
theorem dM_manyKnown_17 : decode mM_manyKnown.2.1 17 = .ok (.bipush 36, 2) := by decide +kernel
theorem dM_manyKnown_19 : decode mM_manyKnown.2.1 19 = .ok (.iload_n 3, 1) := by decide +kernel
theorem dM_manyKnown_20 : decode mM_manyKnown.2.1 20 = .ok (.iadd, 1) := by decide +kernel
theorem dM_manyKnown_21 : decode mM_manyKnown.2.1 21 = .ok (.iaload, 1) := by decide +kernel
theorem dM_manyKnown_22 : decode mM_manyKnown.2.1 22 = .ok (.iload_n 1, 1) := by decide +kernel
theorem dM_manyKnown_23 : decode mM_manyKnown.2.1 23 = .ok (.if_icmp .ne 7, 3) := by decide +kernel
theorem dM_manyKnown_26 : decode mM_manyKnown.2.1 26 = .ok (.iconst 1, 1) := by decide +kernel
theorem dM_manyKnown_27 : decode mM_manyKnown.2.1 27 = .ok (.goto 4, 3) := by decide +kernel
theorem dM_manyKnown_30 : decode mM_manyKnown.2.1 30 = .ok (.iconst 0, 1) := by decide +kernel
theorem dM_manyKnown_31 : decode mM_manyKnown.2.1 31 = .ok (.iadd, 1) := by decide +kernel
theorem dM_manyKnown_32 : decode mM_manyKnown.2.1 32 = .ok (.istore_n 2, 1) := by decide +kernel
theorem dM_manyKnown_33 : decode mM_manyKnown.2.1 33 = .ok (.iinc 3 1, 3) := by decide +kernel
theorem dM_manyKnown_36 : decode mM_manyKnown.2.1 36 = .ok (.goto (-32), 3) := by decide +kernel
theorem dM_manyKnown_39 : decode mM_manyKnown.2.1 39 = .ok (.iload_n 2, 1) := by decide +kernel
theorem dM_manyKnown_40 : decode mM_manyKnown.2.1 40 = .ok (.ireturn, 1) := by decide +kernel
theorem dM_robot_0 : decode mM_robot.2.1 0 = .ok (.iload_n 1, 1) := by decide +kernel
theorem dM_robot_1 : decode mM_robot.2.1 1 = .ok (.iconst 0, 1) := by decide +kernel
theorem dM_robot_2 : decode mM_robot.2.1 2 = .ok (.iconst 5, 1) := by decide +kernel
theorem dM_robot_3 : decode mM_robot.2.1 3 = .ok (.invokestatic 67, 3) := by decide +kernel
theorem dM_robot_6 : decode mM_robot.2.1 6 = .ok (.ifCond .ne 5, 3) := by decide +kernel
theorem dM_robot_9 : decode mM_robot.2.1 9 = .ok (.iconst (-1), 1) := by decide +kernel
theorem dM_robot_10 : decode mM_robot.2.1 10 = .ok (.ireturn, 1) := by decide +kernel
theorem dM_robot_11 : decode mM_robot.2.1 11 = .ok (.iload_n 1, 1) := by decide +kernel
theorem dM_robot_12 : decode mM_robot.2.1 12 = .ok (.iconst 4, 1) := by decide +kernel
theorem dM_robot_13 : decode mM_robot.2.1 13 = .ok (.if_icmp .ge 15, 3) := by decide +kernel
theorem dM_robot_16 : decode mM_robot.2.1 16 = .ok (.aload_n 0, 1) := by decide +kernel
theorem dM_robot_17 : decode mM_robot.2.1 17 = .ok (.getfield 16, 3) := by decide +kernel
theorem dM_robot_20 : decode mM_robot.2.1 20 = .ok (.bipush 108, 2) := by decide +kernel
theorem dM_robot_22 : decode mM_robot.2.1 22 = .ok (.iload_n 1, 1) := by decide +kernel
theorem dM_robot_23 : decode mM_robot.2.1 23 = .ok (.iadd, 1) := by decide +kernel
theorem dM_robot_24 : decode mM_robot.2.1 24 = .ok (.iaload, 1) := by decide +kernel
theorem dM_robot_25 : decode mM_robot.2.1 25 = .ok (.goto 10, 3) := by decide +kernel
theorem dM_robot_28 : decode mM_robot.2.1 28 = .ok (.aload_n 0, 1) := by decide +kernel
theorem dM_robot_29 : decode mM_robot.2.1 29 = .ok (.iload_n 1, 1) := by decide +kernel
theorem dM_robot_30 : decode mM_robot.2.1 30 = .ok (.iconst 3, 1) := by decide +kernel
theorem dM_robot_31 : decode mM_robot.2.1 31 = .ok (.isub, 1) := by decide +kernel
theorem dM_robot_32 : decode mM_robot.2.1 32 = .ok (.invokevirtual 172, 3) := by decide +kernel
theorem dM_robot_35 : decode mM_robot.2.1 35 = .ok (.ireturn, 1) := by decide +kernel
theorem dM_knows_0 : decode mM_knows.2.1 0 = .ok (.aload_n 0, 1) := by decide +kernel
theorem dM_knows_1 : decode mM_knows.2.1 1 = .ok (.iload_n 1, 1) := by decide +kernel
theorem dM_knows_2 : decode mM_knows.2.1 2 = .ok (.invokevirtual 94, 3) := by decide +kernel
theorem dM_knows_5 : decode mM_knows.2.1 5 = .ok (.ifCond .eq 15, 3) := by decide +kernel
theorem dM_knows_8 : decode mM_knows.2.1 8 = .ok (.aload_n 0, 1) := by decide +kernel
theorem dM_knows_9 : decode mM_knows.2.1 9 = .ok (.getfield 16, 3) := by decide +kernel
theorem dM_knows_12 : decode mM_knows.2.1 12 = .ok (.bipush 36, 2) := by decide +kernel
theorem dM_knows_14 : decode mM_knows.2.1 14 = .ok (.iload_n 1, 1) := by decide +kernel
theorem dM_knows_15 : decode mM_knows.2.1 15 = .ok (.iadd, 1) := by decide +kernel
theorem dM_knows_16 : decode mM_knows.2.1 16 = .ok (.iaload, 1) := by decide +kernel
theorem dM_knows_17 : decode mM_knows.2.1 17 = .ok (.goto 4, 3) := by decide +kernel
theorem dM_knows_20 : decode mM_knows.2.1 20 = .ok (.iconst (-1), 1) := by decide +kernel
theorem dM_knows_21 : decode mM_knows.2.1 21 = .ok (.ireturn, 1) := by decide +kernel
theorem dM_home_0 : decode mM_home.2.1 0 = .ok (.aload_n 0, 1) := by decide +kernel
theorem dM_home_1 : decode mM_home.2.1 1 = .ok (.iload_n 1, 1) := by decide +kernel
theorem dM_home_2 : decode mM_home.2.1 2 = .ok (.invokevirtual 94, 3) := by decide +kernel
theorem dM_home_5 : decode mM_home.2.1 5 = .ok (.ifCond .ne 5, 3) := by decide +kernel
theorem dM_home_8 : decode mM_home.2.1 8 = .ok (.iconst (-1), 1) := by decide +kernel
theorem dM_home_9 : decode mM_home.2.1 9 = .ok (.ireturn, 1) := by decide +kernel
theorem dM_home_10 : decode mM_home.2.1 10 = .ok (.aload_n 0, 1) := by decide +kernel
theorem dM_home_11 : decode mM_home.2.1 11 = .ok (.aload_n 0, 1) := by decide +kernel
theorem dM_home_12 : decode mM_home.2.1 12 = .ok (.getfield 61, 3) := by decide +kernel
theorem dM_home_15 : decode mM_home.2.1 15 = .ok (.iconst 1, 1) := by decide +kernel
theorem dM_home_16 : decode mM_home.2.1 16 = .ok (.aload_n 0, 1) := by decide +kernel
theorem dM_home_17 : decode mM_home.2.1 17 = .ok (.getfield 45, 3) := by decide +kernel
theorem dM_home_20 : decode mM_home.2.1 20 = .ok (.invokevirtual 139, 3) := by decide +kernel
theorem dM_home_23 : decode mM_home.2.1 23 = .ok (.aload_n 0, 1) := by decide +kernel
theorem dM_home_24 : decode mM_home.2.1 24 = .ok (.getfield 45, 3) := by decide +kernel
theorem dM_home_27 : decode mM_home.2.1 27 = .ok (.iload_n 1, 1) := by decide +kernel
theorem dM_home_28 : decode mM_home.2.1 28 = .ok (.iaload, 1) := by decide +kernel
theorem dM_home_29 : decode mM_home.2.1 29 = .ok (.ireturn, 1) := by decide +kernel
theorem dM_target_0 : decode mM_target.2.1 0 = .ok (.iload_n 1, 1) := by decide +kernel
theorem dM_target_1 : decode mM_target.2.1 1 = .ok (.iconst 0, 1) := by decide +kernel
theorem dM_target_2 : decode mM_target.2.1 2 = .ok (.iconst 3, 1) := by decide +kernel
theorem dM_target_3 : decode mM_target.2.1 3 = .ok (.invokestatic 67, 3) := by decide +kernel
theorem dM_target_6 : decode mM_target.2.1 6 = .ok (.ifCond .ne 5, 3) := by decide +kernel
theorem dM_target_9 : decode mM_target.2.1 9 = .ok (.iconst (-1), 1) := by decide +kernel
theorem dM_target_10 : decode mM_target.2.1 10 = .ok (.ireturn, 1) := by decide +kernel
theorem dM_target_11 : decode mM_target.2.1 11 = .ok (.aload_n 0, 1) := by decide +kernel
theorem dM_target_12 : decode mM_target.2.1 12 = .ok (.invokevirtual 158, 3) := by decide +kernel
theorem dM_target_15 : decode mM_target.2.1 15 = .ok (.aload_n 0, 1) := by decide +kernel
theorem dM_target_16 : decode mM_target.2.1 16 = .ok (.getfield 143, 3) := by decide +kernel
theorem dM_target_19 : decode mM_target.2.1 19 = .ok (.bipush (-9), 2) := by decide +kernel
theorem dM_target_21 : decode mM_target.2.1 21 = .ok (.if_icmp .ne 6, 3) := by decide +kernel
theorem dM_target_24 : decode mM_target.2.1 24 = .ok (.bipush (-9), 2) := by decide +kernel
theorem dM_target_26 : decode mM_target.2.1 26 = .ok (.ireturn, 1) := by decide +kernel
theorem dM_target_27 : decode mM_target.2.1 27 = .ok (.iload_n 1, 1) := by decide +kernel
theorem dM_target_28 : decode mM_target.2.1 28 = .ok (.ifCond .ne 10, 3) := by decide +kernel
theorem dM_target_31 : decode mM_target.2.1 31 = .ok (.aload_n 0, 1) := by decide +kernel
theorem dM_target_32 : decode mM_target.2.1 32 = .ok (.getfield 143, 3) := by decide +kernel
theorem dM_target_35 : decode mM_target.2.1 35 = .ok (.goto 31, 3) := by decide +kernel
theorem dM_target_38 : decode mM_target.2.1 38 = .ok (.iload_n 1, 1) := by decide +kernel
theorem dM_target_39 : decode mM_target.2.1 39 = .ok (.iconst 1, 1) := by decide +kernel
theorem dM_target_40 : decode mM_target.2.1 40 = .ok (.if_icmp .ne 10, 3) := by decide +kernel
theorem dM_target_43 : decode mM_target.2.1 43 = .ok (.aload_n 0, 1) := by decide +kernel
theorem dM_target_44 : decode mM_target.2.1 44 = .ok (.getfield 149, 3) := by decide +kernel
theorem dM_target_47 : decode mM_target.2.1 47 = .ok (.goto 19, 3) := by decide +kernel
theorem dM_target_50 : decode mM_target.2.1 50 = .ok (.iload_n 1, 1) := by decide +kernel
theorem dM_target_51 : decode mM_target.2.1 51 = .ok (.iconst 2, 1) := by decide +kernel
theorem dM_target_52 : decode mM_target.2.1 52 = .ok (.if_icmp .ne 10, 3) := by decide +kernel
theorem dM_target_55 : decode mM_target.2.1 55 = .ok (.aload_n 0, 1) := by decide +kernel
theorem dM_target_56 : decode mM_target.2.1 56 = .ok (.getfield 155, 3) := by decide +kernel
theorem dM_target_59 : decode mM_target.2.1 59 = .ok (.goto 7, 3) := by decide +kernel
theorem dM_target_62 : decode mM_target.2.1 62 = .ok (.aload_n 0, 1) := by decide +kernel
theorem dM_target_63 : decode mM_target.2.1 63 = .ok (.getfield 152, 3) := by decide +kernel
theorem dM_target_66 : decode mM_target.2.1 66 = .ok (.ireturn, 1) := by decide +kernel
theorem dM_place_0 : decode mM_place.2.1 0 = .ok (.iload_n 1, 1) := by decide +kernel
theorem dM_place_1 : decode mM_place.2.1 1 = .ok (.iconst (-1), 1) := by decide +kernel
theorem dM_place_2 : decode mM_place.2.1 2 = .ok (.if_icmp .ge 5, 3) := by decide +kernel
theorem dM_place_5 : decode mM_place.2.1 5 = .ok (.iconst (-1), 1) := by decide +kernel
theorem dM_place_6 : decode mM_place.2.1 6 = .ok (.ireturn, 1) := by decide +kernel
theorem dM_place_7 : decode mM_place.2.1 7 = .ok (.aload_n 0, 1) := by decide +kernel
theorem dM_place_8 : decode mM_place.2.1 8 = .ok (.getfield 16, 3) := by decide +kernel
theorem dM_place_11 : decode mM_place.2.1 11 = .ok (.bipush 111, 2) := by decide +kernel
theorem dM_place_13 : decode mM_place.2.1 13 = .ok (.iaload, 1) := by decide +kernel
theorem dM_place_14 : decode mM_place.2.1 14 = .ok (.ifCond .ne 39, 3) := by decide +kernel
theorem dM_place_17 : decode mM_place.2.1 17 = .ok (.iload_n 1, 1) := by decide +kernel
theorem dM_place_18 : decode mM_place.2.1 18 = .ok (.iconst (-1), 1) := by decide +kernel
theorem dM_place_19 : decode mM_place.2.1 19 = .ok (.if_icmp .ne 7, 3) := by decide +kernel
theorem dM_place_22 : decode mM_place.2.1 22 = .ok (.iconst 1, 1) := by decide +kernel
theorem dM_place_23 : decode mM_place.2.1 23 = .ok (.goto 29, 3) := by decide +kernel
theorem dM_place_26 : decode mM_place.2.1 26 = .ok (.iload_n 1, 1) := by decide +kernel
theorem dM_place_27 : decode mM_place.2.1 27 = .ok (.ifCond .ne 23, 3) := by decide +kernel
theorem dM_place_30 : decode mM_place.2.1 30 = .ok (.iconst 4, 1) := by decide +kernel
theorem dM_place_31 : decode mM_place.2.1 31 = .ok (.aload_n 0, 1) := by decide +kernel
theorem dM_place_32 : decode mM_place.2.1 32 = .ok (.getfield 16, 3) := by decide +kernel
theorem dM_place_35 : decode mM_place.2.1 35 = .ok (.bipush 108, 2) := by decide +kernel
theorem dM_place_37 : decode mM_place.2.1 37 = .ok (.iaload, 1) := by decide +kernel
theorem dM_place_38 : decode mM_place.2.1 38 = .ok (.imul, 1) := by decide +kernel
theorem dM_place_39 : decode mM_place.2.1 39 = .ok (.aload_n 0, 1) := by decide +kernel
theorem dM_place_40 : decode mM_place.2.1 40 = .ok (.getfield 16, 3) := by decide +kernel
theorem dM_place_43 : decode mM_place.2.1 43 = .ok (.bipush 109, 2) := by decide +kernel
theorem dM_place_45 : decode mM_place.2.1 45 = .ok (.iaload, 1) := by decide +kernel
theorem dM_place_46 : decode mM_place.2.1 46 = .ok (.iadd, 1) := by decide +kernel
theorem dM_place_47 : decode mM_place.2.1 47 = .ok (.goto 5, 3) := by decide +kernel
theorem dM_place_50 : decode mM_place.2.1 50 = .ok (.bipush (-9), 2) := by decide +kernel
theorem dM_place_52 : decode mM_place.2.1 52 = .ok (.ireturn, 1) := by decide +kernel
theorem dM_place_53 : decode mM_place.2.1 53 = .ok (.iload_n 1, 1) := by decide +kernel
theorem dM_place_54 : decode mM_place.2.1 54 = .ok (.iconst (-1), 1) := by decide +kernel
theorem dM_place_55 : decode mM_place.2.1 55 = .ok (.if_icmp .ne 8, 3) := by decide +kernel
theorem dM_place_58 : decode mM_place.2.1 58 = .ok (.aload_n 0, 1) := by decide +kernel
theorem dM_place_59 : decode mM_place.2.1 59 = .ok (.invokevirtual 106, 3) := by decide +kernel
theorem dM_place_62 : decode mM_place.2.1 62 = .ok (.ireturn, 1) := by decide +kernel
theorem dM_place_63 : decode mM_place.2.1 63 = .ok (.iload_n 1, 1) := by decide +kernel
theorem dM_place_64 : decode mM_place.2.1 64 = .ok (.istore_n 2, 1) := by decide +kernel
theorem dM_place_65 : decode mM_place.2.1 65 = .ok (.iconst 0, 1) := by decide +kernel
theorem dM_place_66 : decode mM_place.2.1 66 = .ok (.istore_n 3, 1) := by decide +kernel
theorem dM_place_67 : decode mM_place.2.1 67 = .ok (.iload_n 3, 1) := by decide +kernel
theorem dM_place_68 : decode mM_place.2.1 68 = .ok (.iconst 4, 1) := by decide +kernel
theorem dM_place_69 : decode mM_place.2.1 69 = .ok (.aload_n 0, 1) := by decide +kernel
theorem dM_place_70 : decode mM_place.2.1 70 = .ok (.invokevirtual 57, 3) := by decide +kernel
theorem dM_place_73 : decode mM_place.2.1 73 = .ok (.imul, 1) := by decide +kernel
theorem dM_place_74 : decode mM_place.2.1 74 = .ok (.if_icmp .ge 39, 3) := by decide +kernel
theorem dM_place_77 : decode mM_place.2.1 77 = .ok (.aload_n 0, 1) := by decide +kernel
theorem dM_place_78 : decode mM_place.2.1 78 = .ok (.getfield 16, 3) := by decide +kernel
theorem dM_place_81 : decode mM_place.2.1 81 = .ok (.bipush 72, 2) := by decide +kernel
theorem dM_place_83 : decode mM_place.2.1 83 = .ok (.iload_n 3, 1) := by decide +kernel
theorem dM_place_84 : decode mM_place.2.1 84 = .ok (.iconst 4, 1) := by decide +kernel
theorem dM_place_85 : decode mM_place.2.1 85 = .ok (.idiv, 1) := by decide +kernel
theorem dM_place_86 : decode mM_place.2.1 86 = .ok (.iadd, 1) := by decide +kernel
theorem dM_place_87 : decode mM_place.2.1 87 = .ok (.iaload, 1) := by decide +kernel
theorem dM_place_88 : decode mM_place.2.1 88 = .ok (.iload_n 3, 1) := by decide +kernel
theorem dM_place_89 : decode mM_place.2.1 89 = .ok (.iconst 4, 1) := by decide +kernel
theorem dM_place_90 : decode mM_place.2.1 90 = .ok (.irem, 1) := by decide +kernel
theorem dM_place_91 : decode mM_place.2.1 91 = .ok (.ishr, 1) := by decide +kernel
theorem dM_place_92 : decode mM_place.2.1 92 = .ok (.iconst 1, 1) := by decide +kernel
theorem dM_place_93 : decode mM_place.2.1 93 = .ok (.iand, 1) := by decide +kernel
theorem dM_place_94 : decode mM_place.2.1 94 = .ok (.iconst 1, 1) := by decide +kernel
theorem dM_place_95 : decode mM_place.2.1 95 = .ok (.if_icmp .ne 12, 3) := by decide +kernel
theorem dM_place_98 : decode mM_place.2.1 98 = .ok (.iload_n 2, 1) := by decide +kernel
theorem dM_place_99 : decode mM_place.2.1 99 = .ok (.ifCond .ne 5, 3) := by decide +kernel
theorem dM_place_102 : decode mM_place.2.1 102 = .ok (.iload_n 3, 1) := by decide +kernel
theorem dM_place_103 : decode mM_place.2.1 103 = .ok (.ireturn, 1) := by decide +kernel
theorem dM_place_104 : decode mM_place.2.1 104 = .ok (.iinc 2 (-1), 3) := by decide +kernel
theorem dM_place_107 : decode mM_place.2.1 107 = .ok (.iinc 3 1, 3) := by decide +kernel
theorem dM_place_110 : decode mM_place.2.1 110 = .ok (.goto (-43), 3) := by decide +kernel
theorem dM_place_113 : decode mM_place.2.1 113 = .ok (.bipush (-9), 2) := by decide +kernel
theorem dM_place_115 : decode mM_place.2.1 115 = .ok (.ireturn, 1) := by decide +kernel
theorem dM_isFirst_0 : decode mM_isFirst.2.1 0 = .ok (.aload_n 0, 1) := by decide +kernel
theorem dM_isFirst_1 : decode mM_isFirst.2.1 1 = .ok (.iload_n 1, 1) := by decide +kernel
theorem dM_isFirst_2 : decode mM_isFirst.2.1 2 = .ok (.invokevirtual 103, 3) := by decide +kernel
theorem dM_isFirst_5 : decode mM_isFirst.2.1 5 = .ok (.ifCond .eq 26, 3) := by decide +kernel
theorem dM_isFirst_8 : decode mM_isFirst.2.1 8 = .ok (.iload_n 1, 1) := by decide +kernel
theorem dM_isFirst_9 : decode mM_isFirst.2.1 9 = .ok (.aload_n 0, 1) := by decide +kernel
theorem dM_isFirst_10 : decode mM_isFirst.2.1 10 = .ok (.getfield 7, 3) := by decide +kernel
theorem dM_isFirst_13 : decode mM_isFirst.2.1 13 = .ok (.irem, 1) := by decide +kernel
theorem dM_isFirst_14 : decode mM_isFirst.2.1 14 = .ok (.ifCond .eq 13, 3) := by decide +kernel
theorem dM_isFirst_17 : decode mM_isFirst.2.1 17 = .ok (.aload_n 0, 1) := by decide +kernel
theorem dM_isFirst_18 : decode mM_isFirst.2.1 18 = .ok (.iload_n 1, 1) := by decide +kernel
theorem dM_isFirst_19 : decode mM_isFirst.2.1 19 = .ok (.iconst 1, 1) := by decide +kernel
theorem dM_isFirst_20 : decode mM_isFirst.2.1 20 = .ok (.isub, 1) := by decide +kernel
theorem dM_isFirst_21 : decode mM_isFirst.2.1 21 = .ok (.invokevirtual 103, 3) := by decide +kernel
theorem dM_isFirst_24 : decode mM_isFirst.2.1 24 = .ok (.ifCond .ne 7, 3) := by decide +kernel
theorem dM_isFirst_27 : decode mM_isFirst.2.1 27 = .ok (.iconst 1, 1) := by decide +kernel
theorem dM_isFirst_28 : decode mM_isFirst.2.1 28 = .ok (.goto 4, 3) := by decide +kernel
theorem dM_isFirst_31 : decode mM_isFirst.2.1 31 = .ok (.iconst 0, 1) := by decide +kernel
theorem dM_isFirst_32 : decode mM_isFirst.2.1 32 = .ok (.ireturn, 1) := by decide +kernel
theorem dM_longOf_0 : decode mM_longOf.2.1 0 = .ok (.iconst 1, 1) := by decide +kernel
theorem dM_longOf_1 : decode mM_longOf.2.1 1 = .ok (.istore_n 2, 1) := by decide +kernel
theorem dM_longOf_2 : decode mM_longOf.2.1 2 = .ok (.iload_n 1, 1) := by decide +kernel
theorem dM_longOf_3 : decode mM_longOf.2.1 3 = .ok (.iload_n 2, 1) := by decide +kernel
theorem dM_longOf_4 : decode mM_longOf.2.1 4 = .ok (.iadd, 1) := by decide +kernel
theorem dM_longOf_5 : decode mM_longOf.2.1 5 = .ok (.aload_n 0, 1) := by decide +kernel
theorem dM_longOf_6 : decode mM_longOf.2.1 6 = .ok (.getfield 7, 3) := by decide +kernel
theorem dM_longOf_9 : decode mM_longOf.2.1 9 = .ok (.irem, 1) := by decide +kernel
theorem dM_longOf_10 : decode mM_longOf.2.1 10 = .ok (.ifCond .eq 19, 3) := by decide +kernel
theorem dM_longOf_13 : decode mM_longOf.2.1 13 = .ok (.aload_n 0, 1) := by decide +kernel
theorem dM_longOf_14 : decode mM_longOf.2.1 14 = .ok (.iload_n 1, 1) := by decide +kernel
theorem dM_longOf_15 : decode mM_longOf.2.1 15 = .ok (.iload_n 2, 1) := by decide +kernel
theorem dM_longOf_16 : decode mM_longOf.2.1 16 = .ok (.iadd, 1) := by decide +kernel
theorem dM_longOf_17 : decode mM_longOf.2.1 17 = .ok (.invokevirtual 103, 3) := by decide +kernel
theorem dM_longOf_20 : decode mM_longOf.2.1 20 = .ok (.ifCond .eq 9, 3) := by decide +kernel
theorem dM_longOf_23 : decode mM_longOf.2.1 23 = .ok (.iinc 2 1, 3) := by decide +kernel
theorem dM_longOf_26 : decode mM_longOf.2.1 26 = .ok (.goto (-24), 3) := by decide +kernel
theorem dM_longOf_29 : decode mM_longOf.2.1 29 = .ok (.iload_n 2, 1) := by decide +kernel
theorem dM_longOf_30 : decode mM_longOf.2.1 30 = .ok (.ireturn, 1) := by decide +kernel
theorem dM_lane_0 : decode mM_lane.2.1 0 = .ok (.iload_n 1, 1) := by decide +kernel
theorem dM_lane_1 : decode mM_lane.2.1 1 = .ok (.iconst (-1), 1) := by decide +kernel
theorem dM_lane_2 : decode mM_lane.2.1 2 = .ok (.if_icmp .lt 12, 3) := by decide +kernel
theorem dM_lane_5 : decode mM_lane.2.1 5 = .ok (.iload_n 2, 1) := by decide +kernel
theorem dM_lane_6 : decode mM_lane.2.1 6 = .ok (.iconst 0, 1) := by decide +kernel
theorem dM_lane_7 : decode mM_lane.2.1 7 = .ok (.iconst 1, 1) := by decide +kernel
theorem dM_lane_8 : decode mM_lane.2.1 8 = .ok (.invokestatic 67, 3) := by decide +kernel
theorem dM_lane_11 : decode mM_lane.2.1 11 = .ok (.ifCond .ne 5, 3) := by decide +kernel
theorem dM_lane_14 : decode mM_lane.2.1 14 = .ok (.iconst (-1), 1) := by decide +kernel
theorem dM_lane_15 : decode mM_lane.2.1 15 = .ok (.ireturn, 1) := by decide +kernel
theorem dM_lane_16 : decode mM_lane.2.1 16 = .ok (.iconst 0, 1) := by decide +kernel
theorem dM_lane_17 : decode mM_lane.2.1 17 = .ok (.istore_n 3, 1) := by decide +kernel
theorem dM_lane_18 : decode mM_lane.2.1 18 = .ok (.iconst 0, 1) := by decide +kernel
theorem dM_lane_19 : decode mM_lane.2.1 19 = .ok (.istore 4, 2) := by decide +kernel
theorem dM_lane_21 : decode mM_lane.2.1 21 = .ok (.iload 4, 2) := by decide +kernel
theorem dM_lane_23 : decode mM_lane.2.1 23 = .ok (.aload_n 0, 1) := by decide +kernel
theorem dM_lane_24 : decode mM_lane.2.1 24 = .ok (.invokevirtual 57, 3) := by decide +kernel
theorem dM_lane_27 : decode mM_lane.2.1 27 = .ok (.if_icmp .ge 42, 3) := by decide +kernel
theorem dM_lane_30 : decode mM_lane.2.1 30 = .ok (.aload_n 0, 1) := by decide +kernel
theorem dM_lane_31 : decode mM_lane.2.1 31 = .ok (.iload 4, 2) := by decide +kernel
theorem dM_lane_33 : decode mM_lane.2.1 33 = .ok (.invokevirtual 175, 3) := by decide +kernel
theorem dM_lane_36 : decode mM_lane.2.1 36 = .ok (.ifCond .eq 27, 3) := by decide +kernel
theorem dM_lane_39 : decode mM_lane.2.1 39 = .ok (.iload_n 3, 1) := by decide +kernel
theorem dM_lane_40 : decode mM_lane.2.1 40 = .ok (.iload_n 1, 1) := by decide +kernel
theorem dM_lane_41 : decode mM_lane.2.1 41 = .ok (.if_icmp .ne 19, 3) := by decide +kernel
theorem dM_lane_44 : decode mM_lane.2.1 44 = .ok (.iload_n 2, 1) := by decide +kernel
theorem dM_lane_45 : decode mM_lane.2.1 45 = .ok (.ifCond .ne 8, 3) := by decide +kernel
theorem dM_lane_48 : decode mM_lane.2.1 48 = .ok (.iload 4, 2) := by decide +kernel
theorem dM_lane_50 : decode mM_lane.2.1 50 = .ok (.goto 9, 3) := by decide +kernel
theorem dM_lane_53 : decode mM_lane.2.1 53 = .ok (.aload_n 0, 1) := by decide +kernel
theorem dM_lane_54 : decode mM_lane.2.1 54 = .ok (.iload 4, 2) := by decide +kernel
theorem dM_lane_56 : decode mM_lane.2.1 56 = .ok (.invokevirtual 178, 3) := by decide +kernel
theorem dM_lane_59 : decode mM_lane.2.1 59 = .ok (.ireturn, 1) := by decide +kernel
theorem dM_lane_60 : decode mM_lane.2.1 60 = .ok (.iinc 3 1, 3) := by decide +kernel
theorem dM_lane_63 : decode mM_lane.2.1 63 = .ok (.iinc 4 1, 3) := by decide +kernel
theorem dM_lane_66 : decode mM_lane.2.1 66 = .ok (.goto (-45), 3) := by decide +kernel
theorem dM_lane_69 : decode mM_lane.2.1 69 = .ok (.iload_n 1, 1) := by decide +kernel
theorem dM_lane_70 : decode mM_lane.2.1 70 = .ok (.iconst (-1), 1) := by decide +kernel
theorem dM_lane_71 : decode mM_lane.2.1 71 = .ok (.if_icmp .ne 7, 3) := by decide +kernel
theorem dM_lane_74 : decode mM_lane.2.1 74 = .ok (.iload_n 3, 1) := by decide +kernel
theorem dM_lane_75 : decode mM_lane.2.1 75 = .ok (.goto 5, 3) := by decide +kernel
theorem dM_lane_78 : decode mM_lane.2.1 78 = .ok (.bipush (-9), 2) := by decide +kernel
theorem dM_lane_80 : decode mM_lane.2.1 80 = .ok (.ireturn, 1) := by decide +kernel
theorem dM_isOfRoom_0 : decode mM_isOfRoom.2.1 0 = .ok (.aload_n 0, 1) := by decide +kernel
theorem dM_isOfRoom_1 : decode mM_isOfRoom.2.1 1 = .ok (.getfield 16, 3) := by decide +kernel
theorem dM_isOfRoom_4 : decode mM_isOfRoom.2.1 4 = .ok (.iload_n 1, 1) := by decide +kernel
theorem dM_isOfRoom_5 : decode mM_isOfRoom.2.1 5 = .ok (.iaload, 1) := by decide +kernel
theorem dM_isOfRoom_6 : decode mM_isOfRoom.2.1 6 = .ok (.ifCond .eq 14, 3) := by decide +kernel
theorem dM_isOfRoom_9 : decode mM_isOfRoom.2.1 9 = .ok (.aload_n 0, 1) := by decide +kernel
theorem dM_isOfRoom_10 : decode mM_isOfRoom.2.1 10 = .ok (.getfield 16, 3) := by decide +kernel
theorem dM_isOfRoom_13 : decode mM_isOfRoom.2.1 13 = .ok (.iload_n 1, 1) := by decide +kernel
theorem dM_isOfRoom_14 : decode mM_isOfRoom.2.1 14 = .ok (.iaload, 1) := by decide +kernel
theorem dM_isOfRoom_15 : decode mM_isOfRoom.2.1 15 = .ok (.bipush 6, 2) := by decide +kernel
theorem dM_isOfRoom_17 : decode mM_isOfRoom.2.1 17 = .ok (.if_icmp .ne 7, 3) := by decide +kernel
theorem dM_isOfRoom_20 : decode mM_isOfRoom.2.1 20 = .ok (.iconst 1, 1) := by decide +kernel
theorem dM_isOfRoom_21 : decode mM_isOfRoom.2.1 21 = .ok (.goto 4, 3) := by decide +kernel
theorem dM_isOfRoom_24 : decode mM_isOfRoom.2.1 24 = .ok (.iconst 0, 1) := by decide +kernel
theorem dM_isOfRoom_25 : decode mM_isOfRoom.2.1 25 = .ok (.ireturn, 1) := by decide +kernel
theorem dM_laysRooms_0 : decode mM_laysRooms.2.1 0 = .ok (.iconst 0, 1) := by decide +kernel
theorem dM_laysRooms_1 : decode mM_laysRooms.2.1 1 = .ok (.istore_n 1, 1) := by decide +kernel
theorem dM_laysRooms_2 : decode mM_laysRooms.2.1 2 = .ok (.iload_n 1, 1) := by decide +kernel
theorem dM_laysRooms_3 : decode mM_laysRooms.2.1 3 = .ok (.aload_n 0, 1) := by decide +kernel
theorem dM_laysRooms_4 : decode mM_laysRooms.2.1 4 = .ok (.invokevirtual 57, 3) := by decide +kernel
theorem dM_laysRooms_7 : decode mM_laysRooms.2.1 7 = .ok (.if_icmp .ge 17, 3) := by decide +kernel
theorem dM_laysRooms_10 : decode mM_laysRooms.2.1 10 = .ok (.aload_n 0, 1) := by decide +kernel
theorem dM_laysRooms_11 : decode mM_laysRooms.2.1 11 = .ok (.getfield 51, 3) := by decide +kernel
theorem dM_laysRooms_14 : decode mM_laysRooms.2.1 14 = .ok (.iload_n 1, 1) := by decide +kernel
theorem dM_laysRooms_15 : decode mM_laysRooms.2.1 15 = .ok (.bipush (-9), 2) := by decide +kernel
theorem dM_laysRooms_17 : decode mM_laysRooms.2.1 17 = .ok (.iastore, 1) := by decide +kernel
theorem dM_laysRooms_18 : decode mM_laysRooms.2.1 18 = .ok (.iinc 1 1, 3) := by decide +kernel
theorem dM_laysRooms_21 : decode mM_laysRooms.2.1 21 = .ok (.goto (-19), 3) := by decide +kernel
theorem dM_laysRooms_24 : decode mM_laysRooms.2.1 24 = .ok (.iconst 0, 1) := by decide +kernel
theorem dM_laysRooms_25 : decode mM_laysRooms.2.1 25 = .ok (.istore_n 1, 1) := by decide +kernel
theorem dM_laysRooms_26 : decode mM_laysRooms.2.1 26 = .ok (.iconst 0, 1) := by decide +kernel
theorem dM_laysRooms_27 : decode mM_laysRooms.2.1 27 = .ok (.istore_n 2, 1) := by decide +kernel
theorem dM_laysRooms_28 : decode mM_laysRooms.2.1 28 = .ok (.iload_n 2, 1) := by decide +kernel
theorem dM_laysRooms_29 : decode mM_laysRooms.2.1 29 = .ok (.aload_n 0, 1) := by decide +kernel
theorem dM_laysRooms_30 : decode mM_laysRooms.2.1 30 = .ok (.invokevirtual 57, 3) := by decide +kernel
theorem dM_laysRooms_33 : decode mM_laysRooms.2.1 33 = .ok (.if_icmp .ge 134, 3) := by decide +kernel
theorem dM_laysRooms_36 : decode mM_laysRooms.2.1 36 = .ok (.aload_n 0, 1) := by decide +kernel
theorem dM_laysRooms_37 : decode mM_laysRooms.2.1 37 = .ok (.iload_n 2, 1) := by decide +kernel
theorem dM_laysRooms_38 : decode mM_laysRooms.2.1 38 = .ok (.invokevirtual 181, 3) := by decide +kernel
theorem dM_laysRooms_41 : decode mM_laysRooms.2.1 41 = .ok (.ifCond .eq 120, 3) := by decide +kernel
theorem dM_laysRooms_44 : decode mM_laysRooms.2.1 44 = .ok (.aload_n 0, 1) := by decide +kernel
theorem dM_laysRooms_45 : decode mM_laysRooms.2.1 45 = .ok (.getfield 51, 3) := by decide +kernel
theorem dM_laysRooms_48 : decode mM_laysRooms.2.1 48 = .ok (.iload_n 2, 1) := by decide +kernel
theorem dM_laysRooms_49 : decode mM_laysRooms.2.1 49 = .ok (.iaload, 1) := by decide +kernel
theorem dM_laysRooms_50 : decode mM_laysRooms.2.1 50 = .ok (.bipush (-9), 2) := by decide +kernel
theorem dM_laysRooms_52 : decode mM_laysRooms.2.1 52 = .ok (.if_icmp .ne 109, 3) := by decide +kernel
theorem dM_laysRooms_55 : decode mM_laysRooms.2.1 55 = .ok (.aload_n 0, 1) := by decide +kernel
theorem dM_laysRooms_56 : decode mM_laysRooms.2.1 56 = .ok (.getfield 51, 3) := by decide +kernel
theorem dM_laysRooms_59 : decode mM_laysRooms.2.1 59 = .ok (.iload_n 2, 1) := by decide +kernel
theorem dM_laysRooms_60 : decode mM_laysRooms.2.1 60 = .ok (.iload_n 1, 1) := by decide +kernel
theorem dM_laysRooms_61 : decode mM_laysRooms.2.1 61 = .ok (.iastore, 1) := by decide +kernel
theorem dM_laysRooms_62 : decode mM_laysRooms.2.1 62 = .ok (.iconst 1, 1) := by decide +kernel
theorem dM_laysRooms_63 : decode mM_laysRooms.2.1 63 = .ok (.istore_n 3, 1) := by decide +kernel
theorem dM_laysRooms_64 : decode mM_laysRooms.2.1 64 = .ok (.iload_n 3, 1) := by decide +kernel
theorem dM_laysRooms_65 : decode mM_laysRooms.2.1 65 = .ok (.ifCond .eq 93, 3) := by decide +kernel
theorem dM_laysRooms_68 : decode mM_laysRooms.2.1 68 = .ok (.iconst 0, 1) := by decide +kernel
theorem dM_laysRooms_69 : decode mM_laysRooms.2.1 69 = .ok (.istore_n 3, 1) := by decide +kernel
theorem dM_laysRooms_70 : decode mM_laysRooms.2.1 70 = .ok (.iconst 0, 1) := by decide +kernel
theorem dM_laysRooms_71 : decode mM_laysRooms.2.1 71 = .ok (.istore 4, 2) := by decide +kernel
theorem dM_laysRooms_73 : decode mM_laysRooms.2.1 73 = .ok (.iload 4, 2) := by decide +kernel
theorem dM_laysRooms_75 : decode mM_laysRooms.2.1 75 = .ok (.iconst 4, 1) := by decide +kernel
theorem dM_laysRooms_76 : decode mM_laysRooms.2.1 76 = .ok (.aload_n 0, 1) := by decide +kernel
theorem dM_laysRooms_77 : decode mM_laysRooms.2.1 77 = .ok (.invokevirtual 57, 3) := by decide +kernel
theorem dM_laysRooms_80 : decode mM_laysRooms.2.1 80 = .ok (.imul, 1) := by decide +kernel
theorem dM_laysRooms_81 : decode mM_laysRooms.2.1 81 = .ok (.if_icmp .ge 74, 3) := by decide +kernel
theorem dM_laysRooms_84 : decode mM_laysRooms.2.1 84 = .ok (.aload_n 0, 1) := by decide +kernel
theorem dM_laysRooms_85 : decode mM_laysRooms.2.1 85 = .ok (.iload 4, 2) := by decide +kernel
theorem dM_laysRooms_87 : decode mM_laysRooms.2.1 87 = .ok (.iconst 4, 1) := by decide +kernel
theorem dM_laysRooms_88 : decode mM_laysRooms.2.1 88 = .ok (.idiv, 1) := by decide +kernel
theorem dM_laysRooms_89 : decode mM_laysRooms.2.1 89 = .ok (.iload 4, 2) := by decide +kernel
theorem dM_laysRooms_91 : decode mM_laysRooms.2.1 91 = .ok (.iconst 4, 1) := by decide +kernel
theorem dM_laysRooms_92 : decode mM_laysRooms.2.1 92 = .ok (.irem, 1) := by decide +kernel
theorem dM_laysRooms_93 : decode mM_laysRooms.2.1 93 = .ok (.invokevirtual 109, 3) := by decide +kernel
theorem dM_laysRooms_96 : decode mM_laysRooms.2.1 96 = .ok (.istore 5, 2) := by decide +kernel
theorem dM_laysRooms_98 : decode mM_laysRooms.2.1 98 = .ok (.aload_n 0, 1) := by decide +kernel
theorem dM_laysRooms_99 : decode mM_laysRooms.2.1 99 = .ok (.getfield 51, 3) := by decide +kernel
theorem dM_laysRooms_102 : decode mM_laysRooms.2.1 102 = .ok (.iload 4, 2) := by decide +kernel
theorem dM_laysRooms_104 : decode mM_laysRooms.2.1 104 = .ok (.iconst 4, 1) := by decide +kernel
theorem dM_laysRooms_105 : decode mM_laysRooms.2.1 105 = .ok (.idiv, 1) := by decide +kernel
theorem dM_laysRooms_106 : decode mM_laysRooms.2.1 106 = .ok (.iaload, 1) := by decide +kernel
theorem dM_laysRooms_107 : decode mM_laysRooms.2.1 107 = .ok (.iload_n 1, 1) := by decide +kernel
theorem dM_laysRooms_108 : decode mM_laysRooms.2.1 108 = .ok (.if_icmp .ne 41, 3) := by decide +kernel
theorem dM_laysRooms_111 : decode mM_laysRooms.2.1 111 = .ok (.iload 5, 2) := by decide +kernel
theorem dM_laysRooms_113 : decode mM_laysRooms.2.1 113 = .ok (.bipush (-9), 2) := by decide +kernel
theorem dM_laysRooms_115 : decode mM_laysRooms.2.1 115 = .ok (.if_icmp .eq 34, 3) := by decide +kernel
theorem dM_laysRooms_118 : decode mM_laysRooms.2.1 118 = .ok (.aload_n 0, 1) := by decide +kernel
theorem dM_laysRooms_119 : decode mM_laysRooms.2.1 119 = .ok (.iload 5, 2) := by decide +kernel
theorem dM_laysRooms_121 : decode mM_laysRooms.2.1 121 = .ok (.invokevirtual 181, 3) := by decide +kernel
theorem dM_laysRooms_124 : decode mM_laysRooms.2.1 124 = .ok (.ifCond .eq 25, 3) := by decide +kernel
theorem dM_laysRooms_127 : decode mM_laysRooms.2.1 127 = .ok (.aload_n 0, 1) := by decide +kernel
theorem dM_laysRooms_128 : decode mM_laysRooms.2.1 128 = .ok (.getfield 51, 3) := by decide +kernel
theorem dM_laysRooms_131 : decode mM_laysRooms.2.1 131 = .ok (.iload 5, 2) := by decide +kernel
theorem dM_laysRooms_133 : decode mM_laysRooms.2.1 133 = .ok (.iaload, 1) := by decide +kernel
theorem dM_laysRooms_134 : decode mM_laysRooms.2.1 134 = .ok (.bipush (-9), 2) := by decide +kernel
theorem dM_laysRooms_136 : decode mM_laysRooms.2.1 136 = .ok (.if_icmp .ne 13, 3) := by decide +kernel
theorem dM_laysRooms_139 : decode mM_laysRooms.2.1 139 = .ok (.aload_n 0, 1) := by decide +kernel
theorem dM_laysRooms_140 : decode mM_laysRooms.2.1 140 = .ok (.getfield 51, 3) := by decide +kernel
theorem dM_laysRooms_143 : decode mM_laysRooms.2.1 143 = .ok (.iload 5, 2) := by decide +kernel
theorem dM_laysRooms_145 : decode mM_laysRooms.2.1 145 = .ok (.iload_n 1, 1) := by decide +kernel
theorem dM_laysRooms_146 : decode mM_laysRooms.2.1 146 = .ok (.iastore, 1) := by decide +kernel
theorem dM_laysRooms_147 : decode mM_laysRooms.2.1 147 = .ok (.iconst 1, 1) := by decide +kernel
theorem dM_laysRooms_148 : decode mM_laysRooms.2.1 148 = .ok (.istore_n 3, 1) := by decide +kernel
theorem dM_laysRooms_149 : decode mM_laysRooms.2.1 149 = .ok (.iinc 4 1, 3) := by decide +kernel
theorem dM_laysRooms_152 : decode mM_laysRooms.2.1 152 = .ok (.goto (-79), 3) := by decide +kernel
theorem dM_laysRooms_155 : decode mM_laysRooms.2.1 155 = .ok (.goto (-91), 3) := by decide +kernel
theorem dM_laysRooms_158 : decode mM_laysRooms.2.1 158 = .ok (.iinc 1 1, 3) := by decide +kernel
theorem dM_laysRooms_161 : decode mM_laysRooms.2.1 161 = .ok (.iinc 2 1, 3) := by decide +kernel
theorem dM_laysRooms_164 : decode mM_laysRooms.2.1 164 = .ok (.goto (-136), 3) := by decide +kernel
theorem dM_laysRooms_167 : decode mM_laysRooms.2.1 167 = .ok (.iload_n 1, 1) := by decide +kernel
theorem dM_laysRooms_168 : decode mM_laysRooms.2.1 168 = .ok (.ireturn, 1) := by decide +kernel
theorem dM_room_0 : decode mM_room.2.1 0 = .ok (.iload_n 1, 1) := by decide +kernel
theorem dM_room_1 : decode mM_room.2.1 1 = .ok (.iconst (-1), 1) := by decide +kernel
theorem dM_room_2 : decode mM_room.2.1 2 = .ok (.if_icmp .eq 13, 3) := by decide +kernel
theorem dM_room_5 : decode mM_room.2.1 5 = .ok (.aload_n 0, 1) := by decide +kernel
theorem dM_room_6 : decode mM_room.2.1 6 = .ok (.iload_n 1, 1) := by decide +kernel
theorem dM_room_7 : decode mM_room.2.1 7 = .ok (.invokevirtual 94, 3) := by decide +kernel
theorem dM_room_10 : decode mM_room.2.1 10 = .ok (.ifCond .ne 5, 3) := by decide +kernel
theorem dM_room_13 : decode mM_room.2.1 13 = .ok (.iconst (-1), 1) := by decide +kernel
theorem dM_room_14 : decode mM_room.2.1 14 = .ok (.ireturn, 1) := by decide +kernel
theorem dM_room_15 : decode mM_room.2.1 15 = .ok (.aload_n 0, 1) := by decide +kernel
theorem dM_room_16 : decode mM_room.2.1 16 = .ok (.invokevirtual 184, 3) := by decide +kernel
theorem dM_room_19 : decode mM_room.2.1 19 = .ok (.istore_n 2, 1) := by decide +kernel
theorem dM_room_20 : decode mM_room.2.1 20 = .ok (.iload_n 1, 1) := by decide +kernel
theorem dM_room_21 : decode mM_room.2.1 21 = .ok (.iconst (-1), 1) := by decide +kernel
theorem dM_room_22 : decode mM_room.2.1 22 = .ok (.if_icmp .ne 7, 3) := by decide +kernel
theorem dM_room_25 : decode mM_room.2.1 25 = .ok (.iload_n 2, 1) := by decide +kernel
theorem dM_room_26 : decode mM_room.2.1 26 = .ok (.goto 9, 3) := by decide +kernel
theorem dM_room_29 : decode mM_room.2.1 29 = .ok (.aload_n 0, 1) := by decide +kernel
theorem dM_room_30 : decode mM_room.2.1 30 = .ok (.getfield 51, 3) := by decide +kernel
theorem dM_room_33 : decode mM_room.2.1 33 = .ok (.iload_n 1, 1) := by decide +kernel
theorem dM_room_34 : decode mM_room.2.1 34 = .ok (.iaload, 1) := by decide +kernel
theorem dM_room_35 : decode mM_room.2.1 35 = .ok (.ireturn, 1) := by decide +kernel
theorem dM_reach_0 : decode mM_reach.2.1 0 = .ok (.iload_n 1, 1) := by decide +kernel
theorem dM_reach_1 : decode mM_reach.2.1 1 = .ok (.iconst 0, 1) := by decide +kernel
theorem dM_reach_2 : decode mM_reach.2.1 2 = .ok (.iconst 1, 1) := by decide +kernel
theorem dM_reach_3 : decode mM_reach.2.1 3 = .ok (.invokestatic 67, 3) := by decide +kernel
theorem dM_reach_6 : decode mM_reach.2.1 6 = .ok (.ifCond .ne 5, 3) := by decide +kernel
theorem dM_reach_9 : decode mM_reach.2.1 9 = .ok (.iconst (-1), 1) := by decide +kernel
theorem dM_reach_10 : decode mM_reach.2.1 10 = .ok (.ireturn, 1) := by decide +kernel
theorem dM_reach_11 : decode mM_reach.2.1 11 = .ok (.aload_n 0, 1) := by decide +kernel
theorem dM_reach_12 : decode mM_reach.2.1 12 = .ok (.aload_n 0, 1) := by decide +kernel
theorem dM_reach_13 : decode mM_reach.2.1 13 = .ok (.getfield 61, 3) := by decide +kernel
theorem dM_reach_16 : decode mM_reach.2.1 16 = .ok (.iconst 0, 1) := by decide +kernel
theorem dM_reach_17 : decode mM_reach.2.1 17 = .ok (.aload_n 0, 1) := by decide +kernel
theorem dM_reach_18 : decode mM_reach.2.1 18 = .ok (.getfield 42, 3) := by decide +kernel
theorem dM_reach_21 : decode mM_reach.2.1 21 = .ok (.invokevirtual 139, 3) := by decide +kernel
theorem dM_reach_24 : decode mM_reach.2.1 24 = .ok (.iconst 0, 1) := by decide +kernel
theorem dM_reach_25 : decode mM_reach.2.1 25 = .ok (.istore_n 2, 1) := by decide +kernel
theorem dM_reach_26 : decode mM_reach.2.1 26 = .ok (.iconst 0, 1) := by decide +kernel
theorem dM_reach_27 : decode mM_reach.2.1 27 = .ok (.istore_n 3, 1) := by decide +kernel
theorem dM_reach_28 : decode mM_reach.2.1 28 = .ok (.iconst 0, 1) := by decide +kernel
theorem dM_reach_29 : decode mM_reach.2.1 29 = .ok (.istore 4, 2) := by decide +kernel
theorem dM_reach_31 : decode mM_reach.2.1 31 = .ok (.iload 4, 2) := by decide +kernel
theorem dM_reach_33 : decode mM_reach.2.1 33 = .ok (.aload_n 0, 1) := by decide +kernel
theorem dM_reach_34 : decode mM_reach.2.1 34 = .ok (.invokevirtual 57, 3) := by decide +kernel
theorem dM_reach_37 : decode mM_reach.2.1 37 = .ok (.if_icmp .ge 52, 3) := by decide +kernel
theorem dM_reach_40 : decode mM_reach.2.1 40 = .ok (.iload_n 2, 1) := by decide +kernel
theorem dM_reach_41 : decode mM_reach.2.1 41 = .ok (.aload_n 0, 1) := by decide +kernel
theorem dM_reach_42 : decode mM_reach.2.1 42 = .ok (.getfield 42, 3) := by decide +kernel
theorem dM_reach_45 : decode mM_reach.2.1 45 = .ok (.iload 4, 2) := by decide +kernel
theorem dM_reach_47 : decode mM_reach.2.1 47 = .ok (.iaload, 1) := by decide +kernel
theorem dM_reach_48 : decode mM_reach.2.1 48 = .ok (.bipush (-9), 2) := by decide +kernel
theorem dM_reach_50 : decode mM_reach.2.1 50 = .ok (.if_icmp .ne 7, 3) := by decide +kernel
theorem dM_reach_53 : decode mM_reach.2.1 53 = .ok (.iconst 0, 1) := by decide +kernel
theorem dM_reach_54 : decode mM_reach.2.1 54 = .ok (.goto 4, 3) := by decide +kernel
theorem dM_reach_57 : decode mM_reach.2.1 57 = .ok (.iconst 1, 1) := by decide +kernel
theorem dM_reach_58 : decode mM_reach.2.1 58 = .ok (.iadd, 1) := by decide +kernel
theorem dM_reach_59 : decode mM_reach.2.1 59 = .ok (.istore_n 2, 1) := by decide +kernel
theorem dM_reach_60 : decode mM_reach.2.1 60 = .ok (.aload_n 0, 1) := by decide +kernel
theorem dM_reach_61 : decode mM_reach.2.1 61 = .ok (.getfield 42, 3) := by decide +kernel
theorem dM_reach_64 : decode mM_reach.2.1 64 = .ok (.iload 4, 2) := by decide +kernel
theorem dM_reach_66 : decode mM_reach.2.1 66 = .ok (.iaload, 1) := by decide +kernel
theorem dM_reach_67 : decode mM_reach.2.1 67 = .ok (.iload_n 3, 1) := by decide +kernel
theorem dM_reach_68 : decode mM_reach.2.1 68 = .ok (.if_icmp .le 13, 3) := by decide +kernel
theorem dM_reach_71 : decode mM_reach.2.1 71 = .ok (.aload_n 0, 1) := by decide +kernel
theorem dM_reach_72 : decode mM_reach.2.1 72 = .ok (.getfield 42, 3) := by decide +kernel
theorem dM_reach_75 : decode mM_reach.2.1 75 = .ok (.iload 4, 2) := by decide +kernel
theorem dM_reach_77 : decode mM_reach.2.1 77 = .ok (.iaload, 1) := by decide +kernel
theorem dM_reach_78 : decode mM_reach.2.1 78 = .ok (.goto 4, 3) := by decide +kernel
theorem dM_reach_81 : decode mM_reach.2.1 81 = .ok (.iload_n 3, 1) := by decide +kernel
theorem dM_reach_82 : decode mM_reach.2.1 82 = .ok (.istore_n 3, 1) := by decide +kernel
theorem dM_reach_83 : decode mM_reach.2.1 83 = .ok (.iinc 4 1, 3) := by decide +kernel
theorem dM_reach_86 : decode mM_reach.2.1 86 = .ok (.goto (-55), 3) := by decide +kernel
theorem dM_reach_89 : decode mM_reach.2.1 89 = .ok (.iload_n 1, 1) := by decide +kernel
theorem dM_reach_90 : decode mM_reach.2.1 90 = .ok (.ifCond .ne 7, 3) := by decide +kernel
theorem dM_reach_93 : decode mM_reach.2.1 93 = .ok (.iload_n 2, 1) := by decide +kernel
theorem dM_reach_94 : decode mM_reach.2.1 94 = .ok (.goto 6, 3) := by decide +kernel
theorem dM_reach_97 : decode mM_reach.2.1 97 = .ok (.iconst 2, 1) := by decide +kernel
theorem dM_reach_98 : decode mM_reach.2.1 98 = .ok (.iload_n 3, 1) := by decide +kernel
theorem dM_reach_99 : decode mM_reach.2.1 99 = .ok (.imul, 1) := by decide +kernel
theorem dM_reach_100 : decode mM_reach.2.1 100 = .ok (.ireturn, 1) := by decide +kernel
theorem dM_isAllDone_0 : decode mM_isAllDone.2.1 0 = .ok (.aload_n 0, 1) := by decide +kernel
theorem dM_isAllDone_1 : decode mM_isAllDone.2.1 1 = .ok (.getfield 16, 3) := by decide +kernel
theorem dM_isAllDone_4 : decode mM_isAllDone.2.1 4 = .ok (.bipush 108, 2) := by decide +kernel
theorem dM_isAllDone_6 : decode mM_isAllDone.2.1 6 = .ok (.iaload, 1) := by decide +kernel
theorem dM_isAllDone_7 : decode mM_isAllDone.2.1 7 = .ok (.aload_n 0, 1) := by decide +kernel
theorem dM_isAllDone_8 : decode mM_isAllDone.2.1 8 = .ok (.getfield 61, 3) := by decide +kernel
theorem dM_isAllDone_11 : decode mM_isAllDone.2.1 11 = .ok (.if_icmp .ne 20, 3) := by decide +kernel
theorem dM_isAllDone_14 : decode mM_isAllDone.2.1 14 = .ok (.aload_n 0, 1) := by decide +kernel
theorem dM_isAllDone_15 : decode mM_isAllDone.2.1 15 = .ok (.getfield 16, 3) := by decide +kernel
theorem dM_isAllDone_18 : decode mM_isAllDone.2.1 18 = .ok (.bipush 110, 2) := by decide +kernel
theorem dM_isAllDone_20 : decode mM_isAllDone.2.1 20 = .ok (.iaload, 1) := by decide +kernel
theorem dM_isAllDone_21 : decode mM_isAllDone.2.1 21 = .ok (.aload_n 0, 1) := by decide +kernel
theorem dM_isAllDone_22 : decode mM_isAllDone.2.1 22 = .ok (.getfield 16, 3) := by decide +kernel
theorem dM_isAllDone_25 : decode mM_isAllDone.2.1 25 = .ok (.bipush 112, 2) := by decide +kernel
theorem dM_isAllDone_27 : decode mM_isAllDone.2.1 27 = .ok (.iaload, 1) := by decide +kernel
theorem dM_isAllDone_28 : decode mM_isAllDone.2.1 28 = .ok (.if_icmp .eq 5, 3) := by decide +kernel
theorem dM_isAllDone_31 : decode mM_isAllDone.2.1 31 = .ok (.iconst 0, 1) := by decide +kernel
theorem dM_isAllDone_32 : decode mM_isAllDone.2.1 32 = .ok (.ireturn, 1) := by decide +kernel
theorem dM_isAllDone_33 : decode mM_isAllDone.2.1 33 = .ok (.aload_n 0, 1) := by decide +kernel
theorem dM_isAllDone_34 : decode mM_isAllDone.2.1 34 = .ok (.invokevirtual 158, 3) := by decide +kernel
theorem dM_isAllDone_37 : decode mM_isAllDone.2.1 37 = .ok (.aload_n 0, 1) := by decide +kernel
theorem dM_isAllDone_38 : decode mM_isAllDone.2.1 38 = .ok (.getfield 143, 3) := by decide +kernel
theorem dM_isAllDone_41 : decode mM_isAllDone.2.1 41 = .ok (.bipush (-9), 2) := by decide +kernel
theorem dM_isAllDone_43 : decode mM_isAllDone.2.1 43 = .ok (.if_icmp .ne 7, 3) := by decide +kernel
theorem dM_isAllDone_46 : decode mM_isAllDone.2.1 46 = .ok (.iconst 1, 1) := by decide +kernel
theorem dM_isAllDone_47 : decode mM_isAllDone.2.1 47 = .ok (.goto 4, 3) := by decide +kernel
theorem dM_isAllDone_50 : decode mM_isAllDone.2.1 50 = .ok (.iconst 0, 1) := by decide +kernel
theorem dM_isAllDone_51 : decode mM_isAllDone.2.1 51 = .ok (.ireturn, 1) := by decide +kernel
theorem dM_when_0 : decode mM_when.2.1 0 = .ok (.aload_n 0, 1) := by decide +kernel
theorem dM_when_1 : decode mM_when.2.1 1 = .ok (.getfield 16, 3) := by decide +kernel
theorem dM_when_4 : decode mM_when.2.1 4 = .ok (.bipush 111, 2) := by decide +kernel
theorem dM_when_6 : decode mM_when.2.1 6 = .ok (.iaload, 1) := by decide +kernel
theorem dM_when_7 : decode mM_when.2.1 7 = .ok (.iconst 1, 1) := by decide +kernel
theorem dM_when_8 : decode mM_when.2.1 8 = .ok (.if_icmp .ne 6, 3) := by decide +kernel
theorem dM_when_11 : decode mM_when.2.1 11 = .ok (.bipush (-9), 2) := by decide +kernel
theorem dM_when_13 : decode mM_when.2.1 13 = .ok (.ireturn, 1) := by decide +kernel
theorem dM_when_14 : decode mM_when.2.1 14 = .ok (.iconst 0, 1) := by decide +kernel
theorem dM_when_15 : decode mM_when.2.1 15 = .ok (.istore_n 1, 1) := by decide +kernel
theorem dM_when_16 : decode mM_when.2.1 16 = .ok (.iload_n 1, 1) := by decide +kernel
theorem dM_when_17 : decode mM_when.2.1 17 = .ok (.bipush 114, 2) := by decide +kernel
theorem dM_when_19 : decode mM_when.2.1 19 = .ok (.if_icmp .ge 21, 3) := by decide +kernel
theorem dM_when_22 : decode mM_when.2.1 22 = .ok (.aload_n 0, 1) := by decide +kernel
theorem dM_when_23 : decode mM_when.2.1 23 = .ok (.getfield 30, 3) := by decide +kernel
theorem dM_when_26 : decode mM_when.2.1 26 = .ok (.iload_n 1, 1) := by decide +kernel
theorem dM_when_27 : decode mM_when.2.1 27 = .ok (.aload_n 0, 1) := by decide +kernel
theorem dM_when_28 : decode mM_when.2.1 28 = .ok (.getfield 16, 3) := by decide +kernel
theorem dM_when_31 : decode mM_when.2.1 31 = .ok (.iload_n 1, 1) := by decide +kernel
theorem dM_when_32 : decode mM_when.2.1 32 = .ok (.iaload, 1) := by decide +kernel
theorem dM_when_33 : decode mM_when.2.1 33 = .ok (.iastore, 1) := by decide +kernel
theorem dM_when_34 : decode mM_when.2.1 34 = .ok (.iinc 1 1, 3) := by decide +kernel
theorem dM_when_37 : decode mM_when.2.1 37 = .ok (.goto (-21), 3) := by decide +kernel
theorem dM_when_40 : decode mM_when.2.1 40 = .ok (.iconst 0, 1) := by decide +kernel
theorem dM_when_41 : decode mM_when.2.1 41 = .ok (.istore_n 1, 1) := by decide +kernel
theorem dM_when_42 : decode mM_when.2.1 42 = .ok (.iload_n 1, 1) := by decide +kernel
theorem dM_when_43 : decode mM_when.2.1 43 = .ok (.sipush 400, 3) := by decide +kernel
theorem dM_when_46 : decode mM_when.2.1 46 = .ok (.if_icmp .gt 21, 3) := by decide +kernel
theorem dM_when_49 : decode mM_when.2.1 49 = .ok (.aload_n 0, 1) := by decide +kernel
theorem dM_when_50 : decode mM_when.2.1 50 = .ok (.invokevirtual 187, 3) := by decide +kernel
theorem dM_when_53 : decode mM_when.2.1 53 = .ok (.ifCond .ne 14, 3) := by decide +kernel
theorem dM_when_56 : decode mM_when.2.1 56 = .ok (.aload_n 0, 1) := by decide +kernel
theorem dM_when_57 : decode mM_when.2.1 57 = .ok (.invokevirtual 168, 3) := by decide +kernel
theorem dM_when_60 : decode mM_when.2.1 60 = .ok (.pop, 1) := by decide +kernel
theorem dM_when_61 : decode mM_when.2.1 61 = .ok (.iinc 1 1, 3) := by decide +kernel
theorem dM_when_64 : decode mM_when.2.1 64 = .ok (.goto (-22), 3) := by decide +kernel
theorem dM_when_67 : decode mM_when.2.1 67 = .ok (.iconst 0, 1) := by decide +kernel
theorem dM_when_68 : decode mM_when.2.1 68 = .ok (.istore_n 2, 1) := by decide +kernel
theorem dM_when_69 : decode mM_when.2.1 69 = .ok (.iload_n 2, 1) := by decide +kernel
theorem dM_when_70 : decode mM_when.2.1 70 = .ok (.bipush 114, 2) := by decide +kernel
theorem dM_when_72 : decode mM_when.2.1 72 = .ok (.if_icmp .ge 21, 3) := by decide +kernel
theorem dM_when_75 : decode mM_when.2.1 75 = .ok (.aload_n 0, 1) := by decide +kernel
theorem dM_when_76 : decode mM_when.2.1 76 = .ok (.getfield 16, 3) := by decide +kernel
theorem dM_when_79 : decode mM_when.2.1 79 = .ok (.iload_n 2, 1) := by decide +kernel
theorem dM_when_80 : decode mM_when.2.1 80 = .ok (.aload_n 0, 1) := by decide +kernel
theorem dM_when_81 : decode mM_when.2.1 81 = .ok (.getfield 30, 3) := by decide +kernel
theorem dM_when_84 : decode mM_when.2.1 84 = .ok (.iload_n 2, 1) := by decide +kernel
theorem dM_when_85 : decode mM_when.2.1 85 = .ok (.iaload, 1) := by decide +kernel
theorem dM_when_86 : decode mM_when.2.1 86 = .ok (.iastore, 1) := by decide +kernel
theorem dM_when_87 : decode mM_when.2.1 87 = .ok (.iinc 2 1, 3) := by decide +kernel
theorem dM_when_90 : decode mM_when.2.1 90 = .ok (.goto (-21), 3) := by decide +kernel
theorem dM_when_93 : decode mM_when.2.1 93 = .ok (.iload_n 1, 1) := by decide +kernel
theorem dM_when_94 : decode mM_when.2.1 94 = .ok (.sipush 400, 3) := by decide +kernel
theorem dM_when_97 : decode mM_when.2.1 97 = .ok (.if_icmp .le 8, 3) := by decide +kernel
theorem dM_when_100 : decode mM_when.2.1 100 = .ok (.bipush (-9), 2) := by decide +kernel
theorem dM_when_102 : decode mM_when.2.1 102 = .ok (.goto 4, 3) := by decide +kernel
theorem dM_when_105 : decode mM_when.2.1 105 = .ok (.iload_n 1, 1) := by decide +kernel
theorem dM_when_106 : decode mM_when.2.1 106 = .ok (.ireturn, 1) := by decide +kernel
theorem dM_keep_0 : decode mM_keep.2.1 0 = .ok (.iload_n 1, 1) := by decide +kernel
theorem dM_keep_1 : decode mM_keep.2.1 1 = .ok (.iconst 0, 1) := by decide +kernel
theorem dM_keep_2 : decode mM_keep.2.1 2 = .ok (.iconst 1, 1) := by decide +kernel
theorem dM_keep_3 : decode mM_keep.2.1 3 = .ok (.invokestatic 67, 3) := by decide +kernel
theorem dM_keep_6 : decode mM_keep.2.1 6 = .ok (.ifCond .ne 5, 3) := by decide +kernel
theorem dM_keep_9 : decode mM_keep.2.1 9 = .ok (.iconst (-1), 1) := by decide +kernel
theorem dM_keep_10 : decode mM_keep.2.1 10 = .ok (.ireturn, 1) := by decide +kernel
theorem dM_keep_11 : decode mM_keep.2.1 11 = .ok (.iconst 0, 1) := by decide +kernel
theorem dM_keep_12 : decode mM_keep.2.1 12 = .ok (.istore_n 2, 1) := by decide +kernel
theorem dM_keep_13 : decode mM_keep.2.1 13 = .ok (.iload_n 2, 1) := by decide +kernel
theorem dM_keep_14 : decode mM_keep.2.1 14 = .ok (.bipush 114, 2) := by decide +kernel
theorem dM_keep_16 : decode mM_keep.2.1 16 = .ok (.if_icmp .ge 26, 3) := by decide +kernel
theorem dM_keep_19 : decode mM_keep.2.1 19 = .ok (.aload_n 0, 1) := by decide +kernel
theorem dM_keep_20 : decode mM_keep.2.1 20 = .ok (.getfield 27, 3) := by decide +kernel
theorem dM_keep_23 : decode mM_keep.2.1 23 = .ok (.bipush 114, 2) := by decide +kernel
theorem dM_keep_25 : decode mM_keep.2.1 25 = .ok (.iload_n 1, 1) := by decide +kernel
theorem dM_keep_26 : decode mM_keep.2.1 26 = .ok (.imul, 1) := by decide +kernel
theorem dM_keep_27 : decode mM_keep.2.1 27 = .ok (.iload_n 2, 1) := by decide +kernel
theorem dM_keep_28 : decode mM_keep.2.1 28 = .ok (.iadd, 1) := by decide +kernel
theorem dM_keep_29 : decode mM_keep.2.1 29 = .ok (.aload_n 0, 1) := by decide +kernel
theorem dM_keep_30 : decode mM_keep.2.1 30 = .ok (.getfield 16, 3) := by decide +kernel
theorem dM_keep_33 : decode mM_keep.2.1 33 = .ok (.iload_n 2, 1) := by decide +kernel
theorem dM_keep_34 : decode mM_keep.2.1 34 = .ok (.iaload, 1) := by decide +kernel
theorem dM_keep_35 : decode mM_keep.2.1 35 = .ok (.iastore, 1) := by decide +kernel
theorem dM_keep_36 : decode mM_keep.2.1 36 = .ok (.iinc 2 1, 3) := by decide +kernel
theorem dM_keep_39 : decode mM_keep.2.1 39 = .ok (.goto (-26), 3) := by decide +kernel
theorem dM_keep_42 : decode mM_keep.2.1 42 = .ok (.aload_n 0, 1) := by decide +kernel
theorem dM_keep_43 : decode mM_keep.2.1 43 = .ok (.getfield 23, 3) := by decide +kernel
theorem dM_keep_46 : decode mM_keep.2.1 46 = .ok (.iload_n 1, 1) := by decide +kernel
theorem dM_keep_47 : decode mM_keep.2.1 47 = .ok (.iconst 1, 1) := by decide +kernel
theorem dM_keep_48 : decode mM_keep.2.1 48 = .ok (.bastore, 1) := by decide +kernel
theorem dM_keep_49 : decode mM_keep.2.1 49 = .ok (.aload_n 0, 1) := by decide +kernel
theorem dM_keep_50 : decode mM_keep.2.1 50 = .ok (.getfield 16, 3) := by decide +kernel
theorem dM_keep_53 : decode mM_keep.2.1 53 = .ok (.bipush 108, 2) := by decide +kernel
theorem dM_keep_55 : decode mM_keep.2.1 55 = .ok (.iaload, 1) := by decide +kernel
theorem dM_keep_56 : decode mM_keep.2.1 56 = .ok (.ireturn, 1) := by decide +kernel
theorem dM_back_0 : decode mM_back.2.1 0 = .ok (.iload_n 1, 1) := by decide +kernel
theorem dM_back_1 : decode mM_back.2.1 1 = .ok (.iconst 0, 1) := by decide +kernel
theorem dM_back_2 : decode mM_back.2.1 2 = .ok (.iconst 1, 1) := by decide +kernel
theorem dM_back_3 : decode mM_back.2.1 3 = .ok (.invokestatic 67, 3) := by decide +kernel
theorem dM_back_6 : decode mM_back.2.1 6 = .ok (.ifCond .ne 5, 3) := by decide +kernel
theorem dM_back_9 : decode mM_back.2.1 9 = .ok (.iconst (-1), 1) := by decide +kernel
theorem dM_back_10 : decode mM_back.2.1 10 = .ok (.ireturn, 1) := by decide +kernel
theorem dM_back_11 : decode mM_back.2.1 11 = .ok (.aload_n 0, 1) := by decide +kernel
theorem dM_back_12 : decode mM_back.2.1 12 = .ok (.getfield 23, 3) := by decide +kernel
theorem dM_back_15 : decode mM_back.2.1 15 = .ok (.iload_n 1, 1) := by decide +kernel
theorem dM_back_16 : decode mM_back.2.1 16 = .ok (.baload, 1) := by decide +kernel
theorem dM_back_17 : decode mM_back.2.1 17 = .ok (.ifCond .ne 6, 3) := by decide +kernel
theorem dM_back_20 : decode mM_back.2.1 20 = .ok (.bipush (-2), 2) := by decide +kernel
theorem dM_back_22 : decode mM_back.2.1 22 = .ok (.ireturn, 1) := by decide +kernel
theorem dM_back_23 : decode mM_back.2.1 23 = .ok (.iconst 0, 1) := by decide +kernel
theorem dM_back_24 : decode mM_back.2.1 24 = .ok (.istore_n 2, 1) := by decide +kernel
theorem dM_back_25 : decode mM_back.2.1 25 = .ok (.iload_n 2, 1) := by decide +kernel
theorem dM_back_26 : decode mM_back.2.1 26 = .ok (.bipush 114, 2) := by decide +kernel
theorem dM_back_28 : decode mM_back.2.1 28 = .ok (.if_icmp .ge 26, 3) := by decide +kernel
theorem dM_back_31 : decode mM_back.2.1 31 = .ok (.aload_n 0, 1) := by decide +kernel
theorem dM_back_32 : decode mM_back.2.1 32 = .ok (.getfield 16, 3) := by decide +kernel
theorem dM_back_35 : decode mM_back.2.1 35 = .ok (.iload_n 2, 1) := by decide +kernel
theorem dM_back_36 : decode mM_back.2.1 36 = .ok (.aload_n 0, 1) := by decide +kernel
theorem dM_back_37 : decode mM_back.2.1 37 = .ok (.getfield 27, 3) := by decide +kernel
theorem dM_back_40 : decode mM_back.2.1 40 = .ok (.bipush 114, 2) := by decide +kernel
theorem dM_back_42 : decode mM_back.2.1 42 = .ok (.iload_n 1, 1) := by decide +kernel
theorem dM_back_43 : decode mM_back.2.1 43 = .ok (.imul, 1) := by decide +kernel
theorem dM_back_44 : decode mM_back.2.1 44 = .ok (.iload_n 2, 1) := by decide +kernel
theorem dM_back_45 : decode mM_back.2.1 45 = .ok (.iadd, 1) := by decide +kernel
theorem dM_back_46 : decode mM_back.2.1 46 = .ok (.iaload, 1) := by decide +kernel
theorem dM_back_47 : decode mM_back.2.1 47 = .ok (.iastore, 1) := by decide +kernel
theorem dM_back_48 : decode mM_back.2.1 48 = .ok (.iinc 2 1, 3) := by decide +kernel
theorem dM_back_51 : decode mM_back.2.1 51 = .ok (.goto (-26), 3) := by decide +kernel
theorem dM_back_54 : decode mM_back.2.1 54 = .ok (.aload_n 0, 1) := by decide +kernel
theorem dM_back_55 : decode mM_back.2.1 55 = .ok (.iconst 0, 1) := by decide +kernel
theorem dM_back_56 : decode mM_back.2.1 56 = .ok (.putfield 64, 3) := by decide +kernel
theorem dM_back_59 : decode mM_back.2.1 59 = .ok (.aload_n 0, 1) := by decide +kernel
theorem dM_back_60 : decode mM_back.2.1 60 = .ok (.getfield 16, 3) := by decide +kernel
theorem dM_back_63 : decode mM_back.2.1 63 = .ok (.bipush 108, 2) := by decide +kernel
theorem dM_back_65 : decode mM_back.2.1 65 = .ok (.iaload, 1) := by decide +kernel
theorem dM_back_66 : decode mM_back.2.1 66 = .ok (.ireturn, 1) := by decide +kernel
theorem dM_count_0 : decode mM_count.2.1 0 = .ok (.iload_n 1, 1) := by decide +kernel
theorem dM_count_1 : decode mM_count.2.1 1 = .ok (.tableswitch 84 0 6 #[43, 48, 53, 58, 66, 74, 79], 43) := by decide +kernel
theorem dM_count_44 : decode mM_count.2.1 44 = .ok (.aload_n 0, 1) := by decide +kernel
theorem dM_count_45 : decode mM_count.2.1 45 = .ok (.getfield 7, 3) := by decide +kernel
theorem dM_count_48 : decode mM_count.2.1 48 = .ok (.ireturn, 1) := by decide +kernel
theorem dM_count_49 : decode mM_count.2.1 49 = .ok (.aload_n 0, 1) := by decide +kernel
theorem dM_count_50 : decode mM_count.2.1 50 = .ok (.getfield 13, 3) := by decide +kernel
theorem dM_count_53 : decode mM_count.2.1 53 = .ok (.ireturn, 1) := by decide +kernel
theorem dM_count_54 : decode mM_count.2.1 54 = .ok (.aload_n 0, 1) := by decide +kernel
theorem dM_count_55 : decode mM_count.2.1 55 = .ok (.getfield 61, 3) := by decide +kernel
theorem dM_count_58 : decode mM_count.2.1 58 = .ok (.ireturn, 1) := by decide +kernel
theorem dM_count_59 : decode mM_count.2.1 59 = .ok (.aload_n 0, 1) := by decide +kernel
theorem dM_count_60 : decode mM_count.2.1 60 = .ok (.getfield 16, 3) := by decide +kernel
theorem dM_count_63 : decode mM_count.2.1 63 = .ok (.bipush 112, 2) := by decide +kernel
theorem dM_count_65 : decode mM_count.2.1 65 = .ok (.iaload, 1) := by decide +kernel
theorem dM_count_66 : decode mM_count.2.1 66 = .ok (.ireturn, 1) := by decide +kernel
theorem dM_count_67 : decode mM_count.2.1 67 = .ok (.aload_n 0, 1) := by decide +kernel
theorem dM_count_68 : decode mM_count.2.1 68 = .ok (.getfield 16, 3) := by decide +kernel
theorem dM_count_71 : decode mM_count.2.1 71 = .ok (.bipush 113, 2) := by decide +kernel
theorem dM_count_73 : decode mM_count.2.1 73 = .ok (.iaload, 1) := by decide +kernel
theorem dM_count_74 : decode mM_count.2.1 74 = .ok (.ireturn, 1) := by decide +kernel
theorem dM_count_75 : decode mM_count.2.1 75 = .ok (.aload_n 0, 1) := by decide +kernel
theorem dM_count_76 : decode mM_count.2.1 76 = .ok (.getfield 71, 3) := by decide +kernel
theorem dM_count_79 : decode mM_count.2.1 79 = .ok (.ireturn, 1) := by decide +kernel
theorem dM_count_80 : decode mM_count.2.1 80 = .ok (.aload_n 0, 1) := by decide +kernel
theorem dM_count_81 : decode mM_count.2.1 81 = .ok (.getfield 64, 3) := by decide +kernel
theorem dM_count_84 : decode mM_count.2.1 84 = .ok (.ireturn, 1) := by decide +kernel
theorem dM_count_85 : decode mM_count.2.1 85 = .ok (.iconst (-1), 1) := by decide +kernel
theorem dM_count_86 : decode mM_count.2.1 86 = .ok (.ireturn, 1) := by decide +kernel
