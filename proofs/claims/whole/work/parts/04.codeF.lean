theorem dA_init_0 : decode mA_init.2.1 0 = .ok (.aload_n 0, 1) := by decide +kernel
theorem dA_init_1 : decode mA_init.2.1 1 = .ok (.invokespecial 3, 3) := by decide +kernel
theorem dA_init_4 : decode mA_init.2.1 4 = .ok (.aload_n 0, 1) := by decide +kernel
theorem dA_init_5 : decode mA_init.2.1 5 = .ok (.iconst 2, 1) := by decide +kernel
theorem dA_init_6 : decode mA_init.2.1 6 = .ok (.anewarray 9, 3) := by decide +kernel
theorem dA_init_9 : decode mA_init.2.1 9 = .ok (.putfield 11, 3) := by decide +kernel
theorem dA_init_12 : decode mA_init.2.1 12 = .ok (.aload_n 0, 1) := by decide +kernel
theorem dA_init_13 : decode mA_init.2.1 13 = .ok (.iconst 2, 1) := by decide +kernel
theorem dA_init_14 : decode mA_init.2.1 14 = .ok (.newarray .boolean, 2) := by decide +kernel
theorem dA_init_16 : decode mA_init.2.1 16 = .ok (.putfield 17, 3) := by decide +kernel
theorem dA_init_19 : decode mA_init.2.1 19 = .ok (.iconst 0, 1) := by decide +kernel
theorem dA_init_20 : decode mA_init.2.1 20 = .ok (.istore_n 2, 1) := by decide +kernel
theorem dA_init_21 : decode mA_init.2.1 21 = .ok (.iload_n 2, 1) := by decide +kernel
theorem dA_init_22 : decode mA_init.2.1 22 = .ok (.iconst 2, 1) := by decide +kernel
theorem dA_init_23 : decode mA_init.2.1 23 = .ok (.if_icmp .ge 23, 3) := by decide +kernel
theorem dA_init_26 : decode mA_init.2.1 26 = .ok (.aload_n 0, 1) := by decide +kernel
theorem dA_init_27 : decode mA_init.2.1 27 = .ok (.getfield 11, 3) := by decide +kernel
theorem dA_init_30 : decode mA_init.2.1 30 = .ok (.iload_n 2, 1) := by decide +kernel
theorem dA_init_31 : decode mA_init.2.1 31 = .ok (.new 9, 3) := by decide +kernel
theorem dA_init_34 : decode mA_init.2.1 34 = .ok (.dup, 1) := by decide +kernel
theorem dA_init_35 : decode mA_init.2.1 35 = .ok (.aload_n 1, 1) := by decide +kernel
theorem dA_init_36 : decode mA_init.2.1 36 = .ok (.invokespecial 21, 3) := by decide +kernel
theorem dA_init_39 : decode mA_init.2.1 39 = .ok (.aastore, 1) := by decide +kernel
theorem dA_init_40 : decode mA_init.2.1 40 = .ok (.iinc 2 1, 3) := by decide +kernel
theorem dA_init_43 : decode mA_init.2.1 43 = .ok (.goto (-22), 3) := by decide +kernel
theorem dA_init_46 : decode mA_init.2.1 46 = .ok (.return_, 1) := by decide +kernel
theorem dA_empty_0 : decode mA_empty.2.1 0 = .ok (.iconst 0, 1) := by decide +kernel
theorem dA_empty_1 : decode mA_empty.2.1 1 = .ok (.istore_n 1, 1) := by decide +kernel
theorem dA_empty_2 : decode mA_empty.2.1 2 = .ok (.iload_n 1, 1) := by decide +kernel
theorem dA_empty_3 : decode mA_empty.2.1 3 = .ok (.iconst 2, 1) := by decide +kernel
theorem dA_empty_4 : decode mA_empty.2.1 4 = .ok (.if_icmp .ge 16, 3) := by decide +kernel
theorem dA_empty_7 : decode mA_empty.2.1 7 = .ok (.aload_n 0, 1) := by decide +kernel
theorem dA_empty_8 : decode mA_empty.2.1 8 = .ok (.getfield 17, 3) := by decide +kernel
theorem dA_empty_11 : decode mA_empty.2.1 11 = .ok (.iload_n 1, 1) := by decide +kernel
theorem dA_empty_12 : decode mA_empty.2.1 12 = .ok (.iconst 0, 1) := by decide +kernel
theorem dA_empty_13 : decode mA_empty.2.1 13 = .ok (.bastore, 1) := by decide +kernel
theorem dA_empty_14 : decode mA_empty.2.1 14 = .ok (.iinc 1 1, 3) := by decide +kernel
theorem dA_empty_17 : decode mA_empty.2.1 17 = .ok (.goto (-15), 3) := by decide +kernel
theorem dA_empty_20 : decode mA_empty.2.1 20 = .ok (.return_, 1) := by decide +kernel
theorem dA_putIn_0 : decode mA_putIn.2.1 0 = .ok (.iload_n 1, 1) := by decide +kernel
theorem dA_putIn_1 : decode mA_putIn.2.1 1 = .ok (.ifCond .lt 17, 3) := by decide +kernel
theorem dA_putIn_4 : decode mA_putIn.2.1 4 = .ok (.iload_n 1, 1) := by decide +kernel
theorem dA_putIn_5 : decode mA_putIn.2.1 5 = .ok (.iconst 2, 1) := by decide +kernel
theorem dA_putIn_6 : decode mA_putIn.2.1 6 = .ok (.if_icmp .ge 12, 3) := by decide +kernel
theorem dA_putIn_9 : decode mA_putIn.2.1 9 = .ok (.aload_n 0, 1) := by decide +kernel
theorem dA_putIn_10 : decode mA_putIn.2.1 10 = .ok (.getfield 11, 3) := by decide +kernel
theorem dA_putIn_13 : decode mA_putIn.2.1 13 = .ok (.iload_n 1, 1) := by decide +kernel
theorem dA_putIn_14 : decode mA_putIn.2.1 14 = .ok (.aaload, 1) := by decide +kernel
theorem dA_putIn_15 : decode mA_putIn.2.1 15 = .ok (.goto 4, 3) := by decide +kernel
theorem dA_putIn_18 : decode mA_putIn.2.1 18 = .ok (.aconst_null, 1) := by decide +kernel
theorem dA_putIn_19 : decode mA_putIn.2.1 19 = .ok (.astore_n 3, 1) := by decide +kernel
theorem dA_putIn_20 : decode mA_putIn.2.1 20 = .ok (.aload_n 3, 1) := by decide +kernel
theorem dA_putIn_21 : decode mA_putIn.2.1 21 = .ok (.ifnull 15, 3) := by decide +kernel
theorem dA_putIn_24 : decode mA_putIn.2.1 24 = .ok (.aload_n 3, 1) := by decide +kernel
theorem dA_putIn_25 : decode mA_putIn.2.1 25 = .ok (.aload_n 2, 1) := by decide +kernel
theorem dA_putIn_26 : decode mA_putIn.2.1 26 = .ok (.invokevirtual 24, 3) := by decide +kernel
theorem dA_putIn_29 : decode mA_putIn.2.1 29 = .ok (.aload_n 0, 1) := by decide +kernel
theorem dA_putIn_30 : decode mA_putIn.2.1 30 = .ok (.getfield 17, 3) := by decide +kernel
theorem dA_putIn_33 : decode mA_putIn.2.1 33 = .ok (.iload_n 1, 1) := by decide +kernel
theorem dA_putIn_34 : decode mA_putIn.2.1 34 = .ok (.iconst 1, 1) := by decide +kernel
theorem dA_putIn_35 : decode mA_putIn.2.1 35 = .ok (.bastore, 1) := by decide +kernel
theorem dA_putIn_36 : decode mA_putIn.2.1 36 = .ok (.return_, 1) := by decide +kernel
theorem dA_takeOut_0 : decode mA_takeOut.2.1 0 = .ok (.iload_n 1, 1) := by decide +kernel
theorem dA_takeOut_1 : decode mA_takeOut.2.1 1 = .ok (.ifCond .lt 17, 3) := by decide +kernel
theorem dA_takeOut_4 : decode mA_takeOut.2.1 4 = .ok (.iload_n 1, 1) := by decide +kernel
theorem dA_takeOut_5 : decode mA_takeOut.2.1 5 = .ok (.iconst 2, 1) := by decide +kernel
theorem dA_takeOut_6 : decode mA_takeOut.2.1 6 = .ok (.if_icmp .ge 12, 3) := by decide +kernel
theorem dA_takeOut_9 : decode mA_takeOut.2.1 9 = .ok (.aload_n 0, 1) := by decide +kernel
theorem dA_takeOut_10 : decode mA_takeOut.2.1 10 = .ok (.getfield 11, 3) := by decide +kernel
theorem dA_takeOut_13 : decode mA_takeOut.2.1 13 = .ok (.iload_n 1, 1) := by decide +kernel
theorem dA_takeOut_14 : decode mA_takeOut.2.1 14 = .ok (.aaload, 1) := by decide +kernel
theorem dA_takeOut_15 : decode mA_takeOut.2.1 15 = .ok (.goto 4, 3) := by decide +kernel
theorem dA_takeOut_18 : decode mA_takeOut.2.1 18 = .ok (.aconst_null, 1) := by decide +kernel
theorem dA_takeOut_19 : decode mA_takeOut.2.1 19 = .ok (.astore_n 3, 1) := by decide +kernel
theorem dA_takeOut_20 : decode mA_takeOut.2.1 20 = .ok (.aload_n 3, 1) := by decide +kernel
theorem dA_takeOut_21 : decode mA_takeOut.2.1 21 = .ok (.ifnull 12, 3) := by decide +kernel
theorem dA_takeOut_24 : decode mA_takeOut.2.1 24 = .ok (.aload_n 0, 1) := by decide +kernel
theorem dA_takeOut_25 : decode mA_takeOut.2.1 25 = .ok (.getfield 17, 3) := by decide +kernel
theorem dA_takeOut_28 : decode mA_takeOut.2.1 28 = .ok (.iload_n 1, 1) := by decide +kernel
theorem dA_takeOut_29 : decode mA_takeOut.2.1 29 = .ok (.baload, 1) := by decide +kernel
theorem dA_takeOut_30 : decode mA_takeOut.2.1 30 = .ok (.ifCond .ne 5, 3) := by decide +kernel
theorem dA_takeOut_33 : decode mA_takeOut.2.1 33 = .ok (.iconst 0, 1) := by decide +kernel
theorem dA_takeOut_34 : decode mA_takeOut.2.1 34 = .ok (.ireturn, 1) := by decide +kernel
theorem dA_takeOut_35 : decode mA_takeOut.2.1 35 = .ok (.aload_n 2, 1) := by decide +kernel
theorem dA_takeOut_36 : decode mA_takeOut.2.1 36 = .ok (.aload_n 3, 1) := by decide +kernel
theorem dA_takeOut_37 : decode mA_takeOut.2.1 37 = .ok (.invokevirtual 24, 3) := by decide +kernel
theorem dA_takeOut_40 : decode mA_takeOut.2.1 40 = .ok (.iconst 1, 1) := by decide +kernel
theorem dA_takeOut_41 : decode mA_takeOut.2.1 41 = .ok (.ireturn, 1) := by decide +kernel
theorem dG_init_0 : decode mG_init.2.1 0 = .ok (.aload_n 0, 1) := by decide +kernel
theorem dG_init_1 : decode mG_init.2.1 1 = .ok (.invokespecial 3, 3) := by decide +kernel
theorem dG_init_4 : decode mG_init.2.1 4 = .ok (.return_, 1) := by decide +kernel
theorem dG_layOut_0 : decode mG_layOut.2.1 0 = .ok (.aload_n 0, 1) := by decide +kernel
theorem dG_layOut_1 : decode mG_layOut.2.1 1 = .ok (.aload_n 1, 1) := by decide +kernel
theorem dG_layOut_2 : decode mG_layOut.2.1 2 = .ok (.getfield 9, 3) := by decide +kernel
theorem dG_layOut_5 : decode mG_layOut.2.1 5 = .ok (.putfield 15, 3) := by decide +kernel
theorem dG_layOut_8 : decode mG_layOut.2.1 8 = .ok (.aload_n 0, 1) := by decide +kernel
theorem dG_layOut_9 : decode mG_layOut.2.1 9 = .ok (.aload_n 1, 1) := by decide +kernel
theorem dG_layOut_10 : decode mG_layOut.2.1 10 = .ok (.getfield 18, 3) := by decide +kernel
theorem dG_layOut_13 : decode mG_layOut.2.1 13 = .ok (.putfield 21, 3) := by decide +kernel
theorem dG_layOut_16 : decode mG_layOut.2.1 16 = .ok (.aload_n 0, 1) := by decide +kernel
theorem dG_layOut_17 : decode mG_layOut.2.1 17 = .ok (.aload_n 1, 1) := by decide +kernel
theorem dG_layOut_18 : decode mG_layOut.2.1 18 = .ok (.getfield 22, 3) := by decide +kernel
theorem dG_layOut_21 : decode mG_layOut.2.1 21 = .ok (.putfield 25, 3) := by decide +kernel
theorem dG_layOut_24 : decode mG_layOut.2.1 24 = .ok (.aload_n 0, 1) := by decide +kernel
theorem dG_layOut_25 : decode mG_layOut.2.1 25 = .ok (.lconst 1, 1) := by decide +kernel
theorem dG_layOut_26 : decode mG_layOut.2.1 26 = .ok (.aload_n 0, 1) := by decide +kernel
theorem dG_layOut_27 : decode mG_layOut.2.1 27 = .ok (.invokevirtual 26, 3) := by decide +kernel
theorem dG_layOut_30 : decode mG_layOut.2.1 30 = .ok (.lshl, 1) := by decide +kernel
theorem dG_layOut_31 : decode mG_layOut.2.1 31 = .ok (.lconst 1, 1) := by decide +kernel
theorem dG_layOut_32 : decode mG_layOut.2.1 32 = .ok (.lsub, 1) := by decide +kernel
theorem dG_layOut_33 : decode mG_layOut.2.1 33 = .ok (.putfield 30, 3) := by decide +kernel
theorem dG_layOut_36 : decode mG_layOut.2.1 36 = .ok (.aload_n 0, 1) := by decide +kernel
theorem dG_layOut_37 : decode mG_layOut.2.1 37 = .ok (.aload_n 1, 1) := by decide +kernel
theorem dG_layOut_38 : decode mG_layOut.2.1 38 = .ok (.iconst 0, 1) := by decide +kernel
theorem dG_layOut_39 : decode mG_layOut.2.1 39 = .ok (.invokestatic 34, 3) := by decide +kernel
theorem dG_layOut_42 : decode mG_layOut.2.1 42 = .ok (.putfield 38, 3) := by decide +kernel
theorem dG_layOut_45 : decode mG_layOut.2.1 45 = .ok (.aload_n 0, 1) := by decide +kernel
theorem dG_layOut_46 : decode mG_layOut.2.1 46 = .ok (.aload_n 1, 1) := by decide +kernel
theorem dG_layOut_47 : decode mG_layOut.2.1 47 = .ok (.iconst 2, 1) := by decide +kernel
theorem dG_layOut_48 : decode mG_layOut.2.1 48 = .ok (.invokestatic 34, 3) := by decide +kernel
theorem dG_layOut_51 : decode mG_layOut.2.1 51 = .ok (.putfield 41, 3) := by decide +kernel
theorem dG_layOut_54 : decode mG_layOut.2.1 54 = .ok (.aload_n 0, 1) := by decide +kernel
theorem dG_layOut_55 : decode mG_layOut.2.1 55 = .ok (.aload_n 1, 1) := by decide +kernel
theorem dG_layOut_56 : decode mG_layOut.2.1 56 = .ok (.iconst 3, 1) := by decide +kernel
theorem dG_layOut_57 : decode mG_layOut.2.1 57 = .ok (.invokestatic 34, 3) := by decide +kernel
theorem dG_layOut_60 : decode mG_layOut.2.1 60 = .ok (.putfield 44, 3) := by decide +kernel
theorem dG_layOut_63 : decode mG_layOut.2.1 63 = .ok (.aload_n 0, 1) := by decide +kernel
theorem dG_layOut_64 : decode mG_layOut.2.1 64 = .ok (.aload_n 1, 1) := by decide +kernel
theorem dG_layOut_65 : decode mG_layOut.2.1 65 = .ok (.iconst 4, 1) := by decide +kernel
theorem dG_layOut_66 : decode mG_layOut.2.1 66 = .ok (.invokestatic 34, 3) := by decide +kernel
theorem dG_layOut_69 : decode mG_layOut.2.1 69 = .ok (.putfield 47, 3) := by decide +kernel
theorem dG_layOut_72 : decode mG_layOut.2.1 72 = .ok (.aload_n 0, 1) := by decide +kernel
theorem dG_layOut_73 : decode mG_layOut.2.1 73 = .ok (.lconst 0, 1) := by decide +kernel
theorem dG_layOut_74 : decode mG_layOut.2.1 74 = .ok (.putfield 50, 3) := by decide +kernel
theorem dG_layOut_77 : decode mG_layOut.2.1 77 = .ok (.iconst 0, 1) := by decide +kernel
theorem dG_layOut_78 : decode mG_layOut.2.1 78 = .ok (.istore_n 2, 1) := by decide +kernel
theorem dG_layOut_79 : decode mG_layOut.2.1 79 = .ok (.iload_n 2, 1) := by decide +kernel
theorem dG_layOut_80 : decode mG_layOut.2.1 80 = .ok (.aload_n 0, 1) := by decide +kernel
theorem dG_layOut_81 : decode mG_layOut.2.1 81 = .ok (.getfield 21, 3) := by decide +kernel
theorem dG_layOut_84 : decode mG_layOut.2.1 84 = .ok (.if_icmp .ge 27, 3) := by decide +kernel
theorem dG_layOut_87 : decode mG_layOut.2.1 87 = .ok (.aload_n 0, 1) := by decide +kernel
theorem dG_layOut_88 : decode mG_layOut.2.1 88 = .ok (.dup, 1) := by decide +kernel
theorem dG_layOut_89 : decode mG_layOut.2.1 89 = .ok (.getfield 50, 3) := by decide +kernel
theorem dG_layOut_92 : decode mG_layOut.2.1 92 = .ok (.iload_n 2, 1) := by decide +kernel
theorem dG_layOut_93 : decode mG_layOut.2.1 93 = .ok (.aload_n 0, 1) := by decide +kernel
theorem dG_layOut_94 : decode mG_layOut.2.1 94 = .ok (.getfield 15, 3) := by decide +kernel
theorem dG_layOut_97 : decode mG_layOut.2.1 97 = .ok (.imul, 1) := by decide +kernel
theorem dG_layOut_98 : decode mG_layOut.2.1 98 = .ok (.invokestatic 53, 3) := by decide +kernel
theorem dG_layOut_101 : decode mG_layOut.2.1 101 = .ok (.lor, 1) := by decide +kernel
theorem dG_layOut_102 : decode mG_layOut.2.1 102 = .ok (.putfield 50, 3) := by decide +kernel
theorem dG_layOut_105 : decode mG_layOut.2.1 105 = .ok (.iinc 2 1, 3) := by decide +kernel
theorem dG_layOut_108 : decode mG_layOut.2.1 108 = .ok (.goto (-29), 3) := by decide +kernel
theorem dG_layOut_111 : decode mG_layOut.2.1 111 = .ok (.aload_n 0, 1) := by decide +kernel
theorem dG_layOut_112 : decode mG_layOut.2.1 112 = .ok (.aload_n 0, 1) := by decide +kernel
theorem dG_layOut_113 : decode mG_layOut.2.1 113 = .ok (.getfield 50, 3) := by decide +kernel
theorem dG_layOut_116 : decode mG_layOut.2.1 116 = .ok (.aload_n 0, 1) := by decide +kernel
theorem dG_layOut_117 : decode mG_layOut.2.1 117 = .ok (.getfield 15, 3) := by decide +kernel
theorem dG_layOut_120 : decode mG_layOut.2.1 120 = .ok (.iconst 1, 1) := by decide +kernel
theorem dG_layOut_121 : decode mG_layOut.2.1 121 = .ok (.isub, 1) := by decide +kernel
theorem dG_layOut_122 : decode mG_layOut.2.1 122 = .ok (.lshl, 1) := by decide +kernel
theorem dG_layOut_123 : decode mG_layOut.2.1 123 = .ok (.putfield 57, 3) := by decide +kernel
theorem dG_layOut_126 : decode mG_layOut.2.1 126 = .ok (.return_, 1) := by decide +kernel
theorem dG_cellsOfKind_0 : decode mG_cellsOfKind.2.1 0 = .ok (.lconst 0, 1) := by decide +kernel
theorem dG_cellsOfKind_1 : decode mG_cellsOfKind.2.1 1 = .ok (.lstore_n 2, 1) := by decide +kernel
theorem dG_cellsOfKind_2 : decode mG_cellsOfKind.2.1 2 = .ok (.iconst 0, 1) := by decide +kernel
theorem dG_cellsOfKind_3 : decode mG_cellsOfKind.2.1 3 = .ok (.istore 4, 2) := by decide +kernel
theorem dG_cellsOfKind_5 : decode mG_cellsOfKind.2.1 5 = .ok (.iload 4, 2) := by decide +kernel
theorem dG_cellsOfKind_7 : decode mG_cellsOfKind.2.1 7 = .ok (.aload_n 0, 1) := by decide +kernel
theorem dG_cellsOfKind_8 : decode mG_cellsOfKind.2.1 8 = .ok (.getfield 60, 3) := by decide +kernel
theorem dG_cellsOfKind_11 : decode mG_cellsOfKind.2.1 11 = .ok (.if_icmp .ge 35, 3) := by decide +kernel
theorem dG_cellsOfKind_14 : decode mG_cellsOfKind.2.1 14 = .ok (.iload 4, 2) := by decide +kernel
theorem dG_cellsOfKind_16 : decode mG_cellsOfKind.2.1 16 = .ok (.bipush 36, 2) := by decide +kernel
theorem dG_cellsOfKind_18 : decode mG_cellsOfKind.2.1 18 = .ok (.if_icmp .ge 28, 3) := by decide +kernel
theorem dG_cellsOfKind_21 : decode mG_cellsOfKind.2.1 21 = .ok (.aload_n 0, 1) := by decide +kernel
theorem dG_cellsOfKind_22 : decode mG_cellsOfKind.2.1 22 = .ok (.getfield 63, 3) := by decide +kernel
theorem dG_cellsOfKind_25 : decode mG_cellsOfKind.2.1 25 = .ok (.iload 4, 2) := by decide +kernel
theorem dG_cellsOfKind_27 : decode mG_cellsOfKind.2.1 27 = .ok (.iaload, 1) := by decide +kernel
theorem dG_cellsOfKind_28 : decode mG_cellsOfKind.2.1 28 = .ok (.iload_n 1, 1) := by decide +kernel
theorem dG_cellsOfKind_29 : decode mG_cellsOfKind.2.1 29 = .ok (.if_icmp .ne 11, 3) := by decide +kernel
theorem dG_cellsOfKind_32 : decode mG_cellsOfKind.2.1 32 = .ok (.lload_n 2, 1) := by decide +kernel
theorem dG_cellsOfKind_33 : decode mG_cellsOfKind.2.1 33 = .ok (.iload 4, 2) := by decide +kernel
theorem dG_cellsOfKind_35 : decode mG_cellsOfKind.2.1 35 = .ok (.invokestatic 53, 3) := by decide +kernel
theorem dG_cellsOfKind_38 : decode mG_cellsOfKind.2.1 38 = .ok (.lor, 1) := by decide +kernel
theorem dG_cellsOfKind_39 : decode mG_cellsOfKind.2.1 39 = .ok (.lstore_n 2, 1) := by decide +kernel
theorem dG_cellsOfKind_40 : decode mG_cellsOfKind.2.1 40 = .ok (.iinc 4 1, 3) := by decide +kernel
theorem dG_cellsOfKind_43 : decode mG_cellsOfKind.2.1 43 = .ok (.goto (-38), 3) := by decide +kernel
theorem dG_cellsOfKind_46 : decode mG_cellsOfKind.2.1 46 = .ok (.lload_n 2, 1) := by decide +kernel
theorem dG_cellsOfKind_47 : decode mG_cellsOfKind.2.1 47 = .ok (.lreturn, 1) := by decide +kernel
theorem dG_size_0 : decode mG_size.2.1 0 = .ok (.aload_n 0, 1) := by decide +kernel
theorem dG_size_1 : decode mG_size.2.1 1 = .ok (.getfield 15, 3) := by decide +kernel
theorem dG_size_4 : decode mG_size.2.1 4 = .ok (.aload_n 0, 1) := by decide +kernel
theorem dG_size_5 : decode mG_size.2.1 5 = .ok (.getfield 21, 3) := by decide +kernel
theorem dG_size_8 : decode mG_size.2.1 8 = .ok (.imul, 1) := by decide +kernel
theorem dG_size_9 : decode mG_size.2.1 9 = .ok (.ireturn, 1) := by decide +kernel
theorem dG_has_0 : decode mG_has.2.1 0 = .ok (.iload_n 1, 1) := by decide +kernel
theorem dG_has_1 : decode mG_has.2.1 1 = .ok (.ifCond .lt 15, 3) := by decide +kernel
theorem dG_has_4 : decode mG_has.2.1 4 = .ok (.iload_n 1, 1) := by decide +kernel
theorem dG_has_5 : decode mG_has.2.1 5 = .ok (.aload_n 0, 1) := by decide +kernel
theorem dG_has_6 : decode mG_has.2.1 6 = .ok (.invokevirtual 26, 3) := by decide +kernel
theorem dG_has_9 : decode mG_has.2.1 9 = .ok (.if_icmp .ge 7, 3) := by decide +kernel
theorem dG_has_12 : decode mG_has.2.1 12 = .ok (.iconst 1, 1) := by decide +kernel
theorem dG_has_13 : decode mG_has.2.1 13 = .ok (.goto 4, 3) := by decide +kernel
theorem dG_has_16 : decode mG_has.2.1 16 = .ok (.iconst 0, 1) := by decide +kernel
theorem dG_has_17 : decode mG_has.2.1 17 = .ok (.ireturn, 1) := by decide +kernel
theorem dG_beside_0 : decode mG_beside.2.1 0 = .ok (.iload_n 3, 1) := by decide +kernel
theorem dG_beside_1 : decode mG_beside.2.1 1 = .ok (.tableswitch 59 0 2 #[27, 34, 47], 27) := by decide +kernel
theorem dG_beside_28 : decode mG_beside.2.1 28 = .ok (.lload_n 1, 1) := by decide +kernel
theorem dG_beside_29 : decode mG_beside.2.1 29 = .ok (.aload_n 0, 1) := by decide +kernel
theorem dG_beside_30 : decode mG_beside.2.1 30 = .ok (.getfield 15, 3) := by decide +kernel
theorem dG_beside_33 : decode mG_beside.2.1 33 = .ok (.lushr, 1) := by decide +kernel
theorem dG_beside_34 : decode mG_beside.2.1 34 = .ok (.lreturn, 1) := by decide +kernel
theorem dG_beside_35 : decode mG_beside.2.1 35 = .ok (.lload_n 1, 1) := by decide +kernel
theorem dG_beside_36 : decode mG_beside.2.1 36 = .ok (.aload_n 0, 1) := by decide +kernel
theorem dG_beside_37 : decode mG_beside.2.1 37 = .ok (.getfield 57, 3) := by decide +kernel
theorem dG_beside_40 : decode mG_beside.2.1 40 = .ok (.ldc2_w 67, 3) := by decide +kernel
theorem dG_beside_43 : decode mG_beside.2.1 43 = .ok (.lxor, 1) := by decide +kernel
theorem dG_beside_44 : decode mG_beside.2.1 44 = .ok (.land, 1) := by decide +kernel
theorem dG_beside_45 : decode mG_beside.2.1 45 = .ok (.iconst 1, 1) := by decide +kernel
theorem dG_beside_46 : decode mG_beside.2.1 46 = .ok (.lshl, 1) := by decide +kernel
theorem dG_beside_47 : decode mG_beside.2.1 47 = .ok (.lreturn, 1) := by decide +kernel
theorem dG_beside_48 : decode mG_beside.2.1 48 = .ok (.lload_n 1, 1) := by decide +kernel
theorem dG_beside_49 : decode mG_beside.2.1 49 = .ok (.aload_n 0, 1) := by decide +kernel
theorem dG_beside_50 : decode mG_beside.2.1 50 = .ok (.getfield 15, 3) := by decide +kernel
theorem dG_beside_53 : decode mG_beside.2.1 53 = .ok (.lshl, 1) := by decide +kernel
theorem dG_beside_54 : decode mG_beside.2.1 54 = .ok (.aload_n 0, 1) := by decide +kernel
theorem dG_beside_55 : decode mG_beside.2.1 55 = .ok (.getfield 30, 3) := by decide +kernel
theorem dG_beside_58 : decode mG_beside.2.1 58 = .ok (.land, 1) := by decide +kernel
theorem dG_beside_59 : decode mG_beside.2.1 59 = .ok (.lreturn, 1) := by decide +kernel
theorem dG_beside_60 : decode mG_beside.2.1 60 = .ok (.lload_n 1, 1) := by decide +kernel
theorem dG_beside_61 : decode mG_beside.2.1 61 = .ok (.aload_n 0, 1) := by decide +kernel
theorem dG_beside_62 : decode mG_beside.2.1 62 = .ok (.getfield 50, 3) := by decide +kernel
theorem dG_beside_65 : decode mG_beside.2.1 65 = .ok (.ldc2_w 67, 3) := by decide +kernel
theorem dG_beside_68 : decode mG_beside.2.1 68 = .ok (.lxor, 1) := by decide +kernel
theorem dG_beside_69 : decode mG_beside.2.1 69 = .ok (.land, 1) := by decide +kernel
theorem dG_beside_70 : decode mG_beside.2.1 70 = .ok (.iconst 1, 1) := by decide +kernel
theorem dG_beside_71 : decode mG_beside.2.1 71 = .ok (.lushr, 1) := by decide +kernel
theorem dG_beside_72 : decode mG_beside.2.1 72 = .ok (.lreturn, 1) := by decide +kernel
theorem dG_cellBeside_0 : decode mG_cellBeside.2.1 0 = .ok (.aload_n 0, 1) := by decide +kernel
theorem dG_cellBeside_1 : decode mG_cellBeside.2.1 1 = .ok (.iload_n 1, 1) := by decide +kernel
theorem dG_cellBeside_2 : decode mG_cellBeside.2.1 2 = .ok (.invokestatic 53, 3) := by decide +kernel
theorem dG_cellBeside_5 : decode mG_cellBeside.2.1 5 = .ok (.iload_n 2, 1) := by decide +kernel
theorem dG_cellBeside_6 : decode mG_cellBeside.2.1 6 = .ok (.invokevirtual 69, 3) := by decide +kernel
theorem dG_cellBeside_9 : decode mG_cellBeside.2.1 9 = .ok (.invokestatic 73, 3) := by decide +kernel
theorem dG_cellBeside_12 : decode mG_cellBeside.2.1 12 = .ok (.ireturn, 1) := by decide +kernel
theorem dG_around_0 : decode mG_around.2.1 0 = .ok (.lload_n 1, 1) := by decide +kernel
theorem dG_around_1 : decode mG_around.2.1 1 = .ok (.aload_n 0, 1) := by decide +kernel
theorem dG_around_2 : decode mG_around.2.1 2 = .ok (.getfield 15, 3) := by decide +kernel
theorem dG_around_5 : decode mG_around.2.1 5 = .ok (.lushr, 1) := by decide +kernel
theorem dG_around_6 : decode mG_around.2.1 6 = .ok (.lload_n 1, 1) := by decide +kernel
theorem dG_around_7 : decode mG_around.2.1 7 = .ok (.aload_n 0, 1) := by decide +kernel
theorem dG_around_8 : decode mG_around.2.1 8 = .ok (.getfield 15, 3) := by decide +kernel
theorem dG_around_11 : decode mG_around.2.1 11 = .ok (.lshl, 1) := by decide +kernel
theorem dG_around_12 : decode mG_around.2.1 12 = .ok (.aload_n 0, 1) := by decide +kernel
theorem dG_around_13 : decode mG_around.2.1 13 = .ok (.getfield 30, 3) := by decide +kernel
theorem dG_around_16 : decode mG_around.2.1 16 = .ok (.land, 1) := by decide +kernel
theorem dG_around_17 : decode mG_around.2.1 17 = .ok (.lor, 1) := by decide +kernel
theorem dG_around_18 : decode mG_around.2.1 18 = .ok (.lload_n 1, 1) := by decide +kernel
theorem dG_around_19 : decode mG_around.2.1 19 = .ok (.aload_n 0, 1) := by decide +kernel
theorem dG_around_20 : decode mG_around.2.1 20 = .ok (.getfield 57, 3) := by decide +kernel
theorem dG_around_23 : decode mG_around.2.1 23 = .ok (.ldc2_w 67, 3) := by decide +kernel
theorem dG_around_26 : decode mG_around.2.1 26 = .ok (.lxor, 1) := by decide +kernel
theorem dG_around_27 : decode mG_around.2.1 27 = .ok (.land, 1) := by decide +kernel
theorem dG_around_28 : decode mG_around.2.1 28 = .ok (.iconst 1, 1) := by decide +kernel
theorem dG_around_29 : decode mG_around.2.1 29 = .ok (.lshl, 1) := by decide +kernel
theorem dG_around_30 : decode mG_around.2.1 30 = .ok (.lor, 1) := by decide +kernel
theorem dG_around_31 : decode mG_around.2.1 31 = .ok (.lload_n 1, 1) := by decide +kernel
theorem dG_around_32 : decode mG_around.2.1 32 = .ok (.aload_n 0, 1) := by decide +kernel
theorem dG_around_33 : decode mG_around.2.1 33 = .ok (.getfield 50, 3) := by decide +kernel
theorem dG_around_36 : decode mG_around.2.1 36 = .ok (.ldc2_w 67, 3) := by decide +kernel
theorem dG_around_39 : decode mG_around.2.1 39 = .ok (.lxor, 1) := by decide +kernel
theorem dG_around_40 : decode mG_around.2.1 40 = .ok (.land, 1) := by decide +kernel
theorem dG_around_41 : decode mG_around.2.1 41 = .ok (.iconst 1, 1) := by decide +kernel
theorem dG_around_42 : decode mG_around.2.1 42 = .ok (.lushr, 1) := by decide +kernel
theorem dG_around_43 : decode mG_around.2.1 43 = .ok (.lor, 1) := by decide +kernel
theorem dG_around_44 : decode mG_around.2.1 44 = .ok (.lreturn, 1) := by decide +kernel
theorem dG_within_0 : decode mG_within.2.1 0 = .ok (.iload_n 1, 1) := by decide +kernel
theorem dG_within_1 : decode mG_within.2.1 1 = .ok (.ifCond .ge 7, 3) := by decide +kernel
theorem dG_within_4 : decode mG_within.2.1 4 = .ok (.lconst 0, 1) := by decide +kernel
theorem dG_within_5 : decode mG_within.2.1 5 = .ok (.goto 9, 3) := by decide +kernel
theorem dG_within_8 : decode mG_within.2.1 8 = .ok (.iload_n 2, 1) := by decide +kernel
theorem dG_within_9 : decode mG_within.2.1 9 = .ok (.invokestatic 53, 3) := by decide +kernel
theorem dG_within_12 : decode mG_within.2.1 12 = .ok (.lload_n 3, 1) := by decide +kernel
theorem dG_within_13 : decode mG_within.2.1 13 = .ok (.land, 1) := by decide +kernel
theorem dG_within_14 : decode mG_within.2.1 14 = .ok (.lstore 5, 2) := by decide +kernel
theorem dG_within_16 : decode mG_within.2.1 16 = .ok (.iconst 0, 1) := by decide +kernel
theorem dG_within_17 : decode mG_within.2.1 17 = .ok (.istore 7, 2) := by decide +kernel
theorem dG_within_19 : decode mG_within.2.1 19 = .ok (.iload 7, 2) := by decide +kernel
theorem dG_within_21 : decode mG_within.2.1 21 = .ok (.iload_n 1, 1) := by decide +kernel
theorem dG_within_22 : decode mG_within.2.1 22 = .ok (.if_icmp .ge 44, 3) := by decide +kernel
theorem dG_within_25 : decode mG_within.2.1 25 = .ok (.iload 7, 2) := by decide +kernel
theorem dG_within_27 : decode mG_within.2.1 27 = .ok (.bipush 36, 2) := by decide +kernel
theorem dG_within_29 : decode mG_within.2.1 29 = .ok (.if_icmp .ge 37, 3) := by decide +kernel
theorem dG_within_32 : decode mG_within.2.1 32 = .ok (.lload 5, 2) := by decide +kernel
theorem dG_within_34 : decode mG_within.2.1 34 = .ok (.aload_n 0, 1) := by decide +kernel
theorem dG_within_35 : decode mG_within.2.1 35 = .ok (.lload 5, 2) := by decide +kernel
theorem dG_within_37 : decode mG_within.2.1 37 = .ok (.invokevirtual 77, 3) := by decide +kernel
theorem dG_within_40 : decode mG_within.2.1 40 = .ok (.lload_n 3, 1) := by decide +kernel
theorem dG_within_41 : decode mG_within.2.1 41 = .ok (.land, 1) := by decide +kernel
theorem dG_within_42 : decode mG_within.2.1 42 = .ok (.lor, 1) := by decide +kernel
theorem dG_within_43 : decode mG_within.2.1 43 = .ok (.lstore 8, 2) := by decide +kernel
theorem dG_within_45 : decode mG_within.2.1 45 = .ok (.lload 8, 2) := by decide +kernel
theorem dG_within_47 : decode mG_within.2.1 47 = .ok (.lload 5, 2) := by decide +kernel
theorem dG_within_49 : decode mG_within.2.1 49 = .ok (.lcmp, 1) := by decide +kernel
theorem dG_within_50 : decode mG_within.2.1 50 = .ok (.ifCond .ne 6, 3) := by decide +kernel
theorem dG_within_53 : decode mG_within.2.1 53 = .ok (.goto 13, 3) := by decide +kernel
theorem dG_within_56 : decode mG_within.2.1 56 = .ok (.lload 8, 2) := by decide +kernel
theorem dG_within_58 : decode mG_within.2.1 58 = .ok (.lstore 5, 2) := by decide +kernel
theorem dG_within_60 : decode mG_within.2.1 60 = .ok (.iinc 7 1, 3) := by decide +kernel
theorem dG_within_63 : decode mG_within.2.1 63 = .ok (.goto (-44), 3) := by decide +kernel
theorem dG_within_66 : decode mG_within.2.1 66 = .ok (.lload 5, 2) := by decide +kernel
theorem dG_within_68 : decode mG_within.2.1 68 = .ok (.lreturn, 1) := by decide +kernel
theorem dG_stepsBetween_0 : decode mG_stepsBetween.2.1 0 = .ok (.iload_n 2, 1) := by decide +kernel
theorem dG_stepsBetween_1 : decode mG_stepsBetween.2.1 1 = .ok (.invokestatic 53, 3) := by decide +kernel
theorem dG_stepsBetween_4 : decode mG_stepsBetween.2.1 4 = .ok (.lstore 5, 2) := by decide +kernel
theorem dG_stepsBetween_6 : decode mG_stepsBetween.2.1 6 = .ok (.iload_n 1, 1) := by decide +kernel
theorem dG_stepsBetween_7 : decode mG_stepsBetween.2.1 7 = .ok (.invokestatic 53, 3) := by decide +kernel
theorem dG_stepsBetween_10 : decode mG_stepsBetween.2.1 10 = .ok (.lload_n 3, 1) := by decide +kernel
theorem dG_stepsBetween_11 : decode mG_stepsBetween.2.1 11 = .ok (.land, 1) := by decide +kernel
theorem dG_stepsBetween_12 : decode mG_stepsBetween.2.1 12 = .ok (.lstore 7, 2) := by decide +kernel
theorem dG_stepsBetween_14 : decode mG_stepsBetween.2.1 14 = .ok (.iconst 0, 1) := by decide +kernel
theorem dG_stepsBetween_15 : decode mG_stepsBetween.2.1 15 = .ok (.istore 9, 2) := by decide +kernel
theorem dG_stepsBetween_17 : decode mG_stepsBetween.2.1 17 = .ok (.iload 9, 2) := by decide +kernel
theorem dG_stepsBetween_19 : decode mG_stepsBetween.2.1 19 = .ok (.bipush 36, 2) := by decide +kernel
theorem dG_stepsBetween_21 : decode mG_stepsBetween.2.1 21 = .ok (.if_icmp .ge 50, 3) := by decide +kernel
theorem dG_stepsBetween_24 : decode mG_stepsBetween.2.1 24 = .ok (.lload 7, 2) := by decide +kernel
theorem dG_stepsBetween_26 : decode mG_stepsBetween.2.1 26 = .ok (.lload 5, 2) := by decide +kernel
theorem dG_stepsBetween_28 : decode mG_stepsBetween.2.1 28 = .ok (.land, 1) := by decide +kernel
theorem dG_stepsBetween_29 : decode mG_stepsBetween.2.1 29 = .ok (.lconst 0, 1) := by decide +kernel
theorem dG_stepsBetween_30 : decode mG_stepsBetween.2.1 30 = .ok (.lcmp, 1) := by decide +kernel
theorem dG_stepsBetween_31 : decode mG_stepsBetween.2.1 31 = .ok (.ifCond .eq 6, 3) := by decide +kernel
theorem dG_stepsBetween_34 : decode mG_stepsBetween.2.1 34 = .ok (.iload 9, 2) := by decide +kernel
theorem dG_stepsBetween_36 : decode mG_stepsBetween.2.1 36 = .ok (.ireturn, 1) := by decide +kernel
theorem dG_stepsBetween_37 : decode mG_stepsBetween.2.1 37 = .ok (.lload 7, 2) := by decide +kernel
theorem dG_stepsBetween_39 : decode mG_stepsBetween.2.1 39 = .ok (.aload_n 0, 1) := by decide +kernel
theorem dG_stepsBetween_40 : decode mG_stepsBetween.2.1 40 = .ok (.lload 7, 2) := by decide +kernel
theorem dG_stepsBetween_42 : decode mG_stepsBetween.2.1 42 = .ok (.invokevirtual 77, 3) := by decide +kernel
theorem dG_stepsBetween_45 : decode mG_stepsBetween.2.1 45 = .ok (.lload_n 3, 1) := by decide +kernel
theorem dG_stepsBetween_46 : decode mG_stepsBetween.2.1 46 = .ok (.land, 1) := by decide +kernel
theorem dG_stepsBetween_47 : decode mG_stepsBetween.2.1 47 = .ok (.lor, 1) := by decide +kernel
theorem dG_stepsBetween_48 : decode mG_stepsBetween.2.1 48 = .ok (.lstore 10, 2) := by decide +kernel
theorem dG_stepsBetween_50 : decode mG_stepsBetween.2.1 50 = .ok (.lload 10, 2) := by decide +kernel
theorem dG_stepsBetween_52 : decode mG_stepsBetween.2.1 52 = .ok (.lload 7, 2) := by decide +kernel
theorem dG_stepsBetween_54 : decode mG_stepsBetween.2.1 54 = .ok (.lcmp, 1) := by decide +kernel
theorem dG_stepsBetween_55 : decode mG_stepsBetween.2.1 55 = .ok (.ifCond .ne 6, 3) := by decide +kernel
theorem dG_stepsBetween_58 : decode mG_stepsBetween.2.1 58 = .ok (.bipush (-9), 2) := by decide +kernel
theorem dG_stepsBetween_60 : decode mG_stepsBetween.2.1 60 = .ok (.ireturn, 1) := by decide +kernel
theorem dG_stepsBetween_61 : decode mG_stepsBetween.2.1 61 = .ok (.lload 10, 2) := by decide +kernel
theorem dG_stepsBetween_63 : decode mG_stepsBetween.2.1 63 = .ok (.lstore 7, 2) := by decide +kernel
theorem dG_stepsBetween_65 : decode mG_stepsBetween.2.1 65 = .ok (.iinc 9 1, 3) := by decide +kernel
theorem dG_stepsBetween_68 : decode mG_stepsBetween.2.1 68 = .ok (.goto (-51), 3) := by decide +kernel
theorem dG_stepsBetween_71 : decode mG_stepsBetween.2.1 71 = .ok (.bipush (-9), 2) := by decide +kernel
theorem dG_stepsBetween_73 : decode mG_stepsBetween.2.1 73 = .ok (.ireturn, 1) := by decide +kernel
theorem dG_mostSteps_0 : decode mG_mostSteps.2.1 0 = .ok (.iload_n 1, 1) := by decide +kernel
theorem dG_mostSteps_1 : decode mG_mostSteps.2.1 1 = .ok (.invokestatic 53, 3) := by decide +kernel
theorem dG_mostSteps_4 : decode mG_mostSteps.2.1 4 = .ok (.lload_n 2, 1) := by decide +kernel
theorem dG_mostSteps_5 : decode mG_mostSteps.2.1 5 = .ok (.land, 1) := by decide +kernel
theorem dG_mostSteps_6 : decode mG_mostSteps.2.1 6 = .ok (.lstore 4, 2) := by decide +kernel
theorem dG_mostSteps_8 : decode mG_mostSteps.2.1 8 = .ok (.iconst 0, 1) := by decide +kernel
theorem dG_mostSteps_9 : decode mG_mostSteps.2.1 9 = .ok (.istore 6, 2) := by decide +kernel
theorem dG_mostSteps_11 : decode mG_mostSteps.2.1 11 = .ok (.iload 6, 2) := by decide +kernel
theorem dG_mostSteps_13 : decode mG_mostSteps.2.1 13 = .ok (.bipush 36, 2) := by decide +kernel
theorem dG_mostSteps_15 : decode mG_mostSteps.2.1 15 = .ok (.if_icmp .ge 37, 3) := by decide +kernel
theorem dG_mostSteps_18 : decode mG_mostSteps.2.1 18 = .ok (.lload 4, 2) := by decide +kernel
theorem dG_mostSteps_20 : decode mG_mostSteps.2.1 20 = .ok (.aload_n 0, 1) := by decide +kernel
theorem dG_mostSteps_21 : decode mG_mostSteps.2.1 21 = .ok (.lload 4, 2) := by decide +kernel
theorem dG_mostSteps_23 : decode mG_mostSteps.2.1 23 = .ok (.invokevirtual 77, 3) := by decide +kernel
theorem dG_mostSteps_26 : decode mG_mostSteps.2.1 26 = .ok (.lload_n 2, 1) := by decide +kernel
theorem dG_mostSteps_27 : decode mG_mostSteps.2.1 27 = .ok (.land, 1) := by decide +kernel
theorem dG_mostSteps_28 : decode mG_mostSteps.2.1 28 = .ok (.lor, 1) := by decide +kernel
theorem dG_mostSteps_29 : decode mG_mostSteps.2.1 29 = .ok (.lstore 7, 2) := by decide +kernel
theorem dG_mostSteps_31 : decode mG_mostSteps.2.1 31 = .ok (.lload 7, 2) := by decide +kernel
theorem dG_mostSteps_33 : decode mG_mostSteps.2.1 33 = .ok (.lload 4, 2) := by decide +kernel
theorem dG_mostSteps_35 : decode mG_mostSteps.2.1 35 = .ok (.lcmp, 1) := by decide +kernel
theorem dG_mostSteps_36 : decode mG_mostSteps.2.1 36 = .ok (.ifCond .ne 6, 3) := by decide +kernel
theorem dG_mostSteps_39 : decode mG_mostSteps.2.1 39 = .ok (.iload 6, 2) := by decide +kernel
theorem dG_mostSteps_41 : decode mG_mostSteps.2.1 41 = .ok (.ireturn, 1) := by decide +kernel
theorem dG_mostSteps_42 : decode mG_mostSteps.2.1 42 = .ok (.lload 7, 2) := by decide +kernel
theorem dG_mostSteps_44 : decode mG_mostSteps.2.1 44 = .ok (.lstore 4, 2) := by decide +kernel
theorem dG_mostSteps_46 : decode mG_mostSteps.2.1 46 = .ok (.iinc 6 1, 3) := by decide +kernel
theorem dG_mostSteps_49 : decode mG_mostSteps.2.1 49 = .ok (.goto (-38), 3) := by decide +kernel
theorem dG_mostSteps_52 : decode mG_mostSteps.2.1 52 = .ok (.bipush 35, 2) := by decide +kernel
theorem dG_mostSteps_54 : decode mG_mostSteps.2.1 54 = .ok (.ireturn, 1) := by decide +kernel
theorem dH_init_0 : decode mH_init.2.1 0 = .ok (.aload_n 0, 1) := by decide +kernel
theorem dH_init_1 : decode mH_init.2.1 1 = .ok (.invokespecial 3, 3) := by decide +kernel
theorem dH_init_4 : decode mH_init.2.1 4 = .ok (.aload_n 0, 1) := by decide +kernel
theorem dH_init_5 : decode mH_init.2.1 5 = .ok (.bipush 6, 2) := by decide +kernel
theorem dH_init_7 : decode mH_init.2.1 7 = .ok (.anewarray 9, 3) := by decide +kernel
theorem dH_init_10 : decode mH_init.2.1 10 = .ok (.putfield 11, 3) := by decide +kernel
theorem dH_init_13 : decode mH_init.2.1 13 = .ok (.iconst 0, 1) := by decide +kernel
theorem dH_init_14 : decode mH_init.2.1 14 = .ok (.istore_n 2, 1) := by decide +kernel
theorem dH_init_15 : decode mH_init.2.1 15 = .ok (.iload_n 2, 1) := by decide +kernel
theorem dH_init_16 : decode mH_init.2.1 16 = .ok (.bipush 6, 2) := by decide +kernel
theorem dH_init_18 : decode mH_init.2.1 18 = .ok (.if_icmp .ge 23, 3) := by decide +kernel
theorem dH_init_21 : decode mH_init.2.1 21 = .ok (.aload_n 0, 1) := by decide +kernel
theorem dH_init_22 : decode mH_init.2.1 22 = .ok (.getfield 11, 3) := by decide +kernel
theorem dH_init_25 : decode mH_init.2.1 25 = .ok (.iload_n 2, 1) := by decide +kernel
theorem dH_init_26 : decode mH_init.2.1 26 = .ok (.new 9, 3) := by decide +kernel
theorem dH_init_29 : decode mH_init.2.1 29 = .ok (.dup, 1) := by decide +kernel
theorem dH_init_30 : decode mH_init.2.1 30 = .ok (.aload_n 1, 1) := by decide +kernel
theorem dH_init_31 : decode mH_init.2.1 31 = .ok (.invokespecial 17, 3) := by decide +kernel
theorem dH_init_34 : decode mH_init.2.1 34 = .ok (.aastore, 1) := by decide +kernel
theorem dH_init_35 : decode mH_init.2.1 35 = .ok (.iinc 2 1, 3) := by decide +kernel
theorem dH_init_38 : decode mH_init.2.1 38 = .ok (.goto (-23), 3) := by decide +kernel
theorem dH_init_41 : decode mH_init.2.1 41 = .ok (.return_, 1) := by decide +kernel
theorem dH_slotOf_0 : decode mH_slotOf.2.1 0 = .ok (.iload_n 1, 1) := by decide +kernel
theorem dH_slotOf_1 : decode mH_slotOf.2.1 1 = .ok (.ifCond .lt 18, 3) := by decide +kernel
theorem dH_slotOf_4 : decode mH_slotOf.2.1 4 = .ok (.iload_n 1, 1) := by decide +kernel
theorem dH_slotOf_5 : decode mH_slotOf.2.1 5 = .ok (.bipush 6, 2) := by decide +kernel
theorem dH_slotOf_7 : decode mH_slotOf.2.1 7 = .ok (.if_icmp .ge 12, 3) := by decide +kernel
theorem dH_slotOf_10 : decode mH_slotOf.2.1 10 = .ok (.aload_n 0, 1) := by decide +kernel
theorem dH_slotOf_11 : decode mH_slotOf.2.1 11 = .ok (.getfield 11, 3) := by decide +kernel
theorem dH_slotOf_14 : decode mH_slotOf.2.1 14 = .ok (.iload_n 1, 1) := by decide +kernel
theorem dH_slotOf_15 : decode mH_slotOf.2.1 15 = .ok (.aaload, 1) := by decide +kernel
theorem dH_slotOf_16 : decode mH_slotOf.2.1 16 = .ok (.goto 4, 3) := by decide +kernel
theorem dH_slotOf_19 : decode mH_slotOf.2.1 19 = .ok (.aconst_null, 1) := by decide +kernel
theorem dH_slotOf_20 : decode mH_slotOf.2.1 20 = .ok (.areturn, 1) := by decide +kernel
theorem dH_remember_0 : decode mH_remember.2.1 0 = .ok (.aload_n 0, 1) := by decide +kernel
theorem dH_remember_1 : decode mH_remember.2.1 1 = .ok (.aload_n 0, 1) := by decide +kernel
theorem dH_remember_2 : decode mH_remember.2.1 2 = .ok (.getfield 20, 3) := by decide +kernel
theorem dH_remember_5 : decode mH_remember.2.1 5 = .ok (.iconst 1, 1) := by decide +kernel
theorem dH_remember_6 : decode mH_remember.2.1 6 = .ok (.iadd, 1) := by decide +kernel
theorem dH_remember_7 : decode mH_remember.2.1 7 = .ok (.bipush 6, 2) := by decide +kernel
theorem dH_remember_9 : decode mH_remember.2.1 9 = .ok (.if_icmp .ge 12, 3) := by decide +kernel
theorem dH_remember_12 : decode mH_remember.2.1 12 = .ok (.aload_n 0, 1) := by decide +kernel
theorem dH_remember_13 : decode mH_remember.2.1 13 = .ok (.getfield 20, 3) := by decide +kernel
theorem dH_remember_16 : decode mH_remember.2.1 16 = .ok (.iconst 1, 1) := by decide +kernel
theorem dH_remember_17 : decode mH_remember.2.1 17 = .ok (.iadd, 1) := by decide +kernel
theorem dH_remember_18 : decode mH_remember.2.1 18 = .ok (.goto 4, 3) := by decide +kernel
theorem dH_remember_21 : decode mH_remember.2.1 21 = .ok (.iconst 0, 1) := by decide +kernel
theorem dH_remember_22 : decode mH_remember.2.1 22 = .ok (.putfield 20, 3) := by decide +kernel
theorem dH_remember_25 : decode mH_remember.2.1 25 = .ok (.aload_n 0, 1) := by decide +kernel
theorem dH_remember_26 : decode mH_remember.2.1 26 = .ok (.aload_n 0, 1) := by decide +kernel
theorem dH_remember_27 : decode mH_remember.2.1 27 = .ok (.getfield 20, 3) := by decide +kernel
theorem dH_remember_30 : decode mH_remember.2.1 30 = .ok (.invokevirtual 24, 3) := by decide +kernel
theorem dH_remember_33 : decode mH_remember.2.1 33 = .ok (.astore_n 2, 1) := by decide +kernel
theorem dH_remember_34 : decode mH_remember.2.1 34 = .ok (.aload_n 2, 1) := by decide +kernel
theorem dH_remember_35 : decode mH_remember.2.1 35 = .ok (.ifnull 23, 3) := by decide +kernel
theorem dH_remember_38 : decode mH_remember.2.1 38 = .ok (.aload_n 2, 1) := by decide +kernel
theorem dH_remember_39 : decode mH_remember.2.1 39 = .ok (.aload_n 1, 1) := by decide +kernel
theorem dH_remember_40 : decode mH_remember.2.1 40 = .ok (.invokevirtual 28, 3) := by decide +kernel
theorem dH_remember_43 : decode mH_remember.2.1 43 = .ok (.aload_n 0, 1) := by decide +kernel
theorem dH_remember_44 : decode mH_remember.2.1 44 = .ok (.aload_n 0, 1) := by decide +kernel
theorem dH_remember_45 : decode mH_remember.2.1 45 = .ok (.getfield 32, 3) := by decide +kernel
theorem dH_remember_48 : decode mH_remember.2.1 48 = .ok (.iconst 1, 1) := by decide +kernel
theorem dH_remember_49 : decode mH_remember.2.1 49 = .ok (.iadd, 1) := by decide +kernel
theorem dH_remember_50 : decode mH_remember.2.1 50 = .ok (.bipush 6, 2) := by decide +kernel
theorem dH_remember_52 : decode mH_remember.2.1 52 = .ok (.invokestatic 35, 3) := by decide +kernel
theorem dH_remember_55 : decode mH_remember.2.1 55 = .ok (.putfield 32, 3) := by decide +kernel
theorem dH_remember_58 : decode mH_remember.2.1 58 = .ok (.return_, 1) := by decide +kernel
theorem dH_bringBack_0 : decode mH_bringBack.2.1 0 = .ok (.aload_n 0, 1) := by decide +kernel
theorem dH_bringBack_1 : decode mH_bringBack.2.1 1 = .ok (.aload_n 0, 1) := by decide +kernel
theorem dH_bringBack_2 : decode mH_bringBack.2.1 2 = .ok (.getfield 20, 3) := by decide +kernel
theorem dH_bringBack_5 : decode mH_bringBack.2.1 5 = .ok (.invokevirtual 24, 3) := by decide +kernel
theorem dH_bringBack_8 : decode mH_bringBack.2.1 8 = .ok (.astore_n 2, 1) := by decide +kernel
theorem dH_bringBack_9 : decode mH_bringBack.2.1 9 = .ok (.aload_n 0, 1) := by decide +kernel
theorem dH_bringBack_10 : decode mH_bringBack.2.1 10 = .ok (.getfield 32, 3) := by decide +kernel
theorem dH_bringBack_13 : decode mH_bringBack.2.1 13 = .ok (.ifCond .le 7, 3) := by decide +kernel
theorem dH_bringBack_16 : decode mH_bringBack.2.1 16 = .ok (.aload_n 2, 1) := by decide +kernel
theorem dH_bringBack_17 : decode mH_bringBack.2.1 17 = .ok (.ifnonnull 5, 3) := by decide +kernel
theorem dH_bringBack_20 : decode mH_bringBack.2.1 20 = .ok (.iconst 0, 1) := by decide +kernel
theorem dH_bringBack_21 : decode mH_bringBack.2.1 21 = .ok (.ireturn, 1) := by decide +kernel
theorem dH_bringBack_22 : decode mH_bringBack.2.1 22 = .ok (.aload_n 1, 1) := by decide +kernel
theorem dH_bringBack_23 : decode mH_bringBack.2.1 23 = .ok (.aload_n 2, 1) := by decide +kernel
theorem dH_bringBack_24 : decode mH_bringBack.2.1 24 = .ok (.invokevirtual 28, 3) := by decide +kernel
theorem dH_bringBack_27 : decode mH_bringBack.2.1 27 = .ok (.aload_n 0, 1) := by decide +kernel
theorem dH_bringBack_28 : decode mH_bringBack.2.1 28 = .ok (.aload_n 0, 1) := by decide +kernel
theorem dH_bringBack_29 : decode mH_bringBack.2.1 29 = .ok (.getfield 20, 3) := by decide +kernel
theorem dH_bringBack_32 : decode mH_bringBack.2.1 32 = .ok (.ifCond .le 12, 3) := by decide +kernel
theorem dH_bringBack_35 : decode mH_bringBack.2.1 35 = .ok (.aload_n 0, 1) := by decide +kernel
theorem dH_bringBack_36 : decode mH_bringBack.2.1 36 = .ok (.getfield 20, 3) := by decide +kernel
theorem dH_bringBack_39 : decode mH_bringBack.2.1 39 = .ok (.iconst 1, 1) := by decide +kernel
theorem dH_bringBack_40 : decode mH_bringBack.2.1 40 = .ok (.isub, 1) := by decide +kernel
theorem dH_bringBack_41 : decode mH_bringBack.2.1 41 = .ok (.goto 4, 3) := by decide +kernel
theorem dH_bringBack_44 : decode mH_bringBack.2.1 44 = .ok (.iconst 5, 1) := by decide +kernel
theorem dH_bringBack_45 : decode mH_bringBack.2.1 45 = .ok (.putfield 20, 3) := by decide +kernel
theorem dH_bringBack_48 : decode mH_bringBack.2.1 48 = .ok (.aload_n 0, 1) := by decide +kernel
theorem dH_bringBack_49 : decode mH_bringBack.2.1 49 = .ok (.dup, 1) := by decide +kernel
theorem dH_bringBack_50 : decode mH_bringBack.2.1 50 = .ok (.getfield 32, 3) := by decide +kernel
theorem dH_bringBack_53 : decode mH_bringBack.2.1 53 = .ok (.iconst 1, 1) := by decide +kernel
theorem dH_bringBack_54 : decode mH_bringBack.2.1 54 = .ok (.isub, 1) := by decide +kernel
theorem dH_bringBack_55 : decode mH_bringBack.2.1 55 = .ok (.putfield 32, 3) := by decide +kernel
theorem dH_bringBack_58 : decode mH_bringBack.2.1 58 = .ok (.iconst 1, 1) := by decide +kernel
theorem dH_bringBack_59 : decode mH_bringBack.2.1 59 = .ok (.ireturn, 1) := by decide +kernel
theorem dP_init_0 : decode mP_init.2.1 0 = .ok (.aload_n 0, 1) := by decide +kernel
theorem dP_init_1 : decode mP_init.2.1 1 = .ok (.invokespecial 3, 3) := by decide +kernel
theorem dP_init_4 : decode mP_init.2.1 4 = .ok (.return_, 1) := by decide +kernel
theorem dP_act_0 : decode mP_act.2.1 0 = .ok (.aload_n 1, 1) := by decide +kernel
theorem dP_act_1 : decode mP_act.2.1 1 = .ok (.getfield 9, 3) := by decide +kernel
theorem dP_act_4 : decode mP_act.2.1 4 = .ok (.aload_n 1, 1) := by decide +kernel
theorem dP_act_5 : decode mP_act.2.1 5 = .ok (.getfield 15, 3) := by decide +kernel
theorem dP_act_8 : decode mP_act.2.1 8 = .ok (.getfield 19, 3) := by decide +kernel
theorem dP_act_11 : decode mP_act.2.1 11 = .ok (.if_icmp .ne 36, 3) := by decide +kernel
theorem dP_act_14 : decode mP_act.2.1 14 = .ok (.aload_n 1, 1) := by decide +kernel
theorem dP_act_15 : decode mP_act.2.1 15 = .ok (.getfield 24, 3) := by decide +kernel
theorem dP_act_18 : decode mP_act.2.1 18 = .ok (.aload_n 1, 1) := by decide +kernel
theorem dP_act_19 : decode mP_act.2.1 19 = .ok (.getfield 27, 3) := by decide +kernel
theorem dP_act_22 : decode mP_act.2.1 22 = .ok (.if_icmp .ge 25, 3) := by decide +kernel
theorem dP_act_25 : decode mP_act.2.1 25 = .ok (.aload_n 1, 1) := by decide +kernel
theorem dP_act_26 : decode mP_act.2.1 26 = .ok (.aload_n 1, 1) := by decide +kernel
theorem dP_act_27 : decode mP_act.2.1 27 = .ok (.getfield 24, 3) := by decide +kernel
theorem dP_act_30 : decode mP_act.2.1 30 = .ok (.aload_n 1, 1) := by decide +kernel
theorem dP_act_31 : decode mP_act.2.1 31 = .ok (.getfield 30, 3) := by decide +kernel
theorem dP_act_34 : decode mP_act.2.1 34 = .ok (.iadd, 1) := by decide +kernel
theorem dP_act_35 : decode mP_act.2.1 35 = .ok (.aload_n 1, 1) := by decide +kernel
theorem dP_act_36 : decode mP_act.2.1 36 = .ok (.getfield 27, 3) := by decide +kernel
theorem dP_act_39 : decode mP_act.2.1 39 = .ok (.invokestatic 33, 3) := by decide +kernel
theorem dP_act_42 : decode mP_act.2.1 42 = .ok (.putfield 24, 3) := by decide +kernel
theorem dP_act_45 : decode mP_act.2.1 45 = .ok (.iconst 1, 1) := by decide +kernel
theorem dP_act_46 : decode mP_act.2.1 46 = .ok (.ireturn, 1) := by decide +kernel
theorem dP_act_47 : decode mP_act.2.1 47 = .ok (.aload_n 1, 1) := by decide +kernel
theorem dP_act_48 : decode mP_act.2.1 48 = .ok (.getfield 24, 3) := by decide +kernel
theorem dP_act_51 : decode mP_act.2.1 51 = .ok (.ifCond .gt 5, 3) := by decide +kernel
theorem dP_act_54 : decode mP_act.2.1 54 = .ok (.iconst 0, 1) := by decide +kernel
theorem dP_act_55 : decode mP_act.2.1 55 = .ok (.ireturn, 1) := by decide +kernel
theorem dP_act_56 : decode mP_act.2.1 56 = .ok (.aload_n 0, 1) := by decide +kernel
theorem dP_act_57 : decode mP_act.2.1 57 = .ok (.aload_n 1, 1) := by decide +kernel
theorem dP_act_58 : decode mP_act.2.1 58 = .ok (.invokevirtual 39, 3) := by decide +kernel
theorem dP_act_61 : decode mP_act.2.1 61 = .ok (.istore_n 2, 1) := by decide +kernel
theorem dP_act_62 : decode mP_act.2.1 62 = .ok (.iload_n 2, 1) := by decide +kernel
theorem dP_act_63 : decode mP_act.2.1 63 = .ok (.iconst (-1), 1) := by decide +kernel
theorem dP_act_64 : decode mP_act.2.1 64 = .ok (.if_icmp .ne 5, 3) := by decide +kernel
theorem dP_act_67 : decode mP_act.2.1 67 = .ok (.iconst 0, 1) := by decide +kernel
theorem dP_act_68 : decode mP_act.2.1 68 = .ok (.ireturn, 1) := by decide +kernel
theorem dP_act_69 : decode mP_act.2.1 69 = .ok (.aload_n 1, 1) := by decide +kernel
theorem dP_act_70 : decode mP_act.2.1 70 = .ok (.iload_n 2, 1) := by decide +kernel
theorem dP_act_71 : decode mP_act.2.1 71 = .ok (.invokevirtual 45, 3) := by decide +kernel
theorem dP_act_74 : decode mP_act.2.1 74 = .ok (.pop, 1) := by decide +kernel
theorem dP_act_75 : decode mP_act.2.1 75 = .ok (.iconst 2, 1) := by decide +kernel
theorem dP_act_76 : decode mP_act.2.1 76 = .ok (.ireturn, 1) := by decide +kernel
theorem dP_isThrough_0 : decode mP_isThrough.2.1 0 = .ok (.aload_n 1, 1) := by decide +kernel
theorem dP_isThrough_1 : decode mP_isThrough.2.1 1 = .ok (.getfield 9, 3) := by decide +kernel
theorem dP_isThrough_4 : decode mP_isThrough.2.1 4 = .ok (.aload_n 1, 1) := by decide +kernel
theorem dP_isThrough_5 : decode mP_isThrough.2.1 5 = .ok (.getfield 15, 3) := by decide +kernel
theorem dP_isThrough_8 : decode mP_isThrough.2.1 8 = .ok (.getfield 19, 3) := by decide +kernel
theorem dP_isThrough_11 : decode mP_isThrough.2.1 11 = .ok (.if_icmp .ne 26, 3) := by decide +kernel
theorem dP_isThrough_14 : decode mP_isThrough.2.1 14 = .ok (.aload_n 1, 1) := by decide +kernel
theorem dP_isThrough_15 : decode mP_isThrough.2.1 15 = .ok (.getfield 24, 3) := by decide +kernel
theorem dP_isThrough_18 : decode mP_isThrough.2.1 18 = .ok (.aload_n 1, 1) := by decide +kernel
theorem dP_isThrough_19 : decode mP_isThrough.2.1 19 = .ok (.getfield 27, 3) := by decide +kernel
theorem dP_isThrough_22 : decode mP_isThrough.2.1 22 = .ok (.if_icmp .ne 15, 3) := by decide +kernel
theorem dP_isThrough_25 : decode mP_isThrough.2.1 25 = .ok (.aload_n 0, 1) := by decide +kernel
theorem dP_isThrough_26 : decode mP_isThrough.2.1 26 = .ok (.aload_n 1, 1) := by decide +kernel
theorem dP_isThrough_27 : decode mP_isThrough.2.1 27 = .ok (.invokevirtual 49, 3) := by decide +kernel
theorem dP_isThrough_30 : decode mP_isThrough.2.1 30 = .ok (.ifCond .ne 7, 3) := by decide +kernel
theorem dP_isThrough_33 : decode mP_isThrough.2.1 33 = .ok (.iconst 1, 1) := by decide +kernel
theorem dP_isThrough_34 : decode mP_isThrough.2.1 34 = .ok (.goto 4, 3) := by decide +kernel
theorem dP_isThrough_37 : decode mP_isThrough.2.1 37 = .ok (.iconst 0, 1) := by decide +kernel
theorem dP_isThrough_38 : decode mP_isThrough.2.1 38 = .ok (.ireturn, 1) := by decide +kernel
theorem dP_nextHand_0 : decode mP_nextHand.2.1 0 = .ok (.aload_n 0, 1) := by decide +kernel
theorem dP_nextHand_1 : decode mP_nextHand.2.1 1 = .ok (.aload_n 1, 1) := by decide +kernel
theorem dP_nextHand_2 : decode mP_nextHand.2.1 2 = .ok (.invokevirtual 49, 3) := by decide +kernel
theorem dP_nextHand_5 : decode mP_nextHand.2.1 5 = .ok (.ifCond .eq 34, 3) := by decide +kernel
theorem dP_nextHand_8 : decode mP_nextHand.2.1 8 = .ok (.aload_n 1, 1) := by decide +kernel
theorem dP_nextHand_9 : decode mP_nextHand.2.1 9 = .ok (.getfield 9, 3) := by decide +kernel
theorem dP_nextHand_12 : decode mP_nextHand.2.1 12 = .ok (.aload_n 0, 1) := by decide +kernel
theorem dP_nextHand_13 : decode mP_nextHand.2.1 13 = .ok (.getfield 53, 3) := by decide +kernel
theorem dP_nextHand_16 : decode mP_nextHand.2.1 16 = .ok (.if_icmp .ne 14, 3) := by decide +kernel
theorem dP_nextHand_19 : decode mP_nextHand.2.1 19 = .ok (.aload_n 1, 1) := by decide +kernel
theorem dP_nextHand_20 : decode mP_nextHand.2.1 20 = .ok (.aload_n 0, 1) := by decide +kernel
theorem dP_nextHand_21 : decode mP_nextHand.2.1 21 = .ok (.getfield 56, 3) := by decide +kernel
theorem dP_nextHand_24 : decode mP_nextHand.2.1 24 = .ok (.invokestatic 59, 3) := by decide +kernel
theorem dP_nextHand_27 : decode mP_nextHand.2.1 27 = .ok (.goto 11, 3) := by decide +kernel
theorem dP_nextHand_30 : decode mP_nextHand.2.1 30 = .ok (.aload_n 1, 1) := by decide +kernel
theorem dP_nextHand_31 : decode mP_nextHand.2.1 31 = .ok (.aload_n 0, 1) := by decide +kernel
theorem dP_nextHand_32 : decode mP_nextHand.2.1 32 = .ok (.getfield 53, 3) := by decide +kernel
theorem dP_nextHand_35 : decode mP_nextHand.2.1 35 = .ok (.invokestatic 63, 3) := by decide +kernel
theorem dP_nextHand_38 : decode mP_nextHand.2.1 38 = .ok (.ireturn, 1) := by decide +kernel
theorem dP_nextHand_39 : decode mP_nextHand.2.1 39 = .ok (.aload_n 1, 1) := by decide +kernel
theorem dP_nextHand_40 : decode mP_nextHand.2.1 40 = .ok (.getfield 9, 3) := by decide +kernel
theorem dP_nextHand_43 : decode mP_nextHand.2.1 43 = .ok (.aload_n 1, 1) := by decide +kernel
theorem dP_nextHand_44 : decode mP_nextHand.2.1 44 = .ok (.getfield 15, 3) := by decide +kernel
theorem dP_nextHand_47 : decode mP_nextHand.2.1 47 = .ok (.getfield 19, 3) := by decide +kernel
theorem dP_nextHand_50 : decode mP_nextHand.2.1 50 = .ok (.if_icmp .ne 7, 3) := by decide +kernel
theorem dP_nextHand_53 : decode mP_nextHand.2.1 53 = .ok (.iconst (-1), 1) := by decide +kernel
theorem dP_nextHand_54 : decode mP_nextHand.2.1 54 = .ok (.goto 14, 3) := by decide +kernel
theorem dP_nextHand_57 : decode mP_nextHand.2.1 57 = .ok (.aload_n 1, 1) := by decide +kernel
theorem dP_nextHand_58 : decode mP_nextHand.2.1 58 = .ok (.aload_n 1, 1) := by decide +kernel
theorem dP_nextHand_59 : decode mP_nextHand.2.1 59 = .ok (.getfield 15, 3) := by decide +kernel
theorem dP_nextHand_62 : decode mP_nextHand.2.1 62 = .ok (.getfield 19, 3) := by decide +kernel
theorem dP_nextHand_65 : decode mP_nextHand.2.1 65 = .ok (.invokestatic 63, 3) := by decide +kernel
theorem dP_nextHand_68 : decode mP_nextHand.2.1 68 = .ok (.ireturn, 1) := by decide +kernel
theorem dP_handOnto_0 : decode mP_handOnto.2.1 0 = .ok (.iconst 0, 1) := by decide +kernel
theorem dP_handOnto_1 : decode mP_handOnto.2.1 1 = .ok (.istore_n 2, 1) := by decide +kernel
theorem dP_handOnto_2 : decode mP_handOnto.2.1 2 = .ok (.iload_n 2, 1) := by decide +kernel
theorem dP_handOnto_3 : decode mP_handOnto.2.1 3 = .ok (.iconst 4, 1) := by decide +kernel
theorem dP_handOnto_4 : decode mP_handOnto.2.1 4 = .ok (.if_icmp .ge 27, 3) := by decide +kernel
theorem dP_handOnto_7 : decode mP_handOnto.2.1 7 = .ok (.aload_n 0, 1) := by decide +kernel
theorem dP_handOnto_8 : decode mP_handOnto.2.1 8 = .ok (.getfield 15, 3) := by decide +kernel
theorem dP_handOnto_11 : decode mP_handOnto.2.1 11 = .ok (.aload_n 0, 1) := by decide +kernel
theorem dP_handOnto_12 : decode mP_handOnto.2.1 12 = .ok (.getfield 9, 3) := by decide +kernel
theorem dP_handOnto_15 : decode mP_handOnto.2.1 15 = .ok (.iload_n 2, 1) := by decide +kernel
theorem dP_handOnto_16 : decode mP_handOnto.2.1 16 = .ok (.invokevirtual 66, 3) := by decide +kernel
theorem dP_handOnto_19 : decode mP_handOnto.2.1 19 = .ok (.iload_n 1, 1) := by decide +kernel
theorem dP_handOnto_20 : decode mP_handOnto.2.1 20 = .ok (.if_icmp .ne 5, 3) := by decide +kernel
theorem dP_handOnto_23 : decode mP_handOnto.2.1 23 = .ok (.iload_n 2, 1) := by decide +kernel
theorem dP_handOnto_24 : decode mP_handOnto.2.1 24 = .ok (.ireturn, 1) := by decide +kernel
theorem dP_handOnto_25 : decode mP_handOnto.2.1 25 = .ok (.iinc 2 1, 3) := by decide +kernel
theorem dP_handOnto_28 : decode mP_handOnto.2.1 28 = .ok (.goto (-26), 3) := by decide +kernel
theorem dP_handOnto_31 : decode mP_handOnto.2.1 31 = .ok (.iconst (-1), 1) := by decide +kernel
theorem dP_handOnto_32 : decode mP_handOnto.2.1 32 = .ok (.ireturn, 1) := by decide +kernel
theorem dP_handNearer_0 : decode mP_handNearer.2.1 0 = .ok (.aload_n 0, 1) := by decide +kernel
theorem dP_handNearer_1 : decode mP_handNearer.2.1 1 = .ok (.getfield 15, 3) := by decide +kernel
theorem dP_handNearer_4 : decode mP_handNearer.2.1 4 = .ok (.aload_n 0, 1) := by decide +kernel
theorem dP_handNearer_5 : decode mP_handNearer.2.1 5 = .ok (.getfield 9, 3) := by decide +kernel
theorem dP_handNearer_8 : decode mP_handNearer.2.1 8 = .ok (.iload_n 1, 1) := by decide +kernel
theorem dP_handNearer_9 : decode mP_handNearer.2.1 9 = .ok (.aload_n 0, 1) := by decide +kernel
theorem dP_handNearer_10 : decode mP_handNearer.2.1 10 = .ok (.getfield 69, 3) := by decide +kernel
theorem dP_handNearer_13 : decode mP_handNearer.2.1 13 = .ok (.invokevirtual 73, 3) := by decide +kernel
theorem dP_handNearer_16 : decode mP_handNearer.2.1 16 = .ok (.istore_n 2, 1) := by decide +kernel
theorem dP_handNearer_17 : decode mP_handNearer.2.1 17 = .ok (.iload_n 2, 1) := by decide +kernel
theorem dP_handNearer_18 : decode mP_handNearer.2.1 18 = .ok (.bipush (-9), 2) := by decide +kernel
theorem dP_handNearer_20 : decode mP_handNearer.2.1 20 = .ok (.if_icmp .ne 5, 3) := by decide +kernel
theorem dP_handNearer_23 : decode mP_handNearer.2.1 23 = .ok (.iconst (-1), 1) := by decide +kernel
theorem dP_handNearer_24 : decode mP_handNearer.2.1 24 = .ok (.ireturn, 1) := by decide +kernel
theorem dP_handNearer_25 : decode mP_handNearer.2.1 25 = .ok (.iconst 0, 1) := by decide +kernel
theorem dP_handNearer_26 : decode mP_handNearer.2.1 26 = .ok (.istore_n 3, 1) := by decide +kernel
theorem dP_handNearer_27 : decode mP_handNearer.2.1 27 = .ok (.iload_n 3, 1) := by decide +kernel
theorem dP_handNearer_28 : decode mP_handNearer.2.1 28 = .ok (.iconst 4, 1) := by decide +kernel
theorem dP_handNearer_29 : decode mP_handNearer.2.1 29 = .ok (.if_icmp .ge 45, 3) := by decide +kernel
theorem dP_handNearer_32 : decode mP_handNearer.2.1 32 = .ok (.aload_n 0, 1) := by decide +kernel
theorem dP_handNearer_33 : decode mP_handNearer.2.1 33 = .ok (.getfield 15, 3) := by decide +kernel
theorem dP_handNearer_36 : decode mP_handNearer.2.1 36 = .ok (.aload_n 0, 1) := by decide +kernel
theorem dP_handNearer_37 : decode mP_handNearer.2.1 37 = .ok (.getfield 9, 3) := by decide +kernel
theorem dP_handNearer_40 : decode mP_handNearer.2.1 40 = .ok (.iload_n 3, 1) := by decide +kernel
theorem dP_handNearer_41 : decode mP_handNearer.2.1 41 = .ok (.invokevirtual 66, 3) := by decide +kernel
theorem dP_handNearer_44 : decode mP_handNearer.2.1 44 = .ok (.istore 4, 2) := by decide +kernel
theorem dP_handNearer_46 : decode mP_handNearer.2.1 46 = .ok (.aload_n 0, 1) := by decide +kernel
theorem dP_handNearer_47 : decode mP_handNearer.2.1 47 = .ok (.getfield 15, 3) := by decide +kernel
theorem dP_handNearer_50 : decode mP_handNearer.2.1 50 = .ok (.iload 4, 2) := by decide +kernel
theorem dP_handNearer_52 : decode mP_handNearer.2.1 52 = .ok (.iload_n 1, 1) := by decide +kernel
theorem dP_handNearer_53 : decode mP_handNearer.2.1 53 = .ok (.aload_n 0, 1) := by decide +kernel
theorem dP_handNearer_54 : decode mP_handNearer.2.1 54 = .ok (.getfield 69, 3) := by decide +kernel
theorem dP_handNearer_57 : decode mP_handNearer.2.1 57 = .ok (.invokevirtual 73, 3) := by decide +kernel
theorem dP_handNearer_60 : decode mP_handNearer.2.1 60 = .ok (.iload_n 2, 1) := by decide +kernel
theorem dP_handNearer_61 : decode mP_handNearer.2.1 61 = .ok (.iconst 1, 1) := by decide +kernel
theorem dP_handNearer_62 : decode mP_handNearer.2.1 62 = .ok (.isub, 1) := by decide +kernel
theorem dP_handNearer_63 : decode mP_handNearer.2.1 63 = .ok (.if_icmp .ne 5, 3) := by decide +kernel
theorem dP_handNearer_66 : decode mP_handNearer.2.1 66 = .ok (.iload_n 3, 1) := by decide +kernel
theorem dP_handNearer_67 : decode mP_handNearer.2.1 67 = .ok (.ireturn, 1) := by decide +kernel
theorem dP_handNearer_68 : decode mP_handNearer.2.1 68 = .ok (.iinc 3 1, 3) := by decide +kernel
theorem dP_handNearer_71 : decode mP_handNearer.2.1 71 = .ok (.goto (-44), 3) := by decide +kernel
theorem dP_handNearer_74 : decode mP_handNearer.2.1 74 = .ok (.iconst (-1), 1) := by decide +kernel
theorem dP_handNearer_75 : decode mP_handNearer.2.1 75 = .ok (.ireturn, 1) := by decide +kernel
theorem dP_findsTarget_0 : decode mP_findsTarget.2.1 0 = .ok (.aload_n 1, 1) := by decide +kernel
theorem dP_findsTarget_1 : decode mP_findsTarget.2.1 1 = .ok (.getfield 15, 3) := by decide +kernel
theorem dP_findsTarget_4 : decode mP_findsTarget.2.1 4 = .ok (.astore_n 2, 1) := by decide +kernel
theorem dP_findsTarget_5 : decode mP_findsTarget.2.1 5 = .ok (.aload_n 2, 1) := by decide +kernel
theorem dP_findsTarget_6 : decode mP_findsTarget.2.1 6 = .ok (.getfield 77, 3) := by decide +kernel
theorem dP_findsTarget_9 : decode mP_findsTarget.2.1 9 = .ok (.aload_n 2, 1) := by decide +kernel
theorem dP_findsTarget_10 : decode mP_findsTarget.2.1 10 = .ok (.getfield 80, 3) := by decide +kernel
theorem dP_findsTarget_13 : decode mP_findsTarget.2.1 13 = .ok (.ldc2_w 83, 3) := by decide +kernel
theorem dP_findsTarget_16 : decode mP_findsTarget.2.1 16 = .ok (.lxor, 1) := by decide +kernel
theorem dP_findsTarget_17 : decode mP_findsTarget.2.1 17 = .ok (.land, 1) := by decide +kernel
theorem dP_findsTarget_18 : decode mP_findsTarget.2.1 18 = .ok (.aload_n 1, 1) := by decide +kernel
theorem dP_findsTarget_19 : decode mP_findsTarget.2.1 19 = .ok (.getfield 69, 3) := by decide +kernel
theorem dP_findsTarget_22 : decode mP_findsTarget.2.1 22 = .ok (.ldc2_w 83, 3) := by decide +kernel
theorem dP_findsTarget_25 : decode mP_findsTarget.2.1 25 = .ok (.lxor, 1) := by decide +kernel
theorem dP_findsTarget_26 : decode mP_findsTarget.2.1 26 = .ok (.land, 1) := by decide +kernel
theorem dP_findsTarget_27 : decode mP_findsTarget.2.1 27 = .ok (.aload_n 1, 1) := by decide +kernel
theorem dP_findsTarget_28 : decode mP_findsTarget.2.1 28 = .ok (.getfield 85, 3) := by decide +kernel
theorem dP_findsTarget_31 : decode mP_findsTarget.2.1 31 = .ok (.ldc2_w 83, 3) := by decide +kernel
theorem dP_findsTarget_34 : decode mP_findsTarget.2.1 34 = .ok (.lxor, 1) := by decide +kernel
theorem dP_findsTarget_35 : decode mP_findsTarget.2.1 35 = .ok (.land, 1) := by decide +kernel
theorem dP_findsTarget_36 : decode mP_findsTarget.2.1 36 = .ok (.lstore_n 3, 1) := by decide +kernel
theorem dP_findsTarget_37 : decode mP_findsTarget.2.1 37 = .ok (.aload_n 1, 1) := by decide +kernel
theorem dP_findsTarget_38 : decode mP_findsTarget.2.1 38 = .ok (.getfield 9, 3) := by decide +kernel
theorem dP_findsTarget_41 : decode mP_findsTarget.2.1 41 = .ok (.invokestatic 88, 3) := by decide +kernel
theorem dP_findsTarget_44 : decode mP_findsTarget.2.1 44 = .ok (.aload_n 1, 1) := by decide +kernel
theorem dP_findsTarget_45 : decode mP_findsTarget.2.1 45 = .ok (.getfield 69, 3) := by decide +kernel
theorem dP_findsTarget_48 : decode mP_findsTarget.2.1 48 = .ok (.land, 1) := by decide +kernel
theorem dP_findsTarget_49 : decode mP_findsTarget.2.1 49 = .ok (.lstore 5, 2) := by decide +kernel
theorem dP_findsTarget_51 : decode mP_findsTarget.2.1 51 = .ok (.lload 5, 2) := by decide +kernel
theorem dP_findsTarget_53 : decode mP_findsTarget.2.1 53 = .ok (.lstore 7, 2) := by decide +kernel
theorem dP_findsTarget_55 : decode mP_findsTarget.2.1 55 = .ok (.iconst 0, 1) := by decide +kernel
theorem dP_findsTarget_56 : decode mP_findsTarget.2.1 56 = .ok (.istore 9, 2) := by decide +kernel
theorem dP_findsTarget_58 : decode mP_findsTarget.2.1 58 = .ok (.iload 9, 2) := by decide +kernel
theorem dP_findsTarget_60 : decode mP_findsTarget.2.1 60 = .ok (.bipush 36, 2) := by decide +kernel
theorem dP_findsTarget_62 : decode mP_findsTarget.2.1 62 = .ok (.if_icmp .ge 146, 3) := by decide +kernel
theorem dP_findsTarget_65 : decode mP_findsTarget.2.1 65 = .ok (.lload 7, 2) := by decide +kernel
theorem dP_findsTarget_67 : decode mP_findsTarget.2.1 67 = .ok (.lconst 0, 1) := by decide +kernel
theorem dP_findsTarget_68 : decode mP_findsTarget.2.1 68 = .ok (.lcmp, 1) := by decide +kernel
theorem dP_findsTarget_69 : decode mP_findsTarget.2.1 69 = .ok (.ifCond .eq 139, 3) := by decide +kernel
theorem dP_findsTarget_72 : decode mP_findsTarget.2.1 72 = .ok (.aload_n 1, 1) := by decide +kernel
theorem dP_findsTarget_73 : decode mP_findsTarget.2.1 73 = .ok (.getfield 24, 3) := by decide +kernel
theorem dP_findsTarget_76 : decode mP_findsTarget.2.1 76 = .ok (.iload 9, 2) := by decide +kernel
theorem dP_findsTarget_78 : decode mP_findsTarget.2.1 78 = .ok (.iconst 1, 1) := by decide +kernel
theorem dP_findsTarget_79 : decode mP_findsTarget.2.1 79 = .ok (.iadd, 1) := by decide +kernel
theorem dP_findsTarget_80 : decode mP_findsTarget.2.1 80 = .ok (.isub, 1) := by decide +kernel
theorem dP_findsTarget_81 : decode mP_findsTarget.2.1 81 = .ok (.iconst 1, 1) := by decide +kernel
theorem dP_findsTarget_82 : decode mP_findsTarget.2.1 82 = .ok (.isub, 1) := by decide +kernel
theorem dP_findsTarget_83 : decode mP_findsTarget.2.1 83 = .ok (.istore 10, 2) := by decide +kernel
theorem dP_findsTarget_85 : decode mP_findsTarget.2.1 85 = .ok (.lload 7, 2) := by decide +kernel
theorem dP_findsTarget_87 : decode mP_findsTarget.2.1 87 = .ok (.aload_n 2, 1) := by decide +kernel
theorem dP_findsTarget_88 : decode mP_findsTarget.2.1 88 = .ok (.iload 10, 2) := by decide +kernel
theorem dP_findsTarget_90 : decode mP_findsTarget.2.1 90 = .ok (.aload_n 2, 1) := by decide +kernel
theorem dP_findsTarget_91 : decode mP_findsTarget.2.1 91 = .ok (.getfield 19, 3) := by decide +kernel
theorem dP_findsTarget_94 : decode mP_findsTarget.2.1 94 = .ok (.aload_n 1, 1) := by decide +kernel
theorem dP_findsTarget_95 : decode mP_findsTarget.2.1 95 = .ok (.getfield 69, 3) := by decide +kernel
theorem dP_findsTarget_98 : decode mP_findsTarget.2.1 98 = .ok (.invokevirtual 92, 3) := by decide +kernel
theorem dP_findsTarget_101 : decode mP_findsTarget.2.1 101 = .ok (.land, 1) := by decide +kernel
theorem dP_findsTarget_102 : decode mP_findsTarget.2.1 102 = .ok (.lstore 11, 2) := by decide +kernel
theorem dP_findsTarget_104 : decode mP_findsTarget.2.1 104 = .ok (.aload_n 2, 1) := by decide +kernel
theorem dP_findsTarget_105 : decode mP_findsTarget.2.1 105 = .ok (.lload 11, 2) := by decide +kernel
theorem dP_findsTarget_107 : decode mP_findsTarget.2.1 107 = .ok (.invokevirtual 96, 3) := by decide +kernel
theorem dP_findsTarget_110 : decode mP_findsTarget.2.1 110 = .ok (.lload_n 3, 1) := by decide +kernel
theorem dP_findsTarget_111 : decode mP_findsTarget.2.1 111 = .ok (.land, 1) := by decide +kernel
theorem dP_findsTarget_112 : decode mP_findsTarget.2.1 112 = .ok (.lstore 13, 2) := by decide +kernel
theorem dP_findsTarget_114 : decode mP_findsTarget.2.1 114 = .ok (.lload 13, 2) := by decide +kernel
theorem dP_findsTarget_116 : decode mP_findsTarget.2.1 116 = .ok (.lconst 0, 1) := by decide +kernel
theorem dP_findsTarget_117 : decode mP_findsTarget.2.1 117 = .ok (.lcmp, 1) := by decide +kernel
theorem dP_findsTarget_118 : decode mP_findsTarget.2.1 118 = .ok (.ifCond .eq 57, 3) := by decide +kernel
theorem dP_findsTarget_121 : decode mP_findsTarget.2.1 121 = .ok (.aload_n 0, 1) := by decide +kernel
theorem dP_findsTarget_122 : decode mP_findsTarget.2.1 122 = .ok (.lload 13, 2) := by decide +kernel
theorem dP_findsTarget_124 : decode mP_findsTarget.2.1 124 = .ok (.invokestatic 100, 3) := by decide +kernel
theorem dP_findsTarget_127 : decode mP_findsTarget.2.1 127 = .ok (.putfield 56, 3) := by decide +kernel
theorem dP_findsTarget_130 : decode mP_findsTarget.2.1 130 = .ok (.aload_n 0, 1) := by decide +kernel
theorem dP_findsTarget_131 : decode mP_findsTarget.2.1 131 = .ok (.lload 11, 2) := by decide +kernel
theorem dP_findsTarget_133 : decode mP_findsTarget.2.1 133 = .ok (.aload_n 2, 1) := by decide +kernel
theorem dP_findsTarget_134 : decode mP_findsTarget.2.1 134 = .ok (.aload_n 0, 1) := by decide +kernel
theorem dP_findsTarget_135 : decode mP_findsTarget.2.1 135 = .ok (.getfield 56, 3) := by decide +kernel
theorem dP_findsTarget_138 : decode mP_findsTarget.2.1 138 = .ok (.invokestatic 88, 3) := by decide +kernel
theorem dP_findsTarget_141 : decode mP_findsTarget.2.1 141 = .ok (.invokevirtual 96, 3) := by decide +kernel
theorem dP_findsTarget_144 : decode mP_findsTarget.2.1 144 = .ok (.land, 1) := by decide +kernel
theorem dP_findsTarget_145 : decode mP_findsTarget.2.1 145 = .ok (.invokestatic 100, 3) := by decide +kernel
theorem dP_findsTarget_148 : decode mP_findsTarget.2.1 148 = .ok (.putfield 53, 3) := by decide +kernel
theorem dP_findsTarget_151 : decode mP_findsTarget.2.1 151 = .ok (.aload_n 0, 1) := by decide +kernel
theorem dP_findsTarget_152 : decode mP_findsTarget.2.1 152 = .ok (.iload 9, 2) := by decide +kernel
theorem dP_findsTarget_154 : decode mP_findsTarget.2.1 154 = .ok (.iconst 1, 1) := by decide +kernel
theorem dP_findsTarget_155 : decode mP_findsTarget.2.1 155 = .ok (.iadd, 1) := by decide +kernel
theorem dP_findsTarget_156 : decode mP_findsTarget.2.1 156 = .ok (.putfield 104, 3) := by decide +kernel
theorem dP_findsTarget_159 : decode mP_findsTarget.2.1 159 = .ok (.aload_n 0, 1) := by decide +kernel
theorem dP_findsTarget_160 : decode mP_findsTarget.2.1 160 = .ok (.aload_n 1, 1) := by decide +kernel
theorem dP_findsTarget_161 : decode mP_findsTarget.2.1 161 = .ok (.aload_n 0, 1) := by decide +kernel
theorem dP_findsTarget_162 : decode mP_findsTarget.2.1 162 = .ok (.getfield 53, 3) := by decide +kernel
theorem dP_findsTarget_165 : decode mP_findsTarget.2.1 165 = .ok (.invokevirtual 107, 3) := by decide +kernel
theorem dP_findsTarget_168 : decode mP_findsTarget.2.1 168 = .ok (.iconst 1, 1) := by decide +kernel
theorem dP_findsTarget_169 : decode mP_findsTarget.2.1 169 = .ok (.iadd, 1) := by decide +kernel
theorem dP_findsTarget_170 : decode mP_findsTarget.2.1 170 = .ok (.putfield 110, 3) := by decide +kernel
theorem dP_findsTarget_173 : decode mP_findsTarget.2.1 173 = .ok (.iconst 1, 1) := by decide +kernel
theorem dP_findsTarget_174 : decode mP_findsTarget.2.1 174 = .ok (.ireturn, 1) := by decide +kernel
theorem dP_findsTarget_175 : decode mP_findsTarget.2.1 175 = .ok (.aload_n 2, 1) := by decide +kernel
theorem dP_findsTarget_176 : decode mP_findsTarget.2.1 176 = .ok (.lload 5, 2) := by decide +kernel
theorem dP_findsTarget_178 : decode mP_findsTarget.2.1 178 = .ok (.invokevirtual 96, 3) := by decide +kernel
theorem dP_findsTarget_181 : decode mP_findsTarget.2.1 181 = .ok (.aload_n 1, 1) := by decide +kernel
theorem dP_findsTarget_182 : decode mP_findsTarget.2.1 182 = .ok (.getfield 69, 3) := by decide +kernel
theorem dP_findsTarget_185 : decode mP_findsTarget.2.1 185 = .ok (.land, 1) := by decide +kernel
theorem dP_findsTarget_186 : decode mP_findsTarget.2.1 186 = .ok (.lload 5, 2) := by decide +kernel
theorem dP_findsTarget_188 : decode mP_findsTarget.2.1 188 = .ok (.ldc2_w 83, 3) := by decide +kernel
theorem dP_findsTarget_191 : decode mP_findsTarget.2.1 191 = .ok (.lxor, 1) := by decide +kernel
theorem dP_findsTarget_192 : decode mP_findsTarget.2.1 192 = .ok (.land, 1) := by decide +kernel
theorem dP_findsTarget_193 : decode mP_findsTarget.2.1 193 = .ok (.lstore 7, 2) := by decide +kernel
theorem dP_findsTarget_195 : decode mP_findsTarget.2.1 195 = .ok (.lload 5, 2) := by decide +kernel
theorem dP_findsTarget_197 : decode mP_findsTarget.2.1 197 = .ok (.lload 7, 2) := by decide +kernel
theorem dP_findsTarget_199 : decode mP_findsTarget.2.1 199 = .ok (.lor, 1) := by decide +kernel
theorem dP_findsTarget_200 : decode mP_findsTarget.2.1 200 = .ok (.lstore 5, 2) := by decide +kernel
theorem dP_findsTarget_202 : decode mP_findsTarget.2.1 202 = .ok (.iinc 9 1, 3) := by decide +kernel
theorem dP_findsTarget_205 : decode mP_findsTarget.2.1 205 = .ok (.goto (-147), 3) := by decide +kernel
theorem dP_findsTarget_208 : decode mP_findsTarget.2.1 208 = .ok (.iconst 0, 1) := by decide +kernel
theorem dP_findsTarget_209 : decode mP_findsTarget.2.1 209 = .ok (.ireturn, 1) := by decide +kernel
theorem dS_init_0 : decode mS_init.2.1 0 = .ok (.aload_n 0, 1) := by decide +kernel
theorem dS_init_1 : decode mS_init.2.1 1 = .ok (.invokespecial 3, 3) := by decide +kernel
theorem dS_init_4 : decode mS_init.2.1 4 = .ok (.aload_n 0, 1) := by decide +kernel
theorem dS_init_5 : decode mS_init.2.1 5 = .ok (.iconst 4, 1) := by decide +kernel
theorem dS_init_6 : decode mS_init.2.1 6 = .ok (.newarray .long, 2) := by decide +kernel
theorem dS_init_8 : decode mS_init.2.1 8 = .ok (.putfield 9, 3) := by decide +kernel
theorem dS_init_11 : decode mS_init.2.1 11 = .ok (.aload_n 0, 1) := by decide +kernel
theorem dS_init_12 : decode mS_init.2.1 12 = .ok (.aload_n 1, 1) := by decide +kernel
theorem dS_init_13 : decode mS_init.2.1 13 = .ok (.putfield 15, 3) := by decide +kernel
theorem dS_init_16 : decode mS_init.2.1 16 = .ok (.return_, 1) := by decide +kernel
theorem dS_begin_0 : decode mS_begin.2.1 0 = .ok (.aload_n 0, 1) := by decide +kernel
theorem dS_begin_1 : decode mS_begin.2.1 1 = .ok (.lconst 0, 1) := by decide +kernel
theorem dS_begin_2 : decode mS_begin.2.1 2 = .ok (.putfield 19, 3) := by decide +kernel
theorem dS_begin_5 : decode mS_begin.2.1 5 = .ok (.aload_n 0, 1) := by decide +kernel
theorem dS_begin_6 : decode mS_begin.2.1 6 = .ok (.bipush 40, 2) := by decide +kernel
theorem dS_begin_8 : decode mS_begin.2.1 8 = .ok (.putfield 23, 3) := by decide +kernel
theorem dS_begin_11 : decode mS_begin.2.1 11 = .ok (.aload_n 0, 1) := by decide +kernel
theorem dS_begin_12 : decode mS_begin.2.1 12 = .ok (.iconst 5, 1) := by decide +kernel
theorem dS_begin_13 : decode mS_begin.2.1 13 = .ok (.putfield 27, 3) := by decide +kernel
theorem dS_begin_16 : decode mS_begin.2.1 16 = .ok (.aload_n 0, 1) := by decide +kernel
theorem dS_begin_17 : decode mS_begin.2.1 17 = .ok (.aload_n 0, 1) := by decide +kernel
theorem dS_begin_18 : decode mS_begin.2.1 18 = .ok (.getfield 15, 3) := by decide +kernel
theorem dS_begin_21 : decode mS_begin.2.1 21 = .ok (.getfield 30, 3) := by decide +kernel
theorem dS_begin_24 : decode mS_begin.2.1 24 = .ok (.putfield 35, 3) := by decide +kernel
theorem dS_begin_27 : decode mS_begin.2.1 27 = .ok (.aload_n 0, 1) := by decide +kernel
theorem dS_begin_28 : decode mS_begin.2.1 28 = .ok (.iconst 0, 1) := by decide +kernel
theorem dS_begin_29 : decode mS_begin.2.1 29 = .ok (.putfield 38, 3) := by decide +kernel
theorem dS_begin_32 : decode mS_begin.2.1 32 = .ok (.aload_n 0, 1) := by decide +kernel
theorem dS_begin_33 : decode mS_begin.2.1 33 = .ok (.bipush 40, 2) := by decide +kernel
theorem dS_begin_35 : decode mS_begin.2.1 35 = .ok (.putfield 41, 3) := by decide +kernel
theorem dS_begin_38 : decode mS_begin.2.1 38 = .ok (.aload_n 0, 1) := by decide +kernel
theorem dS_begin_39 : decode mS_begin.2.1 39 = .ok (.aload_n 0, 1) := by decide +kernel
theorem dS_begin_40 : decode mS_begin.2.1 40 = .ok (.getfield 15, 3) := by decide +kernel
theorem dS_begin_43 : decode mS_begin.2.1 43 = .ok (.getfield 30, 3) := by decide +kernel
theorem dS_begin_46 : decode mS_begin.2.1 46 = .ok (.invokestatic 44, 3) := by decide +kernel
theorem dS_begin_49 : decode mS_begin.2.1 49 = .ok (.putfield 48, 3) := by decide +kernel
theorem dS_begin_52 : decode mS_begin.2.1 52 = .ok (.aload_n 0, 1) := by decide +kernel
theorem dS_begin_53 : decode mS_begin.2.1 53 = .ok (.lconst 0, 1) := by decide +kernel
theorem dS_begin_54 : decode mS_begin.2.1 54 = .ok (.putfield 51, 3) := by decide +kernel
theorem dS_begin_57 : decode mS_begin.2.1 57 = .ok (.aload_n 0, 1) := by decide +kernel
theorem dS_begin_58 : decode mS_begin.2.1 58 = .ok (.iconst 0, 1) := by decide +kernel
theorem dS_begin_59 : decode mS_begin.2.1 59 = .ok (.putfield 54, 3) := by decide +kernel
theorem dS_begin_62 : decode mS_begin.2.1 62 = .ok (.return_, 1) := by decide +kernel
theorem dS_copyFrom_0 : decode mS_copyFrom.2.1 0 = .ok (.aload_n 0, 1) := by decide +kernel
theorem dS_copyFrom_1 : decode mS_copyFrom.2.1 1 = .ok (.aload_n 1, 1) := by decide +kernel
theorem dS_copyFrom_2 : decode mS_copyFrom.2.1 2 = .ok (.getfield 19, 3) := by decide +kernel
theorem dS_copyFrom_5 : decode mS_copyFrom.2.1 5 = .ok (.putfield 19, 3) := by decide +kernel
theorem dS_copyFrom_8 : decode mS_copyFrom.2.1 8 = .ok (.aload_n 0, 1) := by decide +kernel
theorem dS_copyFrom_9 : decode mS_copyFrom.2.1 9 = .ok (.aload_n 1, 1) := by decide +kernel
theorem dS_copyFrom_10 : decode mS_copyFrom.2.1 10 = .ok (.getfield 23, 3) := by decide +kernel
theorem dS_copyFrom_13 : decode mS_copyFrom.2.1 13 = .ok (.putfield 23, 3) := by decide +kernel
theorem dS_copyFrom_16 : decode mS_copyFrom.2.1 16 = .ok (.aload_n 0, 1) := by decide +kernel
theorem dS_copyFrom_17 : decode mS_copyFrom.2.1 17 = .ok (.aload_n 1, 1) := by decide +kernel
theorem dS_copyFrom_18 : decode mS_copyFrom.2.1 18 = .ok (.getfield 27, 3) := by decide +kernel
theorem dS_copyFrom_21 : decode mS_copyFrom.2.1 21 = .ok (.putfield 27, 3) := by decide +kernel
theorem dS_copyFrom_24 : decode mS_copyFrom.2.1 24 = .ok (.aload_n 0, 1) := by decide +kernel
theorem dS_copyFrom_25 : decode mS_copyFrom.2.1 25 = .ok (.aload_n 1, 1) := by decide +kernel
theorem dS_copyFrom_26 : decode mS_copyFrom.2.1 26 = .ok (.getfield 35, 3) := by decide +kernel
theorem dS_copyFrom_29 : decode mS_copyFrom.2.1 29 = .ok (.putfield 35, 3) := by decide +kernel
theorem dS_copyFrom_32 : decode mS_copyFrom.2.1 32 = .ok (.aload_n 0, 1) := by decide +kernel
theorem dS_copyFrom_33 : decode mS_copyFrom.2.1 33 = .ok (.aload_n 1, 1) := by decide +kernel
theorem dS_copyFrom_34 : decode mS_copyFrom.2.1 34 = .ok (.getfield 38, 3) := by decide +kernel
theorem dS_copyFrom_37 : decode mS_copyFrom.2.1 37 = .ok (.putfield 38, 3) := by decide +kernel
theorem dS_copyFrom_40 : decode mS_copyFrom.2.1 40 = .ok (.aload_n 0, 1) := by decide +kernel
theorem dS_copyFrom_41 : decode mS_copyFrom.2.1 41 = .ok (.aload_n 1, 1) := by decide +kernel
theorem dS_copyFrom_42 : decode mS_copyFrom.2.1 42 = .ok (.getfield 41, 3) := by decide +kernel
theorem dS_copyFrom_45 : decode mS_copyFrom.2.1 45 = .ok (.putfield 41, 3) := by decide +kernel
theorem dS_copyFrom_48 : decode mS_copyFrom.2.1 48 = .ok (.aload_n 0, 1) := by decide +kernel
theorem dS_copyFrom_49 : decode mS_copyFrom.2.1 49 = .ok (.aload_n 1, 1) := by decide +kernel
theorem dS_copyFrom_50 : decode mS_copyFrom.2.1 50 = .ok (.getfield 48, 3) := by decide +kernel
theorem dS_copyFrom_53 : decode mS_copyFrom.2.1 53 = .ok (.putfield 48, 3) := by decide +kernel
theorem dS_copyFrom_56 : decode mS_copyFrom.2.1 56 = .ok (.aload_n 0, 1) := by decide +kernel
theorem dS_copyFrom_57 : decode mS_copyFrom.2.1 57 = .ok (.aload_n 1, 1) := by decide +kernel
theorem dS_copyFrom_58 : decode mS_copyFrom.2.1 58 = .ok (.getfield 51, 3) := by decide +kernel
theorem dS_copyFrom_61 : decode mS_copyFrom.2.1 61 = .ok (.putfield 51, 3) := by decide +kernel
theorem dS_copyFrom_64 : decode mS_copyFrom.2.1 64 = .ok (.aload_n 0, 1) := by decide +kernel
theorem dS_copyFrom_65 : decode mS_copyFrom.2.1 65 = .ok (.aload_n 1, 1) := by decide +kernel
theorem dS_copyFrom_66 : decode mS_copyFrom.2.1 66 = .ok (.getfield 54, 3) := by decide +kernel
theorem dS_copyFrom_69 : decode mS_copyFrom.2.1 69 = .ok (.putfield 54, 3) := by decide +kernel
theorem dS_copyFrom_72 : decode mS_copyFrom.2.1 72 = .ok (.aload_n 1, 1) := by decide +kernel
theorem dS_copyFrom_73 : decode mS_copyFrom.2.1 73 = .ok (.getfield 9, 3) := by decide +kernel
theorem dS_copyFrom_76 : decode mS_copyFrom.2.1 76 = .ok (.iconst 0, 1) := by decide +kernel
theorem dS_copyFrom_77 : decode mS_copyFrom.2.1 77 = .ok (.aload_n 0, 1) := by decide +kernel
theorem dS_copyFrom_78 : decode mS_copyFrom.2.1 78 = .ok (.getfield 9, 3) := by decide +kernel
theorem dS_copyFrom_81 : decode mS_copyFrom.2.1 81 = .ok (.iconst 0, 1) := by decide +kernel
theorem dS_copyFrom_82 : decode mS_copyFrom.2.1 82 = .ok (.iconst 4, 1) := by decide +kernel
theorem dS_copyFrom_83 : decode mS_copyFrom.2.1 83 = .ok (.invokestatic 58, 3) := by decide +kernel
theorem dS_copyFrom_86 : decode mS_copyFrom.2.1 86 = .ok (.return_, 1) := by decide +kernel
theorem dS_freeCells_0 : decode mS_freeCells.2.1 0 = .ok (.aload_n 0, 1) := by decide +kernel
theorem dS_freeCells_1 : decode mS_freeCells.2.1 1 = .ok (.getfield 15, 3) := by decide +kernel
theorem dS_freeCells_4 : decode mS_freeCells.2.1 4 = .ok (.getfield 64, 3) := by decide +kernel
theorem dS_freeCells_7 : decode mS_freeCells.2.1 7 = .ok (.aload_n 0, 1) := by decide +kernel
theorem dS_freeCells_8 : decode mS_freeCells.2.1 8 = .ok (.getfield 15, 3) := by decide +kernel
theorem dS_freeCells_11 : decode mS_freeCells.2.1 11 = .ok (.getfield 30, 3) := by decide +kernel
theorem dS_freeCells_14 : decode mS_freeCells.2.1 14 = .ok (.invokestatic 44, 3) := by decide +kernel
theorem dS_freeCells_17 : decode mS_freeCells.2.1 17 = .ok (.lor, 1) := by decide +kernel
theorem dS_freeCells_18 : decode mS_freeCells.2.1 18 = .ok (.aload_n 0, 1) := by decide +kernel
theorem dS_freeCells_19 : decode mS_freeCells.2.1 19 = .ok (.getfield 15, 3) := by decide +kernel
theorem dS_freeCells_22 : decode mS_freeCells.2.1 22 = .ok (.getfield 67, 3) := by decide +kernel
theorem dS_freeCells_25 : decode mS_freeCells.2.1 25 = .ok (.lor, 1) := by decide +kernel
theorem dS_freeCells_26 : decode mS_freeCells.2.1 26 = .ok (.aload_n 0, 1) := by decide +kernel
theorem dS_freeCells_27 : decode mS_freeCells.2.1 27 = .ok (.getfield 19, 3) := by decide +kernel
theorem dS_freeCells_30 : decode mS_freeCells.2.1 30 = .ok (.ldc2_w 70, 3) := by decide +kernel
theorem dS_freeCells_33 : decode mS_freeCells.2.1 33 = .ok (.lxor, 1) := by decide +kernel
theorem dS_freeCells_34 : decode mS_freeCells.2.1 34 = .ok (.land, 1) := by decide +kernel
theorem dS_freeCells_35 : decode mS_freeCells.2.1 35 = .ok (.lreturn, 1) := by decide +kernel
theorem dS_kindOf_0 : decode mS_kindOf.2.1 0 = .ok (.iload_n 1, 1) := by decide +kernel
theorem dS_kindOf_1 : decode mS_kindOf.2.1 1 = .ok (.aload_n 0, 1) := by decide +kernel
theorem dS_kindOf_2 : decode mS_kindOf.2.1 2 = .ok (.getfield 15, 3) := by decide +kernel
theorem dS_kindOf_5 : decode mS_kindOf.2.1 5 = .ok (.getfield 30, 3) := by decide +kernel
theorem dS_kindOf_8 : decode mS_kindOf.2.1 8 = .ok (.if_icmp .ne 6, 3) := by decide +kernel
theorem dS_kindOf_11 : decode mS_kindOf.2.1 11 = .ok (.bipush 6, 2) := by decide +kernel
theorem dS_kindOf_13 : decode mS_kindOf.2.1 13 = .ok (.ireturn, 1) := by decide +kernel
theorem dS_kindOf_14 : decode mS_kindOf.2.1 14 = .ok (.aload_n 0, 1) := by decide +kernel
theorem dS_kindOf_15 : decode mS_kindOf.2.1 15 = .ok (.getfield 15, 3) := by decide +kernel
theorem dS_kindOf_18 : decode mS_kindOf.2.1 18 = .ok (.getfield 64, 3) := by decide +kernel
theorem dS_kindOf_21 : decode mS_kindOf.2.1 21 = .ok (.iload_n 1, 1) := by decide +kernel
theorem dS_kindOf_22 : decode mS_kindOf.2.1 22 = .ok (.invokestatic 72, 3) := by decide +kernel
theorem dS_kindOf_25 : decode mS_kindOf.2.1 25 = .ok (.ifCond .eq 5, 3) := by decide +kernel
theorem dS_kindOf_28 : decode mS_kindOf.2.1 28 = .ok (.iconst 0, 1) := by decide +kernel
theorem dS_kindOf_29 : decode mS_kindOf.2.1 29 = .ok (.ireturn, 1) := by decide +kernel
theorem dS_kindOf_30 : decode mS_kindOf.2.1 30 = .ok (.aload_n 0, 1) := by decide +kernel
theorem dS_kindOf_31 : decode mS_kindOf.2.1 31 = .ok (.getfield 15, 3) := by decide +kernel
theorem dS_kindOf_34 : decode mS_kindOf.2.1 34 = .ok (.getfield 67, 3) := by decide +kernel
theorem dS_kindOf_37 : decode mS_kindOf.2.1 37 = .ok (.iload_n 1, 1) := by decide +kernel
theorem dS_kindOf_38 : decode mS_kindOf.2.1 38 = .ok (.invokestatic 72, 3) := by decide +kernel
theorem dS_kindOf_41 : decode mS_kindOf.2.1 41 = .ok (.ifCond .eq 20, 3) := by decide +kernel
theorem dS_kindOf_44 : decode mS_kindOf.2.1 44 = .ok (.aload_n 0, 1) := by decide +kernel
theorem dS_kindOf_45 : decode mS_kindOf.2.1 45 = .ok (.getfield 19, 3) := by decide +kernel
theorem dS_kindOf_48 : decode mS_kindOf.2.1 48 = .ok (.iload_n 1, 1) := by decide +kernel
theorem dS_kindOf_49 : decode mS_kindOf.2.1 49 = .ok (.invokestatic 72, 3) := by decide +kernel
theorem dS_kindOf_52 : decode mS_kindOf.2.1 52 = .ok (.ifCond .eq 7, 3) := by decide +kernel
theorem dS_kindOf_55 : decode mS_kindOf.2.1 55 = .ok (.iconst 5, 1) := by decide +kernel
theorem dS_kindOf_56 : decode mS_kindOf.2.1 56 = .ok (.goto 4, 3) := by decide +kernel
theorem dS_kindOf_59 : decode mS_kindOf.2.1 59 = .ok (.iconst 4, 1) := by decide +kernel
theorem dS_kindOf_60 : decode mS_kindOf.2.1 60 = .ok (.ireturn, 1) := by decide +kernel
theorem dS_kindOf_61 : decode mS_kindOf.2.1 61 = .ok (.aload_n 0, 1) := by decide +kernel
theorem dS_kindOf_62 : decode mS_kindOf.2.1 62 = .ok (.getfield 15, 3) := by decide +kernel
theorem dS_kindOf_65 : decode mS_kindOf.2.1 65 = .ok (.getfield 76, 3) := by decide +kernel
theorem dS_kindOf_68 : decode mS_kindOf.2.1 68 = .ok (.iload_n 1, 1) := by decide +kernel
theorem dS_kindOf_69 : decode mS_kindOf.2.1 69 = .ok (.invokestatic 72, 3) := by decide +kernel
theorem dS_kindOf_72 : decode mS_kindOf.2.1 72 = .ok (.ifCond .eq 5, 3) := by decide +kernel
theorem dS_kindOf_75 : decode mS_kindOf.2.1 75 = .ok (.iconst 3, 1) := by decide +kernel
theorem dS_kindOf_76 : decode mS_kindOf.2.1 76 = .ok (.ireturn, 1) := by decide +kernel
theorem dS_kindOf_77 : decode mS_kindOf.2.1 77 = .ok (.aload_n 0, 1) := by decide +kernel
theorem dS_kindOf_78 : decode mS_kindOf.2.1 78 = .ok (.getfield 15, 3) := by decide +kernel
theorem dS_kindOf_81 : decode mS_kindOf.2.1 81 = .ok (.getfield 79, 3) := by decide +kernel
theorem dS_kindOf_84 : decode mS_kindOf.2.1 84 = .ok (.iload_n 1, 1) := by decide +kernel
theorem dS_kindOf_85 : decode mS_kindOf.2.1 85 = .ok (.invokestatic 72, 3) := by decide +kernel
theorem dS_kindOf_88 : decode mS_kindOf.2.1 88 = .ok (.ifCond .eq 7, 3) := by decide +kernel
theorem dS_kindOf_91 : decode mS_kindOf.2.1 91 = .ok (.iconst 2, 1) := by decide +kernel
theorem dS_kindOf_92 : decode mS_kindOf.2.1 92 = .ok (.goto 4, 3) := by decide +kernel
theorem dS_kindOf_95 : decode mS_kindOf.2.1 95 = .ok (.iconst 1, 1) := by decide +kernel
theorem dS_kindOf_96 : decode mS_kindOf.2.1 96 = .ok (.ireturn, 1) := by decide +kernel
theorem dS_knowledgeOf_0 : decode mS_knowledgeOf.2.1 0 = .ok (.aload_n 0, 1) := by decide +kernel
theorem dS_knowledgeOf_1 : decode mS_knowledgeOf.2.1 1 = .ok (.getfield 48, 3) := by decide +kernel
theorem dS_knowledgeOf_4 : decode mS_knowledgeOf.2.1 4 = .ok (.iload_n 1, 1) := by decide +kernel
theorem dS_knowledgeOf_5 : decode mS_knowledgeOf.2.1 5 = .ok (.invokestatic 72, 3) := by decide +kernel
theorem dS_knowledgeOf_8 : decode mS_knowledgeOf.2.1 8 = .ok (.ifCond .eq 5, 3) := by decide +kernel
theorem dS_knowledgeOf_11 : decode mS_knowledgeOf.2.1 11 = .ok (.iconst 1, 1) := by decide +kernel
theorem dS_knowledgeOf_12 : decode mS_knowledgeOf.2.1 12 = .ok (.ireturn, 1) := by decide +kernel
theorem dS_knowledgeOf_13 : decode mS_knowledgeOf.2.1 13 = .ok (.aload_n 0, 1) := by decide +kernel
theorem dS_knowledgeOf_14 : decode mS_knowledgeOf.2.1 14 = .ok (.getfield 51, 3) := by decide +kernel
theorem dS_knowledgeOf_17 : decode mS_knowledgeOf.2.1 17 = .ok (.iload_n 1, 1) := by decide +kernel
theorem dS_knowledgeOf_18 : decode mS_knowledgeOf.2.1 18 = .ok (.invokestatic 72, 3) := by decide +kernel
theorem dS_knowledgeOf_21 : decode mS_knowledgeOf.2.1 21 = .ok (.ifCond .eq 7, 3) := by decide +kernel
theorem dS_knowledgeOf_24 : decode mS_knowledgeOf.2.1 24 = .ok (.iconst 2, 1) := by decide +kernel
theorem dS_knowledgeOf_25 : decode mS_knowledgeOf.2.1 25 = .ok (.goto 4, 3) := by decide +kernel
theorem dS_knowledgeOf_28 : decode mS_knowledgeOf.2.1 28 = .ok (.iconst 0, 1) := by decide +kernel
theorem dS_knowledgeOf_29 : decode mS_knowledgeOf.2.1 29 = .ok (.ireturn, 1) := by decide +kernel
theorem dS_homeOf_0 : decode mS_homeOf.2.1 0 = .ok (.aload_n 0, 1) := by decide +kernel
theorem dS_homeOf_1 : decode mS_homeOf.2.1 1 = .ok (.getfield 15, 3) := by decide +kernel
theorem dS_homeOf_4 : decode mS_homeOf.2.1 4 = .ok (.iload_n 1, 1) := by decide +kernel
theorem dS_homeOf_5 : decode mS_homeOf.2.1 5 = .ok (.aload_n 0, 1) := by decide +kernel
theorem dS_homeOf_6 : decode mS_homeOf.2.1 6 = .ok (.getfield 15, 3) := by decide +kernel
theorem dS_homeOf_9 : decode mS_homeOf.2.1 9 = .ok (.getfield 30, 3) := by decide +kernel
theorem dS_homeOf_12 : decode mS_homeOf.2.1 12 = .ok (.aload_n 0, 1) := by decide +kernel
theorem dS_homeOf_13 : decode mS_homeOf.2.1 13 = .ok (.getfield 48, 3) := by decide +kernel
theorem dS_homeOf_16 : decode mS_homeOf.2.1 16 = .ok (.invokevirtual 82, 3) := by decide +kernel
theorem dS_homeOf_19 : decode mS_homeOf.2.1 19 = .ok (.ireturn, 1) := by decide +kernel
theorem dS_stepTo_0 : decode mS_stepTo.2.1 0 = .ok (.aload_n 0, 1) := by decide +kernel
theorem dS_stepTo_1 : decode mS_stepTo.2.1 1 = .ok (.iload_n 1, 1) := by decide +kernel
theorem dS_stepTo_2 : decode mS_stepTo.2.1 2 = .ok (.putfield 38, 3) := by decide +kernel
theorem dS_stepTo_5 : decode mS_stepTo.2.1 5 = .ok (.aload_n 0, 1) := by decide +kernel
theorem dS_stepTo_6 : decode mS_stepTo.2.1 6 = .ok (.dup, 1) := by decide +kernel
theorem dS_stepTo_7 : decode mS_stepTo.2.1 7 = .ok (.getfield 41, 3) := by decide +kernel
theorem dS_stepTo_10 : decode mS_stepTo.2.1 10 = .ok (.iconst 1, 1) := by decide +kernel
theorem dS_stepTo_11 : decode mS_stepTo.2.1 11 = .ok (.isub, 1) := by decide +kernel
theorem dS_stepTo_12 : decode mS_stepTo.2.1 12 = .ok (.putfield 41, 3) := by decide +kernel
theorem dS_stepTo_15 : decode mS_stepTo.2.1 15 = .ok (.aload_n 0, 1) := by decide +kernel
theorem dS_stepTo_16 : decode mS_stepTo.2.1 16 = .ok (.getfield 15, 3) := by decide +kernel
theorem dS_stepTo_19 : decode mS_stepTo.2.1 19 = .ok (.aload_n 0, 1) := by decide +kernel
theorem dS_stepTo_20 : decode mS_stepTo.2.1 20 = .ok (.getfield 35, 3) := by decide +kernel
theorem dS_stepTo_23 : decode mS_stepTo.2.1 23 = .ok (.iload_n 1, 1) := by decide +kernel
theorem dS_stepTo_24 : decode mS_stepTo.2.1 24 = .ok (.invokevirtual 86, 3) := by decide +kernel
theorem dS_stepTo_27 : decode mS_stepTo.2.1 27 = .ok (.istore_n 2, 1) := by decide +kernel
theorem dS_stepTo_28 : decode mS_stepTo.2.1 28 = .ok (.aload_n 0, 1) := by decide +kernel
theorem dS_stepTo_29 : decode mS_stepTo.2.1 29 = .ok (.iload_n 2, 1) := by decide +kernel
theorem dS_stepTo_30 : decode mS_stepTo.2.1 30 = .ok (.invokevirtual 90, 3) := by decide +kernel
theorem dS_stepTo_33 : decode mS_stepTo.2.1 33 = .ok (.istore_n 3, 1) := by decide +kernel
theorem dS_stepTo_34 : decode mS_stepTo.2.1 34 = .ok (.aload_n 0, 1) := by decide +kernel
theorem dS_stepTo_35 : decode mS_stepTo.2.1 35 = .ok (.getfield 54, 3) := by decide +kernel
theorem dS_stepTo_38 : decode mS_stepTo.2.1 38 = .ok (.ifCond .eq 11, 3) := by decide +kernel
theorem dS_stepTo_41 : decode mS_stepTo.2.1 41 = .ok (.aload_n 0, 1) := by decide +kernel
theorem dS_stepTo_42 : decode mS_stepTo.2.1 42 = .ok (.iload_n 3, 1) := by decide +kernel
theorem dS_stepTo_43 : decode mS_stepTo.2.1 43 = .ok (.invokevirtual 94, 3) := by decide +kernel
theorem dS_stepTo_46 : decode mS_stepTo.2.1 46 = .ok (.goto 9, 3) := by decide +kernel
theorem dS_stepTo_49 : decode mS_stepTo.2.1 49 = .ok (.aload_n 0, 1) := by decide +kernel
theorem dS_stepTo_50 : decode mS_stepTo.2.1 50 = .ok (.iload_n 2, 1) := by decide +kernel
theorem dS_stepTo_51 : decode mS_stepTo.2.1 51 = .ok (.iload_n 3, 1) := by decide +kernel
theorem dS_stepTo_52 : decode mS_stepTo.2.1 52 = .ok (.invokevirtual 98, 3) := by decide +kernel
theorem dS_stepTo_55 : decode mS_stepTo.2.1 55 = .ok (.iload_n 3, 1) := by decide +kernel
theorem dS_stepTo_56 : decode mS_stepTo.2.1 56 = .ok (.ifCond .ne 8, 3) := by decide +kernel
theorem dS_stepTo_59 : decode mS_stepTo.2.1 59 = .ok (.aload_n 0, 1) := by decide +kernel
theorem dS_stepTo_60 : decode mS_stepTo.2.1 60 = .ok (.iload_n 2, 1) := by decide +kernel
theorem dS_stepTo_61 : decode mS_stepTo.2.1 61 = .ok (.putfield 35, 3) := by decide +kernel
theorem dS_stepTo_64 : decode mS_stepTo.2.1 64 = .ok (.iload_n 3, 1) := by decide +kernel
theorem dS_stepTo_65 : decode mS_stepTo.2.1 65 = .ok (.ireturn, 1) := by decide +kernel
theorem dS_outcomeAt_0 : decode mS_outcomeAt.2.1 0 = .ok (.aload_n 0, 1) := by decide +kernel
theorem dS_outcomeAt_1 : decode mS_outcomeAt.2.1 1 = .ok (.invokevirtual 102, 3) := by decide +kernel
theorem dS_outcomeAt_4 : decode mS_outcomeAt.2.1 4 = .ok (.iload_n 1, 1) := by decide +kernel
theorem dS_outcomeAt_5 : decode mS_outcomeAt.2.1 5 = .ok (.invokestatic 72, 3) := by decide +kernel
theorem dS_outcomeAt_8 : decode mS_outcomeAt.2.1 8 = .ok (.ifCond .eq 5, 3) := by decide +kernel
theorem dS_outcomeAt_11 : decode mS_outcomeAt.2.1 11 = .ok (.iconst 0, 1) := by decide +kernel
theorem dS_outcomeAt_12 : decode mS_outcomeAt.2.1 12 = .ok (.ireturn, 1) := by decide +kernel
theorem dS_outcomeAt_13 : decode mS_outcomeAt.2.1 13 = .ok (.aload_n 0, 1) := by decide +kernel
theorem dS_outcomeAt_14 : decode mS_outcomeAt.2.1 14 = .ok (.getfield 15, 3) := by decide +kernel
theorem dS_outcomeAt_17 : decode mS_outcomeAt.2.1 17 = .ok (.getfield 79, 3) := by decide +kernel
theorem dS_outcomeAt_20 : decode mS_outcomeAt.2.1 20 = .ok (.iload_n 1, 1) := by decide +kernel
theorem dS_outcomeAt_21 : decode mS_outcomeAt.2.1 21 = .ok (.invokestatic 72, 3) := by decide +kernel
theorem dS_outcomeAt_24 : decode mS_outcomeAt.2.1 24 = .ok (.ifCond .eq 5, 3) := by decide +kernel
theorem dS_outcomeAt_27 : decode mS_outcomeAt.2.1 27 = .ok (.iconst 2, 1) := by decide +kernel
theorem dS_outcomeAt_28 : decode mS_outcomeAt.2.1 28 = .ok (.ireturn, 1) := by decide +kernel
theorem dS_outcomeAt_29 : decode mS_outcomeAt.2.1 29 = .ok (.aload_n 0, 1) := by decide +kernel
theorem dS_outcomeAt_30 : decode mS_outcomeAt.2.1 30 = .ok (.getfield 15, 3) := by decide +kernel
theorem dS_outcomeAt_33 : decode mS_outcomeAt.2.1 33 = .ok (.getfield 76, 3) := by decide +kernel
theorem dS_outcomeAt_36 : decode mS_outcomeAt.2.1 36 = .ok (.iload_n 1, 1) := by decide +kernel
theorem dS_outcomeAt_37 : decode mS_outcomeAt.2.1 37 = .ok (.invokestatic 72, 3) := by decide +kernel
theorem dS_outcomeAt_40 : decode mS_outcomeAt.2.1 40 = .ok (.ifCond .eq 7, 3) := by decide +kernel
theorem dS_outcomeAt_43 : decode mS_outcomeAt.2.1 43 = .ok (.iconst 3, 1) := by decide +kernel
theorem dS_outcomeAt_44 : decode mS_outcomeAt.2.1 44 = .ok (.goto 4, 3) := by decide +kernel
theorem dS_outcomeAt_47 : decode mS_outcomeAt.2.1 47 = .ok (.iconst 1, 1) := by decide +kernel
theorem dS_outcomeAt_48 : decode mS_outcomeAt.2.1 48 = .ok (.ireturn, 1) := by decide +kernel
theorem dS_learn_0 : decode mS_learn.2.1 0 = .ok (.iload_n 2, 1) := by decide +kernel
theorem dS_learn_1 : decode mS_learn.2.1 1 = .ok (.ifCond .ne 36, 3) := by decide +kernel
theorem dS_learn_4 : decode mS_learn.2.1 4 = .ok (.aload_n 0, 1) := by decide +kernel
theorem dS_learn_5 : decode mS_learn.2.1 5 = .ok (.dup, 1) := by decide +kernel
theorem dS_learn_6 : decode mS_learn.2.1 6 = .ok (.getfield 48, 3) := by decide +kernel
theorem dS_learn_9 : decode mS_learn.2.1 9 = .ok (.iload_n 1, 1) := by decide +kernel
theorem dS_learn_10 : decode mS_learn.2.1 10 = .ok (.invokestatic 44, 3) := by decide +kernel
theorem dS_learn_13 : decode mS_learn.2.1 13 = .ok (.lor, 1) := by decide +kernel
theorem dS_learn_14 : decode mS_learn.2.1 14 = .ok (.putfield 48, 3) := by decide +kernel
theorem dS_learn_17 : decode mS_learn.2.1 17 = .ok (.aload_n 0, 1) := by decide +kernel
theorem dS_learn_18 : decode mS_learn.2.1 18 = .ok (.dup, 1) := by decide +kernel
theorem dS_learn_19 : decode mS_learn.2.1 19 = .ok (.getfield 51, 3) := by decide +kernel
theorem dS_learn_22 : decode mS_learn.2.1 22 = .ok (.iload_n 1, 1) := by decide +kernel
theorem dS_learn_23 : decode mS_learn.2.1 23 = .ok (.invokestatic 44, 3) := by decide +kernel
theorem dS_learn_26 : decode mS_learn.2.1 26 = .ok (.ldc2_w 70, 3) := by decide +kernel
theorem dS_learn_29 : decode mS_learn.2.1 29 = .ok (.lxor, 1) := by decide +kernel
theorem dS_learn_30 : decode mS_learn.2.1 30 = .ok (.land, 1) := by decide +kernel
theorem dS_learn_31 : decode mS_learn.2.1 31 = .ok (.putfield 51, 3) := by decide +kernel
theorem dS_learn_34 : decode mS_learn.2.1 34 = .ok (.goto 38, 3) := by decide +kernel
theorem dS_learn_37 : decode mS_learn.2.1 37 = .ok (.iload_n 2, 1) := by decide +kernel
theorem dS_learn_38 : decode mS_learn.2.1 38 = .ok (.iconst 3, 1) := by decide +kernel
theorem dS_learn_39 : decode mS_learn.2.1 39 = .ok (.if_icmp .eq 33, 3) := by decide +kernel
theorem dS_learn_42 : decode mS_learn.2.1 42 = .ok (.aload_n 0, 1) := by decide +kernel
theorem dS_learn_43 : decode mS_learn.2.1 43 = .ok (.dup, 1) := by decide +kernel
theorem dS_learn_44 : decode mS_learn.2.1 44 = .ok (.getfield 51, 3) := by decide +kernel
theorem dS_learn_47 : decode mS_learn.2.1 47 = .ok (.iload_n 1, 1) := by decide +kernel
theorem dS_learn_48 : decode mS_learn.2.1 48 = .ok (.invokestatic 44, 3) := by decide +kernel
theorem dS_learn_51 : decode mS_learn.2.1 51 = .ok (.lor, 1) := by decide +kernel
theorem dS_learn_52 : decode mS_learn.2.1 52 = .ok (.putfield 51, 3) := by decide +kernel
theorem dS_learn_55 : decode mS_learn.2.1 55 = .ok (.aload_n 0, 1) := by decide +kernel
theorem dS_learn_56 : decode mS_learn.2.1 56 = .ok (.dup, 1) := by decide +kernel
theorem dS_learn_57 : decode mS_learn.2.1 57 = .ok (.getfield 48, 3) := by decide +kernel
theorem dS_learn_60 : decode mS_learn.2.1 60 = .ok (.iload_n 1, 1) := by decide +kernel
theorem dS_learn_61 : decode mS_learn.2.1 61 = .ok (.invokestatic 44, 3) := by decide +kernel
theorem dS_learn_64 : decode mS_learn.2.1 64 = .ok (.ldc2_w 70, 3) := by decide +kernel
theorem dS_learn_67 : decode mS_learn.2.1 67 = .ok (.lxor, 1) := by decide +kernel
theorem dS_learn_68 : decode mS_learn.2.1 68 = .ok (.land, 1) := by decide +kernel
theorem dS_learn_69 : decode mS_learn.2.1 69 = .ok (.putfield 48, 3) := by decide +kernel
theorem dS_learn_72 : decode mS_learn.2.1 72 = .ok (.return_, 1) := by decide +kernel
theorem dS_turn_0 : decode mS_turn.2.1 0 = .ok (.aload_n 0, 1) := by decide +kernel
theorem dS_turn_1 : decode mS_turn.2.1 1 = .ok (.aload_n 0, 1) := by decide +kernel
theorem dS_turn_2 : decode mS_turn.2.1 2 = .ok (.getfield 38, 3) := by decide +kernel
theorem dS_turn_5 : decode mS_turn.2.1 5 = .ok (.iload_n 1, 1) := by decide +kernel
theorem dS_turn_6 : decode mS_turn.2.1 6 = .ok (.invokestatic 106, 3) := by decide +kernel
theorem dS_turn_9 : decode mS_turn.2.1 9 = .ok (.putfield 38, 3) := by decide +kernel
theorem dS_turn_12 : decode mS_turn.2.1 12 = .ok (.aload_n 0, 1) := by decide +kernel
theorem dS_turn_13 : decode mS_turn.2.1 13 = .ok (.getfield 54, 3) := by decide +kernel
theorem dS_turn_16 : decode mS_turn.2.1 16 = .ok (.ifCond .eq 29, 3) := by decide +kernel
theorem dS_turn_19 : decode mS_turn.2.1 19 = .ok (.iconst 0, 1) := by decide +kernel
theorem dS_turn_20 : decode mS_turn.2.1 20 = .ok (.istore_n 2, 1) := by decide +kernel
theorem dS_turn_21 : decode mS_turn.2.1 21 = .ok (.iload_n 2, 1) := by decide +kernel
theorem dS_turn_22 : decode mS_turn.2.1 22 = .ok (.iload_n 1, 1) := by decide +kernel
theorem dS_turn_23 : decode mS_turn.2.1 23 = .ok (.if_icmp .ge 18, 3) := by decide +kernel
theorem dS_turn_26 : decode mS_turn.2.1 26 = .ok (.iload_n 2, 1) := by decide +kernel
theorem dS_turn_27 : decode mS_turn.2.1 27 = .ok (.iconst 4, 1) := by decide +kernel
theorem dS_turn_28 : decode mS_turn.2.1 28 = .ok (.if_icmp .ge 13, 3) := by decide +kernel
theorem dS_turn_31 : decode mS_turn.2.1 31 = .ok (.aload_n 0, 1) := by decide +kernel
theorem dS_turn_32 : decode mS_turn.2.1 32 = .ok (.invokevirtual 109, 3) := by decide +kernel
theorem dS_turn_35 : decode mS_turn.2.1 35 = .ok (.iinc 2 1, 3) := by decide +kernel
theorem dS_turn_38 : decode mS_turn.2.1 38 = .ok (.goto (-17), 3) := by decide +kernel
theorem dS_turn_41 : decode mS_turn.2.1 41 = .ok (.aload_n 0, 1) := by decide +kernel
theorem dS_turn_42 : decode mS_turn.2.1 42 = .ok (.invokevirtual 112, 3) := by decide +kernel
theorem dS_turn_45 : decode mS_turn.2.1 45 = .ok (.return_, 1) := by decide +kernel
theorem dS_scanAround_0 : decode mS_scanAround.2.1 0 = .ok (.iconst 0, 1) := by decide +kernel
theorem dS_scanAround_1 : decode mS_scanAround.2.1 1 = .ok (.istore_n 1, 1) := by decide +kernel
theorem dS_scanAround_2 : decode mS_scanAround.2.1 2 = .ok (.iconst 0, 1) := by decide +kernel
theorem dS_scanAround_3 : decode mS_scanAround.2.1 3 = .ok (.istore_n 2, 1) := by decide +kernel
theorem dS_scanAround_4 : decode mS_scanAround.2.1 4 = .ok (.iload_n 2, 1) := by decide +kernel
theorem dS_scanAround_5 : decode mS_scanAround.2.1 5 = .ok (.iconst 4, 1) := by decide +kernel
theorem dS_scanAround_6 : decode mS_scanAround.2.1 6 = .ok (.if_icmp .ge 52, 3) := by decide +kernel
theorem dS_scanAround_9 : decode mS_scanAround.2.1 9 = .ok (.aload_n 0, 1) := by decide +kernel
theorem dS_scanAround_10 : decode mS_scanAround.2.1 10 = .ok (.aload_n 0, 1) := by decide +kernel
theorem dS_scanAround_11 : decode mS_scanAround.2.1 11 = .ok (.getfield 15, 3) := by decide +kernel
theorem dS_scanAround_14 : decode mS_scanAround.2.1 14 = .ok (.aload_n 0, 1) := by decide +kernel
theorem dS_scanAround_15 : decode mS_scanAround.2.1 15 = .ok (.getfield 35, 3) := by decide +kernel
theorem dS_scanAround_18 : decode mS_scanAround.2.1 18 = .ok (.aload_n 0, 1) := by decide +kernel
theorem dS_scanAround_19 : decode mS_scanAround.2.1 19 = .ok (.getfield 38, 3) := by decide +kernel
theorem dS_scanAround_22 : decode mS_scanAround.2.1 22 = .ok (.iload_n 2, 1) := by decide +kernel
theorem dS_scanAround_23 : decode mS_scanAround.2.1 23 = .ok (.invokestatic 106, 3) := by decide +kernel
theorem dS_scanAround_26 : decode mS_scanAround.2.1 26 = .ok (.invokevirtual 86, 3) := by decide +kernel
theorem dS_scanAround_29 : decode mS_scanAround.2.1 29 = .ok (.invokevirtual 115, 3) := by decide +kernel
theorem dS_scanAround_32 : decode mS_scanAround.2.1 32 = .ok (.istore_n 3, 1) := by decide +kernel
theorem dS_scanAround_33 : decode mS_scanAround.2.1 33 = .ok (.iload_n 1, 1) := by decide +kernel
theorem dS_scanAround_34 : decode mS_scanAround.2.1 34 = .ok (.iconst 3, 1) := by decide +kernel
theorem dS_scanAround_35 : decode mS_scanAround.2.1 35 = .ok (.imul, 1) := by decide +kernel
theorem dS_scanAround_36 : decode mS_scanAround.2.1 36 = .ok (.iload_n 3, 1) := by decide +kernel
theorem dS_scanAround_37 : decode mS_scanAround.2.1 37 = .ok (.iadd, 1) := by decide +kernel
theorem dS_scanAround_38 : decode mS_scanAround.2.1 38 = .ok (.istore_n 1, 1) := by decide +kernel
theorem dS_scanAround_39 : decode mS_scanAround.2.1 39 = .ok (.aload_n 0, 1) := by decide +kernel
theorem dS_scanAround_40 : decode mS_scanAround.2.1 40 = .ok (.getfield 54, 3) := by decide +kernel
theorem dS_scanAround_43 : decode mS_scanAround.2.1 43 = .ok (.ifCond .eq 9, 3) := by decide +kernel
theorem dS_scanAround_46 : decode mS_scanAround.2.1 46 = .ok (.aload_n 0, 1) := by decide +kernel
theorem dS_scanAround_47 : decode mS_scanAround.2.1 47 = .ok (.iload_n 3, 1) := by decide +kernel
theorem dS_scanAround_48 : decode mS_scanAround.2.1 48 = .ok (.iload_n 2, 1) := by decide +kernel
theorem dS_scanAround_49 : decode mS_scanAround.2.1 49 = .ok (.invokevirtual 118, 3) := by decide +kernel
theorem dS_scanAround_52 : decode mS_scanAround.2.1 52 = .ok (.iinc 2 1, 3) := by decide +kernel
theorem dS_scanAround_55 : decode mS_scanAround.2.1 55 = .ok (.goto (-51), 3) := by decide +kernel
theorem dS_scanAround_58 : decode mS_scanAround.2.1 58 = .ok (.aload_n 0, 1) := by decide +kernel
theorem dS_scanAround_59 : decode mS_scanAround.2.1 59 = .ok (.getfield 54, 3) := by decide +kernel
theorem dS_scanAround_62 : decode mS_scanAround.2.1 62 = .ok (.ifCond .eq 7, 3) := by decide +kernel
theorem dS_scanAround_65 : decode mS_scanAround.2.1 65 = .ok (.aload_n 0, 1) := by decide +kernel
theorem dS_scanAround_66 : decode mS_scanAround.2.1 66 = .ok (.invokevirtual 112, 3) := by decide +kernel
theorem dS_scanAround_69 : decode mS_scanAround.2.1 69 = .ok (.iload_n 1, 1) := by decide +kernel
theorem dS_scanAround_70 : decode mS_scanAround.2.1 70 = .ok (.ireturn, 1) := by decide +kernel
theorem dS_seenAt_0 : decode mS_seenAt.2.1 0 = .ok (.aload_n 0, 1) := by decide +kernel
theorem dS_seenAt_1 : decode mS_seenAt.2.1 1 = .ok (.invokevirtual 102, 3) := by decide +kernel
theorem dS_seenAt_4 : decode mS_seenAt.2.1 4 = .ok (.iload_n 1, 1) := by decide +kernel
theorem dS_seenAt_5 : decode mS_seenAt.2.1 5 = .ok (.invokestatic 72, 3) := by decide +kernel
theorem dS_seenAt_8 : decode mS_seenAt.2.1 8 = .ok (.ifCond .eq 5, 3) := by decide +kernel
theorem dS_seenAt_11 : decode mS_seenAt.2.1 11 = .ok (.iconst 0, 1) := by decide +kernel
theorem dS_seenAt_12 : decode mS_seenAt.2.1 12 = .ok (.ireturn, 1) := by decide +kernel
theorem dS_seenAt_13 : decode mS_seenAt.2.1 13 = .ok (.aload_n 0, 1) := by decide +kernel
theorem dS_seenAt_14 : decode mS_seenAt.2.1 14 = .ok (.getfield 15, 3) := by decide +kernel
theorem dS_seenAt_17 : decode mS_seenAt.2.1 17 = .ok (.getfield 76, 3) := by decide +kernel
theorem dS_seenAt_20 : decode mS_seenAt.2.1 20 = .ok (.iload_n 1, 1) := by decide +kernel
theorem dS_seenAt_21 : decode mS_seenAt.2.1 21 = .ok (.invokestatic 72, 3) := by decide +kernel
theorem dS_seenAt_24 : decode mS_seenAt.2.1 24 = .ok (.ifCond .eq 7, 3) := by decide +kernel
theorem dS_seenAt_27 : decode mS_seenAt.2.1 27 = .ok (.iconst 2, 1) := by decide +kernel
theorem dS_seenAt_28 : decode mS_seenAt.2.1 28 = .ok (.goto 4, 3) := by decide +kernel
theorem dS_seenAt_31 : decode mS_seenAt.2.1 31 = .ok (.iconst 1, 1) := by decide +kernel
theorem dS_seenAt_32 : decode mS_seenAt.2.1 32 = .ok (.ireturn, 1) := by decide +kernel
theorem dS_carryTo_0 : decode mS_carryTo.2.1 0 = .ok (.aload_n 0, 1) := by decide +kernel
theorem dS_carryTo_1 : decode mS_carryTo.2.1 1 = .ok (.iload_n 1, 1) := by decide +kernel
theorem dS_carryTo_2 : decode mS_carryTo.2.1 2 = .ok (.putfield 35, 3) := by decide +kernel
theorem dS_carryTo_5 : decode mS_carryTo.2.1 5 = .ok (.aload_n 0, 1) := by decide +kernel
theorem dS_carryTo_6 : decode mS_carryTo.2.1 6 = .ok (.iload_n 2, 1) := by decide +kernel
theorem dS_carryTo_7 : decode mS_carryTo.2.1 7 = .ok (.putfield 38, 3) := by decide +kernel
theorem dS_carryTo_10 : decode mS_carryTo.2.1 10 = .ok (.aload_n 0, 1) := by decide +kernel
theorem dS_carryTo_11 : decode mS_carryTo.2.1 11 = .ok (.iconst 1, 1) := by decide +kernel
theorem dS_carryTo_12 : decode mS_carryTo.2.1 12 = .ok (.putfield 54, 3) := by decide +kernel
theorem dS_carryTo_15 : decode mS_carryTo.2.1 15 = .ok (.iconst 0, 1) := by decide +kernel
theorem dS_carryTo_16 : decode mS_carryTo.2.1 16 = .ok (.istore_n 3, 1) := by decide +kernel
theorem dS_carryTo_17 : decode mS_carryTo.2.1 17 = .ok (.iload_n 3, 1) := by decide +kernel
theorem dS_carryTo_18 : decode mS_carryTo.2.1 18 = .ok (.iconst 4, 1) := by decide +kernel
theorem dS_carryTo_19 : decode mS_carryTo.2.1 19 = .ok (.if_icmp .ge 20, 3) := by decide +kernel
theorem dS_carryTo_22 : decode mS_carryTo.2.1 22 = .ok (.aload_n 0, 1) := by decide +kernel
theorem dS_carryTo_23 : decode mS_carryTo.2.1 23 = .ok (.getfield 9, 3) := by decide +kernel
theorem dS_carryTo_26 : decode mS_carryTo.2.1 26 = .ok (.iload_n 3, 1) := by decide +kernel
theorem dS_carryTo_27 : decode mS_carryTo.2.1 27 = .ok (.aload_n 0, 1) := by decide +kernel
theorem dS_carryTo_28 : decode mS_carryTo.2.1 28 = .ok (.iconst 0, 1) := by decide +kernel
theorem dS_carryTo_29 : decode mS_carryTo.2.1 29 = .ok (.invokevirtual 121, 3) := by decide +kernel
theorem dS_carryTo_32 : decode mS_carryTo.2.1 32 = .ok (.lastore, 1) := by decide +kernel
theorem dS_carryTo_33 : decode mS_carryTo.2.1 33 = .ok (.iinc 3 1, 3) := by decide +kernel
theorem dS_carryTo_36 : decode mS_carryTo.2.1 36 = .ok (.goto (-19), 3) := by decide +kernel
theorem dS_carryTo_39 : decode mS_carryTo.2.1 39 = .ok (.aload_n 0, 1) := by decide +kernel
theorem dS_carryTo_40 : decode mS_carryTo.2.1 40 = .ok (.invokevirtual 124, 3) := by decide +kernel
theorem dS_carryTo_43 : decode mS_carryTo.2.1 43 = .ok (.istore_n 3, 1) := by decide +kernel
theorem dS_carryTo_44 : decode mS_carryTo.2.1 44 = .ok (.aload_n 0, 1) := by decide +kernel
theorem dS_carryTo_45 : decode mS_carryTo.2.1 45 = .ok (.invokevirtual 112, 3) := by decide +kernel
theorem dS_carryTo_48 : decode mS_carryTo.2.1 48 = .ok (.iload_n 3, 1) := by decide +kernel
theorem dS_carryTo_49 : decode mS_carryTo.2.1 49 = .ok (.ireturn, 1) := by decide +kernel
theorem dS_sortOutBy_0 : decode mS_sortOutBy.2.1 0 = .ok (.iload_n 1, 1) := by decide +kernel
theorem dS_sortOutBy_1 : decode mS_sortOutBy.2.1 1 = .ok (.ifCond .ne 16, 3) := by decide +kernel
theorem dS_sortOutBy_4 : decode mS_sortOutBy.2.1 4 = .ok (.aload_n 0, 1) := by decide +kernel
theorem dS_sortOutBy_5 : decode mS_sortOutBy.2.1 5 = .ok (.iconst 0, 1) := by decide +kernel
theorem dS_sortOutBy_6 : decode mS_sortOutBy.2.1 6 = .ok (.iconst 0, 1) := by decide +kernel
theorem dS_sortOutBy_7 : decode mS_sortOutBy.2.1 7 = .ok (.invokevirtual 118, 3) := by decide +kernel
theorem dS_sortOutBy_10 : decode mS_sortOutBy.2.1 10 = .ok (.aload_n 0, 1) := by decide +kernel
theorem dS_sortOutBy_11 : decode mS_sortOutBy.2.1 11 = .ok (.invokevirtual 128, 3) := by decide +kernel
theorem dS_sortOutBy_14 : decode mS_sortOutBy.2.1 14 = .ok (.goto 18, 3) := by decide +kernel
theorem dS_sortOutBy_17 : decode mS_sortOutBy.2.1 17 = .ok (.aload_n 0, 1) := by decide +kernel
theorem dS_sortOutBy_18 : decode mS_sortOutBy.2.1 18 = .ok (.iload_n 1, 1) := by decide +kernel
theorem dS_sortOutBy_19 : decode mS_sortOutBy.2.1 19 = .ok (.iconst 3, 1) := by decide +kernel
theorem dS_sortOutBy_20 : decode mS_sortOutBy.2.1 20 = .ok (.if_icmp .ne 7, 3) := by decide +kernel
theorem dS_sortOutBy_23 : decode mS_sortOutBy.2.1 23 = .ok (.iconst 2, 1) := by decide +kernel
theorem dS_sortOutBy_24 : decode mS_sortOutBy.2.1 24 = .ok (.goto 4, 3) := by decide +kernel
theorem dS_sortOutBy_27 : decode mS_sortOutBy.2.1 27 = .ok (.iconst 1, 1) := by decide +kernel
theorem dS_sortOutBy_28 : decode mS_sortOutBy.2.1 28 = .ok (.iconst 0, 1) := by decide +kernel
theorem dS_sortOutBy_29 : decode mS_sortOutBy.2.1 29 = .ok (.invokevirtual 118, 3) := by decide +kernel
theorem dS_sortOutBy_32 : decode mS_sortOutBy.2.1 32 = .ok (.aload_n 0, 1) := by decide +kernel
theorem dS_sortOutBy_33 : decode mS_sortOutBy.2.1 33 = .ok (.invokevirtual 112, 3) := by decide +kernel
theorem dS_sortOutBy_36 : decode mS_sortOutBy.2.1 36 = .ok (.return_, 1) := by decide +kernel
theorem dS_keepPlacesThatSee_0 : decode mS_keepPlacesThatSee.2.1 0 = .ok (.iconst 0, 1) := by decide +kernel
theorem dS_keepPlacesThatSee_1 : decode mS_keepPlacesThatSee.2.1 1 = .ok (.istore_n 3, 1) := by decide +kernel
theorem dS_keepPlacesThatSee_2 : decode mS_keepPlacesThatSee.2.1 2 = .ok (.iload_n 3, 1) := by decide +kernel
theorem dS_keepPlacesThatSee_3 : decode mS_keepPlacesThatSee.2.1 3 = .ok (.iconst 4, 1) := by decide +kernel
theorem dS_keepPlacesThatSee_4 : decode mS_keepPlacesThatSee.2.1 4 = .ok (.if_icmp .ge 28, 3) := by decide +kernel
theorem dS_keepPlacesThatSee_7 : decode mS_keepPlacesThatSee.2.1 7 = .ok (.aload_n 0, 1) := by decide +kernel
theorem dS_keepPlacesThatSee_8 : decode mS_keepPlacesThatSee.2.1 8 = .ok (.getfield 9, 3) := by decide +kernel
theorem dS_keepPlacesThatSee_11 : decode mS_keepPlacesThatSee.2.1 11 = .ok (.iload_n 3, 1) := by decide +kernel
theorem dS_keepPlacesThatSee_12 : decode mS_keepPlacesThatSee.2.1 12 = .ok (.dup2, 1) := by decide +kernel
theorem dS_keepPlacesThatSee_13 : decode mS_keepPlacesThatSee.2.1 13 = .ok (.laload, 1) := by decide +kernel
theorem dS_keepPlacesThatSee_14 : decode mS_keepPlacesThatSee.2.1 14 = .ok (.aload_n 0, 1) := by decide +kernel
theorem dS_keepPlacesThatSee_15 : decode mS_keepPlacesThatSee.2.1 15 = .ok (.iload_n 1, 1) := by decide +kernel
theorem dS_keepPlacesThatSee_16 : decode mS_keepPlacesThatSee.2.1 16 = .ok (.iload_n 3, 1) := by decide +kernel
theorem dS_keepPlacesThatSee_17 : decode mS_keepPlacesThatSee.2.1 17 = .ok (.iload_n 2, 1) := by decide +kernel
theorem dS_keepPlacesThatSee_18 : decode mS_keepPlacesThatSee.2.1 18 = .ok (.invokestatic 106, 3) := by decide +kernel
theorem dS_keepPlacesThatSee_21 : decode mS_keepPlacesThatSee.2.1 21 = .ok (.invokevirtual 131, 3) := by decide +kernel
theorem dS_keepPlacesThatSee_24 : decode mS_keepPlacesThatSee.2.1 24 = .ok (.land, 1) := by decide +kernel
theorem dS_keepPlacesThatSee_25 : decode mS_keepPlacesThatSee.2.1 25 = .ok (.lastore, 1) := by decide +kernel
theorem dS_keepPlacesThatSee_26 : decode mS_keepPlacesThatSee.2.1 26 = .ok (.iinc 3 1, 3) := by decide +kernel
theorem dS_keepPlacesThatSee_29 : decode mS_keepPlacesThatSee.2.1 29 = .ok (.goto (-27), 3) := by decide +kernel
theorem dS_keepPlacesThatSee_32 : decode mS_keepPlacesThatSee.2.1 32 = .ok (.return_, 1) := by decide +kernel
theorem dS_movePlacesAhead_0 : decode mS_movePlacesAhead.2.1 0 = .ok (.iconst 0, 1) := by decide +kernel
theorem dS_movePlacesAhead_1 : decode mS_movePlacesAhead.2.1 1 = .ok (.istore_n 1, 1) := by decide +kernel
theorem dS_movePlacesAhead_2 : decode mS_movePlacesAhead.2.1 2 = .ok (.iload_n 1, 1) := by decide +kernel
theorem dS_movePlacesAhead_3 : decode mS_movePlacesAhead.2.1 3 = .ok (.iconst 4, 1) := by decide +kernel
theorem dS_movePlacesAhead_4 : decode mS_movePlacesAhead.2.1 4 = .ok (.if_icmp .ge 29, 3) := by decide +kernel
theorem dS_movePlacesAhead_7 : decode mS_movePlacesAhead.2.1 7 = .ok (.aload_n 0, 1) := by decide +kernel
theorem dS_movePlacesAhead_8 : decode mS_movePlacesAhead.2.1 8 = .ok (.getfield 9, 3) := by decide +kernel
theorem dS_movePlacesAhead_11 : decode mS_movePlacesAhead.2.1 11 = .ok (.iload_n 1, 1) := by decide +kernel
theorem dS_movePlacesAhead_12 : decode mS_movePlacesAhead.2.1 12 = .ok (.aload_n 0, 1) := by decide +kernel
theorem dS_movePlacesAhead_13 : decode mS_movePlacesAhead.2.1 13 = .ok (.getfield 15, 3) := by decide +kernel
theorem dS_movePlacesAhead_16 : decode mS_movePlacesAhead.2.1 16 = .ok (.aload_n 0, 1) := by decide +kernel
theorem dS_movePlacesAhead_17 : decode mS_movePlacesAhead.2.1 17 = .ok (.getfield 9, 3) := by decide +kernel
theorem dS_movePlacesAhead_20 : decode mS_movePlacesAhead.2.1 20 = .ok (.iload_n 1, 1) := by decide +kernel
theorem dS_movePlacesAhead_21 : decode mS_movePlacesAhead.2.1 21 = .ok (.laload, 1) := by decide +kernel
theorem dS_movePlacesAhead_22 : decode mS_movePlacesAhead.2.1 22 = .ok (.iload_n 1, 1) := by decide +kernel
theorem dS_movePlacesAhead_23 : decode mS_movePlacesAhead.2.1 23 = .ok (.invokevirtual 135, 3) := by decide +kernel
theorem dS_movePlacesAhead_26 : decode mS_movePlacesAhead.2.1 26 = .ok (.lastore, 1) := by decide +kernel
theorem dS_movePlacesAhead_27 : decode mS_movePlacesAhead.2.1 27 = .ok (.iinc 1 1, 3) := by decide +kernel
theorem dS_movePlacesAhead_30 : decode mS_movePlacesAhead.2.1 30 = .ok (.goto (-28), 3) := by decide +kernel
theorem dS_movePlacesAhead_33 : decode mS_movePlacesAhead.2.1 33 = .ok (.return_, 1) := by decide +kernel
theorem dS_turnPlaces_0 : decode mS_turnPlaces.2.1 0 = .ok (.aload_n 0, 1) := by decide +kernel
theorem dS_turnPlaces_1 : decode mS_turnPlaces.2.1 1 = .ok (.getfield 9, 3) := by decide +kernel
theorem dS_turnPlaces_4 : decode mS_turnPlaces.2.1 4 = .ok (.iconst 3, 1) := by decide +kernel
theorem dS_turnPlaces_5 : decode mS_turnPlaces.2.1 5 = .ok (.laload, 1) := by decide +kernel
theorem dS_turnPlaces_6 : decode mS_turnPlaces.2.1 6 = .ok (.lstore_n 1, 1) := by decide +kernel
theorem dS_turnPlaces_7 : decode mS_turnPlaces.2.1 7 = .ok (.aload_n 0, 1) := by decide +kernel
theorem dS_turnPlaces_8 : decode mS_turnPlaces.2.1 8 = .ok (.getfield 9, 3) := by decide +kernel
theorem dS_turnPlaces_11 : decode mS_turnPlaces.2.1 11 = .ok (.iconst 3, 1) := by decide +kernel
theorem dS_turnPlaces_12 : decode mS_turnPlaces.2.1 12 = .ok (.aload_n 0, 1) := by decide +kernel
theorem dS_turnPlaces_13 : decode mS_turnPlaces.2.1 13 = .ok (.getfield 9, 3) := by decide +kernel
theorem dS_turnPlaces_16 : decode mS_turnPlaces.2.1 16 = .ok (.iconst 2, 1) := by decide +kernel
theorem dS_turnPlaces_17 : decode mS_turnPlaces.2.1 17 = .ok (.laload, 1) := by decide +kernel
theorem dS_turnPlaces_18 : decode mS_turnPlaces.2.1 18 = .ok (.lastore, 1) := by decide +kernel
theorem dS_turnPlaces_19 : decode mS_turnPlaces.2.1 19 = .ok (.aload_n 0, 1) := by decide +kernel
theorem dS_turnPlaces_20 : decode mS_turnPlaces.2.1 20 = .ok (.getfield 9, 3) := by decide +kernel
theorem dS_turnPlaces_23 : decode mS_turnPlaces.2.1 23 = .ok (.iconst 2, 1) := by decide +kernel
theorem dS_turnPlaces_24 : decode mS_turnPlaces.2.1 24 = .ok (.aload_n 0, 1) := by decide +kernel
theorem dS_turnPlaces_25 : decode mS_turnPlaces.2.1 25 = .ok (.getfield 9, 3) := by decide +kernel
theorem dS_turnPlaces_28 : decode mS_turnPlaces.2.1 28 = .ok (.iconst 1, 1) := by decide +kernel
theorem dS_turnPlaces_29 : decode mS_turnPlaces.2.1 29 = .ok (.laload, 1) := by decide +kernel
theorem dS_turnPlaces_30 : decode mS_turnPlaces.2.1 30 = .ok (.lastore, 1) := by decide +kernel
theorem dS_turnPlaces_31 : decode mS_turnPlaces.2.1 31 = .ok (.aload_n 0, 1) := by decide +kernel
theorem dS_turnPlaces_32 : decode mS_turnPlaces.2.1 32 = .ok (.getfield 9, 3) := by decide +kernel
theorem dS_turnPlaces_35 : decode mS_turnPlaces.2.1 35 = .ok (.iconst 1, 1) := by decide +kernel
theorem dS_turnPlaces_36 : decode mS_turnPlaces.2.1 36 = .ok (.aload_n 0, 1) := by decide +kernel
theorem dS_turnPlaces_37 : decode mS_turnPlaces.2.1 37 = .ok (.getfield 9, 3) := by decide +kernel
theorem dS_turnPlaces_40 : decode mS_turnPlaces.2.1 40 = .ok (.iconst 0, 1) := by decide +kernel
theorem dS_turnPlaces_41 : decode mS_turnPlaces.2.1 41 = .ok (.laload, 1) := by decide +kernel
theorem dS_turnPlaces_42 : decode mS_turnPlaces.2.1 42 = .ok (.lastore, 1) := by decide +kernel
theorem dS_turnPlaces_43 : decode mS_turnPlaces.2.1 43 = .ok (.aload_n 0, 1) := by decide +kernel
theorem dS_turnPlaces_44 : decode mS_turnPlaces.2.1 44 = .ok (.getfield 9, 3) := by decide +kernel
theorem dS_turnPlaces_47 : decode mS_turnPlaces.2.1 47 = .ok (.iconst 0, 1) := by decide +kernel
theorem dS_turnPlaces_48 : decode mS_turnPlaces.2.1 48 = .ok (.lload_n 1, 1) := by decide +kernel
theorem dS_turnPlaces_49 : decode mS_turnPlaces.2.1 49 = .ok (.lastore, 1) := by decide +kernel
theorem dS_turnPlaces_50 : decode mS_turnPlaces.2.1 50 = .ok (.return_, 1) := by decide +kernel
theorem dS_beFoundIfSure_0 : decode mS_beFoundIfSure.2.1 0 = .ok (.aload_n 0, 1) := by decide +kernel
theorem dS_beFoundIfSure_1 : decode mS_beFoundIfSure.2.1 1 = .ok (.invokevirtual 124, 3) := by decide +kernel
theorem dS_beFoundIfSure_4 : decode mS_beFoundIfSure.2.1 4 = .ok (.iconst 1, 1) := by decide +kernel
theorem dS_beFoundIfSure_5 : decode mS_beFoundIfSure.2.1 5 = .ok (.if_icmp .ne 8, 3) := by decide +kernel
theorem dS_beFoundIfSure_8 : decode mS_beFoundIfSure.2.1 8 = .ok (.aload_n 0, 1) := by decide +kernel
theorem dS_beFoundIfSure_9 : decode mS_beFoundIfSure.2.1 9 = .ok (.iconst 0, 1) := by decide +kernel
theorem dS_beFoundIfSure_10 : decode mS_beFoundIfSure.2.1 10 = .ok (.putfield 54, 3) := by decide +kernel
theorem dS_beFoundIfSure_13 : decode mS_beFoundIfSure.2.1 13 = .ok (.return_, 1) := by decide +kernel
theorem dS_cellsThatMaySee_0 : decode mS_cellsThatMaySee.2.1 0 = .ok (.iload_n 2, 1) := by decide +kernel
theorem dS_cellsThatMaySee_1 : decode mS_cellsThatMaySee.2.1 1 = .ok (.iconst 2, 1) := by decide +kernel
theorem dS_cellsThatMaySee_2 : decode mS_cellsThatMaySee.2.1 2 = .ok (.invokestatic 106, 3) := by decide +kernel
theorem dS_cellsThatMaySee_5 : decode mS_cellsThatMaySee.2.1 5 = .ok (.istore_n 3, 1) := by decide +kernel
theorem dS_cellsThatMaySee_6 : decode mS_cellsThatMaySee.2.1 6 = .ok (.aload_n 0, 1) := by decide +kernel
theorem dS_cellsThatMaySee_7 : decode mS_cellsThatMaySee.2.1 7 = .ok (.getfield 15, 3) := by decide +kernel
theorem dS_cellsThatMaySee_10 : decode mS_cellsThatMaySee.2.1 10 = .ok (.aload_n 0, 1) := by decide +kernel
theorem dS_cellsThatMaySee_11 : decode mS_cellsThatMaySee.2.1 11 = .ok (.iload_n 1, 1) := by decide +kernel
theorem dS_cellsThatMaySee_12 : decode mS_cellsThatMaySee.2.1 12 = .ok (.invokevirtual 121, 3) := by decide +kernel
theorem dS_cellsThatMaySee_15 : decode mS_cellsThatMaySee.2.1 15 = .ok (.iload_n 3, 1) := by decide +kernel
theorem dS_cellsThatMaySee_16 : decode mS_cellsThatMaySee.2.1 16 = .ok (.invokevirtual 135, 3) := by decide +kernel
theorem dS_cellsThatMaySee_19 : decode mS_cellsThatMaySee.2.1 19 = .ok (.lstore 4, 2) := by decide +kernel
theorem dS_cellsThatMaySee_21 : decode mS_cellsThatMaySee.2.1 21 = .ok (.iload_n 1, 1) := by decide +kernel
theorem dS_cellsThatMaySee_22 : decode mS_cellsThatMaySee.2.1 22 = .ok (.iconst 1, 1) := by decide +kernel
theorem dS_cellsThatMaySee_23 : decode mS_cellsThatMaySee.2.1 23 = .ok (.if_icmp .ne 35, 3) := by decide +kernel
theorem dS_cellsThatMaySee_26 : decode mS_cellsThatMaySee.2.1 26 = .ok (.lload 4, 2) := by decide +kernel
theorem dS_cellsThatMaySee_28 : decode mS_cellsThatMaySee.2.1 28 = .ok (.aload_n 0, 1) := by decide +kernel
theorem dS_cellsThatMaySee_29 : decode mS_cellsThatMaySee.2.1 29 = .ok (.getfield 15, 3) := by decide +kernel
theorem dS_cellsThatMaySee_32 : decode mS_cellsThatMaySee.2.1 32 = .ok (.getfield 139, 3) := by decide +kernel
theorem dS_cellsThatMaySee_35 : decode mS_cellsThatMaySee.2.1 35 = .ok (.aload_n 0, 1) := by decide +kernel
theorem dS_cellsThatMaySee_36 : decode mS_cellsThatMaySee.2.1 36 = .ok (.getfield 15, 3) := by decide +kernel
theorem dS_cellsThatMaySee_39 : decode mS_cellsThatMaySee.2.1 39 = .ok (.aload_n 0, 1) := by decide +kernel
theorem dS_cellsThatMaySee_40 : decode mS_cellsThatMaySee.2.1 40 = .ok (.getfield 15, 3) := by decide +kernel
theorem dS_cellsThatMaySee_43 : decode mS_cellsThatMaySee.2.1 43 = .ok (.getfield 139, 3) := by decide +kernel
theorem dS_cellsThatMaySee_46 : decode mS_cellsThatMaySee.2.1 46 = .ok (.iload_n 3, 1) := by decide +kernel
theorem dS_cellsThatMaySee_47 : decode mS_cellsThatMaySee.2.1 47 = .ok (.invokevirtual 135, 3) := by decide +kernel
theorem dS_cellsThatMaySee_50 : decode mS_cellsThatMaySee.2.1 50 = .ok (.ldc2_w 70, 3) := by decide +kernel
theorem dS_cellsThatMaySee_53 : decode mS_cellsThatMaySee.2.1 53 = .ok (.lxor, 1) := by decide +kernel
theorem dS_cellsThatMaySee_54 : decode mS_cellsThatMaySee.2.1 54 = .ok (.land, 1) := by decide +kernel
theorem dS_cellsThatMaySee_55 : decode mS_cellsThatMaySee.2.1 55 = .ok (.lor, 1) := by decide +kernel
theorem dS_cellsThatMaySee_56 : decode mS_cellsThatMaySee.2.1 56 = .ok (.lstore 4, 2) := by decide +kernel
theorem dS_cellsThatMaySee_58 : decode mS_cellsThatMaySee.2.1 58 = .ok (.lload 4, 2) := by decide +kernel
theorem dS_cellsThatMaySee_60 : decode mS_cellsThatMaySee.2.1 60 = .ok (.lreturn, 1) := by decide +kernel
theorem dS_cellsThatMayShow_0 : decode mS_cellsThatMayShow.2.1 0 = .ok (.iload_n 1, 1) := by decide +kernel
theorem dS_cellsThatMayShow_1 : decode mS_cellsThatMayShow.2.1 1 = .ok (.iconst 2, 1) := by decide +kernel
theorem dS_cellsThatMayShow_2 : decode mS_cellsThatMayShow.2.1 2 = .ok (.if_icmp .ne 11, 3) := by decide +kernel
theorem dS_cellsThatMayShow_5 : decode mS_cellsThatMayShow.2.1 5 = .ok (.aload_n 0, 1) := by decide +kernel
theorem dS_cellsThatMayShow_6 : decode mS_cellsThatMayShow.2.1 6 = .ok (.getfield 15, 3) := by decide +kernel
theorem dS_cellsThatMayShow_9 : decode mS_cellsThatMayShow.2.1 9 = .ok (.getfield 76, 3) := by decide +kernel
theorem dS_cellsThatMayShow_12 : decode mS_cellsThatMayShow.2.1 12 = .ok (.lreturn, 1) := by decide +kernel
theorem dS_cellsThatMayShow_13 : decode mS_cellsThatMayShow.2.1 13 = .ok (.iload_n 1, 1) := by decide +kernel
theorem dS_cellsThatMayShow_14 : decode mS_cellsThatMayShow.2.1 14 = .ok (.ifCond .ne 10, 3) := by decide +kernel
theorem dS_cellsThatMayShow_17 : decode mS_cellsThatMayShow.2.1 17 = .ok (.aload_n 0, 1) := by decide +kernel
theorem dS_cellsThatMayShow_18 : decode mS_cellsThatMayShow.2.1 18 = .ok (.getfield 51, 3) := by decide +kernel
theorem dS_cellsThatMayShow_21 : decode mS_cellsThatMayShow.2.1 21 = .ok (.goto 7, 3) := by decide +kernel
theorem dS_cellsThatMayShow_24 : decode mS_cellsThatMayShow.2.1 24 = .ok (.aload_n 0, 1) := by decide +kernel
theorem dS_cellsThatMayShow_25 : decode mS_cellsThatMayShow.2.1 25 = .ok (.getfield 48, 3) := by decide +kernel
theorem dS_cellsThatMayShow_28 : decode mS_cellsThatMayShow.2.1 28 = .ok (.lstore_n 2, 1) := by decide +kernel
theorem dS_cellsThatMayShow_29 : decode mS_cellsThatMayShow.2.1 29 = .ok (.aload_n 0, 1) := by decide +kernel
theorem dS_cellsThatMayShow_30 : decode mS_cellsThatMayShow.2.1 30 = .ok (.getfield 15, 3) := by decide +kernel
theorem dS_cellsThatMayShow_33 : decode mS_cellsThatMayShow.2.1 33 = .ok (.getfield 139, 3) := by decide +kernel
theorem dS_cellsThatMayShow_36 : decode mS_cellsThatMayShow.2.1 36 = .ok (.aload_n 0, 1) := by decide +kernel
theorem dS_cellsThatMayShow_37 : decode mS_cellsThatMayShow.2.1 37 = .ok (.getfield 15, 3) := by decide +kernel
theorem dS_cellsThatMayShow_40 : decode mS_cellsThatMayShow.2.1 40 = .ok (.getfield 76, 3) := by decide +kernel
theorem dS_cellsThatMayShow_43 : decode mS_cellsThatMayShow.2.1 43 = .ok (.ldc2_w 70, 3) := by decide +kernel
theorem dS_cellsThatMayShow_46 : decode mS_cellsThatMayShow.2.1 46 = .ok (.lxor, 1) := by decide +kernel
theorem dS_cellsThatMayShow_47 : decode mS_cellsThatMayShow.2.1 47 = .ok (.land, 1) := by decide +kernel
theorem dS_cellsThatMayShow_48 : decode mS_cellsThatMayShow.2.1 48 = .ok (.lload_n 2, 1) := by decide +kernel
theorem dS_cellsThatMayShow_49 : decode mS_cellsThatMayShow.2.1 49 = .ok (.aload_n 0, 1) := by decide +kernel
theorem dS_cellsThatMayShow_50 : decode mS_cellsThatMayShow.2.1 50 = .ok (.getfield 15, 3) := by decide +kernel
theorem dS_cellsThatMayShow_53 : decode mS_cellsThatMayShow.2.1 53 = .ok (.getfield 67, 3) := by decide +kernel
theorem dS_cellsThatMayShow_56 : decode mS_cellsThatMayShow.2.1 56 = .ok (.ldc2_w 70, 3) := by decide +kernel
theorem dS_cellsThatMayShow_59 : decode mS_cellsThatMayShow.2.1 59 = .ok (.lxor, 1) := by decide +kernel
theorem dS_cellsThatMayShow_60 : decode mS_cellsThatMayShow.2.1 60 = .ok (.land, 1) := by decide +kernel
theorem dS_cellsThatMayShow_61 : decode mS_cellsThatMayShow.2.1 61 = .ok (.ldc2_w 70, 3) := by decide +kernel
theorem dS_cellsThatMayShow_64 : decode mS_cellsThatMayShow.2.1 64 = .ok (.lxor, 1) := by decide +kernel
theorem dS_cellsThatMayShow_65 : decode mS_cellsThatMayShow.2.1 65 = .ok (.land, 1) := by decide +kernel
theorem dS_cellsThatMayShow_66 : decode mS_cellsThatMayShow.2.1 66 = .ok (.lreturn, 1) := by decide +kernel
theorem dS_placeCount_0 : decode mS_placeCount.2.1 0 = .ok (.aload_n 0, 1) := by decide +kernel
theorem dS_placeCount_1 : decode mS_placeCount.2.1 1 = .ok (.getfield 54, 3) := by decide +kernel
theorem dS_placeCount_4 : decode mS_placeCount.2.1 4 = .ok (.ifCond .ne 5, 3) := by decide +kernel
theorem dS_placeCount_7 : decode mS_placeCount.2.1 7 = .ok (.iconst 1, 1) := by decide +kernel
theorem dS_placeCount_8 : decode mS_placeCount.2.1 8 = .ok (.ireturn, 1) := by decide +kernel
theorem dS_placeCount_9 : decode mS_placeCount.2.1 9 = .ok (.iconst 0, 1) := by decide +kernel
theorem dS_placeCount_10 : decode mS_placeCount.2.1 10 = .ok (.istore_n 1, 1) := by decide +kernel
theorem dS_placeCount_11 : decode mS_placeCount.2.1 11 = .ok (.iconst 0, 1) := by decide +kernel
theorem dS_placeCount_12 : decode mS_placeCount.2.1 12 = .ok (.istore_n 2, 1) := by decide +kernel
theorem dS_placeCount_13 : decode mS_placeCount.2.1 13 = .ok (.iload_n 2, 1) := by decide +kernel
theorem dS_placeCount_14 : decode mS_placeCount.2.1 14 = .ok (.iconst 4, 1) := by decide +kernel
theorem dS_placeCount_15 : decode mS_placeCount.2.1 15 = .ok (.if_icmp .ge 21, 3) := by decide +kernel
theorem dS_placeCount_18 : decode mS_placeCount.2.1 18 = .ok (.iload_n 1, 1) := by decide +kernel
theorem dS_placeCount_19 : decode mS_placeCount.2.1 19 = .ok (.aload_n 0, 1) := by decide +kernel
theorem dS_placeCount_20 : decode mS_placeCount.2.1 20 = .ok (.getfield 9, 3) := by decide +kernel
theorem dS_placeCount_23 : decode mS_placeCount.2.1 23 = .ok (.iload_n 2, 1) := by decide +kernel
theorem dS_placeCount_24 : decode mS_placeCount.2.1 24 = .ok (.laload, 1) := by decide +kernel
theorem dS_placeCount_25 : decode mS_placeCount.2.1 25 = .ok (.invokestatic 142, 3) := by decide +kernel
theorem dS_placeCount_28 : decode mS_placeCount.2.1 28 = .ok (.iadd, 1) := by decide +kernel
theorem dS_placeCount_29 : decode mS_placeCount.2.1 29 = .ok (.istore_n 1, 1) := by decide +kernel
theorem dS_placeCount_30 : decode mS_placeCount.2.1 30 = .ok (.iinc 2 1, 3) := by decide +kernel
theorem dS_placeCount_33 : decode mS_placeCount.2.1 33 = .ok (.goto (-20), 3) := by decide +kernel
theorem dS_placeCount_36 : decode mS_placeCount.2.1 36 = .ok (.iload_n 1, 1) := by decide +kernel
theorem dS_placeCount_37 : decode mS_placeCount.2.1 37 = .ok (.ireturn, 1) := by decide +kernel
theorem dS_placeAt_0 : decode mS_placeAt.2.1 0 = .ok (.aload_n 0, 1) := by decide +kernel
theorem dS_placeAt_1 : decode mS_placeAt.2.1 1 = .ok (.getfield 54, 3) := by decide +kernel
theorem dS_placeAt_4 : decode mS_placeAt.2.1 4 = .ok (.ifCond .ne 24, 3) := by decide +kernel
theorem dS_placeAt_7 : decode mS_placeAt.2.1 7 = .ok (.iload_n 1, 1) := by decide +kernel
theorem dS_placeAt_8 : decode mS_placeAt.2.1 8 = .ok (.ifCond .ne 17, 3) := by decide +kernel
theorem dS_placeAt_11 : decode mS_placeAt.2.1 11 = .ok (.iconst 4, 1) := by decide +kernel
theorem dS_placeAt_12 : decode mS_placeAt.2.1 12 = .ok (.aload_n 0, 1) := by decide +kernel
theorem dS_placeAt_13 : decode mS_placeAt.2.1 13 = .ok (.getfield 35, 3) := by decide +kernel
theorem dS_placeAt_16 : decode mS_placeAt.2.1 16 = .ok (.imul, 1) := by decide +kernel
theorem dS_placeAt_17 : decode mS_placeAt.2.1 17 = .ok (.aload_n 0, 1) := by decide +kernel
theorem dS_placeAt_18 : decode mS_placeAt.2.1 18 = .ok (.getfield 38, 3) := by decide +kernel
theorem dS_placeAt_21 : decode mS_placeAt.2.1 21 = .ok (.iadd, 1) := by decide +kernel
theorem dS_placeAt_22 : decode mS_placeAt.2.1 22 = .ok (.goto 5, 3) := by decide +kernel
theorem dS_placeAt_25 : decode mS_placeAt.2.1 25 = .ok (.bipush (-9), 2) := by decide +kernel
theorem dS_placeAt_27 : decode mS_placeAt.2.1 27 = .ok (.ireturn, 1) := by decide +kernel
theorem dS_placeAt_28 : decode mS_placeAt.2.1 28 = .ok (.iconst 0, 1) := by decide +kernel
theorem dS_placeAt_29 : decode mS_placeAt.2.1 29 = .ok (.istore_n 2, 1) := by decide +kernel
theorem dS_placeAt_30 : decode mS_placeAt.2.1 30 = .ok (.iconst 0, 1) := by decide +kernel
theorem dS_placeAt_31 : decode mS_placeAt.2.1 31 = .ok (.istore_n 3, 1) := by decide +kernel
theorem dS_placeAt_32 : decode mS_placeAt.2.1 32 = .ok (.iload_n 3, 1) := by decide +kernel
theorem dS_placeAt_33 : decode mS_placeAt.2.1 33 = .ok (.sipush 144, 3) := by decide +kernel
theorem dS_placeAt_36 : decode mS_placeAt.2.1 36 = .ok (.if_icmp .ge 36, 3) := by decide +kernel
theorem dS_placeAt_39 : decode mS_placeAt.2.1 39 = .ok (.aload_n 0, 1) := by decide +kernel
theorem dS_placeAt_40 : decode mS_placeAt.2.1 40 = .ok (.getfield 9, 3) := by decide +kernel
theorem dS_placeAt_43 : decode mS_placeAt.2.1 43 = .ok (.iload_n 3, 1) := by decide +kernel
theorem dS_placeAt_44 : decode mS_placeAt.2.1 44 = .ok (.iconst 3, 1) := by decide +kernel
theorem dS_placeAt_45 : decode mS_placeAt.2.1 45 = .ok (.iand, 1) := by decide +kernel
theorem dS_placeAt_46 : decode mS_placeAt.2.1 46 = .ok (.laload, 1) := by decide +kernel
theorem dS_placeAt_47 : decode mS_placeAt.2.1 47 = .ok (.iload_n 3, 1) := by decide +kernel
theorem dS_placeAt_48 : decode mS_placeAt.2.1 48 = .ok (.iconst 2, 1) := by decide +kernel
theorem dS_placeAt_49 : decode mS_placeAt.2.1 49 = .ok (.ishr, 1) := by decide +kernel
theorem dS_placeAt_50 : decode mS_placeAt.2.1 50 = .ok (.invokestatic 72, 3) := by decide +kernel
theorem dS_placeAt_53 : decode mS_placeAt.2.1 53 = .ok (.ifCond .eq 13, 3) := by decide +kernel
theorem dS_placeAt_56 : decode mS_placeAt.2.1 56 = .ok (.iload_n 2, 1) := by decide +kernel
theorem dS_placeAt_57 : decode mS_placeAt.2.1 57 = .ok (.iload_n 1, 1) := by decide +kernel
theorem dS_placeAt_58 : decode mS_placeAt.2.1 58 = .ok (.if_icmp .ne 5, 3) := by decide +kernel
theorem dS_placeAt_61 : decode mS_placeAt.2.1 61 = .ok (.iload_n 3, 1) := by decide +kernel
theorem dS_placeAt_62 : decode mS_placeAt.2.1 62 = .ok (.ireturn, 1) := by decide +kernel
theorem dS_placeAt_63 : decode mS_placeAt.2.1 63 = .ok (.iinc 2 1, 3) := by decide +kernel
theorem dS_placeAt_66 : decode mS_placeAt.2.1 66 = .ok (.iinc 3 1, 3) := by decide +kernel
theorem dS_placeAt_69 : decode mS_placeAt.2.1 69 = .ok (.goto (-37), 3) := by decide +kernel
theorem dS_placeAt_72 : decode mS_placeAt.2.1 72 = .ok (.bipush (-9), 2) := by decide +kernel
theorem dS_placeAt_74 : decode mS_placeAt.2.1 74 = .ok (.ireturn, 1) := by decide +kernel
theorem dT_init_0 : decode mT_init.2.1 0 = .ok (.aload_n 0, 1) := by decide +kernel
theorem dT_init_1 : decode mT_init.2.1 1 = .ok (.invokespecial 3, 3) := by decide +kernel
theorem dT_init_4 : decode mT_init.2.1 4 = .ok (.aload_n 0, 1) := by decide +kernel
theorem dT_init_5 : decode mT_init.2.1 5 = .ok (.bipush 60, 2) := by decide +kernel
theorem dT_init_7 : decode mT_init.2.1 7 = .ok (.newarray .int, 2) := by decide +kernel
theorem dT_init_9 : decode mT_init.2.1 9 = .ok (.putfield 9, 3) := by decide +kernel
theorem dT_init_12 : decode mT_init.2.1 12 = .ok (.aload_n 0, 1) := by decide +kernel
theorem dT_init_13 : decode mT_init.2.1 13 = .ok (.bipush 36, 2) := by decide +kernel
theorem dT_init_15 : decode mT_init.2.1 15 = .ok (.newarray .int, 2) := by decide +kernel
theorem dT_init_17 : decode mT_init.2.1 17 = .ok (.putfield 15, 3) := by decide +kernel
theorem dT_init_20 : decode mT_init.2.1 20 = .ok (.return_, 1) := by decide +kernel
theorem dT_add_0 : decode mT_add.2.1 0 = .ok (.aload_n 0, 1) := by decide +kernel
theorem dT_add_1 : decode mT_add.2.1 1 = .ok (.getfield 18, 3) := by decide +kernel
theorem dT_add_4 : decode mT_add.2.1 4 = .ok (.ifCond .lt 12, 3) := by decide +kernel
theorem dT_add_7 : decode mT_add.2.1 7 = .ok (.aload_n 0, 1) := by decide +kernel
theorem dT_add_8 : decode mT_add.2.1 8 = .ok (.getfield 18, 3) := by decide +kernel
theorem dT_add_11 : decode mT_add.2.1 11 = .ok (.bipush 60, 2) := by decide +kernel
theorem dT_add_13 : decode mT_add.2.1 13 = .ok (.if_icmp .lt 5, 3) := by decide +kernel
theorem dT_add_16 : decode mT_add.2.1 16 = .ok (.iconst 0, 1) := by decide +kernel
theorem dT_add_17 : decode mT_add.2.1 17 = .ok (.ireturn, 1) := by decide +kernel
theorem dT_add_18 : decode mT_add.2.1 18 = .ok (.aload_n 0, 1) := by decide +kernel
theorem dT_add_19 : decode mT_add.2.1 19 = .ok (.getfield 9, 3) := by decide +kernel
theorem dT_add_22 : decode mT_add.2.1 22 = .ok (.aload_n 0, 1) := by decide +kernel
theorem dT_add_23 : decode mT_add.2.1 23 = .ok (.getfield 18, 3) := by decide +kernel
theorem dT_add_26 : decode mT_add.2.1 26 = .ok (.iload_n 1, 1) := by decide +kernel
theorem dT_add_27 : decode mT_add.2.1 27 = .ok (.iastore, 1) := by decide +kernel
theorem dT_add_28 : decode mT_add.2.1 28 = .ok (.aload_n 0, 1) := by decide +kernel
theorem dT_add_29 : decode mT_add.2.1 29 = .ok (.dup, 1) := by decide +kernel
theorem dT_add_30 : decode mT_add.2.1 30 = .ok (.getfield 18, 3) := by decide +kernel
theorem dT_add_33 : decode mT_add.2.1 33 = .ok (.iconst 1, 1) := by decide +kernel
theorem dT_add_34 : decode mT_add.2.1 34 = .ok (.iadd, 1) := by decide +kernel
theorem dT_add_35 : decode mT_add.2.1 35 = .ok (.putfield 18, 3) := by decide +kernel
theorem dT_add_38 : decode mT_add.2.1 38 = .ok (.iconst 1, 1) := by decide +kernel
theorem dT_add_39 : decode mT_add.2.1 39 = .ok (.ireturn, 1) := by decide +kernel
theorem dT_findFault_0 : decode mT_findFault.2.1 0 = .ok (.aload_n 0, 1) := by decide +kernel
theorem dT_findFault_1 : decode mT_findFault.2.1 1 = .ok (.iconst 0, 1) := by decide +kernel
theorem dT_findFault_2 : decode mT_findFault.2.1 2 = .ok (.putfield 22, 3) := by decide +kernel
theorem dT_findFault_5 : decode mT_findFault.2.1 5 = .ok (.aload_n 0, 1) := by decide +kernel
theorem dT_findFault_6 : decode mT_findFault.2.1 6 = .ok (.iconst 0, 1) := by decide +kernel
theorem dT_findFault_7 : decode mT_findFault.2.1 7 = .ok (.putfield 25, 3) := by decide +kernel
theorem dT_findFault_10 : decode mT_findFault.2.1 10 = .ok (.aload_n 0, 1) := by decide +kernel
theorem dT_findFault_11 : decode mT_findFault.2.1 11 = .ok (.iconst 0, 1) := by decide +kernel
theorem dT_findFault_12 : decode mT_findFault.2.1 12 = .ok (.putfield 28, 3) := by decide +kernel
theorem dT_findFault_15 : decode mT_findFault.2.1 15 = .ok (.aload_n 0, 1) := by decide +kernel
theorem dT_findFault_16 : decode mT_findFault.2.1 16 = .ok (.iconst 0, 1) := by decide +kernel
theorem dT_findFault_17 : decode mT_findFault.2.1 17 = .ok (.putfield 31, 3) := by decide +kernel
theorem dT_findFault_20 : decode mT_findFault.2.1 20 = .ok (.aload_n 0, 1) := by decide +kernel
theorem dT_findFault_21 : decode mT_findFault.2.1 21 = .ok (.iconst (-1), 1) := by decide +kernel
theorem dT_findFault_22 : decode mT_findFault.2.1 22 = .ok (.putfield 34, 3) := by decide +kernel
theorem dT_findFault_25 : decode mT_findFault.2.1 25 = .ok (.iconst 0, 1) := by decide +kernel
theorem dT_findFault_26 : decode mT_findFault.2.1 26 = .ok (.istore_n 1, 1) := by decide +kernel
theorem dT_findFault_27 : decode mT_findFault.2.1 27 = .ok (.iload_n 1, 1) := by decide +kernel
theorem dT_findFault_28 : decode mT_findFault.2.1 28 = .ok (.aload_n 0, 1) := by decide +kernel
theorem dT_findFault_29 : decode mT_findFault.2.1 29 = .ok (.getfield 18, 3) := by decide +kernel
theorem dT_findFault_32 : decode mT_findFault.2.1 32 = .ok (.if_icmp .ge 41, 3) := by decide +kernel
theorem dT_findFault_35 : decode mT_findFault.2.1 35 = .ok (.iload_n 1, 1) := by decide +kernel
theorem dT_findFault_36 : decode mT_findFault.2.1 36 = .ok (.bipush 60, 2) := by decide +kernel
theorem dT_findFault_38 : decode mT_findFault.2.1 38 = .ok (.if_icmp .ge 35, 3) := by decide +kernel
theorem dT_findFault_41 : decode mT_findFault.2.1 41 = .ok (.aload_n 0, 1) := by decide +kernel
theorem dT_findFault_42 : decode mT_findFault.2.1 42 = .ok (.getfield 9, 3) := by decide +kernel
theorem dT_findFault_45 : decode mT_findFault.2.1 45 = .ok (.iload_n 1, 1) := by decide +kernel
theorem dT_findFault_46 : decode mT_findFault.2.1 46 = .ok (.iaload, 1) := by decide +kernel
theorem dT_findFault_47 : decode mT_findFault.2.1 47 = .ok (.bipush 32, 2) := by decide +kernel
theorem dT_findFault_49 : decode mT_findFault.2.1 49 = .ok (.if_icmp .eq 18, 3) := by decide +kernel
theorem dT_findFault_52 : decode mT_findFault.2.1 52 = .ok (.aload_n 0, 1) := by decide +kernel
theorem dT_findFault_53 : decode mT_findFault.2.1 53 = .ok (.aload_n 0, 1) := by decide +kernel
theorem dT_findFault_54 : decode mT_findFault.2.1 54 = .ok (.getfield 9, 3) := by decide +kernel
theorem dT_findFault_57 : decode mT_findFault.2.1 57 = .ok (.iload_n 1, 1) := by decide +kernel
theorem dT_findFault_58 : decode mT_findFault.2.1 58 = .ok (.iaload, 1) := by decide +kernel
theorem dT_findFault_59 : decode mT_findFault.2.1 59 = .ok (.invokevirtual 37, 3) := by decide +kernel
theorem dT_findFault_62 : decode mT_findFault.2.1 62 = .ok (.ifCond .ne 5, 3) := by decide +kernel
theorem dT_findFault_65 : decode mT_findFault.2.1 65 = .ok (.iload_n 1, 1) := by decide +kernel
theorem dT_findFault_66 : decode mT_findFault.2.1 66 = .ok (.ireturn, 1) := by decide +kernel
theorem dT_findFault_67 : decode mT_findFault.2.1 67 = .ok (.iinc 1 1, 3) := by decide +kernel
theorem dT_findFault_70 : decode mT_findFault.2.1 70 = .ok (.goto (-43), 3) := by decide +kernel
theorem dT_findFault_73 : decode mT_findFault.2.1 73 = .ok (.aload_n 0, 1) := by decide +kernel
theorem dT_findFault_74 : decode mT_findFault.2.1 74 = .ok (.getfield 31, 3) := by decide +kernel
theorem dT_findFault_77 : decode mT_findFault.2.1 77 = .ok (.ifCond .ne 22, 3) := by decide +kernel
theorem dT_findFault_80 : decode mT_findFault.2.1 80 = .ok (.aload_n 0, 1) := by decide +kernel
theorem dT_findFault_81 : decode mT_findFault.2.1 81 = .ok (.getfield 28, 3) := by decide +kernel
theorem dT_findFault_84 : decode mT_findFault.2.1 84 = .ok (.ifCond .le 15, 3) := by decide +kernel
theorem dT_findFault_87 : decode mT_findFault.2.1 87 = .ok (.aload_n 0, 1) := by decide +kernel
theorem dT_findFault_88 : decode mT_findFault.2.1 88 = .ok (.getfield 34, 3) := by decide +kernel
theorem dT_findFault_91 : decode mT_findFault.2.1 91 = .ok (.iconst (-1), 1) := by decide +kernel
theorem dT_findFault_92 : decode mT_findFault.2.1 92 = .ok (.if_icmp .eq 7, 3) := by decide +kernel
theorem dT_findFault_95 : decode mT_findFault.2.1 95 = .ok (.iconst 1, 1) := by decide +kernel
theorem dT_findFault_96 : decode mT_findFault.2.1 96 = .ok (.goto 4, 3) := by decide +kernel
theorem dT_findFault_99 : decode mT_findFault.2.1 99 = .ok (.iconst 0, 1) := by decide +kernel
theorem dT_findFault_100 : decode mT_findFault.2.1 100 = .ok (.istore_n 1, 1) := by decide +kernel
theorem dT_findFault_101 : decode mT_findFault.2.1 101 = .ok (.iload_n 1, 1) := by decide +kernel
theorem dT_findFault_102 : decode mT_findFault.2.1 102 = .ok (.ifCond .eq 7, 3) := by decide +kernel
theorem dT_findFault_105 : decode mT_findFault.2.1 105 = .ok (.iconst (-1), 1) := by decide +kernel
theorem dT_findFault_106 : decode mT_findFault.2.1 106 = .ok (.goto 7, 3) := by decide +kernel
theorem dT_findFault_109 : decode mT_findFault.2.1 109 = .ok (.aload_n 0, 1) := by decide +kernel
theorem dT_findFault_110 : decode mT_findFault.2.1 110 = .ok (.getfield 18, 3) := by decide +kernel
theorem dT_findFault_113 : decode mT_findFault.2.1 113 = .ok (.ireturn, 1) := by decide +kernel
theorem dT_takes_0 : decode mT_takes.2.1 0 = .ok (.iload_n 1, 1) := by decide +kernel
theorem dT_takes_1 : decode mT_takes.2.1 1 = .ok (.bipush 59, 2) := by decide +kernel
theorem dT_takes_3 : decode mT_takes.2.1 3 = .ok (.if_icmp .ne 10, 3) := by decide +kernel
theorem dT_takes_6 : decode mT_takes.2.1 6 = .ok (.aload_n 0, 1) := by decide +kernel
theorem dT_takes_7 : decode mT_takes.2.1 7 = .ok (.invokevirtual 41, 3) := by decide +kernel
theorem dT_takes_10 : decode mT_takes.2.1 10 = .ok (.goto 11, 3) := by decide +kernel
theorem dT_takes_13 : decode mT_takes.2.1 13 = .ok (.aload_n 0, 1) := by decide +kernel
theorem dT_takes_14 : decode mT_takes.2.1 14 = .ok (.iload_n 1, 1) := by decide +kernel
theorem dT_takes_15 : decode mT_takes.2.1 15 = .ok (.invokestatic 45, 3) := by decide +kernel
theorem dT_takes_18 : decode mT_takes.2.1 18 = .ok (.invokevirtual 49, 3) := by decide +kernel
theorem dT_takes_21 : decode mT_takes.2.1 21 = .ok (.ireturn, 1) := by decide +kernel
theorem dT_endsRow_0 : decode mT_endsRow.2.1 0 = .ok (.aload_n 0, 1) := by decide +kernel
theorem dT_endsRow_1 : decode mT_endsRow.2.1 1 = .ok (.getfield 31, 3) := by decide +kernel
theorem dT_endsRow_4 : decode mT_endsRow.2.1 4 = .ok (.ifCond .eq 14, 3) := by decide +kernel
theorem dT_endsRow_7 : decode mT_endsRow.2.1 7 = .ok (.aload_n 0, 1) := by decide +kernel
theorem dT_endsRow_8 : decode mT_endsRow.2.1 8 = .ok (.getfield 31, 3) := by decide +kernel
theorem dT_endsRow_11 : decode mT_endsRow.2.1 11 = .ok (.aload_n 0, 1) := by decide +kernel
theorem dT_endsRow_12 : decode mT_endsRow.2.1 12 = .ok (.getfield 25, 3) := by decide +kernel
theorem dT_endsRow_15 : decode mT_endsRow.2.1 15 = .ok (.if_icmp .ge 5, 3) := by decide +kernel
theorem dT_endsRow_18 : decode mT_endsRow.2.1 18 = .ok (.iconst 0, 1) := by decide +kernel
theorem dT_endsRow_19 : decode mT_endsRow.2.1 19 = .ok (.ireturn, 1) := by decide +kernel
theorem dT_endsRow_20 : decode mT_endsRow.2.1 20 = .ok (.aload_n 0, 1) := by decide +kernel
theorem dT_endsRow_21 : decode mT_endsRow.2.1 21 = .ok (.aload_n 0, 1) := by decide +kernel
theorem dT_endsRow_22 : decode mT_endsRow.2.1 22 = .ok (.getfield 31, 3) := by decide +kernel
theorem dT_endsRow_25 : decode mT_endsRow.2.1 25 = .ok (.putfield 25, 3) := by decide +kernel
theorem dT_endsRow_28 : decode mT_endsRow.2.1 28 = .ok (.aload_n 0, 1) := by decide +kernel
theorem dT_endsRow_29 : decode mT_endsRow.2.1 29 = .ok (.dup, 1) := by decide +kernel
theorem dT_endsRow_30 : decode mT_endsRow.2.1 30 = .ok (.getfield 28, 3) := by decide +kernel
theorem dT_endsRow_33 : decode mT_endsRow.2.1 33 = .ok (.iconst 1, 1) := by decide +kernel
theorem dT_endsRow_34 : decode mT_endsRow.2.1 34 = .ok (.iadd, 1) := by decide +kernel
theorem dT_endsRow_35 : decode mT_endsRow.2.1 35 = .ok (.putfield 28, 3) := by decide +kernel
theorem dT_endsRow_38 : decode mT_endsRow.2.1 38 = .ok (.aload_n 0, 1) := by decide +kernel
theorem dT_endsRow_39 : decode mT_endsRow.2.1 39 = .ok (.iconst 0, 1) := by decide +kernel
theorem dT_endsRow_40 : decode mT_endsRow.2.1 40 = .ok (.putfield 31, 3) := by decide +kernel
theorem dT_endsRow_43 : decode mT_endsRow.2.1 43 = .ok (.iconst 1, 1) := by decide +kernel
theorem dT_endsRow_44 : decode mT_endsRow.2.1 44 = .ok (.ireturn, 1) := by decide +kernel
theorem dT_takesSign_0 : decode mT_takesSign.2.1 0 = .ok (.aload_n 0, 1) := by decide +kernel
theorem dT_takesSign_1 : decode mT_takesSign.2.1 1 = .ok (.getfield 28, 3) := by decide +kernel
theorem dT_takesSign_4 : decode mT_takesSign.2.1 4 = .ok (.ifCond .ne 8, 3) := by decide +kernel
theorem dT_takesSign_7 : decode mT_takesSign.2.1 7 = .ok (.bipush 6, 2) := by decide +kernel
theorem dT_takesSign_9 : decode mT_takesSign.2.1 9 = .ok (.goto 7, 3) := by decide +kernel
theorem dT_takesSign_12 : decode mT_takesSign.2.1 12 = .ok (.aload_n 0, 1) := by decide +kernel
theorem dT_takesSign_13 : decode mT_takesSign.2.1 13 = .ok (.getfield 25, 3) := by decide +kernel
theorem dT_takesSign_16 : decode mT_takesSign.2.1 16 = .ok (.istore_n 2, 1) := by decide +kernel
theorem dT_takesSign_17 : decode mT_takesSign.2.1 17 = .ok (.iload_n 1, 1) := by decide +kernel
theorem dT_takesSign_18 : decode mT_takesSign.2.1 18 = .ok (.bipush (-9), 2) := by decide +kernel
theorem dT_takesSign_20 : decode mT_takesSign.2.1 20 = .ok (.if_icmp .eq 29, 3) := by decide +kernel
theorem dT_takesSign_23 : decode mT_takesSign.2.1 23 = .ok (.aload_n 0, 1) := by decide +kernel
theorem dT_takesSign_24 : decode mT_takesSign.2.1 24 = .ok (.getfield 28, 3) := by decide +kernel
theorem dT_takesSign_27 : decode mT_takesSign.2.1 27 = .ok (.bipush 6, 2) := by decide +kernel
theorem dT_takesSign_29 : decode mT_takesSign.2.1 29 = .ok (.if_icmp .ge 20, 3) := by decide +kernel
theorem dT_takesSign_32 : decode mT_takesSign.2.1 32 = .ok (.aload_n 0, 1) := by decide +kernel
theorem dT_takesSign_33 : decode mT_takesSign.2.1 33 = .ok (.getfield 31, 3) := by decide +kernel
theorem dT_takesSign_36 : decode mT_takesSign.2.1 36 = .ok (.iload_n 2, 1) := by decide +kernel
theorem dT_takesSign_37 : decode mT_takesSign.2.1 37 = .ok (.if_icmp .ge 12, 3) := by decide +kernel
theorem dT_takesSign_40 : decode mT_takesSign.2.1 40 = .ok (.aload_n 0, 1) := by decide +kernel
theorem dT_takesSign_41 : decode mT_takesSign.2.1 41 = .ok (.getfield 22, 3) := by decide +kernel
theorem dT_takesSign_44 : decode mT_takesSign.2.1 44 = .ok (.bipush 36, 2) := by decide +kernel
theorem dT_takesSign_46 : decode mT_takesSign.2.1 46 = .ok (.if_icmp .lt 5, 3) := by decide +kernel
theorem dT_takesSign_49 : decode mT_takesSign.2.1 49 = .ok (.iconst 0, 1) := by decide +kernel
theorem dT_takesSign_50 : decode mT_takesSign.2.1 50 = .ok (.ireturn, 1) := by decide +kernel
theorem dT_takesSign_51 : decode mT_takesSign.2.1 51 = .ok (.iload_n 1, 1) := by decide +kernel
theorem dT_takesSign_52 : decode mT_takesSign.2.1 52 = .ok (.bipush 6, 2) := by decide +kernel
theorem dT_takesSign_54 : decode mT_takesSign.2.1 54 = .ok (.if_icmp .ne 13, 3) := by decide +kernel
theorem dT_takesSign_57 : decode mT_takesSign.2.1 57 = .ok (.aload_n 0, 1) := by decide +kernel
theorem dT_takesSign_58 : decode mT_takesSign.2.1 58 = .ok (.getfield 34, 3) := by decide +kernel
theorem dT_takesSign_61 : decode mT_takesSign.2.1 61 = .ok (.iconst (-1), 1) := by decide +kernel
theorem dT_takesSign_62 : decode mT_takesSign.2.1 62 = .ok (.if_icmp .eq 5, 3) := by decide +kernel
theorem dT_takesSign_65 : decode mT_takesSign.2.1 65 = .ok (.iconst 0, 1) := by decide +kernel
theorem dT_takesSign_66 : decode mT_takesSign.2.1 66 = .ok (.ireturn, 1) := by decide +kernel
theorem dT_takesSign_67 : decode mT_takesSign.2.1 67 = .ok (.iload_n 1, 1) := by decide +kernel
theorem dT_takesSign_68 : decode mT_takesSign.2.1 68 = .ok (.bipush 6, 2) := by decide +kernel
theorem dT_takesSign_70 : decode mT_takesSign.2.1 70 = .ok (.if_icmp .ne 11, 3) := by decide +kernel
theorem dT_takesSign_73 : decode mT_takesSign.2.1 73 = .ok (.aload_n 0, 1) := by decide +kernel
theorem dT_takesSign_74 : decode mT_takesSign.2.1 74 = .ok (.aload_n 0, 1) := by decide +kernel
theorem dT_takesSign_75 : decode mT_takesSign.2.1 75 = .ok (.getfield 22, 3) := by decide +kernel
theorem dT_takesSign_78 : decode mT_takesSign.2.1 78 = .ok (.putfield 34, 3) := by decide +kernel
theorem dT_takesSign_81 : decode mT_takesSign.2.1 81 = .ok (.aload_n 0, 1) := by decide +kernel
theorem dT_takesSign_82 : decode mT_takesSign.2.1 82 = .ok (.getfield 15, 3) := by decide +kernel
theorem dT_takesSign_85 : decode mT_takesSign.2.1 85 = .ok (.aload_n 0, 1) := by decide +kernel
theorem dT_takesSign_86 : decode mT_takesSign.2.1 86 = .ok (.getfield 22, 3) := by decide +kernel
theorem dT_takesSign_89 : decode mT_takesSign.2.1 89 = .ok (.iload_n 1, 1) := by decide +kernel
theorem dT_takesSign_90 : decode mT_takesSign.2.1 90 = .ok (.iastore, 1) := by decide +kernel
theorem dT_takesSign_91 : decode mT_takesSign.2.1 91 = .ok (.aload_n 0, 1) := by decide +kernel
theorem dT_takesSign_92 : decode mT_takesSign.2.1 92 = .ok (.dup, 1) := by decide +kernel
theorem dT_takesSign_93 : decode mT_takesSign.2.1 93 = .ok (.getfield 22, 3) := by decide +kernel
theorem dT_takesSign_96 : decode mT_takesSign.2.1 96 = .ok (.iconst 1, 1) := by decide +kernel
theorem dT_takesSign_97 : decode mT_takesSign.2.1 97 = .ok (.iadd, 1) := by decide +kernel
theorem dT_takesSign_98 : decode mT_takesSign.2.1 98 = .ok (.putfield 22, 3) := by decide +kernel
theorem dT_takesSign_101 : decode mT_takesSign.2.1 101 = .ok (.aload_n 0, 1) := by decide +kernel
theorem dT_takesSign_102 : decode mT_takesSign.2.1 102 = .ok (.dup, 1) := by decide +kernel
theorem dT_takesSign_103 : decode mT_takesSign.2.1 103 = .ok (.getfield 31, 3) := by decide +kernel
theorem dT_takesSign_106 : decode mT_takesSign.2.1 106 = .ok (.iconst 1, 1) := by decide +kernel
theorem dT_takesSign_107 : decode mT_takesSign.2.1 107 = .ok (.iadd, 1) := by decide +kernel
theorem dT_takesSign_108 : decode mT_takesSign.2.1 108 = .ok (.putfield 31, 3) := by decide +kernel
theorem dT_takesSign_111 : decode mT_takesSign.2.1 111 = .ok (.iconst 1, 1) := by decide +kernel
theorem dT_takesSign_112 : decode mT_takesSign.2.1 112 = .ok (.ireturn, 1) := by decide +kernel
theorem dT_kindOfSign_0 : decode mT_kindOfSign.2.1 0 = .ok (.iload_n 0, 1) := by decide +kernel
theorem dT_kindOfSign_1 : decode mT_kindOfSign.2.1 1 = .ok (.lookupswitch 72 #[(33, 63), (35, 61), (46, 59), (68, 69), (100, 67), (110, 65)], 59) := by decide +kernel
theorem dT_kindOfSign_60 : decode mT_kindOfSign.2.1 60 = .ok (.iconst 0, 1) := by decide +kernel
theorem dT_kindOfSign_61 : decode mT_kindOfSign.2.1 61 = .ok (.ireturn, 1) := by decide +kernel
theorem dT_kindOfSign_62 : decode mT_kindOfSign.2.1 62 = .ok (.iconst 1, 1) := by decide +kernel
theorem dT_kindOfSign_63 : decode mT_kindOfSign.2.1 63 = .ok (.ireturn, 1) := by decide +kernel
theorem dT_kindOfSign_64 : decode mT_kindOfSign.2.1 64 = .ok (.iconst 2, 1) := by decide +kernel
theorem dT_kindOfSign_65 : decode mT_kindOfSign.2.1 65 = .ok (.ireturn, 1) := by decide +kernel
theorem dT_kindOfSign_66 : decode mT_kindOfSign.2.1 66 = .ok (.iconst 3, 1) := by decide +kernel
theorem dT_kindOfSign_67 : decode mT_kindOfSign.2.1 67 = .ok (.ireturn, 1) := by decide +kernel
theorem dT_kindOfSign_68 : decode mT_kindOfSign.2.1 68 = .ok (.iconst 4, 1) := by decide +kernel
theorem dT_kindOfSign_69 : decode mT_kindOfSign.2.1 69 = .ok (.ireturn, 1) := by decide +kernel
theorem dT_kindOfSign_70 : decode mT_kindOfSign.2.1 70 = .ok (.bipush 6, 2) := by decide +kernel
theorem dT_kindOfSign_72 : decode mT_kindOfSign.2.1 72 = .ok (.ireturn, 1) := by decide +kernel
theorem dT_kindOfSign_73 : decode mT_kindOfSign.2.1 73 = .ok (.bipush (-9), 2) := by decide +kernel
theorem dT_kindOfSign_75 : decode mT_kindOfSign.2.1 75 = .ok (.ireturn, 1) := by decide +kernel
theorem dF_init_0 : decode mF_init.2.1 0 = .ok (.aload_n 0, 1) := by decide +kernel
theorem dF_init_1 : decode mF_init.2.1 1 = .ok (.invokespecial 3, 3) := by decide +kernel
theorem dF_init_4 : decode mF_init.2.1 4 = .ok (.aload_n 0, 1) := by decide +kernel
theorem dF_init_5 : decode mF_init.2.1 5 = .ok (.new 9, 3) := by decide +kernel
theorem dF_init_8 : decode mF_init.2.1 8 = .ok (.dup, 1) := by decide +kernel
theorem dF_init_9 : decode mF_init.2.1 9 = .ok (.invokespecial 11, 3) := by decide +kernel
theorem dF_init_12 : decode mF_init.2.1 12 = .ok (.putfield 12, 3) := by decide +kernel
theorem dF_init_15 : decode mF_init.2.1 15 = .ok (.aload_n 0, 1) := by decide +kernel
theorem dF_init_16 : decode mF_init.2.1 16 = .ok (.new 16, 3) := by decide +kernel
theorem dF_init_19 : decode mF_init.2.1 19 = .ok (.dup, 1) := by decide +kernel
theorem dF_init_20 : decode mF_init.2.1 20 = .ok (.invokespecial 18, 3) := by decide +kernel
theorem dF_init_23 : decode mF_init.2.1 23 = .ok (.putfield 19, 3) := by decide +kernel
theorem dF_init_26 : decode mF_init.2.1 26 = .ok (.aload_n 0, 1) := by decide +kernel
theorem dF_init_27 : decode mF_init.2.1 27 = .ok (.new 23, 3) := by decide +kernel
theorem dF_init_30 : decode mF_init.2.1 30 = .ok (.dup, 1) := by decide +kernel
theorem dF_init_31 : decode mF_init.2.1 31 = .ok (.aload_n 0, 1) := by decide +kernel
theorem dF_init_32 : decode mF_init.2.1 32 = .ok (.getfield 19, 3) := by decide +kernel
theorem dF_init_35 : decode mF_init.2.1 35 = .ok (.invokespecial 25, 3) := by decide +kernel
theorem dF_init_38 : decode mF_init.2.1 38 = .ok (.putfield 28, 3) := by decide +kernel
theorem dF_init_41 : decode mF_init.2.1 41 = .ok (.aload_n 0, 1) := by decide +kernel
theorem dF_init_42 : decode mF_init.2.1 42 = .ok (.new 23, 3) := by decide +kernel
theorem dF_init_45 : decode mF_init.2.1 45 = .ok (.dup, 1) := by decide +kernel
theorem dF_init_46 : decode mF_init.2.1 46 = .ok (.aload_n 0, 1) := by decide +kernel
theorem dF_init_47 : decode mF_init.2.1 47 = .ok (.getfield 19, 3) := by decide +kernel
theorem dF_init_50 : decode mF_init.2.1 50 = .ok (.invokespecial 25, 3) := by decide +kernel
theorem dF_init_53 : decode mF_init.2.1 53 = .ok (.putfield 32, 3) := by decide +kernel
theorem dF_init_56 : decode mF_init.2.1 56 = .ok (.aload_n 0, 1) := by decide +kernel
theorem dF_init_57 : decode mF_init.2.1 57 = .ok (.new 35, 3) := by decide +kernel
theorem dF_init_60 : decode mF_init.2.1 60 = .ok (.dup, 1) := by decide +kernel
theorem dF_init_61 : decode mF_init.2.1 61 = .ok (.invokespecial 37, 3) := by decide +kernel
theorem dF_init_64 : decode mF_init.2.1 64 = .ok (.putfield 38, 3) := by decide +kernel
theorem dF_init_67 : decode mF_init.2.1 67 = .ok (.aload_n 0, 1) := by decide +kernel
theorem dF_init_68 : decode mF_init.2.1 68 = .ok (.new 42, 3) := by decide +kernel
theorem dF_init_71 : decode mF_init.2.1 71 = .ok (.dup, 1) := by decide +kernel
theorem dF_init_72 : decode mF_init.2.1 72 = .ok (.aload_n 0, 1) := by decide +kernel
theorem dF_init_73 : decode mF_init.2.1 73 = .ok (.getfield 19, 3) := by decide +kernel
theorem dF_init_76 : decode mF_init.2.1 76 = .ok (.invokespecial 44, 3) := by decide +kernel
theorem dF_init_79 : decode mF_init.2.1 79 = .ok (.putfield 45, 3) := by decide +kernel
theorem dF_init_82 : decode mF_init.2.1 82 = .ok (.aload_n 0, 1) := by decide +kernel
theorem dF_init_83 : decode mF_init.2.1 83 = .ok (.new 49, 3) := by decide +kernel
theorem dF_init_86 : decode mF_init.2.1 86 = .ok (.dup, 1) := by decide +kernel
theorem dF_init_87 : decode mF_init.2.1 87 = .ok (.aload_n 0, 1) := by decide +kernel
theorem dF_init_88 : decode mF_init.2.1 88 = .ok (.getfield 19, 3) := by decide +kernel
theorem dF_init_91 : decode mF_init.2.1 91 = .ok (.invokespecial 51, 3) := by decide +kernel
theorem dF_init_94 : decode mF_init.2.1 94 = .ok (.putfield 52, 3) := by decide +kernel
theorem dF_init_97 : decode mF_init.2.1 97 = .ok (.aload_n 0, 1) := by decide +kernel
theorem dF_init_98 : decode mF_init.2.1 98 = .ok (.getfield 12, 3) := by decide +kernel
theorem dF_init_101 : decode mF_init.2.1 101 = .ok (.bipush 68, 2) := by decide +kernel
theorem dF_init_103 : decode mF_init.2.1 103 = .ok (.invokevirtual 56, 3) := by decide +kernel
theorem dF_init_106 : decode mF_init.2.1 106 = .ok (.pop, 1) := by decide +kernel
theorem dF_init_107 : decode mF_init.2.1 107 = .ok (.aload_n 0, 1) := by decide +kernel
theorem dF_init_108 : decode mF_init.2.1 108 = .ok (.getfield 12, 3) := by decide +kernel
theorem dF_init_111 : decode mF_init.2.1 111 = .ok (.bipush 59, 2) := by decide +kernel
theorem dF_init_113 : decode mF_init.2.1 113 = .ok (.invokevirtual 56, 3) := by decide +kernel
theorem dF_init_116 : decode mF_init.2.1 116 = .ok (.pop, 1) := by decide +kernel
theorem dF_init_117 : decode mF_init.2.1 117 = .ok (.aload_n 0, 1) := by decide +kernel
theorem dF_init_118 : decode mF_init.2.1 118 = .ok (.invokevirtual 60, 3) := by decide +kernel
theorem dF_init_121 : decode mF_init.2.1 121 = .ok (.pop, 1) := by decide +kernel
theorem dF_init_122 : decode mF_init.2.1 122 = .ok (.return_, 1) := by decide +kernel
theorem dF_type_0 : decode mF_type.2.1 0 = .ok (.iload_n 1, 1) := by decide +kernel
theorem dF_type_1 : decode mF_type.2.1 1 = .ok (.ifCond .lt 10, 3) := by decide +kernel
theorem dF_type_4 : decode mF_type.2.1 4 = .ok (.iload_n 1, 1) := by decide +kernel
theorem dF_type_5 : decode mF_type.2.1 5 = .ok (.sipush 255, 3) := by decide +kernel
theorem dF_type_8 : decode mF_type.2.1 8 = .ok (.if_icmp .le 5, 3) := by decide +kernel
theorem dF_type_11 : decode mF_type.2.1 11 = .ok (.iconst (-1), 1) := by decide +kernel
theorem dF_type_12 : decode mF_type.2.1 12 = .ok (.ireturn, 1) := by decide +kernel
theorem dF_type_13 : decode mF_type.2.1 13 = .ok (.aload_n 0, 1) := by decide +kernel
theorem dF_type_14 : decode mF_type.2.1 14 = .ok (.getfield 12, 3) := by decide +kernel
theorem dF_type_17 : decode mF_type.2.1 17 = .ok (.iload_n 1, 1) := by decide +kernel
theorem dF_type_18 : decode mF_type.2.1 18 = .ok (.invokevirtual 56, 3) := by decide +kernel
theorem dF_type_21 : decode mF_type.2.1 21 = .ok (.ifCond .eq 13, 3) := by decide +kernel
theorem dF_type_24 : decode mF_type.2.1 24 = .ok (.aload_n 0, 1) := by decide +kernel
theorem dF_type_25 : decode mF_type.2.1 25 = .ok (.getfield 12, 3) := by decide +kernel
theorem dF_type_28 : decode mF_type.2.1 28 = .ok (.getfield 64, 3) := by decide +kernel
theorem dF_type_31 : decode mF_type.2.1 31 = .ok (.goto 5, 3) := by decide +kernel
theorem dF_type_34 : decode mF_type.2.1 34 = .ok (.bipush (-3), 2) := by decide +kernel
theorem dF_type_36 : decode mF_type.2.1 36 = .ok (.ireturn, 1) := by decide +kernel
theorem dF_clear_0 : decode mF_clear.2.1 0 = .ok (.aload_n 0, 1) := by decide +kernel
theorem dF_clear_1 : decode mF_clear.2.1 1 = .ok (.getfield 12, 3) := by decide +kernel
theorem dF_clear_4 : decode mF_clear.2.1 4 = .ok (.getfield 64, 3) := by decide +kernel
theorem dF_clear_7 : decode mF_clear.2.1 7 = .ok (.istore_n 1, 1) := by decide +kernel
theorem dF_clear_8 : decode mF_clear.2.1 8 = .ok (.aload_n 0, 1) := by decide +kernel
theorem dF_clear_9 : decode mF_clear.2.1 9 = .ok (.getfield 12, 3) := by decide +kernel
theorem dF_clear_12 : decode mF_clear.2.1 12 = .ok (.iconst 0, 1) := by decide +kernel
theorem dF_clear_13 : decode mF_clear.2.1 13 = .ok (.putfield 64, 3) := by decide +kernel
theorem dF_clear_16 : decode mF_clear.2.1 16 = .ok (.iload_n 1, 1) := by decide +kernel
theorem dF_clear_17 : decode mF_clear.2.1 17 = .ok (.ireturn, 1) := by decide +kernel
theorem dF_floor_0 : decode mF_floor.2.1 0 = .ok (.aload_n 0, 1) := by decide +kernel
theorem dF_floor_1 : decode mF_floor.2.1 1 = .ok (.invokevirtual 60, 3) := by decide +kernel
theorem dF_floor_4 : decode mF_floor.2.1 4 = .ok (.istore_n 1, 1) := by decide +kernel
theorem dF_floor_5 : decode mF_floor.2.1 5 = .ok (.iload_n 1, 1) := by decide +kernel
theorem dF_floor_6 : decode mF_floor.2.1 6 = .ok (.iconst (-1), 1) := by decide +kernel
theorem dF_floor_7 : decode mF_floor.2.1 7 = .ok (.if_icmp .ne 13, 3) := by decide +kernel
theorem dF_floor_10 : decode mF_floor.2.1 10 = .ok (.aload_n 0, 1) := by decide +kernel
theorem dF_floor_11 : decode mF_floor.2.1 11 = .ok (.getfield 19, 3) := by decide +kernel
theorem dF_floor_14 : decode mF_floor.2.1 14 = .ok (.invokevirtual 68, 3) := by decide +kernel
theorem dF_floor_17 : decode mF_floor.2.1 17 = .ok (.goto 7, 3) := by decide +kernel
theorem dF_floor_20 : decode mF_floor.2.1 20 = .ok (.bipush (-10), 2) := by decide +kernel
theorem dF_floor_22 : decode mF_floor.2.1 22 = .ok (.iload_n 1, 1) := by decide +kernel
theorem dF_floor_23 : decode mF_floor.2.1 23 = .ok (.isub, 1) := by decide +kernel
theorem dF_floor_24 : decode mF_floor.2.1 24 = .ok (.ireturn, 1) := by decide +kernel
theorem dF_cell_0 : decode mF_cell.2.1 0 = .ok (.aload_n 0, 1) := by decide +kernel
theorem dF_cell_1 : decode mF_cell.2.1 1 = .ok (.getfield 19, 3) := by decide +kernel
theorem dF_cell_4 : decode mF_cell.2.1 4 = .ok (.iload_n 1, 1) := by decide +kernel
theorem dF_cell_5 : decode mF_cell.2.1 5 = .ok (.invokevirtual 71, 3) := by decide +kernel
theorem dF_cell_8 : decode mF_cell.2.1 8 = .ok (.ifCond .eq 14, 3) := by decide +kernel
theorem dF_cell_11 : decode mF_cell.2.1 11 = .ok (.aload_n 0, 1) := by decide +kernel
theorem dF_cell_12 : decode mF_cell.2.1 12 = .ok (.getfield 28, 3) := by decide +kernel
theorem dF_cell_15 : decode mF_cell.2.1 15 = .ok (.iload_n 1, 1) := by decide +kernel
theorem dF_cell_16 : decode mF_cell.2.1 16 = .ok (.invokevirtual 74, 3) := by decide +kernel
theorem dF_cell_19 : decode mF_cell.2.1 19 = .ok (.goto 4, 3) := by decide +kernel
theorem dF_cell_22 : decode mF_cell.2.1 22 = .ok (.iconst (-1), 1) := by decide +kernel
theorem dF_cell_23 : decode mF_cell.2.1 23 = .ok (.ireturn, 1) := by decide +kernel
theorem dF_powers_0 : decode mF_powers.2.1 0 = .ok (.iload_n 1, 1) := by decide +kernel
theorem dF_powers_1 : decode mF_powers.2.1 1 = .ok (.iconst 1, 1) := by decide +kernel
theorem dF_powers_2 : decode mF_powers.2.1 2 = .ok (.if_icmp .lt 20, 3) := by decide +kernel
theorem dF_powers_5 : decode mF_powers.2.1 5 = .ok (.iload_n 1, 1) := by decide +kernel
theorem dF_powers_6 : decode mF_powers.2.1 6 = .ok (.bipush 99, 2) := by decide +kernel
theorem dF_powers_8 : decode mF_powers.2.1 8 = .ok (.if_icmp .gt 14, 3) := by decide +kernel
theorem dF_powers_11 : decode mF_powers.2.1 11 = .ok (.iload_n 2, 1) := by decide +kernel
theorem dF_powers_12 : decode mF_powers.2.1 12 = .ok (.iconst 1, 1) := by decide +kernel
theorem dF_powers_13 : decode mF_powers.2.1 13 = .ok (.if_icmp .lt 9, 3) := by decide +kernel
theorem dF_powers_16 : decode mF_powers.2.1 16 = .ok (.iload_n 2, 1) := by decide +kernel
theorem dF_powers_17 : decode mF_powers.2.1 17 = .ok (.bipush 20, 2) := by decide +kernel
theorem dF_powers_19 : decode mF_powers.2.1 19 = .ok (.if_icmp .le 5, 3) := by decide +kernel
theorem dF_powers_22 : decode mF_powers.2.1 22 = .ok (.iconst (-1), 1) := by decide +kernel
theorem dF_powers_23 : decode mF_powers.2.1 23 = .ok (.ireturn, 1) := by decide +kernel
theorem dF_powers_24 : decode mF_powers.2.1 24 = .ok (.iload_n 1, 1) := by decide +kernel
theorem dF_powers_25 : decode mF_powers.2.1 25 = .ok (.aload_n 0, 1) := by decide +kernel
theorem dF_powers_26 : decode mF_powers.2.1 26 = .ok (.getfield 28, 3) := by decide +kernel
theorem dF_powers_29 : decode mF_powers.2.1 29 = .ok (.getfield 78, 3) := by decide +kernel
theorem dF_powers_32 : decode mF_powers.2.1 32 = .ok (.if_icmp .ne 17, 3) := by decide +kernel
theorem dF_powers_35 : decode mF_powers.2.1 35 = .ok (.iload_n 2, 1) := by decide +kernel
theorem dF_powers_36 : decode mF_powers.2.1 36 = .ok (.aload_n 0, 1) := by decide +kernel
theorem dF_powers_37 : decode mF_powers.2.1 37 = .ok (.getfield 28, 3) := by decide +kernel
theorem dF_powers_40 : decode mF_powers.2.1 40 = .ok (.getfield 81, 3) := by decide +kernel
theorem dF_powers_43 : decode mF_powers.2.1 43 = .ok (.if_icmp .ne 6, 3) := by decide +kernel
theorem dF_powers_46 : decode mF_powers.2.1 46 = .ok (.bipush (-2), 2) := by decide +kernel
theorem dF_powers_48 : decode mF_powers.2.1 48 = .ok (.ireturn, 1) := by decide +kernel
theorem dF_powers_49 : decode mF_powers.2.1 49 = .ok (.aload_n 0, 1) := by decide +kernel
theorem dF_powers_50 : decode mF_powers.2.1 50 = .ok (.getfield 45, 3) := by decide +kernel
theorem dF_powers_53 : decode mF_powers.2.1 53 = .ok (.aload_n 0, 1) := by decide +kernel
theorem dF_powers_54 : decode mF_powers.2.1 54 = .ok (.getfield 28, 3) := by decide +kernel
theorem dF_powers_57 : decode mF_powers.2.1 57 = .ok (.invokevirtual 84, 3) := by decide +kernel
theorem dF_powers_60 : decode mF_powers.2.1 60 = .ok (.aload_n 0, 1) := by decide +kernel
theorem dF_powers_61 : decode mF_powers.2.1 61 = .ok (.getfield 28, 3) := by decide +kernel
theorem dF_powers_64 : decode mF_powers.2.1 64 = .ok (.iload_n 1, 1) := by decide +kernel
theorem dF_powers_65 : decode mF_powers.2.1 65 = .ok (.putfield 78, 3) := by decide +kernel
theorem dF_powers_68 : decode mF_powers.2.1 68 = .ok (.aload_n 0, 1) := by decide +kernel
theorem dF_powers_69 : decode mF_powers.2.1 69 = .ok (.getfield 28, 3) := by decide +kernel
theorem dF_powers_72 : decode mF_powers.2.1 72 = .ok (.iload_n 2, 1) := by decide +kernel
theorem dF_powers_73 : decode mF_powers.2.1 73 = .ok (.putfield 81, 3) := by decide +kernel
theorem dF_powers_76 : decode mF_powers.2.1 76 = .ok (.aload_n 0, 1) := by decide +kernel
theorem dF_powers_77 : decode mF_powers.2.1 77 = .ok (.getfield 28, 3) := by decide +kernel
theorem dF_powers_80 : decode mF_powers.2.1 80 = .ok (.aload_n 0, 1) := by decide +kernel
theorem dF_powers_81 : decode mF_powers.2.1 81 = .ok (.getfield 28, 3) := by decide +kernel
theorem dF_powers_84 : decode mF_powers.2.1 84 = .ok (.getfield 88, 3) := by decide +kernel
theorem dF_powers_87 : decode mF_powers.2.1 87 = .ok (.iload_n 1, 1) := by decide +kernel
theorem dF_powers_88 : decode mF_powers.2.1 88 = .ok (.invokestatic 91, 3) := by decide +kernel
theorem dF_powers_91 : decode mF_powers.2.1 91 = .ok (.putfield 88, 3) := by decide +kernel
theorem dF_powers_94 : decode mF_powers.2.1 94 = .ok (.aload_n 0, 1) := by decide +kernel
theorem dF_powers_95 : decode mF_powers.2.1 95 = .ok (.getfield 28, 3) := by decide +kernel
theorem dF_powers_98 : decode mF_powers.2.1 98 = .ok (.getfield 88, 3) := by decide +kernel
theorem dF_powers_101 : decode mF_powers.2.1 101 = .ok (.ireturn, 1) := by decide +kernel
theorem dF_moves_0 : decode mF_moves.2.1 0 = .ok (.aload_n 0, 1) := by decide +kernel
theorem dF_moves_1 : decode mF_moves.2.1 1 = .ok (.getfield 19, 3) := by decide +kernel
theorem dF_moves_4 : decode mF_moves.2.1 4 = .ok (.iload_n 1, 1) := by decide +kernel
theorem dF_moves_5 : decode mF_moves.2.1 5 = .ok (.invokevirtual 71, 3) := by decide +kernel
theorem dF_moves_8 : decode mF_moves.2.1 8 = .ok (.ifCond .eq 17, 3) := by decide +kernel
theorem dF_moves_11 : decode mF_moves.2.1 11 = .ok (.aload_n 0, 1) := by decide +kernel
theorem dF_moves_12 : decode mF_moves.2.1 12 = .ok (.getfield 19, 3) := by decide +kernel
theorem dF_moves_15 : decode mF_moves.2.1 15 = .ok (.getfield 97, 3) := by decide +kernel
theorem dF_moves_18 : decode mF_moves.2.1 18 = .ok (.iload_n 1, 1) := by decide +kernel
theorem dF_moves_19 : decode mF_moves.2.1 19 = .ok (.invokestatic 101, 3) := by decide +kernel
theorem dF_moves_22 : decode mF_moves.2.1 22 = .ok (.ifCond .ne 5, 3) := by decide +kernel
theorem dF_moves_25 : decode mF_moves.2.1 25 = .ok (.iconst (-1), 1) := by decide +kernel
theorem dF_moves_26 : decode mF_moves.2.1 26 = .ok (.ireturn, 1) := by decide +kernel
theorem dF_moves_27 : decode mF_moves.2.1 27 = .ok (.iload_n 1, 1) := by decide +kernel
theorem dF_moves_28 : decode mF_moves.2.1 28 = .ok (.aload_n 0, 1) := by decide +kernel
theorem dF_moves_29 : decode mF_moves.2.1 29 = .ok (.getfield 28, 3) := by decide +kernel
theorem dF_moves_32 : decode mF_moves.2.1 32 = .ok (.getfield 105, 3) := by decide +kernel
theorem dF_moves_35 : decode mF_moves.2.1 35 = .ok (.if_icmp .ne 6, 3) := by decide +kernel
theorem dF_moves_38 : decode mF_moves.2.1 38 = .ok (.bipush (-2), 2) := by decide +kernel
theorem dF_moves_40 : decode mF_moves.2.1 40 = .ok (.ireturn, 1) := by decide +kernel
theorem dF_moves_41 : decode mF_moves.2.1 41 = .ok (.aload_n 0, 1) := by decide +kernel
theorem dF_moves_42 : decode mF_moves.2.1 42 = .ok (.getfield 45, 3) := by decide +kernel
theorem dF_moves_45 : decode mF_moves.2.1 45 = .ok (.aload_n 0, 1) := by decide +kernel
theorem dF_moves_46 : decode mF_moves.2.1 46 = .ok (.getfield 28, 3) := by decide +kernel
theorem dF_moves_49 : decode mF_moves.2.1 49 = .ok (.invokevirtual 84, 3) := by decide +kernel
theorem dF_moves_52 : decode mF_moves.2.1 52 = .ok (.aload_n 0, 1) := by decide +kernel
theorem dF_moves_53 : decode mF_moves.2.1 53 = .ok (.getfield 28, 3) := by decide +kernel
theorem dF_moves_56 : decode mF_moves.2.1 56 = .ok (.dup, 1) := by decide +kernel
theorem dF_moves_57 : decode mF_moves.2.1 57 = .ok (.getfield 108, 3) := by decide +kernel
theorem dF_moves_60 : decode mF_moves.2.1 60 = .ok (.iload_n 1, 1) := by decide +kernel
theorem dF_moves_61 : decode mF_moves.2.1 61 = .ok (.invokestatic 111, 3) := by decide +kernel
theorem dF_moves_64 : decode mF_moves.2.1 64 = .ok (.lxor, 1) := by decide +kernel
theorem dF_moves_65 : decode mF_moves.2.1 65 = .ok (.putfield 108, 3) := by decide +kernel
theorem dF_moves_68 : decode mF_moves.2.1 68 = .ok (.aload_n 0, 1) := by decide +kernel
theorem dF_moves_69 : decode mF_moves.2.1 69 = .ok (.getfield 28, 3) := by decide +kernel
theorem dF_moves_72 : decode mF_moves.2.1 72 = .ok (.getfield 108, 3) := by decide +kernel
theorem dF_moves_75 : decode mF_moves.2.1 75 = .ok (.iload_n 1, 1) := by decide +kernel
theorem dF_moves_76 : decode mF_moves.2.1 76 = .ok (.invokestatic 101, 3) := by decide +kernel
theorem dF_moves_79 : decode mF_moves.2.1 79 = .ok (.ifCond .eq 7, 3) := by decide +kernel
theorem dF_moves_82 : decode mF_moves.2.1 82 = .ok (.iconst 0, 1) := by decide +kernel
theorem dF_moves_83 : decode mF_moves.2.1 83 = .ok (.goto 4, 3) := by decide +kernel
theorem dF_moves_86 : decode mF_moves.2.1 86 = .ok (.iconst 1, 1) := by decide +kernel
theorem dF_moves_87 : decode mF_moves.2.1 87 = .ok (.ireturn, 1) := by decide +kernel
theorem dF_steps_0 : decode mF_steps.2.1 0 = .ok (.aload_n 0, 1) := by decide +kernel
theorem dF_steps_1 : decode mF_steps.2.1 1 = .ok (.getfield 28, 3) := by decide +kernel
theorem dF_steps_4 : decode mF_steps.2.1 4 = .ok (.getfield 88, 3) := by decide +kernel
theorem dF_steps_7 : decode mF_steps.2.1 7 = .ok (.ifCond .gt 6, 3) := by decide +kernel
theorem dF_steps_10 : decode mF_steps.2.1 10 = .ok (.bipush (-2), 2) := by decide +kernel
theorem dF_steps_12 : decode mF_steps.2.1 12 = .ok (.ireturn, 1) := by decide +kernel
theorem dF_steps_13 : decode mF_steps.2.1 13 = .ok (.aload_n 0, 1) := by decide +kernel
theorem dF_steps_14 : decode mF_steps.2.1 14 = .ok (.getfield 45, 3) := by decide +kernel
theorem dF_steps_17 : decode mF_steps.2.1 17 = .ok (.aload_n 0, 1) := by decide +kernel
theorem dF_steps_18 : decode mF_steps.2.1 18 = .ok (.getfield 28, 3) := by decide +kernel
theorem dF_steps_21 : decode mF_steps.2.1 21 = .ok (.invokevirtual 84, 3) := by decide +kernel
theorem dF_steps_24 : decode mF_steps.2.1 24 = .ok (.aload_n 0, 1) := by decide +kernel
theorem dF_steps_25 : decode mF_steps.2.1 25 = .ok (.getfield 28, 3) := by decide +kernel
theorem dF_steps_28 : decode mF_steps.2.1 28 = .ok (.aload_n 0, 1) := by decide +kernel
theorem dF_steps_29 : decode mF_steps.2.1 29 = .ok (.getfield 28, 3) := by decide +kernel
theorem dF_steps_32 : decode mF_steps.2.1 32 = .ok (.getfield 115, 3) := by decide +kernel
theorem dF_steps_35 : decode mF_steps.2.1 35 = .ok (.invokevirtual 118, 3) := by decide +kernel
theorem dF_steps_38 : decode mF_steps.2.1 38 = .ok (.ireturn, 1) := by decide +kernel
theorem dF_rotates_0 : decode mF_rotates.2.1 0 = .ok (.iload_n 1, 1) := by decide +kernel
theorem dF_rotates_1 : decode mF_rotates.2.1 1 = .ok (.iconst 1, 1) := by decide +kernel
theorem dF_rotates_2 : decode mF_rotates.2.1 2 = .ok (.if_icmp .lt 8, 3) := by decide +kernel
theorem dF_rotates_5 : decode mF_rotates.2.1 5 = .ok (.iload_n 1, 1) := by decide +kernel
theorem dF_rotates_6 : decode mF_rotates.2.1 6 = .ok (.iconst 4, 1) := by decide +kernel
theorem dF_rotates_7 : decode mF_rotates.2.1 7 = .ok (.if_icmp .lt 5, 3) := by decide +kernel
theorem dF_rotates_10 : decode mF_rotates.2.1 10 = .ok (.iconst (-1), 1) := by decide +kernel
theorem dF_rotates_11 : decode mF_rotates.2.1 11 = .ok (.ireturn, 1) := by decide +kernel
theorem dF_rotates_12 : decode mF_rotates.2.1 12 = .ok (.aload_n 0, 1) := by decide +kernel
theorem dF_rotates_13 : decode mF_rotates.2.1 13 = .ok (.getfield 45, 3) := by decide +kernel
theorem dF_rotates_16 : decode mF_rotates.2.1 16 = .ok (.aload_n 0, 1) := by decide +kernel
theorem dF_rotates_17 : decode mF_rotates.2.1 17 = .ok (.getfield 28, 3) := by decide +kernel
theorem dF_rotates_20 : decode mF_rotates.2.1 20 = .ok (.invokevirtual 84, 3) := by decide +kernel
theorem dF_rotates_23 : decode mF_rotates.2.1 23 = .ok (.aload_n 0, 1) := by decide +kernel
theorem dF_rotates_24 : decode mF_rotates.2.1 24 = .ok (.getfield 28, 3) := by decide +kernel
theorem dF_rotates_27 : decode mF_rotates.2.1 27 = .ok (.iload_n 1, 1) := by decide +kernel
theorem dF_rotates_28 : decode mF_rotates.2.1 28 = .ok (.invokevirtual 121, 3) := by decide +kernel
theorem dF_rotates_31 : decode mF_rotates.2.1 31 = .ok (.aload_n 0, 1) := by decide +kernel
theorem dF_rotates_32 : decode mF_rotates.2.1 32 = .ok (.getfield 28, 3) := by decide +kernel
theorem dF_rotates_35 : decode mF_rotates.2.1 35 = .ok (.getfield 115, 3) := by decide +kernel
theorem dF_rotates_38 : decode mF_rotates.2.1 38 = .ok (.ireturn, 1) := by decide +kernel
theorem dF_scans_0 : decode mF_scans.2.1 0 = .ok (.aload_n 0, 1) := by decide +kernel
theorem dF_scans_1 : decode mF_scans.2.1 1 = .ok (.getfield 45, 3) := by decide +kernel
theorem dF_scans_4 : decode mF_scans.2.1 4 = .ok (.aload_n 0, 1) := by decide +kernel
theorem dF_scans_5 : decode mF_scans.2.1 5 = .ok (.getfield 28, 3) := by decide +kernel
theorem dF_scans_8 : decode mF_scans.2.1 8 = .ok (.invokevirtual 84, 3) := by decide +kernel
theorem dF_scans_11 : decode mF_scans.2.1 11 = .ok (.aload_n 0, 1) := by decide +kernel
theorem dF_scans_12 : decode mF_scans.2.1 12 = .ok (.getfield 28, 3) := by decide +kernel
theorem dF_scans_15 : decode mF_scans.2.1 15 = .ok (.invokevirtual 125, 3) := by decide +kernel
theorem dF_scans_18 : decode mF_scans.2.1 18 = .ok (.ireturn, 1) := by decide +kernel
theorem dF_carries_0 : decode mF_carries.2.1 0 = .ok (.aload_n 0, 1) := by decide +kernel
theorem dF_carries_1 : decode mF_carries.2.1 1 = .ok (.getfield 19, 3) := by decide +kernel
theorem dF_carries_4 : decode mF_carries.2.1 4 = .ok (.iload_n 1, 1) := by decide +kernel
theorem dF_carries_5 : decode mF_carries.2.1 5 = .ok (.invokevirtual 71, 3) := by decide +kernel
theorem dF_carries_8 : decode mF_carries.2.1 8 = .ok (.ifCond .eq 26, 3) := by decide +kernel
theorem dF_carries_11 : decode mF_carries.2.1 11 = .ok (.aload_n 0, 1) := by decide +kernel
theorem dF_carries_12 : decode mF_carries.2.1 12 = .ok (.getfield 28, 3) := by decide +kernel
theorem dF_carries_15 : decode mF_carries.2.1 15 = .ok (.invokevirtual 128, 3) := by decide +kernel
theorem dF_carries_18 : decode mF_carries.2.1 18 = .ok (.iload_n 1, 1) := by decide +kernel
theorem dF_carries_19 : decode mF_carries.2.1 19 = .ok (.invokestatic 101, 3) := by decide +kernel
theorem dF_carries_22 : decode mF_carries.2.1 22 = .ok (.ifCond .eq 12, 3) := by decide +kernel
theorem dF_carries_25 : decode mF_carries.2.1 25 = .ok (.iload_n 2, 1) := by decide +kernel
theorem dF_carries_26 : decode mF_carries.2.1 26 = .ok (.ifCond .lt 8, 3) := by decide +kernel
theorem dF_carries_29 : decode mF_carries.2.1 29 = .ok (.iload_n 2, 1) := by decide +kernel
theorem dF_carries_30 : decode mF_carries.2.1 30 = .ok (.iconst 4, 1) := by decide +kernel
theorem dF_carries_31 : decode mF_carries.2.1 31 = .ok (.if_icmp .lt 5, 3) := by decide +kernel
theorem dF_carries_34 : decode mF_carries.2.1 34 = .ok (.iconst (-1), 1) := by decide +kernel
theorem dF_carries_35 : decode mF_carries.2.1 35 = .ok (.ireturn, 1) := by decide +kernel
theorem dF_carries_36 : decode mF_carries.2.1 36 = .ok (.aload_n 0, 1) := by decide +kernel
theorem dF_carries_37 : decode mF_carries.2.1 37 = .ok (.getfield 45, 3) := by decide +kernel
theorem dF_carries_40 : decode mF_carries.2.1 40 = .ok (.aload_n 0, 1) := by decide +kernel
theorem dF_carries_41 : decode mF_carries.2.1 41 = .ok (.getfield 28, 3) := by decide +kernel
theorem dF_carries_44 : decode mF_carries.2.1 44 = .ok (.invokevirtual 84, 3) := by decide +kernel
theorem dF_carries_47 : decode mF_carries.2.1 47 = .ok (.aload_n 0, 1) := by decide +kernel
theorem dF_carries_48 : decode mF_carries.2.1 48 = .ok (.getfield 28, 3) := by decide +kernel
theorem dF_carries_51 : decode mF_carries.2.1 51 = .ok (.iload_n 1, 1) := by decide +kernel
theorem dF_carries_52 : decode mF_carries.2.1 52 = .ok (.iload_n 2, 1) := by decide +kernel
theorem dF_carries_53 : decode mF_carries.2.1 53 = .ok (.invokevirtual 132, 3) := by decide +kernel
theorem dF_carries_56 : decode mF_carries.2.1 56 = .ok (.ireturn, 1) := by decide +kernel
theorem dF_goes_0 : decode mF_goes.2.1 0 = .ok (.iload_n 1, 1) := by decide +kernel
theorem dF_goes_1 : decode mF_goes.2.1 1 = .ok (.iconst 1, 1) := by decide +kernel
theorem dF_goes_2 : decode mF_goes.2.1 2 = .ok (.if_icmp .lt 9, 3) := by decide +kernel
theorem dF_goes_5 : decode mF_goes.2.1 5 = .ok (.iload_n 1, 1) := by decide +kernel
theorem dF_goes_6 : decode mF_goes.2.1 6 = .ok (.bipush 60, 2) := by decide +kernel
theorem dF_goes_8 : decode mF_goes.2.1 8 = .ok (.if_icmp .le 5, 3) := by decide +kernel
theorem dF_goes_11 : decode mF_goes.2.1 11 = .ok (.iconst (-1), 1) := by decide +kernel
theorem dF_goes_12 : decode mF_goes.2.1 12 = .ok (.ireturn, 1) := by decide +kernel
theorem dF_goes_13 : decode mF_goes.2.1 13 = .ok (.aload_n 0, 1) := by decide +kernel
theorem dF_goes_14 : decode mF_goes.2.1 14 = .ok (.getfield 28, 3) := by decide +kernel
theorem dF_goes_17 : decode mF_goes.2.1 17 = .ok (.getfield 135, 3) := by decide +kernel
theorem dF_goes_20 : decode mF_goes.2.1 20 = .ok (.ifCond .eq 6, 3) := by decide +kernel
theorem dF_goes_23 : decode mF_goes.2.1 23 = .ok (.bipush (-2), 2) := by decide +kernel
theorem dF_goes_25 : decode mF_goes.2.1 25 = .ok (.ireturn, 1) := by decide +kernel
theorem dF_goes_26 : decode mF_goes.2.1 26 = .ok (.aload_n 0, 1) := by decide +kernel
theorem dF_goes_27 : decode mF_goes.2.1 27 = .ok (.getfield 45, 3) := by decide +kernel
theorem dF_goes_30 : decode mF_goes.2.1 30 = .ok (.aload_n 0, 1) := by decide +kernel
theorem dF_goes_31 : decode mF_goes.2.1 31 = .ok (.getfield 28, 3) := by decide +kernel
theorem dF_goes_34 : decode mF_goes.2.1 34 = .ok (.invokevirtual 84, 3) := by decide +kernel
theorem dF_goes_37 : decode mF_goes.2.1 37 = .ok (.iconst 0, 1) := by decide +kernel
theorem dF_goes_38 : decode mF_goes.2.1 38 = .ok (.istore_n 2, 1) := by decide +kernel
theorem dF_goes_39 : decode mF_goes.2.1 39 = .ok (.iconst 0, 1) := by decide +kernel
theorem dF_goes_40 : decode mF_goes.2.1 40 = .ok (.istore_n 3, 1) := by decide +kernel
theorem dF_goes_41 : decode mF_goes.2.1 41 = .ok (.iload_n 3, 1) := by decide +kernel
theorem dF_goes_42 : decode mF_goes.2.1 42 = .ok (.iload_n 1, 1) := by decide +kernel
theorem dF_goes_43 : decode mF_goes.2.1 43 = .ok (.if_icmp .ge 39, 3) := by decide +kernel
theorem dF_goes_46 : decode mF_goes.2.1 46 = .ok (.aload_n 0, 1) := by decide +kernel
theorem dF_goes_47 : decode mF_goes.2.1 47 = .ok (.getfield 38, 3) := by decide +kernel
theorem dF_goes_50 : decode mF_goes.2.1 50 = .ok (.aload_n 0, 1) := by decide +kernel
theorem dF_goes_51 : decode mF_goes.2.1 51 = .ok (.getfield 28, 3) := by decide +kernel
theorem dF_goes_54 : decode mF_goes.2.1 54 = .ok (.invokevirtual 139, 3) := by decide +kernel
theorem dF_goes_57 : decode mF_goes.2.1 57 = .ok (.istore 4, 2) := by decide +kernel
theorem dF_goes_59 : decode mF_goes.2.1 59 = .ok (.iload 4, 2) := by decide +kernel
theorem dF_goes_61 : decode mF_goes.2.1 61 = .ok (.iconst 2, 1) := by decide +kernel
theorem dF_goes_62 : decode mF_goes.2.1 62 = .ok (.if_icmp .ne 6, 3) := by decide +kernel
theorem dF_goes_65 : decode mF_goes.2.1 65 = .ok (.iinc 2 1, 3) := by decide +kernel
theorem dF_goes_68 : decode mF_goes.2.1 68 = .ok (.iload 4, 2) := by decide +kernel
theorem dF_goes_70 : decode mF_goes.2.1 70 = .ok (.ifCond .ne 6, 3) := by decide +kernel
theorem dF_goes_73 : decode mF_goes.2.1 73 = .ok (.goto 9, 3) := by decide +kernel
theorem dF_goes_76 : decode mF_goes.2.1 76 = .ok (.iinc 3 1, 3) := by decide +kernel
theorem dF_goes_79 : decode mF_goes.2.1 79 = .ok (.goto (-38), 3) := by decide +kernel
theorem dF_goes_82 : decode mF_goes.2.1 82 = .ok (.iload_n 2, 1) := by decide +kernel
theorem dF_goes_83 : decode mF_goes.2.1 83 = .ok (.ireturn, 1) := by decide +kernel
theorem dF_undo_0 : decode mF_undo.2.1 0 = .ok (.aload_n 0, 1) := by decide +kernel
theorem dF_undo_1 : decode mF_undo.2.1 1 = .ok (.getfield 45, 3) := by decide +kernel
theorem dF_undo_4 : decode mF_undo.2.1 4 = .ok (.aload_n 0, 1) := by decide +kernel
theorem dF_undo_5 : decode mF_undo.2.1 5 = .ok (.getfield 28, 3) := by decide +kernel
theorem dF_undo_8 : decode mF_undo.2.1 8 = .ok (.invokevirtual 143, 3) := by decide +kernel
theorem dF_undo_11 : decode mF_undo.2.1 11 = .ok (.ifCond .eq 13, 3) := by decide +kernel
theorem dF_undo_14 : decode mF_undo.2.1 14 = .ok (.aload_n 0, 1) := by decide +kernel
theorem dF_undo_15 : decode mF_undo.2.1 15 = .ok (.getfield 45, 3) := by decide +kernel
theorem dF_undo_18 : decode mF_undo.2.1 18 = .ok (.getfield 147, 3) := by decide +kernel
theorem dF_undo_21 : decode mF_undo.2.1 21 = .ok (.goto 5, 3) := by decide +kernel
theorem dF_undo_24 : decode mF_undo.2.1 24 = .ok (.bipush (-2), 2) := by decide +kernel
theorem dF_undo_26 : decode mF_undo.2.1 26 = .ok (.ireturn, 1) := by decide +kernel
theorem dF_robot_0 : decode mF_robot.2.1 0 = .ok (.iload_n 1, 1) := by decide +kernel
theorem dF_robot_1 : decode mF_robot.2.1 1 = .ok (.tableswitch 101 0 5 #[39, 47, 55, 63, 79, 90], 39) := by decide +kernel
theorem dF_robot_40 : decode mF_robot.2.1 40 = .ok (.aload_n 0, 1) := by decide +kernel
theorem dF_robot_41 : decode mF_robot.2.1 41 = .ok (.getfield 28, 3) := by decide +kernel
theorem dF_robot_44 : decode mF_robot.2.1 44 = .ok (.getfield 105, 3) := by decide +kernel
theorem dF_robot_47 : decode mF_robot.2.1 47 = .ok (.ireturn, 1) := by decide +kernel
theorem dF_robot_48 : decode mF_robot.2.1 48 = .ok (.aload_n 0, 1) := by decide +kernel
theorem dF_robot_49 : decode mF_robot.2.1 49 = .ok (.getfield 28, 3) := by decide +kernel
theorem dF_robot_52 : decode mF_robot.2.1 52 = .ok (.getfield 115, 3) := by decide +kernel
theorem dF_robot_55 : decode mF_robot.2.1 55 = .ok (.ireturn, 1) := by decide +kernel
theorem dF_robot_56 : decode mF_robot.2.1 56 = .ok (.aload_n 0, 1) := by decide +kernel
theorem dF_robot_57 : decode mF_robot.2.1 57 = .ok (.getfield 28, 3) := by decide +kernel
theorem dF_robot_60 : decode mF_robot.2.1 60 = .ok (.getfield 88, 3) := by decide +kernel
theorem dF_robot_63 : decode mF_robot.2.1 63 = .ok (.ireturn, 1) := by decide +kernel
theorem dF_robot_64 : decode mF_robot.2.1 64 = .ok (.aload_n 0, 1) := by decide +kernel
theorem dF_robot_65 : decode mF_robot.2.1 65 = .ok (.getfield 28, 3) := by decide +kernel
theorem dF_robot_68 : decode mF_robot.2.1 68 = .ok (.getfield 135, 3) := by decide +kernel
theorem dF_robot_71 : decode mF_robot.2.1 71 = .ok (.ifCond .eq 7, 3) := by decide +kernel
theorem dF_robot_74 : decode mF_robot.2.1 74 = .ok (.iconst 1, 1) := by decide +kernel
theorem dF_robot_75 : decode mF_robot.2.1 75 = .ok (.goto 4, 3) := by decide +kernel
theorem dF_robot_78 : decode mF_robot.2.1 78 = .ok (.iconst 0, 1) := by decide +kernel
theorem dF_robot_79 : decode mF_robot.2.1 79 = .ok (.ireturn, 1) := by decide +kernel
theorem dF_robot_80 : decode mF_robot.2.1 80 = .ok (.aload_n 0, 1) := by decide +kernel
theorem dF_robot_81 : decode mF_robot.2.1 81 = .ok (.getfield 28, 3) := by decide +kernel
theorem dF_robot_84 : decode mF_robot.2.1 84 = .ok (.getfield 149, 3) := by decide +kernel
theorem dF_robot_87 : decode mF_robot.2.1 87 = .ok (.invokestatic 152, 3) := by decide +kernel
theorem dF_robot_90 : decode mF_robot.2.1 90 = .ok (.ireturn, 1) := by decide +kernel
theorem dF_robot_91 : decode mF_robot.2.1 91 = .ok (.aload_n 0, 1) := by decide +kernel
theorem dF_robot_92 : decode mF_robot.2.1 92 = .ok (.getfield 28, 3) := by decide +kernel
theorem dF_robot_95 : decode mF_robot.2.1 95 = .ok (.getfield 158, 3) := by decide +kernel
theorem dF_robot_98 : decode mF_robot.2.1 98 = .ok (.invokestatic 152, 3) := by decide +kernel
theorem dF_robot_101 : decode mF_robot.2.1 101 = .ok (.ireturn, 1) := by decide +kernel
theorem dF_robot_102 : decode mF_robot.2.1 102 = .ok (.iconst (-1), 1) := by decide +kernel
theorem dF_robot_103 : decode mF_robot.2.1 103 = .ok (.ireturn, 1) := by decide +kernel
theorem dF_knows_0 : decode mF_knows.2.1 0 = .ok (.aload_n 0, 1) := by decide +kernel
theorem dF_knows_1 : decode mF_knows.2.1 1 = .ok (.getfield 19, 3) := by decide +kernel
theorem dF_knows_4 : decode mF_knows.2.1 4 = .ok (.iload_n 1, 1) := by decide +kernel
theorem dF_knows_5 : decode mF_knows.2.1 5 = .ok (.invokevirtual 71, 3) := by decide +kernel
theorem dF_knows_8 : decode mF_knows.2.1 8 = .ok (.ifCond .eq 14, 3) := by decide +kernel
theorem dF_knows_11 : decode mF_knows.2.1 11 = .ok (.aload_n 0, 1) := by decide +kernel
theorem dF_knows_12 : decode mF_knows.2.1 12 = .ok (.getfield 28, 3) := by decide +kernel
theorem dF_knows_15 : decode mF_knows.2.1 15 = .ok (.iload_n 1, 1) := by decide +kernel
theorem dF_knows_16 : decode mF_knows.2.1 16 = .ok (.invokevirtual 161, 3) := by decide +kernel
theorem dF_knows_19 : decode mF_knows.2.1 19 = .ok (.goto 4, 3) := by decide +kernel
theorem dF_knows_22 : decode mF_knows.2.1 22 = .ok (.iconst (-1), 1) := by decide +kernel
theorem dF_knows_23 : decode mF_knows.2.1 23 = .ok (.ireturn, 1) := by decide +kernel
theorem dF_home_0 : decode mF_home.2.1 0 = .ok (.aload_n 0, 1) := by decide +kernel
theorem dF_home_1 : decode mF_home.2.1 1 = .ok (.getfield 19, 3) := by decide +kernel
theorem dF_home_4 : decode mF_home.2.1 4 = .ok (.iload_n 1, 1) := by decide +kernel
theorem dF_home_5 : decode mF_home.2.1 5 = .ok (.invokevirtual 71, 3) := by decide +kernel
theorem dF_home_8 : decode mF_home.2.1 8 = .ok (.ifCond .eq 14, 3) := by decide +kernel
theorem dF_home_11 : decode mF_home.2.1 11 = .ok (.aload_n 0, 1) := by decide +kernel
theorem dF_home_12 : decode mF_home.2.1 12 = .ok (.getfield 28, 3) := by decide +kernel
theorem dF_home_15 : decode mF_home.2.1 15 = .ok (.iload_n 1, 1) := by decide +kernel
theorem dF_home_16 : decode mF_home.2.1 16 = .ok (.invokevirtual 164, 3) := by decide +kernel
theorem dF_home_19 : decode mF_home.2.1 19 = .ok (.goto 4, 3) := by decide +kernel
theorem dF_home_22 : decode mF_home.2.1 22 = .ok (.iconst (-1), 1) := by decide +kernel
theorem dF_home_23 : decode mF_home.2.1 23 = .ok (.ireturn, 1) := by decide +kernel
theorem dF_target_0 : decode mF_target.2.1 0 = .ok (.iload_n 1, 1) := by decide +kernel
theorem dF_target_1 : decode mF_target.2.1 1 = .ok (.ifCond .lt 8, 3) := by decide +kernel
theorem dF_target_4 : decode mF_target.2.1 4 = .ok (.iload_n 1, 1) := by decide +kernel
theorem dF_target_5 : decode mF_target.2.1 5 = .ok (.iconst 3, 1) := by decide +kernel
theorem dF_target_6 : decode mF_target.2.1 6 = .ok (.if_icmp .le 5, 3) := by decide +kernel
theorem dF_target_9 : decode mF_target.2.1 9 = .ok (.iconst (-1), 1) := by decide +kernel
theorem dF_target_10 : decode mF_target.2.1 10 = .ok (.ireturn, 1) := by decide +kernel
theorem dF_target_11 : decode mF_target.2.1 11 = .ok (.aload_n 0, 1) := by decide +kernel
theorem dF_target_12 : decode mF_target.2.1 12 = .ok (.getfield 28, 3) := by decide +kernel
theorem dF_target_15 : decode mF_target.2.1 15 = .ok (.getfield 135, 3) := by decide +kernel
theorem dF_target_18 : decode mF_target.2.1 18 = .ok (.ifCond .ne 17, 3) := by decide +kernel
theorem dF_target_21 : decode mF_target.2.1 21 = .ok (.aload_n 0, 1) := by decide +kernel
theorem dF_target_22 : decode mF_target.2.1 22 = .ok (.getfield 38, 3) := by decide +kernel
theorem dF_target_25 : decode mF_target.2.1 25 = .ok (.aload_n 0, 1) := by decide +kernel
theorem dF_target_26 : decode mF_target.2.1 26 = .ok (.getfield 28, 3) := by decide +kernel
theorem dF_target_29 : decode mF_target.2.1 29 = .ok (.invokevirtual 167, 3) := by decide +kernel
theorem dF_target_32 : decode mF_target.2.1 32 = .ok (.ifCond .ne 6, 3) := by decide +kernel
theorem dF_target_35 : decode mF_target.2.1 35 = .ok (.bipush (-9), 2) := by decide +kernel
theorem dF_target_37 : decode mF_target.2.1 37 = .ok (.ireturn, 1) := by decide +kernel
theorem dF_target_38 : decode mF_target.2.1 38 = .ok (.iload_n 1, 1) := by decide +kernel
theorem dF_target_39 : decode mF_target.2.1 39 = .ok (.tableswitch 49 0 2 #[25, 33, 41], 25) := by decide +kernel
theorem dF_target_64 : decode mF_target.2.1 64 = .ok (.aload_n 0, 1) := by decide +kernel
theorem dF_target_65 : decode mF_target.2.1 65 = .ok (.getfield 38, 3) := by decide +kernel
theorem dF_target_68 : decode mF_target.2.1 68 = .ok (.getfield 170, 3) := by decide +kernel
theorem dF_target_71 : decode mF_target.2.1 71 = .ok (.ireturn, 1) := by decide +kernel
theorem dF_target_72 : decode mF_target.2.1 72 = .ok (.aload_n 0, 1) := by decide +kernel
theorem dF_target_73 : decode mF_target.2.1 73 = .ok (.getfield 38, 3) := by decide +kernel
theorem dF_target_76 : decode mF_target.2.1 76 = .ok (.getfield 173, 3) := by decide +kernel
theorem dF_target_79 : decode mF_target.2.1 79 = .ok (.ireturn, 1) := by decide +kernel
theorem dF_target_80 : decode mF_target.2.1 80 = .ok (.aload_n 0, 1) := by decide +kernel
theorem dF_target_81 : decode mF_target.2.1 81 = .ok (.getfield 38, 3) := by decide +kernel
theorem dF_target_84 : decode mF_target.2.1 84 = .ok (.getfield 176, 3) := by decide +kernel
theorem dF_target_87 : decode mF_target.2.1 87 = .ok (.ireturn, 1) := by decide +kernel
theorem dF_target_88 : decode mF_target.2.1 88 = .ok (.aload_n 0, 1) := by decide +kernel
theorem dF_target_89 : decode mF_target.2.1 89 = .ok (.getfield 38, 3) := by decide +kernel
theorem dF_target_92 : decode mF_target.2.1 92 = .ok (.getfield 179, 3) := by decide +kernel
theorem dF_target_95 : decode mF_target.2.1 95 = .ok (.ireturn, 1) := by decide +kernel
theorem dF_place_0 : decode mF_place.2.1 0 = .ok (.iload_n 1, 1) := by decide +kernel
theorem dF_place_1 : decode mF_place.2.1 1 = .ok (.iconst (-1), 1) := by decide +kernel
theorem dF_place_2 : decode mF_place.2.1 2 = .ok (.if_icmp .ge 5, 3) := by decide +kernel
theorem dF_place_5 : decode mF_place.2.1 5 = .ok (.iconst (-1), 1) := by decide +kernel
theorem dF_place_6 : decode mF_place.2.1 6 = .ok (.ireturn, 1) := by decide +kernel
theorem dF_place_7 : decode mF_place.2.1 7 = .ok (.iload_n 1, 1) := by decide +kernel
theorem dF_place_8 : decode mF_place.2.1 8 = .ok (.iconst (-1), 1) := by decide +kernel
theorem dF_place_9 : decode mF_place.2.1 9 = .ok (.if_icmp .ne 13, 3) := by decide +kernel
theorem dF_place_12 : decode mF_place.2.1 12 = .ok (.aload_n 0, 1) := by decide +kernel
theorem dF_place_13 : decode mF_place.2.1 13 = .ok (.getfield 28, 3) := by decide +kernel
theorem dF_place_16 : decode mF_place.2.1 16 = .ok (.invokevirtual 182, 3) := by decide +kernel
theorem dF_place_19 : decode mF_place.2.1 19 = .ok (.goto 11, 3) := by decide +kernel
theorem dF_place_22 : decode mF_place.2.1 22 = .ok (.aload_n 0, 1) := by decide +kernel
theorem dF_place_23 : decode mF_place.2.1 23 = .ok (.getfield 28, 3) := by decide +kernel
theorem dF_place_26 : decode mF_place.2.1 26 = .ok (.iload_n 1, 1) := by decide +kernel
theorem dF_place_27 : decode mF_place.2.1 27 = .ok (.invokevirtual 185, 3) := by decide +kernel
theorem dF_place_30 : decode mF_place.2.1 30 = .ok (.ireturn, 1) := by decide +kernel
theorem dF_lane_0 : decode mF_lane.2.1 0 = .ok (.iload_n 1, 1) := by decide +kernel
theorem dF_lane_1 : decode mF_lane.2.1 1 = .ok (.iconst (-1), 1) := by decide +kernel
theorem dF_lane_2 : decode mF_lane.2.1 2 = .ok (.if_icmp .lt 12, 3) := by decide +kernel
theorem dF_lane_5 : decode mF_lane.2.1 5 = .ok (.iload_n 2, 1) := by decide +kernel
theorem dF_lane_6 : decode mF_lane.2.1 6 = .ok (.ifCond .lt 8, 3) := by decide +kernel
theorem dF_lane_9 : decode mF_lane.2.1 9 = .ok (.iload_n 2, 1) := by decide +kernel
theorem dF_lane_10 : decode mF_lane.2.1 10 = .ok (.iconst 1, 1) := by decide +kernel
theorem dF_lane_11 : decode mF_lane.2.1 11 = .ok (.if_icmp .le 5, 3) := by decide +kernel
theorem dF_lane_14 : decode mF_lane.2.1 14 = .ok (.iconst (-1), 1) := by decide +kernel
theorem dF_lane_15 : decode mF_lane.2.1 15 = .ok (.ireturn, 1) := by decide +kernel
theorem dF_lane_16 : decode mF_lane.2.1 16 = .ok (.aload_n 0, 1) := by decide +kernel
theorem dF_lane_17 : decode mF_lane.2.1 17 = .ok (.getfield 28, 3) := by decide +kernel
theorem dF_lane_20 : decode mF_lane.2.1 20 = .ok (.invokevirtual 128, 3) := by decide +kernel
theorem dF_lane_23 : decode mF_lane.2.1 23 = .ok (.lstore_n 3, 1) := by decide +kernel
theorem dF_lane_24 : decode mF_lane.2.1 24 = .ok (.lload_n 3, 1) := by decide +kernel
theorem dF_lane_25 : decode mF_lane.2.1 25 = .ok (.aload_n 0, 1) := by decide +kernel
theorem dF_lane_26 : decode mF_lane.2.1 26 = .ok (.getfield 19, 3) := by decide +kernel
theorem dF_lane_29 : decode mF_lane.2.1 29 = .ok (.lload_n 3, 1) := by decide +kernel
theorem dF_lane_30 : decode mF_lane.2.1 30 = .ok (.iconst 1, 1) := by decide +kernel
theorem dF_lane_31 : decode mF_lane.2.1 31 = .ok (.invokevirtual 188, 3) := by decide +kernel
theorem dF_lane_34 : decode mF_lane.2.1 34 = .ok (.ldc2_w 192, 3) := by decide +kernel
theorem dF_lane_37 : decode mF_lane.2.1 37 = .ok (.lxor, 1) := by decide +kernel
theorem dF_lane_38 : decode mF_lane.2.1 38 = .ok (.land, 1) := by decide +kernel
theorem dF_lane_39 : decode mF_lane.2.1 39 = .ok (.lstore 5, 2) := by decide +kernel
theorem dF_lane_41 : decode mF_lane.2.1 41 = .ok (.iload_n 1, 1) := by decide +kernel
theorem dF_lane_42 : decode mF_lane.2.1 42 = .ok (.iconst (-1), 1) := by decide +kernel
theorem dF_lane_43 : decode mF_lane.2.1 43 = .ok (.if_icmp .ne 9, 3) := by decide +kernel
theorem dF_lane_46 : decode mF_lane.2.1 46 = .ok (.lload 5, 2) := by decide +kernel
theorem dF_lane_48 : decode mF_lane.2.1 48 = .ok (.invokestatic 152, 3) := by decide +kernel
theorem dF_lane_51 : decode mF_lane.2.1 51 = .ok (.ireturn, 1) := by decide +kernel
theorem dF_lane_52 : decode mF_lane.2.1 52 = .ok (.lload 5, 2) := by decide +kernel
theorem dF_lane_54 : decode mF_lane.2.1 54 = .ok (.iload_n 1, 1) := by decide +kernel
theorem dF_lane_55 : decode mF_lane.2.1 55 = .ok (.invokestatic 194, 3) := by decide +kernel
theorem dF_lane_58 : decode mF_lane.2.1 58 = .ok (.istore 7, 2) := by decide +kernel
theorem dF_lane_60 : decode mF_lane.2.1 60 = .ok (.iload 7, 2) := by decide +kernel
theorem dF_lane_62 : decode mF_lane.2.1 62 = .ok (.iconst (-1), 1) := by decide +kernel
theorem dF_lane_63 : decode mF_lane.2.1 63 = .ok (.if_icmp .ne 6, 3) := by decide +kernel
theorem dF_lane_66 : decode mF_lane.2.1 66 = .ok (.bipush (-9), 2) := by decide +kernel
theorem dF_lane_68 : decode mF_lane.2.1 68 = .ok (.ireturn, 1) := by decide +kernel
theorem dF_lane_69 : decode mF_lane.2.1 69 = .ok (.iload_n 2, 1) := by decide +kernel
theorem dF_lane_70 : decode mF_lane.2.1 70 = .ok (.ifCond .ne 8, 3) := by decide +kernel
theorem dF_lane_73 : decode mF_lane.2.1 73 = .ok (.iload 7, 2) := by decide +kernel
theorem dF_lane_75 : decode mF_lane.2.1 75 = .ok (.goto 10, 3) := by decide +kernel
theorem dF_lane_78 : decode mF_lane.2.1 78 = .ok (.aload_n 0, 1) := by decide +kernel
theorem dF_lane_79 : decode mF_lane.2.1 79 = .ok (.iload 7, 2) := by decide +kernel
theorem dF_lane_81 : decode mF_lane.2.1 81 = .ok (.lload_n 3, 1) := by decide +kernel
theorem dF_lane_82 : decode mF_lane.2.1 82 = .ok (.invokevirtual 198, 3) := by decide +kernel
theorem dF_lane_85 : decode mF_lane.2.1 85 = .ok (.ireturn, 1) := by decide +kernel
theorem dF_room_0 : decode mF_room.2.1 0 = .ok (.iload_n 1, 1) := by decide +kernel
theorem dF_room_1 : decode mF_room.2.1 1 = .ok (.iconst (-1), 1) := by decide +kernel
theorem dF_room_2 : decode mF_room.2.1 2 = .ok (.if_icmp .eq 16, 3) := by decide +kernel
theorem dF_room_5 : decode mF_room.2.1 5 = .ok (.aload_n 0, 1) := by decide +kernel
theorem dF_room_6 : decode mF_room.2.1 6 = .ok (.getfield 19, 3) := by decide +kernel
theorem dF_room_9 : decode mF_room.2.1 9 = .ok (.iload_n 1, 1) := by decide +kernel
theorem dF_room_10 : decode mF_room.2.1 10 = .ok (.invokevirtual 71, 3) := by decide +kernel
theorem dF_room_13 : decode mF_room.2.1 13 = .ok (.ifCond .ne 5, 3) := by decide +kernel
theorem dF_room_16 : decode mF_room.2.1 16 = .ok (.iconst (-1), 1) := by decide +kernel
theorem dF_room_17 : decode mF_room.2.1 17 = .ok (.ireturn, 1) := by decide +kernel
theorem dF_room_18 : decode mF_room.2.1 18 = .ok (.aload_n 0, 1) := by decide +kernel
theorem dF_room_19 : decode mF_room.2.1 19 = .ok (.getfield 19, 3) := by decide +kernel
theorem dF_room_22 : decode mF_room.2.1 22 = .ok (.getfield 202, 3) := by decide +kernel
theorem dF_room_25 : decode mF_room.2.1 25 = .ok (.aload_n 0, 1) := by decide +kernel
theorem dF_room_26 : decode mF_room.2.1 26 = .ok (.getfield 19, 3) := by decide +kernel
theorem dF_room_29 : decode mF_room.2.1 29 = .ok (.getfield 205, 3) := by decide +kernel
theorem dF_room_32 : decode mF_room.2.1 32 = .ok (.invokestatic 111, 3) := by decide +kernel
theorem dF_room_35 : decode mF_room.2.1 35 = .ok (.lor, 1) := by decide +kernel
theorem dF_room_36 : decode mF_room.2.1 36 = .ok (.lstore_n 2, 1) := by decide +kernel
theorem dF_room_37 : decode mF_room.2.1 37 = .ok (.iconst 0, 1) := by decide +kernel
theorem dF_room_38 : decode mF_room.2.1 38 = .ok (.istore 4, 2) := by decide +kernel
theorem dF_room_40 : decode mF_room.2.1 40 = .ok (.iconst 0, 1) := by decide +kernel
theorem dF_room_41 : decode mF_room.2.1 41 = .ok (.istore 5, 2) := by decide +kernel
theorem dF_room_43 : decode mF_room.2.1 43 = .ok (.iload 5, 2) := by decide +kernel
theorem dF_room_45 : decode mF_room.2.1 45 = .ok (.bipush 36, 2) := by decide +kernel
theorem dF_room_47 : decode mF_room.2.1 47 = .ok (.if_icmp .ge 56, 3) := by decide +kernel
theorem dF_room_50 : decode mF_room.2.1 50 = .ok (.lload_n 2, 1) := by decide +kernel
theorem dF_room_51 : decode mF_room.2.1 51 = .ok (.iload 5, 2) := by decide +kernel
theorem dF_room_53 : decode mF_room.2.1 53 = .ok (.invokestatic 101, 3) := by decide +kernel
theorem dF_room_56 : decode mF_room.2.1 56 = .ok (.ifCond .eq 41, 3) := by decide +kernel
theorem dF_room_59 : decode mF_room.2.1 59 = .ok (.aload_n 0, 1) := by decide +kernel
theorem dF_room_60 : decode mF_room.2.1 60 = .ok (.getfield 19, 3) := by decide +kernel
theorem dF_room_63 : decode mF_room.2.1 63 = .ok (.bipush 36, 2) := by decide +kernel
theorem dF_room_65 : decode mF_room.2.1 65 = .ok (.iload 5, 2) := by decide +kernel
theorem dF_room_67 : decode mF_room.2.1 67 = .ok (.lload_n 2, 1) := by decide +kernel
theorem dF_room_68 : decode mF_room.2.1 68 = .ok (.invokevirtual 208, 3) := by decide +kernel
theorem dF_room_71 : decode mF_room.2.1 71 = .ok (.lstore 6, 2) := by decide +kernel
theorem dF_room_73 : decode mF_room.2.1 73 = .ok (.lload 6, 2) := by decide +kernel
theorem dF_room_75 : decode mF_room.2.1 75 = .ok (.iload_n 1, 1) := by decide +kernel
theorem dF_room_76 : decode mF_room.2.1 76 = .ok (.invokestatic 101, 3) := by decide +kernel
theorem dF_room_79 : decode mF_room.2.1 79 = .ok (.ifCond .eq 6, 3) := by decide +kernel
theorem dF_room_82 : decode mF_room.2.1 82 = .ok (.iload 4, 2) := by decide +kernel
theorem dF_room_84 : decode mF_room.2.1 84 = .ok (.ireturn, 1) := by decide +kernel
theorem dF_room_85 : decode mF_room.2.1 85 = .ok (.lload_n 2, 1) := by decide +kernel
theorem dF_room_86 : decode mF_room.2.1 86 = .ok (.lload 6, 2) := by decide +kernel
theorem dF_room_88 : decode mF_room.2.1 88 = .ok (.ldc2_w 192, 3) := by decide +kernel
theorem dF_room_91 : decode mF_room.2.1 91 = .ok (.lxor, 1) := by decide +kernel
theorem dF_room_92 : decode mF_room.2.1 92 = .ok (.land, 1) := by decide +kernel
theorem dF_room_93 : decode mF_room.2.1 93 = .ok (.lstore_n 2, 1) := by decide +kernel
theorem dF_room_94 : decode mF_room.2.1 94 = .ok (.iinc 4 1, 3) := by decide +kernel
theorem dF_room_97 : decode mF_room.2.1 97 = .ok (.iinc 5 1, 3) := by decide +kernel
theorem dF_room_100 : decode mF_room.2.1 100 = .ok (.goto (-57), 3) := by decide +kernel
theorem dF_room_103 : decode mF_room.2.1 103 = .ok (.iload_n 1, 1) := by decide +kernel
theorem dF_room_104 : decode mF_room.2.1 104 = .ok (.iconst (-1), 1) := by decide +kernel
theorem dF_room_105 : decode mF_room.2.1 105 = .ok (.if_icmp .ne 8, 3) := by decide +kernel
theorem dF_room_108 : decode mF_room.2.1 108 = .ok (.iload 4, 2) := by decide +kernel
theorem dF_room_110 : decode mF_room.2.1 110 = .ok (.goto 5, 3) := by decide +kernel
theorem dF_room_113 : decode mF_room.2.1 113 = .ok (.bipush (-9), 2) := by decide +kernel
theorem dF_room_115 : decode mF_room.2.1 115 = .ok (.ireturn, 1) := by decide +kernel
theorem dF_reach_0 : decode mF_reach.2.1 0 = .ok (.iload_n 1, 1) := by decide +kernel
theorem dF_reach_1 : decode mF_reach.2.1 1 = .ok (.ifCond .lt 8, 3) := by decide +kernel
theorem dF_reach_4 : decode mF_reach.2.1 4 = .ok (.iload_n 1, 1) := by decide +kernel
theorem dF_reach_5 : decode mF_reach.2.1 5 = .ok (.iconst 1, 1) := by decide +kernel
theorem dF_reach_6 : decode mF_reach.2.1 6 = .ok (.if_icmp .le 5, 3) := by decide +kernel
theorem dF_reach_9 : decode mF_reach.2.1 9 = .ok (.iconst (-1), 1) := by decide +kernel
theorem dF_reach_10 : decode mF_reach.2.1 10 = .ok (.ireturn, 1) := by decide +kernel
theorem dF_reach_11 : decode mF_reach.2.1 11 = .ok (.aload_n 0, 1) := by decide +kernel
theorem dF_reach_12 : decode mF_reach.2.1 12 = .ok (.getfield 28, 3) := by decide +kernel
theorem dF_reach_15 : decode mF_reach.2.1 15 = .ok (.invokevirtual 128, 3) := by decide +kernel
theorem dF_reach_18 : decode mF_reach.2.1 18 = .ok (.lstore_n 2, 1) := by decide +kernel
theorem dF_reach_19 : decode mF_reach.2.1 19 = .ok (.iload_n 1, 1) := by decide +kernel
theorem dF_reach_20 : decode mF_reach.2.1 20 = .ok (.ifCond .ne 24, 3) := by decide +kernel
theorem dF_reach_23 : decode mF_reach.2.1 23 = .ok (.aload_n 0, 1) := by decide +kernel
theorem dF_reach_24 : decode mF_reach.2.1 24 = .ok (.getfield 19, 3) := by decide +kernel
theorem dF_reach_27 : decode mF_reach.2.1 27 = .ok (.bipush 36, 2) := by decide +kernel
theorem dF_reach_29 : decode mF_reach.2.1 29 = .ok (.aload_n 0, 1) := by decide +kernel
theorem dF_reach_30 : decode mF_reach.2.1 30 = .ok (.getfield 19, 3) := by decide +kernel
theorem dF_reach_33 : decode mF_reach.2.1 33 = .ok (.getfield 205, 3) := by decide +kernel
theorem dF_reach_36 : decode mF_reach.2.1 36 = .ok (.lload_n 2, 1) := by decide +kernel
theorem dF_reach_37 : decode mF_reach.2.1 37 = .ok (.invokevirtual 208, 3) := by decide +kernel
theorem dF_reach_40 : decode mF_reach.2.1 40 = .ok (.invokestatic 152, 3) := by decide +kernel
theorem dF_reach_43 : decode mF_reach.2.1 43 = .ok (.ireturn, 1) := by decide +kernel
theorem dF_reach_44 : decode mF_reach.2.1 44 = .ok (.iconst 2, 1) := by decide +kernel
theorem dF_reach_45 : decode mF_reach.2.1 45 = .ok (.aload_n 0, 1) := by decide +kernel
theorem dF_reach_46 : decode mF_reach.2.1 46 = .ok (.getfield 19, 3) := by decide +kernel
theorem dF_reach_49 : decode mF_reach.2.1 49 = .ok (.aload_n 0, 1) := by decide +kernel
theorem dF_reach_50 : decode mF_reach.2.1 50 = .ok (.getfield 19, 3) := by decide +kernel
theorem dF_reach_53 : decode mF_reach.2.1 53 = .ok (.getfield 205, 3) := by decide +kernel
theorem dF_reach_56 : decode mF_reach.2.1 56 = .ok (.lload_n 2, 1) := by decide +kernel
theorem dF_reach_57 : decode mF_reach.2.1 57 = .ok (.invokevirtual 212, 3) := by decide +kernel
theorem dF_reach_60 : decode mF_reach.2.1 60 = .ok (.imul, 1) := by decide +kernel
theorem dF_reach_61 : decode mF_reach.2.1 61 = .ok (.ireturn, 1) := by decide +kernel
theorem dF_when_0 : decode mF_when.2.1 0 = .ok (.aload_n 0, 1) := by decide +kernel
theorem dF_when_1 : decode mF_when.2.1 1 = .ok (.getfield 28, 3) := by decide +kernel
theorem dF_when_4 : decode mF_when.2.1 4 = .ok (.getfield 135, 3) := by decide +kernel
theorem dF_when_7 : decode mF_when.2.1 7 = .ok (.ifCond .eq 6, 3) := by decide +kernel
theorem dF_when_10 : decode mF_when.2.1 10 = .ok (.bipush (-9), 2) := by decide +kernel
theorem dF_when_12 : decode mF_when.2.1 12 = .ok (.ireturn, 1) := by decide +kernel
theorem dF_when_13 : decode mF_when.2.1 13 = .ok (.aload_n 0, 1) := by decide +kernel
theorem dF_when_14 : decode mF_when.2.1 14 = .ok (.getfield 32, 3) := by decide +kernel
theorem dF_when_17 : decode mF_when.2.1 17 = .ok (.aload_n 0, 1) := by decide +kernel
theorem dF_when_18 : decode mF_when.2.1 18 = .ok (.getfield 28, 3) := by decide +kernel
theorem dF_when_21 : decode mF_when.2.1 21 = .ok (.invokevirtual 215, 3) := by decide +kernel
theorem dF_when_24 : decode mF_when.2.1 24 = .ok (.iconst 0, 1) := by decide +kernel
theorem dF_when_25 : decode mF_when.2.1 25 = .ok (.istore_n 1, 1) := by decide +kernel
theorem dF_when_26 : decode mF_when.2.1 26 = .ok (.iload_n 1, 1) := by decide +kernel
theorem dF_when_27 : decode mF_when.2.1 27 = .ok (.sipush 400, 3) := by decide +kernel
theorem dF_when_30 : decode mF_when.2.1 30 = .ok (.if_icmp .gt 42, 3) := by decide +kernel
theorem dF_when_33 : decode mF_when.2.1 33 = .ok (.aload_n 0, 1) := by decide +kernel
theorem dF_when_34 : decode mF_when.2.1 34 = .ok (.getfield 38, 3) := by decide +kernel
theorem dF_when_37 : decode mF_when.2.1 37 = .ok (.aload_n 0, 1) := by decide +kernel
theorem dF_when_38 : decode mF_when.2.1 38 = .ok (.getfield 32, 3) := by decide +kernel
theorem dF_when_41 : decode mF_when.2.1 41 = .ok (.invokevirtual 218, 3) := by decide +kernel
theorem dF_when_44 : decode mF_when.2.1 44 = .ok (.ifCond .eq 5, 3) := by decide +kernel
theorem dF_when_47 : decode mF_when.2.1 47 = .ok (.iload_n 1, 1) := by decide +kernel
theorem dF_when_48 : decode mF_when.2.1 48 = .ok (.ireturn, 1) := by decide +kernel
theorem dF_when_49 : decode mF_when.2.1 49 = .ok (.aload_n 0, 1) := by decide +kernel
theorem dF_when_50 : decode mF_when.2.1 50 = .ok (.getfield 38, 3) := by decide +kernel
theorem dF_when_53 : decode mF_when.2.1 53 = .ok (.aload_n 0, 1) := by decide +kernel
theorem dF_when_54 : decode mF_when.2.1 54 = .ok (.getfield 32, 3) := by decide +kernel
theorem dF_when_57 : decode mF_when.2.1 57 = .ok (.invokevirtual 139, 3) := by decide +kernel
theorem dF_when_60 : decode mF_when.2.1 60 = .ok (.ifCond .ne 6, 3) := by decide +kernel
theorem dF_when_63 : decode mF_when.2.1 63 = .ok (.bipush (-9), 2) := by decide +kernel
theorem dF_when_65 : decode mF_when.2.1 65 = .ok (.ireturn, 1) := by decide +kernel
theorem dF_when_66 : decode mF_when.2.1 66 = .ok (.iinc 1 1, 3) := by decide +kernel
theorem dF_when_69 : decode mF_when.2.1 69 = .ok (.goto (-43), 3) := by decide +kernel
theorem dF_when_72 : decode mF_when.2.1 72 = .ok (.bipush (-9), 2) := by decide +kernel
theorem dF_when_74 : decode mF_when.2.1 74 = .ok (.ireturn, 1) := by decide +kernel
theorem dF_keep_0 : decode mF_keep.2.1 0 = .ok (.iload_n 1, 1) := by decide +kernel
theorem dF_keep_1 : decode mF_keep.2.1 1 = .ok (.ifCond .lt 8, 3) := by decide +kernel
theorem dF_keep_4 : decode mF_keep.2.1 4 = .ok (.iload_n 1, 1) := by decide +kernel
theorem dF_keep_5 : decode mF_keep.2.1 5 = .ok (.iconst 2, 1) := by decide +kernel
theorem dF_keep_6 : decode mF_keep.2.1 6 = .ok (.if_icmp .lt 5, 3) := by decide +kernel
theorem dF_keep_9 : decode mF_keep.2.1 9 = .ok (.iconst (-1), 1) := by decide +kernel
theorem dF_keep_10 : decode mF_keep.2.1 10 = .ok (.ireturn, 1) := by decide +kernel
theorem dF_keep_11 : decode mF_keep.2.1 11 = .ok (.aload_n 0, 1) := by decide +kernel
theorem dF_keep_12 : decode mF_keep.2.1 12 = .ok (.getfield 52, 3) := by decide +kernel
theorem dF_keep_15 : decode mF_keep.2.1 15 = .ok (.iload_n 1, 1) := by decide +kernel
theorem dF_keep_16 : decode mF_keep.2.1 16 = .ok (.aload_n 0, 1) := by decide +kernel
theorem dF_keep_17 : decode mF_keep.2.1 17 = .ok (.getfield 28, 3) := by decide +kernel
theorem dF_keep_20 : decode mF_keep.2.1 20 = .ok (.invokevirtual 221, 3) := by decide +kernel
theorem dF_keep_23 : decode mF_keep.2.1 23 = .ok (.aload_n 0, 1) := by decide +kernel
theorem dF_keep_24 : decode mF_keep.2.1 24 = .ok (.getfield 28, 3) := by decide +kernel
theorem dF_keep_27 : decode mF_keep.2.1 27 = .ok (.getfield 105, 3) := by decide +kernel
theorem dF_keep_30 : decode mF_keep.2.1 30 = .ok (.ireturn, 1) := by decide +kernel
theorem dF_back_0 : decode mF_back.2.1 0 = .ok (.iload_n 1, 1) := by decide +kernel
theorem dF_back_1 : decode mF_back.2.1 1 = .ok (.ifCond .lt 8, 3) := by decide +kernel
theorem dF_back_4 : decode mF_back.2.1 4 = .ok (.iload_n 1, 1) := by decide +kernel
theorem dF_back_5 : decode mF_back.2.1 5 = .ok (.iconst 2, 1) := by decide +kernel
theorem dF_back_6 : decode mF_back.2.1 6 = .ok (.if_icmp .lt 5, 3) := by decide +kernel
theorem dF_back_9 : decode mF_back.2.1 9 = .ok (.iconst (-1), 1) := by decide +kernel
theorem dF_back_10 : decode mF_back.2.1 10 = .ok (.ireturn, 1) := by decide +kernel
theorem dF_back_11 : decode mF_back.2.1 11 = .ok (.aload_n 0, 1) := by decide +kernel
theorem dF_back_12 : decode mF_back.2.1 12 = .ok (.getfield 52, 3) := by decide +kernel
theorem dF_back_15 : decode mF_back.2.1 15 = .ok (.iload_n 1, 1) := by decide +kernel
theorem dF_back_16 : decode mF_back.2.1 16 = .ok (.aload_n 0, 1) := by decide +kernel
theorem dF_back_17 : decode mF_back.2.1 17 = .ok (.getfield 28, 3) := by decide +kernel
theorem dF_back_20 : decode mF_back.2.1 20 = .ok (.invokevirtual 225, 3) := by decide +kernel
theorem dF_back_23 : decode mF_back.2.1 23 = .ok (.ifCond .ne 6, 3) := by decide +kernel
theorem dF_back_26 : decode mF_back.2.1 26 = .ok (.bipush (-2), 2) := by decide +kernel
theorem dF_back_28 : decode mF_back.2.1 28 = .ok (.ireturn, 1) := by decide +kernel
theorem dF_back_29 : decode mF_back.2.1 29 = .ok (.aload_n 0, 1) := by decide +kernel
theorem dF_back_30 : decode mF_back.2.1 30 = .ok (.getfield 45, 3) := by decide +kernel
theorem dF_back_33 : decode mF_back.2.1 33 = .ok (.iconst 0, 1) := by decide +kernel
theorem dF_back_34 : decode mF_back.2.1 34 = .ok (.putfield 147, 3) := by decide +kernel
theorem dF_back_37 : decode mF_back.2.1 37 = .ok (.aload_n 0, 1) := by decide +kernel
theorem dF_back_38 : decode mF_back.2.1 38 = .ok (.getfield 28, 3) := by decide +kernel
theorem dF_back_41 : decode mF_back.2.1 41 = .ok (.getfield 105, 3) := by decide +kernel
theorem dF_back_44 : decode mF_back.2.1 44 = .ok (.ireturn, 1) := by decide +kernel
theorem dF_count_0 : decode mF_count.2.1 0 = .ok (.iload_n 1, 1) := by decide +kernel
theorem dF_count_1 : decode mF_count.2.1 1 = .ok (.tableswitch 99 0 6 #[43, 51, 59, 67, 75, 83, 91], 43) := by decide +kernel
theorem dF_count_44 : decode mF_count.2.1 44 = .ok (.aload_n 0, 1) := by decide +kernel
theorem dF_count_45 : decode mF_count.2.1 45 = .ok (.getfield 19, 3) := by decide +kernel
theorem dF_count_48 : decode mF_count.2.1 48 = .ok (.getfield 229, 3) := by decide +kernel
theorem dF_count_51 : decode mF_count.2.1 51 = .ok (.ireturn, 1) := by decide +kernel
theorem dF_count_52 : decode mF_count.2.1 52 = .ok (.aload_n 0, 1) := by decide +kernel
theorem dF_count_53 : decode mF_count.2.1 53 = .ok (.getfield 19, 3) := by decide +kernel
theorem dF_count_56 : decode mF_count.2.1 56 = .ok (.getfield 232, 3) := by decide +kernel
theorem dF_count_59 : decode mF_count.2.1 59 = .ok (.ireturn, 1) := by decide +kernel
theorem dF_count_60 : decode mF_count.2.1 60 = .ok (.aload_n 0, 1) := by decide +kernel
theorem dF_count_61 : decode mF_count.2.1 61 = .ok (.getfield 19, 3) := by decide +kernel
theorem dF_count_64 : decode mF_count.2.1 64 = .ok (.getfield 205, 3) := by decide +kernel
theorem dF_count_67 : decode mF_count.2.1 67 = .ok (.ireturn, 1) := by decide +kernel
theorem dF_count_68 : decode mF_count.2.1 68 = .ok (.aload_n 0, 1) := by decide +kernel
theorem dF_count_69 : decode mF_count.2.1 69 = .ok (.getfield 28, 3) := by decide +kernel
theorem dF_count_72 : decode mF_count.2.1 72 = .ok (.getfield 78, 3) := by decide +kernel
theorem dF_count_75 : decode mF_count.2.1 75 = .ok (.ireturn, 1) := by decide +kernel
theorem dF_count_76 : decode mF_count.2.1 76 = .ok (.aload_n 0, 1) := by decide +kernel
theorem dF_count_77 : decode mF_count.2.1 77 = .ok (.getfield 28, 3) := by decide +kernel
theorem dF_count_80 : decode mF_count.2.1 80 = .ok (.getfield 81, 3) := by decide +kernel
theorem dF_count_83 : decode mF_count.2.1 83 = .ok (.ireturn, 1) := by decide +kernel
theorem dF_count_84 : decode mF_count.2.1 84 = .ok (.aload_n 0, 1) := by decide +kernel
theorem dF_count_85 : decode mF_count.2.1 85 = .ok (.getfield 12, 3) := by decide +kernel
theorem dF_count_88 : decode mF_count.2.1 88 = .ok (.getfield 64, 3) := by decide +kernel
theorem dF_count_91 : decode mF_count.2.1 91 = .ok (.ireturn, 1) := by decide +kernel
theorem dF_count_92 : decode mF_count.2.1 92 = .ok (.aload_n 0, 1) := by decide +kernel
theorem dF_count_93 : decode mF_count.2.1 93 = .ok (.getfield 45, 3) := by decide +kernel
theorem dF_count_96 : decode mF_count.2.1 96 = .ok (.getfield 147, 3) := by decide +kernel
theorem dF_count_99 : decode mF_count.2.1 99 = .ok (.ireturn, 1) := by decide +kernel
theorem dF_count_100 : decode mF_count.2.1 100 = .ok (.iconst (-1), 1) := by decide +kernel
theorem dF_count_101 : decode mF_count.2.1 101 = .ok (.ireturn, 1) := by decide +kernel
theorem dF_readText_0 : decode mF_readText.2.1 0 = .ok (.aload_n 0, 1) := by decide +kernel
theorem dF_readText_1 : decode mF_readText.2.1 1 = .ok (.getfield 12, 3) := by decide +kernel
theorem dF_readText_4 : decode mF_readText.2.1 4 = .ok (.invokevirtual 235, 3) := by decide +kernel
theorem dF_readText_7 : decode mF_readText.2.1 7 = .ok (.istore_n 1, 1) := by decide +kernel
theorem dF_readText_8 : decode mF_readText.2.1 8 = .ok (.iload_n 1, 1) := by decide +kernel
theorem dF_readText_9 : decode mF_readText.2.1 9 = .ok (.iconst (-1), 1) := by decide +kernel
theorem dF_readText_10 : decode mF_readText.2.1 10 = .ok (.if_icmp .eq 5, 3) := by decide +kernel
theorem dF_readText_13 : decode mF_readText.2.1 13 = .ok (.iload_n 1, 1) := by decide +kernel
theorem dF_readText_14 : decode mF_readText.2.1 14 = .ok (.ireturn, 1) := by decide +kernel
theorem dF_readText_15 : decode mF_readText.2.1 15 = .ok (.aload_n 0, 1) := by decide +kernel
theorem dF_readText_16 : decode mF_readText.2.1 16 = .ok (.getfield 19, 3) := by decide +kernel
theorem dF_readText_19 : decode mF_readText.2.1 19 = .ok (.aload_n 0, 1) := by decide +kernel
theorem dF_readText_20 : decode mF_readText.2.1 20 = .ok (.getfield 12, 3) := by decide +kernel
theorem dF_readText_23 : decode mF_readText.2.1 23 = .ok (.invokevirtual 238, 3) := by decide +kernel
theorem dF_readText_26 : decode mF_readText.2.1 26 = .ok (.aload_n 0, 1) := by decide +kernel
theorem dF_readText_27 : decode mF_readText.2.1 27 = .ok (.getfield 28, 3) := by decide +kernel
theorem dF_readText_30 : decode mF_readText.2.1 30 = .ok (.invokevirtual 242, 3) := by decide +kernel
theorem dF_readText_33 : decode mF_readText.2.1 33 = .ok (.aload_n 0, 1) := by decide +kernel
theorem dF_readText_34 : decode mF_readText.2.1 34 = .ok (.getfield 45, 3) := by decide +kernel
theorem dF_readText_37 : decode mF_readText.2.1 37 = .ok (.iconst 0, 1) := by decide +kernel
theorem dF_readText_38 : decode mF_readText.2.1 38 = .ok (.putfield 147, 3) := by decide +kernel
theorem dF_readText_41 : decode mF_readText.2.1 41 = .ok (.aload_n 0, 1) := by decide +kernel
theorem dF_readText_42 : decode mF_readText.2.1 42 = .ok (.getfield 52, 3) := by decide +kernel
theorem dF_readText_45 : decode mF_readText.2.1 45 = .ok (.invokevirtual 245, 3) := by decide +kernel
theorem dF_readText_48 : decode mF_readText.2.1 48 = .ok (.aload_n 0, 1) := by decide +kernel
theorem dF_readText_49 : decode mF_readText.2.1 49 = .ok (.getfield 12, 3) := by decide +kernel
theorem dF_readText_52 : decode mF_readText.2.1 52 = .ok (.iconst 0, 1) := by decide +kernel
theorem dF_readText_53 : decode mF_readText.2.1 53 = .ok (.putfield 64, 3) := by decide +kernel
theorem dF_readText_56 : decode mF_readText.2.1 56 = .ok (.iconst (-1), 1) := by decide +kernel
theorem dF_readText_57 : decode mF_readText.2.1 57 = .ok (.ireturn, 1) := by decide +kernel
theorem dF_laneLength_0 : decode mF_laneLength.2.1 0 = .ok (.iconst 0, 1) := by decide +kernel
theorem dF_laneLength_1 : decode mF_laneLength.2.1 1 = .ok (.istore 4, 2) := by decide +kernel
theorem dF_laneLength_3 : decode mF_laneLength.2.1 3 = .ok (.iload_n 1, 1) := by decide +kernel
theorem dF_laneLength_4 : decode mF_laneLength.2.1 4 = .ok (.invokestatic 111, 3) := by decide +kernel
theorem dF_laneLength_7 : decode mF_laneLength.2.1 7 = .ok (.lload_n 2, 1) := by decide +kernel
theorem dF_laneLength_8 : decode mF_laneLength.2.1 8 = .ok (.land, 1) := by decide +kernel
theorem dF_laneLength_9 : decode mF_laneLength.2.1 9 = .ok (.lstore 5, 2) := by decide +kernel
theorem dF_laneLength_11 : decode mF_laneLength.2.1 11 = .ok (.iconst 0, 1) := by decide +kernel
theorem dF_laneLength_12 : decode mF_laneLength.2.1 12 = .ok (.istore 7, 2) := by decide +kernel
theorem dF_laneLength_14 : decode mF_laneLength.2.1 14 = .ok (.iload 7, 2) := by decide +kernel
theorem dF_laneLength_16 : decode mF_laneLength.2.1 16 = .ok (.bipush 6, 2) := by decide +kernel
theorem dF_laneLength_18 : decode mF_laneLength.2.1 18 = .ok (.if_icmp .ge 33, 3) := by decide +kernel
theorem dF_laneLength_21 : decode mF_laneLength.2.1 21 = .ok (.lload 5, 2) := by decide +kernel
theorem dF_laneLength_23 : decode mF_laneLength.2.1 23 = .ok (.lconst 0, 1) := by decide +kernel
theorem dF_laneLength_24 : decode mF_laneLength.2.1 24 = .ok (.lcmp, 1) := by decide +kernel
theorem dF_laneLength_25 : decode mF_laneLength.2.1 25 = .ok (.ifCond .eq 26, 3) := by decide +kernel
theorem dF_laneLength_28 : decode mF_laneLength.2.1 28 = .ok (.iinc 4 1, 3) := by decide +kernel
theorem dF_laneLength_31 : decode mF_laneLength.2.1 31 = .ok (.aload_n 0, 1) := by decide +kernel
theorem dF_laneLength_32 : decode mF_laneLength.2.1 32 = .ok (.getfield 19, 3) := by decide +kernel
theorem dF_laneLength_35 : decode mF_laneLength.2.1 35 = .ok (.lload 5, 2) := by decide +kernel
theorem dF_laneLength_37 : decode mF_laneLength.2.1 37 = .ok (.iconst 1, 1) := by decide +kernel
theorem dF_laneLength_38 : decode mF_laneLength.2.1 38 = .ok (.invokevirtual 188, 3) := by decide +kernel
theorem dF_laneLength_41 : decode mF_laneLength.2.1 41 = .ok (.lload_n 2, 1) := by decide +kernel
theorem dF_laneLength_42 : decode mF_laneLength.2.1 42 = .ok (.land, 1) := by decide +kernel
theorem dF_laneLength_43 : decode mF_laneLength.2.1 43 = .ok (.lstore 5, 2) := by decide +kernel
theorem dF_laneLength_45 : decode mF_laneLength.2.1 45 = .ok (.iinc 7 1, 3) := by decide +kernel
theorem dF_laneLength_48 : decode mF_laneLength.2.1 48 = .ok (.goto (-34), 3) := by decide +kernel
theorem dF_laneLength_51 : decode mF_laneLength.2.1 51 = .ok (.iload 4, 2) := by decide +kernel
theorem dF_laneLength_53 : decode mF_laneLength.2.1 53 = .ok (.ireturn, 1) := by decide +kernel
theorem dF_only_0 : decode mF_only.2.1 0 = .ok (.iload_n 0, 1) := by decide +kernel
theorem dF_only_1 : decode mF_only.2.1 1 = .ok (.ifCond .lt 15, 3) := by decide +kernel
theorem dF_only_4 : decode mF_only.2.1 4 = .ok (.iload_n 0, 1) := by decide +kernel
theorem dF_only_5 : decode mF_only.2.1 5 = .ok (.bipush 36, 2) := by decide +kernel
theorem dF_only_7 : decode mF_only.2.1 7 = .ok (.if_icmp .ge 9, 3) := by decide +kernel
theorem dF_only_10 : decode mF_only.2.1 10 = .ok (.lconst 1, 1) := by decide +kernel
theorem dF_only_11 : decode mF_only.2.1 11 = .ok (.iload_n 0, 1) := by decide +kernel
theorem dF_only_12 : decode mF_only.2.1 12 = .ok (.lshl, 1) := by decide +kernel
theorem dF_only_13 : decode mF_only.2.1 13 = .ok (.goto 4, 3) := by decide +kernel
theorem dF_only_16 : decode mF_only.2.1 16 = .ok (.lconst 0, 1) := by decide +kernel
theorem dF_only_17 : decode mF_only.2.1 17 = .ok (.lreturn, 1) := by decide +kernel
theorem dF_holds_0 : decode mF_holds.2.1 0 = .ok (.lload_n 0, 1) := by decide +kernel
theorem dF_holds_1 : decode mF_holds.2.1 1 = .ok (.iload_n 2, 1) := by decide +kernel
theorem dF_holds_2 : decode mF_holds.2.1 2 = .ok (.invokestatic 111, 3) := by decide +kernel
theorem dF_holds_5 : decode mF_holds.2.1 5 = .ok (.land, 1) := by decide +kernel
theorem dF_holds_6 : decode mF_holds.2.1 6 = .ok (.lconst 0, 1) := by decide +kernel
theorem dF_holds_7 : decode mF_holds.2.1 7 = .ok (.lcmp, 1) := by decide +kernel
theorem dF_holds_8 : decode mF_holds.2.1 8 = .ok (.ifCond .eq 7, 3) := by decide +kernel
theorem dF_holds_11 : decode mF_holds.2.1 11 = .ok (.iconst 1, 1) := by decide +kernel
theorem dF_holds_12 : decode mF_holds.2.1 12 = .ok (.goto 4, 3) := by decide +kernel
theorem dF_holds_15 : decode mF_holds.2.1 15 = .ok (.iconst 0, 1) := by decide +kernel
theorem dF_holds_16 : decode mF_holds.2.1 16 = .ok (.ireturn, 1) := by decide +kernel
theorem dF_lowestOf_0 : decode mF_lowestOf.2.1 0 = .ok (.lload_n 0, 1) := by decide +kernel
theorem dF_lowestOf_1 : decode mF_lowestOf.2.1 1 = .ok (.lconst 0, 1) := by decide +kernel
theorem dF_lowestOf_2 : decode mF_lowestOf.2.1 2 = .ok (.lcmp, 1) := by decide +kernel
theorem dF_lowestOf_3 : decode mF_lowestOf.2.1 3 = .ok (.ifCond .ne 7, 3) := by decide +kernel
theorem dF_lowestOf_6 : decode mF_lowestOf.2.1 6 = .ok (.iconst (-1), 1) := by decide +kernel
theorem dF_lowestOf_7 : decode mF_lowestOf.2.1 7 = .ok (.goto 12, 3) := by decide +kernel
theorem dF_lowestOf_10 : decode mF_lowestOf.2.1 10 = .ok (.lload_n 0, 1) := by decide +kernel
theorem dF_lowestOf_11 : decode mF_lowestOf.2.1 11 = .ok (.lload_n 0, 1) := by decide +kernel
theorem dF_lowestOf_12 : decode mF_lowestOf.2.1 12 = .ok (.lneg, 1) := by decide +kernel
theorem dF_lowestOf_13 : decode mF_lowestOf.2.1 13 = .ok (.land, 1) := by decide +kernel
theorem dF_lowestOf_14 : decode mF_lowestOf.2.1 14 = .ok (.lconst 1, 1) := by decide +kernel
theorem dF_lowestOf_15 : decode mF_lowestOf.2.1 15 = .ok (.lsub, 1) := by decide +kernel
theorem dF_lowestOf_16 : decode mF_lowestOf.2.1 16 = .ok (.invokestatic 152, 3) := by decide +kernel
theorem dF_lowestOf_19 : decode mF_lowestOf.2.1 19 = .ok (.ireturn, 1) := by decide +kernel
theorem dF_memberAt_0 : decode mF_memberAt.2.1 0 = .ok (.iload_n 2, 1) := by decide +kernel
theorem dF_memberAt_1 : decode mF_memberAt.2.1 1 = .ok (.ifCond .lt 11, 3) := by decide +kernel
theorem dF_memberAt_4 : decode mF_memberAt.2.1 4 = .ok (.iload_n 2, 1) := by decide +kernel
theorem dF_memberAt_5 : decode mF_memberAt.2.1 5 = .ok (.lload_n 0, 1) := by decide +kernel
theorem dF_memberAt_6 : decode mF_memberAt.2.1 6 = .ok (.invokestatic 152, 3) := by decide +kernel
theorem dF_memberAt_9 : decode mF_memberAt.2.1 9 = .ok (.if_icmp .lt 5, 3) := by decide +kernel
theorem dF_memberAt_12 : decode mF_memberAt.2.1 12 = .ok (.iconst (-1), 1) := by decide +kernel
theorem dF_memberAt_13 : decode mF_memberAt.2.1 13 = .ok (.ireturn, 1) := by decide +kernel
theorem dF_memberAt_14 : decode mF_memberAt.2.1 14 = .ok (.lload_n 0, 1) := by decide +kernel
theorem dF_memberAt_15 : decode mF_memberAt.2.1 15 = .ok (.lstore_n 3, 1) := by decide +kernel
theorem dF_memberAt_16 : decode mF_memberAt.2.1 16 = .ok (.iconst 0, 1) := by decide +kernel
theorem dF_memberAt_17 : decode mF_memberAt.2.1 17 = .ok (.istore 5, 2) := by decide +kernel
theorem dF_memberAt_19 : decode mF_memberAt.2.1 19 = .ok (.iload 5, 2) := by decide +kernel
theorem dF_memberAt_21 : decode mF_memberAt.2.1 21 = .ok (.iload_n 2, 1) := by decide +kernel
theorem dF_memberAt_22 : decode mF_memberAt.2.1 22 = .ok (.if_icmp .ge 22, 3) := by decide +kernel
theorem dF_memberAt_25 : decode mF_memberAt.2.1 25 = .ok (.iload 5, 2) := by decide +kernel
theorem dF_memberAt_27 : decode mF_memberAt.2.1 27 = .ok (.bipush 36, 2) := by decide +kernel
theorem dF_memberAt_29 : decode mF_memberAt.2.1 29 = .ok (.if_icmp .ge 15, 3) := by decide +kernel
theorem dF_memberAt_32 : decode mF_memberAt.2.1 32 = .ok (.lload_n 3, 1) := by decide +kernel
theorem dF_memberAt_33 : decode mF_memberAt.2.1 33 = .ok (.lload_n 3, 1) := by decide +kernel
theorem dF_memberAt_34 : decode mF_memberAt.2.1 34 = .ok (.lconst 1, 1) := by decide +kernel
theorem dF_memberAt_35 : decode mF_memberAt.2.1 35 = .ok (.lsub, 1) := by decide +kernel
theorem dF_memberAt_36 : decode mF_memberAt.2.1 36 = .ok (.land, 1) := by decide +kernel
theorem dF_memberAt_37 : decode mF_memberAt.2.1 37 = .ok (.lstore_n 3, 1) := by decide +kernel
theorem dF_memberAt_38 : decode mF_memberAt.2.1 38 = .ok (.iinc 5 1, 3) := by decide +kernel
theorem dF_memberAt_41 : decode mF_memberAt.2.1 41 = .ok (.goto (-22), 3) := by decide +kernel
theorem dF_memberAt_44 : decode mF_memberAt.2.1 44 = .ok (.lload_n 3, 1) := by decide +kernel
theorem dF_memberAt_45 : decode mF_memberAt.2.1 45 = .ok (.invokestatic 248, 3) := by decide +kernel
theorem dF_memberAt_48 : decode mF_memberAt.2.1 48 = .ok (.ireturn, 1) := by decide +kernel
theorem dF_turned_0 : decode mF_turned.2.1 0 = .ok (.iload_n 0, 1) := by decide +kernel
theorem dF_turned_1 : decode mF_turned.2.1 1 = .ok (.iload_n 1, 1) := by decide +kernel
theorem dF_turned_2 : decode mF_turned.2.1 2 = .ok (.iadd, 1) := by decide +kernel
theorem dF_turned_3 : decode mF_turned.2.1 3 = .ok (.iconst 3, 1) := by decide +kernel
theorem dF_turned_4 : decode mF_turned.2.1 4 = .ok (.iand, 1) := by decide +kernel
theorem dF_turned_5 : decode mF_turned.2.1 5 = .ok (.ireturn, 1) := by decide +kernel
theorem dJ_bitCount_0 : decode mJ_bitCount.2.1 0 = .ok (.lload_n 0, 1) := by decide +kernel
theorem dJ_bitCount_1 : decode mJ_bitCount.2.1 1 = .ok (.lload_n 0, 1) := by decide +kernel
theorem dJ_bitCount_2 : decode mJ_bitCount.2.1 2 = .ok (.iconst 1, 1) := by decide +kernel
theorem dJ_bitCount_3 : decode mJ_bitCount.2.1 3 = .ok (.lushr, 1) := by decide +kernel
theorem dJ_bitCount_4 : decode mJ_bitCount.2.1 4 = .ok (.ldc2_w 314, 3) := by decide +kernel
theorem dJ_bitCount_7 : decode mJ_bitCount.2.1 7 = .ok (.land, 1) := by decide +kernel
theorem dJ_bitCount_8 : decode mJ_bitCount.2.1 8 = .ok (.lsub, 1) := by decide +kernel
theorem dJ_bitCount_9 : decode mJ_bitCount.2.1 9 = .ok (.lstore_n 0, 1) := by decide +kernel
theorem dJ_bitCount_10 : decode mJ_bitCount.2.1 10 = .ok (.lload_n 0, 1) := by decide +kernel
theorem dJ_bitCount_11 : decode mJ_bitCount.2.1 11 = .ok (.ldc2_w 316, 3) := by decide +kernel
theorem dJ_bitCount_14 : decode mJ_bitCount.2.1 14 = .ok (.land, 1) := by decide +kernel
theorem dJ_bitCount_15 : decode mJ_bitCount.2.1 15 = .ok (.lload_n 0, 1) := by decide +kernel
theorem dJ_bitCount_16 : decode mJ_bitCount.2.1 16 = .ok (.iconst 2, 1) := by decide +kernel
theorem dJ_bitCount_17 : decode mJ_bitCount.2.1 17 = .ok (.lushr, 1) := by decide +kernel
theorem dJ_bitCount_18 : decode mJ_bitCount.2.1 18 = .ok (.ldc2_w 316, 3) := by decide +kernel
theorem dJ_bitCount_21 : decode mJ_bitCount.2.1 21 = .ok (.land, 1) := by decide +kernel
theorem dJ_bitCount_22 : decode mJ_bitCount.2.1 22 = .ok (.ladd, 1) := by decide +kernel
theorem dJ_bitCount_23 : decode mJ_bitCount.2.1 23 = .ok (.lstore_n 0, 1) := by decide +kernel
theorem dJ_bitCount_24 : decode mJ_bitCount.2.1 24 = .ok (.lload_n 0, 1) := by decide +kernel
theorem dJ_bitCount_25 : decode mJ_bitCount.2.1 25 = .ok (.lload_n 0, 1) := by decide +kernel
theorem dJ_bitCount_26 : decode mJ_bitCount.2.1 26 = .ok (.iconst 4, 1) := by decide +kernel
theorem dJ_bitCount_27 : decode mJ_bitCount.2.1 27 = .ok (.lushr, 1) := by decide +kernel
theorem dJ_bitCount_28 : decode mJ_bitCount.2.1 28 = .ok (.ladd, 1) := by decide +kernel
theorem dJ_bitCount_29 : decode mJ_bitCount.2.1 29 = .ok (.ldc2_w 318, 3) := by decide +kernel
theorem dJ_bitCount_32 : decode mJ_bitCount.2.1 32 = .ok (.land, 1) := by decide +kernel
theorem dJ_bitCount_33 : decode mJ_bitCount.2.1 33 = .ok (.lstore_n 0, 1) := by decide +kernel
theorem dJ_bitCount_34 : decode mJ_bitCount.2.1 34 = .ok (.lload_n 0, 1) := by decide +kernel
theorem dJ_bitCount_35 : decode mJ_bitCount.2.1 35 = .ok (.lload_n 0, 1) := by decide +kernel
theorem dJ_bitCount_36 : decode mJ_bitCount.2.1 36 = .ok (.bipush 8, 2) := by decide +kernel
theorem dJ_bitCount_38 : decode mJ_bitCount.2.1 38 = .ok (.lushr, 1) := by decide +kernel
theorem dJ_bitCount_39 : decode mJ_bitCount.2.1 39 = .ok (.ladd, 1) := by decide +kernel
theorem dJ_bitCount_40 : decode mJ_bitCount.2.1 40 = .ok (.lstore_n 0, 1) := by decide +kernel
theorem dJ_bitCount_41 : decode mJ_bitCount.2.1 41 = .ok (.lload_n 0, 1) := by decide +kernel
theorem dJ_bitCount_42 : decode mJ_bitCount.2.1 42 = .ok (.lload_n 0, 1) := by decide +kernel
theorem dJ_bitCount_43 : decode mJ_bitCount.2.1 43 = .ok (.bipush 16, 2) := by decide +kernel
theorem dJ_bitCount_45 : decode mJ_bitCount.2.1 45 = .ok (.lushr, 1) := by decide +kernel
theorem dJ_bitCount_46 : decode mJ_bitCount.2.1 46 = .ok (.ladd, 1) := by decide +kernel
theorem dJ_bitCount_47 : decode mJ_bitCount.2.1 47 = .ok (.lstore_n 0, 1) := by decide +kernel
theorem dJ_bitCount_48 : decode mJ_bitCount.2.1 48 = .ok (.lload_n 0, 1) := by decide +kernel
theorem dJ_bitCount_49 : decode mJ_bitCount.2.1 49 = .ok (.lload_n 0, 1) := by decide +kernel
theorem dJ_bitCount_50 : decode mJ_bitCount.2.1 50 = .ok (.bipush 32, 2) := by decide +kernel
theorem dJ_bitCount_52 : decode mJ_bitCount.2.1 52 = .ok (.lushr, 1) := by decide +kernel
theorem dJ_bitCount_53 : decode mJ_bitCount.2.1 53 = .ok (.ladd, 1) := by decide +kernel
theorem dJ_bitCount_54 : decode mJ_bitCount.2.1 54 = .ok (.lstore_n 0, 1) := by decide +kernel
theorem dJ_bitCount_55 : decode mJ_bitCount.2.1 55 = .ok (.lload_n 0, 1) := by decide +kernel
theorem dJ_bitCount_56 : decode mJ_bitCount.2.1 56 = .ok (.l2i, 1) := by decide +kernel
theorem dJ_bitCount_57 : decode mJ_bitCount.2.1 57 = .ok (.bipush 127, 2) := by decide +kernel
theorem dJ_bitCount_59 : decode mJ_bitCount.2.1 59 = .ok (.iand, 1) := by decide +kernel
theorem dJ_bitCount_60 : decode mJ_bitCount.2.1 60 = .ok (.ireturn, 1) := by decide +kernel
theorem dJ_min_0 : decode mJ_min.2.1 0 = .ok (.iload_n 0, 1) := by decide +kernel
theorem dJ_min_1 : decode mJ_min.2.1 1 = .ok (.iload_n 1, 1) := by decide +kernel
theorem dJ_min_2 : decode mJ_min.2.1 2 = .ok (.if_icmp .gt 7, 3) := by decide +kernel
theorem dJ_min_5 : decode mJ_min.2.1 5 = .ok (.iload_n 0, 1) := by decide +kernel
theorem dJ_min_6 : decode mJ_min.2.1 6 = .ok (.goto 4, 3) := by decide +kernel
theorem dJ_min_9 : decode mJ_min.2.1 9 = .ok (.iload_n 1, 1) := by decide +kernel
theorem dJ_min_10 : decode mJ_min.2.1 10 = .ok (.ireturn, 1) := by decide +kernel
