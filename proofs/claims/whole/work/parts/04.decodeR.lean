/-! Decode rows (names.py). -/
theorem d_R_init_0 : decode c_R_init 0 = .ok (.aload_n 0, 1) := by decide +kernel
theorem d_R_init_1 : decode c_R_init 1 = .ok (.invokespecial 3, 3) := by decide +kernel
theorem d_R_init_4 : decode c_R_init 4 = .ok (.aload_n 0, 1) := by decide +kernel
theorem d_R_init_5 : decode c_R_init 5 = .ok (.bipush 8, 2) := by decide +kernel
theorem d_R_init_7 : decode c_R_init 7 = .ok (.newarray .int, 2) := by decide +kernel
theorem d_R_init_9 : decode c_R_init 9 = .ok (.putfield 9, 3) := by decide +kernel
theorem d_R_init_12 : decode c_R_init 12 = .ok (.aload_n 0, 1) := by decide +kernel
theorem d_R_init_13 : decode c_R_init 13 = .ok (.iconst 4, 1) := by decide +kernel
theorem d_R_init_14 : decode c_R_init 14 = .ok (.newarray .long, 2) := by decide +kernel
theorem d_R_init_16 : decode c_R_init 16 = .ok (.putfield 15, 3) := by decide +kernel
theorem d_R_init_19 : decode c_R_init 19 = .ok (.aload_n 0, 1) := by decide +kernel
theorem d_R_init_20 : decode c_R_init 20 = .ok (.iconst 3, 1) := by decide +kernel
theorem d_R_init_21 : decode c_R_init 21 = .ok (.bipush 40, 2) := by decide +kernel
theorem d_R_init_23 : decode c_R_init 23 = .ok (.multianewarray 19 2, 4) := by decide +kernel
theorem d_R_init_27 : decode c_R_init 27 = .ok (.putfield 21, 3) := by decide +kernel
theorem d_R_init_30 : decode c_R_init 30 = .ok (.aload_n 0, 1) := by decide +kernel
theorem d_R_init_31 : decode c_R_init 31 = .ok (.iconst 3, 1) := by decide +kernel
theorem d_R_init_32 : decode c_R_init 32 = .ok (.newarray .int, 2) := by decide +kernel
theorem d_R_init_34 : decode c_R_init 34 = .ok (.putfield 24, 3) := by decide +kernel
theorem d_R_init_37 : decode c_R_init 37 = .ok (.aload_n 0, 1) := by decide +kernel
theorem d_R_init_38 : decode c_R_init 38 = .ok (.bipush 120, 2) := by decide +kernel
theorem d_R_init_40 : decode c_R_init 40 = .ok (.newarray .int, 2) := by decide +kernel
theorem d_R_init_42 : decode c_R_init 42 = .ok (.putfield 27, 3) := by decide +kernel
theorem d_R_init_45 : decode c_R_init 45 = .ok (.aload_n 0, 1) := by decide +kernel
theorem d_R_init_46 : decode c_R_init 46 = .ok (.sipush 200, 3) := by decide +kernel
theorem d_R_init_49 : decode c_R_init 49 = .ok (.newarray .int, 2) := by decide +kernel
theorem d_R_init_51 : decode c_R_init 51 = .ok (.putfield 30, 3) := by decide +kernel
theorem d_R_init_54 : decode c_R_init 54 = .ok (.aload_n 0, 1) := by decide +kernel
theorem d_R_init_55 : decode c_R_init 55 = .ok (.sipush 200, 3) := by decide +kernel
theorem d_R_init_58 : decode c_R_init 58 = .ok (.newarray .int, 2) := by decide +kernel
theorem d_R_init_60 : decode c_R_init 60 = .ok (.putfield 33, 3) := by decide +kernel
theorem d_R_init_63 : decode c_R_init 63 = .ok (.return_, 1) := by decide +kernel
theorem d_R_attempt_0 : decode c_R_attempt 0 = .ok (.aload_n 0, 1) := by decide +kernel
theorem d_R_attempt_1 : decode c_R_attempt 1 = .ok (.aload_n 1, 1) := by decide +kernel
theorem d_R_attempt_2 : decode c_R_attempt 2 = .ok (.invokevirtual 52, 3) := by decide +kernel
theorem d_R_attempt_5 : decode c_R_attempt 5 = .ok (.ifCond .eq 5, 3) := by decide +kernel
theorem d_R_attempt_8 : decode c_R_attempt 8 = .ok (.iconst 0, 1) := by decide +kernel
theorem d_R_attempt_9 : decode c_R_attempt 9 = .ok (.ireturn, 1) := by decide +kernel
theorem d_R_attempt_10 : decode c_R_attempt 10 = .ok (.aload_n 0, 1) := by decide +kernel
theorem d_R_attempt_11 : decode c_R_attempt 11 = .ok (.aload_n 1, 1) := by decide +kernel
theorem d_R_attempt_12 : decode c_R_attempt 12 = .ok (.invokevirtual 56, 3) := by decide +kernel
theorem d_R_attempt_15 : decode c_R_attempt 15 = .ok (.iconst 1, 1) := by decide +kernel
theorem d_R_attempt_16 : decode c_R_attempt 16 = .ok (.ireturn, 1) := by decide +kernel
theorem d_R_isImpossible_0 : decode c_R_isImpossible 0 = .ok (.aload_n 1, 1) := by decide +kernel
theorem d_R_isImpossible_1 : decode c_R_isImpossible 1 = .ok (.getfield 60, 3) := by decide +kernel
theorem d_R_isImpossible_4 : decode c_R_isImpossible 4 = .ok (.tableswitch 144 4 8 #[36, 36, 53, 77, 94], 36) := by decide +kernel
theorem d_R_isImpossible_40 : decode c_R_isImpossible 40 = .ok (.aload_n 0, 1) := by decide +kernel
theorem d_R_isImpossible_41 : decode c_R_isImpossible 41 = .ok (.aload_n 1, 1) := by decide +kernel
theorem d_R_isImpossible_42 : decode c_R_isImpossible 42 = .ok (.getfield 65, 3) := by decide +kernel
theorem d_R_isImpossible_45 : decode c_R_isImpossible 45 = .ok (.invokevirtual 68, 3) := by decide +kernel
theorem d_R_isImpossible_48 : decode c_R_isImpossible 48 = .ok (.ifCond .ne 7, 3) := by decide +kernel
theorem d_R_isImpossible_51 : decode c_R_isImpossible 51 = .ok (.iconst 1, 1) := by decide +kernel
theorem d_R_isImpossible_52 : decode c_R_isImpossible 52 = .ok (.goto 4, 3) := by decide +kernel
theorem d_R_isImpossible_55 : decode c_R_isImpossible 55 = .ok (.iconst 0, 1) := by decide +kernel
theorem d_R_isImpossible_56 : decode c_R_isImpossible 56 = .ok (.ireturn, 1) := by decide +kernel
theorem d_R_isImpossible_57 : decode c_R_isImpossible 57 = .ok (.aload_n 1, 1) := by decide +kernel
theorem d_R_isImpossible_58 : decode c_R_isImpossible 58 = .ok (.getfield 65, 3) := by decide +kernel
theorem d_R_isImpossible_61 : decode c_R_isImpossible 61 = .ok (.ifCond .eq 18, 3) := by decide +kernel
theorem d_R_isImpossible_64 : decode c_R_isImpossible 64 = .ok (.aload_n 0, 1) := by decide +kernel
theorem d_R_isImpossible_65 : decode c_R_isImpossible 65 = .ok (.aload_n 1, 1) := by decide +kernel
theorem d_R_isImpossible_66 : decode c_R_isImpossible 66 = .ok (.getfield 65, 3) := by decide +kernel
theorem d_R_isImpossible_69 : decode c_R_isImpossible 69 = .ok (.invokevirtual 72, 3) := by decide +kernel
theorem d_R_isImpossible_72 : decode c_R_isImpossible 72 = .ok (.ifCond .ne 7, 3) := by decide +kernel
theorem d_R_isImpossible_75 : decode c_R_isImpossible 75 = .ok (.iconst 1, 1) := by decide +kernel
theorem d_R_isImpossible_76 : decode c_R_isImpossible 76 = .ok (.goto 4, 3) := by decide +kernel
theorem d_R_isImpossible_79 : decode c_R_isImpossible 79 = .ok (.iconst 0, 1) := by decide +kernel
theorem d_R_isImpossible_80 : decode c_R_isImpossible 80 = .ok (.ireturn, 1) := by decide +kernel
theorem d_R_isImpossible_81 : decode c_R_isImpossible 81 = .ok (.aload_n 0, 1) := by decide +kernel
theorem d_R_isImpossible_82 : decode c_R_isImpossible 82 = .ok (.aload_n 1, 1) := by decide +kernel
theorem d_R_isImpossible_83 : decode c_R_isImpossible 83 = .ok (.getfield 75, 3) := by decide +kernel
theorem d_R_isImpossible_86 : decode c_R_isImpossible 86 = .ok (.invokevirtual 72, 3) := by decide +kernel
theorem d_R_isImpossible_89 : decode c_R_isImpossible 89 = .ok (.ifCond .ne 7, 3) := by decide +kernel
theorem d_R_isImpossible_92 : decode c_R_isImpossible 92 = .ok (.iconst 1, 1) := by decide +kernel
theorem d_R_isImpossible_93 : decode c_R_isImpossible 93 = .ok (.goto 4, 3) := by decide +kernel
theorem d_R_isImpossible_96 : decode c_R_isImpossible 96 = .ok (.iconst 0, 1) := by decide +kernel
theorem d_R_isImpossible_97 : decode c_R_isImpossible 97 = .ok (.ireturn, 1) := by decide +kernel
theorem d_R_isImpossible_98 : decode c_R_isImpossible 98 = .ok (.aload_n 0, 1) := by decide +kernel
theorem d_R_isImpossible_99 : decode c_R_isImpossible 99 = .ok (.aload_n 1, 1) := by decide +kernel
theorem d_R_isImpossible_100 : decode c_R_isImpossible 100 = .ok (.getfield 75, 3) := by decide +kernel
theorem d_R_isImpossible_103 : decode c_R_isImpossible 103 = .ok (.invokevirtual 72, 3) := by decide +kernel
theorem d_R_isImpossible_106 : decode c_R_isImpossible 106 = .ok (.ifCond .eq 36, 3) := by decide +kernel
theorem d_R_isImpossible_109 : decode c_R_isImpossible 109 = .ok (.aload_n 1, 1) := by decide +kernel
theorem d_R_isImpossible_110 : decode c_R_isImpossible 110 = .ok (.getfield 65, 3) := by decide +kernel
theorem d_R_isImpossible_113 : decode c_R_isImpossible 113 = .ok (.ifCond .eq 33, 3) := by decide +kernel
theorem d_R_isImpossible_116 : decode c_R_isImpossible 116 = .ok (.aload_n 0, 1) := by decide +kernel
theorem d_R_isImpossible_117 : decode c_R_isImpossible 117 = .ok (.aload_n 1, 1) := by decide +kernel
theorem d_R_isImpossible_118 : decode c_R_isImpossible 118 = .ok (.getfield 65, 3) := by decide +kernel
theorem d_R_isImpossible_121 : decode c_R_isImpossible 121 = .ok (.invokevirtual 72, 3) := by decide +kernel
theorem d_R_isImpossible_124 : decode c_R_isImpossible 124 = .ok (.ifCond .eq 18, 3) := by decide +kernel
theorem d_R_isImpossible_127 : decode c_R_isImpossible 127 = .ok (.aload_n 0, 1) := by decide +kernel
theorem d_R_isImpossible_128 : decode c_R_isImpossible 128 = .ok (.aload_n 1, 1) := by decide +kernel
theorem d_R_isImpossible_129 : decode c_R_isImpossible 129 = .ok (.getfield 65, 3) := by decide +kernel
theorem d_R_isImpossible_132 : decode c_R_isImpossible 132 = .ok (.aload_n 1, 1) := by decide +kernel
theorem d_R_isImpossible_133 : decode c_R_isImpossible 133 = .ok (.getfield 75, 3) := by decide +kernel
theorem d_R_isImpossible_136 : decode c_R_isImpossible 136 = .ok (.invokevirtual 78, 3) := by decide +kernel
theorem d_R_isImpossible_139 : decode c_R_isImpossible 139 = .ok (.ifCond .eq 7, 3) := by decide +kernel
theorem d_R_isImpossible_142 : decode c_R_isImpossible 142 = .ok (.iconst 1, 1) := by decide +kernel
theorem d_R_isImpossible_143 : decode c_R_isImpossible 143 = .ok (.goto 4, 3) := by decide +kernel
theorem d_R_isImpossible_146 : decode c_R_isImpossible 146 = .ok (.iconst 0, 1) := by decide +kernel
theorem d_R_isImpossible_147 : decode c_R_isImpossible 147 = .ok (.ireturn, 1) := by decide +kernel
theorem d_R_isImpossible_148 : decode c_R_isImpossible 148 = .ok (.iconst 0, 1) := by decide +kernel
theorem d_R_isImpossible_149 : decode c_R_isImpossible 149 = .ok (.ireturn, 1) := by decide +kernel
theorem d_R_hasElement_0 : decode c_R_hasElement 0 = .ok (.aload_n 0, 1) := by decide +kernel
theorem d_R_hasElement_1 : decode c_R_hasElement 1 = .ok (.getfield 27, 3) := by decide +kernel
theorem d_R_hasElement_4 : decode c_R_hasElement 4 = .ok (.aload_n 0, 1) := by decide +kernel
theorem d_R_hasElement_5 : decode c_R_hasElement 5 = .ok (.getfield 45, 3) := by decide +kernel
theorem d_R_hasElement_8 : decode c_R_hasElement 8 = .ok (.iload_n 1, 1) := by decide +kernel
theorem d_R_hasElement_9 : decode c_R_hasElement 9 = .ok (.invokestatic 107, 3) := by decide +kernel
theorem d_R_hasElement_12 : decode c_R_hasElement 12 = .ok (.iconst (-1), 1) := by decide +kernel
theorem d_R_hasElement_13 : decode c_R_hasElement 13 = .ok (.if_icmp .eq 7, 3) := by decide +kernel
theorem d_R_hasElement_16 : decode c_R_hasElement 16 = .ok (.iconst 1, 1) := by decide +kernel
theorem d_R_hasElement_17 : decode c_R_hasElement 17 = .ok (.goto 4, 3) := by decide +kernel
theorem d_R_hasElement_20 : decode c_R_hasElement 20 = .ok (.iconst 0, 1) := by decide +kernel
theorem d_R_hasElement_21 : decode c_R_hasElement 21 = .ok (.ireturn, 1) := by decide +kernel
theorem d_R_search_0 : decode c_R_search 0 = .ok (.iconst 0, 1) := by decide +kernel
theorem d_R_search_1 : decode c_R_search 1 = .ok (.istore_n 3, 1) := by decide +kernel
theorem d_R_search_2 : decode c_R_search 2 = .ok (.sipush 128, 3) := by decide +kernel
theorem d_R_search_5 : decode c_R_search 5 = .ok (.istore 4, 2) := by decide +kernel
theorem d_R_search_7 : decode c_R_search 7 = .ok (.iload 4, 2) := by decide +kernel
theorem d_R_search_9 : decode c_R_search 9 = .ok (.ifCond .le 37, 3) := by decide +kernel
theorem d_R_search_12 : decode c_R_search 12 = .ok (.iload_n 3, 1) := by decide +kernel
theorem d_R_search_13 : decode c_R_search 13 = .ok (.iload 4, 2) := by decide +kernel
theorem d_R_search_15 : decode c_R_search 15 = .ok (.iadd, 1) := by decide +kernel
theorem d_R_search_16 : decode c_R_search 16 = .ok (.iload_n 1, 1) := by decide +kernel
theorem d_R_search_17 : decode c_R_search 17 = .ok (.if_icmp .gt 20, 3) := by decide +kernel
theorem d_R_search_20 : decode c_R_search 20 = .ok (.aload_n 0, 1) := by decide +kernel
theorem d_R_search_21 : decode c_R_search 21 = .ok (.iload_n 3, 1) := by decide +kernel
theorem d_R_search_22 : decode c_R_search 22 = .ok (.iload 4, 2) := by decide +kernel
theorem d_R_search_24 : decode c_R_search 24 = .ok (.iadd, 1) := by decide +kernel
theorem d_R_search_25 : decode c_R_search 25 = .ok (.iconst 1, 1) := by decide +kernel
theorem d_R_search_26 : decode c_R_search 26 = .ok (.isub, 1) := by decide +kernel
theorem d_R_search_27 : decode c_R_search 27 = .ok (.iaload, 1) := by decide +kernel
theorem d_R_search_28 : decode c_R_search 28 = .ok (.iload_n 2, 1) := by decide +kernel
theorem d_R_search_29 : decode c_R_search 29 = .ok (.if_icmp .ge 8, 3) := by decide +kernel
theorem d_R_search_32 : decode c_R_search 32 = .ok (.iload_n 3, 1) := by decide +kernel
theorem d_R_search_33 : decode c_R_search 33 = .ok (.iload 4, 2) := by decide +kernel
theorem d_R_search_35 : decode c_R_search 35 = .ok (.iadd, 1) := by decide +kernel
theorem d_R_search_36 : decode c_R_search 36 = .ok (.istore_n 3, 1) := by decide +kernel
theorem d_R_search_37 : decode c_R_search 37 = .ok (.iload 4, 2) := by decide +kernel
theorem d_R_search_39 : decode c_R_search 39 = .ok (.iconst 2, 1) := by decide +kernel
theorem d_R_search_40 : decode c_R_search 40 = .ok (.idiv, 1) := by decide +kernel
theorem d_R_search_41 : decode c_R_search 41 = .ok (.istore 4, 2) := by decide +kernel
theorem d_R_search_43 : decode c_R_search 43 = .ok (.goto (-36), 3) := by decide +kernel
theorem d_R_search_46 : decode c_R_search 46 = .ok (.iload_n 3, 1) := by decide +kernel
theorem d_R_search_47 : decode c_R_search 47 = .ok (.iload_n 1, 1) := by decide +kernel
theorem d_R_search_48 : decode c_R_search 48 = .ok (.if_icmp .ge 14, 3) := by decide +kernel
theorem d_R_search_51 : decode c_R_search 51 = .ok (.aload_n 0, 1) := by decide +kernel
theorem d_R_search_52 : decode c_R_search 52 = .ok (.iload_n 3, 1) := by decide +kernel
theorem d_R_search_53 : decode c_R_search 53 = .ok (.iaload, 1) := by decide +kernel
theorem d_R_search_54 : decode c_R_search 54 = .ok (.iload_n 2, 1) := by decide +kernel
theorem d_R_search_55 : decode c_R_search 55 = .ok (.if_icmp .ne 7, 3) := by decide +kernel
theorem d_R_search_58 : decode c_R_search 58 = .ok (.iload_n 3, 1) := by decide +kernel
theorem d_R_search_59 : decode c_R_search 59 = .ok (.goto 4, 3) := by decide +kernel
theorem d_R_search_62 : decode c_R_search 62 = .ok (.iconst (-1), 1) := by decide +kernel
theorem d_R_search_63 : decode c_R_search 63 = .ok (.ireturn, 1) := by decide +kernel
theorem d_R_hasNode_0 : decode c_R_hasNode 0 = .ok (.aload_n 0, 1) := by decide +kernel
theorem d_R_hasNode_1 : decode c_R_hasNode 1 = .ok (.getfield 30, 3) := by decide +kernel
theorem d_R_hasNode_4 : decode c_R_hasNode 4 = .ok (.aload_n 0, 1) := by decide +kernel
theorem d_R_hasNode_5 : decode c_R_hasNode 5 = .ok (.getfield 49, 3) := by decide +kernel
theorem d_R_hasNode_8 : decode c_R_hasNode 8 = .ok (.iload_n 1, 1) := by decide +kernel
theorem d_R_hasNode_9 : decode c_R_hasNode 9 = .ok (.invokestatic 107, 3) := by decide +kernel
theorem d_R_hasNode_12 : decode c_R_hasNode 12 = .ok (.iconst (-1), 1) := by decide +kernel
theorem d_R_hasNode_13 : decode c_R_hasNode 13 = .ok (.if_icmp .eq 7, 3) := by decide +kernel
theorem d_R_hasNode_16 : decode c_R_hasNode 16 = .ok (.iconst 1, 1) := by decide +kernel
theorem d_R_hasNode_17 : decode c_R_hasNode 17 = .ok (.goto 4, 3) := by decide +kernel
theorem d_R_hasNode_20 : decode c_R_hasNode 20 = .ok (.iconst 0, 1) := by decide +kernel
theorem d_R_hasNode_21 : decode c_R_hasNode 21 = .ok (.ireturn, 1) := by decide +kernel
theorem d_R_isAtOrBelow_0 : decode c_R_isAtOrBelow 0 = .ok (.iload_n 1, 1) := by decide +kernel
theorem d_R_isAtOrBelow_1 : decode c_R_isAtOrBelow 1 = .ok (.istore_n 3, 1) := by decide +kernel
theorem d_R_isAtOrBelow_2 : decode c_R_isAtOrBelow 2 = .ok (.iconst 0, 1) := by decide +kernel
theorem d_R_isAtOrBelow_3 : decode c_R_isAtOrBelow 3 = .ok (.istore 4, 2) := by decide +kernel
theorem d_R_isAtOrBelow_5 : decode c_R_isAtOrBelow 5 = .ok (.iload 4, 2) := by decide +kernel
theorem d_R_isAtOrBelow_7 : decode c_R_isAtOrBelow 7 = .ok (.aload_n 0, 1) := by decide +kernel
theorem d_R_isAtOrBelow_8 : decode c_R_isAtOrBelow 8 = .ok (.getfield 49, 3) := by decide +kernel
theorem d_R_isAtOrBelow_11 : decode c_R_isAtOrBelow 11 = .ok (.if_icmp .gt 52, 3) := by decide +kernel
theorem d_R_isAtOrBelow_14 : decode c_R_isAtOrBelow 14 = .ok (.iload_n 3, 1) := by decide +kernel
theorem d_R_isAtOrBelow_15 : decode c_R_isAtOrBelow 15 = .ok (.ifCond .le 48, 3) := by decide +kernel
theorem d_R_isAtOrBelow_18 : decode c_R_isAtOrBelow 18 = .ok (.iload_n 3, 1) := by decide +kernel
theorem d_R_isAtOrBelow_19 : decode c_R_isAtOrBelow 19 = .ok (.iload_n 2, 1) := by decide +kernel
theorem d_R_isAtOrBelow_20 : decode c_R_isAtOrBelow 20 = .ok (.if_icmp .ne 5, 3) := by decide +kernel
theorem d_R_isAtOrBelow_23 : decode c_R_isAtOrBelow 23 = .ok (.iconst 1, 1) := by decide +kernel
theorem d_R_isAtOrBelow_24 : decode c_R_isAtOrBelow 24 = .ok (.ireturn, 1) := by decide +kernel
theorem d_R_isAtOrBelow_25 : decode c_R_isAtOrBelow 25 = .ok (.aload_n 0, 1) := by decide +kernel
theorem d_R_isAtOrBelow_26 : decode c_R_isAtOrBelow 26 = .ok (.getfield 30, 3) := by decide +kernel
theorem d_R_isAtOrBelow_29 : decode c_R_isAtOrBelow 29 = .ok (.aload_n 0, 1) := by decide +kernel
theorem d_R_isAtOrBelow_30 : decode c_R_isAtOrBelow 30 = .ok (.getfield 49, 3) := by decide +kernel
theorem d_R_isAtOrBelow_33 : decode c_R_isAtOrBelow 33 = .ok (.iload_n 3, 1) := by decide +kernel
theorem d_R_isAtOrBelow_34 : decode c_R_isAtOrBelow 34 = .ok (.invokestatic 107, 3) := by decide +kernel
theorem d_R_isAtOrBelow_37 : decode c_R_isAtOrBelow 37 = .ok (.istore 5, 2) := by decide +kernel
theorem d_R_isAtOrBelow_39 : decode c_R_isAtOrBelow 39 = .ok (.iload 5, 2) := by decide +kernel
theorem d_R_isAtOrBelow_41 : decode c_R_isAtOrBelow 41 = .ok (.iconst (-1), 1) := by decide +kernel
theorem d_R_isAtOrBelow_42 : decode c_R_isAtOrBelow 42 = .ok (.if_icmp .ne 7, 3) := by decide +kernel
theorem d_R_isAtOrBelow_45 : decode c_R_isAtOrBelow 45 = .ok (.iconst (-1), 1) := by decide +kernel
theorem d_R_isAtOrBelow_46 : decode c_R_isAtOrBelow 46 = .ok (.goto 10, 3) := by decide +kernel
theorem d_R_isAtOrBelow_49 : decode c_R_isAtOrBelow 49 = .ok (.aload_n 0, 1) := by decide +kernel
theorem d_R_isAtOrBelow_50 : decode c_R_isAtOrBelow 50 = .ok (.getfield 33, 3) := by decide +kernel
theorem d_R_isAtOrBelow_53 : decode c_R_isAtOrBelow 53 = .ok (.iload 5, 2) := by decide +kernel
theorem d_R_isAtOrBelow_55 : decode c_R_isAtOrBelow 55 = .ok (.iaload, 1) := by decide +kernel
theorem d_R_isAtOrBelow_56 : decode c_R_isAtOrBelow 56 = .ok (.istore_n 3, 1) := by decide +kernel
theorem d_R_isAtOrBelow_57 : decode c_R_isAtOrBelow 57 = .ok (.iinc 4 1, 3) := by decide +kernel
theorem d_R_isAtOrBelow_60 : decode c_R_isAtOrBelow 60 = .ok (.goto (-55), 3) := by decide +kernel
theorem d_R_isAtOrBelow_63 : decode c_R_isAtOrBelow 63 = .ok (.iconst 0, 1) := by decide +kernel
theorem d_R_isAtOrBelow_64 : decode c_R_isAtOrBelow 64 = .ok (.ireturn, 1) := by decide +kernel
theorem d_R_perform_0 : decode c_R_perform 0 = .ok (.aload_n 1, 1) := by decide +kernel
theorem d_R_perform_1 : decode c_R_perform 1 = .ok (.getfield 60, 3) := by decide +kernel
theorem d_R_perform_4 : decode c_R_perform 4 = .ok (.tableswitch 258 1 8 #[48, 65, 84, 134, 150, 192, 231, 243], 48) := by decide +kernel
theorem d_R_perform_52 : decode c_R_perform 52 = .ok (.aload_n 0, 1) := by decide +kernel
theorem d_R_perform_53 : decode c_R_perform 53 = .ok (.getfield 9, 3) := by decide +kernel
theorem d_R_perform_56 : decode c_R_perform 56 = .ok (.aload_n 1, 1) := by decide +kernel
theorem d_R_perform_57 : decode c_R_perform 57 = .ok (.getfield 75, 3) := by decide +kernel
theorem d_R_perform_60 : decode c_R_perform 60 = .ok (.aload_n 1, 1) := by decide +kernel
theorem d_R_perform_61 : decode c_R_perform 61 = .ok (.getfield 82, 3) := by decide +kernel
theorem d_R_perform_64 : decode c_R_perform 64 = .ok (.l2i, 1) := by decide +kernel
theorem d_R_perform_65 : decode c_R_perform 65 = .ok (.iastore, 1) := by decide +kernel
theorem d_R_perform_66 : decode c_R_perform 66 = .ok (.goto 196, 3) := by decide +kernel
theorem d_R_perform_69 : decode c_R_perform 69 = .ok (.aload_n 0, 1) := by decide +kernel
theorem d_R_perform_70 : decode c_R_perform 70 = .ok (.getfield 15, 3) := by decide +kernel
theorem d_R_perform_73 : decode c_R_perform 73 = .ok (.aload_n 1, 1) := by decide +kernel
theorem d_R_perform_74 : decode c_R_perform 74 = .ok (.getfield 75, 3) := by decide +kernel
theorem d_R_perform_77 : decode c_R_perform 77 = .ok (.dup2, 1) := by decide +kernel
theorem d_R_perform_78 : decode c_R_perform 78 = .ok (.laload, 1) := by decide +kernel
theorem d_R_perform_79 : decode c_R_perform 79 = .ok (.aload_n 1, 1) := by decide +kernel
theorem d_R_perform_80 : decode c_R_perform 80 = .ok (.getfield 82, 3) := by decide +kernel
theorem d_R_perform_83 : decode c_R_perform 83 = .ok (.ladd, 1) := by decide +kernel
theorem d_R_perform_84 : decode c_R_perform 84 = .ok (.lastore, 1) := by decide +kernel
theorem d_R_perform_85 : decode c_R_perform 85 = .ok (.goto 177, 3) := by decide +kernel
theorem d_R_perform_88 : decode c_R_perform 88 = .ok (.aload_n 0, 1) := by decide +kernel
theorem d_R_perform_89 : decode c_R_perform 89 = .ok (.getfield 27, 3) := by decide +kernel
theorem d_R_perform_92 : decode c_R_perform 92 = .ok (.aload_n 0, 1) := by decide +kernel
theorem d_R_perform_93 : decode c_R_perform 93 = .ok (.getfield 45, 3) := by decide +kernel
theorem d_R_perform_96 : decode c_R_perform 96 = .ok (.aload_n 1, 1) := by decide +kernel
theorem d_R_perform_97 : decode c_R_perform 97 = .ok (.getfield 86, 3) := by decide +kernel
theorem d_R_perform_100 : decode c_R_perform 100 = .ok (.iastore, 1) := by decide +kernel
theorem d_R_perform_101 : decode c_R_perform 101 = .ok (.aload_n 0, 1) := by decide +kernel
theorem d_R_perform_102 : decode c_R_perform 102 = .ok (.dup, 1) := by decide +kernel
theorem d_R_perform_103 : decode c_R_perform 103 = .ok (.getfield 45, 3) := by decide +kernel
theorem d_R_perform_106 : decode c_R_perform 106 = .ok (.iconst 1, 1) := by decide +kernel
theorem d_R_perform_107 : decode c_R_perform 107 = .ok (.iadd, 1) := by decide +kernel
theorem d_R_perform_108 : decode c_R_perform 108 = .ok (.putfield 45, 3) := by decide +kernel
theorem d_R_perform_111 : decode c_R_perform 111 = .ok (.aload_n 0, 1) := by decide +kernel
theorem d_R_perform_112 : decode c_R_perform 112 = .ok (.aload_n 1, 1) := by decide +kernel
theorem d_R_perform_113 : decode c_R_perform 113 = .ok (.getfield 75, 3) := by decide +kernel
theorem d_R_perform_116 : decode c_R_perform 116 = .ok (.aload_n 0, 1) := by decide +kernel
theorem d_R_perform_117 : decode c_R_perform 117 = .ok (.aload_n 1, 1) := by decide +kernel
theorem d_R_perform_118 : decode c_R_perform 118 = .ok (.getfield 75, 3) := by decide +kernel
theorem d_R_perform_121 : decode c_R_perform 121 = .ok (.aload_n 1, 1) := by decide +kernel
theorem d_R_perform_122 : decode c_R_perform 122 = .ok (.getfield 89, 3) := by decide +kernel
theorem d_R_perform_125 : decode c_R_perform 125 = .ok (.invokevirtual 92, 3) := by decide +kernel
theorem d_R_perform_128 : decode c_R_perform 128 = .ok (.aload_n 1, 1) := by decide +kernel
theorem d_R_perform_129 : decode c_R_perform 129 = .ok (.getfield 86, 3) := by decide +kernel
theorem d_R_perform_132 : decode c_R_perform 132 = .ok (.invokevirtual 96, 3) := by decide +kernel
theorem d_R_perform_135 : decode c_R_perform 135 = .ok (.goto 127, 3) := by decide +kernel
theorem d_R_perform_138 : decode c_R_perform 138 = .ok (.aload_n 0, 1) := by decide +kernel
theorem d_R_perform_139 : decode c_R_perform 139 = .ok (.aload_n 1, 1) := by decide +kernel
theorem d_R_perform_140 : decode c_R_perform 140 = .ok (.getfield 75, 3) := by decide +kernel
theorem d_R_perform_143 : decode c_R_perform 143 = .ok (.aload_n 1, 1) := by decide +kernel
theorem d_R_perform_144 : decode c_R_perform 144 = .ok (.getfield 65, 3) := by decide +kernel
theorem d_R_perform_147 : decode c_R_perform 147 = .ok (.invokevirtual 100, 3) := by decide +kernel
theorem d_R_perform_150 : decode c_R_perform 150 = .ok (.pop, 1) := by decide +kernel
theorem d_R_perform_151 : decode c_R_perform 151 = .ok (.goto 111, 3) := by decide +kernel
theorem d_R_perform_154 : decode c_R_perform 154 = .ok (.aload_n 0, 1) := by decide +kernel
theorem d_R_perform_155 : decode c_R_perform 155 = .ok (.aload_n 1, 1) := by decide +kernel
theorem d_R_perform_156 : decode c_R_perform 156 = .ok (.getfield 75, 3) := by decide +kernel
theorem d_R_perform_159 : decode c_R_perform 159 = .ok (.aload_n 1, 1) := by decide +kernel
theorem d_R_perform_160 : decode c_R_perform 160 = .ok (.getfield 65, 3) := by decide +kernel
theorem d_R_perform_163 : decode c_R_perform 163 = .ok (.invokevirtual 100, 3) := by decide +kernel
theorem d_R_perform_166 : decode c_R_perform 166 = .ok (.ifCond .eq 96, 3) := by decide +kernel
theorem d_R_perform_169 : decode c_R_perform 169 = .ok (.aload_n 0, 1) := by decide +kernel
theorem d_R_perform_170 : decode c_R_perform 170 = .ok (.aload_n 1, 1) := by decide +kernel
theorem d_R_perform_171 : decode c_R_perform 171 = .ok (.getfield 75, 3) := by decide +kernel
theorem d_R_perform_174 : decode c_R_perform 174 = .ok (.aload_n 0, 1) := by decide +kernel
theorem d_R_perform_175 : decode c_R_perform 175 = .ok (.aload_n 1, 1) := by decide +kernel
theorem d_R_perform_176 : decode c_R_perform 176 = .ok (.getfield 75, 3) := by decide +kernel
theorem d_R_perform_179 : decode c_R_perform 179 = .ok (.aload_n 1, 1) := by decide +kernel
theorem d_R_perform_180 : decode c_R_perform 180 = .ok (.getfield 89, 3) := by decide +kernel
theorem d_R_perform_183 : decode c_R_perform 183 = .ok (.invokevirtual 92, 3) := by decide +kernel
theorem d_R_perform_186 : decode c_R_perform 186 = .ok (.aload_n 1, 1) := by decide +kernel
theorem d_R_perform_187 : decode c_R_perform 187 = .ok (.getfield 65, 3) := by decide +kernel
theorem d_R_perform_190 : decode c_R_perform 190 = .ok (.invokevirtual 96, 3) := by decide +kernel
theorem d_R_perform_193 : decode c_R_perform 193 = .ok (.goto 69, 3) := by decide +kernel
theorem d_R_perform_196 : decode c_R_perform 196 = .ok (.aload_n 0, 1) := by decide +kernel
theorem d_R_perform_197 : decode c_R_perform 197 = .ok (.getfield 30, 3) := by decide +kernel
theorem d_R_perform_200 : decode c_R_perform 200 = .ok (.aload_n 0, 1) := by decide +kernel
theorem d_R_perform_201 : decode c_R_perform 201 = .ok (.getfield 49, 3) := by decide +kernel
theorem d_R_perform_204 : decode c_R_perform 204 = .ok (.aload_n 1, 1) := by decide +kernel
theorem d_R_perform_205 : decode c_R_perform 205 = .ok (.getfield 86, 3) := by decide +kernel
theorem d_R_perform_208 : decode c_R_perform 208 = .ok (.iastore, 1) := by decide +kernel
theorem d_R_perform_209 : decode c_R_perform 209 = .ok (.aload_n 0, 1) := by decide +kernel
theorem d_R_perform_210 : decode c_R_perform 210 = .ok (.getfield 33, 3) := by decide +kernel
theorem d_R_perform_213 : decode c_R_perform 213 = .ok (.aload_n 0, 1) := by decide +kernel
theorem d_R_perform_214 : decode c_R_perform 214 = .ok (.getfield 49, 3) := by decide +kernel
theorem d_R_perform_217 : decode c_R_perform 217 = .ok (.aload_n 1, 1) := by decide +kernel
theorem d_R_perform_218 : decode c_R_perform 218 = .ok (.getfield 65, 3) := by decide +kernel
theorem d_R_perform_221 : decode c_R_perform 221 = .ok (.iastore, 1) := by decide +kernel
theorem d_R_perform_222 : decode c_R_perform 222 = .ok (.aload_n 0, 1) := by decide +kernel
theorem d_R_perform_223 : decode c_R_perform 223 = .ok (.dup, 1) := by decide +kernel
theorem d_R_perform_224 : decode c_R_perform 224 = .ok (.getfield 49, 3) := by decide +kernel
theorem d_R_perform_227 : decode c_R_perform 227 = .ok (.iconst 1, 1) := by decide +kernel
theorem d_R_perform_228 : decode c_R_perform 228 = .ok (.iadd, 1) := by decide +kernel
theorem d_R_perform_229 : decode c_R_perform 229 = .ok (.putfield 49, 3) := by decide +kernel
theorem d_R_perform_232 : decode c_R_perform 232 = .ok (.goto 30, 3) := by decide +kernel
theorem d_R_perform_235 : decode c_R_perform 235 = .ok (.aload_n 0, 1) := by decide +kernel
theorem d_R_perform_236 : decode c_R_perform 236 = .ok (.aload_n 1, 1) := by decide +kernel
theorem d_R_perform_237 : decode c_R_perform 237 = .ok (.getfield 75, 3) := by decide +kernel
theorem d_R_perform_240 : decode c_R_perform 240 = .ok (.iconst (-1), 1) := by decide +kernel
theorem d_R_perform_241 : decode c_R_perform 241 = .ok (.invokevirtual 103, 3) := by decide +kernel
theorem d_R_perform_244 : decode c_R_perform 244 = .ok (.goto 18, 3) := by decide +kernel
theorem d_R_perform_247 : decode c_R_perform 247 = .ok (.aload_n 0, 1) := by decide +kernel
theorem d_R_perform_248 : decode c_R_perform 248 = .ok (.aload_n 1, 1) := by decide +kernel
theorem d_R_perform_249 : decode c_R_perform 249 = .ok (.getfield 75, 3) := by decide +kernel
theorem d_R_perform_252 : decode c_R_perform 252 = .ok (.aload_n 1, 1) := by decide +kernel
theorem d_R_perform_253 : decode c_R_perform 253 = .ok (.getfield 65, 3) := by decide +kernel
theorem d_R_perform_256 : decode c_R_perform 256 = .ok (.invokevirtual 103, 3) := by decide +kernel
theorem d_R_perform_259 : decode c_R_perform 259 = .ok (.goto 3, 3) := by decide +kernel
theorem d_R_perform_262 : decode c_R_perform 262 = .ok (.return_, 1) := by decide +kernel
theorem d_R_indexBehind_0 : decode c_R_indexBehind 0 = .ok (.iconst 0, 1) := by decide +kernel
theorem d_R_indexBehind_1 : decode c_R_indexBehind 1 = .ok (.istore_n 3, 1) := by decide +kernel
theorem d_R_indexBehind_2 : decode c_R_indexBehind 2 = .ok (.iload_n 3, 1) := by decide +kernel
theorem d_R_indexBehind_3 : decode c_R_indexBehind 3 = .ok (.aload_n 2, 1) := by decide +kernel
theorem d_R_indexBehind_4 : decode c_R_indexBehind 4 = .ok (.arraylength, 1) := by decide +kernel
theorem d_R_indexBehind_5 : decode c_R_indexBehind 5 = .ok (.if_icmp .ge 30, 3) := by decide +kernel
theorem d_R_indexBehind_8 : decode c_R_indexBehind 8 = .ok (.aload_n 0, 1) := by decide +kernel
theorem d_R_indexBehind_9 : decode c_R_indexBehind 9 = .ok (.iload_n 1, 1) := by decide +kernel
theorem d_R_indexBehind_10 : decode c_R_indexBehind 10 = .ok (.aload_n 2, 1) := by decide +kernel
theorem d_R_indexBehind_11 : decode c_R_indexBehind 11 = .ok (.iload_n 3, 1) := by decide +kernel
theorem d_R_indexBehind_12 : decode c_R_indexBehind 12 = .ok (.iaload, 1) := by decide +kernel
theorem d_R_indexBehind_13 : decode c_R_indexBehind 13 = .ok (.invokevirtual 117, 3) := by decide +kernel
theorem d_R_indexBehind_16 : decode c_R_indexBehind 16 = .ok (.istore 4, 2) := by decide +kernel
theorem d_R_indexBehind_18 : decode c_R_indexBehind 18 = .ok (.iload 4, 2) := by decide +kernel
theorem d_R_indexBehind_20 : decode c_R_indexBehind 20 = .ok (.iconst (-1), 1) := by decide +kernel
theorem d_R_indexBehind_21 : decode c_R_indexBehind 21 = .ok (.if_icmp .eq 8, 3) := by decide +kernel
theorem d_R_indexBehind_24 : decode c_R_indexBehind 24 = .ok (.iload 4, 2) := by decide +kernel
theorem d_R_indexBehind_26 : decode c_R_indexBehind 26 = .ok (.iconst 1, 1) := by decide +kernel
theorem d_R_indexBehind_27 : decode c_R_indexBehind 27 = .ok (.iadd, 1) := by decide +kernel
theorem d_R_indexBehind_28 : decode c_R_indexBehind 28 = .ok (.ireturn, 1) := by decide +kernel
theorem d_R_indexBehind_29 : decode c_R_indexBehind 29 = .ok (.iinc 3 1, 3) := by decide +kernel
theorem d_R_indexBehind_32 : decode c_R_indexBehind 32 = .ok (.goto (-30), 3) := by decide +kernel
theorem d_R_indexBehind_35 : decode c_R_indexBehind 35 = .ok (.iconst 0, 1) := by decide +kernel
theorem d_R_indexBehind_36 : decode c_R_indexBehind 36 = .ok (.ireturn, 1) := by decide +kernel
theorem d_R_indexIn_0 : decode c_R_indexIn 0 = .ok (.iconst 0, 1) := by decide +kernel
theorem d_R_indexIn_1 : decode c_R_indexIn 1 = .ok (.istore_n 3, 1) := by decide +kernel
theorem d_R_indexIn_2 : decode c_R_indexIn 2 = .ok (.iload_n 3, 1) := by decide +kernel
theorem d_R_indexIn_3 : decode c_R_indexIn 3 = .ok (.aload_n 0, 1) := by decide +kernel
theorem d_R_indexIn_4 : decode c_R_indexIn 4 = .ok (.getfield 24, 3) := by decide +kernel
theorem d_R_indexIn_7 : decode c_R_indexIn 7 = .ok (.iload_n 1, 1) := by decide +kernel
theorem d_R_indexIn_8 : decode c_R_indexIn 8 = .ok (.iaload, 1) := by decide +kernel
theorem d_R_indexIn_9 : decode c_R_indexIn 9 = .ok (.if_icmp .ge 23, 3) := by decide +kernel
theorem d_R_indexIn_12 : decode c_R_indexIn 12 = .ok (.aload_n 0, 1) := by decide +kernel
theorem d_R_indexIn_13 : decode c_R_indexIn 13 = .ok (.getfield 21, 3) := by decide +kernel
theorem d_R_indexIn_16 : decode c_R_indexIn 16 = .ok (.iload_n 1, 1) := by decide +kernel
theorem d_R_indexIn_17 : decode c_R_indexIn 17 = .ok (.aaload, 1) := by decide +kernel
theorem d_R_indexIn_18 : decode c_R_indexIn 18 = .ok (.iload_n 3, 1) := by decide +kernel
theorem d_R_indexIn_19 : decode c_R_indexIn 19 = .ok (.iaload, 1) := by decide +kernel
theorem d_R_indexIn_20 : decode c_R_indexIn 20 = .ok (.iload_n 2, 1) := by decide +kernel
theorem d_R_indexIn_21 : decode c_R_indexIn 21 = .ok (.if_icmp .ne 5, 3) := by decide +kernel
theorem d_R_indexIn_24 : decode c_R_indexIn 24 = .ok (.iload_n 3, 1) := by decide +kernel
theorem d_R_indexIn_25 : decode c_R_indexIn 25 = .ok (.ireturn, 1) := by decide +kernel
theorem d_R_indexIn_26 : decode c_R_indexIn 26 = .ok (.iinc 3 1, 3) := by decide +kernel
theorem d_R_indexIn_29 : decode c_R_indexIn 29 = .ok (.goto (-27), 3) := by decide +kernel
theorem d_R_indexIn_32 : decode c_R_indexIn 32 = .ok (.iconst (-1), 1) := by decide +kernel
theorem d_R_indexIn_33 : decode c_R_indexIn 33 = .ok (.ireturn, 1) := by decide +kernel
theorem d_R_putElement_0 : decode c_R_putElement 0 = .ok (.aload_n 0, 1) := by decide +kernel
theorem d_R_putElement_1 : decode c_R_putElement 1 = .ok (.getfield 21, 3) := by decide +kernel
theorem d_R_putElement_4 : decode c_R_putElement 4 = .ok (.iload_n 1, 1) := by decide +kernel
theorem d_R_putElement_5 : decode c_R_putElement 5 = .ok (.aaload, 1) := by decide +kernel
theorem d_R_putElement_6 : decode c_R_putElement 6 = .ok (.astore 4, 2) := by decide +kernel
theorem d_R_putElement_8 : decode c_R_putElement 8 = .ok (.aload 4, 2) := by decide +kernel
theorem d_R_putElement_10 : decode c_R_putElement 10 = .ok (.iload_n 2, 1) := by decide +kernel
theorem d_R_putElement_11 : decode c_R_putElement 11 = .ok (.aload 4, 2) := by decide +kernel
theorem d_R_putElement_13 : decode c_R_putElement 13 = .ok (.iload_n 2, 1) := by decide +kernel
theorem d_R_putElement_14 : decode c_R_putElement 14 = .ok (.iconst 1, 1) := by decide +kernel
theorem d_R_putElement_15 : decode c_R_putElement 15 = .ok (.iadd, 1) := by decide +kernel
theorem d_R_putElement_16 : decode c_R_putElement 16 = .ok (.aload_n 0, 1) := by decide +kernel
theorem d_R_putElement_17 : decode c_R_putElement 17 = .ok (.getfield 24, 3) := by decide +kernel
theorem d_R_putElement_20 : decode c_R_putElement 20 = .ok (.iload_n 1, 1) := by decide +kernel
theorem d_R_putElement_21 : decode c_R_putElement 21 = .ok (.iaload, 1) := by decide +kernel
theorem d_R_putElement_22 : decode c_R_putElement 22 = .ok (.iload_n 2, 1) := by decide +kernel
theorem d_R_putElement_23 : decode c_R_putElement 23 = .ok (.isub, 1) := by decide +kernel
theorem d_R_putElement_24 : decode c_R_putElement 24 = .ok (.invokestatic 111, 3) := by decide +kernel
theorem d_R_putElement_27 : decode c_R_putElement 27 = .ok (.aload 4, 2) := by decide +kernel
theorem d_R_putElement_29 : decode c_R_putElement 29 = .ok (.iload_n 2, 1) := by decide +kernel
theorem d_R_putElement_30 : decode c_R_putElement 30 = .ok (.iload_n 3, 1) := by decide +kernel
theorem d_R_putElement_31 : decode c_R_putElement 31 = .ok (.iastore, 1) := by decide +kernel
theorem d_R_putElement_32 : decode c_R_putElement 32 = .ok (.aload_n 0, 1) := by decide +kernel
theorem d_R_putElement_33 : decode c_R_putElement 33 = .ok (.getfield 24, 3) := by decide +kernel
theorem d_R_putElement_36 : decode c_R_putElement 36 = .ok (.iload_n 1, 1) := by decide +kernel
theorem d_R_putElement_37 : decode c_R_putElement 37 = .ok (.dup2, 1) := by decide +kernel
theorem d_R_putElement_38 : decode c_R_putElement 38 = .ok (.iaload, 1) := by decide +kernel
theorem d_R_putElement_39 : decode c_R_putElement 39 = .ok (.iconst 1, 1) := by decide +kernel
theorem d_R_putElement_40 : decode c_R_putElement 40 = .ok (.iadd, 1) := by decide +kernel
theorem d_R_putElement_41 : decode c_R_putElement 41 = .ok (.iastore, 1) := by decide +kernel
theorem d_R_putElement_42 : decode c_R_putElement 42 = .ok (.return_, 1) := by decide +kernel
theorem d_R_takeElement_0 : decode c_R_takeElement 0 = .ok (.aload_n 0, 1) := by decide +kernel
theorem d_R_takeElement_1 : decode c_R_takeElement 1 = .ok (.iload_n 1, 1) := by decide +kernel
theorem d_R_takeElement_2 : decode c_R_takeElement 2 = .ok (.iload_n 2, 1) := by decide +kernel
theorem d_R_takeElement_3 : decode c_R_takeElement 3 = .ok (.invokevirtual 117, 3) := by decide +kernel
theorem d_R_takeElement_6 : decode c_R_takeElement 6 = .ok (.istore_n 3, 1) := by decide +kernel
theorem d_R_takeElement_7 : decode c_R_takeElement 7 = .ok (.iload_n 3, 1) := by decide +kernel
theorem d_R_takeElement_8 : decode c_R_takeElement 8 = .ok (.iconst (-1), 1) := by decide +kernel
theorem d_R_takeElement_9 : decode c_R_takeElement 9 = .ok (.if_icmp .ne 5, 3) := by decide +kernel
theorem d_R_takeElement_12 : decode c_R_takeElement 12 = .ok (.iconst 0, 1) := by decide +kernel
theorem d_R_takeElement_13 : decode c_R_takeElement 13 = .ok (.ireturn, 1) := by decide +kernel
theorem d_R_takeElement_14 : decode c_R_takeElement 14 = .ok (.aload_n 0, 1) := by decide +kernel
theorem d_R_takeElement_15 : decode c_R_takeElement 15 = .ok (.getfield 21, 3) := by decide +kernel
theorem d_R_takeElement_18 : decode c_R_takeElement 18 = .ok (.iload_n 1, 1) := by decide +kernel
theorem d_R_takeElement_19 : decode c_R_takeElement 19 = .ok (.aaload, 1) := by decide +kernel
theorem d_R_takeElement_20 : decode c_R_takeElement 20 = .ok (.astore 4, 2) := by decide +kernel
theorem d_R_takeElement_22 : decode c_R_takeElement 22 = .ok (.aload_n 0, 1) := by decide +kernel
theorem d_R_takeElement_23 : decode c_R_takeElement 23 = .ok (.getfield 24, 3) := by decide +kernel
theorem d_R_takeElement_26 : decode c_R_takeElement 26 = .ok (.iload_n 1, 1) := by decide +kernel
theorem d_R_takeElement_27 : decode c_R_takeElement 27 = .ok (.dup2, 1) := by decide +kernel
theorem d_R_takeElement_28 : decode c_R_takeElement 28 = .ok (.iaload, 1) := by decide +kernel
theorem d_R_takeElement_29 : decode c_R_takeElement 29 = .ok (.iconst 1, 1) := by decide +kernel
theorem d_R_takeElement_30 : decode c_R_takeElement 30 = .ok (.isub, 1) := by decide +kernel
theorem d_R_takeElement_31 : decode c_R_takeElement 31 = .ok (.iastore, 1) := by decide +kernel
theorem d_R_takeElement_32 : decode c_R_takeElement 32 = .ok (.aload 4, 2) := by decide +kernel
theorem d_R_takeElement_34 : decode c_R_takeElement 34 = .ok (.iload_n 3, 1) := by decide +kernel
theorem d_R_takeElement_35 : decode c_R_takeElement 35 = .ok (.iconst 1, 1) := by decide +kernel
theorem d_R_takeElement_36 : decode c_R_takeElement 36 = .ok (.iadd, 1) := by decide +kernel
theorem d_R_takeElement_37 : decode c_R_takeElement 37 = .ok (.aload 4, 2) := by decide +kernel
theorem d_R_takeElement_39 : decode c_R_takeElement 39 = .ok (.iload_n 3, 1) := by decide +kernel
theorem d_R_takeElement_40 : decode c_R_takeElement 40 = .ok (.aload_n 0, 1) := by decide +kernel
theorem d_R_takeElement_41 : decode c_R_takeElement 41 = .ok (.getfield 24, 3) := by decide +kernel
theorem d_R_takeElement_44 : decode c_R_takeElement 44 = .ok (.iload_n 1, 1) := by decide +kernel
theorem d_R_takeElement_45 : decode c_R_takeElement 45 = .ok (.iaload, 1) := by decide +kernel
theorem d_R_takeElement_46 : decode c_R_takeElement 46 = .ok (.iload_n 3, 1) := by decide +kernel
theorem d_R_takeElement_47 : decode c_R_takeElement 47 = .ok (.isub, 1) := by decide +kernel
theorem d_R_takeElement_48 : decode c_R_takeElement 48 = .ok (.invokestatic 111, 3) := by decide +kernel
theorem d_R_takeElement_51 : decode c_R_takeElement 51 = .ok (.iconst 1, 1) := by decide +kernel
theorem d_R_takeElement_52 : decode c_R_takeElement 52 = .ok (.ireturn, 1) := by decide +kernel
theorem d_R_hang_0 : decode c_R_hang 0 = .ok (.aload_n 0, 1) := by decide +kernel
theorem d_R_hang_1 : decode c_R_hang 1 = .ok (.getfield 30, 3) := by decide +kernel
theorem d_R_hang_4 : decode c_R_hang 4 = .ok (.aload_n 0, 1) := by decide +kernel
theorem d_R_hang_5 : decode c_R_hang 5 = .ok (.getfield 49, 3) := by decide +kernel
theorem d_R_hang_8 : decode c_R_hang 8 = .ok (.iload_n 1, 1) := by decide +kernel
theorem d_R_hang_9 : decode c_R_hang 9 = .ok (.invokestatic 107, 3) := by decide +kernel
theorem d_R_hang_12 : decode c_R_hang 12 = .ok (.istore_n 3, 1) := by decide +kernel
theorem d_R_hang_13 : decode c_R_hang 13 = .ok (.iload_n 3, 1) := by decide +kernel
theorem d_R_hang_14 : decode c_R_hang 14 = .ok (.iconst (-1), 1) := by decide +kernel
theorem d_R_hang_15 : decode c_R_hang 15 = .ok (.if_icmp .eq 10, 3) := by decide +kernel
theorem d_R_hang_18 : decode c_R_hang 18 = .ok (.aload_n 0, 1) := by decide +kernel
theorem d_R_hang_19 : decode c_R_hang 19 = .ok (.getfield 33, 3) := by decide +kernel
theorem d_R_hang_22 : decode c_R_hang 22 = .ok (.iload_n 3, 1) := by decide +kernel
theorem d_R_hang_23 : decode c_R_hang 23 = .ok (.iload_n 2, 1) := by decide +kernel
theorem d_R_hang_24 : decode c_R_hang 24 = .ok (.iastore, 1) := by decide +kernel
theorem d_R_hang_25 : decode c_R_hang 25 = .ok (.return_, 1) := by decide +kernel
theorem d_R_placeBefore_0 : decode c_R_placeBefore 0 = .ok (.iload_n 2, 1) := by decide +kernel
theorem d_R_placeBefore_1 : decode c_R_placeBefore 1 = .ok (.newarray .int, 2) := by decide +kernel
theorem d_R_placeBefore_3 : decode c_R_placeBefore 3 = .ok (.astore 4, 2) := by decide +kernel
theorem d_R_placeBefore_5 : decode c_R_placeBefore 5 = .ok (.iload_n 2, 1) := by decide +kernel
theorem d_R_placeBefore_6 : decode c_R_placeBefore 6 = .ok (.istore 5, 2) := by decide +kernel
theorem d_R_placeBefore_8 : decode c_R_placeBefore 8 = .ok (.iconst 0, 1) := by decide +kernel
theorem d_R_placeBefore_9 : decode c_R_placeBefore 9 = .ok (.istore 6, 2) := by decide +kernel
theorem d_R_placeBefore_11 : decode c_R_placeBefore 11 = .ok (.iload 6, 2) := by decide +kernel
theorem d_R_placeBefore_13 : decode c_R_placeBefore 13 = .ok (.aload_n 0, 1) := by decide +kernel
theorem d_R_placeBefore_14 : decode c_R_placeBefore 14 = .ok (.getfield 24, 3) := by decide +kernel
theorem d_R_placeBefore_17 : decode c_R_placeBefore 17 = .ok (.iload_n 1, 1) := by decide +kernel
theorem d_R_placeBefore_18 : decode c_R_placeBefore 18 = .ok (.iaload, 1) := by decide +kernel
theorem d_R_placeBefore_19 : decode c_R_placeBefore 19 = .ok (.if_icmp .ge 44, 3) := by decide +kernel
theorem d_R_placeBefore_22 : decode c_R_placeBefore 22 = .ok (.iload 5, 2) := by decide +kernel
theorem d_R_placeBefore_24 : decode c_R_placeBefore 24 = .ok (.ifCond .le 39, 3) := by decide +kernel
theorem d_R_placeBefore_27 : decode c_R_placeBefore 27 = .ok (.aload_n 0, 1) := by decide +kernel
theorem d_R_placeBefore_28 : decode c_R_placeBefore 28 = .ok (.getfield 21, 3) := by decide +kernel
theorem d_R_placeBefore_31 : decode c_R_placeBefore 31 = .ok (.iload_n 1, 1) := by decide +kernel
theorem d_R_placeBefore_32 : decode c_R_placeBefore 32 = .ok (.aaload, 1) := by decide +kernel
theorem d_R_placeBefore_33 : decode c_R_placeBefore 33 = .ok (.iload 6, 2) := by decide +kernel
theorem d_R_placeBefore_35 : decode c_R_placeBefore 35 = .ok (.iaload, 1) := by decide +kernel
theorem d_R_placeBefore_36 : decode c_R_placeBefore 36 = .ok (.iload_n 3, 1) := by decide +kernel
theorem d_R_placeBefore_37 : decode c_R_placeBefore 37 = .ok (.if_icmp .eq 20, 3) := by decide +kernel
theorem d_R_placeBefore_40 : decode c_R_placeBefore 40 = .ok (.iinc 5 (-1), 3) := by decide +kernel
theorem d_R_placeBefore_43 : decode c_R_placeBefore 43 = .ok (.aload 4, 2) := by decide +kernel
theorem d_R_placeBefore_45 : decode c_R_placeBefore 45 = .ok (.iload 5, 2) := by decide +kernel
theorem d_R_placeBefore_47 : decode c_R_placeBefore 47 = .ok (.aload_n 0, 1) := by decide +kernel
theorem d_R_placeBefore_48 : decode c_R_placeBefore 48 = .ok (.getfield 21, 3) := by decide +kernel
theorem d_R_placeBefore_51 : decode c_R_placeBefore 51 = .ok (.iload_n 1, 1) := by decide +kernel
theorem d_R_placeBefore_52 : decode c_R_placeBefore 52 = .ok (.aaload, 1) := by decide +kernel
theorem d_R_placeBefore_53 : decode c_R_placeBefore 53 = .ok (.iload 6, 2) := by decide +kernel
theorem d_R_placeBefore_55 : decode c_R_placeBefore 55 = .ok (.iaload, 1) := by decide +kernel
theorem d_R_placeBefore_56 : decode c_R_placeBefore 56 = .ok (.iastore, 1) := by decide +kernel
theorem d_R_placeBefore_57 : decode c_R_placeBefore 57 = .ok (.iinc 6 1, 3) := by decide +kernel
theorem d_R_placeBefore_60 : decode c_R_placeBefore 60 = .ok (.goto (-49), 3) := by decide +kernel
theorem d_R_placeBefore_63 : decode c_R_placeBefore 63 = .ok (.aload 4, 2) := by decide +kernel
theorem d_R_placeBefore_65 : decode c_R_placeBefore 65 = .ok (.areturn, 1) := by decide +kernel
theorem d_R_begin_0 : decode c_R_begin 0 = .ok (.aload_n 0, 1) := by decide +kernel
theorem d_R_begin_1 : decode c_R_begin 1 = .ok (.getfield 9, 3) := by decide +kernel
theorem d_R_begin_4 : decode c_R_begin 4 = .ok (.iconst 0, 1) := by decide +kernel
theorem d_R_begin_5 : decode c_R_begin 5 = .ok (.invokestatic 36, 3) := by decide +kernel
theorem d_R_begin_8 : decode c_R_begin 8 = .ok (.aload_n 0, 1) := by decide +kernel
theorem d_R_begin_9 : decode c_R_begin 9 = .ok (.getfield 15, 3) := by decide +kernel
theorem d_R_begin_12 : decode c_R_begin 12 = .ok (.lconst 0, 1) := by decide +kernel
theorem d_R_begin_13 : decode c_R_begin 13 = .ok (.invokestatic 42, 3) := by decide +kernel
theorem d_R_begin_16 : decode c_R_begin 16 = .ok (.aload_n 0, 1) := by decide +kernel
theorem d_R_begin_17 : decode c_R_begin 17 = .ok (.getfield 24, 3) := by decide +kernel
theorem d_R_begin_20 : decode c_R_begin 20 = .ok (.iconst 0, 1) := by decide +kernel
theorem d_R_begin_21 : decode c_R_begin 21 = .ok (.invokestatic 36, 3) := by decide +kernel
theorem d_R_begin_24 : decode c_R_begin 24 = .ok (.aload_n 0, 1) := by decide +kernel
theorem d_R_begin_25 : decode c_R_begin 25 = .ok (.iconst 0, 1) := by decide +kernel
theorem d_R_begin_26 : decode c_R_begin 26 = .ok (.putfield 45, 3) := by decide +kernel
theorem d_R_begin_29 : decode c_R_begin 29 = .ok (.aload_n 0, 1) := by decide +kernel
theorem d_R_begin_30 : decode c_R_begin 30 = .ok (.iconst 0, 1) := by decide +kernel
theorem d_R_begin_31 : decode c_R_begin 31 = .ok (.putfield 49, 3) := by decide +kernel
theorem d_R_begin_34 : decode c_R_begin 34 = .ok (.return_, 1) := by decide +kernel
theorem d_J_fillI_0 : decode c_J_fillI 0 = .ok (.iconst 0, 1) := by decide +kernel
theorem d_J_fillI_1 : decode c_J_fillI 1 = .ok (.istore_n 2, 1) := by decide +kernel
theorem d_J_fillI_2 : decode c_J_fillI 2 = .ok (.aload_n 0, 1) := by decide +kernel
theorem d_J_fillI_3 : decode c_J_fillI 3 = .ok (.arraylength, 1) := by decide +kernel
theorem d_J_fillI_4 : decode c_J_fillI 4 = .ok (.istore_n 3, 1) := by decide +kernel
theorem d_J_fillI_5 : decode c_J_fillI 5 = .ok (.iload_n 2, 1) := by decide +kernel
theorem d_J_fillI_6 : decode c_J_fillI 6 = .ok (.iload_n 3, 1) := by decide +kernel
theorem d_J_fillI_7 : decode c_J_fillI 7 = .ok (.if_icmp .ge 13, 3) := by decide +kernel
theorem d_J_fillI_10 : decode c_J_fillI 10 = .ok (.aload_n 0, 1) := by decide +kernel
theorem d_J_fillI_11 : decode c_J_fillI 11 = .ok (.iload_n 2, 1) := by decide +kernel
theorem d_J_fillI_12 : decode c_J_fillI 12 = .ok (.iload_n 1, 1) := by decide +kernel
theorem d_J_fillI_13 : decode c_J_fillI 13 = .ok (.iastore, 1) := by decide +kernel
theorem d_J_fillI_14 : decode c_J_fillI 14 = .ok (.iinc 2 1, 3) := by decide +kernel
theorem d_J_fillI_17 : decode c_J_fillI 17 = .ok (.goto (-12), 3) := by decide +kernel
theorem d_J_fillI_20 : decode c_J_fillI 20 = .ok (.return_, 1) := by decide +kernel
theorem d_J_fillJ_0 : decode c_J_fillJ 0 = .ok (.iconst 0, 1) := by decide +kernel
theorem d_J_fillJ_1 : decode c_J_fillJ 1 = .ok (.istore_n 3, 1) := by decide +kernel
theorem d_J_fillJ_2 : decode c_J_fillJ 2 = .ok (.aload_n 0, 1) := by decide +kernel
theorem d_J_fillJ_3 : decode c_J_fillJ 3 = .ok (.arraylength, 1) := by decide +kernel
theorem d_J_fillJ_4 : decode c_J_fillJ 4 = .ok (.istore 4, 2) := by decide +kernel
theorem d_J_fillJ_6 : decode c_J_fillJ 6 = .ok (.iload_n 3, 1) := by decide +kernel
theorem d_J_fillJ_7 : decode c_J_fillJ 7 = .ok (.iload 4, 2) := by decide +kernel
theorem d_J_fillJ_9 : decode c_J_fillJ 9 = .ok (.if_icmp .ge 13, 3) := by decide +kernel
theorem d_J_fillJ_12 : decode c_J_fillJ 12 = .ok (.aload_n 0, 1) := by decide +kernel
theorem d_J_fillJ_13 : decode c_J_fillJ 13 = .ok (.iload_n 3, 1) := by decide +kernel
theorem d_J_fillJ_14 : decode c_J_fillJ 14 = .ok (.lload_n 1, 1) := by decide +kernel
theorem d_J_fillJ_15 : decode c_J_fillJ 15 = .ok (.lastore, 1) := by decide +kernel
theorem d_J_fillJ_16 : decode c_J_fillJ 16 = .ok (.iinc 3 1, 3) := by decide +kernel
theorem d_J_fillJ_19 : decode c_J_fillJ 19 = .ok (.goto (-13), 3) := by decide +kernel
theorem d_J_fillJ_22 : decode c_J_fillJ 22 = .ok (.return_, 1) := by decide +kernel
theorem d_R_parentOf_0 : decode c_R_parentOf 0 = .ok (.aload_n 0, 1) := by decide +kernel
theorem d_R_parentOf_1 : decode c_R_parentOf 1 = .ok (.getfield 30, 3) := by decide +kernel
theorem d_R_parentOf_4 : decode c_R_parentOf 4 = .ok (.aload_n 0, 1) := by decide +kernel
theorem d_R_parentOf_5 : decode c_R_parentOf 5 = .ok (.getfield 49, 3) := by decide +kernel
theorem d_R_parentOf_8 : decode c_R_parentOf 8 = .ok (.iload_n 1, 1) := by decide +kernel
theorem d_R_parentOf_9 : decode c_R_parentOf 9 = .ok (.invokestatic 107, 3) := by decide +kernel
theorem d_R_parentOf_12 : decode c_R_parentOf 12 = .ok (.istore_n 2, 1) := by decide +kernel
theorem d_R_parentOf_13 : decode c_R_parentOf 13 = .ok (.iload_n 2, 1) := by decide +kernel
theorem d_R_parentOf_14 : decode c_R_parentOf 14 = .ok (.iconst (-1), 1) := by decide +kernel
theorem d_R_parentOf_15 : decode c_R_parentOf 15 = .ok (.if_icmp .ne 7, 3) := by decide +kernel
theorem d_R_parentOf_18 : decode c_R_parentOf 18 = .ok (.iconst (-1), 1) := by decide +kernel
theorem d_R_parentOf_19 : decode c_R_parentOf 19 = .ok (.goto 9, 3) := by decide +kernel
theorem d_R_parentOf_22 : decode c_R_parentOf 22 = .ok (.aload_n 0, 1) := by decide +kernel
theorem d_R_parentOf_23 : decode c_R_parentOf 23 = .ok (.getfield 33, 3) := by decide +kernel
theorem d_R_parentOf_26 : decode c_R_parentOf 26 = .ok (.iload_n 2, 1) := by decide +kernel
theorem d_R_parentOf_27 : decode c_R_parentOf 27 = .ok (.iaload, 1) := by decide +kernel
theorem d_R_parentOf_28 : decode c_R_parentOf 28 = .ok (.ireturn, 1) := by decide +kernel
