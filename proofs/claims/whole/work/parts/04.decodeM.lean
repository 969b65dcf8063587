/-! Decode rows (names.py). -/
theorem d_M_init_0 : decode c_M_init 0 = .ok (.aload_n 0, 1) := by decide +kernel
theorem d_M_init_1 : decode c_M_init 1 = .ok (.invokespecial 1, 3) := by decide +kernel
theorem d_M_init_4 : decode c_M_init 4 = .ok (.aload_n 0, 1) := by decide +kernel
theorem d_M_init_5 : decode c_M_init 5 = .ok (.sipush 200, 3) := by decide +kernel
theorem d_M_init_8 : decode c_M_init 8 = .ok (.newarray .int, 2) := by decide +kernel
theorem d_M_init_10 : decode c_M_init 10 = .ok (.putfield 7, 3) := by decide +kernel
theorem d_M_init_13 : decode c_M_init 13 = .ok (.aload_n 0, 1) := by decide +kernel
theorem d_M_init_14 : decode c_M_init 14 = .ok (.sipush 200, 3) := by decide +kernel
theorem d_M_init_17 : decode c_M_init 17 = .ok (.newarray .int, 2) := by decide +kernel
theorem d_M_init_19 : decode c_M_init 19 = .ok (.putfield 13, 3) := by decide +kernel
theorem d_M_init_22 : decode c_M_init 22 = .ok (.aload_n 0, 1) := by decide +kernel
theorem d_M_init_23 : decode c_M_init 23 = .ok (.sipush 200, 3) := by decide +kernel
theorem d_M_init_26 : decode c_M_init 26 = .ok (.newarray .int, 2) := by decide +kernel
theorem d_M_init_28 : decode c_M_init 28 = .ok (.putfield 16, 3) := by decide +kernel
theorem d_M_init_31 : decode c_M_init 31 = .ok (.aload_n 0, 1) := by decide +kernel
theorem d_M_init_32 : decode c_M_init 32 = .ok (.sipush 200, 3) := by decide +kernel
theorem d_M_init_35 : decode c_M_init 35 = .ok (.newarray .int, 2) := by decide +kernel
theorem d_M_init_37 : decode c_M_init 37 = .ok (.putfield 19, 3) := by decide +kernel
theorem d_M_init_40 : decode c_M_init 40 = .ok (.aload_n 0, 1) := by decide +kernel
theorem d_M_init_41 : decode c_M_init 41 = .ok (.sipush 200, 3) := by decide +kernel
theorem d_M_init_44 : decode c_M_init 44 = .ok (.newarray .long, 2) := by decide +kernel
theorem d_M_init_46 : decode c_M_init 46 = .ok (.putfield 22, 3) := by decide +kernel
theorem d_M_init_49 : decode c_M_init 49 = .ok (.aload_n 0, 1) := by decide +kernel
theorem d_M_init_50 : decode c_M_init 50 = .ok (.sipush 200, 3) := by decide +kernel
theorem d_M_init_53 : decode c_M_init 53 = .ok (.newarray .boolean, 2) := by decide +kernel
theorem d_M_init_55 : decode c_M_init 55 = .ok (.putfield 26, 3) := by decide +kernel
theorem d_M_init_58 : decode c_M_init 58 = .ok (.aload_n 0, 1) := by decide +kernel
theorem d_M_init_59 : decode c_M_init 59 = .ok (.sipush 8000, 3) := by decide +kernel
theorem d_M_init_62 : decode c_M_init 62 = .ok (.newarray .int, 2) := by decide +kernel
theorem d_M_init_64 : decode c_M_init 64 = .ok (.putfield 30, 3) := by decide +kernel
theorem d_M_init_67 : decode c_M_init 67 = .ok (.aload_n 0, 1) := by decide +kernel
theorem d_M_init_68 : decode c_M_init 68 = .ok (.sipush 200, 3) := by decide +kernel
theorem d_M_init_71 : decode c_M_init 71 = .ok (.newarray .int, 2) := by decide +kernel
theorem d_M_init_73 : decode c_M_init 73 = .ok (.putfield 33, 3) := by decide +kernel
theorem d_M_init_76 : decode c_M_init 76 = .ok (.aload_n 0, 1) := by decide +kernel
theorem d_M_init_77 : decode c_M_init 77 = .ok (.sipush 200, 3) := by decide +kernel
theorem d_M_init_80 : decode c_M_init 80 = .ok (.newarray .int, 2) := by decide +kernel
theorem d_M_init_82 : decode c_M_init 82 = .ok (.putfield 36, 3) := by decide +kernel
theorem d_M_init_85 : decode c_M_init 85 = .ok (.aload_n 0, 1) := by decide +kernel
theorem d_M_init_86 : decode c_M_init 86 = .ok (.iconst 1, 1) := by decide +kernel
theorem d_M_init_87 : decode c_M_init 87 = .ok (.putfield 39, 3) := by decide +kernel
theorem d_M_init_90 : decode c_M_init 90 = .ok (.aload_n 0, 1) := by decide +kernel
theorem d_M_init_91 : decode c_M_init 91 = .ok (.iconst (-1), 1) := by decide +kernel
theorem d_M_init_92 : decode c_M_init 92 = .ok (.putfield 43, 3) := by decide +kernel
theorem d_M_init_95 : decode c_M_init 95 = .ok (.aload_n 0, 1) := by decide +kernel
theorem d_M_init_96 : decode c_M_init 96 = .ok (.bipush 8, 2) := by decide +kernel
theorem d_M_init_98 : decode c_M_init 98 = .ok (.newarray .int, 2) := by decide +kernel
theorem d_M_init_100 : decode c_M_init 100 = .ok (.putfield 47, 3) := by decide +kernel
theorem d_M_init_103 : decode c_M_init 103 = .ok (.aload_n 0, 1) := by decide +kernel
theorem d_M_init_104 : decode c_M_init 104 = .ok (.iconst 4, 1) := by decide +kernel
theorem d_M_init_105 : decode c_M_init 105 = .ok (.newarray .long, 2) := by decide +kernel
theorem d_M_init_107 : decode c_M_init 107 = .ok (.putfield 50, 3) := by decide +kernel
theorem d_M_init_110 : decode c_M_init 110 = .ok (.aload_n 0, 1) := by decide +kernel
theorem d_M_init_111 : decode c_M_init 111 = .ok (.bipush 120, 2) := by decide +kernel
theorem d_M_init_113 : decode c_M_init 113 = .ok (.newarray .int, 2) := by decide +kernel
theorem d_M_init_115 : decode c_M_init 115 = .ok (.putfield 53, 3) := by decide +kernel
theorem d_M_init_118 : decode c_M_init 118 = .ok (.aload_n 0, 1) := by decide +kernel
theorem d_M_init_119 : decode c_M_init 119 = .ok (.iconst 3, 1) := by decide +kernel
theorem d_M_init_120 : decode c_M_init 120 = .ok (.newarray .int, 2) := by decide +kernel
theorem d_M_init_122 : decode c_M_init 122 = .ok (.putfield 56, 3) := by decide +kernel
theorem d_M_init_125 : decode c_M_init 125 = .ok (.aload_n 0, 1) := by decide +kernel
theorem d_M_init_126 : decode c_M_init 126 = .ok (.sipush 200, 3) := by decide +kernel
theorem d_M_init_129 : decode c_M_init 129 = .ok (.newarray .boolean, 2) := by decide +kernel
theorem d_M_init_131 : decode c_M_init 131 = .ok (.putfield 59, 3) := by decide +kernel
theorem d_M_init_134 : decode c_M_init 134 = .ok (.aload_n 0, 1) := by decide +kernel
theorem d_M_init_135 : decode c_M_init 135 = .ok (.sipush 200, 3) := by decide +kernel
theorem d_M_init_138 : decode c_M_init 138 = .ok (.newarray .int, 2) := by decide +kernel
theorem d_M_init_140 : decode c_M_init 140 = .ok (.putfield 62, 3) := by decide +kernel
theorem d_M_init_143 : decode c_M_init 143 = .ok (.return_, 1) := by decide +kernel
theorem d_M_set_0 : decode c_M_set 0 = .ok (.iload_n 1, 1) := by decide +kernel
theorem d_M_set_1 : decode c_M_set 1 = .ok (.ifCond .lt 16, 3) := by decide +kernel
theorem d_M_set_4 : decode c_M_set 4 = .ok (.iload_n 1, 1) := by decide +kernel
theorem d_M_set_5 : decode c_M_set 5 = .ok (.bipush 7, 2) := by decide +kernel
theorem d_M_set_7 : decode c_M_set 7 = .ok (.if_icmp .gt 10, 3) := by decide +kernel
theorem d_M_set_10 : decode c_M_set 10 = .ok (.aload_n 0, 1) := by decide +kernel
theorem d_M_set_11 : decode c_M_set 11 = .ok (.invokevirtual 109, 3) := by decide +kernel
theorem d_M_set_14 : decode c_M_set 14 = .ok (.ifCond .eq 5, 3) := by decide +kernel
theorem d_M_set_17 : decode c_M_set 17 = .ok (.iconst 0, 1) := by decide +kernel
theorem d_M_set_18 : decode c_M_set 18 = .ok (.ireturn, 1) := by decide +kernel
theorem d_M_set_19 : decode c_M_set 19 = .ok (.aload_n 0, 1) := by decide +kernel
theorem d_M_set_20 : decode c_M_set 20 = .ok (.iconst 1, 1) := by decide +kernel
theorem d_M_set_21 : decode c_M_set 21 = .ok (.iload_n 1, 1) := by decide +kernel
theorem d_M_set_22 : decode c_M_set 22 = .ok (.iconst 0, 1) := by decide +kernel
theorem d_M_set_23 : decode c_M_set 23 = .ok (.iload_n 2, 1) := by decide +kernel
theorem d_M_set_24 : decode c_M_set 24 = .ok (.i2l, 1) := by decide +kernel
theorem d_M_set_25 : decode c_M_set 25 = .ok (.invokevirtual 113, 3) := by decide +kernel
theorem d_M_set_28 : decode c_M_set 28 = .ok (.ireturn, 1) := by decide +kernel
theorem d_M_isFull_0 : decode c_M_isFull 0 = .ok (.aload_n 0, 1) := by decide +kernel
theorem d_M_isFull_1 : decode c_M_isFull 1 = .ok (.getfield 65, 3) := by decide +kernel
theorem d_M_isFull_4 : decode c_M_isFull 4 = .ok (.sipush 200, 3) := by decide +kernel
theorem d_M_isFull_7 : decode c_M_isFull 7 = .ok (.if_icmp .ne 7, 3) := by decide +kernel
theorem d_M_isFull_10 : decode c_M_isFull 10 = .ok (.iconst 1, 1) := by decide +kernel
theorem d_M_isFull_11 : decode c_M_isFull 11 = .ok (.goto 4, 3) := by decide +kernel
theorem d_M_isFull_14 : decode c_M_isFull 14 = .ok (.iconst 0, 1) := by decide +kernel
theorem d_M_isFull_15 : decode c_M_isFull 15 = .ok (.ireturn, 1) := by decide +kernel
theorem d_M_put_0 : decode c_M_put 0 = .ok (.aload_n 0, 1) := by decide +kernel
theorem d_M_put_1 : decode c_M_put 1 = .ok (.dup, 1) := by decide +kernel
theorem d_M_put_2 : decode c_M_put 2 = .ok (.getfield 68, 3) := by decide +kernel
theorem d_M_put_5 : decode c_M_put 5 = .ok (.iconst 1, 1) := by decide +kernel
theorem d_M_put_6 : decode c_M_put 6 = .ok (.iadd, 1) := by decide +kernel
theorem d_M_put_7 : decode c_M_put 7 = .ok (.putfield 68, 3) := by decide +kernel
theorem d_M_put_10 : decode c_M_put 10 = .ok (.aload_n 0, 1) := by decide +kernel
theorem d_M_put_11 : decode c_M_put 11 = .ok (.getfield 7, 3) := by decide +kernel
theorem d_M_put_14 : decode c_M_put 14 = .ok (.aload_n 0, 1) := by decide +kernel
theorem d_M_put_15 : decode c_M_put 15 = .ok (.getfield 65, 3) := by decide +kernel
theorem d_M_put_18 : decode c_M_put 18 = .ok (.aload_n 0, 1) := by decide +kernel
theorem d_M_put_19 : decode c_M_put 19 = .ok (.getfield 68, 3) := by decide +kernel
theorem d_M_put_22 : decode c_M_put 22 = .ok (.iastore, 1) := by decide +kernel
theorem d_M_put_23 : decode c_M_put 23 = .ok (.aload_n 0, 1) := by decide +kernel
theorem d_M_put_24 : decode c_M_put 24 = .ok (.getfield 13, 3) := by decide +kernel
theorem d_M_put_27 : decode c_M_put 27 = .ok (.aload_n 0, 1) := by decide +kernel
theorem d_M_put_28 : decode c_M_put 28 = .ok (.getfield 65, 3) := by decide +kernel
theorem d_M_put_31 : decode c_M_put 31 = .ok (.iload_n 1, 1) := by decide +kernel
theorem d_M_put_32 : decode c_M_put 32 = .ok (.iastore, 1) := by decide +kernel
theorem d_M_put_33 : decode c_M_put 33 = .ok (.aload_n 0, 1) := by decide +kernel
theorem d_M_put_34 : decode c_M_put 34 = .ok (.getfield 16, 3) := by decide +kernel
theorem d_M_put_37 : decode c_M_put 37 = .ok (.aload_n 0, 1) := by decide +kernel
theorem d_M_put_38 : decode c_M_put 38 = .ok (.getfield 65, 3) := by decide +kernel
theorem d_M_put_41 : decode c_M_put 41 = .ok (.iload_n 2, 1) := by decide +kernel
theorem d_M_put_42 : decode c_M_put 42 = .ok (.iastore, 1) := by decide +kernel
theorem d_M_put_43 : decode c_M_put 43 = .ok (.aload_n 0, 1) := by decide +kernel
theorem d_M_put_44 : decode c_M_put 44 = .ok (.getfield 19, 3) := by decide +kernel
theorem d_M_put_47 : decode c_M_put 47 = .ok (.aload_n 0, 1) := by decide +kernel
theorem d_M_put_48 : decode c_M_put 48 = .ok (.getfield 65, 3) := by decide +kernel
theorem d_M_put_51 : decode c_M_put 51 = .ok (.iload_n 3, 1) := by decide +kernel
theorem d_M_put_52 : decode c_M_put 52 = .ok (.iastore, 1) := by decide +kernel
theorem d_M_put_53 : decode c_M_put 53 = .ok (.aload_n 0, 1) := by decide +kernel
theorem d_M_put_54 : decode c_M_put 54 = .ok (.getfield 22, 3) := by decide +kernel
theorem d_M_put_57 : decode c_M_put 57 = .ok (.aload_n 0, 1) := by decide +kernel
theorem d_M_put_58 : decode c_M_put 58 = .ok (.getfield 65, 3) := by decide +kernel
theorem d_M_put_61 : decode c_M_put 61 = .ok (.lload 4, 2) := by decide +kernel
theorem d_M_put_63 : decode c_M_put 63 = .ok (.lastore, 1) := by decide +kernel
theorem d_M_put_64 : decode c_M_put 64 = .ok (.aload_n 0, 1) := by decide +kernel
theorem d_M_put_65 : decode c_M_put 65 = .ok (.getfield 26, 3) := by decide +kernel
theorem d_M_put_68 : decode c_M_put 68 = .ok (.aload_n 0, 1) := by decide +kernel
theorem d_M_put_69 : decode c_M_put 69 = .ok (.getfield 65, 3) := by decide +kernel
theorem d_M_put_72 : decode c_M_put 72 = .ok (.iconst 1, 1) := by decide +kernel
theorem d_M_put_73 : decode c_M_put 73 = .ok (.bastore, 1) := by decide +kernel
theorem d_M_put_74 : decode c_M_put 74 = .ok (.aload_n 0, 1) := by decide +kernel
theorem d_M_put_75 : decode c_M_put 75 = .ok (.dup, 1) := by decide +kernel
theorem d_M_put_76 : decode c_M_put 76 = .ok (.getfield 65, 3) := by decide +kernel
theorem d_M_put_79 : decode c_M_put 79 = .ok (.iconst 1, 1) := by decide +kernel
theorem d_M_put_80 : decode c_M_put 80 = .ok (.iadd, 1) := by decide +kernel
theorem d_M_put_81 : decode c_M_put 81 = .ok (.putfield 65, 3) := by decide +kernel
theorem d_M_put_84 : decode c_M_put 84 = .ok (.aload_n 0, 1) := by decide +kernel
theorem d_M_put_85 : decode c_M_put 85 = .ok (.iconst 0, 1) := by decide +kernel
theorem d_M_put_86 : decode c_M_put 86 = .ok (.putfield 39, 3) := by decide +kernel
theorem d_M_put_89 : decode c_M_put 89 = .ok (.aload_n 0, 1) := by decide +kernel
theorem d_M_put_90 : decode c_M_put 90 = .ok (.getfield 68, 3) := by decide +kernel
theorem d_M_put_93 : decode c_M_put 93 = .ok (.ireturn, 1) := by decide +kernel
theorem d_M_add_0 : decode c_M_add 0 = .ok (.iload_n 1, 1) := by decide +kernel
theorem d_M_add_1 : decode c_M_add 1 = .ok (.ifCond .lt 15, 3) := by decide +kernel
theorem d_M_add_4 : decode c_M_add 4 = .ok (.iload_n 1, 1) := by decide +kernel
theorem d_M_add_5 : decode c_M_add 5 = .ok (.iconst 3, 1) := by decide +kernel
theorem d_M_add_6 : decode c_M_add 6 = .ok (.if_icmp .gt 10, 3) := by decide +kernel
theorem d_M_add_9 : decode c_M_add 9 = .ok (.aload_n 0, 1) := by decide +kernel
theorem d_M_add_10 : decode c_M_add 10 = .ok (.invokevirtual 109, 3) := by decide +kernel
theorem d_M_add_13 : decode c_M_add 13 = .ok (.ifCond .eq 5, 3) := by decide +kernel
theorem d_M_add_16 : decode c_M_add 16 = .ok (.iconst 0, 1) := by decide +kernel
theorem d_M_add_17 : decode c_M_add 17 = .ok (.ireturn, 1) := by decide +kernel
theorem d_M_add_18 : decode c_M_add 18 = .ok (.aload_n 0, 1) := by decide +kernel
theorem d_M_add_19 : decode c_M_add 19 = .ok (.iconst 2, 1) := by decide +kernel
theorem d_M_add_20 : decode c_M_add 20 = .ok (.iload_n 1, 1) := by decide +kernel
theorem d_M_add_21 : decode c_M_add 21 = .ok (.iconst 0, 1) := by decide +kernel
theorem d_M_add_22 : decode c_M_add 22 = .ok (.lload_n 2, 1) := by decide +kernel
theorem d_M_add_23 : decode c_M_add 23 = .ok (.invokevirtual 113, 3) := by decide +kernel
theorem d_M_add_26 : decode c_M_add 26 = .ok (.ireturn, 1) := by decide +kernel
theorem d_M_insert_0 : decode c_M_insert 0 = .ok (.aload_n 0, 1) := by decide +kernel
theorem d_M_insert_1 : decode c_M_insert 1 = .ok (.invokevirtual 117, 3) := by decide +kernel
theorem d_M_insert_4 : decode c_M_insert 4 = .ok (.iload_n 1, 1) := by decide +kernel
theorem d_M_insert_5 : decode c_M_insert 5 = .ok (.invokestatic 120, 3) := by decide +kernel
theorem d_M_insert_8 : decode c_M_insert 8 = .ok (.ifCond .eq 34, 3) := by decide +kernel
theorem d_M_insert_11 : decode c_M_insert 11 = .ok (.iload_n 2, 1) := by decide +kernel
theorem d_M_insert_12 : decode c_M_insert 12 = .ok (.ifCond .lt 30, 3) := by decide +kernel
theorem d_M_insert_15 : decode c_M_insert 15 = .ok (.iload_n 2, 1) := by decide +kernel
theorem d_M_insert_16 : decode c_M_insert 16 = .ok (.aload_n 0, 1) := by decide +kernel
theorem d_M_insert_17 : decode c_M_insert 17 = .ok (.getfield 56, 3) := by decide +kernel
theorem d_M_insert_20 : decode c_M_insert 20 = .ok (.iload_n 1, 1) := by decide +kernel
theorem d_M_insert_21 : decode c_M_insert 21 = .ok (.iaload, 1) := by decide +kernel
theorem d_M_insert_22 : decode c_M_insert 22 = .ok (.if_icmp .gt 20, 3) := by decide +kernel
theorem d_M_insert_25 : decode c_M_insert 25 = .ok (.aload_n 0, 1) := by decide +kernel
theorem d_M_insert_26 : decode c_M_insert 26 = .ok (.iload_n 1, 1) := by decide +kernel
theorem d_M_insert_27 : decode c_M_insert 27 = .ok (.invokevirtual 123, 3) := by decide +kernel
theorem d_M_insert_30 : decode c_M_insert 30 = .ok (.bipush 40, 2) := by decide +kernel
theorem d_M_insert_32 : decode c_M_insert 32 = .ok (.if_icmp .eq 10, 3) := by decide +kernel
theorem d_M_insert_35 : decode c_M_insert 35 = .ok (.aload_n 0, 1) := by decide +kernel
theorem d_M_insert_36 : decode c_M_insert 36 = .ok (.invokevirtual 109, 3) := by decide +kernel
theorem d_M_insert_39 : decode c_M_insert 39 = .ok (.ifCond .eq 5, 3) := by decide +kernel
theorem d_M_insert_42 : decode c_M_insert 42 = .ok (.iconst 0, 1) := by decide +kernel
theorem d_M_insert_43 : decode c_M_insert 43 = .ok (.ireturn, 1) := by decide +kernel
theorem d_M_insert_44 : decode c_M_insert 44 = .ok (.aload_n 0, 1) := by decide +kernel
theorem d_M_insert_45 : decode c_M_insert 45 = .ok (.iload_n 1, 1) := by decide +kernel
theorem d_M_insert_46 : decode c_M_insert 46 = .ok (.iload_n 2, 1) := by decide +kernel
theorem d_M_insert_47 : decode c_M_insert 47 = .ok (.iconst 0, 1) := by decide +kernel
theorem d_M_insert_48 : decode c_M_insert 48 = .ok (.invokevirtual 126, 3) := by decide +kernel
theorem d_M_insert_51 : decode c_M_insert 51 = .ok (.aload_n 0, 1) := by decide +kernel
theorem d_M_insert_52 : decode c_M_insert 52 = .ok (.iconst 3, 1) := by decide +kernel
theorem d_M_insert_53 : decode c_M_insert 53 = .ok (.iload_n 1, 1) := by decide +kernel
theorem d_M_insert_54 : decode c_M_insert 54 = .ok (.iconst 0, 1) := by decide +kernel
theorem d_M_insert_55 : decode c_M_insert 55 = .ok (.iload_n 3, 1) := by decide +kernel
theorem d_M_insert_56 : decode c_M_insert 56 = .ok (.i2l, 1) := by decide +kernel
theorem d_M_insert_57 : decode c_M_insert 57 = .ok (.invokevirtual 113, 3) := by decide +kernel
theorem d_M_insert_60 : decode c_M_insert 60 = .ok (.ireturn, 1) := by decide +kernel
theorem d_M_recall_0 : decode c_M_recall 0 = .ok (.aload_n 0, 1) := by decide +kernel
theorem d_M_recall_1 : decode c_M_recall 1 = .ok (.getfield 39, 3) := by decide +kernel
theorem d_M_recall_4 : decode c_M_recall 4 = .ok (.ifCond .eq 4, 3) := by decide +kernel
theorem d_M_recall_7 : decode c_M_recall 7 = .ok (.return_, 1) := by decide +kernel
theorem d_M_recall_8 : decode c_M_recall 8 = .ok (.aload_n 0, 1) := by decide +kernel
theorem d_M_recall_9 : decode c_M_recall 9 = .ok (.aload_n 0, 1) := by decide +kernel
theorem d_M_recall_10 : decode c_M_recall 10 = .ok (.getfield 65, 3) := by decide +kernel
theorem d_M_recall_13 : decode c_M_recall 13 = .ok (.iconst (-1), 1) := by decide +kernel
theorem d_M_recall_14 : decode c_M_recall 14 = .ok (.invokevirtual 106, 3) := by decide +kernel
theorem d_M_recall_17 : decode c_M_recall 17 = .ok (.aload_n 0, 1) := by decide +kernel
theorem d_M_recall_18 : decode c_M_recall 18 = .ok (.iconst 1, 1) := by decide +kernel
theorem d_M_recall_19 : decode c_M_recall 19 = .ok (.putfield 39, 3) := by decide +kernel
theorem d_M_recall_22 : decode c_M_recall 22 = .ok (.return_, 1) := by decide +kernel
theorem d_M_replay_0 : decode c_M_replay 0 = .ok (.iconst 0, 1) := by decide +kernel
theorem d_M_replay_1 : decode c_M_replay 1 = .ok (.istore_n 3, 1) := by decide +kernel
theorem d_M_replay_2 : decode c_M_replay 2 = .ok (.iload_n 3, 1) := by decide +kernel
theorem d_M_replay_3 : decode c_M_replay 3 = .ok (.bipush 8, 2) := by decide +kernel
theorem d_M_replay_5 : decode c_M_replay 5 = .ok (.if_icmp .ge 16, 3) := by decide +kernel
theorem d_M_replay_8 : decode c_M_replay 8 = .ok (.aload_n 0, 1) := by decide +kernel
theorem d_M_replay_9 : decode c_M_replay 9 = .ok (.getfield 47, 3) := by decide +kernel
theorem d_M_replay_12 : decode c_M_replay 12 = .ok (.iload_n 3, 1) := by decide +kernel
theorem d_M_replay_13 : decode c_M_replay 13 = .ok (.iconst 0, 1) := by decide +kernel
theorem d_M_replay_14 : decode c_M_replay 14 = .ok (.iastore, 1) := by decide +kernel
theorem d_M_replay_15 : decode c_M_replay 15 = .ok (.iinc 3 1, 3) := by decide +kernel
theorem d_M_replay_18 : decode c_M_replay 18 = .ok (.goto (-16), 3) := by decide +kernel
theorem d_M_replay_21 : decode c_M_replay 21 = .ok (.iconst 0, 1) := by decide +kernel
theorem d_M_replay_22 : decode c_M_replay 22 = .ok (.istore_n 3, 1) := by decide +kernel
theorem d_M_replay_23 : decode c_M_replay 23 = .ok (.iload_n 3, 1) := by decide +kernel
theorem d_M_replay_24 : decode c_M_replay 24 = .ok (.iconst 4, 1) := by decide +kernel
theorem d_M_replay_25 : decode c_M_replay 25 = .ok (.if_icmp .ge 16, 3) := by decide +kernel
theorem d_M_replay_28 : decode c_M_replay 28 = .ok (.aload_n 0, 1) := by decide +kernel
theorem d_M_replay_29 : decode c_M_replay 29 = .ok (.getfield 50, 3) := by decide +kernel
theorem d_M_replay_32 : decode c_M_replay 32 = .ok (.iload_n 3, 1) := by decide +kernel
theorem d_M_replay_33 : decode c_M_replay 33 = .ok (.lconst 0, 1) := by decide +kernel
theorem d_M_replay_34 : decode c_M_replay 34 = .ok (.lastore, 1) := by decide +kernel
theorem d_M_replay_35 : decode c_M_replay 35 = .ok (.iinc 3 1, 3) := by decide +kernel
theorem d_M_replay_38 : decode c_M_replay 38 = .ok (.goto (-15), 3) := by decide +kernel
theorem d_M_replay_41 : decode c_M_replay 41 = .ok (.iconst 0, 1) := by decide +kernel
theorem d_M_replay_42 : decode c_M_replay 42 = .ok (.istore_n 3, 1) := by decide +kernel
theorem d_M_replay_43 : decode c_M_replay 43 = .ok (.iload_n 3, 1) := by decide +kernel
theorem d_M_replay_44 : decode c_M_replay 44 = .ok (.iconst 3, 1) := by decide +kernel
theorem d_M_replay_45 : decode c_M_replay 45 = .ok (.if_icmp .ge 16, 3) := by decide +kernel
theorem d_M_replay_48 : decode c_M_replay 48 = .ok (.aload_n 0, 1) := by decide +kernel
theorem d_M_replay_49 : decode c_M_replay 49 = .ok (.getfield 56, 3) := by decide +kernel
theorem d_M_replay_52 : decode c_M_replay 52 = .ok (.iload_n 3, 1) := by decide +kernel
theorem d_M_replay_53 : decode c_M_replay 53 = .ok (.iconst 0, 1) := by decide +kernel
theorem d_M_replay_54 : decode c_M_replay 54 = .ok (.iastore, 1) := by decide +kernel
theorem d_M_replay_55 : decode c_M_replay 55 = .ok (.iinc 3 1, 3) := by decide +kernel
theorem d_M_replay_58 : decode c_M_replay 58 = .ok (.goto (-15), 3) := by decide +kernel
theorem d_M_replay_61 : decode c_M_replay 61 = .ok (.iconst 0, 1) := by decide +kernel
theorem d_M_replay_62 : decode c_M_replay 62 = .ok (.istore_n 3, 1) := by decide +kernel
theorem d_M_replay_63 : decode c_M_replay 63 = .ok (.iload_n 3, 1) := by decide +kernel
theorem d_M_replay_64 : decode c_M_replay 64 = .ok (.aload_n 0, 1) := by decide +kernel
theorem d_M_replay_65 : decode c_M_replay 65 = .ok (.getfield 65, 3) := by decide +kernel
theorem d_M_replay_68 : decode c_M_replay 68 = .ok (.if_icmp .ge 23, 3) := by decide +kernel
theorem d_M_replay_71 : decode c_M_replay 71 = .ok (.aload_n 0, 1) := by decide +kernel
theorem d_M_replay_72 : decode c_M_replay 72 = .ok (.getfield 59, 3) := by decide +kernel
theorem d_M_replay_75 : decode c_M_replay 75 = .ok (.iload_n 3, 1) := by decide +kernel
theorem d_M_replay_76 : decode c_M_replay 76 = .ok (.iconst 0, 1) := by decide +kernel
theorem d_M_replay_77 : decode c_M_replay 77 = .ok (.bastore, 1) := by decide +kernel
theorem d_M_replay_78 : decode c_M_replay 78 = .ok (.aload_n 0, 1) := by decide +kernel
theorem d_M_replay_79 : decode c_M_replay 79 = .ok (.getfield 62, 3) := by decide +kernel
theorem d_M_replay_82 : decode c_M_replay 82 = .ok (.iload_n 3, 1) := by decide +kernel
theorem d_M_replay_83 : decode c_M_replay 83 = .ok (.iconst (-1), 1) := by decide +kernel
theorem d_M_replay_84 : decode c_M_replay 84 = .ok (.iastore, 1) := by decide +kernel
theorem d_M_replay_85 : decode c_M_replay 85 = .ok (.iinc 3 1, 3) := by decide +kernel
theorem d_M_replay_88 : decode c_M_replay 88 = .ok (.goto (-25), 3) := by decide +kernel
theorem d_M_replay_91 : decode c_M_replay 91 = .ok (.aload_n 0, 1) := by decide +kernel
theorem d_M_replay_92 : decode c_M_replay 92 = .ok (.iconst (-1), 1) := by decide +kernel
theorem d_M_replay_93 : decode c_M_replay 93 = .ok (.putfield 43, 3) := by decide +kernel
theorem d_M_replay_96 : decode c_M_replay 96 = .ok (.iconst 0, 1) := by decide +kernel
theorem d_M_replay_97 : decode c_M_replay 97 = .ok (.istore_n 3, 1) := by decide +kernel
theorem d_M_replay_98 : decode c_M_replay 98 = .ok (.iload_n 3, 1) := by decide +kernel
theorem d_M_replay_99 : decode c_M_replay 99 = .ok (.iload_n 1, 1) := by decide +kernel
theorem d_M_replay_100 : decode c_M_replay 100 = .ok (.if_icmp .ge 54, 3) := by decide +kernel
theorem d_M_replay_103 : decode c_M_replay 103 = .ok (.aload_n 0, 1) := by decide +kernel
theorem d_M_replay_104 : decode c_M_replay 104 = .ok (.getfield 26, 3) := by decide +kernel
theorem d_M_replay_107 : decode c_M_replay 107 = .ok (.iload_n 3, 1) := by decide +kernel
theorem d_M_replay_108 : decode c_M_replay 108 = .ok (.baload, 1) := by decide +kernel
theorem d_M_replay_109 : decode c_M_replay 109 = .ok (.ifCond .eq 39, 3) := by decide +kernel
theorem d_M_replay_112 : decode c_M_replay 112 = .ok (.iload_n 3, 1) := by decide +kernel
theorem d_M_replay_113 : decode c_M_replay 113 = .ok (.iload_n 2, 1) := by decide +kernel
theorem d_M_replay_114 : decode c_M_replay 114 = .ok (.if_icmp .ne 6, 3) := by decide +kernel
theorem d_M_replay_117 : decode c_M_replay 117 = .ok (.goto 31, 3) := by decide +kernel
theorem d_M_replay_120 : decode c_M_replay 120 = .ok (.aload_n 0, 1) := by decide +kernel
theorem d_M_replay_121 : decode c_M_replay 121 = .ok (.iload_n 3, 1) := by decide +kernel
theorem d_M_replay_122 : decode c_M_replay 122 = .ok (.invokevirtual 99, 3) := by decide +kernel
theorem d_M_replay_125 : decode c_M_replay 125 = .ok (.ifCond .ne 11, 3) := by decide +kernel
theorem d_M_replay_128 : decode c_M_replay 128 = .ok (.aload_n 0, 1) := by decide +kernel
theorem d_M_replay_129 : decode c_M_replay 129 = .ok (.iload_n 3, 1) := by decide +kernel
theorem d_M_replay_130 : decode c_M_replay 130 = .ok (.invokevirtual 102, 3) := by decide +kernel
theorem d_M_replay_133 : decode c_M_replay 133 = .ok (.goto 15, 3) := by decide +kernel
theorem d_M_replay_136 : decode c_M_replay 136 = .ok (.aload_n 0, 1) := by decide +kernel
theorem d_M_replay_137 : decode c_M_replay 137 = .ok (.getfield 43, 3) := by decide +kernel
theorem d_M_replay_140 : decode c_M_replay 140 = .ok (.ifCond .ge 8, 3) := by decide +kernel
theorem d_M_replay_143 : decode c_M_replay 143 = .ok (.aload_n 0, 1) := by decide +kernel
theorem d_M_replay_144 : decode c_M_replay 144 = .ok (.iload_n 3, 1) := by decide +kernel
theorem d_M_replay_145 : decode c_M_replay 145 = .ok (.putfield 43, 3) := by decide +kernel
theorem d_M_replay_148 : decode c_M_replay 148 = .ok (.iinc 3 1, 3) := by decide +kernel
theorem d_M_replay_151 : decode c_M_replay 151 = .ok (.goto (-53), 3) := by decide +kernel
theorem d_M_replay_154 : decode c_M_replay 154 = .ok (.aload_n 0, 1) := by decide +kernel
theorem d_M_replay_155 : decode c_M_replay 155 = .ok (.iconst 0, 1) := by decide +kernel
theorem d_M_replay_156 : decode c_M_replay 156 = .ok (.putfield 39, 3) := by decide +kernel
theorem d_M_replay_159 : decode c_M_replay 159 = .ok (.return_, 1) := by decide +kernel
theorem d_M_isImpossible_0 : decode c_M_isImpossible 0 = .ok (.aload_n 0, 1) := by decide +kernel
theorem d_M_isImpossible_1 : decode c_M_isImpossible 1 = .ok (.getfield 13, 3) := by decide +kernel
theorem d_M_isImpossible_4 : decode c_M_isImpossible 4 = .ok (.iload_n 1, 1) := by decide +kernel
theorem d_M_isImpossible_5 : decode c_M_isImpossible 5 = .ok (.iaload, 1) := by decide +kernel
theorem d_M_isImpossible_6 : decode c_M_isImpossible 6 = .ok (.tableswitch 142 4 8 #[34, 34, 53, 72, 91], 34) := by decide +kernel
theorem d_M_isImpossible_40 : decode c_M_isImpossible 40 = .ok (.aload_n 0, 1) := by decide +kernel
theorem d_M_isImpossible_41 : decode c_M_isImpossible 41 = .ok (.aload_n 0, 1) := by decide +kernel
theorem d_M_isImpossible_42 : decode c_M_isImpossible 42 = .ok (.getfield 19, 3) := by decide +kernel
theorem d_M_isImpossible_45 : decode c_M_isImpossible 45 = .ok (.iload_n 1, 1) := by decide +kernel
theorem d_M_isImpossible_46 : decode c_M_isImpossible 46 = .ok (.iaload, 1) := by decide +kernel
theorem d_M_isImpossible_47 : decode c_M_isImpossible 47 = .ok (.invokevirtual 83, 3) := by decide +kernel
theorem d_M_isImpossible_50 : decode c_M_isImpossible 50 = .ok (.ifCond .ne 7, 3) := by decide +kernel
theorem d_M_isImpossible_53 : decode c_M_isImpossible 53 = .ok (.iconst 1, 1) := by decide +kernel
theorem d_M_isImpossible_54 : decode c_M_isImpossible 54 = .ok (.goto 4, 3) := by decide +kernel
theorem d_M_isImpossible_57 : decode c_M_isImpossible 57 = .ok (.iconst 0, 1) := by decide +kernel
theorem d_M_isImpossible_58 : decode c_M_isImpossible 58 = .ok (.ireturn, 1) := by decide +kernel
theorem d_M_isImpossible_59 : decode c_M_isImpossible 59 = .ok (.aload_n 0, 1) := by decide +kernel
theorem d_M_isImpossible_60 : decode c_M_isImpossible 60 = .ok (.aload_n 0, 1) := by decide +kernel
theorem d_M_isImpossible_61 : decode c_M_isImpossible 61 = .ok (.getfield 19, 3) := by decide +kernel
theorem d_M_isImpossible_64 : decode c_M_isImpossible 64 = .ok (.iload_n 1, 1) := by decide +kernel
theorem d_M_isImpossible_65 : decode c_M_isImpossible 65 = .ok (.iaload, 1) := by decide +kernel
theorem d_M_isImpossible_66 : decode c_M_isImpossible 66 = .ok (.invokevirtual 83, 3) := by decide +kernel
theorem d_M_isImpossible_69 : decode c_M_isImpossible 69 = .ok (.ifCond .ne 7, 3) := by decide +kernel
theorem d_M_isImpossible_72 : decode c_M_isImpossible 72 = .ok (.iconst 1, 1) := by decide +kernel
theorem d_M_isImpossible_73 : decode c_M_isImpossible 73 = .ok (.goto 4, 3) := by decide +kernel
theorem d_M_isImpossible_76 : decode c_M_isImpossible 76 = .ok (.iconst 0, 1) := by decide +kernel
theorem d_M_isImpossible_77 : decode c_M_isImpossible 77 = .ok (.ireturn, 1) := by decide +kernel
theorem d_M_isImpossible_78 : decode c_M_isImpossible 78 = .ok (.aload_n 0, 1) := by decide +kernel
theorem d_M_isImpossible_79 : decode c_M_isImpossible 79 = .ok (.aload_n 0, 1) := by decide +kernel
theorem d_M_isImpossible_80 : decode c_M_isImpossible 80 = .ok (.getfield 16, 3) := by decide +kernel
theorem d_M_isImpossible_83 : decode c_M_isImpossible 83 = .ok (.iload_n 1, 1) := by decide +kernel
theorem d_M_isImpossible_84 : decode c_M_isImpossible 84 = .ok (.iaload, 1) := by decide +kernel
theorem d_M_isImpossible_85 : decode c_M_isImpossible 85 = .ok (.invokevirtual 83, 3) := by decide +kernel
theorem d_M_isImpossible_88 : decode c_M_isImpossible 88 = .ok (.ifCond .ne 7, 3) := by decide +kernel
theorem d_M_isImpossible_91 : decode c_M_isImpossible 91 = .ok (.iconst 1, 1) := by decide +kernel
theorem d_M_isImpossible_92 : decode c_M_isImpossible 92 = .ok (.goto 4, 3) := by decide +kernel
theorem d_M_isImpossible_95 : decode c_M_isImpossible 95 = .ok (.iconst 0, 1) := by decide +kernel
theorem d_M_isImpossible_96 : decode c_M_isImpossible 96 = .ok (.ireturn, 1) := by decide +kernel
theorem d_M_isImpossible_97 : decode c_M_isImpossible 97 = .ok (.aload_n 0, 1) := by decide +kernel
theorem d_M_isImpossible_98 : decode c_M_isImpossible 98 = .ok (.aload_n 0, 1) := by decide +kernel
theorem d_M_isImpossible_99 : decode c_M_isImpossible 99 = .ok (.getfield 16, 3) := by decide +kernel
theorem d_M_isImpossible_102 : decode c_M_isImpossible 102 = .ok (.iload_n 1, 1) := by decide +kernel
theorem d_M_isImpossible_103 : decode c_M_isImpossible 103 = .ok (.iaload, 1) := by decide +kernel
theorem d_M_isImpossible_104 : decode c_M_isImpossible 104 = .ok (.invokevirtual 83, 3) := by decide +kernel
theorem d_M_isImpossible_107 : decode c_M_isImpossible 107 = .ok (.ifCond .eq 35, 3) := by decide +kernel
theorem d_M_isImpossible_110 : decode c_M_isImpossible 110 = .ok (.aload_n 0, 1) := by decide +kernel
theorem d_M_isImpossible_111 : decode c_M_isImpossible 111 = .ok (.aload_n 0, 1) := by decide +kernel
theorem d_M_isImpossible_112 : decode c_M_isImpossible 112 = .ok (.getfield 19, 3) := by decide +kernel
theorem d_M_isImpossible_115 : decode c_M_isImpossible 115 = .ok (.iload_n 1, 1) := by decide +kernel
theorem d_M_isImpossible_116 : decode c_M_isImpossible 116 = .ok (.iaload, 1) := by decide +kernel
theorem d_M_isImpossible_117 : decode c_M_isImpossible 117 = .ok (.invokevirtual 83, 3) := by decide +kernel
theorem d_M_isImpossible_120 : decode c_M_isImpossible 120 = .ok (.ifCond .eq 22, 3) := by decide +kernel
theorem d_M_isImpossible_123 : decode c_M_isImpossible 123 = .ok (.aload_n 0, 1) := by decide +kernel
theorem d_M_isImpossible_124 : decode c_M_isImpossible 124 = .ok (.aload_n 0, 1) := by decide +kernel
theorem d_M_isImpossible_125 : decode c_M_isImpossible 125 = .ok (.getfield 19, 3) := by decide +kernel
theorem d_M_isImpossible_128 : decode c_M_isImpossible 128 = .ok (.iload_n 1, 1) := by decide +kernel
theorem d_M_isImpossible_129 : decode c_M_isImpossible 129 = .ok (.iaload, 1) := by decide +kernel
theorem d_M_isImpossible_130 : decode c_M_isImpossible 130 = .ok (.aload_n 0, 1) := by decide +kernel
theorem d_M_isImpossible_131 : decode c_M_isImpossible 131 = .ok (.getfield 16, 3) := by decide +kernel
theorem d_M_isImpossible_134 : decode c_M_isImpossible 134 = .ok (.iload_n 1, 1) := by decide +kernel
theorem d_M_isImpossible_135 : decode c_M_isImpossible 135 = .ok (.iaload, 1) := by decide +kernel
theorem d_M_isImpossible_136 : decode c_M_isImpossible 136 = .ok (.invokevirtual 87, 3) := by decide +kernel
theorem d_M_isImpossible_139 : decode c_M_isImpossible 139 = .ok (.ifCond .eq 7, 3) := by decide +kernel
theorem d_M_isImpossible_142 : decode c_M_isImpossible 142 = .ok (.iconst 1, 1) := by decide +kernel
theorem d_M_isImpossible_143 : decode c_M_isImpossible 143 = .ok (.goto 4, 3) := by decide +kernel
theorem d_M_isImpossible_146 : decode c_M_isImpossible 146 = .ok (.iconst 0, 1) := by decide +kernel
theorem d_M_isImpossible_147 : decode c_M_isImpossible 147 = .ok (.ireturn, 1) := by decide +kernel
theorem d_M_isImpossible_148 : decode c_M_isImpossible 148 = .ok (.iconst 0, 1) := by decide +kernel
theorem d_M_isImpossible_149 : decode c_M_isImpossible 149 = .ok (.ireturn, 1) := by decide +kernel
theorem d_M_isThere_0 : decode c_M_isThere 0 = .ok (.aload_n 0, 1) := by decide +kernel
theorem d_M_isThere_1 : decode c_M_isThere 1 = .ok (.iload_n 1, 1) := by decide +kernel
theorem d_M_isThere_2 : decode c_M_isThere 2 = .ok (.invokevirtual 79, 3) := by decide +kernel
theorem d_M_isThere_5 : decode c_M_isThere 5 = .ok (.istore_n 2, 1) := by decide +kernel
theorem d_M_isThere_6 : decode c_M_isThere 6 = .ok (.iload_n 1, 1) := by decide +kernel
theorem d_M_isThere_7 : decode c_M_isThere 7 = .ok (.ifCond .eq 16, 3) := by decide +kernel
theorem d_M_isThere_10 : decode c_M_isThere 10 = .ok (.iload_n 2, 1) := by decide +kernel
theorem d_M_isThere_11 : decode c_M_isThere 11 = .ok (.ifCond .lt 16, 3) := by decide +kernel
theorem d_M_isThere_14 : decode c_M_isThere 14 = .ok (.aload_n 0, 1) := by decide +kernel
theorem d_M_isThere_15 : decode c_M_isThere 15 = .ok (.getfield 59, 3) := by decide +kernel
theorem d_M_isThere_18 : decode c_M_isThere 18 = .ok (.iload_n 2, 1) := by decide +kernel
theorem d_M_isThere_19 : decode c_M_isThere 19 = .ok (.baload, 1) := by decide +kernel
theorem d_M_isThere_20 : decode c_M_isThere 20 = .ok (.ifCond .eq 7, 3) := by decide +kernel
theorem d_M_isThere_23 : decode c_M_isThere 23 = .ok (.iconst 1, 1) := by decide +kernel
theorem d_M_isThere_24 : decode c_M_isThere 24 = .ok (.goto 4, 3) := by decide +kernel
theorem d_M_isThere_27 : decode c_M_isThere 27 = .ok (.iconst 0, 1) := by decide +kernel
theorem d_M_isThere_28 : decode c_M_isThere 28 = .ok (.ireturn, 1) := by decide +kernel
theorem d_M_find_0 : decode c_M_find 0 = .ok (.iconst 0, 1) := by decide +kernel
theorem d_M_find_1 : decode c_M_find 1 = .ok (.istore_n 2, 1) := by decide +kernel
theorem d_M_find_2 : decode c_M_find 2 = .ok (.iload_n 2, 1) := by decide +kernel
theorem d_M_find_3 : decode c_M_find 3 = .ok (.aload_n 0, 1) := by decide +kernel
theorem d_M_find_4 : decode c_M_find 4 = .ok (.getfield 65, 3) := by decide +kernel
theorem d_M_find_7 : decode c_M_find 7 = .ok (.if_icmp .ge 21, 3) := by decide +kernel
theorem d_M_find_10 : decode c_M_find 10 = .ok (.aload_n 0, 1) := by decide +kernel
theorem d_M_find_11 : decode c_M_find 11 = .ok (.getfield 7, 3) := by decide +kernel
theorem d_M_find_14 : decode c_M_find 14 = .ok (.iload_n 2, 1) := by decide +kernel
theorem d_M_find_15 : decode c_M_find 15 = .ok (.iaload, 1) := by decide +kernel
theorem d_M_find_16 : decode c_M_find 16 = .ok (.iload_n 1, 1) := by decide +kernel
theorem d_M_find_17 : decode c_M_find 17 = .ok (.if_icmp .ne 5, 3) := by decide +kernel
theorem d_M_find_20 : decode c_M_find 20 = .ok (.iload_n 2, 1) := by decide +kernel
theorem d_M_find_21 : decode c_M_find 21 = .ok (.ireturn, 1) := by decide +kernel
theorem d_M_find_22 : decode c_M_find 22 = .ok (.iinc 2 1, 3) := by decide +kernel
theorem d_M_find_25 : decode c_M_find 25 = .ok (.goto (-23), 3) := by decide +kernel
theorem d_M_find_28 : decode c_M_find 28 = .ok (.iconst (-1), 1) := by decide +kernel
theorem d_M_find_29 : decode c_M_find 29 = .ok (.ireturn, 1) := by decide +kernel
theorem d_M_isBelow_0 : decode c_M_isBelow 0 = .ok (.iload_n 1, 1) := by decide +kernel
theorem d_M_isBelow_1 : decode c_M_isBelow 1 = .ok (.istore_n 3, 1) := by decide +kernel
theorem d_M_isBelow_2 : decode c_M_isBelow 2 = .ok (.iconst 0, 1) := by decide +kernel
theorem d_M_isBelow_3 : decode c_M_isBelow 3 = .ok (.istore 4, 2) := by decide +kernel
theorem d_M_isBelow_5 : decode c_M_isBelow 5 = .ok (.iload 4, 2) := by decide +kernel
theorem d_M_isBelow_7 : decode c_M_isBelow 7 = .ok (.aload_n 0, 1) := by decide +kernel
theorem d_M_isBelow_8 : decode c_M_isBelow 8 = .ok (.getfield 65, 3) := by decide +kernel
theorem d_M_isBelow_11 : decode c_M_isBelow 11 = .ok (.if_icmp .gt 31, 3) := by decide +kernel
theorem d_M_isBelow_14 : decode c_M_isBelow 14 = .ok (.iload_n 3, 1) := by decide +kernel
theorem d_M_isBelow_15 : decode c_M_isBelow 15 = .ok (.ifCond .le 27, 3) := by decide +kernel
theorem d_M_isBelow_18 : decode c_M_isBelow 18 = .ok (.iload_n 3, 1) := by decide +kernel
theorem d_M_isBelow_19 : decode c_M_isBelow 19 = .ok (.iload_n 2, 1) := by decide +kernel
theorem d_M_isBelow_20 : decode c_M_isBelow 20 = .ok (.if_icmp .ne 5, 3) := by decide +kernel
theorem d_M_isBelow_23 : decode c_M_isBelow 23 = .ok (.iconst 1, 1) := by decide +kernel
theorem d_M_isBelow_24 : decode c_M_isBelow 24 = .ok (.ireturn, 1) := by decide +kernel
theorem d_M_isBelow_25 : decode c_M_isBelow 25 = .ok (.aload_n 0, 1) := by decide +kernel
theorem d_M_isBelow_26 : decode c_M_isBelow 26 = .ok (.getfield 62, 3) := by decide +kernel
theorem d_M_isBelow_29 : decode c_M_isBelow 29 = .ok (.aload_n 0, 1) := by decide +kernel
theorem d_M_isBelow_30 : decode c_M_isBelow 30 = .ok (.iload_n 3, 1) := by decide +kernel
theorem d_M_isBelow_31 : decode c_M_isBelow 31 = .ok (.invokevirtual 79, 3) := by decide +kernel
theorem d_M_isBelow_34 : decode c_M_isBelow 34 = .ok (.iaload, 1) := by decide +kernel
theorem d_M_isBelow_35 : decode c_M_isBelow 35 = .ok (.istore_n 3, 1) := by decide +kernel
theorem d_M_isBelow_36 : decode c_M_isBelow 36 = .ok (.iinc 4 1, 3) := by decide +kernel
theorem d_M_isBelow_39 : decode c_M_isBelow 39 = .ok (.goto (-34), 3) := by decide +kernel
theorem d_M_isBelow_42 : decode c_M_isBelow 42 = .ok (.iconst 0, 1) := by decide +kernel
theorem d_M_isBelow_43 : decode c_M_isBelow 43 = .ok (.ireturn, 1) := by decide +kernel
theorem d_M_perform_0 : decode c_M_perform 0 = .ok (.aload_n 0, 1) := by decide +kernel
theorem d_M_perform_1 : decode c_M_perform 1 = .ok (.getfield 16, 3) := by decide +kernel
theorem d_M_perform_4 : decode c_M_perform 4 = .ok (.iload_n 1, 1) := by decide +kernel
theorem d_M_perform_5 : decode c_M_perform 5 = .ok (.iaload, 1) := by decide +kernel
theorem d_M_perform_6 : decode c_M_perform 6 = .ok (.istore_n 2, 1) := by decide +kernel
theorem d_M_perform_7 : decode c_M_perform 7 = .ok (.aload_n 0, 1) := by decide +kernel
theorem d_M_perform_8 : decode c_M_perform 8 = .ok (.getfield 59, 3) := by decide +kernel
theorem d_M_perform_11 : decode c_M_perform 11 = .ok (.iload_n 1, 1) := by decide +kernel
theorem d_M_perform_12 : decode c_M_perform 12 = .ok (.iconst 1, 1) := by decide +kernel
theorem d_M_perform_13 : decode c_M_perform 13 = .ok (.bastore, 1) := by decide +kernel
theorem d_M_perform_14 : decode c_M_perform 14 = .ok (.aload_n 0, 1) := by decide +kernel
theorem d_M_perform_15 : decode c_M_perform 15 = .ok (.getfield 13, 3) := by decide +kernel
theorem d_M_perform_18 : decode c_M_perform 18 = .ok (.iload_n 1, 1) := by decide +kernel
theorem d_M_perform_19 : decode c_M_perform 19 = .ok (.iaload, 1) := by decide +kernel
theorem d_M_perform_20 : decode c_M_perform 20 = .ok (.tableswitch 186 1 7 #[44, 60, 78, 93, 107, 157, 172], 44) := by decide +kernel
theorem d_M_perform_64 : decode c_M_perform 64 = .ok (.aload_n 0, 1) := by decide +kernel
theorem d_M_perform_65 : decode c_M_perform 65 = .ok (.getfield 47, 3) := by decide +kernel
theorem d_M_perform_68 : decode c_M_perform 68 = .ok (.iload_n 2, 1) := by decide +kernel
theorem d_M_perform_69 : decode c_M_perform 69 = .ok (.aload_n 0, 1) := by decide +kernel
theorem d_M_perform_70 : decode c_M_perform 70 = .ok (.getfield 22, 3) := by decide +kernel
theorem d_M_perform_73 : decode c_M_perform 73 = .ok (.iload_n 1, 1) := by decide +kernel
theorem d_M_perform_74 : decode c_M_perform 74 = .ok (.laload, 1) := by decide +kernel
theorem d_M_perform_75 : decode c_M_perform 75 = .ok (.l2i, 1) := by decide +kernel
theorem d_M_perform_76 : decode c_M_perform 76 = .ok (.iastore, 1) := by decide +kernel
theorem d_M_perform_77 : decode c_M_perform 77 = .ok (.goto 145, 3) := by decide +kernel
theorem d_M_perform_80 : decode c_M_perform 80 = .ok (.aload_n 0, 1) := by decide +kernel
theorem d_M_perform_81 : decode c_M_perform 81 = .ok (.getfield 50, 3) := by decide +kernel
theorem d_M_perform_84 : decode c_M_perform 84 = .ok (.iload_n 2, 1) := by decide +kernel
theorem d_M_perform_85 : decode c_M_perform 85 = .ok (.dup2, 1) := by decide +kernel
theorem d_M_perform_86 : decode c_M_perform 86 = .ok (.laload, 1) := by decide +kernel
theorem d_M_perform_87 : decode c_M_perform 87 = .ok (.aload_n 0, 1) := by decide +kernel
theorem d_M_perform_88 : decode c_M_perform 88 = .ok (.getfield 22, 3) := by decide +kernel
theorem d_M_perform_91 : decode c_M_perform 91 = .ok (.iload_n 1, 1) := by decide +kernel
theorem d_M_perform_92 : decode c_M_perform 92 = .ok (.laload, 1) := by decide +kernel
theorem d_M_perform_93 : decode c_M_perform 93 = .ok (.ladd, 1) := by decide +kernel
theorem d_M_perform_94 : decode c_M_perform 94 = .ok (.lastore, 1) := by decide +kernel
theorem d_M_perform_95 : decode c_M_perform 95 = .ok (.goto 127, 3) := by decide +kernel
theorem d_M_perform_98 : decode c_M_perform 98 = .ok (.aload_n 0, 1) := by decide +kernel
theorem d_M_perform_99 : decode c_M_perform 99 = .ok (.iload_n 2, 1) := by decide +kernel
theorem d_M_perform_100 : decode c_M_perform 100 = .ok (.aload_n 0, 1) := by decide +kernel
theorem d_M_perform_101 : decode c_M_perform 101 = .ok (.getfield 7, 3) := by decide +kernel
theorem d_M_perform_104 : decode c_M_perform 104 = .ok (.iload_n 1, 1) := by decide +kernel
theorem d_M_perform_105 : decode c_M_perform 105 = .ok (.iaload, 1) := by decide +kernel
theorem d_M_perform_106 : decode c_M_perform 106 = .ok (.iload_n 1, 1) := by decide +kernel
theorem d_M_perform_107 : decode c_M_perform 107 = .ok (.invokevirtual 91, 3) := by decide +kernel
theorem d_M_perform_110 : decode c_M_perform 110 = .ok (.goto 112, 3) := by decide +kernel
theorem d_M_perform_113 : decode c_M_perform 113 = .ok (.aload_n 0, 1) := by decide +kernel
theorem d_M_perform_114 : decode c_M_perform 114 = .ok (.iload_n 2, 1) := by decide +kernel
theorem d_M_perform_115 : decode c_M_perform 115 = .ok (.aload_n 0, 1) := by decide +kernel
theorem d_M_perform_116 : decode c_M_perform 116 = .ok (.getfield 19, 3) := by decide +kernel
theorem d_M_perform_119 : decode c_M_perform 119 = .ok (.iload_n 1, 1) := by decide +kernel
theorem d_M_perform_120 : decode c_M_perform 120 = .ok (.iaload, 1) := by decide +kernel
theorem d_M_perform_121 : decode c_M_perform 121 = .ok (.invokevirtual 95, 3) := by decide +kernel
theorem d_M_perform_124 : decode c_M_perform 124 = .ok (.goto 98, 3) := by decide +kernel
theorem d_M_perform_127 : decode c_M_perform 127 = .ok (.aload_n 0, 1) := by decide +kernel
theorem d_M_perform_128 : decode c_M_perform 128 = .ok (.iload_n 2, 1) := by decide +kernel
theorem d_M_perform_129 : decode c_M_perform 129 = .ok (.aload_n 0, 1) := by decide +kernel
theorem d_M_perform_130 : decode c_M_perform 130 = .ok (.getfield 19, 3) := by decide +kernel
theorem d_M_perform_133 : decode c_M_perform 133 = .ok (.iload_n 1, 1) := by decide +kernel
theorem d_M_perform_134 : decode c_M_perform 134 = .ok (.iaload, 1) := by decide +kernel
theorem d_M_perform_135 : decode c_M_perform 135 = .ok (.invokevirtual 75, 3) := by decide +kernel
theorem d_M_perform_138 : decode c_M_perform 138 = .ok (.ifCond .lt 7, 3) := by decide +kernel
theorem d_M_perform_141 : decode c_M_perform 141 = .ok (.iconst 1, 1) := by decide +kernel
theorem d_M_perform_142 : decode c_M_perform 142 = .ok (.goto 4, 3) := by decide +kernel
theorem d_M_perform_145 : decode c_M_perform 145 = .ok (.iconst 0, 1) := by decide +kernel
theorem d_M_perform_146 : decode c_M_perform 146 = .ok (.istore_n 3, 1) := by decide +kernel
theorem d_M_perform_147 : decode c_M_perform 147 = .ok (.aload_n 0, 1) := by decide +kernel
theorem d_M_perform_148 : decode c_M_perform 148 = .ok (.iload_n 2, 1) := by decide +kernel
theorem d_M_perform_149 : decode c_M_perform 149 = .ok (.aload_n 0, 1) := by decide +kernel
theorem d_M_perform_150 : decode c_M_perform 150 = .ok (.getfield 19, 3) := by decide +kernel
theorem d_M_perform_153 : decode c_M_perform 153 = .ok (.iload_n 1, 1) := by decide +kernel
theorem d_M_perform_154 : decode c_M_perform 154 = .ok (.iaload, 1) := by decide +kernel
theorem d_M_perform_155 : decode c_M_perform 155 = .ok (.invokevirtual 95, 3) := by decide +kernel
theorem d_M_perform_158 : decode c_M_perform 158 = .ok (.iload_n 3, 1) := by decide +kernel
theorem d_M_perform_159 : decode c_M_perform 159 = .ok (.ifCond .eq 63, 3) := by decide +kernel
theorem d_M_perform_162 : decode c_M_perform 162 = .ok (.aload_n 0, 1) := by decide +kernel
theorem d_M_perform_163 : decode c_M_perform 163 = .ok (.iload_n 2, 1) := by decide +kernel
theorem d_M_perform_164 : decode c_M_perform 164 = .ok (.aload_n 0, 1) := by decide +kernel
theorem d_M_perform_165 : decode c_M_perform 165 = .ok (.getfield 19, 3) := by decide +kernel
theorem d_M_perform_168 : decode c_M_perform 168 = .ok (.iload_n 1, 1) := by decide +kernel
theorem d_M_perform_169 : decode c_M_perform 169 = .ok (.iaload, 1) := by decide +kernel
theorem d_M_perform_170 : decode c_M_perform 170 = .ok (.iload_n 1, 1) := by decide +kernel
theorem d_M_perform_171 : decode c_M_perform 171 = .ok (.invokevirtual 91, 3) := by decide +kernel
theorem d_M_perform_174 : decode c_M_perform 174 = .ok (.goto 48, 3) := by decide +kernel
theorem d_M_perform_177 : decode c_M_perform 177 = .ok (.aload_n 0, 1) := by decide +kernel
theorem d_M_perform_178 : decode c_M_perform 178 = .ok (.getfield 62, 3) := by decide +kernel
theorem d_M_perform_181 : decode c_M_perform 181 = .ok (.iload_n 1, 1) := by decide +kernel
theorem d_M_perform_182 : decode c_M_perform 182 = .ok (.aload_n 0, 1) := by decide +kernel
theorem d_M_perform_183 : decode c_M_perform 183 = .ok (.getfield 19, 3) := by decide +kernel
theorem d_M_perform_186 : decode c_M_perform 186 = .ok (.iload_n 1, 1) := by decide +kernel
theorem d_M_perform_187 : decode c_M_perform 187 = .ok (.iaload, 1) := by decide +kernel
theorem d_M_perform_188 : decode c_M_perform 188 = .ok (.iastore, 1) := by decide +kernel
theorem d_M_perform_189 : decode c_M_perform 189 = .ok (.goto 33, 3) := by decide +kernel
theorem d_M_perform_192 : decode c_M_perform 192 = .ok (.aload_n 0, 1) := by decide +kernel
theorem d_M_perform_193 : decode c_M_perform 193 = .ok (.getfield 62, 3) := by decide +kernel
theorem d_M_perform_196 : decode c_M_perform 196 = .ok (.aload_n 0, 1) := by decide +kernel
theorem d_M_perform_197 : decode c_M_perform 197 = .ok (.iload_n 2, 1) := by decide +kernel
theorem d_M_perform_198 : decode c_M_perform 198 = .ok (.invokevirtual 79, 3) := by decide +kernel
theorem d_M_perform_201 : decode c_M_perform 201 = .ok (.iconst (-1), 1) := by decide +kernel
theorem d_M_perform_202 : decode c_M_perform 202 = .ok (.iastore, 1) := by decide +kernel
theorem d_M_perform_203 : decode c_M_perform 203 = .ok (.goto 19, 3) := by decide +kernel
theorem d_M_perform_206 : decode c_M_perform 206 = .ok (.aload_n 0, 1) := by decide +kernel
theorem d_M_perform_207 : decode c_M_perform 207 = .ok (.getfield 62, 3) := by decide +kernel
theorem d_M_perform_210 : decode c_M_perform 210 = .ok (.aload_n 0, 1) := by decide +kernel
theorem d_M_perform_211 : decode c_M_perform 211 = .ok (.iload_n 2, 1) := by decide +kernel
theorem d_M_perform_212 : decode c_M_perform 212 = .ok (.invokevirtual 79, 3) := by decide +kernel
theorem d_M_perform_215 : decode c_M_perform 215 = .ok (.aload_n 0, 1) := by decide +kernel
theorem d_M_perform_216 : decode c_M_perform 216 = .ok (.getfield 19, 3) := by decide +kernel
theorem d_M_perform_219 : decode c_M_perform 219 = .ok (.iload_n 1, 1) := by decide +kernel
theorem d_M_perform_220 : decode c_M_perform 220 = .ok (.iaload, 1) := by decide +kernel
theorem d_M_perform_221 : decode c_M_perform 221 = .ok (.iastore, 1) := by decide +kernel
theorem d_M_perform_222 : decode c_M_perform 222 = .ok (.return_, 1) := by decide +kernel
theorem d_M_bringIn_0 : decode c_M_bringIn 0 = .ok (.iconst 0, 1) := by decide +kernel
theorem d_M_bringIn_1 : decode c_M_bringIn 1 = .ok (.istore 4, 2) := by decide +kernel
theorem d_M_bringIn_3 : decode c_M_bringIn 3 = .ok (.iconst 0, 1) := by decide +kernel
theorem d_M_bringIn_4 : decode c_M_bringIn 4 = .ok (.istore 5, 2) := by decide +kernel
theorem d_M_bringIn_6 : decode c_M_bringIn 6 = .ok (.iload 5, 2) := by decide +kernel
theorem d_M_bringIn_8 : decode c_M_bringIn 8 = .ok (.aload_n 0, 1) := by decide +kernel
theorem d_M_bringIn_9 : decode c_M_bringIn 9 = .ok (.getfield 33, 3) := by decide +kernel
theorem d_M_bringIn_12 : decode c_M_bringIn 12 = .ok (.iload_n 3, 1) := by decide +kernel
theorem d_M_bringIn_13 : decode c_M_bringIn 13 = .ok (.iaload, 1) := by decide +kernel
theorem d_M_bringIn_14 : decode c_M_bringIn 14 = .ok (.if_icmp .ge 45, 3) := by decide +kernel
theorem d_M_bringIn_17 : decode c_M_bringIn 17 = .ok (.aload_n 0, 1) := by decide +kernel
theorem d_M_bringIn_18 : decode c_M_bringIn 18 = .ok (.iload_n 1, 1) := by decide +kernel
theorem d_M_bringIn_19 : decode c_M_bringIn 19 = .ok (.aload_n 0, 1) := by decide +kernel
theorem d_M_bringIn_20 : decode c_M_bringIn 20 = .ok (.getfield 30, 3) := by decide +kernel
theorem d_M_bringIn_23 : decode c_M_bringIn 23 = .ok (.bipush 40, 2) := by decide +kernel
theorem d_M_bringIn_25 : decode c_M_bringIn 25 = .ok (.iload_n 3, 1) := by decide +kernel
theorem d_M_bringIn_26 : decode c_M_bringIn 26 = .ok (.imul, 1) := by decide +kernel
theorem d_M_bringIn_27 : decode c_M_bringIn 27 = .ok (.iload 5, 2) := by decide +kernel
theorem d_M_bringIn_29 : decode c_M_bringIn 29 = .ok (.iadd, 1) := by decide +kernel
theorem d_M_bringIn_30 : decode c_M_bringIn 30 = .ok (.iaload, 1) := by decide +kernel
theorem d_M_bringIn_31 : decode c_M_bringIn 31 = .ok (.invokevirtual 75, 3) := by decide +kernel
theorem d_M_bringIn_34 : decode c_M_bringIn 34 = .ok (.istore 6, 2) := by decide +kernel
theorem d_M_bringIn_36 : decode c_M_bringIn 36 = .ok (.iload 6, 2) := by decide +kernel
theorem d_M_bringIn_38 : decode c_M_bringIn 38 = .ok (.ifCond .ge 6, 3) := by decide +kernel
theorem d_M_bringIn_41 : decode c_M_bringIn 41 = .ok (.goto 12, 3) := by decide +kernel
theorem d_M_bringIn_44 : decode c_M_bringIn 44 = .ok (.iload 6, 2) := by decide +kernel
theorem d_M_bringIn_46 : decode c_M_bringIn 46 = .ok (.iconst 1, 1) := by decide +kernel
theorem d_M_bringIn_47 : decode c_M_bringIn 47 = .ok (.iadd, 1) := by decide +kernel
theorem d_M_bringIn_48 : decode c_M_bringIn 48 = .ok (.istore 4, 2) := by decide +kernel
theorem d_M_bringIn_50 : decode c_M_bringIn 50 = .ok (.goto 9, 3) := by decide +kernel
theorem d_M_bringIn_53 : decode c_M_bringIn 53 = .ok (.iinc 5 1, 3) := by decide +kernel
theorem d_M_bringIn_56 : decode c_M_bringIn 56 = .ok (.goto (-50), 3) := by decide +kernel
theorem d_M_bringIn_59 : decode c_M_bringIn 59 = .ok (.aload_n 0, 1) := by decide +kernel
theorem d_M_bringIn_60 : decode c_M_bringIn 60 = .ok (.getfield 56, 3) := by decide +kernel
theorem d_M_bringIn_63 : decode c_M_bringIn 63 = .ok (.iload_n 1, 1) := by decide +kernel
theorem d_M_bringIn_64 : decode c_M_bringIn 64 = .ok (.iaload, 1) := by decide +kernel
theorem d_M_bringIn_65 : decode c_M_bringIn 65 = .ok (.istore 5, 2) := by decide +kernel
theorem d_M_bringIn_67 : decode c_M_bringIn 67 = .ok (.iload 5, 2) := by decide +kernel
theorem d_M_bringIn_69 : decode c_M_bringIn 69 = .ok (.iload 4, 2) := by decide +kernel
theorem d_M_bringIn_71 : decode c_M_bringIn 71 = .ok (.if_icmp .le 35, 3) := by decide +kernel
theorem d_M_bringIn_74 : decode c_M_bringIn 74 = .ok (.aload_n 0, 1) := by decide +kernel
theorem d_M_bringIn_75 : decode c_M_bringIn 75 = .ok (.getfield 53, 3) := by decide +kernel
theorem d_M_bringIn_78 : decode c_M_bringIn 78 = .ok (.bipush 40, 2) := by decide +kernel
theorem d_M_bringIn_80 : decode c_M_bringIn 80 = .ok (.iload_n 1, 1) := by decide +kernel
theorem d_M_bringIn_81 : decode c_M_bringIn 81 = .ok (.imul, 1) := by decide +kernel
theorem d_M_bringIn_82 : decode c_M_bringIn 82 = .ok (.iload 5, 2) := by decide +kernel
theorem d_M_bringIn_84 : decode c_M_bringIn 84 = .ok (.iadd, 1) := by decide +kernel
theorem d_M_bringIn_85 : decode c_M_bringIn 85 = .ok (.aload_n 0, 1) := by decide +kernel
theorem d_M_bringIn_86 : decode c_M_bringIn 86 = .ok (.getfield 53, 3) := by decide +kernel
theorem d_M_bringIn_89 : decode c_M_bringIn 89 = .ok (.bipush 40, 2) := by decide +kernel
theorem d_M_bringIn_91 : decode c_M_bringIn 91 = .ok (.iload_n 1, 1) := by decide +kernel
theorem d_M_bringIn_92 : decode c_M_bringIn 92 = .ok (.imul, 1) := by decide +kernel
theorem d_M_bringIn_93 : decode c_M_bringIn 93 = .ok (.iload 5, 2) := by decide +kernel
theorem d_M_bringIn_95 : decode c_M_bringIn 95 = .ok (.iadd, 1) := by decide +kernel
theorem d_M_bringIn_96 : decode c_M_bringIn 96 = .ok (.iconst 1, 1) := by decide +kernel
theorem d_M_bringIn_97 : decode c_M_bringIn 97 = .ok (.isub, 1) := by decide +kernel
theorem d_M_bringIn_98 : decode c_M_bringIn 98 = .ok (.iaload, 1) := by decide +kernel
theorem d_M_bringIn_99 : decode c_M_bringIn 99 = .ok (.iastore, 1) := by decide +kernel
theorem d_M_bringIn_100 : decode c_M_bringIn 100 = .ok (.iinc 5 (-1), 3) := by decide +kernel
theorem d_M_bringIn_103 : decode c_M_bringIn 103 = .ok (.goto (-36), 3) := by decide +kernel
theorem d_M_bringIn_106 : decode c_M_bringIn 106 = .ok (.aload_n 0, 1) := by decide +kernel
theorem d_M_bringIn_107 : decode c_M_bringIn 107 = .ok (.getfield 53, 3) := by decide +kernel
theorem d_M_bringIn_110 : decode c_M_bringIn 110 = .ok (.bipush 40, 2) := by decide +kernel
theorem d_M_bringIn_112 : decode c_M_bringIn 112 = .ok (.iload_n 1, 1) := by decide +kernel
theorem d_M_bringIn_113 : decode c_M_bringIn 113 = .ok (.imul, 1) := by decide +kernel
theorem d_M_bringIn_114 : decode c_M_bringIn 114 = .ok (.iload 4, 2) := by decide +kernel
theorem d_M_bringIn_116 : decode c_M_bringIn 116 = .ok (.iadd, 1) := by decide +kernel
theorem d_M_bringIn_117 : decode c_M_bringIn 117 = .ok (.iload_n 2, 1) := by decide +kernel
theorem d_M_bringIn_118 : decode c_M_bringIn 118 = .ok (.iastore, 1) := by decide +kernel
theorem d_M_bringIn_119 : decode c_M_bringIn 119 = .ok (.aload_n 0, 1) := by decide +kernel
theorem d_M_bringIn_120 : decode c_M_bringIn 120 = .ok (.getfield 56, 3) := by decide +kernel
theorem d_M_bringIn_123 : decode c_M_bringIn 123 = .ok (.iload_n 1, 1) := by decide +kernel
theorem d_M_bringIn_124 : decode c_M_bringIn 124 = .ok (.dup2, 1) := by decide +kernel
theorem d_M_bringIn_125 : decode c_M_bringIn 125 = .ok (.iaload, 1) := by decide +kernel
theorem d_M_bringIn_126 : decode c_M_bringIn 126 = .ok (.iconst 1, 1) := by decide +kernel
theorem d_M_bringIn_127 : decode c_M_bringIn 127 = .ok (.iadd, 1) := by decide +kernel
theorem d_M_bringIn_128 : decode c_M_bringIn 128 = .ok (.iastore, 1) := by decide +kernel
theorem d_M_bringIn_129 : decode c_M_bringIn 129 = .ok (.return_, 1) := by decide +kernel
theorem d_M_indexOf_0 : decode c_M_indexOf 0 = .ok (.iconst 0, 1) := by decide +kernel
theorem d_M_indexOf_1 : decode c_M_indexOf 1 = .ok (.istore_n 3, 1) := by decide +kernel
theorem d_M_indexOf_2 : decode c_M_indexOf 2 = .ok (.iload_n 3, 1) := by decide +kernel
theorem d_M_indexOf_3 : decode c_M_indexOf 3 = .ok (.aload_n 0, 1) := by decide +kernel
theorem d_M_indexOf_4 : decode c_M_indexOf 4 = .ok (.getfield 56, 3) := by decide +kernel
theorem d_M_indexOf_7 : decode c_M_indexOf 7 = .ok (.iload_n 1, 1) := by decide +kernel
theorem d_M_indexOf_8 : decode c_M_indexOf 8 = .ok (.iaload, 1) := by decide +kernel
theorem d_M_indexOf_9 : decode c_M_indexOf 9 = .ok (.if_icmp .ge 26, 3) := by decide +kernel
theorem d_M_indexOf_12 : decode c_M_indexOf 12 = .ok (.aload_n 0, 1) := by decide +kernel
theorem d_M_indexOf_13 : decode c_M_indexOf 13 = .ok (.getfield 53, 3) := by decide +kernel
theorem d_M_indexOf_16 : decode c_M_indexOf 16 = .ok (.bipush 40, 2) := by decide +kernel
theorem d_M_indexOf_18 : decode c_M_indexOf 18 = .ok (.iload_n 1, 1) := by decide +kernel
theorem d_M_indexOf_19 : decode c_M_indexOf 19 = .ok (.imul, 1) := by decide +kernel
theorem d_M_indexOf_20 : decode c_M_indexOf 20 = .ok (.iload_n 3, 1) := by decide +kernel
theorem d_M_indexOf_21 : decode c_M_indexOf 21 = .ok (.iadd, 1) := by decide +kernel
theorem d_M_indexOf_22 : decode c_M_indexOf 22 = .ok (.iaload, 1) := by decide +kernel
theorem d_M_indexOf_23 : decode c_M_indexOf 23 = .ok (.iload_n 2, 1) := by decide +kernel
theorem d_M_indexOf_24 : decode c_M_indexOf 24 = .ok (.if_icmp .ne 5, 3) := by decide +kernel
theorem d_M_indexOf_27 : decode c_M_indexOf 27 = .ok (.iload_n 3, 1) := by decide +kernel
theorem d_M_indexOf_28 : decode c_M_indexOf 28 = .ok (.ireturn, 1) := by decide +kernel
theorem d_M_indexOf_29 : decode c_M_indexOf 29 = .ok (.iinc 3 1, 3) := by decide +kernel
theorem d_M_indexOf_32 : decode c_M_indexOf 32 = .ok (.goto (-30), 3) := by decide +kernel
theorem d_M_indexOf_35 : decode c_M_indexOf 35 = .ok (.iconst (-1), 1) := by decide +kernel
theorem d_M_indexOf_36 : decode c_M_indexOf 36 = .ok (.ireturn, 1) := by decide +kernel
theorem d_M_takeOut_0 : decode c_M_takeOut 0 = .ok (.aload_n 0, 1) := by decide +kernel
theorem d_M_takeOut_1 : decode c_M_takeOut 1 = .ok (.iload_n 1, 1) := by decide +kernel
theorem d_M_takeOut_2 : decode c_M_takeOut 2 = .ok (.iload_n 2, 1) := by decide +kernel
theorem d_M_takeOut_3 : decode c_M_takeOut 3 = .ok (.invokevirtual 75, 3) := by decide +kernel
theorem d_M_takeOut_6 : decode c_M_takeOut 6 = .ok (.istore_n 3, 1) := by decide +kernel
theorem d_M_takeOut_7 : decode c_M_takeOut 7 = .ok (.iload_n 3, 1) := by decide +kernel
theorem d_M_takeOut_8 : decode c_M_takeOut 8 = .ok (.ifCond .ge 4, 3) := by decide +kernel
theorem d_M_takeOut_11 : decode c_M_takeOut 11 = .ok (.return_, 1) := by decide +kernel
theorem d_M_takeOut_12 : decode c_M_takeOut 12 = .ok (.aload_n 0, 1) := by decide +kernel
theorem d_M_takeOut_13 : decode c_M_takeOut 13 = .ok (.getfield 56, 3) := by decide +kernel
theorem d_M_takeOut_16 : decode c_M_takeOut 16 = .ok (.iload_n 1, 1) := by decide +kernel
theorem d_M_takeOut_17 : decode c_M_takeOut 17 = .ok (.dup2, 1) := by decide +kernel
theorem d_M_takeOut_18 : decode c_M_takeOut 18 = .ok (.iaload, 1) := by decide +kernel
theorem d_M_takeOut_19 : decode c_M_takeOut 19 = .ok (.iconst 1, 1) := by decide +kernel
theorem d_M_takeOut_20 : decode c_M_takeOut 20 = .ok (.isub, 1) := by decide +kernel
theorem d_M_takeOut_21 : decode c_M_takeOut 21 = .ok (.iastore, 1) := by decide +kernel
theorem d_M_takeOut_22 : decode c_M_takeOut 22 = .ok (.iload_n 3, 1) := by decide +kernel
theorem d_M_takeOut_23 : decode c_M_takeOut 23 = .ok (.istore 4, 2) := by decide +kernel
theorem d_M_takeOut_25 : decode c_M_takeOut 25 = .ok (.iload 4, 2) := by decide +kernel
theorem d_M_takeOut_27 : decode c_M_takeOut 27 = .ok (.aload_n 0, 1) := by decide +kernel
theorem d_M_takeOut_28 : decode c_M_takeOut 28 = .ok (.getfield 56, 3) := by decide +kernel
theorem d_M_takeOut_31 : decode c_M_takeOut 31 = .ok (.iload_n 1, 1) := by decide +kernel
theorem d_M_takeOut_32 : decode c_M_takeOut 32 = .ok (.iaload, 1) := by decide +kernel
theorem d_M_takeOut_33 : decode c_M_takeOut 33 = .ok (.if_icmp .ge 35, 3) := by decide +kernel
theorem d_M_takeOut_36 : decode c_M_takeOut 36 = .ok (.aload_n 0, 1) := by decide +kernel
theorem d_M_takeOut_37 : decode c_M_takeOut 37 = .ok (.getfield 53, 3) := by decide +kernel
theorem d_M_takeOut_40 : decode c_M_takeOut 40 = .ok (.bipush 40, 2) := by decide +kernel
theorem d_M_takeOut_42 : decode c_M_takeOut 42 = .ok (.iload_n 1, 1) := by decide +kernel
theorem d_M_takeOut_43 : decode c_M_takeOut 43 = .ok (.imul, 1) := by decide +kernel
theorem d_M_takeOut_44 : decode c_M_takeOut 44 = .ok (.iload 4, 2) := by decide +kernel
theorem d_M_takeOut_46 : decode c_M_takeOut 46 = .ok (.iadd, 1) := by decide +kernel
theorem d_M_takeOut_47 : decode c_M_takeOut 47 = .ok (.aload_n 0, 1) := by decide +kernel
theorem d_M_takeOut_48 : decode c_M_takeOut 48 = .ok (.getfield 53, 3) := by decide +kernel
theorem d_M_takeOut_51 : decode c_M_takeOut 51 = .ok (.bipush 40, 2) := by decide +kernel
theorem d_M_takeOut_53 : decode c_M_takeOut 53 = .ok (.iload_n 1, 1) := by decide +kernel
theorem d_M_takeOut_54 : decode c_M_takeOut 54 = .ok (.imul, 1) := by decide +kernel
theorem d_M_takeOut_55 : decode c_M_takeOut 55 = .ok (.iload 4, 2) := by decide +kernel
theorem d_M_takeOut_57 : decode c_M_takeOut 57 = .ok (.iadd, 1) := by decide +kernel
theorem d_M_takeOut_58 : decode c_M_takeOut 58 = .ok (.iconst 1, 1) := by decide +kernel
theorem d_M_takeOut_59 : decode c_M_takeOut 59 = .ok (.iadd, 1) := by decide +kernel
theorem d_M_takeOut_60 : decode c_M_takeOut 60 = .ok (.iaload, 1) := by decide +kernel
theorem d_M_takeOut_61 : decode c_M_takeOut 61 = .ok (.iastore, 1) := by decide +kernel
theorem d_M_takeOut_62 : decode c_M_takeOut 62 = .ok (.iinc 4 1, 3) := by decide +kernel
theorem d_M_takeOut_65 : decode c_M_takeOut 65 = .ok (.goto (-40), 3) := by decide +kernel
theorem d_M_takeOut_68 : decode c_M_takeOut 68 = .ok (.return_, 1) := by decide +kernel
theorem d_M_isRow_0 : decode c_M_isRow 0 = .ok (.iload_n 0, 1) := by decide +kernel
theorem d_M_isRow_1 : decode c_M_isRow 1 = .ok (.ifCond .lt 12, 3) := by decide +kernel
theorem d_M_isRow_4 : decode c_M_isRow 4 = .ok (.iload_n 0, 1) := by decide +kernel
theorem d_M_isRow_5 : decode c_M_isRow 5 = .ok (.iconst 3, 1) := by decide +kernel
theorem d_M_isRow_6 : decode c_M_isRow 6 = .ok (.if_icmp .ge 7, 3) := by decide +kernel
theorem d_M_isRow_9 : decode c_M_isRow 9 = .ok (.iconst 1, 1) := by decide +kernel
theorem d_M_isRow_10 : decode c_M_isRow 10 = .ok (.goto 4, 3) := by decide +kernel
theorem d_M_isRow_13 : decode c_M_isRow 13 = .ok (.iconst 0, 1) := by decide +kernel
theorem d_M_isRow_14 : decode c_M_isRow 14 = .ok (.ireturn, 1) := by decide +kernel
theorem d_M_insertsOf_0 : decode c_M_insertsOf 0 = .ok (.iconst 0, 1) := by decide +kernel
theorem d_M_insertsOf_1 : decode c_M_insertsOf 1 = .ok (.istore_n 2, 1) := by decide +kernel
theorem d_M_insertsOf_2 : decode c_M_insertsOf 2 = .ok (.iconst 0, 1) := by decide +kernel
theorem d_M_insertsOf_3 : decode c_M_insertsOf 3 = .ok (.istore_n 3, 1) := by decide +kernel
theorem d_M_insertsOf_4 : decode c_M_insertsOf 4 = .ok (.iload_n 3, 1) := by decide +kernel
theorem d_M_insertsOf_5 : decode c_M_insertsOf 5 = .ok (.aload_n 0, 1) := by decide +kernel
theorem d_M_insertsOf_6 : decode c_M_insertsOf 6 = .ok (.getfield 65, 3) := by decide +kernel
theorem d_M_insertsOf_9 : decode c_M_insertsOf 9 = .ok (.if_icmp .ge 37, 3) := by decide +kernel
theorem d_M_insertsOf_12 : decode c_M_insertsOf 12 = .ok (.iload_n 2, 1) := by decide +kernel
theorem d_M_insertsOf_13 : decode c_M_insertsOf 13 = .ok (.aload_n 0, 1) := by decide +kernel
theorem d_M_insertsOf_14 : decode c_M_insertsOf 14 = .ok (.getfield 13, 3) := by decide +kernel
theorem d_M_insertsOf_17 : decode c_M_insertsOf 17 = .ok (.iload_n 3, 1) := by decide +kernel
theorem d_M_insertsOf_18 : decode c_M_insertsOf 18 = .ok (.iaload, 1) := by decide +kernel
theorem d_M_insertsOf_19 : decode c_M_insertsOf 19 = .ok (.iconst 3, 1) := by decide +kernel
theorem d_M_insertsOf_20 : decode c_M_insertsOf 20 = .ok (.if_icmp .ne 17, 3) := by decide +kernel
theorem d_M_insertsOf_23 : decode c_M_insertsOf 23 = .ok (.aload_n 0, 1) := by decide +kernel
theorem d_M_insertsOf_24 : decode c_M_insertsOf 24 = .ok (.getfield 16, 3) := by decide +kernel
theorem d_M_insertsOf_27 : decode c_M_insertsOf 27 = .ok (.iload_n 3, 1) := by decide +kernel
theorem d_M_insertsOf_28 : decode c_M_insertsOf 28 = .ok (.iaload, 1) := by decide +kernel
theorem d_M_insertsOf_29 : decode c_M_insertsOf 29 = .ok (.iload_n 1, 1) := by decide +kernel
theorem d_M_insertsOf_30 : decode c_M_insertsOf 30 = .ok (.if_icmp .ne 7, 3) := by decide +kernel
theorem d_M_insertsOf_33 : decode c_M_insertsOf 33 = .ok (.iconst 1, 1) := by decide +kernel
theorem d_M_insertsOf_34 : decode c_M_insertsOf 34 = .ok (.goto 4, 3) := by decide +kernel
theorem d_M_insertsOf_37 : decode c_M_insertsOf 37 = .ok (.iconst 0, 1) := by decide +kernel
theorem d_M_insertsOf_38 : decode c_M_insertsOf 38 = .ok (.iadd, 1) := by decide +kernel
theorem d_M_insertsOf_39 : decode c_M_insertsOf 39 = .ok (.istore_n 2, 1) := by decide +kernel
theorem d_M_insertsOf_40 : decode c_M_insertsOf 40 = .ok (.iinc 3 1, 3) := by decide +kernel
theorem d_M_insertsOf_43 : decode c_M_insertsOf 43 = .ok (.goto (-39), 3) := by decide +kernel
theorem d_M_insertsOf_46 : decode c_M_insertsOf 46 = .ok (.iload_n 2, 1) := by decide +kernel
theorem d_M_insertsOf_47 : decode c_M_insertsOf 47 = .ok (.ireturn, 1) := by decide +kernel
theorem d_M_tellPlace_0 : decode c_M_tellPlace 0 = .ok (.iconst 0, 1) := by decide +kernel
theorem d_M_tellPlace_1 : decode c_M_tellPlace 1 = .ok (.istore 4, 2) := by decide +kernel
theorem d_M_tellPlace_3 : decode c_M_tellPlace 3 = .ok (.aload_n 0, 1) := by decide +kernel
theorem d_M_tellPlace_4 : decode c_M_tellPlace 4 = .ok (.getfield 56, 3) := by decide +kernel
theorem d_M_tellPlace_7 : decode c_M_tellPlace 7 = .ok (.iload_n 1, 1) := by decide +kernel
theorem d_M_tellPlace_8 : decode c_M_tellPlace 8 = .ok (.iaload, 1) := by decide +kernel
theorem d_M_tellPlace_9 : decode c_M_tellPlace 9 = .ok (.iconst 1, 1) := by decide +kernel
theorem d_M_tellPlace_10 : decode c_M_tellPlace 10 = .ok (.isub, 1) := by decide +kernel
theorem d_M_tellPlace_11 : decode c_M_tellPlace 11 = .ok (.istore 5, 2) := by decide +kernel
theorem d_M_tellPlace_13 : decode c_M_tellPlace 13 = .ok (.iload 5, 2) := by decide +kernel
theorem d_M_tellPlace_15 : decode c_M_tellPlace 15 = .ok (.ifCond .lt 70, 3) := by decide +kernel
theorem d_M_tellPlace_18 : decode c_M_tellPlace 18 = .ok (.aload_n 0, 1) := by decide +kernel
theorem d_M_tellPlace_19 : decode c_M_tellPlace 19 = .ok (.iload_n 1, 1) := by decide +kernel
theorem d_M_tellPlace_20 : decode c_M_tellPlace 20 = .ok (.iload 5, 2) := by decide +kernel
theorem d_M_tellPlace_22 : decode c_M_tellPlace 22 = .ok (.iload_n 3, 1) := by decide +kernel
theorem d_M_tellPlace_23 : decode c_M_tellPlace 23 = .ok (.invokevirtual 71, 3) := by decide +kernel
theorem d_M_tellPlace_26 : decode c_M_tellPlace 26 = .ok (.iload_n 2, 1) := by decide +kernel
theorem d_M_tellPlace_27 : decode c_M_tellPlace 27 = .ok (.if_icmp .ge 52, 3) := by decide +kernel
theorem d_M_tellPlace_30 : decode c_M_tellPlace 30 = .ok (.aload_n 0, 1) := by decide +kernel
theorem d_M_tellPlace_31 : decode c_M_tellPlace 31 = .ok (.getfield 53, 3) := by decide +kernel
theorem d_M_tellPlace_34 : decode c_M_tellPlace 34 = .ok (.bipush 40, 2) := by decide +kernel
theorem d_M_tellPlace_36 : decode c_M_tellPlace 36 = .ok (.iload_n 1, 1) := by decide +kernel
theorem d_M_tellPlace_37 : decode c_M_tellPlace 37 = .ok (.imul, 1) := by decide +kernel
theorem d_M_tellPlace_38 : decode c_M_tellPlace 38 = .ok (.iload 5, 2) := by decide +kernel
theorem d_M_tellPlace_40 : decode c_M_tellPlace 40 = .ok (.iadd, 1) := by decide +kernel
theorem d_M_tellPlace_41 : decode c_M_tellPlace 41 = .ok (.iaload, 1) := by decide +kernel
theorem d_M_tellPlace_42 : decode c_M_tellPlace 42 = .ok (.iload_n 3, 1) := by decide +kernel
theorem d_M_tellPlace_43 : decode c_M_tellPlace 43 = .ok (.if_icmp .ne 6, 3) := by decide +kernel
theorem d_M_tellPlace_46 : decode c_M_tellPlace 46 = .ok (.goto 33, 3) := by decide +kernel
theorem d_M_tellPlace_49 : decode c_M_tellPlace 49 = .ok (.aload_n 0, 1) := by decide +kernel
theorem d_M_tellPlace_50 : decode c_M_tellPlace 50 = .ok (.getfield 30, 3) := by decide +kernel
theorem d_M_tellPlace_53 : decode c_M_tellPlace 53 = .ok (.bipush 40, 2) := by decide +kernel
theorem d_M_tellPlace_55 : decode c_M_tellPlace 55 = .ok (.aload_n 0, 1) := by decide +kernel
theorem d_M_tellPlace_56 : decode c_M_tellPlace 56 = .ok (.getfield 65, 3) := by decide +kernel
theorem d_M_tellPlace_59 : decode c_M_tellPlace 59 = .ok (.imul, 1) := by decide +kernel
theorem d_M_tellPlace_60 : decode c_M_tellPlace 60 = .ok (.iload 4, 2) := by decide +kernel
theorem d_M_tellPlace_62 : decode c_M_tellPlace 62 = .ok (.iadd, 1) := by decide +kernel
theorem d_M_tellPlace_63 : decode c_M_tellPlace 63 = .ok (.aload_n 0, 1) := by decide +kernel
theorem d_M_tellPlace_64 : decode c_M_tellPlace 64 = .ok (.getfield 53, 3) := by decide +kernel
theorem d_M_tellPlace_67 : decode c_M_tellPlace 67 = .ok (.bipush 40, 2) := by decide +kernel
theorem d_M_tellPlace_69 : decode c_M_tellPlace 69 = .ok (.iload_n 1, 1) := by decide +kernel
theorem d_M_tellPlace_70 : decode c_M_tellPlace 70 = .ok (.imul, 1) := by decide +kernel
theorem d_M_tellPlace_71 : decode c_M_tellPlace 71 = .ok (.iload 5, 2) := by decide +kernel
theorem d_M_tellPlace_73 : decode c_M_tellPlace 73 = .ok (.iadd, 1) := by decide +kernel
theorem d_M_tellPlace_74 : decode c_M_tellPlace 74 = .ok (.iaload, 1) := by decide +kernel
theorem d_M_tellPlace_75 : decode c_M_tellPlace 75 = .ok (.iastore, 1) := by decide +kernel
theorem d_M_tellPlace_76 : decode c_M_tellPlace 76 = .ok (.iinc 4 1, 3) := by decide +kernel
theorem d_M_tellPlace_79 : decode c_M_tellPlace 79 = .ok (.iinc 5 (-1), 3) := by decide +kernel
theorem d_M_tellPlace_82 : decode c_M_tellPlace 82 = .ok (.goto (-69), 3) := by decide +kernel
theorem d_M_tellPlace_85 : decode c_M_tellPlace 85 = .ok (.aload_n 0, 1) := by decide +kernel
theorem d_M_tellPlace_86 : decode c_M_tellPlace 86 = .ok (.getfield 33, 3) := by decide +kernel
theorem d_M_tellPlace_89 : decode c_M_tellPlace 89 = .ok (.aload_n 0, 1) := by decide +kernel
theorem d_M_tellPlace_90 : decode c_M_tellPlace 90 = .ok (.getfield 65, 3) := by decide +kernel
theorem d_M_tellPlace_93 : decode c_M_tellPlace 93 = .ok (.iload 4, 2) := by decide +kernel
theorem d_M_tellPlace_95 : decode c_M_tellPlace 95 = .ok (.iastore, 1) := by decide +kernel
theorem d_M_tellPlace_96 : decode c_M_tellPlace 96 = .ok (.return_, 1) := by decide +kernel
theorem d_M_indexWithout_0 : decode c_M_indexWithout 0 = .ok (.iconst 0, 1) := by decide +kernel
theorem d_M_indexWithout_1 : decode c_M_indexWithout 1 = .ok (.istore 4, 2) := by decide +kernel
theorem d_M_indexWithout_3 : decode c_M_indexWithout 3 = .ok (.iconst 0, 1) := by decide +kernel
theorem d_M_indexWithout_4 : decode c_M_indexWithout 4 = .ok (.istore 5, 2) := by decide +kernel
theorem d_M_indexWithout_6 : decode c_M_indexWithout 6 = .ok (.iload 5, 2) := by decide +kernel
theorem d_M_indexWithout_8 : decode c_M_indexWithout 8 = .ok (.iload_n 2, 1) := by decide +kernel
theorem d_M_indexWithout_9 : decode c_M_indexWithout 9 = .ok (.if_icmp .ge 35, 3) := by decide +kernel
theorem d_M_indexWithout_12 : decode c_M_indexWithout 12 = .ok (.iload 4, 2) := by decide +kernel
theorem d_M_indexWithout_14 : decode c_M_indexWithout 14 = .ok (.aload_n 0, 1) := by decide +kernel
theorem d_M_indexWithout_15 : decode c_M_indexWithout 15 = .ok (.getfield 53, 3) := by decide +kernel
theorem d_M_indexWithout_18 : decode c_M_indexWithout 18 = .ok (.bipush 40, 2) := by decide +kernel
theorem d_M_indexWithout_20 : decode c_M_indexWithout 20 = .ok (.iload_n 1, 1) := by decide +kernel
theorem d_M_indexWithout_21 : decode c_M_indexWithout 21 = .ok (.imul, 1) := by decide +kernel
theorem d_M_indexWithout_22 : decode c_M_indexWithout 22 = .ok (.iload 5, 2) := by decide +kernel
theorem d_M_indexWithout_24 : decode c_M_indexWithout 24 = .ok (.iadd, 1) := by decide +kernel
theorem d_M_indexWithout_25 : decode c_M_indexWithout 25 = .ok (.iaload, 1) := by decide +kernel
theorem d_M_indexWithout_26 : decode c_M_indexWithout 26 = .ok (.iload_n 3, 1) := by decide +kernel
theorem d_M_indexWithout_27 : decode c_M_indexWithout 27 = .ok (.if_icmp .ne 7, 3) := by decide +kernel
theorem d_M_indexWithout_30 : decode c_M_indexWithout 30 = .ok (.iconst 0, 1) := by decide +kernel
theorem d_M_indexWithout_31 : decode c_M_indexWithout 31 = .ok (.goto 4, 3) := by decide +kernel
theorem d_M_indexWithout_34 : decode c_M_indexWithout 34 = .ok (.iconst 1, 1) := by decide +kernel
theorem d_M_indexWithout_35 : decode c_M_indexWithout 35 = .ok (.iadd, 1) := by decide +kernel
theorem d_M_indexWithout_36 : decode c_M_indexWithout 36 = .ok (.istore 4, 2) := by decide +kernel
theorem d_M_indexWithout_38 : decode c_M_indexWithout 38 = .ok (.iinc 5 1, 3) := by decide +kernel
theorem d_M_indexWithout_41 : decode c_M_indexWithout 41 = .ok (.goto (-35), 3) := by decide +kernel
theorem d_M_indexWithout_44 : decode c_M_indexWithout 44 = .ok (.iload 4, 2) := by decide +kernel
theorem d_M_indexWithout_46 : decode c_M_indexWithout 46 = .ok (.ireturn, 1) := by decide +kernel
theorem d_M_remove_0 : decode c_M_remove 0 = .ok (.aload_n 0, 1) := by decide +kernel
theorem d_M_remove_1 : decode c_M_remove 1 = .ok (.invokevirtual 117, 3) := by decide +kernel
theorem d_M_remove_4 : decode c_M_remove 4 = .ok (.iload_n 1, 1) := by decide +kernel
theorem d_M_remove_5 : decode c_M_remove 5 = .ok (.invokestatic 120, 3) := by decide +kernel
theorem d_M_remove_8 : decode c_M_remove 8 = .ok (.ifCond .eq 24, 3) := by decide +kernel
theorem d_M_remove_11 : decode c_M_remove 11 = .ok (.iload_n 2, 1) := by decide +kernel
theorem d_M_remove_12 : decode c_M_remove 12 = .ok (.ifCond .lt 20, 3) := by decide +kernel
theorem d_M_remove_15 : decode c_M_remove 15 = .ok (.iload_n 2, 1) := by decide +kernel
theorem d_M_remove_16 : decode c_M_remove 16 = .ok (.aload_n 0, 1) := by decide +kernel
theorem d_M_remove_17 : decode c_M_remove 17 = .ok (.getfield 56, 3) := by decide +kernel
theorem d_M_remove_20 : decode c_M_remove 20 = .ok (.iload_n 1, 1) := by decide +kernel
theorem d_M_remove_21 : decode c_M_remove 21 = .ok (.iaload, 1) := by decide +kernel
theorem d_M_remove_22 : decode c_M_remove 22 = .ok (.if_icmp .ge 10, 3) := by decide +kernel
theorem d_M_remove_25 : decode c_M_remove 25 = .ok (.aload_n 0, 1) := by decide +kernel
theorem d_M_remove_26 : decode c_M_remove 26 = .ok (.invokevirtual 109, 3) := by decide +kernel
theorem d_M_remove_29 : decode c_M_remove 29 = .ok (.ifCond .eq 5, 3) := by decide +kernel
theorem d_M_remove_32 : decode c_M_remove 32 = .ok (.iconst 0, 1) := by decide +kernel
theorem d_M_remove_33 : decode c_M_remove 33 = .ok (.ireturn, 1) := by decide +kernel
theorem d_M_remove_34 : decode c_M_remove 34 = .ok (.aload_n 0, 1) := by decide +kernel
theorem d_M_remove_35 : decode c_M_remove 35 = .ok (.iconst 4, 1) := by decide +kernel
theorem d_M_remove_36 : decode c_M_remove 36 = .ok (.iload_n 1, 1) := by decide +kernel
theorem d_M_remove_37 : decode c_M_remove 37 = .ok (.aload_n 0, 1) := by decide +kernel
theorem d_M_remove_38 : decode c_M_remove 38 = .ok (.getfield 53, 3) := by decide +kernel
theorem d_M_remove_41 : decode c_M_remove 41 = .ok (.bipush 40, 2) := by decide +kernel
theorem d_M_remove_43 : decode c_M_remove 43 = .ok (.iload_n 1, 1) := by decide +kernel
theorem d_M_remove_44 : decode c_M_remove 44 = .ok (.imul, 1) := by decide +kernel
theorem d_M_remove_45 : decode c_M_remove 45 = .ok (.iload_n 2, 1) := by decide +kernel
theorem d_M_remove_46 : decode c_M_remove 46 = .ok (.iadd, 1) := by decide +kernel
theorem d_M_remove_47 : decode c_M_remove 47 = .ok (.iaload, 1) := by decide +kernel
theorem d_M_remove_48 : decode c_M_remove 48 = .ok (.lconst 0, 1) := by decide +kernel
theorem d_M_remove_49 : decode c_M_remove 49 = .ok (.invokevirtual 113, 3) := by decide +kernel
theorem d_M_remove_52 : decode c_M_remove 52 = .ok (.ireturn, 1) := by decide +kernel
theorem d_M_move_0 : decode c_M_move 0 = .ok (.aload_n 0, 1) := by decide +kernel
theorem d_M_move_1 : decode c_M_move 1 = .ok (.invokevirtual 117, 3) := by decide +kernel
theorem d_M_move_4 : decode c_M_move 4 = .ok (.iload_n 1, 1) := by decide +kernel
theorem d_M_move_5 : decode c_M_move 5 = .ok (.invokestatic 120, 3) := by decide +kernel
theorem d_M_move_8 : decode c_M_move 8 = .ok (.ifCond .eq 38, 3) := by decide +kernel
theorem d_M_move_11 : decode c_M_move 11 = .ok (.iload_n 2, 1) := by decide +kernel
theorem d_M_move_12 : decode c_M_move 12 = .ok (.ifCond .lt 34, 3) := by decide +kernel
theorem d_M_move_15 : decode c_M_move 15 = .ok (.iload_n 2, 1) := by decide +kernel
theorem d_M_move_16 : decode c_M_move 16 = .ok (.aload_n 0, 1) := by decide +kernel
theorem d_M_move_17 : decode c_M_move 17 = .ok (.getfield 56, 3) := by decide +kernel
theorem d_M_move_20 : decode c_M_move 20 = .ok (.iload_n 1, 1) := by decide +kernel
theorem d_M_move_21 : decode c_M_move 21 = .ok (.iaload, 1) := by decide +kernel
theorem d_M_move_22 : decode c_M_move 22 = .ok (.if_icmp .ge 24, 3) := by decide +kernel
theorem d_M_move_25 : decode c_M_move 25 = .ok (.iload_n 3, 1) := by decide +kernel
theorem d_M_move_26 : decode c_M_move 26 = .ok (.ifCond .lt 20, 3) := by decide +kernel
theorem d_M_move_29 : decode c_M_move 29 = .ok (.iload_n 3, 1) := by decide +kernel
theorem d_M_move_30 : decode c_M_move 30 = .ok (.aload_n 0, 1) := by decide +kernel
theorem d_M_move_31 : decode c_M_move 31 = .ok (.getfield 56, 3) := by decide +kernel
theorem d_M_move_34 : decode c_M_move 34 = .ok (.iload_n 1, 1) := by decide +kernel
theorem d_M_move_35 : decode c_M_move 35 = .ok (.iaload, 1) := by decide +kernel
theorem d_M_move_36 : decode c_M_move 36 = .ok (.if_icmp .ge 10, 3) := by decide +kernel
theorem d_M_move_39 : decode c_M_move 39 = .ok (.aload_n 0, 1) := by decide +kernel
theorem d_M_move_40 : decode c_M_move 40 = .ok (.invokevirtual 109, 3) := by decide +kernel
theorem d_M_move_43 : decode c_M_move 43 = .ok (.ifCond .eq 5, 3) := by decide +kernel
theorem d_M_move_46 : decode c_M_move 46 = .ok (.iconst 0, 1) := by decide +kernel
theorem d_M_move_47 : decode c_M_move 47 = .ok (.ireturn, 1) := by decide +kernel
theorem d_M_move_48 : decode c_M_move 48 = .ok (.aload_n 0, 1) := by decide +kernel
theorem d_M_move_49 : decode c_M_move 49 = .ok (.getfield 53, 3) := by decide +kernel
theorem d_M_move_52 : decode c_M_move 52 = .ok (.bipush 40, 2) := by decide +kernel
theorem d_M_move_54 : decode c_M_move 54 = .ok (.iload_n 1, 1) := by decide +kernel
theorem d_M_move_55 : decode c_M_move 55 = .ok (.imul, 1) := by decide +kernel
theorem d_M_move_56 : decode c_M_move 56 = .ok (.iload_n 2, 1) := by decide +kernel
theorem d_M_move_57 : decode c_M_move 57 = .ok (.iadd, 1) := by decide +kernel
theorem d_M_move_58 : decode c_M_move 58 = .ok (.iaload, 1) := by decide +kernel
theorem d_M_move_59 : decode c_M_move 59 = .ok (.istore 4, 2) := by decide +kernel
theorem d_M_move_61 : decode c_M_move 61 = .ok (.aload_n 0, 1) := by decide +kernel
theorem d_M_move_62 : decode c_M_move 62 = .ok (.iload_n 1, 1) := by decide +kernel
theorem d_M_move_63 : decode c_M_move 63 = .ok (.iload_n 3, 1) := by decide +kernel
theorem d_M_move_64 : decode c_M_move 64 = .ok (.iload 4, 2) := by decide +kernel
theorem d_M_move_66 : decode c_M_move 66 = .ok (.invokevirtual 126, 3) := by decide +kernel
theorem d_M_move_69 : decode c_M_move 69 = .ok (.aload_n 0, 1) := by decide +kernel
theorem d_M_move_70 : decode c_M_move 70 = .ok (.iconst 5, 1) := by decide +kernel
theorem d_M_move_71 : decode c_M_move 71 = .ok (.iload_n 1, 1) := by decide +kernel
theorem d_M_move_72 : decode c_M_move 72 = .ok (.iload 4, 2) := by decide +kernel
theorem d_M_move_74 : decode c_M_move 74 = .ok (.lconst 0, 1) := by decide +kernel
theorem d_M_move_75 : decode c_M_move 75 = .ok (.invokevirtual 113, 3) := by decide +kernel
theorem d_M_move_78 : decode c_M_move 78 = .ok (.ireturn, 1) := by decide +kernel
theorem d_M_node_0 : decode c_M_node 0 = .ok (.aload_n 0, 1) := by decide +kernel
theorem d_M_node_1 : decode c_M_node 1 = .ok (.invokevirtual 117, 3) := by decide +kernel
theorem d_M_node_4 : decode c_M_node 4 = .ok (.iload_n 1, 1) := by decide +kernel
theorem d_M_node_5 : decode c_M_node 5 = .ok (.ifCond .eq 11, 3) := by decide +kernel
theorem d_M_node_8 : decode c_M_node 8 = .ok (.aload_n 0, 1) := by decide +kernel
theorem d_M_node_9 : decode c_M_node 9 = .ok (.iload_n 1, 1) := by decide +kernel
theorem d_M_node_10 : decode c_M_node 10 = .ok (.invokevirtual 129, 3) := by decide +kernel
theorem d_M_node_13 : decode c_M_node 13 = .ok (.ifCond .eq 10, 3) := by decide +kernel
theorem d_M_node_16 : decode c_M_node 16 = .ok (.aload_n 0, 1) := by decide +kernel
theorem d_M_node_17 : decode c_M_node 17 = .ok (.invokevirtual 109, 3) := by decide +kernel
theorem d_M_node_20 : decode c_M_node 20 = .ok (.ifCond .eq 5, 3) := by decide +kernel
theorem d_M_node_23 : decode c_M_node 23 = .ok (.iconst 0, 1) := by decide +kernel
theorem d_M_node_24 : decode c_M_node 24 = .ok (.ireturn, 1) := by decide +kernel
theorem d_M_node_25 : decode c_M_node 25 = .ok (.aload_n 0, 1) := by decide +kernel
theorem d_M_node_26 : decode c_M_node 26 = .ok (.bipush 6, 2) := by decide +kernel
theorem d_M_node_28 : decode c_M_node 28 = .ok (.iconst 0, 1) := by decide +kernel
theorem d_M_node_29 : decode c_M_node 29 = .ok (.iload_n 1, 1) := by decide +kernel
theorem d_M_node_30 : decode c_M_node 30 = .ok (.lconst 0, 1) := by decide +kernel
theorem d_M_node_31 : decode c_M_node 31 = .ok (.invokevirtual 113, 3) := by decide +kernel
theorem d_M_node_34 : decode c_M_node 34 = .ok (.ireturn, 1) := by decide +kernel
theorem d_M_isNode_0 : decode c_M_isNode 0 = .ok (.aload_n 0, 1) := by decide +kernel
theorem d_M_isNode_1 : decode c_M_isNode 1 = .ok (.iload_n 1, 1) := by decide +kernel
theorem d_M_isNode_2 : decode c_M_isNode 2 = .ok (.invokevirtual 79, 3) := by decide +kernel
theorem d_M_isNode_5 : decode c_M_isNode 5 = .ok (.istore_n 2, 1) := by decide +kernel
theorem d_M_isNode_6 : decode c_M_isNode 6 = .ok (.iload_n 2, 1) := by decide +kernel
theorem d_M_isNode_7 : decode c_M_isNode 7 = .ok (.ifCond .lt 27, 3) := by decide +kernel
theorem d_M_isNode_10 : decode c_M_isNode 10 = .ok (.aload_n 0, 1) := by decide +kernel
theorem d_M_isNode_11 : decode c_M_isNode 11 = .ok (.getfield 13, 3) := by decide +kernel
theorem d_M_isNode_14 : decode c_M_isNode 14 = .ok (.iload_n 2, 1) := by decide +kernel
theorem d_M_isNode_15 : decode c_M_isNode 15 = .ok (.iaload, 1) := by decide +kernel
theorem d_M_isNode_16 : decode c_M_isNode 16 = .ok (.bipush 6, 2) := by decide +kernel
theorem d_M_isNode_18 : decode c_M_isNode 18 = .ok (.if_icmp .ne 16, 3) := by decide +kernel
theorem d_M_isNode_21 : decode c_M_isNode 21 = .ok (.aload_n 0, 1) := by decide +kernel
theorem d_M_isNode_22 : decode c_M_isNode 22 = .ok (.getfield 59, 3) := by decide +kernel
theorem d_M_isNode_25 : decode c_M_isNode 25 = .ok (.iload_n 2, 1) := by decide +kernel
theorem d_M_isNode_26 : decode c_M_isNode 26 = .ok (.baload, 1) := by decide +kernel
theorem d_M_isNode_27 : decode c_M_isNode 27 = .ok (.ifCond .eq 7, 3) := by decide +kernel
theorem d_M_isNode_30 : decode c_M_isNode 30 = .ok (.iconst 1, 1) := by decide +kernel
theorem d_M_isNode_31 : decode c_M_isNode 31 = .ok (.goto 4, 3) := by decide +kernel
theorem d_M_isNode_34 : decode c_M_isNode 34 = .ok (.iconst 0, 1) := by decide +kernel
theorem d_M_isNode_35 : decode c_M_isNode 35 = .ok (.ireturn, 1) := by decide +kernel
theorem d_M_unlink_0 : decode c_M_unlink 0 = .ok (.aload_n 0, 1) := by decide +kernel
theorem d_M_unlink_1 : decode c_M_unlink 1 = .ok (.invokevirtual 117, 3) := by decide +kernel
theorem d_M_unlink_4 : decode c_M_unlink 4 = .ok (.aload_n 0, 1) := by decide +kernel
theorem d_M_unlink_5 : decode c_M_unlink 5 = .ok (.iload_n 1, 1) := by decide +kernel
theorem d_M_unlink_6 : decode c_M_unlink 6 = .ok (.invokevirtual 129, 3) := by decide +kernel
theorem d_M_unlink_9 : decode c_M_unlink 9 = .ok (.ifCond .eq 10, 3) := by decide +kernel
theorem d_M_unlink_12 : decode c_M_unlink 12 = .ok (.aload_n 0, 1) := by decide +kernel
theorem d_M_unlink_13 : decode c_M_unlink 13 = .ok (.invokevirtual 109, 3) := by decide +kernel
theorem d_M_unlink_16 : decode c_M_unlink 16 = .ok (.ifCond .eq 5, 3) := by decide +kernel
theorem d_M_unlink_19 : decode c_M_unlink 19 = .ok (.iconst 0, 1) := by decide +kernel
theorem d_M_unlink_20 : decode c_M_unlink 20 = .ok (.ireturn, 1) := by decide +kernel
theorem d_M_unlink_21 : decode c_M_unlink 21 = .ok (.aload_n 0, 1) := by decide +kernel
theorem d_M_unlink_22 : decode c_M_unlink 22 = .ok (.bipush 7, 2) := by decide +kernel
theorem d_M_unlink_24 : decode c_M_unlink 24 = .ok (.iload_n 1, 1) := by decide +kernel
theorem d_M_unlink_25 : decode c_M_unlink 25 = .ok (.iconst 0, 1) := by decide +kernel
theorem d_M_unlink_26 : decode c_M_unlink 26 = .ok (.lconst 0, 1) := by decide +kernel
theorem d_M_unlink_27 : decode c_M_unlink 27 = .ok (.invokevirtual 113, 3) := by decide +kernel
theorem d_M_unlink_30 : decode c_M_unlink 30 = .ok (.ireturn, 1) := by decide +kernel
theorem d_M_link_0 : decode c_M_link 0 = .ok (.aload_n 0, 1) := by decide +kernel
theorem d_M_link_1 : decode c_M_link 1 = .ok (.invokevirtual 117, 3) := by decide +kernel
theorem d_M_link_4 : decode c_M_link 4 = .ok (.aload_n 0, 1) := by decide +kernel
theorem d_M_link_5 : decode c_M_link 5 = .ok (.iload_n 1, 1) := by decide +kernel
theorem d_M_link_6 : decode c_M_link 6 = .ok (.invokevirtual 129, 3) := by decide +kernel
theorem d_M_link_9 : decode c_M_link 9 = .ok (.ifCond .eq 31, 3) := by decide +kernel
theorem d_M_link_12 : decode c_M_link 12 = .ok (.iload_n 2, 1) := by decide +kernel
theorem d_M_link_13 : decode c_M_link 13 = .ok (.ifCond .eq 11, 3) := by decide +kernel
theorem d_M_link_16 : decode c_M_link 16 = .ok (.aload_n 0, 1) := by decide +kernel
theorem d_M_link_17 : decode c_M_link 17 = .ok (.iload_n 2, 1) := by decide +kernel
theorem d_M_link_18 : decode c_M_link 18 = .ok (.invokevirtual 129, 3) := by decide +kernel
theorem d_M_link_21 : decode c_M_link 21 = .ok (.ifCond .eq 19, 3) := by decide +kernel
theorem d_M_link_24 : decode c_M_link 24 = .ok (.aload_n 0, 1) := by decide +kernel
theorem d_M_link_25 : decode c_M_link 25 = .ok (.iload_n 2, 1) := by decide +kernel
theorem d_M_link_26 : decode c_M_link 26 = .ok (.iload_n 1, 1) := by decide +kernel
theorem d_M_link_27 : decode c_M_link 27 = .ok (.invokevirtual 87, 3) := by decide +kernel
theorem d_M_link_30 : decode c_M_link 30 = .ok (.ifCond .ne 10, 3) := by decide +kernel
theorem d_M_link_33 : decode c_M_link 33 = .ok (.aload_n 0, 1) := by decide +kernel
theorem d_M_link_34 : decode c_M_link 34 = .ok (.invokevirtual 109, 3) := by decide +kernel
theorem d_M_link_37 : decode c_M_link 37 = .ok (.ifCond .eq 5, 3) := by decide +kernel
theorem d_M_link_40 : decode c_M_link 40 = .ok (.iconst 0, 1) := by decide +kernel
theorem d_M_link_41 : decode c_M_link 41 = .ok (.ireturn, 1) := by decide +kernel
theorem d_M_link_42 : decode c_M_link 42 = .ok (.aload_n 0, 1) := by decide +kernel
theorem d_M_link_43 : decode c_M_link 43 = .ok (.bipush 8, 2) := by decide +kernel
theorem d_M_link_45 : decode c_M_link 45 = .ok (.iload_n 1, 1) := by decide +kernel
theorem d_M_link_46 : decode c_M_link 46 = .ok (.iload_n 2, 1) := by decide +kernel
theorem d_M_link_47 : decode c_M_link 47 = .ok (.lconst 0, 1) := by decide +kernel
theorem d_M_link_48 : decode c_M_link 48 = .ok (.invokevirtual 113, 3) := by decide +kernel
theorem d_M_link_51 : decode c_M_link 51 = .ok (.ireturn, 1) := by decide +kernel
theorem d_M_undo_0 : decode c_M_undo 0 = .ok (.aload_n 0, 1) := by decide +kernel
theorem d_M_undo_1 : decode c_M_undo 1 = .ok (.iload_n 1, 1) := by decide +kernel
theorem d_M_undo_2 : decode c_M_undo 2 = .ok (.invokevirtual 79, 3) := by decide +kernel
theorem d_M_undo_5 : decode c_M_undo 5 = .ok (.istore_n 3, 1) := by decide +kernel
theorem d_M_undo_6 : decode c_M_undo 6 = .ok (.iload_n 3, 1) := by decide +kernel
theorem d_M_undo_7 : decode c_M_undo 7 = .ok (.ifCond .lt 12, 3) := by decide +kernel
theorem d_M_undo_10 : decode c_M_undo 10 = .ok (.aload_n 0, 1) := by decide +kernel
theorem d_M_undo_11 : decode c_M_undo 11 = .ok (.getfield 26, 3) := by decide +kernel
theorem d_M_undo_14 : decode c_M_undo 14 = .ok (.iload_n 3, 1) := by decide +kernel
theorem d_M_undo_15 : decode c_M_undo 15 = .ok (.baload, 1) := by decide +kernel
theorem d_M_undo_16 : decode c_M_undo 16 = .ok (.ifCond .ne 5, 3) := by decide +kernel
theorem d_M_undo_19 : decode c_M_undo 19 = .ok (.iconst 0, 1) := by decide +kernel
theorem d_M_undo_20 : decode c_M_undo 20 = .ok (.ireturn, 1) := by decide +kernel
theorem d_M_undo_21 : decode c_M_undo 21 = .ok (.aload_n 0, 1) := by decide +kernel
theorem d_M_undo_22 : decode c_M_undo 22 = .ok (.aload_n 0, 1) := by decide +kernel
theorem d_M_undo_23 : decode c_M_undo 23 = .ok (.getfield 65, 3) := by decide +kernel
theorem d_M_undo_26 : decode c_M_undo 26 = .ok (.iload_n 3, 1) := by decide +kernel
theorem d_M_undo_27 : decode c_M_undo 27 = .ok (.invokevirtual 106, 3) := by decide +kernel
theorem d_M_undo_30 : decode c_M_undo 30 = .ok (.aload_n 0, 1) := by decide +kernel
theorem d_M_undo_31 : decode c_M_undo 31 = .ok (.getfield 43, 3) := by decide +kernel
theorem d_M_undo_34 : decode c_M_undo 34 = .ok (.ifCond .lt 18, 3) := by decide +kernel
theorem d_M_undo_37 : decode c_M_undo 37 = .ok (.iload_n 2, 1) := by decide +kernel
theorem d_M_undo_38 : decode c_M_undo 38 = .ok (.ifCond .ne 14, 3) := by decide +kernel
theorem d_M_undo_41 : decode c_M_undo 41 = .ok (.aload_n 0, 1) := by decide +kernel
theorem d_M_undo_42 : decode c_M_undo 42 = .ok (.getfield 7, 3) := by decide +kernel
theorem d_M_undo_45 : decode c_M_undo 45 = .ok (.aload_n 0, 1) := by decide +kernel
theorem d_M_undo_46 : decode c_M_undo 46 = .ok (.getfield 43, 3) := by decide +kernel
theorem d_M_undo_49 : decode c_M_undo 49 = .ok (.iaload, 1) := by decide +kernel
theorem d_M_undo_50 : decode c_M_undo 50 = .ok (.ineg, 1) := by decide +kernel
theorem d_M_undo_51 : decode c_M_undo 51 = .ok (.ireturn, 1) := by decide +kernel
theorem d_M_undo_52 : decode c_M_undo 52 = .ok (.aload_n 0, 1) := by decide +kernel
theorem d_M_undo_53 : decode c_M_undo 53 = .ok (.getfield 26, 3) := by decide +kernel
theorem d_M_undo_56 : decode c_M_undo 56 = .ok (.iload_n 3, 1) := by decide +kernel
theorem d_M_undo_57 : decode c_M_undo 57 = .ok (.iconst 0, 1) := by decide +kernel
theorem d_M_undo_58 : decode c_M_undo 58 = .ok (.bastore, 1) := by decide +kernel
theorem d_M_undo_59 : decode c_M_undo 59 = .ok (.aload_n 0, 1) := by decide +kernel
theorem d_M_undo_60 : decode c_M_undo 60 = .ok (.iconst 0, 1) := by decide +kernel
theorem d_M_undo_61 : decode c_M_undo 61 = .ok (.putfield 132, 3) := by decide +kernel
theorem d_M_undo_64 : decode c_M_undo 64 = .ok (.aload_n 0, 1) := by decide +kernel
theorem d_M_undo_65 : decode c_M_undo 65 = .ok (.getfield 43, 3) := by decide +kernel
theorem d_M_undo_68 : decode c_M_undo 68 = .ok (.ifCond .lt 53, 3) := by decide +kernel
theorem d_M_undo_71 : decode c_M_undo 71 = .ok (.aload_n 0, 1) := by decide +kernel
theorem d_M_undo_72 : decode c_M_undo 72 = .ok (.getfield 26, 3) := by decide +kernel
theorem d_M_undo_75 : decode c_M_undo 75 = .ok (.aload_n 0, 1) := by decide +kernel
theorem d_M_undo_76 : decode c_M_undo 76 = .ok (.getfield 43, 3) := by decide +kernel
theorem d_M_undo_79 : decode c_M_undo 79 = .ok (.iconst 0, 1) := by decide +kernel
theorem d_M_undo_80 : decode c_M_undo 80 = .ok (.bastore, 1) := by decide +kernel
theorem d_M_undo_81 : decode c_M_undo 81 = .ok (.aload_n 0, 1) := by decide +kernel
theorem d_M_undo_82 : decode c_M_undo 82 = .ok (.getfield 36, 3) := by decide +kernel
theorem d_M_undo_85 : decode c_M_undo 85 = .ok (.aload_n 0, 1) := by decide +kernel
theorem d_M_undo_86 : decode c_M_undo 86 = .ok (.getfield 132, 3) := by decide +kernel
theorem d_M_undo_89 : decode c_M_undo 89 = .ok (.aload_n 0, 1) := by decide +kernel
theorem d_M_undo_90 : decode c_M_undo 90 = .ok (.getfield 7, 3) := by decide +kernel
theorem d_M_undo_93 : decode c_M_undo 93 = .ok (.aload_n 0, 1) := by decide +kernel
theorem d_M_undo_94 : decode c_M_undo 94 = .ok (.getfield 43, 3) := by decide +kernel
theorem d_M_undo_97 : decode c_M_undo 97 = .ok (.iaload, 1) := by decide +kernel
theorem d_M_undo_98 : decode c_M_undo 98 = .ok (.iastore, 1) := by decide +kernel
theorem d_M_undo_99 : decode c_M_undo 99 = .ok (.aload_n 0, 1) := by decide +kernel
theorem d_M_undo_100 : decode c_M_undo 100 = .ok (.dup, 1) := by decide +kernel
theorem d_M_undo_101 : decode c_M_undo 101 = .ok (.getfield 132, 3) := by decide +kernel
theorem d_M_undo_104 : decode c_M_undo 104 = .ok (.iconst 1, 1) := by decide +kernel
theorem d_M_undo_105 : decode c_M_undo 105 = .ok (.iadd, 1) := by decide +kernel
theorem d_M_undo_106 : decode c_M_undo 106 = .ok (.putfield 132, 3) := by decide +kernel
theorem d_M_undo_109 : decode c_M_undo 109 = .ok (.aload_n 0, 1) := by decide +kernel
theorem d_M_undo_110 : decode c_M_undo 110 = .ok (.aload_n 0, 1) := by decide +kernel
theorem d_M_undo_111 : decode c_M_undo 111 = .ok (.getfield 65, 3) := by decide +kernel
theorem d_M_undo_114 : decode c_M_undo 114 = .ok (.iconst (-1), 1) := by decide +kernel
theorem d_M_undo_115 : decode c_M_undo 115 = .ok (.invokevirtual 106, 3) := by decide +kernel
theorem d_M_undo_118 : decode c_M_undo 118 = .ok (.goto (-54), 3) := by decide +kernel
theorem d_M_undo_121 : decode c_M_undo 121 = .ok (.iconst 1, 1) := by decide +kernel
theorem d_M_undo_122 : decode c_M_undo 122 = .ok (.ireturn, 1) := by decide +kernel
theorem d_M_redo_0 : decode c_M_redo 0 = .ok (.aload_n 0, 1) := by decide +kernel
theorem d_M_redo_1 : decode c_M_redo 1 = .ok (.iload_n 1, 1) := by decide +kernel
theorem d_M_redo_2 : decode c_M_redo 2 = .ok (.invokevirtual 79, 3) := by decide +kernel
theorem d_M_redo_5 : decode c_M_redo 5 = .ok (.istore_n 2, 1) := by decide +kernel
theorem d_M_redo_6 : decode c_M_redo 6 = .ok (.iload_n 2, 1) := by decide +kernel
theorem d_M_redo_7 : decode c_M_redo 7 = .ok (.ifCond .lt 12, 3) := by decide +kernel
theorem d_M_redo_10 : decode c_M_redo 10 = .ok (.aload_n 0, 1) := by decide +kernel
theorem d_M_redo_11 : decode c_M_redo 11 = .ok (.getfield 26, 3) := by decide +kernel
theorem d_M_redo_14 : decode c_M_redo 14 = .ok (.iload_n 2, 1) := by decide +kernel
theorem d_M_redo_15 : decode c_M_redo 15 = .ok (.baload, 1) := by decide +kernel
theorem d_M_redo_16 : decode c_M_redo 16 = .ok (.ifCond .eq 5, 3) := by decide +kernel
theorem d_M_redo_19 : decode c_M_redo 19 = .ok (.iconst 0, 1) := by decide +kernel
theorem d_M_redo_20 : decode c_M_redo 20 = .ok (.ireturn, 1) := by decide +kernel
theorem d_M_redo_21 : decode c_M_redo 21 = .ok (.aload_n 0, 1) := by decide +kernel
theorem d_M_redo_22 : decode c_M_redo 22 = .ok (.getfield 26, 3) := by decide +kernel
theorem d_M_redo_25 : decode c_M_redo 25 = .ok (.iload_n 2, 1) := by decide +kernel
theorem d_M_redo_26 : decode c_M_redo 26 = .ok (.iconst 1, 1) := by decide +kernel
theorem d_M_redo_27 : decode c_M_redo 27 = .ok (.bastore, 1) := by decide +kernel
theorem d_M_redo_28 : decode c_M_redo 28 = .ok (.aload_n 0, 1) := by decide +kernel
theorem d_M_redo_29 : decode c_M_redo 29 = .ok (.aload_n 0, 1) := by decide +kernel
theorem d_M_redo_30 : decode c_M_redo 30 = .ok (.getfield 65, 3) := by decide +kernel
theorem d_M_redo_33 : decode c_M_redo 33 = .ok (.iconst (-1), 1) := by decide +kernel
theorem d_M_redo_34 : decode c_M_redo 34 = .ok (.invokevirtual 106, 3) := by decide +kernel
theorem d_M_redo_37 : decode c_M_redo 37 = .ok (.aload_n 0, 1) := by decide +kernel
theorem d_M_redo_38 : decode c_M_redo 38 = .ok (.getfield 43, 3) := by decide +kernel
theorem d_M_redo_41 : decode c_M_redo 41 = .ok (.ifCond .ge 5, 3) := by decide +kernel
theorem d_M_redo_44 : decode c_M_redo 44 = .ok (.iconst 1, 1) := by decide +kernel
theorem d_M_redo_45 : decode c_M_redo 45 = .ok (.ireturn, 1) := by decide +kernel
theorem d_M_redo_46 : decode c_M_redo 46 = .ok (.aload_n 0, 1) := by decide +kernel
theorem d_M_redo_47 : decode c_M_redo 47 = .ok (.getfield 26, 3) := by decide +kernel
theorem d_M_redo_50 : decode c_M_redo 50 = .ok (.iload_n 2, 1) := by decide +kernel
theorem d_M_redo_51 : decode c_M_redo 51 = .ok (.iconst 0, 1) := by decide +kernel
theorem d_M_redo_52 : decode c_M_redo 52 = .ok (.bastore, 1) := by decide +kernel
theorem d_M_redo_53 : decode c_M_redo 53 = .ok (.aload_n 0, 1) := by decide +kernel
theorem d_M_redo_54 : decode c_M_redo 54 = .ok (.getfield 7, 3) := by decide +kernel
theorem d_M_redo_57 : decode c_M_redo 57 = .ok (.aload_n 0, 1) := by decide +kernel
theorem d_M_redo_58 : decode c_M_redo 58 = .ok (.getfield 43, 3) := by decide +kernel
theorem d_M_redo_61 : decode c_M_redo 61 = .ok (.iaload, 1) := by decide +kernel
theorem d_M_redo_62 : decode c_M_redo 62 = .ok (.ineg, 1) := by decide +kernel
theorem d_M_redo_63 : decode c_M_redo 63 = .ok (.ireturn, 1) := by decide +kernel
theorem d_M_taken_0 : decode c_M_taken 0 = .ok (.iload_n 1, 1) := by decide +kernel
theorem d_M_taken_1 : decode c_M_taken 1 = .ok (.ifCond .lt 11, 3) := by decide +kernel
theorem d_M_taken_4 : decode c_M_taken 4 = .ok (.iload_n 1, 1) := by decide +kernel
theorem d_M_taken_5 : decode c_M_taken 5 = .ok (.aload_n 0, 1) := by decide +kernel
theorem d_M_taken_6 : decode c_M_taken 6 = .ok (.getfield 132, 3) := by decide +kernel
theorem d_M_taken_9 : decode c_M_taken 9 = .ok (.if_icmp .lt 7, 3) := by decide +kernel
theorem d_M_taken_12 : decode c_M_taken 12 = .ok (.iconst (-1), 1) := by decide +kernel
theorem d_M_taken_13 : decode c_M_taken 13 = .ok (.goto 9, 3) := by decide +kernel
theorem d_M_taken_16 : decode c_M_taken 16 = .ok (.aload_n 0, 1) := by decide +kernel
theorem d_M_taken_17 : decode c_M_taken 17 = .ok (.getfield 36, 3) := by decide +kernel
theorem d_M_taken_20 : decode c_M_taken 20 = .ok (.iload_n 1, 1) := by decide +kernel
theorem d_M_taken_21 : decode c_M_taken 21 = .ok (.iaload, 1) := by decide +kernel
theorem d_M_taken_22 : decode c_M_taken 22 = .ok (.ireturn, 1) := by decide +kernel
theorem d_M_dependsOn_0 : decode c_M_dependsOn 0 = .ok (.aload_n 0, 1) := by decide +kernel
theorem d_M_dependsOn_1 : decode c_M_dependsOn 1 = .ok (.iload_n 1, 1) := by decide +kernel
theorem d_M_dependsOn_2 : decode c_M_dependsOn 2 = .ok (.invokevirtual 79, 3) := by decide +kernel
theorem d_M_dependsOn_5 : decode c_M_dependsOn 5 = .ok (.istore_n 3, 1) := by decide +kernel
theorem d_M_dependsOn_6 : decode c_M_dependsOn 6 = .ok (.aload_n 0, 1) := by decide +kernel
theorem d_M_dependsOn_7 : decode c_M_dependsOn 7 = .ok (.iload_n 2, 1) := by decide +kernel
theorem d_M_dependsOn_8 : decode c_M_dependsOn 8 = .ok (.invokevirtual 79, 3) := by decide +kernel
theorem d_M_dependsOn_11 : decode c_M_dependsOn 11 = .ok (.istore 4, 2) := by decide +kernel
theorem d_M_dependsOn_13 : decode c_M_dependsOn 13 = .ok (.iload_n 3, 1) := by decide +kernel
theorem d_M_dependsOn_14 : decode c_M_dependsOn 14 = .ok (.ifCond .lt 24, 3) := by decide +kernel
theorem d_M_dependsOn_17 : decode c_M_dependsOn 17 = .ok (.iload 4, 2) := by decide +kernel
theorem d_M_dependsOn_19 : decode c_M_dependsOn 19 = .ok (.ifCond .lt 19, 3) := by decide +kernel
theorem d_M_dependsOn_22 : decode c_M_dependsOn 22 = .ok (.iload 4, 2) := by decide +kernel
theorem d_M_dependsOn_24 : decode c_M_dependsOn 24 = .ok (.iload_n 3, 1) := by decide +kernel
theorem d_M_dependsOn_25 : decode c_M_dependsOn 25 = .ok (.if_icmp .ge 13, 3) := by decide +kernel
theorem d_M_dependsOn_28 : decode c_M_dependsOn 28 = .ok (.aload_n 0, 1) := by decide +kernel
theorem d_M_dependsOn_29 : decode c_M_dependsOn 29 = .ok (.getfield 26, 3) := by decide +kernel
theorem d_M_dependsOn_32 : decode c_M_dependsOn 32 = .ok (.iload 4, 2) := by decide +kernel
theorem d_M_dependsOn_34 : decode c_M_dependsOn 34 = .ok (.baload, 1) := by decide +kernel
theorem d_M_dependsOn_35 : decode c_M_dependsOn 35 = .ok (.ifCond .ne 5, 3) := by decide +kernel
theorem d_M_dependsOn_38 : decode c_M_dependsOn 38 = .ok (.iconst 0, 1) := by decide +kernel
theorem d_M_dependsOn_39 : decode c_M_dependsOn 39 = .ok (.ireturn, 1) := by decide +kernel
theorem d_M_dependsOn_40 : decode c_M_dependsOn 40 = .ok (.aload_n 0, 1) := by decide +kernel
theorem d_M_dependsOn_41 : decode c_M_dependsOn 41 = .ok (.iload_n 3, 1) := by decide +kernel
theorem d_M_dependsOn_42 : decode c_M_dependsOn 42 = .ok (.iload 4, 2) := by decide +kernel
theorem d_M_dependsOn_44 : decode c_M_dependsOn 44 = .ok (.invokevirtual 106, 3) := by decide +kernel
theorem d_M_dependsOn_47 : decode c_M_dependsOn 47 = .ok (.aload_n 0, 1) := by decide +kernel
theorem d_M_dependsOn_48 : decode c_M_dependsOn 48 = .ok (.iload_n 3, 1) := by decide +kernel
theorem d_M_dependsOn_49 : decode c_M_dependsOn 49 = .ok (.invokevirtual 99, 3) := by decide +kernel
theorem d_M_dependsOn_52 : decode c_M_dependsOn 52 = .ok (.ireturn, 1) := by decide +kernel
theorem d_M_undoLast_0 : decode c_M_undoLast 0 = .ok (.aload_n 0, 1) := by decide +kernel
theorem d_M_undoLast_1 : decode c_M_undoLast 1 = .ok (.invokevirtual 135, 3) := by decide +kernel
theorem d_M_undoLast_4 : decode c_M_undoLast 4 = .ok (.istore_n 1, 1) := by decide +kernel
theorem d_M_undoLast_5 : decode c_M_undoLast 5 = .ok (.iload_n 1, 1) := by decide +kernel
theorem d_M_undoLast_6 : decode c_M_undoLast 6 = .ok (.ifCond .ge 5, 3) := by decide +kernel
theorem d_M_undoLast_9 : decode c_M_undoLast 9 = .ok (.iconst 0, 1) := by decide +kernel
theorem d_M_undoLast_10 : decode c_M_undoLast 10 = .ok (.ireturn, 1) := by decide +kernel
theorem d_M_undoLast_11 : decode c_M_undoLast 11 = .ok (.aload_n 0, 1) := by decide +kernel
theorem d_M_undoLast_12 : decode c_M_undoLast 12 = .ok (.getfield 26, 3) := by decide +kernel
theorem d_M_undoLast_15 : decode c_M_undoLast 15 = .ok (.iload_n 1, 1) := by decide +kernel
theorem d_M_undoLast_16 : decode c_M_undoLast 16 = .ok (.iconst 0, 1) := by decide +kernel
theorem d_M_undoLast_17 : decode c_M_undoLast 17 = .ok (.bastore, 1) := by decide +kernel
theorem d_M_undoLast_18 : decode c_M_undoLast 18 = .ok (.aload_n 0, 1) := by decide +kernel
theorem d_M_undoLast_19 : decode c_M_undoLast 19 = .ok (.iconst 0, 1) := by decide +kernel
theorem d_M_undoLast_20 : decode c_M_undoLast 20 = .ok (.putfield 132, 3) := by decide +kernel
theorem d_M_undoLast_23 : decode c_M_undoLast 23 = .ok (.aload_n 0, 1) := by decide +kernel
theorem d_M_undoLast_24 : decode c_M_undoLast 24 = .ok (.iconst 0, 1) := by decide +kernel
theorem d_M_undoLast_25 : decode c_M_undoLast 25 = .ok (.putfield 39, 3) := by decide +kernel
theorem d_M_undoLast_28 : decode c_M_undoLast 28 = .ok (.aload_n 0, 1) := by decide +kernel
theorem d_M_undoLast_29 : decode c_M_undoLast 29 = .ok (.getfield 7, 3) := by decide +kernel
theorem d_M_undoLast_32 : decode c_M_undoLast 32 = .ok (.iload_n 1, 1) := by decide +kernel
theorem d_M_undoLast_33 : decode c_M_undoLast 33 = .ok (.iaload, 1) := by decide +kernel
theorem d_M_undoLast_34 : decode c_M_undoLast 34 = .ok (.ireturn, 1) := by decide +kernel
theorem d_M_latestActive_0 : decode c_M_latestActive 0 = .ok (.aload_n 0, 1) := by decide +kernel
theorem d_M_latestActive_1 : decode c_M_latestActive 1 = .ok (.getfield 65, 3) := by decide +kernel
theorem d_M_latestActive_4 : decode c_M_latestActive 4 = .ok (.iconst 1, 1) := by decide +kernel
theorem d_M_latestActive_5 : decode c_M_latestActive 5 = .ok (.isub, 1) := by decide +kernel
theorem d_M_latestActive_6 : decode c_M_latestActive 6 = .ok (.istore_n 1, 1) := by decide +kernel
theorem d_M_latestActive_7 : decode c_M_latestActive 7 = .ok (.iload_n 1, 1) := by decide +kernel
theorem d_M_latestActive_8 : decode c_M_latestActive 8 = .ok (.ifCond .lt 18, 3) := by decide +kernel
theorem d_M_latestActive_11 : decode c_M_latestActive 11 = .ok (.aload_n 0, 1) := by decide +kernel
theorem d_M_latestActive_12 : decode c_M_latestActive 12 = .ok (.getfield 26, 3) := by decide +kernel
theorem d_M_latestActive_15 : decode c_M_latestActive 15 = .ok (.iload_n 1, 1) := by decide +kernel
theorem d_M_latestActive_16 : decode c_M_latestActive 16 = .ok (.baload, 1) := by decide +kernel
theorem d_M_latestActive_17 : decode c_M_latestActive 17 = .ok (.ifCond .ne 9, 3) := by decide +kernel
theorem d_M_latestActive_20 : decode c_M_latestActive 20 = .ok (.iinc 1 (-1), 3) := by decide +kernel
theorem d_M_latestActive_23 : decode c_M_latestActive 23 = .ok (.goto (-16), 3) := by decide +kernel
theorem d_M_latestActive_26 : decode c_M_latestActive 26 = .ok (.iload_n 1, 1) := by decide +kernel
theorem d_M_latestActive_27 : decode c_M_latestActive 27 = .ok (.ireturn, 1) := by decide +kernel
theorem d_M_redoNext_0 : decode c_M_redoNext 0 = .ok (.aload_n 0, 1) := by decide +kernel
theorem d_M_redoNext_1 : decode c_M_redoNext 1 = .ok (.invokevirtual 135, 3) := by decide +kernel
theorem d_M_redoNext_4 : decode c_M_redoNext 4 = .ok (.iconst 1, 1) := by decide +kernel
theorem d_M_redoNext_5 : decode c_M_redoNext 5 = .ok (.iadd, 1) := by decide +kernel
theorem d_M_redoNext_6 : decode c_M_redoNext 6 = .ok (.istore_n 1, 1) := by decide +kernel
theorem d_M_redoNext_7 : decode c_M_redoNext 7 = .ok (.iload_n 1, 1) := by decide +kernel
theorem d_M_redoNext_8 : decode c_M_redoNext 8 = .ok (.aload_n 0, 1) := by decide +kernel
theorem d_M_redoNext_9 : decode c_M_redoNext 9 = .ok (.getfield 65, 3) := by decide +kernel
theorem d_M_redoNext_12 : decode c_M_redoNext 12 = .ok (.if_icmp .eq 17, 3) := by decide +kernel
theorem d_M_redoNext_15 : decode c_M_redoNext 15 = .ok (.aload_n 0, 1) := by decide +kernel
theorem d_M_redoNext_16 : decode c_M_redoNext 16 = .ok (.aload_n 0, 1) := by decide +kernel
theorem d_M_redoNext_17 : decode c_M_redoNext 17 = .ok (.getfield 7, 3) := by decide +kernel
theorem d_M_redoNext_20 : decode c_M_redoNext 20 = .ok (.iload_n 1, 1) := by decide +kernel
theorem d_M_redoNext_21 : decode c_M_redoNext 21 = .ok (.iaload, 1) := by decide +kernel
theorem d_M_redoNext_22 : decode c_M_redoNext 22 = .ok (.invokevirtual 139, 3) := by decide +kernel
theorem d_M_redoNext_25 : decode c_M_redoNext 25 = .ok (.iconst 1, 1) := by decide +kernel
theorem d_M_redoNext_26 : decode c_M_redoNext 26 = .ok (.if_icmp .eq 5, 3) := by decide +kernel
theorem d_M_redoNext_29 : decode c_M_redoNext 29 = .ok (.iconst 0, 1) := by decide +kernel
theorem d_M_redoNext_30 : decode c_M_redoNext 30 = .ok (.ireturn, 1) := by decide +kernel
theorem d_M_redoNext_31 : decode c_M_redoNext 31 = .ok (.aload_n 0, 1) := by decide +kernel
theorem d_M_redoNext_32 : decode c_M_redoNext 32 = .ok (.getfield 7, 3) := by decide +kernel
theorem d_M_redoNext_35 : decode c_M_redoNext 35 = .ok (.iload_n 1, 1) := by decide +kernel
theorem d_M_redoNext_36 : decode c_M_redoNext 36 = .ok (.iaload, 1) := by decide +kernel
theorem d_M_redoNext_37 : decode c_M_redoNext 37 = .ok (.ireturn, 1) := by decide +kernel
theorem d_M_squash_0 : decode c_M_squash 0 = .ok (.iconst 0, 1) := by decide +kernel
theorem d_M_squash_1 : decode c_M_squash 1 = .ok (.istore_n 1, 1) := by decide +kernel
theorem d_M_squash_2 : decode c_M_squash 2 = .ok (.iconst 0, 1) := by decide +kernel
theorem d_M_squash_3 : decode c_M_squash 3 = .ok (.istore_n 2, 1) := by decide +kernel
theorem d_M_squash_4 : decode c_M_squash 4 = .ok (.iload_n 2, 1) := by decide +kernel
theorem d_M_squash_5 : decode c_M_squash 5 = .ok (.aload_n 0, 1) := by decide +kernel
theorem d_M_squash_6 : decode c_M_squash 6 = .ok (.getfield 65, 3) := by decide +kernel
theorem d_M_squash_9 : decode c_M_squash 9 = .ok (.if_icmp .ge 139, 3) := by decide +kernel
theorem d_M_squash_12 : decode c_M_squash 12 = .ok (.aload_n 0, 1) := by decide +kernel
theorem d_M_squash_13 : decode c_M_squash 13 = .ok (.getfield 26, 3) := by decide +kernel
theorem d_M_squash_16 : decode c_M_squash 16 = .ok (.iload_n 2, 1) := by decide +kernel
theorem d_M_squash_17 : decode c_M_squash 17 = .ok (.baload, 1) := by decide +kernel
theorem d_M_squash_18 : decode c_M_squash 18 = .ok (.ifCond .ne 6, 3) := by decide +kernel
theorem d_M_squash_21 : decode c_M_squash 21 = .ok (.goto 121, 3) := by decide +kernel
theorem d_M_squash_24 : decode c_M_squash 24 = .ok (.aload_n 0, 1) := by decide +kernel
theorem d_M_squash_25 : decode c_M_squash 25 = .ok (.getfield 7, 3) := by decide +kernel
theorem d_M_squash_28 : decode c_M_squash 28 = .ok (.iload_n 1, 1) := by decide +kernel
theorem d_M_squash_29 : decode c_M_squash 29 = .ok (.aload_n 0, 1) := by decide +kernel
theorem d_M_squash_30 : decode c_M_squash 30 = .ok (.getfield 7, 3) := by decide +kernel
theorem d_M_squash_33 : decode c_M_squash 33 = .ok (.iload_n 2, 1) := by decide +kernel
theorem d_M_squash_34 : decode c_M_squash 34 = .ok (.iaload, 1) := by decide +kernel
theorem d_M_squash_35 : decode c_M_squash 35 = .ok (.iastore, 1) := by decide +kernel
theorem d_M_squash_36 : decode c_M_squash 36 = .ok (.aload_n 0, 1) := by decide +kernel
theorem d_M_squash_37 : decode c_M_squash 37 = .ok (.getfield 13, 3) := by decide +kernel
theorem d_M_squash_40 : decode c_M_squash 40 = .ok (.iload_n 1, 1) := by decide +kernel
theorem d_M_squash_41 : decode c_M_squash 41 = .ok (.aload_n 0, 1) := by decide +kernel
theorem d_M_squash_42 : decode c_M_squash 42 = .ok (.getfield 13, 3) := by decide +kernel
theorem d_M_squash_45 : decode c_M_squash 45 = .ok (.iload_n 2, 1) := by decide +kernel
theorem d_M_squash_46 : decode c_M_squash 46 = .ok (.iaload, 1) := by decide +kernel
theorem d_M_squash_47 : decode c_M_squash 47 = .ok (.iastore, 1) := by decide +kernel
theorem d_M_squash_48 : decode c_M_squash 48 = .ok (.aload_n 0, 1) := by decide +kernel
theorem d_M_squash_49 : decode c_M_squash 49 = .ok (.getfield 16, 3) := by decide +kernel
theorem d_M_squash_52 : decode c_M_squash 52 = .ok (.iload_n 1, 1) := by decide +kernel
theorem d_M_squash_53 : decode c_M_squash 53 = .ok (.aload_n 0, 1) := by decide +kernel
theorem d_M_squash_54 : decode c_M_squash 54 = .ok (.getfield 16, 3) := by decide +kernel
theorem d_M_squash_57 : decode c_M_squash 57 = .ok (.iload_n 2, 1) := by decide +kernel
theorem d_M_squash_58 : decode c_M_squash 58 = .ok (.iaload, 1) := by decide +kernel
theorem d_M_squash_59 : decode c_M_squash 59 = .ok (.iastore, 1) := by decide +kernel
theorem d_M_squash_60 : decode c_M_squash 60 = .ok (.aload_n 0, 1) := by decide +kernel
theorem d_M_squash_61 : decode c_M_squash 61 = .ok (.getfield 19, 3) := by decide +kernel
theorem d_M_squash_64 : decode c_M_squash 64 = .ok (.iload_n 1, 1) := by decide +kernel
theorem d_M_squash_65 : decode c_M_squash 65 = .ok (.aload_n 0, 1) := by decide +kernel
theorem d_M_squash_66 : decode c_M_squash 66 = .ok (.getfield 19, 3) := by decide +kernel
theorem d_M_squash_69 : decode c_M_squash 69 = .ok (.iload_n 2, 1) := by decide +kernel
theorem d_M_squash_70 : decode c_M_squash 70 = .ok (.iaload, 1) := by decide +kernel
theorem d_M_squash_71 : decode c_M_squash 71 = .ok (.iastore, 1) := by decide +kernel
theorem d_M_squash_72 : decode c_M_squash 72 = .ok (.aload_n 0, 1) := by decide +kernel
theorem d_M_squash_73 : decode c_M_squash 73 = .ok (.getfield 22, 3) := by decide +kernel
theorem d_M_squash_76 : decode c_M_squash 76 = .ok (.iload_n 1, 1) := by decide +kernel
theorem d_M_squash_77 : decode c_M_squash 77 = .ok (.aload_n 0, 1) := by decide +kernel
theorem d_M_squash_78 : decode c_M_squash 78 = .ok (.getfield 22, 3) := by decide +kernel
theorem d_M_squash_81 : decode c_M_squash 81 = .ok (.iload_n 2, 1) := by decide +kernel
theorem d_M_squash_82 : decode c_M_squash 82 = .ok (.laload, 1) := by decide +kernel
theorem d_M_squash_83 : decode c_M_squash 83 = .ok (.lastore, 1) := by decide +kernel
theorem d_M_squash_84 : decode c_M_squash 84 = .ok (.aload_n 0, 1) := by decide +kernel
theorem d_M_squash_85 : decode c_M_squash 85 = .ok (.getfield 26, 3) := by decide +kernel
theorem d_M_squash_88 : decode c_M_squash 88 = .ok (.iload_n 1, 1) := by decide +kernel
theorem d_M_squash_89 : decode c_M_squash 89 = .ok (.iconst 1, 1) := by decide +kernel
theorem d_M_squash_90 : decode c_M_squash 90 = .ok (.bastore, 1) := by decide +kernel
theorem d_M_squash_91 : decode c_M_squash 91 = .ok (.aload_n 0, 1) := by decide +kernel
theorem d_M_squash_92 : decode c_M_squash 92 = .ok (.getfield 33, 3) := by decide +kernel
theorem d_M_squash_95 : decode c_M_squash 95 = .ok (.iload_n 1, 1) := by decide +kernel
theorem d_M_squash_96 : decode c_M_squash 96 = .ok (.aload_n 0, 1) := by decide +kernel
theorem d_M_squash_97 : decode c_M_squash 97 = .ok (.getfield 33, 3) := by decide +kernel
theorem d_M_squash_100 : decode c_M_squash 100 = .ok (.iload_n 2, 1) := by decide +kernel
theorem d_M_squash_101 : decode c_M_squash 101 = .ok (.iaload, 1) := by decide +kernel
theorem d_M_squash_102 : decode c_M_squash 102 = .ok (.iastore, 1) := by decide +kernel
theorem d_M_squash_103 : decode c_M_squash 103 = .ok (.iconst 0, 1) := by decide +kernel
theorem d_M_squash_104 : decode c_M_squash 104 = .ok (.istore_n 3, 1) := by decide +kernel
theorem d_M_squash_105 : decode c_M_squash 105 = .ok (.iload_n 3, 1) := by decide +kernel
theorem d_M_squash_106 : decode c_M_squash 106 = .ok (.bipush 40, 2) := by decide +kernel
theorem d_M_squash_108 : decode c_M_squash 108 = .ok (.if_icmp .ge 31, 3) := by decide +kernel
theorem d_M_squash_111 : decode c_M_squash 111 = .ok (.aload_n 0, 1) := by decide +kernel
theorem d_M_squash_112 : decode c_M_squash 112 = .ok (.getfield 30, 3) := by decide +kernel
theorem d_M_squash_115 : decode c_M_squash 115 = .ok (.bipush 40, 2) := by decide +kernel
theorem d_M_squash_117 : decode c_M_squash 117 = .ok (.iload_n 1, 1) := by decide +kernel
theorem d_M_squash_118 : decode c_M_squash 118 = .ok (.imul, 1) := by decide +kernel
theorem d_M_squash_119 : decode c_M_squash 119 = .ok (.iload_n 3, 1) := by decide +kernel
theorem d_M_squash_120 : decode c_M_squash 120 = .ok (.iadd, 1) := by decide +kernel
theorem d_M_squash_121 : decode c_M_squash 121 = .ok (.aload_n 0, 1) := by decide +kernel
theorem d_M_squash_122 : decode c_M_squash 122 = .ok (.getfield 30, 3) := by decide +kernel
theorem d_M_squash_125 : decode c_M_squash 125 = .ok (.bipush 40, 2) := by decide +kernel
theorem d_M_squash_127 : decode c_M_squash 127 = .ok (.iload_n 2, 1) := by decide +kernel
theorem d_M_squash_128 : decode c_M_squash 128 = .ok (.imul, 1) := by decide +kernel
theorem d_M_squash_129 : decode c_M_squash 129 = .ok (.iload_n 3, 1) := by decide +kernel
theorem d_M_squash_130 : decode c_M_squash 130 = .ok (.iadd, 1) := by decide +kernel
theorem d_M_squash_131 : decode c_M_squash 131 = .ok (.iaload, 1) := by decide +kernel
theorem d_M_squash_132 : decode c_M_squash 132 = .ok (.iastore, 1) := by decide +kernel
theorem d_M_squash_133 : decode c_M_squash 133 = .ok (.iinc 3 1, 3) := by decide +kernel
theorem d_M_squash_136 : decode c_M_squash 136 = .ok (.goto (-31), 3) := by decide +kernel
theorem d_M_squash_139 : decode c_M_squash 139 = .ok (.iinc 1 1, 3) := by decide +kernel
theorem d_M_squash_142 : decode c_M_squash 142 = .ok (.iinc 2 1, 3) := by decide +kernel
theorem d_M_squash_145 : decode c_M_squash 145 = .ok (.goto (-141), 3) := by decide +kernel
theorem d_M_squash_148 : decode c_M_squash 148 = .ok (.aload_n 0, 1) := by decide +kernel
theorem d_M_squash_149 : decode c_M_squash 149 = .ok (.iload_n 1, 1) := by decide +kernel
theorem d_M_squash_150 : decode c_M_squash 150 = .ok (.putfield 65, 3) := by decide +kernel
theorem d_M_squash_153 : decode c_M_squash 153 = .ok (.aload_n 0, 1) := by decide +kernel
theorem d_M_squash_154 : decode c_M_squash 154 = .ok (.iconst 0, 1) := by decide +kernel
theorem d_M_squash_155 : decode c_M_squash 155 = .ok (.putfield 39, 3) := by decide +kernel
theorem d_M_squash_158 : decode c_M_squash 158 = .ok (.iload_n 1, 1) := by decide +kernel
theorem d_M_squash_159 : decode c_M_squash 159 = .ok (.ireturn, 1) := by decide +kernel
theorem d_M_active_0 : decode c_M_active 0 = .ok (.aload_n 0, 1) := by decide +kernel
theorem d_M_active_1 : decode c_M_active 1 = .ok (.iload_n 1, 1) := by decide +kernel
theorem d_M_active_2 : decode c_M_active 2 = .ok (.invokevirtual 79, 3) := by decide +kernel
theorem d_M_active_5 : decode c_M_active 5 = .ok (.istore_n 2, 1) := by decide +kernel
theorem d_M_active_6 : decode c_M_active 6 = .ok (.iload_n 2, 1) := by decide +kernel
theorem d_M_active_7 : decode c_M_active 7 = .ok (.ifCond .ge 7, 3) := by decide +kernel
theorem d_M_active_10 : decode c_M_active 10 = .ok (.iconst (-1), 1) := by decide +kernel
theorem d_M_active_11 : decode c_M_active 11 = .ok (.goto 17, 3) := by decide +kernel
theorem d_M_active_14 : decode c_M_active 14 = .ok (.aload_n 0, 1) := by decide +kernel
theorem d_M_active_15 : decode c_M_active 15 = .ok (.getfield 26, 3) := by decide +kernel
theorem d_M_active_18 : decode c_M_active 18 = .ok (.iload_n 2, 1) := by decide +kernel
theorem d_M_active_19 : decode c_M_active 19 = .ok (.baload, 1) := by decide +kernel
theorem d_M_active_20 : decode c_M_active 20 = .ok (.ifCond .eq 7, 3) := by decide +kernel
theorem d_M_active_23 : decode c_M_active 23 = .ok (.iconst 1, 1) := by decide +kernel
theorem d_M_active_24 : decode c_M_active 24 = .ok (.goto 4, 3) := by decide +kernel
theorem d_M_active_27 : decode c_M_active 27 = .ok (.iconst 0, 1) := by decide +kernel
theorem d_M_active_28 : decode c_M_active 28 = .ok (.ireturn, 1) := by decide +kernel
theorem d_M_count_0 : decode c_M_count 0 = .ok (.iconst 0, 1) := by decide +kernel
theorem d_M_count_1 : decode c_M_count 1 = .ok (.istore_n 2, 1) := by decide +kernel
theorem d_M_count_2 : decode c_M_count 2 = .ok (.iconst 0, 1) := by decide +kernel
theorem d_M_count_3 : decode c_M_count 3 = .ok (.istore_n 3, 1) := by decide +kernel
theorem d_M_count_4 : decode c_M_count 4 = .ok (.iload_n 3, 1) := by decide +kernel
theorem d_M_count_5 : decode c_M_count 5 = .ok (.aload_n 0, 1) := by decide +kernel
theorem d_M_count_6 : decode c_M_count 6 = .ok (.getfield 65, 3) := by decide +kernel
theorem d_M_count_9 : decode c_M_count 9 = .ok (.if_icmp .ge 26, 3) := by decide +kernel
theorem d_M_count_12 : decode c_M_count 12 = .ok (.iload_n 2, 1) := by decide +kernel
theorem d_M_count_13 : decode c_M_count 13 = .ok (.aload_n 0, 1) := by decide +kernel
theorem d_M_count_14 : decode c_M_count 14 = .ok (.getfield 26, 3) := by decide +kernel
theorem d_M_count_17 : decode c_M_count 17 = .ok (.iload_n 3, 1) := by decide +kernel
theorem d_M_count_18 : decode c_M_count 18 = .ok (.baload, 1) := by decide +kernel
theorem d_M_count_19 : decode c_M_count 19 = .ok (.ifCond .eq 7, 3) := by decide +kernel
theorem d_M_count_22 : decode c_M_count 22 = .ok (.iconst 1, 1) := by decide +kernel
theorem d_M_count_23 : decode c_M_count 23 = .ok (.goto 4, 3) := by decide +kernel
theorem d_M_count_26 : decode c_M_count 26 = .ok (.iconst 0, 1) := by decide +kernel
theorem d_M_count_27 : decode c_M_count 27 = .ok (.iadd, 1) := by decide +kernel
theorem d_M_count_28 : decode c_M_count 28 = .ok (.istore_n 2, 1) := by decide +kernel
theorem d_M_count_29 : decode c_M_count 29 = .ok (.iinc 3 1, 3) := by decide +kernel
theorem d_M_count_32 : decode c_M_count 32 = .ok (.goto (-28), 3) := by decide +kernel
theorem d_M_count_35 : decode c_M_count 35 = .ok (.iload_n 1, 1) := by decide +kernel
theorem d_M_count_36 : decode c_M_count 36 = .ok (.ifCond .ne 10, 3) := by decide +kernel
theorem d_M_count_39 : decode c_M_count 39 = .ok (.aload_n 0, 1) := by decide +kernel
theorem d_M_count_40 : decode c_M_count 40 = .ok (.getfield 65, 3) := by decide +kernel
theorem d_M_count_43 : decode c_M_count 43 = .ok (.goto 25, 3) := by decide +kernel
theorem d_M_count_46 : decode c_M_count 46 = .ok (.iload_n 1, 1) := by decide +kernel
theorem d_M_count_47 : decode c_M_count 47 = .ok (.iconst 1, 1) := by decide +kernel
theorem d_M_count_48 : decode c_M_count 48 = .ok (.if_icmp .ne 10, 3) := by decide +kernel
theorem d_M_count_51 : decode c_M_count 51 = .ok (.aload_n 0, 1) := by decide +kernel
theorem d_M_count_52 : decode c_M_count 52 = .ok (.getfield 68, 3) := by decide +kernel
theorem d_M_count_55 : decode c_M_count 55 = .ok (.goto 13, 3) := by decide +kernel
theorem d_M_count_58 : decode c_M_count 58 = .ok (.iload_n 1, 1) := by decide +kernel
theorem d_M_count_59 : decode c_M_count 59 = .ok (.iconst 2, 1) := by decide +kernel
theorem d_M_count_60 : decode c_M_count 60 = .ok (.if_icmp .ne 7, 3) := by decide +kernel
theorem d_M_count_63 : decode c_M_count 63 = .ok (.iload_n 2, 1) := by decide +kernel
theorem d_M_count_64 : decode c_M_count 64 = .ok (.goto 4, 3) := by decide +kernel
theorem d_M_count_67 : decode c_M_count 67 = .ok (.iconst (-1), 1) := by decide +kernel
theorem d_M_count_68 : decode c_M_count 68 = .ok (.ireturn, 1) := by decide +kernel
theorem d_M_history_0 : decode c_M_history 0 = .ok (.iload_n 1, 1) := by decide +kernel
theorem d_M_history_1 : decode c_M_history 1 = .ok (.ifCond .lt 11, 3) := by decide +kernel
theorem d_M_history_4 : decode c_M_history 4 = .ok (.iload_n 1, 1) := by decide +kernel
theorem d_M_history_5 : decode c_M_history 5 = .ok (.aload_n 0, 1) := by decide +kernel
theorem d_M_history_6 : decode c_M_history 6 = .ok (.getfield 65, 3) := by decide +kernel
theorem d_M_history_9 : decode c_M_history 9 = .ok (.if_icmp .lt 5, 3) := by decide +kernel
theorem d_M_history_12 : decode c_M_history 12 = .ok (.iconst (-1), 1) := by decide +kernel
theorem d_M_history_13 : decode c_M_history 13 = .ok (.ireturn, 1) := by decide +kernel
theorem d_M_history_14 : decode c_M_history 14 = .ok (.iload_n 2, 1) := by decide +kernel
theorem d_M_history_15 : decode c_M_history 15 = .ok (.ifCond .ne 12, 3) := by decide +kernel
theorem d_M_history_18 : decode c_M_history 18 = .ok (.aload_n 0, 1) := by decide +kernel
theorem d_M_history_19 : decode c_M_history 19 = .ok (.getfield 7, 3) := by decide +kernel
theorem d_M_history_22 : decode c_M_history 22 = .ok (.iload_n 1, 1) := by decide +kernel
theorem d_M_history_23 : decode c_M_history 23 = .ok (.iaload, 1) := by decide +kernel
theorem d_M_history_24 : decode c_M_history 24 = .ok (.goto 32, 3) := by decide +kernel
theorem d_M_history_27 : decode c_M_history 27 = .ok (.iload_n 2, 1) := by decide +kernel
theorem d_M_history_28 : decode c_M_history 28 = .ok (.iconst 1, 1) := by decide +kernel
theorem d_M_history_29 : decode c_M_history 29 = .ok (.if_icmp .ne 12, 3) := by decide +kernel
theorem d_M_history_32 : decode c_M_history 32 = .ok (.aload_n 0, 1) := by decide +kernel
theorem d_M_history_33 : decode c_M_history 33 = .ok (.getfield 13, 3) := by decide +kernel
theorem d_M_history_36 : decode c_M_history 36 = .ok (.iload_n 1, 1) := by decide +kernel
theorem d_M_history_37 : decode c_M_history 37 = .ok (.iaload, 1) := by decide +kernel
theorem d_M_history_38 : decode c_M_history 38 = .ok (.goto 18, 3) := by decide +kernel
theorem d_M_history_41 : decode c_M_history 41 = .ok (.iload_n 2, 1) := by decide +kernel
theorem d_M_history_42 : decode c_M_history 42 = .ok (.iconst 2, 1) := by decide +kernel
theorem d_M_history_43 : decode c_M_history 43 = .ok (.if_icmp .ne 12, 3) := by decide +kernel
theorem d_M_history_46 : decode c_M_history 46 = .ok (.aload_n 0, 1) := by decide +kernel
theorem d_M_history_47 : decode c_M_history 47 = .ok (.getfield 16, 3) := by decide +kernel
theorem d_M_history_50 : decode c_M_history 50 = .ok (.iload_n 1, 1) := by decide +kernel
theorem d_M_history_51 : decode c_M_history 51 = .ok (.iaload, 1) := by decide +kernel
theorem d_M_history_52 : decode c_M_history 52 = .ok (.goto 4, 3) := by decide +kernel
theorem d_M_history_55 : decode c_M_history 55 = .ok (.iconst (-1), 1) := by decide +kernel
theorem d_M_history_56 : decode c_M_history 56 = .ok (.ireturn, 1) := by decide +kernel
theorem d_M_cell_0 : decode c_M_cell 0 = .ok (.aload_n 0, 1) := by decide +kernel
theorem d_M_cell_1 : decode c_M_cell 1 = .ok (.invokevirtual 117, 3) := by decide +kernel
theorem d_M_cell_4 : decode c_M_cell 4 = .ok (.iload_n 1, 1) := by decide +kernel
theorem d_M_cell_5 : decode c_M_cell 5 = .ok (.ifCond .lt 9, 3) := by decide +kernel
theorem d_M_cell_8 : decode c_M_cell 8 = .ok (.iload_n 1, 1) := by decide +kernel
theorem d_M_cell_9 : decode c_M_cell 9 = .ok (.bipush 7, 2) := by decide +kernel
theorem d_M_cell_11 : decode c_M_cell 11 = .ok (.if_icmp .le 7, 3) := by decide +kernel
theorem d_M_cell_14 : decode c_M_cell 14 = .ok (.iconst 0, 1) := by decide +kernel
theorem d_M_cell_15 : decode c_M_cell 15 = .ok (.goto 9, 3) := by decide +kernel
theorem d_M_cell_18 : decode c_M_cell 18 = .ok (.aload_n 0, 1) := by decide +kernel
theorem d_M_cell_19 : decode c_M_cell 19 = .ok (.getfield 47, 3) := by decide +kernel
theorem d_M_cell_22 : decode c_M_cell 22 = .ok (.iload_n 1, 1) := by decide +kernel
theorem d_M_cell_23 : decode c_M_cell 23 = .ok (.iaload, 1) := by decide +kernel
theorem d_M_cell_24 : decode c_M_cell 24 = .ok (.ireturn, 1) := by decide +kernel
theorem d_M_counter_0 : decode c_M_counter 0 = .ok (.aload_n 0, 1) := by decide +kernel
theorem d_M_counter_1 : decode c_M_counter 1 = .ok (.invokevirtual 117, 3) := by decide +kernel
theorem d_M_counter_4 : decode c_M_counter 4 = .ok (.iload_n 1, 1) := by decide +kernel
theorem d_M_counter_5 : decode c_M_counter 5 = .ok (.ifCond .lt 8, 3) := by decide +kernel
theorem d_M_counter_8 : decode c_M_counter 8 = .ok (.iload_n 1, 1) := by decide +kernel
theorem d_M_counter_9 : decode c_M_counter 9 = .ok (.iconst 3, 1) := by decide +kernel
theorem d_M_counter_10 : decode c_M_counter 10 = .ok (.if_icmp .le 7, 3) := by decide +kernel
theorem d_M_counter_13 : decode c_M_counter 13 = .ok (.lconst 0, 1) := by decide +kernel
theorem d_M_counter_14 : decode c_M_counter 14 = .ok (.goto 9, 3) := by decide +kernel
theorem d_M_counter_17 : decode c_M_counter 17 = .ok (.aload_n 0, 1) := by decide +kernel
theorem d_M_counter_18 : decode c_M_counter 18 = .ok (.getfield 50, 3) := by decide +kernel
theorem d_M_counter_21 : decode c_M_counter 21 = .ok (.iload_n 1, 1) := by decide +kernel
theorem d_M_counter_22 : decode c_M_counter 22 = .ok (.laload, 1) := by decide +kernel
theorem d_M_counter_23 : decode c_M_counter 23 = .ok (.lreturn, 1) := by decide +kernel
theorem d_M_length_0 : decode c_M_length 0 = .ok (.aload_n 0, 1) := by decide +kernel
theorem d_M_length_1 : decode c_M_length 1 = .ok (.invokevirtual 117, 3) := by decide +kernel
theorem d_M_length_4 : decode c_M_length 4 = .ok (.iload_n 1, 1) := by decide +kernel
theorem d_M_length_5 : decode c_M_length 5 = .ok (.invokestatic 120, 3) := by decide +kernel
theorem d_M_length_8 : decode c_M_length 8 = .ok (.ifCond .eq 12, 3) := by decide +kernel
theorem d_M_length_11 : decode c_M_length 11 = .ok (.aload_n 0, 1) := by decide +kernel
theorem d_M_length_12 : decode c_M_length 12 = .ok (.getfield 56, 3) := by decide +kernel
theorem d_M_length_15 : decode c_M_length 15 = .ok (.iload_n 1, 1) := by decide +kernel
theorem d_M_length_16 : decode c_M_length 16 = .ok (.iaload, 1) := by decide +kernel
theorem d_M_length_17 : decode c_M_length 17 = .ok (.goto 4, 3) := by decide +kernel
theorem d_M_length_20 : decode c_M_length 20 = .ok (.iconst (-1), 1) := by decide +kernel
theorem d_M_length_21 : decode c_M_length 21 = .ok (.ireturn, 1) := by decide +kernel
theorem d_M_element_0 : decode c_M_element 0 = .ok (.aload_n 0, 1) := by decide +kernel
theorem d_M_element_1 : decode c_M_element 1 = .ok (.invokevirtual 117, 3) := by decide +kernel
theorem d_M_element_4 : decode c_M_element 4 = .ok (.iload_n 1, 1) := by decide +kernel
theorem d_M_element_5 : decode c_M_element 5 = .ok (.invokestatic 120, 3) := by decide +kernel
theorem d_M_element_8 : decode c_M_element 8 = .ok (.ifCond .eq 17, 3) := by decide +kernel
theorem d_M_element_11 : decode c_M_element 11 = .ok (.iload_n 2, 1) := by decide +kernel
theorem d_M_element_12 : decode c_M_element 12 = .ok (.ifCond .lt 13, 3) := by decide +kernel
theorem d_M_element_15 : decode c_M_element 15 = .ok (.iload_n 2, 1) := by decide +kernel
theorem d_M_element_16 : decode c_M_element 16 = .ok (.aload_n 0, 1) := by decide +kernel
theorem d_M_element_17 : decode c_M_element 17 = .ok (.getfield 56, 3) := by decide +kernel
theorem d_M_element_20 : decode c_M_element 20 = .ok (.iload_n 1, 1) := by decide +kernel
theorem d_M_element_21 : decode c_M_element 21 = .ok (.iaload, 1) := by decide +kernel
theorem d_M_element_22 : decode c_M_element 22 = .ok (.if_icmp .lt 7, 3) := by decide +kernel
theorem d_M_element_25 : decode c_M_element 25 = .ok (.iconst 0, 1) := by decide +kernel
theorem d_M_element_26 : decode c_M_element 26 = .ok (.goto 14, 3) := by decide +kernel
theorem d_M_element_29 : decode c_M_element 29 = .ok (.aload_n 0, 1) := by decide +kernel
theorem d_M_element_30 : decode c_M_element 30 = .ok (.getfield 53, 3) := by decide +kernel
theorem d_M_element_33 : decode c_M_element 33 = .ok (.bipush 40, 2) := by decide +kernel
theorem d_M_element_35 : decode c_M_element 35 = .ok (.iload_n 1, 1) := by decide +kernel
theorem d_M_element_36 : decode c_M_element 36 = .ok (.imul, 1) := by decide +kernel
theorem d_M_element_37 : decode c_M_element 37 = .ok (.iload_n 2, 1) := by decide +kernel
theorem d_M_element_38 : decode c_M_element 38 = .ok (.iadd, 1) := by decide +kernel
theorem d_M_element_39 : decode c_M_element 39 = .ok (.iaload, 1) := by decide +kernel
theorem d_M_element_40 : decode c_M_element 40 = .ok (.ireturn, 1) := by decide +kernel
theorem d_M_value_0 : decode c_M_value 0 = .ok (.aload_n 0, 1) := by decide +kernel
theorem d_M_value_1 : decode c_M_value 1 = .ok (.iload_n 1, 1) := by decide +kernel
theorem d_M_value_2 : decode c_M_value 2 = .ok (.invokevirtual 79, 3) := by decide +kernel
theorem d_M_value_5 : decode c_M_value 5 = .ok (.istore_n 2, 1) := by decide +kernel
theorem d_M_value_6 : decode c_M_value 6 = .ok (.iload_n 2, 1) := by decide +kernel
theorem d_M_value_7 : decode c_M_value 7 = .ok (.ifCond .lt 13, 3) := by decide +kernel
theorem d_M_value_10 : decode c_M_value 10 = .ok (.aload_n 0, 1) := by decide +kernel
theorem d_M_value_11 : decode c_M_value 11 = .ok (.getfield 13, 3) := by decide +kernel
theorem d_M_value_14 : decode c_M_value 14 = .ok (.iload_n 2, 1) := by decide +kernel
theorem d_M_value_15 : decode c_M_value 15 = .ok (.iaload, 1) := by decide +kernel
theorem d_M_value_16 : decode c_M_value 16 = .ok (.iconst 3, 1) := by decide +kernel
theorem d_M_value_17 : decode c_M_value 17 = .ok (.if_icmp .eq 7, 3) := by decide +kernel
theorem d_M_value_20 : decode c_M_value 20 = .ok (.iconst 0, 1) := by decide +kernel
theorem d_M_value_21 : decode c_M_value 21 = .ok (.goto 10, 3) := by decide +kernel
theorem d_M_value_24 : decode c_M_value 24 = .ok (.aload_n 0, 1) := by decide +kernel
theorem d_M_value_25 : decode c_M_value 25 = .ok (.getfield 22, 3) := by decide +kernel
theorem d_M_value_28 : decode c_M_value 28 = .ok (.iload_n 2, 1) := by decide +kernel
theorem d_M_value_29 : decode c_M_value 29 = .ok (.laload, 1) := by decide +kernel
theorem d_M_value_30 : decode c_M_value 30 = .ok (.l2i, 1) := by decide +kernel
theorem d_M_value_31 : decode c_M_value 31 = .ok (.ireturn, 1) := by decide +kernel
theorem d_M_parent_0 : decode c_M_parent 0 = .ok (.aload_n 0, 1) := by decide +kernel
theorem d_M_parent_1 : decode c_M_parent 1 = .ok (.invokevirtual 117, 3) := by decide +kernel
theorem d_M_parent_4 : decode c_M_parent 4 = .ok (.aload_n 0, 1) := by decide +kernel
theorem d_M_parent_5 : decode c_M_parent 5 = .ok (.iload_n 1, 1) := by decide +kernel
theorem d_M_parent_6 : decode c_M_parent 6 = .ok (.invokevirtual 129, 3) := by decide +kernel
theorem d_M_parent_9 : decode c_M_parent 9 = .ok (.ifCond .eq 16, 3) := by decide +kernel
theorem d_M_parent_12 : decode c_M_parent 12 = .ok (.aload_n 0, 1) := by decide +kernel
theorem d_M_parent_13 : decode c_M_parent 13 = .ok (.getfield 62, 3) := by decide +kernel
theorem d_M_parent_16 : decode c_M_parent 16 = .ok (.aload_n 0, 1) := by decide +kernel
theorem d_M_parent_17 : decode c_M_parent 17 = .ok (.iload_n 1, 1) := by decide +kernel
theorem d_M_parent_18 : decode c_M_parent 18 = .ok (.invokevirtual 79, 3) := by decide +kernel
theorem d_M_parent_21 : decode c_M_parent 21 = .ok (.iaload, 1) := by decide +kernel
theorem d_M_parent_22 : decode c_M_parent 22 = .ok (.goto 4, 3) := by decide +kernel
theorem d_M_parent_25 : decode c_M_parent 25 = .ok (.iconst (-1), 1) := by decide +kernel
theorem d_M_parent_26 : decode c_M_parent 26 = .ok (.ireturn, 1) := by decide +kernel
