/-! Decode rows (names.py). -/
theorem d_U_init_0 : decode c_U_init 0 = .ok (.aload_n 0, 1) := by decide +kernel
theorem d_U_init_1 : decode c_U_init 1 = .ok (.invokespecial 1, 3) := by decide +kernel
theorem d_U_init_4 : decode c_U_init 4 = .ok (.aload_n 0, 1) := by decide +kernel
theorem d_U_init_5 : decode c_U_init 5 = .ok (.sipush 200, 3) := by decide +kernel
theorem d_U_init_8 : decode c_U_init 8 = .ok (.anewarray 9, 3) := by decide +kernel
theorem d_U_init_11 : decode c_U_init 11 = .ok (.putfield 11, 3) := by decide +kernel
theorem d_U_init_14 : decode c_U_init 14 = .ok (.aload_n 0, 1) := by decide +kernel
theorem d_U_init_15 : decode c_U_init 15 = .ok (.new 15, 3) := by decide +kernel
theorem d_U_init_18 : decode c_U_init 18 = .ok (.dup, 1) := by decide +kernel
theorem d_U_init_19 : decode c_U_init 19 = .ok (.invokespecial 17, 3) := by decide +kernel
theorem d_U_init_22 : decode c_U_init 22 = .ok (.putfield 18, 3) := by decide +kernel
theorem d_U_init_25 : decode c_U_init 25 = .ok (.aload_n 0, 1) := by decide +kernel
theorem d_U_init_26 : decode c_U_init 26 = .ok (.new 15, 3) := by decide +kernel
theorem d_U_init_29 : decode c_U_init 29 = .ok (.dup, 1) := by decide +kernel
theorem d_U_init_30 : decode c_U_init 30 = .ok (.invokespecial 17, 3) := by decide +kernel
theorem d_U_init_33 : decode c_U_init 33 = .ok (.putfield 22, 3) := by decide +kernel
theorem d_U_init_36 : decode c_U_init 36 = .ok (.aload_n 0, 1) := by decide +kernel
theorem d_U_init_37 : decode c_U_init 37 = .ok (.sipush 200, 3) := by decide +kernel
theorem d_U_init_40 : decode c_U_init 40 = .ok (.newarray .int, 2) := by decide +kernel
theorem d_U_init_42 : decode c_U_init 42 = .ok (.putfield 25, 3) := by decide +kernel
theorem d_U_init_45 : decode c_U_init 45 = .ok (.aload_n 0, 1) := by decide +kernel
theorem d_U_init_46 : decode c_U_init 46 = .ok (.sipush 200, 3) := by decide +kernel
theorem d_U_init_49 : decode c_U_init 49 = .ok (.newarray .int, 2) := by decide +kernel
theorem d_U_init_51 : decode c_U_init 51 = .ok (.putfield 29, 3) := by decide +kernel
theorem d_U_init_54 : decode c_U_init 54 = .ok (.return_, 1) := by decide +kernel
theorem d_U_set_0 : decode c_U_set 0 = .ok (.iload_n 1, 1) := by decide +kernel
theorem d_U_set_1 : decode c_U_set 1 = .ok (.bipush 8, 2) := by decide +kernel
theorem d_U_set_3 : decode c_U_set 3 = .ok (.invokestatic 32, 3) := by decide +kernel
theorem d_U_set_6 : decode c_U_set 6 = .ok (.ifCond .eq 10, 3) := by decide +kernel
theorem d_U_set_9 : decode c_U_set 9 = .ok (.aload_n 0, 1) := by decide +kernel
theorem d_U_set_10 : decode c_U_set 10 = .ok (.invokevirtual 36, 3) := by decide +kernel
theorem d_U_set_13 : decode c_U_set 13 = .ok (.ifCond .eq 5, 3) := by decide +kernel
theorem d_U_set_16 : decode c_U_set 16 = .ok (.iconst 0, 1) := by decide +kernel
theorem d_U_set_17 : decode c_U_set 17 = .ok (.ireturn, 1) := by decide +kernel
theorem d_U_set_18 : decode c_U_set 18 = .ok (.aload_n 0, 1) := by decide +kernel
theorem d_U_set_19 : decode c_U_set 19 = .ok (.iconst 1, 1) := by decide +kernel
theorem d_U_set_20 : decode c_U_set 20 = .ok (.iload_n 1, 1) := by decide +kernel
theorem d_U_set_21 : decode c_U_set 21 = .ok (.iconst 0, 1) := by decide +kernel
theorem d_U_set_22 : decode c_U_set 22 = .ok (.iload_n 2, 1) := by decide +kernel
theorem d_U_set_23 : decode c_U_set 23 = .ok (.i2l, 1) := by decide +kernel
theorem d_U_set_24 : decode c_U_set 24 = .ok (.getstatic 40, 3) := by decide +kernel
theorem d_U_set_27 : decode c_U_set 27 = .ok (.invokevirtual 43, 3) := by decide +kernel
theorem d_U_set_30 : decode c_U_set 30 = .ok (.ireturn, 1) := by decide +kernel
theorem d_U_isIndex_0 : decode c_U_isIndex 0 = .ok (.iload_n 0, 1) := by decide +kernel
theorem d_U_isIndex_1 : decode c_U_isIndex 1 = .ok (.ifCond .lt 12, 3) := by decide +kernel
theorem d_U_isIndex_4 : decode c_U_isIndex 4 = .ok (.iload_n 0, 1) := by decide +kernel
theorem d_U_isIndex_5 : decode c_U_isIndex 5 = .ok (.iload_n 1, 1) := by decide +kernel
theorem d_U_isIndex_6 : decode c_U_isIndex 6 = .ok (.if_icmp .ge 7, 3) := by decide +kernel
theorem d_U_isIndex_9 : decode c_U_isIndex 9 = .ok (.iconst 1, 1) := by decide +kernel
theorem d_U_isIndex_10 : decode c_U_isIndex 10 = .ok (.goto 4, 3) := by decide +kernel
theorem d_U_isIndex_13 : decode c_U_isIndex 13 = .ok (.iconst 0, 1) := by decide +kernel
theorem d_U_isIndex_14 : decode c_U_isIndex 14 = .ok (.ireturn, 1) := by decide +kernel
theorem d_U_isFull_0 : decode c_U_isFull 0 = .ok (.aload_n 0, 1) := by decide +kernel
theorem d_U_isFull_1 : decode c_U_isFull 1 = .ok (.getfield 106, 3) := by decide +kernel
theorem d_U_isFull_4 : decode c_U_isFull 4 = .ok (.sipush 200, 3) := by decide +kernel
theorem d_U_isFull_7 : decode c_U_isFull 7 = .ok (.if_icmp .lt 7, 3) := by decide +kernel
theorem d_U_isFull_10 : decode c_U_isFull 10 = .ok (.iconst 1, 1) := by decide +kernel
theorem d_U_isFull_11 : decode c_U_isFull 11 = .ok (.goto 4, 3) := by decide +kernel
theorem d_U_isFull_14 : decode c_U_isFull 14 = .ok (.iconst 0, 1) := by decide +kernel
theorem d_U_isFull_15 : decode c_U_isFull 15 = .ok (.ireturn, 1) := by decide +kernel
theorem d_U_make_0 : decode c_U_make 0 = .ok (.new 9, 3) := by decide +kernel
theorem d_U_make_3 : decode c_U_make 3 = .ok (.dup, 1) := by decide +kernel
theorem d_U_make_4 : decode c_U_make 4 = .ok (.aload_n 0, 1) := by decide +kernel
theorem d_U_make_5 : decode c_U_make 5 = .ok (.getfield 112, 3) := by decide +kernel
theorem d_U_make_8 : decode c_U_make 8 = .ok (.iconst 1, 1) := by decide +kernel
theorem d_U_make_9 : decode c_U_make 9 = .ok (.iadd, 1) := by decide +kernel
theorem d_U_make_10 : decode c_U_make 10 = .ok (.iload_n 1, 1) := by decide +kernel
theorem d_U_make_11 : decode c_U_make 11 = .ok (.iload_n 2, 1) := by decide +kernel
theorem d_U_make_12 : decode c_U_make 12 = .ok (.iload_n 3, 1) := by decide +kernel
theorem d_U_make_13 : decode c_U_make 13 = .ok (.lload 4, 2) := by decide +kernel
theorem d_U_make_15 : decode c_U_make 15 = .ok (.aload 6, 2) := by decide +kernel
theorem d_U_make_17 : decode c_U_make 17 = .ok (.invokespecial 142, 3) := by decide +kernel
theorem d_U_make_20 : decode c_U_make 20 = .ok (.astore 7, 2) := by decide +kernel
theorem d_U_make_22 : decode c_U_make 22 = .ok (.aload_n 0, 1) := by decide +kernel
theorem d_U_make_23 : decode c_U_make 23 = .ok (.getfield 18, 3) := by decide +kernel
theorem d_U_make_26 : decode c_U_make 26 = .ok (.aload 7, 2) := by decide +kernel
theorem d_U_make_28 : decode c_U_make 28 = .ok (.invokevirtual 91, 3) := by decide +kernel
theorem d_U_make_31 : decode c_U_make 31 = .ok (.ifCond .ne 5, 3) := by decide +kernel
theorem d_U_make_34 : decode c_U_make 34 = .ok (.iconst 0, 1) := by decide +kernel
theorem d_U_make_35 : decode c_U_make 35 = .ok (.ireturn, 1) := by decide +kernel
theorem d_U_make_36 : decode c_U_make 36 = .ok (.aload_n 0, 1) := by decide +kernel
theorem d_U_make_37 : decode c_U_make 37 = .ok (.getfield 11, 3) := by decide +kernel
theorem d_U_make_40 : decode c_U_make 40 = .ok (.aload_n 0, 1) := by decide +kernel
theorem d_U_make_41 : decode c_U_make 41 = .ok (.getfield 106, 3) := by decide +kernel
theorem d_U_make_44 : decode c_U_make 44 = .ok (.aload 7, 2) := by decide +kernel
theorem d_U_make_46 : decode c_U_make 46 = .ok (.aastore, 1) := by decide +kernel
theorem d_U_make_47 : decode c_U_make 47 = .ok (.aload_n 0, 1) := by decide +kernel
theorem d_U_make_48 : decode c_U_make 48 = .ok (.dup, 1) := by decide +kernel
theorem d_U_make_49 : decode c_U_make 49 = .ok (.getfield 106, 3) := by decide +kernel
theorem d_U_make_52 : decode c_U_make 52 = .ok (.iconst 1, 1) := by decide +kernel
theorem d_U_make_53 : decode c_U_make 53 = .ok (.iadd, 1) := by decide +kernel
theorem d_U_make_54 : decode c_U_make 54 = .ok (.putfield 106, 3) := by decide +kernel
theorem d_U_make_57 : decode c_U_make 57 = .ok (.aload_n 0, 1) := by decide +kernel
theorem d_U_make_58 : decode c_U_make 58 = .ok (.aload 7, 2) := by decide +kernel
theorem d_U_make_60 : decode c_U_make 60 = .ok (.getfield 76, 3) := by decide +kernel
theorem d_U_make_63 : decode c_U_make 63 = .ok (.putfield 112, 3) := by decide +kernel
theorem d_U_make_66 : decode c_U_make 66 = .ok (.aload 7, 2) := by decide +kernel
theorem d_U_make_68 : decode c_U_make 68 = .ok (.getfield 76, 3) := by decide +kernel
theorem d_U_make_71 : decode c_U_make 71 = .ok (.ireturn, 1) := by decide +kernel
theorem d_S_init_0 : decode c_S_init 0 = .ok (.aload_n 0, 1) := by decide +kernel
theorem d_S_init_1 : decode c_S_init 1 = .ok (.invokespecial 1, 3) := by decide +kernel
theorem d_S_init_4 : decode c_S_init 4 = .ok (.aload_n 0, 1) := by decide +kernel
theorem d_S_init_5 : decode c_S_init 5 = .ok (.iload_n 1, 1) := by decide +kernel
theorem d_S_init_6 : decode c_S_init 6 = .ok (.putfield 7, 3) := by decide +kernel
theorem d_S_init_9 : decode c_S_init 9 = .ok (.aload_n 0, 1) := by decide +kernel
theorem d_S_init_10 : decode c_S_init 10 = .ok (.iload_n 2, 1) := by decide +kernel
theorem d_S_init_11 : decode c_S_init 11 = .ok (.putfield 13, 3) := by decide +kernel
theorem d_S_init_14 : decode c_S_init 14 = .ok (.aload_n 0, 1) := by decide +kernel
theorem d_S_init_15 : decode c_S_init 15 = .ok (.iload_n 3, 1) := by decide +kernel
theorem d_S_init_16 : decode c_S_init 16 = .ok (.putfield 16, 3) := by decide +kernel
theorem d_S_init_19 : decode c_S_init 19 = .ok (.aload_n 0, 1) := by decide +kernel
theorem d_S_init_20 : decode c_S_init 20 = .ok (.iload 4, 2) := by decide +kernel
theorem d_S_init_22 : decode c_S_init 22 = .ok (.putfield 19, 3) := by decide +kernel
theorem d_S_init_25 : decode c_S_init 25 = .ok (.aload_n 0, 1) := by decide +kernel
theorem d_S_init_26 : decode c_S_init 26 = .ok (.lload 5, 2) := by decide +kernel
theorem d_S_init_28 : decode c_S_init 28 = .ok (.putfield 22, 3) := by decide +kernel
theorem d_S_init_31 : decode c_S_init 31 = .ok (.aload_n 0, 1) := by decide +kernel
theorem d_S_init_32 : decode c_S_init 32 = .ok (.aload 7, 2) := by decide +kernel
theorem d_S_init_34 : decode c_S_init 34 = .ok (.putfield 26, 3) := by decide +kernel
theorem d_S_init_37 : decode c_S_init 37 = .ok (.aload_n 0, 1) := by decide +kernel
theorem d_S_init_38 : decode c_S_init 38 = .ok (.iconst 1, 1) := by decide +kernel
theorem d_S_init_39 : decode c_S_init 39 = .ok (.putfield 30, 3) := by decide +kernel
theorem d_S_init_42 : decode c_S_init 42 = .ok (.return_, 1) := by decide +kernel
theorem d_U_add_0 : decode c_U_add 0 = .ok (.iload_n 1, 1) := by decide +kernel
theorem d_U_add_1 : decode c_U_add 1 = .ok (.iconst 4, 1) := by decide +kernel
theorem d_U_add_2 : decode c_U_add 2 = .ok (.invokestatic 32, 3) := by decide +kernel
theorem d_U_add_5 : decode c_U_add 5 = .ok (.ifCond .eq 10, 3) := by decide +kernel
theorem d_U_add_8 : decode c_U_add 8 = .ok (.aload_n 0, 1) := by decide +kernel
theorem d_U_add_9 : decode c_U_add 9 = .ok (.invokevirtual 36, 3) := by decide +kernel
theorem d_U_add_12 : decode c_U_add 12 = .ok (.ifCond .eq 5, 3) := by decide +kernel
theorem d_U_add_15 : decode c_U_add 15 = .ok (.iconst 0, 1) := by decide +kernel
theorem d_U_add_16 : decode c_U_add 16 = .ok (.ireturn, 1) := by decide +kernel
theorem d_U_add_17 : decode c_U_add 17 = .ok (.aload_n 0, 1) := by decide +kernel
theorem d_U_add_18 : decode c_U_add 18 = .ok (.iconst 2, 1) := by decide +kernel
theorem d_U_add_19 : decode c_U_add 19 = .ok (.iload_n 1, 1) := by decide +kernel
theorem d_U_add_20 : decode c_U_add 20 = .ok (.iconst 0, 1) := by decide +kernel
theorem d_U_add_21 : decode c_U_add 21 = .ok (.lload_n 2, 1) := by decide +kernel
theorem d_U_add_22 : decode c_U_add 22 = .ok (.getstatic 40, 3) := by decide +kernel
theorem d_U_add_25 : decode c_U_add 25 = .ok (.invokevirtual 43, 3) := by decide +kernel
theorem d_U_add_28 : decode c_U_add 28 = .ok (.ireturn, 1) := by decide +kernel
theorem d_U_insert_0 : decode c_U_insert 0 = .ok (.iload_n 1, 1) := by decide +kernel
theorem d_U_insert_1 : decode c_U_insert 1 = .ok (.iconst 3, 1) := by decide +kernel
theorem d_U_insert_2 : decode c_U_insert 2 = .ok (.invokestatic 32, 3) := by decide +kernel
theorem d_U_insert_5 : decode c_U_insert 5 = .ok (.ifCond .eq 20, 3) := by decide +kernel
theorem d_U_insert_8 : decode c_U_insert 8 = .ok (.aload_n 0, 1) := by decide +kernel
theorem d_U_insert_9 : decode c_U_insert 9 = .ok (.invokevirtual 36, 3) := by decide +kernel
theorem d_U_insert_12 : decode c_U_insert 12 = .ok (.ifCond .ne 13, 3) := by decide +kernel
theorem d_U_insert_15 : decode c_U_insert 15 = .ok (.aload_n 0, 1) := by decide +kernel
theorem d_U_insert_16 : decode c_U_insert 16 = .ok (.iload_n 1, 1) := by decide +kernel
theorem d_U_insert_17 : decode c_U_insert 17 = .ok (.invokevirtual 47, 3) := by decide +kernel
theorem d_U_insert_20 : decode c_U_insert 20 = .ok (.bipush 40, 2) := by decide +kernel
theorem d_U_insert_22 : decode c_U_insert 22 = .ok (.if_icmp .lt 5, 3) := by decide +kernel
theorem d_U_insert_25 : decode c_U_insert 25 = .ok (.iconst 0, 1) := by decide +kernel
theorem d_U_insert_26 : decode c_U_insert 26 = .ok (.ireturn, 1) := by decide +kernel
theorem d_U_insert_27 : decode c_U_insert 27 = .ok (.iload_n 2, 1) := by decide +kernel
theorem d_U_insert_28 : decode c_U_insert 28 = .ok (.aload_n 0, 1) := by decide +kernel
theorem d_U_insert_29 : decode c_U_insert 29 = .ok (.getfield 18, 3) := by decide +kernel
theorem d_U_insert_32 : decode c_U_insert 32 = .ok (.getfield 51, 3) := by decide +kernel
theorem d_U_insert_35 : decode c_U_insert 35 = .ok (.iload_n 1, 1) := by decide +kernel
theorem d_U_insert_36 : decode c_U_insert 36 = .ok (.iaload, 1) := by decide +kernel
theorem d_U_insert_37 : decode c_U_insert 37 = .ok (.iconst 1, 1) := by decide +kernel
theorem d_U_insert_38 : decode c_U_insert 38 = .ok (.iadd, 1) := by decide +kernel
theorem d_U_insert_39 : decode c_U_insert 39 = .ok (.invokestatic 32, 3) := by decide +kernel
theorem d_U_insert_42 : decode c_U_insert 42 = .ok (.ifCond .ne 5, 3) := by decide +kernel
theorem d_U_insert_45 : decode c_U_insert 45 = .ok (.iconst 0, 1) := by decide +kernel
theorem d_U_insert_46 : decode c_U_insert 46 = .ok (.ireturn, 1) := by decide +kernel
theorem d_U_insert_47 : decode c_U_insert 47 = .ok (.aload_n 0, 1) := by decide +kernel
theorem d_U_insert_48 : decode c_U_insert 48 = .ok (.iconst 3, 1) := by decide +kernel
theorem d_U_insert_49 : decode c_U_insert 49 = .ok (.iload_n 1, 1) := by decide +kernel
theorem d_U_insert_50 : decode c_U_insert 50 = .ok (.iconst 0, 1) := by decide +kernel
theorem d_U_insert_51 : decode c_U_insert 51 = .ok (.iload_n 3, 1) := by decide +kernel
theorem d_U_insert_52 : decode c_U_insert 52 = .ok (.i2l, 1) := by decide +kernel
theorem d_U_insert_53 : decode c_U_insert 53 = .ok (.aload_n 0, 1) := by decide +kernel
theorem d_U_insert_54 : decode c_U_insert 54 = .ok (.getfield 18, 3) := by decide +kernel
theorem d_U_insert_57 : decode c_U_insert 57 = .ok (.iload_n 1, 1) := by decide +kernel
theorem d_U_insert_58 : decode c_U_insert 58 = .ok (.iload_n 2, 1) := by decide +kernel
theorem d_U_insert_59 : decode c_U_insert 59 = .ok (.iconst 0, 1) := by decide +kernel
theorem d_U_insert_60 : decode c_U_insert 60 = .ok (.invokevirtual 54, 3) := by decide +kernel
theorem d_U_insert_63 : decode c_U_insert 63 = .ok (.invokevirtual 43, 3) := by decide +kernel
theorem d_U_insert_66 : decode c_U_insert 66 = .ok (.ireturn, 1) := by decide +kernel
theorem d_U_insertsOf_0 : decode c_U_insertsOf 0 = .ok (.iconst 0, 1) := by decide +kernel
theorem d_U_insertsOf_1 : decode c_U_insertsOf 1 = .ok (.istore_n 2, 1) := by decide +kernel
theorem d_U_insertsOf_2 : decode c_U_insertsOf 2 = .ok (.iconst 0, 1) := by decide +kernel
theorem d_U_insertsOf_3 : decode c_U_insertsOf 3 = .ok (.istore_n 3, 1) := by decide +kernel
theorem d_U_insertsOf_4 : decode c_U_insertsOf 4 = .ok (.iload_n 3, 1) := by decide +kernel
theorem d_U_insertsOf_5 : decode c_U_insertsOf 5 = .ok (.aload_n 0, 1) := by decide +kernel
theorem d_U_insertsOf_6 : decode c_U_insertsOf 6 = .ok (.getfield 106, 3) := by decide +kernel
theorem d_U_insertsOf_9 : decode c_U_insertsOf 9 = .ok (.if_icmp .ge 38, 3) := by decide +kernel
theorem d_U_insertsOf_12 : decode c_U_insertsOf 12 = .ok (.aload_n 0, 1) := by decide +kernel
theorem d_U_insertsOf_13 : decode c_U_insertsOf 13 = .ok (.getfield 11, 3) := by decide +kernel
theorem d_U_insertsOf_16 : decode c_U_insertsOf 16 = .ok (.iload_n 3, 1) := by decide +kernel
theorem d_U_insertsOf_17 : decode c_U_insertsOf 17 = .ok (.aaload, 1) := by decide +kernel
theorem d_U_insertsOf_18 : decode c_U_insertsOf 18 = .ok (.getfield 118, 3) := by decide +kernel
theorem d_U_insertsOf_21 : decode c_U_insertsOf 21 = .ok (.iconst 3, 1) := by decide +kernel
theorem d_U_insertsOf_22 : decode c_U_insertsOf 22 = .ok (.if_icmp .ne 19, 3) := by decide +kernel
theorem d_U_insertsOf_25 : decode c_U_insertsOf 25 = .ok (.aload_n 0, 1) := by decide +kernel
theorem d_U_insertsOf_26 : decode c_U_insertsOf 26 = .ok (.getfield 11, 3) := by decide +kernel
theorem d_U_insertsOf_29 : decode c_U_insertsOf 29 = .ok (.iload_n 3, 1) := by decide +kernel
theorem d_U_insertsOf_30 : decode c_U_insertsOf 30 = .ok (.aaload, 1) := by decide +kernel
theorem d_U_insertsOf_31 : decode c_U_insertsOf 31 = .ok (.getfield 121, 3) := by decide +kernel
theorem d_U_insertsOf_34 : decode c_U_insertsOf 34 = .ok (.iload_n 1, 1) := by decide +kernel
theorem d_U_insertsOf_35 : decode c_U_insertsOf 35 = .ok (.if_icmp .ne 6, 3) := by decide +kernel
theorem d_U_insertsOf_38 : decode c_U_insertsOf 38 = .ok (.iinc 2 1, 3) := by decide +kernel
theorem d_U_insertsOf_41 : decode c_U_insertsOf 41 = .ok (.iinc 3 1, 3) := by decide +kernel
theorem d_U_insertsOf_44 : decode c_U_insertsOf 44 = .ok (.goto (-40), 3) := by decide +kernel
theorem d_U_insertsOf_47 : decode c_U_insertsOf 47 = .ok (.iload_n 2, 1) := by decide +kernel
theorem d_U_insertsOf_48 : decode c_U_insertsOf 48 = .ok (.ireturn, 1) := by decide +kernel
theorem d_U_remove_0 : decode c_U_remove 0 = .ok (.aload_n 0, 1) := by decide +kernel
theorem d_U_remove_1 : decode c_U_remove 1 = .ok (.iload_n 1, 1) := by decide +kernel
theorem d_U_remove_2 : decode c_U_remove 2 = .ok (.iload_n 2, 1) := by decide +kernel
theorem d_U_remove_3 : decode c_U_remove 3 = .ok (.invokevirtual 58, 3) := by decide +kernel
theorem d_U_remove_6 : decode c_U_remove 6 = .ok (.istore_n 3, 1) := by decide +kernel
theorem d_U_remove_7 : decode c_U_remove 7 = .ok (.iload_n 3, 1) := by decide +kernel
theorem d_U_remove_8 : decode c_U_remove 8 = .ok (.ifCond .eq 10, 3) := by decide +kernel
theorem d_U_remove_11 : decode c_U_remove 11 = .ok (.aload_n 0, 1) := by decide +kernel
theorem d_U_remove_12 : decode c_U_remove 12 = .ok (.invokevirtual 36, 3) := by decide +kernel
theorem d_U_remove_15 : decode c_U_remove 15 = .ok (.ifCond .eq 5, 3) := by decide +kernel
theorem d_U_remove_18 : decode c_U_remove 18 = .ok (.iconst 0, 1) := by decide +kernel
theorem d_U_remove_19 : decode c_U_remove 19 = .ok (.ireturn, 1) := by decide +kernel
theorem d_U_remove_20 : decode c_U_remove 20 = .ok (.aload_n 0, 1) := by decide +kernel
theorem d_U_remove_21 : decode c_U_remove 21 = .ok (.iconst 4, 1) := by decide +kernel
theorem d_U_remove_22 : decode c_U_remove 22 = .ok (.iload_n 1, 1) := by decide +kernel
theorem d_U_remove_23 : decode c_U_remove 23 = .ok (.iload_n 3, 1) := by decide +kernel
theorem d_U_remove_24 : decode c_U_remove 24 = .ok (.lconst 0, 1) := by decide +kernel
theorem d_U_remove_25 : decode c_U_remove 25 = .ok (.getstatic 40, 3) := by decide +kernel
theorem d_U_remove_28 : decode c_U_remove 28 = .ok (.invokevirtual 43, 3) := by decide +kernel
theorem d_U_remove_31 : decode c_U_remove 31 = .ok (.ireturn, 1) := by decide +kernel
theorem d_U_element_0 : decode c_U_element 0 = .ok (.iload_n 1, 1) := by decide +kernel
theorem d_U_element_1 : decode c_U_element 1 = .ok (.iconst 3, 1) := by decide +kernel
theorem d_U_element_2 : decode c_U_element 2 = .ok (.invokestatic 32, 3) := by decide +kernel
theorem d_U_element_5 : decode c_U_element 5 = .ok (.ifCond .eq 19, 3) := by decide +kernel
theorem d_U_element_8 : decode c_U_element 8 = .ok (.iload_n 2, 1) := by decide +kernel
theorem d_U_element_9 : decode c_U_element 9 = .ok (.aload_n 0, 1) := by decide +kernel
theorem d_U_element_10 : decode c_U_element 10 = .ok (.getfield 18, 3) := by decide +kernel
theorem d_U_element_13 : decode c_U_element 13 = .ok (.getfield 51, 3) := by decide +kernel
theorem d_U_element_16 : decode c_U_element 16 = .ok (.iload_n 1, 1) := by decide +kernel
theorem d_U_element_17 : decode c_U_element 17 = .ok (.iaload, 1) := by decide +kernel
theorem d_U_element_18 : decode c_U_element 18 = .ok (.invokestatic 32, 3) := by decide +kernel
theorem d_U_element_21 : decode c_U_element 21 = .ok (.ifCond .ne 5, 3) := by decide +kernel
theorem d_U_element_24 : decode c_U_element 24 = .ok (.iconst 0, 1) := by decide +kernel
theorem d_U_element_25 : decode c_U_element 25 = .ok (.ireturn, 1) := by decide +kernel
theorem d_U_element_26 : decode c_U_element 26 = .ok (.aload_n 0, 1) := by decide +kernel
theorem d_U_element_27 : decode c_U_element 27 = .ok (.getfield 18, 3) := by decide +kernel
theorem d_U_element_30 : decode c_U_element 30 = .ok (.getfield 131, 3) := by decide +kernel
theorem d_U_element_33 : decode c_U_element 33 = .ok (.iload_n 1, 1) := by decide +kernel
theorem d_U_element_34 : decode c_U_element 34 = .ok (.aaload, 1) := by decide +kernel
theorem d_U_element_35 : decode c_U_element 35 = .ok (.iload_n 2, 1) := by decide +kernel
theorem d_U_element_36 : decode c_U_element 36 = .ok (.iaload, 1) := by decide +kernel
theorem d_U_element_37 : decode c_U_element 37 = .ok (.ireturn, 1) := by decide +kernel
theorem d_U_move_0 : decode c_U_move 0 = .ok (.aload_n 0, 1) := by decide +kernel
theorem d_U_move_1 : decode c_U_move 1 = .ok (.iload_n 1, 1) := by decide +kernel
theorem d_U_move_2 : decode c_U_move 2 = .ok (.iload_n 2, 1) := by decide +kernel
theorem d_U_move_3 : decode c_U_move 3 = .ok (.invokevirtual 58, 3) := by decide +kernel
theorem d_U_move_6 : decode c_U_move 6 = .ok (.istore 4, 2) := by decide +kernel
theorem d_U_move_8 : decode c_U_move 8 = .ok (.iload 4, 2) := by decide +kernel
theorem d_U_move_10 : decode c_U_move 10 = .ok (.ifCond .eq 26, 3) := by decide +kernel
theorem d_U_move_13 : decode c_U_move 13 = .ok (.iload_n 3, 1) := by decide +kernel
theorem d_U_move_14 : decode c_U_move 14 = .ok (.aload_n 0, 1) := by decide +kernel
theorem d_U_move_15 : decode c_U_move 15 = .ok (.getfield 18, 3) := by decide +kernel
theorem d_U_move_18 : decode c_U_move 18 = .ok (.getfield 51, 3) := by decide +kernel
theorem d_U_move_21 : decode c_U_move 21 = .ok (.iload_n 1, 1) := by decide +kernel
theorem d_U_move_22 : decode c_U_move 22 = .ok (.iaload, 1) := by decide +kernel
theorem d_U_move_23 : decode c_U_move 23 = .ok (.invokestatic 32, 3) := by decide +kernel
theorem d_U_move_26 : decode c_U_move 26 = .ok (.ifCond .eq 10, 3) := by decide +kernel
theorem d_U_move_29 : decode c_U_move 29 = .ok (.aload_n 0, 1) := by decide +kernel
theorem d_U_move_30 : decode c_U_move 30 = .ok (.invokevirtual 36, 3) := by decide +kernel
theorem d_U_move_33 : decode c_U_move 33 = .ok (.ifCond .eq 5, 3) := by decide +kernel
theorem d_U_move_36 : decode c_U_move 36 = .ok (.iconst 0, 1) := by decide +kernel
theorem d_U_move_37 : decode c_U_move 37 = .ok (.ireturn, 1) := by decide +kernel
theorem d_U_move_38 : decode c_U_move 38 = .ok (.aload_n 0, 1) := by decide +kernel
theorem d_U_move_39 : decode c_U_move 39 = .ok (.iconst 5, 1) := by decide +kernel
theorem d_U_move_40 : decode c_U_move 40 = .ok (.iload_n 1, 1) := by decide +kernel
theorem d_U_move_41 : decode c_U_move 41 = .ok (.iload 4, 2) := by decide +kernel
theorem d_U_move_43 : decode c_U_move 43 = .ok (.lconst 0, 1) := by decide +kernel
theorem d_U_move_44 : decode c_U_move 44 = .ok (.aload_n 0, 1) := by decide +kernel
theorem d_U_move_45 : decode c_U_move 45 = .ok (.getfield 18, 3) := by decide +kernel
theorem d_U_move_48 : decode c_U_move 48 = .ok (.iload_n 1, 1) := by decide +kernel
theorem d_U_move_49 : decode c_U_move 49 = .ok (.iload_n 3, 1) := by decide +kernel
theorem d_U_move_50 : decode c_U_move 50 = .ok (.iload 4, 2) := by decide +kernel
theorem d_U_move_52 : decode c_U_move 52 = .ok (.invokevirtual 54, 3) := by decide +kernel
theorem d_U_move_55 : decode c_U_move 55 = .ok (.invokevirtual 43, 3) := by decide +kernel
theorem d_U_move_58 : decode c_U_move 58 = .ok (.ireturn, 1) := by decide +kernel
theorem d_U_node_0 : decode c_U_node 0 = .ok (.aload_n 0, 1) := by decide +kernel
theorem d_U_node_1 : decode c_U_node 1 = .ok (.invokevirtual 36, 3) := by decide +kernel
theorem d_U_node_4 : decode c_U_node 4 = .ok (.ifCond .eq 7, 3) := by decide +kernel
theorem d_U_node_7 : decode c_U_node 7 = .ok (.iconst 0, 1) := by decide +kernel
theorem d_U_node_8 : decode c_U_node 8 = .ok (.goto 15, 3) := by decide +kernel
theorem d_U_node_11 : decode c_U_node 11 = .ok (.aload_n 0, 1) := by decide +kernel
theorem d_U_node_12 : decode c_U_node 12 = .ok (.bipush 6, 2) := by decide +kernel
theorem d_U_node_14 : decode c_U_node 14 = .ok (.iconst 0, 1) := by decide +kernel
theorem d_U_node_15 : decode c_U_node 15 = .ok (.iload_n 1, 1) := by decide +kernel
theorem d_U_node_16 : decode c_U_node 16 = .ok (.lconst 0, 1) := by decide +kernel
theorem d_U_node_17 : decode c_U_node 17 = .ok (.getstatic 40, 3) := by decide +kernel
theorem d_U_node_20 : decode c_U_node 20 = .ok (.invokevirtual 43, 3) := by decide +kernel
theorem d_U_node_23 : decode c_U_node 23 = .ok (.ireturn, 1) := by decide +kernel
theorem d_U_unlink_0 : decode c_U_unlink 0 = .ok (.aload_n 0, 1) := by decide +kernel
theorem d_U_unlink_1 : decode c_U_unlink 1 = .ok (.invokevirtual 36, 3) := by decide +kernel
theorem d_U_unlink_4 : decode c_U_unlink 4 = .ok (.ifCond .eq 7, 3) := by decide +kernel
theorem d_U_unlink_7 : decode c_U_unlink 7 = .ok (.iconst 0, 1) := by decide +kernel
theorem d_U_unlink_8 : decode c_U_unlink 8 = .ok (.goto 15, 3) := by decide +kernel
theorem d_U_unlink_11 : decode c_U_unlink 11 = .ok (.aload_n 0, 1) := by decide +kernel
theorem d_U_unlink_12 : decode c_U_unlink 12 = .ok (.bipush 7, 2) := by decide +kernel
theorem d_U_unlink_14 : decode c_U_unlink 14 = .ok (.iload_n 1, 1) := by decide +kernel
theorem d_U_unlink_15 : decode c_U_unlink 15 = .ok (.iconst 0, 1) := by decide +kernel
theorem d_U_unlink_16 : decode c_U_unlink 16 = .ok (.lconst 0, 1) := by decide +kernel
theorem d_U_unlink_17 : decode c_U_unlink 17 = .ok (.getstatic 40, 3) := by decide +kernel
theorem d_U_unlink_20 : decode c_U_unlink 20 = .ok (.invokevirtual 43, 3) := by decide +kernel
theorem d_U_unlink_23 : decode c_U_unlink 23 = .ok (.ireturn, 1) := by decide +kernel
theorem d_U_link_0 : decode c_U_link 0 = .ok (.aload_n 0, 1) := by decide +kernel
theorem d_U_link_1 : decode c_U_link 1 = .ok (.invokevirtual 36, 3) := by decide +kernel
theorem d_U_link_4 : decode c_U_link 4 = .ok (.ifCond .eq 7, 3) := by decide +kernel
theorem d_U_link_7 : decode c_U_link 7 = .ok (.iconst 0, 1) := by decide +kernel
theorem d_U_link_8 : decode c_U_link 8 = .ok (.goto 15, 3) := by decide +kernel
theorem d_U_link_11 : decode c_U_link 11 = .ok (.aload_n 0, 1) := by decide +kernel
theorem d_U_link_12 : decode c_U_link 12 = .ok (.bipush 8, 2) := by decide +kernel
theorem d_U_link_14 : decode c_U_link 14 = .ok (.iload_n 1, 1) := by decide +kernel
theorem d_U_link_15 : decode c_U_link 15 = .ok (.iload_n 2, 1) := by decide +kernel
theorem d_U_link_16 : decode c_U_link 16 = .ok (.lconst 0, 1) := by decide +kernel
theorem d_U_link_17 : decode c_U_link 17 = .ok (.getstatic 40, 3) := by decide +kernel
theorem d_U_link_20 : decode c_U_link 20 = .ok (.invokevirtual 43, 3) := by decide +kernel
theorem d_U_link_23 : decode c_U_link 23 = .ok (.ireturn, 1) := by decide +kernel
theorem d_U_undo_0 : decode c_U_undo 0 = .ok (.aload_n 0, 1) := by decide +kernel
theorem d_U_undo_1 : decode c_U_undo 1 = .ok (.iload_n 1, 1) := by decide +kernel
theorem d_U_undo_2 : decode c_U_undo 2 = .ok (.invokevirtual 62, 3) := by decide +kernel
theorem d_U_undo_5 : decode c_U_undo 5 = .ok (.istore_n 3, 1) := by decide +kernel
theorem d_U_undo_6 : decode c_U_undo 6 = .ok (.iload_n 3, 1) := by decide +kernel
theorem d_U_undo_7 : decode c_U_undo 7 = .ok (.iconst (-1), 1) := by decide +kernel
theorem d_U_undo_8 : decode c_U_undo 8 = .ok (.if_icmp .eq 15, 3) := by decide +kernel
theorem d_U_undo_11 : decode c_U_undo 11 = .ok (.aload_n 0, 1) := by decide +kernel
theorem d_U_undo_12 : decode c_U_undo 12 = .ok (.getfield 11, 3) := by decide +kernel
theorem d_U_undo_15 : decode c_U_undo 15 = .ok (.iload_n 3, 1) := by decide +kernel
theorem d_U_undo_16 : decode c_U_undo 16 = .ok (.aaload, 1) := by decide +kernel
theorem d_U_undo_17 : decode c_U_undo 17 = .ok (.getfield 65, 3) := by decide +kernel
theorem d_U_undo_20 : decode c_U_undo 20 = .ok (.ifCond .ne 5, 3) := by decide +kernel
theorem d_U_undo_23 : decode c_U_undo 23 = .ok (.iconst 0, 1) := by decide +kernel
theorem d_U_undo_24 : decode c_U_undo 24 = .ok (.ireturn, 1) := by decide +kernel
theorem d_U_undo_25 : decode c_U_undo 25 = .ok (.aload_n 0, 1) := by decide +kernel
theorem d_U_undo_26 : decode c_U_undo 26 = .ok (.getfield 11, 3) := by decide +kernel
theorem d_U_undo_29 : decode c_U_undo 29 = .ok (.iload_n 3, 1) := by decide +kernel
theorem d_U_undo_30 : decode c_U_undo 30 = .ok (.aaload, 1) := by decide +kernel
theorem d_U_undo_31 : decode c_U_undo 31 = .ok (.iconst 0, 1) := by decide +kernel
theorem d_U_undo_32 : decode c_U_undo 32 = .ok (.putfield 65, 3) := by decide +kernel
theorem d_U_undo_35 : decode c_U_undo 35 = .ok (.aload_n 0, 1) := by decide +kernel
theorem d_U_undo_36 : decode c_U_undo 36 = .ok (.invokevirtual 69, 3) := by decide +kernel
theorem d_U_undo_39 : decode c_U_undo 39 = .ok (.aload_n 0, 1) := by decide +kernel
theorem d_U_undo_40 : decode c_U_undo 40 = .ok (.getfield 72, 3) := by decide +kernel
theorem d_U_undo_43 : decode c_U_undo 43 = .ok (.ifCond .le 33, 3) := by decide +kernel
theorem d_U_undo_46 : decode c_U_undo 46 = .ok (.iload_n 2, 1) := by decide +kernel
theorem d_U_undo_47 : decode c_U_undo 47 = .ok (.ifCond .ne 29, 3) := by decide +kernel
theorem d_U_undo_50 : decode c_U_undo 50 = .ok (.aload_n 0, 1) := by decide +kernel
theorem d_U_undo_51 : decode c_U_undo 51 = .ok (.getfield 11, 3) := by decide +kernel
theorem d_U_undo_54 : decode c_U_undo 54 = .ok (.iload_n 3, 1) := by decide +kernel
theorem d_U_undo_55 : decode c_U_undo 55 = .ok (.aaload, 1) := by decide +kernel
theorem d_U_undo_56 : decode c_U_undo 56 = .ok (.iconst 1, 1) := by decide +kernel
theorem d_U_undo_57 : decode c_U_undo 57 = .ok (.putfield 65, 3) := by decide +kernel
theorem d_U_undo_60 : decode c_U_undo 60 = .ok (.aload_n 0, 1) := by decide +kernel
theorem d_U_undo_61 : decode c_U_undo 61 = .ok (.getfield 11, 3) := by decide +kernel
theorem d_U_undo_64 : decode c_U_undo 64 = .ok (.aload_n 0, 1) := by decide +kernel
theorem d_U_undo_65 : decode c_U_undo 65 = .ok (.getfield 25, 3) := by decide +kernel
theorem d_U_undo_68 : decode c_U_undo 68 = .ok (.iconst 0, 1) := by decide +kernel
theorem d_U_undo_69 : decode c_U_undo 69 = .ok (.iaload, 1) := by decide +kernel
theorem d_U_undo_70 : decode c_U_undo 70 = .ok (.aaload, 1) := by decide +kernel
theorem d_U_undo_71 : decode c_U_undo 71 = .ok (.getfield 76, 3) := by decide +kernel
theorem d_U_undo_74 : decode c_U_undo 74 = .ok (.ineg, 1) := by decide +kernel
theorem d_U_undo_75 : decode c_U_undo 75 = .ok (.ireturn, 1) := by decide +kernel
theorem d_U_undo_76 : decode c_U_undo 76 = .ok (.aload_n 0, 1) := by decide +kernel
theorem d_U_undo_77 : decode c_U_undo 77 = .ok (.invokevirtual 79, 3) := by decide +kernel
theorem d_U_undo_80 : decode c_U_undo 80 = .ok (.aload_n 0, 1) := by decide +kernel
theorem d_U_undo_81 : decode c_U_undo 81 = .ok (.invokevirtual 82, 3) := by decide +kernel
theorem d_U_undo_84 : decode c_U_undo 84 = .ok (.iconst 1, 1) := by decide +kernel
theorem d_U_undo_85 : decode c_U_undo 85 = .ok (.ireturn, 1) := by decide +kernel
theorem d_U_indexOf_0 : decode c_U_indexOf 0 = .ok (.iconst 0, 1) := by decide +kernel
theorem d_U_indexOf_1 : decode c_U_indexOf 1 = .ok (.istore_n 2, 1) := by decide +kernel
theorem d_U_indexOf_2 : decode c_U_indexOf 2 = .ok (.iload_n 2, 1) := by decide +kernel
theorem d_U_indexOf_3 : decode c_U_indexOf 3 = .ok (.aload_n 0, 1) := by decide +kernel
theorem d_U_indexOf_4 : decode c_U_indexOf 4 = .ok (.getfield 106, 3) := by decide +kernel
theorem d_U_indexOf_7 : decode c_U_indexOf 7 = .ok (.if_icmp .ge 24, 3) := by decide +kernel
theorem d_U_indexOf_10 : decode c_U_indexOf 10 = .ok (.aload_n 0, 1) := by decide +kernel
theorem d_U_indexOf_11 : decode c_U_indexOf 11 = .ok (.getfield 11, 3) := by decide +kernel
theorem d_U_indexOf_14 : decode c_U_indexOf 14 = .ok (.iload_n 2, 1) := by decide +kernel
theorem d_U_indexOf_15 : decode c_U_indexOf 15 = .ok (.aaload, 1) := by decide +kernel
theorem d_U_indexOf_16 : decode c_U_indexOf 16 = .ok (.getfield 76, 3) := by decide +kernel
theorem d_U_indexOf_19 : decode c_U_indexOf 19 = .ok (.iload_n 1, 1) := by decide +kernel
theorem d_U_indexOf_20 : decode c_U_indexOf 20 = .ok (.if_icmp .ne 5, 3) := by decide +kernel
theorem d_U_indexOf_23 : decode c_U_indexOf 23 = .ok (.iload_n 2, 1) := by decide +kernel
theorem d_U_indexOf_24 : decode c_U_indexOf 24 = .ok (.ireturn, 1) := by decide +kernel
theorem d_U_indexOf_25 : decode c_U_indexOf 25 = .ok (.iinc 2 1, 3) := by decide +kernel
theorem d_U_indexOf_28 : decode c_U_indexOf 28 = .ok (.goto (-26), 3) := by decide +kernel
theorem d_U_indexOf_31 : decode c_U_indexOf 31 = .ok (.iconst (-1), 1) := by decide +kernel
theorem d_U_indexOf_32 : decode c_U_indexOf 32 = .ok (.ireturn, 1) := by decide +kernel
theorem d_U_replayActive_0 : decode c_U_replayActive 0 = .ok (.aload_n 0, 1) := by decide +kernel
theorem d_U_replayActive_1 : decode c_U_replayActive 1 = .ok (.getfield 22, 3) := by decide +kernel
theorem d_U_replayActive_4 : decode c_U_replayActive 4 = .ok (.invokevirtual 88, 3) := by decide +kernel
theorem d_U_replayActive_7 : decode c_U_replayActive 7 = .ok (.aload_n 0, 1) := by decide +kernel
theorem d_U_replayActive_8 : decode c_U_replayActive 8 = .ok (.iconst 0, 1) := by decide +kernel
theorem d_U_replayActive_9 : decode c_U_replayActive 9 = .ok (.putfield 72, 3) := by decide +kernel
theorem d_U_replayActive_12 : decode c_U_replayActive 12 = .ok (.iconst 0, 1) := by decide +kernel
theorem d_U_replayActive_13 : decode c_U_replayActive 13 = .ok (.istore_n 1, 1) := by decide +kernel
theorem d_U_replayActive_14 : decode c_U_replayActive 14 = .ok (.iload_n 1, 1) := by decide +kernel
theorem d_U_replayActive_15 : decode c_U_replayActive 15 = .ok (.aload_n 0, 1) := by decide +kernel
theorem d_U_replayActive_16 : decode c_U_replayActive 16 = .ok (.getfield 106, 3) := by decide +kernel
theorem d_U_replayActive_19 : decode c_U_replayActive 19 = .ok (.if_icmp .ge 57, 3) := by decide +kernel
theorem d_U_replayActive_22 : decode c_U_replayActive 22 = .ok (.aload_n 0, 1) := by decide +kernel
theorem d_U_replayActive_23 : decode c_U_replayActive 23 = .ok (.getfield 11, 3) := by decide +kernel
theorem d_U_replayActive_26 : decode c_U_replayActive 26 = .ok (.iload_n 1, 1) := by decide +kernel
theorem d_U_replayActive_27 : decode c_U_replayActive 27 = .ok (.aaload, 1) := by decide +kernel
theorem d_U_replayActive_28 : decode c_U_replayActive 28 = .ok (.getfield 65, 3) := by decide +kernel
theorem d_U_replayActive_31 : decode c_U_replayActive 31 = .ok (.ifCond .eq 39, 3) := by decide +kernel
theorem d_U_replayActive_34 : decode c_U_replayActive 34 = .ok (.aload_n 0, 1) := by decide +kernel
theorem d_U_replayActive_35 : decode c_U_replayActive 35 = .ok (.getfield 22, 3) := by decide +kernel
theorem d_U_replayActive_38 : decode c_U_replayActive 38 = .ok (.aload_n 0, 1) := by decide +kernel
theorem d_U_replayActive_39 : decode c_U_replayActive 39 = .ok (.getfield 11, 3) := by decide +kernel
theorem d_U_replayActive_42 : decode c_U_replayActive 42 = .ok (.iload_n 1, 1) := by decide +kernel
theorem d_U_replayActive_43 : decode c_U_replayActive 43 = .ok (.aaload, 1) := by decide +kernel
theorem d_U_replayActive_44 : decode c_U_replayActive 44 = .ok (.invokevirtual 91, 3) := by decide +kernel
theorem d_U_replayActive_47 : decode c_U_replayActive 47 = .ok (.ifCond .ne 23, 3) := by decide +kernel
theorem d_U_replayActive_50 : decode c_U_replayActive 50 = .ok (.aload_n 0, 1) := by decide +kernel
theorem d_U_replayActive_51 : decode c_U_replayActive 51 = .ok (.getfield 25, 3) := by decide +kernel
theorem d_U_replayActive_54 : decode c_U_replayActive 54 = .ok (.aload_n 0, 1) := by decide +kernel
theorem d_U_replayActive_55 : decode c_U_replayActive 55 = .ok (.getfield 72, 3) := by decide +kernel
theorem d_U_replayActive_58 : decode c_U_replayActive 58 = .ok (.iload_n 1, 1) := by decide +kernel
theorem d_U_replayActive_59 : decode c_U_replayActive 59 = .ok (.iastore, 1) := by decide +kernel
theorem d_U_replayActive_60 : decode c_U_replayActive 60 = .ok (.aload_n 0, 1) := by decide +kernel
theorem d_U_replayActive_61 : decode c_U_replayActive 61 = .ok (.dup, 1) := by decide +kernel
theorem d_U_replayActive_62 : decode c_U_replayActive 62 = .ok (.getfield 72, 3) := by decide +kernel
theorem d_U_replayActive_65 : decode c_U_replayActive 65 = .ok (.iconst 1, 1) := by decide +kernel
theorem d_U_replayActive_66 : decode c_U_replayActive 66 = .ok (.iadd, 1) := by decide +kernel
theorem d_U_replayActive_67 : decode c_U_replayActive 67 = .ok (.putfield 72, 3) := by decide +kernel
theorem d_U_replayActive_70 : decode c_U_replayActive 70 = .ok (.iinc 1 1, 3) := by decide +kernel
theorem d_U_replayActive_73 : decode c_U_replayActive 73 = .ok (.goto (-59), 3) := by decide +kernel
theorem d_U_replayActive_76 : decode c_U_replayActive 76 = .ok (.return_, 1) := by decide +kernel
theorem d_U_takeImpossibleAlong_0 : decode c_U_takeImpossibleAlong 0 = .ok (.aload_n 0, 1) := by decide +kernel
theorem d_U_takeImpossibleAlong_1 : decode c_U_takeImpossibleAlong 1 = .ok (.aload_n 0, 1) := by decide +kernel
theorem d_U_takeImpossibleAlong_2 : decode c_U_takeImpossibleAlong 2 = .ok (.getfield 72, 3) := by decide +kernel
theorem d_U_takeImpossibleAlong_5 : decode c_U_takeImpossibleAlong 5 = .ok (.putfield 85, 3) := by decide +kernel
theorem d_U_takeImpossibleAlong_8 : decode c_U_takeImpossibleAlong 8 = .ok (.iconst 0, 1) := by decide +kernel
theorem d_U_takeImpossibleAlong_9 : decode c_U_takeImpossibleAlong 9 = .ok (.istore_n 1, 1) := by decide +kernel
theorem d_U_takeImpossibleAlong_10 : decode c_U_takeImpossibleAlong 10 = .ok (.iload_n 1, 1) := by decide +kernel
theorem d_U_takeImpossibleAlong_11 : decode c_U_takeImpossibleAlong 11 = .ok (.aload_n 0, 1) := by decide +kernel
theorem d_U_takeImpossibleAlong_12 : decode c_U_takeImpossibleAlong 12 = .ok (.getfield 72, 3) := by decide +kernel
theorem d_U_takeImpossibleAlong_15 : decode c_U_takeImpossibleAlong 15 = .ok (.if_icmp .ge 36, 3) := by decide +kernel
theorem d_U_takeImpossibleAlong_18 : decode c_U_takeImpossibleAlong 18 = .ok (.aload_n 0, 1) := by decide +kernel
theorem d_U_takeImpossibleAlong_19 : decode c_U_takeImpossibleAlong 19 = .ok (.getfield 11, 3) := by decide +kernel
theorem d_U_takeImpossibleAlong_22 : decode c_U_takeImpossibleAlong 22 = .ok (.aload_n 0, 1) := by decide +kernel
theorem d_U_takeImpossibleAlong_23 : decode c_U_takeImpossibleAlong 23 = .ok (.getfield 25, 3) := by decide +kernel
theorem d_U_takeImpossibleAlong_26 : decode c_U_takeImpossibleAlong 26 = .ok (.iload_n 1, 1) := by decide +kernel
theorem d_U_takeImpossibleAlong_27 : decode c_U_takeImpossibleAlong 27 = .ok (.iaload, 1) := by decide +kernel
theorem d_U_takeImpossibleAlong_28 : decode c_U_takeImpossibleAlong 28 = .ok (.aaload, 1) := by decide +kernel
theorem d_U_takeImpossibleAlong_29 : decode c_U_takeImpossibleAlong 29 = .ok (.astore_n 2, 1) := by decide +kernel
theorem d_U_takeImpossibleAlong_30 : decode c_U_takeImpossibleAlong 30 = .ok (.aload_n 2, 1) := by decide +kernel
theorem d_U_takeImpossibleAlong_31 : decode c_U_takeImpossibleAlong 31 = .ok (.iconst 0, 1) := by decide +kernel
theorem d_U_takeImpossibleAlong_32 : decode c_U_takeImpossibleAlong 32 = .ok (.putfield 65, 3) := by decide +kernel
theorem d_U_takeImpossibleAlong_35 : decode c_U_takeImpossibleAlong 35 = .ok (.aload_n 0, 1) := by decide +kernel
theorem d_U_takeImpossibleAlong_36 : decode c_U_takeImpossibleAlong 36 = .ok (.getfield 29, 3) := by decide +kernel
theorem d_U_takeImpossibleAlong_39 : decode c_U_takeImpossibleAlong 39 = .ok (.iload_n 1, 1) := by decide +kernel
theorem d_U_takeImpossibleAlong_40 : decode c_U_takeImpossibleAlong 40 = .ok (.aload_n 2, 1) := by decide +kernel
theorem d_U_takeImpossibleAlong_41 : decode c_U_takeImpossibleAlong 41 = .ok (.getfield 76, 3) := by decide +kernel
theorem d_U_takeImpossibleAlong_44 : decode c_U_takeImpossibleAlong 44 = .ok (.iastore, 1) := by decide +kernel
theorem d_U_takeImpossibleAlong_45 : decode c_U_takeImpossibleAlong 45 = .ok (.iinc 1 1, 3) := by decide +kernel
theorem d_U_takeImpossibleAlong_48 : decode c_U_takeImpossibleAlong 48 = .ok (.goto (-38), 3) := by decide +kernel
theorem d_U_takeImpossibleAlong_51 : decode c_U_takeImpossibleAlong 51 = .ok (.return_, 1) := by decide +kernel
theorem d_U_keepTrial_0 : decode c_U_keepTrial 0 = .ok (.aload_n 0, 1) := by decide +kernel
theorem d_U_keepTrial_1 : decode c_U_keepTrial 1 = .ok (.getfield 18, 3) := by decide +kernel
theorem d_U_keepTrial_4 : decode c_U_keepTrial 4 = .ok (.astore_n 1, 1) := by decide +kernel
theorem d_U_keepTrial_5 : decode c_U_keepTrial 5 = .ok (.aload_n 0, 1) := by decide +kernel
theorem d_U_keepTrial_6 : decode c_U_keepTrial 6 = .ok (.aload_n 0, 1) := by decide +kernel
theorem d_U_keepTrial_7 : decode c_U_keepTrial 7 = .ok (.getfield 22, 3) := by decide +kernel
theorem d_U_keepTrial_10 : decode c_U_keepTrial 10 = .ok (.putfield 18, 3) := by decide +kernel
theorem d_U_keepTrial_13 : decode c_U_keepTrial 13 = .ok (.aload_n 0, 1) := by decide +kernel
theorem d_U_keepTrial_14 : decode c_U_keepTrial 14 = .ok (.aload_n 1, 1) := by decide +kernel
theorem d_U_keepTrial_15 : decode c_U_keepTrial 15 = .ok (.putfield 22, 3) := by decide +kernel
theorem d_U_keepTrial_18 : decode c_U_keepTrial 18 = .ok (.return_, 1) := by decide +kernel
theorem d_U_redo_0 : decode c_U_redo 0 = .ok (.aload_n 0, 1) := by decide +kernel
theorem d_U_redo_1 : decode c_U_redo 1 = .ok (.iload_n 1, 1) := by decide +kernel
theorem d_U_redo_2 : decode c_U_redo 2 = .ok (.invokevirtual 62, 3) := by decide +kernel
theorem d_U_redo_5 : decode c_U_redo 5 = .ok (.istore_n 2, 1) := by decide +kernel
theorem d_U_redo_6 : decode c_U_redo 6 = .ok (.iload_n 2, 1) := by decide +kernel
theorem d_U_redo_7 : decode c_U_redo 7 = .ok (.iconst (-1), 1) := by decide +kernel
theorem d_U_redo_8 : decode c_U_redo 8 = .ok (.if_icmp .eq 15, 3) := by decide +kernel
theorem d_U_redo_11 : decode c_U_redo 11 = .ok (.aload_n 0, 1) := by decide +kernel
theorem d_U_redo_12 : decode c_U_redo 12 = .ok (.getfield 11, 3) := by decide +kernel
theorem d_U_redo_15 : decode c_U_redo 15 = .ok (.iload_n 2, 1) := by decide +kernel
theorem d_U_redo_16 : decode c_U_redo 16 = .ok (.aaload, 1) := by decide +kernel
theorem d_U_redo_17 : decode c_U_redo 17 = .ok (.getfield 65, 3) := by decide +kernel
theorem d_U_redo_20 : decode c_U_redo 20 = .ok (.ifCond .eq 5, 3) := by decide +kernel
theorem d_U_redo_23 : decode c_U_redo 23 = .ok (.iconst 0, 1) := by decide +kernel
theorem d_U_redo_24 : decode c_U_redo 24 = .ok (.ireturn, 1) := by decide +kernel
theorem d_U_redo_25 : decode c_U_redo 25 = .ok (.aload_n 0, 1) := by decide +kernel
theorem d_U_redo_26 : decode c_U_redo 26 = .ok (.getfield 11, 3) := by decide +kernel
theorem d_U_redo_29 : decode c_U_redo 29 = .ok (.iload_n 2, 1) := by decide +kernel
theorem d_U_redo_30 : decode c_U_redo 30 = .ok (.aaload, 1) := by decide +kernel
theorem d_U_redo_31 : decode c_U_redo 31 = .ok (.iconst 1, 1) := by decide +kernel
theorem d_U_redo_32 : decode c_U_redo 32 = .ok (.putfield 65, 3) := by decide +kernel
theorem d_U_redo_35 : decode c_U_redo 35 = .ok (.aload_n 0, 1) := by decide +kernel
theorem d_U_redo_36 : decode c_U_redo 36 = .ok (.invokevirtual 69, 3) := by decide +kernel
theorem d_U_redo_39 : decode c_U_redo 39 = .ok (.aload_n 0, 1) := by decide +kernel
theorem d_U_redo_40 : decode c_U_redo 40 = .ok (.getfield 72, 3) := by decide +kernel
theorem d_U_redo_43 : decode c_U_redo 43 = .ok (.ifCond .le 29, 3) := by decide +kernel
theorem d_U_redo_46 : decode c_U_redo 46 = .ok (.aload_n 0, 1) := by decide +kernel
theorem d_U_redo_47 : decode c_U_redo 47 = .ok (.getfield 11, 3) := by decide +kernel
theorem d_U_redo_50 : decode c_U_redo 50 = .ok (.iload_n 2, 1) := by decide +kernel
theorem d_U_redo_51 : decode c_U_redo 51 = .ok (.aaload, 1) := by decide +kernel
theorem d_U_redo_52 : decode c_U_redo 52 = .ok (.iconst 0, 1) := by decide +kernel
theorem d_U_redo_53 : decode c_U_redo 53 = .ok (.putfield 65, 3) := by decide +kernel
theorem d_U_redo_56 : decode c_U_redo 56 = .ok (.aload_n 0, 1) := by decide +kernel
theorem d_U_redo_57 : decode c_U_redo 57 = .ok (.getfield 11, 3) := by decide +kernel
theorem d_U_redo_60 : decode c_U_redo 60 = .ok (.aload_n 0, 1) := by decide +kernel
theorem d_U_redo_61 : decode c_U_redo 61 = .ok (.getfield 25, 3) := by decide +kernel
theorem d_U_redo_64 : decode c_U_redo 64 = .ok (.iconst 0, 1) := by decide +kernel
theorem d_U_redo_65 : decode c_U_redo 65 = .ok (.iaload, 1) := by decide +kernel
theorem d_U_redo_66 : decode c_U_redo 66 = .ok (.aaload, 1) := by decide +kernel
theorem d_U_redo_67 : decode c_U_redo 67 = .ok (.getfield 76, 3) := by decide +kernel
theorem d_U_redo_70 : decode c_U_redo 70 = .ok (.ineg, 1) := by decide +kernel
theorem d_U_redo_71 : decode c_U_redo 71 = .ok (.ireturn, 1) := by decide +kernel
theorem d_U_redo_72 : decode c_U_redo 72 = .ok (.aload_n 0, 1) := by decide +kernel
theorem d_U_redo_73 : decode c_U_redo 73 = .ok (.invokevirtual 82, 3) := by decide +kernel
theorem d_U_redo_76 : decode c_U_redo 76 = .ok (.iconst 1, 1) := by decide +kernel
theorem d_U_redo_77 : decode c_U_redo 77 = .ok (.ireturn, 1) := by decide +kernel
theorem d_U_taken_0 : decode c_U_taken 0 = .ok (.iload_n 1, 1) := by decide +kernel
theorem d_U_taken_1 : decode c_U_taken 1 = .ok (.aload_n 0, 1) := by decide +kernel
theorem d_U_taken_2 : decode c_U_taken 2 = .ok (.getfield 85, 3) := by decide +kernel
theorem d_U_taken_5 : decode c_U_taken 5 = .ok (.invokestatic 32, 3) := by decide +kernel
theorem d_U_taken_8 : decode c_U_taken 8 = .ok (.ifCond .eq 12, 3) := by decide +kernel
theorem d_U_taken_11 : decode c_U_taken 11 = .ok (.aload_n 0, 1) := by decide +kernel
theorem d_U_taken_12 : decode c_U_taken 12 = .ok (.getfield 29, 3) := by decide +kernel
theorem d_U_taken_15 : decode c_U_taken 15 = .ok (.iload_n 1, 1) := by decide +kernel
theorem d_U_taken_16 : decode c_U_taken 16 = .ok (.iaload, 1) := by decide +kernel
theorem d_U_taken_17 : decode c_U_taken 17 = .ok (.goto 4, 3) := by decide +kernel
theorem d_U_taken_20 : decode c_U_taken 20 = .ok (.iconst (-1), 1) := by decide +kernel
theorem d_U_taken_21 : decode c_U_taken 21 = .ok (.ireturn, 1) := by decide +kernel
theorem d_U_dependsOn_0 : decode c_U_dependsOn 0 = .ok (.aload_n 0, 1) := by decide +kernel
theorem d_U_dependsOn_1 : decode c_U_dependsOn 1 = .ok (.iload_n 1, 1) := by decide +kernel
theorem d_U_dependsOn_2 : decode c_U_dependsOn 2 = .ok (.invokevirtual 62, 3) := by decide +kernel
theorem d_U_dependsOn_5 : decode c_U_dependsOn 5 = .ok (.istore_n 3, 1) := by decide +kernel
theorem d_U_dependsOn_6 : decode c_U_dependsOn 6 = .ok (.aload_n 0, 1) := by decide +kernel
theorem d_U_dependsOn_7 : decode c_U_dependsOn 7 = .ok (.iload_n 2, 1) := by decide +kernel
theorem d_U_dependsOn_8 : decode c_U_dependsOn 8 = .ok (.invokevirtual 62, 3) := by decide +kernel
theorem d_U_dependsOn_11 : decode c_U_dependsOn 11 = .ok (.istore 4, 2) := by decide +kernel
theorem d_U_dependsOn_13 : decode c_U_dependsOn 13 = .ok (.iload_n 3, 1) := by decide +kernel
theorem d_U_dependsOn_14 : decode c_U_dependsOn 14 = .ok (.iconst (-1), 1) := by decide +kernel
theorem d_U_dependsOn_15 : decode c_U_dependsOn 15 = .ok (.if_icmp .eq 28, 3) := by decide +kernel
theorem d_U_dependsOn_18 : decode c_U_dependsOn 18 = .ok (.iload 4, 2) := by decide +kernel
theorem d_U_dependsOn_20 : decode c_U_dependsOn 20 = .ok (.iconst (-1), 1) := by decide +kernel
theorem d_U_dependsOn_21 : decode c_U_dependsOn 21 = .ok (.if_icmp .eq 22, 3) := by decide +kernel
theorem d_U_dependsOn_24 : decode c_U_dependsOn 24 = .ok (.iload 4, 2) := by decide +kernel
theorem d_U_dependsOn_26 : decode c_U_dependsOn 26 = .ok (.iload_n 3, 1) := by decide +kernel
theorem d_U_dependsOn_27 : decode c_U_dependsOn 27 = .ok (.if_icmp .ge 16, 3) := by decide +kernel
theorem d_U_dependsOn_30 : decode c_U_dependsOn 30 = .ok (.aload_n 0, 1) := by decide +kernel
theorem d_U_dependsOn_31 : decode c_U_dependsOn 31 = .ok (.getfield 11, 3) := by decide +kernel
theorem d_U_dependsOn_34 : decode c_U_dependsOn 34 = .ok (.iload 4, 2) := by decide +kernel
theorem d_U_dependsOn_36 : decode c_U_dependsOn 36 = .ok (.aaload, 1) := by decide +kernel
theorem d_U_dependsOn_37 : decode c_U_dependsOn 37 = .ok (.getfield 65, 3) := by decide +kernel
theorem d_U_dependsOn_40 : decode c_U_dependsOn 40 = .ok (.ifCond .ne 5, 3) := by decide +kernel
theorem d_U_dependsOn_43 : decode c_U_dependsOn 43 = .ok (.iconst 0, 1) := by decide +kernel
theorem d_U_dependsOn_44 : decode c_U_dependsOn 44 = .ok (.ireturn, 1) := by decide +kernel
theorem d_U_dependsOn_45 : decode c_U_dependsOn 45 = .ok (.aload_n 0, 1) := by decide +kernel
theorem d_U_dependsOn_46 : decode c_U_dependsOn 46 = .ok (.getfield 22, 3) := by decide +kernel
theorem d_U_dependsOn_49 : decode c_U_dependsOn 49 = .ok (.invokevirtual 88, 3) := by decide +kernel
theorem d_U_dependsOn_52 : decode c_U_dependsOn 52 = .ok (.iconst 0, 1) := by decide +kernel
theorem d_U_dependsOn_53 : decode c_U_dependsOn 53 = .ok (.istore 5, 2) := by decide +kernel
theorem d_U_dependsOn_55 : decode c_U_dependsOn 55 = .ok (.iload 5, 2) := by decide +kernel
theorem d_U_dependsOn_57 : decode c_U_dependsOn 57 = .ok (.iload_n 3, 1) := by decide +kernel
theorem d_U_dependsOn_58 : decode c_U_dependsOn 58 = .ok (.if_icmp .ge 44, 3) := by decide +kernel
theorem d_U_dependsOn_61 : decode c_U_dependsOn 61 = .ok (.aload_n 0, 1) := by decide +kernel
theorem d_U_dependsOn_62 : decode c_U_dependsOn 62 = .ok (.getfield 11, 3) := by decide +kernel
theorem d_U_dependsOn_65 : decode c_U_dependsOn 65 = .ok (.iload 5, 2) := by decide +kernel
theorem d_U_dependsOn_67 : decode c_U_dependsOn 67 = .ok (.aaload, 1) := by decide +kernel
theorem d_U_dependsOn_68 : decode c_U_dependsOn 68 = .ok (.getfield 65, 3) := by decide +kernel
theorem d_U_dependsOn_71 : decode c_U_dependsOn 71 = .ok (.ifCond .eq 25, 3) := by decide +kernel
theorem d_U_dependsOn_74 : decode c_U_dependsOn 74 = .ok (.iload 5, 2) := by decide +kernel
theorem d_U_dependsOn_76 : decode c_U_dependsOn 76 = .ok (.iload 4, 2) := by decide +kernel
theorem d_U_dependsOn_78 : decode c_U_dependsOn 78 = .ok (.if_icmp .eq 18, 3) := by decide +kernel
theorem d_U_dependsOn_81 : decode c_U_dependsOn 81 = .ok (.aload_n 0, 1) := by decide +kernel
theorem d_U_dependsOn_82 : decode c_U_dependsOn 82 = .ok (.getfield 22, 3) := by decide +kernel
theorem d_U_dependsOn_85 : decode c_U_dependsOn 85 = .ok (.aload_n 0, 1) := by decide +kernel
theorem d_U_dependsOn_86 : decode c_U_dependsOn 86 = .ok (.getfield 11, 3) := by decide +kernel
theorem d_U_dependsOn_89 : decode c_U_dependsOn 89 = .ok (.iload 5, 2) := by decide +kernel
theorem d_U_dependsOn_91 : decode c_U_dependsOn 91 = .ok (.aaload, 1) := by decide +kernel
theorem d_U_dependsOn_92 : decode c_U_dependsOn 92 = .ok (.invokevirtual 91, 3) := by decide +kernel
theorem d_U_dependsOn_95 : decode c_U_dependsOn 95 = .ok (.pop, 1) := by decide +kernel
theorem d_U_dependsOn_96 : decode c_U_dependsOn 96 = .ok (.iinc 5 1, 3) := by decide +kernel
theorem d_U_dependsOn_99 : decode c_U_dependsOn 99 = .ok (.goto (-44), 3) := by decide +kernel
theorem d_U_dependsOn_102 : decode c_U_dependsOn 102 = .ok (.aload_n 0, 1) := by decide +kernel
theorem d_U_dependsOn_103 : decode c_U_dependsOn 103 = .ok (.getfield 22, 3) := by decide +kernel
theorem d_U_dependsOn_106 : decode c_U_dependsOn 106 = .ok (.aload_n 0, 1) := by decide +kernel
theorem d_U_dependsOn_107 : decode c_U_dependsOn 107 = .ok (.getfield 11, 3) := by decide +kernel
theorem d_U_dependsOn_110 : decode c_U_dependsOn 110 = .ok (.iload_n 3, 1) := by decide +kernel
theorem d_U_dependsOn_111 : decode c_U_dependsOn 111 = .ok (.aaload, 1) := by decide +kernel
theorem d_U_dependsOn_112 : decode c_U_dependsOn 112 = .ok (.invokevirtual 95, 3) := by decide +kernel
theorem d_U_dependsOn_115 : decode c_U_dependsOn 115 = .ok (.ireturn, 1) := by decide +kernel
theorem d_U_undoLast_0 : decode c_U_undoLast 0 = .ok (.aload_n 0, 1) := by decide +kernel
theorem d_U_undoLast_1 : decode c_U_undoLast 1 = .ok (.invokevirtual 98, 3) := by decide +kernel
theorem d_U_undoLast_4 : decode c_U_undoLast 4 = .ok (.istore_n 1, 1) := by decide +kernel
theorem d_U_undoLast_5 : decode c_U_undoLast 5 = .ok (.iload_n 1, 1) := by decide +kernel
theorem d_U_undoLast_6 : decode c_U_undoLast 6 = .ok (.iconst (-1), 1) := by decide +kernel
theorem d_U_undoLast_7 : decode c_U_undoLast 7 = .ok (.if_icmp .ne 5, 3) := by decide +kernel
theorem d_U_undoLast_10 : decode c_U_undoLast 10 = .ok (.iconst 0, 1) := by decide +kernel
theorem d_U_undoLast_11 : decode c_U_undoLast 11 = .ok (.ireturn, 1) := by decide +kernel
theorem d_U_undoLast_12 : decode c_U_undoLast 12 = .ok (.aload_n 0, 1) := by decide +kernel
theorem d_U_undoLast_13 : decode c_U_undoLast 13 = .ok (.getfield 11, 3) := by decide +kernel
theorem d_U_undoLast_16 : decode c_U_undoLast 16 = .ok (.iload_n 1, 1) := by decide +kernel
theorem d_U_undoLast_17 : decode c_U_undoLast 17 = .ok (.aaload, 1) := by decide +kernel
theorem d_U_undoLast_18 : decode c_U_undoLast 18 = .ok (.getfield 76, 3) := by decide +kernel
theorem d_U_undoLast_21 : decode c_U_undoLast 21 = .ok (.istore_n 2, 1) := by decide +kernel
theorem d_U_undoLast_22 : decode c_U_undoLast 22 = .ok (.aload_n 0, 1) := by decide +kernel
theorem d_U_undoLast_23 : decode c_U_undoLast 23 = .ok (.iload_n 2, 1) := by decide +kernel
theorem d_U_undoLast_24 : decode c_U_undoLast 24 = .ok (.iconst 0, 1) := by decide +kernel
theorem d_U_undoLast_25 : decode c_U_undoLast 25 = .ok (.invokevirtual 102, 3) := by decide +kernel
theorem d_U_undoLast_28 : decode c_U_undoLast 28 = .ok (.pop, 1) := by decide +kernel
theorem d_U_undoLast_29 : decode c_U_undoLast 29 = .ok (.iload_n 2, 1) := by decide +kernel
theorem d_U_undoLast_30 : decode c_U_undoLast 30 = .ok (.ireturn, 1) := by decide +kernel
theorem d_U_latestActive_0 : decode c_U_latestActive 0 = .ok (.aload_n 0, 1) := by decide +kernel
theorem d_U_latestActive_1 : decode c_U_latestActive 1 = .ok (.getfield 106, 3) := by decide +kernel
theorem d_U_latestActive_4 : decode c_U_latestActive 4 = .ok (.iconst 1, 1) := by decide +kernel
theorem d_U_latestActive_5 : decode c_U_latestActive 5 = .ok (.isub, 1) := by decide +kernel
theorem d_U_latestActive_6 : decode c_U_latestActive 6 = .ok (.istore_n 1, 1) := by decide +kernel
theorem d_U_latestActive_7 : decode c_U_latestActive 7 = .ok (.iload_n 1, 1) := by decide +kernel
theorem d_U_latestActive_8 : decode c_U_latestActive 8 = .ok (.ifCond .lt 23, 3) := by decide +kernel
theorem d_U_latestActive_11 : decode c_U_latestActive 11 = .ok (.aload_n 0, 1) := by decide +kernel
theorem d_U_latestActive_12 : decode c_U_latestActive 12 = .ok (.getfield 11, 3) := by decide +kernel
theorem d_U_latestActive_15 : decode c_U_latestActive 15 = .ok (.iload_n 1, 1) := by decide +kernel
theorem d_U_latestActive_16 : decode c_U_latestActive 16 = .ok (.aaload, 1) := by decide +kernel
theorem d_U_latestActive_17 : decode c_U_latestActive 17 = .ok (.getfield 65, 3) := by decide +kernel
theorem d_U_latestActive_20 : decode c_U_latestActive 20 = .ok (.ifCond .eq 5, 3) := by decide +kernel
theorem d_U_latestActive_23 : decode c_U_latestActive 23 = .ok (.iload_n 1, 1) := by decide +kernel
theorem d_U_latestActive_24 : decode c_U_latestActive 24 = .ok (.ireturn, 1) := by decide +kernel
theorem d_U_latestActive_25 : decode c_U_latestActive 25 = .ok (.iinc 1 (-1), 3) := by decide +kernel
theorem d_U_latestActive_28 : decode c_U_latestActive 28 = .ok (.goto (-21), 3) := by decide +kernel
theorem d_U_latestActive_31 : decode c_U_latestActive 31 = .ok (.iconst (-1), 1) := by decide +kernel
theorem d_U_latestActive_32 : decode c_U_latestActive 32 = .ok (.ireturn, 1) := by decide +kernel
theorem d_U_redoNext_0 : decode c_U_redoNext 0 = .ok (.aload_n 0, 1) := by decide +kernel
theorem d_U_redoNext_1 : decode c_U_redoNext 1 = .ok (.invokevirtual 98, 3) := by decide +kernel
theorem d_U_redoNext_4 : decode c_U_redoNext 4 = .ok (.iconst 1, 1) := by decide +kernel
theorem d_U_redoNext_5 : decode c_U_redoNext 5 = .ok (.iadd, 1) := by decide +kernel
theorem d_U_redoNext_6 : decode c_U_redoNext 6 = .ok (.istore_n 1, 1) := by decide +kernel
theorem d_U_redoNext_7 : decode c_U_redoNext 7 = .ok (.iload_n 1, 1) := by decide +kernel
theorem d_U_redoNext_8 : decode c_U_redoNext 8 = .ok (.aload_n 0, 1) := by decide +kernel
theorem d_U_redoNext_9 : decode c_U_redoNext 9 = .ok (.getfield 106, 3) := by decide +kernel
theorem d_U_redoNext_12 : decode c_U_redoNext 12 = .ok (.if_icmp .lt 5, 3) := by decide +kernel
theorem d_U_redoNext_15 : decode c_U_redoNext 15 = .ok (.iconst 0, 1) := by decide +kernel
theorem d_U_redoNext_16 : decode c_U_redoNext 16 = .ok (.ireturn, 1) := by decide +kernel
theorem d_U_redoNext_17 : decode c_U_redoNext 17 = .ok (.aload_n 0, 1) := by decide +kernel
theorem d_U_redoNext_18 : decode c_U_redoNext 18 = .ok (.getfield 11, 3) := by decide +kernel
theorem d_U_redoNext_21 : decode c_U_redoNext 21 = .ok (.iload_n 1, 1) := by decide +kernel
theorem d_U_redoNext_22 : decode c_U_redoNext 22 = .ok (.aaload, 1) := by decide +kernel
theorem d_U_redoNext_23 : decode c_U_redoNext 23 = .ok (.getfield 76, 3) := by decide +kernel
theorem d_U_redoNext_26 : decode c_U_redoNext 26 = .ok (.istore_n 2, 1) := by decide +kernel
theorem d_U_redoNext_27 : decode c_U_redoNext 27 = .ok (.aload_n 0, 1) := by decide +kernel
theorem d_U_redoNext_28 : decode c_U_redoNext 28 = .ok (.iload_n 2, 1) := by decide +kernel
theorem d_U_redoNext_29 : decode c_U_redoNext 29 = .ok (.invokevirtual 109, 3) := by decide +kernel
theorem d_U_redoNext_32 : decode c_U_redoNext 32 = .ok (.iconst 1, 1) := by decide +kernel
theorem d_U_redoNext_33 : decode c_U_redoNext 33 = .ok (.if_icmp .ne 7, 3) := by decide +kernel
theorem d_U_redoNext_36 : decode c_U_redoNext 36 = .ok (.iload_n 2, 1) := by decide +kernel
theorem d_U_redoNext_37 : decode c_U_redoNext 37 = .ok (.goto 4, 3) := by decide +kernel
theorem d_U_redoNext_40 : decode c_U_redoNext 40 = .ok (.iconst 0, 1) := by decide +kernel
theorem d_U_redoNext_41 : decode c_U_redoNext 41 = .ok (.ireturn, 1) := by decide +kernel
theorem d_U_squash_0 : decode c_U_squash 0 = .ok (.iconst 0, 1) := by decide +kernel
theorem d_U_squash_1 : decode c_U_squash 1 = .ok (.istore_n 1, 1) := by decide +kernel
theorem d_U_squash_2 : decode c_U_squash 2 = .ok (.iconst 0, 1) := by decide +kernel
theorem d_U_squash_3 : decode c_U_squash 3 = .ok (.istore_n 2, 1) := by decide +kernel
theorem d_U_squash_4 : decode c_U_squash 4 = .ok (.iload_n 2, 1) := by decide +kernel
theorem d_U_squash_5 : decode c_U_squash 5 = .ok (.aload_n 0, 1) := by decide +kernel
theorem d_U_squash_6 : decode c_U_squash 6 = .ok (.getfield 106, 3) := by decide +kernel
theorem d_U_squash_9 : decode c_U_squash 9 = .ok (.if_icmp .ge 36, 3) := by decide +kernel
theorem d_U_squash_12 : decode c_U_squash 12 = .ok (.aload_n 0, 1) := by decide +kernel
theorem d_U_squash_13 : decode c_U_squash 13 = .ok (.getfield 11, 3) := by decide +kernel
theorem d_U_squash_16 : decode c_U_squash 16 = .ok (.iload_n 2, 1) := by decide +kernel
theorem d_U_squash_17 : decode c_U_squash 17 = .ok (.aaload, 1) := by decide +kernel
theorem d_U_squash_18 : decode c_U_squash 18 = .ok (.getfield 65, 3) := by decide +kernel
theorem d_U_squash_21 : decode c_U_squash 21 = .ok (.ifCond .eq 18, 3) := by decide +kernel
theorem d_U_squash_24 : decode c_U_squash 24 = .ok (.aload_n 0, 1) := by decide +kernel
theorem d_U_squash_25 : decode c_U_squash 25 = .ok (.getfield 11, 3) := by decide +kernel
theorem d_U_squash_28 : decode c_U_squash 28 = .ok (.iload_n 1, 1) := by decide +kernel
theorem d_U_squash_29 : decode c_U_squash 29 = .ok (.aload_n 0, 1) := by decide +kernel
theorem d_U_squash_30 : decode c_U_squash 30 = .ok (.getfield 11, 3) := by decide +kernel
theorem d_U_squash_33 : decode c_U_squash 33 = .ok (.iload_n 2, 1) := by decide +kernel
theorem d_U_squash_34 : decode c_U_squash 34 = .ok (.aaload, 1) := by decide +kernel
theorem d_U_squash_35 : decode c_U_squash 35 = .ok (.aastore, 1) := by decide +kernel
theorem d_U_squash_36 : decode c_U_squash 36 = .ok (.iinc 1 1, 3) := by decide +kernel
theorem d_U_squash_39 : decode c_U_squash 39 = .ok (.iinc 2 1, 3) := by decide +kernel
theorem d_U_squash_42 : decode c_U_squash 42 = .ok (.goto (-38), 3) := by decide +kernel
theorem d_U_squash_45 : decode c_U_squash 45 = .ok (.iload_n 1, 1) := by decide +kernel
theorem d_U_squash_46 : decode c_U_squash 46 = .ok (.istore_n 2, 1) := by decide +kernel
theorem d_U_squash_47 : decode c_U_squash 47 = .ok (.iload_n 2, 1) := by decide +kernel
theorem d_U_squash_48 : decode c_U_squash 48 = .ok (.aload_n 0, 1) := by decide +kernel
theorem d_U_squash_49 : decode c_U_squash 49 = .ok (.getfield 106, 3) := by decide +kernel
theorem d_U_squash_52 : decode c_U_squash 52 = .ok (.if_icmp .ge 16, 3) := by decide +kernel
theorem d_U_squash_55 : decode c_U_squash 55 = .ok (.aload_n 0, 1) := by decide +kernel
theorem d_U_squash_56 : decode c_U_squash 56 = .ok (.getfield 11, 3) := by decide +kernel
theorem d_U_squash_59 : decode c_U_squash 59 = .ok (.iload_n 2, 1) := by decide +kernel
theorem d_U_squash_60 : decode c_U_squash 60 = .ok (.aconst_null, 1) := by decide +kernel
theorem d_U_squash_61 : decode c_U_squash 61 = .ok (.aastore, 1) := by decide +kernel
theorem d_U_squash_62 : decode c_U_squash 62 = .ok (.iinc 2 1, 3) := by decide +kernel
theorem d_U_squash_65 : decode c_U_squash 65 = .ok (.goto (-18), 3) := by decide +kernel
theorem d_U_squash_68 : decode c_U_squash 68 = .ok (.aload_n 0, 1) := by decide +kernel
theorem d_U_squash_69 : decode c_U_squash 69 = .ok (.iload_n 1, 1) := by decide +kernel
theorem d_U_squash_70 : decode c_U_squash 70 = .ok (.putfield 106, 3) := by decide +kernel
theorem d_U_squash_73 : decode c_U_squash 73 = .ok (.iload_n 1, 1) := by decide +kernel
theorem d_U_squash_74 : decode c_U_squash 74 = .ok (.ireturn, 1) := by decide +kernel
theorem d_U_active_0 : decode c_U_active 0 = .ok (.aload_n 0, 1) := by decide +kernel
theorem d_U_active_1 : decode c_U_active 1 = .ok (.iload_n 1, 1) := by decide +kernel
theorem d_U_active_2 : decode c_U_active 2 = .ok (.invokevirtual 62, 3) := by decide +kernel
theorem d_U_active_5 : decode c_U_active 5 = .ok (.istore_n 2, 1) := by decide +kernel
theorem d_U_active_6 : decode c_U_active 6 = .ok (.iload_n 2, 1) := by decide +kernel
theorem d_U_active_7 : decode c_U_active 7 = .ok (.iconst (-1), 1) := by decide +kernel
theorem d_U_active_8 : decode c_U_active 8 = .ok (.if_icmp .ne 5, 3) := by decide +kernel
theorem d_U_active_11 : decode c_U_active 11 = .ok (.iconst (-1), 1) := by decide +kernel
theorem d_U_active_12 : decode c_U_active 12 = .ok (.ireturn, 1) := by decide +kernel
theorem d_U_active_13 : decode c_U_active 13 = .ok (.aload_n 0, 1) := by decide +kernel
theorem d_U_active_14 : decode c_U_active 14 = .ok (.getfield 11, 3) := by decide +kernel
theorem d_U_active_17 : decode c_U_active 17 = .ok (.iload_n 2, 1) := by decide +kernel
theorem d_U_active_18 : decode c_U_active 18 = .ok (.aaload, 1) := by decide +kernel
theorem d_U_active_19 : decode c_U_active 19 = .ok (.getfield 65, 3) := by decide +kernel
theorem d_U_active_22 : decode c_U_active 22 = .ok (.ifCond .eq 7, 3) := by decide +kernel
theorem d_U_active_25 : decode c_U_active 25 = .ok (.iconst 1, 1) := by decide +kernel
theorem d_U_active_26 : decode c_U_active 26 = .ok (.goto 4, 3) := by decide +kernel
theorem d_U_active_29 : decode c_U_active 29 = .ok (.iconst 0, 1) := by decide +kernel
theorem d_U_active_30 : decode c_U_active 30 = .ok (.ireturn, 1) := by decide +kernel
theorem d_U_count_0 : decode c_U_count 0 = .ok (.iload_n 1, 1) := by decide +kernel
theorem d_U_count_1 : decode c_U_count 1 = .ok (.tableswitch 42 0 2 #[27, 32, 37], 27) := by decide +kernel
theorem d_U_count_28 : decode c_U_count 28 = .ok (.aload_n 0, 1) := by decide +kernel
theorem d_U_count_29 : decode c_U_count 29 = .ok (.getfield 106, 3) := by decide +kernel
theorem d_U_count_32 : decode c_U_count 32 = .ok (.ireturn, 1) := by decide +kernel
theorem d_U_count_33 : decode c_U_count 33 = .ok (.aload_n 0, 1) := by decide +kernel
theorem d_U_count_34 : decode c_U_count 34 = .ok (.getfield 112, 3) := by decide +kernel
theorem d_U_count_37 : decode c_U_count 37 = .ok (.ireturn, 1) := by decide +kernel
theorem d_U_count_38 : decode c_U_count 38 = .ok (.aload_n 0, 1) := by decide +kernel
theorem d_U_count_39 : decode c_U_count 39 = .ok (.invokevirtual 115, 3) := by decide +kernel
theorem d_U_count_42 : decode c_U_count 42 = .ok (.ireturn, 1) := by decide +kernel
theorem d_U_count_43 : decode c_U_count 43 = .ok (.iconst (-1), 1) := by decide +kernel
theorem d_U_count_44 : decode c_U_count 44 = .ok (.ireturn, 1) := by decide +kernel
theorem d_U_countActive_0 : decode c_U_countActive 0 = .ok (.iconst 0, 1) := by decide +kernel
theorem d_U_countActive_1 : decode c_U_countActive 1 = .ok (.istore_n 1, 1) := by decide +kernel
theorem d_U_countActive_2 : decode c_U_countActive 2 = .ok (.iconst 0, 1) := by decide +kernel
theorem d_U_countActive_3 : decode c_U_countActive 3 = .ok (.istore_n 2, 1) := by decide +kernel
theorem d_U_countActive_4 : decode c_U_countActive 4 = .ok (.iload_n 2, 1) := by decide +kernel
theorem d_U_countActive_5 : decode c_U_countActive 5 = .ok (.aload_n 0, 1) := by decide +kernel
theorem d_U_countActive_6 : decode c_U_countActive 6 = .ok (.getfield 106, 3) := by decide +kernel
theorem d_U_countActive_9 : decode c_U_countActive 9 = .ok (.if_icmp .ge 24, 3) := by decide +kernel
theorem d_U_countActive_12 : decode c_U_countActive 12 = .ok (.aload_n 0, 1) := by decide +kernel
theorem d_U_countActive_13 : decode c_U_countActive 13 = .ok (.getfield 11, 3) := by decide +kernel
theorem d_U_countActive_16 : decode c_U_countActive 16 = .ok (.iload_n 2, 1) := by decide +kernel
theorem d_U_countActive_17 : decode c_U_countActive 17 = .ok (.aaload, 1) := by decide +kernel
theorem d_U_countActive_18 : decode c_U_countActive 18 = .ok (.getfield 65, 3) := by decide +kernel
theorem d_U_countActive_21 : decode c_U_countActive 21 = .ok (.ifCond .eq 6, 3) := by decide +kernel
theorem d_U_countActive_24 : decode c_U_countActive 24 = .ok (.iinc 1 1, 3) := by decide +kernel
theorem d_U_countActive_27 : decode c_U_countActive 27 = .ok (.iinc 2 1, 3) := by decide +kernel
theorem d_U_countActive_30 : decode c_U_countActive 30 = .ok (.goto (-26), 3) := by decide +kernel
theorem d_U_countActive_33 : decode c_U_countActive 33 = .ok (.iload_n 1, 1) := by decide +kernel
theorem d_U_countActive_34 : decode c_U_countActive 34 = .ok (.ireturn, 1) := by decide +kernel
theorem d_U_history_0 : decode c_U_history 0 = .ok (.iload_n 1, 1) := by decide +kernel
theorem d_U_history_1 : decode c_U_history 1 = .ok (.aload_n 0, 1) := by decide +kernel
theorem d_U_history_2 : decode c_U_history 2 = .ok (.getfield 106, 3) := by decide +kernel
theorem d_U_history_5 : decode c_U_history 5 = .ok (.invokestatic 32, 3) := by decide +kernel
theorem d_U_history_8 : decode c_U_history 8 = .ok (.ifCond .ne 5, 3) := by decide +kernel
theorem d_U_history_11 : decode c_U_history 11 = .ok (.iconst (-1), 1) := by decide +kernel
theorem d_U_history_12 : decode c_U_history 12 = .ok (.ireturn, 1) := by decide +kernel
theorem d_U_history_13 : decode c_U_history 13 = .ok (.iload_n 2, 1) := by decide +kernel
theorem d_U_history_14 : decode c_U_history 14 = .ok (.tableswitch 56 0 2 #[26, 36, 46], 26) := by decide +kernel
theorem d_U_history_40 : decode c_U_history 40 = .ok (.aload_n 0, 1) := by decide +kernel
theorem d_U_history_41 : decode c_U_history 41 = .ok (.getfield 11, 3) := by decide +kernel
theorem d_U_history_44 : decode c_U_history 44 = .ok (.iload_n 1, 1) := by decide +kernel
theorem d_U_history_45 : decode c_U_history 45 = .ok (.aaload, 1) := by decide +kernel
theorem d_U_history_46 : decode c_U_history 46 = .ok (.getfield 76, 3) := by decide +kernel
theorem d_U_history_49 : decode c_U_history 49 = .ok (.ireturn, 1) := by decide +kernel
theorem d_U_history_50 : decode c_U_history 50 = .ok (.aload_n 0, 1) := by decide +kernel
theorem d_U_history_51 : decode c_U_history 51 = .ok (.getfield 11, 3) := by decide +kernel
theorem d_U_history_54 : decode c_U_history 54 = .ok (.iload_n 1, 1) := by decide +kernel
theorem d_U_history_55 : decode c_U_history 55 = .ok (.aaload, 1) := by decide +kernel
theorem d_U_history_56 : decode c_U_history 56 = .ok (.getfield 118, 3) := by decide +kernel
theorem d_U_history_59 : decode c_U_history 59 = .ok (.ireturn, 1) := by decide +kernel
theorem d_U_history_60 : decode c_U_history 60 = .ok (.aload_n 0, 1) := by decide +kernel
theorem d_U_history_61 : decode c_U_history 61 = .ok (.getfield 11, 3) := by decide +kernel
theorem d_U_history_64 : decode c_U_history 64 = .ok (.iload_n 1, 1) := by decide +kernel
theorem d_U_history_65 : decode c_U_history 65 = .ok (.aaload, 1) := by decide +kernel
theorem d_U_history_66 : decode c_U_history 66 = .ok (.getfield 121, 3) := by decide +kernel
theorem d_U_history_69 : decode c_U_history 69 = .ok (.ireturn, 1) := by decide +kernel
theorem d_U_history_70 : decode c_U_history 70 = .ok (.iconst (-1), 1) := by decide +kernel
theorem d_U_history_71 : decode c_U_history 71 = .ok (.ireturn, 1) := by decide +kernel
theorem d_U_cell_0 : decode c_U_cell 0 = .ok (.iload_n 1, 1) := by decide +kernel
theorem d_U_cell_1 : decode c_U_cell 1 = .ok (.bipush 8, 2) := by decide +kernel
theorem d_U_cell_3 : decode c_U_cell 3 = .ok (.invokestatic 32, 3) := by decide +kernel
theorem d_U_cell_6 : decode c_U_cell 6 = .ok (.ifCond .eq 15, 3) := by decide +kernel
theorem d_U_cell_9 : decode c_U_cell 9 = .ok (.aload_n 0, 1) := by decide +kernel
theorem d_U_cell_10 : decode c_U_cell 10 = .ok (.getfield 18, 3) := by decide +kernel
theorem d_U_cell_13 : decode c_U_cell 13 = .ok (.getfield 124, 3) := by decide +kernel
theorem d_U_cell_16 : decode c_U_cell 16 = .ok (.iload_n 1, 1) := by decide +kernel
theorem d_U_cell_17 : decode c_U_cell 17 = .ok (.iaload, 1) := by decide +kernel
theorem d_U_cell_18 : decode c_U_cell 18 = .ok (.goto 4, 3) := by decide +kernel
theorem d_U_cell_21 : decode c_U_cell 21 = .ok (.iconst 0, 1) := by decide +kernel
theorem d_U_cell_22 : decode c_U_cell 22 = .ok (.ireturn, 1) := by decide +kernel
theorem d_U_counter_0 : decode c_U_counter 0 = .ok (.iload_n 1, 1) := by decide +kernel
theorem d_U_counter_1 : decode c_U_counter 1 = .ok (.iconst 4, 1) := by decide +kernel
theorem d_U_counter_2 : decode c_U_counter 2 = .ok (.invokestatic 32, 3) := by decide +kernel
theorem d_U_counter_5 : decode c_U_counter 5 = .ok (.ifCond .eq 15, 3) := by decide +kernel
theorem d_U_counter_8 : decode c_U_counter 8 = .ok (.aload_n 0, 1) := by decide +kernel
theorem d_U_counter_9 : decode c_U_counter 9 = .ok (.getfield 18, 3) := by decide +kernel
theorem d_U_counter_12 : decode c_U_counter 12 = .ok (.getfield 127, 3) := by decide +kernel
theorem d_U_counter_15 : decode c_U_counter 15 = .ok (.iload_n 1, 1) := by decide +kernel
theorem d_U_counter_16 : decode c_U_counter 16 = .ok (.laload, 1) := by decide +kernel
theorem d_U_counter_17 : decode c_U_counter 17 = .ok (.goto 4, 3) := by decide +kernel
theorem d_U_counter_20 : decode c_U_counter 20 = .ok (.lconst 0, 1) := by decide +kernel
theorem d_U_counter_21 : decode c_U_counter 21 = .ok (.lreturn, 1) := by decide +kernel
theorem d_U_length_0 : decode c_U_length 0 = .ok (.iload_n 1, 1) := by decide +kernel
theorem d_U_length_1 : decode c_U_length 1 = .ok (.iconst 3, 1) := by decide +kernel
theorem d_U_length_2 : decode c_U_length 2 = .ok (.invokestatic 32, 3) := by decide +kernel
theorem d_U_length_5 : decode c_U_length 5 = .ok (.ifCond .eq 15, 3) := by decide +kernel
theorem d_U_length_8 : decode c_U_length 8 = .ok (.aload_n 0, 1) := by decide +kernel
theorem d_U_length_9 : decode c_U_length 9 = .ok (.getfield 18, 3) := by decide +kernel
theorem d_U_length_12 : decode c_U_length 12 = .ok (.getfield 51, 3) := by decide +kernel
theorem d_U_length_15 : decode c_U_length 15 = .ok (.iload_n 1, 1) := by decide +kernel
theorem d_U_length_16 : decode c_U_length 16 = .ok (.iaload, 1) := by decide +kernel
theorem d_U_length_17 : decode c_U_length 17 = .ok (.goto 4, 3) := by decide +kernel
theorem d_U_length_20 : decode c_U_length 20 = .ok (.iconst (-1), 1) := by decide +kernel
theorem d_U_length_21 : decode c_U_length 21 = .ok (.ireturn, 1) := by decide +kernel
theorem d_U_value_0 : decode c_U_value 0 = .ok (.aload_n 0, 1) := by decide +kernel
theorem d_U_value_1 : decode c_U_value 1 = .ok (.iload_n 1, 1) := by decide +kernel
theorem d_U_value_2 : decode c_U_value 2 = .ok (.invokevirtual 62, 3) := by decide +kernel
theorem d_U_value_5 : decode c_U_value 5 = .ok (.istore_n 2, 1) := by decide +kernel
theorem d_U_value_6 : decode c_U_value 6 = .ok (.iload_n 2, 1) := by decide +kernel
theorem d_U_value_7 : decode c_U_value 7 = .ok (.iconst (-1), 1) := by decide +kernel
theorem d_U_value_8 : decode c_U_value 8 = .ok (.if_icmp .eq 16, 3) := by decide +kernel
theorem d_U_value_11 : decode c_U_value 11 = .ok (.aload_n 0, 1) := by decide +kernel
theorem d_U_value_12 : decode c_U_value 12 = .ok (.getfield 11, 3) := by decide +kernel
theorem d_U_value_15 : decode c_U_value 15 = .ok (.iload_n 2, 1) := by decide +kernel
theorem d_U_value_16 : decode c_U_value 16 = .ok (.aaload, 1) := by decide +kernel
theorem d_U_value_17 : decode c_U_value 17 = .ok (.getfield 118, 3) := by decide +kernel
theorem d_U_value_20 : decode c_U_value 20 = .ok (.iconst 3, 1) := by decide +kernel
theorem d_U_value_21 : decode c_U_value 21 = .ok (.if_icmp .eq 5, 3) := by decide +kernel
theorem d_U_value_24 : decode c_U_value 24 = .ok (.iconst 0, 1) := by decide +kernel
theorem d_U_value_25 : decode c_U_value 25 = .ok (.ireturn, 1) := by decide +kernel
theorem d_U_value_26 : decode c_U_value 26 = .ok (.aload_n 0, 1) := by decide +kernel
theorem d_U_value_27 : decode c_U_value 27 = .ok (.getfield 11, 3) := by decide +kernel
theorem d_U_value_30 : decode c_U_value 30 = .ok (.iload_n 2, 1) := by decide +kernel
theorem d_U_value_31 : decode c_U_value 31 = .ok (.aaload, 1) := by decide +kernel
theorem d_U_value_32 : decode c_U_value 32 = .ok (.getfield 135, 3) := by decide +kernel
theorem d_U_value_35 : decode c_U_value 35 = .ok (.l2i, 1) := by decide +kernel
theorem d_U_value_36 : decode c_U_value 36 = .ok (.ireturn, 1) := by decide +kernel
theorem d_U_parent_0 : decode c_U_parent 0 = .ok (.aload_n 0, 1) := by decide +kernel
theorem d_U_parent_1 : decode c_U_parent 1 = .ok (.getfield 18, 3) := by decide +kernel
theorem d_U_parent_4 : decode c_U_parent 4 = .ok (.iload_n 1, 1) := by decide +kernel
theorem d_U_parent_5 : decode c_U_parent 5 = .ok (.invokevirtual 139, 3) := by decide +kernel
theorem d_U_parent_8 : decode c_U_parent 8 = .ok (.ireturn, 1) := by decide +kernel
