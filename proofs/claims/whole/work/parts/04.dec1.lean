theorem d_Hi_init_0 : decode c_Hi_init 0 = .ok (.aload_n 0, 1) := by decide +kernel
theorem d_Hi_init_1 : decode c_Hi_init 1 = .ok (.invokespecial 3, 3) := by decide +kernel
theorem d_Hi_init_4 : decode c_Hi_init 4 = .ok (.aload_n 0, 1) := by decide +kernel
theorem d_Hi_init_5 : decode c_Hi_init 5 = .ok (.bipush 60, 2) := by decide +kernel
theorem d_Hi_init_7 : decode c_Hi_init 7 = .ok (.newarray .int, 2) := by decide +kernel
theorem d_Hi_init_9 : decode c_Hi_init 9 = .ok (.putfield 9, 3) := by decide +kernel
theorem d_Hi_init_12 : decode c_Hi_init 12 = .ok (.aload_n 0, 1) := by decide +kernel
theorem d_Hi_init_13 : decode c_Hi_init 13 = .ok (.iconst 0, 1) := by decide +kernel
theorem d_Hi_init_14 : decode c_Hi_init 14 = .ok (.putfield 15, 3) := by decide +kernel
theorem d_Hi_init_17 : decode c_Hi_init 17 = .ok (.return_, 1) := by decide +kernel
theorem d_Hi_numberAt_0 : decode c_Hi_numberAt 0 = .ok (.iload_n 1, 1) := by decide +kernel
theorem d_Hi_numberAt_1 : decode c_Hi_numberAt 1 = .ok (.ifCond .lt 26, 3) := by decide +kernel
theorem d_Hi_numberAt_4 : decode c_Hi_numberAt 4 = .ok (.iload_n 1, 1) := by decide +kernel
theorem d_Hi_numberAt_5 : decode c_Hi_numberAt 5 = .ok (.aload_n 0, 1) := by decide +kernel
theorem d_Hi_numberAt_6 : decode c_Hi_numberAt 6 = .ok (.getfield 15, 3) := by decide +kernel
theorem d_Hi_numberAt_9 : decode c_Hi_numberAt 9 = .ok (.if_icmp .ge 18, 3) := by decide +kernel
theorem d_Hi_numberAt_12 : decode c_Hi_numberAt 12 = .ok (.iload_n 1, 1) := by decide +kernel
theorem d_Hi_numberAt_13 : decode c_Hi_numberAt 13 = .ok (.bipush 60, 2) := by decide +kernel
theorem d_Hi_numberAt_15 : decode c_Hi_numberAt 15 = .ok (.if_icmp .ge 12, 3) := by decide +kernel
theorem d_Hi_numberAt_18 : decode c_Hi_numberAt 18 = .ok (.aload_n 0, 1) := by decide +kernel
theorem d_Hi_numberAt_19 : decode c_Hi_numberAt 19 = .ok (.getfield 9, 3) := by decide +kernel
theorem d_Hi_numberAt_22 : decode c_Hi_numberAt 22 = .ok (.iload_n 1, 1) := by decide +kernel
theorem d_Hi_numberAt_23 : decode c_Hi_numberAt 23 = .ok (.iaload, 1) := by decide +kernel
theorem d_Hi_numberAt_24 : decode c_Hi_numberAt 24 = .ok (.goto 4, 3) := by decide +kernel
theorem d_Hi_numberAt_27 : decode c_Hi_numberAt 27 = .ok (.iconst 0, 1) := by decide +kernel
theorem d_Hi_numberAt_28 : decode c_Hi_numberAt 28 = .ok (.ireturn, 1) := by decide +kernel
theorem d_Hi_gather_0 : decode c_Hi_gather 0 = .ok (.aload_n 0, 1) := by decide +kernel
theorem d_Hi_gather_1 : decode c_Hi_gather 1 = .ok (.iconst 0, 1) := by decide +kernel
theorem d_Hi_gather_2 : decode c_Hi_gather 2 = .ok (.putfield 15, 3) := by decide +kernel
theorem d_Hi_gather_5 : decode c_Hi_gather 5 = .ok (.iconst 1, 1) := by decide +kernel
theorem d_Hi_gather_6 : decode c_Hi_gather 6 = .ok (.istore 4, 2) := by decide +kernel
theorem d_Hi_gather_8 : decode c_Hi_gather 8 = .ok (.iload 4, 2) := by decide +kernel
theorem d_Hi_gather_10 : decode c_Hi_gather 10 = .ok (.aload_n 1, 1) := by decide +kernel
theorem d_Hi_gather_11 : decode c_Hi_gather 11 = .ok (.invokevirtual 19, 3) := by decide +kernel
theorem d_Hi_gather_14 : decode c_Hi_gather 14 = .ok (.if_icmp .gt 58, 3) := by decide +kernel
theorem d_Hi_gather_17 : decode c_Hi_gather 17 = .ok (.iload_n 3, 1) := by decide +kernel
theorem d_Hi_gather_18 : decode c_Hi_gather 18 = .ok (.ifCond .eq 16, 3) := by decide +kernel
theorem d_Hi_gather_21 : decode c_Hi_gather 21 = .ok (.aload_n 2, 1) := by decide +kernel
theorem d_Hi_gather_22 : decode c_Hi_gather 22 = .ok (.aload_n 1, 1) := by decide +kernel
theorem d_Hi_gather_23 : decode c_Hi_gather 23 = .ok (.iload 4, 2) := by decide +kernel
theorem d_Hi_gather_25 : decode c_Hi_gather 25 = .ok (.invokevirtual 25, 3) := by decide +kernel
theorem d_Hi_gather_28 : decode c_Hi_gather 28 = .ok (.invokevirtual 29, 3) := by decide +kernel
theorem d_Hi_gather_31 : decode c_Hi_gather 31 = .ok (.ifCond .eq 7, 3) := by decide +kernel
theorem d_Hi_gather_34 : decode c_Hi_gather 34 = .ok (.iconst 1, 1) := by decide +kernel
theorem d_Hi_gather_35 : decode c_Hi_gather 35 = .ok (.goto 4, 3) := by decide +kernel
theorem d_Hi_gather_38 : decode c_Hi_gather 38 = .ok (.iconst 0, 1) := by decide +kernel
theorem d_Hi_gather_39 : decode c_Hi_gather 39 = .ok (.istore 5, 2) := by decide +kernel
theorem d_Hi_gather_41 : decode c_Hi_gather 41 = .ok (.iload 5, 2) := by decide +kernel
theorem d_Hi_gather_43 : decode c_Hi_gather 43 = .ok (.ifCond .eq 23, 3) := by decide +kernel
theorem d_Hi_gather_46 : decode c_Hi_gather 46 = .ok (.aload_n 1, 1) := by decide +kernel
theorem d_Hi_gather_47 : decode c_Hi_gather 47 = .ok (.aload_n 2, 1) := by decide +kernel
theorem d_Hi_gather_48 : decode c_Hi_gather 48 = .ok (.getfield 35, 3) := by decide +kernel
theorem d_Hi_gather_51 : decode c_Hi_gather 51 = .ok (.iload 4, 2) := by decide +kernel
theorem d_Hi_gather_53 : decode c_Hi_gather 53 = .ok (.invokevirtual 39, 3) := by decide +kernel
theorem d_Hi_gather_56 : decode c_Hi_gather 56 = .ok (.ifCond .eq 10, 3) := by decide +kernel
theorem d_Hi_gather_59 : decode c_Hi_gather 59 = .ok (.aload_n 0, 1) := by decide +kernel
theorem d_Hi_gather_60 : decode c_Hi_gather 60 = .ok (.aload_n 1, 1) := by decide +kernel
theorem d_Hi_gather_61 : decode c_Hi_gather 61 = .ok (.iload 4, 2) := by decide +kernel
theorem d_Hi_gather_63 : decode c_Hi_gather 63 = .ok (.invokevirtual 43, 3) := by decide +kernel
theorem d_Hi_gather_66 : decode c_Hi_gather 66 = .ok (.iinc 4 1, 3) := by decide +kernel
theorem d_Hi_gather_69 : decode c_Hi_gather 69 = .ok (.goto (-61), 3) := by decide +kernel
theorem d_Hi_gather_72 : decode c_Hi_gather 72 = .ok (.aload_n 0, 1) := by decide +kernel
theorem d_Hi_gather_73 : decode c_Hi_gather 73 = .ok (.getfield 15, 3) := by decide +kernel
theorem d_Hi_gather_76 : decode c_Hi_gather 76 = .ok (.ireturn, 1) := by decide +kernel
theorem d_Hi_insert_0 : decode c_Hi_insert 0 = .ok (.aload_n 0, 1) := by decide +kernel
theorem d_Hi_insert_1 : decode c_Hi_insert 1 = .ok (.getfield 15, 3) := by decide +kernel
theorem d_Hi_insert_4 : decode c_Hi_insert 4 = .ok (.ifCond .lt 12, 3) := by decide +kernel
theorem d_Hi_insert_7 : decode c_Hi_insert 7 = .ok (.aload_n 0, 1) := by decide +kernel
theorem d_Hi_insert_8 : decode c_Hi_insert 8 = .ok (.getfield 15, 3) := by decide +kernel
theorem d_Hi_insert_11 : decode c_Hi_insert 11 = .ok (.bipush 60, 2) := by decide +kernel
theorem d_Hi_insert_13 : decode c_Hi_insert 13 = .ok (.if_icmp .lt 4, 3) := by decide +kernel
theorem d_Hi_insert_16 : decode c_Hi_insert 16 = .ok (.return_, 1) := by decide +kernel
theorem d_Hi_insert_17 : decode c_Hi_insert 17 = .ok (.aload_n 0, 1) := by decide +kernel
theorem d_Hi_insert_18 : decode c_Hi_insert 18 = .ok (.getfield 15, 3) := by decide +kernel
theorem d_Hi_insert_21 : decode c_Hi_insert 21 = .ok (.istore_n 3, 1) := by decide +kernel
theorem d_Hi_insert_22 : decode c_Hi_insert 22 = .ok (.iload_n 3, 1) := by decide +kernel
theorem d_Hi_insert_23 : decode c_Hi_insert 23 = .ok (.ifCond .le 44, 3) := by decide +kernel
theorem d_Hi_insert_26 : decode c_Hi_insert 26 = .ok (.aload_n 1, 1) := by decide +kernel
theorem d_Hi_insert_27 : decode c_Hi_insert 27 = .ok (.aload_n 0, 1) := by decide +kernel
theorem d_Hi_insert_28 : decode c_Hi_insert 28 = .ok (.getfield 9, 3) := by decide +kernel
theorem d_Hi_insert_31 : decode c_Hi_insert 31 = .ok (.iload_n 3, 1) := by decide +kernel
theorem d_Hi_insert_32 : decode c_Hi_insert 32 = .ok (.iconst 1, 1) := by decide +kernel
theorem d_Hi_insert_33 : decode c_Hi_insert 33 = .ok (.isub, 1) := by decide +kernel
theorem d_Hi_insert_34 : decode c_Hi_insert 34 = .ok (.iaload, 1) := by decide +kernel
theorem d_Hi_insert_35 : decode c_Hi_insert 35 = .ok (.invokevirtual 25, 3) := by decide +kernel
theorem d_Hi_insert_38 : decode c_Hi_insert 38 = .ok (.aload_n 1, 1) := by decide +kernel
theorem d_Hi_insert_39 : decode c_Hi_insert 39 = .ok (.iload_n 2, 1) := by decide +kernel
theorem d_Hi_insert_40 : decode c_Hi_insert 40 = .ok (.invokevirtual 25, 3) := by decide +kernel
theorem d_Hi_insert_43 : decode c_Hi_insert 43 = .ok (.lcmp, 1) := by decide +kernel
theorem d_Hi_insert_44 : decode c_Hi_insert 44 = .ok (.ifCond .ge 23, 3) := by decide +kernel
theorem d_Hi_insert_47 : decode c_Hi_insert 47 = .ok (.aload_n 0, 1) := by decide +kernel
theorem d_Hi_insert_48 : decode c_Hi_insert 48 = .ok (.getfield 9, 3) := by decide +kernel
theorem d_Hi_insert_51 : decode c_Hi_insert 51 = .ok (.iload_n 3, 1) := by decide +kernel
theorem d_Hi_insert_52 : decode c_Hi_insert 52 = .ok (.aload_n 0, 1) := by decide +kernel
theorem d_Hi_insert_53 : decode c_Hi_insert 53 = .ok (.getfield 9, 3) := by decide +kernel
theorem d_Hi_insert_56 : decode c_Hi_insert 56 = .ok (.iload_n 3, 1) := by decide +kernel
theorem d_Hi_insert_57 : decode c_Hi_insert 57 = .ok (.iconst 1, 1) := by decide +kernel
theorem d_Hi_insert_58 : decode c_Hi_insert 58 = .ok (.isub, 1) := by decide +kernel
theorem d_Hi_insert_59 : decode c_Hi_insert 59 = .ok (.iaload, 1) := by decide +kernel
theorem d_Hi_insert_60 : decode c_Hi_insert 60 = .ok (.iastore, 1) := by decide +kernel
theorem d_Hi_insert_61 : decode c_Hi_insert 61 = .ok (.iinc 3 (-1), 3) := by decide +kernel
theorem d_Hi_insert_64 : decode c_Hi_insert 64 = .ok (.goto (-42), 3) := by decide +kernel
theorem d_Hi_insert_67 : decode c_Hi_insert 67 = .ok (.aload_n 0, 1) := by decide +kernel
theorem d_Hi_insert_68 : decode c_Hi_insert 68 = .ok (.getfield 9, 3) := by decide +kernel
theorem d_Hi_insert_71 : decode c_Hi_insert 71 = .ok (.iload_n 3, 1) := by decide +kernel
theorem d_Hi_insert_72 : decode c_Hi_insert 72 = .ok (.iload_n 2, 1) := by decide +kernel
theorem d_Hi_insert_73 : decode c_Hi_insert 73 = .ok (.iastore, 1) := by decide +kernel
theorem d_Hi_insert_74 : decode c_Hi_insert 74 = .ok (.aload_n 0, 1) := by decide +kernel
theorem d_Hi_insert_75 : decode c_Hi_insert 75 = .ok (.dup, 1) := by decide +kernel
theorem d_Hi_insert_76 : decode c_Hi_insert 76 = .ok (.getfield 15, 3) := by decide +kernel
theorem d_Hi_insert_79 : decode c_Hi_insert 79 = .ok (.iconst 1, 1) := by decide +kernel
theorem d_Hi_insert_80 : decode c_Hi_insert 80 = .ok (.iadd, 1) := by decide +kernel
theorem d_Hi_insert_81 : decode c_Hi_insert 81 = .ok (.putfield 15, 3) := by decide +kernel
theorem d_Hi_insert_84 : decode c_Hi_insert 84 = .ok (.return_, 1) := by decide +kernel
theorem d_Qu_init_0 : decode c_Qu_init 0 = .ok (.aload_n 0, 1) := by decide +kernel
theorem d_Qu_init_1 : decode c_Qu_init 1 = .ok (.invokespecial 1, 3) := by decide +kernel
theorem d_Qu_init_4 : decode c_Qu_init 4 = .ok (.aload_n 0, 1) := by decide +kernel
theorem d_Qu_init_5 : decode c_Qu_init 5 = .ok (.new 7, 3) := by decide +kernel
theorem d_Qu_init_8 : decode c_Qu_init 8 = .ok (.dup, 1) := by decide +kernel
theorem d_Qu_init_9 : decode c_Qu_init 9 = .ok (.invokespecial 9, 3) := by decide +kernel
theorem d_Qu_init_12 : decode c_Qu_init 12 = .ok (.putfield 10, 3) := by decide +kernel
theorem d_Qu_init_15 : decode c_Qu_init 15 = .ok (.aload_n 0, 1) := by decide +kernel
theorem d_Qu_init_16 : decode c_Qu_init 16 = .ok (.iconst 0, 1) := by decide +kernel
theorem d_Qu_init_17 : decode c_Qu_init 17 = .ok (.putfield 16, 3) := by decide +kernel
theorem d_Qu_init_20 : decode c_Qu_init 20 = .ok (.aload_n 0, 1) := by decide +kernel
theorem d_Qu_init_21 : decode c_Qu_init 21 = .ok (.iconst 0, 1) := by decide +kernel
theorem d_Qu_init_22 : decode c_Qu_init 22 = .ok (.putfield 20, 3) := by decide +kernel
theorem d_Qu_init_25 : decode c_Qu_init 25 = .ok (.aload_n 0, 1) := by decide +kernel
theorem d_Qu_init_26 : decode c_Qu_init 26 = .ok (.lconst 0, 1) := by decide +kernel
theorem d_Qu_init_27 : decode c_Qu_init 27 = .ok (.putfield 23, 3) := by decide +kernel
theorem d_Qu_init_30 : decode c_Qu_init 30 = .ok (.return_, 1) := by decide +kernel
theorem d_Qu_keep_0 : decode c_Qu_keep 0 = .ok (.aload_n 0, 1) := by decide +kernel
theorem d_Qu_keep_1 : decode c_Qu_keep 1 = .ok (.getfield 10, 3) := by decide +kernel
theorem d_Qu_keep_4 : decode c_Qu_keep 4 = .ok (.aload_n 1, 1) := by decide +kernel
theorem d_Qu_keep_5 : decode c_Qu_keep 5 = .ok (.invokevirtual 27, 3) := by decide +kernel
theorem d_Qu_keep_8 : decode c_Qu_keep 8 = .ok (.aload_n 0, 1) := by decide +kernel
theorem d_Qu_keep_9 : decode c_Qu_keep 9 = .ok (.iconst 1, 1) := by decide +kernel
theorem d_Qu_keep_10 : decode c_Qu_keep 10 = .ok (.putfield 16, 3) := by decide +kernel
theorem d_Qu_keep_13 : decode c_Qu_keep 13 = .ok (.aload_n 0, 1) := by decide +kernel
theorem d_Qu_keep_14 : decode c_Qu_keep 14 = .ok (.iconst 0, 1) := by decide +kernel
theorem d_Qu_keep_15 : decode c_Qu_keep 15 = .ok (.putfield 20, 3) := by decide +kernel
theorem d_Qu_keep_18 : decode c_Qu_keep 18 = .ok (.return_, 1) := by decide +kernel
theorem d_Qu_lookedUpTo_0 : decode c_Qu_lookedUpTo 0 = .ok (.aload_n 0, 1) := by decide +kernel
theorem d_Qu_lookedUpTo_1 : decode c_Qu_lookedUpTo 1 = .ok (.iconst 1, 1) := by decide +kernel
theorem d_Qu_lookedUpTo_2 : decode c_Qu_lookedUpTo 2 = .ok (.putfield 20, 3) := by decide +kernel
theorem d_Qu_lookedUpTo_5 : decode c_Qu_lookedUpTo 5 = .ok (.aload_n 0, 1) := by decide +kernel
theorem d_Qu_lookedUpTo_6 : decode c_Qu_lookedUpTo 6 = .ok (.lload_n 1, 1) := by decide +kernel
theorem d_Qu_lookedUpTo_7 : decode c_Qu_lookedUpTo 7 = .ok (.putfield 23, 3) := by decide +kernel
theorem d_Qu_lookedUpTo_10 : decode c_Qu_lookedUpTo 10 = .ok (.return_, 1) := by decide +kernel
theorem d_Qu_isNew_0 : decode c_Qu_isNew 0 = .ok (.aload_n 0, 1) := by decide +kernel
theorem d_Qu_isNew_1 : decode c_Qu_isNew 1 = .ok (.getfield 20, 3) := by decide +kernel
theorem d_Qu_isNew_4 : decode c_Qu_isNew 4 = .ok (.ifCond .eq 12, 3) := by decide +kernel
theorem d_Qu_isNew_7 : decode c_Qu_isNew 7 = .ok (.lload_n 1, 1) := by decide +kernel
theorem d_Qu_isNew_8 : decode c_Qu_isNew 8 = .ok (.aload_n 0, 1) := by decide +kernel
theorem d_Qu_isNew_9 : decode c_Qu_isNew 9 = .ok (.getfield 23, 3) := by decide +kernel
theorem d_Qu_isNew_12 : decode c_Qu_isNew 12 = .ok (.lcmp, 1) := by decide +kernel
theorem d_Qu_isNew_13 : decode c_Qu_isNew 13 = .ok (.ifCond .le 7, 3) := by decide +kernel
theorem d_Qu_isNew_16 : decode c_Qu_isNew 16 = .ok (.iconst 1, 1) := by decide +kernel
theorem d_Qu_isNew_17 : decode c_Qu_isNew 17 = .ok (.goto 4, 3) := by decide +kernel
theorem d_Qu_isNew_20 : decode c_Qu_isNew 20 = .ok (.iconst 0, 1) := by decide +kernel
theorem d_Qu_isNew_21 : decode c_Qu_isNew 21 = .ok (.ireturn, 1) := by decide +kernel
theorem d_So_init_0 : decode c_So_init 0 = .ok (.aload_n 0, 1) := by decide +kernel
theorem d_So_init_1 : decode c_So_init 1 = .ok (.invokespecial 3, 3) := by decide +kernel
theorem d_So_init_4 : decode c_So_init 4 = .ok (.aload_n 0, 1) := by decide +kernel
theorem d_So_init_5 : decode c_So_init 5 = .ok (.sipush 200, 3) := by decide +kernel
theorem d_So_init_8 : decode c_So_init 8 = .ok (.newarray .int, 2) := by decide +kernel
theorem d_So_init_10 : decode c_So_init 10 = .ok (.putfield 9, 3) := by decide +kernel
theorem d_So_init_13 : decode c_So_init 13 = .ok (.aload_n 0, 1) := by decide +kernel
theorem d_So_init_14 : decode c_So_init 14 = .ok (.iconst 0, 1) := by decide +kernel
theorem d_So_init_15 : decode c_So_init 15 = .ok (.putfield 15, 3) := by decide +kernel
theorem d_So_init_18 : decode c_So_init 18 = .ok (.aload_n 0, 1) := by decide +kernel
theorem d_So_init_19 : decode c_So_init 19 = .ok (.iconst 0, 1) := by decide +kernel
theorem d_So_init_20 : decode c_So_init 20 = .ok (.putfield 19, 3) := by decide +kernel
theorem d_So_init_23 : decode c_So_init 23 = .ok (.return_, 1) := by decide +kernel
theorem d_So_collect_0 : decode c_So_collect 0 = .ok (.aload_n 0, 1) := by decide +kernel
theorem d_So_collect_1 : decode c_So_collect 1 = .ok (.getfield 15, 3) := by decide +kernel
theorem d_So_collect_4 : decode c_So_collect 4 = .ok (.ifCond .lt 33, 3) := by decide +kernel
theorem d_So_collect_7 : decode c_So_collect 7 = .ok (.aload_n 0, 1) := by decide +kernel
theorem d_So_collect_8 : decode c_So_collect 8 = .ok (.getfield 15, 3) := by decide +kernel
theorem d_So_collect_11 : decode c_So_collect 11 = .ok (.sipush 200, 3) := by decide +kernel
theorem d_So_collect_14 : decode c_So_collect 14 = .ok (.if_icmp .ge 23, 3) := by decide +kernel
theorem d_So_collect_17 : decode c_So_collect 17 = .ok (.aload_n 0, 1) := by decide +kernel
theorem d_So_collect_18 : decode c_So_collect 18 = .ok (.getfield 9, 3) := by decide +kernel
theorem d_So_collect_21 : decode c_So_collect 21 = .ok (.aload_n 0, 1) := by decide +kernel
theorem d_So_collect_22 : decode c_So_collect 22 = .ok (.getfield 15, 3) := by decide +kernel
theorem d_So_collect_25 : decode c_So_collect 25 = .ok (.iload_n 1, 1) := by decide +kernel
theorem d_So_collect_26 : decode c_So_collect 26 = .ok (.iastore, 1) := by decide +kernel
theorem d_So_collect_27 : decode c_So_collect 27 = .ok (.aload_n 0, 1) := by decide +kernel
theorem d_So_collect_28 : decode c_So_collect 28 = .ok (.dup, 1) := by decide +kernel
theorem d_So_collect_29 : decode c_So_collect 29 = .ok (.getfield 15, 3) := by decide +kernel
theorem d_So_collect_32 : decode c_So_collect 32 = .ok (.iconst 1, 1) := by decide +kernel
theorem d_So_collect_33 : decode c_So_collect 33 = .ok (.iadd, 1) := by decide +kernel
theorem d_So_collect_34 : decode c_So_collect 34 = .ok (.putfield 15, 3) := by decide +kernel
theorem d_So_collect_37 : decode c_So_collect 37 = .ok (.return_, 1) := by decide +kernel
theorem d_So_clear_0 : decode c_So_clear 0 = .ok (.aload_n 0, 1) := by decide +kernel
theorem d_So_clear_1 : decode c_So_clear 1 = .ok (.iconst 0, 1) := by decide +kernel
theorem d_So_clear_2 : decode c_So_clear 2 = .ok (.putfield 15, 3) := by decide +kernel
theorem d_So_clear_5 : decode c_So_clear 5 = .ok (.aload_n 0, 1) := by decide +kernel
theorem d_So_clear_6 : decode c_So_clear 6 = .ok (.iconst 0, 1) := by decide +kernel
theorem d_So_clear_7 : decode c_So_clear 7 = .ok (.putfield 19, 3) := by decide +kernel
theorem d_So_clear_10 : decode c_So_clear 10 = .ok (.return_, 1) := by decide +kernel
theorem d_So_length_0 : decode c_So_length 0 = .ok (.aload_n 0, 1) := by decide +kernel
theorem d_So_length_1 : decode c_So_length 1 = .ok (.getfield 15, 3) := by decide +kernel
theorem d_So_length_4 : decode c_So_length 4 = .ok (.ireturn, 1) := by decide +kernel
theorem d_So_place_0 : decode c_So_place 0 = .ok (.aload_n 0, 1) := by decide +kernel
theorem d_So_place_1 : decode c_So_place 1 = .ok (.getfield 19, 3) := by decide +kernel
theorem d_So_place_4 : decode c_So_place 4 = .ok (.ireturn, 1) := by decide +kernel
theorem d_So_moveTo_0 : decode c_So_moveTo 0 = .ok (.aload_n 0, 1) := by decide +kernel
theorem d_So_moveTo_1 : decode c_So_moveTo 1 = .ok (.iload_n 1, 1) := by decide +kernel
theorem d_So_moveTo_2 : decode c_So_moveTo 2 = .ok (.putfield 19, 3) := by decide +kernel
theorem d_So_moveTo_5 : decode c_So_moveTo 5 = .ok (.return_, 1) := by decide +kernel
theorem d_So_isAtEnd_0 : decode c_So_isAtEnd 0 = .ok (.aload_n 0, 1) := by decide +kernel
theorem d_So_isAtEnd_1 : decode c_So_isAtEnd 1 = .ok (.getfield 19, 3) := by decide +kernel
theorem d_So_isAtEnd_4 : decode c_So_isAtEnd 4 = .ok (.aload_n 0, 1) := by decide +kernel
theorem d_So_isAtEnd_5 : decode c_So_isAtEnd 5 = .ok (.getfield 15, 3) := by decide +kernel
theorem d_So_isAtEnd_8 : decode c_So_isAtEnd 8 = .ok (.if_icmp .lt 7, 3) := by decide +kernel
theorem d_So_isAtEnd_11 : decode c_So_isAtEnd 11 = .ok (.iconst 1, 1) := by decide +kernel
theorem d_So_isAtEnd_12 : decode c_So_isAtEnd 12 = .ok (.goto 4, 3) := by decide +kernel
theorem d_So_isAtEnd_15 : decode c_So_isAtEnd 15 = .ok (.iconst 0, 1) := by decide +kernel
theorem d_So_isAtEnd_16 : decode c_So_isAtEnd 16 = .ok (.ireturn, 1) := by decide +kernel
theorem d_So_signAt_0 : decode c_So_signAt 0 = .ok (.iload_n 1, 1) := by decide +kernel
theorem d_So_signAt_1 : decode c_So_signAt 1 = .ok (.ifCond .lt 27, 3) := by decide +kernel
theorem d_So_signAt_4 : decode c_So_signAt 4 = .ok (.iload_n 1, 1) := by decide +kernel
theorem d_So_signAt_5 : decode c_So_signAt 5 = .ok (.aload_n 0, 1) := by decide +kernel
theorem d_So_signAt_6 : decode c_So_signAt 6 = .ok (.getfield 15, 3) := by decide +kernel
theorem d_So_signAt_9 : decode c_So_signAt 9 = .ok (.if_icmp .ge 19, 3) := by decide +kernel
theorem d_So_signAt_12 : decode c_So_signAt 12 = .ok (.iload_n 1, 1) := by decide +kernel
theorem d_So_signAt_13 : decode c_So_signAt 13 = .ok (.sipush 200, 3) := by decide +kernel
theorem d_So_signAt_16 : decode c_So_signAt 16 = .ok (.if_icmp .ge 12, 3) := by decide +kernel
theorem d_So_signAt_19 : decode c_So_signAt 19 = .ok (.aload_n 0, 1) := by decide +kernel
theorem d_So_signAt_20 : decode c_So_signAt 20 = .ok (.getfield 9, 3) := by decide +kernel
theorem d_So_signAt_23 : decode c_So_signAt 23 = .ok (.iload_n 1, 1) := by decide +kernel
theorem d_So_signAt_24 : decode c_So_signAt 24 = .ok (.iaload, 1) := by decide +kernel
theorem d_So_signAt_25 : decode c_So_signAt 25 = .ok (.goto 4, 3) := by decide +kernel
theorem d_So_signAt_28 : decode c_So_signAt 28 = .ok (.iconst (-1), 1) := by decide +kernel
theorem d_So_signAt_29 : decode c_So_signAt 29 = .ok (.ireturn, 1) := by decide +kernel
theorem d_So_take_0 : decode c_So_take 0 = .ok (.aload_n 0, 1) := by decide +kernel
theorem d_So_take_1 : decode c_So_take 1 = .ok (.aload_n 0, 1) := by decide +kernel
theorem d_So_take_2 : decode c_So_take 2 = .ok (.getfield 19, 3) := by decide +kernel
theorem d_So_take_5 : decode c_So_take 5 = .ok (.invokevirtual 22, 3) := by decide +kernel
theorem d_So_take_8 : decode c_So_take 8 = .ok (.iload_n 1, 1) := by decide +kernel
theorem d_So_take_9 : decode c_So_take 9 = .ok (.if_icmp .eq 5, 3) := by decide +kernel
theorem d_So_take_12 : decode c_So_take 12 = .ok (.iconst 0, 1) := by decide +kernel
theorem d_So_take_13 : decode c_So_take 13 = .ok (.ireturn, 1) := by decide +kernel
theorem d_So_take_14 : decode c_So_take 14 = .ok (.aload_n 0, 1) := by decide +kernel
theorem d_So_take_15 : decode c_So_take 15 = .ok (.dup, 1) := by decide +kernel
theorem d_So_take_16 : decode c_So_take 16 = .ok (.getfield 19, 3) := by decide +kernel
theorem d_So_take_19 : decode c_So_take 19 = .ok (.iconst 1, 1) := by decide +kernel
theorem d_So_take_20 : decode c_So_take 20 = .ok (.iadd, 1) := by decide +kernel
theorem d_So_take_21 : decode c_So_take 21 = .ok (.putfield 19, 3) := by decide +kernel
theorem d_So_take_24 : decode c_So_take 24 = .ok (.iconst 1, 1) := by decide +kernel
theorem d_So_take_25 : decode c_So_take 25 = .ok (.ireturn, 1) := by decide +kernel
theorem d_So_rowEnd_0 : decode c_So_rowEnd 0 = .ok (.aload_n 0, 1) := by decide +kernel
theorem d_So_rowEnd_1 : decode c_So_rowEnd 1 = .ok (.getfield 19, 3) := by decide +kernel
theorem d_So_rowEnd_4 : decode c_So_rowEnd 4 = .ok (.istore_n 1, 1) := by decide +kernel
theorem d_So_rowEnd_5 : decode c_So_rowEnd 5 = .ok (.iload_n 1, 1) := by decide +kernel
theorem d_So_rowEnd_6 : decode c_So_rowEnd 6 = .ok (.aload_n 0, 1) := by decide +kernel
theorem d_So_rowEnd_7 : decode c_So_rowEnd 7 = .ok (.getfield 15, 3) := by decide +kernel
theorem d_So_rowEnd_10 : decode c_So_rowEnd 10 = .ok (.if_icmp .ge 20, 3) := by decide +kernel
theorem d_So_rowEnd_13 : decode c_So_rowEnd 13 = .ok (.aload_n 0, 1) := by decide +kernel
theorem d_So_rowEnd_14 : decode c_So_rowEnd 14 = .ok (.iload_n 1, 1) := by decide +kernel
theorem d_So_rowEnd_15 : decode c_So_rowEnd 15 = .ok (.invokevirtual 22, 3) := by decide +kernel
theorem d_So_rowEnd_18 : decode c_So_rowEnd 18 = .ok (.invokestatic 26, 3) := by decide +kernel
theorem d_So_rowEnd_21 : decode c_So_rowEnd 21 = .ok (.ifCond .eq 9, 3) := by decide +kernel
theorem d_So_rowEnd_24 : decode c_So_rowEnd 24 = .ok (.iinc 1 1, 3) := by decide +kernel
theorem d_So_rowEnd_27 : decode c_So_rowEnd 27 = .ok (.goto (-22), 3) := by decide +kernel
theorem d_So_rowEnd_30 : decode c_So_rowEnd 30 = .ok (.iload_n 1, 1) := by decide +kernel
theorem d_So_rowEnd_31 : decode c_So_rowEnd 31 = .ok (.ireturn, 1) := by decide +kernel
theorem d_So_takeValue_0 : decode c_So_takeValue 0 = .ok (.iconst 0, 1) := by decide +kernel
theorem d_So_takeValue_1 : decode c_So_takeValue 1 = .ok (.istore_n 1, 1) := by decide +kernel
theorem d_So_takeValue_2 : decode c_So_takeValue 2 = .ok (.iconst 0, 1) := by decide +kernel
theorem d_So_takeValue_3 : decode c_So_takeValue 3 = .ok (.istore_n 2, 1) := by decide +kernel
theorem d_So_takeValue_4 : decode c_So_takeValue 4 = .ok (.iload_n 2, 1) := by decide +kernel
theorem d_So_takeValue_5 : decode c_So_takeValue 5 = .ok (.iconst 5, 1) := by decide +kernel
theorem d_So_takeValue_6 : decode c_So_takeValue 6 = .ok (.if_icmp .ge 50, 3) := by decide +kernel
theorem d_So_takeValue_9 : decode c_So_takeValue 9 = .ok (.aload_n 0, 1) := by decide +kernel
theorem d_So_takeValue_10 : decode c_So_takeValue 10 = .ok (.aload_n 0, 1) := by decide +kernel
theorem d_So_takeValue_11 : decode c_So_takeValue 11 = .ok (.getfield 19, 3) := by decide +kernel
theorem d_So_takeValue_14 : decode c_So_takeValue 14 = .ok (.invokevirtual 22, 3) := by decide +kernel
theorem d_So_takeValue_17 : decode c_So_takeValue 17 = .ok (.invokestatic 30, 3) := by decide +kernel
theorem d_So_takeValue_20 : decode c_So_takeValue 20 = .ok (.ifCond .eq 36, 3) := by decide +kernel
theorem d_So_takeValue_23 : decode c_So_takeValue 23 = .ok (.iload_n 1, 1) := by decide +kernel
theorem d_So_takeValue_24 : decode c_So_takeValue 24 = .ok (.bipush 10, 2) := by decide +kernel
theorem d_So_takeValue_26 : decode c_So_takeValue 26 = .ok (.imul, 1) := by decide +kernel
theorem d_So_takeValue_27 : decode c_So_takeValue 27 = .ok (.aload_n 0, 1) := by decide +kernel
theorem d_So_takeValue_28 : decode c_So_takeValue 28 = .ok (.aload_n 0, 1) := by decide +kernel
theorem d_So_takeValue_29 : decode c_So_takeValue 29 = .ok (.getfield 19, 3) := by decide +kernel
theorem d_So_takeValue_32 : decode c_So_takeValue 32 = .ok (.invokevirtual 22, 3) := by decide +kernel
theorem d_So_takeValue_35 : decode c_So_takeValue 35 = .ok (.iadd, 1) := by decide +kernel
theorem d_So_takeValue_36 : decode c_So_takeValue 36 = .ok (.bipush 48, 2) := by decide +kernel
theorem d_So_takeValue_38 : decode c_So_takeValue 38 = .ok (.isub, 1) := by decide +kernel
theorem d_So_takeValue_39 : decode c_So_takeValue 39 = .ok (.istore_n 1, 1) := by decide +kernel
theorem d_So_takeValue_40 : decode c_So_takeValue 40 = .ok (.aload_n 0, 1) := by decide +kernel
theorem d_So_takeValue_41 : decode c_So_takeValue 41 = .ok (.dup, 1) := by decide +kernel
theorem d_So_takeValue_42 : decode c_So_takeValue 42 = .ok (.getfield 19, 3) := by decide +kernel
theorem d_So_takeValue_45 : decode c_So_takeValue 45 = .ok (.iconst 1, 1) := by decide +kernel
theorem d_So_takeValue_46 : decode c_So_takeValue 46 = .ok (.iadd, 1) := by decide +kernel
theorem d_So_takeValue_47 : decode c_So_takeValue 47 = .ok (.putfield 19, 3) := by decide +kernel
theorem d_So_takeValue_50 : decode c_So_takeValue 50 = .ok (.iinc 2 1, 3) := by decide +kernel
theorem d_So_takeValue_53 : decode c_So_takeValue 53 = .ok (.goto (-49), 3) := by decide +kernel
theorem d_So_takeValue_56 : decode c_So_takeValue 56 = .ok (.iload_n 2, 1) := by decide +kernel
theorem d_So_takeValue_57 : decode c_So_takeValue 57 = .ok (.ifCond .eq 17, 3) := by decide +kernel
theorem d_So_takeValue_60 : decode c_So_takeValue 60 = .ok (.aload_n 0, 1) := by decide +kernel
theorem d_So_takeValue_61 : decode c_So_takeValue 61 = .ok (.aload_n 0, 1) := by decide +kernel
theorem d_So_takeValue_62 : decode c_So_takeValue 62 = .ok (.getfield 19, 3) := by decide +kernel
theorem d_So_takeValue_65 : decode c_So_takeValue 65 = .ok (.invokevirtual 22, 3) := by decide +kernel
theorem d_So_takeValue_68 : decode c_So_takeValue 68 = .ok (.invokestatic 30, 3) := by decide +kernel
theorem d_So_takeValue_71 : decode c_So_takeValue 71 = .ok (.ifCond .eq 7, 3) := by decide +kernel
theorem d_So_takeValue_74 : decode c_So_takeValue 74 = .ok (.iconst (-1), 1) := by decide +kernel
theorem d_So_takeValue_75 : decode c_So_takeValue 75 = .ok (.goto 4, 3) := by decide +kernel
theorem d_So_takeValue_78 : decode c_So_takeValue 78 = .ok (.iload_n 1, 1) := by decide +kernel
theorem d_So_takeValue_79 : decode c_So_takeValue 79 = .ok (.ireturn, 1) := by decide +kernel
theorem d_So_joiningSort_0 : decode c_So_joiningSort 0 = .ok (.aload_n 0, 1) := by decide +kernel
theorem d_So_joiningSort_1 : decode c_So_joiningSort 1 = .ok (.ldc 33, 2) := by decide +kernel
theorem d_So_joiningSort_3 : decode c_So_joiningSort 3 = .ok (.iload_n 1, 1) := by decide +kernel
theorem d_So_joiningSort_4 : decode c_So_joiningSort 4 = .ok (.invokevirtual 35, 3) := by decide +kernel
theorem d_So_joiningSort_7 : decode c_So_joiningSort 7 = .ok (.ifCond .eq 5, 3) := by decide +kernel
theorem d_So_joiningSort_10 : decode c_So_joiningSort 10 = .ok (.iconst 3, 1) := by decide +kernel
theorem d_So_joiningSort_11 : decode c_So_joiningSort 11 = .ok (.ireturn, 1) := by decide +kernel
theorem d_So_joiningSort_12 : decode c_So_joiningSort 12 = .ok (.aload_n 0, 1) := by decide +kernel
theorem d_So_joiningSort_13 : decode c_So_joiningSort 13 = .ok (.ldc 39, 2) := by decide +kernel
theorem d_So_joiningSort_15 : decode c_So_joiningSort 15 = .ok (.iload_n 1, 1) := by decide +kernel
theorem d_So_joiningSort_16 : decode c_So_joiningSort 16 = .ok (.invokevirtual 35, 3) := by decide +kernel
theorem d_So_joiningSort_19 : decode c_So_joiningSort 19 = .ok (.ifCond .eq 5, 3) := by decide +kernel
theorem d_So_joiningSort_22 : decode c_So_joiningSort 22 = .ok (.iconst 4, 1) := by decide +kernel
theorem d_So_joiningSort_23 : decode c_So_joiningSort 23 = .ok (.ireturn, 1) := by decide +kernel
theorem d_So_joiningSort_24 : decode c_So_joiningSort 24 = .ok (.aload_n 0, 1) := by decide +kernel
theorem d_So_joiningSort_25 : decode c_So_joiningSort 25 = .ok (.ldc 41, 2) := by decide +kernel
theorem d_So_joiningSort_27 : decode c_So_joiningSort 27 = .ok (.iload_n 1, 1) := by decide +kernel
theorem d_So_joiningSort_28 : decode c_So_joiningSort 28 = .ok (.invokevirtual 35, 3) := by decide +kernel
theorem d_So_joiningSort_31 : decode c_So_joiningSort 31 = .ok (.ifCond .eq 7, 3) := by decide +kernel
theorem d_So_joiningSort_34 : decode c_So_joiningSort 34 = .ok (.iconst 5, 1) := by decide +kernel
theorem d_So_joiningSort_35 : decode c_So_joiningSort 35 = .ok (.goto 4, 3) := by decide +kernel
theorem d_So_joiningSort_38 : decode c_So_joiningSort 38 = .ok (.iconst (-1), 1) := by decide +kernel
theorem d_So_joiningSort_39 : decode c_So_joiningSort 39 = .ok (.ireturn, 1) := by decide +kernel
theorem d_So_spells_0 : decode c_So_spells 0 = .ok (.iload_n 2, 1) := by decide +kernel
theorem d_So_spells_1 : decode c_So_spells 1 = .ok (.aload_n 0, 1) := by decide +kernel
theorem d_So_spells_2 : decode c_So_spells 2 = .ok (.getfield 19, 3) := by decide +kernel
theorem d_So_spells_5 : decode c_So_spells 5 = .ok (.isub, 1) := by decide +kernel
theorem d_So_spells_6 : decode c_So_spells 6 = .ok (.aload_n 1, 1) := by decide +kernel
theorem d_So_spells_7 : decode c_So_spells 7 = .ok (.invokevirtual 43, 3) := by decide +kernel
theorem d_So_spells_10 : decode c_So_spells 10 = .ok (.if_icmp .eq 5, 3) := by decide +kernel
theorem d_So_spells_13 : decode c_So_spells 13 = .ok (.iconst 0, 1) := by decide +kernel
theorem d_So_spells_14 : decode c_So_spells 14 = .ok (.ireturn, 1) := by decide +kernel
theorem d_So_spells_15 : decode c_So_spells 15 = .ok (.iconst 0, 1) := by decide +kernel
theorem d_So_spells_16 : decode c_So_spells 16 = .ok (.istore_n 3, 1) := by decide +kernel
theorem d_So_spells_17 : decode c_So_spells 17 = .ok (.iload_n 3, 1) := by decide +kernel
theorem d_So_spells_18 : decode c_So_spells 18 = .ok (.aload_n 1, 1) := by decide +kernel
theorem d_So_spells_19 : decode c_So_spells 19 = .ok (.invokevirtual 43, 3) := by decide +kernel
theorem d_So_spells_22 : decode c_So_spells 22 = .ok (.if_icmp .ge 29, 3) := by decide +kernel
theorem d_So_spells_25 : decode c_So_spells 25 = .ok (.aload_n 0, 1) := by decide +kernel
theorem d_So_spells_26 : decode c_So_spells 26 = .ok (.aload_n 0, 1) := by decide +kernel
theorem d_So_spells_27 : decode c_So_spells 27 = .ok (.getfield 19, 3) := by decide +kernel
theorem d_So_spells_30 : decode c_So_spells 30 = .ok (.iload_n 3, 1) := by decide +kernel
theorem d_So_spells_31 : decode c_So_spells 31 = .ok (.iadd, 1) := by decide +kernel
theorem d_So_spells_32 : decode c_So_spells 32 = .ok (.invokevirtual 22, 3) := by decide +kernel
theorem d_So_spells_35 : decode c_So_spells 35 = .ok (.aload_n 1, 1) := by decide +kernel
theorem d_So_spells_36 : decode c_So_spells 36 = .ok (.iload_n 3, 1) := by decide +kernel
theorem d_So_spells_37 : decode c_So_spells 37 = .ok (.invokevirtual 48, 3) := by decide +kernel
theorem d_So_spells_40 : decode c_So_spells 40 = .ok (.if_icmp .eq 5, 3) := by decide +kernel
theorem d_So_spells_43 : decode c_So_spells 43 = .ok (.iconst 0, 1) := by decide +kernel
theorem d_So_spells_44 : decode c_So_spells 44 = .ok (.ireturn, 1) := by decide +kernel
theorem d_So_spells_45 : decode c_So_spells 45 = .ok (.iinc 3 1, 3) := by decide +kernel
theorem d_So_spells_48 : decode c_So_spells 48 = .ok (.goto (-31), 3) := by decide +kernel
theorem d_So_spells_51 : decode c_So_spells 51 = .ok (.iconst 1, 1) := by decide +kernel
theorem d_So_spells_52 : decode c_So_spells 52 = .ok (.ireturn, 1) := by decide +kernel
theorem d_So_isSmallLetter_0 : decode c_So_isSmallLetter 0 = .ok (.iload_n 0, 1) := by decide +kernel
theorem d_So_isSmallLetter_1 : decode c_So_isSmallLetter 1 = .ok (.bipush 97, 2) := by decide +kernel
theorem d_So_isSmallLetter_3 : decode c_So_isSmallLetter 3 = .ok (.if_icmp .lt 13, 3) := by decide +kernel
theorem d_So_isSmallLetter_6 : decode c_So_isSmallLetter 6 = .ok (.iload_n 0, 1) := by decide +kernel
theorem d_So_isSmallLetter_7 : decode c_So_isSmallLetter 7 = .ok (.bipush 122, 2) := by decide +kernel
theorem d_So_isSmallLetter_9 : decode c_So_isSmallLetter 9 = .ok (.if_icmp .gt 7, 3) := by decide +kernel
theorem d_So_isSmallLetter_12 : decode c_So_isSmallLetter 12 = .ok (.iconst 1, 1) := by decide +kernel
theorem d_So_isSmallLetter_13 : decode c_So_isSmallLetter 13 = .ok (.goto 4, 3) := by decide +kernel
theorem d_So_isSmallLetter_16 : decode c_So_isSmallLetter 16 = .ok (.iconst 0, 1) := by decide +kernel
theorem d_So_isSmallLetter_17 : decode c_So_isSmallLetter 17 = .ok (.ireturn, 1) := by decide +kernel
theorem d_So_isDigit_0 : decode c_So_isDigit 0 = .ok (.iload_n 0, 1) := by decide +kernel
theorem d_So_isDigit_1 : decode c_So_isDigit 1 = .ok (.bipush 48, 2) := by decide +kernel
theorem d_So_isDigit_3 : decode c_So_isDigit 3 = .ok (.if_icmp .lt 13, 3) := by decide +kernel
theorem d_So_isDigit_6 : decode c_So_isDigit 6 = .ok (.iload_n 0, 1) := by decide +kernel
theorem d_So_isDigit_7 : decode c_So_isDigit 7 = .ok (.bipush 57, 2) := by decide +kernel
theorem d_So_isDigit_9 : decode c_So_isDigit 9 = .ok (.if_icmp .gt 7, 3) := by decide +kernel
theorem d_So_isDigit_12 : decode c_So_isDigit 12 = .ok (.iconst 1, 1) := by decide +kernel
theorem d_So_isDigit_13 : decode c_So_isDigit 13 = .ok (.goto 4, 3) := by decide +kernel
theorem d_So_isDigit_16 : decode c_So_isDigit 16 = .ok (.iconst 0, 1) := by decide +kernel
theorem d_So_isDigit_17 : decode c_So_isDigit 17 = .ok (.ireturn, 1) := by decide +kernel
theorem d_Tr_init_0 : decode c_Tr_init 0 = .ok (.aload_n 0, 1) := by decide +kernel
theorem d_Tr_init_1 : decode c_Tr_init 1 = .ok (.invokespecial 3, 3) := by decide +kernel
theorem d_Tr_init_4 : decode c_Tr_init 4 = .ok (.aload_n 0, 1) := by decide +kernel
theorem d_Tr_init_5 : decode c_Tr_init 5 = .ok (.bipush 40, 2) := by decide +kernel
theorem d_Tr_init_7 : decode c_Tr_init 7 = .ok (.newarray .int, 2) := by decide +kernel
theorem d_Tr_init_9 : decode c_Tr_init 9 = .ok (.putfield 9, 3) := by decide +kernel
theorem d_Tr_init_12 : decode c_Tr_init 12 = .ok (.aload_n 0, 1) := by decide +kernel
theorem d_Tr_init_13 : decode c_Tr_init 13 = .ok (.bipush 40, 2) := by decide +kernel
theorem d_Tr_init_15 : decode c_Tr_init 15 = .ok (.newarray .int, 2) := by decide +kernel
theorem d_Tr_init_17 : decode c_Tr_init 17 = .ok (.putfield 15, 3) := by decide +kernel
theorem d_Tr_init_20 : decode c_Tr_init 20 = .ok (.aload_n 0, 1) := by decide +kernel
theorem d_Tr_init_21 : decode c_Tr_init 21 = .ok (.bipush 40, 2) := by decide +kernel
theorem d_Tr_init_23 : decode c_Tr_init 23 = .ok (.newarray .int, 2) := by decide +kernel
theorem d_Tr_init_25 : decode c_Tr_init 25 = .ok (.putfield 18, 3) := by decide +kernel
theorem d_Tr_init_28 : decode c_Tr_init 28 = .ok (.aload_n 0, 1) := by decide +kernel
theorem d_Tr_init_29 : decode c_Tr_init 29 = .ok (.bipush 40, 2) := by decide +kernel
theorem d_Tr_init_31 : decode c_Tr_init 31 = .ok (.newarray .int, 2) := by decide +kernel
theorem d_Tr_init_33 : decode c_Tr_init 33 = .ok (.putfield 21, 3) := by decide +kernel
theorem d_Tr_init_36 : decode c_Tr_init 36 = .ok (.aload_n 0, 1) := by decide +kernel
theorem d_Tr_init_37 : decode c_Tr_init 37 = .ok (.iconst 0, 1) := by decide +kernel
theorem d_Tr_init_38 : decode c_Tr_init 38 = .ok (.putfield 24, 3) := by decide +kernel
theorem d_Tr_init_41 : decode c_Tr_init 41 = .ok (.return_, 1) := by decide +kernel
theorem d_Tr_clear_0 : decode c_Tr_clear 0 = .ok (.aload_n 0, 1) := by decide +kernel
theorem d_Tr_clear_1 : decode c_Tr_clear 1 = .ok (.iconst 0, 1) := by decide +kernel
theorem d_Tr_clear_2 : decode c_Tr_clear 2 = .ok (.putfield 24, 3) := by decide +kernel
theorem d_Tr_clear_5 : decode c_Tr_clear 5 = .ok (.return_, 1) := by decide +kernel
theorem d_Tr_size_0 : decode c_Tr_size 0 = .ok (.aload_n 0, 1) := by decide +kernel
theorem d_Tr_size_1 : decode c_Tr_size 1 = .ok (.getfield 24, 3) := by decide +kernel
theorem d_Tr_size_4 : decode c_Tr_size 4 = .ok (.ireturn, 1) := by decide +kernel
theorem d_Tr_isFull_0 : decode c_Tr_isFull 0 = .ok (.aload_n 0, 1) := by decide +kernel
theorem d_Tr_isFull_1 : decode c_Tr_isFull 1 = .ok (.getfield 24, 3) := by decide +kernel
theorem d_Tr_isFull_4 : decode c_Tr_isFull 4 = .ok (.ifCond .lt 12, 3) := by decide +kernel
theorem d_Tr_isFull_7 : decode c_Tr_isFull 7 = .ok (.aload_n 0, 1) := by decide +kernel
theorem d_Tr_isFull_8 : decode c_Tr_isFull 8 = .ok (.getfield 24, 3) := by decide +kernel
theorem d_Tr_isFull_11 : decode c_Tr_isFull 11 = .ok (.bipush 40, 2) := by decide +kernel
theorem d_Tr_isFull_13 : decode c_Tr_isFull 13 = .ok (.if_icmp .lt 7, 3) := by decide +kernel
theorem d_Tr_isFull_16 : decode c_Tr_isFull 16 = .ok (.iconst 1, 1) := by decide +kernel
theorem d_Tr_isFull_17 : decode c_Tr_isFull 17 = .ok (.goto 4, 3) := by decide +kernel
theorem d_Tr_isFull_20 : decode c_Tr_isFull 20 = .ok (.iconst 0, 1) := by decide +kernel
theorem d_Tr_isFull_21 : decode c_Tr_isFull 21 = .ok (.ireturn, 1) := by decide +kernel
theorem d_Tr_has_0 : decode c_Tr_has 0 = .ok (.iload_n 1, 1) := by decide +kernel
theorem d_Tr_has_1 : decode c_Tr_has 1 = .ok (.ifCond .lt 21, 3) := by decide +kernel
theorem d_Tr_has_4 : decode c_Tr_has 4 = .ok (.iload_n 1, 1) := by decide +kernel
theorem d_Tr_has_5 : decode c_Tr_has 5 = .ok (.aload_n 0, 1) := by decide +kernel
theorem d_Tr_has_6 : decode c_Tr_has 6 = .ok (.getfield 24, 3) := by decide +kernel
theorem d_Tr_has_9 : decode c_Tr_has 9 = .ok (.if_icmp .ge 13, 3) := by decide +kernel
theorem d_Tr_has_12 : decode c_Tr_has 12 = .ok (.iload_n 1, 1) := by decide +kernel
theorem d_Tr_has_13 : decode c_Tr_has 13 = .ok (.bipush 40, 2) := by decide +kernel
theorem d_Tr_has_15 : decode c_Tr_has 15 = .ok (.if_icmp .ge 7, 3) := by decide +kernel
theorem d_Tr_has_18 : decode c_Tr_has 18 = .ok (.iconst 1, 1) := by decide +kernel
theorem d_Tr_has_19 : decode c_Tr_has 19 = .ok (.goto 4, 3) := by decide +kernel
theorem d_Tr_has_22 : decode c_Tr_has 22 = .ok (.iconst 0, 1) := by decide +kernel
theorem d_Tr_has_23 : decode c_Tr_has 23 = .ok (.ireturn, 1) := by decide +kernel
theorem d_Tr_sortAt_0 : decode c_Tr_sortAt 0 = .ok (.aload_n 0, 1) := by decide +kernel
theorem d_Tr_sortAt_1 : decode c_Tr_sortAt 1 = .ok (.iload_n 1, 1) := by decide +kernel
theorem d_Tr_sortAt_2 : decode c_Tr_sortAt 2 = .ok (.invokevirtual 28, 3) := by decide +kernel
theorem d_Tr_sortAt_5 : decode c_Tr_sortAt 5 = .ok (.ifCond .eq 12, 3) := by decide +kernel
theorem d_Tr_sortAt_8 : decode c_Tr_sortAt 8 = .ok (.aload_n 0, 1) := by decide +kernel
theorem d_Tr_sortAt_9 : decode c_Tr_sortAt 9 = .ok (.getfield 9, 3) := by decide +kernel
theorem d_Tr_sortAt_12 : decode c_Tr_sortAt 12 = .ok (.iload_n 1, 1) := by decide +kernel
theorem d_Tr_sortAt_13 : decode c_Tr_sortAt 13 = .ok (.iaload, 1) := by decide +kernel
theorem d_Tr_sortAt_14 : decode c_Tr_sortAt 14 = .ok (.goto 4, 3) := by decide +kernel
theorem d_Tr_sortAt_17 : decode c_Tr_sortAt 17 = .ok (.iconst (-1), 1) := by decide +kernel
theorem d_Tr_sortAt_18 : decode c_Tr_sortAt 18 = .ok (.ireturn, 1) := by decide +kernel
theorem d_Tr_indexAt_0 : decode c_Tr_indexAt 0 = .ok (.aload_n 0, 1) := by decide +kernel
theorem d_Tr_indexAt_1 : decode c_Tr_indexAt 1 = .ok (.iload_n 1, 1) := by decide +kernel
theorem d_Tr_indexAt_2 : decode c_Tr_indexAt 2 = .ok (.invokevirtual 28, 3) := by decide +kernel
theorem d_Tr_indexAt_5 : decode c_Tr_indexAt 5 = .ok (.ifCond .eq 12, 3) := by decide +kernel
theorem d_Tr_indexAt_8 : decode c_Tr_indexAt 8 = .ok (.aload_n 0, 1) := by decide +kernel
theorem d_Tr_indexAt_9 : decode c_Tr_indexAt 9 = .ok (.getfield 15, 3) := by decide +kernel
theorem d_Tr_indexAt_12 : decode c_Tr_indexAt 12 = .ok (.iload_n 1, 1) := by decide +kernel
theorem d_Tr_indexAt_13 : decode c_Tr_indexAt 13 = .ok (.iaload, 1) := by decide +kernel
theorem d_Tr_indexAt_14 : decode c_Tr_indexAt 14 = .ok (.goto 4, 3) := by decide +kernel
theorem d_Tr_indexAt_17 : decode c_Tr_indexAt 17 = .ok (.iconst (-1), 1) := by decide +kernel
theorem d_Tr_indexAt_18 : decode c_Tr_indexAt 18 = .ok (.ireturn, 1) := by decide +kernel
theorem d_Tr_leastAt_0 : decode c_Tr_leastAt 0 = .ok (.aload_n 0, 1) := by decide +kernel
theorem d_Tr_leastAt_1 : decode c_Tr_leastAt 1 = .ok (.iload_n 1, 1) := by decide +kernel
theorem d_Tr_leastAt_2 : decode c_Tr_leastAt 2 = .ok (.invokevirtual 28, 3) := by decide +kernel
theorem d_Tr_leastAt_5 : decode c_Tr_leastAt 5 = .ok (.ifCond .eq 12, 3) := by decide +kernel
theorem d_Tr_leastAt_8 : decode c_Tr_leastAt 8 = .ok (.aload_n 0, 1) := by decide +kernel
theorem d_Tr_leastAt_9 : decode c_Tr_leastAt 9 = .ok (.getfield 18, 3) := by decide +kernel
theorem d_Tr_leastAt_12 : decode c_Tr_leastAt 12 = .ok (.iload_n 1, 1) := by decide +kernel
theorem d_Tr_leastAt_13 : decode c_Tr_leastAt 13 = .ok (.iaload, 1) := by decide +kernel
theorem d_Tr_leastAt_14 : decode c_Tr_leastAt 14 = .ok (.goto 4, 3) := by decide +kernel
theorem d_Tr_leastAt_17 : decode c_Tr_leastAt 17 = .ok (.iconst (-1), 1) := by decide +kernel
theorem d_Tr_leastAt_18 : decode c_Tr_leastAt 18 = .ok (.ireturn, 1) := by decide +kernel
theorem d_Tr_greatestAt_0 : decode c_Tr_greatestAt 0 = .ok (.aload_n 0, 1) := by decide +kernel
theorem d_Tr_greatestAt_1 : decode c_Tr_greatestAt 1 = .ok (.iload_n 1, 1) := by decide +kernel
theorem d_Tr_greatestAt_2 : decode c_Tr_greatestAt 2 = .ok (.invokevirtual 28, 3) := by decide +kernel
theorem d_Tr_greatestAt_5 : decode c_Tr_greatestAt 5 = .ok (.ifCond .eq 12, 3) := by decide +kernel
theorem d_Tr_greatestAt_8 : decode c_Tr_greatestAt 8 = .ok (.aload_n 0, 1) := by decide +kernel
theorem d_Tr_greatestAt_9 : decode c_Tr_greatestAt 9 = .ok (.getfield 21, 3) := by decide +kernel
theorem d_Tr_greatestAt_12 : decode c_Tr_greatestAt 12 = .ok (.iload_n 1, 1) := by decide +kernel
theorem d_Tr_greatestAt_13 : decode c_Tr_greatestAt 13 = .ok (.iaload, 1) := by decide +kernel
theorem d_Tr_greatestAt_14 : decode c_Tr_greatestAt 14 = .ok (.goto 4, 3) := by decide +kernel
theorem d_Tr_greatestAt_17 : decode c_Tr_greatestAt 17 = .ok (.iconst (-1), 1) := by decide +kernel
theorem d_Tr_greatestAt_18 : decode c_Tr_greatestAt 18 = .ok (.ireturn, 1) := by decide +kernel
theorem d_Tr_append_0 : decode c_Tr_append 0 = .ok (.aload_n 0, 1) := by decide +kernel
theorem d_Tr_append_1 : decode c_Tr_append 1 = .ok (.invokevirtual 32, 3) := by decide +kernel
theorem d_Tr_append_4 : decode c_Tr_append 4 = .ok (.ifCond .eq 5, 3) := by decide +kernel
theorem d_Tr_append_7 : decode c_Tr_append 7 = .ok (.iconst 0, 1) := by decide +kernel
theorem d_Tr_append_8 : decode c_Tr_append 8 = .ok (.ireturn, 1) := by decide +kernel
theorem d_Tr_append_9 : decode c_Tr_append 9 = .ok (.aload_n 0, 1) := by decide +kernel
theorem d_Tr_append_10 : decode c_Tr_append 10 = .ok (.dup, 1) := by decide +kernel
theorem d_Tr_append_11 : decode c_Tr_append 11 = .ok (.getfield 24, 3) := by decide +kernel
theorem d_Tr_append_14 : decode c_Tr_append 14 = .ok (.iconst 1, 1) := by decide +kernel
theorem d_Tr_append_15 : decode c_Tr_append 15 = .ok (.iadd, 1) := by decide +kernel
theorem d_Tr_append_16 : decode c_Tr_append 16 = .ok (.putfield 24, 3) := by decide +kernel
theorem d_Tr_append_19 : decode c_Tr_append 19 = .ok (.aload_n 0, 1) := by decide +kernel
theorem d_Tr_append_20 : decode c_Tr_append 20 = .ok (.aload_n 0, 1) := by decide +kernel
theorem d_Tr_append_21 : decode c_Tr_append 21 = .ok (.getfield 24, 3) := by decide +kernel
theorem d_Tr_append_24 : decode c_Tr_append 24 = .ok (.iconst 1, 1) := by decide +kernel
theorem d_Tr_append_25 : decode c_Tr_append 25 = .ok (.isub, 1) := by decide +kernel
theorem d_Tr_append_26 : decode c_Tr_append 26 = .ok (.iload_n 1, 1) := by decide +kernel
theorem d_Tr_append_27 : decode c_Tr_append 27 = .ok (.iload_n 2, 1) := by decide +kernel
theorem d_Tr_append_28 : decode c_Tr_append 28 = .ok (.iload_n 3, 1) := by decide +kernel
theorem d_Tr_append_29 : decode c_Tr_append 29 = .ok (.iload 4, 2) := by decide +kernel
theorem d_Tr_append_31 : decode c_Tr_append 31 = .ok (.invokevirtual 36, 3) := by decide +kernel
theorem d_Tr_append_34 : decode c_Tr_append 34 = .ok (.iconst 1, 1) := by decide +kernel
theorem d_Tr_append_35 : decode c_Tr_append 35 = .ok (.ireturn, 1) := by decide +kernel
theorem d_Tr_insert_0 : decode c_Tr_insert 0 = .ok (.aload_n 0, 1) := by decide +kernel
theorem d_Tr_insert_1 : decode c_Tr_insert 1 = .ok (.invokevirtual 32, 3) := by decide +kernel
theorem d_Tr_insert_4 : decode c_Tr_insert 4 = .ok (.ifCond .ne 7, 3) := by decide +kernel
theorem d_Tr_insert_7 : decode c_Tr_insert 7 = .ok (.iload_n 1, 1) := by decide +kernel
theorem d_Tr_insert_8 : decode c_Tr_insert 8 = .ok (.ifCond .ge 5, 3) := by decide +kernel
theorem d_Tr_insert_11 : decode c_Tr_insert 11 = .ok (.iconst 0, 1) := by decide +kernel
theorem d_Tr_insert_12 : decode c_Tr_insert 12 = .ok (.ireturn, 1) := by decide +kernel
theorem d_Tr_insert_13 : decode c_Tr_insert 13 = .ok (.aload_n 0, 1) := by decide +kernel
theorem d_Tr_insert_14 : decode c_Tr_insert 14 = .ok (.dup, 1) := by decide +kernel
theorem d_Tr_insert_15 : decode c_Tr_insert 15 = .ok (.getfield 24, 3) := by decide +kernel
theorem d_Tr_insert_18 : decode c_Tr_insert 18 = .ok (.iconst 1, 1) := by decide +kernel
theorem d_Tr_insert_19 : decode c_Tr_insert 19 = .ok (.iadd, 1) := by decide +kernel
theorem d_Tr_insert_20 : decode c_Tr_insert 20 = .ok (.putfield 24, 3) := by decide +kernel
theorem d_Tr_insert_23 : decode c_Tr_insert 23 = .ok (.aload_n 0, 1) := by decide +kernel
theorem d_Tr_insert_24 : decode c_Tr_insert 24 = .ok (.getfield 24, 3) := by decide +kernel
theorem d_Tr_insert_27 : decode c_Tr_insert 27 = .ok (.iconst 1, 1) := by decide +kernel
theorem d_Tr_insert_28 : decode c_Tr_insert 28 = .ok (.isub, 1) := by decide +kernel
theorem d_Tr_insert_29 : decode c_Tr_insert 29 = .ok (.istore_n 3, 1) := by decide +kernel
theorem d_Tr_insert_30 : decode c_Tr_insert 30 = .ok (.iload_n 3, 1) := by decide +kernel
theorem d_Tr_insert_31 : decode c_Tr_insert 31 = .ok (.iload_n 1, 1) := by decide +kernel
theorem d_Tr_insert_32 : decode c_Tr_insert 32 = .ok (.if_icmp .le 18, 3) := by decide +kernel
theorem d_Tr_insert_35 : decode c_Tr_insert 35 = .ok (.aload_n 0, 1) := by decide +kernel
theorem d_Tr_insert_36 : decode c_Tr_insert 36 = .ok (.iload_n 3, 1) := by decide +kernel
theorem d_Tr_insert_37 : decode c_Tr_insert 37 = .ok (.aload_n 0, 1) := by decide +kernel
theorem d_Tr_insert_38 : decode c_Tr_insert 38 = .ok (.iload_n 3, 1) := by decide +kernel
theorem d_Tr_insert_39 : decode c_Tr_insert 39 = .ok (.iconst 1, 1) := by decide +kernel
theorem d_Tr_insert_40 : decode c_Tr_insert 40 = .ok (.isub, 1) := by decide +kernel
theorem d_Tr_insert_41 : decode c_Tr_insert 41 = .ok (.invokevirtual 40, 3) := by decide +kernel
theorem d_Tr_insert_44 : decode c_Tr_insert 44 = .ok (.iinc 3 (-1), 3) := by decide +kernel
theorem d_Tr_insert_47 : decode c_Tr_insert 47 = .ok (.goto (-17), 3) := by decide +kernel
theorem d_Tr_insert_50 : decode c_Tr_insert 50 = .ok (.aload_n 0, 1) := by decide +kernel
theorem d_Tr_insert_51 : decode c_Tr_insert 51 = .ok (.iload_n 1, 1) := by decide +kernel
theorem d_Tr_insert_52 : decode c_Tr_insert 52 = .ok (.iload_n 2, 1) := by decide +kernel
theorem d_Tr_insert_53 : decode c_Tr_insert 53 = .ok (.iconst (-1), 1) := by decide +kernel
theorem d_Tr_insert_54 : decode c_Tr_insert 54 = .ok (.iconst (-1), 1) := by decide +kernel
theorem d_Tr_insert_55 : decode c_Tr_insert 55 = .ok (.iconst (-1), 1) := by decide +kernel
theorem d_Tr_insert_56 : decode c_Tr_insert 56 = .ok (.invokevirtual 36, 3) := by decide +kernel
theorem d_Tr_insert_59 : decode c_Tr_insert 59 = .ok (.iconst 1, 1) := by decide +kernel
theorem d_Tr_insert_60 : decode c_Tr_insert 60 = .ok (.ireturn, 1) := by decide +kernel
theorem d_Tr_copyFrom_0 : decode c_Tr_copyFrom 0 = .ok (.aload_n 0, 1) := by decide +kernel
theorem d_Tr_copyFrom_1 : decode c_Tr_copyFrom 1 = .ok (.aload_n 1, 1) := by decide +kernel
theorem d_Tr_copyFrom_2 : decode c_Tr_copyFrom 2 = .ok (.getfield 24, 3) := by decide +kernel
theorem d_Tr_copyFrom_5 : decode c_Tr_copyFrom 5 = .ok (.putfield 24, 3) := by decide +kernel
theorem d_Tr_copyFrom_8 : decode c_Tr_copyFrom 8 = .ok (.iconst 0, 1) := by decide +kernel
theorem d_Tr_copyFrom_9 : decode c_Tr_copyFrom 9 = .ok (.istore_n 2, 1) := by decide +kernel
theorem d_Tr_copyFrom_10 : decode c_Tr_copyFrom 10 = .ok (.iload_n 2, 1) := by decide +kernel
theorem d_Tr_copyFrom_11 : decode c_Tr_copyFrom 11 = .ok (.aload_n 0, 1) := by decide +kernel
theorem d_Tr_copyFrom_12 : decode c_Tr_copyFrom 12 = .ok (.getfield 24, 3) := by decide +kernel
theorem d_Tr_copyFrom_15 : decode c_Tr_copyFrom 15 = .ok (.if_icmp .ge 16, 3) := by decide +kernel
theorem d_Tr_copyFrom_18 : decode c_Tr_copyFrom 18 = .ok (.aload_n 0, 1) := by decide +kernel
theorem d_Tr_copyFrom_19 : decode c_Tr_copyFrom 19 = .ok (.iload_n 2, 1) := by decide +kernel
theorem d_Tr_copyFrom_20 : decode c_Tr_copyFrom 20 = .ok (.aload_n 1, 1) := by decide +kernel
theorem d_Tr_copyFrom_21 : decode c_Tr_copyFrom 21 = .ok (.iload_n 2, 1) := by decide +kernel
theorem d_Tr_copyFrom_22 : decode c_Tr_copyFrom 22 = .ok (.invokevirtual 40, 3) := by decide +kernel
theorem d_Tr_copyFrom_25 : decode c_Tr_copyFrom 25 = .ok (.iinc 2 1, 3) := by decide +kernel
theorem d_Tr_copyFrom_28 : decode c_Tr_copyFrom 28 = .ok (.goto (-18), 3) := by decide +kernel
theorem d_Tr_copyFrom_31 : decode c_Tr_copyFrom 31 = .ok (.return_, 1) := by decide +kernel
theorem d_Tr_isLike_0 : decode c_Tr_isLike 0 = .ok (.aload_n 0, 1) := by decide +kernel
theorem d_Tr_isLike_1 : decode c_Tr_isLike 1 = .ok (.getfield 24, 3) := by decide +kernel
theorem d_Tr_isLike_4 : decode c_Tr_isLike 4 = .ok (.aload_n 1, 1) := by decide +kernel
theorem d_Tr_isLike_5 : decode c_Tr_isLike 5 = .ok (.getfield 24, 3) := by decide +kernel
theorem d_Tr_isLike_8 : decode c_Tr_isLike 8 = .ok (.if_icmp .eq 5, 3) := by decide +kernel
theorem d_Tr_isLike_11 : decode c_Tr_isLike 11 = .ok (.iconst 0, 1) := by decide +kernel
theorem d_Tr_isLike_12 : decode c_Tr_isLike 12 = .ok (.ireturn, 1) := by decide +kernel
theorem d_Tr_isLike_13 : decode c_Tr_isLike 13 = .ok (.iconst 0, 1) := by decide +kernel
theorem d_Tr_isLike_14 : decode c_Tr_isLike 14 = .ok (.istore_n 2, 1) := by decide +kernel
theorem d_Tr_isLike_15 : decode c_Tr_isLike 15 = .ok (.iload_n 2, 1) := by decide +kernel
theorem d_Tr_isLike_16 : decode c_Tr_isLike 16 = .ok (.aload_n 0, 1) := by decide +kernel
theorem d_Tr_isLike_17 : decode c_Tr_isLike 17 = .ok (.getfield 24, 3) := by decide +kernel
theorem d_Tr_isLike_20 : decode c_Tr_isLike 20 = .ok (.if_icmp .ge 20, 3) := by decide +kernel
theorem d_Tr_isLike_23 : decode c_Tr_isLike 23 = .ok (.aload_n 0, 1) := by decide +kernel
theorem d_Tr_isLike_24 : decode c_Tr_isLike 24 = .ok (.aload_n 1, 1) := by decide +kernel
theorem d_Tr_isLike_25 : decode c_Tr_isLike 25 = .ok (.iload_n 2, 1) := by decide +kernel
theorem d_Tr_isLike_26 : decode c_Tr_isLike 26 = .ok (.invokevirtual 44, 3) := by decide +kernel
theorem d_Tr_isLike_29 : decode c_Tr_isLike 29 = .ok (.ifCond .ne 5, 3) := by decide +kernel
theorem d_Tr_isLike_32 : decode c_Tr_isLike 32 = .ok (.iconst 0, 1) := by decide +kernel
theorem d_Tr_isLike_33 : decode c_Tr_isLike 33 = .ok (.ireturn, 1) := by decide +kernel
theorem d_Tr_isLike_34 : decode c_Tr_isLike 34 = .ok (.iinc 2 1, 3) := by decide +kernel
theorem d_Tr_isLike_37 : decode c_Tr_isLike 37 = .ok (.goto (-22), 3) := by decide +kernel
theorem d_Tr_isLike_40 : decode c_Tr_isLike 40 = .ok (.iconst 1, 1) := by decide +kernel
theorem d_Tr_isLike_41 : decode c_Tr_isLike 41 = .ok (.ireturn, 1) := by decide +kernel
theorem d_Tr_isNodeLike_0 : decode c_Tr_isNodeLike 0 = .ok (.aload_n 0, 1) := by decide +kernel
theorem d_Tr_isNodeLike_1 : decode c_Tr_isNodeLike 1 = .ok (.iload_n 2, 1) := by decide +kernel
theorem d_Tr_isNodeLike_2 : decode c_Tr_isNodeLike 2 = .ok (.invokevirtual 48, 3) := by decide +kernel
theorem d_Tr_isNodeLike_5 : decode c_Tr_isNodeLike 5 = .ok (.aload_n 1, 1) := by decide +kernel
theorem d_Tr_isNodeLike_6 : decode c_Tr_isNodeLike 6 = .ok (.iload_n 2, 1) := by decide +kernel
theorem d_Tr_isNodeLike_7 : decode c_Tr_isNodeLike 7 = .ok (.invokevirtual 48, 3) := by decide +kernel
theorem d_Tr_isNodeLike_10 : decode c_Tr_isNodeLike 10 = .ok (.if_icmp .ne 46, 3) := by decide +kernel
theorem d_Tr_isNodeLike_13 : decode c_Tr_isNodeLike 13 = .ok (.aload_n 0, 1) := by decide +kernel
theorem d_Tr_isNodeLike_14 : decode c_Tr_isNodeLike 14 = .ok (.iload_n 2, 1) := by decide +kernel
theorem d_Tr_isNodeLike_15 : decode c_Tr_isNodeLike 15 = .ok (.invokevirtual 52, 3) := by decide +kernel
theorem d_Tr_isNodeLike_18 : decode c_Tr_isNodeLike 18 = .ok (.aload_n 1, 1) := by decide +kernel
theorem d_Tr_isNodeLike_19 : decode c_Tr_isNodeLike 19 = .ok (.iload_n 2, 1) := by decide +kernel
theorem d_Tr_isNodeLike_20 : decode c_Tr_isNodeLike 20 = .ok (.invokevirtual 52, 3) := by decide +kernel
theorem d_Tr_isNodeLike_23 : decode c_Tr_isNodeLike 23 = .ok (.if_icmp .ne 33, 3) := by decide +kernel
theorem d_Tr_isNodeLike_26 : decode c_Tr_isNodeLike 26 = .ok (.aload_n 0, 1) := by decide +kernel
theorem d_Tr_isNodeLike_27 : decode c_Tr_isNodeLike 27 = .ok (.iload_n 2, 1) := by decide +kernel
theorem d_Tr_isNodeLike_28 : decode c_Tr_isNodeLike 28 = .ok (.invokevirtual 55, 3) := by decide +kernel
theorem d_Tr_isNodeLike_31 : decode c_Tr_isNodeLike 31 = .ok (.aload_n 1, 1) := by decide +kernel
theorem d_Tr_isNodeLike_32 : decode c_Tr_isNodeLike 32 = .ok (.iload_n 2, 1) := by decide +kernel
theorem d_Tr_isNodeLike_33 : decode c_Tr_isNodeLike 33 = .ok (.invokevirtual 55, 3) := by decide +kernel
theorem d_Tr_isNodeLike_36 : decode c_Tr_isNodeLike 36 = .ok (.if_icmp .ne 20, 3) := by decide +kernel
theorem d_Tr_isNodeLike_39 : decode c_Tr_isNodeLike 39 = .ok (.aload_n 0, 1) := by decide +kernel
theorem d_Tr_isNodeLike_40 : decode c_Tr_isNodeLike 40 = .ok (.iload_n 2, 1) := by decide +kernel
theorem d_Tr_isNodeLike_41 : decode c_Tr_isNodeLike 41 = .ok (.invokevirtual 58, 3) := by decide +kernel
theorem d_Tr_isNodeLike_44 : decode c_Tr_isNodeLike 44 = .ok (.aload_n 1, 1) := by decide +kernel
theorem d_Tr_isNodeLike_45 : decode c_Tr_isNodeLike 45 = .ok (.iload_n 2, 1) := by decide +kernel
theorem d_Tr_isNodeLike_46 : decode c_Tr_isNodeLike 46 = .ok (.invokevirtual 58, 3) := by decide +kernel
theorem d_Tr_isNodeLike_49 : decode c_Tr_isNodeLike 49 = .ok (.if_icmp .ne 7, 3) := by decide +kernel
theorem d_Tr_isNodeLike_52 : decode c_Tr_isNodeLike 52 = .ok (.iconst 1, 1) := by decide +kernel
theorem d_Tr_isNodeLike_53 : decode c_Tr_isNodeLike 53 = .ok (.goto 4, 3) := by decide +kernel
theorem d_Tr_isNodeLike_56 : decode c_Tr_isNodeLike 56 = .ok (.iconst 0, 1) := by decide +kernel
theorem d_Tr_isNodeLike_57 : decode c_Tr_isNodeLike 57 = .ok (.ireturn, 1) := by decide +kernel
theorem d_Tr_copyNode_0 : decode c_Tr_copyNode 0 = .ok (.aload_n 0, 1) := by decide +kernel
theorem d_Tr_copyNode_1 : decode c_Tr_copyNode 1 = .ok (.iload_n 1, 1) := by decide +kernel
theorem d_Tr_copyNode_2 : decode c_Tr_copyNode 2 = .ok (.aload_n 2, 1) := by decide +kernel
theorem d_Tr_copyNode_3 : decode c_Tr_copyNode 3 = .ok (.iload_n 3, 1) := by decide +kernel
theorem d_Tr_copyNode_4 : decode c_Tr_copyNode 4 = .ok (.invokevirtual 48, 3) := by decide +kernel
theorem d_Tr_copyNode_7 : decode c_Tr_copyNode 7 = .ok (.aload_n 2, 1) := by decide +kernel
theorem d_Tr_copyNode_8 : decode c_Tr_copyNode 8 = .ok (.iload_n 3, 1) := by decide +kernel
theorem d_Tr_copyNode_9 : decode c_Tr_copyNode 9 = .ok (.invokevirtual 52, 3) := by decide +kernel
theorem d_Tr_copyNode_12 : decode c_Tr_copyNode 12 = .ok (.aload_n 2, 1) := by decide +kernel
theorem d_Tr_copyNode_13 : decode c_Tr_copyNode 13 = .ok (.iload_n 3, 1) := by decide +kernel
theorem d_Tr_copyNode_14 : decode c_Tr_copyNode 14 = .ok (.invokevirtual 55, 3) := by decide +kernel
theorem d_Tr_copyNode_17 : decode c_Tr_copyNode 17 = .ok (.aload_n 2, 1) := by decide +kernel
theorem d_Tr_copyNode_18 : decode c_Tr_copyNode 18 = .ok (.iload_n 3, 1) := by decide +kernel
theorem d_Tr_copyNode_19 : decode c_Tr_copyNode 19 = .ok (.invokevirtual 58, 3) := by decide +kernel
theorem d_Tr_copyNode_22 : decode c_Tr_copyNode 22 = .ok (.invokevirtual 36, 3) := by decide +kernel
theorem d_Tr_copyNode_25 : decode c_Tr_copyNode 25 = .ok (.return_, 1) := by decide +kernel
theorem d_Tr_put_0 : decode c_Tr_put 0 = .ok (.aload_n 0, 1) := by decide +kernel
theorem d_Tr_put_1 : decode c_Tr_put 1 = .ok (.iload_n 1, 1) := by decide +kernel
theorem d_Tr_put_2 : decode c_Tr_put 2 = .ok (.invokevirtual 28, 3) := by decide +kernel
theorem d_Tr_put_5 : decode c_Tr_put 5 = .ok (.ifCond .eq 33, 3) := by decide +kernel
theorem d_Tr_put_8 : decode c_Tr_put 8 = .ok (.aload_n 0, 1) := by decide +kernel
theorem d_Tr_put_9 : decode c_Tr_put 9 = .ok (.getfield 9, 3) := by decide +kernel
theorem d_Tr_put_12 : decode c_Tr_put 12 = .ok (.iload_n 1, 1) := by decide +kernel
theorem d_Tr_put_13 : decode c_Tr_put 13 = .ok (.iload_n 2, 1) := by decide +kernel
theorem d_Tr_put_14 : decode c_Tr_put 14 = .ok (.iastore, 1) := by decide +kernel
theorem d_Tr_put_15 : decode c_Tr_put 15 = .ok (.aload_n 0, 1) := by decide +kernel
theorem d_Tr_put_16 : decode c_Tr_put 16 = .ok (.getfield 15, 3) := by decide +kernel
theorem d_Tr_put_19 : decode c_Tr_put 19 = .ok (.iload_n 1, 1) := by decide +kernel
theorem d_Tr_put_20 : decode c_Tr_put 20 = .ok (.iload_n 3, 1) := by decide +kernel
theorem d_Tr_put_21 : decode c_Tr_put 21 = .ok (.iastore, 1) := by decide +kernel
theorem d_Tr_put_22 : decode c_Tr_put 22 = .ok (.aload_n 0, 1) := by decide +kernel
theorem d_Tr_put_23 : decode c_Tr_put 23 = .ok (.getfield 18, 3) := by decide +kernel
theorem d_Tr_put_26 : decode c_Tr_put 26 = .ok (.iload_n 1, 1) := by decide +kernel
theorem d_Tr_put_27 : decode c_Tr_put 27 = .ok (.iload 4, 2) := by decide +kernel
theorem d_Tr_put_29 : decode c_Tr_put 29 = .ok (.iastore, 1) := by decide +kernel
theorem d_Tr_put_30 : decode c_Tr_put 30 = .ok (.aload_n 0, 1) := by decide +kernel
theorem d_Tr_put_31 : decode c_Tr_put 31 = .ok (.getfield 21, 3) := by decide +kernel
theorem d_Tr_put_34 : decode c_Tr_put 34 = .ok (.iload_n 1, 1) := by decide +kernel
theorem d_Tr_put_35 : decode c_Tr_put 35 = .ok (.iload 5, 2) := by decide +kernel
theorem d_Tr_put_37 : decode c_Tr_put 37 = .ok (.iastore, 1) := by decide +kernel
theorem d_Tr_put_38 : decode c_Tr_put 38 = .ok (.return_, 1) := by decide +kernel
theorem d_Un_init_0 : decode c_Un_init 0 = .ok (.aload_n 0, 1) := by decide +kernel
theorem d_Un_init_1 : decode c_Un_init 1 = .ok (.invokespecial 3, 3) := by decide +kernel
theorem d_Un_init_4 : decode c_Un_init 4 = .ok (.aload_n 0, 1) := by decide +kernel
theorem d_Un_init_5 : decode c_Un_init 5 = .ok (.sipush 200, 3) := by decide +kernel
theorem d_Un_init_8 : decode c_Un_init 8 = .ok (.newarray .int, 2) := by decide +kernel
theorem d_Un_init_10 : decode c_Un_init 10 = .ok (.putfield 9, 3) := by decide +kernel
theorem d_Un_init_13 : decode c_Un_init 13 = .ok (.aload_n 0, 1) := by decide +kernel
theorem d_Un_init_14 : decode c_Un_init 14 = .ok (.iconst 0, 1) := by decide +kernel
theorem d_Un_init_15 : decode c_Un_init 15 = .ok (.putfield 15, 3) := by decide +kernel
theorem d_Un_init_18 : decode c_Un_init 18 = .ok (.return_, 1) := by decide +kernel
theorem d_Un_forget_0 : decode c_Un_forget 0 = .ok (.aload_n 0, 1) := by decide +kernel
theorem d_Un_forget_1 : decode c_Un_forget 1 = .ok (.iconst 0, 1) := by decide +kernel
theorem d_Un_forget_2 : decode c_Un_forget 2 = .ok (.putfield 15, 3) := by decide +kernel
theorem d_Un_forget_5 : decode c_Un_forget 5 = .ok (.return_, 1) := by decide +kernel
theorem d_Un_keep_0 : decode c_Un_keep 0 = .ok (.aload_n 1, 1) := by decide +kernel
theorem d_Un_keep_1 : decode c_Un_keep 1 = .ok (.invokevirtual 19, 3) := by decide +kernel
theorem d_Un_keep_4 : decode c_Un_keep 4 = .ok (.istore_n 3, 1) := by decide +kernel
theorem d_Un_keep_5 : decode c_Un_keep 5 = .ok (.aload_n 0, 1) := by decide +kernel
theorem d_Un_keep_6 : decode c_Un_keep 6 = .ok (.iconst 0, 1) := by decide +kernel
theorem d_Un_keep_7 : decode c_Un_keep 7 = .ok (.putfield 15, 3) := by decide +kernel
theorem d_Un_keep_10 : decode c_Un_keep 10 = .ok (.iload_n 3, 1) := by decide +kernel
theorem d_Un_keep_11 : decode c_Un_keep 11 = .ok (.istore 4, 2) := by decide +kernel
theorem d_Un_keep_13 : decode c_Un_keep 13 = .ok (.iload 4, 2) := by decide +kernel
theorem d_Un_keep_15 : decode c_Un_keep 15 = .ok (.iload_n 2, 1) := by decide +kernel
theorem d_Un_keep_16 : decode c_Un_keep 16 = .ok (.if_icmp .ge 44, 3) := by decide +kernel
theorem d_Un_keep_19 : decode c_Un_keep 19 = .ok (.aload_n 0, 1) := by decide +kernel
theorem d_Un_keep_20 : decode c_Un_keep 20 = .ok (.getfield 15, 3) := by decide +kernel
theorem d_Un_keep_23 : decode c_Un_keep 23 = .ok (.sipush 200, 3) := by decide +kernel
theorem d_Un_keep_26 : decode c_Un_keep 26 = .ok (.if_icmp .ge 34, 3) := by decide +kernel
theorem d_Un_keep_29 : decode c_Un_keep 29 = .ok (.aload_n 0, 1) := by decide +kernel
theorem d_Un_keep_30 : decode c_Un_keep 30 = .ok (.getfield 9, 3) := by decide +kernel
theorem d_Un_keep_33 : decode c_Un_keep 33 = .ok (.aload_n 0, 1) := by decide +kernel
theorem d_Un_keep_34 : decode c_Un_keep 34 = .ok (.getfield 15, 3) := by decide +kernel
theorem d_Un_keep_37 : decode c_Un_keep 37 = .ok (.aload_n 1, 1) := by decide +kernel
theorem d_Un_keep_38 : decode c_Un_keep 38 = .ok (.iload 4, 2) := by decide +kernel
theorem d_Un_keep_40 : decode c_Un_keep 40 = .ok (.invokevirtual 25, 3) := by decide +kernel
theorem d_Un_keep_43 : decode c_Un_keep 43 = .ok (.iastore, 1) := by decide +kernel
theorem d_Un_keep_44 : decode c_Un_keep 44 = .ok (.aload_n 0, 1) := by decide +kernel
theorem d_Un_keep_45 : decode c_Un_keep 45 = .ok (.dup, 1) := by decide +kernel
theorem d_Un_keep_46 : decode c_Un_keep 46 = .ok (.getfield 15, 3) := by decide +kernel
theorem d_Un_keep_49 : decode c_Un_keep 49 = .ok (.iconst 1, 1) := by decide +kernel
theorem d_Un_keep_50 : decode c_Un_keep 50 = .ok (.iadd, 1) := by decide +kernel
theorem d_Un_keep_51 : decode c_Un_keep 51 = .ok (.putfield 15, 3) := by decide +kernel
theorem d_Un_keep_54 : decode c_Un_keep 54 = .ok (.iinc 4 1, 3) := by decide +kernel
theorem d_Un_keep_57 : decode c_Un_keep 57 = .ok (.goto (-44), 3) := by decide +kernel
theorem d_Un_keep_60 : decode c_Un_keep 60 = .ok (.return_, 1) := by decide +kernel
theorem d_Un_length_0 : decode c_Un_length 0 = .ok (.aload_n 0, 1) := by decide +kernel
theorem d_Un_length_1 : decode c_Un_length 1 = .ok (.getfield 15, 3) := by decide +kernel
theorem d_Un_length_4 : decode c_Un_length 4 = .ok (.ireturn, 1) := by decide +kernel
theorem d_Un_letterAt_0 : decode c_Un_letterAt 0 = .ok (.iload_n 1, 1) := by decide +kernel
theorem d_Un_letterAt_1 : decode c_Un_letterAt 1 = .ok (.ifCond .lt 27, 3) := by decide +kernel
theorem d_Un_letterAt_4 : decode c_Un_letterAt 4 = .ok (.iload_n 1, 1) := by decide +kernel
theorem d_Un_letterAt_5 : decode c_Un_letterAt 5 = .ok (.aload_n 0, 1) := by decide +kernel
theorem d_Un_letterAt_6 : decode c_Un_letterAt 6 = .ok (.getfield 15, 3) := by decide +kernel
theorem d_Un_letterAt_9 : decode c_Un_letterAt 9 = .ok (.if_icmp .ge 19, 3) := by decide +kernel
theorem d_Un_letterAt_12 : decode c_Un_letterAt 12 = .ok (.iload_n 1, 1) := by decide +kernel
theorem d_Un_letterAt_13 : decode c_Un_letterAt 13 = .ok (.sipush 200, 3) := by decide +kernel
theorem d_Un_letterAt_16 : decode c_Un_letterAt 16 = .ok (.if_icmp .ge 12, 3) := by decide +kernel
theorem d_Un_letterAt_19 : decode c_Un_letterAt 19 = .ok (.aload_n 0, 1) := by decide +kernel
theorem d_Un_letterAt_20 : decode c_Un_letterAt 20 = .ok (.getfield 9, 3) := by decide +kernel
theorem d_Un_letterAt_23 : decode c_Un_letterAt 23 = .ok (.iload_n 1, 1) := by decide +kernel
theorem d_Un_letterAt_24 : decode c_Un_letterAt 24 = .ok (.iaload, 1) := by decide +kernel
theorem d_Un_letterAt_25 : decode c_Un_letterAt 25 = .ok (.goto 4, 3) := by decide +kernel
theorem d_Un_letterAt_28 : decode c_Un_letterAt 28 = .ok (.iconst (-1), 1) := by decide +kernel
theorem d_Un_letterAt_29 : decode c_Un_letterAt 29 = .ok (.ireturn, 1) := by decide +kernel
