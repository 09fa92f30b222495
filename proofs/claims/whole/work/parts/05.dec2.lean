theorem d_QS_init_0 : decode c_QS_init 0 = .ok (.aload_n 0, 1) := by decide +kernel
theorem d_QS_init_1 : decode c_QS_init 1 = .ok (.invokespecial 1, 3) := by decide +kernel
theorem d_QS_init_4 : decode c_QS_init 4 = .ok (.aload_n 0, 1) := by decide +kernel
theorem d_QS_init_5 : decode c_QS_init 5 = .ok (.new 7, 3) := by decide +kernel
theorem d_QS_init_8 : decode c_QS_init 8 = .ok (.dup, 1) := by decide +kernel
theorem d_QS_init_9 : decode c_QS_init 9 = .ok (.invokespecial 9, 3) := by decide +kernel
theorem d_QS_init_12 : decode c_QS_init 12 = .ok (.putfield 10, 3) := by decide +kernel
theorem d_QS_init_15 : decode c_QS_init 15 = .ok (.aload_n 0, 1) := by decide +kernel
theorem d_QS_init_16 : decode c_QS_init 16 = .ok (.new 16, 3) := by decide +kernel
theorem d_QS_init_19 : decode c_QS_init 19 = .ok (.dup, 1) := by decide +kernel
theorem d_QS_init_20 : decode c_QS_init 20 = .ok (.invokespecial 18, 3) := by decide +kernel
theorem d_QS_init_23 : decode c_QS_init 23 = .ok (.putfield 19, 3) := by decide +kernel
theorem d_QS_init_26 : decode c_QS_init 26 = .ok (.aload_n 0, 1) := by decide +kernel
theorem d_QS_init_27 : decode c_QS_init 27 = .ok (.new 23, 3) := by decide +kernel
theorem d_QS_init_30 : decode c_QS_init 30 = .ok (.dup, 1) := by decide +kernel
theorem d_QS_init_31 : decode c_QS_init 31 = .ok (.invokespecial 25, 3) := by decide +kernel
theorem d_QS_init_34 : decode c_QS_init 34 = .ok (.putfield 26, 3) := by decide +kernel
theorem d_QS_init_37 : decode c_QS_init 37 = .ok (.aload_n 0, 1) := by decide +kernel
theorem d_QS_init_38 : decode c_QS_init 38 = .ok (.new 30, 3) := by decide +kernel
theorem d_QS_init_41 : decode c_QS_init 41 = .ok (.dup, 1) := by decide +kernel
theorem d_QS_init_42 : decode c_QS_init 42 = .ok (.invokespecial 32, 3) := by decide +kernel
theorem d_QS_init_45 : decode c_QS_init 45 = .ok (.putfield 33, 3) := by decide +kernel
theorem d_QS_init_48 : decode c_QS_init 48 = .ok (.aload_n 0, 1) := by decide +kernel
theorem d_QS_init_49 : decode c_QS_init 49 = .ok (.new 30, 3) := by decide +kernel
theorem d_QS_init_52 : decode c_QS_init 52 = .ok (.dup, 1) := by decide +kernel
theorem d_QS_init_53 : decode c_QS_init 53 = .ok (.invokespecial 32, 3) := by decide +kernel
theorem d_QS_init_56 : decode c_QS_init 56 = .ok (.putfield 37, 3) := by decide +kernel
theorem d_QS_init_59 : decode c_QS_init 59 = .ok (.aload_n 0, 1) := by decide +kernel
theorem d_QS_init_60 : decode c_QS_init 60 = .ok (.new 40, 3) := by decide +kernel
theorem d_QS_init_63 : decode c_QS_init 63 = .ok (.dup, 1) := by decide +kernel
theorem d_QS_init_64 : decode c_QS_init 64 = .ok (.aload_n 0, 1) := by decide +kernel
theorem d_QS_init_65 : decode c_QS_init 65 = .ok (.getfield 10, 3) := by decide +kernel
theorem d_QS_init_68 : decode c_QS_init 68 = .ok (.aload_n 0, 1) := by decide +kernel
theorem d_QS_init_69 : decode c_QS_init 69 = .ok (.getfield 19, 3) := by decide +kernel
theorem d_QS_init_72 : decode c_QS_init 72 = .ok (.aload_n 0, 1) := by decide +kernel
theorem d_QS_init_73 : decode c_QS_init 73 = .ok (.getfield 26, 3) := by decide +kernel
theorem d_QS_init_76 : decode c_QS_init 76 = .ok (.aload_n 0, 1) := by decide +kernel
theorem d_QS_init_77 : decode c_QS_init 77 = .ok (.getfield 33, 3) := by decide +kernel
theorem d_QS_init_80 : decode c_QS_init 80 = .ok (.invokespecial 42, 3) := by decide +kernel
theorem d_QS_init_83 : decode c_QS_init 83 = .ok (.putfield 45, 3) := by decide +kernel
theorem d_QS_init_86 : decode c_QS_init 86 = .ok (.aload_n 0, 1) := by decide +kernel
theorem d_QS_init_87 : decode c_QS_init 87 = .ok (.new 49, 3) := by decide +kernel
theorem d_QS_init_90 : decode c_QS_init 90 = .ok (.dup, 1) := by decide +kernel
theorem d_QS_init_91 : decode c_QS_init 91 = .ok (.aload_n 0, 1) := by decide +kernel
theorem d_QS_init_92 : decode c_QS_init 92 = .ok (.getfield 10, 3) := by decide +kernel
theorem d_QS_init_95 : decode c_QS_init 95 = .ok (.aload_n 0, 1) := by decide +kernel
theorem d_QS_init_96 : decode c_QS_init 96 = .ok (.getfield 19, 3) := by decide +kernel
theorem d_QS_init_99 : decode c_QS_init 99 = .ok (.aload_n 0, 1) := by decide +kernel
theorem d_QS_init_100 : decode c_QS_init 100 = .ok (.getfield 26, 3) := by decide +kernel
theorem d_QS_init_103 : decode c_QS_init 103 = .ok (.aload_n 0, 1) := by decide +kernel
theorem d_QS_init_104 : decode c_QS_init 104 = .ok (.getfield 33, 3) := by decide +kernel
theorem d_QS_init_107 : decode c_QS_init 107 = .ok (.invokespecial 51, 3) := by decide +kernel
theorem d_QS_init_110 : decode c_QS_init 110 = .ok (.putfield 52, 3) := by decide +kernel
theorem d_QS_init_113 : decode c_QS_init 113 = .ok (.aload_n 0, 1) := by decide +kernel
theorem d_QS_init_114 : decode c_QS_init 114 = .ok (.new 55, 3) := by decide +kernel
theorem d_QS_init_117 : decode c_QS_init 117 = .ok (.dup, 1) := by decide +kernel
theorem d_QS_init_118 : decode c_QS_init 118 = .ok (.invokespecial 57, 3) := by decide +kernel
theorem d_QS_init_121 : decode c_QS_init 121 = .ok (.putfield 58, 3) := by decide +kernel
theorem d_QS_init_124 : decode c_QS_init 124 = .ok (.aload_n 0, 1) := by decide +kernel
theorem d_QS_init_125 : decode c_QS_init 125 = .ok (.bipush 10, 2) := by decide +kernel
theorem d_QS_init_127 : decode c_QS_init 127 = .ok (.anewarray 62, 3) := by decide +kernel
theorem d_QS_init_130 : decode c_QS_init 130 = .ok (.putfield 64, 3) := by decide +kernel
theorem d_QS_init_133 : decode c_QS_init 133 = .ok (.iconst 0, 1) := by decide +kernel
theorem d_QS_init_134 : decode c_QS_init 134 = .ok (.istore_n 1, 1) := by decide +kernel
theorem d_QS_init_135 : decode c_QS_init 135 = .ok (.iload_n 1, 1) := by decide +kernel
theorem d_QS_init_136 : decode c_QS_init 136 = .ok (.bipush 10, 2) := by decide +kernel
theorem d_QS_init_138 : decode c_QS_init 138 = .ok (.if_icmp .ge 22, 3) := by decide +kernel
theorem d_QS_init_141 : decode c_QS_init 141 = .ok (.aload_n 0, 1) := by decide +kernel
theorem d_QS_init_142 : decode c_QS_init 142 = .ok (.getfield 64, 3) := by decide +kernel
theorem d_QS_init_145 : decode c_QS_init 145 = .ok (.iload_n 1, 1) := by decide +kernel
theorem d_QS_init_146 : decode c_QS_init 146 = .ok (.new 62, 3) := by decide +kernel
theorem d_QS_init_149 : decode c_QS_init 149 = .ok (.dup, 1) := by decide +kernel
theorem d_QS_init_150 : decode c_QS_init 150 = .ok (.invokespecial 68, 3) := by decide +kernel
theorem d_QS_init_153 : decode c_QS_init 153 = .ok (.aastore, 1) := by decide +kernel
theorem d_QS_init_154 : decode c_QS_init 154 = .ok (.iinc 1 1, 3) := by decide +kernel
theorem d_QS_init_157 : decode c_QS_init 157 = .ok (.goto (-22), 3) := by decide +kernel
theorem d_QS_init_160 : decode c_QS_init 160 = .ok (.aload_n 0, 1) := by decide +kernel
theorem d_QS_init_161 : decode c_QS_init 161 = .ok (.new 69, 3) := by decide +kernel
theorem d_QS_init_164 : decode c_QS_init 164 = .ok (.dup, 1) := by decide +kernel
theorem d_QS_init_165 : decode c_QS_init 165 = .ok (.invokespecial 71, 3) := by decide +kernel
theorem d_QS_init_168 : decode c_QS_init 168 = .ok (.putfield 72, 3) := by decide +kernel
theorem d_QS_init_171 : decode c_QS_init 171 = .ok (.return_, 1) := by decide +kernel
theorem d_QS_sign_0 : decode c_QS_sign 0 = .ok (.aload_n 0, 1) := by decide +kernel
theorem d_QS_sign_1 : decode c_QS_sign 1 = .ok (.getfield 10, 3) := by decide +kernel
theorem d_QS_sign_4 : decode c_QS_sign 4 = .ok (.iload_n 1, 1) := by decide +kernel
theorem d_QS_sign_5 : decode c_QS_sign 5 = .ok (.sipush 255, 3) := by decide +kernel
theorem d_QS_sign_8 : decode c_QS_sign 8 = .ok (.iand, 1) := by decide +kernel
theorem d_QS_sign_9 : decode c_QS_sign 9 = .ok (.invokevirtual 76, 3) := by decide +kernel
theorem d_QS_sign_12 : decode c_QS_sign 12 = .ok (.return_, 1) := by decide +kernel
theorem d_QS_index_0 : decode c_QS_index 0 = .ok (.aload_n 0, 1) := by decide +kernel
theorem d_QS_index_1 : decode c_QS_index 1 = .ok (.getfield 19, 3) := by decide +kernel
theorem d_QS_index_4 : decode c_QS_index 4 = .ok (.aload_n 0, 1) := by decide +kernel
theorem d_QS_index_5 : decode c_QS_index 5 = .ok (.getfield 10, 3) := by decide +kernel
theorem d_QS_index_8 : decode c_QS_index 8 = .ok (.invokevirtual 80, 3) := by decide +kernel
theorem d_QS_index_11 : decode c_QS_index 11 = .ok (.istore_n 1, 1) := by decide +kernel
theorem d_QS_index_12 : decode c_QS_index 12 = .ok (.aload_n 0, 1) := by decide +kernel
theorem d_QS_index_13 : decode c_QS_index 13 = .ok (.getfield 10, 3) := by decide +kernel
theorem d_QS_index_16 : decode c_QS_index 16 = .ok (.invokevirtual 84, 3) := by decide +kernel
theorem d_QS_index_19 : decode c_QS_index 19 = .ok (.iload_n 1, 1) := by decide +kernel
theorem d_QS_index_20 : decode c_QS_index 20 = .ok (.ireturn, 1) := by decide +kernel
theorem d_QS_on_0 : decode c_QS_on 0 = .ok (.aload_n 0, 1) := by decide +kernel
theorem d_QS_on_1 : decode c_QS_on 1 = .ok (.getfield 19, 3) := by decide +kernel
theorem d_QS_on_4 : decode c_QS_on 4 = .ok (.iload_n 1, 1) := by decide +kernel
theorem d_QS_on_5 : decode c_QS_on 5 = .ok (.iload_n 2, 1) := by decide +kernel
theorem d_QS_on_6 : decode c_QS_on 6 = .ok (.invokevirtual 87, 3) := by decide +kernel
theorem d_QS_on_9 : decode c_QS_on 9 = .ok (.ireturn, 1) := by decide +kernel
theorem d_QS_read_0 : decode c_QS_read 0 = .ok (.iload_n 1, 1) := by decide +kernel
theorem d_QS_read_1 : decode c_QS_read 1 = .ok (.ifCond .ne 10, 3) := by decide +kernel
theorem d_QS_read_4 : decode c_QS_read 4 = .ok (.aload_n 0, 1) := by decide +kernel
theorem d_QS_read_5 : decode c_QS_read 5 = .ok (.getfield 45, 3) := by decide +kernel
theorem d_QS_read_8 : decode c_QS_read 8 = .ok (.goto 7, 3) := by decide +kernel
theorem d_QS_read_11 : decode c_QS_read 11 = .ok (.aload_n 0, 1) := by decide +kernel
theorem d_QS_read_12 : decode c_QS_read 12 = .ok (.getfield 52, 3) := by decide +kernel
theorem d_QS_read_15 : decode c_QS_read 15 = .ok (.astore_n 2, 1) := by decide +kernel
theorem d_QS_read_16 : decode c_QS_read 16 = .ok (.aload_n 0, 1) := by decide +kernel
theorem d_QS_read_17 : decode c_QS_read 17 = .ok (.getfield 26, 3) := by decide +kernel
theorem d_QS_read_20 : decode c_QS_read 20 = .ok (.invokevirtual 91, 3) := by decide +kernel
theorem d_QS_read_23 : decode c_QS_read 23 = .ok (.aload_n 0, 1) := by decide +kernel
theorem d_QS_read_24 : decode c_QS_read 24 = .ok (.getfield 33, 3) := by decide +kernel
theorem d_QS_read_27 : decode c_QS_read 27 = .ok (.invokevirtual 94, 3) := by decide +kernel
theorem d_QS_read_30 : decode c_QS_read 30 = .ok (.aload_n 0, 1) := by decide +kernel
theorem d_QS_read_31 : decode c_QS_read 31 = .ok (.getfield 10, 3) := by decide +kernel
theorem d_QS_read_34 : decode c_QS_read 34 = .ok (.iconst 0, 1) := by decide +kernel
theorem d_QS_read_35 : decode c_QS_read 35 = .ok (.invokevirtual 95, 3) := by decide +kernel
theorem d_QS_read_38 : decode c_QS_read 38 = .ok (.aload_n 2, 1) := by decide +kernel
theorem d_QS_read_39 : decode c_QS_read 39 = .ok (.iconst 0, 1) := by decide +kernel
theorem d_QS_read_40 : decode c_QS_read 40 = .ok (.invokevirtual 98, 3) := by decide +kernel
theorem d_QS_read_43 : decode c_QS_read 43 = .ok (.ifCond .eq 17, 3) := by decide +kernel
theorem d_QS_read_46 : decode c_QS_read 46 = .ok (.aload_n 0, 1) := by decide +kernel
theorem d_QS_read_47 : decode c_QS_read 47 = .ok (.getfield 10, 3) := by decide +kernel
theorem d_QS_read_50 : decode c_QS_read 50 = .ok (.invokevirtual 104, 3) := by decide +kernel
theorem d_QS_read_53 : decode c_QS_read 53 = .ok (.ifCond .eq 7, 3) := by decide +kernel
theorem d_QS_read_56 : decode c_QS_read 56 = .ok (.iconst 1, 1) := by decide +kernel
theorem d_QS_read_57 : decode c_QS_read 57 = .ok (.goto 4, 3) := by decide +kernel
theorem d_QS_read_60 : decode c_QS_read 60 = .ok (.iconst 0, 1) := by decide +kernel
theorem d_QS_read_61 : decode c_QS_read 61 = .ok (.istore_n 3, 1) := by decide +kernel
theorem d_QS_read_62 : decode c_QS_read 62 = .ok (.aload_n 0, 1) := by decide +kernel
theorem d_QS_read_63 : decode c_QS_read 63 = .ok (.getfield 10, 3) := by decide +kernel
theorem d_QS_read_66 : decode c_QS_read 66 = .ok (.invokevirtual 108, 3) := by decide +kernel
theorem d_QS_read_69 : decode c_QS_read 69 = .ok (.istore 4, 2) := by decide +kernel
theorem d_QS_read_71 : decode c_QS_read 71 = .ok (.aload_n 0, 1) := by decide +kernel
theorem d_QS_read_72 : decode c_QS_read 72 = .ok (.getfield 10, 3) := by decide +kernel
theorem d_QS_read_75 : decode c_QS_read 75 = .ok (.invokevirtual 84, 3) := by decide +kernel
theorem d_QS_read_78 : decode c_QS_read 78 = .ok (.iload_n 3, 1) := by decide +kernel
theorem d_QS_read_79 : decode c_QS_read 79 = .ok (.ifCond .ne 8, 3) := by decide +kernel
theorem d_QS_read_82 : decode c_QS_read 82 = .ok (.iconst (-1), 1) := by decide +kernel
theorem d_QS_read_83 : decode c_QS_read 83 = .ok (.iload 4, 2) := by decide +kernel
theorem d_QS_read_85 : decode c_QS_read 85 = .ok (.isub, 1) := by decide +kernel
theorem d_QS_read_86 : decode c_QS_read 86 = .ok (.ireturn, 1) := by decide +kernel
theorem d_QS_read_87 : decode c_QS_read 87 = .ok (.aload_n 0, 1) := by decide +kernel
theorem d_QS_read_88 : decode c_QS_read 88 = .ok (.getfield 37, 3) := by decide +kernel
theorem d_QS_read_91 : decode c_QS_read 91 = .ok (.aload_n 0, 1) := by decide +kernel
theorem d_QS_read_92 : decode c_QS_read 92 = .ok (.getfield 33, 3) := by decide +kernel
theorem d_QS_read_95 : decode c_QS_read 95 = .ok (.invokevirtual 112, 3) := by decide +kernel
theorem d_QS_read_98 : decode c_QS_read 98 = .ok (.aload_n 0, 1) := by decide +kernel
theorem d_QS_read_99 : decode c_QS_read 99 = .ok (.getfield 37, 3) := by decide +kernel
theorem d_QS_read_102 : decode c_QS_read 102 = .ok (.invokevirtual 116, 3) := by decide +kernel
theorem d_QS_read_105 : decode c_QS_read 105 = .ok (.ireturn, 1) := by decide +kernel
theorem d_QS_node_0 : decode c_QS_node 0 = .ok (.iload_n 2, 1) := by decide +kernel
theorem d_QS_node_1 : decode c_QS_node 1 = .ok (.tableswitch 67 0 3 #[31, 40, 49, 58], 31) := by decide +kernel
theorem d_QS_node_32 : decode c_QS_node 32 = .ok (.aload_n 0, 1) := by decide +kernel
theorem d_QS_node_33 : decode c_QS_node 33 = .ok (.getfield 37, 3) := by decide +kernel
theorem d_QS_node_36 : decode c_QS_node 36 = .ok (.iload_n 1, 1) := by decide +kernel
theorem d_QS_node_37 : decode c_QS_node 37 = .ok (.invokevirtual 119, 3) := by decide +kernel
theorem d_QS_node_40 : decode c_QS_node 40 = .ok (.ireturn, 1) := by decide +kernel
theorem d_QS_node_41 : decode c_QS_node 41 = .ok (.aload_n 0, 1) := by decide +kernel
theorem d_QS_node_42 : decode c_QS_node 42 = .ok (.getfield 37, 3) := by decide +kernel
theorem d_QS_node_45 : decode c_QS_node 45 = .ok (.iload_n 1, 1) := by decide +kernel
theorem d_QS_node_46 : decode c_QS_node 46 = .ok (.invokevirtual 123, 3) := by decide +kernel
theorem d_QS_node_49 : decode c_QS_node 49 = .ok (.ireturn, 1) := by decide +kernel
theorem d_QS_node_50 : decode c_QS_node 50 = .ok (.aload_n 0, 1) := by decide +kernel
theorem d_QS_node_51 : decode c_QS_node 51 = .ok (.getfield 37, 3) := by decide +kernel
theorem d_QS_node_54 : decode c_QS_node 54 = .ok (.iload_n 1, 1) := by decide +kernel
theorem d_QS_node_55 : decode c_QS_node 55 = .ok (.invokevirtual 126, 3) := by decide +kernel
theorem d_QS_node_58 : decode c_QS_node 58 = .ok (.ireturn, 1) := by decide +kernel
theorem d_QS_node_59 : decode c_QS_node 59 = .ok (.aload_n 0, 1) := by decide +kernel
theorem d_QS_node_60 : decode c_QS_node 60 = .ok (.getfield 37, 3) := by decide +kernel
theorem d_QS_node_63 : decode c_QS_node 63 = .ok (.iload_n 1, 1) := by decide +kernel
theorem d_QS_node_64 : decode c_QS_node 64 = .ok (.invokevirtual 129, 3) := by decide +kernel
theorem d_QS_node_67 : decode c_QS_node 67 = .ok (.ireturn, 1) := by decide +kernel
theorem d_QS_node_68 : decode c_QS_node 68 = .ok (.iconst (-1), 1) := by decide +kernel
theorem d_QS_node_69 : decode c_QS_node 69 = .ok (.ireturn, 1) := by decide +kernel
theorem d_QS_near_0 : decode c_QS_near 0 = .ok (.aload_n 0, 1) := by decide +kernel
theorem d_QS_near_1 : decode c_QS_near 1 = .ok (.getfield 19, 3) := by decide +kernel
theorem d_QS_near_4 : decode c_QS_near 4 = .ok (.aload_n 0, 1) := by decide +kernel
theorem d_QS_near_5 : decode c_QS_near 5 = .ok (.getfield 26, 3) := by decide +kernel
theorem d_QS_near_8 : decode c_QS_near 8 = .ok (.invokevirtual 132, 3) := by decide +kernel
theorem d_QS_near_11 : decode c_QS_near 11 = .ok (.ireturn, 1) := by decide +kernel
theorem d_QS_record_0 : decode c_QS_record 0 = .ok (.aload_n 0, 1) := by decide +kernel
theorem d_QS_record_1 : decode c_QS_record 1 = .ok (.getfield 58, 3) := by decide +kernel
theorem d_QS_record_4 : decode c_QS_record 4 = .ok (.lload_n 1, 1) := by decide +kernel
theorem d_QS_record_5 : decode c_QS_record 5 = .ok (.invokevirtual 136, 3) := by decide +kernel
theorem d_QS_record_8 : decode c_QS_record 8 = .ok (.ireturn, 1) := by decide +kernel
theorem d_QS_entry_0 : decode c_QS_entry 0 = .ok (.aload_n 0, 1) := by decide +kernel
theorem d_QS_entry_1 : decode c_QS_entry 1 = .ok (.getfield 19, 3) := by decide +kernel
theorem d_QS_entry_4 : decode c_QS_entry 4 = .ok (.iload_n 2, 1) := by decide +kernel
theorem d_QS_entry_5 : decode c_QS_entry 5 = .ok (.invokevirtual 140, 3) := by decide +kernel
theorem d_QS_entry_8 : decode c_QS_entry 8 = .ok (.ifCond .eq 13, 3) := by decide +kernel
theorem d_QS_entry_11 : decode c_QS_entry 11 = .ok (.iload_n 3, 1) := by decide +kernel
theorem d_QS_entry_12 : decode c_QS_entry 12 = .ok (.ifCond .lt 9, 3) := by decide +kernel
theorem d_QS_entry_15 : decode c_QS_entry 15 = .ok (.iload_n 3, 1) := by decide +kernel
theorem d_QS_entry_16 : decode c_QS_entry 16 = .ok (.ldc 143, 2) := by decide +kernel
theorem d_QS_entry_18 : decode c_QS_entry 18 = .ok (.if_icmp .le 5, 3) := by decide +kernel
theorem d_QS_entry_21 : decode c_QS_entry 21 = .ok (.iconst 0, 1) := by decide +kernel
theorem d_QS_entry_22 : decode c_QS_entry 22 = .ok (.ireturn, 1) := by decide +kernel
theorem d_QS_entry_23 : decode c_QS_entry 23 = .ok (.aload_n 0, 1) := by decide +kernel
theorem d_QS_entry_24 : decode c_QS_entry 24 = .ok (.getfield 58, 3) := by decide +kernel
theorem d_QS_entry_27 : decode c_QS_entry 27 = .ok (.iload_n 1, 1) := by decide +kernel
theorem d_QS_entry_28 : decode c_QS_entry 28 = .ok (.iload_n 2, 1) := by decide +kernel
theorem d_QS_entry_29 : decode c_QS_entry 29 = .ok (.iload_n 3, 1) := by decide +kernel
theorem d_QS_entry_30 : decode c_QS_entry 30 = .ok (.invokevirtual 144, 3) := by decide +kernel
theorem d_QS_entry_33 : decode c_QS_entry 33 = .ok (.ireturn, 1) := by decide +kernel
theorem d_QS_save_0 : decode c_QS_save 0 = .ok (.iload_n 1, 1) := by decide +kernel
theorem d_QS_save_1 : decode c_QS_save 1 = .ok (.ifCond .lt 19, 3) := by decide +kernel
theorem d_QS_save_4 : decode c_QS_save 4 = .ok (.iload_n 1, 1) := by decide +kernel
theorem d_QS_save_5 : decode c_QS_save 5 = .ok (.bipush 10, 2) := by decide +kernel
theorem d_QS_save_7 : decode c_QS_save 7 = .ok (.if_icmp .ge 13, 3) := by decide +kernel
theorem d_QS_save_10 : decode c_QS_save 10 = .ok (.aload_n 0, 1) := by decide +kernel
theorem d_QS_save_11 : decode c_QS_save 11 = .ok (.getfield 37, 3) := by decide +kernel
theorem d_QS_save_14 : decode c_QS_save 14 = .ok (.invokevirtual 116, 3) := by decide +kernel
theorem d_QS_save_17 : decode c_QS_save 17 = .ok (.ifCond .ne 5, 3) := by decide +kernel
theorem d_QS_save_20 : decode c_QS_save 20 = .ok (.iconst 0, 1) := by decide +kernel
theorem d_QS_save_21 : decode c_QS_save 21 = .ok (.ireturn, 1) := by decide +kernel
theorem d_QS_save_22 : decode c_QS_save 22 = .ok (.aload_n 0, 1) := by decide +kernel
theorem d_QS_save_23 : decode c_QS_save 23 = .ok (.getfield 64, 3) := by decide +kernel
theorem d_QS_save_26 : decode c_QS_save 26 = .ok (.iload_n 1, 1) := by decide +kernel
theorem d_QS_save_27 : decode c_QS_save 27 = .ok (.aaload, 1) := by decide +kernel
theorem d_QS_save_28 : decode c_QS_save 28 = .ok (.aload_n 0, 1) := by decide +kernel
theorem d_QS_save_29 : decode c_QS_save 29 = .ok (.getfield 37, 3) := by decide +kernel
theorem d_QS_save_32 : decode c_QS_save 32 = .ok (.invokevirtual 148, 3) := by decide +kernel
theorem d_QS_save_35 : decode c_QS_save 35 = .ok (.iconst 1, 1) := by decide +kernel
theorem d_QS_save_36 : decode c_QS_save 36 = .ok (.ireturn, 1) := by decide +kernel
theorem d_QS_run_0 : decode c_QS_run 0 = .ok (.aload_n 0, 1) := by decide +kernel
theorem d_QS_run_1 : decode c_QS_run 1 = .ok (.iload_n 1, 1) := by decide +kernel
theorem d_QS_run_2 : decode c_QS_run 2 = .ok (.invokevirtual 151, 3) := by decide +kernel
theorem d_QS_run_5 : decode c_QS_run 5 = .ok (.ifCond .ne 5, 3) := by decide +kernel
theorem d_QS_run_8 : decode c_QS_run 8 = .ok (.iconst (-1), 1) := by decide +kernel
theorem d_QS_run_9 : decode c_QS_run 9 = .ok (.ireturn, 1) := by decide +kernel
theorem d_QS_run_10 : decode c_QS_run 10 = .ok (.aload_n 0, 1) := by decide +kernel
theorem d_QS_run_11 : decode c_QS_run 11 = .ok (.getfield 72, 3) := by decide +kernel
theorem d_QS_run_14 : decode c_QS_run 14 = .ok (.aload_n 0, 1) := by decide +kernel
theorem d_QS_run_15 : decode c_QS_run 15 = .ok (.getfield 58, 3) := by decide +kernel
theorem d_QS_run_18 : decode c_QS_run 18 = .ok (.aload_n 0, 1) := by decide +kernel
theorem d_QS_run_19 : decode c_QS_run 19 = .ok (.getfield 64, 3) := by decide +kernel
theorem d_QS_run_22 : decode c_QS_run 22 = .ok (.iload_n 1, 1) := by decide +kernel
theorem d_QS_run_23 : decode c_QS_run 23 = .ok (.aaload, 1) := by decide +kernel
theorem d_QS_run_24 : decode c_QS_run 24 = .ok (.iconst 0, 1) := by decide +kernel
theorem d_QS_run_25 : decode c_QS_run 25 = .ok (.invokevirtual 154, 3) := by decide +kernel
theorem d_QS_run_28 : decode c_QS_run 28 = .ok (.ireturn, 1) := by decide +kernel
theorem d_QS_alert_0 : decode c_QS_alert 0 = .ok (.aload_n 0, 1) := by decide +kernel
theorem d_QS_alert_1 : decode c_QS_alert 1 = .ok (.iload_n 1, 1) := by decide +kernel
theorem d_QS_alert_2 : decode c_QS_alert 2 = .ok (.invokevirtual 151, 3) := by decide +kernel
theorem d_QS_alert_5 : decode c_QS_alert 5 = .ok (.ifCond .ne 5, 3) := by decide +kernel
theorem d_QS_alert_8 : decode c_QS_alert 8 = .ok (.iconst (-1), 1) := by decide +kernel
theorem d_QS_alert_9 : decode c_QS_alert 9 = .ok (.ireturn, 1) := by decide +kernel
theorem d_QS_alert_10 : decode c_QS_alert 10 = .ok (.aload_n 0, 1) := by decide +kernel
theorem d_QS_alert_11 : decode c_QS_alert 11 = .ok (.getfield 72, 3) := by decide +kernel
theorem d_QS_alert_14 : decode c_QS_alert 14 = .ok (.aload_n 0, 1) := by decide +kernel
theorem d_QS_alert_15 : decode c_QS_alert 15 = .ok (.getfield 58, 3) := by decide +kernel
theorem d_QS_alert_18 : decode c_QS_alert 18 = .ok (.aload_n 0, 1) := by decide +kernel
theorem d_QS_alert_19 : decode c_QS_alert 19 = .ok (.getfield 64, 3) := by decide +kernel
theorem d_QS_alert_22 : decode c_QS_alert 22 = .ok (.iload_n 1, 1) := by decide +kernel
theorem d_QS_alert_23 : decode c_QS_alert 23 = .ok (.aaload, 1) := by decide +kernel
theorem d_QS_alert_24 : decode c_QS_alert 24 = .ok (.iconst 1, 1) := by decide +kernel
theorem d_QS_alert_25 : decode c_QS_alert 25 = .ok (.invokevirtual 154, 3) := by decide +kernel
theorem d_QS_alert_28 : decode c_QS_alert 28 = .ok (.istore_n 2, 1) := by decide +kernel
theorem d_QS_alert_29 : decode c_QS_alert 29 = .ok (.aload_n 0, 1) := by decide +kernel
theorem d_QS_alert_30 : decode c_QS_alert 30 = .ok (.getfield 58, 3) := by decide +kernel
theorem d_QS_alert_33 : decode c_QS_alert 33 = .ok (.invokevirtual 158, 3) := by decide +kernel
theorem d_QS_alert_36 : decode c_QS_alert 36 = .ok (.ifCond .le 26, 3) := by decide +kernel
theorem d_QS_alert_39 : decode c_QS_alert 39 = .ok (.aload_n 0, 1) := by decide +kernel
theorem d_QS_alert_40 : decode c_QS_alert 40 = .ok (.getfield 64, 3) := by decide +kernel
theorem d_QS_alert_43 : decode c_QS_alert 43 = .ok (.iload_n 1, 1) := by decide +kernel
theorem d_QS_alert_44 : decode c_QS_alert 44 = .ok (.aaload, 1) := by decide +kernel
theorem d_QS_alert_45 : decode c_QS_alert 45 = .ok (.aload_n 0, 1) := by decide +kernel
theorem d_QS_alert_46 : decode c_QS_alert 46 = .ok (.getfield 58, 3) := by decide +kernel
theorem d_QS_alert_49 : decode c_QS_alert 49 = .ok (.aload_n 0, 1) := by decide +kernel
theorem d_QS_alert_50 : decode c_QS_alert 50 = .ok (.getfield 58, 3) := by decide +kernel
theorem d_QS_alert_53 : decode c_QS_alert 53 = .ok (.invokevirtual 158, 3) := by decide +kernel
theorem d_QS_alert_56 : decode c_QS_alert 56 = .ok (.invokevirtual 159, 3) := by decide +kernel
theorem d_QS_alert_59 : decode c_QS_alert 59 = .ok (.invokevirtual 163, 3) := by decide +kernel
theorem d_QS_alert_62 : decode c_QS_alert 62 = .ok (.iload_n 2, 1) := by decide +kernel
theorem d_QS_alert_63 : decode c_QS_alert 63 = .ok (.ireturn, 1) := by decide +kernel
theorem d_QS_at_0 : decode c_QS_at 0 = .ok (.aload_n 0, 1) := by decide +kernel
theorem d_QS_at_1 : decode c_QS_at 1 = .ok (.getfield 72, 3) := by decide +kernel
theorem d_QS_at_4 : decode c_QS_at 4 = .ok (.iload_n 1, 1) := by decide +kernel
theorem d_QS_at_5 : decode c_QS_at 5 = .ok (.invokevirtual 167, 3) := by decide +kernel
theorem d_QS_at_8 : decode c_QS_at 8 = .ok (.ireturn, 1) := by decide +kernel
theorem d_QS_same_0 : decode c_QS_same 0 = .ok (.aload_n 0, 1) := by decide +kernel
theorem d_QS_same_1 : decode c_QS_same 1 = .ok (.iload_n 1, 1) := by decide +kernel
theorem d_QS_same_2 : decode c_QS_same 2 = .ok (.invokevirtual 170, 3) := by decide +kernel
theorem d_QS_same_5 : decode c_QS_same 5 = .ok (.ifCond .eq 39, 3) := by decide +kernel
theorem d_QS_same_8 : decode c_QS_same 8 = .ok (.aload_n 0, 1) := by decide +kernel
theorem d_QS_same_9 : decode c_QS_same 9 = .ok (.iload_n 2, 1) := by decide +kernel
theorem d_QS_same_10 : decode c_QS_same 10 = .ok (.invokevirtual 170, 3) := by decide +kernel
theorem d_QS_same_13 : decode c_QS_same 13 = .ok (.ifCond .eq 31, 3) := by decide +kernel
theorem d_QS_same_16 : decode c_QS_same 16 = .ok (.aload_n 0, 1) := by decide +kernel
theorem d_QS_same_17 : decode c_QS_same 17 = .ok (.getfield 64, 3) := by decide +kernel
theorem d_QS_same_20 : decode c_QS_same 20 = .ok (.iload_n 1, 1) := by decide +kernel
theorem d_QS_same_21 : decode c_QS_same 21 = .ok (.aaload, 1) := by decide +kernel
theorem d_QS_same_22 : decode c_QS_same 22 = .ok (.getfield 173, 3) := by decide +kernel
theorem d_QS_same_25 : decode c_QS_same 25 = .ok (.aload_n 0, 1) := by decide +kernel
theorem d_QS_same_26 : decode c_QS_same 26 = .ok (.getfield 64, 3) := by decide +kernel
theorem d_QS_same_29 : decode c_QS_same 29 = .ok (.iload_n 2, 1) := by decide +kernel
theorem d_QS_same_30 : decode c_QS_same 30 = .ok (.aaload, 1) := by decide +kernel
theorem d_QS_same_31 : decode c_QS_same 31 = .ok (.getfield 173, 3) := by decide +kernel
theorem d_QS_same_34 : decode c_QS_same 34 = .ok (.invokevirtual 174, 3) := by decide +kernel
theorem d_QS_same_37 : decode c_QS_same 37 = .ok (.ifCond .eq 7, 3) := by decide +kernel
theorem d_QS_same_40 : decode c_QS_same 40 = .ok (.iconst 1, 1) := by decide +kernel
theorem d_QS_same_41 : decode c_QS_same 41 = .ok (.goto 4, 3) := by decide +kernel
theorem d_QS_same_44 : decode c_QS_same 44 = .ok (.iconst 0, 1) := by decide +kernel
theorem d_QS_same_45 : decode c_QS_same 45 = .ok (.ireturn, 1) := by decide +kernel
theorem d_QS_broken_0 : decode c_QS_broken 0 = .ok (.iconst 0, 1) := by decide +kernel
theorem d_QS_broken_1 : decode c_QS_broken 1 = .ok (.istore_n 1, 1) := by decide +kernel
theorem d_QS_broken_2 : decode c_QS_broken 2 = .ok (.iconst 0, 1) := by decide +kernel
theorem d_QS_broken_3 : decode c_QS_broken 3 = .ok (.istore_n 2, 1) := by decide +kernel
theorem d_QS_broken_4 : decode c_QS_broken 4 = .ok (.iload_n 2, 1) := by decide +kernel
theorem d_QS_broken_5 : decode c_QS_broken 5 = .ok (.bipush 10, 2) := by decide +kernel
theorem d_QS_broken_7 : decode c_QS_broken 7 = .ok (.if_icmp .ge 39, 3) := by decide +kernel
theorem d_QS_broken_10 : decode c_QS_broken 10 = .ok (.aload_n 0, 1) := by decide +kernel
theorem d_QS_broken_11 : decode c_QS_broken 11 = .ok (.iload_n 2, 1) := by decide +kernel
theorem d_QS_broken_12 : decode c_QS_broken 12 = .ok (.invokevirtual 170, 3) := by decide +kernel
theorem d_QS_broken_15 : decode c_QS_broken 15 = .ok (.ifCond .eq 25, 3) := by decide +kernel
theorem d_QS_broken_18 : decode c_QS_broken 18 = .ok (.aload_n 0, 1) := by decide +kernel
theorem d_QS_broken_19 : decode c_QS_broken 19 = .ok (.getfield 19, 3) := by decide +kernel
theorem d_QS_broken_22 : decode c_QS_broken 22 = .ok (.aload_n 0, 1) := by decide +kernel
theorem d_QS_broken_23 : decode c_QS_broken 23 = .ok (.getfield 64, 3) := by decide +kernel
theorem d_QS_broken_26 : decode c_QS_broken 26 = .ok (.iload_n 2, 1) := by decide +kernel
theorem d_QS_broken_27 : decode c_QS_broken 27 = .ok (.aaload, 1) := by decide +kernel
theorem d_QS_broken_28 : decode c_QS_broken 28 = .ok (.getfield 173, 3) := by decide +kernel
theorem d_QS_broken_31 : decode c_QS_broken 31 = .ok (.invokevirtual 178, 3) := by decide +kernel
theorem d_QS_broken_34 : decode c_QS_broken 34 = .ok (.ifCond .eq 6, 3) := by decide +kernel
theorem d_QS_broken_37 : decode c_QS_broken 37 = .ok (.iinc 1 1, 3) := by decide +kernel
theorem d_QS_broken_40 : decode c_QS_broken 40 = .ok (.iinc 2 1, 3) := by decide +kernel
theorem d_QS_broken_43 : decode c_QS_broken 43 = .ok (.goto (-39), 3) := by decide +kernel
theorem d_QS_broken_46 : decode c_QS_broken 46 = .ok (.iload_n 1, 1) := by decide +kernel
theorem d_QS_broken_47 : decode c_QS_broken 47 = .ok (.ireturn, 1) := by decide +kernel
theorem d_QS_isSaved_0 : decode c_QS_isSaved 0 = .ok (.iload_n 1, 1) := by decide +kernel
theorem d_QS_isSaved_1 : decode c_QS_isSaved 1 = .ok (.ifCond .lt 25, 3) := by decide +kernel
theorem d_QS_isSaved_4 : decode c_QS_isSaved 4 = .ok (.iload_n 1, 1) := by decide +kernel
theorem d_QS_isSaved_5 : decode c_QS_isSaved 5 = .ok (.bipush 10, 2) := by decide +kernel
theorem d_QS_isSaved_7 : decode c_QS_isSaved 7 = .ok (.if_icmp .ge 19, 3) := by decide +kernel
theorem d_QS_isSaved_10 : decode c_QS_isSaved 10 = .ok (.aload_n 0, 1) := by decide +kernel
theorem d_QS_isSaved_11 : decode c_QS_isSaved 11 = .ok (.getfield 64, 3) := by decide +kernel
theorem d_QS_isSaved_14 : decode c_QS_isSaved 14 = .ok (.iload_n 1, 1) := by decide +kernel
theorem d_QS_isSaved_15 : decode c_QS_isSaved 15 = .ok (.aaload, 1) := by decide +kernel
theorem d_QS_isSaved_16 : decode c_QS_isSaved 16 = .ok (.getfield 181, 3) := by decide +kernel
theorem d_QS_isSaved_19 : decode c_QS_isSaved 19 = .ok (.ifCond .eq 7, 3) := by decide +kernel
theorem d_QS_isSaved_22 : decode c_QS_isSaved 22 = .ok (.iconst 1, 1) := by decide +kernel
theorem d_QS_isSaved_23 : decode c_QS_isSaved 23 = .ok (.goto 4, 3) := by decide +kernel
theorem d_QS_isSaved_26 : decode c_QS_isSaved 26 = .ok (.iconst 0, 1) := by decide +kernel
theorem d_QS_isSaved_27 : decode c_QS_isSaved 27 = .ok (.ireturn, 1) := by decide +kernel
theorem d_QS_canRun_0 : decode c_QS_canRun 0 = .ok (.aload_n 0, 1) := by decide +kernel
theorem d_QS_canRun_1 : decode c_QS_canRun 1 = .ok (.iload_n 1, 1) := by decide +kernel
theorem d_QS_canRun_2 : decode c_QS_canRun 2 = .ok (.invokevirtual 170, 3) := by decide +kernel
theorem d_QS_canRun_5 : decode c_QS_canRun 5 = .ok (.ifCond .eq 26, 3) := by decide +kernel
theorem d_QS_canRun_8 : decode c_QS_canRun 8 = .ok (.aload_n 0, 1) := by decide +kernel
theorem d_QS_canRun_9 : decode c_QS_canRun 9 = .ok (.getfield 19, 3) := by decide +kernel
theorem d_QS_canRun_12 : decode c_QS_canRun 12 = .ok (.aload_n 0, 1) := by decide +kernel
theorem d_QS_canRun_13 : decode c_QS_canRun 13 = .ok (.getfield 64, 3) := by decide +kernel
theorem d_QS_canRun_16 : decode c_QS_canRun 16 = .ok (.iload_n 1, 1) := by decide +kernel
theorem d_QS_canRun_17 : decode c_QS_canRun 17 = .ok (.aaload, 1) := by decide +kernel
theorem d_QS_canRun_18 : decode c_QS_canRun 18 = .ok (.getfield 173, 3) := by decide +kernel
theorem d_QS_canRun_21 : decode c_QS_canRun 21 = .ok (.invokevirtual 178, 3) := by decide +kernel
theorem d_QS_canRun_24 : decode c_QS_canRun 24 = .ok (.ifCond .ne 7, 3) := by decide +kernel
theorem d_QS_canRun_27 : decode c_QS_canRun 27 = .ok (.iconst 1, 1) := by decide +kernel
theorem d_QS_canRun_28 : decode c_QS_canRun 28 = .ok (.goto 4, 3) := by decide +kernel
theorem d_QS_canRun_31 : decode c_QS_canRun 31 = .ok (.iconst 0, 1) := by decide +kernel
theorem d_QS_canRun_32 : decode c_QS_canRun 32 = .ok (.ireturn, 1) := by decide +kernel
theorem d_Bt_init_0 : decode c_Bt_init 0 = .ok (.aload_n 0, 1) := by decide +kernel
theorem d_Bt_init_1 : decode c_Bt_init 1 = .ok (.aload_n 1, 1) := by decide +kernel
theorem d_Bt_init_2 : decode c_Bt_init 2 = .ok (.aload_n 2, 1) := by decide +kernel
theorem d_Bt_init_3 : decode c_Bt_init 3 = .ok (.aload_n 3, 1) := by decide +kernel
theorem d_Bt_init_4 : decode c_Bt_init 4 = .ok (.aload 4, 2) := by decide +kernel
theorem d_Bt_init_6 : decode c_Bt_init 6 = .ok (.invokespecial 3, 3) := by decide +kernel
theorem d_Bt_init_9 : decode c_Bt_init 9 = .ok (.return_, 1) := by decide +kernel
theorem d_Bt_takesTree_0 : decode c_Bt_takesTree 0 = .ok (.aload_n 0, 1) := by decide +kernel
theorem d_Bt_takesTree_1 : decode c_Bt_takesTree 1 = .ok (.getfield 9, 3) := by decide +kernel
theorem d_Bt_takesTree_4 : decode c_Bt_takesTree 4 = .ok (.invokevirtual 15, 3) := by decide +kernel
theorem d_Bt_takesTree_7 : decode c_Bt_takesTree 7 = .ok (.istore_n 2, 1) := by decide +kernel
theorem d_Bt_takesTree_8 : decode c_Bt_takesTree 8 = .ok (.iload_n 2, 1) := by decide +kernel
theorem d_Bt_takesTree_9 : decode c_Bt_takesTree 9 = .ok (.istore_n 3, 1) := by decide +kernel
theorem d_Bt_takesTree_10 : decode c_Bt_takesTree 10 = .ok (.aload_n 0, 1) := by decide +kernel
theorem d_Bt_takesTree_11 : decode c_Bt_takesTree 11 = .ok (.iload_n 1, 1) := by decide +kernel
theorem d_Bt_takesTree_12 : decode c_Bt_takesTree 12 = .ok (.invokevirtual 21, 3) := by decide +kernel
theorem d_Bt_takesTree_15 : decode c_Bt_takesTree 15 = .ok (.ifCond .ne 5, 3) := by decide +kernel
theorem d_Bt_takesTree_18 : decode c_Bt_takesTree 18 = .ok (.iconst 0, 1) := by decide +kernel
theorem d_Bt_takesTree_19 : decode c_Bt_takesTree 19 = .ok (.ireturn, 1) := by decide +kernel
theorem d_Bt_takesTree_20 : decode c_Bt_takesTree 20 = .ok (.iconst 0, 1) := by decide +kernel
theorem d_Bt_takesTree_21 : decode c_Bt_takesTree 21 = .ok (.istore 4, 2) := by decide +kernel
theorem d_Bt_takesTree_23 : decode c_Bt_takesTree 23 = .ok (.iload 4, 2) := by decide +kernel
theorem d_Bt_takesTree_25 : decode c_Bt_takesTree 25 = .ok (.sipush 200, 3) := by decide +kernel
theorem d_Bt_takesTree_28 : decode c_Bt_takesTree 28 = .ok (.if_icmp .ge 61, 3) := by decide +kernel
theorem d_Bt_takesTree_31 : decode c_Bt_takesTree 31 = .ok (.aload_n 0, 1) := by decide +kernel
theorem d_Bt_takesTree_32 : decode c_Bt_takesTree 32 = .ok (.getfield 25, 3) := by decide +kernel
theorem d_Bt_takesTree_35 : decode c_Bt_takesTree 35 = .ok (.bipush 32, 2) := by decide +kernel
theorem d_Bt_takesTree_37 : decode c_Bt_takesTree 37 = .ok (.invokevirtual 29, 3) := by decide +kernel
theorem d_Bt_takesTree_40 : decode c_Bt_takesTree 40 = .ok (.ifCond .eq 49, 3) := by decide +kernel
theorem d_Bt_takesTree_43 : decode c_Bt_takesTree 43 = .ok (.aload_n 0, 1) := by decide +kernel
theorem d_Bt_takesTree_44 : decode c_Bt_takesTree 44 = .ok (.iload_n 2, 1) := by decide +kernel
theorem d_Bt_takesTree_45 : decode c_Bt_takesTree 45 = .ok (.iload_n 3, 1) := by decide +kernel
theorem d_Bt_takesTree_46 : decode c_Bt_takesTree 46 = .ok (.invokevirtual 34, 3) := by decide +kernel
theorem d_Bt_takesTree_49 : decode c_Bt_takesTree 49 = .ok (.istore 5, 2) := by decide +kernel
theorem d_Bt_takesTree_51 : decode c_Bt_takesTree 51 = .ok (.iload 5, 2) := by decide +kernel
theorem d_Bt_takesTree_53 : decode c_Bt_takesTree 53 = .ok (.iconst (-1), 1) := by decide +kernel
theorem d_Bt_takesTree_54 : decode c_Bt_takesTree 54 = .ok (.if_icmp .ne 5, 3) := by decide +kernel
theorem d_Bt_takesTree_57 : decode c_Bt_takesTree 57 = .ok (.iconst 0, 1) := by decide +kernel
theorem d_Bt_takesTree_58 : decode c_Bt_takesTree 58 = .ok (.ireturn, 1) := by decide +kernel
theorem d_Bt_takesTree_59 : decode c_Bt_takesTree 59 = .ok (.iload 5, 2) := by decide +kernel
theorem d_Bt_takesTree_61 : decode c_Bt_takesTree 61 = .ok (.iconst 3, 1) := by decide +kernel
theorem d_Bt_takesTree_62 : decode c_Bt_takesTree 62 = .ok (.if_icmp .eq 11, 3) := by decide +kernel
theorem d_Bt_takesTree_65 : decode c_Bt_takesTree 65 = .ok (.aload_n 0, 1) := by decide +kernel
theorem d_Bt_takesTree_66 : decode c_Bt_takesTree 66 = .ok (.getfield 9, 3) := by decide +kernel
theorem d_Bt_takesTree_69 : decode c_Bt_takesTree 69 = .ok (.invokevirtual 15, 3) := by decide +kernel
theorem d_Bt_takesTree_72 : decode c_Bt_takesTree 72 = .ok (.istore_n 3, 1) := by decide +kernel
theorem d_Bt_takesTree_73 : decode c_Bt_takesTree 73 = .ok (.aload_n 0, 1) := by decide +kernel
theorem d_Bt_takesTree_74 : decode c_Bt_takesTree 74 = .ok (.iload_n 1, 1) := by decide +kernel
theorem d_Bt_takesTree_75 : decode c_Bt_takesTree 75 = .ok (.invokevirtual 21, 3) := by decide +kernel
theorem d_Bt_takesTree_78 : decode c_Bt_takesTree 78 = .ok (.ifCond .ne 5, 3) := by decide +kernel
theorem d_Bt_takesTree_81 : decode c_Bt_takesTree 81 = .ok (.iconst 0, 1) := by decide +kernel
theorem d_Bt_takesTree_82 : decode c_Bt_takesTree 82 = .ok (.ireturn, 1) := by decide +kernel
theorem d_Bt_takesTree_83 : decode c_Bt_takesTree 83 = .ok (.iinc 4 1, 3) := by decide +kernel
theorem d_Bt_takesTree_86 : decode c_Bt_takesTree 86 = .ok (.goto (-63), 3) := by decide +kernel
theorem d_Bt_takesTree_89 : decode c_Bt_takesTree 89 = .ok (.iconst 1, 1) := by decide +kernel
theorem d_Bt_takesTree_90 : decode c_Bt_takesTree 90 = .ok (.ireturn, 1) := by decide +kernel
theorem d_Bt_takeJoint_0 : decode c_Bt_takeJoint 0 = .ok (.aload_n 0, 1) := by decide +kernel
theorem d_Bt_takeJoint_1 : decode c_Bt_takeJoint 1 = .ok (.getfield 25, 3) := by decide +kernel
theorem d_Bt_takeJoint_4 : decode c_Bt_takeJoint 4 = .ok (.invokevirtual 38, 3) := by decide +kernel
theorem d_Bt_takeJoint_7 : decode c_Bt_takeJoint 7 = .ok (.istore_n 3, 1) := by decide +kernel
theorem d_Bt_takeJoint_8 : decode c_Bt_takeJoint 8 = .ok (.aload_n 0, 1) := by decide +kernel
theorem d_Bt_takeJoint_9 : decode c_Bt_takeJoint 9 = .ok (.getfield 25, 3) := by decide +kernel
theorem d_Bt_takeJoint_12 : decode c_Bt_takeJoint 12 = .ok (.iload_n 3, 1) := by decide +kernel
theorem d_Bt_takeJoint_13 : decode c_Bt_takeJoint 13 = .ok (.invokevirtual 41, 3) := by decide +kernel
theorem d_Bt_takeJoint_16 : decode c_Bt_takeJoint 16 = .ok (.istore 4, 2) := by decide +kernel
theorem d_Bt_takeJoint_18 : decode c_Bt_takeJoint 18 = .ok (.iload 4, 2) := by decide +kernel
theorem d_Bt_takeJoint_20 : decode c_Bt_takeJoint 20 = .ok (.iconst (-1), 1) := by decide +kernel
theorem d_Bt_takeJoint_21 : decode c_Bt_takeJoint 21 = .ok (.if_icmp .eq 26, 3) := by decide +kernel
theorem d_Bt_takeJoint_24 : decode c_Bt_takeJoint 24 = .ok (.aload_n 0, 1) := by decide +kernel
theorem d_Bt_takeJoint_25 : decode c_Bt_takeJoint 25 = .ok (.getfield 9, 3) := by decide +kernel
theorem d_Bt_takeJoint_28 : decode c_Bt_takeJoint 28 = .ok (.iload 4, 2) := by decide +kernel
theorem d_Bt_takeJoint_30 : decode c_Bt_takeJoint 30 = .ok (.iconst 3, 1) := by decide +kernel
theorem d_Bt_takeJoint_31 : decode c_Bt_takeJoint 31 = .ok (.if_icmp .ne 7, 3) := by decide +kernel
theorem d_Bt_takeJoint_34 : decode c_Bt_takeJoint 34 = .ok (.iload_n 2, 1) := by decide +kernel
theorem d_Bt_takeJoint_35 : decode c_Bt_takeJoint 35 = .ok (.goto 4, 3) := by decide +kernel
theorem d_Bt_takeJoint_38 : decode c_Bt_takeJoint 38 = .ok (.iload_n 1, 1) := by decide +kernel
theorem d_Bt_takeJoint_39 : decode c_Bt_takeJoint 39 = .ok (.iload 4, 2) := by decide +kernel
theorem d_Bt_takeJoint_41 : decode c_Bt_takeJoint 41 = .ok (.invokevirtual 45, 3) := by decide +kernel
theorem d_Bt_takeJoint_44 : decode c_Bt_takeJoint 44 = .ok (.ifCond .ne 5, 3) := by decide +kernel
theorem d_Bt_takeJoint_47 : decode c_Bt_takeJoint 47 = .ok (.iconst (-1), 1) := by decide +kernel
theorem d_Bt_takeJoint_48 : decode c_Bt_takeJoint 48 = .ok (.ireturn, 1) := by decide +kernel
theorem d_Bt_takeJoint_49 : decode c_Bt_takeJoint 49 = .ok (.aload_n 0, 1) := by decide +kernel
theorem d_Bt_takeJoint_50 : decode c_Bt_takeJoint 50 = .ok (.getfield 25, 3) := by decide +kernel
theorem d_Bt_takeJoint_53 : decode c_Bt_takeJoint 53 = .ok (.iload_n 3, 1) := by decide +kernel
theorem d_Bt_takeJoint_54 : decode c_Bt_takeJoint 54 = .ok (.invokevirtual 49, 3) := by decide +kernel
theorem d_Bt_takeJoint_57 : decode c_Bt_takeJoint 57 = .ok (.aload_n 0, 1) := by decide +kernel
theorem d_Bt_takeJoint_58 : decode c_Bt_takeJoint 58 = .ok (.getfield 25, 3) := by decide +kernel
theorem d_Bt_takeJoint_61 : decode c_Bt_takeJoint 61 = .ok (.bipush 32, 2) := by decide +kernel
theorem d_Bt_takeJoint_63 : decode c_Bt_takeJoint 63 = .ok (.invokevirtual 29, 3) := by decide +kernel
theorem d_Bt_takeJoint_66 : decode c_Bt_takeJoint 66 = .ok (.ifCond .eq 8, 3) := by decide +kernel
theorem d_Bt_takeJoint_69 : decode c_Bt_takeJoint 69 = .ok (.iload 4, 2) := by decide +kernel
theorem d_Bt_takeJoint_71 : decode c_Bt_takeJoint 71 = .ok (.goto 4, 3) := by decide +kernel
theorem d_Bt_takeJoint_74 : decode c_Bt_takeJoint 74 = .ok (.iconst (-1), 1) := by decide +kernel
theorem d_Bt_takeJoint_75 : decode c_Bt_takeJoint 75 = .ok (.ireturn, 1) := by decide +kernel
theorem d_Bt_takesTerm_0 : decode c_Bt_takesTerm 0 = .ok (.aload_n 0, 1) := by decide +kernel
theorem d_Bt_takesTerm_1 : decode c_Bt_takesTerm 1 = .ok (.getfield 25, 3) := by decide +kernel
theorem d_Bt_takesTerm_4 : decode c_Bt_takesTerm 4 = .ok (.aload_n 0, 1) := by decide +kernel
theorem d_Bt_takesTerm_5 : decode c_Bt_takesTerm 5 = .ok (.getfield 25, 3) := by decide +kernel
theorem d_Bt_takesTerm_8 : decode c_Bt_takesTerm 8 = .ok (.invokevirtual 53, 3) := by decide +kernel
theorem d_Bt_takesTerm_11 : decode c_Bt_takesTerm 11 = .ok (.invokevirtual 56, 3) := by decide +kernel
theorem d_Bt_takesTerm_14 : decode c_Bt_takesTerm 14 = .ok (.bipush 40, 2) := by decide +kernel
theorem d_Bt_takesTerm_16 : decode c_Bt_takesTerm 16 = .ok (.if_icmp .ne 49, 3) := by decide +kernel
theorem d_Bt_takesTerm_19 : decode c_Bt_takesTerm 19 = .ok (.iload_n 1, 1) := by decide +kernel
theorem d_Bt_takesTerm_20 : decode c_Bt_takesTerm 20 = .ok (.bipush 20, 2) := by decide +kernel
theorem d_Bt_takesTerm_22 : decode c_Bt_takesTerm 22 = .ok (.if_icmp .ge 41, 3) := by decide +kernel
theorem d_Bt_takesTerm_25 : decode c_Bt_takesTerm 25 = .ok (.aload_n 0, 1) := by decide +kernel
theorem d_Bt_takesTerm_26 : decode c_Bt_takesTerm 26 = .ok (.getfield 25, 3) := by decide +kernel
theorem d_Bt_takesTerm_29 : decode c_Bt_takesTerm 29 = .ok (.bipush 40, 2) := by decide +kernel
theorem d_Bt_takesTerm_31 : decode c_Bt_takesTerm 31 = .ok (.invokevirtual 29, 3) := by decide +kernel
theorem d_Bt_takesTerm_34 : decode c_Bt_takesTerm 34 = .ok (.ifCond .eq 29, 3) := by decide +kernel
theorem d_Bt_takesTerm_37 : decode c_Bt_takesTerm 37 = .ok (.aload_n 0, 1) := by decide +kernel
theorem d_Bt_takesTerm_38 : decode c_Bt_takesTerm 38 = .ok (.iload_n 1, 1) := by decide +kernel
theorem d_Bt_takesTerm_39 : decode c_Bt_takesTerm 39 = .ok (.iconst 1, 1) := by decide +kernel
theorem d_Bt_takesTerm_40 : decode c_Bt_takesTerm 40 = .ok (.iadd, 1) := by decide +kernel
theorem d_Bt_takesTerm_41 : decode c_Bt_takesTerm 41 = .ok (.invokevirtual 59, 3) := by decide +kernel
theorem d_Bt_takesTerm_44 : decode c_Bt_takesTerm 44 = .ok (.ifCond .eq 19, 3) := by decide +kernel
theorem d_Bt_takesTerm_47 : decode c_Bt_takesTerm 47 = .ok (.aload_n 0, 1) := by decide +kernel
theorem d_Bt_takesTerm_48 : decode c_Bt_takesTerm 48 = .ok (.getfield 25, 3) := by decide +kernel
theorem d_Bt_takesTerm_51 : decode c_Bt_takesTerm 51 = .ok (.bipush 41, 2) := by decide +kernel
theorem d_Bt_takesTerm_53 : decode c_Bt_takesTerm 53 = .ok (.invokevirtual 29, 3) := by decide +kernel
theorem d_Bt_takesTerm_56 : decode c_Bt_takesTerm 56 = .ok (.ifCond .eq 7, 3) := by decide +kernel
theorem d_Bt_takesTerm_59 : decode c_Bt_takesTerm 59 = .ok (.iconst 1, 1) := by decide +kernel
theorem d_Bt_takesTerm_60 : decode c_Bt_takesTerm 60 = .ok (.goto 4, 3) := by decide +kernel
theorem d_Bt_takesTerm_63 : decode c_Bt_takesTerm 63 = .ok (.iconst 0, 1) := by decide +kernel
theorem d_Bt_takesTerm_64 : decode c_Bt_takesTerm 64 = .ok (.ireturn, 1) := by decide +kernel
theorem d_Bt_takesTerm_65 : decode c_Bt_takesTerm 65 = .ok (.aload_n 0, 1) := by decide +kernel
theorem d_Bt_takesTerm_66 : decode c_Bt_takesTerm 66 = .ok (.invokevirtual 62, 3) := by decide +kernel
theorem d_Bt_takesTerm_69 : decode c_Bt_takesTerm 69 = .ok (.istore_n 2, 1) := by decide +kernel
theorem d_Bt_takesTerm_70 : decode c_Bt_takesTerm 70 = .ok (.iload_n 2, 1) := by decide +kernel
theorem d_Bt_takesTerm_71 : decode c_Bt_takesTerm 71 = .ok (.iconst (-1), 1) := by decide +kernel
theorem d_Bt_takesTerm_72 : decode c_Bt_takesTerm 72 = .ok (.if_icmp .eq 27, 3) := by decide +kernel
theorem d_Bt_takesTerm_75 : decode c_Bt_takesTerm 75 = .ok (.aload_n 0, 1) := by decide +kernel
theorem d_Bt_takesTerm_76 : decode c_Bt_takesTerm 76 = .ok (.getfield 25, 3) := by decide +kernel
theorem d_Bt_takesTerm_79 : decode c_Bt_takesTerm 79 = .ok (.bipush 61, 2) := by decide +kernel
theorem d_Bt_takesTerm_81 : decode c_Bt_takesTerm 81 = .ok (.invokevirtual 29, 3) := by decide +kernel
theorem d_Bt_takesTerm_84 : decode c_Bt_takesTerm 84 = .ok (.ifCond .eq 15, 3) := by decide +kernel
theorem d_Bt_takesTerm_87 : decode c_Bt_takesTerm 87 = .ok (.aload_n 0, 1) := by decide +kernel
theorem d_Bt_takesTerm_88 : decode c_Bt_takesTerm 88 = .ok (.iload_n 2, 1) := by decide +kernel
theorem d_Bt_takesTerm_89 : decode c_Bt_takesTerm 89 = .ok (.invokevirtual 65, 3) := by decide +kernel
theorem d_Bt_takesTerm_92 : decode c_Bt_takesTerm 92 = .ok (.ifCond .eq 7, 3) := by decide +kernel
theorem d_Bt_takesTerm_95 : decode c_Bt_takesTerm 95 = .ok (.iconst 1, 1) := by decide +kernel
theorem d_Bt_takesTerm_96 : decode c_Bt_takesTerm 96 = .ok (.goto 4, 3) := by decide +kernel
theorem d_Bt_takesTerm_99 : decode c_Bt_takesTerm 99 = .ok (.iconst 0, 1) := by decide +kernel
theorem d_Bt_takesTerm_100 : decode c_Bt_takesTerm 100 = .ok (.ireturn, 1) := by decide +kernel
theorem d_Bt_takesValues_0 : decode c_Bt_takesValues 0 = .ok (.aload_n 0, 1) := by decide +kernel
theorem d_Bt_takesValues_1 : decode c_Bt_takesValues 1 = .ok (.getfield 25, 3) := by decide +kernel
theorem d_Bt_takesValues_4 : decode c_Bt_takesValues 4 = .ok (.invokevirtual 68, 3) := by decide +kernel
theorem d_Bt_takesValues_7 : decode c_Bt_takesValues 7 = .ok (.istore_n 2, 1) := by decide +kernel
theorem d_Bt_takesValues_8 : decode c_Bt_takesValues 8 = .ok (.iload_n 2, 1) := by decide +kernel
theorem d_Bt_takesValues_9 : decode c_Bt_takesValues 9 = .ok (.iconst (-1), 1) := by decide +kernel
theorem d_Bt_takesValues_10 : decode c_Bt_takesValues 10 = .ok (.if_icmp .ne 5, 3) := by decide +kernel
theorem d_Bt_takesValues_13 : decode c_Bt_takesValues 13 = .ok (.iconst 0, 1) := by decide +kernel
theorem d_Bt_takesValues_14 : decode c_Bt_takesValues 14 = .ok (.ireturn, 1) := by decide +kernel
theorem d_Bt_takesValues_15 : decode c_Bt_takesValues 15 = .ok (.aload_n 0, 1) := by decide +kernel
theorem d_Bt_takesValues_16 : decode c_Bt_takesValues 16 = .ok (.getfield 25, 3) := by decide +kernel
theorem d_Bt_takesValues_19 : decode c_Bt_takesValues 19 = .ok (.bipush 42, 2) := by decide +kernel
theorem d_Bt_takesValues_21 : decode c_Bt_takesValues 21 = .ok (.invokevirtual 29, 3) := by decide +kernel
theorem d_Bt_takesValues_24 : decode c_Bt_takesValues 24 = .ok (.ifCond .eq 15, 3) := by decide +kernel
theorem d_Bt_takesValues_27 : decode c_Bt_takesValues 27 = .ok (.aload_n 0, 1) := by decide +kernel
theorem d_Bt_takesValues_28 : decode c_Bt_takesValues 28 = .ok (.getfield 9, 3) := by decide +kernel
theorem d_Bt_takesValues_31 : decode c_Bt_takesValues 31 = .ok (.iconst 2, 1) := by decide +kernel
theorem d_Bt_takesValues_32 : decode c_Bt_takesValues 32 = .ok (.iload_n 1, 1) := by decide +kernel
theorem d_Bt_takesValues_33 : decode c_Bt_takesValues 33 = .ok (.iload_n 2, 1) := by decide +kernel
theorem d_Bt_takesValues_34 : decode c_Bt_takesValues 34 = .ok (.iconst (-1), 1) := by decide +kernel
theorem d_Bt_takesValues_35 : decode c_Bt_takesValues 35 = .ok (.invokevirtual 71, 3) := by decide +kernel
theorem d_Bt_takesValues_38 : decode c_Bt_takesValues 38 = .ok (.ireturn, 1) := by decide +kernel
theorem d_Bt_takesValues_39 : decode c_Bt_takesValues 39 = .ok (.aload_n 0, 1) := by decide +kernel
theorem d_Bt_takesValues_40 : decode c_Bt_takesValues 40 = .ok (.getfield 25, 3) := by decide +kernel
theorem d_Bt_takesValues_43 : decode c_Bt_takesValues 43 = .ok (.bipush 46, 2) := by decide +kernel
theorem d_Bt_takesValues_45 : decode c_Bt_takesValues 45 = .ok (.invokevirtual 29, 3) := by decide +kernel
theorem d_Bt_takesValues_48 : decode c_Bt_takesValues 48 = .ok (.ifCond .eq 30, 3) := by decide +kernel
theorem d_Bt_takesValues_51 : decode c_Bt_takesValues 51 = .ok (.aload_n 0, 1) := by decide +kernel
theorem d_Bt_takesValues_52 : decode c_Bt_takesValues 52 = .ok (.getfield 25, 3) := by decide +kernel
theorem d_Bt_takesValues_55 : decode c_Bt_takesValues 55 = .ok (.bipush 46, 2) := by decide +kernel
theorem d_Bt_takesValues_57 : decode c_Bt_takesValues 57 = .ok (.invokevirtual 29, 3) := by decide +kernel
theorem d_Bt_takesValues_60 : decode c_Bt_takesValues 60 = .ok (.ifCond .eq 16, 3) := by decide +kernel
theorem d_Bt_takesValues_63 : decode c_Bt_takesValues 63 = .ok (.aload_n 0, 1) := by decide +kernel
theorem d_Bt_takesValues_64 : decode c_Bt_takesValues 64 = .ok (.iload_n 1, 1) := by decide +kernel
theorem d_Bt_takesValues_65 : decode c_Bt_takesValues 65 = .ok (.iload_n 2, 1) := by decide +kernel
theorem d_Bt_takesValues_66 : decode c_Bt_takesValues 66 = .ok (.invokevirtual 75, 3) := by decide +kernel
theorem d_Bt_takesValues_69 : decode c_Bt_takesValues 69 = .ok (.ifCond .eq 7, 3) := by decide +kernel
theorem d_Bt_takesValues_72 : decode c_Bt_takesValues 72 = .ok (.iconst 1, 1) := by decide +kernel
theorem d_Bt_takesValues_73 : decode c_Bt_takesValues 73 = .ok (.goto 4, 3) := by decide +kernel
theorem d_Bt_takesValues_76 : decode c_Bt_takesValues 76 = .ok (.iconst 0, 1) := by decide +kernel
theorem d_Bt_takesValues_77 : decode c_Bt_takesValues 77 = .ok (.ireturn, 1) := by decide +kernel
theorem d_Bt_takesValues_78 : decode c_Bt_takesValues 78 = .ok (.aload_n 0, 1) := by decide +kernel
theorem d_Bt_takesValues_79 : decode c_Bt_takesValues 79 = .ok (.getfield 9, 3) := by decide +kernel
theorem d_Bt_takesValues_82 : decode c_Bt_takesValues 82 = .ok (.iconst 0, 1) := by decide +kernel
theorem d_Bt_takesValues_83 : decode c_Bt_takesValues 83 = .ok (.iload_n 1, 1) := by decide +kernel
theorem d_Bt_takesValues_84 : decode c_Bt_takesValues 84 = .ok (.iload_n 2, 1) := by decide +kernel
theorem d_Bt_takesValues_85 : decode c_Bt_takesValues 85 = .ok (.iconst (-1), 1) := by decide +kernel
theorem d_Bt_takesValues_86 : decode c_Bt_takesValues 86 = .ok (.invokevirtual 71, 3) := by decide +kernel
theorem d_Bt_takesValues_89 : decode c_Bt_takesValues 89 = .ok (.ireturn, 1) := by decide +kernel
theorem d_Fr_init_0 : decode c_Fr_init 0 = .ok (.aload_n 0, 1) := by decide +kernel
theorem d_Fr_init_1 : decode c_Fr_init 1 = .ok (.aload_n 1, 1) := by decide +kernel
theorem d_Fr_init_2 : decode c_Fr_init 2 = .ok (.aload_n 2, 1) := by decide +kernel
theorem d_Fr_init_3 : decode c_Fr_init 3 = .ok (.aload_n 3, 1) := by decide +kernel
theorem d_Fr_init_4 : decode c_Fr_init 4 = .ok (.aload 4, 2) := by decide +kernel
theorem d_Fr_init_6 : decode c_Fr_init 6 = .ok (.invokespecial 3, 3) := by decide +kernel
theorem d_Fr_init_9 : decode c_Fr_init 9 = .ok (.return_, 1) := by decide +kernel
theorem d_Fr_takesTree_0 : decode c_Fr_takesTree 0 = .ok (.aload_n 0, 1) := by decide +kernel
theorem d_Fr_takesTree_1 : decode c_Fr_takesTree 1 = .ok (.getfield 9, 3) := by decide +kernel
theorem d_Fr_takesTree_4 : decode c_Fr_takesTree 4 = .ok (.invokevirtual 15, 3) := by decide +kernel
theorem d_Fr_takesTree_7 : decode c_Fr_takesTree 7 = .ok (.istore_n 2, 1) := by decide +kernel
theorem d_Fr_takesTree_8 : decode c_Fr_takesTree 8 = .ok (.aload_n 0, 1) := by decide +kernel
theorem d_Fr_takesTree_9 : decode c_Fr_takesTree 9 = .ok (.getfield 9, 3) := by decide +kernel
theorem d_Fr_takesTree_12 : decode c_Fr_takesTree 12 = .ok (.iload_n 2, 1) := by decide +kernel
theorem d_Fr_takesTree_13 : decode c_Fr_takesTree 13 = .ok (.invokevirtual 21, 3) := by decide +kernel
theorem d_Fr_takesTree_16 : decode c_Fr_takesTree 16 = .ok (.istore_n 3, 1) := by decide +kernel
theorem d_Fr_takesTree_17 : decode c_Fr_takesTree 17 = .ok (.iload_n 3, 1) := by decide +kernel
theorem d_Fr_takesTree_18 : decode c_Fr_takesTree 18 = .ok (.iconst (-1), 1) := by decide +kernel
theorem d_Fr_takesTree_19 : decode c_Fr_takesTree 19 = .ok (.if_icmp .ne 9, 3) := by decide +kernel
theorem d_Fr_takesTree_22 : decode c_Fr_takesTree 22 = .ok (.aload_n 0, 1) := by decide +kernel
theorem d_Fr_takesTree_23 : decode c_Fr_takesTree 23 = .ok (.iload_n 1, 1) := by decide +kernel
theorem d_Fr_takesTree_24 : decode c_Fr_takesTree 24 = .ok (.invokevirtual 25, 3) := by decide +kernel
theorem d_Fr_takesTree_27 : decode c_Fr_takesTree 27 = .ok (.ireturn, 1) := by decide +kernel
theorem d_Fr_takesTree_28 : decode c_Fr_takesTree 28 = .ok (.aload_n 0, 1) := by decide +kernel
theorem d_Fr_takesTree_29 : decode c_Fr_takesTree 29 = .ok (.getfield 29, 3) := by decide +kernel
theorem d_Fr_takesTree_32 : decode c_Fr_takesTree 32 = .ok (.iload_n 3, 1) := by decide +kernel
theorem d_Fr_takesTree_33 : decode c_Fr_takesTree 33 = .ok (.iconst (-1), 1) := by decide +kernel
theorem d_Fr_takesTree_34 : decode c_Fr_takesTree 34 = .ok (.iconst (-1), 1) := by decide +kernel
theorem d_Fr_takesTree_35 : decode c_Fr_takesTree 35 = .ok (.iconst (-1), 1) := by decide +kernel
theorem d_Fr_takesTree_36 : decode c_Fr_takesTree 36 = .ok (.invokevirtual 33, 3) := by decide +kernel
theorem d_Fr_takesTree_39 : decode c_Fr_takesTree 39 = .ok (.ifCond .ne 5, 3) := by decide +kernel
theorem d_Fr_takesTree_42 : decode c_Fr_takesTree 42 = .ok (.iconst 0, 1) := by decide +kernel
theorem d_Fr_takesTree_43 : decode c_Fr_takesTree 43 = .ok (.ireturn, 1) := by decide +kernel
theorem d_Fr_takesTree_44 : decode c_Fr_takesTree 44 = .ok (.aload_n 0, 1) := by decide +kernel
theorem d_Fr_takesTree_45 : decode c_Fr_takesTree 45 = .ok (.getfield 9, 3) := by decide +kernel
theorem d_Fr_takesTree_48 : decode c_Fr_takesTree 48 = .ok (.iload_n 2, 1) := by decide +kernel
theorem d_Fr_takesTree_49 : decode c_Fr_takesTree 49 = .ok (.invokevirtual 39, 3) := by decide +kernel
theorem d_Fr_takesTree_52 : decode c_Fr_takesTree 52 = .ok (.aload_n 0, 1) := by decide +kernel
theorem d_Fr_takesTree_53 : decode c_Fr_takesTree 53 = .ok (.iload_n 1, 1) := by decide +kernel
theorem d_Fr_takesTree_54 : decode c_Fr_takesTree 54 = .ok (.invokevirtual 43, 3) := by decide +kernel
theorem d_Fr_takesTree_57 : decode c_Fr_takesTree 57 = .ok (.ifCond .eq 15, 3) := by decide +kernel
theorem d_Fr_takesTree_60 : decode c_Fr_takesTree 60 = .ok (.aload_n 0, 1) := by decide +kernel
theorem d_Fr_takesTree_61 : decode c_Fr_takesTree 61 = .ok (.iload_n 1, 1) := by decide +kernel
theorem d_Fr_takesTree_62 : decode c_Fr_takesTree 62 = .ok (.invokevirtual 43, 3) := by decide +kernel
theorem d_Fr_takesTree_65 : decode c_Fr_takesTree 65 = .ok (.ifCond .eq 7, 3) := by decide +kernel
theorem d_Fr_takesTree_68 : decode c_Fr_takesTree 68 = .ok (.iconst 1, 1) := by decide +kernel
theorem d_Fr_takesTree_69 : decode c_Fr_takesTree 69 = .ok (.goto 4, 3) := by decide +kernel
theorem d_Fr_takesTree_72 : decode c_Fr_takesTree 72 = .ok (.iconst 0, 1) := by decide +kernel
theorem d_Fr_takesTree_73 : decode c_Fr_takesTree 73 = .ok (.ireturn, 1) := by decide +kernel
theorem d_Fr_takesBranch_0 : decode c_Fr_takesBranch 0 = .ok (.aload_n 0, 1) := by decide +kernel
theorem d_Fr_takesBranch_1 : decode c_Fr_takesBranch 1 = .ok (.getfield 9, 3) := by decide +kernel
theorem d_Fr_takesBranch_4 : decode c_Fr_takesBranch 4 = .ok (.bipush 32, 2) := by decide +kernel
theorem d_Fr_takesBranch_6 : decode c_Fr_takesBranch 6 = .ok (.invokevirtual 46, 3) := by decide +kernel
theorem d_Fr_takesBranch_9 : decode c_Fr_takesBranch 9 = .ok (.ifCond .eq 71, 3) := by decide +kernel
theorem d_Fr_takesBranch_12 : decode c_Fr_takesBranch 12 = .ok (.iload_n 1, 1) := by decide +kernel
theorem d_Fr_takesBranch_13 : decode c_Fr_takesBranch 13 = .ok (.bipush 20, 2) := by decide +kernel
theorem d_Fr_takesBranch_15 : decode c_Fr_takesBranch 15 = .ok (.if_icmp .ge 65, 3) := by decide +kernel
theorem d_Fr_takesBranch_18 : decode c_Fr_takesBranch 18 = .ok (.aload_n 0, 1) := by decide +kernel
theorem d_Fr_takesBranch_19 : decode c_Fr_takesBranch 19 = .ok (.getfield 9, 3) := by decide +kernel
theorem d_Fr_takesBranch_22 : decode c_Fr_takesBranch 22 = .ok (.bipush 40, 2) := by decide +kernel
theorem d_Fr_takesBranch_24 : decode c_Fr_takesBranch 24 = .ok (.invokevirtual 46, 3) := by decide +kernel
theorem d_Fr_takesBranch_27 : decode c_Fr_takesBranch 27 = .ok (.ifCond .eq 53, 3) := by decide +kernel
theorem d_Fr_takesBranch_30 : decode c_Fr_takesBranch 30 = .ok (.aload_n 0, 1) := by decide +kernel
theorem d_Fr_takesBranch_31 : decode c_Fr_takesBranch 31 = .ok (.getfield 9, 3) := by decide +kernel
theorem d_Fr_takesBranch_34 : decode c_Fr_takesBranch 34 = .ok (.bipush 32, 2) := by decide +kernel
theorem d_Fr_takesBranch_36 : decode c_Fr_takesBranch 36 = .ok (.invokevirtual 46, 3) := by decide +kernel
theorem d_Fr_takesBranch_39 : decode c_Fr_takesBranch 39 = .ok (.ifCond .eq 41, 3) := by decide +kernel
theorem d_Fr_takesBranch_42 : decode c_Fr_takesBranch 42 = .ok (.aload_n 0, 1) := by decide +kernel
theorem d_Fr_takesBranch_43 : decode c_Fr_takesBranch 43 = .ok (.iload_n 1, 1) := by decide +kernel
theorem d_Fr_takesBranch_44 : decode c_Fr_takesBranch 44 = .ok (.iconst 1, 1) := by decide +kernel
theorem d_Fr_takesBranch_45 : decode c_Fr_takesBranch 45 = .ok (.iadd, 1) := by decide +kernel
theorem d_Fr_takesBranch_46 : decode c_Fr_takesBranch 46 = .ok (.invokevirtual 49, 3) := by decide +kernel
theorem d_Fr_takesBranch_49 : decode c_Fr_takesBranch 49 = .ok (.ifCond .eq 31, 3) := by decide +kernel
theorem d_Fr_takesBranch_52 : decode c_Fr_takesBranch 52 = .ok (.aload_n 0, 1) := by decide +kernel
theorem d_Fr_takesBranch_53 : decode c_Fr_takesBranch 53 = .ok (.getfield 9, 3) := by decide +kernel
theorem d_Fr_takesBranch_56 : decode c_Fr_takesBranch 56 = .ok (.bipush 32, 2) := by decide +kernel
theorem d_Fr_takesBranch_58 : decode c_Fr_takesBranch 58 = .ok (.invokevirtual 46, 3) := by decide +kernel
theorem d_Fr_takesBranch_61 : decode c_Fr_takesBranch 61 = .ok (.ifCond .eq 19, 3) := by decide +kernel
theorem d_Fr_takesBranch_64 : decode c_Fr_takesBranch 64 = .ok (.aload_n 0, 1) := by decide +kernel
theorem d_Fr_takesBranch_65 : decode c_Fr_takesBranch 65 = .ok (.getfield 9, 3) := by decide +kernel
theorem d_Fr_takesBranch_68 : decode c_Fr_takesBranch 68 = .ok (.bipush 41, 2) := by decide +kernel
theorem d_Fr_takesBranch_70 : decode c_Fr_takesBranch 70 = .ok (.invokevirtual 46, 3) := by decide +kernel
theorem d_Fr_takesBranch_73 : decode c_Fr_takesBranch 73 = .ok (.ifCond .eq 7, 3) := by decide +kernel
theorem d_Fr_takesBranch_76 : decode c_Fr_takesBranch 76 = .ok (.iconst 1, 1) := by decide +kernel
theorem d_Fr_takesBranch_77 : decode c_Fr_takesBranch 77 = .ok (.goto 4, 3) := by decide +kernel
theorem d_Fr_takesBranch_80 : decode c_Fr_takesBranch 80 = .ok (.iconst 0, 1) := by decide +kernel
theorem d_Fr_takesBranch_81 : decode c_Fr_takesBranch 81 = .ok (.ireturn, 1) := by decide +kernel
theorem d_Fr_takesLeaf_0 : decode c_Fr_takesLeaf 0 = .ok (.aload_n 0, 1) := by decide +kernel
theorem d_Fr_takesLeaf_1 : decode c_Fr_takesLeaf 1 = .ok (.invokevirtual 52, 3) := by decide +kernel
theorem d_Fr_takesLeaf_4 : decode c_Fr_takesLeaf 4 = .ok (.istore_n 2, 1) := by decide +kernel
theorem d_Fr_takesLeaf_5 : decode c_Fr_takesLeaf 5 = .ok (.iload_n 2, 1) := by decide +kernel
theorem d_Fr_takesLeaf_6 : decode c_Fr_takesLeaf 6 = .ok (.iconst (-1), 1) := by decide +kernel
theorem d_Fr_takesLeaf_7 : decode c_Fr_takesLeaf 7 = .ok (.if_icmp .eq 15, 3) := by decide +kernel
theorem d_Fr_takesLeaf_10 : decode c_Fr_takesLeaf 10 = .ok (.aload_n 0, 1) := by decide +kernel
theorem d_Fr_takesLeaf_11 : decode c_Fr_takesLeaf 11 = .ok (.getfield 9, 3) := by decide +kernel
theorem d_Fr_takesLeaf_14 : decode c_Fr_takesLeaf 14 = .ok (.bipush 32, 2) := by decide +kernel
theorem d_Fr_takesLeaf_16 : decode c_Fr_takesLeaf 16 = .ok (.invokevirtual 46, 3) := by decide +kernel
theorem d_Fr_takesLeaf_19 : decode c_Fr_takesLeaf 19 = .ok (.ifCond .ne 5, 3) := by decide +kernel
theorem d_Fr_takesLeaf_22 : decode c_Fr_takesLeaf 22 = .ok (.iconst 0, 1) := by decide +kernel
theorem d_Fr_takesLeaf_23 : decode c_Fr_takesLeaf 23 = .ok (.ireturn, 1) := by decide +kernel
theorem d_Fr_takesLeaf_24 : decode c_Fr_takesLeaf 24 = .ok (.aload_n 0, 1) := by decide +kernel
theorem d_Fr_takesLeaf_25 : decode c_Fr_takesLeaf 25 = .ok (.getfield 9, 3) := by decide +kernel
theorem d_Fr_takesLeaf_28 : decode c_Fr_takesLeaf 28 = .ok (.invokevirtual 55, 3) := by decide +kernel
theorem d_Fr_takesLeaf_31 : decode c_Fr_takesLeaf 31 = .ok (.istore_n 3, 1) := by decide +kernel
theorem d_Fr_takesLeaf_32 : decode c_Fr_takesLeaf 32 = .ok (.iload_n 3, 1) := by decide +kernel
theorem d_Fr_takesLeaf_33 : decode c_Fr_takesLeaf 33 = .ok (.iconst (-1), 1) := by decide +kernel
theorem d_Fr_takesLeaf_34 : decode c_Fr_takesLeaf 34 = .ok (.if_icmp .ne 5, 3) := by decide +kernel
theorem d_Fr_takesLeaf_37 : decode c_Fr_takesLeaf 37 = .ok (.iconst 0, 1) := by decide +kernel
theorem d_Fr_takesLeaf_38 : decode c_Fr_takesLeaf 38 = .ok (.ireturn, 1) := by decide +kernel
theorem d_Fr_takesLeaf_39 : decode c_Fr_takesLeaf 39 = .ok (.iload_n 1, 1) := by decide +kernel
theorem d_Fr_takesLeaf_40 : decode c_Fr_takesLeaf 40 = .ok (.ifCond .le 28, 3) := by decide +kernel
theorem d_Fr_takesLeaf_43 : decode c_Fr_takesLeaf 43 = .ok (.aload_n 0, 1) := by decide +kernel
theorem d_Fr_takesLeaf_44 : decode c_Fr_takesLeaf 44 = .ok (.getfield 9, 3) := by decide +kernel
theorem d_Fr_takesLeaf_47 : decode c_Fr_takesLeaf 47 = .ok (.aload_n 0, 1) := by decide +kernel
theorem d_Fr_takesLeaf_48 : decode c_Fr_takesLeaf 48 = .ok (.getfield 9, 3) := by decide +kernel
theorem d_Fr_takesLeaf_51 : decode c_Fr_takesLeaf 51 = .ok (.invokevirtual 58, 3) := by decide +kernel
theorem d_Fr_takesLeaf_54 : decode c_Fr_takesLeaf 54 = .ok (.iconst 1, 1) := by decide +kernel
theorem d_Fr_takesLeaf_55 : decode c_Fr_takesLeaf 55 = .ok (.iadd, 1) := by decide +kernel
theorem d_Fr_takesLeaf_56 : decode c_Fr_takesLeaf 56 = .ok (.invokevirtual 61, 3) := by decide +kernel
theorem d_Fr_takesLeaf_59 : decode c_Fr_takesLeaf 59 = .ok (.bipush 41, 2) := by decide +kernel
theorem d_Fr_takesLeaf_61 : decode c_Fr_takesLeaf 61 = .ok (.if_icmp .ne 7, 3) := by decide +kernel
theorem d_Fr_takesLeaf_64 : decode c_Fr_takesLeaf 64 = .ok (.iconst 1, 1) := by decide +kernel
theorem d_Fr_takesLeaf_65 : decode c_Fr_takesLeaf 65 = .ok (.goto 4, 3) := by decide +kernel
theorem d_Fr_takesLeaf_68 : decode c_Fr_takesLeaf 68 = .ok (.iconst 0, 1) := by decide +kernel
theorem d_Fr_takesLeaf_69 : decode c_Fr_takesLeaf 69 = .ok (.istore 4, 2) := by decide +kernel
theorem d_Fr_takesLeaf_71 : decode c_Fr_takesLeaf 71 = .ok (.iload 4, 2) := by decide +kernel
theorem d_Fr_takesLeaf_73 : decode c_Fr_takesLeaf 73 = .ok (.ifCond .ne 15, 3) := by decide +kernel
theorem d_Fr_takesLeaf_76 : decode c_Fr_takesLeaf 76 = .ok (.aload_n 0, 1) := by decide +kernel
theorem d_Fr_takesLeaf_77 : decode c_Fr_takesLeaf 77 = .ok (.getfield 9, 3) := by decide +kernel
theorem d_Fr_takesLeaf_80 : decode c_Fr_takesLeaf 80 = .ok (.bipush 32, 2) := by decide +kernel
theorem d_Fr_takesLeaf_82 : decode c_Fr_takesLeaf 82 = .ok (.invokevirtual 46, 3) := by decide +kernel
theorem d_Fr_takesLeaf_85 : decode c_Fr_takesLeaf 85 = .ok (.ifCond .ne 15, 3) := by decide +kernel
theorem d_Fr_takesLeaf_88 : decode c_Fr_takesLeaf 88 = .ok (.aload_n 0, 1) := by decide +kernel
theorem d_Fr_takesLeaf_89 : decode c_Fr_takesLeaf 89 = .ok (.getfield 29, 3) := by decide +kernel
theorem d_Fr_takesLeaf_92 : decode c_Fr_takesLeaf 92 = .ok (.iconst 0, 1) := by decide +kernel
theorem d_Fr_takesLeaf_93 : decode c_Fr_takesLeaf 93 = .ok (.iload_n 2, 1) := by decide +kernel
theorem d_Fr_takesLeaf_94 : decode c_Fr_takesLeaf 94 = .ok (.iload_n 3, 1) := by decide +kernel
theorem d_Fr_takesLeaf_95 : decode c_Fr_takesLeaf 95 = .ok (.iconst (-1), 1) := by decide +kernel
theorem d_Fr_takesLeaf_96 : decode c_Fr_takesLeaf 96 = .ok (.invokevirtual 33, 3) := by decide +kernel
theorem d_Fr_takesLeaf_99 : decode c_Fr_takesLeaf 99 = .ok (.ireturn, 1) := by decide +kernel
theorem d_Fr_takesLeaf_100 : decode c_Fr_takesLeaf 100 = .ok (.aload_n 0, 1) := by decide +kernel
theorem d_Fr_takesLeaf_101 : decode c_Fr_takesLeaf 101 = .ok (.getfield 9, 3) := by decide +kernel
theorem d_Fr_takesLeaf_104 : decode c_Fr_takesLeaf 104 = .ok (.bipush 42, 2) := by decide +kernel
theorem d_Fr_takesLeaf_106 : decode c_Fr_takesLeaf 106 = .ok (.invokevirtual 46, 3) := by decide +kernel
theorem d_Fr_takesLeaf_109 : decode c_Fr_takesLeaf 109 = .ok (.ifCond .eq 15, 3) := by decide +kernel
theorem d_Fr_takesLeaf_112 : decode c_Fr_takesLeaf 112 = .ok (.aload_n 0, 1) := by decide +kernel
theorem d_Fr_takesLeaf_113 : decode c_Fr_takesLeaf 113 = .ok (.getfield 29, 3) := by decide +kernel
theorem d_Fr_takesLeaf_116 : decode c_Fr_takesLeaf 116 = .ok (.iconst 2, 1) := by decide +kernel
theorem d_Fr_takesLeaf_117 : decode c_Fr_takesLeaf 117 = .ok (.iload_n 2, 1) := by decide +kernel
theorem d_Fr_takesLeaf_118 : decode c_Fr_takesLeaf 118 = .ok (.iload_n 3, 1) := by decide +kernel
theorem d_Fr_takesLeaf_119 : decode c_Fr_takesLeaf 119 = .ok (.iconst (-1), 1) := by decide +kernel
theorem d_Fr_takesLeaf_120 : decode c_Fr_takesLeaf 120 = .ok (.invokevirtual 33, 3) := by decide +kernel
theorem d_Fr_takesLeaf_123 : decode c_Fr_takesLeaf 123 = .ok (.ireturn, 1) := by decide +kernel
theorem d_Fr_takesLeaf_124 : decode c_Fr_takesLeaf 124 = .ok (.aload_n 0, 1) := by decide +kernel
theorem d_Fr_takesLeaf_125 : decode c_Fr_takesLeaf 125 = .ok (.iload_n 2, 1) := by decide +kernel
theorem d_Fr_takesLeaf_126 : decode c_Fr_takesLeaf 126 = .ok (.iload_n 3, 1) := by decide +kernel
theorem d_Fr_takesLeaf_127 : decode c_Fr_takesLeaf 127 = .ok (.invokevirtual 64, 3) := by decide +kernel
theorem d_Fr_takesLeaf_130 : decode c_Fr_takesLeaf 130 = .ok (.ireturn, 1) := by decide +kernel
theorem d_Ix_init_0 : decode c_Ix_init 0 = .ok (.aload_n 0, 1) := by decide +kernel
theorem d_Ix_init_1 : decode c_Ix_init 1 = .ok (.invokespecial 3, 3) := by decide +kernel
theorem d_Ix_init_4 : decode c_Ix_init 4 = .ok (.aload_n 0, 1) := by decide +kernel
theorem d_Ix_init_5 : decode c_Ix_init 5 = .ok (.bipush 64, 2) := by decide +kernel
theorem d_Ix_init_7 : decode c_Ix_init 7 = .ok (.newarray .int, 2) := by decide +kernel
theorem d_Ix_init_9 : decode c_Ix_init 9 = .ok (.putfield 9, 3) := by decide +kernel
theorem d_Ix_init_12 : decode c_Ix_init 12 = .ok (.aload_n 0, 1) := by decide +kernel
theorem d_Ix_init_13 : decode c_Ix_init 13 = .ok (.bipush 8, 2) := by decide +kernel
theorem d_Ix_init_15 : decode c_Ix_init 15 = .ok (.newarray .int, 2) := by decide +kernel
theorem d_Ix_init_17 : decode c_Ix_init 17 = .ok (.putfield 15, 3) := by decide +kernel
theorem d_Ix_init_20 : decode c_Ix_init 20 = .ok (.aload_n 0, 1) := by decide +kernel
theorem d_Ix_init_21 : decode c_Ix_init 21 = .ok (.bipush 8, 2) := by decide +kernel
theorem d_Ix_init_23 : decode c_Ix_init 23 = .ok (.newarray .boolean, 2) := by decide +kernel
theorem d_Ix_init_25 : decode c_Ix_init 25 = .ok (.putfield 18, 3) := by decide +kernel
theorem d_Ix_init_28 : decode c_Ix_init 28 = .ok (.aload_n 0, 1) := by decide +kernel
theorem d_Ix_init_29 : decode c_Ix_init 29 = .ok (.bipush 9, 2) := by decide +kernel
theorem d_Ix_init_31 : decode c_Ix_init 31 = .ok (.newarray .int, 2) := by decide +kernel
theorem d_Ix_init_33 : decode c_Ix_init 33 = .ok (.putfield 22, 3) := by decide +kernel
theorem d_Ix_init_36 : decode c_Ix_init 36 = .ok (.aload_n 0, 1) := by decide +kernel
theorem d_Ix_init_37 : decode c_Ix_init 37 = .ok (.iconst 0, 1) := by decide +kernel
theorem d_Ix_init_38 : decode c_Ix_init 38 = .ok (.putfield 25, 3) := by decide +kernel
theorem d_Ix_init_41 : decode c_Ix_init 41 = .ok (.return_, 1) := by decide +kernel
theorem d_Ix_has_0 : decode c_Ix_has 0 = .ok (.iload_n 1, 1) := by decide +kernel
theorem d_Ix_has_1 : decode c_Ix_has 1 = .ok (.ifCond .lt 21, 3) := by decide +kernel
theorem d_Ix_has_4 : decode c_Ix_has 4 = .ok (.iload_n 1, 1) := by decide +kernel
theorem d_Ix_has_5 : decode c_Ix_has 5 = .ok (.aload_n 0, 1) := by decide +kernel
theorem d_Ix_has_6 : decode c_Ix_has 6 = .ok (.getfield 25, 3) := by decide +kernel
theorem d_Ix_has_9 : decode c_Ix_has 9 = .ok (.if_icmp .ge 13, 3) := by decide +kernel
theorem d_Ix_has_12 : decode c_Ix_has 12 = .ok (.iload_n 1, 1) := by decide +kernel
theorem d_Ix_has_13 : decode c_Ix_has 13 = .ok (.bipush 8, 2) := by decide +kernel
theorem d_Ix_has_15 : decode c_Ix_has 15 = .ok (.if_icmp .ge 7, 3) := by decide +kernel
theorem d_Ix_has_18 : decode c_Ix_has 18 = .ok (.iconst 1, 1) := by decide +kernel
theorem d_Ix_has_19 : decode c_Ix_has 19 = .ok (.goto 4, 3) := by decide +kernel
theorem d_Ix_has_22 : decode c_Ix_has 22 = .ok (.iconst 0, 1) := by decide +kernel
theorem d_Ix_has_23 : decode c_Ix_has 23 = .ok (.ireturn, 1) := by decide +kernel
theorem d_Ix_turn_0 : decode c_Ix_turn 0 = .ok (.aload_n 0, 1) := by decide +kernel
theorem d_Ix_turn_1 : decode c_Ix_turn 1 = .ok (.iload_n 1, 1) := by decide +kernel
theorem d_Ix_turn_2 : decode c_Ix_turn 2 = .ok (.invokevirtual 29, 3) := by decide +kernel
theorem d_Ix_turn_5 : decode c_Ix_turn 5 = .ok (.ifCond .ne 5, 3) := by decide +kernel
theorem d_Ix_turn_8 : decode c_Ix_turn 8 = .ok (.iconst 0, 1) := by decide +kernel
theorem d_Ix_turn_9 : decode c_Ix_turn 9 = .ok (.ireturn, 1) := by decide +kernel
theorem d_Ix_turn_10 : decode c_Ix_turn 10 = .ok (.aload_n 0, 1) := by decide +kernel
theorem d_Ix_turn_11 : decode c_Ix_turn 11 = .ok (.getfield 18, 3) := by decide +kernel
theorem d_Ix_turn_14 : decode c_Ix_turn 14 = .ok (.iload_n 1, 1) := by decide +kernel
theorem d_Ix_turn_15 : decode c_Ix_turn 15 = .ok (.baload, 1) := by decide +kernel
theorem d_Ix_turn_16 : decode c_Ix_turn 16 = .ok (.istore_n 3, 1) := by decide +kernel
theorem d_Ix_turn_17 : decode c_Ix_turn 17 = .ok (.aload_n 0, 1) := by decide +kernel
theorem d_Ix_turn_18 : decode c_Ix_turn 18 = .ok (.getfield 18, 3) := by decide +kernel
theorem d_Ix_turn_21 : decode c_Ix_turn 21 = .ok (.iload_n 1, 1) := by decide +kernel
theorem d_Ix_turn_22 : decode c_Ix_turn 22 = .ok (.iload_n 2, 1) := by decide +kernel
theorem d_Ix_turn_23 : decode c_Ix_turn 23 = .ok (.bastore, 1) := by decide +kernel
theorem d_Ix_turn_24 : decode c_Ix_turn 24 = .ok (.iload_n 3, 1) := by decide +kernel
theorem d_Ix_turn_25 : decode c_Ix_turn 25 = .ok (.ireturn, 1) := by decide +kernel
theorem d_Ix_isBroken_0 : decode c_Ix_isBroken 0 = .ok (.iconst 0, 1) := by decide +kernel
theorem d_Ix_isBroken_1 : decode c_Ix_isBroken 1 = .ok (.istore_n 2, 1) := by decide +kernel
theorem d_Ix_isBroken_2 : decode c_Ix_isBroken 2 = .ok (.iload_n 2, 1) := by decide +kernel
theorem d_Ix_isBroken_3 : decode c_Ix_isBroken 3 = .ok (.aload_n 1, 1) := by decide +kernel
theorem d_Ix_isBroken_4 : decode c_Ix_isBroken 4 = .ok (.invokevirtual 33, 3) := by decide +kernel
theorem d_Ix_isBroken_7 : decode c_Ix_isBroken 7 = .ok (.if_icmp .ge 34, 3) := by decide +kernel
theorem d_Ix_isBroken_10 : decode c_Ix_isBroken 10 = .ok (.aload_n 1, 1) := by decide +kernel
theorem d_Ix_isBroken_11 : decode c_Ix_isBroken 11 = .ok (.iload_n 2, 1) := by decide +kernel
theorem d_Ix_isBroken_12 : decode c_Ix_isBroken 12 = .ok (.invokevirtual 39, 3) := by decide +kernel
theorem d_Ix_isBroken_15 : decode c_Ix_isBroken 15 = .ok (.istore_n 3, 1) := by decide +kernel
theorem d_Ix_isBroken_16 : decode c_Ix_isBroken 16 = .ok (.aload_n 0, 1) := by decide +kernel
theorem d_Ix_isBroken_17 : decode c_Ix_isBroken 17 = .ok (.iload_n 3, 1) := by decide +kernel
theorem d_Ix_isBroken_18 : decode c_Ix_isBroken 18 = .ok (.invokevirtual 29, 3) := by decide +kernel
theorem d_Ix_isBroken_21 : decode c_Ix_isBroken 21 = .ok (.ifCond .eq 14, 3) := by decide +kernel
theorem d_Ix_isBroken_24 : decode c_Ix_isBroken 24 = .ok (.aload_n 0, 1) := by decide +kernel
theorem d_Ix_isBroken_25 : decode c_Ix_isBroken 25 = .ok (.getfield 18, 3) := by decide +kernel
theorem d_Ix_isBroken_28 : decode c_Ix_isBroken 28 = .ok (.iload_n 3, 1) := by decide +kernel
theorem d_Ix_isBroken_29 : decode c_Ix_isBroken 29 = .ok (.baload, 1) := by decide +kernel
theorem d_Ix_isBroken_30 : decode c_Ix_isBroken 30 = .ok (.ifCond .ne 5, 3) := by decide +kernel
theorem d_Ix_isBroken_33 : decode c_Ix_isBroken 33 = .ok (.iconst 1, 1) := by decide +kernel
theorem d_Ix_isBroken_34 : decode c_Ix_isBroken 34 = .ok (.ireturn, 1) := by decide +kernel
theorem d_Ix_isBroken_35 : decode c_Ix_isBroken 35 = .ok (.iinc 2 1, 3) := by decide +kernel
theorem d_Ix_isBroken_38 : decode c_Ix_isBroken 38 = .ok (.goto (-36), 3) := by decide +kernel
theorem d_Ix_isBroken_41 : decode c_Ix_isBroken 41 = .ok (.iconst 0, 1) := by decide +kernel
theorem d_Ix_isBroken_42 : decode c_Ix_isBroken 42 = .ok (.ireturn, 1) := by decide +kernel
theorem d_Ix_register_0 : decode c_Ix_register 0 = .ok (.aload_n 1, 1) := by decide +kernel
theorem d_Ix_register_1 : decode c_Ix_register 1 = .ok (.iconst 0, 1) := by decide +kernel
theorem d_Ix_register_2 : decode c_Ix_register 2 = .ok (.invokevirtual 43, 3) := by decide +kernel
theorem d_Ix_register_5 : decode c_Ix_register 5 = .ok (.aload_n 1, 1) := by decide +kernel
theorem d_Ix_register_6 : decode c_Ix_register 6 = .ok (.invokevirtual 49, 3) := by decide +kernel
theorem d_Ix_register_9 : decode c_Ix_register 9 = .ok (.istore_n 2, 1) := by decide +kernel
theorem d_Ix_register_10 : decode c_Ix_register 10 = .ok (.aload_n 0, 1) := by decide +kernel
theorem d_Ix_register_11 : decode c_Ix_register 11 = .ok (.getfield 25, 3) := by decide +kernel
theorem d_Ix_register_14 : decode c_Ix_register 14 = .ok (.ifCond .lt 23, 3) := by decide +kernel
theorem d_Ix_register_17 : decode c_Ix_register 17 = .ok (.aload_n 0, 1) := by decide +kernel
theorem d_Ix_register_18 : decode c_Ix_register 18 = .ok (.getfield 25, 3) := by decide +kernel
theorem d_Ix_register_21 : decode c_Ix_register 21 = .ok (.bipush 8, 2) := by decide +kernel
theorem d_Ix_register_23 : decode c_Ix_register 23 = .ok (.if_icmp .ge 14, 3) := by decide +kernel
theorem d_Ix_register_26 : decode c_Ix_register 26 = .ok (.iload_n 2, 1) := by decide +kernel
theorem d_Ix_register_27 : decode c_Ix_register 27 = .ok (.iconst 1, 1) := by decide +kernel
theorem d_Ix_register_28 : decode c_Ix_register 28 = .ok (.if_icmp .lt 9, 3) := by decide +kernel
theorem d_Ix_register_31 : decode c_Ix_register 31 = .ok (.iload_n 2, 1) := by decide +kernel
theorem d_Ix_register_32 : decode c_Ix_register 32 = .ok (.bipush 8, 2) := by decide +kernel
theorem d_Ix_register_34 : decode c_Ix_register 34 = .ok (.if_icmp .le 5, 3) := by decide +kernel
theorem d_Ix_register_37 : decode c_Ix_register 37 = .ok (.iconst (-1), 1) := by decide +kernel
theorem d_Ix_register_38 : decode c_Ix_register 38 = .ok (.ireturn, 1) := by decide +kernel
theorem d_Ix_register_39 : decode c_Ix_register 39 = .ok (.aload_n 1, 1) := by decide +kernel
theorem d_Ix_register_40 : decode c_Ix_register 40 = .ok (.invokevirtual 52, 3) := by decide +kernel
theorem d_Ix_register_43 : decode c_Ix_register 43 = .ok (.iload_n 2, 1) := by decide +kernel
theorem d_Ix_register_44 : decode c_Ix_register 44 = .ok (.if_icmp .ne 7, 3) := by decide +kernel
theorem d_Ix_register_47 : decode c_Ix_register 47 = .ok (.iconst 1, 1) := by decide +kernel
theorem d_Ix_register_48 : decode c_Ix_register 48 = .ok (.goto 4, 3) := by decide +kernel
theorem d_Ix_register_51 : decode c_Ix_register 51 = .ok (.iconst 0, 1) := by decide +kernel
theorem d_Ix_register_52 : decode c_Ix_register 52 = .ok (.istore_n 3, 1) := by decide +kernel
theorem d_Ix_register_53 : decode c_Ix_register 53 = .ok (.iload_n 3, 1) := by decide +kernel
theorem d_Ix_register_54 : decode c_Ix_register 54 = .ok (.ifCond .eq 22, 3) := by decide +kernel
theorem d_Ix_register_57 : decode c_Ix_register 57 = .ok (.aload_n 1, 1) := by decide +kernel
theorem d_Ix_register_58 : decode c_Ix_register 58 = .ok (.iload_n 2, 1) := by decide +kernel
theorem d_Ix_register_59 : decode c_Ix_register 59 = .ok (.invokevirtual 55, 3) := by decide +kernel
theorem d_Ix_register_62 : decode c_Ix_register 62 = .ok (.iconst (-1), 1) := by decide +kernel
theorem d_Ix_register_63 : decode c_Ix_register 63 = .ok (.if_icmp .ne 13, 3) := by decide +kernel
theorem d_Ix_register_66 : decode c_Ix_register 66 = .ok (.aload_n 0, 1) := by decide +kernel
theorem d_Ix_register_67 : decode c_Ix_register 67 = .ok (.aload_n 1, 1) := by decide +kernel
theorem d_Ix_register_68 : decode c_Ix_register 68 = .ok (.iload_n 2, 1) := by decide +kernel
theorem d_Ix_register_69 : decode c_Ix_register 69 = .ok (.invokevirtual 58, 3) := by decide +kernel
theorem d_Ix_register_72 : decode c_Ix_register 72 = .ok (.iconst (-1), 1) := by decide +kernel
theorem d_Ix_register_73 : decode c_Ix_register 73 = .ok (.if_icmp .eq 5, 3) := by decide +kernel
theorem d_Ix_register_76 : decode c_Ix_register 76 = .ok (.iconst (-1), 1) := by decide +kernel
theorem d_Ix_register_77 : decode c_Ix_register 77 = .ok (.ireturn, 1) := by decide +kernel
theorem d_Ix_register_78 : decode c_Ix_register 78 = .ok (.iconst 0, 1) := by decide +kernel
theorem d_Ix_register_79 : decode c_Ix_register 79 = .ok (.istore 4, 2) := by decide +kernel
theorem d_Ix_register_81 : decode c_Ix_register 81 = .ok (.iload 4, 2) := by decide +kernel
theorem d_Ix_register_83 : decode c_Ix_register 83 = .ok (.iload_n 2, 1) := by decide +kernel
theorem d_Ix_register_84 : decode c_Ix_register 84 = .ok (.if_icmp .ge 30, 3) := by decide +kernel
theorem d_Ix_register_87 : decode c_Ix_register 87 = .ok (.aload_n 0, 1) := by decide +kernel
theorem d_Ix_register_88 : decode c_Ix_register 88 = .ok (.getfield 9, 3) := by decide +kernel
theorem d_Ix_register_91 : decode c_Ix_register 91 = .ok (.aload_n 0, 1) := by decide +kernel
theorem d_Ix_register_92 : decode c_Ix_register 92 = .ok (.getfield 25, 3) := by decide +kernel
theorem d_Ix_register_95 : decode c_Ix_register 95 = .ok (.bipush 8, 2) := by decide +kernel
theorem d_Ix_register_97 : decode c_Ix_register 97 = .ok (.imul, 1) := by decide +kernel
theorem d_Ix_register_98 : decode c_Ix_register 98 = .ok (.iload 4, 2) := by decide +kernel
theorem d_Ix_register_100 : decode c_Ix_register 100 = .ok (.iadd, 1) := by decide +kernel
theorem d_Ix_register_101 : decode c_Ix_register 101 = .ok (.aload_n 1, 1) := by decide +kernel
theorem d_Ix_register_102 : decode c_Ix_register 102 = .ok (.iload 4, 2) := by decide +kernel
theorem d_Ix_register_104 : decode c_Ix_register 104 = .ok (.invokevirtual 62, 3) := by decide +kernel
theorem d_Ix_register_107 : decode c_Ix_register 107 = .ok (.iastore, 1) := by decide +kernel
theorem d_Ix_register_108 : decode c_Ix_register 108 = .ok (.iinc 4 1, 3) := by decide +kernel
theorem d_Ix_register_111 : decode c_Ix_register 111 = .ok (.goto (-30), 3) := by decide +kernel
theorem d_Ix_register_114 : decode c_Ix_register 114 = .ok (.aload_n 0, 1) := by decide +kernel
theorem d_Ix_register_115 : decode c_Ix_register 115 = .ok (.getfield 15, 3) := by decide +kernel
theorem d_Ix_register_118 : decode c_Ix_register 118 = .ok (.aload_n 0, 1) := by decide +kernel
theorem d_Ix_register_119 : decode c_Ix_register 119 = .ok (.getfield 25, 3) := by decide +kernel
theorem d_Ix_register_122 : decode c_Ix_register 122 = .ok (.iload_n 2, 1) := by decide +kernel
theorem d_Ix_register_123 : decode c_Ix_register 123 = .ok (.iastore, 1) := by decide +kernel
theorem d_Ix_register_124 : decode c_Ix_register 124 = .ok (.aload_n 0, 1) := by decide +kernel
theorem d_Ix_register_125 : decode c_Ix_register 125 = .ok (.getfield 18, 3) := by decide +kernel
theorem d_Ix_register_128 : decode c_Ix_register 128 = .ok (.aload_n 0, 1) := by decide +kernel
theorem d_Ix_register_129 : decode c_Ix_register 129 = .ok (.getfield 25, 3) := by decide +kernel
theorem d_Ix_register_132 : decode c_Ix_register 132 = .ok (.iconst 1, 1) := by decide +kernel
theorem d_Ix_register_133 : decode c_Ix_register 133 = .ok (.bastore, 1) := by decide +kernel
theorem d_Ix_register_134 : decode c_Ix_register 134 = .ok (.aload_n 0, 1) := by decide +kernel
theorem d_Ix_register_135 : decode c_Ix_register 135 = .ok (.dup, 1) := by decide +kernel
theorem d_Ix_register_136 : decode c_Ix_register 136 = .ok (.getfield 25, 3) := by decide +kernel
theorem d_Ix_register_139 : decode c_Ix_register 139 = .ok (.iconst 1, 1) := by decide +kernel
theorem d_Ix_register_140 : decode c_Ix_register 140 = .ok (.iadd, 1) := by decide +kernel
theorem d_Ix_register_141 : decode c_Ix_register 141 = .ok (.putfield 25, 3) := by decide +kernel
theorem d_Ix_register_144 : decode c_Ix_register 144 = .ok (.aload_n 0, 1) := by decide +kernel
theorem d_Ix_register_145 : decode c_Ix_register 145 = .ok (.getfield 25, 3) := by decide +kernel
theorem d_Ix_register_148 : decode c_Ix_register 148 = .ok (.iconst 1, 1) := by decide +kernel
theorem d_Ix_register_149 : decode c_Ix_register 149 = .ok (.isub, 1) := by decide +kernel
theorem d_Ix_register_150 : decode c_Ix_register 150 = .ok (.ireturn, 1) := by decide +kernel
theorem d_Ix_find_0 : decode c_Ix_find 0 = .ok (.iconst 0, 1) := by decide +kernel
theorem d_Ix_find_1 : decode c_Ix_find 1 = .ok (.istore_n 3, 1) := by decide +kernel
theorem d_Ix_find_2 : decode c_Ix_find 2 = .ok (.iload_n 3, 1) := by decide +kernel
theorem d_Ix_find_3 : decode c_Ix_find 3 = .ok (.aload_n 0, 1) := by decide +kernel
theorem d_Ix_find_4 : decode c_Ix_find 4 = .ok (.getfield 25, 3) := by decide +kernel
theorem d_Ix_find_7 : decode c_Ix_find 7 = .ok (.if_icmp .ge 21, 3) := by decide +kernel
theorem d_Ix_find_10 : decode c_Ix_find 10 = .ok (.aload_n 0, 1) := by decide +kernel
theorem d_Ix_find_11 : decode c_Ix_find 11 = .ok (.iload_n 3, 1) := by decide +kernel
theorem d_Ix_find_12 : decode c_Ix_find 12 = .ok (.aload_n 1, 1) := by decide +kernel
theorem d_Ix_find_13 : decode c_Ix_find 13 = .ok (.iload_n 2, 1) := by decide +kernel
theorem d_Ix_find_14 : decode c_Ix_find 14 = .ok (.invokevirtual 65, 3) := by decide +kernel
theorem d_Ix_find_17 : decode c_Ix_find 17 = .ok (.ifCond .eq 5, 3) := by decide +kernel
theorem d_Ix_find_20 : decode c_Ix_find 20 = .ok (.iload_n 3, 1) := by decide +kernel
theorem d_Ix_find_21 : decode c_Ix_find 21 = .ok (.ireturn, 1) := by decide +kernel
theorem d_Ix_find_22 : decode c_Ix_find 22 = .ok (.iinc 3 1, 3) := by decide +kernel
theorem d_Ix_find_25 : decode c_Ix_find 25 = .ok (.goto (-23), 3) := by decide +kernel
theorem d_Ix_find_28 : decode c_Ix_find 28 = .ok (.iconst (-1), 1) := by decide +kernel
theorem d_Ix_find_29 : decode c_Ix_find 29 = .ok (.ireturn, 1) := by decide +kernel
theorem d_Ix_isNameOf_0 : decode c_Ix_isNameOf 0 = .ok (.aload_n 2, 1) := by decide +kernel
theorem d_Ix_isNameOf_1 : decode c_Ix_isNameOf 1 = .ok (.invokevirtual 69, 3) := by decide +kernel
theorem d_Ix_isNameOf_4 : decode c_Ix_isNameOf 4 = .ok (.istore 4, 2) := by decide +kernel
theorem d_Ix_isNameOf_6 : decode c_Ix_isNameOf 6 = .ok (.aload_n 0, 1) := by decide +kernel
theorem d_Ix_isNameOf_7 : decode c_Ix_isNameOf 7 = .ok (.iload_n 1, 1) := by decide +kernel
theorem d_Ix_isNameOf_8 : decode c_Ix_isNameOf 8 = .ok (.invokevirtual 72, 3) := by decide +kernel
theorem d_Ix_isNameOf_11 : decode c_Ix_isNameOf 11 = .ok (.iload_n 3, 1) := by decide +kernel
theorem d_Ix_isNameOf_12 : decode c_Ix_isNameOf 12 = .ok (.iload 4, 2) := by decide +kernel
theorem d_Ix_isNameOf_14 : decode c_Ix_isNameOf 14 = .ok (.isub, 1) := by decide +kernel
theorem d_Ix_isNameOf_15 : decode c_Ix_isNameOf 15 = .ok (.if_icmp .eq 5, 3) := by decide +kernel
theorem d_Ix_isNameOf_18 : decode c_Ix_isNameOf 18 = .ok (.iconst 0, 1) := by decide +kernel
theorem d_Ix_isNameOf_19 : decode c_Ix_isNameOf 19 = .ok (.ireturn, 1) := by decide +kernel
theorem d_Ix_isNameOf_20 : decode c_Ix_isNameOf 20 = .ok (.iconst 0, 1) := by decide +kernel
theorem d_Ix_isNameOf_21 : decode c_Ix_isNameOf 21 = .ok (.istore 5, 2) := by decide +kernel
theorem d_Ix_isNameOf_23 : decode c_Ix_isNameOf 23 = .ok (.iload 5, 2) := by decide +kernel
theorem d_Ix_isNameOf_25 : decode c_Ix_isNameOf 25 = .ok (.aload_n 0, 1) := by decide +kernel
theorem d_Ix_isNameOf_26 : decode c_Ix_isNameOf 26 = .ok (.iload_n 1, 1) := by decide +kernel
theorem d_Ix_isNameOf_27 : decode c_Ix_isNameOf 27 = .ok (.invokevirtual 72, 3) := by decide +kernel
theorem d_Ix_isNameOf_30 : decode c_Ix_isNameOf 30 = .ok (.if_icmp .ge 30, 3) := by decide +kernel
theorem d_Ix_isNameOf_33 : decode c_Ix_isNameOf 33 = .ok (.aload_n 0, 1) := by decide +kernel
theorem d_Ix_isNameOf_34 : decode c_Ix_isNameOf 34 = .ok (.iload_n 1, 1) := by decide +kernel
theorem d_Ix_isNameOf_35 : decode c_Ix_isNameOf 35 = .ok (.iload 5, 2) := by decide +kernel
theorem d_Ix_isNameOf_37 : decode c_Ix_isNameOf 37 = .ok (.invokevirtual 75, 3) := by decide +kernel
theorem d_Ix_isNameOf_40 : decode c_Ix_isNameOf 40 = .ok (.aload_n 2, 1) := by decide +kernel
theorem d_Ix_isNameOf_41 : decode c_Ix_isNameOf 41 = .ok (.iload 4, 2) := by decide +kernel
theorem d_Ix_isNameOf_43 : decode c_Ix_isNameOf 43 = .ok (.iload 5, 2) := by decide +kernel
theorem d_Ix_isNameOf_45 : decode c_Ix_isNameOf 45 = .ok (.iadd, 1) := by decide +kernel
theorem d_Ix_isNameOf_46 : decode c_Ix_isNameOf 46 = .ok (.invokevirtual 62, 3) := by decide +kernel
theorem d_Ix_isNameOf_49 : decode c_Ix_isNameOf 49 = .ok (.if_icmp .eq 5, 3) := by decide +kernel
theorem d_Ix_isNameOf_52 : decode c_Ix_isNameOf 52 = .ok (.iconst 0, 1) := by decide +kernel
theorem d_Ix_isNameOf_53 : decode c_Ix_isNameOf 53 = .ok (.ireturn, 1) := by decide +kernel
theorem d_Ix_isNameOf_54 : decode c_Ix_isNameOf 54 = .ok (.iinc 5 1, 3) := by decide +kernel
theorem d_Ix_isNameOf_57 : decode c_Ix_isNameOf 57 = .ok (.goto (-34), 3) := by decide +kernel
theorem d_Ix_isNameOf_60 : decode c_Ix_isNameOf 60 = .ok (.iconst 1, 1) := by decide +kernel
theorem d_Ix_isNameOf_61 : decode c_Ix_isNameOf 61 = .ok (.ireturn, 1) := by decide +kernel
theorem d_Ix_lengthOf_0 : decode c_Ix_lengthOf 0 = .ok (.aload_n 0, 1) := by decide +kernel
theorem d_Ix_lengthOf_1 : decode c_Ix_lengthOf 1 = .ok (.iload_n 1, 1) := by decide +kernel
theorem d_Ix_lengthOf_2 : decode c_Ix_lengthOf 2 = .ok (.invokevirtual 29, 3) := by decide +kernel
theorem d_Ix_lengthOf_5 : decode c_Ix_lengthOf 5 = .ok (.ifCond .eq 21, 3) := by decide +kernel
theorem d_Ix_lengthOf_8 : decode c_Ix_lengthOf 8 = .ok (.iconst 0, 1) := by decide +kernel
theorem d_Ix_lengthOf_9 : decode c_Ix_lengthOf 9 = .ok (.aload_n 0, 1) := by decide +kernel
theorem d_Ix_lengthOf_10 : decode c_Ix_lengthOf 10 = .ok (.getfield 15, 3) := by decide +kernel
theorem d_Ix_lengthOf_13 : decode c_Ix_lengthOf 13 = .ok (.iload_n 1, 1) := by decide +kernel
theorem d_Ix_lengthOf_14 : decode c_Ix_lengthOf 14 = .ok (.iaload, 1) := by decide +kernel
theorem d_Ix_lengthOf_15 : decode c_Ix_lengthOf 15 = .ok (.bipush 8, 2) := by decide +kernel
theorem d_Ix_lengthOf_17 : decode c_Ix_lengthOf 17 = .ok (.invokestatic 79, 3) := by decide +kernel
theorem d_Ix_lengthOf_20 : decode c_Ix_lengthOf 20 = .ok (.invokestatic 84, 3) := by decide +kernel
theorem d_Ix_lengthOf_23 : decode c_Ix_lengthOf 23 = .ok (.goto 4, 3) := by decide +kernel
theorem d_Ix_lengthOf_26 : decode c_Ix_lengthOf 26 = .ok (.iconst 0, 1) := by decide +kernel
theorem d_Ix_lengthOf_27 : decode c_Ix_lengthOf 27 = .ok (.ireturn, 1) := by decide +kernel
theorem d_Ix_letterOf_0 : decode c_Ix_letterOf 0 = .ok (.aload_n 0, 1) := by decide +kernel
theorem d_Ix_letterOf_1 : decode c_Ix_letterOf 1 = .ok (.iload_n 1, 1) := by decide +kernel
theorem d_Ix_letterOf_2 : decode c_Ix_letterOf 2 = .ok (.invokevirtual 29, 3) := by decide +kernel
theorem d_Ix_letterOf_5 : decode c_Ix_letterOf 5 = .ok (.ifCond .eq 27, 3) := by decide +kernel
theorem d_Ix_letterOf_8 : decode c_Ix_letterOf 8 = .ok (.iload_n 2, 1) := by decide +kernel
theorem d_Ix_letterOf_9 : decode c_Ix_letterOf 9 = .ok (.ifCond .lt 23, 3) := by decide +kernel
theorem d_Ix_letterOf_12 : decode c_Ix_letterOf 12 = .ok (.iload_n 2, 1) := by decide +kernel
theorem d_Ix_letterOf_13 : decode c_Ix_letterOf 13 = .ok (.bipush 8, 2) := by decide +kernel
theorem d_Ix_letterOf_15 : decode c_Ix_letterOf 15 = .ok (.if_icmp .ge 17, 3) := by decide +kernel
theorem d_Ix_letterOf_18 : decode c_Ix_letterOf 18 = .ok (.aload_n 0, 1) := by decide +kernel
theorem d_Ix_letterOf_19 : decode c_Ix_letterOf 19 = .ok (.getfield 9, 3) := by decide +kernel
theorem d_Ix_letterOf_22 : decode c_Ix_letterOf 22 = .ok (.iload_n 1, 1) := by decide +kernel
theorem d_Ix_letterOf_23 : decode c_Ix_letterOf 23 = .ok (.bipush 8, 2) := by decide +kernel
theorem d_Ix_letterOf_25 : decode c_Ix_letterOf 25 = .ok (.imul, 1) := by decide +kernel
theorem d_Ix_letterOf_26 : decode c_Ix_letterOf 26 = .ok (.iload_n 2, 1) := by decide +kernel
theorem d_Ix_letterOf_27 : decode c_Ix_letterOf 27 = .ok (.iadd, 1) := by decide +kernel
theorem d_Ix_letterOf_28 : decode c_Ix_letterOf 28 = .ok (.iaload, 1) := by decide +kernel
theorem d_Ix_letterOf_29 : decode c_Ix_letterOf 29 = .ok (.goto 4, 3) := by decide +kernel
theorem d_Ix_letterOf_32 : decode c_Ix_letterOf 32 = .ok (.iconst (-1), 1) := by decide +kernel
theorem d_Ix_letterOf_33 : decode c_Ix_letterOf 33 = .ok (.ireturn, 1) := by decide +kernel
theorem d_Ix_nearest_0 : decode c_Ix_nearest 0 = .ok (.iconst (-1), 1) := by decide +kernel
theorem d_Ix_nearest_1 : decode c_Ix_nearest 1 = .ok (.istore_n 2, 1) := by decide +kernel
theorem d_Ix_nearest_2 : decode c_Ix_nearest 2 = .ok (.iconst 0, 1) := by decide +kernel
theorem d_Ix_nearest_3 : decode c_Ix_nearest 3 = .ok (.istore_n 3, 1) := by decide +kernel
theorem d_Ix_nearest_4 : decode c_Ix_nearest 4 = .ok (.aload_n 1, 1) := by decide +kernel
theorem d_Ix_nearest_5 : decode c_Ix_nearest 5 = .ok (.invokevirtual 87, 3) := by decide +kernel
theorem d_Ix_nearest_8 : decode c_Ix_nearest 8 = .ok (.ifCond .ne 5, 3) := by decide +kernel
theorem d_Ix_nearest_11 : decode c_Ix_nearest 11 = .ok (.iconst (-1), 1) := by decide +kernel
theorem d_Ix_nearest_12 : decode c_Ix_nearest 12 = .ok (.ireturn, 1) := by decide +kernel
theorem d_Ix_nearest_13 : decode c_Ix_nearest 13 = .ok (.iconst 0, 1) := by decide +kernel
theorem d_Ix_nearest_14 : decode c_Ix_nearest 14 = .ok (.istore 4, 2) := by decide +kernel
theorem d_Ix_nearest_16 : decode c_Ix_nearest 16 = .ok (.iload 4, 2) := by decide +kernel
theorem d_Ix_nearest_18 : decode c_Ix_nearest 18 = .ok (.aload_n 0, 1) := by decide +kernel
theorem d_Ix_nearest_19 : decode c_Ix_nearest 19 = .ok (.getfield 25, 3) := by decide +kernel
theorem d_Ix_nearest_22 : decode c_Ix_nearest 22 = .ok (.if_icmp .ge 35, 3) := by decide +kernel
theorem d_Ix_nearest_25 : decode c_Ix_nearest 25 = .ok (.aload_n 0, 1) := by decide +kernel
theorem d_Ix_nearest_26 : decode c_Ix_nearest 26 = .ok (.iload 4, 2) := by decide +kernel
theorem d_Ix_nearest_28 : decode c_Ix_nearest 28 = .ok (.aload_n 1, 1) := by decide +kernel
theorem d_Ix_nearest_29 : decode c_Ix_nearest 29 = .ok (.invokevirtual 90, 3) := by decide +kernel
theorem d_Ix_nearest_32 : decode c_Ix_nearest 32 = .ok (.istore 5, 2) := by decide +kernel
theorem d_Ix_nearest_34 : decode c_Ix_nearest 34 = .ok (.iload_n 2, 1) := by decide +kernel
theorem d_Ix_nearest_35 : decode c_Ix_nearest 35 = .ok (.iconst (-1), 1) := by decide +kernel
theorem d_Ix_nearest_36 : decode c_Ix_nearest 36 = .ok (.if_icmp .eq 9, 3) := by decide +kernel
theorem d_Ix_nearest_39 : decode c_Ix_nearest 39 = .ok (.iload 5, 2) := by decide +kernel
theorem d_Ix_nearest_41 : decode c_Ix_nearest 41 = .ok (.iload_n 3, 1) := by decide +kernel
theorem d_Ix_nearest_42 : decode c_Ix_nearest 42 = .ok (.if_icmp .ge 9, 3) := by decide +kernel
theorem d_Ix_nearest_45 : decode c_Ix_nearest 45 = .ok (.iload 4, 2) := by decide +kernel
theorem d_Ix_nearest_47 : decode c_Ix_nearest 47 = .ok (.istore_n 2, 1) := by decide +kernel
theorem d_Ix_nearest_48 : decode c_Ix_nearest 48 = .ok (.iload 5, 2) := by decide +kernel
theorem d_Ix_nearest_50 : decode c_Ix_nearest 50 = .ok (.istore_n 3, 1) := by decide +kernel
theorem d_Ix_nearest_51 : decode c_Ix_nearest 51 = .ok (.iinc 4 1, 3) := by decide +kernel
theorem d_Ix_nearest_54 : decode c_Ix_nearest 54 = .ok (.goto (-38), 3) := by decide +kernel
theorem d_Ix_nearest_57 : decode c_Ix_nearest 57 = .ok (.iload_n 2, 1) := by decide +kernel
theorem d_Ix_nearest_58 : decode c_Ix_nearest 58 = .ok (.ireturn, 1) := by decide +kernel
theorem d_Ix_changesTo_0 : decode c_Ix_changesTo 0 = .ok (.aload_n 0, 1) := by decide +kernel
theorem d_Ix_changesTo_1 : decode c_Ix_changesTo 1 = .ok (.iload_n 1, 1) := by decide +kernel
theorem d_Ix_changesTo_2 : decode c_Ix_changesTo 2 = .ok (.invokevirtual 72, 3) := by decide +kernel
theorem d_Ix_changesTo_5 : decode c_Ix_changesTo 5 = .ok (.istore_n 3, 1) := by decide +kernel
theorem d_Ix_changesTo_6 : decode c_Ix_changesTo 6 = .ok (.iconst 0, 1) := by decide +kernel
theorem d_Ix_changesTo_7 : decode c_Ix_changesTo 7 = .ok (.istore 4, 2) := by decide +kernel
theorem d_Ix_changesTo_9 : decode c_Ix_changesTo 9 = .ok (.iload 4, 2) := by decide +kernel
theorem d_Ix_changesTo_11 : decode c_Ix_changesTo 11 = .ok (.iload_n 3, 1) := by decide +kernel
theorem d_Ix_changesTo_12 : decode c_Ix_changesTo 12 = .ok (.if_icmp .gt 18, 3) := by decide +kernel
theorem d_Ix_changesTo_15 : decode c_Ix_changesTo 15 = .ok (.aload_n 0, 1) := by decide +kernel
theorem d_Ix_changesTo_16 : decode c_Ix_changesTo 16 = .ok (.getfield 22, 3) := by decide +kernel
theorem d_Ix_changesTo_19 : decode c_Ix_changesTo 19 = .ok (.iload 4, 2) := by decide +kernel
theorem d_Ix_changesTo_21 : decode c_Ix_changesTo 21 = .ok (.iload 4, 2) := by decide +kernel
theorem d_Ix_changesTo_23 : decode c_Ix_changesTo 23 = .ok (.iastore, 1) := by decide +kernel
theorem d_Ix_changesTo_24 : decode c_Ix_changesTo 24 = .ok (.iinc 4 1, 3) := by decide +kernel
theorem d_Ix_changesTo_27 : decode c_Ix_changesTo 27 = .ok (.goto (-18), 3) := by decide +kernel
theorem d_Ix_changesTo_30 : decode c_Ix_changesTo 30 = .ok (.iconst 0, 1) := by decide +kernel
theorem d_Ix_changesTo_31 : decode c_Ix_changesTo 31 = .ok (.istore 4, 2) := by decide +kernel
theorem d_Ix_changesTo_33 : decode c_Ix_changesTo 33 = .ok (.iload 4, 2) := by decide +kernel
theorem d_Ix_changesTo_35 : decode c_Ix_changesTo 35 = .ok (.aload_n 2, 1) := by decide +kernel
theorem d_Ix_changesTo_36 : decode c_Ix_changesTo 36 = .ok (.invokevirtual 87, 3) := by decide +kernel
theorem d_Ix_changesTo_39 : decode c_Ix_changesTo 39 = .ok (.if_icmp .ge 107, 3) := by decide +kernel
theorem d_Ix_changesTo_42 : decode c_Ix_changesTo 42 = .ok (.aload_n 0, 1) := by decide +kernel
theorem d_Ix_changesTo_43 : decode c_Ix_changesTo 43 = .ok (.getfield 22, 3) := by decide +kernel
theorem d_Ix_changesTo_46 : decode c_Ix_changesTo 46 = .ok (.iconst 0, 1) := by decide +kernel
theorem d_Ix_changesTo_47 : decode c_Ix_changesTo 47 = .ok (.iaload, 1) := by decide +kernel
theorem d_Ix_changesTo_48 : decode c_Ix_changesTo 48 = .ok (.istore 5, 2) := by decide +kernel
theorem d_Ix_changesTo_50 : decode c_Ix_changesTo 50 = .ok (.aload_n 0, 1) := by decide +kernel
theorem d_Ix_changesTo_51 : decode c_Ix_changesTo 51 = .ok (.getfield 22, 3) := by decide +kernel
theorem d_Ix_changesTo_54 : decode c_Ix_changesTo 54 = .ok (.iconst 0, 1) := by decide +kernel
theorem d_Ix_changesTo_55 : decode c_Ix_changesTo 55 = .ok (.iload 4, 2) := by decide +kernel
theorem d_Ix_changesTo_57 : decode c_Ix_changesTo 57 = .ok (.iconst 1, 1) := by decide +kernel
theorem d_Ix_changesTo_58 : decode c_Ix_changesTo 58 = .ok (.iadd, 1) := by decide +kernel
theorem d_Ix_changesTo_59 : decode c_Ix_changesTo 59 = .ok (.iastore, 1) := by decide +kernel
theorem d_Ix_changesTo_60 : decode c_Ix_changesTo 60 = .ok (.iconst 1, 1) := by decide +kernel
theorem d_Ix_changesTo_61 : decode c_Ix_changesTo 61 = .ok (.istore 6, 2) := by decide +kernel
theorem d_Ix_changesTo_63 : decode c_Ix_changesTo 63 = .ok (.iload 6, 2) := by decide +kernel
theorem d_Ix_changesTo_65 : decode c_Ix_changesTo 65 = .ok (.iload_n 3, 1) := by decide +kernel
theorem d_Ix_changesTo_66 : decode c_Ix_changesTo 66 = .ok (.if_icmp .gt 74, 3) := by decide +kernel
theorem d_Ix_changesTo_69 : decode c_Ix_changesTo 69 = .ok (.iload 5, 2) := by decide +kernel
theorem d_Ix_changesTo_71 : decode c_Ix_changesTo 71 = .ok (.aload_n 2, 1) := by decide +kernel
theorem d_Ix_changesTo_72 : decode c_Ix_changesTo 72 = .ok (.iload 4, 2) := by decide +kernel
theorem d_Ix_changesTo_74 : decode c_Ix_changesTo 74 = .ok (.invokevirtual 94, 3) := by decide +kernel
theorem d_Ix_changesTo_77 : decode c_Ix_changesTo 77 = .ok (.aload_n 0, 1) := by decide +kernel
theorem d_Ix_changesTo_78 : decode c_Ix_changesTo 78 = .ok (.iload_n 1, 1) := by decide +kernel
theorem d_Ix_changesTo_79 : decode c_Ix_changesTo 79 = .ok (.iload 6, 2) := by decide +kernel
theorem d_Ix_changesTo_81 : decode c_Ix_changesTo 81 = .ok (.iconst 1, 1) := by decide +kernel
theorem d_Ix_changesTo_82 : decode c_Ix_changesTo 82 = .ok (.isub, 1) := by decide +kernel
theorem d_Ix_changesTo_83 : decode c_Ix_changesTo 83 = .ok (.invokevirtual 75, 3) := by decide +kernel
theorem d_Ix_changesTo_86 : decode c_Ix_changesTo 86 = .ok (.if_icmp .ne 7, 3) := by decide +kernel
theorem d_Ix_changesTo_89 : decode c_Ix_changesTo 89 = .ok (.iconst 0, 1) := by decide +kernel
theorem d_Ix_changesTo_90 : decode c_Ix_changesTo 90 = .ok (.goto 4, 3) := by decide +kernel
theorem d_Ix_changesTo_93 : decode c_Ix_changesTo 93 = .ok (.iconst 1, 1) := by decide +kernel
theorem d_Ix_changesTo_94 : decode c_Ix_changesTo 94 = .ok (.iadd, 1) := by decide +kernel
theorem d_Ix_changesTo_95 : decode c_Ix_changesTo 95 = .ok (.istore 7, 2) := by decide +kernel
theorem d_Ix_changesTo_97 : decode c_Ix_changesTo 97 = .ok (.aload_n 0, 1) := by decide +kernel
theorem d_Ix_changesTo_98 : decode c_Ix_changesTo 98 = .ok (.getfield 22, 3) := by decide +kernel
theorem d_Ix_changesTo_101 : decode c_Ix_changesTo 101 = .ok (.iload 6, 2) := by decide +kernel
theorem d_Ix_changesTo_103 : decode c_Ix_changesTo 103 = .ok (.iaload, 1) := by decide +kernel
theorem d_Ix_changesTo_104 : decode c_Ix_changesTo 104 = .ok (.istore 5, 2) := by decide +kernel
theorem d_Ix_changesTo_106 : decode c_Ix_changesTo 106 = .ok (.aload_n 0, 1) := by decide +kernel
theorem d_Ix_changesTo_107 : decode c_Ix_changesTo 107 = .ok (.getfield 22, 3) := by decide +kernel
theorem d_Ix_changesTo_110 : decode c_Ix_changesTo 110 = .ok (.iload 6, 2) := by decide +kernel
theorem d_Ix_changesTo_112 : decode c_Ix_changesTo 112 = .ok (.iload 7, 2) := by decide +kernel
theorem d_Ix_changesTo_114 : decode c_Ix_changesTo 114 = .ok (.iload 5, 2) := by decide +kernel
theorem d_Ix_changesTo_116 : decode c_Ix_changesTo 116 = .ok (.aload_n 0, 1) := by decide +kernel
theorem d_Ix_changesTo_117 : decode c_Ix_changesTo 117 = .ok (.getfield 22, 3) := by decide +kernel
theorem d_Ix_changesTo_120 : decode c_Ix_changesTo 120 = .ok (.iload 6, 2) := by decide +kernel
theorem d_Ix_changesTo_122 : decode c_Ix_changesTo 122 = .ok (.iconst 1, 1) := by decide +kernel
theorem d_Ix_changesTo_123 : decode c_Ix_changesTo 123 = .ok (.isub, 1) := by decide +kernel
theorem d_Ix_changesTo_124 : decode c_Ix_changesTo 124 = .ok (.iaload, 1) := by decide +kernel
theorem d_Ix_changesTo_125 : decode c_Ix_changesTo 125 = .ok (.invokestatic 79, 3) := by decide +kernel
theorem d_Ix_changesTo_128 : decode c_Ix_changesTo 128 = .ok (.iconst 1, 1) := by decide +kernel
theorem d_Ix_changesTo_129 : decode c_Ix_changesTo 129 = .ok (.iadd, 1) := by decide +kernel
theorem d_Ix_changesTo_130 : decode c_Ix_changesTo 130 = .ok (.invokestatic 79, 3) := by decide +kernel
theorem d_Ix_changesTo_133 : decode c_Ix_changesTo 133 = .ok (.iastore, 1) := by decide +kernel
theorem d_Ix_changesTo_134 : decode c_Ix_changesTo 134 = .ok (.iinc 6 1, 3) := by decide +kernel
theorem d_Ix_changesTo_137 : decode c_Ix_changesTo 137 = .ok (.goto (-74), 3) := by decide +kernel
theorem d_Ix_changesTo_140 : decode c_Ix_changesTo 140 = .ok (.iinc 4 1, 3) := by decide +kernel
theorem d_Ix_changesTo_143 : decode c_Ix_changesTo 143 = .ok (.goto (-110), 3) := by decide +kernel
theorem d_Ix_changesTo_146 : decode c_Ix_changesTo 146 = .ok (.aload_n 0, 1) := by decide +kernel
theorem d_Ix_changesTo_147 : decode c_Ix_changesTo 147 = .ok (.getfield 22, 3) := by decide +kernel
theorem d_Ix_changesTo_150 : decode c_Ix_changesTo 150 = .ok (.iload_n 3, 1) := by decide +kernel
theorem d_Ix_changesTo_151 : decode c_Ix_changesTo 151 = .ok (.iaload, 1) := by decide +kernel
theorem d_Ix_changesTo_152 : decode c_Ix_changesTo 152 = .ok (.ireturn, 1) := by decide +kernel
theorem d_Rd_init_0 : decode c_Rd_init 0 = .ok (.aload_n 0, 1) := by decide +kernel
theorem d_Rd_init_1 : decode c_Rd_init 1 = .ok (.invokespecial 3, 3) := by decide +kernel
theorem d_Rd_init_4 : decode c_Rd_init 4 = .ok (.aload_n 0, 1) := by decide +kernel
theorem d_Rd_init_5 : decode c_Rd_init 5 = .ok (.aload_n 1, 1) := by decide +kernel
theorem d_Rd_init_6 : decode c_Rd_init 6 = .ok (.putfield 9, 3) := by decide +kernel
theorem d_Rd_init_9 : decode c_Rd_init 9 = .ok (.aload_n 0, 1) := by decide +kernel
theorem d_Rd_init_10 : decode c_Rd_init 10 = .ok (.aload_n 2, 1) := by decide +kernel
theorem d_Rd_init_11 : decode c_Rd_init 11 = .ok (.putfield 15, 3) := by decide +kernel
theorem d_Rd_init_14 : decode c_Rd_init 14 = .ok (.aload_n 0, 1) := by decide +kernel
theorem d_Rd_init_15 : decode c_Rd_init 15 = .ok (.aload_n 3, 1) := by decide +kernel
theorem d_Rd_init_16 : decode c_Rd_init 16 = .ok (.putfield 19, 3) := by decide +kernel
theorem d_Rd_init_19 : decode c_Rd_init 19 = .ok (.aload_n 0, 1) := by decide +kernel
theorem d_Rd_init_20 : decode c_Rd_init 20 = .ok (.aload 4, 2) := by decide +kernel
theorem d_Rd_init_22 : decode c_Rd_init 22 = .ok (.putfield 23, 3) := by decide +kernel
theorem d_Rd_init_25 : decode c_Rd_init 25 = .ok (.return_, 1) := by decide +kernel
theorem d_Rd_takeName_0 : decode c_Rd_takeName 0 = .ok (.aload_n 0, 1) := by decide +kernel
theorem d_Rd_takeName_1 : decode c_Rd_takeName 1 = .ok (.getfield 9, 3) := by decide +kernel
theorem d_Rd_takeName_4 : decode c_Rd_takeName 4 = .ok (.invokevirtual 27, 3) := by decide +kernel
theorem d_Rd_takeName_7 : decode c_Rd_takeName 7 = .ok (.istore_n 1, 1) := by decide +kernel
theorem d_Rd_takeName_8 : decode c_Rd_takeName 8 = .ok (.iload_n 1, 1) := by decide +kernel
theorem d_Rd_takeName_9 : decode c_Rd_takeName 9 = .ok (.aload_n 0, 1) := by decide +kernel
theorem d_Rd_takeName_10 : decode c_Rd_takeName 10 = .ok (.getfield 9, 3) := by decide +kernel
theorem d_Rd_takeName_13 : decode c_Rd_takeName 13 = .ok (.invokevirtual 33, 3) := by decide +kernel
theorem d_Rd_takeName_16 : decode c_Rd_takeName 16 = .ok (.if_icmp .ne 5, 3) := by decide +kernel
theorem d_Rd_takeName_19 : decode c_Rd_takeName 19 = .ok (.iconst (-1), 1) := by decide +kernel
theorem d_Rd_takeName_20 : decode c_Rd_takeName 20 = .ok (.ireturn, 1) := by decide +kernel
theorem d_Rd_takeName_21 : decode c_Rd_takeName 21 = .ok (.aload_n 0, 1) := by decide +kernel
theorem d_Rd_takeName_22 : decode c_Rd_takeName 22 = .ok (.getfield 15, 3) := by decide +kernel
theorem d_Rd_takeName_25 : decode c_Rd_takeName 25 = .ok (.aload_n 0, 1) := by decide +kernel
theorem d_Rd_takeName_26 : decode c_Rd_takeName 26 = .ok (.getfield 9, 3) := by decide +kernel
theorem d_Rd_takeName_29 : decode c_Rd_takeName 29 = .ok (.iload_n 1, 1) := by decide +kernel
theorem d_Rd_takeName_30 : decode c_Rd_takeName 30 = .ok (.invokevirtual 36, 3) := by decide +kernel
theorem d_Rd_takeName_33 : decode c_Rd_takeName 33 = .ok (.istore_n 2, 1) := by decide +kernel
theorem d_Rd_takeName_34 : decode c_Rd_takeName 34 = .ok (.iload_n 2, 1) := by decide +kernel
theorem d_Rd_takeName_35 : decode c_Rd_takeName 35 = .ok (.iconst (-1), 1) := by decide +kernel
theorem d_Rd_takeName_36 : decode c_Rd_takeName 36 = .ok (.if_icmp .ne 17, 3) := by decide +kernel
theorem d_Rd_takeName_39 : decode c_Rd_takeName 39 = .ok (.aload_n 0, 1) := by decide +kernel
theorem d_Rd_takeName_40 : decode c_Rd_takeName 40 = .ok (.getfield 19, 3) := by decide +kernel
theorem d_Rd_takeName_43 : decode c_Rd_takeName 43 = .ok (.aload_n 0, 1) := by decide +kernel
theorem d_Rd_takeName_44 : decode c_Rd_takeName 44 = .ok (.getfield 9, 3) := by decide +kernel
theorem d_Rd_takeName_47 : decode c_Rd_takeName 47 = .ok (.iload_n 1, 1) := by decide +kernel
theorem d_Rd_takeName_48 : decode c_Rd_takeName 48 = .ok (.invokevirtual 42, 3) := by decide +kernel
theorem d_Rd_takeName_51 : decode c_Rd_takeName 51 = .ok (.iconst (-1), 1) := by decide +kernel
theorem d_Rd_takeName_52 : decode c_Rd_takeName 52 = .ok (.ireturn, 1) := by decide +kernel
theorem d_Rd_takeName_53 : decode c_Rd_takeName 53 = .ok (.aload_n 0, 1) := by decide +kernel
theorem d_Rd_takeName_54 : decode c_Rd_takeName 54 = .ok (.getfield 23, 3) := by decide +kernel
theorem d_Rd_takeName_57 : decode c_Rd_takeName 57 = .ok (.invokevirtual 48, 3) := by decide +kernel
theorem d_Rd_takeName_60 : decode c_Rd_takeName 60 = .ok (.ifCond .eq 5, 3) := by decide +kernel
theorem d_Rd_takeName_63 : decode c_Rd_takeName 63 = .ok (.iconst (-1), 1) := by decide +kernel
theorem d_Rd_takeName_64 : decode c_Rd_takeName 64 = .ok (.ireturn, 1) := by decide +kernel
theorem d_Rd_takeName_65 : decode c_Rd_takeName 65 = .ok (.aload_n 0, 1) := by decide +kernel
theorem d_Rd_takeName_66 : decode c_Rd_takeName 66 = .ok (.getfield 9, 3) := by decide +kernel
theorem d_Rd_takeName_69 : decode c_Rd_takeName 69 = .ok (.iload_n 1, 1) := by decide +kernel
theorem d_Rd_takeName_70 : decode c_Rd_takeName 70 = .ok (.invokevirtual 54, 3) := by decide +kernel
theorem d_Rd_takeName_73 : decode c_Rd_takeName 73 = .ok (.iload_n 2, 1) := by decide +kernel
theorem d_Rd_takeName_74 : decode c_Rd_takeName 74 = .ok (.ireturn, 1) := by decide +kernel
theorem d_Rd_takesGreatest_0 : decode c_Rd_takesGreatest 0 = .ok (.aload_n 0, 1) := by decide +kernel
theorem d_Rd_takesGreatest_1 : decode c_Rd_takesGreatest 1 = .ok (.getfield 9, 3) := by decide +kernel
theorem d_Rd_takesGreatest_4 : decode c_Rd_takesGreatest 4 = .ok (.invokevirtual 33, 3) := by decide +kernel
theorem d_Rd_takesGreatest_7 : decode c_Rd_takesGreatest 7 = .ok (.istore_n 3, 1) := by decide +kernel
theorem d_Rd_takesGreatest_8 : decode c_Rd_takesGreatest 8 = .ok (.aload_n 0, 1) := by decide +kernel
theorem d_Rd_takesGreatest_9 : decode c_Rd_takesGreatest 9 = .ok (.getfield 9, 3) := by decide +kernel
theorem d_Rd_takesGreatest_12 : decode c_Rd_takesGreatest 12 = .ok (.invokevirtual 58, 3) := by decide +kernel
theorem d_Rd_takesGreatest_15 : decode c_Rd_takesGreatest 15 = .ok (.istore 4, 2) := by decide +kernel
theorem d_Rd_takesGreatest_17 : decode c_Rd_takesGreatest 17 = .ok (.iload 4, 2) := by decide +kernel
theorem d_Rd_takesGreatest_19 : decode c_Rd_takesGreatest 19 = .ok (.iconst (-1), 1) := by decide +kernel
theorem d_Rd_takesGreatest_20 : decode c_Rd_takesGreatest 20 = .ok (.if_icmp .ne 5, 3) := by decide +kernel
theorem d_Rd_takesGreatest_23 : decode c_Rd_takesGreatest 23 = .ok (.iconst 0, 1) := by decide +kernel
theorem d_Rd_takesGreatest_24 : decode c_Rd_takesGreatest 24 = .ok (.ireturn, 1) := by decide +kernel
theorem d_Rd_takesGreatest_25 : decode c_Rd_takesGreatest 25 = .ok (.iload 4, 2) := by decide +kernel
theorem d_Rd_takesGreatest_27 : decode c_Rd_takesGreatest 27 = .ok (.iload_n 2, 1) := by decide +kernel
theorem d_Rd_takesGreatest_28 : decode c_Rd_takesGreatest 28 = .ok (.if_icmp .ge 13, 3) := by decide +kernel
theorem d_Rd_takesGreatest_31 : decode c_Rd_takesGreatest 31 = .ok (.aload_n 0, 1) := by decide +kernel
theorem d_Rd_takesGreatest_32 : decode c_Rd_takesGreatest 32 = .ok (.getfield 9, 3) := by decide +kernel
theorem d_Rd_takesGreatest_35 : decode c_Rd_takesGreatest 35 = .ok (.iload_n 3, 1) := by decide +kernel
theorem d_Rd_takesGreatest_36 : decode c_Rd_takesGreatest 36 = .ok (.invokevirtual 54, 3) := by decide +kernel
theorem d_Rd_takesGreatest_39 : decode c_Rd_takesGreatest 39 = .ok (.iconst 0, 1) := by decide +kernel
theorem d_Rd_takesGreatest_40 : decode c_Rd_takesGreatest 40 = .ok (.ireturn, 1) := by decide +kernel
theorem d_Rd_takesGreatest_41 : decode c_Rd_takesGreatest 41 = .ok (.aload_n 0, 1) := by decide +kernel
theorem d_Rd_takesGreatest_42 : decode c_Rd_takesGreatest 42 = .ok (.getfield 23, 3) := by decide +kernel
theorem d_Rd_takesGreatest_45 : decode c_Rd_takesGreatest 45 = .ok (.iconst 1, 1) := by decide +kernel
theorem d_Rd_takesGreatest_46 : decode c_Rd_takesGreatest 46 = .ok (.iload_n 1, 1) := by decide +kernel
theorem d_Rd_takesGreatest_47 : decode c_Rd_takesGreatest 47 = .ok (.iload_n 2, 1) := by decide +kernel
theorem d_Rd_takesGreatest_48 : decode c_Rd_takesGreatest 48 = .ok (.iload 4, 2) := by decide +kernel
theorem d_Rd_takesGreatest_50 : decode c_Rd_takesGreatest 50 = .ok (.invokevirtual 61, 3) := by decide +kernel
theorem d_Rd_takesGreatest_53 : decode c_Rd_takesGreatest 53 = .ok (.ireturn, 1) := by decide +kernel
theorem d_Rc_init_0 : decode c_Rc_init 0 = .ok (.aload_n 0, 1) := by decide +kernel
theorem d_Rc_init_1 : decode c_Rc_init 1 = .ok (.invokespecial 3, 3) := by decide +kernel
theorem d_Rc_init_4 : decode c_Rc_init 4 = .ok (.aload_n 0, 1) := by decide +kernel
theorem d_Rc_init_5 : decode c_Rc_init 5 = .ok (.bipush 60, 2) := by decide +kernel
theorem d_Rc_init_7 : decode c_Rc_init 7 = .ok (.newarray .long, 2) := by decide +kernel
theorem d_Rc_init_9 : decode c_Rc_init 9 = .ok (.putfield 9, 3) := by decide +kernel
theorem d_Rc_init_12 : decode c_Rc_init 12 = .ok (.aload_n 0, 1) := by decide +kernel
theorem d_Rc_init_13 : decode c_Rc_init 13 = .ok (.bipush 60, 2) := by decide +kernel
theorem d_Rc_init_15 : decode c_Rc_init 15 = .ok (.newarray .int, 2) := by decide +kernel
theorem d_Rc_init_17 : decode c_Rc_init 17 = .ok (.putfield 15, 3) := by decide +kernel
theorem d_Rc_init_20 : decode c_Rc_init 20 = .ok (.aload_n 0, 1) := by decide +kernel
theorem d_Rc_init_21 : decode c_Rc_init 21 = .ok (.sipush 480, 3) := by decide +kernel
theorem d_Rc_init_24 : decode c_Rc_init 24 = .ok (.newarray .int, 2) := by decide +kernel
theorem d_Rc_init_26 : decode c_Rc_init 26 = .ok (.putfield 19, 3) := by decide +kernel
theorem d_Rc_init_29 : decode c_Rc_init 29 = .ok (.aload_n 0, 1) := by decide +kernel
theorem d_Rc_init_30 : decode c_Rc_init 30 = .ok (.sipush 480, 3) := by decide +kernel
theorem d_Rc_init_33 : decode c_Rc_init 33 = .ok (.newarray .int, 2) := by decide +kernel
theorem d_Rc_init_35 : decode c_Rc_init 35 = .ok (.putfield 22, 3) := by decide +kernel
theorem d_Rc_init_38 : decode c_Rc_init 38 = .ok (.aload_n 0, 1) := by decide +kernel
theorem d_Rc_init_39 : decode c_Rc_init 39 = .ok (.bipush 40, 2) := by decide +kernel
theorem d_Rc_init_41 : decode c_Rc_init 41 = .ok (.newarray .boolean, 2) := by decide +kernel
theorem d_Rc_init_43 : decode c_Rc_init 43 = .ok (.putfield 25, 3) := by decide +kernel
theorem d_Rc_init_46 : decode c_Rc_init 46 = .ok (.aload_n 0, 1) := by decide +kernel
theorem d_Rc_init_47 : decode c_Rc_init 47 = .ok (.iconst 0, 1) := by decide +kernel
theorem d_Rc_init_48 : decode c_Rc_init 48 = .ok (.putfield 29, 3) := by decide +kernel
theorem d_Rc_init_51 : decode c_Rc_init 51 = .ok (.return_, 1) := by decide +kernel
theorem d_Rc_size_0 : decode c_Rc_size 0 = .ok (.aload_n 0, 1) := by decide +kernel
theorem d_Rc_size_1 : decode c_Rc_size 1 = .ok (.getfield 29, 3) := by decide +kernel
theorem d_Rc_size_4 : decode c_Rc_size 4 = .ok (.ireturn, 1) := by decide +kernel
theorem d_Rc_has_0 : decode c_Rc_has 0 = .ok (.iload_n 1, 1) := by decide +kernel
theorem d_Rc_has_1 : decode c_Rc_has 1 = .ok (.iconst 1, 1) := by decide +kernel
theorem d_Rc_has_2 : decode c_Rc_has 2 = .ok (.if_icmp .lt 21, 3) := by decide +kernel
theorem d_Rc_has_5 : decode c_Rc_has 5 = .ok (.iload_n 1, 1) := by decide +kernel
theorem d_Rc_has_6 : decode c_Rc_has 6 = .ok (.aload_n 0, 1) := by decide +kernel
theorem d_Rc_has_7 : decode c_Rc_has 7 = .ok (.getfield 29, 3) := by decide +kernel
theorem d_Rc_has_10 : decode c_Rc_has 10 = .ok (.if_icmp .gt 13, 3) := by decide +kernel
theorem d_Rc_has_13 : decode c_Rc_has 13 = .ok (.iload_n 1, 1) := by decide +kernel
theorem d_Rc_has_14 : decode c_Rc_has 14 = .ok (.bipush 60, 2) := by decide +kernel
theorem d_Rc_has_16 : decode c_Rc_has 16 = .ok (.if_icmp .gt 7, 3) := by decide +kernel
theorem d_Rc_has_19 : decode c_Rc_has 19 = .ok (.iconst 1, 1) := by decide +kernel
theorem d_Rc_has_20 : decode c_Rc_has 20 = .ok (.goto 4, 3) := by decide +kernel
theorem d_Rc_has_23 : decode c_Rc_has 23 = .ok (.iconst 0, 1) := by decide +kernel
theorem d_Rc_has_24 : decode c_Rc_has 24 = .ok (.ireturn, 1) := by decide +kernel
theorem d_Rc_momentOf_0 : decode c_Rc_momentOf 0 = .ok (.aload_n 0, 1) := by decide +kernel
theorem d_Rc_momentOf_1 : decode c_Rc_momentOf 1 = .ok (.iload_n 1, 1) := by decide +kernel
theorem d_Rc_momentOf_2 : decode c_Rc_momentOf 2 = .ok (.invokevirtual 33, 3) := by decide +kernel
theorem d_Rc_momentOf_5 : decode c_Rc_momentOf 5 = .ok (.ifCond .eq 14, 3) := by decide +kernel
theorem d_Rc_momentOf_8 : decode c_Rc_momentOf 8 = .ok (.aload_n 0, 1) := by decide +kernel
theorem d_Rc_momentOf_9 : decode c_Rc_momentOf 9 = .ok (.getfield 9, 3) := by decide +kernel
theorem d_Rc_momentOf_12 : decode c_Rc_momentOf 12 = .ok (.iload_n 1, 1) := by decide +kernel
theorem d_Rc_momentOf_13 : decode c_Rc_momentOf 13 = .ok (.iconst 1, 1) := by decide +kernel
theorem d_Rc_momentOf_14 : decode c_Rc_momentOf 14 = .ok (.isub, 1) := by decide +kernel
theorem d_Rc_momentOf_15 : decode c_Rc_momentOf 15 = .ok (.laload, 1) := by decide +kernel
theorem d_Rc_momentOf_16 : decode c_Rc_momentOf 16 = .ok (.goto 4, 3) := by decide +kernel
theorem d_Rc_momentOf_19 : decode c_Rc_momentOf 19 = .ok (.lconst 0, 1) := by decide +kernel
theorem d_Rc_momentOf_20 : decode c_Rc_momentOf 20 = .ok (.lreturn, 1) := by decide +kernel
theorem d_Rc_add_0 : decode c_Rc_add 0 = .ok (.aload_n 0, 1) := by decide +kernel
theorem d_Rc_add_1 : decode c_Rc_add 1 = .ok (.getfield 29, 3) := by decide +kernel
theorem d_Rc_add_4 : decode c_Rc_add 4 = .ok (.ifCond .lt 32, 3) := by decide +kernel
theorem d_Rc_add_7 : decode c_Rc_add 7 = .ok (.aload_n 0, 1) := by decide +kernel
theorem d_Rc_add_8 : decode c_Rc_add 8 = .ok (.getfield 29, 3) := by decide +kernel
theorem d_Rc_add_11 : decode c_Rc_add 11 = .ok (.bipush 60, 2) := by decide +kernel
theorem d_Rc_add_13 : decode c_Rc_add 13 = .ok (.if_icmp .ge 23, 3) := by decide +kernel
theorem d_Rc_add_16 : decode c_Rc_add 16 = .ok (.aload_n 0, 1) := by decide +kernel
theorem d_Rc_add_17 : decode c_Rc_add 17 = .ok (.getfield 29, 3) := by decide +kernel
theorem d_Rc_add_20 : decode c_Rc_add 20 = .ok (.ifCond .le 18, 3) := by decide +kernel
theorem d_Rc_add_23 : decode c_Rc_add 23 = .ok (.lload_n 1, 1) := by decide +kernel
theorem d_Rc_add_24 : decode c_Rc_add 24 = .ok (.aload_n 0, 1) := by decide +kernel
theorem d_Rc_add_25 : decode c_Rc_add 25 = .ok (.aload_n 0, 1) := by decide +kernel
theorem d_Rc_add_26 : decode c_Rc_add 26 = .ok (.getfield 29, 3) := by decide +kernel
theorem d_Rc_add_29 : decode c_Rc_add 29 = .ok (.invokevirtual 37, 3) := by decide +kernel
theorem d_Rc_add_32 : decode c_Rc_add 32 = .ok (.lcmp, 1) := by decide +kernel
theorem d_Rc_add_33 : decode c_Rc_add 33 = .ok (.ifCond .ge 5, 3) := by decide +kernel
theorem d_Rc_add_36 : decode c_Rc_add 36 = .ok (.iconst 0, 1) := by decide +kernel
theorem d_Rc_add_37 : decode c_Rc_add 37 = .ok (.ireturn, 1) := by decide +kernel
theorem d_Rc_add_38 : decode c_Rc_add 38 = .ok (.aload_n 0, 1) := by decide +kernel
theorem d_Rc_add_39 : decode c_Rc_add 39 = .ok (.getfield 9, 3) := by decide +kernel
theorem d_Rc_add_42 : decode c_Rc_add 42 = .ok (.aload_n 0, 1) := by decide +kernel
theorem d_Rc_add_43 : decode c_Rc_add 43 = .ok (.getfield 29, 3) := by decide +kernel
theorem d_Rc_add_46 : decode c_Rc_add 46 = .ok (.lload_n 1, 1) := by decide +kernel
theorem d_Rc_add_47 : decode c_Rc_add 47 = .ok (.lastore, 1) := by decide +kernel
theorem d_Rc_add_48 : decode c_Rc_add 48 = .ok (.aload_n 0, 1) := by decide +kernel
theorem d_Rc_add_49 : decode c_Rc_add 49 = .ok (.getfield 15, 3) := by decide +kernel
theorem d_Rc_add_52 : decode c_Rc_add 52 = .ok (.aload_n 0, 1) := by decide +kernel
theorem d_Rc_add_53 : decode c_Rc_add 53 = .ok (.getfield 29, 3) := by decide +kernel
theorem d_Rc_add_56 : decode c_Rc_add 56 = .ok (.iconst 0, 1) := by decide +kernel
theorem d_Rc_add_57 : decode c_Rc_add 57 = .ok (.iastore, 1) := by decide +kernel
theorem d_Rc_add_58 : decode c_Rc_add 58 = .ok (.aload_n 0, 1) := by decide +kernel
theorem d_Rc_add_59 : decode c_Rc_add 59 = .ok (.dup, 1) := by decide +kernel
theorem d_Rc_add_60 : decode c_Rc_add 60 = .ok (.getfield 29, 3) := by decide +kernel
theorem d_Rc_add_63 : decode c_Rc_add 63 = .ok (.iconst 1, 1) := by decide +kernel
theorem d_Rc_add_64 : decode c_Rc_add 64 = .ok (.iadd, 1) := by decide +kernel
theorem d_Rc_add_65 : decode c_Rc_add 65 = .ok (.putfield 29, 3) := by decide +kernel
theorem d_Rc_add_68 : decode c_Rc_add 68 = .ok (.aload_n 0, 1) := by decide +kernel
theorem d_Rc_add_69 : decode c_Rc_add 69 = .ok (.getfield 29, 3) := by decide +kernel
theorem d_Rc_add_72 : decode c_Rc_add 72 = .ok (.ireturn, 1) := by decide +kernel
theorem d_Rc_addEntry_0 : decode c_Rc_addEntry 0 = .ok (.aload_n 0, 1) := by decide +kernel
theorem d_Rc_addEntry_1 : decode c_Rc_addEntry 1 = .ok (.iload_n 1, 1) := by decide +kernel
theorem d_Rc_addEntry_2 : decode c_Rc_addEntry 2 = .ok (.invokevirtual 33, 3) := by decide +kernel
theorem d_Rc_addEntry_5 : decode c_Rc_addEntry 5 = .ok (.ifCond .ne 5, 3) := by decide +kernel
theorem d_Rc_addEntry_8 : decode c_Rc_addEntry 8 = .ok (.iconst 0, 1) := by decide +kernel
theorem d_Rc_addEntry_9 : decode c_Rc_addEntry 9 = .ok (.ireturn, 1) := by decide +kernel
theorem d_Rc_addEntry_10 : decode c_Rc_addEntry 10 = .ok (.aload_n 0, 1) := by decide +kernel
theorem d_Rc_addEntry_11 : decode c_Rc_addEntry 11 = .ok (.getfield 15, 3) := by decide +kernel
theorem d_Rc_addEntry_14 : decode c_Rc_addEntry 14 = .ok (.iload_n 1, 1) := by decide +kernel
theorem d_Rc_addEntry_15 : decode c_Rc_addEntry 15 = .ok (.iconst 1, 1) := by decide +kernel
theorem d_Rc_addEntry_16 : decode c_Rc_addEntry 16 = .ok (.isub, 1) := by decide +kernel
theorem d_Rc_addEntry_17 : decode c_Rc_addEntry 17 = .ok (.iaload, 1) := by decide +kernel
theorem d_Rc_addEntry_18 : decode c_Rc_addEntry 18 = .ok (.istore 4, 2) := by decide +kernel
theorem d_Rc_addEntry_20 : decode c_Rc_addEntry 20 = .ok (.iload 4, 2) := by decide +kernel
theorem d_Rc_addEntry_22 : decode c_Rc_addEntry 22 = .ok (.ifCond .lt 10, 3) := by decide +kernel
theorem d_Rc_addEntry_25 : decode c_Rc_addEntry 25 = .ok (.iload 4, 2) := by decide +kernel
theorem d_Rc_addEntry_27 : decode c_Rc_addEntry 27 = .ok (.bipush 8, 2) := by decide +kernel
theorem d_Rc_addEntry_29 : decode c_Rc_addEntry 29 = .ok (.if_icmp .lt 5, 3) := by decide +kernel
theorem d_Rc_addEntry_32 : decode c_Rc_addEntry 32 = .ok (.iconst 0, 1) := by decide +kernel
theorem d_Rc_addEntry_33 : decode c_Rc_addEntry 33 = .ok (.ireturn, 1) := by decide +kernel
theorem d_Rc_addEntry_34 : decode c_Rc_addEntry 34 = .ok (.iload_n 1, 1) := by decide +kernel
theorem d_Rc_addEntry_35 : decode c_Rc_addEntry 35 = .ok (.iconst 1, 1) := by decide +kernel
theorem d_Rc_addEntry_36 : decode c_Rc_addEntry 36 = .ok (.isub, 1) := by decide +kernel
theorem d_Rc_addEntry_37 : decode c_Rc_addEntry 37 = .ok (.bipush 8, 2) := by decide +kernel
theorem d_Rc_addEntry_39 : decode c_Rc_addEntry 39 = .ok (.imul, 1) := by decide +kernel
theorem d_Rc_addEntry_40 : decode c_Rc_addEntry 40 = .ok (.iload 4, 2) := by decide +kernel
theorem d_Rc_addEntry_42 : decode c_Rc_addEntry 42 = .ok (.iadd, 1) := by decide +kernel
theorem d_Rc_addEntry_43 : decode c_Rc_addEntry 43 = .ok (.istore 5, 2) := by decide +kernel
theorem d_Rc_addEntry_45 : decode c_Rc_addEntry 45 = .ok (.aload_n 0, 1) := by decide +kernel
theorem d_Rc_addEntry_46 : decode c_Rc_addEntry 46 = .ok (.getfield 19, 3) := by decide +kernel
theorem d_Rc_addEntry_49 : decode c_Rc_addEntry 49 = .ok (.iload 5, 2) := by decide +kernel
theorem d_Rc_addEntry_51 : decode c_Rc_addEntry 51 = .ok (.iload_n 2, 1) := by decide +kernel
theorem d_Rc_addEntry_52 : decode c_Rc_addEntry 52 = .ok (.iastore, 1) := by decide +kernel
theorem d_Rc_addEntry_53 : decode c_Rc_addEntry 53 = .ok (.aload_n 0, 1) := by decide +kernel
theorem d_Rc_addEntry_54 : decode c_Rc_addEntry 54 = .ok (.getfield 22, 3) := by decide +kernel
theorem d_Rc_addEntry_57 : decode c_Rc_addEntry 57 = .ok (.iload 5, 2) := by decide +kernel
theorem d_Rc_addEntry_59 : decode c_Rc_addEntry 59 = .ok (.iload_n 3, 1) := by decide +kernel
theorem d_Rc_addEntry_60 : decode c_Rc_addEntry 60 = .ok (.iastore, 1) := by decide +kernel
theorem d_Rc_addEntry_61 : decode c_Rc_addEntry 61 = .ok (.aload_n 0, 1) := by decide +kernel
theorem d_Rc_addEntry_62 : decode c_Rc_addEntry 62 = .ok (.getfield 15, 3) := by decide +kernel
theorem d_Rc_addEntry_65 : decode c_Rc_addEntry 65 = .ok (.iload_n 1, 1) := by decide +kernel
theorem d_Rc_addEntry_66 : decode c_Rc_addEntry 66 = .ok (.iconst 1, 1) := by decide +kernel
theorem d_Rc_addEntry_67 : decode c_Rc_addEntry 67 = .ok (.isub, 1) := by decide +kernel
theorem d_Rc_addEntry_68 : decode c_Rc_addEntry 68 = .ok (.iload 4, 2) := by decide +kernel
theorem d_Rc_addEntry_70 : decode c_Rc_addEntry 70 = .ok (.iconst 1, 1) := by decide +kernel
theorem d_Rc_addEntry_71 : decode c_Rc_addEntry 71 = .ok (.iadd, 1) := by decide +kernel
theorem d_Rc_addEntry_72 : decode c_Rc_addEntry 72 = .ok (.iastore, 1) := by decide +kernel
theorem d_Rc_addEntry_73 : decode c_Rc_addEntry 73 = .ok (.iload 4, 2) := by decide +kernel
theorem d_Rc_addEntry_75 : decode c_Rc_addEntry 75 = .ok (.iconst 1, 1) := by decide +kernel
theorem d_Rc_addEntry_76 : decode c_Rc_addEntry 76 = .ok (.iadd, 1) := by decide +kernel
theorem d_Rc_addEntry_77 : decode c_Rc_addEntry 77 = .ok (.ireturn, 1) := by decide +kernel
theorem d_Rc_isMet_0 : decode c_Rc_isMet 0 = .ok (.iconst 0, 1) := by decide +kernel
theorem d_Rc_isMet_1 : decode c_Rc_isMet 1 = .ok (.istore_n 3, 1) := by decide +kernel
theorem d_Rc_isMet_2 : decode c_Rc_isMet 2 = .ok (.aload_n 1, 1) := by decide +kernel
theorem d_Rc_isMet_3 : decode c_Rc_isMet 3 = .ok (.invokevirtual 41, 3) := by decide +kernel
theorem d_Rc_isMet_6 : decode c_Rc_isMet 6 = .ok (.iconst 1, 1) := by decide +kernel
theorem d_Rc_isMet_7 : decode c_Rc_isMet 7 = .ok (.isub, 1) := by decide +kernel
theorem d_Rc_isMet_8 : decode c_Rc_isMet 8 = .ok (.istore 4, 2) := by decide +kernel
theorem d_Rc_isMet_10 : decode c_Rc_isMet 10 = .ok (.iload 4, 2) := by decide +kernel
theorem d_Rc_isMet_12 : decode c_Rc_isMet 12 = .ok (.ifCond .lt 96, 3) := by decide +kernel
theorem d_Rc_isMet_15 : decode c_Rc_isMet 15 = .ok (.aload_n 1, 1) := by decide +kernel
theorem d_Rc_isMet_16 : decode c_Rc_isMet 16 = .ok (.iload 4, 2) := by decide +kernel
theorem d_Rc_isMet_18 : decode c_Rc_isMet 18 = .ok (.invokevirtual 47, 3) := by decide +kernel
theorem d_Rc_isMet_21 : decode c_Rc_isMet 21 = .ok (.istore 5, 2) := by decide +kernel
theorem d_Rc_isMet_23 : decode c_Rc_isMet 23 = .ok (.iload 5, 2) := by decide +kernel
theorem d_Rc_isMet_25 : decode c_Rc_isMet 25 = .ok (.iconst 3, 1) := by decide +kernel
theorem d_Rc_isMet_26 : decode c_Rc_isMet 26 = .ok (.if_icmp .ge 33, 3) := by decide +kernel
theorem d_Rc_isMet_29 : decode c_Rc_isMet 29 = .ok (.iload_n 3, 1) := by decide +kernel
theorem d_Rc_isMet_30 : decode c_Rc_isMet 30 = .ok (.ifCond .lt 72, 3) := by decide +kernel
theorem d_Rc_isMet_33 : decode c_Rc_isMet 33 = .ok (.iload_n 3, 1) := by decide +kernel
theorem d_Rc_isMet_34 : decode c_Rc_isMet 34 = .ok (.bipush 40, 2) := by decide +kernel
theorem d_Rc_isMet_36 : decode c_Rc_isMet 36 = .ok (.if_icmp .ge 66, 3) := by decide +kernel
theorem d_Rc_isMet_39 : decode c_Rc_isMet 39 = .ok (.aload_n 0, 1) := by decide +kernel
theorem d_Rc_isMet_40 : decode c_Rc_isMet 40 = .ok (.getfield 25, 3) := by decide +kernel
theorem d_Rc_isMet_43 : decode c_Rc_isMet 43 = .ok (.iload_n 3, 1) := by decide +kernel
theorem d_Rc_isMet_44 : decode c_Rc_isMet 44 = .ok (.aload_n 0, 1) := by decide +kernel
theorem d_Rc_isMet_45 : decode c_Rc_isMet 45 = .ok (.aload_n 1, 1) := by decide +kernel
theorem d_Rc_isMet_46 : decode c_Rc_isMet 46 = .ok (.iload 4, 2) := by decide +kernel
theorem d_Rc_isMet_48 : decode c_Rc_isMet 48 = .ok (.iload_n 2, 1) := by decide +kernel
theorem d_Rc_isMet_49 : decode c_Rc_isMet 49 = .ok (.invokevirtual 51, 3) := by decide +kernel
theorem d_Rc_isMet_52 : decode c_Rc_isMet 52 = .ok (.bastore, 1) := by decide +kernel
theorem d_Rc_isMet_53 : decode c_Rc_isMet 53 = .ok (.iinc 3 1, 3) := by decide +kernel
theorem d_Rc_isMet_56 : decode c_Rc_isMet 56 = .ok (.goto 46, 3) := by decide +kernel
theorem d_Rc_isMet_59 : decode c_Rc_isMet 59 = .ok (.iload_n 3, 1) := by decide +kernel
theorem d_Rc_isMet_60 : decode c_Rc_isMet 60 = .ok (.iconst 2, 1) := by decide +kernel
theorem d_Rc_isMet_61 : decode c_Rc_isMet 61 = .ok (.if_icmp .lt 41, 3) := by decide +kernel
theorem d_Rc_isMet_64 : decode c_Rc_isMet 64 = .ok (.iload_n 3, 1) := by decide +kernel
theorem d_Rc_isMet_65 : decode c_Rc_isMet 65 = .ok (.bipush 40, 2) := by decide +kernel
theorem d_Rc_isMet_67 : decode c_Rc_isMet 67 = .ok (.if_icmp .gt 35, 3) := by decide +kernel
theorem d_Rc_isMet_70 : decode c_Rc_isMet 70 = .ok (.aload_n 0, 1) := by decide +kernel
theorem d_Rc_isMet_71 : decode c_Rc_isMet 71 = .ok (.getfield 25, 3) := by decide +kernel
theorem d_Rc_isMet_74 : decode c_Rc_isMet 74 = .ok (.iload_n 3, 1) := by decide +kernel
theorem d_Rc_isMet_75 : decode c_Rc_isMet 75 = .ok (.iconst 2, 1) := by decide +kernel
theorem d_Rc_isMet_76 : decode c_Rc_isMet 76 = .ok (.isub, 1) := by decide +kernel
theorem d_Rc_isMet_77 : decode c_Rc_isMet 77 = .ok (.iload 5, 2) := by decide +kernel
theorem d_Rc_isMet_79 : decode c_Rc_isMet 79 = .ok (.aload_n 0, 1) := by decide +kernel
theorem d_Rc_isMet_80 : decode c_Rc_isMet 80 = .ok (.getfield 25, 3) := by decide +kernel
theorem d_Rc_isMet_83 : decode c_Rc_isMet 83 = .ok (.iload_n 3, 1) := by decide +kernel
theorem d_Rc_isMet_84 : decode c_Rc_isMet 84 = .ok (.iconst 1, 1) := by decide +kernel
theorem d_Rc_isMet_85 : decode c_Rc_isMet 85 = .ok (.isub, 1) := by decide +kernel
theorem d_Rc_isMet_86 : decode c_Rc_isMet 86 = .ok (.baload, 1) := by decide +kernel
theorem d_Rc_isMet_87 : decode c_Rc_isMet 87 = .ok (.aload_n 0, 1) := by decide +kernel
theorem d_Rc_isMet_88 : decode c_Rc_isMet 88 = .ok (.getfield 25, 3) := by decide +kernel
theorem d_Rc_isMet_91 : decode c_Rc_isMet 91 = .ok (.iload_n 3, 1) := by decide +kernel
theorem d_Rc_isMet_92 : decode c_Rc_isMet 92 = .ok (.iconst 2, 1) := by decide +kernel
theorem d_Rc_isMet_93 : decode c_Rc_isMet 93 = .ok (.isub, 1) := by decide +kernel
theorem d_Rc_isMet_94 : decode c_Rc_isMet 94 = .ok (.baload, 1) := by decide +kernel
theorem d_Rc_isMet_95 : decode c_Rc_isMet 95 = .ok (.invokestatic 55, 3) := by decide +kernel
theorem d_Rc_isMet_98 : decode c_Rc_isMet 98 = .ok (.bastore, 1) := by decide +kernel
theorem d_Rc_isMet_99 : decode c_Rc_isMet 99 = .ok (.iinc 3 (-1), 3) := by decide +kernel
theorem d_Rc_isMet_102 : decode c_Rc_isMet 102 = .ok (.iinc 4 (-1), 3) := by decide +kernel
theorem d_Rc_isMet_105 : decode c_Rc_isMet 105 = .ok (.goto (-95), 3) := by decide +kernel
theorem d_Rc_isMet_108 : decode c_Rc_isMet 108 = .ok (.iload_n 3, 1) := by decide +kernel
theorem d_Rc_isMet_109 : decode c_Rc_isMet 109 = .ok (.iconst 1, 1) := by decide +kernel
theorem d_Rc_isMet_110 : decode c_Rc_isMet 110 = .ok (.if_icmp .ne 16, 3) := by decide +kernel
theorem d_Rc_isMet_113 : decode c_Rc_isMet 113 = .ok (.aload_n 0, 1) := by decide +kernel
theorem d_Rc_isMet_114 : decode c_Rc_isMet 114 = .ok (.getfield 25, 3) := by decide +kernel
theorem d_Rc_isMet_117 : decode c_Rc_isMet 117 = .ok (.iconst 0, 1) := by decide +kernel
theorem d_Rc_isMet_118 : decode c_Rc_isMet 118 = .ok (.baload, 1) := by decide +kernel
theorem d_Rc_isMet_119 : decode c_Rc_isMet 119 = .ok (.ifCond .eq 7, 3) := by decide +kernel
theorem d_Rc_isMet_122 : decode c_Rc_isMet 122 = .ok (.iconst 1, 1) := by decide +kernel
theorem d_Rc_isMet_123 : decode c_Rc_isMet 123 = .ok (.goto 4, 3) := by decide +kernel
theorem d_Rc_isMet_126 : decode c_Rc_isMet 126 = .ok (.iconst 0, 1) := by decide +kernel
theorem d_Rc_isMet_127 : decode c_Rc_isMet 127 = .ok (.ireturn, 1) := by decide +kernel
theorem d_Rc_isJoinedMet_0 : decode c_Rc_isJoinedMet 0 = .ok (.iload_n 0, 1) := by decide +kernel
theorem d_Rc_isJoinedMet_1 : decode c_Rc_isJoinedMet 1 = .ok (.iconst 3, 1) := by decide +kernel
theorem d_Rc_isJoinedMet_2 : decode c_Rc_isJoinedMet 2 = .ok (.if_icmp .ne 17, 3) := by decide +kernel
theorem d_Rc_isJoinedMet_5 : decode c_Rc_isJoinedMet 5 = .ok (.iload_n 1, 1) := by decide +kernel
theorem d_Rc_isJoinedMet_6 : decode c_Rc_isJoinedMet 6 = .ok (.ifCond .eq 11, 3) := by decide +kernel
theorem d_Rc_isJoinedMet_9 : decode c_Rc_isJoinedMet 9 = .ok (.iload_n 2, 1) := by decide +kernel
theorem d_Rc_isJoinedMet_10 : decode c_Rc_isJoinedMet 10 = .ok (.ifCond .eq 7, 3) := by decide +kernel
theorem d_Rc_isJoinedMet_13 : decode c_Rc_isJoinedMet 13 = .ok (.iconst 1, 1) := by decide +kernel
theorem d_Rc_isJoinedMet_14 : decode c_Rc_isJoinedMet 14 = .ok (.goto 4, 3) := by decide +kernel
theorem d_Rc_isJoinedMet_17 : decode c_Rc_isJoinedMet 17 = .ok (.iconst 0, 1) := by decide +kernel
theorem d_Rc_isJoinedMet_18 : decode c_Rc_isJoinedMet 18 = .ok (.ireturn, 1) := by decide +kernel
theorem d_Rc_isJoinedMet_19 : decode c_Rc_isJoinedMet 19 = .ok (.iload_n 0, 1) := by decide +kernel
theorem d_Rc_isJoinedMet_20 : decode c_Rc_isJoinedMet 20 = .ok (.iconst 4, 1) := by decide +kernel
theorem d_Rc_isJoinedMet_21 : decode c_Rc_isJoinedMet 21 = .ok (.if_icmp .ne 19, 3) := by decide +kernel
theorem d_Rc_isJoinedMet_24 : decode c_Rc_isJoinedMet 24 = .ok (.iload_n 1, 1) := by decide +kernel
theorem d_Rc_isJoinedMet_25 : decode c_Rc_isJoinedMet 25 = .ok (.ifCond .ne 7, 3) := by decide +kernel
theorem d_Rc_isJoinedMet_28 : decode c_Rc_isJoinedMet 28 = .ok (.iload_n 2, 1) := by decide +kernel
theorem d_Rc_isJoinedMet_29 : decode c_Rc_isJoinedMet 29 = .ok (.ifCond .eq 7, 3) := by decide +kernel
theorem d_Rc_isJoinedMet_32 : decode c_Rc_isJoinedMet 32 = .ok (.iconst 1, 1) := by decide +kernel
theorem d_Rc_isJoinedMet_33 : decode c_Rc_isJoinedMet 33 = .ok (.goto 20, 3) := by decide +kernel
theorem d_Rc_isJoinedMet_36 : decode c_Rc_isJoinedMet 36 = .ok (.iconst 0, 1) := by decide +kernel
theorem d_Rc_isJoinedMet_37 : decode c_Rc_isJoinedMet 37 = .ok (.goto 16, 3) := by decide +kernel
theorem d_Rc_isJoinedMet_40 : decode c_Rc_isJoinedMet 40 = .ok (.iload_n 1, 1) := by decide +kernel
theorem d_Rc_isJoinedMet_41 : decode c_Rc_isJoinedMet 41 = .ok (.ifCond .eq 11, 3) := by decide +kernel
theorem d_Rc_isJoinedMet_44 : decode c_Rc_isJoinedMet 44 = .ok (.iload_n 2, 1) := by decide +kernel
theorem d_Rc_isJoinedMet_45 : decode c_Rc_isJoinedMet 45 = .ok (.ifCond .ne 7, 3) := by decide +kernel
theorem d_Rc_isJoinedMet_48 : decode c_Rc_isJoinedMet 48 = .ok (.iconst 1, 1) := by decide +kernel
theorem d_Rc_isJoinedMet_49 : decode c_Rc_isJoinedMet 49 = .ok (.goto 4, 3) := by decide +kernel
theorem d_Rc_isJoinedMet_52 : decode c_Rc_isJoinedMet 52 = .ok (.iconst 0, 1) := by decide +kernel
theorem d_Rc_isJoinedMet_53 : decode c_Rc_isJoinedMet 53 = .ok (.ireturn, 1) := by decide +kernel
theorem d_Rc_isSimpleMet_0 : decode c_Rc_isSimpleMet 0 = .ok (.aload_n 0, 1) := by decide +kernel
theorem d_Rc_isSimpleMet_1 : decode c_Rc_isSimpleMet 1 = .ok (.iload_n 3, 1) := by decide +kernel
theorem d_Rc_isSimpleMet_2 : decode c_Rc_isSimpleMet 2 = .ok (.invokevirtual 33, 3) := by decide +kernel
theorem d_Rc_isSimpleMet_5 : decode c_Rc_isSimpleMet 5 = .ok (.ifCond .ne 5, 3) := by decide +kernel
theorem d_Rc_isSimpleMet_8 : decode c_Rc_isSimpleMet 8 = .ok (.iconst 0, 1) := by decide +kernel
theorem d_Rc_isSimpleMet_9 : decode c_Rc_isSimpleMet 9 = .ok (.ireturn, 1) := by decide +kernel
theorem d_Rc_isSimpleMet_10 : decode c_Rc_isSimpleMet 10 = .ok (.iload_n 3, 1) := by decide +kernel
theorem d_Rc_isSimpleMet_11 : decode c_Rc_isSimpleMet 11 = .ok (.iconst 1, 1) := by decide +kernel
theorem d_Rc_isSimpleMet_12 : decode c_Rc_isSimpleMet 12 = .ok (.isub, 1) := by decide +kernel
theorem d_Rc_isSimpleMet_13 : decode c_Rc_isSimpleMet 13 = .ok (.bipush 8, 2) := by decide +kernel
theorem d_Rc_isSimpleMet_15 : decode c_Rc_isSimpleMet 15 = .ok (.imul, 1) := by decide +kernel
theorem d_Rc_isSimpleMet_16 : decode c_Rc_isSimpleMet 16 = .ok (.istore 4, 2) := by decide +kernel
theorem d_Rc_isSimpleMet_18 : decode c_Rc_isSimpleMet 18 = .ok (.aload_n 0, 1) := by decide +kernel
theorem d_Rc_isSimpleMet_19 : decode c_Rc_isSimpleMet 19 = .ok (.getfield 15, 3) := by decide +kernel
theorem d_Rc_isSimpleMet_22 : decode c_Rc_isSimpleMet 22 = .ok (.iload_n 3, 1) := by decide +kernel
theorem d_Rc_isSimpleMet_23 : decode c_Rc_isSimpleMet 23 = .ok (.iconst 1, 1) := by decide +kernel
theorem d_Rc_isSimpleMet_24 : decode c_Rc_isSimpleMet 24 = .ok (.isub, 1) := by decide +kernel
theorem d_Rc_isSimpleMet_25 : decode c_Rc_isSimpleMet 25 = .ok (.iaload, 1) := by decide +kernel
theorem d_Rc_isSimpleMet_26 : decode c_Rc_isSimpleMet 26 = .ok (.bipush 8, 2) := by decide +kernel
theorem d_Rc_isSimpleMet_28 : decode c_Rc_isSimpleMet 28 = .ok (.invokestatic 59, 3) := by decide +kernel
theorem d_Rc_isSimpleMet_31 : decode c_Rc_isSimpleMet 31 = .ok (.istore 5, 2) := by decide +kernel
theorem d_Rc_isSimpleMet_33 : decode c_Rc_isSimpleMet 33 = .ok (.iconst 0, 1) := by decide +kernel
theorem d_Rc_isSimpleMet_34 : decode c_Rc_isSimpleMet 34 = .ok (.istore 6, 2) := by decide +kernel
theorem d_Rc_isSimpleMet_36 : decode c_Rc_isSimpleMet 36 = .ok (.iload 6, 2) := by decide +kernel
theorem d_Rc_isSimpleMet_38 : decode c_Rc_isSimpleMet 38 = .ok (.iload 5, 2) := by decide +kernel
theorem d_Rc_isSimpleMet_40 : decode c_Rc_isSimpleMet 40 = .ok (.if_icmp .ge 47, 3) := by decide +kernel
theorem d_Rc_isSimpleMet_43 : decode c_Rc_isSimpleMet 43 = .ok (.aload_n 0, 1) := by decide +kernel
theorem d_Rc_isSimpleMet_44 : decode c_Rc_isSimpleMet 44 = .ok (.getfield 19, 3) := by decide +kernel
theorem d_Rc_isSimpleMet_47 : decode c_Rc_isSimpleMet 47 = .ok (.iload 4, 2) := by decide +kernel
theorem d_Rc_isSimpleMet_49 : decode c_Rc_isSimpleMet 49 = .ok (.iload 6, 2) := by decide +kernel
theorem d_Rc_isSimpleMet_51 : decode c_Rc_isSimpleMet 51 = .ok (.iadd, 1) := by decide +kernel
theorem d_Rc_isSimpleMet_52 : decode c_Rc_isSimpleMet 52 = .ok (.iaload, 1) := by decide +kernel
theorem d_Rc_isSimpleMet_53 : decode c_Rc_isSimpleMet 53 = .ok (.aload_n 1, 1) := by decide +kernel
theorem d_Rc_isSimpleMet_54 : decode c_Rc_isSimpleMet 54 = .ok (.iload_n 2, 1) := by decide +kernel
theorem d_Rc_isSimpleMet_55 : decode c_Rc_isSimpleMet 55 = .ok (.invokevirtual 65, 3) := by decide +kernel
theorem d_Rc_isSimpleMet_58 : decode c_Rc_isSimpleMet 58 = .ok (.if_icmp .ne 23, 3) := by decide +kernel
theorem d_Rc_isSimpleMet_61 : decode c_Rc_isSimpleMet 61 = .ok (.aload_n 1, 1) := by decide +kernel
theorem d_Rc_isSimpleMet_62 : decode c_Rc_isSimpleMet 62 = .ok (.iload_n 2, 1) := by decide +kernel
theorem d_Rc_isSimpleMet_63 : decode c_Rc_isSimpleMet 63 = .ok (.aload_n 0, 1) := by decide +kernel
theorem d_Rc_isSimpleMet_64 : decode c_Rc_isSimpleMet 64 = .ok (.getfield 22, 3) := by decide +kernel
theorem d_Rc_isSimpleMet_67 : decode c_Rc_isSimpleMet 67 = .ok (.iload 4, 2) := by decide +kernel
theorem d_Rc_isSimpleMet_69 : decode c_Rc_isSimpleMet 69 = .ok (.iload 6, 2) := by decide +kernel
theorem d_Rc_isSimpleMet_71 : decode c_Rc_isSimpleMet 71 = .ok (.iadd, 1) := by decide +kernel
theorem d_Rc_isSimpleMet_72 : decode c_Rc_isSimpleMet 72 = .ok (.iaload, 1) := by decide +kernel
theorem d_Rc_isSimpleMet_73 : decode c_Rc_isSimpleMet 73 = .ok (.invokestatic 68, 3) := by decide +kernel
theorem d_Rc_isSimpleMet_76 : decode c_Rc_isSimpleMet 76 = .ok (.ifCond .eq 5, 3) := by decide +kernel
theorem d_Rc_isSimpleMet_79 : decode c_Rc_isSimpleMet 79 = .ok (.iconst 1, 1) := by decide +kernel
theorem d_Rc_isSimpleMet_80 : decode c_Rc_isSimpleMet 80 = .ok (.ireturn, 1) := by decide +kernel
theorem d_Rc_isSimpleMet_81 : decode c_Rc_isSimpleMet 81 = .ok (.iinc 6 1, 3) := by decide +kernel
theorem d_Rc_isSimpleMet_84 : decode c_Rc_isSimpleMet 84 = .ok (.goto (-48), 3) := by decide +kernel
theorem d_Rc_isSimpleMet_87 : decode c_Rc_isSimpleMet 87 = .ok (.iconst 0, 1) := by decide +kernel
theorem d_Rc_isSimpleMet_88 : decode c_Rc_isSimpleMet 88 = .ok (.ireturn, 1) := by decide +kernel
theorem d_Rc_isValueMet_0 : decode c_Rc_isValueMet 0 = .ok (.aload_n 0, 1) := by decide +kernel
theorem d_Rc_isValueMet_1 : decode c_Rc_isValueMet 1 = .ok (.iload_n 1, 1) := by decide +kernel
theorem d_Rc_isValueMet_2 : decode c_Rc_isValueMet 2 = .ok (.invokevirtual 71, 3) := by decide +kernel
theorem d_Rc_isValueMet_5 : decode c_Rc_isValueMet 5 = .ok (.istore_n 3, 1) := by decide +kernel
theorem d_Rc_isValueMet_6 : decode c_Rc_isValueMet 6 = .ok (.aload_n 0, 1) := by decide +kernel
theorem d_Rc_isValueMet_7 : decode c_Rc_isValueMet 7 = .ok (.iload_n 1, 1) := by decide +kernel
theorem d_Rc_isValueMet_8 : decode c_Rc_isValueMet 8 = .ok (.invokevirtual 47, 3) := by decide +kernel
theorem d_Rc_isValueMet_11 : decode c_Rc_isValueMet 11 = .ok (.lookupswitch 56 #[(0, 25), (1, 36)], 25) := by decide +kernel
theorem d_Rc_isValueMet_36 : decode c_Rc_isValueMet 36 = .ok (.iload_n 2, 1) := by decide +kernel
theorem d_Rc_isValueMet_37 : decode c_Rc_isValueMet 37 = .ok (.iload_n 3, 1) := by decide +kernel
theorem d_Rc_isValueMet_38 : decode c_Rc_isValueMet 38 = .ok (.if_icmp .ne 7, 3) := by decide +kernel
theorem d_Rc_isValueMet_41 : decode c_Rc_isValueMet 41 = .ok (.iconst 1, 1) := by decide +kernel
theorem d_Rc_isValueMet_42 : decode c_Rc_isValueMet 42 = .ok (.goto 4, 3) := by decide +kernel
theorem d_Rc_isValueMet_45 : decode c_Rc_isValueMet 45 = .ok (.iconst 0, 1) := by decide +kernel
theorem d_Rc_isValueMet_46 : decode c_Rc_isValueMet 46 = .ok (.ireturn, 1) := by decide +kernel
theorem d_Rc_isValueMet_47 : decode c_Rc_isValueMet 47 = .ok (.iload_n 2, 1) := by decide +kernel
theorem d_Rc_isValueMet_48 : decode c_Rc_isValueMet 48 = .ok (.iload_n 3, 1) := by decide +kernel
theorem d_Rc_isValueMet_49 : decode c_Rc_isValueMet 49 = .ok (.if_icmp .lt 16, 3) := by decide +kernel
theorem d_Rc_isValueMet_52 : decode c_Rc_isValueMet 52 = .ok (.iload_n 2, 1) := by decide +kernel
theorem d_Rc_isValueMet_53 : decode c_Rc_isValueMet 53 = .ok (.aload_n 0, 1) := by decide +kernel
theorem d_Rc_isValueMet_54 : decode c_Rc_isValueMet 54 = .ok (.iload_n 1, 1) := by decide +kernel
theorem d_Rc_isValueMet_55 : decode c_Rc_isValueMet 55 = .ok (.invokevirtual 74, 3) := by decide +kernel
theorem d_Rc_isValueMet_58 : decode c_Rc_isValueMet 58 = .ok (.if_icmp .gt 7, 3) := by decide +kernel
theorem d_Rc_isValueMet_61 : decode c_Rc_isValueMet 61 = .ok (.iconst 1, 1) := by decide +kernel
theorem d_Rc_isValueMet_62 : decode c_Rc_isValueMet 62 = .ok (.goto 4, 3) := by decide +kernel
theorem d_Rc_isValueMet_65 : decode c_Rc_isValueMet 65 = .ok (.iconst 0, 1) := by decide +kernel
theorem d_Rc_isValueMet_66 : decode c_Rc_isValueMet 66 = .ok (.ireturn, 1) := by decide +kernel
theorem d_Rc_isValueMet_67 : decode c_Rc_isValueMet 67 = .ok (.iload_n 3, 1) := by decide +kernel
theorem d_Rc_isValueMet_68 : decode c_Rc_isValueMet 68 = .ok (.iload_n 2, 1) := by decide +kernel
theorem d_Rc_isValueMet_69 : decode c_Rc_isValueMet 69 = .ok (.invokestatic 77, 3) := by decide +kernel
theorem d_Rc_isValueMet_72 : decode c_Rc_isValueMet 72 = .ok (.ireturn, 1) := by decide +kernel
theorem d_Rc_isBeginning_0 : decode c_Rc_isBeginning 0 = .ok (.iload_n 0, 1) := by decide +kernel
theorem d_Rc_isBeginning_1 : decode c_Rc_isBeginning 1 = .ok (.ifCond .ne 13, 3) := by decide +kernel
theorem d_Rc_isBeginning_4 : decode c_Rc_isBeginning 4 = .ok (.iload_n 1, 1) := by decide +kernel
theorem d_Rc_isBeginning_5 : decode c_Rc_isBeginning 5 = .ok (.ifCond .ne 7, 3) := by decide +kernel
theorem d_Rc_isBeginning_8 : decode c_Rc_isBeginning 8 = .ok (.iconst 1, 1) := by decide +kernel
theorem d_Rc_isBeginning_9 : decode c_Rc_isBeginning 9 = .ok (.goto 4, 3) := by decide +kernel
theorem d_Rc_isBeginning_12 : decode c_Rc_isBeginning 12 = .ok (.iconst 0, 1) := by decide +kernel
theorem d_Rc_isBeginning_13 : decode c_Rc_isBeginning 13 = .ok (.ireturn, 1) := by decide +kernel
theorem d_Rc_isBeginning_14 : decode c_Rc_isBeginning 14 = .ok (.iload_n 1, 1) := by decide +kernel
theorem d_Rc_isBeginning_15 : decode c_Rc_isBeginning 15 = .ok (.istore_n 2, 1) := by decide +kernel
theorem d_Rc_isBeginning_16 : decode c_Rc_isBeginning 16 = .ok (.iconst 0, 1) := by decide +kernel
theorem d_Rc_isBeginning_17 : decode c_Rc_isBeginning 17 = .ok (.istore_n 3, 1) := by decide +kernel
theorem d_Rc_isBeginning_18 : decode c_Rc_isBeginning 18 = .ok (.iload_n 3, 1) := by decide +kernel
theorem d_Rc_isBeginning_19 : decode c_Rc_isBeginning 19 = .ok (.iconst 5, 1) := by decide +kernel
theorem d_Rc_isBeginning_20 : decode c_Rc_isBeginning 20 = .ok (.if_icmp .ge 19, 3) := by decide +kernel
theorem d_Rc_isBeginning_23 : decode c_Rc_isBeginning 23 = .ok (.iload_n 2, 1) := by decide +kernel
theorem d_Rc_isBeginning_24 : decode c_Rc_isBeginning 24 = .ok (.iload_n 0, 1) := by decide +kernel
theorem d_Rc_isBeginning_25 : decode c_Rc_isBeginning 25 = .ok (.if_icmp .le 14, 3) := by decide +kernel
theorem d_Rc_isBeginning_28 : decode c_Rc_isBeginning 28 = .ok (.iload_n 2, 1) := by decide +kernel
theorem d_Rc_isBeginning_29 : decode c_Rc_isBeginning 29 = .ok (.bipush 10, 2) := by decide +kernel
theorem d_Rc_isBeginning_31 : decode c_Rc_isBeginning 31 = .ok (.idiv, 1) := by decide +kernel
theorem d_Rc_isBeginning_32 : decode c_Rc_isBeginning 32 = .ok (.istore_n 2, 1) := by decide +kernel
theorem d_Rc_isBeginning_33 : decode c_Rc_isBeginning 33 = .ok (.iinc 3 1, 3) := by decide +kernel
theorem d_Rc_isBeginning_36 : decode c_Rc_isBeginning 36 = .ok (.goto (-18), 3) := by decide +kernel
theorem d_Rc_isBeginning_39 : decode c_Rc_isBeginning 39 = .ok (.iload_n 2, 1) := by decide +kernel
theorem d_Rc_isBeginning_40 : decode c_Rc_isBeginning 40 = .ok (.iload_n 0, 1) := by decide +kernel
theorem d_Rc_isBeginning_41 : decode c_Rc_isBeginning 41 = .ok (.if_icmp .ne 7, 3) := by decide +kernel
theorem d_Rc_isBeginning_44 : decode c_Rc_isBeginning 44 = .ok (.iconst 1, 1) := by decide +kernel
theorem d_Rc_isBeginning_45 : decode c_Rc_isBeginning 45 = .ok (.goto 4, 3) := by decide +kernel
theorem d_Rc_isBeginning_48 : decode c_Rc_isBeginning 48 = .ok (.iconst 0, 1) := by decide +kernel
theorem d_Rc_isBeginning_49 : decode c_Rc_isBeginning 49 = .ok (.ireturn, 1) := by decide +kernel
