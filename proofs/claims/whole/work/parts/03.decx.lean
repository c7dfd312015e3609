theorem dX0_init_0 : decode cX0_init 0 = .ok (.aload_n 0, 1) := by decide +kernel
theorem dX0_init_1 : decode cX0_init 1 = .ok (.invokespecial 3, 3) := by decide +kernel
theorem dX0_init_4 : decode cX0_init 4 = .ok (.aload_n 0, 1) := by decide +kernel
theorem dX0_init_5 : decode cX0_init 5 = .ok (.sipush 300, 3) := by decide +kernel
theorem dX0_init_8 : decode cX0_init 8 = .ok (.newarray .int, 2) := by decide +kernel
theorem dX0_init_10 : decode cX0_init 10 = .ok (.putfield 9, 3) := by decide +kernel
theorem dX0_init_13 : decode cX0_init 13 = .ok (.aload_n 0, 1) := by decide +kernel
theorem dX0_init_14 : decode cX0_init 14 = .ok (.sipush 300, 3) := by decide +kernel
theorem dX0_init_17 : decode cX0_init 17 = .ok (.newarray .int, 2) := by decide +kernel
theorem dX0_init_19 : decode cX0_init 19 = .ok (.putfield 15, 3) := by decide +kernel
theorem dX0_init_22 : decode cX0_init 22 = .ok (.aload_n 0, 1) := by decide +kernel
theorem dX0_init_23 : decode cX0_init 23 = .ok (.iconst 0, 1) := by decide +kernel
theorem dX0_init_24 : decode cX0_init 24 = .ok (.putfield 18, 3) := by decide +kernel
theorem dX0_init_27 : decode cX0_init 27 = .ok (.return_, 1) := by decide +kernel
theorem dX0_count_0 : decode cX0_count 0 = .ok (.aload_n 0, 1) := by decide +kernel
theorem dX0_count_1 : decode cX0_count 1 = .ok (.getfield 18, 3) := by decide +kernel
theorem dX0_count_4 : decode cX0_count 4 = .ok (.ireturn, 1) := by decide +kernel
theorem dX0_clear_0 : decode cX0_clear 0 = .ok (.aload_n 0, 1) := by decide +kernel
theorem dX0_clear_1 : decode cX0_clear 1 = .ok (.iconst 0, 1) := by decide +kernel
theorem dX0_clear_2 : decode cX0_clear 2 = .ok (.putfield 18, 3) := by decide +kernel
theorem dX0_clear_5 : decode cX0_clear 5 = .ok (.return_, 1) := by decide +kernel
theorem dX0_add_0 : decode cX0_add 0 = .ok (.aload_n 0, 1) := by decide +kernel
theorem dX0_add_1 : decode cX0_add 1 = .ok (.getfield 18, 3) := by decide +kernel
theorem dX0_add_4 : decode cX0_add 4 = .ok (.ifCond .lt 43, 3) := by decide +kernel
theorem dX0_add_7 : decode cX0_add 7 = .ok (.aload_n 0, 1) := by decide +kernel
theorem dX0_add_8 : decode cX0_add 8 = .ok (.getfield 18, 3) := by decide +kernel
theorem dX0_add_11 : decode cX0_add 11 = .ok (.sipush 300, 3) := by decide +kernel
theorem dX0_add_14 : decode cX0_add 14 = .ok (.if_icmp .ge 33, 3) := by decide +kernel
theorem dX0_add_17 : decode cX0_add 17 = .ok (.aload_n 0, 1) := by decide +kernel
theorem dX0_add_18 : decode cX0_add 18 = .ok (.getfield 9, 3) := by decide +kernel
theorem dX0_add_21 : decode cX0_add 21 = .ok (.aload_n 0, 1) := by decide +kernel
theorem dX0_add_22 : decode cX0_add 22 = .ok (.getfield 18, 3) := by decide +kernel
theorem dX0_add_25 : decode cX0_add 25 = .ok (.iload_n 1, 1) := by decide +kernel
theorem dX0_add_26 : decode cX0_add 26 = .ok (.iastore, 1) := by decide +kernel
theorem dX0_add_27 : decode cX0_add 27 = .ok (.aload_n 0, 1) := by decide +kernel
theorem dX0_add_28 : decode cX0_add 28 = .ok (.getfield 15, 3) := by decide +kernel
theorem dX0_add_31 : decode cX0_add 31 = .ok (.aload_n 0, 1) := by decide +kernel
theorem dX0_add_32 : decode cX0_add 32 = .ok (.getfield 18, 3) := by decide +kernel
theorem dX0_add_35 : decode cX0_add 35 = .ok (.iconst 1, 1) := by decide +kernel
theorem dX0_add_36 : decode cX0_add 36 = .ok (.iastore, 1) := by decide +kernel
theorem dX0_add_37 : decode cX0_add 37 = .ok (.aload_n 0, 1) := by decide +kernel
theorem dX0_add_38 : decode cX0_add 38 = .ok (.dup, 1) := by decide +kernel
theorem dX0_add_39 : decode cX0_add 39 = .ok (.getfield 18, 3) := by decide +kernel
theorem dX0_add_42 : decode cX0_add 42 = .ok (.iconst 1, 1) := by decide +kernel
theorem dX0_add_43 : decode cX0_add 43 = .ok (.iadd, 1) := by decide +kernel
theorem dX0_add_44 : decode cX0_add 44 = .ok (.putfield 18, 3) := by decide +kernel
theorem dX0_add_47 : decode cX0_add 47 = .ok (.return_, 1) := by decide +kernel
theorem dX0_addToGroup_0 : decode cX0_addToGroup 0 = .ok (.aload_n 0, 1) := by decide +kernel
theorem dX0_addToGroup_1 : decode cX0_addToGroup 1 = .ok (.getfield 18, 3) := by decide +kernel
theorem dX0_addToGroup_4 : decode cX0_addToGroup 4 = .ok (.iconst 1, 1) := by decide +kernel
theorem dX0_addToGroup_5 : decode cX0_addToGroup 5 = .ok (.isub, 1) := by decide +kernel
theorem dX0_addToGroup_6 : decode cX0_addToGroup 6 = .ok (.istore_n 2, 1) := by decide +kernel
theorem dX0_addToGroup_7 : decode cX0_addToGroup 7 = .ok (.iload_n 2, 1) := by decide +kernel
theorem dX0_addToGroup_8 : decode cX0_addToGroup 8 = .ok (.ifCond .lt 33, 3) := by decide +kernel
theorem dX0_addToGroup_11 : decode cX0_addToGroup 11 = .ok (.iload_n 2, 1) := by decide +kernel
theorem dX0_addToGroup_12 : decode cX0_addToGroup 12 = .ok (.sipush 300, 3) := by decide +kernel
theorem dX0_addToGroup_15 : decode cX0_addToGroup 15 = .ok (.if_icmp .ge 26, 3) := by decide +kernel
theorem dX0_addToGroup_18 : decode cX0_addToGroup 18 = .ok (.aload_n 0, 1) := by decide +kernel
theorem dX0_addToGroup_19 : decode cX0_addToGroup 19 = .ok (.getfield 9, 3) := by decide +kernel
theorem dX0_addToGroup_22 : decode cX0_addToGroup 22 = .ok (.iload_n 2, 1) := by decide +kernel
theorem dX0_addToGroup_23 : decode cX0_addToGroup 23 = .ok (.iaload, 1) := by decide +kernel
theorem dX0_addToGroup_24 : decode cX0_addToGroup 24 = .ok (.iload_n 1, 1) := by decide +kernel
theorem dX0_addToGroup_25 : decode cX0_addToGroup 25 = .ok (.if_icmp .ne 16, 3) := by decide +kernel
theorem dX0_addToGroup_28 : decode cX0_addToGroup 28 = .ok (.aload_n 0, 1) := by decide +kernel
theorem dX0_addToGroup_29 : decode cX0_addToGroup 29 = .ok (.getfield 15, 3) := by decide +kernel
theorem dX0_addToGroup_32 : decode cX0_addToGroup 32 = .ok (.iload_n 2, 1) := by decide +kernel
theorem dX0_addToGroup_33 : decode cX0_addToGroup 33 = .ok (.dup2, 1) := by decide +kernel
theorem dX0_addToGroup_34 : decode cX0_addToGroup 34 = .ok (.iaload, 1) := by decide +kernel
theorem dX0_addToGroup_35 : decode cX0_addToGroup 35 = .ok (.iconst 1, 1) := by decide +kernel
theorem dX0_addToGroup_36 : decode cX0_addToGroup 36 = .ok (.iadd, 1) := by decide +kernel
theorem dX0_addToGroup_37 : decode cX0_addToGroup 37 = .ok (.iastore, 1) := by decide +kernel
theorem dX0_addToGroup_38 : decode cX0_addToGroup 38 = .ok (.goto 8, 3) := by decide +kernel
theorem dX0_addToGroup_41 : decode cX0_addToGroup 41 = .ok (.aload_n 0, 1) := by decide +kernel
theorem dX0_addToGroup_42 : decode cX0_addToGroup 42 = .ok (.iload_n 1, 1) := by decide +kernel
theorem dX0_addToGroup_43 : decode cX0_addToGroup 43 = .ok (.invokevirtual 22, 3) := by decide +kernel
theorem dX0_addToGroup_46 : decode cX0_addToGroup 46 = .ok (.return_, 1) := by decide +kernel
theorem dX0_first_0 : decode cX0_first 0 = .ok (.iload_n 1, 1) := by decide +kernel
theorem dX0_first_1 : decode cX0_first 1 = .ok (.ifCond .lt 19, 3) := by decide +kernel
theorem dX0_first_4 : decode cX0_first 4 = .ok (.iload_n 1, 1) := by decide +kernel
theorem dX0_first_5 : decode cX0_first 5 = .ok (.sipush 300, 3) := by decide +kernel
theorem dX0_first_8 : decode cX0_first 8 = .ok (.if_icmp .ge 12, 3) := by decide +kernel
theorem dX0_first_11 : decode cX0_first 11 = .ok (.aload_n 0, 1) := by decide +kernel
theorem dX0_first_12 : decode cX0_first 12 = .ok (.getfield 9, 3) := by decide +kernel
theorem dX0_first_15 : decode cX0_first 15 = .ok (.iload_n 1, 1) := by decide +kernel
theorem dX0_first_16 : decode cX0_first 16 = .ok (.iaload, 1) := by decide +kernel
theorem dX0_first_17 : decode cX0_first 17 = .ok (.goto 4, 3) := by decide +kernel
theorem dX0_first_20 : decode cX0_first 20 = .ok (.iconst (-1), 1) := by decide +kernel
theorem dX0_first_21 : decode cX0_first 21 = .ok (.ireturn, 1) := by decide +kernel
theorem dX0_howMany_0 : decode cX0_howMany 0 = .ok (.iload_n 1, 1) := by decide +kernel
theorem dX0_howMany_1 : decode cX0_howMany 1 = .ok (.ifCond .lt 19, 3) := by decide +kernel
theorem dX0_howMany_4 : decode cX0_howMany 4 = .ok (.iload_n 1, 1) := by decide +kernel
theorem dX0_howMany_5 : decode cX0_howMany 5 = .ok (.sipush 300, 3) := by decide +kernel
theorem dX0_howMany_8 : decode cX0_howMany 8 = .ok (.if_icmp .ge 12, 3) := by decide +kernel
theorem dX0_howMany_11 : decode cX0_howMany 11 = .ok (.aload_n 0, 1) := by decide +kernel
theorem dX0_howMany_12 : decode cX0_howMany 12 = .ok (.getfield 15, 3) := by decide +kernel
theorem dX0_howMany_15 : decode cX0_howMany 15 = .ok (.iload_n 1, 1) := by decide +kernel
theorem dX0_howMany_16 : decode cX0_howMany 16 = .ok (.iaload, 1) := by decide +kernel
theorem dX0_howMany_17 : decode cX0_howMany 17 = .ok (.goto 4, 3) := by decide +kernel
theorem dX0_howMany_20 : decode cX0_howMany 20 = .ok (.iconst (-1), 1) := by decide +kernel
theorem dX0_howMany_21 : decode cX0_howMany 21 = .ok (.ireturn, 1) := by decide +kernel
theorem dX1_init_0 : decode cX1_init 0 = .ok (.aload_n 0, 1) := by decide +kernel
theorem dX1_init_1 : decode cX1_init 1 = .ok (.invokespecial 1, 3) := by decide +kernel
theorem dX1_init_4 : decode cX1_init 4 = .ok (.aload_n 0, 1) := by decide +kernel
theorem dX1_init_5 : decode cX1_init 5 = .ok (.iconst 1, 1) := by decide +kernel
theorem dX1_init_6 : decode cX1_init 6 = .ok (.putfield 7, 3) := by decide +kernel
theorem dX1_init_9 : decode cX1_init 9 = .ok (.aload_n 0, 1) := by decide +kernel
theorem dX1_init_10 : decode cX1_init 10 = .ok (.iconst 0, 1) := by decide +kernel
theorem dX1_init_11 : decode cX1_init 11 = .ok (.putfield 13, 3) := by decide +kernel
theorem dX1_init_14 : decode cX1_init 14 = .ok (.aload_n 0, 1) := by decide +kernel
theorem dX1_init_15 : decode cX1_init 15 = .ok (.iconst 1, 1) := by decide +kernel
theorem dX1_init_16 : decode cX1_init 16 = .ok (.putfield 16, 3) := by decide +kernel
theorem dX1_init_19 : decode cX1_init 19 = .ok (.aload_n 0, 1) := by decide +kernel
theorem dX1_init_20 : decode cX1_init 20 = .ok (.iconst 0, 1) := by decide +kernel
theorem dX1_init_21 : decode cX1_init 21 = .ok (.putfield 19, 3) := by decide +kernel
theorem dX1_init_24 : decode cX1_init 24 = .ok (.return_, 1) := by decide +kernel
theorem dX1_isTrue_0 : decode cX1_isTrue 0 = .ok (.aload_n 0, 1) := by decide +kernel
theorem dX1_isTrue_1 : decode cX1_isTrue 1 = .ok (.iconst 1, 1) := by decide +kernel
theorem dX1_isTrue_2 : decode cX1_isTrue 2 = .ok (.putfield 7, 3) := by decide +kernel
theorem dX1_isTrue_5 : decode cX1_isTrue 5 = .ok (.aload_n 0, 1) := by decide +kernel
theorem dX1_isTrue_6 : decode cX1_isTrue 6 = .ok (.invokevirtual 22, 3) := by decide +kernel
theorem dX1_isTrue_9 : decode cX1_isTrue 9 = .ok (.iconst 0, 1) := by decide +kernel
theorem dX1_isTrue_10 : decode cX1_isTrue 10 = .ok (.istore 4, 2) := by decide +kernel
theorem dX1_isTrue_12 : decode cX1_isTrue 12 = .ok (.iconst 0, 1) := by decide +kernel
theorem dX1_isTrue_13 : decode cX1_isTrue 13 = .ok (.istore 5, 2) := by decide +kernel
theorem dX1_isTrue_15 : decode cX1_isTrue 15 = .ok (.iload 5, 2) := by decide +kernel
theorem dX1_isTrue_17 : decode cX1_isTrue 17 = .ok (.aload_n 1, 1) := by decide +kernel
theorem dX1_isTrue_18 : decode cX1_isTrue 18 = .ok (.invokevirtual 25, 3) := by decide +kernel
theorem dX1_isTrue_21 : decode cX1_isTrue 21 = .ok (.if_icmp .ge 134, 3) := by decide +kernel
theorem dX1_isTrue_24 : decode cX1_isTrue 24 = .ok (.aload_n 1, 1) := by decide +kernel
theorem dX1_isTrue_25 : decode cX1_isTrue 25 = .ok (.iload 5, 2) := by decide +kernel
theorem dX1_isTrue_27 : decode cX1_isTrue 27 = .ok (.invokevirtual 31, 3) := by decide +kernel
theorem dX1_isTrue_30 : decode cX1_isTrue 30 = .ok (.tableswitch 104 1 4 #[30, 46, 63, 70], 30) := by decide +kernel
theorem dX1_isTrue_60 : decode cX1_isTrue 60 = .ok (.aload_n 0, 1) := by decide +kernel
theorem dX1_isTrue_61 : decode cX1_isTrue 61 = .ok (.dup, 1) := by decide +kernel
theorem dX1_isTrue_62 : decode cX1_isTrue 62 = .ok (.getfield 19, 3) := by decide +kernel
theorem dX1_isTrue_65 : decode cX1_isTrue 65 = .ok (.aload_n 0, 1) := by decide +kernel
theorem dX1_isTrue_66 : decode cX1_isTrue 66 = .ok (.getfield 7, 3) := by decide +kernel
theorem dX1_isTrue_69 : decode cX1_isTrue 69 = .ok (.ixor, 1) := by decide +kernel
theorem dX1_isTrue_70 : decode cX1_isTrue 70 = .ok (.putfield 19, 3) := by decide +kernel
theorem dX1_isTrue_73 : decode cX1_isTrue 73 = .ok (.goto 76, 3) := by decide +kernel
theorem dX1_isTrue_76 : decode cX1_isTrue 76 = .ok (.aload_n 0, 1) := by decide +kernel
theorem dX1_isTrue_77 : decode cX1_isTrue 77 = .ok (.dup, 1) := by decide +kernel
theorem dX1_isTrue_78 : decode cX1_isTrue 78 = .ok (.getfield 7, 3) := by decide +kernel
theorem dX1_isTrue_81 : decode cX1_isTrue 81 = .ok (.iconst 1, 1) := by decide +kernel
theorem dX1_isTrue_82 : decode cX1_isTrue 82 = .ok (.ishl, 1) := by decide +kernel
theorem dX1_isTrue_83 : decode cX1_isTrue 83 = .ok (.putfield 7, 3) := by decide +kernel
theorem dX1_isTrue_86 : decode cX1_isTrue 86 = .ok (.aload_n 0, 1) := by decide +kernel
theorem dX1_isTrue_87 : decode cX1_isTrue 87 = .ok (.invokevirtual 22, 3) := by decide +kernel
theorem dX1_isTrue_90 : decode cX1_isTrue 90 = .ok (.goto 59, 3) := by decide +kernel
theorem dX1_isTrue_93 : decode cX1_isTrue 93 = .ok (.aload_n 0, 1) := by decide +kernel
theorem dX1_isTrue_94 : decode cX1_isTrue 94 = .ok (.invokevirtual 35, 3) := by decide +kernel
theorem dX1_isTrue_97 : decode cX1_isTrue 97 = .ok (.goto 52, 3) := by decide +kernel
theorem dX1_isTrue_100 : decode cX1_isTrue 100 = .ok (.aload_n 0, 1) := by decide +kernel
theorem dX1_isTrue_101 : decode cX1_isTrue 101 = .ok (.dup, 1) := by decide +kernel
theorem dX1_isTrue_102 : decode cX1_isTrue 102 = .ok (.getfield 13, 3) := by decide +kernel
theorem dX1_isTrue_105 : decode cX1_isTrue 105 = .ok (.aload_n 0, 1) := by decide +kernel
theorem dX1_isTrue_106 : decode cX1_isTrue 106 = .ok (.getfield 16, 3) := by decide +kernel
theorem dX1_isTrue_109 : decode cX1_isTrue 109 = .ok (.aload_n 0, 1) := by decide +kernel
theorem dX1_isTrue_110 : decode cX1_isTrue 110 = .ok (.getfield 7, 3) := by decide +kernel
theorem dX1_isTrue_113 : decode cX1_isTrue 113 = .ok (.iand, 1) := by decide +kernel
theorem dX1_isTrue_114 : decode cX1_isTrue 114 = .ok (.ior, 1) := by decide +kernel
theorem dX1_isTrue_115 : decode cX1_isTrue 115 = .ok (.putfield 13, 3) := by decide +kernel
theorem dX1_isTrue_118 : decode cX1_isTrue 118 = .ok (.aload_n 0, 1) := by decide +kernel
theorem dX1_isTrue_119 : decode cX1_isTrue 119 = .ok (.dup, 1) := by decide +kernel
theorem dX1_isTrue_120 : decode cX1_isTrue 120 = .ok (.getfield 16, 3) := by decide +kernel
theorem dX1_isTrue_123 : decode cX1_isTrue 123 = .ok (.aload_n 0, 1) := by decide +kernel
theorem dX1_isTrue_124 : decode cX1_isTrue 124 = .ok (.getfield 7, 3) := by decide +kernel
theorem dX1_isTrue_127 : decode cX1_isTrue 127 = .ok (.ior, 1) := by decide +kernel
theorem dX1_isTrue_128 : decode cX1_isTrue 128 = .ok (.putfield 16, 3) := by decide +kernel
theorem dX1_isTrue_131 : decode cX1_isTrue 131 = .ok (.goto 18, 3) := by decide +kernel
theorem dX1_isTrue_134 : decode cX1_isTrue 134 = .ok (.aload_n 0, 1) := by decide +kernel
theorem dX1_isTrue_135 : decode cX1_isTrue 135 = .ok (.aload_n 1, 1) := by decide +kernel
theorem dX1_isTrue_136 : decode cX1_isTrue 136 = .ok (.iload 4, 2) := by decide +kernel
theorem dX1_isTrue_138 : decode cX1_isTrue 138 = .ok (.aload_n 2, 1) := by decide +kernel
theorem dX1_isTrue_139 : decode cX1_isTrue 139 = .ok (.iload_n 3, 1) := by decide +kernel
theorem dX1_isTrue_140 : decode cX1_isTrue 140 = .ok (.invokevirtual 38, 3) := by decide +kernel
theorem dX1_isTrue_143 : decode cX1_isTrue 143 = .ok (.invokevirtual 42, 3) := by decide +kernel
theorem dX1_isTrue_146 : decode cX1_isTrue 146 = .ok (.iinc 4 1, 3) := by decide +kernel
theorem dX1_isTrue_149 : decode cX1_isTrue 149 = .ok (.iinc 5 1, 3) := by decide +kernel
theorem dX1_isTrue_152 : decode cX1_isTrue 152 = .ok (.goto (-137), 3) := by decide +kernel
theorem dX1_isTrue_155 : decode cX1_isTrue 155 = .ok (.aload_n 0, 1) := by decide +kernel
theorem dX1_isTrue_156 : decode cX1_isTrue 156 = .ok (.invokevirtual 46, 3) := by decide +kernel
theorem dX1_isTrue_159 : decode cX1_isTrue 159 = .ok (.ireturn, 1) := by decide +kernel
theorem dX1_beginLevel_0 : decode cX1_beginLevel 0 = .ok (.aload_n 0, 1) := by decide +kernel
theorem dX1_beginLevel_1 : decode cX1_beginLevel 1 = .ok (.dup, 1) := by decide +kernel
theorem dX1_beginLevel_2 : decode cX1_beginLevel 2 = .ok (.getfield 13, 3) := by decide +kernel
theorem dX1_beginLevel_5 : decode cX1_beginLevel 5 = .ok (.aload_n 0, 1) := by decide +kernel
theorem dX1_beginLevel_6 : decode cX1_beginLevel 6 = .ok (.getfield 7, 3) := by decide +kernel
theorem dX1_beginLevel_9 : decode cX1_beginLevel 9 = .ok (.iconst (-1), 1) := by decide +kernel
theorem dX1_beginLevel_10 : decode cX1_beginLevel 10 = .ok (.ixor, 1) := by decide +kernel
theorem dX1_beginLevel_11 : decode cX1_beginLevel 11 = .ok (.iand, 1) := by decide +kernel
theorem dX1_beginLevel_12 : decode cX1_beginLevel 12 = .ok (.putfield 13, 3) := by decide +kernel
theorem dX1_beginLevel_15 : decode cX1_beginLevel 15 = .ok (.aload_n 0, 1) := by decide +kernel
theorem dX1_beginLevel_16 : decode cX1_beginLevel 16 = .ok (.dup, 1) := by decide +kernel
theorem dX1_beginLevel_17 : decode cX1_beginLevel 17 = .ok (.getfield 16, 3) := by decide +kernel
theorem dX1_beginLevel_20 : decode cX1_beginLevel 20 = .ok (.aload_n 0, 1) := by decide +kernel
theorem dX1_beginLevel_21 : decode cX1_beginLevel 21 = .ok (.getfield 7, 3) := by decide +kernel
theorem dX1_beginLevel_24 : decode cX1_beginLevel 24 = .ok (.ior, 1) := by decide +kernel
theorem dX1_beginLevel_25 : decode cX1_beginLevel 25 = .ok (.putfield 16, 3) := by decide +kernel
theorem dX1_beginLevel_28 : decode cX1_beginLevel 28 = .ok (.aload_n 0, 1) := by decide +kernel
theorem dX1_beginLevel_29 : decode cX1_beginLevel 29 = .ok (.dup, 1) := by decide +kernel
theorem dX1_beginLevel_30 : decode cX1_beginLevel 30 = .ok (.getfield 19, 3) := by decide +kernel
theorem dX1_beginLevel_33 : decode cX1_beginLevel 33 = .ok (.aload_n 0, 1) := by decide +kernel
theorem dX1_beginLevel_34 : decode cX1_beginLevel 34 = .ok (.getfield 7, 3) := by decide +kernel
theorem dX1_beginLevel_37 : decode cX1_beginLevel 37 = .ok (.iconst (-1), 1) := by decide +kernel
theorem dX1_beginLevel_38 : decode cX1_beginLevel 38 = .ok (.ixor, 1) := by decide +kernel
theorem dX1_beginLevel_39 : decode cX1_beginLevel 39 = .ok (.iand, 1) := by decide +kernel
theorem dX1_beginLevel_40 : decode cX1_beginLevel 40 = .ok (.putfield 19, 3) := by decide +kernel
theorem dX1_beginLevel_43 : decode cX1_beginLevel 43 = .ok (.return_, 1) := by decide +kernel
theorem dX1_endLevel_0 : decode cX1_endLevel 0 = .ok (.aload_n 0, 1) := by decide +kernel
theorem dX1_endLevel_1 : decode cX1_endLevel 1 = .ok (.invokevirtual 46, 3) := by decide +kernel
theorem dX1_endLevel_4 : decode cX1_endLevel 4 = .ok (.istore_n 1, 1) := by decide +kernel
theorem dX1_endLevel_5 : decode cX1_endLevel 5 = .ok (.aload_n 0, 1) := by decide +kernel
theorem dX1_endLevel_6 : decode cX1_endLevel 6 = .ok (.dup, 1) := by decide +kernel
theorem dX1_endLevel_7 : decode cX1_endLevel 7 = .ok (.getfield 7, 3) := by decide +kernel
theorem dX1_endLevel_10 : decode cX1_endLevel 10 = .ok (.iconst 1, 1) := by decide +kernel
theorem dX1_endLevel_11 : decode cX1_endLevel 11 = .ok (.iushr, 1) := by decide +kernel
theorem dX1_endLevel_12 : decode cX1_endLevel 12 = .ok (.putfield 7, 3) := by decide +kernel
theorem dX1_endLevel_15 : decode cX1_endLevel 15 = .ok (.aload_n 0, 1) := by decide +kernel
theorem dX1_endLevel_16 : decode cX1_endLevel 16 = .ok (.iload_n 1, 1) := by decide +kernel
theorem dX1_endLevel_17 : decode cX1_endLevel 17 = .ok (.invokevirtual 42, 3) := by decide +kernel
theorem dX1_endLevel_20 : decode cX1_endLevel 20 = .ok (.return_, 1) := by decide +kernel
theorem dX1_isLevelTrue_0 : decode cX1_isLevelTrue 0 = .ok (.aload_n 0, 1) := by decide +kernel
theorem dX1_isLevelTrue_1 : decode cX1_isLevelTrue 1 = .ok (.getfield 13, 3) := by decide +kernel
theorem dX1_isLevelTrue_4 : decode cX1_isLevelTrue 4 = .ok (.aload_n 0, 1) := by decide +kernel
theorem dX1_isLevelTrue_5 : decode cX1_isLevelTrue 5 = .ok (.getfield 16, 3) := by decide +kernel
theorem dX1_isLevelTrue_8 : decode cX1_isLevelTrue 8 = .ok (.ior, 1) := by decide +kernel
theorem dX1_isLevelTrue_9 : decode cX1_isLevelTrue 9 = .ok (.aload_n 0, 1) := by decide +kernel
theorem dX1_isLevelTrue_10 : decode cX1_isLevelTrue 10 = .ok (.getfield 7, 3) := by decide +kernel
theorem dX1_isLevelTrue_13 : decode cX1_isLevelTrue 13 = .ok (.iand, 1) := by decide +kernel
theorem dX1_isLevelTrue_14 : decode cX1_isLevelTrue 14 = .ok (.ifCond .eq 7, 3) := by decide +kernel
theorem dX1_isLevelTrue_17 : decode cX1_isLevelTrue 17 = .ok (.iconst 1, 1) := by decide +kernel
theorem dX1_isLevelTrue_18 : decode cX1_isLevelTrue 18 = .ok (.goto 4, 3) := by decide +kernel
theorem dX1_isLevelTrue_21 : decode cX1_isLevelTrue 21 = .ok (.iconst 0, 1) := by decide +kernel
theorem dX1_isLevelTrue_22 : decode cX1_isLevelTrue 22 = .ok (.ireturn, 1) := by decide +kernel
theorem dX1_take_0 : decode cX1_take 0 = .ok (.aload_n 0, 1) := by decide +kernel
theorem dX1_take_1 : decode cX1_take 1 = .ok (.getfield 19, 3) := by decide +kernel
theorem dX1_take_4 : decode cX1_take 4 = .ok (.aload_n 0, 1) := by decide +kernel
theorem dX1_take_5 : decode cX1_take 5 = .ok (.getfield 7, 3) := by decide +kernel
theorem dX1_take_8 : decode cX1_take 8 = .ok (.iand, 1) := by decide +kernel
theorem dX1_take_9 : decode cX1_take 9 = .ok (.ifCond .eq 7, 3) := by decide +kernel
theorem dX1_take_12 : decode cX1_take 12 = .ok (.iconst 1, 1) := by decide +kernel
theorem dX1_take_13 : decode cX1_take 13 = .ok (.goto 4, 3) := by decide +kernel
theorem dX1_take_16 : decode cX1_take 16 = .ok (.iconst 0, 1) := by decide +kernel
theorem dX1_take_17 : decode cX1_take 17 = .ok (.istore_n 2, 1) := by decide +kernel
theorem dX1_take_18 : decode cX1_take 18 = .ok (.iload_n 1, 1) := by decide +kernel
theorem dX1_take_19 : decode cX1_take 19 = .ok (.iload_n 2, 1) := by decide +kernel
theorem dX1_take_20 : decode cX1_take 20 = .ok (.if_icmp .ne 18, 3) := by decide +kernel
theorem dX1_take_23 : decode cX1_take 23 = .ok (.aload_n 0, 1) := by decide +kernel
theorem dX1_take_24 : decode cX1_take 24 = .ok (.dup, 1) := by decide +kernel
theorem dX1_take_25 : decode cX1_take 25 = .ok (.getfield 16, 3) := by decide +kernel
theorem dX1_take_28 : decode cX1_take 28 = .ok (.aload_n 0, 1) := by decide +kernel
theorem dX1_take_29 : decode cX1_take 29 = .ok (.getfield 7, 3) := by decide +kernel
theorem dX1_take_32 : decode cX1_take 32 = .ok (.iconst (-1), 1) := by decide +kernel
theorem dX1_take_33 : decode cX1_take 33 = .ok (.ixor, 1) := by decide +kernel
theorem dX1_take_34 : decode cX1_take 34 = .ok (.iand, 1) := by decide +kernel
theorem dX1_take_35 : decode cX1_take 35 = .ok (.putfield 16, 3) := by decide +kernel
theorem dX1_take_38 : decode cX1_take 38 = .ok (.aload_n 0, 1) := by decide +kernel
theorem dX1_take_39 : decode cX1_take 39 = .ok (.dup, 1) := by decide +kernel
theorem dX1_take_40 : decode cX1_take 40 = .ok (.getfield 19, 3) := by decide +kernel
theorem dX1_take_43 : decode cX1_take 43 = .ok (.aload_n 0, 1) := by decide +kernel
theorem dX1_take_44 : decode cX1_take 44 = .ok (.getfield 7, 3) := by decide +kernel
theorem dX1_take_47 : decode cX1_take 47 = .ok (.iconst (-1), 1) := by decide +kernel
theorem dX1_take_48 : decode cX1_take 48 = .ok (.ixor, 1) := by decide +kernel
theorem dX1_take_49 : decode cX1_take 49 = .ok (.iand, 1) := by decide +kernel
theorem dX1_take_50 : decode cX1_take 50 = .ok (.putfield 19, 3) := by decide +kernel
theorem dX1_take_53 : decode cX1_take 53 = .ok (.return_, 1) := by decide +kernel
theorem dX2_init_0 : decode cX2_init 0 = .ok (.aload_n 0, 1) := by decide +kernel
theorem dX2_init_1 : decode cX2_init 1 = .ok (.invokespecial 3, 3) := by decide +kernel
theorem dX2_init_4 : decode cX2_init 4 = .ok (.aload_n 0, 1) := by decide +kernel
theorem dX2_init_5 : decode cX2_init 5 = .ok (.iconst (-1), 1) := by decide +kernel
theorem dX2_init_6 : decode cX2_init 6 = .ok (.putfield 9, 3) := by decide +kernel
theorem dX2_init_9 : decode cX2_init 9 = .ok (.aload_n 0, 1) := by decide +kernel
theorem dX2_init_10 : decode cX2_init 10 = .ok (.aload_n 1, 1) := by decide +kernel
theorem dX2_init_11 : decode cX2_init 11 = .ok (.putfield 15, 3) := by decide +kernel
theorem dX2_init_14 : decode cX2_init 14 = .ok (.aload_n 0, 1) := by decide +kernel
theorem dX2_init_15 : decode cX2_init 15 = .ok (.lload_n 2, 1) := by decide +kernel
theorem dX2_init_16 : decode cX2_init 16 = .ok (.putfield 19, 3) := by decide +kernel
theorem dX2_init_19 : decode cX2_init 19 = .ok (.aload_n 0, 1) := by decide +kernel
theorem dX2_init_20 : decode cX2_init 20 = .ok (.lload 4, 2) := by decide +kernel
theorem dX2_init_22 : decode cX2_init 22 = .ok (.putfield 23, 3) := by decide +kernel
theorem dX2_init_25 : decode cX2_init 25 = .ok (.return_, 1) := by decide +kernel
theorem dX2_question_0 : decode cX2_question 0 = .ok (.aload_n 0, 1) := by decide +kernel
theorem dX2_question_1 : decode cX2_question 1 = .ok (.getfield 15, 3) := by decide +kernel
theorem dX2_question_4 : decode cX2_question 4 = .ok (.areturn, 1) := by decide +kernel
theorem dX2_latestCount_0 : decode cX2_latestCount 0 = .ok (.aload_n 0, 1) := by decide +kernel
theorem dX2_latestCount_1 : decode cX2_latestCount 1 = .ok (.getfield 9, 3) := by decide +kernel
theorem dX2_latestCount_4 : decode cX2_latestCount 4 = .ok (.ireturn, 1) := by decide +kernel
theorem dX2_setLatestCount_0 : decode cX2_setLatestCount 0 = .ok (.aload_n 0, 1) := by decide +kernel
theorem dX2_setLatestCount_1 : decode cX2_setLatestCount 1 = .ok (.iload_n 1, 1) := by decide +kernel
theorem dX2_setLatestCount_2 : decode cX2_setLatestCount 2 = .ok (.putfield 9, 3) := by decide +kernel
theorem dX2_setLatestCount_5 : decode cX2_setLatestCount 5 = .ok (.return_, 1) := by decide +kernel
theorem dX2_passTo_0 : decode cX2_passTo 0 = .ok (.aload_n 0, 1) := by decide +kernel
theorem dX2_passTo_1 : decode cX2_passTo 1 = .ok (.getfield 19, 3) := by decide +kernel
theorem dX2_passTo_4 : decode cX2_passTo 4 = .ok (.lconst 1, 1) := by decide +kernel
theorem dX2_passTo_5 : decode cX2_passTo 5 = .ok (.lcmp, 1) := by decide +kernel
theorem dX2_passTo_6 : decode cX2_passTo 6 = .ok (.ifCond .lt 12, 3) := by decide +kernel
theorem dX2_passTo_9 : decode cX2_passTo 9 = .ok (.lload_n 1, 1) := by decide +kernel
theorem dX2_passTo_10 : decode cX2_passTo 10 = .ok (.aload_n 0, 1) := by decide +kernel
theorem dX2_passTo_11 : decode cX2_passTo 11 = .ok (.getfield 23, 3) := by decide +kernel
theorem dX2_passTo_14 : decode cX2_passTo 14 = .ok (.lcmp, 1) := by decide +kernel
theorem dX2_passTo_15 : decode cX2_passTo 15 = .ok (.ifCond .ge 5, 3) := by decide +kernel
theorem dX2_passTo_18 : decode cX2_passTo 18 = .ok (.iconst 0, 1) := by decide +kernel
theorem dX2_passTo_19 : decode cX2_passTo 19 = .ok (.ireturn, 1) := by decide +kernel
theorem dX2_passTo_20 : decode cX2_passTo 20 = .ok (.lload_n 1, 1) := by decide +kernel
theorem dX2_passTo_21 : decode cX2_passTo 21 = .ok (.aload_n 0, 1) := by decide +kernel
theorem dX2_passTo_22 : decode cX2_passTo 22 = .ok (.getfield 23, 3) := by decide +kernel
theorem dX2_passTo_25 : decode cX2_passTo 25 = .ok (.lsub, 1) := by decide +kernel
theorem dX2_passTo_26 : decode cX2_passTo 26 = .ok (.aload_n 0, 1) := by decide +kernel
theorem dX2_passTo_27 : decode cX2_passTo 27 = .ok (.getfield 19, 3) := by decide +kernel
theorem dX2_passTo_30 : decode cX2_passTo 30 = .ok (.ldiv, 1) := by decide +kernel
theorem dX2_passTo_31 : decode cX2_passTo 31 = .ok (.lconst 1, 1) := by decide +kernel
theorem dX2_passTo_32 : decode cX2_passTo 32 = .ok (.ladd, 1) := by decide +kernel
theorem dX2_passTo_33 : decode cX2_passTo 33 = .ok (.lstore_n 3, 1) := by decide +kernel
theorem dX2_passTo_34 : decode cX2_passTo 34 = .ok (.aload_n 0, 1) := by decide +kernel
theorem dX2_passTo_35 : decode cX2_passTo 35 = .ok (.dup, 1) := by decide +kernel
theorem dX2_passTo_36 : decode cX2_passTo 36 = .ok (.getfield 23, 3) := by decide +kernel
theorem dX2_passTo_39 : decode cX2_passTo 39 = .ok (.lload_n 3, 1) := by decide +kernel
theorem dX2_passTo_40 : decode cX2_passTo 40 = .ok (.aload_n 0, 1) := by decide +kernel
theorem dX2_passTo_41 : decode cX2_passTo 41 = .ok (.getfield 19, 3) := by decide +kernel
theorem dX2_passTo_44 : decode cX2_passTo 44 = .ok (.lmul, 1) := by decide +kernel
theorem dX2_passTo_45 : decode cX2_passTo 45 = .ok (.ladd, 1) := by decide +kernel
theorem dX2_passTo_46 : decode cX2_passTo 46 = .ok (.putfield 23, 3) := by decide +kernel
theorem dX2_passTo_49 : decode cX2_passTo 49 = .ok (.lload_n 3, 1) := by decide +kernel
theorem dX2_passTo_50 : decode cX2_passTo 50 = .ok (.l2i, 1) := by decide +kernel
theorem dX2_passTo_51 : decode cX2_passTo 51 = .ok (.ireturn, 1) := by decide +kernel
theorem dX3_init_0 : decode cX3_init 0 = .ok (.aload_n 0, 1) := by decide +kernel
theorem dX3_init_1 : decode cX3_init 1 = .ok (.invokespecial 3, 3) := by decide +kernel
theorem dX3_init_4 : decode cX3_init 4 = .ok (.aload_n 0, 1) := by decide +kernel
theorem dX3_init_5 : decode cX3_init 5 = .ok (.sipush 200, 3) := by decide +kernel
theorem dX3_init_8 : decode cX3_init 8 = .ok (.newarray .int, 2) := by decide +kernel
theorem dX3_init_10 : decode cX3_init 10 = .ok (.putfield 9, 3) := by decide +kernel
theorem dX3_init_13 : decode cX3_init 13 = .ok (.aload_n 0, 1) := by decide +kernel
theorem dX3_init_14 : decode cX3_init 14 = .ok (.bipush 40, 2) := by decide +kernel
theorem dX3_init_16 : decode cX3_init 16 = .ok (.newarray .int, 2) := by decide +kernel
theorem dX3_init_18 : decode cX3_init 18 = .ok (.putfield 15, 3) := by decide +kernel
theorem dX3_init_21 : decode cX3_init 21 = .ok (.aload_n 0, 1) := by decide +kernel
theorem dX3_init_22 : decode cX3_init 22 = .ok (.bipush 40, 2) := by decide +kernel
theorem dX3_init_24 : decode cX3_init 24 = .ok (.newarray .char, 2) := by decide +kernel
theorem dX3_init_26 : decode cX3_init 26 = .ok (.putfield 18, 3) := by decide +kernel
theorem dX3_init_29 : decode cX3_init 29 = .ok (.aload_n 0, 1) := by decide +kernel
theorem dX3_init_30 : decode cX3_init 30 = .ok (.bipush 40, 2) := by decide +kernel
theorem dX3_init_32 : decode cX3_init 32 = .ok (.newarray .int, 2) := by decide +kernel
theorem dX3_init_34 : decode cX3_init 34 = .ok (.putfield 22, 3) := by decide +kernel
theorem dX3_init_37 : decode cX3_init 37 = .ok (.aload_n 0, 1) := by decide +kernel
theorem dX3_init_38 : decode cX3_init 38 = .ok (.iconst 0, 1) := by decide +kernel
theorem dX3_init_39 : decode cX3_init 39 = .ok (.putfield 25, 3) := by decide +kernel
theorem dX3_init_42 : decode cX3_init 42 = .ok (.aload_n 0, 1) := by decide +kernel
theorem dX3_init_43 : decode cX3_init 43 = .ok (.iconst 0, 1) := by decide +kernel
theorem dX3_init_44 : decode cX3_init 44 = .ok (.putfield 29, 3) := by decide +kernel
theorem dX3_init_47 : decode cX3_init 47 = .ok (.aload_n 0, 1) := by decide +kernel
theorem dX3_init_48 : decode cX3_init 48 = .ok (.iconst 0, 1) := by decide +kernel
theorem dX3_init_49 : decode cX3_init 49 = .ok (.putfield 32, 3) := by decide +kernel
theorem dX3_init_52 : decode cX3_init 52 = .ok (.aload_n 0, 1) := by decide +kernel
theorem dX3_init_53 : decode cX3_init 53 = .ok (.iconst 0, 1) := by decide +kernel
theorem dX3_init_54 : decode cX3_init 54 = .ok (.putfield 35, 3) := by decide +kernel
theorem dX3_init_57 : decode cX3_init 57 = .ok (.aload_n 0, 1) := by decide +kernel
theorem dX3_init_58 : decode cX3_init 58 = .ok (.iconst 0, 1) := by decide +kernel
theorem dX3_init_59 : decode cX3_init 59 = .ok (.putfield 38, 3) := by decide +kernel
theorem dX3_init_62 : decode cX3_init 62 = .ok (.aload_n 0, 1) := by decide +kernel
theorem dX3_init_63 : decode cX3_init 63 = .ok (.iconst 0, 1) := by decide +kernel
theorem dX3_init_64 : decode cX3_init 64 = .ok (.putfield 41, 3) := by decide +kernel
theorem dX3_init_67 : decode cX3_init 67 = .ok (.return_, 1) := by decide +kernel
theorem dX3_clear_0 : decode cX3_clear 0 = .ok (.aload_n 0, 1) := by decide +kernel
theorem dX3_clear_1 : decode cX3_clear 1 = .ok (.iconst 0, 1) := by decide +kernel
theorem dX3_clear_2 : decode cX3_clear 2 = .ok (.putfield 25, 3) := by decide +kernel
theorem dX3_clear_5 : decode cX3_clear 5 = .ok (.aload_n 0, 1) := by decide +kernel
theorem dX3_clear_6 : decode cX3_clear 6 = .ok (.iconst 0, 1) := by decide +kernel
theorem dX3_clear_7 : decode cX3_clear 7 = .ok (.putfield 29, 3) := by decide +kernel
theorem dX3_clear_10 : decode cX3_clear 10 = .ok (.aload_n 0, 1) := by decide +kernel
theorem dX3_clear_11 : decode cX3_clear 11 = .ok (.iconst 0, 1) := by decide +kernel
theorem dX3_clear_12 : decode cX3_clear 12 = .ok (.putfield 32, 3) := by decide +kernel
theorem dX3_clear_15 : decode cX3_clear 15 = .ok (.aload_n 0, 1) := by decide +kernel
theorem dX3_clear_16 : decode cX3_clear 16 = .ok (.iconst 0, 1) := by decide +kernel
theorem dX3_clear_17 : decode cX3_clear 17 = .ok (.putfield 35, 3) := by decide +kernel
theorem dX3_clear_20 : decode cX3_clear 20 = .ok (.aload_n 0, 1) := by decide +kernel
theorem dX3_clear_21 : decode cX3_clear 21 = .ok (.iconst 0, 1) := by decide +kernel
theorem dX3_clear_22 : decode cX3_clear 22 = .ok (.putfield 38, 3) := by decide +kernel
theorem dX3_clear_25 : decode cX3_clear 25 = .ok (.return_, 1) := by decide +kernel
theorem dX3_asker_0 : decode cX3_asker 0 = .ok (.aload_n 0, 1) := by decide +kernel
theorem dX3_asker_1 : decode cX3_asker 1 = .ok (.getfield 41, 3) := by decide +kernel
theorem dX3_asker_4 : decode cX3_asker 4 = .ok (.ireturn, 1) := by decide +kernel
theorem dX3_setAsker_0 : decode cX3_setAsker 0 = .ok (.aload_n 0, 1) := by decide +kernel
theorem dX3_setAsker_1 : decode cX3_setAsker 1 = .ok (.iload_n 1, 1) := by decide +kernel
theorem dX3_setAsker_2 : decode cX3_setAsker 2 = .ok (.putfield 41, 3) := by decide +kernel
theorem dX3_setAsker_5 : decode cX3_setAsker 5 = .ok (.return_, 1) := by decide +kernel
theorem dX3_fields_0 : decode cX3_fields 0 = .ok (.aload_n 0, 1) := by decide +kernel
theorem dX3_fields_1 : decode cX3_fields 1 = .ok (.getfield 32, 3) := by decide +kernel
theorem dX3_fields_4 : decode cX3_fields 4 = .ok (.ireturn, 1) := by decide +kernel
theorem dX3_tests_0 : decode cX3_tests 0 = .ok (.aload_n 0, 1) := by decide +kernel
theorem dX3_tests_1 : decode cX3_tests 1 = .ok (.getfield 29, 3) := by decide +kernel
theorem dX3_tests_4 : decode cX3_tests 4 = .ok (.ireturn, 1) := by decide +kernel
theorem dX3_tail_0 : decode cX3_tail 0 = .ok (.aload_n 0, 1) := by decide +kernel
theorem dX3_tail_1 : decode cX3_tail 1 = .ok (.getfield 35, 3) := by decide +kernel
theorem dX3_tail_4 : decode cX3_tail 4 = .ok (.ireturn, 1) := by decide +kernel
theorem dX3_tailField_0 : decode cX3_tailField 0 = .ok (.aload_n 0, 1) := by decide +kernel
theorem dX3_tailField_1 : decode cX3_tailField 1 = .ok (.getfield 38, 3) := by decide +kernel
theorem dX3_tailField_4 : decode cX3_tailField 4 = .ok (.ireturn, 1) := by decide +kernel
theorem dX3_setTail_0 : decode cX3_setTail 0 = .ok (.aload_n 0, 1) := by decide +kernel
theorem dX3_setTail_1 : decode cX3_setTail 1 = .ok (.iload_n 1, 1) := by decide +kernel
theorem dX3_setTail_2 : decode cX3_setTail 2 = .ok (.putfield 35, 3) := by decide +kernel
theorem dX3_setTail_5 : decode cX3_setTail 5 = .ok (.return_, 1) := by decide +kernel
theorem dX3_setTailField_0 : decode cX3_setTailField 0 = .ok (.aload_n 0, 1) := by decide +kernel
theorem dX3_setTailField_1 : decode cX3_setTailField 1 = .ok (.iload_n 1, 1) := by decide +kernel
theorem dX3_setTailField_2 : decode cX3_setTailField 2 = .ok (.putfield 38, 3) := by decide +kernel
theorem dX3_setTailField_5 : decode cX3_setTailField 5 = .ok (.aload_n 0, 1) := by decide +kernel
theorem dX3_setTailField_6 : decode cX3_setTailField 6 = .ok (.dup, 1) := by decide +kernel
theorem dX3_setTailField_7 : decode cX3_setTailField 7 = .ok (.getfield 32, 3) := by decide +kernel
theorem dX3_setTailField_10 : decode cX3_setTailField 10 = .ok (.iconst 1, 1) := by decide +kernel
theorem dX3_setTailField_11 : decode cX3_setTailField 11 = .ok (.iload_n 1, 1) := by decide +kernel
theorem dX3_setTailField_12 : decode cX3_setTailField 12 = .ok (.ishl, 1) := by decide +kernel
theorem dX3_setTailField_13 : decode cX3_setTailField 13 = .ok (.ior, 1) := by decide +kernel
theorem dX3_setTailField_14 : decode cX3_setTailField 14 = .ok (.putfield 32, 3) := by decide +kernel
theorem dX3_setTailField_17 : decode cX3_setTailField 17 = .ok (.return_, 1) := by decide +kernel
theorem dX3_addStep_0 : decode cX3_addStep 0 = .ok (.aload_n 0, 1) := by decide +kernel
theorem dX3_addStep_1 : decode cX3_addStep 1 = .ok (.getfield 25, 3) := by decide +kernel
theorem dX3_addStep_4 : decode cX3_addStep 4 = .ok (.ifCond .lt 35, 3) := by decide +kernel
theorem dX3_addStep_7 : decode cX3_addStep 7 = .ok (.aload_n 0, 1) := by decide +kernel
theorem dX3_addStep_8 : decode cX3_addStep 8 = .ok (.getfield 25, 3) := by decide +kernel
theorem dX3_addStep_11 : decode cX3_addStep 11 = .ok (.aload_n 0, 1) := by decide +kernel
theorem dX3_addStep_12 : decode cX3_addStep 12 = .ok (.getfield 9, 3) := by decide +kernel
theorem dX3_addStep_15 : decode cX3_addStep 15 = .ok (.arraylength, 1) := by decide +kernel
theorem dX3_addStep_16 : decode cX3_addStep 16 = .ok (.if_icmp .ge 23, 3) := by decide +kernel
theorem dX3_addStep_19 : decode cX3_addStep 19 = .ok (.aload_n 0, 1) := by decide +kernel
theorem dX3_addStep_20 : decode cX3_addStep 20 = .ok (.getfield 9, 3) := by decide +kernel
theorem dX3_addStep_23 : decode cX3_addStep 23 = .ok (.aload_n 0, 1) := by decide +kernel
theorem dX3_addStep_24 : decode cX3_addStep 24 = .ok (.getfield 25, 3) := by decide +kernel
theorem dX3_addStep_27 : decode cX3_addStep 27 = .ok (.iload_n 1, 1) := by decide +kernel
theorem dX3_addStep_28 : decode cX3_addStep 28 = .ok (.iastore, 1) := by decide +kernel
theorem dX3_addStep_29 : decode cX3_addStep 29 = .ok (.aload_n 0, 1) := by decide +kernel
theorem dX3_addStep_30 : decode cX3_addStep 30 = .ok (.dup, 1) := by decide +kernel
theorem dX3_addStep_31 : decode cX3_addStep 31 = .ok (.getfield 25, 3) := by decide +kernel
theorem dX3_addStep_34 : decode cX3_addStep 34 = .ok (.iconst 1, 1) := by decide +kernel
theorem dX3_addStep_35 : decode cX3_addStep 35 = .ok (.iadd, 1) := by decide +kernel
theorem dX3_addStep_36 : decode cX3_addStep 36 = .ok (.putfield 25, 3) := by decide +kernel
theorem dX3_addStep_39 : decode cX3_addStep 39 = .ok (.return_, 1) := by decide +kernel
theorem dX3_addTest_0 : decode cX3_addTest 0 = .ok (.aload_n 0, 1) := by decide +kernel
theorem dX3_addTest_1 : decode cX3_addTest 1 = .ok (.getfield 29, 3) := by decide +kernel
theorem dX3_addTest_4 : decode cX3_addTest 4 = .ok (.ifCond .lt 69, 3) := by decide +kernel
theorem dX3_addTest_7 : decode cX3_addTest 7 = .ok (.aload_n 0, 1) := by decide +kernel
theorem dX3_addTest_8 : decode cX3_addTest 8 = .ok (.getfield 29, 3) := by decide +kernel
theorem dX3_addTest_11 : decode cX3_addTest 11 = .ok (.bipush 40, 2) := by decide +kernel
theorem dX3_addTest_13 : decode cX3_addTest 13 = .ok (.if_icmp .ge 60, 3) := by decide +kernel
theorem dX3_addTest_16 : decode cX3_addTest 16 = .ok (.aload_n 0, 1) := by decide +kernel
theorem dX3_addTest_17 : decode cX3_addTest 17 = .ok (.getfield 15, 3) := by decide +kernel
theorem dX3_addTest_20 : decode cX3_addTest 20 = .ok (.aload_n 0, 1) := by decide +kernel
theorem dX3_addTest_21 : decode cX3_addTest 21 = .ok (.getfield 29, 3) := by decide +kernel
theorem dX3_addTest_24 : decode cX3_addTest 24 = .ok (.iload_n 1, 1) := by decide +kernel
theorem dX3_addTest_25 : decode cX3_addTest 25 = .ok (.iastore, 1) := by decide +kernel
theorem dX3_addTest_26 : decode cX3_addTest 26 = .ok (.aload_n 0, 1) := by decide +kernel
theorem dX3_addTest_27 : decode cX3_addTest 27 = .ok (.getfield 18, 3) := by decide +kernel
theorem dX3_addTest_30 : decode cX3_addTest 30 = .ok (.aload_n 0, 1) := by decide +kernel
theorem dX3_addTest_31 : decode cX3_addTest 31 = .ok (.getfield 29, 3) := by decide +kernel
theorem dX3_addTest_34 : decode cX3_addTest 34 = .ok (.iload_n 2, 1) := by decide +kernel
theorem dX3_addTest_35 : decode cX3_addTest 35 = .ok (.castore, 1) := by decide +kernel
theorem dX3_addTest_36 : decode cX3_addTest 36 = .ok (.aload_n 0, 1) := by decide +kernel
theorem dX3_addTest_37 : decode cX3_addTest 37 = .ok (.getfield 22, 3) := by decide +kernel
theorem dX3_addTest_40 : decode cX3_addTest 40 = .ok (.aload_n 0, 1) := by decide +kernel
theorem dX3_addTest_41 : decode cX3_addTest 41 = .ok (.getfield 29, 3) := by decide +kernel
theorem dX3_addTest_44 : decode cX3_addTest 44 = .ok (.iload_n 3, 1) := by decide +kernel
theorem dX3_addTest_45 : decode cX3_addTest 45 = .ok (.iastore, 1) := by decide +kernel
theorem dX3_addTest_46 : decode cX3_addTest 46 = .ok (.aload_n 0, 1) := by decide +kernel
theorem dX3_addTest_47 : decode cX3_addTest 47 = .ok (.dup, 1) := by decide +kernel
theorem dX3_addTest_48 : decode cX3_addTest 48 = .ok (.getfield 29, 3) := by decide +kernel
theorem dX3_addTest_51 : decode cX3_addTest 51 = .ok (.iconst 1, 1) := by decide +kernel
theorem dX3_addTest_52 : decode cX3_addTest 52 = .ok (.iadd, 1) := by decide +kernel
theorem dX3_addTest_53 : decode cX3_addTest 53 = .ok (.putfield 29, 3) := by decide +kernel
theorem dX3_addTest_56 : decode cX3_addTest 56 = .ok (.aload_n 0, 1) := by decide +kernel
theorem dX3_addTest_57 : decode cX3_addTest 57 = .ok (.dup, 1) := by decide +kernel
theorem dX3_addTest_58 : decode cX3_addTest 58 = .ok (.getfield 32, 3) := by decide +kernel
theorem dX3_addTest_61 : decode cX3_addTest 61 = .ok (.iconst 1, 1) := by decide +kernel
theorem dX3_addTest_62 : decode cX3_addTest 62 = .ok (.iload_n 1, 1) := by decide +kernel
theorem dX3_addTest_63 : decode cX3_addTest 63 = .ok (.ishl, 1) := by decide +kernel
theorem dX3_addTest_64 : decode cX3_addTest 64 = .ok (.ior, 1) := by decide +kernel
theorem dX3_addTest_65 : decode cX3_addTest 65 = .ok (.putfield 32, 3) := by decide +kernel
theorem dX3_addTest_68 : decode cX3_addTest 68 = .ok (.aload_n 0, 1) := by decide +kernel
theorem dX3_addTest_69 : decode cX3_addTest 69 = .ok (.iconst 5, 1) := by decide +kernel
theorem dX3_addTest_70 : decode cX3_addTest 70 = .ok (.invokevirtual 44, 3) := by decide +kernel
theorem dX3_addTest_73 : decode cX3_addTest 73 = .ok (.return_, 1) := by decide +kernel
theorem dX3_stepCount_0 : decode cX3_stepCount 0 = .ok (.aload_n 0, 1) := by decide +kernel
theorem dX3_stepCount_1 : decode cX3_stepCount 1 = .ok (.getfield 25, 3) := by decide +kernel
theorem dX3_stepCount_4 : decode cX3_stepCount 4 = .ok (.ireturn, 1) := by decide +kernel
theorem dX3_step_0 : decode cX3_step 0 = .ok (.iload_n 1, 1) := by decide +kernel
theorem dX3_step_1 : decode cX3_step 1 = .ok (.ifCond .lt 21, 3) := by decide +kernel
theorem dX3_step_4 : decode cX3_step 4 = .ok (.iload_n 1, 1) := by decide +kernel
theorem dX3_step_5 : decode cX3_step 5 = .ok (.aload_n 0, 1) := by decide +kernel
theorem dX3_step_6 : decode cX3_step 6 = .ok (.getfield 9, 3) := by decide +kernel
theorem dX3_step_9 : decode cX3_step 9 = .ok (.arraylength, 1) := by decide +kernel
theorem dX3_step_10 : decode cX3_step 10 = .ok (.if_icmp .ge 12, 3) := by decide +kernel
theorem dX3_step_13 : decode cX3_step 13 = .ok (.aload_n 0, 1) := by decide +kernel
theorem dX3_step_14 : decode cX3_step 14 = .ok (.getfield 9, 3) := by decide +kernel
theorem dX3_step_17 : decode cX3_step 17 = .ok (.iload_n 1, 1) := by decide +kernel
theorem dX3_step_18 : decode cX3_step 18 = .ok (.iaload, 1) := by decide +kernel
theorem dX3_step_19 : decode cX3_step 19 = .ok (.goto 4, 3) := by decide +kernel
theorem dX3_step_22 : decode cX3_step 22 = .ok (.iconst 0, 1) := by decide +kernel
theorem dX3_step_23 : decode cX3_step 23 = .ok (.ireturn, 1) := by decide +kernel
theorem dX3_isTestTrue_0 : decode cX3_isTestTrue 0 = .ok (.iload_n 1, 1) := by decide +kernel
theorem dX3_isTestTrue_1 : decode cX3_isTestTrue 1 = .ok (.ifCond .lt 9, 3) := by decide +kernel
theorem dX3_isTestTrue_4 : decode cX3_isTestTrue 4 = .ok (.iload_n 1, 1) := by decide +kernel
theorem dX3_isTestTrue_5 : decode cX3_isTestTrue 5 = .ok (.bipush 40, 2) := by decide +kernel
theorem dX3_isTestTrue_7 : decode cX3_isTestTrue 7 = .ok (.if_icmp .lt 5, 3) := by decide +kernel
theorem dX3_isTestTrue_10 : decode cX3_isTestTrue 10 = .ok (.iconst 0, 1) := by decide +kernel
theorem dX3_isTestTrue_11 : decode cX3_isTestTrue 11 = .ok (.ireturn, 1) := by decide +kernel
theorem dX3_isTestTrue_12 : decode cX3_isTestTrue 12 = .ok (.aload_n 2, 1) := by decide +kernel
theorem dX3_isTestTrue_13 : decode cX3_isTestTrue 13 = .ok (.iload_n 3, 1) := by decide +kernel
theorem dX3_isTestTrue_14 : decode cX3_isTestTrue 14 = .ok (.aload_n 0, 1) := by decide +kernel
theorem dX3_isTestTrue_15 : decode cX3_isTestTrue 15 = .ok (.getfield 15, 3) := by decide +kernel
theorem dX3_isTestTrue_18 : decode cX3_isTestTrue 18 = .ok (.iload_n 1, 1) := by decide +kernel
theorem dX3_isTestTrue_19 : decode cX3_isTestTrue 19 = .ok (.iaload, 1) := by decide +kernel
theorem dX3_isTestTrue_20 : decode cX3_isTestTrue 20 = .ok (.invokevirtual 48, 3) := by decide +kernel
theorem dX3_isTestTrue_23 : decode cX3_isTestTrue 23 = .ok (.istore 4, 2) := by decide +kernel
theorem dX3_isTestTrue_25 : decode cX3_isTestTrue 25 = .ok (.aload_n 0, 1) := by decide +kernel
theorem dX3_isTestTrue_26 : decode cX3_isTestTrue 26 = .ok (.getfield 18, 3) := by decide +kernel
theorem dX3_isTestTrue_29 : decode cX3_isTestTrue 29 = .ok (.iload_n 1, 1) := by decide +kernel
theorem dX3_isTestTrue_30 : decode cX3_isTestTrue 30 = .ok (.caload, 1) := by decide +kernel
theorem dX3_isTestTrue_31 : decode cX3_isTestTrue 31 = .ok (.lookupswitch 59 #[(60, 42), (61, 25)], 25) := by decide +kernel
theorem dX3_isTestTrue_56 : decode cX3_isTestTrue 56 = .ok (.iload 4, 2) := by decide +kernel
theorem dX3_isTestTrue_58 : decode cX3_isTestTrue 58 = .ok (.aload_n 0, 1) := by decide +kernel
theorem dX3_isTestTrue_59 : decode cX3_isTestTrue 59 = .ok (.getfield 22, 3) := by decide +kernel
theorem dX3_isTestTrue_62 : decode cX3_isTestTrue 62 = .ok (.iload_n 1, 1) := by decide +kernel
theorem dX3_isTestTrue_63 : decode cX3_isTestTrue 63 = .ok (.iaload, 1) := by decide +kernel
theorem dX3_isTestTrue_64 : decode cX3_isTestTrue 64 = .ok (.if_icmp .ne 7, 3) := by decide +kernel
theorem dX3_isTestTrue_67 : decode cX3_isTestTrue 67 = .ok (.iconst 1, 1) := by decide +kernel
theorem dX3_isTestTrue_68 : decode cX3_isTestTrue 68 = .ok (.goto 4, 3) := by decide +kernel
theorem dX3_isTestTrue_71 : decode cX3_isTestTrue 71 = .ok (.iconst 0, 1) := by decide +kernel
theorem dX3_isTestTrue_72 : decode cX3_isTestTrue 72 = .ok (.ireturn, 1) := by decide +kernel
theorem dX3_isTestTrue_73 : decode cX3_isTestTrue 73 = .ok (.iload 4, 2) := by decide +kernel
theorem dX3_isTestTrue_75 : decode cX3_isTestTrue 75 = .ok (.aload_n 0, 1) := by decide +kernel
theorem dX3_isTestTrue_76 : decode cX3_isTestTrue 76 = .ok (.getfield 22, 3) := by decide +kernel
theorem dX3_isTestTrue_79 : decode cX3_isTestTrue 79 = .ok (.iload_n 1, 1) := by decide +kernel
theorem dX3_isTestTrue_80 : decode cX3_isTestTrue 80 = .ok (.iaload, 1) := by decide +kernel
theorem dX3_isTestTrue_81 : decode cX3_isTestTrue 81 = .ok (.if_icmp .ge 7, 3) := by decide +kernel
theorem dX3_isTestTrue_84 : decode cX3_isTestTrue 84 = .ok (.iconst 1, 1) := by decide +kernel
theorem dX3_isTestTrue_85 : decode cX3_isTestTrue 85 = .ok (.goto 4, 3) := by decide +kernel
theorem dX3_isTestTrue_88 : decode cX3_isTestTrue 88 = .ok (.iconst 0, 1) := by decide +kernel
theorem dX3_isTestTrue_89 : decode cX3_isTestTrue 89 = .ok (.ireturn, 1) := by decide +kernel
theorem dX3_isTestTrue_90 : decode cX3_isTestTrue 90 = .ok (.iload 4, 2) := by decide +kernel
theorem dX3_isTestTrue_92 : decode cX3_isTestTrue 92 = .ok (.aload_n 0, 1) := by decide +kernel
theorem dX3_isTestTrue_93 : decode cX3_isTestTrue 93 = .ok (.getfield 22, 3) := by decide +kernel
theorem dX3_isTestTrue_96 : decode cX3_isTestTrue 96 = .ok (.iload_n 1, 1) := by decide +kernel
theorem dX3_isTestTrue_97 : decode cX3_isTestTrue 97 = .ok (.iaload, 1) := by decide +kernel
theorem dX3_isTestTrue_98 : decode cX3_isTestTrue 98 = .ok (.if_icmp .le 7, 3) := by decide +kernel
theorem dX3_isTestTrue_101 : decode cX3_isTestTrue 101 = .ok (.iconst 1, 1) := by decide +kernel
theorem dX3_isTestTrue_102 : decode cX3_isTestTrue 102 = .ok (.goto 4, 3) := by decide +kernel
theorem dX3_isTestTrue_105 : decode cX3_isTestTrue 105 = .ok (.iconst 0, 1) := by decide +kernel
theorem dX3_isTestTrue_106 : decode cX3_isTestTrue 106 = .ok (.ireturn, 1) := by decide +kernel
theorem dX4_init_0 : decode cX4_init 0 = .ok (.aload_n 0, 1) := by decide +kernel
theorem dX4_init_1 : decode cX4_init 1 = .ok (.invokespecial 3, 3) := by decide +kernel
theorem dX4_init_4 : decode cX4_init 4 = .ok (.aload_n 0, 1) := by decide +kernel
theorem dX4_init_5 : decode cX4_init 5 = .ok (.new 9, 3) := by decide +kernel
theorem dX4_init_8 : decode cX4_init 8 = .ok (.dup, 1) := by decide +kernel
theorem dX4_init_9 : decode cX4_init 9 = .ok (.invokespecial 11, 3) := by decide +kernel
theorem dX4_init_12 : decode cX4_init 12 = .ok (.putfield 12, 3) := by decide +kernel
theorem dX4_init_15 : decode cX4_init 15 = .ok (.aload_n 0, 1) := by decide +kernel
theorem dX4_init_16 : decode cX4_init 16 = .ok (.iconst 0, 1) := by decide +kernel
theorem dX4_init_17 : decode cX4_init 17 = .ok (.putfield 18, 3) := by decide +kernel
theorem dX4_init_20 : decode cX4_init 20 = .ok (.aload_n 0, 1) := by decide +kernel
theorem dX4_init_21 : decode cX4_init 21 = .ok (.iconst 0, 1) := by decide +kernel
theorem dX4_init_22 : decode cX4_init 22 = .ok (.putfield 22, 3) := by decide +kernel
theorem dX4_init_25 : decode cX4_init 25 = .ok (.aload_n 0, 1) := by decide +kernel
theorem dX4_init_26 : decode cX4_init 26 = .ok (.iconst 0, 1) := by decide +kernel
theorem dX4_init_27 : decode cX4_init 27 = .ok (.putfield 25, 3) := by decide +kernel
theorem dX4_init_30 : decode cX4_init 30 = .ok (.aload_n 0, 1) := by decide +kernel
theorem dX4_init_31 : decode cX4_init 31 = .ok (.bipush 61, 2) := by decide +kernel
theorem dX4_init_33 : decode cX4_init 33 = .ok (.putfield 28, 3) := by decide +kernel
theorem dX4_init_36 : decode cX4_init 36 = .ok (.aload_n 0, 1) := by decide +kernel
theorem dX4_init_37 : decode cX4_init 37 = .ok (.iconst 0, 1) := by decide +kernel
theorem dX4_init_38 : decode cX4_init 38 = .ok (.putfield 32, 3) := by decide +kernel
theorem dX4_init_41 : decode cX4_init 41 = .ok (.aload_n 0, 1) := by decide +kernel
theorem dX4_init_42 : decode cX4_init 42 = .ok (.iconst 0, 1) := by decide +kernel
theorem dX4_init_43 : decode cX4_init 43 = .ok (.putfield 35, 3) := by decide +kernel
theorem dX4_init_46 : decode cX4_init 46 = .ok (.aload_n 0, 1) := by decide +kernel
theorem dX4_init_47 : decode cX4_init 47 = .ok (.iconst 0, 1) := by decide +kernel
theorem dX4_init_48 : decode cX4_init 48 = .ok (.putfield 38, 3) := by decide +kernel
theorem dX4_init_51 : decode cX4_init 51 = .ok (.aload_n 0, 1) := by decide +kernel
theorem dX4_init_52 : decode cX4_init 52 = .ok (.iconst 0, 1) := by decide +kernel
theorem dX4_init_53 : decode cX4_init 53 = .ok (.putfield 41, 3) := by decide +kernel
theorem dX4_init_56 : decode cX4_init 56 = .ok (.aload_n 0, 1) := by decide +kernel
theorem dX4_init_57 : decode cX4_init 57 = .ok (.bipush 20, 2) := by decide +kernel
theorem dX4_init_59 : decode cX4_init 59 = .ok (.newarray .int, 2) := by decide +kernel
theorem dX4_init_61 : decode cX4_init 61 = .ok (.putfield 44, 3) := by decide +kernel
theorem dX4_init_64 : decode cX4_init 64 = .ok (.aload_n 0, 1) := by decide +kernel
theorem dX4_init_65 : decode cX4_init 65 = .ok (.iconst 0, 1) := by decide +kernel
theorem dX4_init_66 : decode cX4_init 66 = .ok (.putfield 48, 3) := by decide +kernel
theorem dX4_init_69 : decode cX4_init 69 = .ok (.return_, 1) := by decide +kernel
theorem dX4_draft_0 : decode cX4_draft 0 = .ok (.aload_n 0, 1) := by decide +kernel
theorem dX4_draft_1 : decode cX4_draft 1 = .ok (.getfield 12, 3) := by decide +kernel
theorem dX4_draft_4 : decode cX4_draft 4 = .ok (.areturn, 1) := by decide +kernel
theorem dX4_writeNextInto_0 : decode cX4_writeNextInto 0 = .ok (.aload_n 0, 1) := by decide +kernel
theorem dX4_writeNextInto_1 : decode cX4_writeNextInto 1 = .ok (.aload_n 1, 1) := by decide +kernel
theorem dX4_writeNextInto_2 : decode cX4_writeNextInto 2 = .ok (.putfield 12, 3) := by decide +kernel
theorem dX4_writeNextInto_5 : decode cX4_writeNextInto 5 = .ok (.return_, 1) := by decide +kernel
theorem dX4_firstFault_0 : decode cX4_firstFault 0 = .ok (.aload_n 0, 1) := by decide +kernel
theorem dX4_firstFault_1 : decode cX4_firstFault 1 = .ok (.iload_n 3, 1) := by decide +kernel
theorem dX4_firstFault_2 : decode cX4_firstFault 2 = .ok (.invokevirtual 51, 3) := by decide +kernel
theorem dX4_firstFault_5 : decode cX4_firstFault 5 = .ok (.iconst 0, 1) := by decide +kernel
theorem dX4_firstFault_6 : decode cX4_firstFault 6 = .ok (.istore 4, 2) := by decide +kernel
theorem dX4_firstFault_8 : decode cX4_firstFault 8 = .ok (.iload 4, 2) := by decide +kernel
theorem dX4_firstFault_10 : decode cX4_firstFault 10 = .ok (.iload_n 2, 1) := by decide +kernel
theorem dX4_firstFault_11 : decode cX4_firstFault 11 = .ok (.if_icmp .ge 30, 3) := by decide +kernel
theorem dX4_firstFault_14 : decode cX4_firstFault 14 = .ok (.iload 4, 2) := by decide +kernel
theorem dX4_firstFault_16 : decode cX4_firstFault 16 = .ok (.aload_n 1, 1) := by decide +kernel
theorem dX4_firstFault_17 : decode cX4_firstFault 17 = .ok (.arraylength, 1) := by decide +kernel
theorem dX4_firstFault_18 : decode cX4_firstFault 18 = .ok (.if_icmp .ge 23, 3) := by decide +kernel
theorem dX4_firstFault_21 : decode cX4_firstFault 21 = .ok (.aload_n 0, 1) := by decide +kernel
theorem dX4_firstFault_22 : decode cX4_firstFault 22 = .ok (.aload_n 1, 1) := by decide +kernel
theorem dX4_firstFault_23 : decode cX4_firstFault 23 = .ok (.iload 4, 2) := by decide +kernel
theorem dX4_firstFault_25 : decode cX4_firstFault 25 = .ok (.caload, 1) := by decide +kernel
theorem dX4_firstFault_26 : decode cX4_firstFault 26 = .ok (.invokevirtual 55, 3) := by decide +kernel
theorem dX4_firstFault_29 : decode cX4_firstFault 29 = .ok (.ifCond .ne 6, 3) := by decide +kernel
theorem dX4_firstFault_32 : decode cX4_firstFault 32 = .ok (.iload 4, 2) := by decide +kernel
theorem dX4_firstFault_34 : decode cX4_firstFault 34 = .ok (.ireturn, 1) := by decide +kernel
theorem dX4_firstFault_35 : decode cX4_firstFault 35 = .ok (.iinc 4 1, 3) := by decide +kernel
theorem dX4_firstFault_38 : decode cX4_firstFault 38 = .ok (.goto (-30), 3) := by decide +kernel
theorem dX4_firstFault_41 : decode cX4_firstFault 41 = .ok (.aload_n 0, 1) := by decide +kernel
theorem dX4_firstFault_42 : decode cX4_firstFault 42 = .ok (.invokevirtual 59, 3) := by decide +kernel
theorem dX4_firstFault_45 : decode cX4_firstFault 45 = .ok (.ifCond .eq 7, 3) := by decide +kernel
theorem dX4_firstFault_48 : decode cX4_firstFault 48 = .ok (.iconst (-1), 1) := by decide +kernel
theorem dX4_firstFault_49 : decode cX4_firstFault 49 = .ok (.goto 4, 3) := by decide +kernel
theorem dX4_firstFault_52 : decode cX4_firstFault 52 = .ok (.iload_n 2, 1) := by decide +kernel
theorem dX4_firstFault_53 : decode cX4_firstFault 53 = .ok (.ireturn, 1) := by decide +kernel
theorem dX4_begin_0 : decode cX4_begin 0 = .ok (.aload_n 0, 1) := by decide +kernel
theorem dX4_begin_1 : decode cX4_begin 1 = .ok (.getfield 12, 3) := by decide +kernel
theorem dX4_begin_4 : decode cX4_begin 4 = .ok (.invokevirtual 63, 3) := by decide +kernel
theorem dX4_begin_7 : decode cX4_begin 7 = .ok (.aload_n 0, 1) := by decide +kernel
theorem dX4_begin_8 : decode cX4_begin 8 = .ok (.iload_n 1, 1) := by decide +kernel
theorem dX4_begin_9 : decode cX4_begin 9 = .ok (.putfield 18, 3) := by decide +kernel
theorem dX4_begin_12 : decode cX4_begin 12 = .ok (.aload_n 0, 1) := by decide +kernel
theorem dX4_begin_13 : decode cX4_begin 13 = .ok (.iconst 0, 1) := by decide +kernel
theorem dX4_begin_14 : decode cX4_begin 14 = .ok (.putfield 22, 3) := by decide +kernel
theorem dX4_begin_17 : decode cX4_begin 17 = .ok (.aload_n 0, 1) := by decide +kernel
theorem dX4_begin_18 : decode cX4_begin 18 = .ok (.iconst 0, 1) := by decide +kernel
theorem dX4_begin_19 : decode cX4_begin 19 = .ok (.putfield 38, 3) := by decide +kernel
theorem dX4_begin_22 : decode cX4_begin 22 = .ok (.aload_n 0, 1) := by decide +kernel
theorem dX4_begin_23 : decode cX4_begin 23 = .ok (.iconst 0, 1) := by decide +kernel
theorem dX4_begin_24 : decode cX4_begin 24 = .ok (.putfield 41, 3) := by decide +kernel
theorem dX4_begin_27 : decode cX4_begin 27 = .ok (.aload_n 0, 1) := by decide +kernel
theorem dX4_begin_28 : decode cX4_begin 28 = .ok (.iconst 0, 1) := by decide +kernel
theorem dX4_begin_29 : decode cX4_begin 29 = .ok (.putfield 48, 3) := by decide +kernel
theorem dX4_begin_32 : decode cX4_begin 32 = .ok (.return_, 1) := by decide +kernel
theorem dX4_takes_0 : decode cX4_takes 0 = .ok (.aload_n 0, 1) := by decide +kernel
theorem dX4_takes_1 : decode cX4_takes 1 = .ok (.getfield 22, 3) := by decide +kernel
theorem dX4_takes_4 : decode cX4_takes 4 = .ok (.tableswitch 116 0 6 #[44, 66, 72, 78, 84, 104, 110], 44) := by decide +kernel
theorem dX4_takes_48 : decode cX4_takes 48 = .ok (.aload_n 0, 1) := by decide +kernel
theorem dX4_takes_49 : decode cX4_takes 49 = .ok (.iload_n 1, 1) := by decide +kernel
theorem dX4_takes_50 : decode cX4_takes 50 = .ok (.invokevirtual 66, 3) := by decide +kernel
theorem dX4_takes_53 : decode cX4_takes 53 = .ok (.ifCond .ne 11, 3) := by decide +kernel
theorem dX4_takes_56 : decode cX4_takes 56 = .ok (.aload_n 0, 1) := by decide +kernel
theorem dX4_takes_57 : decode cX4_takes 57 = .ok (.iload_n 1, 1) := by decide +kernel
theorem dX4_takes_58 : decode cX4_takes 58 = .ok (.invokevirtual 69, 3) := by decide +kernel
theorem dX4_takes_61 : decode cX4_takes 61 = .ok (.ifCond .eq 7, 3) := by decide +kernel
theorem dX4_takes_64 : decode cX4_takes 64 = .ok (.iconst 1, 1) := by decide +kernel
theorem dX4_takes_65 : decode cX4_takes 65 = .ok (.goto 4, 3) := by decide +kernel
theorem dX4_takes_68 : decode cX4_takes 68 = .ok (.iconst 0, 1) := by decide +kernel
theorem dX4_takes_69 : decode cX4_takes 69 = .ok (.ireturn, 1) := by decide +kernel
theorem dX4_takes_70 : decode cX4_takes 70 = .ok (.aload_n 0, 1) := by decide +kernel
theorem dX4_takes_71 : decode cX4_takes 71 = .ok (.iload_n 1, 1) := by decide +kernel
theorem dX4_takes_72 : decode cX4_takes 72 = .ok (.invokevirtual 69, 3) := by decide +kernel
theorem dX4_takes_75 : decode cX4_takes 75 = .ok (.ireturn, 1) := by decide +kernel
theorem dX4_takes_76 : decode cX4_takes 76 = .ok (.aload_n 0, 1) := by decide +kernel
theorem dX4_takes_77 : decode cX4_takes 77 = .ok (.iload_n 1, 1) := by decide +kernel
theorem dX4_takes_78 : decode cX4_takes 78 = .ok (.invokevirtual 72, 3) := by decide +kernel
theorem dX4_takes_81 : decode cX4_takes 81 = .ok (.ireturn, 1) := by decide +kernel
theorem dX4_takes_82 : decode cX4_takes 82 = .ok (.aload_n 0, 1) := by decide +kernel
theorem dX4_takes_83 : decode cX4_takes 83 = .ok (.iload_n 1, 1) := by decide +kernel
theorem dX4_takes_84 : decode cX4_takes 84 = .ok (.invokevirtual 75, 3) := by decide +kernel
theorem dX4_takes_87 : decode cX4_takes 87 = .ok (.ireturn, 1) := by decide +kernel
theorem dX4_takes_88 : decode cX4_takes 88 = .ok (.aload_n 0, 1) := by decide +kernel
theorem dX4_takes_89 : decode cX4_takes 89 = .ok (.iload_n 1, 1) := by decide +kernel
theorem dX4_takes_90 : decode cX4_takes 90 = .ok (.invokevirtual 75, 3) := by decide +kernel
theorem dX4_takes_93 : decode cX4_takes 93 = .ok (.ifCond .eq 5, 3) := by decide +kernel
theorem dX4_takes_96 : decode cX4_takes 96 = .ok (.iconst 1, 1) := by decide +kernel
theorem dX4_takes_97 : decode cX4_takes 97 = .ok (.ireturn, 1) := by decide +kernel
theorem dX4_takes_98 : decode cX4_takes 98 = .ok (.aload_n 0, 1) := by decide +kernel
theorem dX4_takes_99 : decode cX4_takes 99 = .ok (.invokevirtual 78, 3) := by decide +kernel
theorem dX4_takes_102 : decode cX4_takes 102 = .ok (.aload_n 0, 1) := by decide +kernel
theorem dX4_takes_103 : decode cX4_takes 103 = .ok (.iload_n 1, 1) := by decide +kernel
theorem dX4_takes_104 : decode cX4_takes 104 = .ok (.invokevirtual 81, 3) := by decide +kernel
theorem dX4_takes_107 : decode cX4_takes 107 = .ok (.ireturn, 1) := by decide +kernel
theorem dX4_takes_108 : decode cX4_takes 108 = .ok (.aload_n 0, 1) := by decide +kernel
theorem dX4_takes_109 : decode cX4_takes 109 = .ok (.iload_n 1, 1) := by decide +kernel
theorem dX4_takes_110 : decode cX4_takes 110 = .ok (.invokevirtual 81, 3) := by decide +kernel
theorem dX4_takes_113 : decode cX4_takes 113 = .ok (.ireturn, 1) := by decide +kernel
theorem dX4_takes_114 : decode cX4_takes 114 = .ok (.aload_n 0, 1) := by decide +kernel
theorem dX4_takes_115 : decode cX4_takes 115 = .ok (.iload_n 1, 1) := by decide +kernel
theorem dX4_takes_116 : decode cX4_takes 116 = .ok (.invokevirtual 84, 3) := by decide +kernel
theorem dX4_takes_119 : decode cX4_takes 119 = .ok (.ireturn, 1) := by decide +kernel
theorem dX4_takes_120 : decode cX4_takes 120 = .ok (.iconst 0, 1) := by decide +kernel
theorem dX4_takes_121 : decode cX4_takes 121 = .ok (.ireturn, 1) := by decide +kernel
theorem dX4_takesEnd_0 : decode cX4_takesEnd 0 = .ok (.aload_n 0, 1) := by decide +kernel
theorem dX4_takesEnd_1 : decode cX4_takesEnd 1 = .ok (.getfield 22, 3) := by decide +kernel
theorem dX4_takesEnd_4 : decode cX4_takesEnd 4 = .ok (.iconst 4, 1) := by decide +kernel
theorem dX4_takesEnd_5 : decode cX4_takesEnd 5 = .ok (.if_icmp .ne 7, 3) := by decide +kernel
theorem dX4_takesEnd_8 : decode cX4_takesEnd 8 = .ok (.aload_n 0, 1) := by decide +kernel
theorem dX4_takesEnd_9 : decode cX4_takesEnd 9 = .ok (.invokevirtual 78, 3) := by decide +kernel
theorem dX4_takesEnd_12 : decode cX4_takesEnd 12 = .ok (.aload_n 0, 1) := by decide +kernel
theorem dX4_takesEnd_13 : decode cX4_takesEnd 13 = .ok (.getfield 22, 3) := by decide +kernel
theorem dX4_takesEnd_16 : decode cX4_takesEnd 16 = .ok (.ifCond .eq 27, 3) := by decide +kernel
theorem dX4_takesEnd_19 : decode cX4_takesEnd 19 = .ok (.aload_n 0, 1) := by decide +kernel
theorem dX4_takesEnd_20 : decode cX4_takesEnd 20 = .ok (.getfield 22, 3) := by decide +kernel
theorem dX4_takesEnd_23 : decode cX4_takesEnd 23 = .ok (.bipush 7, 2) := by decide +kernel
theorem dX4_takesEnd_25 : decode cX4_takesEnd 25 = .ok (.if_icmp .eq 18, 3) := by decide +kernel
theorem dX4_takesEnd_28 : decode cX4_takesEnd 28 = .ok (.aload_n 0, 1) := by decide +kernel
theorem dX4_takesEnd_29 : decode cX4_takesEnd 29 = .ok (.getfield 22, 3) := by decide +kernel
theorem dX4_takesEnd_32 : decode cX4_takesEnd 32 = .ok (.iconst 5, 1) := by decide +kernel
theorem dX4_takesEnd_33 : decode cX4_takesEnd 33 = .ok (.if_icmp .ne 14, 3) := by decide +kernel
theorem dX4_takesEnd_36 : decode cX4_takesEnd 36 = .ok (.aload_n 0, 1) := by decide +kernel
theorem dX4_takesEnd_37 : decode cX4_takesEnd 37 = .ok (.getfield 38, 3) := by decide +kernel
theorem dX4_takesEnd_40 : decode cX4_takesEnd 40 = .ok (.ifCond .ne 7, 3) := by decide +kernel
theorem dX4_takesEnd_43 : decode cX4_takesEnd 43 = .ok (.iconst 1, 1) := by decide +kernel
theorem dX4_takesEnd_44 : decode cX4_takesEnd 44 = .ok (.goto 4, 3) := by decide +kernel
theorem dX4_takesEnd_47 : decode cX4_takesEnd 47 = .ok (.iconst 0, 1) := by decide +kernel
theorem dX4_takesEnd_48 : decode cX4_takesEnd 48 = .ok (.ireturn, 1) := by decide +kernel
theorem dX4_takesTest_0 : decode cX4_takesTest 0 = .ok (.iload_n 1, 1) := by decide +kernel
theorem dX4_takesTest_1 : decode cX4_takesTest 1 = .ok (.bipush 33, 2) := by decide +kernel
theorem dX4_takesTest_3 : decode cX4_takesTest 3 = .ok (.if_icmp .ne 8, 3) := by decide +kernel
theorem dX4_takesTest_6 : decode cX4_takesTest 6 = .ok (.aload_n 0, 1) := by decide +kernel
theorem dX4_takesTest_7 : decode cX4_takesTest 7 = .ok (.invokevirtual 87, 3) := by decide +kernel
theorem dX4_takesTest_10 : decode cX4_takesTest 10 = .ok (.ireturn, 1) := by decide +kernel
theorem dX4_takesTest_11 : decode cX4_takesTest 11 = .ok (.iload_n 1, 1) := by decide +kernel
theorem dX4_takesTest_12 : decode cX4_takesTest 12 = .ok (.bipush 40, 2) := by decide +kernel
theorem dX4_takesTest_14 : decode cX4_takesTest 14 = .ok (.if_icmp .ne 10, 3) := by decide +kernel
theorem dX4_takesTest_17 : decode cX4_takesTest 17 = .ok (.aload_n 0, 1) := by decide +kernel
theorem dX4_takesTest_18 : decode cX4_takesTest 18 = .ok (.invokevirtual 90, 3) := by decide +kernel
theorem dX4_takesTest_21 : decode cX4_takesTest 21 = .ok (.goto 8, 3) := by decide +kernel
theorem dX4_takesTest_24 : decode cX4_takesTest 24 = .ok (.aload_n 0, 1) := by decide +kernel
theorem dX4_takesTest_25 : decode cX4_takesTest 25 = .ok (.iload_n 1, 1) := by decide +kernel
theorem dX4_takesTest_26 : decode cX4_takesTest 26 = .ok (.invokevirtual 93, 3) := by decide +kernel
theorem dX4_takesTest_29 : decode cX4_takesTest 29 = .ok (.ireturn, 1) := by decide +kernel
theorem dX4_takesTurn_0 : decode cX4_takesTurn 0 = .ok (.aload_n 0, 1) := by decide +kernel
theorem dX4_takesTurn_1 : decode cX4_takesTurn 1 = .ok (.getfield 38, 3) := by decide +kernel
theorem dX4_takesTurn_4 : decode cX4_takesTurn 4 = .ok (.bipush 20, 2) := by decide +kernel
theorem dX4_takesTurn_6 : decode cX4_takesTurn 6 = .ok (.if_icmp .lt 5, 3) := by decide +kernel
theorem dX4_takesTurn_9 : decode cX4_takesTurn 9 = .ok (.iconst 0, 1) := by decide +kernel
theorem dX4_takesTurn_10 : decode cX4_takesTurn 10 = .ok (.ireturn, 1) := by decide +kernel
theorem dX4_takesTurn_11 : decode cX4_takesTurn 11 = .ok (.aload_n 0, 1) := by decide +kernel
theorem dX4_takesTurn_12 : decode cX4_takesTurn 12 = .ok (.dup, 1) := by decide +kernel
theorem dX4_takesTurn_13 : decode cX4_takesTurn 13 = .ok (.getfield 38, 3) := by decide +kernel
theorem dX4_takesTurn_16 : decode cX4_takesTurn 16 = .ok (.iconst 1, 1) := by decide +kernel
theorem dX4_takesTurn_17 : decode cX4_takesTurn 17 = .ok (.iadd, 1) := by decide +kernel
theorem dX4_takesTurn_18 : decode cX4_takesTurn 18 = .ok (.putfield 38, 3) := by decide +kernel
theorem dX4_takesTurn_21 : decode cX4_takesTurn 21 = .ok (.aload_n 0, 1) := by decide +kernel
theorem dX4_takesTurn_22 : decode cX4_takesTurn 22 = .ok (.dup, 1) := by decide +kernel
theorem dX4_takesTurn_23 : decode cX4_takesTurn 23 = .ok (.getfield 41, 3) := by decide +kernel
theorem dX4_takesTurn_26 : decode cX4_takesTurn 26 = .ok (.iconst 1, 1) := by decide +kernel
theorem dX4_takesTurn_27 : decode cX4_takesTurn 27 = .ok (.iadd, 1) := by decide +kernel
theorem dX4_takesTurn_28 : decode cX4_takesTurn 28 = .ok (.putfield 41, 3) := by decide +kernel
theorem dX4_takesTurn_31 : decode cX4_takesTurn 31 = .ok (.aload_n 0, 1) := by decide +kernel
theorem dX4_takesTurn_32 : decode cX4_takesTurn 32 = .ok (.getfield 12, 3) := by decide +kernel
theorem dX4_takesTurn_35 : decode cX4_takesTurn 35 = .ok (.iconst 1, 1) := by decide +kernel
theorem dX4_takesTurn_36 : decode cX4_takesTurn 36 = .ok (.invokevirtual 96, 3) := by decide +kernel
theorem dX4_takesTurn_39 : decode cX4_takesTurn 39 = .ok (.aload_n 0, 1) := by decide +kernel
theorem dX4_takesTurn_40 : decode cX4_takesTurn 40 = .ok (.iconst 1, 1) := by decide +kernel
theorem dX4_takesTurn_41 : decode cX4_takesTurn 41 = .ok (.putfield 22, 3) := by decide +kernel
theorem dX4_takesTurn_44 : decode cX4_takesTurn 44 = .ok (.iconst 1, 1) := by decide +kernel
theorem dX4_takesTurn_45 : decode cX4_takesTurn 45 = .ok (.ireturn, 1) := by decide +kernel
theorem dX4_takesOpen_0 : decode cX4_takesOpen 0 = .ok (.aload_n 0, 1) := by decide +kernel
theorem dX4_takesOpen_1 : decode cX4_takesOpen 1 = .ok (.getfield 38, 3) := by decide +kernel
theorem dX4_takesOpen_4 : decode cX4_takesOpen 4 = .ok (.bipush 20, 2) := by decide +kernel
theorem dX4_takesOpen_6 : decode cX4_takesOpen 6 = .ok (.if_icmp .ge 22, 3) := by decide +kernel
theorem dX4_takesOpen_9 : decode cX4_takesOpen 9 = .ok (.aload_n 0, 1) := by decide +kernel
theorem dX4_takesOpen_10 : decode cX4_takesOpen 10 = .ok (.getfield 48, 3) := by decide +kernel
theorem dX4_takesOpen_13 : decode cX4_takesOpen 13 = .ok (.ifCond .lt 15, 3) := by decide +kernel
theorem dX4_takesOpen_16 : decode cX4_takesOpen 16 = .ok (.aload_n 0, 1) := by decide +kernel
theorem dX4_takesOpen_17 : decode cX4_takesOpen 17 = .ok (.getfield 48, 3) := by decide +kernel
theorem dX4_takesOpen_20 : decode cX4_takesOpen 20 = .ok (.aload_n 0, 1) := by decide +kernel
theorem dX4_takesOpen_21 : decode cX4_takesOpen 21 = .ok (.getfield 44, 3) := by decide +kernel
theorem dX4_takesOpen_24 : decode cX4_takesOpen 24 = .ok (.arraylength, 1) := by decide +kernel
theorem dX4_takesOpen_25 : decode cX4_takesOpen 25 = .ok (.if_icmp .lt 5, 3) := by decide +kernel
theorem dX4_takesOpen_28 : decode cX4_takesOpen 28 = .ok (.iconst 0, 1) := by decide +kernel
theorem dX4_takesOpen_29 : decode cX4_takesOpen 29 = .ok (.ireturn, 1) := by decide +kernel
theorem dX4_takesOpen_30 : decode cX4_takesOpen 30 = .ok (.aload_n 0, 1) := by decide +kernel
theorem dX4_takesOpen_31 : decode cX4_takesOpen 31 = .ok (.getfield 44, 3) := by decide +kernel
theorem dX4_takesOpen_34 : decode cX4_takesOpen 34 = .ok (.aload_n 0, 1) := by decide +kernel
theorem dX4_takesOpen_35 : decode cX4_takesOpen 35 = .ok (.getfield 48, 3) := by decide +kernel
theorem dX4_takesOpen_38 : decode cX4_takesOpen 38 = .ok (.aload_n 0, 1) := by decide +kernel
theorem dX4_takesOpen_39 : decode cX4_takesOpen 39 = .ok (.getfield 41, 3) := by decide +kernel
theorem dX4_takesOpen_42 : decode cX4_takesOpen 42 = .ok (.iastore, 1) := by decide +kernel
theorem dX4_takesOpen_43 : decode cX4_takesOpen 43 = .ok (.aload_n 0, 1) := by decide +kernel
theorem dX4_takesOpen_44 : decode cX4_takesOpen 44 = .ok (.dup, 1) := by decide +kernel
theorem dX4_takesOpen_45 : decode cX4_takesOpen 45 = .ok (.getfield 48, 3) := by decide +kernel
theorem dX4_takesOpen_48 : decode cX4_takesOpen 48 = .ok (.iconst 1, 1) := by decide +kernel
theorem dX4_takesOpen_49 : decode cX4_takesOpen 49 = .ok (.iadd, 1) := by decide +kernel
theorem dX4_takesOpen_50 : decode cX4_takesOpen 50 = .ok (.putfield 48, 3) := by decide +kernel
theorem dX4_takesOpen_53 : decode cX4_takesOpen 53 = .ok (.aload_n 0, 1) := by decide +kernel
theorem dX4_takesOpen_54 : decode cX4_takesOpen 54 = .ok (.dup, 1) := by decide +kernel
theorem dX4_takesOpen_55 : decode cX4_takesOpen 55 = .ok (.getfield 38, 3) := by decide +kernel
theorem dX4_takesOpen_58 : decode cX4_takesOpen 58 = .ok (.iconst 1, 1) := by decide +kernel
theorem dX4_takesOpen_59 : decode cX4_takesOpen 59 = .ok (.iadd, 1) := by decide +kernel
theorem dX4_takesOpen_60 : decode cX4_takesOpen 60 = .ok (.putfield 38, 3) := by decide +kernel
theorem dX4_takesOpen_63 : decode cX4_takesOpen 63 = .ok (.aload_n 0, 1) := by decide +kernel
theorem dX4_takesOpen_64 : decode cX4_takesOpen 64 = .ok (.iconst 0, 1) := by decide +kernel
theorem dX4_takesOpen_65 : decode cX4_takesOpen 65 = .ok (.putfield 41, 3) := by decide +kernel
theorem dX4_takesOpen_68 : decode cX4_takesOpen 68 = .ok (.aload_n 0, 1) := by decide +kernel
theorem dX4_takesOpen_69 : decode cX4_takesOpen 69 = .ok (.getfield 12, 3) := by decide +kernel
theorem dX4_takesOpen_72 : decode cX4_takesOpen 72 = .ok (.iconst 2, 1) := by decide +kernel
theorem dX4_takesOpen_73 : decode cX4_takesOpen 73 = .ok (.invokevirtual 96, 3) := by decide +kernel
theorem dX4_takesOpen_76 : decode cX4_takesOpen 76 = .ok (.aload_n 0, 1) := by decide +kernel
theorem dX4_takesOpen_77 : decode cX4_takesOpen 77 = .ok (.iconst 1, 1) := by decide +kernel
theorem dX4_takesOpen_78 : decode cX4_takesOpen 78 = .ok (.putfield 22, 3) := by decide +kernel
theorem dX4_takesOpen_81 : decode cX4_takesOpen 81 = .ok (.iconst 1, 1) := by decide +kernel
theorem dX4_takesOpen_82 : decode cX4_takesOpen 82 = .ok (.ireturn, 1) := by decide +kernel
theorem dX4_takesClose_0 : decode cX4_takesClose 0 = .ok (.aload_n 0, 1) := by decide +kernel
theorem dX4_takesClose_1 : decode cX4_takesClose 1 = .ok (.getfield 48, 3) := by decide +kernel
theorem dX4_takesClose_4 : decode cX4_takesClose 4 = .ok (.iconst 1, 1) := by decide +kernel
theorem dX4_takesClose_5 : decode cX4_takesClose 5 = .ok (.if_icmp .lt 15, 3) := by decide +kernel
theorem dX4_takesClose_8 : decode cX4_takesClose 8 = .ok (.aload_n 0, 1) := by decide +kernel
theorem dX4_takesClose_9 : decode cX4_takesClose 9 = .ok (.getfield 48, 3) := by decide +kernel
theorem dX4_takesClose_12 : decode cX4_takesClose 12 = .ok (.aload_n 0, 1) := by decide +kernel
theorem dX4_takesClose_13 : decode cX4_takesClose 13 = .ok (.getfield 44, 3) := by decide +kernel
theorem dX4_takesClose_16 : decode cX4_takesClose 16 = .ok (.arraylength, 1) := by decide +kernel
theorem dX4_takesClose_17 : decode cX4_takesClose 17 = .ok (.if_icmp .le 5, 3) := by decide +kernel
theorem dX4_takesClose_20 : decode cX4_takesClose 20 = .ok (.iconst 0, 1) := by decide +kernel
theorem dX4_takesClose_21 : decode cX4_takesClose 21 = .ok (.ireturn, 1) := by decide +kernel
theorem dX4_takesClose_22 : decode cX4_takesClose 22 = .ok (.aload_n 0, 1) := by decide +kernel
theorem dX4_takesClose_23 : decode cX4_takesClose 23 = .ok (.dup, 1) := by decide +kernel
theorem dX4_takesClose_24 : decode cX4_takesClose 24 = .ok (.getfield 48, 3) := by decide +kernel
theorem dX4_takesClose_27 : decode cX4_takesClose 27 = .ok (.iconst 1, 1) := by decide +kernel
theorem dX4_takesClose_28 : decode cX4_takesClose 28 = .ok (.isub, 1) := by decide +kernel
theorem dX4_takesClose_29 : decode cX4_takesClose 29 = .ok (.putfield 48, 3) := by decide +kernel
theorem dX4_takesClose_32 : decode cX4_takesClose 32 = .ok (.aload_n 0, 1) := by decide +kernel
theorem dX4_takesClose_33 : decode cX4_takesClose 33 = .ok (.dup, 1) := by decide +kernel
theorem dX4_takesClose_34 : decode cX4_takesClose 34 = .ok (.getfield 38, 3) := by decide +kernel
theorem dX4_takesClose_37 : decode cX4_takesClose 37 = .ok (.iconst 1, 1) := by decide +kernel
theorem dX4_takesClose_38 : decode cX4_takesClose 38 = .ok (.isub, 1) := by decide +kernel
theorem dX4_takesClose_39 : decode cX4_takesClose 39 = .ok (.putfield 38, 3) := by decide +kernel
theorem dX4_takesClose_42 : decode cX4_takesClose 42 = .ok (.aload_n 0, 1) := by decide +kernel
theorem dX4_takesClose_43 : decode cX4_takesClose 43 = .ok (.aload_n 0, 1) := by decide +kernel
theorem dX4_takesClose_44 : decode cX4_takesClose 44 = .ok (.getfield 44, 3) := by decide +kernel
theorem dX4_takesClose_47 : decode cX4_takesClose 47 = .ok (.aload_n 0, 1) := by decide +kernel
theorem dX4_takesClose_48 : decode cX4_takesClose 48 = .ok (.getfield 48, 3) := by decide +kernel
theorem dX4_takesClose_51 : decode cX4_takesClose 51 = .ok (.iaload, 1) := by decide +kernel
theorem dX4_takesClose_52 : decode cX4_takesClose 52 = .ok (.putfield 41, 3) := by decide +kernel
theorem dX4_takesClose_55 : decode cX4_takesClose 55 = .ok (.aload_n 0, 1) := by decide +kernel
theorem dX4_takesClose_56 : decode cX4_takesClose 56 = .ok (.getfield 12, 3) := by decide +kernel
theorem dX4_takesClose_59 : decode cX4_takesClose 59 = .ok (.iconst 3, 1) := by decide +kernel
theorem dX4_takesClose_60 : decode cX4_takesClose 60 = .ok (.invokevirtual 96, 3) := by decide +kernel
theorem dX4_takesClose_63 : decode cX4_takesClose 63 = .ok (.aload_n 0, 1) := by decide +kernel
theorem dX4_takesClose_64 : decode cX4_takesClose 64 = .ok (.invokevirtual 99, 3) := by decide +kernel
theorem dX4_takesClose_67 : decode cX4_takesClose 67 = .ok (.iconst 1, 1) := by decide +kernel
theorem dX4_takesClose_68 : decode cX4_takesClose 68 = .ok (.ireturn, 1) := by decide +kernel
theorem dX4_takesTestField_0 : decode cX4_takesTestField 0 = .ok (.iload_n 1, 1) := by decide +kernel
theorem dX4_takesTestField_1 : decode cX4_takesTestField 1 = .ok (.invokestatic 102, 3) := by decide +kernel
theorem dX4_takesTestField_4 : decode cX4_takesTestField 4 = .ok (.istore_n 2, 1) := by decide +kernel
theorem dX4_takesTestField_5 : decode cX4_takesTestField 5 = .ok (.aload_n 0, 1) := by decide +kernel
theorem dX4_takesTestField_6 : decode cX4_takesTestField 6 = .ok (.iload_n 2, 1) := by decide +kernel
theorem dX4_takesTestField_7 : decode cX4_takesTestField 7 = .ok (.invokevirtual 106, 3) := by decide +kernel
theorem dX4_takesTestField_10 : decode cX4_takesTestField 10 = .ok (.ifCond .eq 15, 3) := by decide +kernel
theorem dX4_takesTestField_13 : decode cX4_takesTestField 13 = .ok (.aload_n 0, 1) := by decide +kernel
theorem dX4_takesTestField_14 : decode cX4_takesTestField 14 = .ok (.getfield 12, 3) := by decide +kernel
theorem dX4_takesTestField_17 : decode cX4_takesTestField 17 = .ok (.invokevirtual 110, 3) := by decide +kernel
theorem dX4_takesTestField_20 : decode cX4_takesTestField 20 = .ok (.bipush 40, 2) := by decide +kernel
theorem dX4_takesTestField_22 : decode cX4_takesTestField 22 = .ok (.if_icmp .lt 5, 3) := by decide +kernel
theorem dX4_takesTestField_25 : decode cX4_takesTestField 25 = .ok (.iconst 0, 1) := by decide +kernel
theorem dX4_takesTestField_26 : decode cX4_takesTestField 26 = .ok (.ireturn, 1) := by decide +kernel
theorem dX4_takesTestField_27 : decode cX4_takesTestField 27 = .ok (.aload_n 0, 1) := by decide +kernel
theorem dX4_takesTestField_28 : decode cX4_takesTestField 28 = .ok (.iload_n 2, 1) := by decide +kernel
theorem dX4_takesTestField_29 : decode cX4_takesTestField 29 = .ok (.putfield 25, 3) := by decide +kernel
theorem dX4_takesTestField_32 : decode cX4_takesTestField 32 = .ok (.aload_n 0, 1) := by decide +kernel
theorem dX4_takesTestField_33 : decode cX4_takesTestField 33 = .ok (.iconst 2, 1) := by decide +kernel
theorem dX4_takesTestField_34 : decode cX4_takesTestField 34 = .ok (.putfield 22, 3) := by decide +kernel
theorem dX4_takesTestField_37 : decode cX4_takesTestField 37 = .ok (.iconst 1, 1) := by decide +kernel
theorem dX4_takesTestField_38 : decode cX4_takesTestField 38 = .ok (.ireturn, 1) := by decide +kernel
theorem dX4_takesRelation_0 : decode cX4_takesRelation 0 = .ok (.iload_n 1, 1) := by decide +kernel
theorem dX4_takesRelation_1 : decode cX4_takesRelation 1 = .ok (.bipush 61, 2) := by decide +kernel
theorem dX4_takesRelation_3 : decode cX4_takesRelation 3 = .ok (.if_icmp .eq 17, 3) := by decide +kernel
theorem dX4_takesRelation_6 : decode cX4_takesRelation 6 = .ok (.iload_n 1, 1) := by decide +kernel
theorem dX4_takesRelation_7 : decode cX4_takesRelation 7 = .ok (.bipush 60, 2) := by decide +kernel
theorem dX4_takesRelation_9 : decode cX4_takesRelation 9 = .ok (.if_icmp .eq 11, 3) := by decide +kernel
theorem dX4_takesRelation_12 : decode cX4_takesRelation 12 = .ok (.iload_n 1, 1) := by decide +kernel
theorem dX4_takesRelation_13 : decode cX4_takesRelation 13 = .ok (.bipush 62, 2) := by decide +kernel
theorem dX4_takesRelation_15 : decode cX4_takesRelation 15 = .ok (.if_icmp .eq 5, 3) := by decide +kernel
theorem dX4_takesRelation_18 : decode cX4_takesRelation 18 = .ok (.iconst 0, 1) := by decide +kernel
theorem dX4_takesRelation_19 : decode cX4_takesRelation 19 = .ok (.ireturn, 1) := by decide +kernel
theorem dX4_takesRelation_20 : decode cX4_takesRelation 20 = .ok (.aload_n 0, 1) := by decide +kernel
theorem dX4_takesRelation_21 : decode cX4_takesRelation 21 = .ok (.iload_n 1, 1) := by decide +kernel
theorem dX4_takesRelation_22 : decode cX4_takesRelation 22 = .ok (.putfield 28, 3) := by decide +kernel
theorem dX4_takesRelation_25 : decode cX4_takesRelation 25 = .ok (.aload_n 0, 1) := by decide +kernel
theorem dX4_takesRelation_26 : decode cX4_takesRelation 26 = .ok (.iconst 0, 1) := by decide +kernel
theorem dX4_takesRelation_27 : decode cX4_takesRelation 27 = .ok (.putfield 32, 3) := by decide +kernel
theorem dX4_takesRelation_30 : decode cX4_takesRelation 30 = .ok (.aload_n 0, 1) := by decide +kernel
theorem dX4_takesRelation_31 : decode cX4_takesRelation 31 = .ok (.iconst 0, 1) := by decide +kernel
theorem dX4_takesRelation_32 : decode cX4_takesRelation 32 = .ok (.putfield 35, 3) := by decide +kernel
theorem dX4_takesRelation_35 : decode cX4_takesRelation 35 = .ok (.aload_n 0, 1) := by decide +kernel
theorem dX4_takesRelation_36 : decode cX4_takesRelation 36 = .ok (.iconst 3, 1) := by decide +kernel
theorem dX4_takesRelation_37 : decode cX4_takesRelation 37 = .ok (.putfield 22, 3) := by decide +kernel
theorem dX4_takesRelation_40 : decode cX4_takesRelation 40 = .ok (.iconst 1, 1) := by decide +kernel
theorem dX4_takesRelation_41 : decode cX4_takesRelation 41 = .ok (.ireturn, 1) := by decide +kernel
theorem dX4_takesFigure_0 : decode cX4_takesFigure 0 = .ok (.iload_n 1, 1) := by decide +kernel
theorem dX4_takesFigure_1 : decode cX4_takesFigure 1 = .ok (.bipush 48, 2) := by decide +kernel
theorem dX4_takesFigure_3 : decode cX4_takesFigure 3 = .ok (.if_icmp .lt 17, 3) := by decide +kernel
theorem dX4_takesFigure_6 : decode cX4_takesFigure 6 = .ok (.iload_n 1, 1) := by decide +kernel
theorem dX4_takesFigure_7 : decode cX4_takesFigure 7 = .ok (.bipush 57, 2) := by decide +kernel
theorem dX4_takesFigure_9 : decode cX4_takesFigure 9 = .ok (.if_icmp .gt 11, 3) := by decide +kernel
theorem dX4_takesFigure_12 : decode cX4_takesFigure 12 = .ok (.aload_n 0, 1) := by decide +kernel
theorem dX4_takesFigure_13 : decode cX4_takesFigure 13 = .ok (.getfield 35, 3) := by decide +kernel
theorem dX4_takesFigure_16 : decode cX4_takesFigure 16 = .ok (.iconst 5, 1) := by decide +kernel
theorem dX4_takesFigure_17 : decode cX4_takesFigure 17 = .ok (.if_icmp .lt 5, 3) := by decide +kernel
theorem dX4_takesFigure_20 : decode cX4_takesFigure 20 = .ok (.iconst 0, 1) := by decide +kernel
theorem dX4_takesFigure_21 : decode cX4_takesFigure 21 = .ok (.ireturn, 1) := by decide +kernel
theorem dX4_takesFigure_22 : decode cX4_takesFigure 22 = .ok (.aload_n 0, 1) := by decide +kernel
theorem dX4_takesFigure_23 : decode cX4_takesFigure 23 = .ok (.aload_n 0, 1) := by decide +kernel
theorem dX4_takesFigure_24 : decode cX4_takesFigure 24 = .ok (.getfield 32, 3) := by decide +kernel
theorem dX4_takesFigure_27 : decode cX4_takesFigure 27 = .ok (.bipush 10, 2) := by decide +kernel
theorem dX4_takesFigure_29 : decode cX4_takesFigure 29 = .ok (.imul, 1) := by decide +kernel
theorem dX4_takesFigure_30 : decode cX4_takesFigure 30 = .ok (.iload_n 1, 1) := by decide +kernel
theorem dX4_takesFigure_31 : decode cX4_takesFigure 31 = .ok (.bipush 48, 2) := by decide +kernel
theorem dX4_takesFigure_33 : decode cX4_takesFigure 33 = .ok (.isub, 1) := by decide +kernel
theorem dX4_takesFigure_34 : decode cX4_takesFigure 34 = .ok (.iadd, 1) := by decide +kernel
theorem dX4_takesFigure_35 : decode cX4_takesFigure 35 = .ok (.putfield 32, 3) := by decide +kernel
theorem dX4_takesFigure_38 : decode cX4_takesFigure 38 = .ok (.aload_n 0, 1) := by decide +kernel
theorem dX4_takesFigure_39 : decode cX4_takesFigure 39 = .ok (.dup, 1) := by decide +kernel
theorem dX4_takesFigure_40 : decode cX4_takesFigure 40 = .ok (.getfield 35, 3) := by decide +kernel
theorem dX4_takesFigure_43 : decode cX4_takesFigure 43 = .ok (.iconst 1, 1) := by decide +kernel
theorem dX4_takesFigure_44 : decode cX4_takesFigure 44 = .ok (.iadd, 1) := by decide +kernel
theorem dX4_takesFigure_45 : decode cX4_takesFigure 45 = .ok (.putfield 35, 3) := by decide +kernel
theorem dX4_takesFigure_48 : decode cX4_takesFigure 48 = .ok (.aload_n 0, 1) := by decide +kernel
theorem dX4_takesFigure_49 : decode cX4_takesFigure 49 = .ok (.iconst 4, 1) := by decide +kernel
theorem dX4_takesFigure_50 : decode cX4_takesFigure 50 = .ok (.putfield 22, 3) := by decide +kernel
theorem dX4_takesFigure_53 : decode cX4_takesFigure 53 = .ok (.iconst 1, 1) := by decide +kernel
theorem dX4_takesFigure_54 : decode cX4_takesFigure 54 = .ok (.ireturn, 1) := by decide +kernel
theorem dX4_takesBehindTest_0 : decode cX4_takesBehindTest 0 = .ok (.iload_n 1, 1) := by decide +kernel
theorem dX4_takesBehindTest_1 : decode cX4_takesBehindTest 1 = .ok (.bipush 41, 2) := by decide +kernel
theorem dX4_takesBehindTest_3 : decode cX4_takesBehindTest 3 = .ok (.if_icmp .ne 8, 3) := by decide +kernel
theorem dX4_takesBehindTest_6 : decode cX4_takesBehindTest 6 = .ok (.aload_n 0, 1) := by decide +kernel
theorem dX4_takesBehindTest_7 : decode cX4_takesBehindTest 7 = .ok (.invokevirtual 114, 3) := by decide +kernel
theorem dX4_takesBehindTest_10 : decode cX4_takesBehindTest 10 = .ok (.ireturn, 1) := by decide +kernel
theorem dX4_takesBehindTest_11 : decode cX4_takesBehindTest 11 = .ok (.iload_n 1, 1) := by decide +kernel
theorem dX4_takesBehindTest_12 : decode cX4_takesBehindTest 12 = .ok (.bipush 38, 2) := by decide +kernel
theorem dX4_takesBehindTest_14 : decode cX4_takesBehindTest 14 = .ok (.if_icmp .eq 9, 3) := by decide +kernel
theorem dX4_takesBehindTest_17 : decode cX4_takesBehindTest 17 = .ok (.iload_n 1, 1) := by decide +kernel
theorem dX4_takesBehindTest_18 : decode cX4_takesBehindTest 18 = .ok (.bipush 124, 2) := by decide +kernel
theorem dX4_takesBehindTest_20 : decode cX4_takesBehindTest 20 = .ok (.if_icmp .ne 24, 3) := by decide +kernel
theorem dX4_takesBehindTest_23 : decode cX4_takesBehindTest 23 = .ok (.iload_n 1, 1) := by decide +kernel
theorem dX4_takesBehindTest_24 : decode cX4_takesBehindTest 24 = .ok (.bipush 124, 2) := by decide +kernel
theorem dX4_takesBehindTest_26 : decode cX4_takesBehindTest 26 = .ok (.if_icmp .ne 11, 3) := by decide +kernel
theorem dX4_takesBehindTest_29 : decode cX4_takesBehindTest 29 = .ok (.aload_n 0, 1) := by decide +kernel
theorem dX4_takesBehindTest_30 : decode cX4_takesBehindTest 30 = .ok (.getfield 12, 3) := by decide +kernel
theorem dX4_takesBehindTest_33 : decode cX4_takesBehindTest 33 = .ok (.iconst 4, 1) := by decide +kernel
theorem dX4_takesBehindTest_34 : decode cX4_takesBehindTest 34 = .ok (.invokevirtual 96, 3) := by decide +kernel
theorem dX4_takesBehindTest_37 : decode cX4_takesBehindTest 37 = .ok (.aload_n 0, 1) := by decide +kernel
theorem dX4_takesBehindTest_38 : decode cX4_takesBehindTest 38 = .ok (.iconst 1, 1) := by decide +kernel
theorem dX4_takesBehindTest_39 : decode cX4_takesBehindTest 39 = .ok (.putfield 22, 3) := by decide +kernel
theorem dX4_takesBehindTest_42 : decode cX4_takesBehindTest 42 = .ok (.iconst 1, 1) := by decide +kernel
theorem dX4_takesBehindTest_43 : decode cX4_takesBehindTest 43 = .ok (.ireturn, 1) := by decide +kernel
theorem dX4_takesBehindTest_44 : decode cX4_takesBehindTest 44 = .ok (.aload_n 0, 1) := by decide +kernel
theorem dX4_takesBehindTest_45 : decode cX4_takesBehindTest 45 = .ok (.getfield 38, 3) := by decide +kernel
theorem dX4_takesBehindTest_48 : decode cX4_takesBehindTest 48 = .ok (.ifCond .ne 15, 3) := by decide +kernel
theorem dX4_takesBehindTest_51 : decode cX4_takesBehindTest 51 = .ok (.aload_n 0, 1) := by decide +kernel
theorem dX4_takesBehindTest_52 : decode cX4_takesBehindTest 52 = .ok (.iload_n 1, 1) := by decide +kernel
theorem dX4_takesBehindTest_53 : decode cX4_takesBehindTest 53 = .ok (.invokevirtual 66, 3) := by decide +kernel
theorem dX4_takesBehindTest_56 : decode cX4_takesBehindTest 56 = .ok (.ifCond .eq 7, 3) := by decide +kernel
theorem dX4_takesBehindTest_59 : decode cX4_takesBehindTest 59 = .ok (.iconst 1, 1) := by decide +kernel
theorem dX4_takesBehindTest_60 : decode cX4_takesBehindTest 60 = .ok (.goto 4, 3) := by decide +kernel
theorem dX4_takesBehindTest_63 : decode cX4_takesBehindTest 63 = .ok (.iconst 0, 1) := by decide +kernel
theorem dX4_takesBehindTest_64 : decode cX4_takesBehindTest 64 = .ok (.ireturn, 1) := by decide +kernel
theorem dX4_takesTail_0 : decode cX4_takesTail 0 = .ok (.iload_n 1, 1) := by decide +kernel
theorem dX4_takesTail_1 : decode cX4_takesTail 1 = .ok (.invokestatic 117, 3) := by decide +kernel
theorem dX4_takesTail_4 : decode cX4_takesTail 4 = .ok (.istore_n 2, 1) := by decide +kernel
theorem dX4_takesTail_5 : decode cX4_takesTail 5 = .ok (.iload_n 2, 1) := by decide +kernel
theorem dX4_takesTail_6 : decode cX4_takesTail 6 = .ok (.ifCond .ne 5, 3) := by decide +kernel
theorem dX4_takesTail_9 : decode cX4_takesTail 9 = .ok (.iconst 0, 1) := by decide +kernel
theorem dX4_takesTail_10 : decode cX4_takesTail 10 = .ok (.ireturn, 1) := by decide +kernel
theorem dX4_takesTail_11 : decode cX4_takesTail 11 = .ok (.aload_n 0, 1) := by decide +kernel
theorem dX4_takesTail_12 : decode cX4_takesTail 12 = .ok (.getfield 12, 3) := by decide +kernel
theorem dX4_takesTail_15 : decode cX4_takesTail 15 = .ok (.iload_n 2, 1) := by decide +kernel
theorem dX4_takesTail_16 : decode cX4_takesTail 16 = .ok (.invokevirtual 120, 3) := by decide +kernel
theorem dX4_takesTail_19 : decode cX4_takesTail 19 = .ok (.aload_n 0, 1) := by decide +kernel
theorem dX4_takesTail_20 : decode cX4_takesTail 20 = .ok (.bipush 6, 2) := by decide +kernel
theorem dX4_takesTail_22 : decode cX4_takesTail 22 = .ok (.putfield 22, 3) := by decide +kernel
theorem dX4_takesTail_25 : decode cX4_takesTail 25 = .ok (.iconst 1, 1) := by decide +kernel
theorem dX4_takesTail_26 : decode cX4_takesTail 26 = .ok (.ireturn, 1) := by decide +kernel
theorem dX4_takesTailField_0 : decode cX4_takesTailField 0 = .ok (.iload_n 1, 1) := by decide +kernel
theorem dX4_takesTailField_1 : decode cX4_takesTailField 1 = .ok (.invokestatic 102, 3) := by decide +kernel
theorem dX4_takesTailField_4 : decode cX4_takesTailField 4 = .ok (.istore_n 2, 1) := by decide +kernel
theorem dX4_takesTailField_5 : decode cX4_takesTailField 5 = .ok (.aload_n 0, 1) := by decide +kernel
theorem dX4_takesTailField_6 : decode cX4_takesTailField 6 = .ok (.iload_n 2, 1) := by decide +kernel
theorem dX4_takesTailField_7 : decode cX4_takesTailField 7 = .ok (.invokevirtual 106, 3) := by decide +kernel
theorem dX4_takesTailField_10 : decode cX4_takesTailField 10 = .ok (.ifCond .ne 5, 3) := by decide +kernel
theorem dX4_takesTailField_13 : decode cX4_takesTailField 13 = .ok (.iconst 0, 1) := by decide +kernel
theorem dX4_takesTailField_14 : decode cX4_takesTailField 14 = .ok (.ireturn, 1) := by decide +kernel
theorem dX4_takesTailField_15 : decode cX4_takesTailField 15 = .ok (.aload_n 0, 1) := by decide +kernel
theorem dX4_takesTailField_16 : decode cX4_takesTailField 16 = .ok (.getfield 12, 3) := by decide +kernel
theorem dX4_takesTailField_19 : decode cX4_takesTailField 19 = .ok (.iload_n 2, 1) := by decide +kernel
theorem dX4_takesTailField_20 : decode cX4_takesTailField 20 = .ok (.invokevirtual 123, 3) := by decide +kernel
theorem dX4_takesTailField_23 : decode cX4_takesTailField 23 = .ok (.aload_n 0, 1) := by decide +kernel
theorem dX4_takesTailField_24 : decode cX4_takesTailField 24 = .ok (.bipush 7, 2) := by decide +kernel
theorem dX4_takesTailField_26 : decode cX4_takesTailField 26 = .ok (.putfield 22, 3) := by decide +kernel
theorem dX4_takesTailField_29 : decode cX4_takesTailField 29 = .ok (.iconst 1, 1) := by decide +kernel
theorem dX4_takesTailField_30 : decode cX4_takesTailField 30 = .ok (.ireturn, 1) := by decide +kernel
theorem dX4_endFieldTest_0 : decode cX4_endFieldTest 0 = .ok (.aload_n 0, 1) := by decide +kernel
theorem dX4_endFieldTest_1 : decode cX4_endFieldTest 1 = .ok (.getfield 12, 3) := by decide +kernel
theorem dX4_endFieldTest_4 : decode cX4_endFieldTest 4 = .ok (.aload_n 0, 1) := by decide +kernel
theorem dX4_endFieldTest_5 : decode cX4_endFieldTest 5 = .ok (.getfield 25, 3) := by decide +kernel
theorem dX4_endFieldTest_8 : decode cX4_endFieldTest 8 = .ok (.aload_n 0, 1) := by decide +kernel
theorem dX4_endFieldTest_9 : decode cX4_endFieldTest 9 = .ok (.getfield 28, 3) := by decide +kernel
theorem dX4_endFieldTest_12 : decode cX4_endFieldTest 12 = .ok (.aload_n 0, 1) := by decide +kernel
theorem dX4_endFieldTest_13 : decode cX4_endFieldTest 13 = .ok (.getfield 32, 3) := by decide +kernel
theorem dX4_endFieldTest_16 : decode cX4_endFieldTest 16 = .ok (.invokevirtual 126, 3) := by decide +kernel
theorem dX4_endFieldTest_19 : decode cX4_endFieldTest 19 = .ok (.aload_n 0, 1) := by decide +kernel
theorem dX4_endFieldTest_20 : decode cX4_endFieldTest 20 = .ok (.invokevirtual 99, 3) := by decide +kernel
theorem dX4_endFieldTest_23 : decode cX4_endFieldTest 23 = .ok (.return_, 1) := by decide +kernel
theorem dX4_endTest_0 : decode cX4_endTest 0 = .ok (.aload_n 0, 1) := by decide +kernel
theorem dX4_endTest_1 : decode cX4_endTest 1 = .ok (.dup, 1) := by decide +kernel
theorem dX4_endTest_2 : decode cX4_endTest 2 = .ok (.getfield 38, 3) := by decide +kernel
theorem dX4_endTest_5 : decode cX4_endTest 5 = .ok (.aload_n 0, 1) := by decide +kernel
theorem dX4_endTest_6 : decode cX4_endTest 6 = .ok (.getfield 41, 3) := by decide +kernel
theorem dX4_endTest_9 : decode cX4_endTest 9 = .ok (.isub, 1) := by decide +kernel
theorem dX4_endTest_10 : decode cX4_endTest 10 = .ok (.putfield 38, 3) := by decide +kernel
theorem dX4_endTest_13 : decode cX4_endTest 13 = .ok (.aload_n 0, 1) := by decide +kernel
theorem dX4_endTest_14 : decode cX4_endTest 14 = .ok (.iconst 0, 1) := by decide +kernel
theorem dX4_endTest_15 : decode cX4_endTest 15 = .ok (.putfield 41, 3) := by decide +kernel
theorem dX4_endTest_18 : decode cX4_endTest 18 = .ok (.aload_n 0, 1) := by decide +kernel
theorem dX4_endTest_19 : decode cX4_endTest 19 = .ok (.iconst 5, 1) := by decide +kernel
theorem dX4_endTest_20 : decode cX4_endTest 20 = .ok (.putfield 22, 3) := by decide +kernel
theorem dX4_endTest_23 : decode cX4_endTest 23 = .ok (.return_, 1) := by decide +kernel
theorem dX4_isOpenField_0 : decode cX4_isOpenField 0 = .ok (.iload_n 1, 1) := by decide +kernel
theorem dX4_isOpenField_1 : decode cX4_isOpenField 1 = .ok (.iconst (-1), 1) := by decide +kernel
theorem dX4_isOpenField_2 : decode cX4_isOpenField 2 = .ok (.if_icmp .eq 18, 3) := by decide +kernel
theorem dX4_isOpenField_5 : decode cX4_isOpenField 5 = .ok (.aload_n 0, 1) := by decide +kernel
theorem dX4_isOpenField_6 : decode cX4_isOpenField 6 = .ok (.getfield 18, 3) := by decide +kernel
theorem dX4_isOpenField_9 : decode cX4_isOpenField 9 = .ok (.iload_n 1, 1) := by decide +kernel
theorem dX4_isOpenField_10 : decode cX4_isOpenField 10 = .ok (.ishr, 1) := by decide +kernel
theorem dX4_isOpenField_11 : decode cX4_isOpenField 11 = .ok (.iconst 1, 1) := by decide +kernel
theorem dX4_isOpenField_12 : decode cX4_isOpenField 12 = .ok (.iand, 1) := by decide +kernel
theorem dX4_isOpenField_13 : decode cX4_isOpenField 13 = .ok (.ifCond .ne 7, 3) := by decide +kernel
theorem dX4_isOpenField_16 : decode cX4_isOpenField 16 = .ok (.iconst 1, 1) := by decide +kernel
theorem dX4_isOpenField_17 : decode cX4_isOpenField 17 = .ok (.goto 4, 3) := by decide +kernel
theorem dX4_isOpenField_20 : decode cX4_isOpenField 20 = .ok (.iconst 0, 1) := by decide +kernel
theorem dX4_isOpenField_21 : decode cX4_isOpenField 21 = .ok (.ireturn, 1) := by decide +kernel
theorem dX4_fieldOf_0 : decode cX4_fieldOf 0 = .ok (.iload_n 0, 1) := by decide +kernel
theorem dX4_fieldOf_1 : decode cX4_fieldOf 1 = .ok (.tableswitch 77 100 112 #[73, 77, 77, 77, 77, 67, 77, 69, 77, 77, 77, 75, 71], 67) := by decide +kernel
theorem dX4_fieldOf_68 : decode cX4_fieldOf 68 = .ok (.iconst 0, 1) := by decide +kernel
theorem dX4_fieldOf_69 : decode cX4_fieldOf 69 = .ok (.ireturn, 1) := by decide +kernel
theorem dX4_fieldOf_70 : decode cX4_fieldOf 70 = .ok (.iconst 1, 1) := by decide +kernel
theorem dX4_fieldOf_71 : decode cX4_fieldOf 71 = .ok (.ireturn, 1) := by decide +kernel
theorem dX4_fieldOf_72 : decode cX4_fieldOf 72 = .ok (.iconst 2, 1) := by decide +kernel
theorem dX4_fieldOf_73 : decode cX4_fieldOf 73 = .ok (.ireturn, 1) := by decide +kernel
theorem dX4_fieldOf_74 : decode cX4_fieldOf 74 = .ok (.iconst 3, 1) := by decide +kernel
theorem dX4_fieldOf_75 : decode cX4_fieldOf 75 = .ok (.ireturn, 1) := by decide +kernel
theorem dX4_fieldOf_76 : decode cX4_fieldOf 76 = .ok (.iconst 4, 1) := by decide +kernel
theorem dX4_fieldOf_77 : decode cX4_fieldOf 77 = .ok (.ireturn, 1) := by decide +kernel
theorem dX4_fieldOf_78 : decode cX4_fieldOf 78 = .ok (.iconst (-1), 1) := by decide +kernel
theorem dX4_fieldOf_79 : decode cX4_fieldOf 79 = .ok (.ireturn, 1) := by decide +kernel
theorem dX4_tailOf_0 : decode cX4_tailOf 0 = .ok (.iload_n 0, 1) := by decide +kernel
theorem dX4_tailOf_1 : decode cX4_tailOf 1 = .ok (.lookupswitch 41 #[(35, 35), (43, 37), (45, 39)], 35) := by decide +kernel
theorem dX4_tailOf_36 : decode cX4_tailOf 36 = .ok (.iconst 1, 1) := by decide +kernel
theorem dX4_tailOf_37 : decode cX4_tailOf 37 = .ok (.ireturn, 1) := by decide +kernel
theorem dX4_tailOf_38 : decode cX4_tailOf 38 = .ok (.iconst 2, 1) := by decide +kernel
theorem dX4_tailOf_39 : decode cX4_tailOf 39 = .ok (.ireturn, 1) := by decide +kernel
theorem dX4_tailOf_40 : decode cX4_tailOf 40 = .ok (.iconst 3, 1) := by decide +kernel
theorem dX4_tailOf_41 : decode cX4_tailOf 41 = .ok (.ireturn, 1) := by decide +kernel
theorem dX4_tailOf_42 : decode cX4_tailOf 42 = .ok (.iconst 0, 1) := by decide +kernel
theorem dX4_tailOf_43 : decode cX4_tailOf 43 = .ok (.ireturn, 1) := by decide +kernel
theorem dX5_init_0 : decode cX5_init 0 = .ok (.aload_n 0, 1) := by decide +kernel
theorem dX5_init_1 : decode cX5_init 1 = .ok (.invokespecial 3, 3) := by decide +kernel
theorem dX5_init_4 : decode cX5_init 4 = .ok (.aload_n 0, 1) := by decide +kernel
theorem dX5_init_5 : decode cX5_init 5 = .ok (.bipush 50, 2) := by decide +kernel
theorem dX5_init_7 : decode cX5_init 7 = .ok (.bipush 101, 2) := by decide +kernel
theorem dX5_init_9 : decode cX5_init 9 = .ok (.multianewarray 9 2, 4) := by decide +kernel
theorem dX5_init_13 : decode cX5_init 13 = .ok (.putfield 11, 3) := by decide +kernel
theorem dX5_init_16 : decode cX5_init 16 = .ok (.aload_n 0, 1) := by decide +kernel
theorem dX5_init_17 : decode cX5_init 17 = .ok (.bipush 50, 2) := by decide +kernel
theorem dX5_init_19 : decode cX5_init 19 = .ok (.newarray .int, 2) := by decide +kernel
theorem dX5_init_21 : decode cX5_init 21 = .ok (.putfield 16, 3) := by decide +kernel
theorem dX5_init_24 : decode cX5_init 24 = .ok (.aload_n 0, 1) := by decide +kernel
theorem dX5_init_25 : decode cX5_init 25 = .ok (.iconst 0, 1) := by decide +kernel
theorem dX5_init_26 : decode cX5_init 26 = .ok (.putfield 20, 3) := by decide +kernel
theorem dX5_init_29 : decode cX5_init 29 = .ok (.return_, 1) := by decide +kernel
theorem dX5_count_0 : decode cX5_count 0 = .ok (.aload_n 0, 1) := by decide +kernel
theorem dX5_count_1 : decode cX5_count 1 = .ok (.getfield 20, 3) := by decide +kernel
theorem dX5_count_4 : decode cX5_count 4 = .ok (.ireturn, 1) := by decide +kernel
theorem dX5_countOf_0 : decode cX5_countOf 0 = .ok (.iload_n 1, 1) := by decide +kernel
theorem dX5_countOf_1 : decode cX5_countOf 1 = .ok (.ifCond .lt 18, 3) := by decide +kernel
theorem dX5_countOf_4 : decode cX5_countOf 4 = .ok (.iload_n 1, 1) := by decide +kernel
theorem dX5_countOf_5 : decode cX5_countOf 5 = .ok (.bipush 50, 2) := by decide +kernel
theorem dX5_countOf_7 : decode cX5_countOf 7 = .ok (.if_icmp .ge 12, 3) := by decide +kernel
theorem dX5_countOf_10 : decode cX5_countOf 10 = .ok (.aload_n 0, 1) := by decide +kernel
theorem dX5_countOf_11 : decode cX5_countOf 11 = .ok (.getfield 16, 3) := by decide +kernel
theorem dX5_countOf_14 : decode cX5_countOf 14 = .ok (.iload_n 1, 1) := by decide +kernel
theorem dX5_countOf_15 : decode cX5_countOf 15 = .ok (.iaload, 1) := by decide +kernel
theorem dX5_countOf_16 : decode cX5_countOf 16 = .ok (.goto 4, 3) := by decide +kernel
theorem dX5_countOf_19 : decode cX5_countOf 19 = .ok (.iconst 0, 1) := by decide +kernel
theorem dX5_countOf_20 : decode cX5_countOf 20 = .ok (.ireturn, 1) := by decide +kernel
theorem dX5_holds_0 : decode cX5_holds 0 = .ok (.aload_n 0, 1) := by decide +kernel
theorem dX5_holds_1 : decode cX5_holds 1 = .ok (.iload_n 1, 1) := by decide +kernel
theorem dX5_holds_2 : decode cX5_holds 2 = .ok (.iload_n 2, 1) := by decide +kernel
theorem dX5_holds_3 : decode cX5_holds 3 = .ok (.invokevirtual 24, 3) := by decide +kernel
theorem dX5_holds_6 : decode cX5_holds 6 = .ok (.iload_n 3, 1) := by decide +kernel
theorem dX5_holds_7 : decode cX5_holds 7 = .ok (.iconst 1, 1) := by decide +kernel
theorem dX5_holds_8 : decode cX5_holds 8 = .ok (.iadd, 1) := by decide +kernel
theorem dX5_holds_9 : decode cX5_holds 9 = .ok (.ishr, 1) := by decide +kernel
theorem dX5_holds_10 : decode cX5_holds 10 = .ok (.iconst 1, 1) := by decide +kernel
theorem dX5_holds_11 : decode cX5_holds 11 = .ok (.iand, 1) := by decide +kernel
theorem dX5_holds_12 : decode cX5_holds 12 = .ok (.ifCond .eq 7, 3) := by decide +kernel
theorem dX5_holds_15 : decode cX5_holds 15 = .ok (.iconst 1, 1) := by decide +kernel
theorem dX5_holds_16 : decode cX5_holds 16 = .ok (.goto 4, 3) := by decide +kernel
theorem dX5_holds_19 : decode cX5_holds 19 = .ok (.iconst 0, 1) := by decide +kernel
theorem dX5_holds_20 : decode cX5_holds 20 = .ok (.ireturn, 1) := by decide +kernel
theorem dX5_add_0 : decode cX5_add 0 = .ok (.iload_n 1, 1) := by decide +kernel
theorem dX5_add_1 : decode cX5_add 1 = .ok (.ifCond .lt 20, 3) := by decide +kernel
theorem dX5_add_4 : decode cX5_add 4 = .ok (.iload_n 1, 1) := by decide +kernel
theorem dX5_add_5 : decode cX5_add 5 = .ok (.bipush 50, 2) := by decide +kernel
theorem dX5_add_7 : decode cX5_add 7 = .ok (.if_icmp .ge 14, 3) := by decide +kernel
theorem dX5_add_10 : decode cX5_add 10 = .ok (.iload_n 2, 1) := by decide +kernel
theorem dX5_add_11 : decode cX5_add 11 = .ok (.iconst (-1), 1) := by decide +kernel
theorem dX5_add_12 : decode cX5_add 12 = .ok (.if_icmp .lt 9, 3) := by decide +kernel
theorem dX5_add_15 : decode cX5_add 15 = .ok (.iload_n 2, 1) := by decide +kernel
theorem dX5_add_16 : decode cX5_add 16 = .ok (.bipush 100, 2) := by decide +kernel
theorem dX5_add_18 : decode cX5_add 18 = .ok (.if_icmp .lt 4, 3) := by decide +kernel
theorem dX5_add_21 : decode cX5_add 21 = .ok (.return_, 1) := by decide +kernel
theorem dX5_add_22 : decode cX5_add 22 = .ok (.aload_n 0, 1) := by decide +kernel
theorem dX5_add_23 : decode cX5_add 23 = .ok (.getfield 11, 3) := by decide +kernel
theorem dX5_add_26 : decode cX5_add 26 = .ok (.iload_n 1, 1) := by decide +kernel
theorem dX5_add_27 : decode cX5_add 27 = .ok (.aaload, 1) := by decide +kernel
theorem dX5_add_28 : decode cX5_add 28 = .ok (.iload_n 2, 1) := by decide +kernel
theorem dX5_add_29 : decode cX5_add 29 = .ok (.iconst 1, 1) := by decide +kernel
theorem dX5_add_30 : decode cX5_add 30 = .ok (.iadd, 1) := by decide +kernel
theorem dX5_add_31 : decode cX5_add 31 = .ok (.dup2, 1) := by decide +kernel
theorem dX5_add_32 : decode cX5_add 32 = .ok (.iaload, 1) := by decide +kernel
theorem dX5_add_33 : decode cX5_add 33 = .ok (.iconst 1, 1) := by decide +kernel
theorem dX5_add_34 : decode cX5_add 34 = .ok (.iload_n 3, 1) := by decide +kernel
theorem dX5_add_35 : decode cX5_add 35 = .ok (.iconst 1, 1) := by decide +kernel
theorem dX5_add_36 : decode cX5_add 36 = .ok (.iadd, 1) := by decide +kernel
theorem dX5_add_37 : decode cX5_add 37 = .ok (.ishl, 1) := by decide +kernel
theorem dX5_add_38 : decode cX5_add 38 = .ok (.ior, 1) := by decide +kernel
theorem dX5_add_39 : decode cX5_add 39 = .ok (.iastore, 1) := by decide +kernel
theorem dX5_add_40 : decode cX5_add 40 = .ok (.aload_n 0, 1) := by decide +kernel
theorem dX5_add_41 : decode cX5_add 41 = .ok (.getfield 16, 3) := by decide +kernel
theorem dX5_add_44 : decode cX5_add 44 = .ok (.iload_n 1, 1) := by decide +kernel
theorem dX5_add_45 : decode cX5_add 45 = .ok (.dup2, 1) := by decide +kernel
theorem dX5_add_46 : decode cX5_add 46 = .ok (.iaload, 1) := by decide +kernel
theorem dX5_add_47 : decode cX5_add 47 = .ok (.iconst 1, 1) := by decide +kernel
theorem dX5_add_48 : decode cX5_add 48 = .ok (.iadd, 1) := by decide +kernel
theorem dX5_add_49 : decode cX5_add 49 = .ok (.iastore, 1) := by decide +kernel
theorem dX5_add_50 : decode cX5_add 50 = .ok (.aload_n 0, 1) := by decide +kernel
theorem dX5_add_51 : decode cX5_add 51 = .ok (.dup, 1) := by decide +kernel
theorem dX5_add_52 : decode cX5_add 52 = .ok (.getfield 20, 3) := by decide +kernel
theorem dX5_add_55 : decode cX5_add 55 = .ok (.iconst 1, 1) := by decide +kernel
theorem dX5_add_56 : decode cX5_add 56 = .ok (.iadd, 1) := by decide +kernel
theorem dX5_add_57 : decode cX5_add 57 = .ok (.putfield 20, 3) := by decide +kernel
theorem dX5_add_60 : decode cX5_add 60 = .ok (.return_, 1) := by decide +kernel
theorem dX5_letSee_0 : decode cX5_letSee 0 = .ok (.aload_n 0, 1) := by decide +kernel
theorem dX5_letSee_1 : decode cX5_letSee 1 = .ok (.iload_n 1, 1) := by decide +kernel
theorem dX5_letSee_2 : decode cX5_letSee 2 = .ok (.iconst (-1), 1) := by decide +kernel
theorem dX5_letSee_3 : decode cX5_letSee 3 = .ok (.invokevirtual 24, 3) := by decide +kernel
theorem dX5_letSee_6 : decode cX5_letSee 6 = .ok (.aload_n 0, 1) := by decide +kernel
theorem dX5_letSee_7 : decode cX5_letSee 7 = .ok (.iload_n 1, 1) := by decide +kernel
theorem dX5_letSee_8 : decode cX5_letSee 8 = .ok (.iload_n 2, 1) := by decide +kernel
theorem dX5_letSee_9 : decode cX5_letSee 9 = .ok (.invokevirtual 24, 3) := by decide +kernel
theorem dX5_letSee_12 : decode cX5_letSee 12 = .ok (.ior, 1) := by decide +kernel
theorem dX5_letSee_13 : decode cX5_letSee 13 = .ok (.istore 4, 2) := by decide +kernel
theorem dX5_letSee_15 : decode cX5_letSee 15 = .ok (.iload 4, 2) := by decide +kernel
theorem dX5_letSee_17 : decode cX5_letSee 17 = .ok (.iconst 1, 1) := by decide +kernel
theorem dX5_letSee_18 : decode cX5_letSee 18 = .ok (.iconst 1, 1) := by decide +kernel
theorem dX5_letSee_19 : decode cX5_letSee 19 = .ok (.iload_n 3, 1) := by decide +kernel
theorem dX5_letSee_20 : decode cX5_letSee 20 = .ok (.iconst 1, 1) := by decide +kernel
theorem dX5_letSee_21 : decode cX5_letSee 21 = .ok (.iadd, 1) := by decide +kernel
theorem dX5_letSee_22 : decode cX5_letSee 22 = .ok (.ishl, 1) := by decide +kernel
theorem dX5_letSee_23 : decode cX5_letSee 23 = .ok (.ior, 1) := by decide +kernel
theorem dX5_letSee_24 : decode cX5_letSee 24 = .ok (.iand, 1) := by decide +kernel
theorem dX5_letSee_25 : decode cX5_letSee 25 = .ok (.ifCond .eq 7, 3) := by decide +kernel
theorem dX5_letSee_28 : decode cX5_letSee 28 = .ok (.iconst 1, 1) := by decide +kernel
theorem dX5_letSee_29 : decode cX5_letSee 29 = .ok (.goto 4, 3) := by decide +kernel
theorem dX5_letSee_32 : decode cX5_letSee 32 = .ok (.iconst 0, 1) := by decide +kernel
theorem dX5_letSee_33 : decode cX5_letSee 33 = .ok (.ireturn, 1) := by decide +kernel
theorem dX5_kindsOf_0 : decode cX5_kindsOf 0 = .ok (.iload_n 1, 1) := by decide +kernel
theorem dX5_kindsOf_1 : decode cX5_kindsOf 1 = .ok (.ifCond .lt 20, 3) := by decide +kernel
theorem dX5_kindsOf_4 : decode cX5_kindsOf 4 = .ok (.iload_n 1, 1) := by decide +kernel
theorem dX5_kindsOf_5 : decode cX5_kindsOf 5 = .ok (.bipush 50, 2) := by decide +kernel
theorem dX5_kindsOf_7 : decode cX5_kindsOf 7 = .ok (.if_icmp .ge 14, 3) := by decide +kernel
theorem dX5_kindsOf_10 : decode cX5_kindsOf 10 = .ok (.iload_n 2, 1) := by decide +kernel
theorem dX5_kindsOf_11 : decode cX5_kindsOf 11 = .ok (.iconst (-1), 1) := by decide +kernel
theorem dX5_kindsOf_12 : decode cX5_kindsOf 12 = .ok (.if_icmp .lt 9, 3) := by decide +kernel
theorem dX5_kindsOf_15 : decode cX5_kindsOf 15 = .ok (.iload_n 2, 1) := by decide +kernel
theorem dX5_kindsOf_16 : decode cX5_kindsOf 16 = .ok (.bipush 100, 2) := by decide +kernel
theorem dX5_kindsOf_18 : decode cX5_kindsOf 18 = .ok (.if_icmp .lt 5, 3) := by decide +kernel
theorem dX5_kindsOf_21 : decode cX5_kindsOf 21 = .ok (.iconst 0, 1) := by decide +kernel
theorem dX5_kindsOf_22 : decode cX5_kindsOf 22 = .ok (.ireturn, 1) := by decide +kernel
theorem dX5_kindsOf_23 : decode cX5_kindsOf 23 = .ok (.aload_n 0, 1) := by decide +kernel
theorem dX5_kindsOf_24 : decode cX5_kindsOf 24 = .ok (.getfield 11, 3) := by decide +kernel
theorem dX5_kindsOf_27 : decode cX5_kindsOf 27 = .ok (.iload_n 1, 1) := by decide +kernel
theorem dX5_kindsOf_28 : decode cX5_kindsOf 28 = .ok (.aaload, 1) := by decide +kernel
theorem dX5_kindsOf_29 : decode cX5_kindsOf 29 = .ok (.iload_n 2, 1) := by decide +kernel
theorem dX5_kindsOf_30 : decode cX5_kindsOf 30 = .ok (.iconst 1, 1) := by decide +kernel
theorem dX5_kindsOf_31 : decode cX5_kindsOf 31 = .ok (.iadd, 1) := by decide +kernel
theorem dX5_kindsOf_32 : decode cX5_kindsOf 32 = .ok (.iaload, 1) := by decide +kernel
theorem dX5_kindsOf_33 : decode cX5_kindsOf 33 = .ok (.ireturn, 1) := by decide +kernel
theorem dX6_init_0 : decode cX6_init 0 = .ok (.aload_n 0, 1) := by decide +kernel
theorem dX6_init_1 : decode cX6_init 1 = .ok (.invokespecial 3, 3) := by decide +kernel
theorem dX6_init_4 : decode cX6_init 4 = .ok (.aload_n 0, 1) := by decide +kernel
theorem dX6_init_5 : decode cX6_init 5 = .ok (.iconst 5, 1) := by decide +kernel
theorem dX6_init_6 : decode cX6_init 6 = .ok (.sipush 300, 3) := by decide +kernel
theorem dX6_init_9 : decode cX6_init 9 = .ok (.multianewarray 9 2, 4) := by decide +kernel
theorem dX6_init_13 : decode cX6_init 13 = .ok (.putfield 11, 3) := by decide +kernel
theorem dX6_init_16 : decode cX6_init 16 = .ok (.aload_n 0, 1) := by decide +kernel
theorem dX6_init_17 : decode cX6_init 17 = .ok (.iconst 5, 1) := by decide +kernel
theorem dX6_init_18 : decode cX6_init 18 = .ok (.sipush 300, 3) := by decide +kernel
theorem dX6_init_21 : decode cX6_init 21 = .ok (.multianewarray 9 2, 4) := by decide +kernel
theorem dX6_init_25 : decode cX6_init 25 = .ok (.putfield 16, 3) := by decide +kernel
theorem dX6_init_28 : decode cX6_init 28 = .ok (.aload_n 0, 1) := by decide +kernel
theorem dX6_init_29 : decode cX6_init 29 = .ok (.iconst 5, 1) := by decide +kernel
theorem dX6_init_30 : decode cX6_init 30 = .ok (.sipush 300, 3) := by decide +kernel
theorem dX6_init_33 : decode cX6_init 33 = .ok (.multianewarray 9 2, 4) := by decide +kernel
theorem dX6_init_37 : decode cX6_init 37 = .ok (.putfield 19, 3) := by decide +kernel
theorem dX6_init_40 : decode cX6_init 40 = .ok (.aload_n 0, 1) := by decide +kernel
theorem dX6_init_41 : decode cX6_init 41 = .ok (.iconst 0, 1) := by decide +kernel
theorem dX6_init_42 : decode cX6_init 42 = .ok (.putfield 22, 3) := by decide +kernel
theorem dX6_init_45 : decode cX6_init 45 = .ok (.return_, 1) := by decide +kernel
theorem dX6_count_0 : decode cX6_count 0 = .ok (.aload_n 0, 1) := by decide +kernel
theorem dX6_count_1 : decode cX6_count 1 = .ok (.getfield 22, 3) := by decide +kernel
theorem dX6_count_4 : decode cX6_count 4 = .ok (.ireturn, 1) := by decide +kernel
theorem dX6_add_0 : decode cX6_add 0 = .ok (.aload_n 0, 1) := by decide +kernel
theorem dX6_add_1 : decode cX6_add 1 = .ok (.getfield 22, 3) := by decide +kernel
theorem dX6_add_4 : decode cX6_add 4 = .ok (.ifCond .lt 13, 3) := by decide +kernel
theorem dX6_add_7 : decode cX6_add 7 = .ok (.aload_n 0, 1) := by decide +kernel
theorem dX6_add_8 : decode cX6_add 8 = .ok (.getfield 22, 3) := by decide +kernel
theorem dX6_add_11 : decode cX6_add 11 = .ok (.sipush 300, 3) := by decide +kernel
theorem dX6_add_14 : decode cX6_add 14 = .ok (.if_icmp .lt 6, 3) := by decide +kernel
theorem dX6_add_17 : decode cX6_add 17 = .ok (.ldc 26, 2) := by decide +kernel
theorem dX6_add_19 : decode cX6_add 19 = .ok (.ireturn, 1) := by decide +kernel
theorem dX6_add_20 : decode cX6_add 20 = .ok (.aload_n 0, 1) := by decide +kernel
theorem dX6_add_21 : decode cX6_add 21 = .ok (.getfield 11, 3) := by decide +kernel
theorem dX6_add_24 : decode cX6_add 24 = .ok (.iconst 0, 1) := by decide +kernel
theorem dX6_add_25 : decode cX6_add 25 = .ok (.aaload, 1) := by decide +kernel
theorem dX6_add_26 : decode cX6_add 26 = .ok (.aload_n 0, 1) := by decide +kernel
theorem dX6_add_27 : decode cX6_add 27 = .ok (.getfield 22, 3) := by decide +kernel
theorem dX6_add_30 : decode cX6_add 30 = .ok (.iload_n 1, 1) := by decide +kernel
theorem dX6_add_31 : decode cX6_add 31 = .ok (.iastore, 1) := by decide +kernel
theorem dX6_add_32 : decode cX6_add 32 = .ok (.aload_n 0, 1) := by decide +kernel
theorem dX6_add_33 : decode cX6_add 33 = .ok (.getfield 11, 3) := by decide +kernel
theorem dX6_add_36 : decode cX6_add 36 = .ok (.iconst 1, 1) := by decide +kernel
theorem dX6_add_37 : decode cX6_add 37 = .ok (.aaload, 1) := by decide +kernel
theorem dX6_add_38 : decode cX6_add 38 = .ok (.aload_n 0, 1) := by decide +kernel
theorem dX6_add_39 : decode cX6_add 39 = .ok (.getfield 22, 3) := by decide +kernel
theorem dX6_add_42 : decode cX6_add 42 = .ok (.iload_n 2, 1) := by decide +kernel
theorem dX6_add_43 : decode cX6_add 43 = .ok (.iastore, 1) := by decide +kernel
theorem dX6_add_44 : decode cX6_add 44 = .ok (.aload_n 0, 1) := by decide +kernel
theorem dX6_add_45 : decode cX6_add 45 = .ok (.getfield 11, 3) := by decide +kernel
theorem dX6_add_48 : decode cX6_add 48 = .ok (.iconst 2, 1) := by decide +kernel
theorem dX6_add_49 : decode cX6_add 49 = .ok (.aaload, 1) := by decide +kernel
theorem dX6_add_50 : decode cX6_add 50 = .ok (.aload_n 0, 1) := by decide +kernel
theorem dX6_add_51 : decode cX6_add 51 = .ok (.getfield 22, 3) := by decide +kernel
theorem dX6_add_54 : decode cX6_add 54 = .ok (.iload_n 3, 1) := by decide +kernel
theorem dX6_add_55 : decode cX6_add 55 = .ok (.iastore, 1) := by decide +kernel
theorem dX6_add_56 : decode cX6_add 56 = .ok (.aload_n 0, 1) := by decide +kernel
theorem dX6_add_57 : decode cX6_add 57 = .ok (.getfield 11, 3) := by decide +kernel
theorem dX6_add_60 : decode cX6_add 60 = .ok (.iconst 3, 1) := by decide +kernel
theorem dX6_add_61 : decode cX6_add 61 = .ok (.aaload, 1) := by decide +kernel
theorem dX6_add_62 : decode cX6_add 62 = .ok (.aload_n 0, 1) := by decide +kernel
theorem dX6_add_63 : decode cX6_add 63 = .ok (.getfield 22, 3) := by decide +kernel
theorem dX6_add_66 : decode cX6_add 66 = .ok (.iload 4, 2) := by decide +kernel
theorem dX6_add_68 : decode cX6_add 68 = .ok (.iastore, 1) := by decide +kernel
theorem dX6_add_69 : decode cX6_add 69 = .ok (.aload_n 0, 1) := by decide +kernel
theorem dX6_add_70 : decode cX6_add 70 = .ok (.getfield 11, 3) := by decide +kernel
theorem dX6_add_73 : decode cX6_add 73 = .ok (.iconst 4, 1) := by decide +kernel
theorem dX6_add_74 : decode cX6_add 74 = .ok (.aaload, 1) := by decide +kernel
theorem dX6_add_75 : decode cX6_add 75 = .ok (.aload_n 0, 1) := by decide +kernel
theorem dX6_add_76 : decode cX6_add 76 = .ok (.getfield 22, 3) := by decide +kernel
theorem dX6_add_79 : decode cX6_add 79 = .ok (.iload 5, 2) := by decide +kernel
theorem dX6_add_81 : decode cX6_add 81 = .ok (.iastore, 1) := by decide +kernel
theorem dX6_add_82 : decode cX6_add 82 = .ok (.aload_n 0, 1) := by decide +kernel
theorem dX6_add_83 : decode cX6_add 83 = .ok (.dup, 1) := by decide +kernel
theorem dX6_add_84 : decode cX6_add 84 = .ok (.getfield 22, 3) := by decide +kernel
theorem dX6_add_87 : decode cX6_add 87 = .ok (.iconst 1, 1) := by decide +kernel
theorem dX6_add_88 : decode cX6_add 88 = .ok (.iadd, 1) := by decide +kernel
theorem dX6_add_89 : decode cX6_add 89 = .ok (.putfield 22, 3) := by decide +kernel
theorem dX6_add_92 : decode cX6_add 92 = .ok (.aload_n 0, 1) := by decide +kernel
theorem dX6_add_93 : decode cX6_add 93 = .ok (.invokevirtual 27, 3) := by decide +kernel
theorem dX6_add_96 : decode cX6_add 96 = .ok (.aload_n 0, 1) := by decide +kernel
theorem dX6_add_97 : decode cX6_add 97 = .ok (.getfield 22, 3) := by decide +kernel
theorem dX6_add_100 : decode cX6_add 100 = .ok (.ireturn, 1) := by decide +kernel
theorem dX6_value_0 : decode cX6_value 0 = .ok (.iload_n 1, 1) := by decide +kernel
theorem dX6_value_1 : decode cX6_value 1 = .ok (.iconst 1, 1) := by decide +kernel
theorem dX6_value_2 : decode cX6_value 2 = .ok (.if_icmp .lt 27, 3) := by decide +kernel
theorem dX6_value_5 : decode cX6_value 5 = .ok (.iload_n 1, 1) := by decide +kernel
theorem dX6_value_6 : decode cX6_value 6 = .ok (.aload_n 0, 1) := by decide +kernel
theorem dX6_value_7 : decode cX6_value 7 = .ok (.getfield 22, 3) := by decide +kernel
theorem dX6_value_10 : decode cX6_value 10 = .ok (.if_icmp .gt 19, 3) := by decide +kernel
theorem dX6_value_13 : decode cX6_value 13 = .ok (.iload_n 1, 1) := by decide +kernel
theorem dX6_value_14 : decode cX6_value 14 = .ok (.sipush 300, 3) := by decide +kernel
theorem dX6_value_17 : decode cX6_value 17 = .ok (.if_icmp .gt 12, 3) := by decide +kernel
theorem dX6_value_20 : decode cX6_value 20 = .ok (.iload_n 2, 1) := by decide +kernel
theorem dX6_value_21 : decode cX6_value 21 = .ok (.ifCond .lt 8, 3) := by decide +kernel
theorem dX6_value_24 : decode cX6_value 24 = .ok (.iload_n 2, 1) := by decide +kernel
theorem dX6_value_25 : decode cX6_value 25 = .ok (.iconst 5, 1) := by decide +kernel
theorem dX6_value_26 : decode cX6_value 26 = .ok (.if_icmp .lt 5, 3) := by decide +kernel
theorem dX6_value_29 : decode cX6_value 29 = .ok (.iconst (-1), 1) := by decide +kernel
theorem dX6_value_30 : decode cX6_value 30 = .ok (.ireturn, 1) := by decide +kernel
theorem dX6_value_31 : decode cX6_value 31 = .ok (.aload_n 0, 1) := by decide +kernel
theorem dX6_value_32 : decode cX6_value 32 = .ok (.getfield 11, 3) := by decide +kernel
theorem dX6_value_35 : decode cX6_value 35 = .ok (.iload_n 2, 1) := by decide +kernel
theorem dX6_value_36 : decode cX6_value 36 = .ok (.aaload, 1) := by decide +kernel
theorem dX6_value_37 : decode cX6_value 37 = .ok (.iload_n 1, 1) := by decide +kernel
theorem dX6_value_38 : decode cX6_value 38 = .ok (.iconst 1, 1) := by decide +kernel
theorem dX6_value_39 : decode cX6_value 39 = .ok (.isub, 1) := by decide +kernel
theorem dX6_value_40 : decode cX6_value 40 = .ok (.iaload, 1) := by decide +kernel
theorem dX6_value_41 : decode cX6_value 41 = .ok (.ireturn, 1) := by decide +kernel
theorem dX6_numberAt_0 : decode cX6_numberAt 0 = .ok (.iload_n 1, 1) := by decide +kernel
theorem dX6_numberAt_1 : decode cX6_numberAt 1 = .ok (.ifCond .eq 23, 3) := by decide +kernel
theorem dX6_numberAt_4 : decode cX6_numberAt 4 = .ok (.iload_n 2, 1) := by decide +kernel
theorem dX6_numberAt_5 : decode cX6_numberAt 5 = .ok (.ifCond .lt 19, 3) := by decide +kernel
theorem dX6_numberAt_8 : decode cX6_numberAt 8 = .ok (.iload_n 2, 1) := by decide +kernel
theorem dX6_numberAt_9 : decode cX6_numberAt 9 = .ok (.iconst 5, 1) := by decide +kernel
theorem dX6_numberAt_10 : decode cX6_numberAt 10 = .ok (.if_icmp .ge 14, 3) := by decide +kernel
theorem dX6_numberAt_13 : decode cX6_numberAt 13 = .ok (.iload_n 3, 1) := by decide +kernel
theorem dX6_numberAt_14 : decode cX6_numberAt 14 = .ok (.ifCond .lt 10, 3) := by decide +kernel
theorem dX6_numberAt_17 : decode cX6_numberAt 17 = .ok (.iload_n 3, 1) := by decide +kernel
theorem dX6_numberAt_18 : decode cX6_numberAt 18 = .ok (.sipush 300, 3) := by decide +kernel
theorem dX6_numberAt_21 : decode cX6_numberAt 21 = .ok (.if_icmp .lt 7, 3) := by decide +kernel
theorem dX6_numberAt_24 : decode cX6_numberAt 24 = .ok (.iload_n 3, 1) := by decide +kernel
theorem dX6_numberAt_25 : decode cX6_numberAt 25 = .ok (.iconst 1, 1) := by decide +kernel
theorem dX6_numberAt_26 : decode cX6_numberAt 26 = .ok (.iadd, 1) := by decide +kernel
theorem dX6_numberAt_27 : decode cX6_numberAt 27 = .ok (.ireturn, 1) := by decide +kernel
theorem dX6_numberAt_28 : decode cX6_numberAt 28 = .ok (.iload_n 1, 1) := by decide +kernel
theorem dX6_numberAt_29 : decode cX6_numberAt 29 = .ok (.iconst 3, 1) := by decide +kernel
theorem dX6_numberAt_30 : decode cX6_numberAt 30 = .ok (.if_icmp .ne 14, 3) := by decide +kernel
theorem dX6_numberAt_33 : decode cX6_numberAt 33 = .ok (.aload_n 0, 1) := by decide +kernel
theorem dX6_numberAt_34 : decode cX6_numberAt 34 = .ok (.getfield 19, 3) := by decide +kernel
theorem dX6_numberAt_37 : decode cX6_numberAt 37 = .ok (.iload_n 2, 1) := by decide +kernel
theorem dX6_numberAt_38 : decode cX6_numberAt 38 = .ok (.aaload, 1) := by decide +kernel
theorem dX6_numberAt_39 : decode cX6_numberAt 39 = .ok (.iload_n 3, 1) := by decide +kernel
theorem dX6_numberAt_40 : decode cX6_numberAt 40 = .ok (.iaload, 1) := by decide +kernel
theorem dX6_numberAt_41 : decode cX6_numberAt 41 = .ok (.goto 11, 3) := by decide +kernel
theorem dX6_numberAt_44 : decode cX6_numberAt 44 = .ok (.aload_n 0, 1) := by decide +kernel
theorem dX6_numberAt_45 : decode cX6_numberAt 45 = .ok (.getfield 16, 3) := by decide +kernel
theorem dX6_numberAt_48 : decode cX6_numberAt 48 = .ok (.iload_n 2, 1) := by decide +kernel
theorem dX6_numberAt_49 : decode cX6_numberAt 49 = .ok (.aaload, 1) := by decide +kernel
theorem dX6_numberAt_50 : decode cX6_numberAt 50 = .ok (.iload_n 3, 1) := by decide +kernel
theorem dX6_numberAt_51 : decode cX6_numberAt 51 = .ok (.iaload, 1) := by decide +kernel
theorem dX6_numberAt_52 : decode cX6_numberAt 52 = .ok (.ireturn, 1) := by decide +kernel
theorem dX6_putInOrders_0 : decode cX6_putInOrders 0 = .ok (.iconst 0, 1) := by decide +kernel
theorem dX6_putInOrders_1 : decode cX6_putInOrders 1 = .ok (.istore_n 1, 1) := by decide +kernel
theorem dX6_putInOrders_2 : decode cX6_putInOrders 2 = .ok (.iload_n 1, 1) := by decide +kernel
theorem dX6_putInOrders_3 : decode cX6_putInOrders 3 = .ok (.iconst 5, 1) := by decide +kernel
theorem dX6_putInOrders_4 : decode cX6_putInOrders 4 = .ok (.if_icmp .ge 53, 3) := by decide +kernel
theorem dX6_putInOrders_7 : decode cX6_putInOrders 7 = .ok (.aload_n 0, 1) := by decide +kernel
theorem dX6_putInOrders_8 : decode cX6_putInOrders 8 = .ok (.aload_n 0, 1) := by decide +kernel
theorem dX6_putInOrders_9 : decode cX6_putInOrders 9 = .ok (.getfield 22, 3) := by decide +kernel
theorem dX6_putInOrders_12 : decode cX6_putInOrders 12 = .ok (.iload_n 1, 1) := by decide +kernel
theorem dX6_putInOrders_13 : decode cX6_putInOrders 13 = .ok (.invokevirtual 32, 3) := by decide +kernel
theorem dX6_putInOrders_16 : decode cX6_putInOrders 16 = .ok (.istore_n 2, 1) := by decide +kernel
theorem dX6_putInOrders_17 : decode cX6_putInOrders 17 = .ok (.aload_n 0, 1) := by decide +kernel
theorem dX6_putInOrders_18 : decode cX6_putInOrders 18 = .ok (.aload_n 0, 1) := by decide +kernel
theorem dX6_putInOrders_19 : decode cX6_putInOrders 19 = .ok (.getfield 16, 3) := by decide +kernel
theorem dX6_putInOrders_22 : decode cX6_putInOrders 22 = .ok (.iload_n 1, 1) := by decide +kernel
theorem dX6_putInOrders_23 : decode cX6_putInOrders 23 = .ok (.aaload, 1) := by decide +kernel
theorem dX6_putInOrders_24 : decode cX6_putInOrders 24 = .ok (.aload_n 0, 1) := by decide +kernel
theorem dX6_putInOrders_25 : decode cX6_putInOrders 25 = .ok (.iload_n 1, 1) := by decide +kernel
theorem dX6_putInOrders_26 : decode cX6_putInOrders 26 = .ok (.iload_n 2, 1) := by decide +kernel
theorem dX6_putInOrders_27 : decode cX6_putInOrders 27 = .ok (.iconst 0, 1) := by decide +kernel
theorem dX6_putInOrders_28 : decode cX6_putInOrders 28 = .ok (.invokevirtual 36, 3) := by decide +kernel
theorem dX6_putInOrders_31 : decode cX6_putInOrders 31 = .ok (.invokevirtual 40, 3) := by decide +kernel
theorem dX6_putInOrders_34 : decode cX6_putInOrders 34 = .ok (.aload_n 0, 1) := by decide +kernel
theorem dX6_putInOrders_35 : decode cX6_putInOrders 35 = .ok (.aload_n 0, 1) := by decide +kernel
theorem dX6_putInOrders_36 : decode cX6_putInOrders 36 = .ok (.getfield 19, 3) := by decide +kernel
theorem dX6_putInOrders_39 : decode cX6_putInOrders 39 = .ok (.iload_n 1, 1) := by decide +kernel
theorem dX6_putInOrders_40 : decode cX6_putInOrders 40 = .ok (.aaload, 1) := by decide +kernel
theorem dX6_putInOrders_41 : decode cX6_putInOrders 41 = .ok (.aload_n 0, 1) := by decide +kernel
theorem dX6_putInOrders_42 : decode cX6_putInOrders 42 = .ok (.iload_n 1, 1) := by decide +kernel
theorem dX6_putInOrders_43 : decode cX6_putInOrders 43 = .ok (.iload_n 2, 1) := by decide +kernel
theorem dX6_putInOrders_44 : decode cX6_putInOrders 44 = .ok (.iconst 1, 1) := by decide +kernel
theorem dX6_putInOrders_45 : decode cX6_putInOrders 45 = .ok (.invokevirtual 36, 3) := by decide +kernel
theorem dX6_putInOrders_48 : decode cX6_putInOrders 48 = .ok (.invokevirtual 40, 3) := by decide +kernel
theorem dX6_putInOrders_51 : decode cX6_putInOrders 51 = .ok (.iinc 1 1, 3) := by decide +kernel
theorem dX6_putInOrders_54 : decode cX6_putInOrders 54 = .ok (.goto (-52), 3) := by decide +kernel
theorem dX6_putInOrders_57 : decode cX6_putInOrders 57 = .ok (.return_, 1) := by decide +kernel
theorem dX6_behindLast_0 : decode cX6_behindLast 0 = .ok (.iload_n 3, 1) := by decide +kernel
theorem dX6_behindLast_1 : decode cX6_behindLast 1 = .ok (.ifCond .eq 7, 3) := by decide +kernel
theorem dX6_behindLast_4 : decode cX6_behindLast 4 = .ok (.iconst 3, 1) := by decide +kernel
theorem dX6_behindLast_5 : decode cX6_behindLast 5 = .ok (.goto 4, 3) := by decide +kernel
theorem dX6_behindLast_8 : decode cX6_behindLast 8 = .ok (.iconst 2, 1) := by decide +kernel
theorem dX6_behindLast_9 : decode cX6_behindLast 9 = .ok (.istore 4, 2) := by decide +kernel
theorem dX6_behindLast_11 : decode cX6_behindLast 11 = .ok (.aload_n 0, 1) := by decide +kernel
theorem dX6_behindLast_12 : decode cX6_behindLast 12 = .ok (.getfield 22, 3) := by decide +kernel
theorem dX6_behindLast_15 : decode cX6_behindLast 15 = .ok (.iconst 1, 1) := by decide +kernel
theorem dX6_behindLast_16 : decode cX6_behindLast 16 = .ok (.isub, 1) := by decide +kernel
theorem dX6_behindLast_17 : decode cX6_behindLast 17 = .ok (.istore 5, 2) := by decide +kernel
theorem dX6_behindLast_19 : decode cX6_behindLast 19 = .ok (.iload 5, 2) := by decide +kernel
theorem dX6_behindLast_21 : decode cX6_behindLast 21 = .ok (.ifCond .le 49, 3) := by decide +kernel
theorem dX6_behindLast_24 : decode cX6_behindLast 24 = .ok (.aload_n 0, 1) := by decide +kernel
theorem dX6_behindLast_25 : decode cX6_behindLast 25 = .ok (.aload_n 0, 1) := by decide +kernel
theorem dX6_behindLast_26 : decode cX6_behindLast 26 = .ok (.iload 4, 2) := by decide +kernel
theorem dX6_behindLast_28 : decode cX6_behindLast 28 = .ok (.iload_n 1, 1) := by decide +kernel
theorem dX6_behindLast_29 : decode cX6_behindLast 29 = .ok (.iload 5, 2) := by decide +kernel
theorem dX6_behindLast_31 : decode cX6_behindLast 31 = .ok (.iconst 1, 1) := by decide +kernel
theorem dX6_behindLast_32 : decode cX6_behindLast 32 = .ok (.isub, 1) := by decide +kernel
theorem dX6_behindLast_33 : decode cX6_behindLast 33 = .ok (.invokevirtual 44, 3) := by decide +kernel
theorem dX6_behindLast_36 : decode cX6_behindLast 36 = .ok (.iload_n 1, 1) := by decide +kernel
theorem dX6_behindLast_37 : decode cX6_behindLast 37 = .ok (.invokevirtual 32, 3) := by decide +kernel
theorem dX6_behindLast_40 : decode cX6_behindLast 40 = .ok (.istore 6, 2) := by decide +kernel
theorem dX6_behindLast_42 : decode cX6_behindLast 42 = .ok (.iload_n 3, 1) := by decide +kernel
theorem dX6_behindLast_43 : decode cX6_behindLast 43 = .ok (.ifCond .eq 12, 3) := by decide +kernel
theorem dX6_behindLast_46 : decode cX6_behindLast 46 = .ok (.iload 6, 2) := by decide +kernel
theorem dX6_behindLast_48 : decode cX6_behindLast 48 = .ok (.iload_n 2, 1) := by decide +kernel
theorem dX6_behindLast_49 : decode cX6_behindLast 49 = .ok (.if_icmp .lt 15, 3) := by decide +kernel
theorem dX6_behindLast_52 : decode cX6_behindLast 52 = .ok (.goto 9, 3) := by decide +kernel
theorem dX6_behindLast_55 : decode cX6_behindLast 55 = .ok (.iload 6, 2) := by decide +kernel
theorem dX6_behindLast_57 : decode cX6_behindLast 57 = .ok (.iload_n 2, 1) := by decide +kernel
theorem dX6_behindLast_58 : decode cX6_behindLast 58 = .ok (.if_icmp .gt 6, 3) := by decide +kernel
theorem dX6_behindLast_61 : decode cX6_behindLast 61 = .ok (.iload 5, 2) := by decide +kernel
theorem dX6_behindLast_63 : decode cX6_behindLast 63 = .ok (.ireturn, 1) := by decide +kernel
theorem dX6_behindLast_64 : decode cX6_behindLast 64 = .ok (.iinc 5 (-1), 3) := by decide +kernel
theorem dX6_behindLast_67 : decode cX6_behindLast 67 = .ok (.goto (-48), 3) := by decide +kernel
theorem dX6_behindLast_70 : decode cX6_behindLast 70 = .ok (.iconst 0, 1) := by decide +kernel
theorem dX6_behindLast_71 : decode cX6_behindLast 71 = .ok (.ireturn, 1) := by decide +kernel
theorem dX6_insert_0 : decode cX6_insert 0 = .ok (.aload_n 0, 1) := by decide +kernel
theorem dX6_insert_1 : decode cX6_insert 1 = .ok (.getfield 22, 3) := by decide +kernel
theorem dX6_insert_4 : decode cX6_insert 4 = .ok (.iconst 1, 1) := by decide +kernel
theorem dX6_insert_5 : decode cX6_insert 5 = .ok (.isub, 1) := by decide +kernel
theorem dX6_insert_6 : decode cX6_insert 6 = .ok (.istore_n 3, 1) := by decide +kernel
theorem dX6_insert_7 : decode cX6_insert 7 = .ok (.iload_n 3, 1) := by decide +kernel
theorem dX6_insert_8 : decode cX6_insert 8 = .ok (.iload_n 2, 1) := by decide +kernel
theorem dX6_insert_9 : decode cX6_insert 9 = .ok (.if_icmp .le 27, 3) := by decide +kernel
theorem dX6_insert_12 : decode cX6_insert 12 = .ok (.iload_n 3, 1) := by decide +kernel
theorem dX6_insert_13 : decode cX6_insert 13 = .ok (.ifCond .le 23, 3) := by decide +kernel
theorem dX6_insert_16 : decode cX6_insert 16 = .ok (.iload_n 3, 1) := by decide +kernel
theorem dX6_insert_17 : decode cX6_insert 17 = .ok (.aload_n 1, 1) := by decide +kernel
theorem dX6_insert_18 : decode cX6_insert 18 = .ok (.arraylength, 1) := by decide +kernel
theorem dX6_insert_19 : decode cX6_insert 19 = .ok (.if_icmp .ge 17, 3) := by decide +kernel
theorem dX6_insert_22 : decode cX6_insert 22 = .ok (.aload_n 1, 1) := by decide +kernel
theorem dX6_insert_23 : decode cX6_insert 23 = .ok (.iload_n 3, 1) := by decide +kernel
theorem dX6_insert_24 : decode cX6_insert 24 = .ok (.aload_n 1, 1) := by decide +kernel
theorem dX6_insert_25 : decode cX6_insert 25 = .ok (.iload_n 3, 1) := by decide +kernel
theorem dX6_insert_26 : decode cX6_insert 26 = .ok (.iconst 1, 1) := by decide +kernel
theorem dX6_insert_27 : decode cX6_insert 27 = .ok (.isub, 1) := by decide +kernel
theorem dX6_insert_28 : decode cX6_insert 28 = .ok (.iaload, 1) := by decide +kernel
theorem dX6_insert_29 : decode cX6_insert 29 = .ok (.iastore, 1) := by decide +kernel
theorem dX6_insert_30 : decode cX6_insert 30 = .ok (.iinc 3 (-1), 3) := by decide +kernel
theorem dX6_insert_33 : decode cX6_insert 33 = .ok (.goto (-26), 3) := by decide +kernel
theorem dX6_insert_36 : decode cX6_insert 36 = .ok (.iload_n 2, 1) := by decide +kernel
theorem dX6_insert_37 : decode cX6_insert 37 = .ok (.ifCond .lt 16, 3) := by decide +kernel
theorem dX6_insert_40 : decode cX6_insert 40 = .ok (.iload_n 2, 1) := by decide +kernel
theorem dX6_insert_41 : decode cX6_insert 41 = .ok (.aload_n 1, 1) := by decide +kernel
theorem dX6_insert_42 : decode cX6_insert 42 = .ok (.arraylength, 1) := by decide +kernel
theorem dX6_insert_43 : decode cX6_insert 43 = .ok (.if_icmp .ge 10, 3) := by decide +kernel
theorem dX6_insert_46 : decode cX6_insert 46 = .ok (.aload_n 1, 1) := by decide +kernel
theorem dX6_insert_47 : decode cX6_insert 47 = .ok (.iload_n 2, 1) := by decide +kernel
theorem dX6_insert_48 : decode cX6_insert 48 = .ok (.aload_n 0, 1) := by decide +kernel
theorem dX6_insert_49 : decode cX6_insert 49 = .ok (.getfield 22, 3) := by decide +kernel
theorem dX6_insert_52 : decode cX6_insert 52 = .ok (.iastore, 1) := by decide +kernel
theorem dX6_insert_53 : decode cX6_insert 53 = .ok (.return_, 1) := by decide +kernel
theorem dX7_init_0 : decode cX7_init 0 = .ok (.aload_n 0, 1) := by decide +kernel
theorem dX7_init_1 : decode cX7_init 1 = .ok (.invokespecial 1, 3) := by decide +kernel
theorem dX7_init_4 : decode cX7_init 4 = .ok (.aload_n 0, 1) := by decide +kernel
theorem dX7_init_5 : decode cX7_init 5 = .ok (.new 7, 3) := by decide +kernel
theorem dX7_init_8 : decode cX7_init 8 = .ok (.dup, 1) := by decide +kernel
theorem dX7_init_9 : decode cX7_init 9 = .ok (.invokespecial 9, 3) := by decide +kernel
theorem dX7_init_12 : decode cX7_init 12 = .ok (.putfield 10, 3) := by decide +kernel
theorem dX7_init_15 : decode cX7_init 15 = .ok (.aload_n 0, 1) := by decide +kernel
theorem dX7_init_16 : decode cX7_init 16 = .ok (.new 16, 3) := by decide +kernel
theorem dX7_init_19 : decode cX7_init 19 = .ok (.dup, 1) := by decide +kernel
theorem dX7_init_20 : decode cX7_init 20 = .ok (.invokespecial 18, 3) := by decide +kernel
theorem dX7_init_23 : decode cX7_init 23 = .ok (.putfield 19, 3) := by decide +kernel
theorem dX7_init_26 : decode cX7_init 26 = .ok (.aload_n 0, 1) := by decide +kernel
theorem dX7_init_27 : decode cX7_init 27 = .ok (.new 23, 3) := by decide +kernel
theorem dX7_init_30 : decode cX7_init 30 = .ok (.dup, 1) := by decide +kernel
theorem dX7_init_31 : decode cX7_init 31 = .ok (.invokespecial 25, 3) := by decide +kernel
theorem dX7_init_34 : decode cX7_init 34 = .ok (.putfield 26, 3) := by decide +kernel
theorem dX7_init_37 : decode cX7_init 37 = .ok (.aload_n 0, 1) := by decide +kernel
theorem dX7_init_38 : decode cX7_init 38 = .ok (.new 30, 3) := by decide +kernel
theorem dX7_init_41 : decode cX7_init 41 = .ok (.dup, 1) := by decide +kernel
theorem dX7_init_42 : decode cX7_init 42 = .ok (.invokespecial 32, 3) := by decide +kernel
theorem dX7_init_45 : decode cX7_init 45 = .ok (.putfield 33, 3) := by decide +kernel
theorem dX7_init_48 : decode cX7_init 48 = .ok (.aload_n 0, 1) := by decide +kernel
theorem dX7_init_49 : decode cX7_init 49 = .ok (.sipush 200, 3) := by decide +kernel
theorem dX7_init_52 : decode cX7_init 52 = .ok (.newarray .char, 2) := by decide +kernel
theorem dX7_init_54 : decode cX7_init 54 = .ok (.putfield 37, 3) := by decide +kernel
theorem dX7_init_57 : decode cX7_init 57 = .ok (.aload_n 0, 1) := by decide +kernel
theorem dX7_init_58 : decode cX7_init 58 = .ok (.iconst 0, 1) := by decide +kernel
theorem dX7_init_59 : decode cX7_init 59 = .ok (.putfield 41, 3) := by decide +kernel
theorem dX7_init_62 : decode cX7_init 62 = .ok (.aload_n 0, 1) := by decide +kernel
theorem dX7_init_63 : decode cX7_init 63 = .ok (.iconst 0, 1) := by decide +kernel
theorem dX7_init_64 : decode cX7_init 64 = .ok (.putfield 45, 3) := by decide +kernel
theorem dX7_init_67 : decode cX7_init 67 = .ok (.aload_n 0, 1) := by decide +kernel
theorem dX7_init_68 : decode cX7_init 68 = .ok (.ldc 48, 2) := by decide +kernel
theorem dX7_init_70 : decode cX7_init 70 = .ok (.putfield 49, 3) := by decide +kernel
theorem dX7_init_73 : decode cX7_init 73 = .ok (.aload_n 0, 1) := by decide +kernel
theorem dX7_init_74 : decode cX7_init 74 = .ok (.lconst 0, 1) := by decide +kernel
theorem dX7_init_75 : decode cX7_init 75 = .ok (.putfield 52, 3) := by decide +kernel
theorem dX7_init_78 : decode cX7_init 78 = .ok (.aload_n 0, 1) := by decide +kernel
theorem dX7_init_79 : decode cX7_init 79 = .ok (.new 56, 3) := by decide +kernel
theorem dX7_init_82 : decode cX7_init 82 = .ok (.dup, 1) := by decide +kernel
theorem dX7_init_83 : decode cX7_init 83 = .ok (.invokespecial 58, 3) := by decide +kernel
theorem dX7_init_86 : decode cX7_init 86 = .ok (.putfield 59, 3) := by decide +kernel
theorem dX7_init_89 : decode cX7_init 89 = .ok (.aload_n 0, 1) := by decide +kernel
theorem dX7_init_90 : decode cX7_init 90 = .ok (.iconst 0, 1) := by decide +kernel
theorem dX7_init_91 : decode cX7_init 91 = .ok (.putfield 63, 3) := by decide +kernel
theorem dX7_init_94 : decode cX7_init 94 = .ok (.aload_n 0, 1) := by decide +kernel
theorem dX7_init_95 : decode cX7_init 95 = .ok (.new 67, 3) := by decide +kernel
theorem dX7_init_98 : decode cX7_init 98 = .ok (.dup, 1) := by decide +kernel
theorem dX7_init_99 : decode cX7_init 99 = .ok (.invokespecial 69, 3) := by decide +kernel
theorem dX7_init_102 : decode cX7_init 102 = .ok (.putfield 70, 3) := by decide +kernel
theorem dX7_init_105 : decode cX7_init 105 = .ok (.aload_n 0, 1) := by decide +kernel
theorem dX7_init_106 : decode cX7_init 106 = .ok (.new 67, 3) := by decide +kernel
theorem dX7_init_109 : decode cX7_init 109 = .ok (.dup, 1) := by decide +kernel
theorem dX7_init_110 : decode cX7_init 110 = .ok (.invokespecial 69, 3) := by decide +kernel
theorem dX7_init_113 : decode cX7_init 113 = .ok (.putfield 74, 3) := by decide +kernel
theorem dX7_init_116 : decode cX7_init 116 = .ok (.aload_n 0, 1) := by decide +kernel
theorem dX7_init_117 : decode cX7_init 117 = .ok (.bipush 20, 2) := by decide +kernel
theorem dX7_init_119 : decode cX7_init 119 = .ok (.anewarray 77, 3) := by decide +kernel
theorem dX7_init_122 : decode cX7_init 122 = .ok (.putfield 79, 3) := by decide +kernel
theorem dX7_init_125 : decode cX7_init 125 = .ok (.aload_n 0, 1) := by decide +kernel
theorem dX7_init_126 : decode cX7_init 126 = .ok (.iconst 0, 1) := by decide +kernel
theorem dX7_init_127 : decode cX7_init 127 = .ok (.putfield 83, 3) := by decide +kernel
theorem dX7_init_130 : decode cX7_init 130 = .ok (.aload_n 0, 1) := by decide +kernel
theorem dX7_init_131 : decode cX7_init 131 = .ok (.lconst 0, 1) := by decide +kernel
theorem dX7_init_132 : decode cX7_init 132 = .ok (.putfield 86, 3) := by decide +kernel
theorem dX7_init_135 : decode cX7_init 135 = .ok (.return_, 1) := by decide +kernel
theorem dX7_row_0 : decode cX7_row 0 = .ok (.iload_n 1, 1) := by decide +kernel
theorem dX7_row_1 : decode cX7_row 1 = .ok (.i2l, 1) := by decide +kernel
theorem dX7_row_2 : decode cX7_row 2 = .ok (.sipush 1000, 3) := by decide +kernel
theorem dX7_row_5 : decode cX7_row 5 = .ok (.invokestatic 89, 3) := by decide +kernel
theorem dX7_row_8 : decode cX7_row 8 = .ok (.ifCond .eq 45, 3) := by decide +kernel
theorem dX7_row_11 : decode cX7_row 11 = .ok (.iload_n 2, 1) := by decide +kernel
theorem dX7_row_12 : decode cX7_row 12 = .ok (.i2l, 1) := by decide +kernel
theorem dX7_row_13 : decode cX7_row 13 = .ok (.bipush 20, 2) := by decide +kernel
theorem dX7_row_15 : decode cX7_row 15 = .ok (.invokestatic 89, 3) := by decide +kernel
theorem dX7_row_18 : decode cX7_row 18 = .ok (.ifCond .eq 35, 3) := by decide +kernel
theorem dX7_row_21 : decode cX7_row 21 = .ok (.iload_n 3, 1) := by decide +kernel
theorem dX7_row_22 : decode cX7_row 22 = .ok (.i2l, 1) := by decide +kernel
theorem dX7_row_23 : decode cX7_row 23 = .ok (.bipush 50, 2) := by decide +kernel
theorem dX7_row_25 : decode cX7_row 25 = .ok (.invokestatic 89, 3) := by decide +kernel
theorem dX7_row_28 : decode cX7_row 28 = .ok (.ifCond .eq 25, 3) := by decide +kernel
theorem dX7_row_31 : decode cX7_row 31 = .ok (.lload 4, 2) := by decide +kernel
theorem dX7_row_33 : decode cX7_row 33 = .ok (.sipush 20001, 3) := by decide +kernel
theorem dX7_row_36 : decode cX7_row 36 = .ok (.invokestatic 89, 3) := by decide +kernel
theorem dX7_row_39 : decode cX7_row 39 = .ok (.ifCond .eq 14, 3) := by decide +kernel
theorem dX7_row_42 : decode cX7_row 42 = .ok (.iload 6, 2) := by decide +kernel
theorem dX7_row_44 : decode cX7_row 44 = .ok (.i2l, 1) := by decide +kernel
theorem dX7_row_45 : decode cX7_row 45 = .ok (.bipush 100, 2) := by decide +kernel
theorem dX7_row_47 : decode cX7_row 47 = .ok (.invokestatic 89, 3) := by decide +kernel
theorem dX7_row_50 : decode cX7_row 50 = .ok (.ifCond .ne 6, 3) := by decide +kernel
theorem dX7_row_53 : decode cX7_row 53 = .ok (.ldc 93, 2) := by decide +kernel
theorem dX7_row_55 : decode cX7_row 55 = .ok (.ireturn, 1) := by decide +kernel
theorem dX7_row_56 : decode cX7_row 56 = .ok (.aload_n 0, 1) := by decide +kernel
theorem dX7_row_57 : decode cX7_row 57 = .ok (.getfield 10, 3) := by decide +kernel
theorem dX7_row_60 : decode cX7_row 60 = .ok (.invokevirtual 94, 3) := by decide +kernel
theorem dX7_row_63 : decode cX7_row 63 = .ok (.sipush 300, 3) := by decide +kernel
theorem dX7_row_66 : decode cX7_row 66 = .ok (.if_icmp .lt 6, 3) := by decide +kernel
theorem dX7_row_69 : decode cX7_row 69 = .ok (.ldc 98, 2) := by decide +kernel
theorem dX7_row_71 : decode cX7_row 71 = .ok (.ireturn, 1) := by decide +kernel
theorem dX7_row_72 : decode cX7_row 72 = .ok (.aload_n 0, 1) := by decide +kernel
theorem dX7_row_73 : decode cX7_row 73 = .ok (.getfield 10, 3) := by decide +kernel
theorem dX7_row_76 : decode cX7_row 76 = .ok (.iload_n 1, 1) := by decide +kernel
theorem dX7_row_77 : decode cX7_row 77 = .ok (.iload_n 2, 1) := by decide +kernel
theorem dX7_row_78 : decode cX7_row 78 = .ok (.iload_n 3, 1) := by decide +kernel
theorem dX7_row_79 : decode cX7_row 79 = .ok (.lload 4, 2) := by decide +kernel
theorem dX7_row_81 : decode cX7_row 81 = .ok (.l2i, 1) := by decide +kernel
theorem dX7_row_82 : decode cX7_row 82 = .ok (.iload 6, 2) := by decide +kernel
theorem dX7_row_84 : decode cX7_row 84 = .ok (.invokevirtual 99, 3) := by decide +kernel
theorem dX7_row_87 : decode cX7_row 87 = .ok (.ireturn, 1) := by decide +kernel
theorem dX7_sign_0 : decode cX7_sign 0 = .ok (.iload_n 1, 1) := by decide +kernel
theorem dX7_sign_1 : decode cX7_sign 1 = .ok (.bipush 32, 2) := by decide +kernel
theorem dX7_sign_3 : decode cX7_sign 3 = .ok (.if_icmp .lt 49, 3) := by decide +kernel
theorem dX7_sign_6 : decode cX7_sign 6 = .ok (.iload_n 1, 1) := by decide +kernel
theorem dX7_sign_7 : decode cX7_sign 7 = .ok (.bipush 126, 2) := by decide +kernel
theorem dX7_sign_9 : decode cX7_sign 9 = .ok (.if_icmp .gt 43, 3) := by decide +kernel
theorem dX7_sign_12 : decode cX7_sign 12 = .ok (.aload_n 0, 1) := by decide +kernel
theorem dX7_sign_13 : decode cX7_sign 13 = .ok (.getfield 41, 3) := by decide +kernel
theorem dX7_sign_16 : decode cX7_sign 16 = .ok (.ifCond .lt 36, 3) := by decide +kernel
theorem dX7_sign_19 : decode cX7_sign 19 = .ok (.aload_n 0, 1) := by decide +kernel
theorem dX7_sign_20 : decode cX7_sign 20 = .ok (.getfield 41, 3) := by decide +kernel
theorem dX7_sign_23 : decode cX7_sign 23 = .ok (.aload_n 0, 1) := by decide +kernel
theorem dX7_sign_24 : decode cX7_sign 24 = .ok (.getfield 37, 3) := by decide +kernel
theorem dX7_sign_27 : decode cX7_sign 27 = .ok (.arraylength, 1) := by decide +kernel
theorem dX7_sign_28 : decode cX7_sign 28 = .ok (.if_icmp .ge 24, 3) := by decide +kernel
theorem dX7_sign_31 : decode cX7_sign 31 = .ok (.aload_n 0, 1) := by decide +kernel
theorem dX7_sign_32 : decode cX7_sign 32 = .ok (.getfield 37, 3) := by decide +kernel
theorem dX7_sign_35 : decode cX7_sign 35 = .ok (.aload_n 0, 1) := by decide +kernel
theorem dX7_sign_36 : decode cX7_sign 36 = .ok (.getfield 41, 3) := by decide +kernel
theorem dX7_sign_39 : decode cX7_sign 39 = .ok (.iload_n 1, 1) := by decide +kernel
theorem dX7_sign_40 : decode cX7_sign 40 = .ok (.i2c, 1) := by decide +kernel
theorem dX7_sign_41 : decode cX7_sign 41 = .ok (.castore, 1) := by decide +kernel
theorem dX7_sign_42 : decode cX7_sign 42 = .ok (.aload_n 0, 1) := by decide +kernel
theorem dX7_sign_43 : decode cX7_sign 43 = .ok (.dup, 1) := by decide +kernel
theorem dX7_sign_44 : decode cX7_sign 44 = .ok (.getfield 41, 3) := by decide +kernel
theorem dX7_sign_47 : decode cX7_sign 47 = .ok (.iconst 1, 1) := by decide +kernel
theorem dX7_sign_48 : decode cX7_sign 48 = .ok (.iadd, 1) := by decide +kernel
theorem dX7_sign_49 : decode cX7_sign 49 = .ok (.putfield 41, 3) := by decide +kernel
theorem dX7_sign_52 : decode cX7_sign 52 = .ok (.return_, 1) := by decide +kernel
theorem dX7_ask_0 : decode cX7_ask 0 = .ok (.iload_n 1, 1) := by decide +kernel
theorem dX7_ask_1 : decode cX7_ask 1 = .ok (.i2l, 1) := by decide +kernel
theorem dX7_ask_2 : decode cX7_ask 2 = .ok (.bipush 50, 2) := by decide +kernel
theorem dX7_ask_4 : decode cX7_ask 4 = .ok (.invokestatic 89, 3) := by decide +kernel
theorem dX7_ask_7 : decode cX7_ask 7 = .ok (.ifCond .ne 6, 3) := by decide +kernel
theorem dX7_ask_10 : decode cX7_ask 10 = .ok (.ldc 103, 2) := by decide +kernel
theorem dX7_ask_12 : decode cX7_ask 12 = .ok (.ireturn, 1) := by decide +kernel
theorem dX7_ask_13 : decode cX7_ask 13 = .ok (.aload_n 0, 1) := by decide +kernel
theorem dX7_ask_14 : decode cX7_ask 14 = .ok (.iload_n 1, 1) := by decide +kernel
theorem dX7_ask_15 : decode cX7_ask 15 = .ok (.invokevirtual 104, 3) := by decide +kernel
theorem dX7_ask_18 : decode cX7_ask 18 = .ok (.istore_n 2, 1) := by decide +kernel
theorem dX7_ask_19 : decode cX7_ask 19 = .ok (.iload_n 2, 1) := by decide +kernel
theorem dX7_ask_20 : decode cX7_ask 20 = .ok (.iconst (-1), 1) := by decide +kernel
theorem dX7_ask_21 : decode cX7_ask 21 = .ok (.if_icmp .eq 7, 3) := by decide +kernel
theorem dX7_ask_24 : decode cX7_ask 24 = .ok (.iconst (-1), 1) := by decide +kernel
theorem dX7_ask_25 : decode cX7_ask 25 = .ok (.iload_n 2, 1) := by decide +kernel
theorem dX7_ask_26 : decode cX7_ask 26 = .ok (.isub, 1) := by decide +kernel
theorem dX7_ask_27 : decode cX7_ask 27 = .ok (.ireturn, 1) := by decide +kernel
theorem dX7_ask_28 : decode cX7_ask 28 = .ok (.aload_n 0, 1) := by decide +kernel
theorem dX7_ask_29 : decode cX7_ask 29 = .ok (.getfield 26, 3) := by decide +kernel
theorem dX7_ask_32 : decode cX7_ask 32 = .ok (.invokevirtual 108, 3) := by decide +kernel
theorem dX7_ask_35 : decode cX7_ask 35 = .ok (.astore_n 3, 1) := by decide +kernel
theorem dX7_ask_36 : decode cX7_ask 36 = .ok (.aload_n 0, 1) := by decide +kernel
theorem dX7_ask_37 : decode cX7_ask 37 = .ok (.aload_n 0, 1) := by decide +kernel
theorem dX7_ask_38 : decode cX7_ask 38 = .ok (.aload_n 3, 1) := by decide +kernel
theorem dX7_ask_39 : decode cX7_ask 39 = .ok (.invokevirtual 112, 3) := by decide +kernel
theorem dX7_ask_42 : decode cX7_ask 42 = .ok (.putfield 52, 3) := by decide +kernel
theorem dX7_ask_45 : decode cX7_ask 45 = .ok (.aload_n 0, 1) := by decide +kernel
theorem dX7_ask_46 : decode cX7_ask 46 = .ok (.getfield 52, 3) := by decide +kernel
theorem dX7_ask_49 : decode cX7_ask 49 = .ok (.aload_n 0, 1) := by decide +kernel
theorem dX7_ask_50 : decode cX7_ask 50 = .ok (.getfield 49, 3) := by decide +kernel
theorem dX7_ask_53 : decode cX7_ask 53 = .ok (.i2l, 1) := by decide +kernel
theorem dX7_ask_54 : decode cX7_ask 54 = .ok (.lcmp, 1) := by decide +kernel
theorem dX7_ask_55 : decode cX7_ask 55 = .ok (.ifCond .le 6, 3) := by decide +kernel
theorem dX7_ask_58 : decode cX7_ask 58 = .ok (.ldc 116, 2) := by decide +kernel
theorem dX7_ask_60 : decode cX7_ask 60 = .ok (.ireturn, 1) := by decide +kernel
theorem dX7_ask_61 : decode cX7_ask 61 = .ok (.aload_n 0, 1) := by decide +kernel
theorem dX7_ask_62 : decode cX7_ask 62 = .ok (.aload_n 3, 1) := by decide +kernel
theorem dX7_ask_63 : decode cX7_ask 63 = .ok (.aload_n 0, 1) := by decide +kernel
theorem dX7_ask_64 : decode cX7_ask 64 = .ok (.getfield 10, 3) := by decide +kernel
theorem dX7_ask_67 : decode cX7_ask 67 = .ok (.invokevirtual 94, 3) := by decide +kernel
theorem dX7_ask_70 : decode cX7_ask 70 = .ok (.aload_n 0, 1) := by decide +kernel
theorem dX7_ask_71 : decode cX7_ask 71 = .ok (.getfield 70, 3) := by decide +kernel
theorem dX7_ask_74 : decode cX7_ask 74 = .ok (.invokevirtual 117, 3) := by decide +kernel
theorem dX7_ask_77 : decode cX7_ask 77 = .ok (.aload_n 0, 1) := by decide +kernel
theorem dX7_ask_78 : decode cX7_ask 78 = .ok (.getfield 26, 3) := by decide +kernel
theorem dX7_ask_81 : decode cX7_ask 81 = .ok (.aload_n 0, 1) := by decide +kernel
theorem dX7_ask_82 : decode cX7_ask 82 = .ok (.getfield 59, 3) := by decide +kernel
theorem dX7_ask_85 : decode cX7_ask 85 = .ok (.invokevirtual 121, 3) := by decide +kernel
theorem dX7_ask_88 : decode cX7_ask 88 = .ok (.aload_n 0, 1) := by decide +kernel
theorem dX7_ask_89 : decode cX7_ask 89 = .ok (.aload_n 3, 1) := by decide +kernel
theorem dX7_ask_90 : decode cX7_ask 90 = .ok (.putfield 59, 3) := by decide +kernel
theorem dX7_ask_93 : decode cX7_ask 93 = .ok (.aload_n 0, 1) := by decide +kernel
theorem dX7_ask_94 : decode cX7_ask 94 = .ok (.iconst 1, 1) := by decide +kernel
theorem dX7_ask_95 : decode cX7_ask 95 = .ok (.putfield 63, 3) := by decide +kernel
theorem dX7_ask_98 : decode cX7_ask 98 = .ok (.aload_n 0, 1) := by decide +kernel
theorem dX7_ask_99 : decode cX7_ask 99 = .ok (.getfield 70, 3) := by decide +kernel
theorem dX7_ask_102 : decode cX7_ask 102 = .ok (.invokevirtual 125, 3) := by decide +kernel
theorem dX7_ask_105 : decode cX7_ask 105 = .ok (.ireturn, 1) := by decide +kernel
theorem dX7_found_0 : decode cX7_found 0 = .ok (.iload_n 1, 1) := by decide +kernel
theorem dX7_found_1 : decode cX7_found 1 = .ok (.i2l, 1) := by decide +kernel
theorem dX7_found_2 : decode cX7_found 2 = .ok (.aload_n 0, 1) := by decide +kernel
theorem dX7_found_3 : decode cX7_found 3 = .ok (.getfield 70, 3) := by decide +kernel
theorem dX7_found_6 : decode cX7_found 6 = .ok (.invokevirtual 125, 3) := by decide +kernel
theorem dX7_found_9 : decode cX7_found 9 = .ok (.invokestatic 89, 3) := by decide +kernel
theorem dX7_found_12 : decode cX7_found 12 = .ok (.ifCond .ne 7, 3) := by decide +kernel
theorem dX7_found_15 : decode cX7_found 15 = .ok (.ldc2_w 126, 3) := by decide +kernel
theorem dX7_found_18 : decode cX7_found 18 = .ok (.lreturn, 1) := by decide +kernel
theorem dX7_found_19 : decode cX7_found 19 = .ok (.iload_n 2, 1) := by decide +kernel
theorem dX7_found_20 : decode cX7_found 20 = .ok (.ifCond .ne 13, 3) := by decide +kernel
theorem dX7_found_23 : decode cX7_found 23 = .ok (.aload_n 0, 1) := by decide +kernel
theorem dX7_found_24 : decode cX7_found 24 = .ok (.getfield 70, 3) := by decide +kernel
theorem dX7_found_27 : decode cX7_found 27 = .ok (.iload_n 1, 1) := by decide +kernel
theorem dX7_found_28 : decode cX7_found 28 = .ok (.invokevirtual 128, 3) := by decide +kernel
theorem dX7_found_31 : decode cX7_found 31 = .ok (.i2l, 1) := by decide +kernel
theorem dX7_found_32 : decode cX7_found 32 = .ok (.lreturn, 1) := by decide +kernel
theorem dX7_found_33 : decode cX7_found 33 = .ok (.aload_n 0, 1) := by decide +kernel
theorem dX7_found_34 : decode cX7_found 34 = .ok (.getfield 59, 3) := by decide +kernel
theorem dX7_found_37 : decode cX7_found 37 = .ok (.invokevirtual 131, 3) := by decide +kernel
theorem dX7_found_40 : decode cX7_found 40 = .ok (.iconst 1, 1) := by decide +kernel
theorem dX7_found_41 : decode cX7_found 41 = .ok (.if_icmp .ne 24, 3) := by decide +kernel
theorem dX7_found_44 : decode cX7_found 44 = .ok (.iload_n 2, 1) := by decide +kernel
theorem dX7_found_45 : decode cX7_found 45 = .ok (.iconst 1, 1) := by decide +kernel
theorem dX7_found_46 : decode cX7_found 46 = .ok (.if_icmp .ne 15, 3) := by decide +kernel
theorem dX7_found_49 : decode cX7_found 49 = .ok (.aload_n 0, 1) := by decide +kernel
theorem dX7_found_50 : decode cX7_found 50 = .ok (.getfield 70, 3) := by decide +kernel
theorem dX7_found_53 : decode cX7_found 53 = .ok (.iload_n 1, 1) := by decide +kernel
theorem dX7_found_54 : decode cX7_found 54 = .ok (.invokevirtual 134, 3) := by decide +kernel
theorem dX7_found_57 : decode cX7_found 57 = .ok (.i2l, 1) := by decide +kernel
theorem dX7_found_58 : decode cX7_found 58 = .ok (.goto 6, 3) := by decide +kernel
theorem dX7_found_61 : decode cX7_found 61 = .ok (.ldc2_w 126, 3) := by decide +kernel
theorem dX7_found_64 : decode cX7_found 64 = .ok (.lreturn, 1) := by decide +kernel
theorem dX7_found_65 : decode cX7_found 65 = .ok (.iload_n 2, 1) := by decide +kernel
theorem dX7_found_66 : decode cX7_found 66 = .ok (.iconst 1, 1) := by decide +kernel
theorem dX7_found_67 : decode cX7_found 67 = .ok (.isub, 1) := by decide +kernel
theorem dX7_found_68 : decode cX7_found 68 = .ok (.istore_n 3, 1) := by decide +kernel
theorem dX7_found_69 : decode cX7_found 69 = .ok (.iload_n 3, 1) := by decide +kernel
theorem dX7_found_70 : decode cX7_found 70 = .ok (.i2l, 1) := by decide +kernel
theorem dX7_found_71 : decode cX7_found 71 = .ok (.iconst 5, 1) := by decide +kernel
theorem dX7_found_72 : decode cX7_found 72 = .ok (.invokestatic 89, 3) := by decide +kernel
theorem dX7_found_75 : decode cX7_found 75 = .ok (.ifCond .eq 11, 3) := by decide +kernel
theorem dX7_found_78 : decode cX7_found 78 = .ok (.aload_n 0, 1) := by decide +kernel
theorem dX7_found_79 : decode cX7_found 79 = .ok (.iload_n 3, 1) := by decide +kernel
theorem dX7_found_80 : decode cX7_found 80 = .ok (.invokevirtual 137, 3) := by decide +kernel
theorem dX7_found_83 : decode cX7_found 83 = .ok (.ifCond .eq 7, 3) := by decide +kernel
theorem dX7_found_86 : decode cX7_found 86 = .ok (.ldc2_w 126, 3) := by decide +kernel
theorem dX7_found_89 : decode cX7_found 89 = .ok (.lreturn, 1) := by decide +kernel
theorem dX7_found_90 : decode cX7_found 90 = .ok (.aload_n 0, 1) := by decide +kernel
theorem dX7_found_91 : decode cX7_found 91 = .ok (.getfield 10, 3) := by decide +kernel
theorem dX7_found_94 : decode cX7_found 94 = .ok (.aload_n 0, 1) := by decide +kernel
theorem dX7_found_95 : decode cX7_found 95 = .ok (.getfield 70, 3) := by decide +kernel
theorem dX7_found_98 : decode cX7_found 98 = .ok (.iload_n 1, 1) := by decide +kernel
theorem dX7_found_99 : decode cX7_found 99 = .ok (.invokevirtual 128, 3) := by decide +kernel
theorem dX7_found_102 : decode cX7_found 102 = .ok (.iload_n 3, 1) := by decide +kernel
theorem dX7_found_103 : decode cX7_found 103 = .ok (.invokevirtual 141, 3) := by decide +kernel
theorem dX7_found_106 : decode cX7_found 106 = .ok (.i2l, 1) := by decide +kernel
theorem dX7_found_107 : decode cX7_found 107 = .ok (.lreturn, 1) := by decide +kernel
theorem dX7_page_0 : decode cX7_page 0 = .ok (.iload_n 1, 1) := by decide +kernel
theorem dX7_page_1 : decode cX7_page 1 = .ok (.ifCond .lt 33, 3) := by decide +kernel
theorem dX7_page_4 : decode cX7_page 4 = .ok (.lload_n 2, 1) := by decide +kernel
theorem dX7_page_5 : decode cX7_page 5 = .ok (.lconst 0, 1) := by decide +kernel
theorem dX7_page_6 : decode cX7_page 6 = .ok (.lcmp, 1) := by decide +kernel
theorem dX7_page_7 : decode cX7_page 7 = .ok (.ifCond .lt 27, 3) := by decide +kernel
theorem dX7_page_10 : decode cX7_page 10 = .ok (.lload_n 2, 1) := by decide +kernel
theorem dX7_page_11 : decode cX7_page 11 = .ok (.aload_n 0, 1) := by decide +kernel
theorem dX7_page_12 : decode cX7_page 12 = .ok (.getfield 10, 3) := by decide +kernel
theorem dX7_page_15 : decode cX7_page 15 = .ok (.invokevirtual 94, 3) := by decide +kernel
theorem dX7_page_18 : decode cX7_page 18 = .ok (.i2l, 1) := by decide +kernel
theorem dX7_page_19 : decode cX7_page 19 = .ok (.lcmp, 1) := by decide +kernel
theorem dX7_page_20 : decode cX7_page 20 = .ok (.ifCond .gt 14, 3) := by decide +kernel
theorem dX7_page_23 : decode cX7_page 23 = .ok (.iload 4, 2) := by decide +kernel
theorem dX7_page_25 : decode cX7_page 25 = .ok (.i2l, 1) := by decide +kernel
theorem dX7_page_26 : decode cX7_page 26 = .ok (.bipush 10, 2) := by decide +kernel
theorem dX7_page_28 : decode cX7_page 28 = .ok (.invokestatic 89, 3) := by decide +kernel
theorem dX7_page_31 : decode cX7_page 31 = .ok (.ifCond .ne 6, 3) := by decide +kernel
theorem dX7_page_34 : decode cX7_page 34 = .ok (.ldc 93, 2) := by decide +kernel
theorem dX7_page_36 : decode cX7_page 36 = .ok (.ireturn, 1) := by decide +kernel
theorem dX7_page_37 : decode cX7_page 37 = .ok (.aload_n 0, 1) := by decide +kernel
theorem dX7_page_38 : decode cX7_page 38 = .ok (.getfield 63, 3) := by decide +kernel
theorem dX7_page_41 : decode cX7_page 41 = .ok (.ifCond .ne 5, 3) := by decide +kernel
theorem dX7_page_44 : decode cX7_page 44 = .ok (.iconst (-1), 1) := by decide +kernel
theorem dX7_page_45 : decode cX7_page 45 = .ok (.ireturn, 1) := by decide +kernel
theorem dX7_page_46 : decode cX7_page 46 = .ok (.aload_n 0, 1) := by decide +kernel
theorem dX7_page_47 : decode cX7_page 47 = .ok (.aload_n 0, 1) := by decide +kernel
theorem dX7_page_48 : decode cX7_page 48 = .ok (.getfield 59, 3) := by decide +kernel
theorem dX7_page_51 : decode cX7_page 51 = .ok (.lload_n 2, 1) := by decide +kernel
theorem dX7_page_52 : decode cX7_page 52 = .ok (.l2i, 1) := by decide +kernel
theorem dX7_page_53 : decode cX7_page 53 = .ok (.aload_n 0, 1) := by decide +kernel
theorem dX7_page_54 : decode cX7_page 54 = .ok (.getfield 74, 3) := by decide +kernel
theorem dX7_page_57 : decode cX7_page 57 = .ok (.invokevirtual 117, 3) := by decide +kernel
theorem dX7_page_60 : decode cX7_page 60 = .ok (.iload_n 1, 1) := by decide +kernel
theorem dX7_page_61 : decode cX7_page 61 = .ok (.i2l, 1) := by decide +kernel
theorem dX7_page_62 : decode cX7_page 62 = .ok (.ldc2_w 145, 3) := by decide +kernel
theorem dX7_page_65 : decode cX7_page 65 = .ok (.lmul, 1) := by decide +kernel
theorem dX7_page_66 : decode cX7_page 66 = .ok (.iload 4, 2) := by decide +kernel
theorem dX7_page_68 : decode cX7_page 68 = .ok (.i2l, 1) := by decide +kernel
theorem dX7_page_69 : decode cX7_page 69 = .ok (.ladd, 1) := by decide +kernel
theorem dX7_page_70 : decode cX7_page 70 = .ok (.lstore 5, 2) := by decide +kernel
theorem dX7_page_72 : decode cX7_page 72 = .ok (.lload 5, 2) := by decide +kernel
theorem dX7_page_74 : decode cX7_page 74 = .ok (.aload_n 0, 1) := by decide +kernel
theorem dX7_page_75 : decode cX7_page 75 = .ok (.getfield 74, 3) := by decide +kernel
theorem dX7_page_78 : decode cX7_page 78 = .ok (.invokevirtual 125, 3) := by decide +kernel
theorem dX7_page_81 : decode cX7_page 81 = .ok (.i2l, 1) := by decide +kernel
theorem dX7_page_82 : decode cX7_page 82 = .ok (.lcmp, 1) := by decide +kernel
theorem dX7_page_83 : decode cX7_page 83 = .ok (.ifCond .ge 16, 3) := by decide +kernel
theorem dX7_page_86 : decode cX7_page 86 = .ok (.aload_n 0, 1) := by decide +kernel
theorem dX7_page_87 : decode cX7_page 87 = .ok (.getfield 74, 3) := by decide +kernel
theorem dX7_page_90 : decode cX7_page 90 = .ok (.lload 5, 2) := by decide +kernel
theorem dX7_page_92 : decode cX7_page 92 = .ok (.l2i, 1) := by decide +kernel
theorem dX7_page_93 : decode cX7_page 93 = .ok (.invokevirtual 128, 3) := by decide +kernel
theorem dX7_page_96 : decode cX7_page 96 = .ok (.goto 4, 3) := by decide +kernel
theorem dX7_page_99 : decode cX7_page 99 = .ok (.iconst (-1), 1) := by decide +kernel
theorem dX7_page_100 : decode cX7_page 100 = .ok (.ireturn, 1) := by decide +kernel
theorem dX7_right_0 : decode cX7_right 0 = .ok (.iload_n 1, 1) := by decide +kernel
theorem dX7_right_1 : decode cX7_right 1 = .ok (.i2l, 1) := by decide +kernel
theorem dX7_right_2 : decode cX7_right 2 = .ok (.bipush 50, 2) := by decide +kernel
theorem dX7_right_4 : decode cX7_right 4 = .ok (.invokestatic 89, 3) := by decide +kernel
theorem dX7_right_7 : decode cX7_right 7 = .ok (.ifCond .ne 6, 3) := by decide +kernel
theorem dX7_right_10 : decode cX7_right 10 = .ok (.ldc 103, 2) := by decide +kernel
theorem dX7_right_12 : decode cX7_right 12 = .ok (.ireturn, 1) := by decide +kernel
theorem dX7_right_13 : decode cX7_right 13 = .ok (.iload_n 2, 1) := by decide +kernel
theorem dX7_right_14 : decode cX7_right 14 = .ok (.iconst (-1), 1) := by decide +kernel
theorem dX7_right_15 : decode cX7_right 15 = .ok (.if_icmp .eq 13, 3) := by decide +kernel
theorem dX7_right_18 : decode cX7_right 18 = .ok (.iload_n 2, 1) := by decide +kernel
theorem dX7_right_19 : decode cX7_right 19 = .ok (.i2l, 1) := by decide +kernel
theorem dX7_right_20 : decode cX7_right 20 = .ok (.bipush 100, 2) := by decide +kernel
theorem dX7_right_22 : decode cX7_right 22 = .ok (.invokestatic 89, 3) := by decide +kernel
theorem dX7_right_25 : decode cX7_right 25 = .ok (.ifCond .eq 18, 3) := by decide +kernel
theorem dX7_right_28 : decode cX7_right 28 = .ok (.iload_n 3, 1) := by decide +kernel
theorem dX7_right_29 : decode cX7_right 29 = .ok (.iconst (-1), 1) := by decide +kernel
theorem dX7_right_30 : decode cX7_right 30 = .ok (.if_icmp .eq 16, 3) := by decide +kernel
theorem dX7_right_33 : decode cX7_right 33 = .ok (.iload_n 3, 1) := by decide +kernel
theorem dX7_right_34 : decode cX7_right 34 = .ok (.i2l, 1) := by decide +kernel
theorem dX7_right_35 : decode cX7_right 35 = .ok (.bipush 20, 2) := by decide +kernel
theorem dX7_right_37 : decode cX7_right 37 = .ok (.invokestatic 89, 3) := by decide +kernel
theorem dX7_right_40 : decode cX7_right 40 = .ok (.ifCond .ne 6, 3) := by decide +kernel
theorem dX7_right_43 : decode cX7_right 43 = .ok (.ldc 93, 2) := by decide +kernel
theorem dX7_right_45 : decode cX7_right 45 = .ok (.ireturn, 1) := by decide +kernel
theorem dX7_right_46 : decode cX7_right 46 = .ok (.aload_n 0, 1) := by decide +kernel
theorem dX7_right_47 : decode cX7_right 47 = .ok (.getfield 19, 3) := by decide +kernel
theorem dX7_right_50 : decode cX7_right 50 = .ok (.iload_n 1, 1) := by decide +kernel
theorem dX7_right_51 : decode cX7_right 51 = .ok (.iload_n 2, 1) := by decide +kernel
theorem dX7_right_52 : decode cX7_right 52 = .ok (.iload_n 3, 1) := by decide +kernel
theorem dX7_right_53 : decode cX7_right 53 = .ok (.invokevirtual 147, 3) := by decide +kernel
theorem dX7_right_56 : decode cX7_right 56 = .ok (.ifCond .ne 28, 3) := by decide +kernel
theorem dX7_right_59 : decode cX7_right 59 = .ok (.aload_n 0, 1) := by decide +kernel
theorem dX7_right_60 : decode cX7_right 60 = .ok (.getfield 19, 3) := by decide +kernel
theorem dX7_right_63 : decode cX7_right 63 = .ok (.invokevirtual 151, 3) := by decide +kernel
theorem dX7_right_66 : decode cX7_right 66 = .ok (.bipush 100, 2) := by decide +kernel
theorem dX7_right_68 : decode cX7_right 68 = .ok (.if_icmp .lt 6, 3) := by decide +kernel
theorem dX7_right_71 : decode cX7_right 71 = .ok (.ldc 98, 2) := by decide +kernel
theorem dX7_right_73 : decode cX7_right 73 = .ok (.ireturn, 1) := by decide +kernel
theorem dX7_right_74 : decode cX7_right 74 = .ok (.aload_n 0, 1) := by decide +kernel
theorem dX7_right_75 : decode cX7_right 75 = .ok (.getfield 19, 3) := by decide +kernel
theorem dX7_right_78 : decode cX7_right 78 = .ok (.iload_n 1, 1) := by decide +kernel
theorem dX7_right_79 : decode cX7_right 79 = .ok (.iload_n 2, 1) := by decide +kernel
theorem dX7_right_80 : decode cX7_right 80 = .ok (.iload_n 3, 1) := by decide +kernel
theorem dX7_right_81 : decode cX7_right 81 = .ok (.invokevirtual 152, 3) := by decide +kernel
theorem dX7_right_84 : decode cX7_right 84 = .ok (.aload_n 0, 1) := by decide +kernel
theorem dX7_right_85 : decode cX7_right 85 = .ok (.getfield 19, 3) := by decide +kernel
theorem dX7_right_88 : decode cX7_right 88 = .ok (.iload_n 1, 1) := by decide +kernel
theorem dX7_right_89 : decode cX7_right 89 = .ok (.invokevirtual 155, 3) := by decide +kernel
theorem dX7_right_92 : decode cX7_right 92 = .ok (.ireturn, 1) := by decide +kernel
theorem dX7_masked_0 : decode cX7_masked 0 = .ok (.iload_n 1, 1) := by decide +kernel
theorem dX7_masked_1 : decode cX7_masked 1 = .ok (.i2l, 1) := by decide +kernel
theorem dX7_masked_2 : decode cX7_masked 2 = .ok (.iconst 5, 1) := by decide +kernel
theorem dX7_masked_3 : decode cX7_masked 3 = .ok (.invokestatic 89, 3) := by decide +kernel
theorem dX7_masked_6 : decode cX7_masked 6 = .ok (.ifCond .ne 6, 3) := by decide +kernel
theorem dX7_masked_9 : decode cX7_masked 9 = .ok (.ldc 93, 2) := by decide +kernel
theorem dX7_masked_11 : decode cX7_masked 11 = .ok (.ireturn, 1) := by decide +kernel
theorem dX7_masked_12 : decode cX7_masked 12 = .ok (.aload_n 0, 1) := by decide +kernel
theorem dX7_masked_13 : decode cX7_masked 13 = .ok (.iload_n 1, 1) := by decide +kernel
theorem dX7_masked_14 : decode cX7_masked 14 = .ok (.invokevirtual 137, 3) := by decide +kernel
theorem dX7_masked_17 : decode cX7_masked 17 = .ok (.iload_n 2, 1) := by decide +kernel
theorem dX7_masked_18 : decode cX7_masked 18 = .ok (.if_icmp .ne 5, 3) := by decide +kernel
theorem dX7_masked_21 : decode cX7_masked 21 = .ok (.iconst 0, 1) := by decide +kernel
theorem dX7_masked_22 : decode cX7_masked 22 = .ok (.ireturn, 1) := by decide +kernel
theorem dX7_masked_23 : decode cX7_masked 23 = .ok (.aload_n 0, 1) := by decide +kernel
theorem dX7_masked_24 : decode cX7_masked 24 = .ok (.dup, 1) := by decide +kernel
theorem dX7_masked_25 : decode cX7_masked 25 = .ok (.getfield 45, 3) := by decide +kernel
theorem dX7_masked_28 : decode cX7_masked 28 = .ok (.iconst 1, 1) := by decide +kernel
theorem dX7_masked_29 : decode cX7_masked 29 = .ok (.iload_n 1, 1) := by decide +kernel
theorem dX7_masked_30 : decode cX7_masked 30 = .ok (.ishl, 1) := by decide +kernel
theorem dX7_masked_31 : decode cX7_masked 31 = .ok (.ixor, 1) := by decide +kernel
theorem dX7_masked_32 : decode cX7_masked 32 = .ok (.putfield 45, 3) := by decide +kernel
theorem dX7_masked_35 : decode cX7_masked 35 = .ok (.iconst 1, 1) := by decide +kernel
theorem dX7_masked_36 : decode cX7_masked 36 = .ok (.ireturn, 1) := by decide +kernel
theorem dX7_cost_0 : decode cX7_cost 0 = .ok (.aload_n 0, 1) := by decide +kernel
theorem dX7_cost_1 : decode cX7_cost 1 = .ok (.getfield 52, 3) := by decide +kernel
theorem dX7_cost_4 : decode cX7_cost 4 = .ok (.lreturn, 1) := by decide +kernel
theorem dX7_bound_0 : decode cX7_bound 0 = .ok (.lload_n 1, 1) := by decide +kernel
theorem dX7_bound_1 : decode cX7_bound 1 = .ok (.lconst 0, 1) := by decide +kernel
theorem dX7_bound_2 : decode cX7_bound 2 = .ok (.lcmp, 1) := by decide +kernel
theorem dX7_bound_3 : decode cX7_bound 3 = .ok (.ifCond .lt 11, 3) := by decide +kernel
theorem dX7_bound_6 : decode cX7_bound 6 = .ok (.lload_n 1, 1) := by decide +kernel
theorem dX7_bound_7 : decode cX7_bound 7 = .ok (.ldc2_w 158, 3) := by decide +kernel
theorem dX7_bound_10 : decode cX7_bound 10 = .ok (.lcmp, 1) := by decide +kernel
theorem dX7_bound_11 : decode cX7_bound 11 = .ok (.ifCond .le 6, 3) := by decide +kernel
theorem dX7_bound_14 : decode cX7_bound 14 = .ok (.ldc 93, 2) := by decide +kernel
theorem dX7_bound_16 : decode cX7_bound 16 = .ok (.ireturn, 1) := by decide +kernel
theorem dX7_bound_17 : decode cX7_bound 17 = .ok (.aload_n 0, 1) := by decide +kernel
theorem dX7_bound_18 : decode cX7_bound 18 = .ok (.getfield 49, 3) := by decide +kernel
theorem dX7_bound_21 : decode cX7_bound 21 = .ok (.istore_n 3, 1) := by decide +kernel
theorem dX7_bound_22 : decode cX7_bound 22 = .ok (.aload_n 0, 1) := by decide +kernel
theorem dX7_bound_23 : decode cX7_bound 23 = .ok (.lload_n 1, 1) := by decide +kernel
theorem dX7_bound_24 : decode cX7_bound 24 = .ok (.l2i, 1) := by decide +kernel
theorem dX7_bound_25 : decode cX7_bound 25 = .ok (.putfield 49, 3) := by decide +kernel
theorem dX7_bound_28 : decode cX7_bound 28 = .ok (.iload_n 3, 1) := by decide +kernel
theorem dX7_bound_29 : decode cX7_bound 29 = .ok (.ireturn, 1) := by decide +kernel
theorem dX7_save_0 : decode cX7_save 0 = .ok (.iload_n 1, 1) := by decide +kernel
theorem dX7_save_1 : decode cX7_save 1 = .ok (.i2l, 1) := by decide +kernel
theorem dX7_save_2 : decode cX7_save 2 = .ok (.bipush 50, 2) := by decide +kernel
theorem dX7_save_4 : decode cX7_save 4 = .ok (.invokestatic 89, 3) := by decide +kernel
theorem dX7_save_7 : decode cX7_save 7 = .ok (.ifCond .ne 6, 3) := by decide +kernel
theorem dX7_save_10 : decode cX7_save 10 = .ok (.ldc 103, 2) := by decide +kernel
theorem dX7_save_12 : decode cX7_save 12 = .ok (.ireturn, 1) := by decide +kernel
theorem dX7_save_13 : decode cX7_save 13 = .ok (.lload_n 2, 1) := by decide +kernel
theorem dX7_save_14 : decode cX7_save 14 = .ok (.lconst 1, 1) := by decide +kernel
theorem dX7_save_15 : decode cX7_save 15 = .ok (.lcmp, 1) := by decide +kernel
theorem dX7_save_16 : decode cX7_save 16 = .ok (.ifCond .lt 11, 3) := by decide +kernel
theorem dX7_save_19 : decode cX7_save 19 = .ok (.lload_n 2, 1) := by decide +kernel
theorem dX7_save_20 : decode cX7_save 20 = .ok (.ldc2_w 160, 3) := by decide +kernel
theorem dX7_save_23 : decode cX7_save 23 = .ok (.lcmp, 1) := by decide +kernel
theorem dX7_save_24 : decode cX7_save 24 = .ok (.ifCond .le 6, 3) := by decide +kernel
theorem dX7_save_27 : decode cX7_save 27 = .ok (.ldc 93, 2) := by decide +kernel
theorem dX7_save_29 : decode cX7_save 29 = .ok (.ireturn, 1) := by decide +kernel
theorem dX7_save_30 : decode cX7_save 30 = .ok (.aload_n 0, 1) := by decide +kernel
theorem dX7_save_31 : decode cX7_save 31 = .ok (.iload_n 1, 1) := by decide +kernel
theorem dX7_save_32 : decode cX7_save 32 = .ok (.invokevirtual 104, 3) := by decide +kernel
theorem dX7_save_35 : decode cX7_save 35 = .ok (.istore 4, 2) := by decide +kernel
theorem dX7_save_37 : decode cX7_save 37 = .ok (.iload 4, 2) := by decide +kernel
theorem dX7_save_39 : decode cX7_save 39 = .ok (.iconst (-1), 1) := by decide +kernel
theorem dX7_save_40 : decode cX7_save 40 = .ok (.if_icmp .eq 8, 3) := by decide +kernel
theorem dX7_save_43 : decode cX7_save 43 = .ok (.iconst (-1), 1) := by decide +kernel
theorem dX7_save_44 : decode cX7_save 44 = .ok (.iload 4, 2) := by decide +kernel
theorem dX7_save_46 : decode cX7_save 46 = .ok (.isub, 1) := by decide +kernel
theorem dX7_save_47 : decode cX7_save 47 = .ok (.ireturn, 1) := by decide +kernel
theorem dX7_save_48 : decode cX7_save 48 = .ok (.aload_n 0, 1) := by decide +kernel
theorem dX7_save_49 : decode cX7_save 49 = .ok (.getfield 83, 3) := by decide +kernel
theorem dX7_save_52 : decode cX7_save 52 = .ok (.i2l, 1) := by decide +kernel
theorem dX7_save_53 : decode cX7_save 53 = .ok (.aload_n 0, 1) := by decide +kernel
theorem dX7_save_54 : decode cX7_save 54 = .ok (.getfield 79, 3) := by decide +kernel
theorem dX7_save_57 : decode cX7_save 57 = .ok (.arraylength, 1) := by decide +kernel
theorem dX7_save_58 : decode cX7_save 58 = .ok (.invokestatic 89, 3) := by decide +kernel
theorem dX7_save_61 : decode cX7_save 61 = .ok (.ifCond .ne 6, 3) := by decide +kernel
theorem dX7_save_64 : decode cX7_save 64 = .ok (.ldc 98, 2) := by decide +kernel
theorem dX7_save_66 : decode cX7_save 66 = .ok (.ireturn, 1) := by decide +kernel
theorem dX7_save_67 : decode cX7_save 67 = .ok (.aload_n 0, 1) := by decide +kernel
theorem dX7_save_68 : decode cX7_save 68 = .ok (.getfield 79, 3) := by decide +kernel
theorem dX7_save_71 : decode cX7_save 71 = .ok (.aload_n 0, 1) := by decide +kernel
theorem dX7_save_72 : decode cX7_save 72 = .ok (.getfield 83, 3) := by decide +kernel
theorem dX7_save_75 : decode cX7_save 75 = .ok (.new 77, 3) := by decide +kernel
theorem dX7_save_78 : decode cX7_save 78 = .ok (.dup, 1) := by decide +kernel
theorem dX7_save_79 : decode cX7_save 79 = .ok (.aload_n 0, 1) := by decide +kernel
theorem dX7_save_80 : decode cX7_save 80 = .ok (.getfield 26, 3) := by decide +kernel
theorem dX7_save_83 : decode cX7_save 83 = .ok (.invokevirtual 108, 3) := by decide +kernel
theorem dX7_save_86 : decode cX7_save 86 = .ok (.lload_n 2, 1) := by decide +kernel
theorem dX7_save_87 : decode cX7_save 87 = .ok (.aload_n 0, 1) := by decide +kernel
theorem dX7_save_88 : decode cX7_save 88 = .ok (.getfield 86, 3) := by decide +kernel
theorem dX7_save_91 : decode cX7_save 91 = .ok (.lload_n 2, 1) := by decide +kernel
theorem dX7_save_92 : decode cX7_save 92 = .ok (.ladd, 1) := by decide +kernel
theorem dX7_save_93 : decode cX7_save 93 = .ok (.invokespecial 162, 3) := by decide +kernel
theorem dX7_save_96 : decode cX7_save 96 = .ok (.aastore, 1) := by decide +kernel
theorem dX7_save_97 : decode cX7_save 97 = .ok (.aload_n 0, 1) := by decide +kernel
theorem dX7_save_98 : decode cX7_save 98 = .ok (.dup, 1) := by decide +kernel
theorem dX7_save_99 : decode cX7_save 99 = .ok (.getfield 83, 3) := by decide +kernel
theorem dX7_save_102 : decode cX7_save 102 = .ok (.iconst 1, 1) := by decide +kernel
theorem dX7_save_103 : decode cX7_save 103 = .ok (.iadd, 1) := by decide +kernel
theorem dX7_save_104 : decode cX7_save 104 = .ok (.putfield 83, 3) := by decide +kernel
theorem dX7_save_107 : decode cX7_save 107 = .ok (.aload_n 0, 1) := by decide +kernel
theorem dX7_save_108 : decode cX7_save 108 = .ok (.getfield 26, 3) := by decide +kernel
theorem dX7_save_111 : decode cX7_save 111 = .ok (.new 56, 3) := by decide +kernel
theorem dX7_save_114 : decode cX7_save 114 = .ok (.dup, 1) := by decide +kernel
theorem dX7_save_115 : decode cX7_save 115 = .ok (.invokespecial 58, 3) := by decide +kernel
theorem dX7_save_118 : decode cX7_save 118 = .ok (.invokevirtual 121, 3) := by decide +kernel
theorem dX7_save_121 : decode cX7_save 121 = .ok (.aload_n 0, 1) := by decide +kernel
theorem dX7_save_122 : decode cX7_save 122 = .ok (.getfield 83, 3) := by decide +kernel
theorem dX7_save_125 : decode cX7_save 125 = .ok (.ireturn, 1) := by decide +kernel
theorem dX7_tick_0 : decode cX7_tick 0 = .ok (.lload_n 1, 1) := by decide +kernel
theorem dX7_tick_1 : decode cX7_tick 1 = .ok (.aload_n 0, 1) := by decide +kernel
theorem dX7_tick_2 : decode cX7_tick 2 = .ok (.getfield 86, 3) := by decide +kernel
theorem dX7_tick_5 : decode cX7_tick 5 = .ok (.lcmp, 1) := by decide +kernel
theorem dX7_tick_6 : decode cX7_tick 6 = .ok (.ifCond .lt 16, 3) := by decide +kernel
theorem dX7_tick_9 : decode cX7_tick 9 = .ok (.lload_n 1, 1) := by decide +kernel
theorem dX7_tick_10 : decode cX7_tick 10 = .ok (.aload_n 0, 1) := by decide +kernel
theorem dX7_tick_11 : decode cX7_tick 11 = .ok (.getfield 86, 3) := by decide +kernel
theorem dX7_tick_14 : decode cX7_tick 14 = .ok (.lsub, 1) := by decide +kernel
theorem dX7_tick_15 : decode cX7_tick 15 = .ok (.ldc2_w 160, 3) := by decide +kernel
theorem dX7_tick_18 : decode cX7_tick 18 = .ok (.lcmp, 1) := by decide +kernel
theorem dX7_tick_19 : decode cX7_tick 19 = .ok (.ifCond .le 6, 3) := by decide +kernel
theorem dX7_tick_22 : decode cX7_tick 22 = .ok (.ldc 93, 2) := by decide +kernel
theorem dX7_tick_24 : decode cX7_tick 24 = .ok (.ireturn, 1) := by decide +kernel
theorem dX7_tick_25 : decode cX7_tick 25 = .ok (.aload_n 0, 1) := by decide +kernel
theorem dX7_tick_26 : decode cX7_tick 26 = .ok (.lload_n 1, 1) := by decide +kernel
theorem dX7_tick_27 : decode cX7_tick 27 = .ok (.putfield 86, 3) := by decide +kernel
theorem dX7_tick_30 : decode cX7_tick 30 = .ok (.iconst 0, 1) := by decide +kernel
theorem dX7_tick_31 : decode cX7_tick 31 = .ok (.istore_n 3, 1) := by decide +kernel
theorem dX7_tick_32 : decode cX7_tick 32 = .ok (.iconst 0, 1) := by decide +kernel
theorem dX7_tick_33 : decode cX7_tick 33 = .ok (.istore 4, 2) := by decide +kernel
theorem dX7_tick_35 : decode cX7_tick 35 = .ok (.iload 4, 2) := by decide +kernel
theorem dX7_tick_37 : decode cX7_tick 37 = .ok (.aload_n 0, 1) := by decide +kernel
theorem dX7_tick_38 : decode cX7_tick 38 = .ok (.getfield 83, 3) := by decide +kernel
theorem dX7_tick_41 : decode cX7_tick 41 = .ok (.if_icmp .ge 33, 3) := by decide +kernel
theorem dX7_tick_44 : decode cX7_tick 44 = .ok (.iload 4, 2) := by decide +kernel
theorem dX7_tick_46 : decode cX7_tick 46 = .ok (.aload_n 0, 1) := by decide +kernel
theorem dX7_tick_47 : decode cX7_tick 47 = .ok (.getfield 79, 3) := by decide +kernel
theorem dX7_tick_50 : decode cX7_tick 50 = .ok (.arraylength, 1) := by decide +kernel
theorem dX7_tick_51 : decode cX7_tick 51 = .ok (.if_icmp .ge 23, 3) := by decide +kernel
theorem dX7_tick_54 : decode cX7_tick 54 = .ok (.iload_n 3, 1) := by decide +kernel
theorem dX7_tick_55 : decode cX7_tick 55 = .ok (.aload_n 0, 1) := by decide +kernel
theorem dX7_tick_56 : decode cX7_tick 56 = .ok (.aload_n 0, 1) := by decide +kernel
theorem dX7_tick_57 : decode cX7_tick 57 = .ok (.getfield 79, 3) := by decide +kernel
theorem dX7_tick_60 : decode cX7_tick 60 = .ok (.iload 4, 2) := by decide +kernel
theorem dX7_tick_62 : decode cX7_tick 62 = .ok (.aaload, 1) := by decide +kernel
theorem dX7_tick_63 : decode cX7_tick 63 = .ok (.invokevirtual 165, 3) := by decide +kernel
theorem dX7_tick_66 : decode cX7_tick 66 = .ok (.iadd, 1) := by decide +kernel
theorem dX7_tick_67 : decode cX7_tick 67 = .ok (.istore_n 3, 1) := by decide +kernel
theorem dX7_tick_68 : decode cX7_tick 68 = .ok (.iinc 4 1, 3) := by decide +kernel
theorem dX7_tick_71 : decode cX7_tick 71 = .ok (.goto (-36), 3) := by decide +kernel
theorem dX7_tick_74 : decode cX7_tick 74 = .ok (.iload_n 3, 1) := by decide +kernel
theorem dX7_tick_75 : decode cX7_tick 75 = .ok (.ireturn, 1) := by decide +kernel
theorem dX7_saved_0 : decode cX7_saved 0 = .ok (.iload_n 1, 1) := by decide +kernel
theorem dX7_saved_1 : decode cX7_saved 1 = .ok (.iconst 1, 1) := by decide +kernel
theorem dX7_saved_2 : decode cX7_saved 2 = .ok (.if_icmp .lt 20, 3) := by decide +kernel
theorem dX7_saved_5 : decode cX7_saved 5 = .ok (.iload_n 1, 1) := by decide +kernel
theorem dX7_saved_6 : decode cX7_saved 6 = .ok (.aload_n 0, 1) := by decide +kernel
theorem dX7_saved_7 : decode cX7_saved 7 = .ok (.getfield 83, 3) := by decide +kernel
theorem dX7_saved_10 : decode cX7_saved 10 = .ok (.if_icmp .gt 12, 3) := by decide +kernel
theorem dX7_saved_13 : decode cX7_saved 13 = .ok (.iload_n 1, 1) := by decide +kernel
theorem dX7_saved_14 : decode cX7_saved 14 = .ok (.aload_n 0, 1) := by decide +kernel
theorem dX7_saved_15 : decode cX7_saved 15 = .ok (.getfield 79, 3) := by decide +kernel
theorem dX7_saved_18 : decode cX7_saved 18 = .ok (.arraylength, 1) := by decide +kernel
theorem dX7_saved_19 : decode cX7_saved 19 = .ok (.if_icmp .le 6, 3) := by decide +kernel
theorem dX7_saved_22 : decode cX7_saved 22 = .ok (.ldc 103, 2) := by decide +kernel
theorem dX7_saved_24 : decode cX7_saved 24 = .ok (.ireturn, 1) := by decide +kernel
theorem dX7_saved_25 : decode cX7_saved 25 = .ok (.aload_n 0, 1) := by decide +kernel
theorem dX7_saved_26 : decode cX7_saved 26 = .ok (.getfield 79, 3) := by decide +kernel
theorem dX7_saved_29 : decode cX7_saved 29 = .ok (.iload_n 1, 1) := by decide +kernel
theorem dX7_saved_30 : decode cX7_saved 30 = .ok (.iconst 1, 1) := by decide +kernel
theorem dX7_saved_31 : decode cX7_saved 31 = .ok (.isub, 1) := by decide +kernel
theorem dX7_saved_32 : decode cX7_saved 32 = .ok (.aaload, 1) := by decide +kernel
theorem dX7_saved_33 : decode cX7_saved 33 = .ok (.astore_n 2, 1) := by decide +kernel
theorem dX7_saved_34 : decode cX7_saved 34 = .ok (.aload_n 2, 1) := by decide +kernel
theorem dX7_saved_35 : decode cX7_saved 35 = .ok (.ifnonnull 8, 3) := by decide +kernel
theorem dX7_saved_38 : decode cX7_saved 38 = .ok (.ldc 103, 2) := by decide +kernel
theorem dX7_saved_40 : decode cX7_saved 40 = .ok (.goto 7, 3) := by decide +kernel
theorem dX7_saved_43 : decode cX7_saved 43 = .ok (.aload_n 2, 1) := by decide +kernel
theorem dX7_saved_44 : decode cX7_saved 44 = .ok (.invokevirtual 169, 3) := by decide +kernel
theorem dX7_saved_47 : decode cX7_saved 47 = .ok (.ireturn, 1) := by decide +kernel
theorem dX7_scan_0 : decode cX7_scan 0 = .ok (.iload_n 1, 1) := by decide +kernel
theorem dX7_scan_1 : decode cX7_scan 1 = .ok (.i2l, 1) := by decide +kernel
theorem dX7_scan_2 : decode cX7_scan 2 = .ok (.bipush 50, 2) := by decide +kernel
theorem dX7_scan_4 : decode cX7_scan 4 = .ok (.invokestatic 89, 3) := by decide +kernel
theorem dX7_scan_7 : decode cX7_scan 7 = .ok (.ifCond .ne 6, 3) := by decide +kernel
theorem dX7_scan_10 : decode cX7_scan 10 = .ok (.ldc 103, 2) := by decide +kernel
theorem dX7_scan_12 : decode cX7_scan 12 = .ok (.ireturn, 1) := by decide +kernel
theorem dX7_scan_13 : decode cX7_scan 13 = .ok (.iconst 0, 1) := by decide +kernel
theorem dX7_scan_14 : decode cX7_scan 14 = .ok (.istore_n 2, 1) := by decide +kernel
theorem dX7_scan_15 : decode cX7_scan 15 = .ok (.iconst 1, 1) := by decide +kernel
theorem dX7_scan_16 : decode cX7_scan 16 = .ok (.istore_n 3, 1) := by decide +kernel
theorem dX7_scan_17 : decode cX7_scan 17 = .ok (.iload_n 3, 1) := by decide +kernel
theorem dX7_scan_18 : decode cX7_scan 18 = .ok (.aload_n 0, 1) := by decide +kernel
theorem dX7_scan_19 : decode cX7_scan 19 = .ok (.getfield 10, 3) := by decide +kernel
theorem dX7_scan_22 : decode cX7_scan 22 = .ok (.invokevirtual 94, 3) := by decide +kernel
theorem dX7_scan_25 : decode cX7_scan 25 = .ok (.if_icmp .gt 21, 3) := by decide +kernel
theorem dX7_scan_28 : decode cX7_scan 28 = .ok (.aload_n 0, 1) := by decide +kernel
theorem dX7_scan_29 : decode cX7_scan 29 = .ok (.iload_n 1, 1) := by decide +kernel
theorem dX7_scan_30 : decode cX7_scan 30 = .ok (.iload_n 3, 1) := by decide +kernel
theorem dX7_scan_31 : decode cX7_scan 31 = .ok (.invokevirtual 172, 3) := by decide +kernel
theorem dX7_scan_34 : decode cX7_scan 34 = .ok (.ifCond .eq 6, 3) := by decide +kernel
theorem dX7_scan_37 : decode cX7_scan 37 = .ok (.iinc 2 1, 3) := by decide +kernel
theorem dX7_scan_40 : decode cX7_scan 40 = .ok (.iinc 3 1, 3) := by decide +kernel
theorem dX7_scan_43 : decode cX7_scan 43 = .ok (.goto (-26), 3) := by decide +kernel
theorem dX7_scan_46 : decode cX7_scan 46 = .ok (.iload_n 2, 1) := by decide +kernel
theorem dX7_scan_47 : decode cX7_scan 47 = .ok (.ireturn, 1) := by decide +kernel
theorem dX7_isBelow_0 : decode cX7_isBelow 0 = .ok (.lload_n 0, 1) := by decide +kernel
theorem dX7_isBelow_1 : decode cX7_isBelow 1 = .ok (.lconst 0, 1) := by decide +kernel
theorem dX7_isBelow_2 : decode cX7_isBelow 2 = .ok (.lcmp, 1) := by decide +kernel
theorem dX7_isBelow_3 : decode cX7_isBelow 3 = .ok (.ifCond .lt 14, 3) := by decide +kernel
theorem dX7_isBelow_6 : decode cX7_isBelow 6 = .ok (.lload_n 0, 1) := by decide +kernel
theorem dX7_isBelow_7 : decode cX7_isBelow 7 = .ok (.iload_n 2, 1) := by decide +kernel
theorem dX7_isBelow_8 : decode cX7_isBelow 8 = .ok (.i2l, 1) := by decide +kernel
theorem dX7_isBelow_9 : decode cX7_isBelow 9 = .ok (.lcmp, 1) := by decide +kernel
theorem dX7_isBelow_10 : decode cX7_isBelow 10 = .ok (.ifCond .ge 7, 3) := by decide +kernel
theorem dX7_isBelow_13 : decode cX7_isBelow 13 = .ok (.iconst 1, 1) := by decide +kernel
theorem dX7_isBelow_14 : decode cX7_isBelow 14 = .ok (.goto 4, 3) := by decide +kernel
theorem dX7_isBelow_17 : decode cX7_isBelow 17 = .ok (.iconst 0, 1) := by decide +kernel
theorem dX7_isBelow_18 : decode cX7_isBelow 18 = .ok (.ireturn, 1) := by decide +kernel
theorem dX7_isMasked_0 : decode cX7_isMasked 0 = .ok (.aload_n 0, 1) := by decide +kernel
theorem dX7_isMasked_1 : decode cX7_isMasked 1 = .ok (.getfield 45, 3) := by decide +kernel
theorem dX7_isMasked_4 : decode cX7_isMasked 4 = .ok (.iload_n 1, 1) := by decide +kernel
theorem dX7_isMasked_5 : decode cX7_isMasked 5 = .ok (.ishr, 1) := by decide +kernel
theorem dX7_isMasked_6 : decode cX7_isMasked 6 = .ok (.iconst 1, 1) := by decide +kernel
theorem dX7_isMasked_7 : decode cX7_isMasked 7 = .ok (.iand, 1) := by decide +kernel
theorem dX7_isMasked_8 : decode cX7_isMasked 8 = .ok (.ifCond .eq 7, 3) := by decide +kernel
theorem dX7_isMasked_11 : decode cX7_isMasked 11 = .ok (.iconst 1, 1) := by decide +kernel
theorem dX7_isMasked_12 : decode cX7_isMasked 12 = .ok (.goto 4, 3) := by decide +kernel
theorem dX7_isMasked_15 : decode cX7_isMasked 15 = .ok (.iconst 0, 1) := by decide +kernel
theorem dX7_isMasked_16 : decode cX7_isMasked 16 = .ok (.ireturn, 1) := by decide +kernel
theorem dX7_sees_0 : decode cX7_sees 0 = .ok (.aload_n 0, 1) := by decide +kernel
theorem dX7_sees_1 : decode cX7_sees 1 = .ok (.getfield 19, 3) := by decide +kernel
theorem dX7_sees_4 : decode cX7_sees 4 = .ok (.iload_n 1, 1) := by decide +kernel
theorem dX7_sees_5 : decode cX7_sees 5 = .ok (.aload_n 0, 1) := by decide +kernel
theorem dX7_sees_6 : decode cX7_sees 6 = .ok (.getfield 10, 3) := by decide +kernel
theorem dX7_sees_9 : decode cX7_sees 9 = .ok (.iload_n 2, 1) := by decide +kernel
theorem dX7_sees_10 : decode cX7_sees 10 = .ok (.iconst 4, 1) := by decide +kernel
theorem dX7_sees_11 : decode cX7_sees 11 = .ok (.invokevirtual 141, 3) := by decide +kernel
theorem dX7_sees_14 : decode cX7_sees 14 = .ok (.aload_n 0, 1) := by decide +kernel
theorem dX7_sees_15 : decode cX7_sees 15 = .ok (.getfield 10, 3) := by decide +kernel
theorem dX7_sees_18 : decode cX7_sees 18 = .ok (.iload_n 2, 1) := by decide +kernel
theorem dX7_sees_19 : decode cX7_sees 19 = .ok (.iconst 1, 1) := by decide +kernel
theorem dX7_sees_20 : decode cX7_sees 20 = .ok (.invokevirtual 141, 3) := by decide +kernel
theorem dX7_sees_23 : decode cX7_sees 23 = .ok (.invokevirtual 176, 3) := by decide +kernel
theorem dX7_sees_26 : decode cX7_sees 26 = .ok (.ireturn, 1) := by decide +kernel
theorem dX7_readText_0 : decode cX7_readText 0 = .ok (.aload_n 0, 1) := by decide +kernel
theorem dX7_readText_1 : decode cX7_readText 1 = .ok (.getfield 26, 3) := by decide +kernel
theorem dX7_readText_4 : decode cX7_readText 4 = .ok (.aload_n 0, 1) := by decide +kernel
theorem dX7_readText_5 : decode cX7_readText 5 = .ok (.getfield 37, 3) := by decide +kernel
theorem dX7_readText_8 : decode cX7_readText 8 = .ok (.aload_n 0, 1) := by decide +kernel
theorem dX7_readText_9 : decode cX7_readText 9 = .ok (.getfield 41, 3) := by decide +kernel
theorem dX7_readText_12 : decode cX7_readText 12 = .ok (.aload_n 0, 1) := by decide +kernel
theorem dX7_readText_13 : decode cX7_readText 13 = .ok (.getfield 45, 3) := by decide +kernel
theorem dX7_readText_16 : decode cX7_readText 16 = .ok (.invokevirtual 179, 3) := by decide +kernel
theorem dX7_readText_19 : decode cX7_readText 19 = .ok (.istore_n 2, 1) := by decide +kernel
theorem dX7_readText_20 : decode cX7_readText 20 = .ok (.aload_n 0, 1) := by decide +kernel
theorem dX7_readText_21 : decode cX7_readText 21 = .ok (.getfield 26, 3) := by decide +kernel
theorem dX7_readText_24 : decode cX7_readText 24 = .ok (.invokevirtual 108, 3) := by decide +kernel
theorem dX7_readText_27 : decode cX7_readText 27 = .ok (.iload_n 1, 1) := by decide +kernel
theorem dX7_readText_28 : decode cX7_readText 28 = .ok (.invokevirtual 183, 3) := by decide +kernel
theorem dX7_readText_31 : decode cX7_readText 31 = .ok (.aload_n 0, 1) := by decide +kernel
theorem dX7_readText_32 : decode cX7_readText 32 = .ok (.iconst 0, 1) := by decide +kernel
theorem dX7_readText_33 : decode cX7_readText 33 = .ok (.putfield 41, 3) := by decide +kernel
theorem dX7_readText_36 : decode cX7_readText 36 = .ok (.iload_n 2, 1) := by decide +kernel
theorem dX7_readText_37 : decode cX7_readText 37 = .ok (.ireturn, 1) := by decide +kernel
theorem dX7_costOf_0 : decode cX7_costOf 0 = .ok (.aload_n 1, 1) := by decide +kernel
theorem dX7_costOf_1 : decode cX7_costOf 1 = .ok (.invokevirtual 187, 3) := by decide +kernel
theorem dX7_costOf_4 : decode cX7_costOf 4 = .ok (.i2l, 1) := by decide +kernel
theorem dX7_costOf_5 : decode cX7_costOf 5 = .ok (.lconst 1, 1) := by decide +kernel
theorem dX7_costOf_6 : decode cX7_costOf 6 = .ok (.ladd, 1) := by decide +kernel
theorem dX7_costOf_7 : decode cX7_costOf 7 = .ok (.aload_n 0, 1) := by decide +kernel
theorem dX7_costOf_8 : decode cX7_costOf 8 = .ok (.getfield 10, 3) := by decide +kernel
theorem dX7_costOf_11 : decode cX7_costOf 11 = .ok (.invokevirtual 94, 3) := by decide +kernel
theorem dX7_costOf_14 : decode cX7_costOf 14 = .ok (.i2l, 1) := by decide +kernel
theorem dX7_costOf_15 : decode cX7_costOf 15 = .ok (.lmul, 1) := by decide +kernel
theorem dX7_costOf_16 : decode cX7_costOf 16 = .ok (.lreturn, 1) := by decide +kernel
theorem dX7_search_0 : decode cX7_search 0 = .ok (.aload_n 3, 1) := by decide +kernel
theorem dX7_search_1 : decode cX7_search 1 = .ok (.invokevirtual 190, 3) := by decide +kernel
theorem dX7_search_4 : decode cX7_search 4 = .ok (.iconst 0, 1) := by decide +kernel
theorem dX7_search_5 : decode cX7_search 5 = .ok (.istore 4, 2) := by decide +kernel
theorem dX7_search_7 : decode cX7_search 7 = .ok (.iload 4, 2) := by decide +kernel
theorem dX7_search_9 : decode cX7_search 9 = .ok (.aload_n 0, 1) := by decide +kernel
theorem dX7_search_10 : decode cX7_search 10 = .ok (.getfield 10, 3) := by decide +kernel
theorem dX7_search_13 : decode cX7_search 13 = .ok (.invokevirtual 94, 3) := by decide +kernel
theorem dX7_search_16 : decode cX7_search 16 = .ok (.if_icmp .ge 98, 3) := by decide +kernel
theorem dX7_search_19 : decode cX7_search 19 = .ok (.aload_n 0, 1) := by decide +kernel
theorem dX7_search_20 : decode cX7_search 20 = .ok (.getfield 10, 3) := by decide +kernel
theorem dX7_search_23 : decode cX7_search 23 = .ok (.aload_n 1, 1) := by decide +kernel
theorem dX7_search_24 : decode cX7_search 24 = .ok (.invokevirtual 131, 3) := by decide +kernel
theorem dX7_search_27 : decode cX7_search 27 = .ok (.aload_n 1, 1) := by decide +kernel
theorem dX7_search_28 : decode cX7_search 28 = .ok (.invokevirtual 193, 3) := by decide +kernel
theorem dX7_search_31 : decode cX7_search 31 = .ok (.iload 4, 2) := by decide +kernel
theorem dX7_search_33 : decode cX7_search 33 = .ok (.invokevirtual 196, 3) := by decide +kernel
theorem dX7_search_36 : decode cX7_search 36 = .ok (.istore 5, 2) := by decide +kernel
theorem dX7_search_38 : decode cX7_search 38 = .ok (.iload 5, 2) := by decide +kernel
theorem dX7_search_40 : decode cX7_search 40 = .ok (.iload_n 2, 1) := by decide +kernel
theorem dX7_search_41 : decode cX7_search 41 = .ok (.if_icmp .gt 67, 3) := by decide +kernel
theorem dX7_search_44 : decode cX7_search 44 = .ok (.aload_n 0, 1) := by decide +kernel
theorem dX7_search_45 : decode cX7_search 45 = .ok (.aload_n 1, 1) := by decide +kernel
theorem dX7_search_46 : decode cX7_search 46 = .ok (.invokevirtual 200, 3) := by decide +kernel
theorem dX7_search_49 : decode cX7_search 49 = .ok (.iload 5, 2) := by decide +kernel
theorem dX7_search_51 : decode cX7_search 51 = .ok (.invokevirtual 172, 3) := by decide +kernel
theorem dX7_search_54 : decode cX7_search 54 = .ok (.ifCond .eq 54, 3) := by decide +kernel
theorem dX7_search_57 : decode cX7_search 57 = .ok (.aload_n 0, 1) := by decide +kernel
theorem dX7_search_58 : decode cX7_search 58 = .ok (.getfield 33, 3) := by decide +kernel
theorem dX7_search_61 : decode cX7_search 61 = .ok (.aload_n 1, 1) := by decide +kernel
theorem dX7_search_62 : decode cX7_search 62 = .ok (.aload_n 0, 1) := by decide +kernel
theorem dX7_search_63 : decode cX7_search 63 = .ok (.getfield 10, 3) := by decide +kernel
theorem dX7_search_66 : decode cX7_search 66 = .ok (.iload 5, 2) := by decide +kernel
theorem dX7_search_68 : decode cX7_search 68 = .ok (.invokevirtual 203, 3) := by decide +kernel
theorem dX7_search_71 : decode cX7_search 71 = .ok (.ifCond .eq 37, 3) := by decide +kernel
theorem dX7_search_74 : decode cX7_search 74 = .ok (.aload_n 1, 1) := by decide +kernel
theorem dX7_search_75 : decode cX7_search 75 = .ok (.invokevirtual 131, 3) := by decide +kernel
theorem dX7_search_78 : decode cX7_search 78 = .ok (.iconst 1, 1) := by decide +kernel
theorem dX7_search_79 : decode cX7_search 79 = .ok (.if_icmp .ne 23, 3) := by decide +kernel
theorem dX7_search_82 : decode cX7_search 82 = .ok (.aload_n 3, 1) := by decide +kernel
theorem dX7_search_83 : decode cX7_search 83 = .ok (.aload_n 0, 1) := by decide +kernel
theorem dX7_search_84 : decode cX7_search 84 = .ok (.getfield 10, 3) := by decide +kernel
theorem dX7_search_87 : decode cX7_search 87 = .ok (.iload 5, 2) := by decide +kernel
theorem dX7_search_89 : decode cX7_search 89 = .ok (.aload_n 1, 1) := by decide +kernel
theorem dX7_search_90 : decode cX7_search 90 = .ok (.invokevirtual 193, 3) := by decide +kernel
theorem dX7_search_93 : decode cX7_search 93 = .ok (.invokevirtual 141, 3) := by decide +kernel
theorem dX7_search_96 : decode cX7_search 96 = .ok (.invokevirtual 207, 3) := by decide +kernel
theorem dX7_search_99 : decode cX7_search 99 = .ok (.goto 9, 3) := by decide +kernel
theorem dX7_search_102 : decode cX7_search 102 = .ok (.aload_n 3, 1) := by decide +kernel
theorem dX7_search_103 : decode cX7_search 103 = .ok (.iload 5, 2) := by decide +kernel
theorem dX7_search_105 : decode cX7_search 105 = .ok (.invokevirtual 210, 3) := by decide +kernel
theorem dX7_search_108 : decode cX7_search 108 = .ok (.iinc 4 1, 3) := by decide +kernel
theorem dX7_search_111 : decode cX7_search 111 = .ok (.goto (-104), 3) := by decide +kernel
theorem dX7_search_114 : decode cX7_search 114 = .ok (.return_, 1) := by decide +kernel
theorem dX7_askKept_0 : decode cX7_askKept 0 = .ok (.aload_n 1, 1) := by decide +kernel
theorem dX7_askKept_1 : decode cX7_askKept 1 = .ok (.ifnonnull 5, 3) := by decide +kernel
theorem dX7_askKept_4 : decode cX7_askKept 4 = .ok (.iconst 0, 1) := by decide +kernel
theorem dX7_askKept_5 : decode cX7_askKept 5 = .ok (.ireturn, 1) := by decide +kernel
theorem dX7_askKept_6 : decode cX7_askKept 6 = .ok (.aload_n 1, 1) := by decide +kernel
theorem dX7_askKept_7 : decode cX7_askKept 7 = .ok (.aload_n 0, 1) := by decide +kernel
theorem dX7_askKept_8 : decode cX7_askKept 8 = .ok (.getfield 86, 3) := by decide +kernel
theorem dX7_askKept_11 : decode cX7_askKept 11 = .ok (.invokevirtual 212, 3) := by decide +kernel
theorem dX7_askKept_14 : decode cX7_askKept 14 = .ok (.istore_n 2, 1) := by decide +kernel
theorem dX7_askKept_15 : decode cX7_askKept 15 = .ok (.iload_n 2, 1) := by decide +kernel
theorem dX7_askKept_16 : decode cX7_askKept 16 = .ok (.ifCond .le 15, 3) := by decide +kernel
theorem dX7_askKept_19 : decode cX7_askKept 19 = .ok (.aload_n 1, 1) := by decide +kernel
theorem dX7_askKept_20 : decode cX7_askKept 20 = .ok (.aload_n 0, 1) := by decide +kernel
theorem dX7_askKept_21 : decode cX7_askKept 21 = .ok (.aload_n 1, 1) := by decide +kernel
theorem dX7_askKept_22 : decode cX7_askKept 22 = .ok (.invokevirtual 216, 3) := by decide +kernel
theorem dX7_askKept_25 : decode cX7_askKept 25 = .ok (.invokevirtual 219, 3) := by decide +kernel
theorem dX7_askKept_28 : decode cX7_askKept 28 = .ok (.invokevirtual 223, 3) := by decide +kernel
theorem dX7_askKept_31 : decode cX7_askKept 31 = .ok (.iload_n 2, 1) := by decide +kernel
theorem dX7_askKept_32 : decode cX7_askKept 32 = .ok (.ireturn, 1) := by decide +kernel
theorem dX7_countFound_0 : decode cX7_countFound 0 = .ok (.aload_n 1, 1) := by decide +kernel
theorem dX7_countFound_1 : decode cX7_countFound 1 = .ok (.invokevirtual 226, 3) := by decide +kernel
theorem dX7_countFound_4 : decode cX7_countFound 4 = .ok (.aload_n 0, 1) := by decide +kernel
theorem dX7_countFound_5 : decode cX7_countFound 5 = .ok (.getfield 45, 3) := by decide +kernel
theorem dX7_countFound_8 : decode cX7_countFound 8 = .ok (.iand, 1) := by decide +kernel
theorem dX7_countFound_9 : decode cX7_countFound 9 = .ok (.ifCond .ne 17, 3) := by decide +kernel
theorem dX7_countFound_12 : decode cX7_countFound 12 = .ok (.aload_n 0, 1) := by decide +kernel
theorem dX7_countFound_13 : decode cX7_countFound 13 = .ok (.aload_n 1, 1) := by decide +kernel
theorem dX7_countFound_14 : decode cX7_countFound 14 = .ok (.invokevirtual 112, 3) := by decide +kernel
theorem dX7_countFound_17 : decode cX7_countFound 17 = .ok (.aload_n 0, 1) := by decide +kernel
theorem dX7_countFound_18 : decode cX7_countFound 18 = .ok (.getfield 49, 3) := by decide +kernel
theorem dX7_countFound_21 : decode cX7_countFound 21 = .ok (.i2l, 1) := by decide +kernel
theorem dX7_countFound_22 : decode cX7_countFound 22 = .ok (.lcmp, 1) := by decide +kernel
theorem dX7_countFound_23 : decode cX7_countFound 23 = .ok (.ifCond .le 5, 3) := by decide +kernel
theorem dX7_countFound_26 : decode cX7_countFound 26 = .ok (.iconst (-1), 1) := by decide +kernel
theorem dX7_countFound_27 : decode cX7_countFound 27 = .ok (.ireturn, 1) := by decide +kernel
theorem dX7_countFound_28 : decode cX7_countFound 28 = .ok (.aload_n 0, 1) := by decide +kernel
theorem dX7_countFound_29 : decode cX7_countFound 29 = .ok (.aload_n 1, 1) := by decide +kernel
theorem dX7_countFound_30 : decode cX7_countFound 30 = .ok (.aload_n 0, 1) := by decide +kernel
theorem dX7_countFound_31 : decode cX7_countFound 31 = .ok (.getfield 10, 3) := by decide +kernel
theorem dX7_countFound_34 : decode cX7_countFound 34 = .ok (.invokevirtual 94, 3) := by decide +kernel
theorem dX7_countFound_37 : decode cX7_countFound 37 = .ok (.aload_n 0, 1) := by decide +kernel
theorem dX7_countFound_38 : decode cX7_countFound 38 = .ok (.getfield 74, 3) := by decide +kernel
theorem dX7_countFound_41 : decode cX7_countFound 41 = .ok (.invokevirtual 117, 3) := by decide +kernel
theorem dX7_countFound_44 : decode cX7_countFound 44 = .ok (.aload_n 0, 1) := by decide +kernel
theorem dX7_countFound_45 : decode cX7_countFound 45 = .ok (.getfield 74, 3) := by decide +kernel
theorem dX7_countFound_48 : decode cX7_countFound 48 = .ok (.invokevirtual 125, 3) := by decide +kernel
theorem dX7_countFound_51 : decode cX7_countFound 51 = .ok (.ireturn, 1) := by decide +kernel
