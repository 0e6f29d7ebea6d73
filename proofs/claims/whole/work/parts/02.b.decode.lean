theorem dX4_drawnEvenings_89 : decode cX4_drawnEvenings 89 = .ok (.aload_n 0, 1) := by decide +kernel
theorem dX4_drawnEvenings_90 : decode cX4_drawnEvenings 90 = .ok (.getfield 15, 3) := by decide +kernel
theorem dX4_drawnEvenings_93 : decode cX4_drawnEvenings 93 = .ok (.aload_n 0, 1) := by decide +kernel
theorem dX4_drawnEvenings_94 : decode cX4_drawnEvenings 94 = .ok (.getfield 23, 3) := by decide +kernel
theorem dX4_drawnEvenings_97 : decode cX4_drawnEvenings 97 = .ok (.iconst 4, 1) := by decide +kernel
theorem dX4_drawnEvenings_98 : decode cX4_drawnEvenings 98 = .ok (.iload 4, 2) := by decide +kernel
theorem dX4_drawnEvenings_100 : decode cX4_drawnEvenings 100 = .ok (.iload 10, 2) := by decide +kernel
theorem dX4_drawnEvenings_102 : decode cX4_drawnEvenings 102 = .ok (.invokevirtual 92, 3) := by decide +kernel
theorem dX4_drawnEvenings_105 : decode cX4_drawnEvenings 105 = .ok (.iload 10, 2) := by decide +kernel
theorem dX4_drawnEvenings_107 : decode cX4_drawnEvenings 107 = .ok (.aload_n 0, 1) := by decide +kernel
theorem dX4_drawnEvenings_108 : decode cX4_drawnEvenings 108 = .ok (.getfield 15, 3) := by decide +kernel
theorem dX4_drawnEvenings_111 : decode cX4_drawnEvenings 111 = .ok (.getfield 100, 3) := by decide +kernel
theorem dX4_drawnEvenings_114 : decode cX4_drawnEvenings 114 = .ok (.iadd, 1) := by decide +kernel
theorem dX4_drawnEvenings_115 : decode cX4_drawnEvenings 115 = .ok (.istore 10, 2) := by decide +kernel
theorem dX4_drawnEvenings_117 : decode cX4_drawnEvenings 117 = .ok (.iload 5, 2) := by decide +kernel
theorem dX4_drawnEvenings_119 : decode cX4_drawnEvenings 119 = .ok (.ifCond .eq 30, 3) := by decide +kernel
theorem dX4_drawnEvenings_122 : decode cX4_drawnEvenings 122 = .ok (.aload_n 0, 1) := by decide +kernel
theorem dX4_drawnEvenings_123 : decode cX4_drawnEvenings 123 = .ok (.getfield 15, 3) := by decide +kernel
theorem dX4_drawnEvenings_126 : decode cX4_drawnEvenings 126 = .ok (.aload_n 0, 1) := by decide +kernel
theorem dX4_drawnEvenings_127 : decode cX4_drawnEvenings 127 = .ok (.getfield 15, 3) := by decide +kernel
theorem dX4_drawnEvenings_130 : decode cX4_drawnEvenings 130 = .ok (.getfield 111, 3) := by decide +kernel
theorem dX4_drawnEvenings_133 : decode cX4_drawnEvenings 133 = .ok (.aload_n 0, 1) := by decide +kernel
theorem dX4_drawnEvenings_134 : decode cX4_drawnEvenings 134 = .ok (.getfield 15, 3) := by decide +kernel
theorem dX4_drawnEvenings_137 : decode cX4_drawnEvenings 137 = .ok (.getfield 114, 3) := by decide +kernel
theorem dX4_drawnEvenings_140 : decode cX4_drawnEvenings 140 = .ok (.invokevirtual 117, 3) := by decide +kernel
theorem dX4_drawnEvenings_143 : decode cX4_drawnEvenings 143 = .ok (.ifCond .eq 6, 3) := by decide +kernel
theorem dX4_drawnEvenings_146 : decode cX4_drawnEvenings 146 = .ok (.iinc 8 1, 3) := by decide +kernel
theorem dX4_drawnEvenings_149 : decode cX4_drawnEvenings 149 = .ok (.iinc 11 1, 3) := by decide +kernel
theorem dX4_drawnEvenings_152 : decode cX4_drawnEvenings 152 = .ok (.goto (-115), 3) := by decide +kernel
theorem dX4_drawnEvenings_155 : decode cX4_drawnEvenings 155 = .ok (.iload 7, 2) := by decide +kernel
theorem dX4_drawnEvenings_157 : decode cX4_drawnEvenings 157 = .ok (.iload 10, 2) := by decide +kernel
theorem dX4_drawnEvenings_159 : decode cX4_drawnEvenings 159 = .ok (.iadd, 1) := by decide +kernel
theorem dX4_drawnEvenings_160 : decode cX4_drawnEvenings 160 = .ok (.istore 7, 2) := by decide +kernel
theorem dX4_drawnEvenings_162 : decode cX4_drawnEvenings 162 = .ok (.iinc 9 1, 3) := by decide +kernel
theorem dX4_drawnEvenings_165 : decode cX4_drawnEvenings 165 = .ok (.goto (-140), 3) := by decide +kernel
theorem dX4_drawnEvenings_168 : decode cX4_drawnEvenings 168 = .ok (.iload 5, 2) := by decide +kernel
theorem dX4_drawnEvenings_170 : decode cX4_drawnEvenings 170 = .ok (.ifCond .eq 8, 3) := by decide +kernel
theorem dX4_drawnEvenings_173 : decode cX4_drawnEvenings 173 = .ok (.iload 8, 2) := by decide +kernel
theorem dX4_drawnEvenings_175 : decode cX4_drawnEvenings 175 = .ok (.goto 5, 3) := by decide +kernel
theorem dX4_drawnEvenings_178 : decode cX4_drawnEvenings 178 = .ok (.iload 7, 2) := by decide +kernel
theorem dX4_drawnEvenings_180 : decode cX4_drawnEvenings 180 = .ok (.ireturn, 1) := by decide +kernel
theorem dX5_init_0 : decode cX5_init 0 = .ok (.aload_n 0, 1) := by decide +kernel
theorem dX5_init_1 : decode cX5_init 1 = .ok (.invokespecial 3, 3) := by decide +kernel
theorem dX5_init_4 : decode cX5_init 4 = .ok (.aload_n 0, 1) := by decide +kernel
theorem dX5_init_5 : decode cX5_init 5 = .ok (.bipush 6, 2) := by decide +kernel
theorem dX5_init_7 : decode cX5_init 7 = .ok (.newarray .int, 2) := by decide +kernel
theorem dX5_init_9 : decode cX5_init 9 = .ok (.putfield 9, 3) := by decide +kernel
theorem dX5_init_12 : decode cX5_init 12 = .ok (.aload_n 0, 1) := by decide +kernel
theorem dX5_init_13 : decode cX5_init 13 = .ok (.bipush 6, 2) := by decide +kernel
theorem dX5_init_15 : decode cX5_init 15 = .ok (.newarray .int, 2) := by decide +kernel
theorem dX5_init_17 : decode cX5_init 17 = .ok (.putfield 15, 3) := by decide +kernel
theorem dX5_init_20 : decode cX5_init 20 = .ok (.aload_n 0, 1) := by decide +kernel
theorem dX5_init_21 : decode cX5_init 21 = .ok (.bipush 6, 2) := by decide +kernel
theorem dX5_init_23 : decode cX5_init 23 = .ok (.newarray .int, 2) := by decide +kernel
theorem dX5_init_25 : decode cX5_init 25 = .ok (.putfield 18, 3) := by decide +kernel
theorem dX5_init_28 : decode cX5_init 28 = .ok (.aload_n 0, 1) := by decide +kernel
theorem dX5_init_29 : decode cX5_init 29 = .ok (.bipush 6, 2) := by decide +kernel
theorem dX5_init_31 : decode cX5_init 31 = .ok (.bipush 60, 2) := by decide +kernel
theorem dX5_init_33 : decode cX5_init 33 = .ok (.multianewarray 21 2, 4) := by decide +kernel
theorem dX5_init_37 : decode cX5_init 37 = .ok (.putfield 23, 3) := by decide +kernel
theorem dX5_init_40 : decode cX5_init 40 = .ok (.iconst 0, 1) := by decide +kernel
theorem dX5_init_41 : decode cX5_init 41 = .ok (.istore_n 1, 1) := by decide +kernel
theorem dX5_init_42 : decode cX5_init 42 = .ok (.iload_n 1, 1) := by decide +kernel
theorem dX5_init_43 : decode cX5_init 43 = .ok (.bipush 6, 2) := by decide +kernel
theorem dX5_init_45 : decode cX5_init 45 = .ok (.if_icmp .ge 16, 3) := by decide +kernel
theorem dX5_init_48 : decode cX5_init 48 = .ok (.aload_n 0, 1) := by decide +kernel
theorem dX5_init_49 : decode cX5_init 49 = .ok (.getfield 9, 3) := by decide +kernel
theorem dX5_init_52 : decode cX5_init 52 = .ok (.iload_n 1, 1) := by decide +kernel
theorem dX5_init_53 : decode cX5_init 53 = .ok (.iconst (-1), 1) := by decide +kernel
theorem dX5_init_54 : decode cX5_init 54 = .ok (.iastore, 1) := by decide +kernel
theorem dX5_init_55 : decode cX5_init 55 = .ok (.iinc 1 1, 3) := by decide +kernel
theorem dX5_init_58 : decode cX5_init 58 = .ok (.goto (-16), 3) := by decide +kernel
theorem dX5_init_61 : decode cX5_init 61 = .ok (.return_, 1) := by decide +kernel
theorem dX5_heldOn_0 : decode cX5_heldOn 0 = .ok (.iload_n 1, 1) := by decide +kernel
theorem dX5_heldOn_1 : decode cX5_heldOn 1 = .ok (.invokestatic 26, 3) := by decide +kernel
theorem dX5_heldOn_4 : decode cX5_heldOn 4 = .ok (.ifCond .eq 12, 3) := by decide +kernel
theorem dX5_heldOn_7 : decode cX5_heldOn 7 = .ok (.aload_n 0, 1) := by decide +kernel
theorem dX5_heldOn_8 : decode cX5_heldOn 8 = .ok (.getfield 9, 3) := by decide +kernel
theorem dX5_heldOn_11 : decode cX5_heldOn 11 = .ok (.iload_n 1, 1) := by decide +kernel
theorem dX5_heldOn_12 : decode cX5_heldOn 12 = .ok (.iaload, 1) := by decide +kernel
theorem dX5_heldOn_13 : decode cX5_heldOn 13 = .ok (.goto 4, 3) := by decide +kernel
theorem dX5_heldOn_16 : decode cX5_heldOn 16 = .ok (.iconst (-1), 1) := by decide +kernel
theorem dX5_heldOn_17 : decode cX5_heldOn 17 = .ok (.ireturn, 1) := by decide +kernel
theorem dX5_isEmpty_0 : decode cX5_isEmpty 0 = .ok (.aload_n 0, 1) := by decide +kernel
theorem dX5_isEmpty_1 : decode cX5_isEmpty 1 = .ok (.iload_n 1, 1) := by decide +kernel
theorem dX5_isEmpty_2 : decode cX5_isEmpty 2 = .ok (.invokevirtual 30, 3) := by decide +kernel
theorem dX5_isEmpty_5 : decode cX5_isEmpty 5 = .ok (.iconst (-1), 1) := by decide +kernel
theorem dX5_isEmpty_6 : decode cX5_isEmpty 6 = .ok (.if_icmp .ne 7, 3) := by decide +kernel
theorem dX5_isEmpty_9 : decode cX5_isEmpty 9 = .ok (.iconst 1, 1) := by decide +kernel
theorem dX5_isEmpty_10 : decode cX5_isEmpty 10 = .ok (.goto 4, 3) := by decide +kernel
theorem dX5_isEmpty_13 : decode cX5_isEmpty 13 = .ok (.iconst 0, 1) := by decide +kernel
theorem dX5_isEmpty_14 : decode cX5_isEmpty 14 = .ok (.ireturn, 1) := by decide +kernel
theorem dX5_isRow_0 : decode cX5_isRow 0 = .ok (.aload_n 0, 1) := by decide +kernel
theorem dX5_isRow_1 : decode cX5_isRow 1 = .ok (.iload_n 1, 1) := by decide +kernel
theorem dX5_isRow_2 : decode cX5_isRow 2 = .ok (.invokevirtual 30, 3) := by decide +kernel
theorem dX5_isRow_5 : decode cX5_isRow 5 = .ok (.ifCond .lt 7, 3) := by decide +kernel
theorem dX5_isRow_8 : decode cX5_isRow 8 = .ok (.iconst 1, 1) := by decide +kernel
theorem dX5_isRow_9 : decode cX5_isRow 9 = .ok (.goto 4, 3) := by decide +kernel
theorem dX5_isRow_12 : decode cX5_isRow 12 = .ok (.iconst 0, 1) := by decide +kernel
theorem dX5_isRow_13 : decode cX5_isRow 13 = .ok (.ireturn, 1) := by decide +kernel
theorem dX5_isAlike_0 : decode cX5_isAlike 0 = .ok (.aload_n 0, 1) := by decide +kernel
theorem dX5_isAlike_1 : decode cX5_isAlike 1 = .ok (.iload_n 1, 1) := by decide +kernel
theorem dX5_isAlike_2 : decode cX5_isAlike 2 = .ok (.invokevirtual 30, 3) := by decide +kernel
theorem dX5_isAlike_5 : decode cX5_isAlike 5 = .ok (.aload_n 0, 1) := by decide +kernel
theorem dX5_isAlike_6 : decode cX5_isAlike 6 = .ok (.iload_n 2, 1) := by decide +kernel
theorem dX5_isAlike_7 : decode cX5_isAlike 7 = .ok (.invokevirtual 30, 3) := by decide +kernel
theorem dX5_isAlike_10 : decode cX5_isAlike 10 = .ok (.if_icmp .ne 7, 3) := by decide +kernel
theorem dX5_isAlike_13 : decode cX5_isAlike 13 = .ok (.iconst 1, 1) := by decide +kernel
theorem dX5_isAlike_14 : decode cX5_isAlike 14 = .ok (.goto 4, 3) := by decide +kernel
theorem dX5_isAlike_17 : decode cX5_isAlike 17 = .ok (.iconst 0, 1) := by decide +kernel
theorem dX5_isAlike_18 : decode cX5_isAlike 18 = .ok (.ireturn, 1) := by decide +kernel
theorem dX5_bytesRefusal_0 : decode cX5_bytesRefusal 0 = .ok (.aload_n 0, 1) := by decide +kernel
theorem dX5_bytesRefusal_1 : decode cX5_bytesRefusal 1 = .ok (.iload_n 1, 1) := by decide +kernel
theorem dX5_bytesRefusal_2 : decode cX5_bytesRefusal 2 = .ok (.invokevirtual 34, 3) := by decide +kernel
theorem dX5_bytesRefusal_5 : decode cX5_bytesRefusal 5 = .ok (.ifCond .eq 6, 3) := by decide +kernel
theorem dX5_bytesRefusal_8 : decode cX5_bytesRefusal 8 = .ok (.bipush (-11), 2) := by decide +kernel
theorem dX5_bytesRefusal_10 : decode cX5_bytesRefusal 10 = .ok (.ireturn, 1) := by decide +kernel
theorem dX5_bytesRefusal_11 : decode cX5_bytesRefusal 11 = .ok (.aload_n 0, 1) := by decide +kernel
theorem dX5_bytesRefusal_12 : decode cX5_bytesRefusal 12 = .ok (.iload_n 1, 1) := by decide +kernel
theorem dX5_bytesRefusal_13 : decode cX5_bytesRefusal 13 = .ok (.invokevirtual 30, 3) := by decide +kernel
theorem dX5_bytesRefusal_16 : decode cX5_bytesRefusal 16 = .ok (.ifCond .ne 7, 3) := by decide +kernel
theorem dX5_bytesRefusal_19 : decode cX5_bytesRefusal 19 = .ok (.iconst 0, 1) := by decide +kernel
theorem dX5_bytesRefusal_20 : decode cX5_bytesRefusal 20 = .ok (.goto 5, 3) := by decide +kernel
theorem dX5_bytesRefusal_23 : decode cX5_bytesRefusal 23 = .ok (.bipush (-12), 2) := by decide +kernel
theorem dX5_bytesRefusal_25 : decode cX5_bytesRefusal 25 = .ok (.ireturn, 1) := by decide +kernel
theorem dX5_lengthOf_0 : decode cX5_lengthOf 0 = .ok (.iload_n 1, 1) := by decide +kernel
theorem dX5_lengthOf_1 : decode cX5_lengthOf 1 = .ok (.invokestatic 26, 3) := by decide +kernel
theorem dX5_lengthOf_4 : decode cX5_lengthOf 4 = .ok (.ifCond .eq 12, 3) := by decide +kernel
theorem dX5_lengthOf_7 : decode cX5_lengthOf 7 = .ok (.aload_n 0, 1) := by decide +kernel
theorem dX5_lengthOf_8 : decode cX5_lengthOf 8 = .ok (.getfield 18, 3) := by decide +kernel
theorem dX5_lengthOf_11 : decode cX5_lengthOf 11 = .ok (.iload_n 1, 1) := by decide +kernel
theorem dX5_lengthOf_12 : decode cX5_lengthOf 12 = .ok (.iaload, 1) := by decide +kernel
theorem dX5_lengthOf_13 : decode cX5_lengthOf 13 = .ok (.goto 4, 3) := by decide +kernel
theorem dX5_lengthOf_16 : decode cX5_lengthOf 16 = .ok (.iconst 0, 1) := by decide +kernel
theorem dX5_lengthOf_17 : decode cX5_lengthOf 17 = .ok (.ireturn, 1) := by decide +kernel
theorem dX5_bodyOn_0 : decode cX5_bodyOn 0 = .ok (.aload_n 0, 1) := by decide +kernel
theorem dX5_bodyOn_1 : decode cX5_bodyOn 1 = .ok (.iload_n 1, 1) := by decide +kernel
theorem dX5_bodyOn_2 : decode cX5_bodyOn 2 = .ok (.invokevirtual 30, 3) := by decide +kernel
theorem dX5_bodyOn_5 : decode cX5_bodyOn 5 = .ok (.bipush (-2), 2) := by decide +kernel
theorem dX5_bodyOn_7 : decode cX5_bodyOn 7 = .ok (.if_icmp .ne 12, 3) := by decide +kernel
theorem dX5_bodyOn_10 : decode cX5_bodyOn 10 = .ok (.aload_n 0, 1) := by decide +kernel
theorem dX5_bodyOn_11 : decode cX5_bodyOn 11 = .ok (.getfield 15, 3) := by decide +kernel
theorem dX5_bodyOn_14 : decode cX5_bodyOn 14 = .ok (.iload_n 1, 1) := by decide +kernel
theorem dX5_bodyOn_15 : decode cX5_bodyOn 15 = .ok (.iaload, 1) := by decide +kernel
theorem dX5_bodyOn_16 : decode cX5_bodyOn 16 = .ok (.goto 4, 3) := by decide +kernel
theorem dX5_bodyOn_19 : decode cX5_bodyOn 19 = .ok (.iconst (-1), 1) := by decide +kernel
theorem dX5_bodyOn_20 : decode cX5_bodyOn 20 = .ok (.ireturn, 1) := by decide +kernel
theorem dX5_hasRange_0 : decode cX5_hasRange 0 = .ok (.iload_n 2, 1) := by decide +kernel
theorem dX5_hasRange_1 : decode cX5_hasRange 1 = .ok (.ifCond .lt 31, 3) := by decide +kernel
theorem dX5_hasRange_4 : decode cX5_hasRange 4 = .ok (.iload_n 3, 1) := by decide +kernel
theorem dX5_hasRange_5 : decode cX5_hasRange 5 = .ok (.ifCond .lt 27, 3) := by decide +kernel
theorem dX5_hasRange_8 : decode cX5_hasRange 8 = .ok (.iload_n 3, 1) := by decide +kernel
theorem dX5_hasRange_9 : decode cX5_hasRange 9 = .ok (.aload_n 0, 1) := by decide +kernel
theorem dX5_hasRange_10 : decode cX5_hasRange 10 = .ok (.iload_n 1, 1) := by decide +kernel
theorem dX5_hasRange_11 : decode cX5_hasRange 11 = .ok (.invokevirtual 37, 3) := by decide +kernel
theorem dX5_hasRange_14 : decode cX5_hasRange 14 = .ok (.if_icmp .gt 18, 3) := by decide +kernel
theorem dX5_hasRange_17 : decode cX5_hasRange 17 = .ok (.iload_n 2, 1) := by decide +kernel
theorem dX5_hasRange_18 : decode cX5_hasRange 18 = .ok (.aload_n 0, 1) := by decide +kernel
theorem dX5_hasRange_19 : decode cX5_hasRange 19 = .ok (.iload_n 1, 1) := by decide +kernel
theorem dX5_hasRange_20 : decode cX5_hasRange 20 = .ok (.invokevirtual 37, 3) := by decide +kernel
theorem dX5_hasRange_23 : decode cX5_hasRange 23 = .ok (.iload_n 3, 1) := by decide +kernel
theorem dX5_hasRange_24 : decode cX5_hasRange 24 = .ok (.isub, 1) := by decide +kernel
theorem dX5_hasRange_25 : decode cX5_hasRange 25 = .ok (.if_icmp .gt 7, 3) := by decide +kernel
theorem dX5_hasRange_28 : decode cX5_hasRange 28 = .ok (.iconst 1, 1) := by decide +kernel
theorem dX5_hasRange_29 : decode cX5_hasRange 29 = .ok (.goto 4, 3) := by decide +kernel
theorem dX5_hasRange_32 : decode cX5_hasRange 32 = .ok (.iconst 0, 1) := by decide +kernel
theorem dX5_hasRange_33 : decode cX5_hasRange 33 = .ok (.ireturn, 1) := by decide +kernel
theorem dX5_hold_0 : decode cX5_hold 0 = .ok (.iload_n 1, 1) := by decide +kernel
theorem dX5_hold_1 : decode cX5_hold 1 = .ok (.invokestatic 26, 3) := by decide +kernel
theorem dX5_hold_4 : decode cX5_hold 4 = .ok (.ifCond .eq 33, 3) := by decide +kernel
theorem dX5_hold_7 : decode cX5_hold 7 = .ok (.aload_n 0, 1) := by decide +kernel
theorem dX5_hold_8 : decode cX5_hold 8 = .ok (.getfield 9, 3) := by decide +kernel
theorem dX5_hold_11 : decode cX5_hold 11 = .ok (.iload_n 1, 1) := by decide +kernel
theorem dX5_hold_12 : decode cX5_hold 12 = .ok (.iload_n 2, 1) := by decide +kernel
theorem dX5_hold_13 : decode cX5_hold 13 = .ok (.ifCond .ge 7, 3) := by decide +kernel
theorem dX5_hold_16 : decode cX5_hold 16 = .ok (.iconst (-1), 1) := by decide +kernel
theorem dX5_hold_17 : decode cX5_hold 17 = .ok (.goto 5, 3) := by decide +kernel
theorem dX5_hold_20 : decode cX5_hold 20 = .ok (.bipush (-2), 2) := by decide +kernel
theorem dX5_hold_22 : decode cX5_hold 22 = .ok (.iastore, 1) := by decide +kernel
theorem dX5_hold_23 : decode cX5_hold 23 = .ok (.aload_n 0, 1) := by decide +kernel
theorem dX5_hold_24 : decode cX5_hold 24 = .ok (.getfield 15, 3) := by decide +kernel
theorem dX5_hold_27 : decode cX5_hold 27 = .ok (.iload_n 1, 1) := by decide +kernel
theorem dX5_hold_28 : decode cX5_hold 28 = .ok (.iload_n 2, 1) := by decide +kernel
theorem dX5_hold_29 : decode cX5_hold 29 = .ok (.iastore, 1) := by decide +kernel
theorem dX5_hold_30 : decode cX5_hold 30 = .ok (.aload_n 0, 1) := by decide +kernel
theorem dX5_hold_31 : decode cX5_hold 31 = .ok (.getfield 18, 3) := by decide +kernel
theorem dX5_hold_34 : decode cX5_hold 34 = .ok (.iload_n 1, 1) := by decide +kernel
theorem dX5_hold_35 : decode cX5_hold 35 = .ok (.iconst 0, 1) := by decide +kernel
theorem dX5_hold_36 : decode cX5_hold 36 = .ok (.iastore, 1) := by decide +kernel
theorem dX5_hold_37 : decode cX5_hold 37 = .ok (.return_, 1) := by decide +kernel
theorem dX5_newRow_0 : decode cX5_newRow 0 = .ok (.iload_n 1, 1) := by decide +kernel
theorem dX5_newRow_1 : decode cX5_newRow 1 = .ok (.invokestatic 26, 3) := by decide +kernel
theorem dX5_newRow_4 : decode cX5_newRow 4 = .ok (.ifCond .ne 4, 3) := by decide +kernel
theorem dX5_newRow_7 : decode cX5_newRow 7 = .ok (.return_, 1) := by decide +kernel
theorem dX5_newRow_8 : decode cX5_newRow 8 = .ok (.aload_n 0, 1) := by decide +kernel
theorem dX5_newRow_9 : decode cX5_newRow 9 = .ok (.getfield 9, 3) := by decide +kernel
theorem dX5_newRow_12 : decode cX5_newRow 12 = .ok (.iload_n 1, 1) := by decide +kernel
theorem dX5_newRow_13 : decode cX5_newRow 13 = .ok (.iload_n 2, 1) := by decide +kernel
theorem dX5_newRow_14 : decode cX5_newRow 14 = .ok (.iastore, 1) := by decide +kernel
theorem dX5_newRow_15 : decode cX5_newRow 15 = .ok (.aload_n 0, 1) := by decide +kernel
theorem dX5_newRow_16 : decode cX5_newRow 16 = .ok (.getfield 18, 3) := by decide +kernel
theorem dX5_newRow_19 : decode cX5_newRow 19 = .ok (.iload_n 1, 1) := by decide +kernel
theorem dX5_newRow_20 : decode cX5_newRow 20 = .ok (.iload_n 3, 1) := by decide +kernel
theorem dX5_newRow_21 : decode cX5_newRow 21 = .ok (.iastore, 1) := by decide +kernel
theorem dX5_newRow_22 : decode cX5_newRow 22 = .ok (.iconst 0, 1) := by decide +kernel
theorem dX5_newRow_23 : decode cX5_newRow 23 = .ok (.istore 4, 2) := by decide +kernel
theorem dX5_newRow_25 : decode cX5_newRow 25 = .ok (.iload 4, 2) := by decide +kernel
theorem dX5_newRow_27 : decode cX5_newRow 27 = .ok (.bipush 60, 2) := by decide +kernel
theorem dX5_newRow_29 : decode cX5_newRow 29 = .ok (.if_icmp .ge 19, 3) := by decide +kernel
theorem dX5_newRow_32 : decode cX5_newRow 32 = .ok (.aload_n 0, 1) := by decide +kernel
theorem dX5_newRow_33 : decode cX5_newRow 33 = .ok (.getfield 23, 3) := by decide +kernel
theorem dX5_newRow_36 : decode cX5_newRow 36 = .ok (.iload_n 1, 1) := by decide +kernel
theorem dX5_newRow_37 : decode cX5_newRow 37 = .ok (.aaload, 1) := by decide +kernel
theorem dX5_newRow_38 : decode cX5_newRow 38 = .ok (.iload 4, 2) := by decide +kernel
theorem dX5_newRow_40 : decode cX5_newRow 40 = .ok (.lconst 0, 1) := by decide +kernel
theorem dX5_newRow_41 : decode cX5_newRow 41 = .ok (.lastore, 1) := by decide +kernel
theorem dX5_newRow_42 : decode cX5_newRow 42 = .ok (.iinc 4 1, 3) := by decide +kernel
theorem dX5_newRow_45 : decode cX5_newRow 45 = .ok (.goto (-20), 3) := by decide +kernel
theorem dX5_newRow_48 : decode cX5_newRow 48 = .ok (.return_, 1) := by decide +kernel
theorem dX5_valueAt_0 : decode cX5_valueAt 0 = .ok (.aload_n 0, 1) := by decide +kernel
theorem dX5_valueAt_1 : decode cX5_valueAt 1 = .ok (.iload_n 1, 1) := by decide +kernel
theorem dX5_valueAt_2 : decode cX5_valueAt 2 = .ok (.iload_n 2, 1) := by decide +kernel
theorem dX5_valueAt_3 : decode cX5_valueAt 3 = .ok (.iconst 1, 1) := by decide +kernel
theorem dX5_valueAt_4 : decode cX5_valueAt 4 = .ok (.invokevirtual 40, 3) := by decide +kernel
theorem dX5_valueAt_7 : decode cX5_valueAt 7 = .ok (.ifCond .eq 20, 3) := by decide +kernel
theorem dX5_valueAt_10 : decode cX5_valueAt 10 = .ok (.iload_n 2, 1) := by decide +kernel
theorem dX5_valueAt_11 : decode cX5_valueAt 11 = .ok (.bipush 60, 2) := by decide +kernel
theorem dX5_valueAt_13 : decode cX5_valueAt 13 = .ok (.if_icmp .ge 14, 3) := by decide +kernel
theorem dX5_valueAt_16 : decode cX5_valueAt 16 = .ok (.aload_n 0, 1) := by decide +kernel
theorem dX5_valueAt_17 : decode cX5_valueAt 17 = .ok (.getfield 23, 3) := by decide +kernel
theorem dX5_valueAt_20 : decode cX5_valueAt 20 = .ok (.iload_n 1, 1) := by decide +kernel
theorem dX5_valueAt_21 : decode cX5_valueAt 21 = .ok (.aaload, 1) := by decide +kernel
theorem dX5_valueAt_22 : decode cX5_valueAt 22 = .ok (.iload_n 2, 1) := by decide +kernel
theorem dX5_valueAt_23 : decode cX5_valueAt 23 = .ok (.laload, 1) := by decide +kernel
theorem dX5_valueAt_24 : decode cX5_valueAt 24 = .ok (.goto 4, 3) := by decide +kernel
theorem dX5_valueAt_27 : decode cX5_valueAt 27 = .ok (.lconst 0, 1) := by decide +kernel
theorem dX5_valueAt_28 : decode cX5_valueAt 28 = .ok (.lreturn, 1) := by decide +kernel
theorem dX5_setAt_0 : decode cX5_setAt 0 = .ok (.aload_n 0, 1) := by decide +kernel
theorem dX5_setAt_1 : decode cX5_setAt 1 = .ok (.iload_n 1, 1) := by decide +kernel
theorem dX5_setAt_2 : decode cX5_setAt 2 = .ok (.iload_n 2, 1) := by decide +kernel
theorem dX5_setAt_3 : decode cX5_setAt 3 = .ok (.iconst 1, 1) := by decide +kernel
theorem dX5_setAt_4 : decode cX5_setAt 4 = .ok (.invokevirtual 40, 3) := by decide +kernel
theorem dX5_setAt_7 : decode cX5_setAt 7 = .ok (.ifCond .eq 27, 3) := by decide +kernel
theorem dX5_setAt_10 : decode cX5_setAt 10 = .ok (.iload_n 2, 1) := by decide +kernel
theorem dX5_setAt_11 : decode cX5_setAt 11 = .ok (.bipush 60, 2) := by decide +kernel
theorem dX5_setAt_13 : decode cX5_setAt 13 = .ok (.if_icmp .ge 21, 3) := by decide +kernel
theorem dX5_setAt_16 : decode cX5_setAt 16 = .ok (.aload_n 0, 1) := by decide +kernel
theorem dX5_setAt_17 : decode cX5_setAt 17 = .ok (.getfield 23, 3) := by decide +kernel
theorem dX5_setAt_20 : decode cX5_setAt 20 = .ok (.iload_n 1, 1) := by decide +kernel
theorem dX5_setAt_21 : decode cX5_setAt 21 = .ok (.aaload, 1) := by decide +kernel
theorem dX5_setAt_22 : decode cX5_setAt 22 = .ok (.iload_n 2, 1) := by decide +kernel
theorem dX5_setAt_23 : decode cX5_setAt 23 = .ok (.aload_n 0, 1) := by decide +kernel
theorem dX5_setAt_24 : decode cX5_setAt 24 = .ok (.getfield 9, 3) := by decide +kernel
theorem dX5_setAt_27 : decode cX5_setAt 27 = .ok (.iload_n 1, 1) := by decide +kernel
theorem dX5_setAt_28 : decode cX5_setAt 28 = .ok (.iaload, 1) := by decide +kernel
theorem dX5_setAt_29 : decode cX5_setAt 29 = .ok (.lload_n 3, 1) := by decide +kernel
theorem dX5_setAt_30 : decode cX5_setAt 30 = .ok (.invokestatic 44, 3) := by decide +kernel
theorem dX5_setAt_33 : decode cX5_setAt 33 = .ok (.lastore, 1) := by decide +kernel
theorem dX5_setAt_34 : decode cX5_setAt 34 = .ok (.return_, 1) := by decide +kernel
theorem dX5_lowestBits_0 : decode cX5_lowestBits 0 = .ok (.iload_n 0, 1) := by decide +kernel
theorem dX5_lowestBits_1 : decode cX5_lowestBits 1 = .ok (.tableswitch 47 0 3 #[31, 36, 41, 45], 31) := by decide +kernel
theorem dX5_lowestBits_32 : decode cX5_lowestBits 32 = .ok (.lload_n 1, 1) := by decide +kernel
theorem dX5_lowestBits_33 : decode cX5_lowestBits 33 = .ok (.l2i, 1) := by decide +kernel
theorem dX5_lowestBits_34 : decode cX5_lowestBits 34 = .ok (.i2b, 1) := by decide +kernel
theorem dX5_lowestBits_35 : decode cX5_lowestBits 35 = .ok (.i2l, 1) := by decide +kernel
theorem dX5_lowestBits_36 : decode cX5_lowestBits 36 = .ok (.lreturn, 1) := by decide +kernel
theorem dX5_lowestBits_37 : decode cX5_lowestBits 37 = .ok (.lload_n 1, 1) := by decide +kernel
theorem dX5_lowestBits_38 : decode cX5_lowestBits 38 = .ok (.l2i, 1) := by decide +kernel
theorem dX5_lowestBits_39 : decode cX5_lowestBits 39 = .ok (.i2s, 1) := by decide +kernel
theorem dX5_lowestBits_40 : decode cX5_lowestBits 40 = .ok (.i2l, 1) := by decide +kernel
theorem dX5_lowestBits_41 : decode cX5_lowestBits 41 = .ok (.lreturn, 1) := by decide +kernel
theorem dX5_lowestBits_42 : decode cX5_lowestBits 42 = .ok (.lload_n 1, 1) := by decide +kernel
theorem dX5_lowestBits_43 : decode cX5_lowestBits 43 = .ok (.l2i, 1) := by decide +kernel
theorem dX5_lowestBits_44 : decode cX5_lowestBits 44 = .ok (.i2l, 1) := by decide +kernel
theorem dX5_lowestBits_45 : decode cX5_lowestBits 45 = .ok (.lreturn, 1) := by decide +kernel
theorem dX5_lowestBits_46 : decode cX5_lowestBits 46 = .ok (.lload_n 1, 1) := by decide +kernel
theorem dX5_lowestBits_47 : decode cX5_lowestBits 47 = .ok (.lreturn, 1) := by decide +kernel
theorem dX5_lowestBits_48 : decode cX5_lowestBits 48 = .ok (.lload_n 1, 1) := by decide +kernel
theorem dX5_lowestBits_49 : decode cX5_lowestBits 49 = .ok (.lconst 0, 1) := by decide +kernel
theorem dX5_lowestBits_50 : decode cX5_lowestBits 50 = .ok (.lcmp, 1) := by decide +kernel
theorem dX5_lowestBits_51 : decode cX5_lowestBits 51 = .ok (.ifCond .eq 7, 3) := by decide +kernel
theorem dX5_lowestBits_54 : decode cX5_lowestBits 54 = .ok (.lconst 1, 1) := by decide +kernel
theorem dX5_lowestBits_55 : decode cX5_lowestBits 55 = .ok (.goto 4, 3) := by decide +kernel
theorem dX5_lowestBits_58 : decode cX5_lowestBits 58 = .ok (.lconst 0, 1) := by decide +kernel
theorem dX5_lowestBits_59 : decode cX5_lowestBits 59 = .ok (.lreturn, 1) := by decide +kernel
theorem dX5_copyRange_0 : decode cX5_copyRange 0 = .ok (.aload_n 0, 1) := by decide +kernel
theorem dX5_copyRange_1 : decode cX5_copyRange 1 = .ok (.iload_n 1, 1) := by decide +kernel
theorem dX5_copyRange_2 : decode cX5_copyRange 2 = .ok (.invokevirtual 48, 3) := by decide +kernel
theorem dX5_copyRange_5 : decode cX5_copyRange 5 = .ok (.ifCond .eq 54, 3) := by decide +kernel
theorem dX5_copyRange_8 : decode cX5_copyRange 8 = .ok (.aload_n 0, 1) := by decide +kernel
theorem dX5_copyRange_9 : decode cX5_copyRange 9 = .ok (.iload_n 3, 1) := by decide +kernel
theorem dX5_copyRange_10 : decode cX5_copyRange 10 = .ok (.invokevirtual 48, 3) := by decide +kernel
theorem dX5_copyRange_13 : decode cX5_copyRange 13 = .ok (.ifCond .eq 46, 3) := by decide +kernel
theorem dX5_copyRange_16 : decode cX5_copyRange 16 = .ok (.aload_n 0, 1) := by decide +kernel
theorem dX5_copyRange_17 : decode cX5_copyRange 17 = .ok (.iload_n 1, 1) := by decide +kernel
theorem dX5_copyRange_18 : decode cX5_copyRange 18 = .ok (.iload_n 2, 1) := by decide +kernel
theorem dX5_copyRange_19 : decode cX5_copyRange 19 = .ok (.iload 5, 2) := by decide +kernel
theorem dX5_copyRange_21 : decode cX5_copyRange 21 = .ok (.invokevirtual 40, 3) := by decide +kernel
theorem dX5_copyRange_24 : decode cX5_copyRange 24 = .ok (.ifCond .eq 35, 3) := by decide +kernel
theorem dX5_copyRange_27 : decode cX5_copyRange 27 = .ok (.aload_n 0, 1) := by decide +kernel
theorem dX5_copyRange_28 : decode cX5_copyRange 28 = .ok (.iload_n 3, 1) := by decide +kernel
theorem dX5_copyRange_29 : decode cX5_copyRange 29 = .ok (.iload 4, 2) := by decide +kernel
theorem dX5_copyRange_31 : decode cX5_copyRange 31 = .ok (.iload 5, 2) := by decide +kernel
theorem dX5_copyRange_33 : decode cX5_copyRange 33 = .ok (.invokevirtual 40, 3) := by decide +kernel
theorem dX5_copyRange_36 : decode cX5_copyRange 36 = .ok (.ifCond .eq 23, 3) := by decide +kernel
theorem dX5_copyRange_39 : decode cX5_copyRange 39 = .ok (.aload_n 0, 1) := by decide +kernel
theorem dX5_copyRange_40 : decode cX5_copyRange 40 = .ok (.getfield 23, 3) := by decide +kernel
theorem dX5_copyRange_43 : decode cX5_copyRange 43 = .ok (.iload_n 1, 1) := by decide +kernel
theorem dX5_copyRange_44 : decode cX5_copyRange 44 = .ok (.aaload, 1) := by decide +kernel
theorem dX5_copyRange_45 : decode cX5_copyRange 45 = .ok (.iload_n 2, 1) := by decide +kernel
theorem dX5_copyRange_46 : decode cX5_copyRange 46 = .ok (.aload_n 0, 1) := by decide +kernel
theorem dX5_copyRange_47 : decode cX5_copyRange 47 = .ok (.getfield 23, 3) := by decide +kernel
theorem dX5_copyRange_50 : decode cX5_copyRange 50 = .ok (.iload_n 3, 1) := by decide +kernel
theorem dX5_copyRange_51 : decode cX5_copyRange 51 = .ok (.aaload, 1) := by decide +kernel
theorem dX5_copyRange_52 : decode cX5_copyRange 52 = .ok (.iload 4, 2) := by decide +kernel
theorem dX5_copyRange_54 : decode cX5_copyRange 54 = .ok (.iload 5, 2) := by decide +kernel
theorem dX5_copyRange_56 : decode cX5_copyRange 56 = .ok (.invokestatic 51, 3) := by decide +kernel
theorem dX5_copyRange_59 : decode cX5_copyRange 59 = .ok (.return_, 1) := by decide +kernel
theorem dX6_init_0 : decode cX6_init 0 = .ok (.aload_n 0, 1) := by decide +kernel
theorem dX6_init_1 : decode cX6_init 1 = .ok (.invokespecial 3, 3) := by decide +kernel
theorem dX6_init_4 : decode cX6_init 4 = .ok (.aload_n 0, 1) := by decide +kernel
theorem dX6_init_5 : decode cX6_init 5 = .ok (.aload_n 1, 1) := by decide +kernel
theorem dX6_init_6 : decode cX6_init 6 = .ok (.putfield 9, 3) := by decide +kernel
theorem dX6_init_9 : decode cX6_init 9 = .ok (.aload_n 0, 1) := by decide +kernel
theorem dX6_init_10 : decode cX6_init 10 = .ok (.aload_n 2, 1) := by decide +kernel
theorem dX6_init_11 : decode cX6_init 11 = .ok (.putfield 15, 3) := by decide +kernel
theorem dX6_init_14 : decode cX6_init 14 = .ok (.aload_n 0, 1) := by decide +kernel
theorem dX6_init_15 : decode cX6_init 15 = .ok (.bipush 13, 2) := by decide +kernel
theorem dX6_init_17 : decode cX6_init 17 = .ok (.newarray .int, 2) := by decide +kernel
theorem dX6_init_19 : decode cX6_init 19 = .ok (.putfield 19, 3) := by decide +kernel
theorem dX6_init_22 : decode cX6_init 22 = .ok (.aload_n 0, 1) := by decide +kernel
theorem dX6_init_23 : decode cX6_init 23 = .ok (.bipush 13, 2) := by decide +kernel
theorem dX6_init_25 : decode cX6_init 25 = .ok (.newarray .int, 2) := by decide +kernel
theorem dX6_init_27 : decode cX6_init 27 = .ok (.putfield 23, 3) := by decide +kernel
theorem dX6_init_30 : decode cX6_init 30 = .ok (.aload_n 0, 1) := by decide +kernel
theorem dX6_init_31 : decode cX6_init 31 = .ok (.bipush 6, 2) := by decide +kernel
theorem dX6_init_33 : decode cX6_init 33 = .ok (.newarray .int, 2) := by decide +kernel
theorem dX6_init_35 : decode cX6_init 35 = .ok (.putfield 26, 3) := by decide +kernel
theorem dX6_init_38 : decode cX6_init 38 = .ok (.return_, 1) := by decide +kernel
theorem dX6_passes_0 : decode cX6_passes 0 = .ok (.iload_n 2, 1) := by decide +kernel
theorem dX6_passes_1 : decode cX6_passes 1 = .ok (.iconst (-1), 1) := by decide +kernel
theorem dX6_passes_2 : decode cX6_passes 2 = .ok (.if_icmp .ne 5, 3) := by decide +kernel
theorem dX6_passes_5 : decode cX6_passes 5 = .ok (.iconst 1, 1) := by decide +kernel
theorem dX6_passes_6 : decode cX6_passes 6 = .ok (.ireturn, 1) := by decide +kernel
theorem dX6_passes_7 : decode cX6_passes 7 = .ok (.aload_n 0, 1) := by decide +kernel
theorem dX6_passes_8 : decode cX6_passes 8 = .ok (.getfield 9, 3) := by decide +kernel
theorem dX6_passes_11 : decode cX6_passes 11 = .ok (.iload_n 1, 1) := by decide +kernel
theorem dX6_passes_12 : decode cX6_passes 12 = .ok (.iconst 0, 1) := by decide +kernel
theorem dX6_passes_13 : decode cX6_passes 13 = .ok (.invokevirtual 31, 3) := by decide +kernel
theorem dX6_passes_16 : decode cX6_passes 16 = .ok (.istore 5, 2) := by decide +kernel
theorem dX6_passes_18 : decode cX6_passes 18 = .ok (.aload_n 0, 1) := by decide +kernel
theorem dX6_passes_19 : decode cX6_passes 19 = .ok (.getfield 9, 3) := by decide +kernel
theorem dX6_passes_22 : decode cX6_passes 22 = .ok (.iload_n 1, 1) := by decide +kernel
theorem dX6_passes_23 : decode cX6_passes 23 = .ok (.iconst 1, 1) := by decide +kernel
theorem dX6_passes_24 : decode cX6_passes 24 = .ok (.invokevirtual 31, 3) := by decide +kernel
theorem dX6_passes_27 : decode cX6_passes 27 = .ok (.istore 6, 2) := by decide +kernel
theorem dX6_passes_29 : decode cX6_passes 29 = .ok (.aload_n 0, 1) := by decide +kernel
theorem dX6_passes_30 : decode cX6_passes 30 = .ok (.getfield 15, 3) := by decide +kernel
theorem dX6_passes_33 : decode cX6_passes 33 = .ok (.invokevirtual 35, 3) := by decide +kernel
theorem dX6_passes_36 : decode cX6_passes 36 = .ok (.ifCond .ne 29, 3) := by decide +kernel
theorem dX6_passes_39 : decode cX6_passes 39 = .ok (.iload 5, 2) := by decide +kernel
theorem dX6_passes_41 : decode cX6_passes 41 = .ok (.iload 6, 2) := by decide +kernel
theorem dX6_passes_43 : decode cX6_passes 43 = .ok (.iadd, 1) := by decide +kernel
theorem dX6_passes_44 : decode cX6_passes 44 = .ok (.aload_n 0, 1) := by decide +kernel
theorem dX6_passes_45 : decode cX6_passes 45 = .ok (.getfield 9, 3) := by decide +kernel
theorem dX6_passes_48 : decode cX6_passes 48 = .ok (.iconst 0, 1) := by decide +kernel
theorem dX6_passes_49 : decode cX6_passes 49 = .ok (.bipush 7, 2) := by decide +kernel
theorem dX6_passes_51 : decode cX6_passes 51 = .ok (.invokevirtual 31, 3) := by decide +kernel
theorem dX6_passes_54 : decode cX6_passes 54 = .ok (.iload_n 2, 1) := by decide +kernel
theorem dX6_passes_55 : decode cX6_passes 55 = .ok (.isub, 1) := by decide +kernel
theorem dX6_passes_56 : decode cX6_passes 56 = .ok (.if_icmp .gt 7, 3) := by decide +kernel
theorem dX6_passes_59 : decode cX6_passes 59 = .ok (.iconst 1, 1) := by decide +kernel
theorem dX6_passes_60 : decode cX6_passes 60 = .ok (.goto 4, 3) := by decide +kernel
theorem dX6_passes_63 : decode cX6_passes 63 = .ok (.iconst 0, 1) := by decide +kernel
theorem dX6_passes_64 : decode cX6_passes 64 = .ok (.ireturn, 1) := by decide +kernel
theorem dX6_passes_65 : decode cX6_passes 65 = .ok (.aload_n 0, 1) := by decide +kernel
theorem dX6_passes_66 : decode cX6_passes 66 = .ok (.getfield 15, 3) := by decide +kernel
theorem dX6_passes_69 : decode cX6_passes 69 = .ok (.iload 5, 2) := by decide +kernel
theorem dX6_passes_71 : decode cX6_passes 71 = .ok (.iload 6, 2) := by decide +kernel
theorem dX6_passes_73 : decode cX6_passes 73 = .ok (.aload_n 0, 1) := by decide +kernel
theorem dX6_passes_74 : decode cX6_passes 74 = .ok (.getfield 9, 3) := by decide +kernel
theorem dX6_passes_77 : decode cX6_passes 77 = .ok (.iload_n 1, 1) := by decide +kernel
theorem dX6_passes_78 : decode cX6_passes 78 = .ok (.iconst 2, 1) := by decide +kernel
theorem dX6_passes_79 : decode cX6_passes 79 = .ok (.invokevirtual 31, 3) := by decide +kernel
theorem dX6_passes_82 : decode cX6_passes 82 = .ok (.iload_n 2, 1) := by decide +kernel
theorem dX6_passes_83 : decode cX6_passes 83 = .ok (.iload_n 3, 1) := by decide +kernel
theorem dX6_passes_84 : decode cX6_passes 84 = .ok (.iload 4, 2) := by decide +kernel
theorem dX6_passes_86 : decode cX6_passes 86 = .ok (.invokevirtual 41, 3) := by decide +kernel
theorem dX6_passes_89 : decode cX6_passes 89 = .ok (.ifCond .le 7, 3) := by decide +kernel
theorem dX6_passes_92 : decode cX6_passes 92 = .ok (.iconst 1, 1) := by decide +kernel
theorem dX6_passes_93 : decode cX6_passes 93 = .ok (.goto 4, 3) := by decide +kernel
theorem dX6_passes_96 : decode cX6_passes 96 = .ok (.iconst 0, 1) := by decide +kernel
theorem dX6_passes_97 : decode cX6_passes 97 = .ok (.ireturn, 1) := by decide +kernel
theorem dX6_strain_0 : decode cX6_strain 0 = .ok (.aload_n 0, 1) := by decide +kernel
theorem dX6_strain_1 : decode cX6_strain 1 = .ok (.iconst 0, 1) := by decide +kernel
theorem dX6_strain_2 : decode cX6_strain 2 = .ok (.putfield 45, 3) := by decide +kernel
theorem dX6_strain_5 : decode cX6_strain 5 = .ok (.aload_n 0, 1) := by decide +kernel
theorem dX6_strain_6 : decode cX6_strain 6 = .ok (.iconst 0, 1) := by decide +kernel
theorem dX6_strain_7 : decode cX6_strain 7 = .ok (.putfield 49, 3) := by decide +kernel
theorem dX6_strain_10 : decode cX6_strain 10 = .ok (.iconst 0, 1) := by decide +kernel
theorem dX6_strain_11 : decode cX6_strain 11 = .ok (.istore 5, 2) := by decide +kernel
theorem dX6_strain_13 : decode cX6_strain 13 = .ok (.iload 5, 2) := by decide +kernel
theorem dX6_strain_15 : decode cX6_strain 15 = .ok (.iload_n 2, 1) := by decide +kernel
theorem dX6_strain_16 : decode cX6_strain 16 = .ok (.if_icmp .ge 93, 3) := by decide +kernel
theorem dX6_strain_19 : decode cX6_strain 19 = .ok (.iload 5, 2) := by decide +kernel
theorem dX6_strain_21 : decode cX6_strain 21 = .ok (.aload_n 1, 1) := by decide +kernel
theorem dX6_strain_22 : decode cX6_strain 22 = .ok (.arraylength, 1) := by decide +kernel
theorem dX6_strain_23 : decode cX6_strain 23 = .ok (.if_icmp .ge 86, 3) := by decide +kernel
theorem dX6_strain_26 : decode cX6_strain 26 = .ok (.iload 5, 2) := by decide +kernel
theorem dX6_strain_28 : decode cX6_strain 28 = .ok (.bipush 13, 2) := by decide +kernel
theorem dX6_strain_30 : decode cX6_strain 30 = .ok (.if_icmp .ge 79, 3) := by decide +kernel
theorem dX6_strain_33 : decode cX6_strain 33 = .ok (.aload_n 1, 1) := by decide +kernel
theorem dX6_strain_34 : decode cX6_strain 34 = .ok (.iload 5, 2) := by decide +kernel
theorem dX6_strain_36 : decode cX6_strain 36 = .ok (.iaload, 1) := by decide +kernel
theorem dX6_strain_37 : decode cX6_strain 37 = .ok (.istore 6, 2) := by decide +kernel
theorem dX6_strain_39 : decode cX6_strain 39 = .ok (.aload_n 0, 1) := by decide +kernel
theorem dX6_strain_40 : decode cX6_strain 40 = .ok (.iload 6, 2) := by decide +kernel
theorem dX6_strain_42 : decode cX6_strain 42 = .ok (.iload_n 3, 1) := by decide +kernel
theorem dX6_strain_43 : decode cX6_strain 43 = .ok (.iload 5, 2) := by decide +kernel
theorem dX6_strain_45 : decode cX6_strain 45 = .ok (.iload 4, 2) := by decide +kernel
theorem dX6_strain_47 : decode cX6_strain 47 = .ok (.aload_n 0, 1) := by decide +kernel
theorem dX6_strain_48 : decode cX6_strain 48 = .ok (.getfield 49, 3) := by decide +kernel
theorem dX6_strain_51 : decode cX6_strain 51 = .ok (.iadd, 1) := by decide +kernel
theorem dX6_strain_52 : decode cX6_strain 52 = .ok (.invokevirtual 52, 3) := by decide +kernel
theorem dX6_strain_55 : decode cX6_strain 55 = .ok (.ifCond .eq 27, 3) := by decide +kernel
theorem dX6_strain_58 : decode cX6_strain 58 = .ok (.aload_n 0, 1) := by decide +kernel
theorem dX6_strain_59 : decode cX6_strain 59 = .ok (.getfield 19, 3) := by decide +kernel
theorem dX6_strain_62 : decode cX6_strain 62 = .ok (.aload_n 0, 1) := by decide +kernel
theorem dX6_strain_63 : decode cX6_strain 63 = .ok (.getfield 45, 3) := by decide +kernel
theorem dX6_strain_66 : decode cX6_strain 66 = .ok (.iload 6, 2) := by decide +kernel
theorem dX6_strain_68 : decode cX6_strain 68 = .ok (.iastore, 1) := by decide +kernel
theorem dX6_strain_69 : decode cX6_strain 69 = .ok (.aload_n 0, 1) := by decide +kernel
theorem dX6_strain_70 : decode cX6_strain 70 = .ok (.dup, 1) := by decide +kernel
theorem dX6_strain_71 : decode cX6_strain 71 = .ok (.getfield 45, 3) := by decide +kernel
theorem dX6_strain_74 : decode cX6_strain 74 = .ok (.iconst 1, 1) := by decide +kernel
theorem dX6_strain_75 : decode cX6_strain 75 = .ok (.iadd, 1) := by decide +kernel
theorem dX6_strain_76 : decode cX6_strain 76 = .ok (.putfield 45, 3) := by decide +kernel
theorem dX6_strain_79 : decode cX6_strain 79 = .ok (.goto 24, 3) := by decide +kernel
theorem dX6_strain_82 : decode cX6_strain 82 = .ok (.aload_n 0, 1) := by decide +kernel
theorem dX6_strain_83 : decode cX6_strain 83 = .ok (.getfield 23, 3) := by decide +kernel
theorem dX6_strain_86 : decode cX6_strain 86 = .ok (.aload_n 0, 1) := by decide +kernel
theorem dX6_strain_87 : decode cX6_strain 87 = .ok (.getfield 49, 3) := by decide +kernel
theorem dX6_strain_90 : decode cX6_strain 90 = .ok (.iload 6, 2) := by decide +kernel
theorem dX6_strain_92 : decode cX6_strain 92 = .ok (.iastore, 1) := by decide +kernel
theorem dX6_strain_93 : decode cX6_strain 93 = .ok (.aload_n 0, 1) := by decide +kernel
theorem dX6_strain_94 : decode cX6_strain 94 = .ok (.dup, 1) := by decide +kernel
theorem dX6_strain_95 : decode cX6_strain 95 = .ok (.getfield 49, 3) := by decide +kernel
theorem dX6_strain_98 : decode cX6_strain 98 = .ok (.iconst 1, 1) := by decide +kernel
theorem dX6_strain_99 : decode cX6_strain 99 = .ok (.iadd, 1) := by decide +kernel
theorem dX6_strain_100 : decode cX6_strain 100 = .ok (.putfield 49, 3) := by decide +kernel
theorem dX6_strain_103 : decode cX6_strain 103 = .ok (.iinc 5 1, 3) := by decide +kernel
theorem dX6_strain_106 : decode cX6_strain 106 = .ok (.goto (-93), 3) := by decide +kernel
theorem dX6_strain_109 : decode cX6_strain 109 = .ok (.return_, 1) := by decide +kernel
theorem dX6_copyCame_0 : decode cX6_copyCame 0 = .ok (.aload_n 0, 1) := by decide +kernel
theorem dX6_copyCame_1 : decode cX6_copyCame 1 = .ok (.getfield 45, 3) := by decide +kernel
theorem dX6_copyCame_4 : decode cX6_copyCame 4 = .ok (.aload_n 1, 1) := by decide +kernel
theorem dX6_copyCame_5 : decode cX6_copyCame 5 = .ok (.arraylength, 1) := by decide +kernel
theorem dX6_copyCame_6 : decode cX6_copyCame 6 = .ok (.invokestatic 56, 3) := by decide +kernel
theorem dX6_copyCame_9 : decode cX6_copyCame 9 = .ok (.istore_n 2, 1) := by decide +kernel
theorem dX6_copyCame_10 : decode cX6_copyCame 10 = .ok (.iconst 0, 1) := by decide +kernel
theorem dX6_copyCame_11 : decode cX6_copyCame 11 = .ok (.istore_n 3, 1) := by decide +kernel
theorem dX6_copyCame_12 : decode cX6_copyCame 12 = .ok (.iload_n 3, 1) := by decide +kernel
theorem dX6_copyCame_13 : decode cX6_copyCame 13 = .ok (.iload_n 2, 1) := by decide +kernel
theorem dX6_copyCame_14 : decode cX6_copyCame 14 = .ok (.if_icmp .ge 18, 3) := by decide +kernel
theorem dX6_copyCame_17 : decode cX6_copyCame 17 = .ok (.aload_n 1, 1) := by decide +kernel
theorem dX6_copyCame_18 : decode cX6_copyCame 18 = .ok (.iload_n 3, 1) := by decide +kernel
theorem dX6_copyCame_19 : decode cX6_copyCame 19 = .ok (.aload_n 0, 1) := by decide +kernel
theorem dX6_copyCame_20 : decode cX6_copyCame 20 = .ok (.getfield 19, 3) := by decide +kernel
theorem dX6_copyCame_23 : decode cX6_copyCame 23 = .ok (.iload_n 3, 1) := by decide +kernel
theorem dX6_copyCame_24 : decode cX6_copyCame 24 = .ok (.iaload, 1) := by decide +kernel
theorem dX6_copyCame_25 : decode cX6_copyCame 25 = .ok (.iastore, 1) := by decide +kernel
theorem dX6_copyCame_26 : decode cX6_copyCame 26 = .ok (.iinc 3 1, 3) := by decide +kernel
theorem dX6_copyCame_29 : decode cX6_copyCame 29 = .ok (.goto (-17), 3) := by decide +kernel
theorem dX6_copyCame_32 : decode cX6_copyCame 32 = .ok (.iload_n 2, 1) := by decide +kernel
theorem dX6_copyCame_33 : decode cX6_copyCame 33 = .ok (.ireturn, 1) := by decide +kernel
theorem dX6_cameJust_0 : decode cX6_cameJust 0 = .ok (.iload_n 2, 1) := by decide +kernel
theorem dX6_cameJust_1 : decode cX6_cameJust 1 = .ok (.aload_n 0, 1) := by decide +kernel
theorem dX6_cameJust_2 : decode cX6_cameJust 2 = .ok (.getfield 45, 3) := by decide +kernel
theorem dX6_cameJust_5 : decode cX6_cameJust 5 = .ok (.if_icmp .ne 9, 3) := by decide +kernel
theorem dX6_cameJust_8 : decode cX6_cameJust 8 = .ok (.iload_n 2, 1) := by decide +kernel
theorem dX6_cameJust_9 : decode cX6_cameJust 9 = .ok (.aload_n 1, 1) := by decide +kernel
theorem dX6_cameJust_10 : decode cX6_cameJust 10 = .ok (.arraylength, 1) := by decide +kernel
theorem dX6_cameJust_11 : decode cX6_cameJust 11 = .ok (.if_icmp .le 5, 3) := by decide +kernel
theorem dX6_cameJust_14 : decode cX6_cameJust 14 = .ok (.iconst 0, 1) := by decide +kernel
theorem dX6_cameJust_15 : decode cX6_cameJust 15 = .ok (.ireturn, 1) := by decide +kernel
theorem dX6_cameJust_16 : decode cX6_cameJust 16 = .ok (.iconst 0, 1) := by decide +kernel
theorem dX6_cameJust_17 : decode cX6_cameJust 17 = .ok (.istore_n 3, 1) := by decide +kernel
theorem dX6_cameJust_18 : decode cX6_cameJust 18 = .ok (.iload_n 3, 1) := by decide +kernel
theorem dX6_cameJust_19 : decode cX6_cameJust 19 = .ok (.iload_n 2, 1) := by decide +kernel
theorem dX6_cameJust_20 : decode cX6_cameJust 20 = .ok (.if_icmp .ge 23, 3) := by decide +kernel
theorem dX6_cameJust_23 : decode cX6_cameJust 23 = .ok (.aload_n 1, 1) := by decide +kernel
theorem dX6_cameJust_24 : decode cX6_cameJust 24 = .ok (.iload_n 3, 1) := by decide +kernel
theorem dX6_cameJust_25 : decode cX6_cameJust 25 = .ok (.iaload, 1) := by decide +kernel
theorem dX6_cameJust_26 : decode cX6_cameJust 26 = .ok (.aload_n 0, 1) := by decide +kernel
theorem dX6_cameJust_27 : decode cX6_cameJust 27 = .ok (.getfield 19, 3) := by decide +kernel
theorem dX6_cameJust_30 : decode cX6_cameJust 30 = .ok (.iload_n 3, 1) := by decide +kernel
theorem dX6_cameJust_31 : decode cX6_cameJust 31 = .ok (.iaload, 1) := by decide +kernel
theorem dX6_cameJust_32 : decode cX6_cameJust 32 = .ok (.if_icmp .eq 5, 3) := by decide +kernel
theorem dX6_cameJust_35 : decode cX6_cameJust 35 = .ok (.iconst 0, 1) := by decide +kernel
theorem dX6_cameJust_36 : decode cX6_cameJust 36 = .ok (.ireturn, 1) := by decide +kernel
theorem dX6_cameJust_37 : decode cX6_cameJust 37 = .ok (.iinc 3 1, 3) := by decide +kernel
theorem dX6_cameJust_40 : decode cX6_cameJust 40 = .ok (.goto (-22), 3) := by decide +kernel
theorem dX6_cameJust_43 : decode cX6_cameJust 43 = .ok (.iconst 1, 1) := by decide +kernel
theorem dX6_cameJust_44 : decode cX6_cameJust 44 = .ok (.ireturn, 1) := by decide +kernel
theorem dX6_makesSense_0 : decode cX6_makesSense 0 = .ok (.iload_n 2, 1) := by decide +kernel
theorem dX6_makesSense_1 : decode cX6_makesSense 1 = .ok (.iconst 2, 1) := by decide +kernel
theorem dX6_makesSense_2 : decode cX6_makesSense 2 = .ok (.if_icmp .lt 9, 3) := by decide +kernel
theorem dX6_makesSense_5 : decode cX6_makesSense 5 = .ok (.iload_n 2, 1) := by decide +kernel
theorem dX6_makesSense_6 : decode cX6_makesSense 6 = .ok (.aload_n 1, 1) := by decide +kernel
theorem dX6_makesSense_7 : decode cX6_makesSense 7 = .ok (.arraylength, 1) := by decide +kernel
theorem dX6_makesSense_8 : decode cX6_makesSense 8 = .ok (.if_icmp .le 5, 3) := by decide +kernel
theorem dX6_makesSense_11 : decode cX6_makesSense 11 = .ok (.iconst 0, 1) := by decide +kernel
theorem dX6_makesSense_12 : decode cX6_makesSense 12 = .ok (.ireturn, 1) := by decide +kernel
theorem dX6_makesSense_13 : decode cX6_makesSense 13 = .ok (.iconst 0, 1) := by decide +kernel
theorem dX6_makesSense_14 : decode cX6_makesSense 14 = .ok (.istore_n 3, 1) := by decide +kernel
theorem dX6_makesSense_15 : decode cX6_makesSense 15 = .ok (.iload_n 3, 1) := by decide +kernel
theorem dX6_makesSense_16 : decode cX6_makesSense 16 = .ok (.iload_n 2, 1) := by decide +kernel
theorem dX6_makesSense_17 : decode cX6_makesSense 17 = .ok (.if_icmp .ge 22, 3) := by decide +kernel
theorem dX6_makesSense_20 : decode cX6_makesSense 20 = .ok (.aload_n 0, 1) := by decide +kernel
theorem dX6_makesSense_21 : decode cX6_makesSense 21 = .ok (.aload_n 1, 1) := by decide +kernel
theorem dX6_makesSense_22 : decode cX6_makesSense 22 = .ok (.iload_n 3, 1) := by decide +kernel
theorem dX6_makesSense_23 : decode cX6_makesSense 23 = .ok (.iaload, 1) := by decide +kernel
theorem dX6_makesSense_24 : decode cX6_makesSense 24 = .ok (.iload_n 3, 1) := by decide +kernel
theorem dX6_makesSense_25 : decode cX6_makesSense 25 = .ok (.invokevirtual 61, 3) := by decide +kernel
theorem dX6_makesSense_28 : decode cX6_makesSense 28 = .ok (.ifCond .ne 5, 3) := by decide +kernel
theorem dX6_makesSense_31 : decode cX6_makesSense 31 = .ok (.iconst 0, 1) := by decide +kernel
theorem dX6_makesSense_32 : decode cX6_makesSense 32 = .ok (.ireturn, 1) := by decide +kernel
theorem dX6_makesSense_33 : decode cX6_makesSense 33 = .ok (.iinc 3 1, 3) := by decide +kernel
theorem dX6_makesSense_36 : decode cX6_makesSense 36 = .ok (.goto (-21), 3) := by decide +kernel
theorem dX6_makesSense_39 : decode cX6_makesSense 39 = .ok (.iconst 1, 1) := by decide +kernel
theorem dX6_makesSense_40 : decode cX6_makesSense 40 = .ok (.ireturn, 1) := by decide +kernel
theorem dX6_fitsAt_0 : decode cX6_fitsAt 0 = .ok (.aload_n 0, 1) := by decide +kernel
theorem dX6_fitsAt_1 : decode cX6_fitsAt 1 = .ok (.getfield 9, 3) := by decide +kernel
theorem dX6_fitsAt_4 : decode cX6_fitsAt 4 = .ok (.iload_n 1, 1) := by decide +kernel
theorem dX6_fitsAt_5 : decode cX6_fitsAt 5 = .ok (.iconst 3, 1) := by decide +kernel
theorem dX6_fitsAt_6 : decode cX6_fitsAt 6 = .ok (.invokevirtual 31, 3) := by decide +kernel
theorem dX6_fitsAt_9 : decode cX6_fitsAt 9 = .ok (.iload_n 2, 1) := by decide +kernel
theorem dX6_fitsAt_10 : decode cX6_fitsAt 10 = .ok (.iconst 2, 1) := by decide +kernel
theorem dX6_fitsAt_11 : decode cX6_fitsAt 11 = .ok (.invokestatic 56, 3) := by decide +kernel
theorem dX6_fitsAt_14 : decode cX6_fitsAt 14 = .ok (.if_icmp .ne 7, 3) := by decide +kernel
theorem dX6_fitsAt_17 : decode cX6_fitsAt 17 = .ok (.iconst 1, 1) := by decide +kernel
theorem dX6_fitsAt_18 : decode cX6_fitsAt 18 = .ok (.goto 4, 3) := by decide +kernel
theorem dX6_fitsAt_21 : decode cX6_fitsAt 21 = .ok (.iconst 0, 1) := by decide +kernel
theorem dX6_fitsAt_22 : decode cX6_fitsAt 22 = .ok (.ireturn, 1) := by decide +kernel
theorem dX6_sumOf_0 : decode cX6_sumOf 0 = .ok (.iconst 0, 1) := by decide +kernel
theorem dX6_sumOf_1 : decode cX6_sumOf 1 = .ok (.istore 4, 2) := by decide +kernel
theorem dX6_sumOf_3 : decode cX6_sumOf 3 = .ok (.iconst 0, 1) := by decide +kernel
theorem dX6_sumOf_4 : decode cX6_sumOf 4 = .ok (.istore 5, 2) := by decide +kernel
theorem dX6_sumOf_6 : decode cX6_sumOf 6 = .ok (.iload 5, 2) := by decide +kernel
theorem dX6_sumOf_8 : decode cX6_sumOf 8 = .ok (.iload_n 2, 1) := by decide +kernel
theorem dX6_sumOf_9 : decode cX6_sumOf 9 = .ok (.if_icmp .ge 33, 3) := by decide +kernel
theorem dX6_sumOf_12 : decode cX6_sumOf 12 = .ok (.iload 5, 2) := by decide +kernel
theorem dX6_sumOf_14 : decode cX6_sumOf 14 = .ok (.aload_n 1, 1) := by decide +kernel
theorem dX6_sumOf_15 : decode cX6_sumOf 15 = .ok (.arraylength, 1) := by decide +kernel
theorem dX6_sumOf_16 : decode cX6_sumOf 16 = .ok (.if_icmp .ge 26, 3) := by decide +kernel
theorem dX6_sumOf_19 : decode cX6_sumOf 19 = .ok (.iload 4, 2) := by decide +kernel
theorem dX6_sumOf_21 : decode cX6_sumOf 21 = .ok (.aload_n 0, 1) := by decide +kernel
theorem dX6_sumOf_22 : decode cX6_sumOf 22 = .ok (.getfield 9, 3) := by decide +kernel
theorem dX6_sumOf_25 : decode cX6_sumOf 25 = .ok (.aload_n 1, 1) := by decide +kernel
theorem dX6_sumOf_26 : decode cX6_sumOf 26 = .ok (.iload 5, 2) := by decide +kernel
theorem dX6_sumOf_28 : decode cX6_sumOf 28 = .ok (.iaload, 1) := by decide +kernel
theorem dX6_sumOf_29 : decode cX6_sumOf 29 = .ok (.iload_n 3, 1) := by decide +kernel
theorem dX6_sumOf_30 : decode cX6_sumOf 30 = .ok (.invokevirtual 31, 3) := by decide +kernel
theorem dX6_sumOf_33 : decode cX6_sumOf 33 = .ok (.iadd, 1) := by decide +kernel
theorem dX6_sumOf_34 : decode cX6_sumOf 34 = .ok (.istore 4, 2) := by decide +kernel
theorem dX6_sumOf_36 : decode cX6_sumOf 36 = .ok (.iinc 5 1, 3) := by decide +kernel
theorem dX6_sumOf_39 : decode cX6_sumOf 39 = .ok (.goto (-33), 3) := by decide +kernel
theorem dX6_sumOf_42 : decode cX6_sumOf 42 = .ok (.iload 4, 2) := by decide +kernel
theorem dX6_sumOf_44 : decode cX6_sumOf 44 = .ok (.ireturn, 1) := by decide +kernel
theorem dX6_hurtBy_0 : decode cX6_hurtBy 0 = .ok (.aload_n 0, 1) := by decide +kernel
theorem dX6_hurtBy_1 : decode cX6_hurtBy 1 = .ok (.invokevirtual 65, 3) := by decide +kernel
theorem dX6_hurtBy_4 : decode cX6_hurtBy 4 = .ok (.iconst 0, 1) := by decide +kernel
theorem dX6_hurtBy_5 : decode cX6_hurtBy 5 = .ok (.istore_n 3, 1) := by decide +kernel
theorem dX6_hurtBy_6 : decode cX6_hurtBy 6 = .ok (.iload_n 3, 1) := by decide +kernel
theorem dX6_hurtBy_7 : decode cX6_hurtBy 7 = .ok (.iload_n 2, 1) := by decide +kernel
theorem dX6_hurtBy_8 : decode cX6_hurtBy 8 = .ok (.if_icmp .ge 22, 3) := by decide +kernel
theorem dX6_hurtBy_11 : decode cX6_hurtBy 11 = .ok (.iload_n 3, 1) := by decide +kernel
theorem dX6_hurtBy_12 : decode cX6_hurtBy 12 = .ok (.aload_n 1, 1) := by decide +kernel
theorem dX6_hurtBy_13 : decode cX6_hurtBy 13 = .ok (.arraylength, 1) := by decide +kernel
theorem dX6_hurtBy_14 : decode cX6_hurtBy 14 = .ok (.if_icmp .ge 16, 3) := by decide +kernel
theorem dX6_hurtBy_17 : decode cX6_hurtBy 17 = .ok (.aload_n 0, 1) := by decide +kernel
theorem dX6_hurtBy_18 : decode cX6_hurtBy 18 = .ok (.aload_n 1, 1) := by decide +kernel
theorem dX6_hurtBy_19 : decode cX6_hurtBy 19 = .ok (.iload_n 3, 1) := by decide +kernel
theorem dX6_hurtBy_20 : decode cX6_hurtBy 20 = .ok (.iaload, 1) := by decide +kernel
theorem dX6_hurtBy_21 : decode cX6_hurtBy 21 = .ok (.invokevirtual 68, 3) := by decide +kernel
theorem dX6_hurtBy_24 : decode cX6_hurtBy 24 = .ok (.iinc 3 1, 3) := by decide +kernel
theorem dX6_hurtBy_27 : decode cX6_hurtBy 27 = .ok (.goto (-21), 3) := by decide +kernel
theorem dX6_hurtBy_30 : decode cX6_hurtBy 30 = .ok (.aload_n 0, 1) := by decide +kernel
theorem dX6_hurtBy_31 : decode cX6_hurtBy 31 = .ok (.invokevirtual 72, 3) := by decide +kernel
theorem dX6_hurtBy_34 : decode cX6_hurtBy 34 = .ok (.ireturn, 1) := by decide +kernel
theorem dX6_hurtBySet_0 : decode cX6_hurtBySet 0 = .ok (.aload_n 0, 1) := by decide +kernel
theorem dX6_hurtBySet_1 : decode cX6_hurtBySet 1 = .ok (.invokevirtual 65, 3) := by decide +kernel
theorem dX6_hurtBySet_4 : decode cX6_hurtBySet 4 = .ok (.iconst 0, 1) := by decide +kernel
theorem dX6_hurtBySet_5 : decode cX6_hurtBySet 5 = .ok (.istore_n 2, 1) := by decide +kernel
theorem dX6_hurtBySet_6 : decode cX6_hurtBySet 6 = .ok (.iload_n 2, 1) := by decide +kernel
theorem dX6_hurtBySet_7 : decode cX6_hurtBySet 7 = .ok (.aload_n 0, 1) := by decide +kernel
theorem dX6_hurtBySet_8 : decode cX6_hurtBySet 8 = .ok (.getfield 9, 3) := by decide +kernel
theorem dX6_hurtBySet_11 : decode cX6_hurtBySet 11 = .ok (.getfield 76, 3) := by decide +kernel
theorem dX6_hurtBySet_14 : decode cX6_hurtBySet 14 = .ok (.if_icmp .ge 22, 3) := by decide +kernel
theorem dX6_hurtBySet_17 : decode cX6_hurtBySet 17 = .ok (.iload_n 1, 1) := by decide +kernel
theorem dX6_hurtBySet_18 : decode cX6_hurtBySet 18 = .ok (.iload_n 2, 1) := by decide +kernel
theorem dX6_hurtBySet_19 : decode cX6_hurtBySet 19 = .ok (.ishr, 1) := by decide +kernel
theorem dX6_hurtBySet_20 : decode cX6_hurtBySet 20 = .ok (.iconst 1, 1) := by decide +kernel
theorem dX6_hurtBySet_21 : decode cX6_hurtBySet 21 = .ok (.iand, 1) := by decide +kernel
theorem dX6_hurtBySet_22 : decode cX6_hurtBySet 22 = .ok (.ifCond .eq 8, 3) := by decide +kernel
theorem dX6_hurtBySet_25 : decode cX6_hurtBySet 25 = .ok (.aload_n 0, 1) := by decide +kernel
theorem dX6_hurtBySet_26 : decode cX6_hurtBySet 26 = .ok (.iload_n 2, 1) := by decide +kernel
theorem dX6_hurtBySet_27 : decode cX6_hurtBySet 27 = .ok (.invokevirtual 68, 3) := by decide +kernel
theorem dX6_hurtBySet_30 : decode cX6_hurtBySet 30 = .ok (.iinc 2 1, 3) := by decide +kernel
theorem dX6_hurtBySet_33 : decode cX6_hurtBySet 33 = .ok (.goto (-27), 3) := by decide +kernel
theorem dX6_hurtBySet_36 : decode cX6_hurtBySet 36 = .ok (.aload_n 0, 1) := by decide +kernel
theorem dX6_hurtBySet_37 : decode cX6_hurtBySet 37 = .ok (.invokevirtual 72, 3) := by decide +kernel
theorem dX6_hurtBySet_40 : decode cX6_hurtBySet 40 = .ok (.ireturn, 1) := by decide +kernel
theorem dX6_clearNet_0 : decode cX6_clearNet 0 = .ok (.iconst 0, 1) := by decide +kernel
theorem dX6_clearNet_1 : decode cX6_clearNet 1 = .ok (.istore_n 1, 1) := by decide +kernel
theorem dX6_clearNet_2 : decode cX6_clearNet 2 = .ok (.iload_n 1, 1) := by decide +kernel
theorem dX6_clearNet_3 : decode cX6_clearNet 3 = .ok (.bipush 6, 2) := by decide +kernel
theorem dX6_clearNet_5 : decode cX6_clearNet 5 = .ok (.if_icmp .ge 16, 3) := by decide +kernel
theorem dX6_clearNet_8 : decode cX6_clearNet 8 = .ok (.aload_n 0, 1) := by decide +kernel
theorem dX6_clearNet_9 : decode cX6_clearNet 9 = .ok (.getfield 26, 3) := by decide +kernel
theorem dX6_clearNet_12 : decode cX6_clearNet 12 = .ok (.iload_n 1, 1) := by decide +kernel
theorem dX6_clearNet_13 : decode cX6_clearNet 13 = .ok (.iconst 0, 1) := by decide +kernel
theorem dX6_clearNet_14 : decode cX6_clearNet 14 = .ok (.iastore, 1) := by decide +kernel
theorem dX6_clearNet_15 : decode cX6_clearNet 15 = .ok (.iinc 1 1, 3) := by decide +kernel
theorem dX6_clearNet_18 : decode cX6_clearNet 18 = .ok (.goto (-16), 3) := by decide +kernel
theorem dX6_clearNet_21 : decode cX6_clearNet 21 = .ok (.return_, 1) := by decide +kernel
theorem dX6_addToNet_0 : decode cX6_addToNet 0 = .ok (.aload_n 0, 1) := by decide +kernel
theorem dX6_addToNet_1 : decode cX6_addToNet 1 = .ok (.getfield 9, 3) := by decide +kernel
theorem dX6_addToNet_4 : decode cX6_addToNet 4 = .ok (.iload_n 1, 1) := by decide +kernel
theorem dX6_addToNet_5 : decode cX6_addToNet 5 = .ok (.iconst 4, 1) := by decide +kernel
theorem dX6_addToNet_6 : decode cX6_addToNet 6 = .ok (.invokevirtual 31, 3) := by decide +kernel
theorem dX6_addToNet_9 : decode cX6_addToNet 9 = .ok (.istore_n 2, 1) := by decide +kernel
theorem dX6_addToNet_10 : decode cX6_addToNet 10 = .ok (.iload_n 2, 1) := by decide +kernel
theorem dX6_addToNet_11 : decode cX6_addToNet 11 = .ok (.ifCond .lt 37, 3) := by decide +kernel
theorem dX6_addToNet_14 : decode cX6_addToNet 14 = .ok (.iload_n 2, 1) := by decide +kernel
theorem dX6_addToNet_15 : decode cX6_addToNet 15 = .ok (.bipush 6, 2) := by decide +kernel
theorem dX6_addToNet_17 : decode cX6_addToNet 17 = .ok (.if_icmp .ge 31, 3) := by decide +kernel
theorem dX6_addToNet_20 : decode cX6_addToNet 20 = .ok (.aload_n 0, 1) := by decide +kernel
theorem dX6_addToNet_21 : decode cX6_addToNet 21 = .ok (.getfield 26, 3) := by decide +kernel
theorem dX6_addToNet_24 : decode cX6_addToNet 24 = .ok (.iload_n 2, 1) := by decide +kernel
theorem dX6_addToNet_25 : decode cX6_addToNet 25 = .ok (.dup2, 1) := by decide +kernel
theorem dX6_addToNet_26 : decode cX6_addToNet 26 = .ok (.iaload, 1) := by decide +kernel
theorem dX6_addToNet_27 : decode cX6_addToNet 27 = .ok (.aload_n 0, 1) := by decide +kernel
theorem dX6_addToNet_28 : decode cX6_addToNet 28 = .ok (.getfield 9, 3) := by decide +kernel
theorem dX6_addToNet_31 : decode cX6_addToNet 31 = .ok (.iload_n 1, 1) := by decide +kernel
theorem dX6_addToNet_32 : decode cX6_addToNet 32 = .ok (.iconst 1, 1) := by decide +kernel
theorem dX6_addToNet_33 : decode cX6_addToNet 33 = .ok (.invokevirtual 31, 3) := by decide +kernel
theorem dX6_addToNet_36 : decode cX6_addToNet 36 = .ok (.aload_n 0, 1) := by decide +kernel
theorem dX6_addToNet_37 : decode cX6_addToNet 37 = .ok (.getfield 9, 3) := by decide +kernel
theorem dX6_addToNet_40 : decode cX6_addToNet 40 = .ok (.iload_n 1, 1) := by decide +kernel
theorem dX6_addToNet_41 : decode cX6_addToNet 41 = .ok (.iconst 2, 1) := by decide +kernel
theorem dX6_addToNet_42 : decode cX6_addToNet 42 = .ok (.invokevirtual 31, 3) := by decide +kernel
theorem dX6_addToNet_45 : decode cX6_addToNet 45 = .ok (.isub, 1) := by decide +kernel
theorem dX6_addToNet_46 : decode cX6_addToNet 46 = .ok (.iadd, 1) := by decide +kernel
theorem dX6_addToNet_47 : decode cX6_addToNet 47 = .ok (.iastore, 1) := by decide +kernel
theorem dX6_addToNet_48 : decode cX6_addToNet 48 = .ok (.return_, 1) := by decide +kernel
theorem dX6_hurtByNet_0 : decode cX6_hurtByNet 0 = .ok (.iconst 0, 1) := by decide +kernel
theorem dX6_hurtByNet_1 : decode cX6_hurtByNet 1 = .ok (.istore_n 1, 1) := by decide +kernel
theorem dX6_hurtByNet_2 : decode cX6_hurtByNet 2 = .ok (.iconst 0, 1) := by decide +kernel
theorem dX6_hurtByNet_3 : decode cX6_hurtByNet 3 = .ok (.istore_n 2, 1) := by decide +kernel
theorem dX6_hurtByNet_4 : decode cX6_hurtByNet 4 = .ok (.iload_n 2, 1) := by decide +kernel
theorem dX6_hurtByNet_5 : decode cX6_hurtByNet 5 = .ok (.aload_n 0, 1) := by decide +kernel
theorem dX6_hurtByNet_6 : decode cX6_hurtByNet 6 = .ok (.getfield 9, 3) := by decide +kernel
theorem dX6_hurtByNet_9 : decode cX6_hurtByNet 9 = .ok (.getfield 79, 3) := by decide +kernel
theorem dX6_hurtByNet_12 : decode cX6_hurtByNet 12 = .ok (.if_icmp .ge 43, 3) := by decide +kernel
theorem dX6_hurtByNet_15 : decode cX6_hurtByNet 15 = .ok (.iload_n 2, 1) := by decide +kernel
theorem dX6_hurtByNet_16 : decode cX6_hurtByNet 16 = .ok (.bipush 6, 2) := by decide +kernel
theorem dX6_hurtByNet_18 : decode cX6_hurtByNet 18 = .ok (.if_icmp .ge 37, 3) := by decide +kernel
theorem dX6_hurtByNet_21 : decode cX6_hurtByNet 21 = .ok (.aload_n 0, 1) := by decide +kernel
theorem dX6_hurtByNet_22 : decode cX6_hurtByNet 22 = .ok (.getfield 26, 3) := by decide +kernel
theorem dX6_hurtByNet_25 : decode cX6_hurtByNet 25 = .ok (.iload_n 2, 1) := by decide +kernel
theorem dX6_hurtByNet_26 : decode cX6_hurtByNet 26 = .ok (.iaload, 1) := by decide +kernel
theorem dX6_hurtByNet_27 : decode cX6_hurtByNet 27 = .ok (.bipush 9, 2) := by decide +kernel
theorem dX6_hurtByNet_29 : decode cX6_hurtByNet 29 = .ok (.aload_n 0, 1) := by decide +kernel
theorem dX6_hurtByNet_30 : decode cX6_hurtByNet 30 = .ok (.getfield 9, 3) := by decide +kernel
theorem dX6_hurtByNet_33 : decode cX6_hurtByNet 33 = .ok (.iload_n 2, 1) := by decide +kernel
theorem dX6_hurtByNet_34 : decode cX6_hurtByNet 34 = .ok (.bipush 6, 2) := by decide +kernel
theorem dX6_hurtByNet_36 : decode cX6_hurtByNet 36 = .ok (.invokevirtual 31, 3) := by decide +kernel
theorem dX6_hurtByNet_39 : decode cX6_hurtByNet 39 = .ok (.isub, 1) := by decide +kernel
theorem dX6_hurtByNet_40 : decode cX6_hurtByNet 40 = .ok (.if_icmp .le 9, 3) := by decide +kernel
theorem dX6_hurtByNet_43 : decode cX6_hurtByNet 43 = .ok (.iload_n 1, 1) := by decide +kernel
theorem dX6_hurtByNet_44 : decode cX6_hurtByNet 44 = .ok (.iconst 1, 1) := by decide +kernel
theorem dX6_hurtByNet_45 : decode cX6_hurtByNet 45 = .ok (.iload_n 2, 1) := by decide +kernel
theorem dX6_hurtByNet_46 : decode cX6_hurtByNet 46 = .ok (.ishl, 1) := by decide +kernel
theorem dX6_hurtByNet_47 : decode cX6_hurtByNet 47 = .ok (.ior, 1) := by decide +kernel
theorem dX6_hurtByNet_48 : decode cX6_hurtByNet 48 = .ok (.istore_n 1, 1) := by decide +kernel
theorem dX6_hurtByNet_49 : decode cX6_hurtByNet 49 = .ok (.iinc 2 1, 3) := by decide +kernel
theorem dX6_hurtByNet_52 : decode cX6_hurtByNet 52 = .ok (.goto (-48), 3) := by decide +kernel
theorem dX6_hurtByNet_55 : decode cX6_hurtByNet 55 = .ok (.iload_n 1, 1) := by decide +kernel
theorem dX6_hurtByNet_56 : decode cX6_hurtByNet 56 = .ok (.ireturn, 1) := by decide +kernel
theorem dX6_keepsJust_0 : decode cX6_keepsJust 0 = .ok (.iconst 0, 1) := by decide +kernel
theorem dX6_keepsJust_1 : decode cX6_keepsJust 1 = .ok (.istore_n 3, 1) := by decide +kernel
theorem dX6_keepsJust_2 : decode cX6_keepsJust 2 = .ok (.iload_n 3, 1) := by decide +kernel
theorem dX6_keepsJust_3 : decode cX6_keepsJust 3 = .ok (.aload_n 0, 1) := by decide +kernel
theorem dX6_keepsJust_4 : decode cX6_keepsJust 4 = .ok (.getfield 9, 3) := by decide +kernel
theorem dX6_keepsJust_7 : decode cX6_keepsJust 7 = .ok (.getfield 76, 3) := by decide +kernel
theorem dX6_keepsJust_10 : decode cX6_keepsJust 10 = .ok (.if_icmp .ge 39, 3) := by decide +kernel
theorem dX6_keepsJust_13 : decode cX6_keepsJust 13 = .ok (.iload_n 1, 1) := by decide +kernel
theorem dX6_keepsJust_14 : decode cX6_keepsJust 14 = .ok (.iload_n 3, 1) := by decide +kernel
theorem dX6_keepsJust_15 : decode cX6_keepsJust 15 = .ok (.ishr, 1) := by decide +kernel
theorem dX6_keepsJust_16 : decode cX6_keepsJust 16 = .ok (.iconst 1, 1) := by decide +kernel
theorem dX6_keepsJust_17 : decode cX6_keepsJust 17 = .ok (.iand, 1) := by decide +kernel
theorem dX6_keepsJust_18 : decode cX6_keepsJust 18 = .ok (.ifCond .eq 7, 3) := by decide +kernel
theorem dX6_keepsJust_21 : decode cX6_keepsJust 21 = .ok (.iconst 1, 1) := by decide +kernel
theorem dX6_keepsJust_22 : decode cX6_keepsJust 22 = .ok (.goto 4, 3) := by decide +kernel
theorem dX6_keepsJust_25 : decode cX6_keepsJust 25 = .ok (.iconst 0, 1) := by decide +kernel
theorem dX6_keepsJust_26 : decode cX6_keepsJust 26 = .ok (.istore 4, 2) := by decide +kernel
theorem dX6_keepsJust_28 : decode cX6_keepsJust 28 = .ok (.aload_n 0, 1) := by decide +kernel
theorem dX6_keepsJust_29 : decode cX6_keepsJust 29 = .ok (.iload_n 3, 1) := by decide +kernel
theorem dX6_keepsJust_30 : decode cX6_keepsJust 30 = .ok (.iload_n 2, 1) := by decide +kernel
theorem dX6_keepsJust_31 : decode cX6_keepsJust 31 = .ok (.iconst 0, 1) := by decide +kernel
theorem dX6_keepsJust_32 : decode cX6_keepsJust 32 = .ok (.iconst 0, 1) := by decide +kernel
theorem dX6_keepsJust_33 : decode cX6_keepsJust 33 = .ok (.invokevirtual 52, 3) := by decide +kernel
theorem dX6_keepsJust_36 : decode cX6_keepsJust 36 = .ok (.iload 4, 2) := by decide +kernel
theorem dX6_keepsJust_38 : decode cX6_keepsJust 38 = .ok (.if_icmp .ne 5, 3) := by decide +kernel
theorem dX6_keepsJust_41 : decode cX6_keepsJust 41 = .ok (.iconst 0, 1) := by decide +kernel
theorem dX6_keepsJust_42 : decode cX6_keepsJust 42 = .ok (.ireturn, 1) := by decide +kernel
theorem dX6_keepsJust_43 : decode cX6_keepsJust 43 = .ok (.iinc 3 1, 3) := by decide +kernel
theorem dX6_keepsJust_46 : decode cX6_keepsJust 46 = .ok (.goto (-44), 3) := by decide +kernel
theorem dX6_keepsJust_49 : decode cX6_keepsJust 49 = .ok (.iconst 1, 1) := by decide +kernel
theorem dX6_keepsJust_50 : decode cX6_keepsJust 50 = .ok (.ireturn, 1) := by decide +kernel
theorem dX6_harmLeftOf_0 : decode cX6_harmLeftOf 0 = .ok (.iconst 0, 1) := by decide +kernel
theorem dX6_harmLeftOf_1 : decode cX6_harmLeftOf 1 = .ok (.istore_n 2, 1) := by decide +kernel
theorem dX6_harmLeftOf_2 : decode cX6_harmLeftOf 2 = .ok (.iconst 0, 1) := by decide +kernel
theorem dX6_harmLeftOf_3 : decode cX6_harmLeftOf 3 = .ok (.istore_n 3, 1) := by decide +kernel
theorem dX6_harmLeftOf_4 : decode cX6_harmLeftOf 4 = .ok (.iload_n 3, 1) := by decide +kernel
theorem dX6_harmLeftOf_5 : decode cX6_harmLeftOf 5 = .ok (.aload_n 0, 1) := by decide +kernel
theorem dX6_harmLeftOf_6 : decode cX6_harmLeftOf 6 = .ok (.getfield 49, 3) := by decide +kernel
theorem dX6_harmLeftOf_9 : decode cX6_harmLeftOf 9 = .ok (.if_icmp .ge 50, 3) := by decide +kernel
theorem dX6_harmLeftOf_12 : decode cX6_harmLeftOf 12 = .ok (.iload_n 3, 1) := by decide +kernel
theorem dX6_harmLeftOf_13 : decode cX6_harmLeftOf 13 = .ok (.bipush 13, 2) := by decide +kernel
theorem dX6_harmLeftOf_15 : decode cX6_harmLeftOf 15 = .ok (.if_icmp .ge 44, 3) := by decide +kernel
theorem dX6_harmLeftOf_18 : decode cX6_harmLeftOf 18 = .ok (.aload_n 0, 1) := by decide +kernel
theorem dX6_harmLeftOf_19 : decode cX6_harmLeftOf 19 = .ok (.getfield 9, 3) := by decide +kernel
theorem dX6_harmLeftOf_22 : decode cX6_harmLeftOf 22 = .ok (.aload_n 0, 1) := by decide +kernel
theorem dX6_harmLeftOf_23 : decode cX6_harmLeftOf 23 = .ok (.getfield 23, 3) := by decide +kernel
theorem dX6_harmLeftOf_26 : decode cX6_harmLeftOf 26 = .ok (.iload_n 3, 1) := by decide +kernel
theorem dX6_harmLeftOf_27 : decode cX6_harmLeftOf 27 = .ok (.iaload, 1) := by decide +kernel
theorem dX6_harmLeftOf_28 : decode cX6_harmLeftOf 28 = .ok (.iconst 4, 1) := by decide +kernel
theorem dX6_harmLeftOf_29 : decode cX6_harmLeftOf 29 = .ok (.invokevirtual 31, 3) := by decide +kernel
theorem dX6_harmLeftOf_32 : decode cX6_harmLeftOf 32 = .ok (.iload_n 1, 1) := by decide +kernel
theorem dX6_harmLeftOf_33 : decode cX6_harmLeftOf 33 = .ok (.if_icmp .ne 20, 3) := by decide +kernel
theorem dX6_harmLeftOf_36 : decode cX6_harmLeftOf 36 = .ok (.iload_n 2, 1) := by decide +kernel
theorem dX6_harmLeftOf_37 : decode cX6_harmLeftOf 37 = .ok (.aload_n 0, 1) := by decide +kernel
theorem dX6_harmLeftOf_38 : decode cX6_harmLeftOf 38 = .ok (.getfield 9, 3) := by decide +kernel
theorem dX6_harmLeftOf_41 : decode cX6_harmLeftOf 41 = .ok (.aload_n 0, 1) := by decide +kernel
theorem dX6_harmLeftOf_42 : decode cX6_harmLeftOf 42 = .ok (.getfield 23, 3) := by decide +kernel
theorem dX6_harmLeftOf_45 : decode cX6_harmLeftOf 45 = .ok (.iload_n 3, 1) := by decide +kernel
theorem dX6_harmLeftOf_46 : decode cX6_harmLeftOf 46 = .ok (.iaload, 1) := by decide +kernel
theorem dX6_harmLeftOf_47 : decode cX6_harmLeftOf 47 = .ok (.iconst 1, 1) := by decide +kernel
theorem dX6_harmLeftOf_48 : decode cX6_harmLeftOf 48 = .ok (.invokevirtual 31, 3) := by decide +kernel
theorem dX6_harmLeftOf_51 : decode cX6_harmLeftOf 51 = .ok (.iadd, 1) := by decide +kernel
theorem dX6_harmLeftOf_52 : decode cX6_harmLeftOf 52 = .ok (.istore_n 2, 1) := by decide +kernel
theorem dX6_harmLeftOf_53 : decode cX6_harmLeftOf 53 = .ok (.iinc 3 1, 3) := by decide +kernel
theorem dX6_harmLeftOf_56 : decode cX6_harmLeftOf 56 = .ok (.goto (-52), 3) := by decide +kernel
theorem dX6_harmLeftOf_59 : decode cX6_harmLeftOf 59 = .ok (.iload_n 2, 1) := by decide +kernel
theorem dX6_harmLeftOf_60 : decode cX6_harmLeftOf 60 = .ok (.ireturn, 1) := by decide +kernel
theorem dX6_mostHarmLeftOf_0 : decode cX6_mostHarmLeftOf 0 = .ok (.bipush (-2), 2) := by decide +kernel
theorem dX6_mostHarmLeftOf_2 : decode cX6_mostHarmLeftOf 2 = .ok (.istore_n 1, 1) := by decide +kernel
theorem dX6_mostHarmLeftOf_3 : decode cX6_mostHarmLeftOf 3 = .ok (.iconst 0, 1) := by decide +kernel
theorem dX6_mostHarmLeftOf_4 : decode cX6_mostHarmLeftOf 4 = .ok (.istore_n 2, 1) := by decide +kernel
theorem dX6_mostHarmLeftOf_5 : decode cX6_mostHarmLeftOf 5 = .ok (.iconst 0, 1) := by decide +kernel
theorem dX6_mostHarmLeftOf_6 : decode cX6_mostHarmLeftOf 6 = .ok (.istore_n 3, 1) := by decide +kernel
theorem dX6_mostHarmLeftOf_7 : decode cX6_mostHarmLeftOf 7 = .ok (.iload_n 3, 1) := by decide +kernel
theorem dX6_mostHarmLeftOf_8 : decode cX6_mostHarmLeftOf 8 = .ok (.bipush 6, 2) := by decide +kernel
theorem dX6_mostHarmLeftOf_10 : decode cX6_mostHarmLeftOf 10 = .ok (.if_icmp .ge 27, 3) := by decide +kernel
theorem dX6_mostHarmLeftOf_13 : decode cX6_mostHarmLeftOf 13 = .ok (.aload_n 0, 1) := by decide +kernel
theorem dX6_mostHarmLeftOf_14 : decode cX6_mostHarmLeftOf 14 = .ok (.iload_n 3, 1) := by decide +kernel
theorem dX6_mostHarmLeftOf_15 : decode cX6_mostHarmLeftOf 15 = .ok (.invokevirtual 82, 3) := by decide +kernel
theorem dX6_mostHarmLeftOf_18 : decode cX6_mostHarmLeftOf 18 = .ok (.istore 4, 2) := by decide +kernel
theorem dX6_mostHarmLeftOf_20 : decode cX6_mostHarmLeftOf 20 = .ok (.iload 4, 2) := by decide +kernel
theorem dX6_mostHarmLeftOf_22 : decode cX6_mostHarmLeftOf 22 = .ok (.iload_n 2, 1) := by decide +kernel
theorem dX6_mostHarmLeftOf_23 : decode cX6_mostHarmLeftOf 23 = .ok (.if_icmp .le 8, 3) := by decide +kernel
theorem dX6_mostHarmLeftOf_26 : decode cX6_mostHarmLeftOf 26 = .ok (.iload 4, 2) := by decide +kernel
theorem dX6_mostHarmLeftOf_28 : decode cX6_mostHarmLeftOf 28 = .ok (.istore_n 2, 1) := by decide +kernel
theorem dX6_mostHarmLeftOf_29 : decode cX6_mostHarmLeftOf 29 = .ok (.iload_n 3, 1) := by decide +kernel
theorem dX6_mostHarmLeftOf_30 : decode cX6_mostHarmLeftOf 30 = .ok (.istore_n 1, 1) := by decide +kernel
theorem dX6_mostHarmLeftOf_31 : decode cX6_mostHarmLeftOf 31 = .ok (.iinc 3 1, 3) := by decide +kernel
theorem dX6_mostHarmLeftOf_34 : decode cX6_mostHarmLeftOf 34 = .ok (.goto (-27), 3) := by decide +kernel
theorem dX6_mostHarmLeftOf_37 : decode cX6_mostHarmLeftOf 37 = .ok (.iload_n 1, 1) := by decide +kernel
theorem dX6_mostHarmLeftOf_38 : decode cX6_mostHarmLeftOf 38 = .ok (.ireturn, 1) := by decide +kernel
theorem dX6_spite_0 : decode cX6_spite 0 = .ok (.iconst 0, 1) := by decide +kernel
theorem dX6_spite_1 : decode cX6_spite 1 = .ok (.istore_n 1, 1) := by decide +kernel
theorem dX6_spite_2 : decode cX6_spite 2 = .ok (.iconst 0, 1) := by decide +kernel
theorem dX6_spite_3 : decode cX6_spite 3 = .ok (.istore_n 2, 1) := by decide +kernel
theorem dX6_spite_4 : decode cX6_spite 4 = .ok (.iload_n 2, 1) := by decide +kernel
theorem dX6_spite_5 : decode cX6_spite 5 = .ok (.bipush 6, 2) := by decide +kernel
theorem dX6_spite_7 : decode cX6_spite 7 = .ok (.if_icmp .ge 31, 3) := by decide +kernel
theorem dX6_spite_10 : decode cX6_spite 10 = .ok (.aload_n 0, 1) := by decide +kernel
theorem dX6_spite_11 : decode cX6_spite 11 = .ok (.iload_n 2, 1) := by decide +kernel
theorem dX6_spite_12 : decode cX6_spite 12 = .ok (.invokevirtual 82, 3) := by decide +kernel
theorem dX6_spite_15 : decode cX6_spite 15 = .ok (.ifCond .le 17, 3) := by decide +kernel
theorem dX6_spite_18 : decode cX6_spite 18 = .ok (.aload_n 0, 1) := by decide +kernel
theorem dX6_spite_19 : decode cX6_spite 19 = .ok (.iload_n 2, 1) := by decide +kernel
theorem dX6_spite_20 : decode cX6_spite 20 = .ok (.invokevirtual 86, 3) := by decide +kernel
theorem dX6_spite_23 : decode cX6_spite 23 = .ok (.ifCond .ne 9, 3) := by decide +kernel
theorem dX6_spite_26 : decode cX6_spite 26 = .ok (.iload_n 1, 1) := by decide +kernel
theorem dX6_spite_27 : decode cX6_spite 27 = .ok (.iconst 1, 1) := by decide +kernel
theorem dX6_spite_28 : decode cX6_spite 28 = .ok (.iload_n 2, 1) := by decide +kernel
theorem dX6_spite_29 : decode cX6_spite 29 = .ok (.ishl, 1) := by decide +kernel
theorem dX6_spite_30 : decode cX6_spite 30 = .ok (.ior, 1) := by decide +kernel
theorem dX6_spite_31 : decode cX6_spite 31 = .ok (.istore_n 1, 1) := by decide +kernel
theorem dX6_spite_32 : decode cX6_spite 32 = .ok (.iinc 2 1, 3) := by decide +kernel
theorem dX6_spite_35 : decode cX6_spite 35 = .ok (.goto (-31), 3) := by decide +kernel
theorem dX6_spite_38 : decode cX6_spite 38 = .ok (.iload_n 1, 1) := by decide +kernel
theorem dX6_spite_39 : decode cX6_spite 39 = .ok (.ireturn, 1) := by decide +kernel
theorem dX6_somethingCameOf_0 : decode cX6_somethingCameOf 0 = .ok (.iconst 0, 1) := by decide +kernel
theorem dX6_somethingCameOf_1 : decode cX6_somethingCameOf 1 = .ok (.istore_n 2, 1) := by decide +kernel
theorem dX6_somethingCameOf_2 : decode cX6_somethingCameOf 2 = .ok (.iload_n 2, 1) := by decide +kernel
theorem dX6_somethingCameOf_3 : decode cX6_somethingCameOf 3 = .ok (.aload_n 0, 1) := by decide +kernel
theorem dX6_somethingCameOf_4 : decode cX6_somethingCameOf 4 = .ok (.getfield 45, 3) := by decide +kernel
theorem dX6_somethingCameOf_7 : decode cX6_somethingCameOf 7 = .ok (.if_icmp .ge 35, 3) := by decide +kernel
theorem dX6_somethingCameOf_10 : decode cX6_somethingCameOf 10 = .ok (.iload_n 2, 1) := by decide +kernel
theorem dX6_somethingCameOf_11 : decode cX6_somethingCameOf 11 = .ok (.bipush 13, 2) := by decide +kernel
theorem dX6_somethingCameOf_13 : decode cX6_somethingCameOf 13 = .ok (.if_icmp .ge 29, 3) := by decide +kernel
theorem dX6_somethingCameOf_16 : decode cX6_somethingCameOf 16 = .ok (.aload_n 0, 1) := by decide +kernel
theorem dX6_somethingCameOf_17 : decode cX6_somethingCameOf 17 = .ok (.getfield 9, 3) := by decide +kernel
theorem dX6_somethingCameOf_20 : decode cX6_somethingCameOf 20 = .ok (.aload_n 0, 1) := by decide +kernel
theorem dX6_somethingCameOf_21 : decode cX6_somethingCameOf 21 = .ok (.getfield 19, 3) := by decide +kernel
theorem dX6_somethingCameOf_24 : decode cX6_somethingCameOf 24 = .ok (.iload_n 2, 1) := by decide +kernel
theorem dX6_somethingCameOf_25 : decode cX6_somethingCameOf 25 = .ok (.iaload, 1) := by decide +kernel
theorem dX6_somethingCameOf_26 : decode cX6_somethingCameOf 26 = .ok (.iconst 4, 1) := by decide +kernel
theorem dX6_somethingCameOf_27 : decode cX6_somethingCameOf 27 = .ok (.invokevirtual 31, 3) := by decide +kernel
theorem dX6_somethingCameOf_30 : decode cX6_somethingCameOf 30 = .ok (.iload_n 1, 1) := by decide +kernel
theorem dX6_somethingCameOf_31 : decode cX6_somethingCameOf 31 = .ok (.if_icmp .ne 5, 3) := by decide +kernel
theorem dX6_somethingCameOf_34 : decode cX6_somethingCameOf 34 = .ok (.iconst 1, 1) := by decide +kernel
theorem dX6_somethingCameOf_35 : decode cX6_somethingCameOf 35 = .ok (.ireturn, 1) := by decide +kernel
theorem dX6_somethingCameOf_36 : decode cX6_somethingCameOf 36 = .ok (.iinc 2 1, 3) := by decide +kernel
theorem dX6_somethingCameOf_39 : decode cX6_somethingCameOf 39 = .ok (.goto (-37), 3) := by decide +kernel
theorem dX6_somethingCameOf_42 : decode cX6_somethingCameOf 42 = .ok (.iconst 0, 1) := by decide +kernel
theorem dX6_somethingCameOf_43 : decode cX6_somethingCameOf 43 = .ok (.ireturn, 1) := by decide +kernel
theorem dX7_init_0 : decode cX7_init 0 = .ok (.aload_n 0, 1) := by decide +kernel
theorem dX7_init_1 : decode cX7_init 1 = .ok (.invokespecial 3, 3) := by decide +kernel
theorem dX7_init_4 : decode cX7_init 4 = .ok (.aload_n 0, 1) := by decide +kernel
theorem dX7_init_5 : decode cX7_init 5 = .ok (.bipush 8, 2) := by decide +kernel
theorem dX7_init_7 : decode cX7_init 7 = .ok (.bipush 12, 2) := by decide +kernel
theorem dX7_init_9 : decode cX7_init 9 = .ok (.multianewarray 11 2, 4) := by decide +kernel
theorem dX7_init_13 : decode cX7_init 13 = .ok (.putfield 13, 3) := by decide +kernel
theorem dX7_init_16 : decode cX7_init 16 = .ok (.aload_n 0, 1) := by decide +kernel
theorem dX7_init_17 : decode cX7_init 17 = .ok (.getfield 13, 3) := by decide +kernel
theorem dX7_init_20 : decode cX7_init 20 = .ok (.bipush 7, 2) := by decide +kernel
theorem dX7_init_22 : decode cX7_init 22 = .ok (.aaload, 1) := by decide +kernel
theorem dX7_init_23 : decode cX7_init 23 = .ok (.iconst 0, 1) := by decide +kernel
theorem dX7_init_24 : decode cX7_init 24 = .ok (.bipush 12, 2) := by decide +kernel
theorem dX7_init_26 : decode cX7_init 26 = .ok (.iastore, 1) := by decide +kernel
theorem dX7_init_27 : decode cX7_init 27 = .ok (.return_, 1) := by decide +kernel
theorem dX7_newWord_0 : decode cX7_newWord 0 = .ok (.aload_n 0, 1) := by decide +kernel
theorem dX7_newWord_1 : decode cX7_newWord 1 = .ok (.getfield 16, 3) := by decide +kernel
theorem dX7_newWord_4 : decode cX7_newWord 4 = .ok (.bipush 12, 2) := by decide +kernel
theorem dX7_newWord_6 : decode cX7_newWord 6 = .ok (.if_icmp .lt 6, 3) := by decide +kernel
theorem dX7_newWord_9 : decode cX7_newWord 9 = .ok (.bipush (-3), 2) := by decide +kernel
theorem dX7_newWord_11 : decode cX7_newWord 11 = .ok (.ireturn, 1) := by decide +kernel
theorem dX7_newWord_12 : decode cX7_newWord 12 = .ok (.aload_n 0, 1) := by decide +kernel
theorem dX7_newWord_13 : decode cX7_newWord 13 = .ok (.getfield 16, 3) := by decide +kernel
theorem dX7_newWord_16 : decode cX7_newWord 16 = .ok (.istore 4, 2) := by decide +kernel
theorem dX7_newWord_18 : decode cX7_newWord 18 = .ok (.aload_n 0, 1) := by decide +kernel
theorem dX7_newWord_19 : decode cX7_newWord 19 = .ok (.dup, 1) := by decide +kernel
theorem dX7_newWord_20 : decode cX7_newWord 20 = .ok (.getfield 16, 3) := by decide +kernel
theorem dX7_newWord_23 : decode cX7_newWord 23 = .ok (.iconst 1, 1) := by decide +kernel
theorem dX7_newWord_24 : decode cX7_newWord 24 = .ok (.iadd, 1) := by decide +kernel
theorem dX7_newWord_25 : decode cX7_newWord 25 = .ok (.putfield 16, 3) := by decide +kernel
theorem dX7_newWord_28 : decode cX7_newWord 28 = .ok (.aload_n 0, 1) := by decide +kernel
theorem dX7_newWord_29 : decode cX7_newWord 29 = .ok (.iload 4, 2) := by decide +kernel
theorem dX7_newWord_31 : decode cX7_newWord 31 = .ok (.iconst 0, 1) := by decide +kernel
theorem dX7_newWord_32 : decode cX7_newWord 32 = .ok (.iload_n 1, 1) := by decide +kernel
theorem dX7_newWord_33 : decode cX7_newWord 33 = .ok (.invokevirtual 20, 3) := by decide +kernel
theorem dX7_newWord_36 : decode cX7_newWord 36 = .ok (.aload_n 0, 1) := by decide +kernel
theorem dX7_newWord_37 : decode cX7_newWord 37 = .ok (.iload 4, 2) := by decide +kernel
theorem dX7_newWord_39 : decode cX7_newWord 39 = .ok (.iconst 1, 1) := by decide +kernel
theorem dX7_newWord_40 : decode cX7_newWord 40 = .ok (.iload_n 2, 1) := by decide +kernel
theorem dX7_newWord_41 : decode cX7_newWord 41 = .ok (.invokevirtual 20, 3) := by decide +kernel
theorem dX7_newWord_44 : decode cX7_newWord 44 = .ok (.aload_n 0, 1) := by decide +kernel
theorem dX7_newWord_45 : decode cX7_newWord 45 = .ok (.iload 4, 2) := by decide +kernel
theorem dX7_newWord_47 : decode cX7_newWord 47 = .ok (.iconst 2, 1) := by decide +kernel
theorem dX7_newWord_48 : decode cX7_newWord 48 = .ok (.iload_n 3, 1) := by decide +kernel
theorem dX7_newWord_49 : decode cX7_newWord 49 = .ok (.invokevirtual 20, 3) := by decide +kernel
theorem dX7_newWord_52 : decode cX7_newWord 52 = .ok (.aload_n 0, 1) := by decide +kernel
theorem dX7_newWord_53 : decode cX7_newWord 53 = .ok (.iload 4, 2) := by decide +kernel
theorem dX7_newWord_55 : decode cX7_newWord 55 = .ok (.iconst 3, 1) := by decide +kernel
theorem dX7_newWord_56 : decode cX7_newWord 56 = .ok (.iconst 2, 1) := by decide +kernel
theorem dX7_newWord_57 : decode cX7_newWord 57 = .ok (.invokevirtual 20, 3) := by decide +kernel
theorem dX7_newWord_60 : decode cX7_newWord 60 = .ok (.iload 4, 2) := by decide +kernel
theorem dX7_newWord_62 : decode cX7_newWord 62 = .ok (.ireturn, 1) := by decide +kernel
theorem dX7_newMesh_0 : decode cX7_newMesh 0 = .ok (.aload_n 0, 1) := by decide +kernel
theorem dX7_newMesh_1 : decode cX7_newMesh 1 = .ok (.getfield 24, 3) := by decide +kernel
theorem dX7_newMesh_4 : decode cX7_newMesh 4 = .ok (.iconst 5, 1) := by decide +kernel
theorem dX7_newMesh_5 : decode cX7_newMesh 5 = .ok (.if_icmp .lt 6, 3) := by decide +kernel
theorem dX7_newMesh_8 : decode cX7_newMesh 8 = .ok (.bipush (-3), 2) := by decide +kernel
theorem dX7_newMesh_10 : decode cX7_newMesh 10 = .ok (.ireturn, 1) := by decide +kernel
theorem dX7_newMesh_11 : decode cX7_newMesh 11 = .ok (.aload_n 0, 1) := by decide +kernel
theorem dX7_newMesh_12 : decode cX7_newMesh 12 = .ok (.getfield 24, 3) := by decide +kernel
theorem dX7_newMesh_15 : decode cX7_newMesh 15 = .ok (.istore_n 2, 1) := by decide +kernel
theorem dX7_newMesh_16 : decode cX7_newMesh 16 = .ok (.aload_n 0, 1) := by decide +kernel
theorem dX7_newMesh_17 : decode cX7_newMesh 17 = .ok (.dup, 1) := by decide +kernel
theorem dX7_newMesh_18 : decode cX7_newMesh 18 = .ok (.getfield 24, 3) := by decide +kernel
theorem dX7_newMesh_21 : decode cX7_newMesh 21 = .ok (.iconst 1, 1) := by decide +kernel
theorem dX7_newMesh_22 : decode cX7_newMesh 22 = .ok (.iadd, 1) := by decide +kernel
theorem dX7_newMesh_23 : decode cX7_newMesh 23 = .ok (.putfield 24, 3) := by decide +kernel
theorem dX7_newMesh_26 : decode cX7_newMesh 26 = .ok (.aload_n 0, 1) := by decide +kernel
theorem dX7_newMesh_27 : decode cX7_newMesh 27 = .ok (.iload_n 2, 1) := by decide +kernel
theorem dX7_newMesh_28 : decode cX7_newMesh 28 = .ok (.iconst 5, 1) := by decide +kernel
theorem dX7_newMesh_29 : decode cX7_newMesh 29 = .ok (.iload_n 1, 1) := by decide +kernel
theorem dX7_newMesh_30 : decode cX7_newMesh 30 = .ok (.invokevirtual 20, 3) := by decide +kernel
theorem dX7_newMesh_33 : decode cX7_newMesh 33 = .ok (.iload_n 2, 1) := by decide +kernel
theorem dX7_newMesh_34 : decode cX7_newMesh 34 = .ok (.ireturn, 1) := by decide +kernel
theorem dX7_newPerson_0 : decode cX7_newPerson 0 = .ok (.aload_n 0, 1) := by decide +kernel
theorem dX7_newPerson_1 : decode cX7_newPerson 1 = .ok (.getfield 27, 3) := by decide +kernel
theorem dX7_newPerson_4 : decode cX7_newPerson 4 = .ok (.bipush 6, 2) := by decide +kernel
theorem dX7_newPerson_6 : decode cX7_newPerson 6 = .ok (.if_icmp .lt 6, 3) := by decide +kernel
theorem dX7_newPerson_9 : decode cX7_newPerson 9 = .ok (.bipush (-3), 2) := by decide +kernel
theorem dX7_newPerson_11 : decode cX7_newPerson 11 = .ok (.ireturn, 1) := by decide +kernel
theorem dX7_newPerson_12 : decode cX7_newPerson 12 = .ok (.aload_n 0, 1) := by decide +kernel
theorem dX7_newPerson_13 : decode cX7_newPerson 13 = .ok (.getfield 27, 3) := by decide +kernel
theorem dX7_newPerson_16 : decode cX7_newPerson 16 = .ok (.istore_n 2, 1) := by decide +kernel
theorem dX7_newPerson_17 : decode cX7_newPerson 17 = .ok (.aload_n 0, 1) := by decide +kernel
theorem dX7_newPerson_18 : decode cX7_newPerson 18 = .ok (.dup, 1) := by decide +kernel
theorem dX7_newPerson_19 : decode cX7_newPerson 19 = .ok (.getfield 27, 3) := by decide +kernel
theorem dX7_newPerson_22 : decode cX7_newPerson 22 = .ok (.iconst 1, 1) := by decide +kernel
theorem dX7_newPerson_23 : decode cX7_newPerson 23 = .ok (.iadd, 1) := by decide +kernel
theorem dX7_newPerson_24 : decode cX7_newPerson 24 = .ok (.putfield 27, 3) := by decide +kernel
theorem dX7_newPerson_27 : decode cX7_newPerson 27 = .ok (.aload_n 0, 1) := by decide +kernel
theorem dX7_newPerson_28 : decode cX7_newPerson 28 = .ok (.iload_n 2, 1) := by decide +kernel
theorem dX7_newPerson_29 : decode cX7_newPerson 29 = .ok (.bipush 6, 2) := by decide +kernel
theorem dX7_newPerson_31 : decode cX7_newPerson 31 = .ok (.iload_n 1, 1) := by decide +kernel
theorem dX7_newPerson_32 : decode cX7_newPerson 32 = .ok (.invokevirtual 20, 3) := by decide +kernel
theorem dX7_newPerson_35 : decode cX7_newPerson 35 = .ok (.iload_n 2, 1) := by decide +kernel
theorem dX7_newPerson_36 : decode cX7_newPerson 36 = .ok (.ireturn, 1) := by decide +kernel
theorem dX7_allows_0 : decode cX7_allows 0 = .ok (.iload_n 1, 1) := by decide +kernel
theorem dX7_allows_1 : decode cX7_allows 1 = .ok (.ifCond .lt 26, 3) := by decide +kernel
theorem dX7_allows_4 : decode cX7_allows 4 = .ok (.iload_n 1, 1) := by decide +kernel
theorem dX7_allows_5 : decode cX7_allows 5 = .ok (.bipush 8, 2) := by decide +kernel
theorem dX7_allows_7 : decode cX7_allows 7 = .ok (.if_icmp .ge 20, 3) := by decide +kernel
theorem dX7_allows_10 : decode cX7_allows 10 = .ok (.iload_n 2, 1) := by decide +kernel
theorem dX7_allows_11 : decode cX7_allows 11 = .ok (.ifCond .lt 16, 3) := by decide +kernel
theorem dX7_allows_14 : decode cX7_allows 14 = .ok (.iload_n 2, 1) := by decide +kernel
theorem dX7_allows_15 : decode cX7_allows 15 = .ok (.getstatic 30, 3) := by decide +kernel
theorem dX7_allows_18 : decode cX7_allows 18 = .ok (.iload_n 1, 1) := by decide +kernel
theorem dX7_allows_19 : decode cX7_allows 19 = .ok (.iaload, 1) := by decide +kernel
theorem dX7_allows_20 : decode cX7_allows 20 = .ok (.if_icmp .gt 7, 3) := by decide +kernel
theorem dX7_allows_23 : decode cX7_allows 23 = .ok (.iconst 1, 1) := by decide +kernel
theorem dX7_allows_24 : decode cX7_allows 24 = .ok (.goto 4, 3) := by decide +kernel
theorem dX7_allows_27 : decode cX7_allows 27 = .ok (.iconst 0, 1) := by decide +kernel
theorem dX7_allows_28 : decode cX7_allows 28 = .ok (.ireturn, 1) := by decide +kernel
theorem dX7_has_0 : decode cX7_has 0 = .ok (.iload_n 2, 1) := by decide +kernel
theorem dX7_has_1 : decode cX7_has 1 = .ok (.ifCond .lt 26, 3) := by decide +kernel
theorem dX7_has_4 : decode cX7_has 4 = .ok (.iload_n 2, 1) := by decide +kernel
theorem dX7_has_5 : decode cX7_has 5 = .ok (.bipush 8, 2) := by decide +kernel
theorem dX7_has_7 : decode cX7_has 7 = .ok (.if_icmp .ge 20, 3) := by decide +kernel
theorem dX7_has_10 : decode cX7_has 10 = .ok (.iload_n 1, 1) := by decide +kernel
theorem dX7_has_11 : decode cX7_has 11 = .ok (.ifCond .lt 16, 3) := by decide +kernel
theorem dX7_has_14 : decode cX7_has 14 = .ok (.iload_n 1, 1) := by decide +kernel
theorem dX7_has_15 : decode cX7_has 15 = .ok (.aload_n 0, 1) := by decide +kernel
theorem dX7_has_16 : decode cX7_has 16 = .ok (.iload_n 2, 1) := by decide +kernel
theorem dX7_has_17 : decode cX7_has 17 = .ok (.invokevirtual 34, 3) := by decide +kernel
theorem dX7_has_20 : decode cX7_has 20 = .ok (.if_icmp .ge 7, 3) := by decide +kernel
theorem dX7_has_23 : decode cX7_has 23 = .ok (.iconst 1, 1) := by decide +kernel
theorem dX7_has_24 : decode cX7_has 24 = .ok (.goto 4, 3) := by decide +kernel
theorem dX7_has_27 : decode cX7_has 27 = .ok (.iconst 0, 1) := by decide +kernel
theorem dX7_has_28 : decode cX7_has 28 = .ok (.ireturn, 1) := by decide +kernel
theorem dX7_bearersOf_0 : decode cX7_bearersOf 0 = .ok (.iload_n 1, 1) := by decide +kernel
theorem dX7_bearersOf_1 : decode cX7_bearersOf 1 = .ok (.tableswitch 39 5 7 #[27, 32, 37], 27) := by decide +kernel
theorem dX7_bearersOf_28 : decode cX7_bearersOf 28 = .ok (.aload_n 0, 1) := by decide +kernel
theorem dX7_bearersOf_29 : decode cX7_bearersOf 29 = .ok (.getfield 24, 3) := by decide +kernel
theorem dX7_bearersOf_32 : decode cX7_bearersOf 32 = .ok (.ireturn, 1) := by decide +kernel
theorem dX7_bearersOf_33 : decode cX7_bearersOf 33 = .ok (.aload_n 0, 1) := by decide +kernel
theorem dX7_bearersOf_34 : decode cX7_bearersOf 34 = .ok (.getfield 27, 3) := by decide +kernel
theorem dX7_bearersOf_37 : decode cX7_bearersOf 37 = .ok (.ireturn, 1) := by decide +kernel
theorem dX7_bearersOf_38 : decode cX7_bearersOf 38 = .ok (.iconst 1, 1) := by decide +kernel
theorem dX7_bearersOf_39 : decode cX7_bearersOf 39 = .ok (.ireturn, 1) := by decide +kernel
theorem dX7_bearersOf_40 : decode cX7_bearersOf 40 = .ok (.aload_n 0, 1) := by decide +kernel
theorem dX7_bearersOf_41 : decode cX7_bearersOf 41 = .ok (.getfield 16, 3) := by decide +kernel
theorem dX7_bearersOf_44 : decode cX7_bearersOf 44 = .ok (.ireturn, 1) := by decide +kernel
theorem dX7_get_0 : decode cX7_get 0 = .ok (.iload_n 1, 1) := by decide +kernel
theorem dX7_get_1 : decode cX7_get 1 = .ok (.ifCond .lt 19, 3) := by decide +kernel
theorem dX7_get_4 : decode cX7_get 4 = .ok (.iload_n 1, 1) := by decide +kernel
theorem dX7_get_5 : decode cX7_get 5 = .ok (.bipush 12, 2) := by decide +kernel
theorem dX7_get_7 : decode cX7_get 7 = .ok (.if_icmp .ge 13, 3) := by decide +kernel
theorem dX7_get_10 : decode cX7_get 10 = .ok (.iload_n 2, 1) := by decide +kernel
theorem dX7_get_11 : decode cX7_get 11 = .ok (.ifCond .lt 9, 3) := by decide +kernel
theorem dX7_get_14 : decode cX7_get 14 = .ok (.iload_n 2, 1) := by decide +kernel
theorem dX7_get_15 : decode cX7_get 15 = .ok (.bipush 8, 2) := by decide +kernel
theorem dX7_get_17 : decode cX7_get 17 = .ok (.if_icmp .lt 5, 3) := by decide +kernel
theorem dX7_get_20 : decode cX7_get 20 = .ok (.iconst 0, 1) := by decide +kernel
theorem dX7_get_21 : decode cX7_get 21 = .ok (.ireturn, 1) := by decide +kernel
theorem dX7_get_22 : decode cX7_get 22 = .ok (.aload_n 0, 1) := by decide +kernel
theorem dX7_get_23 : decode cX7_get 23 = .ok (.getfield 13, 3) := by decide +kernel
theorem dX7_get_26 : decode cX7_get 26 = .ok (.iload_n 2, 1) := by decide +kernel
theorem dX7_get_27 : decode cX7_get 27 = .ok (.aaload, 1) := by decide +kernel
theorem dX7_get_28 : decode cX7_get 28 = .ok (.iload_n 1, 1) := by decide +kernel
theorem dX7_get_29 : decode cX7_get 29 = .ok (.iaload, 1) := by decide +kernel
theorem dX7_get_30 : decode cX7_get 30 = .ok (.ireturn, 1) := by decide +kernel
theorem dX7_set_0 : decode cX7_set 0 = .ok (.aload_n 0, 1) := by decide +kernel
theorem dX7_set_1 : decode cX7_set 1 = .ok (.iload_n 1, 1) := by decide +kernel
theorem dX7_set_2 : decode cX7_set 2 = .ok (.iload_n 2, 1) := by decide +kernel
theorem dX7_set_3 : decode cX7_set 3 = .ok (.invokevirtual 38, 3) := by decide +kernel
theorem dX7_set_6 : decode cX7_set 6 = .ok (.ifCond .eq 12, 3) := by decide +kernel
theorem dX7_set_9 : decode cX7_set 9 = .ok (.aload_n 0, 1) := by decide +kernel
theorem dX7_set_10 : decode cX7_set 10 = .ok (.getfield 13, 3) := by decide +kernel
theorem dX7_set_13 : decode cX7_set 13 = .ok (.iload_n 2, 1) := by decide +kernel
theorem dX7_set_14 : decode cX7_set 14 = .ok (.aaload, 1) := by decide +kernel
theorem dX7_set_15 : decode cX7_set 15 = .ok (.iload_n 1, 1) := by decide +kernel
theorem dX7_set_16 : decode cX7_set 16 = .ok (.iload_n 3, 1) := by decide +kernel
theorem dX7_set_17 : decode cX7_set 17 = .ok (.iastore, 1) := by decide +kernel
theorem dX7_set_18 : decode cX7_set 18 = .ok (.return_, 1) := by decide +kernel
theorem dX8_init_0 : decode cX8_init 0 = .ok (.aload_n 0, 1) := by decide +kernel
theorem dX8_init_1 : decode cX8_init 1 = .ok (.invokespecial 1, 3) := by decide +kernel
theorem dX8_init_4 : decode cX8_init 4 = .ok (.aload_n 0, 1) := by decide +kernel
theorem dX8_init_5 : decode cX8_init 5 = .ok (.new 7, 3) := by decide +kernel
theorem dX8_init_8 : decode cX8_init 8 = .ok (.dup, 1) := by decide +kernel
theorem dX8_init_9 : decode cX8_init 9 = .ok (.invokespecial 9, 3) := by decide +kernel
theorem dX8_init_12 : decode cX8_init 12 = .ok (.putfield 10, 3) := by decide +kernel
theorem dX8_init_15 : decode cX8_init 15 = .ok (.aload_n 0, 1) := by decide +kernel
theorem dX8_init_16 : decode cX8_init 16 = .ok (.new 16, 3) := by decide +kernel
theorem dX8_init_19 : decode cX8_init 19 = .ok (.dup, 1) := by decide +kernel
theorem dX8_init_20 : decode cX8_init 20 = .ok (.invokespecial 18, 3) := by decide +kernel
theorem dX8_init_23 : decode cX8_init 23 = .ok (.putfield 19, 3) := by decide +kernel
theorem dX8_init_26 : decode cX8_init 26 = .ok (.aload_n 0, 1) := by decide +kernel
theorem dX8_init_27 : decode cX8_init 27 = .ok (.new 23, 3) := by decide +kernel
theorem dX8_init_30 : decode cX8_init 30 = .ok (.dup, 1) := by decide +kernel
theorem dX8_init_31 : decode cX8_init 31 = .ok (.invokespecial 25, 3) := by decide +kernel
theorem dX8_init_34 : decode cX8_init 34 = .ok (.putfield 26, 3) := by decide +kernel
theorem dX8_init_37 : decode cX8_init 37 = .ok (.aload_n 0, 1) := by decide +kernel
theorem dX8_init_38 : decode cX8_init 38 = .ok (.new 30, 3) := by decide +kernel
theorem dX8_init_41 : decode cX8_init 41 = .ok (.dup, 1) := by decide +kernel
theorem dX8_init_42 : decode cX8_init 42 = .ok (.invokespecial 32, 3) := by decide +kernel
theorem dX8_init_45 : decode cX8_init 45 = .ok (.putfield 33, 3) := by decide +kernel
theorem dX8_init_48 : decode cX8_init 48 = .ok (.aload_n 0, 1) := by decide +kernel
theorem dX8_init_49 : decode cX8_init 49 = .ok (.new 37, 3) := by decide +kernel
theorem dX8_init_52 : decode cX8_init 52 = .ok (.dup, 1) := by decide +kernel
theorem dX8_init_53 : decode cX8_init 53 = .ok (.aload_n 0, 1) := by decide +kernel
theorem dX8_init_54 : decode cX8_init 54 = .ok (.getfield 10, 3) := by decide +kernel
theorem dX8_init_57 : decode cX8_init 57 = .ok (.aload_n 0, 1) := by decide +kernel
theorem dX8_init_58 : decode cX8_init 58 = .ok (.getfield 26, 3) := by decide +kernel
theorem dX8_init_61 : decode cX8_init 61 = .ok (.invokespecial 39, 3) := by decide +kernel
theorem dX8_init_64 : decode cX8_init 64 = .ok (.putfield 42, 3) := by decide +kernel
theorem dX8_init_67 : decode cX8_init 67 = .ok (.aload_n 0, 1) := by decide +kernel
theorem dX8_init_68 : decode cX8_init 68 = .ok (.new 46, 3) := by decide +kernel
theorem dX8_init_71 : decode cX8_init 71 = .ok (.dup, 1) := by decide +kernel
theorem dX8_init_72 : decode cX8_init 72 = .ok (.aload_n 0, 1) := by decide +kernel
theorem dX8_init_73 : decode cX8_init 73 = .ok (.getfield 10, 3) := by decide +kernel
theorem dX8_init_76 : decode cX8_init 76 = .ok (.aload_n 0, 1) := by decide +kernel
theorem dX8_init_77 : decode cX8_init 77 = .ok (.getfield 42, 3) := by decide +kernel
theorem dX8_init_80 : decode cX8_init 80 = .ok (.invokespecial 48, 3) := by decide +kernel
theorem dX8_init_83 : decode cX8_init 83 = .ok (.putfield 51, 3) := by decide +kernel
theorem dX8_init_86 : decode cX8_init 86 = .ok (.aload_n 0, 1) := by decide +kernel
theorem dX8_init_87 : decode cX8_init 87 = .ok (.new 55, 3) := by decide +kernel
theorem dX8_init_90 : decode cX8_init 90 = .ok (.dup, 1) := by decide +kernel
theorem dX8_init_91 : decode cX8_init 91 = .ok (.invokespecial 57, 3) := by decide +kernel
theorem dX8_init_94 : decode cX8_init 94 = .ok (.putfield 58, 3) := by decide +kernel
theorem dX8_init_97 : decode cX8_init 97 = .ok (.aload_n 0, 1) := by decide +kernel
theorem dX8_init_98 : decode cX8_init 98 = .ok (.new 62, 3) := by decide +kernel
theorem dX8_init_101 : decode cX8_init 101 = .ok (.dup, 1) := by decide +kernel
theorem dX8_init_102 : decode cX8_init 102 = .ok (.invokespecial 64, 3) := by decide +kernel
theorem dX8_init_105 : decode cX8_init 105 = .ok (.putfield 65, 3) := by decide +kernel
theorem dX8_init_108 : decode cX8_init 108 = .ok (.aload_n 0, 1) := by decide +kernel
theorem dX8_init_109 : decode cX8_init 109 = .ok (.bipush 12, 2) := by decide +kernel
theorem dX8_init_111 : decode cX8_init 111 = .ok (.newarray .int, 2) := by decide +kernel
theorem dX8_init_113 : decode cX8_init 113 = .ok (.putfield 69, 3) := by decide +kernel
theorem dX8_init_116 : decode cX8_init 116 = .ok (.aload_n 0, 1) := by decide +kernel
theorem dX8_init_117 : decode cX8_init 117 = .ok (.bipush 12, 2) := by decide +kernel
theorem dX8_init_119 : decode cX8_init 119 = .ok (.newarray .int, 2) := by decide +kernel
theorem dX8_init_121 : decode cX8_init 121 = .ok (.putfield 73, 3) := by decide +kernel
theorem dX8_init_124 : decode cX8_init 124 = .ok (.return_, 1) := by decide +kernel
theorem dX8_word_0 : decode cX8_word 0 = .ok (.aload_n 0, 1) := by decide +kernel
theorem dX8_word_1 : decode cX8_word 1 = .ok (.getfield 10, 3) := by decide +kernel
theorem dX8_word_4 : decode cX8_word 4 = .ok (.iconst 0, 1) := by decide +kernel
theorem dX8_word_5 : decode cX8_word 5 = .ok (.iload_n 1, 1) := by decide +kernel
theorem dX8_word_6 : decode cX8_word 6 = .ok (.invokevirtual 76, 3) := by decide +kernel
theorem dX8_word_9 : decode cX8_word 9 = .ok (.ifCond .eq 15, 3) := by decide +kernel
theorem dX8_word_12 : decode cX8_word 12 = .ok (.aload_n 0, 1) := by decide +kernel
theorem dX8_word_13 : decode cX8_word 13 = .ok (.getfield 10, 3) := by decide +kernel
theorem dX8_word_16 : decode cX8_word 16 = .ok (.iconst 1, 1) := by decide +kernel
theorem dX8_word_17 : decode cX8_word 17 = .ok (.iload_n 2, 1) := by decide +kernel
theorem dX8_word_18 : decode cX8_word 18 = .ok (.invokevirtual 76, 3) := by decide +kernel
theorem dX8_word_21 : decode cX8_word 21 = .ok (.ifCond .ne 5, 3) := by decide +kernel
theorem dX8_word_24 : decode cX8_word 24 = .ok (.iconst (-1), 1) := by decide +kernel
theorem dX8_word_25 : decode cX8_word 25 = .ok (.ireturn, 1) := by decide +kernel
theorem dX8_word_26 : decode cX8_word 26 = .ok (.aload_n 0, 1) := by decide +kernel
theorem dX8_word_27 : decode cX8_word 27 = .ok (.getfield 10, 3) := by decide +kernel
theorem dX8_word_30 : decode cX8_word 30 = .ok (.iload_n 1, 1) := by decide +kernel
theorem dX8_word_31 : decode cX8_word 31 = .ok (.iload_n 2, 1) := by decide +kernel
theorem dX8_word_32 : decode cX8_word 32 = .ok (.iconst 0, 1) := by decide +kernel
theorem dX8_word_33 : decode cX8_word 33 = .ok (.invokevirtual 80, 3) := by decide +kernel
theorem dX8_word_36 : decode cX8_word 36 = .ok (.ireturn, 1) := by decide +kernel
theorem dX8_words_0 : decode cX8_words 0 = .ok (.iload_n 1, 1) := by decide +kernel
theorem dX8_words_1 : decode cX8_words 1 = .ok (.invokestatic 84, 3) := by decide +kernel
theorem dX8_words_4 : decode cX8_words 4 = .ok (.ifCond .eq 14, 3) := by decide +kernel
theorem dX8_words_7 : decode cX8_words 7 = .ok (.iload_n 3, 1) := by decide +kernel
theorem dX8_words_8 : decode cX8_words 8 = .ok (.iconst 1, 1) := by decide +kernel
theorem dX8_words_9 : decode cX8_words 9 = .ok (.if_icmp .lt 9, 3) := by decide +kernel
theorem dX8_words_12 : decode cX8_words 12 = .ok (.iload_n 3, 1) := by decide +kernel
theorem dX8_words_13 : decode cX8_words 13 = .ok (.bipush 12, 2) := by decide +kernel
theorem dX8_words_15 : decode cX8_words 15 = .ok (.if_icmp .le 5, 3) := by decide +kernel
theorem dX8_words_18 : decode cX8_words 18 = .ok (.iconst (-1), 1) := by decide +kernel
theorem dX8_words_19 : decode cX8_words 19 = .ok (.ireturn, 1) := by decide +kernel
theorem dX8_words_20 : decode cX8_words 20 = .ok (.aload_n 0, 1) := by decide +kernel
theorem dX8_words_21 : decode cX8_words 21 = .ok (.getfield 33, 3) := by decide +kernel
theorem dX8_words_24 : decode cX8_words 24 = .ok (.iload_n 1, 1) := by decide +kernel
theorem dX8_words_25 : decode cX8_words 25 = .ok (.invokevirtual 88, 3) := by decide +kernel
theorem dX8_words_28 : decode cX8_words 28 = .ok (.istore 4, 2) := by decide +kernel
theorem dX8_words_30 : decode cX8_words 30 = .ok (.iload 4, 2) := by decide +kernel
theorem dX8_words_32 : decode cX8_words 32 = .ok (.bipush (-12), 2) := by decide +kernel
theorem dX8_words_34 : decode cX8_words 34 = .ok (.if_icmp .ne 6, 3) := by decide +kernel
theorem dX8_words_37 : decode cX8_words 37 = .ok (.bipush (-12), 2) := by decide +kernel
theorem dX8_words_39 : decode cX8_words 39 = .ok (.ireturn, 1) := by decide +kernel
theorem dX8_words_40 : decode cX8_words 40 = .ok (.iload 4, 2) := by decide +kernel
theorem dX8_words_42 : decode cX8_words 42 = .ok (.bipush (-11), 2) := by decide +kernel
theorem dX8_words_44 : decode cX8_words 44 = .ok (.if_icmp .eq 7, 3) := by decide +kernel
theorem dX8_words_47 : decode cX8_words 47 = .ok (.iload_n 2, 1) := by decide +kernel
theorem dX8_words_48 : decode cX8_words 48 = .ok (.ifCond .ge 5, 3) := by decide +kernel
theorem dX8_words_51 : decode cX8_words 51 = .ok (.iconst 0, 1) := by decide +kernel
theorem dX8_words_52 : decode cX8_words 52 = .ok (.ireturn, 1) := by decide +kernel
theorem dX8_words_53 : decode cX8_words 53 = .ok (.aload_n 0, 1) := by decide +kernel
theorem dX8_words_54 : decode cX8_words 54 = .ok (.getfield 33, 3) := by decide +kernel
theorem dX8_words_57 : decode cX8_words 57 = .ok (.iload_n 1, 1) := by decide +kernel
theorem dX8_words_58 : decode cX8_words 58 = .ok (.invokevirtual 92, 3) := by decide +kernel
theorem dX8_words_61 : decode cX8_words 61 = .ok (.istore 5, 2) := by decide +kernel
theorem dX8_words_63 : decode cX8_words 63 = .ok (.iconst 0, 1) := by decide +kernel
theorem dX8_words_64 : decode cX8_words 64 = .ok (.istore 6, 2) := by decide +kernel
theorem dX8_words_66 : decode cX8_words 66 = .ok (.iload_n 2, 1) := by decide +kernel
theorem dX8_words_67 : decode cX8_words 67 = .ok (.istore 7, 2) := by decide +kernel
theorem dX8_words_69 : decode cX8_words 69 = .ok (.iload 6, 2) := by decide +kernel
theorem dX8_words_71 : decode cX8_words 71 = .ok (.iload_n 3, 1) := by decide +kernel
theorem dX8_words_72 : decode cX8_words 72 = .ok (.if_icmp .ge 31, 3) := by decide +kernel
theorem dX8_words_75 : decode cX8_words 75 = .ok (.iload 7, 2) := by decide +kernel
theorem dX8_words_77 : decode cX8_words 77 = .ok (.iload 5, 2) := by decide +kernel
theorem dX8_words_79 : decode cX8_words 79 = .ok (.iconst 3, 1) := by decide +kernel
theorem dX8_words_80 : decode cX8_words 80 = .ok (.isub, 1) := by decide +kernel
theorem dX8_words_81 : decode cX8_words 81 = .ok (.if_icmp .gt 22, 3) := by decide +kernel
theorem dX8_words_84 : decode cX8_words 84 = .ok (.aload_n 0, 1) := by decide +kernel
theorem dX8_words_85 : decode cX8_words 85 = .ok (.iload_n 1, 1) := by decide +kernel
theorem dX8_words_86 : decode cX8_words 86 = .ok (.iload 7, 2) := by decide +kernel
theorem dX8_words_88 : decode cX8_words 88 = .ok (.invokevirtual 95, 3) := by decide +kernel
theorem dX8_words_91 : decode cX8_words 91 = .ok (.ifCond .eq 12, 3) := by decide +kernel
theorem dX8_words_94 : decode cX8_words 94 = .ok (.iinc 6 1, 3) := by decide +kernel
theorem dX8_words_97 : decode cX8_words 97 = .ok (.iinc 7 3, 3) := by decide +kernel
theorem dX8_words_100 : decode cX8_words 100 = .ok (.goto (-31), 3) := by decide +kernel
theorem dX8_words_103 : decode cX8_words 103 = .ok (.iload 6, 2) := by decide +kernel
theorem dX8_words_105 : decode cX8_words 105 = .ok (.ireturn, 1) := by decide +kernel
theorem dX8_mesh_0 : decode cX8_mesh 0 = .ok (.aload_n 0, 1) := by decide +kernel
theorem dX8_mesh_1 : decode cX8_mesh 1 = .ok (.getfield 10, 3) := by decide +kernel
theorem dX8_mesh_4 : decode cX8_mesh 4 = .ok (.iconst 5, 1) := by decide +kernel
theorem dX8_mesh_5 : decode cX8_mesh 5 = .ok (.iload_n 1, 1) := by decide +kernel
theorem dX8_mesh_6 : decode cX8_mesh 6 = .ok (.invokevirtual 76, 3) := by decide +kernel
theorem dX8_mesh_9 : decode cX8_mesh 9 = .ok (.ifCond .eq 14, 3) := by decide +kernel
theorem dX8_mesh_12 : decode cX8_mesh 12 = .ok (.aload_n 0, 1) := by decide +kernel
theorem dX8_mesh_13 : decode cX8_mesh 13 = .ok (.getfield 10, 3) := by decide +kernel
theorem dX8_mesh_16 : decode cX8_mesh 16 = .ok (.iload_n 1, 1) := by decide +kernel
theorem dX8_mesh_17 : decode cX8_mesh 17 = .ok (.invokevirtual 98, 3) := by decide +kernel
theorem dX8_mesh_20 : decode cX8_mesh 20 = .ok (.goto 4, 3) := by decide +kernel
theorem dX8_mesh_23 : decode cX8_mesh 23 = .ok (.iconst (-1), 1) := by decide +kernel
theorem dX8_mesh_24 : decode cX8_mesh 24 = .ok (.ireturn, 1) := by decide +kernel
theorem dX8_person_0 : decode cX8_person 0 = .ok (.aload_n 0, 1) := by decide +kernel
theorem dX8_person_1 : decode cX8_person 1 = .ok (.getfield 10, 3) := by decide +kernel
theorem dX8_person_4 : decode cX8_person 4 = .ok (.bipush 6, 2) := by decide +kernel
theorem dX8_person_6 : decode cX8_person 6 = .ok (.iload_n 1, 1) := by decide +kernel
theorem dX8_person_7 : decode cX8_person 7 = .ok (.invokevirtual 76, 3) := by decide +kernel
theorem dX8_person_10 : decode cX8_person 10 = .ok (.ifCond .eq 14, 3) := by decide +kernel
theorem dX8_person_13 : decode cX8_person 13 = .ok (.aload_n 0, 1) := by decide +kernel
theorem dX8_person_14 : decode cX8_person 14 = .ok (.getfield 10, 3) := by decide +kernel
theorem dX8_person_17 : decode cX8_person 17 = .ok (.iload_n 1, 1) := by decide +kernel
theorem dX8_person_18 : decode cX8_person 18 = .ok (.invokevirtual 101, 3) := by decide +kernel
theorem dX8_person_21 : decode cX8_person 21 = .ok (.goto 4, 3) := by decide +kernel
theorem dX8_person_24 : decode cX8_person 24 = .ok (.iconst (-1), 1) := by decide +kernel
theorem dX8_person_25 : decode cX8_person 25 = .ok (.ireturn, 1) := by decide +kernel
theorem dX8_mend_0 : decode cX8_mend 0 = .ok (.aload_n 0, 1) := by decide +kernel
theorem dX8_mend_1 : decode cX8_mend 1 = .ok (.getfield 10, 3) := by decide +kernel
theorem dX8_mend_4 : decode cX8_mend 4 = .ok (.iload_n 1, 1) := by decide +kernel
theorem dX8_mend_5 : decode cX8_mend 5 = .ok (.iload_n 2, 1) := by decide +kernel
theorem dX8_mend_6 : decode cX8_mend 6 = .ok (.invokevirtual 104, 3) := by decide +kernel
theorem dX8_mend_9 : decode cX8_mend 9 = .ok (.ifCond .eq 15, 3) := by decide +kernel
theorem dX8_mend_12 : decode cX8_mend 12 = .ok (.aload_n 0, 1) := by decide +kernel
theorem dX8_mend_13 : decode cX8_mend 13 = .ok (.getfield 10, 3) := by decide +kernel
theorem dX8_mend_16 : decode cX8_mend 16 = .ok (.iload_n 2, 1) := by decide +kernel
theorem dX8_mend_17 : decode cX8_mend 17 = .ok (.iload_n 3, 1) := by decide +kernel
theorem dX8_mend_18 : decode cX8_mend 18 = .ok (.invokevirtual 76, 3) := by decide +kernel
theorem dX8_mend_21 : decode cX8_mend 21 = .ok (.ifCond .ne 5, 3) := by decide +kernel
theorem dX8_mend_24 : decode cX8_mend 24 = .ok (.iconst (-1), 1) := by decide +kernel
theorem dX8_mend_25 : decode cX8_mend 25 = .ok (.ireturn, 1) := by decide +kernel
theorem dX8_mend_26 : decode cX8_mend 26 = .ok (.aload_n 0, 1) := by decide +kernel
theorem dX8_mend_27 : decode cX8_mend 27 = .ok (.getfield 10, 3) := by decide +kernel
theorem dX8_mend_30 : decode cX8_mend 30 = .ok (.iload_n 1, 1) := by decide +kernel
theorem dX8_mend_31 : decode cX8_mend 31 = .ok (.iload_n 2, 1) := by decide +kernel
theorem dX8_mend_32 : decode cX8_mend 32 = .ok (.invokevirtual 107, 3) := by decide +kernel
theorem dX8_mend_35 : decode cX8_mend 35 = .ok (.istore 4, 2) := by decide +kernel
theorem dX8_mend_37 : decode cX8_mend 37 = .ok (.iload 4, 2) := by decide +kernel
theorem dX8_mend_39 : decode cX8_mend 39 = .ok (.iload_n 3, 1) := by decide +kernel
theorem dX8_mend_40 : decode cX8_mend 40 = .ok (.if_icmp .eq 25, 3) := by decide +kernel
theorem dX8_mend_43 : decode cX8_mend 43 = .ok (.aload_n 0, 1) := by decide +kernel
theorem dX8_mend_44 : decode cX8_mend 44 = .ok (.getfield 10, 3) := by decide +kernel
theorem dX8_mend_47 : decode cX8_mend 47 = .ok (.iload_n 1, 1) := by decide +kernel
theorem dX8_mend_48 : decode cX8_mend 48 = .ok (.iload_n 2, 1) := by decide +kernel
theorem dX8_mend_49 : decode cX8_mend 49 = .ok (.iload_n 3, 1) := by decide +kernel
theorem dX8_mend_50 : decode cX8_mend 50 = .ok (.invokevirtual 111, 3) := by decide +kernel
theorem dX8_mend_53 : decode cX8_mend 53 = .ok (.aload_n 0, 1) := by decide +kernel
theorem dX8_mend_54 : decode cX8_mend 54 = .ok (.getfield 19, 3) := by decide +kernel
theorem dX8_mend_57 : decode cX8_mend 57 = .ok (.iload_n 1, 1) := by decide +kernel
theorem dX8_mend_58 : decode cX8_mend 58 = .ok (.iload_n 2, 1) := by decide +kernel
theorem dX8_mend_59 : decode cX8_mend 59 = .ok (.iload 4, 2) := by decide +kernel
theorem dX8_mend_61 : decode cX8_mend 61 = .ok (.iload_n 3, 1) := by decide +kernel
theorem dX8_mend_62 : decode cX8_mend 62 = .ok (.invokevirtual 115, 3) := by decide +kernel
theorem dX8_mend_65 : decode cX8_mend 65 = .ok (.iload 4, 2) := by decide +kernel
theorem dX8_mend_67 : decode cX8_mend 67 = .ok (.ireturn, 1) := by decide +kernel
theorem dX8_of_0 : decode cX8_of 0 = .ok (.iload_n 2, 1) := by decide +kernel
theorem dX8_of_1 : decode cX8_of 1 = .ok (.bipush 8, 2) := by decide +kernel
theorem dX8_of_3 : decode cX8_of 3 = .ok (.if_icmp .eq 9, 3) := by decide +kernel
theorem dX8_of_6 : decode cX8_of 6 = .ok (.iload_n 2, 1) := by decide +kernel
theorem dX8_of_7 : decode cX8_of 7 = .ok (.bipush 9, 2) := by decide +kernel
theorem dX8_of_9 : decode cX8_of 9 = .ok (.if_icmp .ne 39, 3) := by decide +kernel
theorem dX8_of_12 : decode cX8_of 12 = .ok (.aload_n 0, 1) := by decide +kernel
theorem dX8_of_13 : decode cX8_of 13 = .ok (.iload_n 1, 1) := by decide +kernel
theorem dX8_of_14 : decode cX8_of 14 = .ok (.invokevirtual 119, 3) := by decide +kernel
theorem dX8_of_17 : decode cX8_of 17 = .ok (.ifCond .ne 5, 3) := by decide +kernel
theorem dX8_of_20 : decode cX8_of 20 = .ok (.iconst (-1), 1) := by decide +kernel
theorem dX8_of_21 : decode cX8_of 21 = .ok (.ireturn, 1) := by decide +kernel
theorem dX8_of_22 : decode cX8_of 22 = .ok (.iload_n 2, 1) := by decide +kernel
theorem dX8_of_23 : decode cX8_of 23 = .ok (.bipush 8, 2) := by decide +kernel
theorem dX8_of_25 : decode cX8_of 25 = .ok (.if_icmp .ne 14, 3) := by decide +kernel
theorem dX8_of_28 : decode cX8_of 28 = .ok (.aload_n 0, 1) := by decide +kernel
theorem dX8_of_29 : decode cX8_of 29 = .ok (.getfield 58, 3) := by decide +kernel
theorem dX8_of_32 : decode cX8_of 32 = .ok (.iload_n 1, 1) := by decide +kernel
theorem dX8_of_33 : decode cX8_of 33 = .ok (.invokevirtual 122, 3) := by decide +kernel
theorem dX8_of_36 : decode cX8_of 36 = .ok (.goto 11, 3) := by decide +kernel
theorem dX8_of_39 : decode cX8_of 39 = .ok (.aload_n 0, 1) := by decide +kernel
theorem dX8_of_40 : decode cX8_of 40 = .ok (.getfield 58, 3) := by decide +kernel
theorem dX8_of_43 : decode cX8_of 43 = .ok (.iload_n 1, 1) := by decide +kernel
theorem dX8_of_44 : decode cX8_of 44 = .ok (.invokevirtual 125, 3) := by decide +kernel
theorem dX8_of_47 : decode cX8_of 47 = .ok (.ireturn, 1) := by decide +kernel
theorem dX8_of_48 : decode cX8_of 48 = .ok (.aload_n 0, 1) := by decide +kernel
theorem dX8_of_49 : decode cX8_of 49 = .ok (.getfield 10, 3) := by decide +kernel
theorem dX8_of_52 : decode cX8_of 52 = .ok (.iload_n 1, 1) := by decide +kernel
theorem dX8_of_53 : decode cX8_of 53 = .ok (.iload_n 2, 1) := by decide +kernel
theorem dX8_of_54 : decode cX8_of 54 = .ok (.invokevirtual 104, 3) := by decide +kernel
theorem dX8_of_57 : decode cX8_of 57 = .ok (.ifCond .eq 15, 3) := by decide +kernel
theorem dX8_of_60 : decode cX8_of 60 = .ok (.aload_n 0, 1) := by decide +kernel
theorem dX8_of_61 : decode cX8_of 61 = .ok (.getfield 10, 3) := by decide +kernel
theorem dX8_of_64 : decode cX8_of 64 = .ok (.iload_n 1, 1) := by decide +kernel
theorem dX8_of_65 : decode cX8_of 65 = .ok (.iload_n 2, 1) := by decide +kernel
theorem dX8_of_66 : decode cX8_of 66 = .ok (.invokevirtual 107, 3) := by decide +kernel
theorem dX8_of_69 : decode cX8_of 69 = .ok (.goto 4, 3) := by decide +kernel
theorem dX8_of_72 : decode cX8_of 72 = .ok (.iconst (-1), 1) := by decide +kernel
theorem dX8_of_73 : decode cX8_of 73 = .ok (.ireturn, 1) := by decide +kernel
theorem dX8_feed_0 : decode cX8_feed 0 = .ok (.iload_n 1, 1) := by decide +kernel
theorem dX8_feed_1 : decode cX8_feed 1 = .ok (.ifCond .lt 10, 3) := by decide +kernel
theorem dX8_feed_4 : decode cX8_feed 4 = .ok (.iload_n 1, 1) := by decide +kernel
theorem dX8_feed_5 : decode cX8_feed 5 = .ok (.sipush 255, 3) := by decide +kernel
theorem dX8_feed_8 : decode cX8_feed 8 = .ok (.if_icmp .le 7, 3) := by decide +kernel
theorem dX8_feed_11 : decode cX8_feed 11 = .ok (.iconst (-1), 1) := by decide +kernel
theorem dX8_feed_12 : decode cX8_feed 12 = .ok (.goto 11, 3) := by decide +kernel
theorem dX8_feed_15 : decode cX8_feed 15 = .ok (.aload_n 0, 1) := by decide +kernel
theorem dX8_feed_16 : decode cX8_feed 16 = .ok (.getfield 26, 3) := by decide +kernel
theorem dX8_feed_19 : decode cX8_feed 19 = .ok (.iload_n 1, 1) := by decide +kernel
theorem dX8_feed_20 : decode cX8_feed 20 = .ok (.invokevirtual 128, 3) := by decide +kernel
theorem dX8_feed_23 : decode cX8_feed 23 = .ok (.ireturn, 1) := by decide +kernel
theorem dX8_law_0 : decode cX8_law 0 = .ok (.aload_n 0, 1) := by decide +kernel
theorem dX8_law_1 : decode cX8_law 1 = .ok (.getfield 26, 3) := by decide +kernel
theorem dX8_law_4 : decode cX8_law 4 = .ok (.invokevirtual 131, 3) := by decide +kernel
theorem dX8_law_7 : decode cX8_law 7 = .ok (.ireturn, 1) := by decide +kernel
theorem dX8_lets_0 : decode cX8_lets 0 = .ok (.iload_n 1, 1) := by decide +kernel
theorem dX8_lets_1 : decode cX8_lets 1 = .ok (.ifCond .lt 14, 3) := by decide +kernel
theorem dX8_lets_4 : decode cX8_lets 4 = .ok (.iload_n 2, 1) := by decide +kernel
theorem dX8_lets_5 : decode cX8_lets 5 = .ok (.ifCond .lt 10, 3) := by decide +kernel
theorem dX8_lets_8 : decode cX8_lets 8 = .ok (.iload_n 2, 1) := by decide +kernel
theorem dX8_lets_9 : decode cX8_lets 9 = .ok (.sipush 9999, 3) := by decide +kernel
theorem dX8_lets_12 : decode cX8_lets 12 = .ok (.if_icmp .le 5, 3) := by decide +kernel
theorem dX8_lets_15 : decode cX8_lets 15 = .ok (.iconst (-1), 1) := by decide +kernel
theorem dX8_lets_16 : decode cX8_lets 16 = .ok (.ireturn, 1) := by decide +kernel
theorem dX8_lets_17 : decode cX8_lets 17 = .ok (.iload_n 1, 1) := by decide +kernel
theorem dX8_lets_18 : decode cX8_lets 18 = .ok (.bipush 10, 2) := by decide +kernel
theorem dX8_lets_20 : decode cX8_lets 20 = .ok (.idiv, 1) := by decide +kernel
theorem dX8_lets_21 : decode cX8_lets 21 = .ok (.istore_n 3, 1) := by decide +kernel
theorem dX8_lets_22 : decode cX8_lets 22 = .ok (.iload_n 1, 1) := by decide +kernel
theorem dX8_lets_23 : decode cX8_lets 23 = .ok (.bipush 10, 2) := by decide +kernel
theorem dX8_lets_25 : decode cX8_lets 25 = .ok (.irem, 1) := by decide +kernel
theorem dX8_lets_26 : decode cX8_lets 26 = .ok (.istore 4, 2) := by decide +kernel
theorem dX8_lets_28 : decode cX8_lets 28 = .ok (.iload_n 3, 1) := by decide +kernel
theorem dX8_lets_29 : decode cX8_lets 29 = .ok (.aload_n 0, 1) := by decide +kernel
theorem dX8_lets_30 : decode cX8_lets 30 = .ok (.getfield 10, 3) := by decide +kernel
theorem dX8_lets_33 : decode cX8_lets 33 = .ok (.getfield 135, 3) := by decide +kernel
theorem dX8_lets_36 : decode cX8_lets 36 = .ok (.if_icmp .ge 12, 3) := by decide +kernel
theorem dX8_lets_39 : decode cX8_lets 39 = .ok (.aload_n 0, 1) := by decide +kernel
theorem dX8_lets_40 : decode cX8_lets 40 = .ok (.iload 4, 2) := by decide +kernel
theorem dX8_lets_42 : decode cX8_lets 42 = .ok (.invokevirtual 119, 3) := by decide +kernel
theorem dX8_lets_45 : decode cX8_lets 45 = .ok (.ifCond .ne 5, 3) := by decide +kernel
theorem dX8_lets_48 : decode cX8_lets 48 = .ok (.iconst (-1), 1) := by decide +kernel
theorem dX8_lets_49 : decode cX8_lets 49 = .ok (.ireturn, 1) := by decide +kernel
theorem dX8_lets_50 : decode cX8_lets 50 = .ok (.aload_n 0, 1) := by decide +kernel
theorem dX8_lets_51 : decode cX8_lets 51 = .ok (.getfield 42, 3) := by decide +kernel
theorem dX8_lets_54 : decode cX8_lets 54 = .ok (.iload_n 3, 1) := by decide +kernel
theorem dX8_lets_55 : decode cX8_lets 55 = .ok (.aload_n 0, 1) := by decide +kernel
theorem dX8_lets_56 : decode cX8_lets 56 = .ok (.iload 4, 2) := by decide +kernel
theorem dX8_lets_58 : decode cX8_lets 58 = .ok (.invokevirtual 139, 3) := by decide +kernel
theorem dX8_lets_61 : decode cX8_lets 61 = .ok (.iload_n 2, 1) := by decide +kernel
theorem dX8_lets_62 : decode cX8_lets 62 = .ok (.bipush 100, 2) := by decide +kernel
theorem dX8_lets_64 : decode cX8_lets 64 = .ok (.idiv, 1) := by decide +kernel
theorem dX8_lets_65 : decode cX8_lets 65 = .ok (.iload_n 2, 1) := by decide +kernel
theorem dX8_lets_66 : decode cX8_lets 66 = .ok (.bipush 100, 2) := by decide +kernel
theorem dX8_lets_68 : decode cX8_lets 68 = .ok (.irem, 1) := by decide +kernel
theorem dX8_lets_69 : decode cX8_lets 69 = .ok (.invokevirtual 142, 3) := by decide +kernel
theorem dX8_lets_72 : decode cX8_lets 72 = .ok (.ifCond .eq 7, 3) := by decide +kernel
theorem dX8_lets_75 : decode cX8_lets 75 = .ok (.iconst 1, 1) := by decide +kernel
theorem dX8_lets_76 : decode cX8_lets 76 = .ok (.goto 4, 3) := by decide +kernel
theorem dX8_lets_79 : decode cX8_lets 79 = .ok (.iconst 0, 1) := by decide +kernel
theorem dX8_lets_80 : decode cX8_lets 80 = .ok (.ireturn, 1) := by decide +kernel
theorem dX8_through_0 : decode cX8_through 0 = .ok (.iload_n 3, 1) := by decide +kernel
theorem dX8_through_1 : decode cX8_through 1 = .ok (.ifCond .lt 8, 3) := by decide +kernel
theorem dX8_through_4 : decode cX8_through 4 = .ok (.iload_n 3, 1) := by decide +kernel
theorem dX8_through_5 : decode cX8_through 5 = .ok (.iconst 5, 1) := by decide +kernel
theorem dX8_through_6 : decode cX8_through 6 = .ok (.if_icmp .le 5, 3) := by decide +kernel
theorem dX8_through_9 : decode cX8_through 9 = .ok (.iconst (-1), 1) := by decide +kernel
theorem dX8_through_10 : decode cX8_through 10 = .ok (.ireturn, 1) := by decide +kernel
theorem dX8_through_11 : decode cX8_through 11 = .ok (.aload_n 0, 1) := by decide +kernel
theorem dX8_through_12 : decode cX8_through 12 = .ok (.iload_n 1, 1) := by decide +kernel
theorem dX8_through_13 : decode cX8_through 13 = .ok (.iload_n 2, 1) := by decide +kernel
theorem dX8_through_14 : decode cX8_through 14 = .ok (.invokevirtual 146, 3) := by decide +kernel
theorem dX8_through_17 : decode cX8_through 17 = .ok (.istore 4, 2) := by decide +kernel
theorem dX8_through_19 : decode cX8_through 19 = .ok (.iload 4, 2) := by decide +kernel
theorem dX8_through_21 : decode cX8_through 21 = .ok (.ifCond .ge 6, 3) := by decide +kernel
theorem dX8_through_24 : decode cX8_through 24 = .ok (.iload 4, 2) := by decide +kernel
theorem dX8_through_26 : decode cX8_through 26 = .ok (.ireturn, 1) := by decide +kernel
theorem dX8_through_27 : decode cX8_through 27 = .ok (.aload_n 0, 1) := by decide +kernel
theorem dX8_through_28 : decode cX8_through 28 = .ok (.getfield 42, 3) := by decide +kernel
theorem dX8_through_31 : decode cX8_through 31 = .ok (.aload_n 0, 1) := by decide +kernel
theorem dX8_through_32 : decode cX8_through 32 = .ok (.getfield 69, 3) := by decide +kernel
theorem dX8_through_35 : decode cX8_through 35 = .ok (.iload 4, 2) := by decide +kernel
theorem dX8_through_37 : decode cX8_through 37 = .ok (.aload_n 0, 1) := by decide +kernel
theorem dX8_through_38 : decode cX8_through 38 = .ok (.iload_n 2, 1) := by decide +kernel
theorem dX8_through_39 : decode cX8_through 39 = .ok (.invokevirtual 139, 3) := by decide +kernel
theorem dX8_through_42 : decode cX8_through 42 = .ok (.iconst 0, 1) := by decide +kernel
theorem dX8_through_43 : decode cX8_through 43 = .ok (.invokevirtual 149, 3) := by decide +kernel
theorem dX8_through_46 : decode cX8_through 46 = .ok (.iload_n 3, 1) := by decide +kernel
theorem dX8_through_47 : decode cX8_through 47 = .ok (.tableswitch 115 0 4 #[33, 41, 49, 79, 101], 33) := by decide +kernel
theorem dX8_through_80 : decode cX8_through 80 = .ok (.aload_n 0, 1) := by decide +kernel
theorem dX8_through_81 : decode cX8_through 81 = .ok (.getfield 42, 3) := by decide +kernel
theorem dX8_through_84 : decode cX8_through 84 = .ok (.getfield 153, 3) := by decide +kernel
theorem dX8_through_87 : decode cX8_through 87 = .ok (.ireturn, 1) := by decide +kernel
theorem dX8_through_88 : decode cX8_through 88 = .ok (.aload_n 0, 1) := by decide +kernel
theorem dX8_through_89 : decode cX8_through 89 = .ok (.getfield 42, 3) := by decide +kernel
theorem dX8_through_92 : decode cX8_through 92 = .ok (.getfield 156, 3) := by decide +kernel
theorem dX8_through_95 : decode cX8_through 95 = .ok (.ireturn, 1) := by decide +kernel
theorem dX8_through_96 : decode cX8_through 96 = .ok (.aload_n 0, 1) := by decide +kernel
theorem dX8_through_97 : decode cX8_through 97 = .ok (.getfield 42, 3) := by decide +kernel
theorem dX8_through_100 : decode cX8_through 100 = .ok (.aload_n 0, 1) := by decide +kernel
theorem dX8_through_101 : decode cX8_through 101 = .ok (.getfield 42, 3) := by decide +kernel
theorem dX8_through_104 : decode cX8_through 104 = .ok (.getfield 159, 3) := by decide +kernel
theorem dX8_through_107 : decode cX8_through 107 = .ok (.aload_n 0, 1) := by decide +kernel
theorem dX8_through_108 : decode cX8_through 108 = .ok (.getfield 42, 3) := by decide +kernel
theorem dX8_through_111 : decode cX8_through 111 = .ok (.getfield 153, 3) := by decide +kernel
theorem dX8_through_114 : decode cX8_through 114 = .ok (.invokevirtual 162, 3) := by decide +kernel
theorem dX8_through_117 : decode cX8_through 117 = .ok (.ifCond .eq 7, 3) := by decide +kernel
theorem dX8_through_120 : decode cX8_through 120 = .ok (.iconst 1, 1) := by decide +kernel
theorem dX8_through_121 : decode cX8_through 121 = .ok (.goto 4, 3) := by decide +kernel
theorem dX8_through_124 : decode cX8_through 124 = .ok (.iconst 0, 1) := by decide +kernel
theorem dX8_through_125 : decode cX8_through 125 = .ok (.ireturn, 1) := by decide +kernel
theorem dX8_through_126 : decode cX8_through 126 = .ok (.aload_n 0, 1) := by decide +kernel
theorem dX8_through_127 : decode cX8_through 127 = .ok (.getfield 42, 3) := by decide +kernel
theorem dX8_through_130 : decode cX8_through 130 = .ok (.aload_n 0, 1) := by decide +kernel
theorem dX8_through_131 : decode cX8_through 131 = .ok (.getfield 42, 3) := by decide +kernel
theorem dX8_through_134 : decode cX8_through 134 = .ok (.getfield 159, 3) := by decide +kernel
theorem dX8_through_137 : decode cX8_through 137 = .ok (.aload_n 0, 1) := by decide +kernel
theorem dX8_through_138 : decode cX8_through 138 = .ok (.getfield 42, 3) := by decide +kernel
theorem dX8_through_141 : decode cX8_through 141 = .ok (.getfield 153, 3) := by decide +kernel
theorem dX8_through_144 : decode cX8_through 144 = .ok (.invokevirtual 166, 3) := by decide +kernel
theorem dX8_through_147 : decode cX8_through 147 = .ok (.ireturn, 1) := by decide +kernel
theorem dX8_through_148 : decode cX8_through 148 = .ok (.aload_n 0, 1) := by decide +kernel
theorem dX8_through_149 : decode cX8_through 149 = .ok (.getfield 42, 3) := by decide +kernel
theorem dX8_through_152 : decode cX8_through 152 = .ok (.aload_n 0, 1) := by decide +kernel
theorem dX8_through_153 : decode cX8_through 153 = .ok (.getfield 69, 3) := by decide +kernel
theorem dX8_through_156 : decode cX8_through 156 = .ok (.iload 4, 2) := by decide +kernel
theorem dX8_through_158 : decode cX8_through 158 = .ok (.invokevirtual 166, 3) := by decide +kernel
theorem dX8_through_161 : decode cX8_through 161 = .ok (.ireturn, 1) := by decide +kernel
theorem dX8_through_162 : decode cX8_through 162 = .ok (.aload_n 0, 1) := by decide +kernel
theorem dX8_through_163 : decode cX8_through 163 = .ok (.getfield 42, 3) := by decide +kernel
theorem dX8_through_166 : decode cX8_through 166 = .ok (.aload_n 0, 1) := by decide +kernel
theorem dX8_through_167 : decode cX8_through 167 = .ok (.getfield 42, 3) := by decide +kernel
theorem dX8_through_170 : decode cX8_through 170 = .ok (.getfield 170, 3) := by decide +kernel
theorem dX8_through_173 : decode cX8_through 173 = .ok (.aload_n 0, 1) := by decide +kernel
theorem dX8_through_174 : decode cX8_through 174 = .ok (.getfield 42, 3) := by decide +kernel
theorem dX8_through_177 : decode cX8_through 177 = .ok (.getfield 156, 3) := by decide +kernel
theorem dX8_through_180 : decode cX8_through 180 = .ok (.iconst 1, 1) := by decide +kernel
theorem dX8_through_181 : decode cX8_through 181 = .ok (.invokevirtual 173, 3) := by decide +kernel
theorem dX8_through_184 : decode cX8_through 184 = .ok (.ireturn, 1) := by decide +kernel
theorem dX8_nth_0 : decode cX8_nth 0 = .ok (.iload_n 3, 1) := by decide +kernel
theorem dX8_nth_1 : decode cX8_nth 1 = .ok (.ifCond .lt 14, 3) := by decide +kernel
theorem dX8_nth_4 : decode cX8_nth 4 = .ok (.iload 4, 2) := by decide +kernel
theorem dX8_nth_6 : decode cX8_nth 6 = .ok (.ifCond .lt 9, 3) := by decide +kernel
theorem dX8_nth_9 : decode cX8_nth 9 = .ok (.iload 4, 2) := by decide +kernel
theorem dX8_nth_11 : decode cX8_nth 11 = .ok (.iconst 1, 1) := by decide +kernel
theorem dX8_nth_12 : decode cX8_nth 12 = .ok (.if_icmp .le 5, 3) := by decide +kernel
theorem dX8_nth_15 : decode cX8_nth 15 = .ok (.iconst (-1), 1) := by decide +kernel
theorem dX8_nth_16 : decode cX8_nth 16 = .ok (.ireturn, 1) := by decide +kernel
theorem dX8_nth_17 : decode cX8_nth 17 = .ok (.aload_n 0, 1) := by decide +kernel
theorem dX8_nth_18 : decode cX8_nth 18 = .ok (.iload_n 1, 1) := by decide +kernel
theorem dX8_nth_19 : decode cX8_nth 19 = .ok (.iload_n 2, 1) := by decide +kernel
theorem dX8_nth_20 : decode cX8_nth 20 = .ok (.invokevirtual 146, 3) := by decide +kernel
theorem dX8_nth_23 : decode cX8_nth 23 = .ok (.istore 5, 2) := by decide +kernel
theorem dX8_nth_25 : decode cX8_nth 25 = .ok (.iload 5, 2) := by decide +kernel
theorem dX8_nth_27 : decode cX8_nth 27 = .ok (.ifCond .ge 6, 3) := by decide +kernel
theorem dX8_nth_30 : decode cX8_nth 30 = .ok (.iload 5, 2) := by decide +kernel
theorem dX8_nth_32 : decode cX8_nth 32 = .ok (.ireturn, 1) := by decide +kernel
theorem dX8_nth_33 : decode cX8_nth 33 = .ok (.aload_n 0, 1) := by decide +kernel
theorem dX8_nth_34 : decode cX8_nth 34 = .ok (.getfield 42, 3) := by decide +kernel
theorem dX8_nth_37 : decode cX8_nth 37 = .ok (.aload_n 0, 1) := by decide +kernel
theorem dX8_nth_38 : decode cX8_nth 38 = .ok (.getfield 69, 3) := by decide +kernel
theorem dX8_nth_41 : decode cX8_nth 41 = .ok (.iload 5, 2) := by decide +kernel
theorem dX8_nth_43 : decode cX8_nth 43 = .ok (.aload_n 0, 1) := by decide +kernel
theorem dX8_nth_44 : decode cX8_nth 44 = .ok (.iload_n 2, 1) := by decide +kernel
theorem dX8_nth_45 : decode cX8_nth 45 = .ok (.invokevirtual 139, 3) := by decide +kernel
theorem dX8_nth_48 : decode cX8_nth 48 = .ok (.iconst 0, 1) := by decide +kernel
theorem dX8_nth_49 : decode cX8_nth 49 = .ok (.invokevirtual 149, 3) := by decide +kernel
theorem dX8_nth_52 : decode cX8_nth 52 = .ok (.iload 4, 2) := by decide +kernel
theorem dX8_nth_54 : decode cX8_nth 54 = .ok (.ifCond .ne 13, 3) := by decide +kernel
theorem dX8_nth_57 : decode cX8_nth 57 = .ok (.aload_n 0, 1) := by decide +kernel
theorem dX8_nth_58 : decode cX8_nth 58 = .ok (.getfield 42, 3) := by decide +kernel
theorem dX8_nth_61 : decode cX8_nth 61 = .ok (.getfield 153, 3) := by decide +kernel
theorem dX8_nth_64 : decode cX8_nth 64 = .ok (.goto 10, 3) := by decide +kernel
theorem dX8_nth_67 : decode cX8_nth 67 = .ok (.aload_n 0, 1) := by decide +kernel
theorem dX8_nth_68 : decode cX8_nth 68 = .ok (.getfield 42, 3) := by decide +kernel
theorem dX8_nth_71 : decode cX8_nth 71 = .ok (.getfield 156, 3) := by decide +kernel
theorem dX8_nth_74 : decode cX8_nth 74 = .ok (.istore 6, 2) := by decide +kernel
theorem dX8_nth_76 : decode cX8_nth 76 = .ok (.iload_n 3, 1) := by decide +kernel
theorem dX8_nth_77 : decode cX8_nth 77 = .ok (.iload 6, 2) := by decide +kernel
theorem dX8_nth_79 : decode cX8_nth 79 = .ok (.if_icmp .ge 9, 3) := by decide +kernel
theorem dX8_nth_82 : decode cX8_nth 82 = .ok (.iload_n 3, 1) := by decide +kernel
theorem dX8_nth_83 : decode cX8_nth 83 = .ok (.bipush 12, 2) := by decide +kernel
theorem dX8_nth_85 : decode cX8_nth 85 = .ok (.if_icmp .lt 6, 3) := by decide +kernel
theorem dX8_nth_88 : decode cX8_nth 88 = .ok (.bipush (-2), 2) := by decide +kernel
theorem dX8_nth_90 : decode cX8_nth 90 = .ok (.ireturn, 1) := by decide +kernel
theorem dX8_nth_91 : decode cX8_nth 91 = .ok (.iload 4, 2) := by decide +kernel
theorem dX8_nth_93 : decode cX8_nth 93 = .ok (.ifCond .ne 15, 3) := by decide +kernel
theorem dX8_nth_96 : decode cX8_nth 96 = .ok (.aload_n 0, 1) := by decide +kernel
theorem dX8_nth_97 : decode cX8_nth 97 = .ok (.getfield 42, 3) := by decide +kernel
theorem dX8_nth_100 : decode cX8_nth 100 = .ok (.getfield 159, 3) := by decide +kernel
theorem dX8_nth_103 : decode cX8_nth 103 = .ok (.iload_n 3, 1) := by decide +kernel
theorem dX8_nth_104 : decode cX8_nth 104 = .ok (.iaload, 1) := by decide +kernel
theorem dX8_nth_105 : decode cX8_nth 105 = .ok (.goto 12, 3) := by decide +kernel
theorem dX8_nth_108 : decode cX8_nth 108 = .ok (.aload_n 0, 1) := by decide +kernel
theorem dX8_nth_109 : decode cX8_nth 109 = .ok (.getfield 42, 3) := by decide +kernel
theorem dX8_nth_112 : decode cX8_nth 112 = .ok (.getfield 170, 3) := by decide +kernel
theorem dX8_nth_115 : decode cX8_nth 115 = .ok (.iload_n 3, 1) := by decide +kernel
theorem dX8_nth_116 : decode cX8_nth 116 = .ok (.iaload, 1) := by decide +kernel
theorem dX8_nth_117 : decode cX8_nth 117 = .ok (.ireturn, 1) := by decide +kernel
theorem dX8_several_0 : decode cX8_several 0 = .ok (.iload_n 2, 1) := by decide +kernel
theorem dX8_several_1 : decode cX8_several 1 = .ok (.ifCond .lt 8, 3) := by decide +kernel
theorem dX8_several_4 : decode cX8_several 4 = .ok (.iload_n 2, 1) := by decide +kernel
theorem dX8_several_5 : decode cX8_several 5 = .ok (.iconst 1, 1) := by decide +kernel
theorem dX8_several_6 : decode cX8_several 6 = .ok (.if_icmp .le 5, 3) := by decide +kernel
theorem dX8_several_9 : decode cX8_several 9 = .ok (.iconst (-1), 1) := by decide +kernel
theorem dX8_several_10 : decode cX8_several 10 = .ok (.ireturn, 1) := by decide +kernel
theorem dX8_several_11 : decode cX8_several 11 = .ok (.aload_n 0, 1) := by decide +kernel
theorem dX8_several_12 : decode cX8_several 12 = .ok (.iload_n 1, 1) := by decide +kernel
theorem dX8_several_13 : decode cX8_several 13 = .ok (.invokevirtual 177, 3) := by decide +kernel
theorem dX8_several_16 : decode cX8_several 16 = .ok (.istore_n 3, 1) := by decide +kernel
theorem dX8_several_17 : decode cX8_several 17 = .ok (.iload_n 3, 1) := by decide +kernel
theorem dX8_several_18 : decode cX8_several 18 = .ok (.ifCond .eq 5, 3) := by decide +kernel
theorem dX8_several_21 : decode cX8_several 21 = .ok (.iload_n 3, 1) := by decide +kernel
theorem dX8_several_22 : decode cX8_several 22 = .ok (.ireturn, 1) := by decide +kernel
theorem dX8_several_23 : decode cX8_several 23 = .ok (.aload_n 0, 1) := by decide +kernel
theorem dX8_several_24 : decode cX8_several 24 = .ok (.iload_n 1, 1) := by decide +kernel
theorem dX8_several_25 : decode cX8_several 25 = .ok (.bipush 10, 2) := by decide +kernel
theorem dX8_several_27 : decode cX8_several 27 = .ok (.idiv, 1) := by decide +kernel
theorem dX8_several_28 : decode cX8_several 28 = .ok (.aload_n 0, 1) := by decide +kernel
theorem dX8_several_29 : decode cX8_several 29 = .ok (.getfield 69, 3) := by decide +kernel
theorem dX8_several_32 : decode cX8_several 32 = .ok (.invokevirtual 180, 3) := by decide +kernel
theorem dX8_several_35 : decode cX8_several 35 = .ok (.istore 4, 2) := by decide +kernel
theorem dX8_several_37 : decode cX8_several 37 = .ok (.iconst 0, 1) := by decide +kernel
theorem dX8_several_38 : decode cX8_several 38 = .ok (.istore 5, 2) := by decide +kernel
theorem dX8_several_40 : decode cX8_several 40 = .ok (.iload_n 1, 1) := by decide +kernel
theorem dX8_several_41 : decode cX8_several 41 = .ok (.bipush 10, 2) := by decide +kernel
theorem dX8_several_43 : decode cX8_several 43 = .ok (.irem, 1) := by decide +kernel
theorem dX8_several_44 : decode cX8_several 44 = .ok (.istore 6, 2) := by decide +kernel
theorem dX8_several_46 : decode cX8_several 46 = .ok (.aload_n 0, 1) := by decide +kernel
theorem dX8_several_47 : decode cX8_several 47 = .ok (.getfield 33, 3) := by decide +kernel
theorem dX8_several_50 : decode cX8_several 50 = .ok (.iload 6, 2) := by decide +kernel
theorem dX8_several_52 : decode cX8_several 52 = .ok (.invokevirtual 92, 3) := by decide +kernel
theorem dX8_several_55 : decode cX8_several 55 = .ok (.istore 7, 2) := by decide +kernel
theorem dX8_several_57 : decode cX8_several 57 = .ok (.iconst 0, 1) := by decide +kernel
theorem dX8_several_58 : decode cX8_several 58 = .ok (.istore 8, 2) := by decide +kernel
theorem dX8_several_60 : decode cX8_several 60 = .ok (.iload 8, 2) := by decide +kernel
theorem dX8_several_62 : decode cX8_several 62 = .ok (.iload 7, 2) := by decide +kernel
theorem dX8_several_64 : decode cX8_several 64 = .ok (.if_icmp .ge 107, 3) := by decide +kernel
theorem dX8_several_67 : decode cX8_several 67 = .ok (.aload_n 0, 1) := by decide +kernel
theorem dX8_several_68 : decode cX8_several 68 = .ok (.getfield 33, 3) := by decide +kernel
theorem dX8_several_71 : decode cX8_several 71 = .ok (.iload 6, 2) := by decide +kernel
theorem dX8_several_73 : decode cX8_several 73 = .ok (.iload 8, 2) := by decide +kernel
theorem dX8_several_75 : decode cX8_several 75 = .ok (.invokevirtual 184, 3) := by decide +kernel
theorem dX8_several_78 : decode cX8_several 78 = .ok (.lstore 9, 2) := by decide +kernel
theorem dX8_several_80 : decode cX8_several 80 = .ok (.lload 9, 2) := by decide +kernel
theorem dX8_several_82 : decode cX8_several 82 = .ok (.lconst 0, 1) := by decide +kernel
theorem dX8_several_83 : decode cX8_several 83 = .ok (.lcmp, 1) := by decide +kernel
theorem dX8_several_84 : decode cX8_several 84 = .ok (.ifCond .lt 87, 3) := by decide +kernel
theorem dX8_several_87 : decode cX8_several 87 = .ok (.lload 9, 2) := by decide +kernel
theorem dX8_several_89 : decode cX8_several 89 = .ok (.aload_n 0, 1) := by decide +kernel
theorem dX8_several_90 : decode cX8_several 90 = .ok (.getfield 10, 3) := by decide +kernel
theorem dX8_several_93 : decode cX8_several 93 = .ok (.getfield 188, 3) := by decide +kernel
theorem dX8_several_96 : decode cX8_several 96 = .ok (.i2l, 1) := by decide +kernel
theorem dX8_several_97 : decode cX8_several 97 = .ok (.lcmp, 1) := by decide +kernel
theorem dX8_several_98 : decode cX8_several 98 = .ok (.ifCond .lt 6, 3) := by decide +kernel
theorem dX8_several_101 : decode cX8_several 101 = .ok (.goto 70, 3) := by decide +kernel
theorem dX8_several_104 : decode cX8_several 104 = .ok (.aload_n 0, 1) := by decide +kernel
theorem dX8_several_105 : decode cX8_several 105 = .ok (.getfield 42, 3) := by decide +kernel
theorem dX8_several_108 : decode cX8_several 108 = .ok (.aload_n 0, 1) := by decide +kernel
theorem dX8_several_109 : decode cX8_several 109 = .ok (.getfield 69, 3) := by decide +kernel
theorem dX8_several_112 : decode cX8_several 112 = .ok (.iload 4, 2) := by decide +kernel
theorem dX8_several_114 : decode cX8_several 114 = .ok (.aload_n 0, 1) := by decide +kernel
theorem dX8_several_115 : decode cX8_several 115 = .ok (.lload 9, 2) := by decide +kernel
theorem dX8_several_117 : decode cX8_several 117 = .ok (.l2i, 1) := by decide +kernel
theorem dX8_several_118 : decode cX8_several 118 = .ok (.invokevirtual 139, 3) := by decide +kernel
theorem dX8_several_121 : decode cX8_several 121 = .ok (.iconst 0, 1) := by decide +kernel
theorem dX8_several_122 : decode cX8_several 122 = .ok (.invokevirtual 149, 3) := by decide +kernel
theorem dX8_several_125 : decode cX8_several 125 = .ok (.iload 5, 2) := by decide +kernel
theorem dX8_several_127 : decode cX8_several 127 = .ok (.aload_n 0, 1) := by decide +kernel
theorem dX8_several_128 : decode cX8_several 128 = .ok (.getfield 42, 3) := by decide +kernel
theorem dX8_several_131 : decode cX8_several 131 = .ok (.aload_n 0, 1) := by decide +kernel
theorem dX8_several_132 : decode cX8_several 132 = .ok (.getfield 42, 3) := by decide +kernel
theorem dX8_several_135 : decode cX8_several 135 = .ok (.getfield 170, 3) := by decide +kernel
theorem dX8_several_138 : decode cX8_several 138 = .ok (.aload_n 0, 1) := by decide +kernel
theorem dX8_several_139 : decode cX8_several 139 = .ok (.getfield 42, 3) := by decide +kernel
theorem dX8_several_142 : decode cX8_several 142 = .ok (.getfield 156, 3) := by decide +kernel
theorem dX8_several_145 : decode cX8_several 145 = .ok (.iconst 1, 1) := by decide +kernel
theorem dX8_several_146 : decode cX8_several 146 = .ok (.invokevirtual 173, 3) := by decide +kernel
theorem dX8_several_149 : decode cX8_several 149 = .ok (.iadd, 1) := by decide +kernel
theorem dX8_several_150 : decode cX8_several 150 = .ok (.istore 5, 2) := by decide +kernel
theorem dX8_several_152 : decode cX8_several 152 = .ok (.aload_n 0, 1) := by decide +kernel
theorem dX8_several_153 : decode cX8_several 153 = .ok (.getfield 42, 3) := by decide +kernel
theorem dX8_several_156 : decode cX8_several 156 = .ok (.aload_n 0, 1) := by decide +kernel
theorem dX8_several_157 : decode cX8_several 157 = .ok (.getfield 69, 3) := by decide +kernel
theorem dX8_several_160 : decode cX8_several 160 = .ok (.invokevirtual 191, 3) := by decide +kernel
theorem dX8_several_163 : decode cX8_several 163 = .ok (.istore 4, 2) := by decide +kernel
theorem dX8_several_165 : decode cX8_several 165 = .ok (.iinc 8 1, 3) := by decide +kernel
theorem dX8_several_168 : decode cX8_several 168 = .ok (.goto (-108), 3) := by decide +kernel
theorem dX8_several_171 : decode cX8_several 171 = .ok (.iload_n 2, 1) := by decide +kernel
theorem dX8_several_172 : decode cX8_several 172 = .ok (.ifCond .ne 8, 3) := by decide +kernel
theorem dX8_several_175 : decode cX8_several 175 = .ok (.iload 4, 2) := by decide +kernel
theorem dX8_several_177 : decode cX8_several 177 = .ok (.goto 5, 3) := by decide +kernel
theorem dX8_several_180 : decode cX8_several 180 = .ok (.iload 5, 2) := by decide +kernel
theorem dX8_several_182 : decode cX8_several 182 = .ok (.ireturn, 1) := by decide +kernel
theorem dX8_say_0 : decode cX8_say 0 = .ok (.iload_n 3, 1) := by decide +kernel
theorem dX8_say_1 : decode cX8_say 1 = .ok (.iconst (-1), 1) := by decide +kernel
theorem dX8_say_2 : decode cX8_say 2 = .ok (.if_icmp .ge 5, 3) := by decide +kernel
theorem dX8_say_5 : decode cX8_say 5 = .ok (.iconst (-1), 1) := by decide +kernel
theorem dX8_say_6 : decode cX8_say 6 = .ok (.ireturn, 1) := by decide +kernel
theorem dX8_say_7 : decode cX8_say 7 = .ok (.aload_n 0, 1) := by decide +kernel
theorem dX8_say_8 : decode cX8_say 8 = .ok (.iload_n 1, 1) := by decide +kernel
theorem dX8_say_9 : decode cX8_say 9 = .ok (.iload_n 2, 1) := by decide +kernel
theorem dX8_say_10 : decode cX8_say 10 = .ok (.invokevirtual 146, 3) := by decide +kernel
theorem dX8_say_13 : decode cX8_say 13 = .ok (.istore 4, 2) := by decide +kernel
theorem dX8_say_15 : decode cX8_say 15 = .ok (.iload 4, 2) := by decide +kernel
theorem dX8_say_17 : decode cX8_say 17 = .ok (.ifCond .ge 6, 3) := by decide +kernel
theorem dX8_say_20 : decode cX8_say 20 = .ok (.iload 4, 2) := by decide +kernel
theorem dX8_say_22 : decode cX8_say 22 = .ok (.ireturn, 1) := by decide +kernel
theorem dX8_say_23 : decode cX8_say 23 = .ok (.aload_n 0, 1) := by decide +kernel
theorem dX8_say_24 : decode cX8_say 24 = .ok (.getfield 51, 3) := by decide +kernel
theorem dX8_say_27 : decode cX8_say 27 = .ok (.aload_n 0, 1) := by decide +kernel
theorem dX8_say_28 : decode cX8_say 28 = .ok (.getfield 69, 3) := by decide +kernel
theorem dX8_say_31 : decode cX8_say 31 = .ok (.iload 4, 2) := by decide +kernel
theorem dX8_say_33 : decode cX8_say 33 = .ok (.aload_n 0, 1) := by decide +kernel
theorem dX8_say_34 : decode cX8_say 34 = .ok (.iload_n 2, 1) := by decide +kernel
theorem dX8_say_35 : decode cX8_say 35 = .ok (.invokevirtual 139, 3) := by decide +kernel
theorem dX8_say_38 : decode cX8_say 38 = .ok (.invokevirtual 195, 3) := by decide +kernel
theorem dX8_say_41 : decode cX8_say 41 = .ok (.istore 5, 2) := by decide +kernel
theorem dX8_say_43 : decode cX8_say 43 = .ok (.iload 5, 2) := by decide +kernel
theorem dX8_say_45 : decode cX8_say 45 = .ok (.ifCond .lt 9, 3) := by decide +kernel
theorem dX8_say_48 : decode cX8_say 48 = .ok (.iload_n 3, 1) := by decide +kernel
theorem dX8_say_49 : decode cX8_say 49 = .ok (.iload 5, 2) := by decide +kernel
theorem dX8_say_51 : decode cX8_say 51 = .ok (.if_icmp .lt 6, 3) := by decide +kernel
theorem dX8_say_54 : decode cX8_say 54 = .ok (.bipush (-2), 2) := by decide +kernel
theorem dX8_say_56 : decode cX8_say 56 = .ok (.ireturn, 1) := by decide +kernel
theorem dX8_say_57 : decode cX8_say 57 = .ok (.iload_n 3, 1) := by decide +kernel
theorem dX8_say_58 : decode cX8_say 58 = .ok (.iconst (-1), 1) := by decide +kernel
theorem dX8_say_59 : decode cX8_say 59 = .ok (.if_icmp .ne 8, 3) := by decide +kernel
theorem dX8_say_62 : decode cX8_say 62 = .ok (.iload 5, 2) := by decide +kernel
theorem dX8_say_64 : decode cX8_say 64 = .ok (.goto 11, 3) := by decide +kernel
theorem dX8_say_67 : decode cX8_say 67 = .ok (.aload_n 0, 1) := by decide +kernel
theorem dX8_say_68 : decode cX8_say 68 = .ok (.getfield 51, 3) := by decide +kernel
theorem dX8_say_71 : decode cX8_say 71 = .ok (.iload_n 3, 1) := by decide +kernel
theorem dX8_say_72 : decode cX8_say 72 = .ok (.invokevirtual 198, 3) := by decide +kernel
theorem dX8_say_75 : decode cX8_say 75 = .ok (.ireturn, 1) := by decide +kernel
theorem dX8_finest_0 : decode cX8_finest 0 = .ok (.aload_n 0, 1) := by decide +kernel
theorem dX8_finest_1 : decode cX8_finest 1 = .ok (.iload_n 1, 1) := by decide +kernel
theorem dX8_finest_2 : decode cX8_finest 2 = .ok (.iconst (-1), 1) := by decide +kernel
theorem dX8_finest_3 : decode cX8_finest 3 = .ok (.invokevirtual 146, 3) := by decide +kernel
theorem dX8_finest_6 : decode cX8_finest 6 = .ok (.istore_n 2, 1) := by decide +kernel
theorem dX8_finest_7 : decode cX8_finest 7 = .ok (.iload_n 2, 1) := by decide +kernel
theorem dX8_finest_8 : decode cX8_finest 8 = .ok (.ifCond .ge 5, 3) := by decide +kernel
theorem dX8_finest_11 : decode cX8_finest 11 = .ok (.iload_n 2, 1) := by decide +kernel
theorem dX8_finest_12 : decode cX8_finest 12 = .ok (.ireturn, 1) := by decide +kernel
theorem dX8_finest_13 : decode cX8_finest 13 = .ok (.bipush 9, 2) := by decide +kernel
theorem dX8_finest_15 : decode cX8_finest 15 = .ok (.istore_n 3, 1) := by decide +kernel
theorem dX8_finest_16 : decode cX8_finest 16 = .ok (.iload_n 3, 1) := by decide +kernel
theorem dX8_finest_17 : decode cX8_finest 17 = .ok (.ifCond .lt 35, 3) := by decide +kernel
theorem dX8_finest_20 : decode cX8_finest 20 = .ok (.aload_n 0, 1) := by decide +kernel
theorem dX8_finest_21 : decode cX8_finest 21 = .ok (.getfield 42, 3) := by decide +kernel
theorem dX8_finest_24 : decode cX8_finest 24 = .ok (.aload_n 0, 1) := by decide +kernel
theorem dX8_finest_25 : decode cX8_finest 25 = .ok (.getfield 69, 3) := by decide +kernel
theorem dX8_finest_28 : decode cX8_finest 28 = .ok (.iload_n 2, 1) := by decide +kernel
theorem dX8_finest_29 : decode cX8_finest 29 = .ok (.iload_n 3, 1) := by decide +kernel
theorem dX8_finest_30 : decode cX8_finest 30 = .ok (.iconst 0, 1) := by decide +kernel
theorem dX8_finest_31 : decode cX8_finest 31 = .ok (.invokevirtual 149, 3) := by decide +kernel
theorem dX8_finest_34 : decode cX8_finest 34 = .ok (.aload_n 0, 1) := by decide +kernel
theorem dX8_finest_35 : decode cX8_finest 35 = .ok (.getfield 42, 3) := by decide +kernel
theorem dX8_finest_38 : decode cX8_finest 38 = .ok (.getfield 156, 3) := by decide +kernel
theorem dX8_finest_41 : decode cX8_finest 41 = .ok (.ifCond .ne 5, 3) := by decide +kernel
theorem dX8_finest_44 : decode cX8_finest 44 = .ok (.iload_n 3, 1) := by decide +kernel
theorem dX8_finest_45 : decode cX8_finest 45 = .ok (.ireturn, 1) := by decide +kernel
theorem dX8_finest_46 : decode cX8_finest 46 = .ok (.iinc 3 (-1), 3) := by decide +kernel
theorem dX8_finest_49 : decode cX8_finest 49 = .ok (.goto (-33), 3) := by decide +kernel
theorem dX8_finest_52 : decode cX8_finest 52 = .ok (.bipush (-2), 2) := by decide +kernel
theorem dX8_finest_54 : decode cX8_finest 54 = .ok (.ireturn, 1) := by decide +kernel
theorem dX8_keeps_0 : decode cX8_keeps 0 = .ok (.iload_n 1, 1) := by decide +kernel
theorem dX8_keeps_1 : decode cX8_keeps 1 = .ok (.ifCond .lt 10, 3) := by decide +kernel
theorem dX8_keeps_4 : decode cX8_keeps 4 = .ok (.iload_n 1, 1) := by decide +kernel
theorem dX8_keeps_5 : decode cX8_keeps 5 = .ok (.sipush 4095, 3) := by decide +kernel
theorem dX8_keeps_8 : decode cX8_keeps 8 = .ok (.if_icmp .le 5, 3) := by decide +kernel
theorem dX8_keeps_11 : decode cX8_keeps 11 = .ok (.iconst (-1), 1) := by decide +kernel
theorem dX8_keeps_12 : decode cX8_keeps 12 = .ok (.ireturn, 1) := by decide +kernel
theorem dX8_keeps_13 : decode cX8_keeps 13 = .ok (.iconst 0, 1) := by decide +kernel
theorem dX8_keeps_14 : decode cX8_keeps 14 = .ok (.istore_n 2, 1) := by decide +kernel
theorem dX8_keeps_15 : decode cX8_keeps 15 = .ok (.iconst 0, 1) := by decide +kernel
theorem dX8_keeps_16 : decode cX8_keeps 16 = .ok (.istore_n 3, 1) := by decide +kernel
theorem dX8_keeps_17 : decode cX8_keeps 17 = .ok (.iload_n 3, 1) := by decide +kernel
theorem dX8_keeps_18 : decode cX8_keeps 18 = .ok (.aload_n 0, 1) := by decide +kernel
theorem dX8_keeps_19 : decode cX8_keeps 19 = .ok (.getfield 10, 3) := by decide +kernel
theorem dX8_keeps_22 : decode cX8_keeps 22 = .ok (.getfield 188, 3) := by decide +kernel
theorem dX8_keeps_25 : decode cX8_keeps 25 = .ok (.if_icmp .ge 31, 3) := by decide +kernel
theorem dX8_keeps_28 : decode cX8_keeps 28 = .ok (.aload_n 0, 1) := by decide +kernel
theorem dX8_keeps_29 : decode cX8_keeps 29 = .ok (.getfield 42, 3) := by decide +kernel
theorem dX8_keeps_32 : decode cX8_keeps 32 = .ok (.iload_n 1, 1) := by decide +kernel
theorem dX8_keeps_33 : decode cX8_keeps 33 = .ok (.aload_n 0, 1) := by decide +kernel
theorem dX8_keeps_34 : decode cX8_keeps 34 = .ok (.iload_n 3, 1) := by decide +kernel
theorem dX8_keeps_35 : decode cX8_keeps 35 = .ok (.invokevirtual 139, 3) := by decide +kernel
theorem dX8_keeps_38 : decode cX8_keeps 38 = .ok (.invokevirtual 201, 3) := by decide +kernel
theorem dX8_keeps_41 : decode cX8_keeps 41 = .ok (.ifCond .eq 9, 3) := by decide +kernel
theorem dX8_keeps_44 : decode cX8_keeps 44 = .ok (.iload_n 2, 1) := by decide +kernel
theorem dX8_keeps_45 : decode cX8_keeps 45 = .ok (.iconst 1, 1) := by decide +kernel
theorem dX8_keeps_46 : decode cX8_keeps 46 = .ok (.iload_n 3, 1) := by decide +kernel
theorem dX8_keeps_47 : decode cX8_keeps 47 = .ok (.ishl, 1) := by decide +kernel
theorem dX8_keeps_48 : decode cX8_keeps 48 = .ok (.ior, 1) := by decide +kernel
theorem dX8_keeps_49 : decode cX8_keeps 49 = .ok (.istore_n 2, 1) := by decide +kernel
theorem dX8_keeps_50 : decode cX8_keeps 50 = .ok (.iinc 3 1, 3) := by decide +kernel
theorem dX8_keeps_53 : decode cX8_keeps 53 = .ok (.goto (-36), 3) := by decide +kernel
theorem dX8_keeps_56 : decode cX8_keeps 56 = .ok (.iload_n 2, 1) := by decide +kernel
theorem dX8_keeps_57 : decode cX8_keeps 57 = .ok (.ireturn, 1) := by decide +kernel
theorem dX8_leastLost_0 : decode cX8_leastLost 0 = .ok (.aload_n 0, 1) := by decide +kernel
theorem dX8_leastLost_1 : decode cX8_leastLost 1 = .ok (.iload_n 1, 1) := by decide +kernel
theorem dX8_leastLost_2 : decode cX8_leastLost 2 = .ok (.iconst (-1), 1) := by decide +kernel
theorem dX8_leastLost_3 : decode cX8_leastLost 3 = .ok (.invokevirtual 146, 3) := by decide +kernel
theorem dX8_leastLost_6 : decode cX8_leastLost 6 = .ok (.istore_n 2, 1) := by decide +kernel
theorem dX8_leastLost_7 : decode cX8_leastLost 7 = .ok (.iload_n 2, 1) := by decide +kernel
theorem dX8_leastLost_8 : decode cX8_leastLost 8 = .ok (.ifCond .ge 5, 3) := by decide +kernel
theorem dX8_leastLost_11 : decode cX8_leastLost 11 = .ok (.iload_n 2, 1) := by decide +kernel
theorem dX8_leastLost_12 : decode cX8_leastLost 12 = .ok (.ireturn, 1) := by decide +kernel
theorem dX8_leastLost_13 : decode cX8_leastLost 13 = .ok (.bipush (-2), 2) := by decide +kernel
theorem dX8_leastLost_15 : decode cX8_leastLost 15 = .ok (.istore_n 3, 1) := by decide +kernel
theorem dX8_leastLost_16 : decode cX8_leastLost 16 = .ok (.iconst 0, 1) := by decide +kernel
theorem dX8_leastLost_17 : decode cX8_leastLost 17 = .ok (.istore 4, 2) := by decide +kernel
theorem dX8_leastLost_19 : decode cX8_leastLost 19 = .ok (.iconst 0, 1) := by decide +kernel
theorem dX8_leastLost_20 : decode cX8_leastLost 20 = .ok (.istore 5, 2) := by decide +kernel
theorem dX8_leastLost_22 : decode cX8_leastLost 22 = .ok (.iload 5, 2) := by decide +kernel
theorem dX8_leastLost_24 : decode cX8_leastLost 24 = .ok (.aload_n 0, 1) := by decide +kernel
theorem dX8_leastLost_25 : decode cX8_leastLost 25 = .ok (.getfield 10, 3) := by decide +kernel
theorem dX8_leastLost_28 : decode cX8_leastLost 28 = .ok (.getfield 188, 3) := by decide +kernel
theorem dX8_leastLost_31 : decode cX8_leastLost 31 = .ok (.if_icmp .ge 96, 3) := by decide +kernel
theorem dX8_leastLost_34 : decode cX8_leastLost 34 = .ok (.aload_n 0, 1) := by decide +kernel
theorem dX8_leastLost_35 : decode cX8_leastLost 35 = .ok (.getfield 42, 3) := by decide +kernel
theorem dX8_leastLost_38 : decode cX8_leastLost 38 = .ok (.aload_n 0, 1) := by decide +kernel
theorem dX8_leastLost_39 : decode cX8_leastLost 39 = .ok (.getfield 69, 3) := by decide +kernel
theorem dX8_leastLost_42 : decode cX8_leastLost 42 = .ok (.iload_n 2, 1) := by decide +kernel
theorem dX8_leastLost_43 : decode cX8_leastLost 43 = .ok (.aload_n 0, 1) := by decide +kernel
theorem dX8_leastLost_44 : decode cX8_leastLost 44 = .ok (.iload 5, 2) := by decide +kernel
theorem dX8_leastLost_46 : decode cX8_leastLost 46 = .ok (.invokevirtual 139, 3) := by decide +kernel
theorem dX8_leastLost_49 : decode cX8_leastLost 49 = .ok (.iconst 0, 1) := by decide +kernel
theorem dX8_leastLost_50 : decode cX8_leastLost 50 = .ok (.invokevirtual 149, 3) := by decide +kernel
theorem dX8_leastLost_53 : decode cX8_leastLost 53 = .ok (.aload_n 0, 1) := by decide +kernel
theorem dX8_leastLost_54 : decode cX8_leastLost 54 = .ok (.getfield 42, 3) := by decide +kernel
theorem dX8_leastLost_57 : decode cX8_leastLost 57 = .ok (.aload_n 0, 1) := by decide +kernel
theorem dX8_leastLost_58 : decode cX8_leastLost 58 = .ok (.getfield 42, 3) := by decide +kernel
theorem dX8_leastLost_61 : decode cX8_leastLost 61 = .ok (.getfield 170, 3) := by decide +kernel
theorem dX8_leastLost_64 : decode cX8_leastLost 64 = .ok (.aload_n 0, 1) := by decide +kernel
theorem dX8_leastLost_65 : decode cX8_leastLost 65 = .ok (.getfield 42, 3) := by decide +kernel
theorem dX8_leastLost_68 : decode cX8_leastLost 68 = .ok (.getfield 156, 3) := by decide +kernel
theorem dX8_leastLost_71 : decode cX8_leastLost 71 = .ok (.iconst 2, 1) := by decide +kernel
theorem dX8_leastLost_72 : decode cX8_leastLost 72 = .ok (.invokevirtual 173, 3) := by decide +kernel
theorem dX8_leastLost_75 : decode cX8_leastLost 75 = .ok (.istore 6, 2) := by decide +kernel
theorem dX8_leastLost_77 : decode cX8_leastLost 77 = .ok (.iload_n 3, 1) := by decide +kernel
theorem dX8_leastLost_78 : decode cX8_leastLost 78 = .ok (.bipush (-2), 2) := by decide +kernel
theorem dX8_leastLost_80 : decode cX8_leastLost 80 = .ok (.if_icmp .eq 10, 3) := by decide +kernel
theorem dX8_leastLost_83 : decode cX8_leastLost 83 = .ok (.iload 6, 2) := by decide +kernel
theorem dX8_leastLost_85 : decode cX8_leastLost 85 = .ok (.iload 4, 2) := by decide +kernel
theorem dX8_leastLost_87 : decode cX8_leastLost 87 = .ok (.if_icmp .ge 34, 3) := by decide +kernel
theorem dX8_leastLost_90 : decode cX8_leastLost 90 = .ok (.aload_n 0, 1) := by decide +kernel
theorem dX8_leastLost_91 : decode cX8_leastLost 91 = .ok (.getfield 42, 3) := by decide +kernel
theorem dX8_leastLost_94 : decode cX8_leastLost 94 = .ok (.aload_n 0, 1) := by decide +kernel
theorem dX8_leastLost_95 : decode cX8_leastLost 95 = .ok (.getfield 42, 3) := by decide +kernel
theorem dX8_leastLost_98 : decode cX8_leastLost 98 = .ok (.getfield 159, 3) := by decide +kernel
theorem dX8_leastLost_101 : decode cX8_leastLost 101 = .ok (.aload_n 0, 1) := by decide +kernel
theorem dX8_leastLost_102 : decode cX8_leastLost 102 = .ok (.getfield 42, 3) := by decide +kernel
theorem dX8_leastLost_105 : decode cX8_leastLost 105 = .ok (.getfield 153, 3) := by decide +kernel
theorem dX8_leastLost_108 : decode cX8_leastLost 108 = .ok (.invokevirtual 166, 3) := by decide +kernel
theorem dX8_leastLost_111 : decode cX8_leastLost 111 = .ok (.ifCond .ne 10, 3) := by decide +kernel
theorem dX8_leastLost_114 : decode cX8_leastLost 114 = .ok (.iload 5, 2) := by decide +kernel
theorem dX8_leastLost_116 : decode cX8_leastLost 116 = .ok (.istore_n 3, 1) := by decide +kernel
theorem dX8_leastLost_117 : decode cX8_leastLost 117 = .ok (.iload 6, 2) := by decide +kernel
theorem dX8_leastLost_119 : decode cX8_leastLost 119 = .ok (.istore 4, 2) := by decide +kernel
theorem dX8_leastLost_121 : decode cX8_leastLost 121 = .ok (.iinc 5 1, 3) := by decide +kernel
theorem dX8_leastLost_124 : decode cX8_leastLost 124 = .ok (.goto (-102), 3) := by decide +kernel
theorem dX8_leastLost_127 : decode cX8_leastLost 127 = .ok (.iload_n 3, 1) := by decide +kernel
theorem dX8_leastLost_128 : decode cX8_leastLost 128 = .ok (.ireturn, 1) := by decide +kernel
theorem dX8_most_0 : decode cX8_most 0 = .ok (.iload_n 1, 1) := by decide +kernel
theorem dX8_most_1 : decode cX8_most 1 = .ok (.ifCond .lt 8, 3) := by decide +kernel
theorem dX8_most_4 : decode cX8_most 4 = .ok (.iload_n 1, 1) := by decide +kernel
theorem dX8_most_5 : decode cX8_most 5 = .ok (.iconst 1, 1) := by decide +kernel
theorem dX8_most_6 : decode cX8_most 6 = .ok (.if_icmp .le 5, 3) := by decide +kernel
theorem dX8_most_9 : decode cX8_most 9 = .ok (.iconst (-1), 1) := by decide +kernel
theorem dX8_most_10 : decode cX8_most 10 = .ok (.ireturn, 1) := by decide +kernel
theorem dX8_most_11 : decode cX8_most 11 = .ok (.aload_n 0, 1) := by decide +kernel
theorem dX8_most_12 : decode cX8_most 12 = .ok (.getfield 51, 3) := by decide +kernel
theorem dX8_most_15 : decode cX8_most 15 = .ok (.invokevirtual 204, 3) := by decide +kernel
theorem dX8_most_18 : decode cX8_most 18 = .ok (.istore_n 2, 1) := by decide +kernel
theorem dX8_most_19 : decode cX8_most 19 = .ok (.iload_n 1, 1) := by decide +kernel
theorem dX8_most_20 : decode cX8_most 20 = .ok (.ifCond .ne 10, 3) := by decide +kernel
theorem dX8_most_23 : decode cX8_most 23 = .ok (.iload_n 2, 1) := by decide +kernel
theorem dX8_most_24 : decode cX8_most 24 = .ok (.invokestatic 207, 3) := by decide +kernel
theorem dX8_most_27 : decode cX8_most 27 = .ok (.goto 4, 3) := by decide +kernel
theorem dX8_most_30 : decode cX8_most 30 = .ok (.iload_n 2, 1) := by decide +kernel
theorem dX8_most_31 : decode cX8_most 31 = .ok (.ireturn, 1) := by decide +kernel
theorem dX8_said_0 : decode cX8_said 0 = .ok (.aload_n 0, 1) := by decide +kernel
theorem dX8_said_1 : decode cX8_said 1 = .ok (.iload_n 1, 1) := by decide +kernel
theorem dX8_said_2 : decode cX8_said 2 = .ok (.invokevirtual 177, 3) := by decide +kernel
theorem dX8_said_5 : decode cX8_said 5 = .ok (.istore_n 3, 1) := by decide +kernel
theorem dX8_said_6 : decode cX8_said 6 = .ok (.iload_n 3, 1) := by decide +kernel
theorem dX8_said_7 : decode cX8_said 7 = .ok (.ifCond .ne 11, 3) := by decide +kernel
theorem dX8_said_10 : decode cX8_said 10 = .ok (.aload_n 0, 1) := by decide +kernel
theorem dX8_said_11 : decode cX8_said 11 = .ok (.iload_n 2, 1) := by decide +kernel
theorem dX8_said_12 : decode cX8_said 12 = .ok (.invokevirtual 212, 3) := by decide +kernel
theorem dX8_said_15 : decode cX8_said 15 = .ok (.ifCond .ne 7, 3) := by decide +kernel
theorem dX8_said_18 : decode cX8_said 18 = .ok (.ldc2_w 215, 3) := by decide +kernel
theorem dX8_said_21 : decode cX8_said 21 = .ok (.lreturn, 1) := by decide +kernel
theorem dX8_said_22 : decode cX8_said 22 = .ok (.aload_n 0, 1) := by decide +kernel
theorem dX8_said_23 : decode cX8_said 23 = .ok (.iload_n 1, 1) := by decide +kernel
theorem dX8_said_24 : decode cX8_said 24 = .ok (.bipush 10, 2) := by decide +kernel
theorem dX8_said_26 : decode cX8_said 26 = .ok (.idiv, 1) := by decide +kernel
theorem dX8_said_27 : decode cX8_said 27 = .ok (.aload_n 0, 1) := by decide +kernel
theorem dX8_said_28 : decode cX8_said 28 = .ok (.getfield 69, 3) := by decide +kernel
theorem dX8_said_31 : decode cX8_said 31 = .ok (.invokevirtual 180, 3) := by decide +kernel
theorem dX8_said_34 : decode cX8_said 34 = .ok (.istore 4, 2) := by decide +kernel
theorem dX8_said_36 : decode cX8_said 36 = .ok (.aload_n 0, 1) := by decide +kernel
theorem dX8_said_37 : decode cX8_said 37 = .ok (.iload_n 1, 1) := by decide +kernel
theorem dX8_said_38 : decode cX8_said 38 = .ok (.bipush 10, 2) := by decide +kernel
theorem dX8_said_40 : decode cX8_said 40 = .ok (.irem, 1) := by decide +kernel
theorem dX8_said_41 : decode cX8_said 41 = .ok (.aload_n 0, 1) := by decide +kernel
theorem dX8_said_42 : decode cX8_said 42 = .ok (.getfield 73, 3) := by decide +kernel
theorem dX8_said_45 : decode cX8_said 45 = .ok (.invokevirtual 180, 3) := by decide +kernel
theorem dX8_said_48 : decode cX8_said 48 = .ok (.istore 5, 2) := by decide +kernel
theorem dX8_said_50 : decode cX8_said 50 = .ok (.aload_n 0, 1) := by decide +kernel
theorem dX8_said_51 : decode cX8_said 51 = .ok (.getfield 51, 3) := by decide +kernel
theorem dX8_said_54 : decode cX8_said 54 = .ok (.aload_n 0, 1) := by decide +kernel
theorem dX8_said_55 : decode cX8_said 55 = .ok (.getfield 69, 3) := by decide +kernel
theorem dX8_said_58 : decode cX8_said 58 = .ok (.iload 4, 2) := by decide +kernel
theorem dX8_said_60 : decode cX8_said 60 = .ok (.aload_n 0, 1) := by decide +kernel
theorem dX8_said_61 : decode cX8_said 61 = .ok (.getfield 73, 3) := by decide +kernel
theorem dX8_said_64 : decode cX8_said 64 = .ok (.iload 5, 2) := by decide +kernel
theorem dX8_said_66 : decode cX8_said 66 = .ok (.aload_n 0, 1) := by decide +kernel
theorem dX8_said_67 : decode cX8_said 67 = .ok (.iload_n 2, 1) := by decide +kernel
theorem dX8_said_68 : decode cX8_said 68 = .ok (.invokevirtual 139, 3) := by decide +kernel
theorem dX8_said_71 : decode cX8_said 71 = .ok (.invokevirtual 217, 3) := by decide +kernel
theorem dX8_said_74 : decode cX8_said 74 = .ok (.lreturn, 1) := by decide +kernel
theorem dX8_saidAt_0 : decode cX8_saidAt 0 = .ok (.iload_n 3, 1) := by decide +kernel
theorem dX8_saidAt_1 : decode cX8_saidAt 1 = .ok (.ifCond .lt 11, 3) := by decide +kernel
theorem dX8_saidAt_4 : decode cX8_saidAt 4 = .ok (.aload_n 0, 1) := by decide +kernel
theorem dX8_saidAt_5 : decode cX8_saidAt 5 = .ok (.iload_n 2, 1) := by decide +kernel
theorem dX8_saidAt_6 : decode cX8_saidAt 6 = .ok (.invokevirtual 212, 3) := by decide +kernel
theorem dX8_saidAt_9 : decode cX8_saidAt 9 = .ok (.ifCond .ne 5, 3) := by decide +kernel
theorem dX8_saidAt_12 : decode cX8_saidAt 12 = .ok (.iconst (-1), 1) := by decide +kernel
theorem dX8_saidAt_13 : decode cX8_saidAt 13 = .ok (.ireturn, 1) := by decide +kernel
theorem dX8_saidAt_14 : decode cX8_saidAt 14 = .ok (.aload_n 0, 1) := by decide +kernel
theorem dX8_saidAt_15 : decode cX8_saidAt 15 = .ok (.iload_n 1, 1) := by decide +kernel
theorem dX8_saidAt_16 : decode cX8_saidAt 16 = .ok (.invokevirtual 177, 3) := by decide +kernel
theorem dX8_saidAt_19 : decode cX8_saidAt 19 = .ok (.istore 4, 2) := by decide +kernel
theorem dX8_saidAt_21 : decode cX8_saidAt 21 = .ok (.iload 4, 2) := by decide +kernel
theorem dX8_saidAt_23 : decode cX8_saidAt 23 = .ok (.ifCond .eq 6, 3) := by decide +kernel
theorem dX8_saidAt_26 : decode cX8_saidAt 26 = .ok (.iload 4, 2) := by decide +kernel
theorem dX8_saidAt_28 : decode cX8_saidAt 28 = .ok (.ireturn, 1) := by decide +kernel
theorem dX8_saidAt_29 : decode cX8_saidAt 29 = .ok (.aload_n 0, 1) := by decide +kernel
theorem dX8_saidAt_30 : decode cX8_saidAt 30 = .ok (.iload_n 1, 1) := by decide +kernel
theorem dX8_saidAt_31 : decode cX8_saidAt 31 = .ok (.bipush 10, 2) := by decide +kernel
theorem dX8_saidAt_33 : decode cX8_saidAt 33 = .ok (.idiv, 1) := by decide +kernel
theorem dX8_saidAt_34 : decode cX8_saidAt 34 = .ok (.aload_n 0, 1) := by decide +kernel
theorem dX8_saidAt_35 : decode cX8_saidAt 35 = .ok (.getfield 69, 3) := by decide +kernel
theorem dX8_saidAt_38 : decode cX8_saidAt 38 = .ok (.invokevirtual 180, 3) := by decide +kernel
theorem dX8_saidAt_41 : decode cX8_saidAt 41 = .ok (.istore 5, 2) := by decide +kernel
theorem dX8_saidAt_43 : decode cX8_saidAt 43 = .ok (.aload_n 0, 1) := by decide +kernel
theorem dX8_saidAt_44 : decode cX8_saidAt 44 = .ok (.iload_n 1, 1) := by decide +kernel
theorem dX8_saidAt_45 : decode cX8_saidAt 45 = .ok (.bipush 10, 2) := by decide +kernel
theorem dX8_saidAt_47 : decode cX8_saidAt 47 = .ok (.irem, 1) := by decide +kernel
theorem dX8_saidAt_48 : decode cX8_saidAt 48 = .ok (.aload_n 0, 1) := by decide +kernel
theorem dX8_saidAt_49 : decode cX8_saidAt 49 = .ok (.getfield 73, 3) := by decide +kernel
theorem dX8_saidAt_52 : decode cX8_saidAt 52 = .ok (.invokevirtual 180, 3) := by decide +kernel
theorem dX8_saidAt_55 : decode cX8_saidAt 55 = .ok (.istore 6, 2) := by decide +kernel
theorem dX8_saidAt_57 : decode cX8_saidAt 57 = .ok (.aload_n 0, 1) := by decide +kernel
theorem dX8_saidAt_58 : decode cX8_saidAt 58 = .ok (.getfield 51, 3) := by decide +kernel
theorem dX8_saidAt_61 : decode cX8_saidAt 61 = .ok (.aload_n 0, 1) := by decide +kernel
theorem dX8_saidAt_62 : decode cX8_saidAt 62 = .ok (.getfield 69, 3) := by decide +kernel
theorem dX8_saidAt_65 : decode cX8_saidAt 65 = .ok (.iload 5, 2) := by decide +kernel
theorem dX8_saidAt_67 : decode cX8_saidAt 67 = .ok (.aload_n 0, 1) := by decide +kernel
theorem dX8_saidAt_68 : decode cX8_saidAt 68 = .ok (.getfield 73, 3) := by decide +kernel
theorem dX8_saidAt_71 : decode cX8_saidAt 71 = .ok (.iload 6, 2) := by decide +kernel
theorem dX8_saidAt_73 : decode cX8_saidAt 73 = .ok (.aload_n 0, 1) := by decide +kernel
theorem dX8_saidAt_74 : decode cX8_saidAt 74 = .ok (.iload_n 2, 1) := by decide +kernel
theorem dX8_saidAt_75 : decode cX8_saidAt 75 = .ok (.invokevirtual 139, 3) := by decide +kernel
theorem dX8_saidAt_78 : decode cX8_saidAt 78 = .ok (.invokevirtual 217, 3) := by decide +kernel
theorem dX8_saidAt_81 : decode cX8_saidAt 81 = .ok (.lstore 7, 2) := by decide +kernel
theorem dX8_saidAt_83 : decode cX8_saidAt 83 = .ok (.lload 7, 2) := by decide +kernel
theorem dX8_saidAt_85 : decode cX8_saidAt 85 = .ok (.lconst 0, 1) := by decide +kernel
theorem dX8_saidAt_86 : decode cX8_saidAt 86 = .ok (.lcmp, 1) := by decide +kernel
theorem dX8_saidAt_87 : decode cX8_saidAt 87 = .ok (.ifCond .eq 12, 3) := by decide +kernel
theorem dX8_saidAt_90 : decode cX8_saidAt 90 = .ok (.iload_n 3, 1) := by decide +kernel
theorem dX8_saidAt_91 : decode cX8_saidAt 91 = .ok (.iload 5, 2) := by decide +kernel
theorem dX8_saidAt_93 : decode cX8_saidAt 93 = .ok (.iload 6, 2) := by decide +kernel
theorem dX8_saidAt_95 : decode cX8_saidAt 95 = .ok (.iadd, 1) := by decide +kernel
theorem dX8_saidAt_96 : decode cX8_saidAt 96 = .ok (.if_icmp .lt 6, 3) := by decide +kernel
theorem dX8_saidAt_99 : decode cX8_saidAt 99 = .ok (.bipush (-2), 2) := by decide +kernel
theorem dX8_saidAt_101 : decode cX8_saidAt 101 = .ok (.ireturn, 1) := by decide +kernel
theorem dX8_saidAt_102 : decode cX8_saidAt 102 = .ok (.aload_n 0, 1) := by decide +kernel
theorem dX8_saidAt_103 : decode cX8_saidAt 103 = .ok (.getfield 51, 3) := by decide +kernel
theorem dX8_saidAt_106 : decode cX8_saidAt 106 = .ok (.aload_n 0, 1) := by decide +kernel
theorem dX8_saidAt_107 : decode cX8_saidAt 107 = .ok (.getfield 69, 3) := by decide +kernel
theorem dX8_saidAt_110 : decode cX8_saidAt 110 = .ok (.iload 5, 2) := by decide +kernel
theorem dX8_saidAt_112 : decode cX8_saidAt 112 = .ok (.aload_n 0, 1) := by decide +kernel
theorem dX8_saidAt_113 : decode cX8_saidAt 113 = .ok (.getfield 73, 3) := by decide +kernel
theorem dX8_saidAt_116 : decode cX8_saidAt 116 = .ok (.iload 6, 2) := by decide +kernel
theorem dX8_saidAt_118 : decode cX8_saidAt 118 = .ok (.aload_n 0, 1) := by decide +kernel
theorem dX8_saidAt_119 : decode cX8_saidAt 119 = .ok (.iload_n 2, 1) := by decide +kernel
theorem dX8_saidAt_120 : decode cX8_saidAt 120 = .ok (.invokevirtual 139, 3) := by decide +kernel
theorem dX8_saidAt_123 : decode cX8_saidAt 123 = .ok (.invokevirtual 221, 3) := by decide +kernel
theorem dX8_saidAt_126 : decode cX8_saidAt 126 = .ok (.aload_n 0, 1) := by decide +kernel
theorem dX8_saidAt_127 : decode cX8_saidAt 127 = .ok (.getfield 51, 3) := by decide +kernel
theorem dX8_saidAt_130 : decode cX8_saidAt 130 = .ok (.iload_n 3, 1) := by decide +kernel
theorem dX8_saidAt_131 : decode cX8_saidAt 131 = .ok (.invokevirtual 198, 3) := by decide +kernel
theorem dX8_saidAt_134 : decode cX8_saidAt 134 = .ok (.ireturn, 1) := by decide +kernel
theorem dX8_alone_0 : decode cX8_alone 0 = .ok (.iload_n 3, 1) := by decide +kernel
theorem dX8_alone_1 : decode cX8_alone 1 = .ok (.ifCond .lt 8, 3) := by decide +kernel
theorem dX8_alone_4 : decode cX8_alone 4 = .ok (.iload_n 3, 1) := by decide +kernel
theorem dX8_alone_5 : decode cX8_alone 5 = .ok (.iconst 4, 1) := by decide +kernel
theorem dX8_alone_6 : decode cX8_alone 6 = .ok (.if_icmp .le 7, 3) := by decide +kernel
theorem dX8_alone_9 : decode cX8_alone 9 = .ok (.ldc2_w 215, 3) := by decide +kernel
theorem dX8_alone_12 : decode cX8_alone 12 = .ok (.lreturn, 1) := by decide +kernel
theorem dX8_alone_13 : decode cX8_alone 13 = .ok (.aload_n 0, 1) := by decide +kernel
theorem dX8_alone_14 : decode cX8_alone 14 = .ok (.iload_n 1, 1) := by decide +kernel
theorem dX8_alone_15 : decode cX8_alone 15 = .ok (.iload_n 2, 1) := by decide +kernel
theorem dX8_alone_16 : decode cX8_alone 16 = .ok (.invokevirtual 146, 3) := by decide +kernel
theorem dX8_alone_19 : decode cX8_alone 19 = .ok (.istore 4, 2) := by decide +kernel
theorem dX8_alone_21 : decode cX8_alone 21 = .ok (.iload 4, 2) := by decide +kernel
theorem dX8_alone_23 : decode cX8_alone 23 = .ok (.ifCond .ge 9, 3) := by decide +kernel
theorem dX8_alone_26 : decode cX8_alone 26 = .ok (.ldc2_w 215, 3) := by decide +kernel
theorem dX8_alone_29 : decode cX8_alone 29 = .ok (.goto 22, 3) := by decide +kernel
theorem dX8_alone_32 : decode cX8_alone 32 = .ok (.aload_n 0, 1) := by decide +kernel
theorem dX8_alone_33 : decode cX8_alone 33 = .ok (.getfield 51, 3) := by decide +kernel
theorem dX8_alone_36 : decode cX8_alone 36 = .ok (.aload_n 0, 1) := by decide +kernel
theorem dX8_alone_37 : decode cX8_alone 37 = .ok (.getfield 69, 3) := by decide +kernel
theorem dX8_alone_40 : decode cX8_alone 40 = .ok (.iload 4, 2) := by decide +kernel
theorem dX8_alone_42 : decode cX8_alone 42 = .ok (.iload_n 3, 1) := by decide +kernel
theorem dX8_alone_43 : decode cX8_alone 43 = .ok (.aload_n 0, 1) := by decide +kernel
theorem dX8_alone_44 : decode cX8_alone 44 = .ok (.iload_n 2, 1) := by decide +kernel
theorem dX8_alone_45 : decode cX8_alone 45 = .ok (.invokevirtual 139, 3) := by decide +kernel
theorem dX8_alone_48 : decode cX8_alone 48 = .ok (.invokevirtual 225, 3) := by decide +kernel
theorem dX8_alone_51 : decode cX8_alone 51 = .ok (.lreturn, 1) := by decide +kernel
theorem dX8_howFine_0 : decode cX8_howFine 0 = .ok (.iload_n 2, 1) := by decide +kernel
theorem dX8_howFine_1 : decode cX8_howFine 1 = .ok (.ifCond .lt 8, 3) := by decide +kernel
theorem dX8_howFine_4 : decode cX8_howFine 4 = .ok (.iload_n 2, 1) := by decide +kernel
theorem dX8_howFine_5 : decode cX8_howFine 5 = .ok (.iconst 1, 1) := by decide +kernel
theorem dX8_howFine_6 : decode cX8_howFine 6 = .ok (.if_icmp .le 5, 3) := by decide +kernel
theorem dX8_howFine_9 : decode cX8_howFine 9 = .ok (.iconst (-1), 1) := by decide +kernel
theorem dX8_howFine_10 : decode cX8_howFine 10 = .ok (.ireturn, 1) := by decide +kernel
theorem dX8_howFine_11 : decode cX8_howFine 11 = .ok (.aload_n 0, 1) := by decide +kernel
theorem dX8_howFine_12 : decode cX8_howFine 12 = .ok (.iload_n 1, 1) := by decide +kernel
theorem dX8_howFine_13 : decode cX8_howFine 13 = .ok (.invokevirtual 177, 3) := by decide +kernel
theorem dX8_howFine_16 : decode cX8_howFine 16 = .ok (.istore_n 3, 1) := by decide +kernel
theorem dX8_howFine_17 : decode cX8_howFine 17 = .ok (.iload_n 3, 1) := by decide +kernel
theorem dX8_howFine_18 : decode cX8_howFine 18 = .ok (.ifCond .eq 5, 3) := by decide +kernel
theorem dX8_howFine_21 : decode cX8_howFine 21 = .ok (.iload_n 3, 1) := by decide +kernel
theorem dX8_howFine_22 : decode cX8_howFine 22 = .ok (.ireturn, 1) := by decide +kernel
theorem dX8_howFine_23 : decode cX8_howFine 23 = .ok (.aload_n 0, 1) := by decide +kernel
theorem dX8_howFine_24 : decode cX8_howFine 24 = .ok (.iload_n 1, 1) := by decide +kernel
theorem dX8_howFine_25 : decode cX8_howFine 25 = .ok (.bipush 10, 2) := by decide +kernel
theorem dX8_howFine_27 : decode cX8_howFine 27 = .ok (.idiv, 1) := by decide +kernel
theorem dX8_howFine_28 : decode cX8_howFine 28 = .ok (.aload_n 0, 1) := by decide +kernel
theorem dX8_howFine_29 : decode cX8_howFine 29 = .ok (.getfield 69, 3) := by decide +kernel
theorem dX8_howFine_32 : decode cX8_howFine 32 = .ok (.invokevirtual 180, 3) := by decide +kernel
theorem dX8_howFine_35 : decode cX8_howFine 35 = .ok (.istore 4, 2) := by decide +kernel
theorem dX8_howFine_37 : decode cX8_howFine 37 = .ok (.aload_n 0, 1) := by decide +kernel
theorem dX8_howFine_38 : decode cX8_howFine 38 = .ok (.iload_n 1, 1) := by decide +kernel
theorem dX8_howFine_39 : decode cX8_howFine 39 = .ok (.bipush 10, 2) := by decide +kernel
theorem dX8_howFine_41 : decode cX8_howFine 41 = .ok (.irem, 1) := by decide +kernel
theorem dX8_howFine_42 : decode cX8_howFine 42 = .ok (.aload_n 0, 1) := by decide +kernel
theorem dX8_howFine_43 : decode cX8_howFine 43 = .ok (.getfield 73, 3) := by decide +kernel
theorem dX8_howFine_46 : decode cX8_howFine 46 = .ok (.invokevirtual 180, 3) := by decide +kernel
theorem dX8_howFine_49 : decode cX8_howFine 49 = .ok (.istore 5, 2) := by decide +kernel
theorem dX8_howFine_51 : decode cX8_howFine 51 = .ok (.iconst 0, 1) := by decide +kernel
theorem dX8_howFine_52 : decode cX8_howFine 52 = .ok (.istore 6, 2) := by decide +kernel
theorem dX8_howFine_54 : decode cX8_howFine 54 = .ok (.bipush (-2), 2) := by decide +kernel
theorem dX8_howFine_56 : decode cX8_howFine 56 = .ok (.istore 7, 2) := by decide +kernel
theorem dX8_howFine_58 : decode cX8_howFine 58 = .ok (.bipush 9, 2) := by decide +kernel
theorem dX8_howFine_60 : decode cX8_howFine 60 = .ok (.istore 8, 2) := by decide +kernel
theorem dX8_howFine_62 : decode cX8_howFine 62 = .ok (.iload 8, 2) := by decide +kernel
theorem dX8_howFine_64 : decode cX8_howFine 64 = .ok (.ifCond .lt 48, 3) := by decide +kernel
theorem dX8_howFine_67 : decode cX8_howFine 67 = .ok (.aload_n 0, 1) := by decide +kernel
theorem dX8_howFine_68 : decode cX8_howFine 68 = .ok (.getfield 42, 3) := by decide +kernel
theorem dX8_howFine_71 : decode cX8_howFine 71 = .ok (.aload_n 0, 1) := by decide +kernel
theorem dX8_howFine_72 : decode cX8_howFine 72 = .ok (.getfield 69, 3) := by decide +kernel
theorem dX8_howFine_75 : decode cX8_howFine 75 = .ok (.iload 4, 2) := by decide +kernel
theorem dX8_howFine_77 : decode cX8_howFine 77 = .ok (.iload 8, 2) := by decide +kernel
theorem dX8_howFine_79 : decode cX8_howFine 79 = .ok (.iconst 0, 1) := by decide +kernel
theorem dX8_howFine_80 : decode cX8_howFine 80 = .ok (.invokevirtual 149, 3) := by decide +kernel
theorem dX8_howFine_83 : decode cX8_howFine 83 = .ok (.aload_n 0, 1) := by decide +kernel
theorem dX8_howFine_84 : decode cX8_howFine 84 = .ok (.getfield 42, 3) := by decide +kernel
theorem dX8_howFine_87 : decode cX8_howFine 87 = .ok (.aload_n 0, 1) := by decide +kernel
theorem dX8_howFine_88 : decode cX8_howFine 88 = .ok (.getfield 73, 3) := by decide +kernel
theorem dX8_howFine_91 : decode cX8_howFine 91 = .ok (.iload 5, 2) := by decide +kernel
theorem dX8_howFine_93 : decode cX8_howFine 93 = .ok (.invokevirtual 229, 3) := by decide +kernel
theorem dX8_howFine_96 : decode cX8_howFine 96 = .ok (.ifCond .eq 10, 3) := by decide +kernel
theorem dX8_howFine_99 : decode cX8_howFine 99 = .ok (.iinc 6 1, 3) := by decide +kernel
theorem dX8_howFine_102 : decode cX8_howFine 102 = .ok (.iload 8, 2) := by decide +kernel
theorem dX8_howFine_104 : decode cX8_howFine 104 = .ok (.istore 7, 2) := by decide +kernel
theorem dX8_howFine_106 : decode cX8_howFine 106 = .ok (.iinc 8 (-1), 3) := by decide +kernel
theorem dX8_howFine_109 : decode cX8_howFine 109 = .ok (.goto (-47), 3) := by decide +kernel
theorem dX8_howFine_112 : decode cX8_howFine 112 = .ok (.iload_n 2, 1) := by decide +kernel
theorem dX8_howFine_113 : decode cX8_howFine 113 = .ok (.ifCond .ne 8, 3) := by decide +kernel
theorem dX8_howFine_116 : decode cX8_howFine 116 = .ok (.iload 6, 2) := by decide +kernel
theorem dX8_howFine_118 : decode cX8_howFine 118 = .ok (.goto 5, 3) := by decide +kernel
theorem dX8_howFine_121 : decode cX8_howFine 121 = .ok (.iload 7, 2) := by decide +kernel
theorem dX8_howFine_123 : decode cX8_howFine 123 = .ok (.ireturn, 1) := by decide +kernel
theorem dX8_between_0 : decode cX8_between 0 = .ok (.iload_n 3, 1) := by decide +kernel
theorem dX8_between_1 : decode cX8_between 1 = .ok (.ifCond .ge 5, 3) := by decide +kernel
theorem dX8_between_4 : decode cX8_between 4 = .ok (.iconst (-1), 1) := by decide +kernel
theorem dX8_between_5 : decode cX8_between 5 = .ok (.ireturn, 1) := by decide +kernel
theorem dX8_between_6 : decode cX8_between 6 = .ok (.aload_n 0, 1) := by decide +kernel
theorem dX8_between_7 : decode cX8_between 7 = .ok (.iload_n 1, 1) := by decide +kernel
theorem dX8_between_8 : decode cX8_between 8 = .ok (.iload_n 2, 1) := by decide +kernel
theorem dX8_between_9 : decode cX8_between 9 = .ok (.invokevirtual 146, 3) := by decide +kernel
theorem dX8_between_12 : decode cX8_between 12 = .ok (.istore 4, 2) := by decide +kernel
theorem dX8_between_14 : decode cX8_between 14 = .ok (.iload 4, 2) := by decide +kernel
theorem dX8_between_16 : decode cX8_between 16 = .ok (.ifCond .ge 6, 3) := by decide +kernel
theorem dX8_between_19 : decode cX8_between 19 = .ok (.iload 4, 2) := by decide +kernel
theorem dX8_between_21 : decode cX8_between 21 = .ok (.ireturn, 1) := by decide +kernel
theorem dX8_between_22 : decode cX8_between 22 = .ok (.iload_n 3, 1) := by decide +kernel
theorem dX8_between_23 : decode cX8_between 23 = .ok (.iload 4, 2) := by decide +kernel
theorem dX8_between_25 : decode cX8_between 25 = .ok (.if_icmp .le 8, 3) := by decide +kernel
theorem dX8_between_28 : decode cX8_between 28 = .ok (.bipush (-2), 2) := by decide +kernel
theorem dX8_between_30 : decode cX8_between 30 = .ok (.goto 22, 3) := by decide +kernel
theorem dX8_between_33 : decode cX8_between 33 = .ok (.aload_n 0, 1) := by decide +kernel
theorem dX8_between_34 : decode cX8_between 34 = .ok (.getfield 51, 3) := by decide +kernel
theorem dX8_between_37 : decode cX8_between 37 = .ok (.aload_n 0, 1) := by decide +kernel
theorem dX8_between_38 : decode cX8_between 38 = .ok (.getfield 69, 3) := by decide +kernel
theorem dX8_between_41 : decode cX8_between 41 = .ok (.iload 4, 2) := by decide +kernel
theorem dX8_between_43 : decode cX8_between 43 = .ok (.iload_n 3, 1) := by decide +kernel
theorem dX8_between_44 : decode cX8_between 44 = .ok (.aload_n 0, 1) := by decide +kernel
theorem dX8_between_45 : decode cX8_between 45 = .ok (.iload_n 2, 1) := by decide +kernel
theorem dX8_between_46 : decode cX8_between 46 = .ok (.invokevirtual 139, 3) := by decide +kernel
theorem dX8_between_49 : decode cX8_between 49 = .ok (.invokevirtual 232, 3) := by decide +kernel
theorem dX8_between_52 : decode cX8_between 52 = .ok (.ireturn, 1) := by decide +kernel
theorem dX8_meant_0 : decode cX8_meant 0 = .ok (.iload_n 3, 1) := by decide +kernel
theorem dX8_meant_1 : decode cX8_meant 1 = .ok (.ifCond .lt 8, 3) := by decide +kernel
theorem dX8_meant_4 : decode cX8_meant 4 = .ok (.iload_n 3, 1) := by decide +kernel
theorem dX8_meant_5 : decode cX8_meant 5 = .ok (.iconst 1, 1) := by decide +kernel
theorem dX8_meant_6 : decode cX8_meant 6 = .ok (.if_icmp .le 5, 3) := by decide +kernel
theorem dX8_meant_9 : decode cX8_meant 9 = .ok (.iconst (-1), 1) := by decide +kernel
theorem dX8_meant_10 : decode cX8_meant 10 = .ok (.ireturn, 1) := by decide +kernel
theorem dX8_meant_11 : decode cX8_meant 11 = .ok (.aload_n 0, 1) := by decide +kernel
theorem dX8_meant_12 : decode cX8_meant 12 = .ok (.iload_n 1, 1) := by decide +kernel
theorem dX8_meant_13 : decode cX8_meant 13 = .ok (.iload_n 2, 1) := by decide +kernel
theorem dX8_meant_14 : decode cX8_meant 14 = .ok (.invokevirtual 146, 3) := by decide +kernel
theorem dX8_meant_17 : decode cX8_meant 17 = .ok (.istore 4, 2) := by decide +kernel
theorem dX8_meant_19 : decode cX8_meant 19 = .ok (.iload 4, 2) := by decide +kernel
theorem dX8_meant_21 : decode cX8_meant 21 = .ok (.ifCond .ge 6, 3) := by decide +kernel
theorem dX8_meant_24 : decode cX8_meant 24 = .ok (.iload 4, 2) := by decide +kernel
theorem dX8_meant_26 : decode cX8_meant 26 = .ok (.ireturn, 1) := by decide +kernel
theorem dX8_meant_27 : decode cX8_meant 27 = .ok (.aload_n 0, 1) := by decide +kernel
theorem dX8_meant_28 : decode cX8_meant 28 = .ok (.getfield 42, 3) := by decide +kernel
theorem dX8_meant_31 : decode cX8_meant 31 = .ok (.aload_n 0, 1) := by decide +kernel
theorem dX8_meant_32 : decode cX8_meant 32 = .ok (.getfield 69, 3) := by decide +kernel
theorem dX8_meant_35 : decode cX8_meant 35 = .ok (.iload 4, 2) := by decide +kernel
theorem dX8_meant_37 : decode cX8_meant 37 = .ok (.aload_n 0, 1) := by decide +kernel
theorem dX8_meant_38 : decode cX8_meant 38 = .ok (.iload_n 2, 1) := by decide +kernel
theorem dX8_meant_39 : decode cX8_meant 39 = .ok (.invokevirtual 139, 3) := by decide +kernel
theorem dX8_meant_42 : decode cX8_meant 42 = .ok (.iconst 0, 1) := by decide +kernel
theorem dX8_meant_43 : decode cX8_meant 43 = .ok (.invokevirtual 149, 3) := by decide +kernel
theorem dX8_meant_46 : decode cX8_meant 46 = .ok (.iload_n 3, 1) := by decide +kernel
theorem dX8_meant_47 : decode cX8_meant 47 = .ok (.ifCond .ne 13, 3) := by decide +kernel
theorem dX8_meant_50 : decode cX8_meant 50 = .ok (.aload_n 0, 1) := by decide +kernel
theorem dX8_meant_51 : decode cX8_meant 51 = .ok (.getfield 42, 3) := by decide +kernel
theorem dX8_meant_54 : decode cX8_meant 54 = .ok (.invokevirtual 236, 3) := by decide +kernel
theorem dX8_meant_57 : decode cX8_meant 57 = .ok (.goto 10, 3) := by decide +kernel
theorem dX8_meant_60 : decode cX8_meant 60 = .ok (.aload_n 0, 1) := by decide +kernel
theorem dX8_meant_61 : decode cX8_meant 61 = .ok (.getfield 42, 3) := by decide +kernel
theorem dX8_meant_64 : decode cX8_meant 64 = .ok (.invokevirtual 239, 3) := by decide +kernel
theorem dX8_meant_67 : decode cX8_meant 67 = .ok (.ireturn, 1) := by decide +kernel
theorem dX8_likely_0 : decode cX8_likely 0 = .ok (.iload_n 3, 1) := by decide +kernel
theorem dX8_likely_1 : decode cX8_likely 1 = .ok (.ifCond .lt 19, 3) := by decide +kernel
theorem dX8_likely_4 : decode cX8_likely 4 = .ok (.iload_n 3, 1) := by decide +kernel
theorem dX8_likely_5 : decode cX8_likely 5 = .ok (.iconst 5, 1) := by decide +kernel
theorem dX8_likely_6 : decode cX8_likely 6 = .ok (.if_icmp .gt 14, 3) := by decide +kernel
theorem dX8_likely_9 : decode cX8_likely 9 = .ok (.iload 4, 2) := by decide +kernel
theorem dX8_likely_11 : decode cX8_likely 11 = .ok (.ifCond .lt 9, 3) := by decide +kernel
theorem dX8_likely_14 : decode cX8_likely 14 = .ok (.iload 4, 2) := by decide +kernel
theorem dX8_likely_16 : decode cX8_likely 16 = .ok (.iconst 1, 1) := by decide +kernel
theorem dX8_likely_17 : decode cX8_likely 17 = .ok (.if_icmp .le 7, 3) := by decide +kernel
theorem dX8_likely_20 : decode cX8_likely 20 = .ok (.ldc2_w 215, 3) := by decide +kernel
theorem dX8_likely_23 : decode cX8_likely 23 = .ok (.lreturn, 1) := by decide +kernel
theorem dX8_likely_24 : decode cX8_likely 24 = .ok (.aload_n 0, 1) := by decide +kernel
theorem dX8_likely_25 : decode cX8_likely 25 = .ok (.iload_n 1, 1) := by decide +kernel
theorem dX8_likely_26 : decode cX8_likely 26 = .ok (.iload_n 2, 1) := by decide +kernel
theorem dX8_likely_27 : decode cX8_likely 27 = .ok (.invokevirtual 146, 3) := by decide +kernel
theorem dX8_likely_30 : decode cX8_likely 30 = .ok (.istore 5, 2) := by decide +kernel
theorem dX8_likely_32 : decode cX8_likely 32 = .ok (.iload 5, 2) := by decide +kernel
theorem dX8_likely_34 : decode cX8_likely 34 = .ok (.ifCond .ge 7, 3) := by decide +kernel
theorem dX8_likely_37 : decode cX8_likely 37 = .ok (.ldc2_w 215, 3) := by decide +kernel
theorem dX8_likely_40 : decode cX8_likely 40 = .ok (.lreturn, 1) := by decide +kernel
theorem dX8_likely_41 : decode cX8_likely 41 = .ok (.aload_n 0, 1) := by decide +kernel
theorem dX8_likely_42 : decode cX8_likely 42 = .ok (.getfield 42, 3) := by decide +kernel
theorem dX8_likely_45 : decode cX8_likely 45 = .ok (.aload_n 0, 1) := by decide +kernel
theorem dX8_likely_46 : decode cX8_likely 46 = .ok (.getfield 69, 3) := by decide +kernel
theorem dX8_likely_49 : decode cX8_likely 49 = .ok (.iload 5, 2) := by decide +kernel
theorem dX8_likely_51 : decode cX8_likely 51 = .ok (.aload_n 0, 1) := by decide +kernel
theorem dX8_likely_52 : decode cX8_likely 52 = .ok (.iload_n 2, 1) := by decide +kernel
theorem dX8_likely_53 : decode cX8_likely 53 = .ok (.invokevirtual 139, 3) := by decide +kernel
theorem dX8_likely_56 : decode cX8_likely 56 = .ok (.iconst 0, 1) := by decide +kernel
theorem dX8_likely_57 : decode cX8_likely 57 = .ok (.invokevirtual 149, 3) := by decide +kernel
theorem dX8_likely_60 : decode cX8_likely 60 = .ok (.aload_n 0, 1) := by decide +kernel
theorem dX8_likely_61 : decode cX8_likely 61 = .ok (.getfield 42, 3) := by decide +kernel
theorem dX8_likely_64 : decode cX8_likely 64 = .ok (.iload_n 3, 1) := by decide +kernel
theorem dX8_likely_65 : decode cX8_likely 65 = .ok (.invokevirtual 242, 3) := by decide +kernel
theorem dX8_likely_68 : decode cX8_likely 68 = .ok (.istore 6, 2) := by decide +kernel
theorem dX8_likely_70 : decode cX8_likely 70 = .ok (.aload_n 0, 1) := by decide +kernel
theorem dX8_likely_71 : decode cX8_likely 71 = .ok (.getfield 42, 3) := by decide +kernel
theorem dX8_likely_74 : decode cX8_likely 74 = .ok (.aload_n 0, 1) := by decide +kernel
theorem dX8_likely_75 : decode cX8_likely 75 = .ok (.getfield 42, 3) := by decide +kernel
theorem dX8_likely_78 : decode cX8_likely 78 = .ok (.getfield 170, 3) := by decide +kernel
theorem dX8_likely_81 : decode cX8_likely 81 = .ok (.aload_n 0, 1) := by decide +kernel
theorem dX8_likely_82 : decode cX8_likely 82 = .ok (.getfield 42, 3) := by decide +kernel
theorem dX8_likely_85 : decode cX8_likely 85 = .ok (.getfield 156, 3) := by decide +kernel
theorem dX8_likely_88 : decode cX8_likely 88 = .ok (.iconst 1, 1) := by decide +kernel
theorem dX8_likely_89 : decode cX8_likely 89 = .ok (.invokevirtual 173, 3) := by decide +kernel
theorem dX8_likely_92 : decode cX8_likely 92 = .ok (.istore 7, 2) := by decide +kernel
theorem dX8_likely_94 : decode cX8_likely 94 = .ok (.iload 6, 2) := by decide +kernel
theorem dX8_likely_96 : decode cX8_likely 96 = .ok (.iload 7, 2) := by decide +kernel
theorem dX8_likely_98 : decode cX8_likely 98 = .ok (.invokestatic 245, 3) := by decide +kernel
theorem dX8_likely_101 : decode cX8_likely 101 = .ok (.istore 8, 2) := by decide +kernel
theorem dX8_likely_103 : decode cX8_likely 103 = .ok (.iload 8, 2) := by decide +kernel
theorem dX8_likely_105 : decode cX8_likely 105 = .ok (.ifCond .ne 7, 3) := by decide +kernel
theorem dX8_likely_108 : decode cX8_likely 108 = .ok (.iload 4, 2) := by decide +kernel
theorem dX8_likely_110 : decode cX8_likely 110 = .ok (.i2l, 1) := by decide +kernel
theorem dX8_likely_111 : decode cX8_likely 111 = .ok (.lreturn, 1) := by decide +kernel
theorem dX8_likely_112 : decode cX8_likely 112 = .ok (.iload 4, 2) := by decide +kernel
theorem dX8_likely_114 : decode cX8_likely 114 = .ok (.ifCond .ne 12, 3) := by decide +kernel
theorem dX8_likely_117 : decode cX8_likely 117 = .ok (.iload 6, 2) := by decide +kernel
theorem dX8_likely_119 : decode cX8_likely 119 = .ok (.iload 8, 2) := by decide +kernel
theorem dX8_likely_121 : decode cX8_likely 121 = .ok (.idiv, 1) := by decide +kernel
theorem dX8_likely_122 : decode cX8_likely 122 = .ok (.i2l, 1) := by decide +kernel
theorem dX8_likely_123 : decode cX8_likely 123 = .ok (.goto 9, 3) := by decide +kernel
theorem dX8_likely_126 : decode cX8_likely 126 = .ok (.iload 7, 2) := by decide +kernel
theorem dX8_likely_128 : decode cX8_likely 128 = .ok (.iload 8, 2) := by decide +kernel
theorem dX8_likely_130 : decode cX8_likely 130 = .ok (.idiv, 1) := by decide +kernel
theorem dX8_likely_131 : decode cX8_likely 131 = .ok (.i2l, 1) := by decide +kernel
theorem dX8_likely_132 : decode cX8_likely 132 = .ok (.lreturn, 1) := by decide +kernel
theorem dX8_game_0 : decode cX8_game 0 = .ok (.aload_n 0, 1) := by decide +kernel
theorem dX8_game_1 : decode cX8_game 1 = .ok (.iload_n 1, 1) := by decide +kernel
theorem dX8_game_2 : decode cX8_game 2 = .ok (.invokevirtual 119, 3) := by decide +kernel
theorem dX8_game_5 : decode cX8_game 5 = .ok (.ifCond .eq 12, 3) := by decide +kernel
theorem dX8_game_8 : decode cX8_game 8 = .ok (.iload_n 2, 1) := by decide +kernel
theorem dX8_game_9 : decode cX8_game 9 = .ok (.ifCond .lt 8, 3) := by decide +kernel
theorem dX8_game_12 : decode cX8_game 12 = .ok (.iload_n 2, 1) := by decide +kernel
theorem dX8_game_13 : decode cX8_game 13 = .ok (.iconst 1, 1) := by decide +kernel
theorem dX8_game_14 : decode cX8_game 14 = .ok (.if_icmp .le 5, 3) := by decide +kernel
theorem dX8_game_17 : decode cX8_game 17 = .ok (.iconst (-1), 1) := by decide +kernel
theorem dX8_game_18 : decode cX8_game 18 = .ok (.ireturn, 1) := by decide +kernel
theorem dX8_game_19 : decode cX8_game 19 = .ok (.aload_n 0, 1) := by decide +kernel
theorem dX8_game_20 : decode cX8_game 20 = .ok (.getfield 51, 3) := by decide +kernel
theorem dX8_game_23 : decode cX8_game 23 = .ok (.aload_n 0, 1) := by decide +kernel
theorem dX8_game_24 : decode cX8_game 24 = .ok (.iload_n 1, 1) := by decide +kernel
theorem dX8_game_25 : decode cX8_game 25 = .ok (.invokevirtual 139, 3) := by decide +kernel
theorem dX8_game_28 : decode cX8_game 28 = .ok (.invokevirtual 248, 3) := by decide +kernel
theorem dX8_game_31 : decode cX8_game 31 = .ok (.istore_n 3, 1) := by decide +kernel
theorem dX8_game_32 : decode cX8_game 32 = .ok (.iload_n 2, 1) := by decide +kernel
theorem dX8_game_33 : decode cX8_game 33 = .ok (.iconst 1, 1) := by decide +kernel
theorem dX8_game_34 : decode cX8_game 34 = .ok (.if_icmp .ne 5, 3) := by decide +kernel
theorem dX8_game_37 : decode cX8_game 37 = .ok (.iload_n 3, 1) := by decide +kernel
theorem dX8_game_38 : decode cX8_game 38 = .ok (.ireturn, 1) := by decide +kernel
theorem dX8_game_39 : decode cX8_game 39 = .ok (.iload_n 3, 1) := by decide +kernel
theorem dX8_game_40 : decode cX8_game 40 = .ok (.bipush (-2), 2) := by decide +kernel
theorem dX8_game_42 : decode cX8_game 42 = .ok (.if_icmp .ne 7, 3) := by decide +kernel
theorem dX8_game_45 : decode cX8_game 45 = .ok (.iconst 0, 1) := by decide +kernel
theorem dX8_game_46 : decode cX8_game 46 = .ok (.goto 4, 3) := by decide +kernel
theorem dX8_game_49 : decode cX8_game 49 = .ok (.iconst 1, 1) := by decide +kernel
theorem dX8_game_50 : decode cX8_game 50 = .ok (.ireturn, 1) := by decide +kernel
theorem dX8_drawn_0 : decode cX8_drawn 0 = .ok (.iload_n 2, 1) := by decide +kernel
theorem dX8_drawn_1 : decode cX8_drawn 1 = .ok (.ifCond .lt 22, 3) := by decide +kernel
theorem dX8_drawn_4 : decode cX8_drawn 4 = .ok (.aload_n 0, 1) := by decide +kernel
theorem dX8_drawn_5 : decode cX8_drawn 5 = .ok (.iload_n 3, 1) := by decide +kernel
theorem dX8_drawn_6 : decode cX8_drawn 6 = .ok (.invokevirtual 119, 3) := by decide +kernel
theorem dX8_drawn_9 : decode cX8_drawn 9 = .ok (.ifCond .eq 14, 3) := by decide +kernel
theorem dX8_drawn_12 : decode cX8_drawn 12 = .ok (.iload 4, 2) := by decide +kernel
theorem dX8_drawn_14 : decode cX8_drawn 14 = .ok (.ifCond .lt 9, 3) := by decide +kernel
theorem dX8_drawn_17 : decode cX8_drawn 17 = .ok (.iload 4, 2) := by decide +kernel
theorem dX8_drawn_19 : decode cX8_drawn 19 = .ok (.iconst 1, 1) := by decide +kernel
theorem dX8_drawn_20 : decode cX8_drawn 20 = .ok (.if_icmp .le 5, 3) := by decide +kernel
theorem dX8_drawn_23 : decode cX8_drawn 23 = .ok (.iconst (-1), 1) := by decide +kernel
theorem dX8_drawn_24 : decode cX8_drawn 24 = .ok (.ireturn, 1) := by decide +kernel
theorem dX8_drawn_25 : decode cX8_drawn 25 = .ok (.iload_n 2, 1) := by decide +kernel
theorem dX8_drawn_26 : decode cX8_drawn 26 = .ok (.bipush 100, 2) := by decide +kernel
theorem dX8_drawn_28 : decode cX8_drawn 28 = .ok (.idiv, 1) := by decide +kernel
theorem dX8_drawn_29 : decode cX8_drawn 29 = .ok (.istore 5, 2) := by decide +kernel
theorem dX8_drawn_31 : decode cX8_drawn 31 = .ok (.iload_n 2, 1) := by decide +kernel
theorem dX8_drawn_32 : decode cX8_drawn 32 = .ok (.bipush 100, 2) := by decide +kernel
theorem dX8_drawn_34 : decode cX8_drawn 34 = .ok (.irem, 1) := by decide +kernel
theorem dX8_drawn_35 : decode cX8_drawn 35 = .ok (.istore 6, 2) := by decide +kernel
theorem dX8_drawn_37 : decode cX8_drawn 37 = .ok (.iload 5, 2) := by decide +kernel
theorem dX8_drawn_39 : decode cX8_drawn 39 = .ok (.iconst 1, 1) := by decide +kernel
theorem dX8_drawn_40 : decode cX8_drawn 40 = .ok (.if_icmp .lt 23, 3) := by decide +kernel
theorem dX8_drawn_43 : decode cX8_drawn 43 = .ok (.iload 5, 2) := by decide +kernel
theorem dX8_drawn_45 : decode cX8_drawn 45 = .ok (.bipush 30, 2) := by decide +kernel
theorem dX8_drawn_47 : decode cX8_drawn 47 = .ok (.if_icmp .gt 16, 3) := by decide +kernel
theorem dX8_drawn_50 : decode cX8_drawn 50 = .ok (.iload 6, 2) := by decide +kernel
theorem dX8_drawn_52 : decode cX8_drawn 52 = .ok (.iconst 1, 1) := by decide +kernel
theorem dX8_drawn_53 : decode cX8_drawn 53 = .ok (.if_icmp .lt 10, 3) := by decide +kernel
theorem dX8_drawn_56 : decode cX8_drawn 56 = .ok (.iload 6, 2) := by decide +kernel
theorem dX8_drawn_58 : decode cX8_drawn 58 = .ok (.bipush 20, 2) := by decide +kernel
theorem dX8_drawn_60 : decode cX8_drawn 60 = .ok (.if_icmp .le 5, 3) := by decide +kernel
theorem dX8_drawn_63 : decode cX8_drawn 63 = .ok (.iconst (-1), 1) := by decide +kernel
theorem dX8_drawn_64 : decode cX8_drawn 64 = .ok (.ireturn, 1) := by decide +kernel
theorem dX8_drawn_65 : decode cX8_drawn 65 = .ok (.aload_n 0, 1) := by decide +kernel
theorem dX8_drawn_66 : decode cX8_drawn 66 = .ok (.getfield 51, 3) := by decide +kernel
theorem dX8_drawn_69 : decode cX8_drawn 69 = .ok (.iload_n 1, 1) := by decide +kernel
theorem dX8_drawn_70 : decode cX8_drawn 70 = .ok (.iload 5, 2) := by decide +kernel
theorem dX8_drawn_72 : decode cX8_drawn 72 = .ok (.iload 6, 2) := by decide +kernel
theorem dX8_drawn_74 : decode cX8_drawn 74 = .ok (.aload_n 0, 1) := by decide +kernel
theorem dX8_drawn_75 : decode cX8_drawn 75 = .ok (.iload_n 3, 1) := by decide +kernel
theorem dX8_drawn_76 : decode cX8_drawn 76 = .ok (.invokevirtual 139, 3) := by decide +kernel
theorem dX8_drawn_79 : decode cX8_drawn 79 = .ok (.iload 4, 2) := by decide +kernel
theorem dX8_drawn_81 : decode cX8_drawn 81 = .ok (.iconst 1, 1) := by decide +kernel
theorem dX8_drawn_82 : decode cX8_drawn 82 = .ok (.if_icmp .ne 7, 3) := by decide +kernel
theorem dX8_drawn_85 : decode cX8_drawn 85 = .ok (.iconst 1, 1) := by decide +kernel
theorem dX8_drawn_86 : decode cX8_drawn 86 = .ok (.goto 4, 3) := by decide +kernel
theorem dX8_drawn_89 : decode cX8_drawn 89 = .ok (.iconst 0, 1) := by decide +kernel
theorem dX8_drawn_90 : decode cX8_drawn 90 = .ok (.invokevirtual 251, 3) := by decide +kernel
theorem dX8_drawn_93 : decode cX8_drawn 93 = .ok (.ireturn, 1) := by decide +kernel
theorem dX8_speak_0 : decode cX8_speak 0 = .ok (.aload_n 0, 1) := by decide +kernel
theorem dX8_speak_1 : decode cX8_speak 1 = .ok (.iload_n 2, 1) := by decide +kernel
theorem dX8_speak_2 : decode cX8_speak 2 = .ok (.invokevirtual 119, 3) := by decide +kernel
theorem dX8_speak_5 : decode cX8_speak 5 = .ok (.ifCond .ne 5, 3) := by decide +kernel
theorem dX8_speak_8 : decode cX8_speak 8 = .ok (.iconst (-1), 1) := by decide +kernel
theorem dX8_speak_9 : decode cX8_speak 9 = .ok (.ireturn, 1) := by decide +kernel
theorem dX8_speak_10 : decode cX8_speak 10 = .ok (.aload_n 0, 1) := by decide +kernel
theorem dX8_speak_11 : decode cX8_speak 11 = .ok (.iload_n 1, 1) := by decide +kernel
theorem dX8_speak_12 : decode cX8_speak 12 = .ok (.iload_n 2, 1) := by decide +kernel
theorem dX8_speak_13 : decode cX8_speak 13 = .ok (.invokevirtual 146, 3) := by decide +kernel
theorem dX8_speak_16 : decode cX8_speak 16 = .ok (.istore_n 3, 1) := by decide +kernel
theorem dX8_speak_17 : decode cX8_speak 17 = .ok (.iload_n 3, 1) := by decide +kernel
theorem dX8_speak_18 : decode cX8_speak 18 = .ok (.ifCond .ge 5, 3) := by decide +kernel
theorem dX8_speak_21 : decode cX8_speak 21 = .ok (.iload_n 3, 1) := by decide +kernel
theorem dX8_speak_22 : decode cX8_speak 22 = .ok (.ireturn, 1) := by decide +kernel
theorem dX8_speak_23 : decode cX8_speak 23 = .ok (.aload_n 0, 1) := by decide +kernel
theorem dX8_speak_24 : decode cX8_speak 24 = .ok (.getfield 42, 3) := by decide +kernel
theorem dX8_speak_27 : decode cX8_speak 27 = .ok (.aload_n 0, 1) := by decide +kernel
theorem dX8_speak_28 : decode cX8_speak 28 = .ok (.getfield 69, 3) := by decide +kernel
theorem dX8_speak_31 : decode cX8_speak 31 = .ok (.iload_n 3, 1) := by decide +kernel
theorem dX8_speak_32 : decode cX8_speak 32 = .ok (.aload_n 0, 1) := by decide +kernel
theorem dX8_speak_33 : decode cX8_speak 33 = .ok (.iload_n 2, 1) := by decide +kernel
theorem dX8_speak_34 : decode cX8_speak 34 = .ok (.invokevirtual 139, 3) := by decide +kernel
theorem dX8_speak_37 : decode cX8_speak 37 = .ok (.aload_n 0, 1) := by decide +kernel
theorem dX8_speak_38 : decode cX8_speak 38 = .ok (.getfield 58, 3) := by decide +kernel
theorem dX8_speak_41 : decode cX8_speak 41 = .ok (.iload_n 2, 1) := by decide +kernel
theorem dX8_speak_42 : decode cX8_speak 42 = .ok (.invokevirtual 122, 3) := by decide +kernel
theorem dX8_speak_45 : decode cX8_speak 45 = .ok (.invokevirtual 149, 3) := by decide +kernel
theorem dX8_speak_48 : decode cX8_speak 48 = .ok (.aload_n 0, 1) := by decide +kernel
theorem dX8_speak_49 : decode cX8_speak 49 = .ok (.getfield 42, 3) := by decide +kernel
theorem dX8_speak_52 : decode cX8_speak 52 = .ok (.aload_n 0, 1) := by decide +kernel
theorem dX8_speak_53 : decode cX8_speak 53 = .ok (.getfield 42, 3) := by decide +kernel
theorem dX8_speak_56 : decode cX8_speak 56 = .ok (.getfield 170, 3) := by decide +kernel
theorem dX8_speak_59 : decode cX8_speak 59 = .ok (.aload_n 0, 1) := by decide +kernel
theorem dX8_speak_60 : decode cX8_speak 60 = .ok (.getfield 42, 3) := by decide +kernel
theorem dX8_speak_63 : decode cX8_speak 63 = .ok (.getfield 156, 3) := by decide +kernel
theorem dX8_speak_66 : decode cX8_speak 66 = .ok (.iconst 1, 1) := by decide +kernel
theorem dX8_speak_67 : decode cX8_speak 67 = .ok (.invokevirtual 173, 3) := by decide +kernel
theorem dX8_speak_70 : decode cX8_speak 70 = .ok (.istore 4, 2) := by decide +kernel
theorem dX8_speak_72 : decode cX8_speak 72 = .ok (.aload_n 0, 1) := by decide +kernel
theorem dX8_speak_73 : decode cX8_speak 73 = .ok (.getfield 42, 3) := by decide +kernel
theorem dX8_speak_76 : decode cX8_speak 76 = .ok (.aload_n 0, 1) := by decide +kernel
theorem dX8_speak_77 : decode cX8_speak 77 = .ok (.getfield 42, 3) := by decide +kernel
theorem dX8_speak_80 : decode cX8_speak 80 = .ok (.getfield 159, 3) := by decide +kernel
theorem dX8_speak_83 : decode cX8_speak 83 = .ok (.aload_n 0, 1) := by decide +kernel
theorem dX8_speak_84 : decode cX8_speak 84 = .ok (.getfield 42, 3) := by decide +kernel
theorem dX8_speak_87 : decode cX8_speak 87 = .ok (.getfield 153, 3) := by decide +kernel
theorem dX8_speak_90 : decode cX8_speak 90 = .ok (.invokevirtual 166, 3) := by decide +kernel
theorem dX8_speak_93 : decode cX8_speak 93 = .ok (.invokestatic 207, 3) := by decide +kernel
theorem dX8_speak_96 : decode cX8_speak 96 = .ok (.istore 5, 2) := by decide +kernel
theorem dX8_speak_98 : decode cX8_speak 98 = .ok (.aload_n 0, 1) := by decide +kernel
theorem dX8_speak_99 : decode cX8_speak 99 = .ok (.getfield 58, 3) := by decide +kernel
theorem dX8_speak_102 : decode cX8_speak 102 = .ok (.iload_n 2, 1) := by decide +kernel
theorem dX8_speak_103 : decode cX8_speak 103 = .ok (.aload_n 0, 1) := by decide +kernel
theorem dX8_speak_104 : decode cX8_speak 104 = .ok (.getfield 42, 3) := by decide +kernel
theorem dX8_speak_107 : decode cX8_speak 107 = .ok (.getfield 153, 3) := by decide +kernel
theorem dX8_speak_110 : decode cX8_speak 110 = .ok (.aload_n 0, 1) := by decide +kernel
theorem dX8_speak_111 : decode cX8_speak 111 = .ok (.getfield 42, 3) := by decide +kernel
theorem dX8_speak_114 : decode cX8_speak 114 = .ok (.getfield 156, 3) := by decide +kernel
theorem dX8_speak_117 : decode cX8_speak 117 = .ok (.iload 4, 2) := by decide +kernel
theorem dX8_speak_119 : decode cX8_speak 119 = .ok (.iload 5, 2) := by decide +kernel
theorem dX8_speak_121 : decode cX8_speak 121 = .ok (.invokevirtual 255, 3) := by decide +kernel
theorem dX8_speak_124 : decode cX8_speak 124 = .ok (.aload_n 0, 1) := by decide +kernel
theorem dX8_speak_125 : decode cX8_speak 125 = .ok (.getfield 42, 3) := by decide +kernel
theorem dX8_speak_128 : decode cX8_speak 128 = .ok (.getfield 153, 3) := by decide +kernel
theorem dX8_speak_131 : decode cX8_speak 131 = .ok (.ireturn, 1) := by decide +kernel
theorem dX8_rinse_0 : decode cX8_rinse 0 = .ok (.aload_n 0, 1) := by decide +kernel
theorem dX8_rinse_1 : decode cX8_rinse 1 = .ok (.iload_n 1, 1) := by decide +kernel
theorem dX8_rinse_2 : decode cX8_rinse 2 = .ok (.invokevirtual 119, 3) := by decide +kernel
theorem dX8_rinse_5 : decode cX8_rinse 5 = .ok (.ifCond .eq 14, 3) := by decide +kernel
theorem dX8_rinse_8 : decode cX8_rinse 8 = .ok (.aload_n 0, 1) := by decide +kernel
theorem dX8_rinse_9 : decode cX8_rinse 9 = .ok (.getfield 58, 3) := by decide +kernel
theorem dX8_rinse_12 : decode cX8_rinse 12 = .ok (.iload_n 1, 1) := by decide +kernel
theorem dX8_rinse_13 : decode cX8_rinse 13 = .ok (.invokevirtual 259, 3) := by decide +kernel
theorem dX8_rinse_16 : decode cX8_rinse 16 = .ok (.goto 4, 3) := by decide +kernel
theorem dX8_rinse_19 : decode cX8_rinse 19 = .ok (.iconst (-1), 1) := by decide +kernel
theorem dX8_rinse_20 : decode cX8_rinse 20 = .ok (.ireturn, 1) := by decide +kernel
theorem dX8_led_0 : decode cX8_led 0 = .ok (.aload_n 0, 1) := by decide +kernel
theorem dX8_led_1 : decode cX8_led 1 = .ok (.getfield 58, 3) := by decide +kernel
theorem dX8_led_4 : decode cX8_led 4 = .ok (.iload_n 1, 1) := by decide +kernel
theorem dX8_led_5 : decode cX8_led 5 = .ok (.invokevirtual 262, 3) := by decide +kernel
theorem dX8_led_8 : decode cX8_led 8 = .ok (.ireturn, 1) := by decide +kernel
theorem dX8_image_0 : decode cX8_image 0 = .ok (.aload_n 0, 1) := by decide +kernel
theorem dX8_image_1 : decode cX8_image 1 = .ok (.getfield 58, 3) := by decide +kernel
theorem dX8_image_4 : decode cX8_image 4 = .ok (.invokevirtual 265, 3) := by decide +kernel
theorem dX8_image_7 : decode cX8_image 7 = .ok (.ireturn, 1) := by decide +kernel
theorem dX8_back_0 : decode cX8_back 0 = .ok (.aload_n 0, 1) := by decide +kernel
theorem dX8_back_1 : decode cX8_back 1 = .ok (.getfield 58, 3) := by decide +kernel
theorem dX8_back_4 : decode cX8_back 4 = .ok (.invokevirtual 268, 3) := by decide +kernel
theorem dX8_back_7 : decode cX8_back 7 = .ok (.ireturn, 1) := by decide +kernel
theorem dX8_undo_0 : decode cX8_undo 0 = .ok (.aload_n 0, 1) := by decide +kernel
theorem dX8_undo_1 : decode cX8_undo 1 = .ok (.getfield 19, 3) := by decide +kernel
theorem dX8_undo_4 : decode cX8_undo 4 = .ok (.aload_n 0, 1) := by decide +kernel
theorem dX8_undo_5 : decode cX8_undo 5 = .ok (.getfield 10, 3) := by decide +kernel
theorem dX8_undo_8 : decode cX8_undo 8 = .ok (.invokevirtual 271, 3) := by decide +kernel
theorem dX8_undo_11 : decode cX8_undo 11 = .ok (.ireturn, 1) := by decide +kernel
theorem dX8_redo_0 : decode cX8_redo 0 = .ok (.aload_n 0, 1) := by decide +kernel
theorem dX8_redo_1 : decode cX8_redo 1 = .ok (.getfield 19, 3) := by decide +kernel
theorem dX8_redo_4 : decode cX8_redo 4 = .ok (.aload_n 0, 1) := by decide +kernel
theorem dX8_redo_5 : decode cX8_redo 5 = .ok (.getfield 10, 3) := by decide +kernel
theorem dX8_redo_8 : decode cX8_redo 8 = .ok (.invokevirtual 275, 3) := by decide +kernel
theorem dX8_redo_11 : decode cX8_redo 11 = .ok (.ireturn, 1) := by decide +kernel
theorem dX8_body_0 : decode cX8_body 0 = .ok (.iload_n 1, 1) := by decide +kernel
theorem dX8_body_1 : decode cX8_body 1 = .ok (.ifCond .lt 9, 3) := by decide +kernel
theorem dX8_body_4 : decode cX8_body 4 = .ok (.iload_n 1, 1) := by decide +kernel
theorem dX8_body_5 : decode cX8_body 5 = .ok (.bipush 8, 2) := by decide +kernel
theorem dX8_body_7 : decode cX8_body 7 = .ok (.if_icmp .lt 7, 3) := by decide +kernel
theorem dX8_body_10 : decode cX8_body 10 = .ok (.iconst (-1), 1) := by decide +kernel
theorem dX8_body_11 : decode cX8_body 11 = .ok (.goto 11, 3) := by decide +kernel
theorem dX8_body_14 : decode cX8_body 14 = .ok (.aload_n 0, 1) := by decide +kernel
theorem dX8_body_15 : decode cX8_body 15 = .ok (.getfield 65, 3) := by decide +kernel
theorem dX8_body_18 : decode cX8_body 18 = .ok (.iload_n 1, 1) := by decide +kernel
theorem dX8_body_19 : decode cX8_body 19 = .ok (.invokevirtual 278, 3) := by decide +kernel
theorem dX8_body_22 : decode cX8_body 22 = .ok (.ireturn, 1) := by decide +kernel
theorem dX8_act_0 : decode cX8_act 0 = .ok (.aload_n 0, 1) := by decide +kernel
theorem dX8_act_1 : decode cX8_act 1 = .ok (.getfield 65, 3) := by decide +kernel
theorem dX8_act_4 : decode cX8_act 4 = .ok (.iload_n 1, 1) := by decide +kernel
theorem dX8_act_5 : decode cX8_act 5 = .ok (.iload_n 2, 1) := by decide +kernel
theorem dX8_act_6 : decode cX8_act 6 = .ok (.iload_n 3, 1) := by decide +kernel
theorem dX8_act_7 : decode cX8_act 7 = .ok (.invokevirtual 281, 3) := by decide +kernel
theorem dX8_act_10 : decode cX8_act 10 = .ok (.ireturn, 1) := by decide +kernel
theorem dX8_trace_0 : decode cX8_trace 0 = .ok (.aload_n 0, 1) := by decide +kernel
theorem dX8_trace_1 : decode cX8_trace 1 = .ok (.getfield 65, 3) := by decide +kernel
theorem dX8_trace_4 : decode cX8_trace 4 = .ok (.iload_n 1, 1) := by decide +kernel
theorem dX8_trace_5 : decode cX8_trace 5 = .ok (.invokevirtual 284, 3) := by decide +kernel
theorem dX8_trace_8 : decode cX8_trace 8 = .ok (.ireturn, 1) := by decide +kernel
theorem dX8_keep_0 : decode cX8_keep 0 = .ok (.iload_n 1, 1) := by decide +kernel
theorem dX8_keep_1 : decode cX8_keep 1 = .ok (.invokestatic 84, 3) := by decide +kernel
theorem dX8_keep_4 : decode cX8_keep 4 = .ok (.ifCond .eq 19, 3) := by decide +kernel
theorem dX8_keep_7 : decode cX8_keep 7 = .ok (.iload_n 2, 1) := by decide +kernel
theorem dX8_keep_8 : decode cX8_keep 8 = .ok (.iconst (-1), 1) := by decide +kernel
theorem dX8_keep_9 : decode cX8_keep 9 = .ok (.if_icmp .lt 14, 3) := by decide +kernel
theorem dX8_keep_12 : decode cX8_keep 12 = .ok (.iload_n 2, 1) := by decide +kernel
theorem dX8_keep_13 : decode cX8_keep 13 = .ok (.aload_n 0, 1) := by decide +kernel
theorem dX8_keep_14 : decode cX8_keep 14 = .ok (.getfield 65, 3) := by decide +kernel
theorem dX8_keep_17 : decode cX8_keep 17 = .ok (.getfield 287, 3) := by decide +kernel
theorem dX8_keep_20 : decode cX8_keep 20 = .ok (.if_icmp .lt 5, 3) := by decide +kernel
theorem dX8_keep_23 : decode cX8_keep 23 = .ok (.iconst (-1), 1) := by decide +kernel
theorem dX8_keep_24 : decode cX8_keep 24 = .ok (.ireturn, 1) := by decide +kernel
theorem dX8_keep_25 : decode cX8_keep 25 = .ok (.aload_n 0, 1) := by decide +kernel
theorem dX8_keep_26 : decode cX8_keep 26 = .ok (.getfield 33, 3) := by decide +kernel
theorem dX8_keep_29 : decode cX8_keep 29 = .ok (.iload_n 1, 1) := by decide +kernel
theorem dX8_keep_30 : decode cX8_keep 30 = .ok (.iload_n 2, 1) := by decide +kernel
theorem dX8_keep_31 : decode cX8_keep 31 = .ok (.invokevirtual 290, 3) := by decide +kernel
theorem dX8_keep_34 : decode cX8_keep 34 = .ok (.iconst 1, 1) := by decide +kernel
theorem dX8_keep_35 : decode cX8_keep 35 = .ok (.ireturn, 1) := by decide +kernel
theorem dX8_row_0 : decode cX8_row 0 = .ok (.iload_n 1, 1) := by decide +kernel
theorem dX8_row_1 : decode cX8_row 1 = .ok (.invokestatic 84, 3) := by decide +kernel
theorem dX8_row_4 : decode cX8_row 4 = .ok (.ifCond .eq 18, 3) := by decide +kernel
theorem dX8_row_7 : decode cX8_row 7 = .ok (.iload_n 2, 1) := by decide +kernel
theorem dX8_row_8 : decode cX8_row 8 = .ok (.ifCond .lt 14, 3) := by decide +kernel
theorem dX8_row_11 : decode cX8_row 11 = .ok (.iload_n 2, 1) := by decide +kernel
theorem dX8_row_12 : decode cX8_row 12 = .ok (.iconst 5, 1) := by decide +kernel
theorem dX8_row_13 : decode cX8_row 13 = .ok (.if_icmp .ge 9, 3) := by decide +kernel
theorem dX8_row_16 : decode cX8_row 16 = .ok (.iload_n 3, 1) := by decide +kernel
theorem dX8_row_17 : decode cX8_row 17 = .ok (.bipush 60, 2) := by decide +kernel
theorem dX8_row_19 : decode cX8_row 19 = .ok (.if_icmp .le 5, 3) := by decide +kernel
theorem dX8_row_22 : decode cX8_row 22 = .ok (.iconst (-1), 1) := by decide +kernel
theorem dX8_row_23 : decode cX8_row 23 = .ok (.ireturn, 1) := by decide +kernel
theorem dX8_row_24 : decode cX8_row 24 = .ok (.iload_n 3, 1) := by decide +kernel
theorem dX8_row_25 : decode cX8_row 25 = .ok (.ifCond .ge 6, 3) := by decide +kernel
theorem dX8_row_28 : decode cX8_row 28 = .ok (.bipush (-14), 2) := by decide +kernel
theorem dX8_row_30 : decode cX8_row 30 = .ok (.ireturn, 1) := by decide +kernel
theorem dX8_row_31 : decode cX8_row 31 = .ok (.aload_n 0, 1) := by decide +kernel
theorem dX8_row_32 : decode cX8_row 32 = .ok (.getfield 33, 3) := by decide +kernel
theorem dX8_row_35 : decode cX8_row 35 = .ok (.iload_n 1, 1) := by decide +kernel
theorem dX8_row_36 : decode cX8_row 36 = .ok (.iload_n 2, 1) := by decide +kernel
theorem dX8_row_37 : decode cX8_row 37 = .ok (.iload_n 3, 1) := by decide +kernel
theorem dX8_row_38 : decode cX8_row 38 = .ok (.invokevirtual 294, 3) := by decide +kernel
theorem dX8_row_41 : decode cX8_row 41 = .ok (.iconst 1, 1) := by decide +kernel
theorem dX8_row_42 : decode cX8_row 42 = .ok (.ireturn, 1) := by decide +kernel
theorem dX8_put_0 : decode cX8_put 0 = .ok (.aload_n 0, 1) := by decide +kernel
theorem dX8_put_1 : decode cX8_put 1 = .ok (.iload_n 1, 1) := by decide +kernel
theorem dX8_put_2 : decode cX8_put 2 = .ok (.iload_n 2, 1) := by decide +kernel
theorem dX8_put_3 : decode cX8_put 3 = .ok (.invokevirtual 297, 3) := by decide +kernel
theorem dX8_put_6 : decode cX8_put 6 = .ok (.istore 5, 2) := by decide +kernel
theorem dX8_put_8 : decode cX8_put 8 = .ok (.iload 5, 2) := by decide +kernel
theorem dX8_put_10 : decode cX8_put 10 = .ok (.ifCond .eq 6, 3) := by decide +kernel
theorem dX8_put_13 : decode cX8_put 13 = .ok (.iload 5, 2) := by decide +kernel
theorem dX8_put_15 : decode cX8_put 15 = .ok (.ireturn, 1) := by decide +kernel
theorem dX8_put_16 : decode cX8_put 16 = .ok (.aload_n 0, 1) := by decide +kernel
theorem dX8_put_17 : decode cX8_put 17 = .ok (.getfield 33, 3) := by decide +kernel
theorem dX8_put_20 : decode cX8_put 20 = .ok (.iload_n 1, 1) := by decide +kernel
theorem dX8_put_21 : decode cX8_put 21 = .ok (.iload_n 2, 1) := by decide +kernel
theorem dX8_put_22 : decode cX8_put 22 = .ok (.lload_n 3, 1) := by decide +kernel
theorem dX8_put_23 : decode cX8_put 23 = .ok (.invokevirtual 300, 3) := by decide +kernel
theorem dX8_put_26 : decode cX8_put 26 = .ok (.iconst 1, 1) := by decide +kernel
theorem dX8_put_27 : decode cX8_put 27 = .ok (.ireturn, 1) := by decide +kernel
theorem dX8_element_0 : decode cX8_element 0 = .ok (.aload_n 0, 1) := by decide +kernel
theorem dX8_element_1 : decode cX8_element 1 = .ok (.iload_n 1, 1) := by decide +kernel
theorem dX8_element_2 : decode cX8_element 2 = .ok (.iload_n 2, 1) := by decide +kernel
theorem dX8_element_3 : decode cX8_element 3 = .ok (.invokevirtual 297, 3) := by decide +kernel
theorem dX8_element_6 : decode cX8_element 6 = .ok (.ifCond .eq 9, 3) := by decide +kernel
theorem dX8_element_9 : decode cX8_element 9 = .ok (.ldc2_w 215, 3) := by decide +kernel
theorem dX8_element_12 : decode cX8_element 12 = .ok (.goto 12, 3) := by decide +kernel
theorem dX8_element_15 : decode cX8_element 15 = .ok (.aload_n 0, 1) := by decide +kernel
theorem dX8_element_16 : decode cX8_element 16 = .ok (.getfield 33, 3) := by decide +kernel
theorem dX8_element_19 : decode cX8_element 19 = .ok (.iload_n 1, 1) := by decide +kernel
theorem dX8_element_20 : decode cX8_element 20 = .ok (.iload_n 2, 1) := by decide +kernel
theorem dX8_element_21 : decode cX8_element 21 = .ok (.invokevirtual 184, 3) := by decide +kernel
theorem dX8_element_24 : decode cX8_element 24 = .ok (.lreturn, 1) := by decide +kernel
theorem dX8_shift_0 : decode cX8_shift 0 = .ok (.iload_n 1, 1) := by decide +kernel
theorem dX8_shift_1 : decode cX8_shift 1 = .ok (.invokestatic 84, 3) := by decide +kernel
theorem dX8_shift_4 : decode cX8_shift 4 = .ok (.ifCond .eq 10, 3) := by decide +kernel
theorem dX8_shift_7 : decode cX8_shift 7 = .ok (.iload_n 3, 1) := by decide +kernel
theorem dX8_shift_8 : decode cX8_shift 8 = .ok (.invokestatic 84, 3) := by decide +kernel
theorem dX8_shift_11 : decode cX8_shift 11 = .ok (.ifCond .ne 5, 3) := by decide +kernel
theorem dX8_shift_14 : decode cX8_shift 14 = .ok (.iconst (-1), 1) := by decide +kernel
theorem dX8_shift_15 : decode cX8_shift 15 = .ok (.ireturn, 1) := by decide +kernel
theorem dX8_shift_16 : decode cX8_shift 16 = .ok (.aload_n 0, 1) := by decide +kernel
theorem dX8_shift_17 : decode cX8_shift 17 = .ok (.getfield 33, 3) := by decide +kernel
theorem dX8_shift_20 : decode cX8_shift 20 = .ok (.iload_n 1, 1) := by decide +kernel
theorem dX8_shift_21 : decode cX8_shift 21 = .ok (.invokevirtual 304, 3) := by decide +kernel
theorem dX8_shift_24 : decode cX8_shift 24 = .ok (.ifCond .ne 14, 3) := by decide +kernel
theorem dX8_shift_27 : decode cX8_shift 27 = .ok (.aload_n 0, 1) := by decide +kernel
theorem dX8_shift_28 : decode cX8_shift 28 = .ok (.getfield 33, 3) := by decide +kernel
theorem dX8_shift_31 : decode cX8_shift 31 = .ok (.iload_n 3, 1) := by decide +kernel
theorem dX8_shift_32 : decode cX8_shift 32 = .ok (.invokevirtual 304, 3) := by decide +kernel
theorem dX8_shift_35 : decode cX8_shift 35 = .ok (.ifCond .eq 6, 3) := by decide +kernel
theorem dX8_shift_38 : decode cX8_shift 38 = .ok (.bipush (-11), 2) := by decide +kernel
theorem dX8_shift_40 : decode cX8_shift 40 = .ok (.ireturn, 1) := by decide +kernel
theorem dX8_shift_41 : decode cX8_shift 41 = .ok (.aload_n 0, 1) := by decide +kernel
theorem dX8_shift_42 : decode cX8_shift 42 = .ok (.getfield 33, 3) := by decide +kernel
theorem dX8_shift_45 : decode cX8_shift 45 = .ok (.iload_n 1, 1) := by decide +kernel
theorem dX8_shift_46 : decode cX8_shift 46 = .ok (.invokevirtual 307, 3) := by decide +kernel
theorem dX8_shift_49 : decode cX8_shift 49 = .ok (.ifCond .eq 15, 3) := by decide +kernel
theorem dX8_shift_52 : decode cX8_shift 52 = .ok (.aload_n 0, 1) := by decide +kernel
theorem dX8_shift_53 : decode cX8_shift 53 = .ok (.getfield 33, 3) := by decide +kernel
theorem dX8_shift_56 : decode cX8_shift 56 = .ok (.iload_n 1, 1) := by decide +kernel
theorem dX8_shift_57 : decode cX8_shift 57 = .ok (.iload_n 3, 1) := by decide +kernel
theorem dX8_shift_58 : decode cX8_shift 58 = .ok (.invokevirtual 310, 3) := by decide +kernel
theorem dX8_shift_61 : decode cX8_shift 61 = .ok (.ifCond .ne 6, 3) := by decide +kernel
theorem dX8_shift_64 : decode cX8_shift 64 = .ok (.bipush (-12), 2) := by decide +kernel
theorem dX8_shift_66 : decode cX8_shift 66 = .ok (.ireturn, 1) := by decide +kernel
theorem dX8_shift_67 : decode cX8_shift 67 = .ok (.aload_n 0, 1) := by decide +kernel
theorem dX8_shift_68 : decode cX8_shift 68 = .ok (.getfield 33, 3) := by decide +kernel
theorem dX8_shift_71 : decode cX8_shift 71 = .ok (.iload_n 1, 1) := by decide +kernel
theorem dX8_shift_72 : decode cX8_shift 72 = .ok (.iload_n 2, 1) := by decide +kernel
theorem dX8_shift_73 : decode cX8_shift 73 = .ok (.iload 5, 2) := by decide +kernel
theorem dX8_shift_75 : decode cX8_shift 75 = .ok (.invokevirtual 313, 3) := by decide +kernel
theorem dX8_shift_78 : decode cX8_shift 78 = .ok (.ifCond .eq 18, 3) := by decide +kernel
theorem dX8_shift_81 : decode cX8_shift 81 = .ok (.aload_n 0, 1) := by decide +kernel
theorem dX8_shift_82 : decode cX8_shift 82 = .ok (.getfield 33, 3) := by decide +kernel
theorem dX8_shift_85 : decode cX8_shift 85 = .ok (.iload_n 3, 1) := by decide +kernel
theorem dX8_shift_86 : decode cX8_shift 86 = .ok (.iload 4, 2) := by decide +kernel
theorem dX8_shift_88 : decode cX8_shift 88 = .ok (.iload 5, 2) := by decide +kernel
theorem dX8_shift_90 : decode cX8_shift 90 = .ok (.invokevirtual 313, 3) := by decide +kernel
theorem dX8_shift_93 : decode cX8_shift 93 = .ok (.ifCond .ne 6, 3) := by decide +kernel
theorem dX8_shift_96 : decode cX8_shift 96 = .ok (.bipush (-13), 2) := by decide +kernel
theorem dX8_shift_98 : decode cX8_shift 98 = .ok (.ireturn, 1) := by decide +kernel
theorem dX8_shift_99 : decode cX8_shift 99 = .ok (.aload_n 0, 1) := by decide +kernel
theorem dX8_shift_100 : decode cX8_shift 100 = .ok (.getfield 33, 3) := by decide +kernel
theorem dX8_shift_103 : decode cX8_shift 103 = .ok (.iload_n 1, 1) := by decide +kernel
theorem dX8_shift_104 : decode cX8_shift 104 = .ok (.iload_n 2, 1) := by decide +kernel
