theorem dX8_shift_105 : decode cX8_shift 105 = .ok (.iload_n 3, 1) := by decide +kernel
theorem dX8_shift_106 : decode cX8_shift 106 = .ok (.iload 4, 2) := by decide +kernel
theorem dX8_shift_108 : decode cX8_shift 108 = .ok (.iload 5, 2) := by decide +kernel
theorem dX8_shift_110 : decode cX8_shift 110 = .ok (.invokevirtual 317, 3) := by decide +kernel
theorem dX8_shift_113 : decode cX8_shift 113 = .ok (.iload 5, 2) := by decide +kernel
theorem dX8_shift_115 : decode cX8_shift 115 = .ok (.ireturn, 1) := by decide +kernel
theorem dX8_taken_0 : decode cX8_taken 0 = .ok (.iload_n 1, 1) := by decide +kernel
theorem dX8_taken_1 : decode cX8_taken 1 = .ok (.invokestatic 84, 3) := by decide +kernel
theorem dX8_taken_4 : decode cX8_taken 4 = .ok (.ifCond .eq 13, 3) := by decide +kernel
theorem dX8_taken_7 : decode cX8_taken 7 = .ok (.iload_n 2, 1) := by decide +kernel
theorem dX8_taken_8 : decode cX8_taken 8 = .ok (.ifCond .lt 9, 3) := by decide +kernel
theorem dX8_taken_11 : decode cX8_taken 11 = .ok (.iload_n 2, 1) := by decide +kernel
theorem dX8_taken_12 : decode cX8_taken 12 = .ok (.bipush 8, 2) := by decide +kernel
theorem dX8_taken_14 : decode cX8_taken 14 = .ok (.if_icmp .lt 5, 3) := by decide +kernel
theorem dX8_taken_17 : decode cX8_taken 17 = .ok (.iconst (-1), 1) := by decide +kernel
theorem dX8_taken_18 : decode cX8_taken 18 = .ok (.ireturn, 1) := by decide +kernel
theorem dX8_taken_19 : decode cX8_taken 19 = .ok (.aload_n 0, 1) := by decide +kernel
theorem dX8_taken_20 : decode cX8_taken 20 = .ok (.getfield 33, 3) := by decide +kernel
theorem dX8_taken_23 : decode cX8_taken 23 = .ok (.iload_n 1, 1) := by decide +kernel
theorem dX8_taken_24 : decode cX8_taken 24 = .ok (.invokevirtual 304, 3) := by decide +kernel
theorem dX8_taken_27 : decode cX8_taken 27 = .ok (.ifCond .eq 6, 3) := by decide +kernel
theorem dX8_taken_30 : decode cX8_taken 30 = .ok (.bipush (-11), 2) := by decide +kernel
theorem dX8_taken_32 : decode cX8_taken 32 = .ok (.ireturn, 1) := by decide +kernel
theorem dX8_taken_33 : decode cX8_taken 33 = .ok (.aload_n 0, 1) := by decide +kernel
theorem dX8_taken_34 : decode cX8_taken 34 = .ok (.getfield 65, 3) := by decide +kernel
theorem dX8_taken_37 : decode cX8_taken 37 = .ok (.aload_n 0, 1) := by decide +kernel
theorem dX8_taken_38 : decode cX8_taken 38 = .ok (.getfield 33, 3) := by decide +kernel
theorem dX8_taken_41 : decode cX8_taken 41 = .ok (.iload_n 1, 1) := by decide +kernel
theorem dX8_taken_42 : decode cX8_taken 42 = .ok (.invokevirtual 320, 3) := by decide +kernel
theorem dX8_taken_45 : decode cX8_taken 45 = .ok (.invokevirtual 323, 3) := by decide +kernel
theorem dX8_taken_48 : decode cX8_taken 48 = .ok (.istore_n 3, 1) := by decide +kernel
theorem dX8_taken_49 : decode cX8_taken 49 = .ok (.aload_n 0, 1) := by decide +kernel
theorem dX8_taken_50 : decode cX8_taken 50 = .ok (.getfield 65, 3) := by decide +kernel
theorem dX8_taken_53 : decode cX8_taken 53 = .ok (.iload_n 3, 1) := by decide +kernel
theorem dX8_taken_54 : decode cX8_taken 54 = .ok (.iload_n 2, 1) := by decide +kernel
theorem dX8_taken_55 : decode cX8_taken 55 = .ok (.invokevirtual 326, 3) := by decide +kernel
theorem dX8_taken_58 : decode cX8_taken 58 = .ok (.ifCond .eq 7, 3) := by decide +kernel
theorem dX8_taken_61 : decode cX8_taken 61 = .ok (.iload_n 3, 1) := by decide +kernel
theorem dX8_taken_62 : decode cX8_taken 62 = .ok (.goto 5, 3) := by decide +kernel
theorem dX8_taken_65 : decode cX8_taken 65 = .ok (.bipush (-12), 2) := by decide +kernel
theorem dX8_taken_67 : decode cX8_taken 67 = .ok (.ireturn, 1) := by decide +kernel
theorem dX8_count_0 : decode cX8_count 0 = .ok (.iload_n 1, 1) := by decide +kernel
theorem dX8_count_1 : decode cX8_count 1 = .ok (.tableswitch 99 0 6 #[43, 51, 59, 67, 75, 83, 91], 43) := by decide +kernel
theorem dX8_count_44 : decode cX8_count 44 = .ok (.aload_n 0, 1) := by decide +kernel
theorem dX8_count_45 : decode cX8_count 45 = .ok (.getfield 10, 3) := by decide +kernel
theorem dX8_count_48 : decode cX8_count 48 = .ok (.getfield 135, 3) := by decide +kernel
theorem dX8_count_51 : decode cX8_count 51 = .ok (.ireturn, 1) := by decide +kernel
theorem dX8_count_52 : decode cX8_count 52 = .ok (.aload_n 0, 1) := by decide +kernel
theorem dX8_count_53 : decode cX8_count 53 = .ok (.getfield 10, 3) := by decide +kernel
theorem dX8_count_56 : decode cX8_count 56 = .ok (.getfield 188, 3) := by decide +kernel
theorem dX8_count_59 : decode cX8_count 59 = .ok (.ireturn, 1) := by decide +kernel
theorem dX8_count_60 : decode cX8_count 60 = .ok (.aload_n 0, 1) := by decide +kernel
theorem dX8_count_61 : decode cX8_count 61 = .ok (.getfield 10, 3) := by decide +kernel
theorem dX8_count_64 : decode cX8_count 64 = .ok (.getfield 329, 3) := by decide +kernel
theorem dX8_count_67 : decode cX8_count 67 = .ok (.ireturn, 1) := by decide +kernel
theorem dX8_count_68 : decode cX8_count 68 = .ok (.aload_n 0, 1) := by decide +kernel
theorem dX8_count_69 : decode cX8_count 69 = .ok (.getfield 26, 3) := by decide +kernel
theorem dX8_count_72 : decode cX8_count 72 = .ok (.getfield 332, 3) := by decide +kernel
theorem dX8_count_75 : decode cX8_count 75 = .ok (.ireturn, 1) := by decide +kernel
theorem dX8_count_76 : decode cX8_count 76 = .ok (.aload_n 0, 1) := by decide +kernel
theorem dX8_count_77 : decode cX8_count 77 = .ok (.getfield 19, 3) := by decide +kernel
theorem dX8_count_80 : decode cX8_count 80 = .ok (.getfield 335, 3) := by decide +kernel
theorem dX8_count_83 : decode cX8_count 83 = .ok (.ireturn, 1) := by decide +kernel
theorem dX8_count_84 : decode cX8_count 84 = .ok (.aload_n 0, 1) := by decide +kernel
theorem dX8_count_85 : decode cX8_count 85 = .ok (.getfield 65, 3) := by decide +kernel
theorem dX8_count_88 : decode cX8_count 88 = .ok (.getfield 287, 3) := by decide +kernel
theorem dX8_count_91 : decode cX8_count 91 = .ok (.ireturn, 1) := by decide +kernel
theorem dX8_count_92 : decode cX8_count 92 = .ok (.aload_n 0, 1) := by decide +kernel
theorem dX8_count_93 : decode cX8_count 93 = .ok (.getfield 65, 3) := by decide +kernel
theorem dX8_count_96 : decode cX8_count 96 = .ok (.getfield 338, 3) := by decide +kernel
theorem dX8_count_99 : decode cX8_count 99 = .ok (.ireturn, 1) := by decide +kernel
theorem dX8_count_100 : decode cX8_count 100 = .ok (.iconst (-1), 1) := by decide +kernel
theorem dX8_count_101 : decode cX8_count 101 = .ok (.ireturn, 1) := by decide +kernel
theorem dX8_isShelf_0 : decode cX8_isShelf 0 = .ok (.iload_n 0, 1) := by decide +kernel
theorem dX8_isShelf_1 : decode cX8_isShelf 1 = .ok (.ifCond .lt 13, 3) := by decide +kernel
theorem dX8_isShelf_4 : decode cX8_isShelf 4 = .ok (.iload_n 0, 1) := by decide +kernel
theorem dX8_isShelf_5 : decode cX8_isShelf 5 = .ok (.bipush 6, 2) := by decide +kernel
theorem dX8_isShelf_7 : decode cX8_isShelf 7 = .ok (.if_icmp .ge 7, 3) := by decide +kernel
theorem dX8_isShelf_10 : decode cX8_isShelf 10 = .ok (.iconst 1, 1) := by decide +kernel
theorem dX8_isShelf_11 : decode cX8_isShelf 11 = .ok (.goto 4, 3) := by decide +kernel
theorem dX8_isShelf_14 : decode cX8_isShelf 14 = .ok (.iconst 0, 1) := by decide +kernel
theorem dX8_isShelf_15 : decode cX8_isShelf 15 = .ok (.ireturn, 1) := by decide +kernel
theorem dX8_isMesh_0 : decode cX8_isMesh 0 = .ok (.iload_n 1, 1) := by decide +kernel
theorem dX8_isMesh_1 : decode cX8_isMesh 1 = .ok (.ifCond .lt 18, 3) := by decide +kernel
theorem dX8_isMesh_4 : decode cX8_isMesh 4 = .ok (.iload_n 1, 1) := by decide +kernel
theorem dX8_isMesh_5 : decode cX8_isMesh 5 = .ok (.aload_n 0, 1) := by decide +kernel
theorem dX8_isMesh_6 : decode cX8_isMesh 6 = .ok (.getfield 10, 3) := by decide +kernel
theorem dX8_isMesh_9 : decode cX8_isMesh 9 = .ok (.getfield 188, 3) := by decide +kernel
theorem dX8_isMesh_12 : decode cX8_isMesh 12 = .ok (.if_icmp .ge 7, 3) := by decide +kernel
theorem dX8_isMesh_15 : decode cX8_isMesh 15 = .ok (.iconst 1, 1) := by decide +kernel
theorem dX8_isMesh_16 : decode cX8_isMesh 16 = .ok (.goto 4, 3) := by decide +kernel
theorem dX8_isMesh_19 : decode cX8_isMesh 19 = .ok (.iconst 0, 1) := by decide +kernel
theorem dX8_isMesh_20 : decode cX8_isMesh 20 = .ok (.ireturn, 1) := by decide +kernel
theorem dX8_isMeshOrNone_0 : decode cX8_isMeshOrNone 0 = .ok (.iload_n 1, 1) := by decide +kernel
theorem dX8_isMeshOrNone_1 : decode cX8_isMeshOrNone 1 = .ok (.iconst (-1), 1) := by decide +kernel
theorem dX8_isMeshOrNone_2 : decode cX8_isMeshOrNone 2 = .ok (.if_icmp .eq 11, 3) := by decide +kernel
theorem dX8_isMeshOrNone_5 : decode cX8_isMeshOrNone 5 = .ok (.aload_n 0, 1) := by decide +kernel
theorem dX8_isMeshOrNone_6 : decode cX8_isMeshOrNone 6 = .ok (.iload_n 1, 1) := by decide +kernel
theorem dX8_isMeshOrNone_7 : decode cX8_isMeshOrNone 7 = .ok (.invokevirtual 119, 3) := by decide +kernel
theorem dX8_isMeshOrNone_10 : decode cX8_isMeshOrNone 10 = .ok (.ifCond .eq 7, 3) := by decide +kernel
theorem dX8_isMeshOrNone_13 : decode cX8_isMeshOrNone 13 = .ok (.iconst 1, 1) := by decide +kernel
theorem dX8_isMeshOrNone_14 : decode cX8_isMeshOrNone 14 = .ok (.goto 4, 3) := by decide +kernel
theorem dX8_isMeshOrNone_17 : decode cX8_isMeshOrNone 17 = .ok (.iconst 0, 1) := by decide +kernel
theorem dX8_isMeshOrNone_18 : decode cX8_isMeshOrNone 18 = .ok (.ireturn, 1) := by decide +kernel
theorem dX8_fineOf_0 : decode cX8_fineOf 0 = .ok (.iload_n 1, 1) := by decide +kernel
theorem dX8_fineOf_1 : decode cX8_fineOf 1 = .ok (.iconst (-1), 1) := by decide +kernel
theorem dX8_fineOf_2 : decode cX8_fineOf 2 = .ok (.if_icmp .ne 7, 3) := by decide +kernel
theorem dX8_fineOf_5 : decode cX8_fineOf 5 = .ok (.iconst (-1), 1) := by decide +kernel
theorem dX8_fineOf_6 : decode cX8_fineOf 6 = .ok (.goto 12, 3) := by decide +kernel
theorem dX8_fineOf_9 : decode cX8_fineOf 9 = .ok (.aload_n 0, 1) := by decide +kernel
theorem dX8_fineOf_10 : decode cX8_fineOf 10 = .ok (.getfield 10, 3) := by decide +kernel
theorem dX8_fineOf_13 : decode cX8_fineOf 13 = .ok (.iload_n 1, 1) := by decide +kernel
theorem dX8_fineOf_14 : decode cX8_fineOf 14 = .ok (.iconst 5, 1) := by decide +kernel
theorem dX8_fineOf_15 : decode cX8_fineOf 15 = .ok (.invokevirtual 107, 3) := by decide +kernel
theorem dX8_fineOf_18 : decode cX8_fineOf 18 = .ok (.ireturn, 1) := by decide +kernel
theorem dX8_hear_0 : decode cX8_hear 0 = .ok (.iload_n 1, 1) := by decide +kernel
theorem dX8_hear_1 : decode cX8_hear 1 = .ok (.invokestatic 84, 3) := by decide +kernel
theorem dX8_hear_4 : decode cX8_hear 4 = .ok (.ifCond .eq 11, 3) := by decide +kernel
theorem dX8_hear_7 : decode cX8_hear 7 = .ok (.aload_n 0, 1) := by decide +kernel
theorem dX8_hear_8 : decode cX8_hear 8 = .ok (.iload_n 2, 1) := by decide +kernel
theorem dX8_hear_9 : decode cX8_hear 9 = .ok (.invokevirtual 212, 3) := by decide +kernel
theorem dX8_hear_12 : decode cX8_hear 12 = .ok (.ifCond .ne 5, 3) := by decide +kernel
theorem dX8_hear_15 : decode cX8_hear 15 = .ok (.iconst (-1), 1) := by decide +kernel
theorem dX8_hear_16 : decode cX8_hear 16 = .ok (.ireturn, 1) := by decide +kernel
theorem dX8_hear_17 : decode cX8_hear 17 = .ok (.aload_n 0, 1) := by decide +kernel
theorem dX8_hear_18 : decode cX8_hear 18 = .ok (.getfield 33, 3) := by decide +kernel
theorem dX8_hear_21 : decode cX8_hear 21 = .ok (.iload_n 1, 1) := by decide +kernel
theorem dX8_hear_22 : decode cX8_hear 22 = .ok (.invokevirtual 88, 3) := by decide +kernel
theorem dX8_hear_25 : decode cX8_hear 25 = .ok (.istore_n 3, 1) := by decide +kernel
theorem dX8_hear_26 : decode cX8_hear 26 = .ok (.iload_n 3, 1) := by decide +kernel
theorem dX8_hear_27 : decode cX8_hear 27 = .ok (.ifCond .eq 7, 3) := by decide +kernel
theorem dX8_hear_30 : decode cX8_hear 30 = .ok (.iload_n 3, 1) := by decide +kernel
theorem dX8_hear_31 : decode cX8_hear 31 = .ok (.goto 12, 3) := by decide +kernel
theorem dX8_hear_34 : decode cX8_hear 34 = .ok (.aload_n 0, 1) := by decide +kernel
theorem dX8_hear_35 : decode cX8_hear 35 = .ok (.iload_n 1, 1) := by decide +kernel
theorem dX8_hear_36 : decode cX8_hear 36 = .ok (.aload_n 0, 1) := by decide +kernel
theorem dX8_hear_37 : decode cX8_hear 37 = .ok (.getfield 69, 3) := by decide +kernel
theorem dX8_hear_40 : decode cX8_hear 40 = .ok (.invokevirtual 180, 3) := by decide +kernel
theorem dX8_hear_43 : decode cX8_hear 43 = .ok (.ireturn, 1) := by decide +kernel
theorem dX8_readSaying_0 : decode cX8_readSaying 0 = .ok (.aload_n 0, 1) := by decide +kernel
theorem dX8_readSaying_1 : decode cX8_readSaying 1 = .ok (.getfield 33, 3) := by decide +kernel
theorem dX8_readSaying_4 : decode cX8_readSaying 4 = .ok (.iload_n 1, 1) := by decide +kernel
theorem dX8_readSaying_5 : decode cX8_readSaying 5 = .ok (.invokevirtual 92, 3) := by decide +kernel
theorem dX8_readSaying_8 : decode cX8_readSaying 8 = .ok (.bipush 12, 2) := by decide +kernel
theorem dX8_readSaying_10 : decode cX8_readSaying 10 = .ok (.aload_n 2, 1) := by decide +kernel
theorem dX8_readSaying_11 : decode cX8_readSaying 11 = .ok (.arraylength, 1) := by decide +kernel
theorem dX8_readSaying_12 : decode cX8_readSaying 12 = .ok (.invokestatic 341, 3) := by decide +kernel
theorem dX8_readSaying_15 : decode cX8_readSaying 15 = .ok (.invokestatic 341, 3) := by decide +kernel
theorem dX8_readSaying_18 : decode cX8_readSaying 18 = .ok (.istore_n 3, 1) := by decide +kernel
theorem dX8_readSaying_19 : decode cX8_readSaying 19 = .ok (.iconst 0, 1) := by decide +kernel
theorem dX8_readSaying_20 : decode cX8_readSaying 20 = .ok (.istore 4, 2) := by decide +kernel
theorem dX8_readSaying_22 : decode cX8_readSaying 22 = .ok (.iload 4, 2) := by decide +kernel
theorem dX8_readSaying_24 : decode cX8_readSaying 24 = .ok (.iload_n 3, 1) := by decide +kernel
theorem dX8_readSaying_25 : decode cX8_readSaying 25 = .ok (.if_icmp .ge 52, 3) := by decide +kernel
theorem dX8_readSaying_28 : decode cX8_readSaying 28 = .ok (.aload_n 0, 1) := by decide +kernel
theorem dX8_readSaying_29 : decode cX8_readSaying 29 = .ok (.getfield 33, 3) := by decide +kernel
theorem dX8_readSaying_32 : decode cX8_readSaying 32 = .ok (.iload_n 1, 1) := by decide +kernel
theorem dX8_readSaying_33 : decode cX8_readSaying 33 = .ok (.iload 4, 2) := by decide +kernel
theorem dX8_readSaying_35 : decode cX8_readSaying 35 = .ok (.invokevirtual 184, 3) := by decide +kernel
theorem dX8_readSaying_38 : decode cX8_readSaying 38 = .ok (.lstore 5, 2) := by decide +kernel
theorem dX8_readSaying_40 : decode cX8_readSaying 40 = .ok (.lload 5, 2) := by decide +kernel
theorem dX8_readSaying_42 : decode cX8_readSaying 42 = .ok (.lconst 0, 1) := by decide +kernel
theorem dX8_readSaying_43 : decode cX8_readSaying 43 = .ok (.lcmp, 1) := by decide +kernel
theorem dX8_readSaying_44 : decode cX8_readSaying 44 = .ok (.ifCond .lt 17, 3) := by decide +kernel
theorem dX8_readSaying_47 : decode cX8_readSaying 47 = .ok (.lload 5, 2) := by decide +kernel
theorem dX8_readSaying_49 : decode cX8_readSaying 49 = .ok (.aload_n 0, 1) := by decide +kernel
theorem dX8_readSaying_50 : decode cX8_readSaying 50 = .ok (.getfield 10, 3) := by decide +kernel
theorem dX8_readSaying_53 : decode cX8_readSaying 53 = .ok (.getfield 135, 3) := by decide +kernel
theorem dX8_readSaying_56 : decode cX8_readSaying 56 = .ok (.i2l, 1) := by decide +kernel
theorem dX8_readSaying_57 : decode cX8_readSaying 57 = .ok (.lcmp, 1) := by decide +kernel
theorem dX8_readSaying_58 : decode cX8_readSaying 58 = .ok (.ifCond .lt 6, 3) := by decide +kernel
theorem dX8_readSaying_61 : decode cX8_readSaying 61 = .ok (.iload 4, 2) := by decide +kernel
theorem dX8_readSaying_63 : decode cX8_readSaying 63 = .ok (.ireturn, 1) := by decide +kernel
theorem dX8_readSaying_64 : decode cX8_readSaying 64 = .ok (.aload_n 2, 1) := by decide +kernel
theorem dX8_readSaying_65 : decode cX8_readSaying 65 = .ok (.iload 4, 2) := by decide +kernel
theorem dX8_readSaying_67 : decode cX8_readSaying 67 = .ok (.lload 5, 2) := by decide +kernel
theorem dX8_readSaying_69 : decode cX8_readSaying 69 = .ok (.l2i, 1) := by decide +kernel
theorem dX8_readSaying_70 : decode cX8_readSaying 70 = .ok (.iastore, 1) := by decide +kernel
theorem dX8_readSaying_71 : decode cX8_readSaying 71 = .ok (.iinc 4 1, 3) := by decide +kernel
theorem dX8_readSaying_74 : decode cX8_readSaying 74 = .ok (.goto (-52), 3) := by decide +kernel
theorem dX8_readSaying_77 : decode cX8_readSaying 77 = .ok (.iload_n 3, 1) := by decide +kernel
theorem dX8_readSaying_78 : decode cX8_readSaying 78 = .ok (.ireturn, 1) := by decide +kernel
theorem dX8_pairRefusal_0 : decode cX8_pairRefusal 0 = .ok (.iload_n 1, 1) := by decide +kernel
theorem dX8_pairRefusal_1 : decode cX8_pairRefusal 1 = .ok (.ifCond .lt 23, 3) := by decide +kernel
theorem dX8_pairRefusal_4 : decode cX8_pairRefusal 4 = .ok (.iload_n 1, 1) := by decide +kernel
theorem dX8_pairRefusal_5 : decode cX8_pairRefusal 5 = .ok (.bipush 10, 2) := by decide +kernel
theorem dX8_pairRefusal_7 : decode cX8_pairRefusal 7 = .ok (.idiv, 1) := by decide +kernel
theorem dX8_pairRefusal_8 : decode cX8_pairRefusal 8 = .ok (.invokestatic 84, 3) := by decide +kernel
theorem dX8_pairRefusal_11 : decode cX8_pairRefusal 11 = .ok (.ifCond .eq 13, 3) := by decide +kernel
theorem dX8_pairRefusal_14 : decode cX8_pairRefusal 14 = .ok (.iload_n 1, 1) := by decide +kernel
theorem dX8_pairRefusal_15 : decode cX8_pairRefusal 15 = .ok (.bipush 10, 2) := by decide +kernel
theorem dX8_pairRefusal_17 : decode cX8_pairRefusal 17 = .ok (.irem, 1) := by decide +kernel
theorem dX8_pairRefusal_18 : decode cX8_pairRefusal 18 = .ok (.invokestatic 84, 3) := by decide +kernel
theorem dX8_pairRefusal_21 : decode cX8_pairRefusal 21 = .ok (.ifCond .ne 5, 3) := by decide +kernel
theorem dX8_pairRefusal_24 : decode cX8_pairRefusal 24 = .ok (.iconst (-1), 1) := by decide +kernel
theorem dX8_pairRefusal_25 : decode cX8_pairRefusal 25 = .ok (.ireturn, 1) := by decide +kernel
theorem dX8_pairRefusal_26 : decode cX8_pairRefusal 26 = .ok (.aload_n 0, 1) := by decide +kernel
theorem dX8_pairRefusal_27 : decode cX8_pairRefusal 27 = .ok (.getfield 33, 3) := by decide +kernel
theorem dX8_pairRefusal_30 : decode cX8_pairRefusal 30 = .ok (.iload_n 1, 1) := by decide +kernel
theorem dX8_pairRefusal_31 : decode cX8_pairRefusal 31 = .ok (.bipush 10, 2) := by decide +kernel
theorem dX8_pairRefusal_33 : decode cX8_pairRefusal 33 = .ok (.idiv, 1) := by decide +kernel
theorem dX8_pairRefusal_34 : decode cX8_pairRefusal 34 = .ok (.invokevirtual 88, 3) := by decide +kernel
theorem dX8_pairRefusal_37 : decode cX8_pairRefusal 37 = .ok (.istore_n 2, 1) := by decide +kernel
theorem dX8_pairRefusal_38 : decode cX8_pairRefusal 38 = .ok (.aload_n 0, 1) := by decide +kernel
theorem dX8_pairRefusal_39 : decode cX8_pairRefusal 39 = .ok (.getfield 33, 3) := by decide +kernel
theorem dX8_pairRefusal_42 : decode cX8_pairRefusal 42 = .ok (.iload_n 1, 1) := by decide +kernel
theorem dX8_pairRefusal_43 : decode cX8_pairRefusal 43 = .ok (.bipush 10, 2) := by decide +kernel
theorem dX8_pairRefusal_45 : decode cX8_pairRefusal 45 = .ok (.irem, 1) := by decide +kernel
theorem dX8_pairRefusal_46 : decode cX8_pairRefusal 46 = .ok (.invokevirtual 88, 3) := by decide +kernel
theorem dX8_pairRefusal_49 : decode cX8_pairRefusal 49 = .ok (.istore_n 3, 1) := by decide +kernel
theorem dX8_pairRefusal_50 : decode cX8_pairRefusal 50 = .ok (.iload_n 2, 1) := by decide +kernel
theorem dX8_pairRefusal_51 : decode cX8_pairRefusal 51 = .ok (.bipush (-11), 2) := by decide +kernel
theorem dX8_pairRefusal_53 : decode cX8_pairRefusal 53 = .ok (.if_icmp .eq 9, 3) := by decide +kernel
theorem dX8_pairRefusal_56 : decode cX8_pairRefusal 56 = .ok (.iload_n 3, 1) := by decide +kernel
theorem dX8_pairRefusal_57 : decode cX8_pairRefusal 57 = .ok (.bipush (-11), 2) := by decide +kernel
theorem dX8_pairRefusal_59 : decode cX8_pairRefusal 59 = .ok (.if_icmp .ne 6, 3) := by decide +kernel
theorem dX8_pairRefusal_62 : decode cX8_pairRefusal 62 = .ok (.bipush (-11), 2) := by decide +kernel
theorem dX8_pairRefusal_64 : decode cX8_pairRefusal 64 = .ok (.ireturn, 1) := by decide +kernel
theorem dX8_pairRefusal_65 : decode cX8_pairRefusal 65 = .ok (.iload_n 2, 1) := by decide +kernel
theorem dX8_pairRefusal_66 : decode cX8_pairRefusal 66 = .ok (.ifCond .eq 7, 3) := by decide +kernel
theorem dX8_pairRefusal_69 : decode cX8_pairRefusal 69 = .ok (.iload_n 2, 1) := by decide +kernel
theorem dX8_pairRefusal_70 : decode cX8_pairRefusal 70 = .ok (.goto 4, 3) := by decide +kernel
theorem dX8_pairRefusal_73 : decode cX8_pairRefusal 73 = .ok (.iload_n 3, 1) := by decide +kernel
theorem dX8_pairRefusal_74 : decode cX8_pairRefusal 74 = .ok (.ireturn, 1) := by decide +kernel
theorem dX8_elementRefusal_0 : decode cX8_elementRefusal 0 = .ok (.iload_n 1, 1) := by decide +kernel
theorem dX8_elementRefusal_1 : decode cX8_elementRefusal 1 = .ok (.invokestatic 84, 3) := by decide +kernel
theorem dX8_elementRefusal_4 : decode cX8_elementRefusal 4 = .ok (.ifCond .ne 5, 3) := by decide +kernel
theorem dX8_elementRefusal_7 : decode cX8_elementRefusal 7 = .ok (.iconst (-1), 1) := by decide +kernel
theorem dX8_elementRefusal_8 : decode cX8_elementRefusal 8 = .ok (.ireturn, 1) := by decide +kernel
theorem dX8_elementRefusal_9 : decode cX8_elementRefusal 9 = .ok (.aload_n 0, 1) := by decide +kernel
theorem dX8_elementRefusal_10 : decode cX8_elementRefusal 10 = .ok (.getfield 33, 3) := by decide +kernel
theorem dX8_elementRefusal_13 : decode cX8_elementRefusal 13 = .ok (.iload_n 1, 1) := by decide +kernel
theorem dX8_elementRefusal_14 : decode cX8_elementRefusal 14 = .ok (.invokevirtual 304, 3) := by decide +kernel
theorem dX8_elementRefusal_17 : decode cX8_elementRefusal 17 = .ok (.ifCond .eq 6, 3) := by decide +kernel
theorem dX8_elementRefusal_20 : decode cX8_elementRefusal 20 = .ok (.bipush (-11), 2) := by decide +kernel
theorem dX8_elementRefusal_22 : decode cX8_elementRefusal 22 = .ok (.ireturn, 1) := by decide +kernel
theorem dX8_elementRefusal_23 : decode cX8_elementRefusal 23 = .ok (.aload_n 0, 1) := by decide +kernel
theorem dX8_elementRefusal_24 : decode cX8_elementRefusal 24 = .ok (.getfield 33, 3) := by decide +kernel
theorem dX8_elementRefusal_27 : decode cX8_elementRefusal 27 = .ok (.iload_n 1, 1) := by decide +kernel
theorem dX8_elementRefusal_28 : decode cX8_elementRefusal 28 = .ok (.invokevirtual 307, 3) := by decide +kernel
theorem dX8_elementRefusal_31 : decode cX8_elementRefusal 31 = .ok (.ifCond .ne 6, 3) := by decide +kernel
theorem dX8_elementRefusal_34 : decode cX8_elementRefusal 34 = .ok (.bipush (-12), 2) := by decide +kernel
theorem dX8_elementRefusal_36 : decode cX8_elementRefusal 36 = .ok (.ireturn, 1) := by decide +kernel
theorem dX8_elementRefusal_37 : decode cX8_elementRefusal 37 = .ok (.iload_n 2, 1) := by decide +kernel
theorem dX8_elementRefusal_38 : decode cX8_elementRefusal 38 = .ok (.ifCond .lt 15, 3) := by decide +kernel
theorem dX8_elementRefusal_41 : decode cX8_elementRefusal 41 = .ok (.iload_n 2, 1) := by decide +kernel
theorem dX8_elementRefusal_42 : decode cX8_elementRefusal 42 = .ok (.aload_n 0, 1) := by decide +kernel
theorem dX8_elementRefusal_43 : decode cX8_elementRefusal 43 = .ok (.getfield 33, 3) := by decide +kernel
theorem dX8_elementRefusal_46 : decode cX8_elementRefusal 46 = .ok (.iload_n 1, 1) := by decide +kernel
theorem dX8_elementRefusal_47 : decode cX8_elementRefusal 47 = .ok (.invokevirtual 92, 3) := by decide +kernel
theorem dX8_elementRefusal_50 : decode cX8_elementRefusal 50 = .ok (.if_icmp .lt 8, 3) := by decide +kernel
theorem dX8_elementRefusal_53 : decode cX8_elementRefusal 53 = .ok (.bipush (-13), 2) := by decide +kernel
theorem dX8_elementRefusal_55 : decode cX8_elementRefusal 55 = .ok (.goto 4, 3) := by decide +kernel
theorem dX8_elementRefusal_58 : decode cX8_elementRefusal 58 = .ok (.iconst 0, 1) := by decide +kernel
theorem dX8_elementRefusal_59 : decode cX8_elementRefusal 59 = .ok (.ireturn, 1) := by decide +kernel
theorem dX8_wordFromThree_0 : decode cX8_wordFromThree 0 = .ok (.aload_n 0, 1) := by decide +kernel
theorem dX8_wordFromThree_1 : decode cX8_wordFromThree 1 = .ok (.getfield 33, 3) := by decide +kernel
theorem dX8_wordFromThree_4 : decode cX8_wordFromThree 4 = .ok (.iload_n 1, 1) := by decide +kernel
theorem dX8_wordFromThree_5 : decode cX8_wordFromThree 5 = .ok (.iload_n 2, 1) := by decide +kernel
theorem dX8_wordFromThree_6 : decode cX8_wordFromThree 6 = .ok (.invokevirtual 184, 3) := by decide +kernel
theorem dX8_wordFromThree_9 : decode cX8_wordFromThree 9 = .ok (.l2i, 1) := by decide +kernel
theorem dX8_wordFromThree_10 : decode cX8_wordFromThree 10 = .ok (.istore_n 3, 1) := by decide +kernel
theorem dX8_wordFromThree_11 : decode cX8_wordFromThree 11 = .ok (.aload_n 0, 1) := by decide +kernel
theorem dX8_wordFromThree_12 : decode cX8_wordFromThree 12 = .ok (.getfield 33, 3) := by decide +kernel
theorem dX8_wordFromThree_15 : decode cX8_wordFromThree 15 = .ok (.iload_n 1, 1) := by decide +kernel
theorem dX8_wordFromThree_16 : decode cX8_wordFromThree 16 = .ok (.iload_n 2, 1) := by decide +kernel
theorem dX8_wordFromThree_17 : decode cX8_wordFromThree 17 = .ok (.iconst 1, 1) := by decide +kernel
theorem dX8_wordFromThree_18 : decode cX8_wordFromThree 18 = .ok (.iadd, 1) := by decide +kernel
theorem dX8_wordFromThree_19 : decode cX8_wordFromThree 19 = .ok (.invokevirtual 184, 3) := by decide +kernel
theorem dX8_wordFromThree_22 : decode cX8_wordFromThree 22 = .ok (.l2i, 1) := by decide +kernel
theorem dX8_wordFromThree_23 : decode cX8_wordFromThree 23 = .ok (.istore 4, 2) := by decide +kernel
theorem dX8_wordFromThree_25 : decode cX8_wordFromThree 25 = .ok (.aload_n 0, 1) := by decide +kernel
theorem dX8_wordFromThree_26 : decode cX8_wordFromThree 26 = .ok (.getfield 33, 3) := by decide +kernel
theorem dX8_wordFromThree_29 : decode cX8_wordFromThree 29 = .ok (.iload_n 1, 1) := by decide +kernel
theorem dX8_wordFromThree_30 : decode cX8_wordFromThree 30 = .ok (.iload_n 2, 1) := by decide +kernel
theorem dX8_wordFromThree_31 : decode cX8_wordFromThree 31 = .ok (.iconst 2, 1) := by decide +kernel
theorem dX8_wordFromThree_32 : decode cX8_wordFromThree 32 = .ok (.iadd, 1) := by decide +kernel
theorem dX8_wordFromThree_33 : decode cX8_wordFromThree 33 = .ok (.invokevirtual 184, 3) := by decide +kernel
theorem dX8_wordFromThree_36 : decode cX8_wordFromThree 36 = .ok (.l2i, 1) := by decide +kernel
theorem dX8_wordFromThree_37 : decode cX8_wordFromThree 37 = .ok (.istore 5, 2) := by decide +kernel
theorem dX8_wordFromThree_39 : decode cX8_wordFromThree 39 = .ok (.aload_n 0, 1) := by decide +kernel
theorem dX8_wordFromThree_40 : decode cX8_wordFromThree 40 = .ok (.getfield 10, 3) := by decide +kernel
theorem dX8_wordFromThree_43 : decode cX8_wordFromThree 43 = .ok (.iconst 0, 1) := by decide +kernel
theorem dX8_wordFromThree_44 : decode cX8_wordFromThree 44 = .ok (.iload_n 3, 1) := by decide +kernel
theorem dX8_wordFromThree_45 : decode cX8_wordFromThree 45 = .ok (.invokevirtual 76, 3) := by decide +kernel
theorem dX8_wordFromThree_48 : decode cX8_wordFromThree 48 = .ok (.ifCond .eq 29, 3) := by decide +kernel
theorem dX8_wordFromThree_51 : decode cX8_wordFromThree 51 = .ok (.aload_n 0, 1) := by decide +kernel
theorem dX8_wordFromThree_52 : decode cX8_wordFromThree 52 = .ok (.getfield 10, 3) := by decide +kernel
theorem dX8_wordFromThree_55 : decode cX8_wordFromThree 55 = .ok (.iconst 1, 1) := by decide +kernel
theorem dX8_wordFromThree_56 : decode cX8_wordFromThree 56 = .ok (.iload 4, 2) := by decide +kernel
theorem dX8_wordFromThree_58 : decode cX8_wordFromThree 58 = .ok (.invokevirtual 76, 3) := by decide +kernel
theorem dX8_wordFromThree_61 : decode cX8_wordFromThree 61 = .ok (.ifCond .eq 16, 3) := by decide +kernel
theorem dX8_wordFromThree_64 : decode cX8_wordFromThree 64 = .ok (.aload_n 0, 1) := by decide +kernel
theorem dX8_wordFromThree_65 : decode cX8_wordFromThree 65 = .ok (.getfield 10, 3) := by decide +kernel
theorem dX8_wordFromThree_68 : decode cX8_wordFromThree 68 = .ok (.iconst 2, 1) := by decide +kernel
theorem dX8_wordFromThree_69 : decode cX8_wordFromThree 69 = .ok (.iload 5, 2) := by decide +kernel
theorem dX8_wordFromThree_71 : decode cX8_wordFromThree 71 = .ok (.invokevirtual 76, 3) := by decide +kernel
theorem dX8_wordFromThree_74 : decode cX8_wordFromThree 74 = .ok (.ifCond .ne 5, 3) := by decide +kernel
theorem dX8_wordFromThree_77 : decode cX8_wordFromThree 77 = .ok (.iconst 0, 1) := by decide +kernel
theorem dX8_wordFromThree_78 : decode cX8_wordFromThree 78 = .ok (.ireturn, 1) := by decide +kernel
theorem dX8_wordFromThree_79 : decode cX8_wordFromThree 79 = .ok (.aload_n 0, 1) := by decide +kernel
theorem dX8_wordFromThree_80 : decode cX8_wordFromThree 80 = .ok (.getfield 10, 3) := by decide +kernel
theorem dX8_wordFromThree_83 : decode cX8_wordFromThree 83 = .ok (.iload_n 3, 1) := by decide +kernel
theorem dX8_wordFromThree_84 : decode cX8_wordFromThree 84 = .ok (.iload 4, 2) := by decide +kernel
theorem dX8_wordFromThree_86 : decode cX8_wordFromThree 86 = .ok (.iload 5, 2) := by decide +kernel
theorem dX8_wordFromThree_88 : decode cX8_wordFromThree 88 = .ok (.invokevirtual 80, 3) := by decide +kernel
theorem dX8_wordFromThree_91 : decode cX8_wordFromThree 91 = .ok (.bipush (-3), 2) := by decide +kernel
theorem dX8_wordFromThree_93 : decode cX8_wordFromThree 93 = .ok (.if_icmp .eq 7, 3) := by decide +kernel
theorem dX8_wordFromThree_96 : decode cX8_wordFromThree 96 = .ok (.iconst 1, 1) := by decide +kernel
theorem dX8_wordFromThree_97 : decode cX8_wordFromThree 97 = .ok (.goto 4, 3) := by decide +kernel
theorem dX8_wordFromThree_100 : decode cX8_wordFromThree 100 = .ok (.iconst 0, 1) := by decide +kernel
theorem dX8_wordFromThree_101 : decode cX8_wordFromThree 101 = .ok (.ireturn, 1) := by decide +kernel
theorem dX8_greatestCommon_0 : decode cX8_greatestCommon 0 = .ok (.iload_n 0, 1) := by decide +kernel
theorem dX8_greatestCommon_1 : decode cX8_greatestCommon 1 = .ok (.istore_n 2, 1) := by decide +kernel
theorem dX8_greatestCommon_2 : decode cX8_greatestCommon 2 = .ok (.iload_n 1, 1) := by decide +kernel
theorem dX8_greatestCommon_3 : decode cX8_greatestCommon 3 = .ok (.istore_n 3, 1) := by decide +kernel
theorem dX8_greatestCommon_4 : decode cX8_greatestCommon 4 = .ok (.iconst 0, 1) := by decide +kernel
theorem dX8_greatestCommon_5 : decode cX8_greatestCommon 5 = .ok (.istore 4, 2) := by decide +kernel
theorem dX8_greatestCommon_7 : decode cX8_greatestCommon 7 = .ok (.iload 4, 2) := by decide +kernel
theorem dX8_greatestCommon_9 : decode cX8_greatestCommon 9 = .ok (.bipush 100, 2) := by decide +kernel
theorem dX8_greatestCommon_11 : decode cX8_greatestCommon 11 = .ok (.if_icmp .ge 23, 3) := by decide +kernel
theorem dX8_greatestCommon_14 : decode cX8_greatestCommon 14 = .ok (.iload_n 3, 1) := by decide +kernel
theorem dX8_greatestCommon_15 : decode cX8_greatestCommon 15 = .ok (.ifCond .eq 19, 3) := by decide +kernel
theorem dX8_greatestCommon_18 : decode cX8_greatestCommon 18 = .ok (.iload_n 2, 1) := by decide +kernel
theorem dX8_greatestCommon_19 : decode cX8_greatestCommon 19 = .ok (.iload_n 3, 1) := by decide +kernel
theorem dX8_greatestCommon_20 : decode cX8_greatestCommon 20 = .ok (.irem, 1) := by decide +kernel
theorem dX8_greatestCommon_21 : decode cX8_greatestCommon 21 = .ok (.istore 5, 2) := by decide +kernel
theorem dX8_greatestCommon_23 : decode cX8_greatestCommon 23 = .ok (.iload_n 3, 1) := by decide +kernel
theorem dX8_greatestCommon_24 : decode cX8_greatestCommon 24 = .ok (.istore_n 2, 1) := by decide +kernel
theorem dX8_greatestCommon_25 : decode cX8_greatestCommon 25 = .ok (.iload 5, 2) := by decide +kernel
theorem dX8_greatestCommon_27 : decode cX8_greatestCommon 27 = .ok (.istore_n 3, 1) := by decide +kernel
theorem dX8_greatestCommon_28 : decode cX8_greatestCommon 28 = .ok (.iinc 4 1, 3) := by decide +kernel
theorem dX8_greatestCommon_31 : decode cX8_greatestCommon 31 = .ok (.goto (-24), 3) := by decide +kernel
theorem dX8_greatestCommon_34 : decode cX8_greatestCommon 34 = .ok (.iload_n 2, 1) := by decide +kernel
theorem dX8_greatestCommon_35 : decode cX8_greatestCommon 35 = .ok (.ireturn, 1) := by decide +kernel
theorem dX9_init_0 : decode cX9_init 0 = .ok (.aload_n 0, 1) := by decide +kernel
theorem dX9_init_1 : decode cX9_init 1 = .ok (.invokespecial 3, 3) := by decide +kernel
theorem dX9_init_4 : decode cX9_init 4 = .ok (.aload_n 0, 1) := by decide +kernel
theorem dX9_init_5 : decode cX9_init 5 = .ok (.bipush 12, 2) := by decide +kernel
theorem dX9_init_7 : decode cX9_init 7 = .ok (.newarray .int, 2) := by decide +kernel
theorem dX9_init_9 : decode cX9_init 9 = .ok (.putfield 9, 3) := by decide +kernel
theorem dX9_init_12 : decode cX9_init 12 = .ok (.aload_n 0, 1) := by decide +kernel
theorem dX9_init_13 : decode cX9_init 13 = .ok (.bipush 12, 2) := by decide +kernel
theorem dX9_init_15 : decode cX9_init 15 = .ok (.newarray .int, 2) := by decide +kernel
theorem dX9_init_17 : decode cX9_init 17 = .ok (.putfield 15, 3) := by decide +kernel
theorem dX9_init_20 : decode cX9_init 20 = .ok (.aload_n 0, 1) := by decide +kernel
theorem dX9_init_21 : decode cX9_init 21 = .ok (.bipush 12, 2) := by decide +kernel
theorem dX9_init_23 : decode cX9_init 23 = .ok (.newarray .int, 2) := by decide +kernel
theorem dX9_init_25 : decode cX9_init 25 = .ok (.putfield 18, 3) := by decide +kernel
theorem dX9_init_28 : decode cX9_init 28 = .ok (.aload_n 0, 1) := by decide +kernel
theorem dX9_init_29 : decode cX9_init 29 = .ok (.bipush 12, 2) := by decide +kernel
theorem dX9_init_31 : decode cX9_init 31 = .ok (.newarray .int, 2) := by decide +kernel
theorem dX9_init_33 : decode cX9_init 33 = .ok (.putfield 21, 3) := by decide +kernel
theorem dX9_init_36 : decode cX9_init 36 = .ok (.aload_n 0, 1) := by decide +kernel
theorem dX9_init_37 : decode cX9_init 37 = .ok (.bipush 12, 2) := by decide +kernel
theorem dX9_init_39 : decode cX9_init 39 = .ok (.newarray .int, 2) := by decide +kernel
theorem dX9_init_41 : decode cX9_init 41 = .ok (.putfield 24, 3) := by decide +kernel
theorem dX9_init_44 : decode cX9_init 44 = .ok (.aload_n 0, 1) := by decide +kernel
theorem dX9_init_45 : decode cX9_init 45 = .ok (.iconst 5, 1) := by decide +kernel
theorem dX9_init_46 : decode cX9_init 46 = .ok (.newarray .int, 2) := by decide +kernel
theorem dX9_init_48 : decode cX9_init 48 = .ok (.putfield 27, 3) := by decide +kernel
theorem dX9_init_51 : decode cX9_init 51 = .ok (.aload_n 0, 1) := by decide +kernel
theorem dX9_init_52 : decode cX9_init 52 = .ok (.iconst 5, 1) := by decide +kernel
theorem dX9_init_53 : decode cX9_init 53 = .ok (.newarray .int, 2) := by decide +kernel
theorem dX9_init_55 : decode cX9_init 55 = .ok (.putfield 30, 3) := by decide +kernel
theorem dX9_init_58 : decode cX9_init 58 = .ok (.aload_n 0, 1) := by decide +kernel
theorem dX9_init_59 : decode cX9_init 59 = .ok (.iconst 5, 1) := by decide +kernel
theorem dX9_init_60 : decode cX9_init 60 = .ok (.newarray .int, 2) := by decide +kernel
theorem dX9_init_62 : decode cX9_init 62 = .ok (.putfield 33, 3) := by decide +kernel
theorem dX9_init_65 : decode cX9_init 65 = .ok (.aload_n 0, 1) := by decide +kernel
theorem dX9_init_66 : decode cX9_init 66 = .ok (.bipush 6, 2) := by decide +kernel
theorem dX9_init_68 : decode cX9_init 68 = .ok (.newarray .int, 2) := by decide +kernel
theorem dX9_init_70 : decode cX9_init 70 = .ok (.putfield 36, 3) := by decide +kernel
theorem dX9_init_73 : decode cX9_init 73 = .ok (.aload_n 0, 1) := by decide +kernel
theorem dX9_init_74 : decode cX9_init 74 = .ok (.bipush 12, 2) := by decide +kernel
theorem dX9_init_76 : decode cX9_init 76 = .ok (.putfield 39, 3) := by decide +kernel
theorem dX9_init_79 : decode cX9_init 79 = .ok (.aload_n 0, 1) := by decide +kernel
theorem dX9_init_80 : decode cX9_init 80 = .ok (.bipush 40, 2) := by decide +kernel
theorem dX9_init_82 : decode cX9_init 82 = .ok (.newarray .int, 2) := by decide +kernel
theorem dX9_init_84 : decode cX9_init 84 = .ok (.putfield 43, 3) := by decide +kernel
theorem dX9_init_87 : decode cX9_init 87 = .ok (.aload_n 0, 1) := by decide +kernel
theorem dX9_init_88 : decode cX9_init 88 = .ok (.bipush 40, 2) := by decide +kernel
theorem dX9_init_90 : decode cX9_init 90 = .ok (.newarray .int, 2) := by decide +kernel
theorem dX9_init_92 : decode cX9_init 92 = .ok (.putfield 46, 3) := by decide +kernel
theorem dX9_init_95 : decode cX9_init 95 = .ok (.aload_n 0, 1) := by decide +kernel
theorem dX9_init_96 : decode cX9_init 96 = .ok (.bipush 40, 2) := by decide +kernel
theorem dX9_init_98 : decode cX9_init 98 = .ok (.newarray .int, 2) := by decide +kernel
theorem dX9_init_100 : decode cX9_init 100 = .ok (.putfield 49, 3) := by decide +kernel
theorem dX9_init_103 : decode cX9_init 103 = .ok (.aload_n 0, 1) := by decide +kernel
theorem dX9_init_104 : decode cX9_init 104 = .ok (.bipush 40, 2) := by decide +kernel
theorem dX9_init_106 : decode cX9_init 106 = .ok (.newarray .int, 2) := by decide +kernel
theorem dX9_init_108 : decode cX9_init 108 = .ok (.putfield 52, 3) := by decide +kernel
theorem dX9_init_111 : decode cX9_init 111 = .ok (.aload_n 0, 1) := by decide +kernel
theorem dX9_init_112 : decode cX9_init 112 = .ok (.bipush 120, 2) := by decide +kernel
theorem dX9_init_114 : decode cX9_init 114 = .ok (.newarray .byte, 2) := by decide +kernel
theorem dX9_init_116 : decode cX9_init 116 = .ok (.putfield 55, 3) := by decide +kernel
theorem dX9_init_119 : decode cX9_init 119 = .ok (.aload_n 0, 1) := by decide +kernel
theorem dX9_init_120 : decode cX9_init 120 = .ok (.sipush 260, 3) := by decide +kernel
theorem dX9_init_123 : decode cX9_init 123 = .ok (.newarray .byte, 2) := by decide +kernel
theorem dX9_init_125 : decode cX9_init 125 = .ok (.putfield 59, 3) := by decide +kernel
theorem dX9_init_128 : decode cX9_init 128 = .ok (.aload_n 0, 1) := by decide +kernel
theorem dX9_init_129 : decode cX9_init 129 = .ok (.sipush 260, 3) := by decide +kernel
theorem dX9_init_132 : decode cX9_init 132 = .ok (.newarray .int, 2) := by decide +kernel
theorem dX9_init_134 : decode cX9_init 134 = .ok (.putfield 62, 3) := by decide +kernel
theorem dX9_init_137 : decode cX9_init 137 = .ok (.aload_n 0, 1) := by decide +kernel
theorem dX9_init_138 : decode cX9_init 138 = .ok (.iconst 2, 1) := by decide +kernel
theorem dX9_init_139 : decode cX9_init 139 = .ok (.newarray .int, 2) := by decide +kernel
theorem dX9_init_141 : decode cX9_init 141 = .ok (.putfield 65, 3) := by decide +kernel
theorem dX9_init_144 : decode cX9_init 144 = .ok (.aload_n 0, 1) := by decide +kernel
theorem dX9_init_145 : decode cX9_init 145 = .ok (.bipush 122, 2) := by decide +kernel
theorem dX9_init_147 : decode cX9_init 147 = .ok (.newarray .short, 2) := by decide +kernel
theorem dX9_init_149 : decode cX9_init 149 = .ok (.putfield 68, 3) := by decide +kernel
theorem dX9_init_152 : decode cX9_init 152 = .ok (.aload_n 0, 1) := by decide +kernel
theorem dX9_init_153 : decode cX9_init 153 = .ok (.bipush 122, 2) := by decide +kernel
theorem dX9_init_155 : decode cX9_init 155 = .ok (.newarray .short, 2) := by decide +kernel
theorem dX9_init_157 : decode cX9_init 157 = .ok (.putfield 72, 3) := by decide +kernel
theorem dX9_init_160 : decode cX9_init 160 = .ok (.aload_n 0, 1) := by decide +kernel
theorem dX9_init_161 : decode cX9_init 161 = .ok (.bipush 6, 2) := by decide +kernel
theorem dX9_init_163 : decode cX9_init 163 = .ok (.newarray .int, 2) := by decide +kernel
theorem dX9_init_165 : decode cX9_init 165 = .ok (.putfield 75, 3) := by decide +kernel
theorem dX9_init_168 : decode cX9_init 168 = .ok (.aload_n 0, 1) := by decide +kernel
theorem dX9_init_169 : decode cX9_init 169 = .ok (.sipush 130, 3) := by decide +kernel
theorem dX9_init_172 : decode cX9_init 172 = .ok (.newarray .int, 2) := by decide +kernel
theorem dX9_init_174 : decode cX9_init 174 = .ok (.putfield 78, 3) := by decide +kernel
theorem dX9_init_177 : decode cX9_init 177 = .ok (.aload_n 0, 1) := by decide +kernel
theorem dX9_init_178 : decode cX9_init 178 = .ok (.bipush 13, 2) := by decide +kernel
theorem dX9_init_180 : decode cX9_init 180 = .ok (.newarray .int, 2) := by decide +kernel
theorem dX9_init_182 : decode cX9_init 182 = .ok (.putfield 81, 3) := by decide +kernel
theorem dX9_init_185 : decode cX9_init 185 = .ok (.aload_n 0, 1) := by decide +kernel
theorem dX9_init_186 : decode cX9_init 186 = .ok (.bipush 13, 2) := by decide +kernel
theorem dX9_init_188 : decode cX9_init 188 = .ok (.newarray .int, 2) := by decide +kernel
theorem dX9_init_190 : decode cX9_init 190 = .ok (.putfield 84, 3) := by decide +kernel
theorem dX9_init_193 : decode cX9_init 193 = .ok (.aload_n 0, 1) := by decide +kernel
theorem dX9_init_194 : decode cX9_init 194 = .ok (.bipush 13, 2) := by decide +kernel
theorem dX9_init_196 : decode cX9_init 196 = .ok (.newarray .int, 2) := by decide +kernel
theorem dX9_init_198 : decode cX9_init 198 = .ok (.putfield 87, 3) := by decide +kernel
theorem dX9_init_201 : decode cX9_init 201 = .ok (.aload_n 0, 1) := by decide +kernel
theorem dX9_init_202 : decode cX9_init 202 = .ok (.sipush 143, 3) := by decide +kernel
theorem dX9_init_205 : decode cX9_init 205 = .ok (.newarray .boolean, 2) := by decide +kernel
theorem dX9_init_207 : decode cX9_init 207 = .ok (.putfield 90, 3) := by decide +kernel
theorem dX9_init_210 : decode cX9_init 210 = .ok (.aload_n 0, 1) := by decide +kernel
theorem dX9_init_211 : decode cX9_init 211 = .ok (.bipush 12, 2) := by decide +kernel
theorem dX9_init_213 : decode cX9_init 213 = .ok (.newarray .int, 2) := by decide +kernel
theorem dX9_init_215 : decode cX9_init 215 = .ok (.putfield 94, 3) := by decide +kernel
theorem dX9_init_218 : decode cX9_init 218 = .ok (.aload_n 0, 1) := by decide +kernel
theorem dX9_init_219 : decode cX9_init 219 = .ok (.sipush 169, 3) := by decide +kernel
theorem dX9_init_222 : decode cX9_init 222 = .ok (.newarray .long, 2) := by decide +kernel
theorem dX9_init_224 : decode cX9_init 224 = .ok (.putfield 97, 3) := by decide +kernel
theorem dX9_init_227 : decode cX9_init 227 = .ok (.aload_n 0, 1) := by decide +kernel
theorem dX9_init_228 : decode cX9_init 228 = .ok (.bipush 12, 2) := by decide +kernel
theorem dX9_init_230 : decode cX9_init 230 = .ok (.newarray .int, 2) := by decide +kernel
theorem dX9_init_232 : decode cX9_init 232 = .ok (.putfield 101, 3) := by decide +kernel
theorem dX9_init_235 : decode cX9_init 235 = .ok (.aload_n 0, 1) := by decide +kernel
theorem dX9_init_236 : decode cX9_init 236 = .ok (.sipush 1024, 3) := by decide +kernel
theorem dX9_init_239 : decode cX9_init 239 = .ok (.newarray .boolean, 2) := by decide +kernel
theorem dX9_init_241 : decode cX9_init 241 = .ok (.putfield 104, 3) := by decide +kernel
theorem dX9_init_244 : decode cX9_init 244 = .ok (.aload_n 0, 1) := by decide +kernel
theorem dX9_init_245 : decode cX9_init 245 = .ok (.bipush 6, 2) := by decide +kernel
theorem dX9_init_247 : decode cX9_init 247 = .ok (.newarray .int, 2) := by decide +kernel
theorem dX9_init_249 : decode cX9_init 249 = .ok (.putfield 107, 3) := by decide +kernel
theorem dX9_init_252 : decode cX9_init 252 = .ok (.aload_n 0, 1) := by decide +kernel
theorem dX9_init_253 : decode cX9_init 253 = .ok (.iconst 5, 1) := by decide +kernel
theorem dX9_init_254 : decode cX9_init 254 = .ok (.newarray .int, 2) := by decide +kernel
theorem dX9_init_256 : decode cX9_init 256 = .ok (.putfield 110, 3) := by decide +kernel
theorem dX9_init_259 : decode cX9_init 259 = .ok (.aload_n 0, 1) := by decide +kernel
theorem dX9_init_260 : decode cX9_init 260 = .ok (.iconst 5, 1) := by decide +kernel
theorem dX9_init_261 : decode cX9_init 261 = .ok (.newarray .int, 2) := by decide +kernel
theorem dX9_init_263 : decode cX9_init 263 = .ok (.putfield 113, 3) := by decide +kernel
theorem dX9_init_266 : decode cX9_init 266 = .ok (.aload_n 0, 1) := by decide +kernel
theorem dX9_init_267 : decode cX9_init 267 = .ok (.bipush 6, 2) := by decide +kernel
theorem dX9_init_269 : decode cX9_init 269 = .ok (.newarray .int, 2) := by decide +kernel
theorem dX9_init_271 : decode cX9_init 271 = .ok (.putfield 116, 3) := by decide +kernel
theorem dX9_init_274 : decode cX9_init 274 = .ok (.aload_n 0, 1) := by decide +kernel
theorem dX9_init_275 : decode cX9_init 275 = .ok (.bipush 50, 2) := by decide +kernel
theorem dX9_init_277 : decode cX9_init 277 = .ok (.newarray .int, 2) := by decide +kernel
theorem dX9_init_279 : decode cX9_init 279 = .ok (.putfield 119, 3) := by decide +kernel
theorem dX9_init_282 : decode cX9_init 282 = .ok (.aload_n 0, 1) := by decide +kernel
theorem dX9_init_283 : decode cX9_init 283 = .ok (.bipush 24, 2) := by decide +kernel
theorem dX9_init_285 : decode cX9_init 285 = .ok (.newarray .int, 2) := by decide +kernel
theorem dX9_init_287 : decode cX9_init 287 = .ok (.putfield 122, 3) := by decide +kernel
theorem dX9_init_290 : decode cX9_init 290 = .ok (.aload_n 0, 1) := by decide +kernel
theorem dX9_init_291 : decode cX9_init 291 = .ok (.bipush 6, 2) := by decide +kernel
theorem dX9_init_293 : decode cX9_init 293 = .ok (.newarray .int, 2) := by decide +kernel
theorem dX9_init_295 : decode cX9_init 295 = .ok (.dup, 1) := by decide +kernel
theorem dX9_init_296 : decode cX9_init 296 = .ok (.iconst 0, 1) := by decide +kernel
theorem dX9_init_297 : decode cX9_init 297 = .ok (.iconst (-1), 1) := by decide +kernel
theorem dX9_init_298 : decode cX9_init 298 = .ok (.iastore, 1) := by decide +kernel
theorem dX9_init_299 : decode cX9_init 299 = .ok (.dup, 1) := by decide +kernel
theorem dX9_init_300 : decode cX9_init 300 = .ok (.iconst 1, 1) := by decide +kernel
theorem dX9_init_301 : decode cX9_init 301 = .ok (.iconst (-1), 1) := by decide +kernel
theorem dX9_init_302 : decode cX9_init 302 = .ok (.iastore, 1) := by decide +kernel
theorem dX9_init_303 : decode cX9_init 303 = .ok (.dup, 1) := by decide +kernel
theorem dX9_init_304 : decode cX9_init 304 = .ok (.iconst 2, 1) := by decide +kernel
theorem dX9_init_305 : decode cX9_init 305 = .ok (.iconst (-1), 1) := by decide +kernel
theorem dX9_init_306 : decode cX9_init 306 = .ok (.iastore, 1) := by decide +kernel
theorem dX9_init_307 : decode cX9_init 307 = .ok (.dup, 1) := by decide +kernel
theorem dX9_init_308 : decode cX9_init 308 = .ok (.iconst 3, 1) := by decide +kernel
theorem dX9_init_309 : decode cX9_init 309 = .ok (.iconst (-1), 1) := by decide +kernel
theorem dX9_init_310 : decode cX9_init 310 = .ok (.iastore, 1) := by decide +kernel
theorem dX9_init_311 : decode cX9_init 311 = .ok (.dup, 1) := by decide +kernel
theorem dX9_init_312 : decode cX9_init 312 = .ok (.iconst 4, 1) := by decide +kernel
theorem dX9_init_313 : decode cX9_init 313 = .ok (.iconst (-1), 1) := by decide +kernel
theorem dX9_init_314 : decode cX9_init 314 = .ok (.iastore, 1) := by decide +kernel
theorem dX9_init_315 : decode cX9_init 315 = .ok (.dup, 1) := by decide +kernel
theorem dX9_init_316 : decode cX9_init 316 = .ok (.iconst 5, 1) := by decide +kernel
theorem dX9_init_317 : decode cX9_init 317 = .ok (.iconst (-1), 1) := by decide +kernel
theorem dX9_init_318 : decode cX9_init 318 = .ok (.iastore, 1) := by decide +kernel
theorem dX9_init_319 : decode cX9_init 319 = .ok (.putfield 125, 3) := by decide +kernel
theorem dX9_init_322 : decode cX9_init 322 = .ok (.aload_n 0, 1) := by decide +kernel
theorem dX9_init_323 : decode cX9_init 323 = .ok (.bipush 6, 2) := by decide +kernel
theorem dX9_init_325 : decode cX9_init 325 = .ok (.newarray .int, 2) := by decide +kernel
theorem dX9_init_327 : decode cX9_init 327 = .ok (.putfield 128, 3) := by decide +kernel
theorem dX9_init_330 : decode cX9_init 330 = .ok (.aload_n 0, 1) := by decide +kernel
theorem dX9_init_331 : decode cX9_init 331 = .ok (.sipush 360, 3) := by decide +kernel
theorem dX9_init_334 : decode cX9_init 334 = .ok (.newarray .long, 2) := by decide +kernel
theorem dX9_init_336 : decode cX9_init 336 = .ok (.putfield 131, 3) := by decide +kernel
theorem dX9_init_339 : decode cX9_init 339 = .ok (.aload_n 0, 1) := by decide +kernel
theorem dX9_init_340 : decode cX9_init 340 = .ok (.bipush 60, 2) := by decide +kernel
theorem dX9_init_342 : decode cX9_init 342 = .ok (.newarray .long, 2) := by decide +kernel
theorem dX9_init_344 : decode cX9_init 344 = .ok (.putfield 134, 3) := by decide +kernel
theorem dX9_init_347 : decode cX9_init 347 = .ok (.return_, 1) := by decide +kernel
theorem dX9_in_0 : decode cX9_in 0 = .ok (.iload_n 0, 1) := by decide +kernel
theorem dX9_in_1 : decode cX9_in 1 = .ok (.iload_n 1, 1) := by decide +kernel
theorem dX9_in_2 : decode cX9_in 2 = .ok (.if_icmp .lt 12, 3) := by decide +kernel
theorem dX9_in_5 : decode cX9_in 5 = .ok (.iload_n 0, 1) := by decide +kernel
theorem dX9_in_6 : decode cX9_in 6 = .ok (.iload_n 2, 1) := by decide +kernel
theorem dX9_in_7 : decode cX9_in 7 = .ok (.if_icmp .gt 7, 3) := by decide +kernel
theorem dX9_in_10 : decode cX9_in 10 = .ok (.iconst 1, 1) := by decide +kernel
theorem dX9_in_11 : decode cX9_in 11 = .ok (.goto 4, 3) := by decide +kernel
theorem dX9_in_14 : decode cX9_in 14 = .ok (.iconst 0, 1) := by decide +kernel
theorem dX9_in_15 : decode cX9_in 15 = .ok (.ireturn, 1) := by decide +kernel
theorem dX9_bitsOf_0 : decode cX9_bitsOf 0 = .ok (.iconst 0, 1) := by decide +kernel
theorem dX9_bitsOf_1 : decode cX9_bitsOf 1 = .ok (.istore_n 1, 1) := by decide +kernel
theorem dX9_bitsOf_2 : decode cX9_bitsOf 2 = .ok (.iload_n 0, 1) := by decide +kernel
theorem dX9_bitsOf_3 : decode cX9_bitsOf 3 = .ok (.istore_n 2, 1) := by decide +kernel
theorem dX9_bitsOf_4 : decode cX9_bitsOf 4 = .ok (.iload_n 2, 1) := by decide +kernel
theorem dX9_bitsOf_5 : decode cX9_bitsOf 5 = .ok (.ifCond .eq 15, 3) := by decide +kernel
theorem dX9_bitsOf_8 : decode cX9_bitsOf 8 = .ok (.iinc 1 1, 3) := by decide +kernel
theorem dX9_bitsOf_11 : decode cX9_bitsOf 11 = .ok (.iload_n 2, 1) := by decide +kernel
theorem dX9_bitsOf_12 : decode cX9_bitsOf 12 = .ok (.iload_n 2, 1) := by decide +kernel
theorem dX9_bitsOf_13 : decode cX9_bitsOf 13 = .ok (.iconst 1, 1) := by decide +kernel
theorem dX9_bitsOf_14 : decode cX9_bitsOf 14 = .ok (.isub, 1) := by decide +kernel
theorem dX9_bitsOf_15 : decode cX9_bitsOf 15 = .ok (.iand, 1) := by decide +kernel
theorem dX9_bitsOf_16 : decode cX9_bitsOf 16 = .ok (.istore_n 2, 1) := by decide +kernel
theorem dX9_bitsOf_17 : decode cX9_bitsOf 17 = .ok (.goto (-13), 3) := by decide +kernel
theorem dX9_bitsOf_20 : decode cX9_bitsOf 20 = .ok (.iload_n 1, 1) := by decide +kernel
theorem dX9_bitsOf_21 : decode cX9_bitsOf 21 = .ok (.ireturn, 1) := by decide +kernel
theorem dX9_isWord_0 : decode cX9_isWord 0 = .ok (.iload_n 1, 1) := by decide +kernel
theorem dX9_isWord_1 : decode cX9_isWord 1 = .ok (.iconst 0, 1) := by decide +kernel
theorem dX9_isWord_2 : decode cX9_isWord 2 = .ok (.aload_n 0, 1) := by decide +kernel
theorem dX9_isWord_3 : decode cX9_isWord 3 = .ok (.getfield 140, 3) := by decide +kernel
theorem dX9_isWord_6 : decode cX9_isWord 6 = .ok (.iconst 1, 1) := by decide +kernel
theorem dX9_isWord_7 : decode cX9_isWord 7 = .ok (.isub, 1) := by decide +kernel
theorem dX9_isWord_8 : decode cX9_isWord 8 = .ok (.invokestatic 143, 3) := by decide +kernel
theorem dX9_isWord_11 : decode cX9_isWord 11 = .ok (.ireturn, 1) := by decide +kernel
theorem dX9_isMesh_0 : decode cX9_isMesh 0 = .ok (.iload_n 1, 1) := by decide +kernel
theorem dX9_isMesh_1 : decode cX9_isMesh 1 = .ok (.iconst 0, 1) := by decide +kernel
theorem dX9_isMesh_2 : decode cX9_isMesh 2 = .ok (.aload_n 0, 1) := by decide +kernel
theorem dX9_isMesh_3 : decode cX9_isMesh 3 = .ok (.getfield 147, 3) := by decide +kernel
theorem dX9_isMesh_6 : decode cX9_isMesh 6 = .ok (.iconst 1, 1) := by decide +kernel
theorem dX9_isMesh_7 : decode cX9_isMesh 7 = .ok (.isub, 1) := by decide +kernel
theorem dX9_isMesh_8 : decode cX9_isMesh 8 = .ok (.invokestatic 143, 3) := by decide +kernel
theorem dX9_isMesh_11 : decode cX9_isMesh 11 = .ok (.ireturn, 1) := by decide +kernel
theorem dX9_isMeshOrNone_0 : decode cX9_isMeshOrNone 0 = .ok (.iload_n 1, 1) := by decide +kernel
theorem dX9_isMeshOrNone_1 : decode cX9_isMeshOrNone 1 = .ok (.iconst (-1), 1) := by decide +kernel
theorem dX9_isMeshOrNone_2 : decode cX9_isMeshOrNone 2 = .ok (.aload_n 0, 1) := by decide +kernel
theorem dX9_isMeshOrNone_3 : decode cX9_isMeshOrNone 3 = .ok (.getfield 147, 3) := by decide +kernel
theorem dX9_isMeshOrNone_6 : decode cX9_isMeshOrNone 6 = .ok (.iconst 1, 1) := by decide +kernel
theorem dX9_isMeshOrNone_7 : decode cX9_isMeshOrNone 7 = .ok (.isub, 1) := by decide +kernel
theorem dX9_isMeshOrNone_8 : decode cX9_isMeshOrNone 8 = .ok (.invokestatic 143, 3) := by decide +kernel
theorem dX9_isMeshOrNone_11 : decode cX9_isMeshOrNone 11 = .ok (.ireturn, 1) := by decide +kernel
theorem dX9_addWord_0 : decode cX9_addWord 0 = .ok (.aload_n 0, 1) := by decide +kernel
theorem dX9_addWord_1 : decode cX9_addWord 1 = .ok (.getfield 9, 3) := by decide +kernel
theorem dX9_addWord_4 : decode cX9_addWord 4 = .ok (.aload_n 0, 1) := by decide +kernel
theorem dX9_addWord_5 : decode cX9_addWord 5 = .ok (.getfield 140, 3) := by decide +kernel
theorem dX9_addWord_8 : decode cX9_addWord 8 = .ok (.iload_n 1, 1) := by decide +kernel
theorem dX9_addWord_9 : decode cX9_addWord 9 = .ok (.iastore, 1) := by decide +kernel
theorem dX9_addWord_10 : decode cX9_addWord 10 = .ok (.aload_n 0, 1) := by decide +kernel
theorem dX9_addWord_11 : decode cX9_addWord 11 = .ok (.getfield 15, 3) := by decide +kernel
theorem dX9_addWord_14 : decode cX9_addWord 14 = .ok (.aload_n 0, 1) := by decide +kernel
theorem dX9_addWord_15 : decode cX9_addWord 15 = .ok (.getfield 140, 3) := by decide +kernel
theorem dX9_addWord_18 : decode cX9_addWord 18 = .ok (.iload_n 2, 1) := by decide +kernel
theorem dX9_addWord_19 : decode cX9_addWord 19 = .ok (.iastore, 1) := by decide +kernel
theorem dX9_addWord_20 : decode cX9_addWord 20 = .ok (.aload_n 0, 1) := by decide +kernel
theorem dX9_addWord_21 : decode cX9_addWord 21 = .ok (.getfield 18, 3) := by decide +kernel
theorem dX9_addWord_24 : decode cX9_addWord 24 = .ok (.aload_n 0, 1) := by decide +kernel
theorem dX9_addWord_25 : decode cX9_addWord 25 = .ok (.getfield 140, 3) := by decide +kernel
theorem dX9_addWord_28 : decode cX9_addWord 28 = .ok (.iload_n 3, 1) := by decide +kernel
theorem dX9_addWord_29 : decode cX9_addWord 29 = .ok (.iastore, 1) := by decide +kernel
theorem dX9_addWord_30 : decode cX9_addWord 30 = .ok (.aload_n 0, 1) := by decide +kernel
theorem dX9_addWord_31 : decode cX9_addWord 31 = .ok (.getfield 21, 3) := by decide +kernel
theorem dX9_addWord_34 : decode cX9_addWord 34 = .ok (.aload_n 0, 1) := by decide +kernel
theorem dX9_addWord_35 : decode cX9_addWord 35 = .ok (.getfield 140, 3) := by decide +kernel
theorem dX9_addWord_38 : decode cX9_addWord 38 = .ok (.iconst 2, 1) := by decide +kernel
theorem dX9_addWord_39 : decode cX9_addWord 39 = .ok (.iastore, 1) := by decide +kernel
theorem dX9_addWord_40 : decode cX9_addWord 40 = .ok (.aload_n 0, 1) := by decide +kernel
theorem dX9_addWord_41 : decode cX9_addWord 41 = .ok (.getfield 24, 3) := by decide +kernel
theorem dX9_addWord_44 : decode cX9_addWord 44 = .ok (.aload_n 0, 1) := by decide +kernel
theorem dX9_addWord_45 : decode cX9_addWord 45 = .ok (.getfield 140, 3) := by decide +kernel
theorem dX9_addWord_48 : decode cX9_addWord 48 = .ok (.iconst 0, 1) := by decide +kernel
theorem dX9_addWord_49 : decode cX9_addWord 49 = .ok (.iastore, 1) := by decide +kernel
theorem dX9_addWord_50 : decode cX9_addWord 50 = .ok (.aload_n 0, 1) := by decide +kernel
theorem dX9_addWord_51 : decode cX9_addWord 51 = .ok (.dup, 1) := by decide +kernel
theorem dX9_addWord_52 : decode cX9_addWord 52 = .ok (.getfield 140, 3) := by decide +kernel
theorem dX9_addWord_55 : decode cX9_addWord 55 = .ok (.iconst 1, 1) := by decide +kernel
theorem dX9_addWord_56 : decode cX9_addWord 56 = .ok (.iadd, 1) := by decide +kernel
theorem dX9_addWord_57 : decode cX9_addWord 57 = .ok (.putfield 140, 3) := by decide +kernel
theorem dX9_addWord_60 : decode cX9_addWord 60 = .ok (.aload_n 0, 1) := by decide +kernel
theorem dX9_addWord_61 : decode cX9_addWord 61 = .ok (.getfield 140, 3) := by decide +kernel
theorem dX9_addWord_64 : decode cX9_addWord 64 = .ok (.iconst 1, 1) := by decide +kernel
theorem dX9_addWord_65 : decode cX9_addWord 65 = .ok (.isub, 1) := by decide +kernel
theorem dX9_addWord_66 : decode cX9_addWord 66 = .ok (.ireturn, 1) := by decide +kernel
theorem dX9_word_0 : decode cX9_word 0 = .ok (.iload_n 1, 1) := by decide +kernel
theorem dX9_word_1 : decode cX9_word 1 = .ok (.iconst 0, 1) := by decide +kernel
theorem dX9_word_2 : decode cX9_word 2 = .ok (.bipush 9, 2) := by decide +kernel
theorem dX9_word_4 : decode cX9_word 4 = .ok (.invokestatic 143, 3) := by decide +kernel
theorem dX9_word_7 : decode cX9_word 7 = .ok (.ifCond .eq 13, 3) := by decide +kernel
theorem dX9_word_10 : decode cX9_word 10 = .ok (.iload_n 2, 1) := by decide +kernel
theorem dX9_word_11 : decode cX9_word 11 = .ok (.iconst 0, 1) := by decide +kernel
theorem dX9_word_12 : decode cX9_word 12 = .ok (.bipush 9, 2) := by decide +kernel
theorem dX9_word_14 : decode cX9_word 14 = .ok (.invokestatic 143, 3) := by decide +kernel
theorem dX9_word_17 : decode cX9_word 17 = .ok (.ifCond .ne 5, 3) := by decide +kernel
theorem dX9_word_20 : decode cX9_word 20 = .ok (.iconst (-1), 1) := by decide +kernel
theorem dX9_word_21 : decode cX9_word 21 = .ok (.ireturn, 1) := by decide +kernel
theorem dX9_word_22 : decode cX9_word 22 = .ok (.aload_n 0, 1) := by decide +kernel
theorem dX9_word_23 : decode cX9_word 23 = .ok (.getfield 140, 3) := by decide +kernel
theorem dX9_word_26 : decode cX9_word 26 = .ok (.bipush 12, 2) := by decide +kernel
theorem dX9_word_28 : decode cX9_word 28 = .ok (.if_icmp .ne 8, 3) := by decide +kernel
theorem dX9_word_31 : decode cX9_word 31 = .ok (.bipush (-3), 2) := by decide +kernel
theorem dX9_word_33 : decode cX9_word 33 = .ok (.goto 10, 3) := by decide +kernel
theorem dX9_word_36 : decode cX9_word 36 = .ok (.aload_n 0, 1) := by decide +kernel
theorem dX9_word_37 : decode cX9_word 37 = .ok (.iload_n 1, 1) := by decide +kernel
theorem dX9_word_38 : decode cX9_word 38 = .ok (.iload_n 2, 1) := by decide +kernel
theorem dX9_word_39 : decode cX9_word 39 = .ok (.iconst 0, 1) := by decide +kernel
theorem dX9_word_40 : decode cX9_word 40 = .ok (.invokevirtual 150, 3) := by decide +kernel
theorem dX9_word_43 : decode cX9_word 43 = .ok (.ireturn, 1) := by decide +kernel
theorem dX9_words_0 : decode cX9_words 0 = .ok (.iload_n 1, 1) := by decide +kernel
theorem dX9_words_1 : decode cX9_words 1 = .ok (.invokestatic 154, 3) := by decide +kernel
theorem dX9_words_4 : decode cX9_words 4 = .ok (.ifCond .eq 13, 3) := by decide +kernel
theorem dX9_words_7 : decode cX9_words 7 = .ok (.iload_n 3, 1) := by decide +kernel
theorem dX9_words_8 : decode cX9_words 8 = .ok (.iconst 1, 1) := by decide +kernel
theorem dX9_words_9 : decode cX9_words 9 = .ok (.bipush 12, 2) := by decide +kernel
theorem dX9_words_11 : decode cX9_words 11 = .ok (.invokestatic 143, 3) := by decide +kernel
theorem dX9_words_14 : decode cX9_words 14 = .ok (.ifCond .ne 5, 3) := by decide +kernel
theorem dX9_words_17 : decode cX9_words 17 = .ok (.iconst (-1), 1) := by decide +kernel
theorem dX9_words_18 : decode cX9_words 18 = .ok (.ireturn, 1) := by decide +kernel
theorem dX9_words_19 : decode cX9_words 19 = .ok (.aload_n 0, 1) := by decide +kernel
theorem dX9_words_20 : decode cX9_words 20 = .ok (.getfield 125, 3) := by decide +kernel
theorem dX9_words_23 : decode cX9_words 23 = .ok (.iload_n 1, 1) := by decide +kernel
theorem dX9_words_24 : decode cX9_words 24 = .ok (.iaload, 1) := by decide +kernel
theorem dX9_words_25 : decode cX9_words 25 = .ok (.iconst (-1), 1) := by decide +kernel
theorem dX9_words_26 : decode cX9_words 26 = .ok (.if_icmp .eq 17, 3) := by decide +kernel
theorem dX9_words_29 : decode cX9_words 29 = .ok (.aload_n 0, 1) := by decide +kernel
theorem dX9_words_30 : decode cX9_words 30 = .ok (.getfield 125, 3) := by decide +kernel
theorem dX9_words_33 : decode cX9_words 33 = .ok (.iload_n 1, 1) := by decide +kernel
theorem dX9_words_34 : decode cX9_words 34 = .ok (.iaload, 1) := by decide +kernel
theorem dX9_words_35 : decode cX9_words 35 = .ok (.bipush (-2), 2) := by decide +kernel
theorem dX9_words_37 : decode cX9_words 37 = .ok (.if_icmp .eq 6, 3) := by decide +kernel
theorem dX9_words_40 : decode cX9_words 40 = .ok (.bipush (-12), 2) := by decide +kernel
theorem dX9_words_42 : decode cX9_words 42 = .ok (.ireturn, 1) := by decide +kernel
theorem dX9_words_43 : decode cX9_words 43 = .ok (.aload_n 0, 1) := by decide +kernel
theorem dX9_words_44 : decode cX9_words 44 = .ok (.getfield 125, 3) := by decide +kernel
theorem dX9_words_47 : decode cX9_words 47 = .ok (.iload_n 1, 1) := by decide +kernel
theorem dX9_words_48 : decode cX9_words 48 = .ok (.iaload, 1) := by decide +kernel
theorem dX9_words_49 : decode cX9_words 49 = .ok (.iconst (-1), 1) := by decide +kernel
theorem dX9_words_50 : decode cX9_words 50 = .ok (.if_icmp .ne 5, 3) := by decide +kernel
theorem dX9_words_53 : decode cX9_words 53 = .ok (.iconst 0, 1) := by decide +kernel
theorem dX9_words_54 : decode cX9_words 54 = .ok (.ireturn, 1) := by decide +kernel
theorem dX9_words_55 : decode cX9_words 55 = .ok (.iconst 0, 1) := by decide +kernel
theorem dX9_words_56 : decode cX9_words 56 = .ok (.istore 4, 2) := by decide +kernel
theorem dX9_words_58 : decode cX9_words 58 = .ok (.iload 4, 2) := by decide +kernel
theorem dX9_words_60 : decode cX9_words 60 = .ok (.iload_n 3, 1) := by decide +kernel
theorem dX9_words_61 : decode cX9_words 61 = .ok (.if_icmp .ge 156, 3) := by decide +kernel
theorem dX9_words_64 : decode cX9_words 64 = .ok (.iload_n 2, 1) := by decide +kernel
theorem dX9_words_65 : decode cX9_words 65 = .ok (.i2l, 1) := by decide +kernel
theorem dX9_words_66 : decode cX9_words 66 = .ok (.iconst 3, 1) := by decide +kernel
theorem dX9_words_67 : decode cX9_words 67 = .ok (.iload 4, 2) := by decide +kernel
theorem dX9_words_69 : decode cX9_words 69 = .ok (.imul, 1) := by decide +kernel
theorem dX9_words_70 : decode cX9_words 70 = .ok (.i2l, 1) := by decide +kernel
theorem dX9_words_71 : decode cX9_words 71 = .ok (.ladd, 1) := by decide +kernel
theorem dX9_words_72 : decode cX9_words 72 = .ok (.lstore 5, 2) := by decide +kernel
theorem dX9_words_74 : decode cX9_words 74 = .ok (.lload 5, 2) := by decide +kernel
theorem dX9_words_76 : decode cX9_words 76 = .ok (.lconst 0, 1) := by decide +kernel
theorem dX9_words_77 : decode cX9_words 77 = .ok (.lcmp, 1) := by decide +kernel
theorem dX9_words_78 : decode cX9_words 78 = .ok (.ifCond .lt 29, 3) := by decide +kernel
theorem dX9_words_81 : decode cX9_words 81 = .ok (.lload 5, 2) := by decide +kernel
theorem dX9_words_83 : decode cX9_words 83 = .ok (.ldc2_w 158, 3) := by decide +kernel
theorem dX9_words_86 : decode cX9_words 86 = .ok (.ladd, 1) := by decide +kernel
theorem dX9_words_87 : decode cX9_words 87 = .ok (.aload_n 0, 1) := by decide +kernel
theorem dX9_words_88 : decode cX9_words 88 = .ok (.getfield 128, 3) := by decide +kernel
theorem dX9_words_91 : decode cX9_words 91 = .ok (.iload_n 1, 1) := by decide +kernel
theorem dX9_words_92 : decode cX9_words 92 = .ok (.iaload, 1) := by decide +kernel
theorem dX9_words_93 : decode cX9_words 93 = .ok (.i2l, 1) := by decide +kernel
theorem dX9_words_94 : decode cX9_words 94 = .ok (.lcmp, 1) := by decide +kernel
theorem dX9_words_95 : decode cX9_words 95 = .ok (.ifCond .ge 12, 3) := by decide +kernel
theorem dX9_words_98 : decode cX9_words 98 = .ok (.aload_n 0, 1) := by decide +kernel
theorem dX9_words_99 : decode cX9_words 99 = .ok (.getfield 140, 3) := by decide +kernel
theorem dX9_words_102 : decode cX9_words 102 = .ok (.bipush 12, 2) := by decide +kernel
theorem dX9_words_104 : decode cX9_words 104 = .ok (.if_icmp .ne 6, 3) := by decide +kernel
theorem dX9_words_107 : decode cX9_words 107 = .ok (.iload 4, 2) := by decide +kernel
theorem dX9_words_109 : decode cX9_words 109 = .ok (.ireturn, 1) := by decide +kernel
theorem dX9_words_110 : decode cX9_words 110 = .ok (.bipush 60, 2) := by decide +kernel
theorem dX9_words_112 : decode cX9_words 112 = .ok (.iload_n 1, 1) := by decide +kernel
theorem dX9_words_113 : decode cX9_words 113 = .ok (.imul, 1) := by decide +kernel
theorem dX9_words_114 : decode cX9_words 114 = .ok (.lload 5, 2) := by decide +kernel
theorem dX9_words_116 : decode cX9_words 116 = .ok (.l2i, 1) := by decide +kernel
theorem dX9_words_117 : decode cX9_words 117 = .ok (.iadd, 1) := by decide +kernel
theorem dX9_words_118 : decode cX9_words 118 = .ok (.istore 7, 2) := by decide +kernel
theorem dX9_words_120 : decode cX9_words 120 = .ok (.aload_n 0, 1) := by decide +kernel
theorem dX9_words_121 : decode cX9_words 121 = .ok (.getfield 131, 3) := by decide +kernel
theorem dX9_words_124 : decode cX9_words 124 = .ok (.iload 7, 2) := by decide +kernel
theorem dX9_words_126 : decode cX9_words 126 = .ok (.laload, 1) := by decide +kernel
theorem dX9_words_127 : decode cX9_words 127 = .ok (.l2i, 1) := by decide +kernel
theorem dX9_words_128 : decode cX9_words 128 = .ok (.iconst 0, 1) := by decide +kernel
theorem dX9_words_129 : decode cX9_words 129 = .ok (.bipush 9, 2) := by decide +kernel
theorem dX9_words_131 : decode cX9_words 131 = .ok (.invokestatic 143, 3) := by decide +kernel
theorem dX9_words_134 : decode cX9_words 134 = .ok (.ifCond .eq 41, 3) := by decide +kernel
theorem dX9_words_137 : decode cX9_words 137 = .ok (.aload_n 0, 1) := by decide +kernel
theorem dX9_words_138 : decode cX9_words 138 = .ok (.getfield 131, 3) := by decide +kernel
theorem dX9_words_141 : decode cX9_words 141 = .ok (.iload 7, 2) := by decide +kernel
theorem dX9_words_143 : decode cX9_words 143 = .ok (.iconst 1, 1) := by decide +kernel
theorem dX9_words_144 : decode cX9_words 144 = .ok (.iadd, 1) := by decide +kernel
theorem dX9_words_145 : decode cX9_words 145 = .ok (.laload, 1) := by decide +kernel
theorem dX9_words_146 : decode cX9_words 146 = .ok (.l2i, 1) := by decide +kernel
theorem dX9_words_147 : decode cX9_words 147 = .ok (.iconst 0, 1) := by decide +kernel
theorem dX9_words_148 : decode cX9_words 148 = .ok (.bipush 9, 2) := by decide +kernel
theorem dX9_words_150 : decode cX9_words 150 = .ok (.invokestatic 143, 3) := by decide +kernel
theorem dX9_words_153 : decode cX9_words 153 = .ok (.ifCond .eq 22, 3) := by decide +kernel
theorem dX9_words_156 : decode cX9_words 156 = .ok (.aload_n 0, 1) := by decide +kernel
theorem dX9_words_157 : decode cX9_words 157 = .ok (.getfield 131, 3) := by decide +kernel
theorem dX9_words_160 : decode cX9_words 160 = .ok (.iload 7, 2) := by decide +kernel
theorem dX9_words_162 : decode cX9_words 162 = .ok (.iconst 2, 1) := by decide +kernel
theorem dX9_words_163 : decode cX9_words 163 = .ok (.iadd, 1) := by decide +kernel
theorem dX9_words_164 : decode cX9_words 164 = .ok (.laload, 1) := by decide +kernel
theorem dX9_words_165 : decode cX9_words 165 = .ok (.l2i, 1) := by decide +kernel
theorem dX9_words_166 : decode cX9_words 166 = .ok (.iconst 0, 1) := by decide +kernel
theorem dX9_words_167 : decode cX9_words 167 = .ok (.bipush 9, 2) := by decide +kernel
theorem dX9_words_169 : decode cX9_words 169 = .ok (.invokestatic 143, 3) := by decide +kernel
theorem dX9_words_172 : decode cX9_words 172 = .ok (.ifCond .ne 6, 3) := by decide +kernel
theorem dX9_words_175 : decode cX9_words 175 = .ok (.iload 4, 2) := by decide +kernel
theorem dX9_words_177 : decode cX9_words 177 = .ok (.ireturn, 1) := by decide +kernel
theorem dX9_words_178 : decode cX9_words 178 = .ok (.aload_n 0, 1) := by decide +kernel
theorem dX9_words_179 : decode cX9_words 179 = .ok (.aload_n 0, 1) := by decide +kernel
theorem dX9_words_180 : decode cX9_words 180 = .ok (.getfield 131, 3) := by decide +kernel
theorem dX9_words_183 : decode cX9_words 183 = .ok (.iload 7, 2) := by decide +kernel
theorem dX9_words_185 : decode cX9_words 185 = .ok (.laload, 1) := by decide +kernel
theorem dX9_words_186 : decode cX9_words 186 = .ok (.l2i, 1) := by decide +kernel
theorem dX9_words_187 : decode cX9_words 187 = .ok (.aload_n 0, 1) := by decide +kernel
theorem dX9_words_188 : decode cX9_words 188 = .ok (.getfield 131, 3) := by decide +kernel
theorem dX9_words_191 : decode cX9_words 191 = .ok (.iload 7, 2) := by decide +kernel
theorem dX9_words_193 : decode cX9_words 193 = .ok (.iconst 1, 1) := by decide +kernel
theorem dX9_words_194 : decode cX9_words 194 = .ok (.iadd, 1) := by decide +kernel
theorem dX9_words_195 : decode cX9_words 195 = .ok (.laload, 1) := by decide +kernel
theorem dX9_words_196 : decode cX9_words 196 = .ok (.l2i, 1) := by decide +kernel
theorem dX9_words_197 : decode cX9_words 197 = .ok (.aload_n 0, 1) := by decide +kernel
theorem dX9_words_198 : decode cX9_words 198 = .ok (.getfield 131, 3) := by decide +kernel
theorem dX9_words_201 : decode cX9_words 201 = .ok (.iload 7, 2) := by decide +kernel
theorem dX9_words_203 : decode cX9_words 203 = .ok (.iconst 2, 1) := by decide +kernel
theorem dX9_words_204 : decode cX9_words 204 = .ok (.iadd, 1) := by decide +kernel
theorem dX9_words_205 : decode cX9_words 205 = .ok (.laload, 1) := by decide +kernel
theorem dX9_words_206 : decode cX9_words 206 = .ok (.l2i, 1) := by decide +kernel
theorem dX9_words_207 : decode cX9_words 207 = .ok (.invokevirtual 150, 3) := by decide +kernel
theorem dX9_words_210 : decode cX9_words 210 = .ok (.pop, 1) := by decide +kernel
theorem dX9_words_211 : decode cX9_words 211 = .ok (.iinc 4 1, 3) := by decide +kernel
theorem dX9_words_214 : decode cX9_words 214 = .ok (.goto (-156), 3) := by decide +kernel
theorem dX9_words_217 : decode cX9_words 217 = .ok (.iload_n 3, 1) := by decide +kernel
theorem dX9_words_218 : decode cX9_words 218 = .ok (.ireturn, 1) := by decide +kernel
theorem dX9_mesh_0 : decode cX9_mesh 0 = .ok (.iload_n 1, 1) := by decide +kernel
theorem dX9_mesh_1 : decode cX9_mesh 1 = .ok (.iconst 0, 1) := by decide +kernel
theorem dX9_mesh_2 : decode cX9_mesh 2 = .ok (.bipush 9, 2) := by decide +kernel
theorem dX9_mesh_4 : decode cX9_mesh 4 = .ok (.invokestatic 143, 3) := by decide +kernel
theorem dX9_mesh_7 : decode cX9_mesh 7 = .ok (.ifCond .ne 5, 3) := by decide +kernel
theorem dX9_mesh_10 : decode cX9_mesh 10 = .ok (.iconst (-1), 1) := by decide +kernel
theorem dX9_mesh_11 : decode cX9_mesh 11 = .ok (.ireturn, 1) := by decide +kernel
theorem dX9_mesh_12 : decode cX9_mesh 12 = .ok (.aload_n 0, 1) := by decide +kernel
theorem dX9_mesh_13 : decode cX9_mesh 13 = .ok (.getfield 147, 3) := by decide +kernel
theorem dX9_mesh_16 : decode cX9_mesh 16 = .ok (.iconst 5, 1) := by decide +kernel
theorem dX9_mesh_17 : decode cX9_mesh 17 = .ok (.if_icmp .ne 6, 3) := by decide +kernel
theorem dX9_mesh_20 : decode cX9_mesh 20 = .ok (.bipush (-3), 2) := by decide +kernel
theorem dX9_mesh_22 : decode cX9_mesh 22 = .ok (.ireturn, 1) := by decide +kernel
theorem dX9_mesh_23 : decode cX9_mesh 23 = .ok (.aload_n 0, 1) := by decide +kernel
theorem dX9_mesh_24 : decode cX9_mesh 24 = .ok (.getfield 27, 3) := by decide +kernel
theorem dX9_mesh_27 : decode cX9_mesh 27 = .ok (.aload_n 0, 1) := by decide +kernel
theorem dX9_mesh_28 : decode cX9_mesh 28 = .ok (.getfield 147, 3) := by decide +kernel
theorem dX9_mesh_31 : decode cX9_mesh 31 = .ok (.iload_n 1, 1) := by decide +kernel
theorem dX9_mesh_32 : decode cX9_mesh 32 = .ok (.iastore, 1) := by decide +kernel
theorem dX9_mesh_33 : decode cX9_mesh 33 = .ok (.aload_n 0, 1) := by decide +kernel
theorem dX9_mesh_34 : decode cX9_mesh 34 = .ok (.getfield 30, 3) := by decide +kernel
theorem dX9_mesh_37 : decode cX9_mesh 37 = .ok (.aload_n 0, 1) := by decide +kernel
theorem dX9_mesh_38 : decode cX9_mesh 38 = .ok (.getfield 147, 3) := by decide +kernel
theorem dX9_mesh_41 : decode cX9_mesh 41 = .ok (.iconst 0, 1) := by decide +kernel
theorem dX9_mesh_42 : decode cX9_mesh 42 = .ok (.iastore, 1) := by decide +kernel
theorem dX9_mesh_43 : decode cX9_mesh 43 = .ok (.aload_n 0, 1) := by decide +kernel
theorem dX9_mesh_44 : decode cX9_mesh 44 = .ok (.getfield 33, 3) := by decide +kernel
theorem dX9_mesh_47 : decode cX9_mesh 47 = .ok (.aload_n 0, 1) := by decide +kernel
theorem dX9_mesh_48 : decode cX9_mesh 48 = .ok (.getfield 147, 3) := by decide +kernel
theorem dX9_mesh_51 : decode cX9_mesh 51 = .ok (.iconst 0, 1) := by decide +kernel
theorem dX9_mesh_52 : decode cX9_mesh 52 = .ok (.iastore, 1) := by decide +kernel
theorem dX9_mesh_53 : decode cX9_mesh 53 = .ok (.aload_n 0, 1) := by decide +kernel
theorem dX9_mesh_54 : decode cX9_mesh 54 = .ok (.dup, 1) := by decide +kernel
theorem dX9_mesh_55 : decode cX9_mesh 55 = .ok (.getfield 147, 3) := by decide +kernel
theorem dX9_mesh_58 : decode cX9_mesh 58 = .ok (.iconst 1, 1) := by decide +kernel
theorem dX9_mesh_59 : decode cX9_mesh 59 = .ok (.iadd, 1) := by decide +kernel
theorem dX9_mesh_60 : decode cX9_mesh 60 = .ok (.putfield 147, 3) := by decide +kernel
theorem dX9_mesh_63 : decode cX9_mesh 63 = .ok (.aload_n 0, 1) := by decide +kernel
theorem dX9_mesh_64 : decode cX9_mesh 64 = .ok (.getfield 147, 3) := by decide +kernel
theorem dX9_mesh_67 : decode cX9_mesh 67 = .ok (.iconst 1, 1) := by decide +kernel
theorem dX9_mesh_68 : decode cX9_mesh 68 = .ok (.isub, 1) := by decide +kernel
theorem dX9_mesh_69 : decode cX9_mesh 69 = .ok (.ireturn, 1) := by decide +kernel
theorem dX9_person_0 : decode cX9_person 0 = .ok (.iload_n 1, 1) := by decide +kernel
theorem dX9_person_1 : decode cX9_person 1 = .ok (.iconst 0, 1) := by decide +kernel
theorem dX9_person_2 : decode cX9_person 2 = .ok (.bipush 9, 2) := by decide +kernel
theorem dX9_person_4 : decode cX9_person 4 = .ok (.invokestatic 143, 3) := by decide +kernel
theorem dX9_person_7 : decode cX9_person 7 = .ok (.ifCond .ne 5, 3) := by decide +kernel
theorem dX9_person_10 : decode cX9_person 10 = .ok (.iconst (-1), 1) := by decide +kernel
theorem dX9_person_11 : decode cX9_person 11 = .ok (.ireturn, 1) := by decide +kernel
theorem dX9_person_12 : decode cX9_person 12 = .ok (.aload_n 0, 1) := by decide +kernel
theorem dX9_person_13 : decode cX9_person 13 = .ok (.getfield 160, 3) := by decide +kernel
theorem dX9_person_16 : decode cX9_person 16 = .ok (.bipush 6, 2) := by decide +kernel
theorem dX9_person_18 : decode cX9_person 18 = .ok (.if_icmp .ne 6, 3) := by decide +kernel
theorem dX9_person_21 : decode cX9_person 21 = .ok (.bipush (-3), 2) := by decide +kernel
theorem dX9_person_23 : decode cX9_person 23 = .ok (.ireturn, 1) := by decide +kernel
theorem dX9_person_24 : decode cX9_person 24 = .ok (.aload_n 0, 1) := by decide +kernel
theorem dX9_person_25 : decode cX9_person 25 = .ok (.getfield 36, 3) := by decide +kernel
theorem dX9_person_28 : decode cX9_person 28 = .ok (.aload_n 0, 1) := by decide +kernel
theorem dX9_person_29 : decode cX9_person 29 = .ok (.getfield 160, 3) := by decide +kernel
theorem dX9_person_32 : decode cX9_person 32 = .ok (.iload_n 1, 1) := by decide +kernel
theorem dX9_person_33 : decode cX9_person 33 = .ok (.iastore, 1) := by decide +kernel
theorem dX9_person_34 : decode cX9_person 34 = .ok (.aload_n 0, 1) := by decide +kernel
theorem dX9_person_35 : decode cX9_person 35 = .ok (.dup, 1) := by decide +kernel
theorem dX9_person_36 : decode cX9_person 36 = .ok (.getfield 160, 3) := by decide +kernel
theorem dX9_person_39 : decode cX9_person 39 = .ok (.iconst 1, 1) := by decide +kernel
theorem dX9_person_40 : decode cX9_person 40 = .ok (.iadd, 1) := by decide +kernel
theorem dX9_person_41 : decode cX9_person 41 = .ok (.putfield 160, 3) := by decide +kernel
theorem dX9_person_44 : decode cX9_person 44 = .ok (.aload_n 0, 1) := by decide +kernel
theorem dX9_person_45 : decode cX9_person 45 = .ok (.getfield 160, 3) := by decide +kernel
theorem dX9_person_48 : decode cX9_person 48 = .ok (.iconst 1, 1) := by decide +kernel
theorem dX9_person_49 : decode cX9_person 49 = .ok (.isub, 1) := by decide +kernel
theorem dX9_person_50 : decode cX9_person 50 = .ok (.ireturn, 1) := by decide +kernel
theorem dX9_valueAt_0 : decode cX9_valueAt 0 = .ok (.iload_n 1, 1) := by decide +kernel
theorem dX9_valueAt_1 : decode cX9_valueAt 1 = .ok (.tableswitch 92 0 6 #[43, 50, 57, 64, 71, 78, 85], 43) := by decide +kernel
theorem dX9_valueAt_44 : decode cX9_valueAt 44 = .ok (.aload_n 0, 1) := by decide +kernel
theorem dX9_valueAt_45 : decode cX9_valueAt 45 = .ok (.getfield 9, 3) := by decide +kernel
theorem dX9_valueAt_48 : decode cX9_valueAt 48 = .ok (.iload_n 2, 1) := by decide +kernel
theorem dX9_valueAt_49 : decode cX9_valueAt 49 = .ok (.iaload, 1) := by decide +kernel
theorem dX9_valueAt_50 : decode cX9_valueAt 50 = .ok (.ireturn, 1) := by decide +kernel
theorem dX9_valueAt_51 : decode cX9_valueAt 51 = .ok (.aload_n 0, 1) := by decide +kernel
theorem dX9_valueAt_52 : decode cX9_valueAt 52 = .ok (.getfield 15, 3) := by decide +kernel
theorem dX9_valueAt_55 : decode cX9_valueAt 55 = .ok (.iload_n 2, 1) := by decide +kernel
theorem dX9_valueAt_56 : decode cX9_valueAt 56 = .ok (.iaload, 1) := by decide +kernel
theorem dX9_valueAt_57 : decode cX9_valueAt 57 = .ok (.ireturn, 1) := by decide +kernel
theorem dX9_valueAt_58 : decode cX9_valueAt 58 = .ok (.aload_n 0, 1) := by decide +kernel
theorem dX9_valueAt_59 : decode cX9_valueAt 59 = .ok (.getfield 18, 3) := by decide +kernel
theorem dX9_valueAt_62 : decode cX9_valueAt 62 = .ok (.iload_n 2, 1) := by decide +kernel
theorem dX9_valueAt_63 : decode cX9_valueAt 63 = .ok (.iaload, 1) := by decide +kernel
theorem dX9_valueAt_64 : decode cX9_valueAt 64 = .ok (.ireturn, 1) := by decide +kernel
theorem dX9_valueAt_65 : decode cX9_valueAt 65 = .ok (.aload_n 0, 1) := by decide +kernel
theorem dX9_valueAt_66 : decode cX9_valueAt 66 = .ok (.getfield 21, 3) := by decide +kernel
theorem dX9_valueAt_69 : decode cX9_valueAt 69 = .ok (.iload_n 2, 1) := by decide +kernel
theorem dX9_valueAt_70 : decode cX9_valueAt 70 = .ok (.iaload, 1) := by decide +kernel
theorem dX9_valueAt_71 : decode cX9_valueAt 71 = .ok (.ireturn, 1) := by decide +kernel
theorem dX9_valueAt_72 : decode cX9_valueAt 72 = .ok (.aload_n 0, 1) := by decide +kernel
theorem dX9_valueAt_73 : decode cX9_valueAt 73 = .ok (.getfield 24, 3) := by decide +kernel
theorem dX9_valueAt_76 : decode cX9_valueAt 76 = .ok (.iload_n 2, 1) := by decide +kernel
theorem dX9_valueAt_77 : decode cX9_valueAt 77 = .ok (.iaload, 1) := by decide +kernel
theorem dX9_valueAt_78 : decode cX9_valueAt 78 = .ok (.ireturn, 1) := by decide +kernel
theorem dX9_valueAt_79 : decode cX9_valueAt 79 = .ok (.aload_n 0, 1) := by decide +kernel
theorem dX9_valueAt_80 : decode cX9_valueAt 80 = .ok (.getfield 27, 3) := by decide +kernel
theorem dX9_valueAt_83 : decode cX9_valueAt 83 = .ok (.iload_n 2, 1) := by decide +kernel
theorem dX9_valueAt_84 : decode cX9_valueAt 84 = .ok (.iaload, 1) := by decide +kernel
theorem dX9_valueAt_85 : decode cX9_valueAt 85 = .ok (.ireturn, 1) := by decide +kernel
theorem dX9_valueAt_86 : decode cX9_valueAt 86 = .ok (.aload_n 0, 1) := by decide +kernel
theorem dX9_valueAt_87 : decode cX9_valueAt 87 = .ok (.getfield 36, 3) := by decide +kernel
theorem dX9_valueAt_90 : decode cX9_valueAt 90 = .ok (.iload_n 2, 1) := by decide +kernel
theorem dX9_valueAt_91 : decode cX9_valueAt 91 = .ok (.iaload, 1) := by decide +kernel
theorem dX9_valueAt_92 : decode cX9_valueAt 92 = .ok (.ireturn, 1) := by decide +kernel
theorem dX9_valueAt_93 : decode cX9_valueAt 93 = .ok (.aload_n 0, 1) := by decide +kernel
theorem dX9_valueAt_94 : decode cX9_valueAt 94 = .ok (.getfield 39, 3) := by decide +kernel
theorem dX9_valueAt_97 : decode cX9_valueAt 97 = .ok (.ireturn, 1) := by decide +kernel
theorem dX9_lays_0 : decode cX9_lays 0 = .ok (.iload_n 1, 1) := by decide +kernel
theorem dX9_lays_1 : decode cX9_lays 1 = .ok (.tableswitch 113 0 6 #[43, 53, 63, 73, 83, 93, 103], 43) := by decide +kernel
theorem dX9_lays_44 : decode cX9_lays 44 = .ok (.aload_n 0, 1) := by decide +kernel
theorem dX9_lays_45 : decode cX9_lays 45 = .ok (.getfield 9, 3) := by decide +kernel
theorem dX9_lays_48 : decode cX9_lays 48 = .ok (.iload_n 2, 1) := by decide +kernel
theorem dX9_lays_49 : decode cX9_lays 49 = .ok (.iload_n 3, 1) := by decide +kernel
theorem dX9_lays_50 : decode cX9_lays 50 = .ok (.iastore, 1) := by decide +kernel
theorem dX9_lays_51 : decode cX9_lays 51 = .ok (.goto 68, 3) := by decide +kernel
theorem dX9_lays_54 : decode cX9_lays 54 = .ok (.aload_n 0, 1) := by decide +kernel
theorem dX9_lays_55 : decode cX9_lays 55 = .ok (.getfield 15, 3) := by decide +kernel
theorem dX9_lays_58 : decode cX9_lays 58 = .ok (.iload_n 2, 1) := by decide +kernel
theorem dX9_lays_59 : decode cX9_lays 59 = .ok (.iload_n 3, 1) := by decide +kernel
theorem dX9_lays_60 : decode cX9_lays 60 = .ok (.iastore, 1) := by decide +kernel
theorem dX9_lays_61 : decode cX9_lays 61 = .ok (.goto 58, 3) := by decide +kernel
theorem dX9_lays_64 : decode cX9_lays 64 = .ok (.aload_n 0, 1) := by decide +kernel
theorem dX9_lays_65 : decode cX9_lays 65 = .ok (.getfield 18, 3) := by decide +kernel
theorem dX9_lays_68 : decode cX9_lays 68 = .ok (.iload_n 2, 1) := by decide +kernel
theorem dX9_lays_69 : decode cX9_lays 69 = .ok (.iload_n 3, 1) := by decide +kernel
theorem dX9_lays_70 : decode cX9_lays 70 = .ok (.iastore, 1) := by decide +kernel
theorem dX9_lays_71 : decode cX9_lays 71 = .ok (.goto 48, 3) := by decide +kernel
theorem dX9_lays_74 : decode cX9_lays 74 = .ok (.aload_n 0, 1) := by decide +kernel
theorem dX9_lays_75 : decode cX9_lays 75 = .ok (.getfield 21, 3) := by decide +kernel
theorem dX9_lays_78 : decode cX9_lays 78 = .ok (.iload_n 2, 1) := by decide +kernel
theorem dX9_lays_79 : decode cX9_lays 79 = .ok (.iload_n 3, 1) := by decide +kernel
theorem dX9_lays_80 : decode cX9_lays 80 = .ok (.iastore, 1) := by decide +kernel
theorem dX9_lays_81 : decode cX9_lays 81 = .ok (.goto 38, 3) := by decide +kernel
theorem dX9_lays_84 : decode cX9_lays 84 = .ok (.aload_n 0, 1) := by decide +kernel
theorem dX9_lays_85 : decode cX9_lays 85 = .ok (.getfield 24, 3) := by decide +kernel
theorem dX9_lays_88 : decode cX9_lays 88 = .ok (.iload_n 2, 1) := by decide +kernel
theorem dX9_lays_89 : decode cX9_lays 89 = .ok (.iload_n 3, 1) := by decide +kernel
theorem dX9_lays_90 : decode cX9_lays 90 = .ok (.iastore, 1) := by decide +kernel
theorem dX9_lays_91 : decode cX9_lays 91 = .ok (.goto 28, 3) := by decide +kernel
theorem dX9_lays_94 : decode cX9_lays 94 = .ok (.aload_n 0, 1) := by decide +kernel
theorem dX9_lays_95 : decode cX9_lays 95 = .ok (.getfield 27, 3) := by decide +kernel
theorem dX9_lays_98 : decode cX9_lays 98 = .ok (.iload_n 2, 1) := by decide +kernel
theorem dX9_lays_99 : decode cX9_lays 99 = .ok (.iload_n 3, 1) := by decide +kernel
theorem dX9_lays_100 : decode cX9_lays 100 = .ok (.iastore, 1) := by decide +kernel
theorem dX9_lays_101 : decode cX9_lays 101 = .ok (.goto 18, 3) := by decide +kernel
theorem dX9_lays_104 : decode cX9_lays 104 = .ok (.aload_n 0, 1) := by decide +kernel
theorem dX9_lays_105 : decode cX9_lays 105 = .ok (.getfield 36, 3) := by decide +kernel
theorem dX9_lays_108 : decode cX9_lays 108 = .ok (.iload_n 2, 1) := by decide +kernel
theorem dX9_lays_109 : decode cX9_lays 109 = .ok (.iload_n 3, 1) := by decide +kernel
theorem dX9_lays_110 : decode cX9_lays 110 = .ok (.iastore, 1) := by decide +kernel
theorem dX9_lays_111 : decode cX9_lays 111 = .ok (.goto 8, 3) := by decide +kernel
theorem dX9_lays_114 : decode cX9_lays 114 = .ok (.aload_n 0, 1) := by decide +kernel
theorem dX9_lays_115 : decode cX9_lays 115 = .ok (.iload_n 3, 1) := by decide +kernel
theorem dX9_lays_116 : decode cX9_lays 116 = .ok (.putfield 39, 3) := by decide +kernel
theorem dX9_lays_119 : decode cX9_lays 119 = .ok (.return_, 1) := by decide +kernel
theorem dX9_changes_0 : decode cX9_changes 0 = .ok (.aload_n 0, 1) := by decide +kernel
theorem dX9_changes_1 : decode cX9_changes 1 = .ok (.iload_n 1, 1) := by decide +kernel
theorem dX9_changes_2 : decode cX9_changes 2 = .ok (.iload_n 2, 1) := by decide +kernel
theorem dX9_changes_3 : decode cX9_changes 3 = .ok (.invokevirtual 163, 3) := by decide +kernel
theorem dX9_changes_6 : decode cX9_changes 6 = .ok (.istore 4, 2) := by decide +kernel
theorem dX9_changes_8 : decode cX9_changes 8 = .ok (.iload 4, 2) := by decide +kernel
theorem dX9_changes_10 : decode cX9_changes 10 = .ok (.iload_n 3, 1) := by decide +kernel
theorem dX9_changes_11 : decode cX9_changes 11 = .ok (.if_icmp .ne 6, 3) := by decide +kernel
theorem dX9_changes_14 : decode cX9_changes 14 = .ok (.iload 4, 2) := by decide +kernel
theorem dX9_changes_16 : decode cX9_changes 16 = .ok (.ireturn, 1) := by decide +kernel
theorem dX9_changes_17 : decode cX9_changes 17 = .ok (.aload_n 0, 1) := by decide +kernel
theorem dX9_changes_18 : decode cX9_changes 18 = .ok (.iconst 0, 1) := by decide +kernel
theorem dX9_changes_19 : decode cX9_changes 19 = .ok (.putfield 167, 3) := by decide +kernel
theorem dX9_changes_22 : decode cX9_changes 22 = .ok (.aload_n 0, 1) := by decide +kernel
theorem dX9_changes_23 : decode cX9_changes 23 = .ok (.getfield 170, 3) := by decide +kernel
theorem dX9_changes_26 : decode cX9_changes 26 = .ok (.bipush 40, 2) := by decide +kernel
theorem dX9_changes_28 : decode cX9_changes 28 = .ok (.if_icmp .ne 93, 3) := by decide +kernel
theorem dX9_changes_31 : decode cX9_changes 31 = .ok (.iconst 1, 1) := by decide +kernel
theorem dX9_changes_32 : decode cX9_changes 32 = .ok (.istore 5, 2) := by decide +kernel
theorem dX9_changes_34 : decode cX9_changes 34 = .ok (.iload 5, 2) := by decide +kernel
theorem dX9_changes_36 : decode cX9_changes 36 = .ok (.bipush 40, 2) := by decide +kernel
theorem dX9_changes_38 : decode cX9_changes 38 = .ok (.if_icmp .ge 73, 3) := by decide +kernel
theorem dX9_changes_41 : decode cX9_changes 41 = .ok (.aload_n 0, 1) := by decide +kernel
theorem dX9_changes_42 : decode cX9_changes 42 = .ok (.getfield 43, 3) := by decide +kernel
theorem dX9_changes_45 : decode cX9_changes 45 = .ok (.iload 5, 2) := by decide +kernel
theorem dX9_changes_47 : decode cX9_changes 47 = .ok (.iconst 1, 1) := by decide +kernel
theorem dX9_changes_48 : decode cX9_changes 48 = .ok (.isub, 1) := by decide +kernel
theorem dX9_changes_49 : decode cX9_changes 49 = .ok (.aload_n 0, 1) := by decide +kernel
theorem dX9_changes_50 : decode cX9_changes 50 = .ok (.getfield 43, 3) := by decide +kernel
theorem dX9_changes_53 : decode cX9_changes 53 = .ok (.iload 5, 2) := by decide +kernel
theorem dX9_changes_55 : decode cX9_changes 55 = .ok (.iaload, 1) := by decide +kernel
theorem dX9_changes_56 : decode cX9_changes 56 = .ok (.iastore, 1) := by decide +kernel
theorem dX9_changes_57 : decode cX9_changes 57 = .ok (.aload_n 0, 1) := by decide +kernel
theorem dX9_changes_58 : decode cX9_changes 58 = .ok (.getfield 46, 3) := by decide +kernel
theorem dX9_changes_61 : decode cX9_changes 61 = .ok (.iload 5, 2) := by decide +kernel
theorem dX9_changes_63 : decode cX9_changes 63 = .ok (.iconst 1, 1) := by decide +kernel
theorem dX9_changes_64 : decode cX9_changes 64 = .ok (.isub, 1) := by decide +kernel
theorem dX9_changes_65 : decode cX9_changes 65 = .ok (.aload_n 0, 1) := by decide +kernel
theorem dX9_changes_66 : decode cX9_changes 66 = .ok (.getfield 46, 3) := by decide +kernel
theorem dX9_changes_69 : decode cX9_changes 69 = .ok (.iload 5, 2) := by decide +kernel
theorem dX9_changes_71 : decode cX9_changes 71 = .ok (.iaload, 1) := by decide +kernel
theorem dX9_changes_72 : decode cX9_changes 72 = .ok (.iastore, 1) := by decide +kernel
theorem dX9_changes_73 : decode cX9_changes 73 = .ok (.aload_n 0, 1) := by decide +kernel
theorem dX9_changes_74 : decode cX9_changes 74 = .ok (.getfield 49, 3) := by decide +kernel
theorem dX9_changes_77 : decode cX9_changes 77 = .ok (.iload 5, 2) := by decide +kernel
theorem dX9_changes_79 : decode cX9_changes 79 = .ok (.iconst 1, 1) := by decide +kernel
theorem dX9_changes_80 : decode cX9_changes 80 = .ok (.isub, 1) := by decide +kernel
theorem dX9_changes_81 : decode cX9_changes 81 = .ok (.aload_n 0, 1) := by decide +kernel
theorem dX9_changes_82 : decode cX9_changes 82 = .ok (.getfield 49, 3) := by decide +kernel
theorem dX9_changes_85 : decode cX9_changes 85 = .ok (.iload 5, 2) := by decide +kernel
theorem dX9_changes_87 : decode cX9_changes 87 = .ok (.iaload, 1) := by decide +kernel
theorem dX9_changes_88 : decode cX9_changes 88 = .ok (.iastore, 1) := by decide +kernel
theorem dX9_changes_89 : decode cX9_changes 89 = .ok (.aload_n 0, 1) := by decide +kernel
theorem dX9_changes_90 : decode cX9_changes 90 = .ok (.getfield 52, 3) := by decide +kernel
theorem dX9_changes_93 : decode cX9_changes 93 = .ok (.iload 5, 2) := by decide +kernel
theorem dX9_changes_95 : decode cX9_changes 95 = .ok (.iconst 1, 1) := by decide +kernel
theorem dX9_changes_96 : decode cX9_changes 96 = .ok (.isub, 1) := by decide +kernel
theorem dX9_changes_97 : decode cX9_changes 97 = .ok (.aload_n 0, 1) := by decide +kernel
theorem dX9_changes_98 : decode cX9_changes 98 = .ok (.getfield 52, 3) := by decide +kernel
theorem dX9_changes_101 : decode cX9_changes 101 = .ok (.iload 5, 2) := by decide +kernel
theorem dX9_changes_103 : decode cX9_changes 103 = .ok (.iaload, 1) := by decide +kernel
theorem dX9_changes_104 : decode cX9_changes 104 = .ok (.iastore, 1) := by decide +kernel
theorem dX9_changes_105 : decode cX9_changes 105 = .ok (.iinc 5 1, 3) := by decide +kernel
theorem dX9_changes_108 : decode cX9_changes 108 = .ok (.goto (-74), 3) := by decide +kernel
theorem dX9_changes_111 : decode cX9_changes 111 = .ok (.aload_n 0, 1) := by decide +kernel
theorem dX9_changes_112 : decode cX9_changes 112 = .ok (.dup, 1) := by decide +kernel
theorem dX9_changes_113 : decode cX9_changes 113 = .ok (.getfield 170, 3) := by decide +kernel
theorem dX9_changes_116 : decode cX9_changes 116 = .ok (.iconst 1, 1) := by decide +kernel
theorem dX9_changes_117 : decode cX9_changes 117 = .ok (.isub, 1) := by decide +kernel
theorem dX9_changes_118 : decode cX9_changes 118 = .ok (.putfield 170, 3) := by decide +kernel
theorem dX9_changes_121 : decode cX9_changes 121 = .ok (.aload_n 0, 1) := by decide +kernel
theorem dX9_changes_122 : decode cX9_changes 122 = .ok (.getfield 43, 3) := by decide +kernel
theorem dX9_changes_125 : decode cX9_changes 125 = .ok (.aload_n 0, 1) := by decide +kernel
theorem dX9_changes_126 : decode cX9_changes 126 = .ok (.getfield 170, 3) := by decide +kernel
theorem dX9_changes_129 : decode cX9_changes 129 = .ok (.iload_n 1, 1) := by decide +kernel
theorem dX9_changes_130 : decode cX9_changes 130 = .ok (.iastore, 1) := by decide +kernel
theorem dX9_changes_131 : decode cX9_changes 131 = .ok (.aload_n 0, 1) := by decide +kernel
theorem dX9_changes_132 : decode cX9_changes 132 = .ok (.getfield 46, 3) := by decide +kernel
theorem dX9_changes_135 : decode cX9_changes 135 = .ok (.aload_n 0, 1) := by decide +kernel
theorem dX9_changes_136 : decode cX9_changes 136 = .ok (.getfield 170, 3) := by decide +kernel
theorem dX9_changes_139 : decode cX9_changes 139 = .ok (.iload_n 2, 1) := by decide +kernel
theorem dX9_changes_140 : decode cX9_changes 140 = .ok (.iastore, 1) := by decide +kernel
theorem dX9_changes_141 : decode cX9_changes 141 = .ok (.aload_n 0, 1) := by decide +kernel
theorem dX9_changes_142 : decode cX9_changes 142 = .ok (.getfield 49, 3) := by decide +kernel
theorem dX9_changes_145 : decode cX9_changes 145 = .ok (.aload_n 0, 1) := by decide +kernel
theorem dX9_changes_146 : decode cX9_changes 146 = .ok (.getfield 170, 3) := by decide +kernel
theorem dX9_changes_149 : decode cX9_changes 149 = .ok (.iload 4, 2) := by decide +kernel
theorem dX9_changes_151 : decode cX9_changes 151 = .ok (.iastore, 1) := by decide +kernel
theorem dX9_changes_152 : decode cX9_changes 152 = .ok (.aload_n 0, 1) := by decide +kernel
theorem dX9_changes_153 : decode cX9_changes 153 = .ok (.getfield 52, 3) := by decide +kernel
theorem dX9_changes_156 : decode cX9_changes 156 = .ok (.aload_n 0, 1) := by decide +kernel
theorem dX9_changes_157 : decode cX9_changes 157 = .ok (.getfield 170, 3) := by decide +kernel
theorem dX9_changes_160 : decode cX9_changes 160 = .ok (.iload_n 3, 1) := by decide +kernel
theorem dX9_changes_161 : decode cX9_changes 161 = .ok (.iastore, 1) := by decide +kernel
theorem dX9_changes_162 : decode cX9_changes 162 = .ok (.aload_n 0, 1) := by decide +kernel
theorem dX9_changes_163 : decode cX9_changes 163 = .ok (.dup, 1) := by decide +kernel
theorem dX9_changes_164 : decode cX9_changes 164 = .ok (.getfield 170, 3) := by decide +kernel
theorem dX9_changes_167 : decode cX9_changes 167 = .ok (.iconst 1, 1) := by decide +kernel
theorem dX9_changes_168 : decode cX9_changes 168 = .ok (.iadd, 1) := by decide +kernel
theorem dX9_changes_169 : decode cX9_changes 169 = .ok (.putfield 170, 3) := by decide +kernel
theorem dX9_changes_172 : decode cX9_changes 172 = .ok (.aload_n 0, 1) := by decide +kernel
theorem dX9_changes_173 : decode cX9_changes 173 = .ok (.iload_n 1, 1) := by decide +kernel
theorem dX9_changes_174 : decode cX9_changes 174 = .ok (.iload_n 2, 1) := by decide +kernel
theorem dX9_changes_175 : decode cX9_changes 175 = .ok (.iload_n 3, 1) := by decide +kernel
theorem dX9_changes_176 : decode cX9_changes 176 = .ok (.invokevirtual 173, 3) := by decide +kernel
theorem dX9_changes_179 : decode cX9_changes 179 = .ok (.iload 4, 2) := by decide +kernel
theorem dX9_changes_181 : decode cX9_changes 181 = .ok (.ireturn, 1) := by decide +kernel
theorem dX9_undo_0 : decode cX9_undo 0 = .ok (.aload_n 0, 1) := by decide +kernel
theorem dX9_undo_1 : decode cX9_undo 1 = .ok (.getfield 170, 3) := by decide +kernel
theorem dX9_undo_4 : decode cX9_undo 4 = .ok (.ifCond .ne 6, 3) := by decide +kernel
theorem dX9_undo_7 : decode cX9_undo 7 = .ok (.bipush (-5), 2) := by decide +kernel
theorem dX9_undo_9 : decode cX9_undo 9 = .ok (.ireturn, 1) := by decide +kernel
theorem dX9_undo_10 : decode cX9_undo 10 = .ok (.aload_n 0, 1) := by decide +kernel
theorem dX9_undo_11 : decode cX9_undo 11 = .ok (.dup, 1) := by decide +kernel
theorem dX9_undo_12 : decode cX9_undo 12 = .ok (.getfield 170, 3) := by decide +kernel
theorem dX9_undo_15 : decode cX9_undo 15 = .ok (.iconst 1, 1) := by decide +kernel
theorem dX9_undo_16 : decode cX9_undo 16 = .ok (.isub, 1) := by decide +kernel
theorem dX9_undo_17 : decode cX9_undo 17 = .ok (.putfield 170, 3) := by decide +kernel
theorem dX9_undo_20 : decode cX9_undo 20 = .ok (.aload_n 0, 1) := by decide +kernel
theorem dX9_undo_21 : decode cX9_undo 21 = .ok (.dup, 1) := by decide +kernel
theorem dX9_undo_22 : decode cX9_undo 22 = .ok (.getfield 167, 3) := by decide +kernel
theorem dX9_undo_25 : decode cX9_undo 25 = .ok (.iconst 1, 1) := by decide +kernel
theorem dX9_undo_26 : decode cX9_undo 26 = .ok (.iadd, 1) := by decide +kernel
theorem dX9_undo_27 : decode cX9_undo 27 = .ok (.putfield 167, 3) := by decide +kernel
theorem dX9_undo_30 : decode cX9_undo 30 = .ok (.aload_n 0, 1) := by decide +kernel
theorem dX9_undo_31 : decode cX9_undo 31 = .ok (.aload_n 0, 1) := by decide +kernel
theorem dX9_undo_32 : decode cX9_undo 32 = .ok (.getfield 43, 3) := by decide +kernel
theorem dX9_undo_35 : decode cX9_undo 35 = .ok (.aload_n 0, 1) := by decide +kernel
theorem dX9_undo_36 : decode cX9_undo 36 = .ok (.getfield 170, 3) := by decide +kernel
theorem dX9_undo_39 : decode cX9_undo 39 = .ok (.iaload, 1) := by decide +kernel
theorem dX9_undo_40 : decode cX9_undo 40 = .ok (.aload_n 0, 1) := by decide +kernel
theorem dX9_undo_41 : decode cX9_undo 41 = .ok (.getfield 46, 3) := by decide +kernel
theorem dX9_undo_44 : decode cX9_undo 44 = .ok (.aload_n 0, 1) := by decide +kernel
theorem dX9_undo_45 : decode cX9_undo 45 = .ok (.getfield 170, 3) := by decide +kernel
theorem dX9_undo_48 : decode cX9_undo 48 = .ok (.iaload, 1) := by decide +kernel
theorem dX9_undo_49 : decode cX9_undo 49 = .ok (.aload_n 0, 1) := by decide +kernel
theorem dX9_undo_50 : decode cX9_undo 50 = .ok (.getfield 49, 3) := by decide +kernel
theorem dX9_undo_53 : decode cX9_undo 53 = .ok (.aload_n 0, 1) := by decide +kernel
theorem dX9_undo_54 : decode cX9_undo 54 = .ok (.getfield 170, 3) := by decide +kernel
theorem dX9_undo_57 : decode cX9_undo 57 = .ok (.iaload, 1) := by decide +kernel
theorem dX9_undo_58 : decode cX9_undo 58 = .ok (.invokevirtual 173, 3) := by decide +kernel
theorem dX9_undo_61 : decode cX9_undo 61 = .ok (.aload_n 0, 1) := by decide +kernel
theorem dX9_undo_62 : decode cX9_undo 62 = .ok (.getfield 170, 3) := by decide +kernel
theorem dX9_undo_65 : decode cX9_undo 65 = .ok (.ireturn, 1) := by decide +kernel
theorem dX9_redo_0 : decode cX9_redo 0 = .ok (.aload_n 0, 1) := by decide +kernel
theorem dX9_redo_1 : decode cX9_redo 1 = .ok (.getfield 167, 3) := by decide +kernel
theorem dX9_redo_4 : decode cX9_redo 4 = .ok (.ifCond .ne 6, 3) := by decide +kernel
theorem dX9_redo_7 : decode cX9_redo 7 = .ok (.bipush (-5), 2) := by decide +kernel
theorem dX9_redo_9 : decode cX9_redo 9 = .ok (.ireturn, 1) := by decide +kernel
theorem dX9_redo_10 : decode cX9_redo 10 = .ok (.aload_n 0, 1) := by decide +kernel
theorem dX9_redo_11 : decode cX9_redo 11 = .ok (.aload_n 0, 1) := by decide +kernel
theorem dX9_redo_12 : decode cX9_redo 12 = .ok (.getfield 43, 3) := by decide +kernel
theorem dX9_redo_15 : decode cX9_redo 15 = .ok (.aload_n 0, 1) := by decide +kernel
theorem dX9_redo_16 : decode cX9_redo 16 = .ok (.getfield 170, 3) := by decide +kernel
theorem dX9_redo_19 : decode cX9_redo 19 = .ok (.iaload, 1) := by decide +kernel
theorem dX9_redo_20 : decode cX9_redo 20 = .ok (.aload_n 0, 1) := by decide +kernel
theorem dX9_redo_21 : decode cX9_redo 21 = .ok (.getfield 46, 3) := by decide +kernel
theorem dX9_redo_24 : decode cX9_redo 24 = .ok (.aload_n 0, 1) := by decide +kernel
theorem dX9_redo_25 : decode cX9_redo 25 = .ok (.getfield 170, 3) := by decide +kernel
theorem dX9_redo_28 : decode cX9_redo 28 = .ok (.iaload, 1) := by decide +kernel
theorem dX9_redo_29 : decode cX9_redo 29 = .ok (.aload_n 0, 1) := by decide +kernel
theorem dX9_redo_30 : decode cX9_redo 30 = .ok (.getfield 52, 3) := by decide +kernel
theorem dX9_redo_33 : decode cX9_redo 33 = .ok (.aload_n 0, 1) := by decide +kernel
theorem dX9_redo_34 : decode cX9_redo 34 = .ok (.getfield 170, 3) := by decide +kernel
theorem dX9_redo_37 : decode cX9_redo 37 = .ok (.iaload, 1) := by decide +kernel
theorem dX9_redo_38 : decode cX9_redo 38 = .ok (.invokevirtual 173, 3) := by decide +kernel
theorem dX9_redo_41 : decode cX9_redo 41 = .ok (.aload_n 0, 1) := by decide +kernel
theorem dX9_redo_42 : decode cX9_redo 42 = .ok (.dup, 1) := by decide +kernel
theorem dX9_redo_43 : decode cX9_redo 43 = .ok (.getfield 170, 3) := by decide +kernel
theorem dX9_redo_46 : decode cX9_redo 46 = .ok (.iconst 1, 1) := by decide +kernel
theorem dX9_redo_47 : decode cX9_redo 47 = .ok (.iadd, 1) := by decide +kernel
theorem dX9_redo_48 : decode cX9_redo 48 = .ok (.putfield 170, 3) := by decide +kernel
theorem dX9_redo_51 : decode cX9_redo 51 = .ok (.aload_n 0, 1) := by decide +kernel
theorem dX9_redo_52 : decode cX9_redo 52 = .ok (.dup, 1) := by decide +kernel
theorem dX9_redo_53 : decode cX9_redo 53 = .ok (.getfield 167, 3) := by decide +kernel
theorem dX9_redo_56 : decode cX9_redo 56 = .ok (.iconst 1, 1) := by decide +kernel
theorem dX9_redo_57 : decode cX9_redo 57 = .ok (.isub, 1) := by decide +kernel
theorem dX9_redo_58 : decode cX9_redo 58 = .ok (.putfield 167, 3) := by decide +kernel
theorem dX9_redo_61 : decode cX9_redo 61 = .ok (.aload_n 0, 1) := by decide +kernel
theorem dX9_redo_62 : decode cX9_redo 62 = .ok (.getfield 167, 3) := by decide +kernel
theorem dX9_redo_65 : decode cX9_redo 65 = .ok (.ireturn, 1) := by decide +kernel
theorem dX9_isOne_0 : decode cX9_isOne 0 = .ok (.iload_n 2, 1) := by decide +kernel
theorem dX9_isOne_1 : decode cX9_isOne 1 = .ok (.iconst 0, 1) := by decide +kernel
theorem dX9_isOne_2 : decode cX9_isOne 2 = .ok (.iconst 4, 1) := by decide +kernel
theorem dX9_isOne_3 : decode cX9_isOne 3 = .ok (.invokestatic 143, 3) := by decide +kernel
theorem dX9_isOne_6 : decode cX9_isOne 6 = .ok (.ifCond .eq 11, 3) := by decide +kernel
theorem dX9_isOne_9 : decode cX9_isOne 9 = .ok (.aload_n 0, 1) := by decide +kernel
theorem dX9_isOne_10 : decode cX9_isOne 10 = .ok (.iload_n 1, 1) := by decide +kernel
theorem dX9_isOne_11 : decode cX9_isOne 11 = .ok (.invokevirtual 177, 3) := by decide +kernel
theorem dX9_isOne_14 : decode cX9_isOne 14 = .ok (.goto 51, 3) := by decide +kernel
theorem dX9_isOne_17 : decode cX9_isOne 17 = .ok (.iload_n 2, 1) := by decide +kernel
theorem dX9_isOne_18 : decode cX9_isOne 18 = .ok (.iconst 5, 1) := by decide +kernel
theorem dX9_isOne_19 : decode cX9_isOne 19 = .ok (.if_icmp .ne 11, 3) := by decide +kernel
theorem dX9_isOne_22 : decode cX9_isOne 22 = .ok (.aload_n 0, 1) := by decide +kernel
theorem dX9_isOne_23 : decode cX9_isOne 23 = .ok (.iload_n 1, 1) := by decide +kernel
theorem dX9_isOne_24 : decode cX9_isOne 24 = .ok (.invokevirtual 180, 3) := by decide +kernel
theorem dX9_isOne_27 : decode cX9_isOne 27 = .ok (.goto 38, 3) := by decide +kernel
theorem dX9_isOne_30 : decode cX9_isOne 30 = .ok (.iload_n 2, 1) := by decide +kernel
theorem dX9_isOne_31 : decode cX9_isOne 31 = .ok (.bipush 6, 2) := by decide +kernel
theorem dX9_isOne_33 : decode cX9_isOne 33 = .ok (.if_icmp .ne 17, 3) := by decide +kernel
theorem dX9_isOne_36 : decode cX9_isOne 36 = .ok (.iload_n 1, 1) := by decide +kernel
theorem dX9_isOne_37 : decode cX9_isOne 37 = .ok (.iconst 0, 1) := by decide +kernel
theorem dX9_isOne_38 : decode cX9_isOne 38 = .ok (.aload_n 0, 1) := by decide +kernel
theorem dX9_isOne_39 : decode cX9_isOne 39 = .ok (.getfield 160, 3) := by decide +kernel
theorem dX9_isOne_42 : decode cX9_isOne 42 = .ok (.iconst 1, 1) := by decide +kernel
theorem dX9_isOne_43 : decode cX9_isOne 43 = .ok (.isub, 1) := by decide +kernel
theorem dX9_isOne_44 : decode cX9_isOne 44 = .ok (.invokestatic 143, 3) := by decide +kernel
theorem dX9_isOne_47 : decode cX9_isOne 47 = .ok (.goto 18, 3) := by decide +kernel
theorem dX9_isOne_50 : decode cX9_isOne 50 = .ok (.iload_n 2, 1) := by decide +kernel
theorem dX9_isOne_51 : decode cX9_isOne 51 = .ok (.bipush 7, 2) := by decide +kernel
theorem dX9_isOne_53 : decode cX9_isOne 53 = .ok (.if_icmp .ne 11, 3) := by decide +kernel
theorem dX9_isOne_56 : decode cX9_isOne 56 = .ok (.iload_n 1, 1) := by decide +kernel
theorem dX9_isOne_57 : decode cX9_isOne 57 = .ok (.ifCond .ne 7, 3) := by decide +kernel
theorem dX9_isOne_60 : decode cX9_isOne 60 = .ok (.iconst 1, 1) := by decide +kernel
theorem dX9_isOne_61 : decode cX9_isOne 61 = .ok (.goto 4, 3) := by decide +kernel
theorem dX9_isOne_64 : decode cX9_isOne 64 = .ok (.iconst 0, 1) := by decide +kernel
theorem dX9_isOne_65 : decode cX9_isOne 65 = .ok (.ireturn, 1) := by decide +kernel
theorem dX9_mayHave_0 : decode cX9_mayHave 0 = .ok (.iload_n 0, 1) := by decide +kernel
theorem dX9_mayHave_1 : decode cX9_mayHave 1 = .ok (.iconst 3, 1) := by decide +kernel
theorem dX9_mayHave_2 : decode cX9_mayHave 2 = .ok (.if_icmp .ne 12, 3) := by decide +kernel
theorem dX9_mayHave_5 : decode cX9_mayHave 5 = .ok (.iload_n 1, 1) := by decide +kernel
theorem dX9_mayHave_6 : decode cX9_mayHave 6 = .ok (.iconst 0, 1) := by decide +kernel
theorem dX9_mayHave_7 : decode cX9_mayHave 7 = .ok (.iconst 2, 1) := by decide +kernel
theorem dX9_mayHave_8 : decode cX9_mayHave 8 = .ok (.invokestatic 143, 3) := by decide +kernel
theorem dX9_mayHave_11 : decode cX9_mayHave 11 = .ok (.goto 40, 3) := by decide +kernel
theorem dX9_mayHave_14 : decode cX9_mayHave 14 = .ok (.iload_n 0, 1) := by decide +kernel
theorem dX9_mayHave_15 : decode cX9_mayHave 15 = .ok (.iconst 4, 1) := by decide +kernel
theorem dX9_mayHave_16 : decode cX9_mayHave 16 = .ok (.if_icmp .ne 12, 3) := by decide +kernel
theorem dX9_mayHave_19 : decode cX9_mayHave 19 = .ok (.iload_n 1, 1) := by decide +kernel
theorem dX9_mayHave_20 : decode cX9_mayHave 20 = .ok (.iconst 0, 1) := by decide +kernel
theorem dX9_mayHave_21 : decode cX9_mayHave 21 = .ok (.iconst 5, 1) := by decide +kernel
theorem dX9_mayHave_22 : decode cX9_mayHave 22 = .ok (.invokestatic 143, 3) := by decide +kernel
theorem dX9_mayHave_25 : decode cX9_mayHave 25 = .ok (.goto 26, 3) := by decide +kernel
theorem dX9_mayHave_28 : decode cX9_mayHave 28 = .ok (.iload_n 0, 1) := by decide +kernel
theorem dX9_mayHave_29 : decode cX9_mayHave 29 = .ok (.bipush 7, 2) := by decide +kernel
theorem dX9_mayHave_31 : decode cX9_mayHave 31 = .ok (.if_icmp .ne 13, 3) := by decide +kernel
theorem dX9_mayHave_34 : decode cX9_mayHave 34 = .ok (.iload_n 1, 1) := by decide +kernel
theorem dX9_mayHave_35 : decode cX9_mayHave 35 = .ok (.iconst 0, 1) := by decide +kernel
theorem dX9_mayHave_36 : decode cX9_mayHave 36 = .ok (.bipush 20, 2) := by decide +kernel
theorem dX9_mayHave_38 : decode cX9_mayHave 38 = .ok (.invokestatic 143, 3) := by decide +kernel
theorem dX9_mayHave_41 : decode cX9_mayHave 41 = .ok (.goto 10, 3) := by decide +kernel
theorem dX9_mayHave_44 : decode cX9_mayHave 44 = .ok (.iload_n 1, 1) := by decide +kernel
theorem dX9_mayHave_45 : decode cX9_mayHave 45 = .ok (.iconst 0, 1) := by decide +kernel
theorem dX9_mayHave_46 : decode cX9_mayHave 46 = .ok (.bipush 9, 2) := by decide +kernel
theorem dX9_mayHave_48 : decode cX9_mayHave 48 = .ok (.invokestatic 143, 3) := by decide +kernel
theorem dX9_mayHave_51 : decode cX9_mayHave 51 = .ok (.ireturn, 1) := by decide +kernel
theorem dX9_mend_0 : decode cX9_mend 0 = .ok (.aload_n 0, 1) := by decide +kernel
theorem dX9_mend_1 : decode cX9_mend 1 = .ok (.iload_n 1, 1) := by decide +kernel
theorem dX9_mend_2 : decode cX9_mend 2 = .ok (.iload_n 2, 1) := by decide +kernel
theorem dX9_mend_3 : decode cX9_mend 3 = .ok (.invokevirtual 183, 3) := by decide +kernel
theorem dX9_mend_6 : decode cX9_mend 6 = .ok (.ifCond .eq 21, 3) := by decide +kernel
theorem dX9_mend_9 : decode cX9_mend 9 = .ok (.iload_n 2, 1) := by decide +kernel
theorem dX9_mend_10 : decode cX9_mend 10 = .ok (.iload_n 3, 1) := by decide +kernel
theorem dX9_mend_11 : decode cX9_mend 11 = .ok (.invokestatic 187, 3) := by decide +kernel
theorem dX9_mend_14 : decode cX9_mend 14 = .ok (.ifCond .eq 13, 3) := by decide +kernel
theorem dX9_mend_17 : decode cX9_mend 17 = .ok (.aload_n 0, 1) := by decide +kernel
theorem dX9_mend_18 : decode cX9_mend 18 = .ok (.iload_n 2, 1) := by decide +kernel
theorem dX9_mend_19 : decode cX9_mend 19 = .ok (.iload_n 1, 1) := by decide +kernel
theorem dX9_mend_20 : decode cX9_mend 20 = .ok (.iload_n 3, 1) := by decide +kernel
theorem dX9_mend_21 : decode cX9_mend 21 = .ok (.invokevirtual 190, 3) := by decide +kernel
theorem dX9_mend_24 : decode cX9_mend 24 = .ok (.goto 4, 3) := by decide +kernel
theorem dX9_mend_27 : decode cX9_mend 27 = .ok (.iconst (-1), 1) := by decide +kernel
theorem dX9_mend_28 : decode cX9_mend 28 = .ok (.ireturn, 1) := by decide +kernel
theorem dX9_of_0 : decode cX9_of 0 = .ok (.iload_n 2, 1) := by decide +kernel
theorem dX9_of_1 : decode cX9_of 1 = .ok (.bipush 8, 2) := by decide +kernel
theorem dX9_of_3 : decode cX9_of 3 = .ok (.bipush 9, 2) := by decide +kernel
theorem dX9_of_5 : decode cX9_of 5 = .ok (.invokestatic 143, 3) := by decide +kernel
theorem dX9_of_8 : decode cX9_of 8 = .ok (.ifCond .eq 37, 3) := by decide +kernel
theorem dX9_of_11 : decode cX9_of 11 = .ok (.aload_n 0, 1) := by decide +kernel
theorem dX9_of_12 : decode cX9_of 12 = .ok (.iload_n 1, 1) := by decide +kernel
theorem dX9_of_13 : decode cX9_of 13 = .ok (.invokevirtual 180, 3) := by decide +kernel
theorem dX9_of_16 : decode cX9_of 16 = .ok (.ifCond .ne 7, 3) := by decide +kernel
theorem dX9_of_19 : decode cX9_of 19 = .ok (.iconst (-1), 1) := by decide +kernel
theorem dX9_of_20 : decode cX9_of 20 = .ok (.goto 24, 3) := by decide +kernel
theorem dX9_of_23 : decode cX9_of 23 = .ok (.iload_n 2, 1) := by decide +kernel
theorem dX9_of_24 : decode cX9_of 24 = .ok (.bipush 8, 2) := by decide +kernel
theorem dX9_of_26 : decode cX9_of 26 = .ok (.if_icmp .ne 12, 3) := by decide +kernel
theorem dX9_of_29 : decode cX9_of 29 = .ok (.aload_n 0, 1) := by decide +kernel
theorem dX9_of_30 : decode cX9_of 30 = .ok (.getfield 30, 3) := by decide +kernel
theorem dX9_of_33 : decode cX9_of 33 = .ok (.iload_n 1, 1) := by decide +kernel
theorem dX9_of_34 : decode cX9_of 34 = .ok (.iaload, 1) := by decide +kernel
theorem dX9_of_35 : decode cX9_of 35 = .ok (.goto 9, 3) := by decide +kernel
theorem dX9_of_38 : decode cX9_of 38 = .ok (.aload_n 0, 1) := by decide +kernel
theorem dX9_of_39 : decode cX9_of 39 = .ok (.getfield 33, 3) := by decide +kernel
theorem dX9_of_42 : decode cX9_of 42 = .ok (.iload_n 1, 1) := by decide +kernel
theorem dX9_of_43 : decode cX9_of 43 = .ok (.iaload, 1) := by decide +kernel
theorem dX9_of_44 : decode cX9_of 44 = .ok (.ireturn, 1) := by decide +kernel
theorem dX9_of_45 : decode cX9_of 45 = .ok (.aload_n 0, 1) := by decide +kernel
theorem dX9_of_46 : decode cX9_of 46 = .ok (.iload_n 1, 1) := by decide +kernel
theorem dX9_of_47 : decode cX9_of 47 = .ok (.iload_n 2, 1) := by decide +kernel
theorem dX9_of_48 : decode cX9_of 48 = .ok (.invokevirtual 183, 3) := by decide +kernel
theorem dX9_of_51 : decode cX9_of 51 = .ok (.ifCond .eq 12, 3) := by decide +kernel
theorem dX9_of_54 : decode cX9_of 54 = .ok (.aload_n 0, 1) := by decide +kernel
theorem dX9_of_55 : decode cX9_of 55 = .ok (.iload_n 2, 1) := by decide +kernel
theorem dX9_of_56 : decode cX9_of 56 = .ok (.iload_n 1, 1) := by decide +kernel
theorem dX9_of_57 : decode cX9_of 57 = .ok (.invokevirtual 163, 3) := by decide +kernel
theorem dX9_of_60 : decode cX9_of 60 = .ok (.goto 4, 3) := by decide +kernel
theorem dX9_of_63 : decode cX9_of 63 = .ok (.iconst (-1), 1) := by decide +kernel
theorem dX9_of_64 : decode cX9_of 64 = .ok (.ireturn, 1) := by decide +kernel
theorem dX9_feed_0 : decode cX9_feed 0 = .ok (.iload_n 1, 1) := by decide +kernel
theorem dX9_feed_1 : decode cX9_feed 1 = .ok (.iconst 0, 1) := by decide +kernel
theorem dX9_feed_2 : decode cX9_feed 2 = .ok (.sipush 255, 3) := by decide +kernel
theorem dX9_feed_5 : decode cX9_feed 5 = .ok (.invokestatic 143, 3) := by decide +kernel
theorem dX9_feed_8 : decode cX9_feed 8 = .ok (.ifCond .ne 5, 3) := by decide +kernel
theorem dX9_feed_11 : decode cX9_feed 11 = .ok (.iconst (-1), 1) := by decide +kernel
theorem dX9_feed_12 : decode cX9_feed 12 = .ok (.ireturn, 1) := by decide +kernel
theorem dX9_feed_13 : decode cX9_feed 13 = .ok (.aload_n 0, 1) := by decide +kernel
theorem dX9_feed_14 : decode cX9_feed 14 = .ok (.getfield 193, 3) := by decide +kernel
theorem dX9_feed_17 : decode cX9_feed 17 = .ok (.bipush 120, 2) := by decide +kernel
theorem dX9_feed_19 : decode cX9_feed 19 = .ok (.if_icmp .ne 6, 3) := by decide +kernel
theorem dX9_feed_22 : decode cX9_feed 22 = .ok (.bipush (-3), 2) := by decide +kernel
theorem dX9_feed_24 : decode cX9_feed 24 = .ok (.ireturn, 1) := by decide +kernel
theorem dX9_feed_25 : decode cX9_feed 25 = .ok (.aload_n 0, 1) := by decide +kernel
theorem dX9_feed_26 : decode cX9_feed 26 = .ok (.getfield 55, 3) := by decide +kernel
theorem dX9_feed_29 : decode cX9_feed 29 = .ok (.aload_n 0, 1) := by decide +kernel
theorem dX9_feed_30 : decode cX9_feed 30 = .ok (.getfield 193, 3) := by decide +kernel
theorem dX9_feed_33 : decode cX9_feed 33 = .ok (.iload_n 1, 1) := by decide +kernel
theorem dX9_feed_34 : decode cX9_feed 34 = .ok (.i2b, 1) := by decide +kernel
theorem dX9_feed_35 : decode cX9_feed 35 = .ok (.bastore, 1) := by decide +kernel
theorem dX9_feed_36 : decode cX9_feed 36 = .ok (.aload_n 0, 1) := by decide +kernel
theorem dX9_feed_37 : decode cX9_feed 37 = .ok (.dup, 1) := by decide +kernel
theorem dX9_feed_38 : decode cX9_feed 38 = .ok (.getfield 193, 3) := by decide +kernel
theorem dX9_feed_41 : decode cX9_feed 41 = .ok (.iconst 1, 1) := by decide +kernel
theorem dX9_feed_42 : decode cX9_feed 42 = .ok (.iadd, 1) := by decide +kernel
theorem dX9_feed_43 : decode cX9_feed 43 = .ok (.putfield 193, 3) := by decide +kernel
theorem dX9_feed_46 : decode cX9_feed 46 = .ok (.aload_n 0, 1) := by decide +kernel
theorem dX9_feed_47 : decode cX9_feed 47 = .ok (.getfield 193, 3) := by decide +kernel
theorem dX9_feed_50 : decode cX9_feed 50 = .ok (.ireturn, 1) := by decide +kernel
theorem dX9_look_0 : decode cX9_look 0 = .ok (.aload_n 0, 1) := by decide +kernel
theorem dX9_look_1 : decode cX9_look 1 = .ok (.getfield 196, 3) := by decide +kernel
theorem dX9_look_4 : decode cX9_look 4 = .ok (.aload_n 0, 1) := by decide +kernel
theorem dX9_look_5 : decode cX9_look 5 = .ok (.getfield 193, 3) := by decide +kernel
theorem dX9_look_8 : decode cX9_look 8 = .ok (.if_icmp .ge 15, 3) := by decide +kernel
theorem dX9_look_11 : decode cX9_look 11 = .ok (.aload_n 0, 1) := by decide +kernel
theorem dX9_look_12 : decode cX9_look 12 = .ok (.getfield 55, 3) := by decide +kernel
theorem dX9_look_15 : decode cX9_look 15 = .ok (.aload_n 0, 1) := by decide +kernel
theorem dX9_look_16 : decode cX9_look 16 = .ok (.getfield 196, 3) := by decide +kernel
theorem dX9_look_19 : decode cX9_look 19 = .ok (.baload, 1) := by decide +kernel
theorem dX9_look_20 : decode cX9_look 20 = .ok (.goto 4, 3) := by decide +kernel
theorem dX9_look_23 : decode cX9_look 23 = .ok (.iconst (-1), 1) := by decide +kernel
theorem dX9_look_24 : decode cX9_look 24 = .ok (.ireturn, 1) := by decide +kernel
theorem dX9_wrong_0 : decode cX9_wrong 0 = .ok (.aload_n 0, 1) := by decide +kernel
theorem dX9_wrong_1 : decode cX9_wrong 1 = .ok (.getfield 199, 3) := by decide +kernel
theorem dX9_wrong_4 : decode cX9_wrong 4 = .ok (.ifCond .ge 11, 3) := by decide +kernel
theorem dX9_wrong_7 : decode cX9_wrong 7 = .ok (.aload_n 0, 1) := by decide +kernel
theorem dX9_wrong_8 : decode cX9_wrong 8 = .ok (.aload_n 0, 1) := by decide +kernel
theorem dX9_wrong_9 : decode cX9_wrong 9 = .ok (.getfield 196, 3) := by decide +kernel
theorem dX9_wrong_12 : decode cX9_wrong 12 = .ok (.putfield 199, 3) := by decide +kernel
theorem dX9_wrong_15 : decode cX9_wrong 15 = .ok (.return_, 1) := by decide +kernel
theorem dX9_addStep_0 : decode cX9_addStep 0 = .ok (.aload_n 0, 1) := by decide +kernel
theorem dX9_addStep_1 : decode cX9_addStep 1 = .ok (.getfield 59, 3) := by decide +kernel
theorem dX9_addStep_4 : decode cX9_addStep 4 = .ok (.sipush 130, 3) := by decide +kernel
theorem dX9_addStep_7 : decode cX9_addStep 7 = .ok (.aload_n 0, 1) := by decide +kernel
theorem dX9_addStep_8 : decode cX9_addStep 8 = .ok (.getfield 202, 3) := by decide +kernel
theorem dX9_addStep_11 : decode cX9_addStep 11 = .ok (.iadd, 1) := by decide +kernel
theorem dX9_addStep_12 : decode cX9_addStep 12 = .ok (.iload_n 1, 1) := by decide +kernel
theorem dX9_addStep_13 : decode cX9_addStep 13 = .ok (.i2b, 1) := by decide +kernel
theorem dX9_addStep_14 : decode cX9_addStep 14 = .ok (.bastore, 1) := by decide +kernel
theorem dX9_addStep_15 : decode cX9_addStep 15 = .ok (.aload_n 0, 1) := by decide +kernel
theorem dX9_addStep_16 : decode cX9_addStep 16 = .ok (.getfield 62, 3) := by decide +kernel
theorem dX9_addStep_19 : decode cX9_addStep 19 = .ok (.sipush 130, 3) := by decide +kernel
theorem dX9_addStep_22 : decode cX9_addStep 22 = .ok (.aload_n 0, 1) := by decide +kernel
theorem dX9_addStep_23 : decode cX9_addStep 23 = .ok (.getfield 202, 3) := by decide +kernel
theorem dX9_addStep_26 : decode cX9_addStep 26 = .ok (.iadd, 1) := by decide +kernel
theorem dX9_addStep_27 : decode cX9_addStep 27 = .ok (.iload_n 2, 1) := by decide +kernel
theorem dX9_addStep_28 : decode cX9_addStep 28 = .ok (.iastore, 1) := by decide +kernel
theorem dX9_addStep_29 : decode cX9_addStep 29 = .ok (.aload_n 0, 1) := by decide +kernel
theorem dX9_addStep_30 : decode cX9_addStep 30 = .ok (.dup, 1) := by decide +kernel
theorem dX9_addStep_31 : decode cX9_addStep 31 = .ok (.getfield 202, 3) := by decide +kernel
theorem dX9_addStep_34 : decode cX9_addStep 34 = .ok (.iconst 1, 1) := by decide +kernel
theorem dX9_addStep_35 : decode cX9_addStep 35 = .ok (.iadd, 1) := by decide +kernel
theorem dX9_addStep_36 : decode cX9_addStep 36 = .ok (.putfield 202, 3) := by decide +kernel
theorem dX9_addStep_39 : decode cX9_addStep 39 = .ok (.return_, 1) := by decide +kernel
theorem dX9_nameOf_0 : decode cX9_nameOf 0 = .ok (.iload_n 0, 1) := by decide +kernel
theorem dX9_nameOf_1 : decode cX9_nameOf 1 = .ok (.tableswitch 99 102 119 #[93, 99, 89, 99, 99, 99, 97, 99, 99, 99, 95, 99, 99, 87, 99, 99, 99, 91], 87) := by decide +kernel
theorem dX9_nameOf_88 : decode cX9_nameOf 88 = .ok (.iconst 0, 1) := by decide +kernel
theorem dX9_nameOf_89 : decode cX9_nameOf 89 = .ok (.ireturn, 1) := by decide +kernel
theorem dX9_nameOf_90 : decode cX9_nameOf 90 = .ok (.iconst 1, 1) := by decide +kernel
theorem dX9_nameOf_91 : decode cX9_nameOf 91 = .ok (.ireturn, 1) := by decide +kernel
theorem dX9_nameOf_92 : decode cX9_nameOf 92 = .ok (.iconst 2, 1) := by decide +kernel
theorem dX9_nameOf_93 : decode cX9_nameOf 93 = .ok (.ireturn, 1) := by decide +kernel
theorem dX9_nameOf_94 : decode cX9_nameOf 94 = .ok (.iconst 3, 1) := by decide +kernel
theorem dX9_nameOf_95 : decode cX9_nameOf 95 = .ok (.ireturn, 1) := by decide +kernel
theorem dX9_nameOf_96 : decode cX9_nameOf 96 = .ok (.iconst 4, 1) := by decide +kernel
theorem dX9_nameOf_97 : decode cX9_nameOf 97 = .ok (.ireturn, 1) := by decide +kernel
theorem dX9_nameOf_98 : decode cX9_nameOf 98 = .ok (.iconst 5, 1) := by decide +kernel
theorem dX9_nameOf_99 : decode cX9_nameOf 99 = .ok (.ireturn, 1) := by decide +kernel
theorem dX9_nameOf_100 : decode cX9_nameOf 100 = .ok (.iconst (-1), 1) := by decide +kernel
theorem dX9_nameOf_101 : decode cX9_nameOf 101 = .ok (.ireturn, 1) := by decide +kernel
theorem dX9_opens_0 : decode cX9_opens 0 = .ok (.aload_n 0, 1) := by decide +kernel
theorem dX9_opens_1 : decode cX9_opens 1 = .ok (.getfield 205, 3) := by decide +kernel
theorem dX9_opens_4 : decode cX9_opens 4 = .ok (.bipush 6, 2) := by decide +kernel
theorem dX9_opens_6 : decode cX9_opens 6 = .ok (.if_icmp .ne 9, 3) := by decide +kernel
theorem dX9_opens_9 : decode cX9_opens 9 = .ok (.aload_n 0, 1) := by decide +kernel
theorem dX9_opens_10 : decode cX9_opens 10 = .ok (.invokevirtual 208, 3) := by decide +kernel
theorem dX9_opens_13 : decode cX9_opens 13 = .ok (.iconst 0, 1) := by decide +kernel
theorem dX9_opens_14 : decode cX9_opens 14 = .ok (.ireturn, 1) := by decide +kernel
theorem dX9_opens_15 : decode cX9_opens 15 = .ok (.aload_n 0, 1) := by decide +kernel
theorem dX9_opens_16 : decode cX9_opens 16 = .ok (.dup, 1) := by decide +kernel
theorem dX9_opens_17 : decode cX9_opens 17 = .ok (.getfield 205, 3) := by decide +kernel
theorem dX9_opens_20 : decode cX9_opens 20 = .ok (.iconst 1, 1) := by decide +kernel
theorem dX9_opens_21 : decode cX9_opens 21 = .ok (.iadd, 1) := by decide +kernel
theorem dX9_opens_22 : decode cX9_opens 22 = .ok (.putfield 205, 3) := by decide +kernel
theorem dX9_opens_25 : decode cX9_opens 25 = .ok (.aload_n 0, 1) := by decide +kernel
theorem dX9_opens_26 : decode cX9_opens 26 = .ok (.dup, 1) := by decide +kernel
theorem dX9_opens_27 : decode cX9_opens 27 = .ok (.getfield 196, 3) := by decide +kernel
theorem dX9_opens_30 : decode cX9_opens 30 = .ok (.iconst 1, 1) := by decide +kernel
theorem dX9_opens_31 : decode cX9_opens 31 = .ok (.iadd, 1) := by decide +kernel
theorem dX9_opens_32 : decode cX9_opens 32 = .ok (.putfield 196, 3) := by decide +kernel
theorem dX9_opens_35 : decode cX9_opens 35 = .ok (.iconst 1, 1) := by decide +kernel
theorem dX9_opens_36 : decode cX9_opens 36 = .ok (.ireturn, 1) := by decide +kernel
theorem dX9_figure_0 : decode cX9_figure 0 = .ok (.iconst 0, 1) := by decide +kernel
theorem dX9_figure_1 : decode cX9_figure 1 = .ok (.istore_n 1, 1) := by decide +kernel
theorem dX9_figure_2 : decode cX9_figure 2 = .ok (.iconst 0, 1) := by decide +kernel
theorem dX9_figure_3 : decode cX9_figure 3 = .ok (.istore_n 2, 1) := by decide +kernel
theorem dX9_figure_4 : decode cX9_figure 4 = .ok (.iload_n 2, 1) := by decide +kernel
theorem dX9_figure_5 : decode cX9_figure 5 = .ok (.iconst 4, 1) := by decide +kernel
theorem dX9_figure_6 : decode cX9_figure 6 = .ok (.if_icmp .ge 46, 3) := by decide +kernel
theorem dX9_figure_9 : decode cX9_figure 9 = .ok (.aload_n 0, 1) := by decide +kernel
theorem dX9_figure_10 : decode cX9_figure 10 = .ok (.invokevirtual 211, 3) := by decide +kernel
theorem dX9_figure_13 : decode cX9_figure 13 = .ok (.bipush 48, 2) := by decide +kernel
theorem dX9_figure_15 : decode cX9_figure 15 = .ok (.bipush 57, 2) := by decide +kernel
theorem dX9_figure_17 : decode cX9_figure 17 = .ok (.invokestatic 143, 3) := by decide +kernel
theorem dX9_figure_20 : decode cX9_figure 20 = .ok (.ifCond .eq 32, 3) := by decide +kernel
theorem dX9_figure_23 : decode cX9_figure 23 = .ok (.bipush 10, 2) := by decide +kernel
theorem dX9_figure_25 : decode cX9_figure 25 = .ok (.iload_n 1, 1) := by decide +kernel
theorem dX9_figure_26 : decode cX9_figure 26 = .ok (.imul, 1) := by decide +kernel
theorem dX9_figure_27 : decode cX9_figure 27 = .ok (.aload_n 0, 1) := by decide +kernel
theorem dX9_figure_28 : decode cX9_figure 28 = .ok (.invokevirtual 211, 3) := by decide +kernel
theorem dX9_figure_31 : decode cX9_figure 31 = .ok (.iadd, 1) := by decide +kernel
theorem dX9_figure_32 : decode cX9_figure 32 = .ok (.bipush 48, 2) := by decide +kernel
theorem dX9_figure_34 : decode cX9_figure 34 = .ok (.isub, 1) := by decide +kernel
theorem dX9_figure_35 : decode cX9_figure 35 = .ok (.istore_n 1, 1) := by decide +kernel
theorem dX9_figure_36 : decode cX9_figure 36 = .ok (.iinc 2 1, 3) := by decide +kernel
theorem dX9_figure_39 : decode cX9_figure 39 = .ok (.aload_n 0, 1) := by decide +kernel
theorem dX9_figure_40 : decode cX9_figure 40 = .ok (.dup, 1) := by decide +kernel
theorem dX9_figure_41 : decode cX9_figure 41 = .ok (.getfield 196, 3) := by decide +kernel
theorem dX9_figure_44 : decode cX9_figure 44 = .ok (.iconst 1, 1) := by decide +kernel
theorem dX9_figure_45 : decode cX9_figure 45 = .ok (.iadd, 1) := by decide +kernel
theorem dX9_figure_46 : decode cX9_figure 46 = .ok (.putfield 196, 3) := by decide +kernel
theorem dX9_figure_49 : decode cX9_figure 49 = .ok (.goto (-45), 3) := by decide +kernel
theorem dX9_figure_52 : decode cX9_figure 52 = .ok (.iload_n 2, 1) := by decide +kernel
theorem dX9_figure_53 : decode cX9_figure 53 = .ok (.ifCond .eq 17, 3) := by decide +kernel
theorem dX9_figure_56 : decode cX9_figure 56 = .ok (.aload_n 0, 1) := by decide +kernel
theorem dX9_figure_57 : decode cX9_figure 57 = .ok (.invokevirtual 211, 3) := by decide +kernel
theorem dX9_figure_60 : decode cX9_figure 60 = .ok (.bipush 48, 2) := by decide +kernel
theorem dX9_figure_62 : decode cX9_figure 62 = .ok (.bipush 57, 2) := by decide +kernel
theorem dX9_figure_64 : decode cX9_figure 64 = .ok (.invokestatic 143, 3) := by decide +kernel
theorem dX9_figure_67 : decode cX9_figure 67 = .ok (.ifCond .eq 7, 3) := by decide +kernel
theorem dX9_figure_70 : decode cX9_figure 70 = .ok (.aload_n 0, 1) := by decide +kernel
theorem dX9_figure_71 : decode cX9_figure 71 = .ok (.invokevirtual 208, 3) := by decide +kernel
theorem dX9_figure_74 : decode cX9_figure 74 = .ok (.aload_n 0, 1) := by decide +kernel
theorem dX9_figure_75 : decode cX9_figure 75 = .ok (.iconst 1, 1) := by decide +kernel
theorem dX9_figure_76 : decode cX9_figure 76 = .ok (.iload_n 1, 1) := by decide +kernel
theorem dX9_figure_77 : decode cX9_figure 77 = .ok (.invokevirtual 215, 3) := by decide +kernel
theorem dX9_figure_80 : decode cX9_figure 80 = .ok (.return_, 1) := by decide +kernel
theorem dX9_operand_0 : decode cX9_operand 0 = .ok (.aload_n 0, 1) := by decide +kernel
theorem dX9_operand_1 : decode cX9_operand 1 = .ok (.invokevirtual 211, 3) := by decide +kernel
theorem dX9_operand_4 : decode cX9_operand 4 = .ok (.istore_n 1, 1) := by decide +kernel
theorem dX9_operand_5 : decode cX9_operand 5 = .ok (.iload_n 1, 1) := by decide +kernel
theorem dX9_operand_6 : decode cX9_operand 6 = .ok (.invokestatic 219, 3) := by decide +kernel
theorem dX9_operand_9 : decode cX9_operand 9 = .ok (.ifCond .lt 25, 3) := by decide +kernel
theorem dX9_operand_12 : decode cX9_operand 12 = .ok (.aload_n 0, 1) := by decide +kernel
theorem dX9_operand_13 : decode cX9_operand 13 = .ok (.iconst 2, 1) := by decide +kernel
theorem dX9_operand_14 : decode cX9_operand 14 = .ok (.iload_n 1, 1) := by decide +kernel
theorem dX9_operand_15 : decode cX9_operand 15 = .ok (.invokestatic 219, 3) := by decide +kernel
theorem dX9_operand_18 : decode cX9_operand 18 = .ok (.invokevirtual 215, 3) := by decide +kernel
theorem dX9_operand_21 : decode cX9_operand 21 = .ok (.aload_n 0, 1) := by decide +kernel
theorem dX9_operand_22 : decode cX9_operand 22 = .ok (.dup, 1) := by decide +kernel
theorem dX9_operand_23 : decode cX9_operand 23 = .ok (.getfield 196, 3) := by decide +kernel
theorem dX9_operand_26 : decode cX9_operand 26 = .ok (.iconst 1, 1) := by decide +kernel
theorem dX9_operand_27 : decode cX9_operand 27 = .ok (.iadd, 1) := by decide +kernel
theorem dX9_operand_28 : decode cX9_operand 28 = .ok (.putfield 196, 3) := by decide +kernel
theorem dX9_operand_31 : decode cX9_operand 31 = .ok (.goto 123, 3) := by decide +kernel
theorem dX9_operand_34 : decode cX9_operand 34 = .ok (.iload_n 1, 1) := by decide +kernel
theorem dX9_operand_35 : decode cX9_operand 35 = .ok (.bipush 33, 2) := by decide +kernel
theorem dX9_operand_37 : decode cX9_operand 37 = .ok (.if_icmp .eq 9, 3) := by decide +kernel
theorem dX9_operand_40 : decode cX9_operand 40 = .ok (.iload_n 1, 1) := by decide +kernel
theorem dX9_operand_41 : decode cX9_operand 41 = .ok (.bipush 45, 2) := by decide +kernel
theorem dX9_operand_43 : decode cX9_operand 43 = .ok (.if_icmp .ne 44, 3) := by decide +kernel
theorem dX9_operand_46 : decode cX9_operand 46 = .ok (.aload_n 0, 1) := by decide +kernel
theorem dX9_operand_47 : decode cX9_operand 47 = .ok (.invokevirtual 223, 3) := by decide +kernel
theorem dX9_operand_50 : decode cX9_operand 50 = .ok (.ifCond .ne 4, 3) := by decide +kernel
theorem dX9_operand_53 : decode cX9_operand 53 = .ok (.return_, 1) := by decide +kernel
theorem dX9_operand_54 : decode cX9_operand 54 = .ok (.aload_n 0, 1) := by decide +kernel
theorem dX9_operand_55 : decode cX9_operand 55 = .ok (.invokevirtual 227, 3) := by decide +kernel
theorem dX9_operand_58 : decode cX9_operand 58 = .ok (.aload_n 0, 1) := by decide +kernel
theorem dX9_operand_59 : decode cX9_operand 59 = .ok (.dup, 1) := by decide +kernel
theorem dX9_operand_60 : decode cX9_operand 60 = .ok (.getfield 205, 3) := by decide +kernel
theorem dX9_operand_63 : decode cX9_operand 63 = .ok (.iconst 1, 1) := by decide +kernel
theorem dX9_operand_64 : decode cX9_operand 64 = .ok (.isub, 1) := by decide +kernel
theorem dX9_operand_65 : decode cX9_operand 65 = .ok (.putfield 205, 3) := by decide +kernel
theorem dX9_operand_68 : decode cX9_operand 68 = .ok (.aload_n 0, 1) := by decide +kernel
theorem dX9_operand_69 : decode cX9_operand 69 = .ok (.iload_n 1, 1) := by decide +kernel
theorem dX9_operand_70 : decode cX9_operand 70 = .ok (.bipush 33, 2) := by decide +kernel
theorem dX9_operand_72 : decode cX9_operand 72 = .ok (.if_icmp .ne 7, 3) := by decide +kernel
theorem dX9_operand_75 : decode cX9_operand 75 = .ok (.iconst 3, 1) := by decide +kernel
theorem dX9_operand_76 : decode cX9_operand 76 = .ok (.goto 4, 3) := by decide +kernel
theorem dX9_operand_79 : decode cX9_operand 79 = .ok (.iconst 4, 1) := by decide +kernel
theorem dX9_operand_80 : decode cX9_operand 80 = .ok (.iconst 0, 1) := by decide +kernel
theorem dX9_operand_81 : decode cX9_operand 81 = .ok (.invokevirtual 215, 3) := by decide +kernel
theorem dX9_operand_84 : decode cX9_operand 84 = .ok (.goto 70, 3) := by decide +kernel
theorem dX9_operand_87 : decode cX9_operand 87 = .ok (.iload_n 1, 1) := by decide +kernel
theorem dX9_operand_88 : decode cX9_operand 88 = .ok (.bipush 40, 2) := by decide +kernel
theorem dX9_operand_90 : decode cX9_operand 90 = .ok (.if_icmp .ne 60, 3) := by decide +kernel
theorem dX9_operand_93 : decode cX9_operand 93 = .ok (.aload_n 0, 1) := by decide +kernel
theorem dX9_operand_94 : decode cX9_operand 94 = .ok (.invokevirtual 223, 3) := by decide +kernel
theorem dX9_operand_97 : decode cX9_operand 97 = .ok (.ifCond .ne 4, 3) := by decide +kernel
theorem dX9_operand_100 : decode cX9_operand 100 = .ok (.return_, 1) := by decide +kernel
theorem dX9_operand_101 : decode cX9_operand 101 = .ok (.aload_n 0, 1) := by decide +kernel
theorem dX9_operand_102 : decode cX9_operand 102 = .ok (.invokevirtual 230, 3) := by decide +kernel
theorem dX9_operand_105 : decode cX9_operand 105 = .ok (.aload_n 0, 1) := by decide +kernel
theorem dX9_operand_106 : decode cX9_operand 106 = .ok (.getfield 199, 3) := by decide +kernel
theorem dX9_operand_109 : decode cX9_operand 109 = .ok (.ifCond .lt 4, 3) := by decide +kernel
theorem dX9_operand_112 : decode cX9_operand 112 = .ok (.return_, 1) := by decide +kernel
theorem dX9_operand_113 : decode cX9_operand 113 = .ok (.aload_n 0, 1) := by decide +kernel
theorem dX9_operand_114 : decode cX9_operand 114 = .ok (.invokevirtual 211, 3) := by decide +kernel
theorem dX9_operand_117 : decode cX9_operand 117 = .ok (.bipush 41, 2) := by decide +kernel
theorem dX9_operand_119 : decode cX9_operand 119 = .ok (.if_icmp .eq 8, 3) := by decide +kernel
theorem dX9_operand_122 : decode cX9_operand 122 = .ok (.aload_n 0, 1) := by decide +kernel
theorem dX9_operand_123 : decode cX9_operand 123 = .ok (.invokevirtual 208, 3) := by decide +kernel
theorem dX9_operand_126 : decode cX9_operand 126 = .ok (.return_, 1) := by decide +kernel
theorem dX9_operand_127 : decode cX9_operand 127 = .ok (.aload_n 0, 1) := by decide +kernel
theorem dX9_operand_128 : decode cX9_operand 128 = .ok (.dup, 1) := by decide +kernel
theorem dX9_operand_129 : decode cX9_operand 129 = .ok (.getfield 196, 3) := by decide +kernel
theorem dX9_operand_132 : decode cX9_operand 132 = .ok (.iconst 1, 1) := by decide +kernel
theorem dX9_operand_133 : decode cX9_operand 133 = .ok (.iadd, 1) := by decide +kernel
theorem dX9_operand_134 : decode cX9_operand 134 = .ok (.putfield 196, 3) := by decide +kernel
theorem dX9_operand_137 : decode cX9_operand 137 = .ok (.aload_n 0, 1) := by decide +kernel
theorem dX9_operand_138 : decode cX9_operand 138 = .ok (.dup, 1) := by decide +kernel
theorem dX9_operand_139 : decode cX9_operand 139 = .ok (.getfield 205, 3) := by decide +kernel
theorem dX9_operand_142 : decode cX9_operand 142 = .ok (.iconst 1, 1) := by decide +kernel
theorem dX9_operand_143 : decode cX9_operand 143 = .ok (.isub, 1) := by decide +kernel
theorem dX9_operand_144 : decode cX9_operand 144 = .ok (.putfield 205, 3) := by decide +kernel
theorem dX9_operand_147 : decode cX9_operand 147 = .ok (.goto 7, 3) := by decide +kernel
theorem dX9_operand_150 : decode cX9_operand 150 = .ok (.aload_n 0, 1) := by decide +kernel
theorem dX9_operand_151 : decode cX9_operand 151 = .ok (.invokevirtual 233, 3) := by decide +kernel
theorem dX9_operand_154 : decode cX9_operand 154 = .ok (.return_, 1) := by decide +kernel
theorem dX9_product_0 : decode cX9_product 0 = .ok (.aload_n 0, 1) := by decide +kernel
theorem dX9_product_1 : decode cX9_product 1 = .ok (.invokevirtual 227, 3) := by decide +kernel
theorem dX9_product_4 : decode cX9_product 4 = .ok (.aload_n 0, 1) := by decide +kernel
theorem dX9_product_5 : decode cX9_product 5 = .ok (.getfield 199, 3) := by decide +kernel
theorem dX9_product_8 : decode cX9_product 8 = .ok (.ifCond .ge 58, 3) := by decide +kernel
theorem dX9_product_11 : decode cX9_product 11 = .ok (.aload_n 0, 1) := by decide +kernel
theorem dX9_product_12 : decode cX9_product 12 = .ok (.invokevirtual 211, 3) := by decide +kernel
theorem dX9_product_15 : decode cX9_product 15 = .ok (.bipush 42, 2) := by decide +kernel
theorem dX9_product_17 : decode cX9_product 17 = .ok (.if_icmp .eq 21, 3) := by decide +kernel
theorem dX9_product_20 : decode cX9_product 20 = .ok (.aload_n 0, 1) := by decide +kernel
theorem dX9_product_21 : decode cX9_product 21 = .ok (.invokevirtual 211, 3) := by decide +kernel
theorem dX9_product_24 : decode cX9_product 24 = .ok (.bipush 47, 2) := by decide +kernel
theorem dX9_product_26 : decode cX9_product 26 = .ok (.if_icmp .eq 12, 3) := by decide +kernel
theorem dX9_product_29 : decode cX9_product 29 = .ok (.aload_n 0, 1) := by decide +kernel
theorem dX9_product_30 : decode cX9_product 30 = .ok (.invokevirtual 211, 3) := by decide +kernel
theorem dX9_product_33 : decode cX9_product 33 = .ok (.bipush 37, 2) := by decide +kernel
theorem dX9_product_35 : decode cX9_product 35 = .ok (.if_icmp .ne 31, 3) := by decide +kernel
theorem dX9_product_38 : decode cX9_product 38 = .ok (.aload_n 0, 1) := by decide +kernel
theorem dX9_product_39 : decode cX9_product 39 = .ok (.invokevirtual 211, 3) := by decide +kernel
theorem dX9_product_42 : decode cX9_product 42 = .ok (.istore_n 1, 1) := by decide +kernel
theorem dX9_product_43 : decode cX9_product 43 = .ok (.aload_n 0, 1) := by decide +kernel
theorem dX9_product_44 : decode cX9_product 44 = .ok (.dup, 1) := by decide +kernel
theorem dX9_product_45 : decode cX9_product 45 = .ok (.getfield 196, 3) := by decide +kernel
theorem dX9_product_48 : decode cX9_product 48 = .ok (.iconst 1, 1) := by decide +kernel
theorem dX9_product_49 : decode cX9_product 49 = .ok (.iadd, 1) := by decide +kernel
theorem dX9_product_50 : decode cX9_product 50 = .ok (.putfield 196, 3) := by decide +kernel
theorem dX9_product_53 : decode cX9_product 53 = .ok (.aload_n 0, 1) := by decide +kernel
theorem dX9_product_54 : decode cX9_product 54 = .ok (.invokevirtual 227, 3) := by decide +kernel
theorem dX9_product_57 : decode cX9_product 57 = .ok (.aload_n 0, 1) := by decide +kernel
theorem dX9_product_58 : decode cX9_product 58 = .ok (.iload_n 1, 1) := by decide +kernel
theorem dX9_product_59 : decode cX9_product 59 = .ok (.iconst 0, 1) := by decide +kernel
theorem dX9_product_60 : decode cX9_product 60 = .ok (.invokevirtual 215, 3) := by decide +kernel
theorem dX9_product_63 : decode cX9_product 63 = .ok (.goto (-59), 3) := by decide +kernel
theorem dX9_product_66 : decode cX9_product 66 = .ok (.return_, 1) := by decide +kernel
theorem dX9_sum_0 : decode cX9_sum 0 = .ok (.aload_n 0, 1) := by decide +kernel
theorem dX9_sum_1 : decode cX9_sum 1 = .ok (.invokevirtual 236, 3) := by decide +kernel
theorem dX9_sum_4 : decode cX9_sum 4 = .ok (.aload_n 0, 1) := by decide +kernel
theorem dX9_sum_5 : decode cX9_sum 5 = .ok (.getfield 199, 3) := by decide +kernel
theorem dX9_sum_8 : decode cX9_sum 8 = .ok (.ifCond .ge 49, 3) := by decide +kernel
theorem dX9_sum_11 : decode cX9_sum 11 = .ok (.aload_n 0, 1) := by decide +kernel
theorem dX9_sum_12 : decode cX9_sum 12 = .ok (.invokevirtual 211, 3) := by decide +kernel
theorem dX9_sum_15 : decode cX9_sum 15 = .ok (.bipush 43, 2) := by decide +kernel
theorem dX9_sum_17 : decode cX9_sum 17 = .ok (.if_icmp .eq 12, 3) := by decide +kernel
theorem dX9_sum_20 : decode cX9_sum 20 = .ok (.aload_n 0, 1) := by decide +kernel
theorem dX9_sum_21 : decode cX9_sum 21 = .ok (.invokevirtual 211, 3) := by decide +kernel
theorem dX9_sum_24 : decode cX9_sum 24 = .ok (.bipush 45, 2) := by decide +kernel
theorem dX9_sum_26 : decode cX9_sum 26 = .ok (.if_icmp .ne 31, 3) := by decide +kernel
theorem dX9_sum_29 : decode cX9_sum 29 = .ok (.aload_n 0, 1) := by decide +kernel
theorem dX9_sum_30 : decode cX9_sum 30 = .ok (.invokevirtual 211, 3) := by decide +kernel
theorem dX9_sum_33 : decode cX9_sum 33 = .ok (.istore_n 1, 1) := by decide +kernel
theorem dX9_sum_34 : decode cX9_sum 34 = .ok (.aload_n 0, 1) := by decide +kernel
theorem dX9_sum_35 : decode cX9_sum 35 = .ok (.dup, 1) := by decide +kernel
theorem dX9_sum_36 : decode cX9_sum 36 = .ok (.getfield 196, 3) := by decide +kernel
theorem dX9_sum_39 : decode cX9_sum 39 = .ok (.iconst 1, 1) := by decide +kernel
theorem dX9_sum_40 : decode cX9_sum 40 = .ok (.iadd, 1) := by decide +kernel
theorem dX9_sum_41 : decode cX9_sum 41 = .ok (.putfield 196, 3) := by decide +kernel
theorem dX9_sum_44 : decode cX9_sum 44 = .ok (.aload_n 0, 1) := by decide +kernel
theorem dX9_sum_45 : decode cX9_sum 45 = .ok (.invokevirtual 236, 3) := by decide +kernel
theorem dX9_sum_48 : decode cX9_sum 48 = .ok (.aload_n 0, 1) := by decide +kernel
theorem dX9_sum_49 : decode cX9_sum 49 = .ok (.iload_n 1, 1) := by decide +kernel
theorem dX9_sum_50 : decode cX9_sum 50 = .ok (.iconst 0, 1) := by decide +kernel
theorem dX9_sum_51 : decode cX9_sum 51 = .ok (.invokevirtual 215, 3) := by decide +kernel
theorem dX9_sum_54 : decode cX9_sum 54 = .ok (.goto (-50), 3) := by decide +kernel
theorem dX9_sum_57 : decode cX9_sum 57 = .ok (.return_, 1) := by decide +kernel
theorem dX9_compared_0 : decode cX9_compared 0 = .ok (.aload_n 0, 1) := by decide +kernel
theorem dX9_compared_1 : decode cX9_compared 1 = .ok (.invokevirtual 239, 3) := by decide +kernel
theorem dX9_compared_4 : decode cX9_compared 4 = .ok (.aload_n 0, 1) := by decide +kernel
theorem dX9_compared_5 : decode cX9_compared 5 = .ok (.invokevirtual 211, 3) := by decide +kernel
theorem dX9_compared_8 : decode cX9_compared 8 = .ok (.istore_n 1, 1) := by decide +kernel
theorem dX9_compared_9 : decode cX9_compared 9 = .ok (.aload_n 0, 1) := by decide +kernel
theorem dX9_compared_10 : decode cX9_compared 10 = .ok (.getfield 199, 3) := by decide +kernel
theorem dX9_compared_13 : decode cX9_compared 13 = .ok (.ifCond .ge 21, 3) := by decide +kernel
theorem dX9_compared_16 : decode cX9_compared 16 = .ok (.iload_n 1, 1) := by decide +kernel
theorem dX9_compared_17 : decode cX9_compared 17 = .ok (.bipush 60, 2) := by decide +kernel
theorem dX9_compared_19 : decode cX9_compared 19 = .ok (.if_icmp .eq 16, 3) := by decide +kernel
theorem dX9_compared_22 : decode cX9_compared 22 = .ok (.iload_n 1, 1) := by decide +kernel
theorem dX9_compared_23 : decode cX9_compared 23 = .ok (.bipush 61, 2) := by decide +kernel
theorem dX9_compared_25 : decode cX9_compared 25 = .ok (.if_icmp .eq 10, 3) := by decide +kernel
theorem dX9_compared_28 : decode cX9_compared 28 = .ok (.iload_n 1, 1) := by decide +kernel
theorem dX9_compared_29 : decode cX9_compared 29 = .ok (.bipush 62, 2) := by decide +kernel
theorem dX9_compared_31 : decode cX9_compared 31 = .ok (.if_icmp .eq 4, 3) := by decide +kernel
theorem dX9_compared_34 : decode cX9_compared 34 = .ok (.return_, 1) := by decide +kernel
theorem dX9_compared_35 : decode cX9_compared 35 = .ok (.aload_n 0, 1) := by decide +kernel
theorem dX9_compared_36 : decode cX9_compared 36 = .ok (.dup, 1) := by decide +kernel
theorem dX9_compared_37 : decode cX9_compared 37 = .ok (.getfield 196, 3) := by decide +kernel
theorem dX9_compared_40 : decode cX9_compared 40 = .ok (.iconst 1, 1) := by decide +kernel
theorem dX9_compared_41 : decode cX9_compared 41 = .ok (.iadd, 1) := by decide +kernel
theorem dX9_compared_42 : decode cX9_compared 42 = .ok (.putfield 196, 3) := by decide +kernel
theorem dX9_compared_45 : decode cX9_compared 45 = .ok (.aload_n 0, 1) := by decide +kernel
theorem dX9_compared_46 : decode cX9_compared 46 = .ok (.invokevirtual 239, 3) := by decide +kernel
theorem dX9_compared_49 : decode cX9_compared 49 = .ok (.aload_n 0, 1) := by decide +kernel
theorem dX9_compared_50 : decode cX9_compared 50 = .ok (.iload_n 1, 1) := by decide +kernel
theorem dX9_compared_51 : decode cX9_compared 51 = .ok (.iconst 0, 1) := by decide +kernel
theorem dX9_compared_52 : decode cX9_compared 52 = .ok (.invokevirtual 215, 3) := by decide +kernel
theorem dX9_compared_55 : decode cX9_compared 55 = .ok (.return_, 1) := by decide +kernel
theorem dX9_both_0 : decode cX9_both 0 = .ok (.aload_n 0, 1) := by decide +kernel
theorem dX9_both_1 : decode cX9_both 1 = .ok (.invokevirtual 242, 3) := by decide +kernel
theorem dX9_both_4 : decode cX9_both 4 = .ok (.aload_n 0, 1) := by decide +kernel
theorem dX9_both_5 : decode cX9_both 5 = .ok (.getfield 199, 3) := by decide +kernel
theorem dX9_both_8 : decode cX9_both 8 = .ok (.ifCond .ge 36, 3) := by decide +kernel
theorem dX9_both_11 : decode cX9_both 11 = .ok (.aload_n 0, 1) := by decide +kernel
theorem dX9_both_12 : decode cX9_both 12 = .ok (.invokevirtual 211, 3) := by decide +kernel
theorem dX9_both_15 : decode cX9_both 15 = .ok (.bipush 38, 2) := by decide +kernel
theorem dX9_both_17 : decode cX9_both 17 = .ok (.if_icmp .ne 27, 3) := by decide +kernel
theorem dX9_both_20 : decode cX9_both 20 = .ok (.aload_n 0, 1) := by decide +kernel
theorem dX9_both_21 : decode cX9_both 21 = .ok (.dup, 1) := by decide +kernel
theorem dX9_both_22 : decode cX9_both 22 = .ok (.getfield 196, 3) := by decide +kernel
theorem dX9_both_25 : decode cX9_both 25 = .ok (.iconst 1, 1) := by decide +kernel
theorem dX9_both_26 : decode cX9_both 26 = .ok (.iadd, 1) := by decide +kernel
theorem dX9_both_27 : decode cX9_both 27 = .ok (.putfield 196, 3) := by decide +kernel
theorem dX9_both_30 : decode cX9_both 30 = .ok (.aload_n 0, 1) := by decide +kernel
theorem dX9_both_31 : decode cX9_both 31 = .ok (.invokevirtual 242, 3) := by decide +kernel
theorem dX9_both_34 : decode cX9_both 34 = .ok (.aload_n 0, 1) := by decide +kernel
theorem dX9_both_35 : decode cX9_both 35 = .ok (.bipush 38, 2) := by decide +kernel
theorem dX9_both_37 : decode cX9_both 37 = .ok (.iconst 0, 1) := by decide +kernel
theorem dX9_both_38 : decode cX9_both 38 = .ok (.invokevirtual 215, 3) := by decide +kernel
theorem dX9_both_41 : decode cX9_both 41 = .ok (.goto (-37), 3) := by decide +kernel
theorem dX9_both_44 : decode cX9_both 44 = .ok (.return_, 1) := by decide +kernel
theorem dX9_either_0 : decode cX9_either 0 = .ok (.aload_n 0, 1) := by decide +kernel
theorem dX9_either_1 : decode cX9_either 1 = .ok (.invokevirtual 245, 3) := by decide +kernel
theorem dX9_either_4 : decode cX9_either 4 = .ok (.aload_n 0, 1) := by decide +kernel
theorem dX9_either_5 : decode cX9_either 5 = .ok (.getfield 199, 3) := by decide +kernel
theorem dX9_either_8 : decode cX9_either 8 = .ok (.ifCond .ge 36, 3) := by decide +kernel
theorem dX9_either_11 : decode cX9_either 11 = .ok (.aload_n 0, 1) := by decide +kernel
theorem dX9_either_12 : decode cX9_either 12 = .ok (.invokevirtual 211, 3) := by decide +kernel
theorem dX9_either_15 : decode cX9_either 15 = .ok (.bipush 124, 2) := by decide +kernel
theorem dX9_either_17 : decode cX9_either 17 = .ok (.if_icmp .ne 27, 3) := by decide +kernel
theorem dX9_either_20 : decode cX9_either 20 = .ok (.aload_n 0, 1) := by decide +kernel
theorem dX9_either_21 : decode cX9_either 21 = .ok (.dup, 1) := by decide +kernel
theorem dX9_either_22 : decode cX9_either 22 = .ok (.getfield 196, 3) := by decide +kernel
theorem dX9_either_25 : decode cX9_either 25 = .ok (.iconst 1, 1) := by decide +kernel
theorem dX9_either_26 : decode cX9_either 26 = .ok (.iadd, 1) := by decide +kernel
theorem dX9_either_27 : decode cX9_either 27 = .ok (.putfield 196, 3) := by decide +kernel
theorem dX9_either_30 : decode cX9_either 30 = .ok (.aload_n 0, 1) := by decide +kernel
theorem dX9_either_31 : decode cX9_either 31 = .ok (.invokevirtual 245, 3) := by decide +kernel
theorem dX9_either_34 : decode cX9_either 34 = .ok (.aload_n 0, 1) := by decide +kernel
theorem dX9_either_35 : decode cX9_either 35 = .ok (.bipush 124, 2) := by decide +kernel
theorem dX9_either_37 : decode cX9_either 37 = .ok (.iconst 0, 1) := by decide +kernel
theorem dX9_either_38 : decode cX9_either 38 = .ok (.invokevirtual 215, 3) := by decide +kernel
theorem dX9_either_41 : decode cX9_either 41 = .ok (.goto (-37), 3) := by decide +kernel
theorem dX9_either_44 : decode cX9_either 44 = .ok (.return_, 1) := by decide +kernel
theorem dX9_line_0 : decode cX9_line 0 = .ok (.bipush 61, 2) := by decide +kernel
theorem dX9_line_2 : decode cX9_line 2 = .ok (.aload_n 0, 1) := by decide +kernel
theorem dX9_line_3 : decode cX9_line 3 = .ok (.getfield 65, 3) := by decide +kernel
theorem dX9_line_6 : decode cX9_line 6 = .ok (.iconst 1, 1) := by decide +kernel
theorem dX9_line_7 : decode cX9_line 7 = .ok (.iaload, 1) := by decide +kernel
theorem dX9_line_8 : decode cX9_line 8 = .ok (.iadd, 1) := by decide +kernel
theorem dX9_line_9 : decode cX9_line 9 = .ok (.istore_n 1, 1) := by decide +kernel
theorem dX9_line_10 : decode cX9_line 10 = .ok (.aload_n 0, 1) := by decide +kernel
theorem dX9_line_11 : decode cX9_line 11 = .ok (.getfield 68, 3) := by decide +kernel
theorem dX9_line_14 : decode cX9_line 14 = .ok (.iload_n 1, 1) := by decide +kernel
theorem dX9_line_15 : decode cX9_line 15 = .ok (.aload_n 0, 1) := by decide +kernel
theorem dX9_line_16 : decode cX9_line 16 = .ok (.getfield 202, 3) := by decide +kernel
theorem dX9_line_19 : decode cX9_line 19 = .ok (.i2s, 1) := by decide +kernel
theorem dX9_line_20 : decode cX9_line 20 = .ok (.sastore, 1) := by decide +kernel
theorem dX9_line_21 : decode cX9_line 21 = .ok (.aload_n 0, 1) := by decide +kernel
theorem dX9_line_22 : decode cX9_line 22 = .ok (.invokevirtual 230, 3) := by decide +kernel
theorem dX9_line_25 : decode cX9_line 25 = .ok (.aload_n 0, 1) := by decide +kernel
theorem dX9_line_26 : decode cX9_line 26 = .ok (.getfield 199, 3) := by decide +kernel
theorem dX9_line_29 : decode cX9_line 29 = .ok (.ifCond .ge 37, 3) := by decide +kernel
theorem dX9_line_32 : decode cX9_line 32 = .ok (.aload_n 0, 1) := by decide +kernel
theorem dX9_line_33 : decode cX9_line 33 = .ok (.invokevirtual 211, 3) := by decide +kernel
theorem dX9_line_36 : decode cX9_line 36 = .ok (.bipush 63, 2) := by decide +kernel
theorem dX9_line_38 : decode cX9_line 38 = .ok (.if_icmp .ne 28, 3) := by decide +kernel
theorem dX9_line_41 : decode cX9_line 41 = .ok (.aload_n 0, 1) := by decide +kernel
theorem dX9_line_42 : decode cX9_line 42 = .ok (.dup, 1) := by decide +kernel
theorem dX9_line_43 : decode cX9_line 43 = .ok (.getfield 196, 3) := by decide +kernel
theorem dX9_line_46 : decode cX9_line 46 = .ok (.iconst 1, 1) := by decide +kernel
theorem dX9_line_47 : decode cX9_line 47 = .ok (.iadd, 1) := by decide +kernel
theorem dX9_line_48 : decode cX9_line 48 = .ok (.putfield 196, 3) := by decide +kernel
theorem dX9_line_51 : decode cX9_line 51 = .ok (.aload_n 0, 1) := by decide +kernel
theorem dX9_line_52 : decode cX9_line 52 = .ok (.getfield 68, 3) := by decide +kernel
theorem dX9_line_55 : decode cX9_line 55 = .ok (.iload_n 1, 1) := by decide +kernel
theorem dX9_line_56 : decode cX9_line 56 = .ok (.aload_n 0, 1) := by decide +kernel
theorem dX9_line_57 : decode cX9_line 57 = .ok (.getfield 202, 3) := by decide +kernel
theorem dX9_line_60 : decode cX9_line 60 = .ok (.i2s, 1) := by decide +kernel
theorem dX9_line_61 : decode cX9_line 61 = .ok (.sastore, 1) := by decide +kernel
theorem dX9_line_62 : decode cX9_line 62 = .ok (.aload_n 0, 1) := by decide +kernel
theorem dX9_line_63 : decode cX9_line 63 = .ok (.invokevirtual 230, 3) := by decide +kernel
theorem dX9_line_66 : decode cX9_line 66 = .ok (.aload_n 0, 1) := by decide +kernel
theorem dX9_line_67 : decode cX9_line 67 = .ok (.getfield 72, 3) := by decide +kernel
theorem dX9_line_70 : decode cX9_line 70 = .ok (.iload_n 1, 1) := by decide +kernel
theorem dX9_line_71 : decode cX9_line 71 = .ok (.aload_n 0, 1) := by decide +kernel
theorem dX9_line_72 : decode cX9_line 72 = .ok (.getfield 202, 3) := by decide +kernel
theorem dX9_line_75 : decode cX9_line 75 = .ok (.i2s, 1) := by decide +kernel
theorem dX9_line_76 : decode cX9_line 76 = .ok (.sastore, 1) := by decide +kernel
theorem dX9_line_77 : decode cX9_line 77 = .ok (.aload_n 0, 1) := by decide +kernel
theorem dX9_line_78 : decode cX9_line 78 = .ok (.getfield 65, 3) := by decide +kernel
theorem dX9_line_81 : decode cX9_line 81 = .ok (.iconst 1, 1) := by decide +kernel
theorem dX9_line_82 : decode cX9_line 82 = .ok (.dup2, 1) := by decide +kernel
theorem dX9_line_83 : decode cX9_line 83 = .ok (.iaload, 1) := by decide +kernel
theorem dX9_line_84 : decode cX9_line 84 = .ok (.iconst 1, 1) := by decide +kernel
theorem dX9_line_85 : decode cX9_line 85 = .ok (.iadd, 1) := by decide +kernel
theorem dX9_line_86 : decode cX9_line 86 = .ok (.iastore, 1) := by decide +kernel
theorem dX9_line_87 : decode cX9_line 87 = .ok (.return_, 1) := by decide +kernel
theorem dX9_readText_0 : decode cX9_readText 0 = .ok (.aload_n 0, 1) := by decide +kernel
theorem dX9_readText_1 : decode cX9_readText 1 = .ok (.iconst 0, 1) := by decide +kernel
theorem dX9_readText_2 : decode cX9_readText 2 = .ok (.putfield 196, 3) := by decide +kernel
theorem dX9_readText_5 : decode cX9_readText 5 = .ok (.aload_n 0, 1) := by decide +kernel
theorem dX9_readText_6 : decode cX9_readText 6 = .ok (.iconst (-1), 1) := by decide +kernel
theorem dX9_readText_7 : decode cX9_readText 7 = .ok (.putfield 199, 3) := by decide +kernel
theorem dX9_readText_10 : decode cX9_readText 10 = .ok (.aload_n 0, 1) := by decide +kernel
theorem dX9_readText_11 : decode cX9_readText 11 = .ok (.iconst 0, 1) := by decide +kernel
theorem dX9_readText_12 : decode cX9_readText 12 = .ok (.putfield 205, 3) := by decide +kernel
theorem dX9_readText_15 : decode cX9_readText 15 = .ok (.aload_n 0, 1) := by decide +kernel
theorem dX9_readText_16 : decode cX9_readText 16 = .ok (.iconst 0, 1) := by decide +kernel
theorem dX9_readText_17 : decode cX9_readText 17 = .ok (.putfield 202, 3) := by decide +kernel
theorem dX9_readText_20 : decode cX9_readText 20 = .ok (.aload_n 0, 1) := by decide +kernel
theorem dX9_readText_21 : decode cX9_readText 21 = .ok (.getfield 65, 3) := by decide +kernel
theorem dX9_readText_24 : decode cX9_readText 24 = .ok (.iconst 1, 1) := by decide +kernel
theorem dX9_readText_25 : decode cX9_readText 25 = .ok (.iconst 0, 1) := by decide +kernel
theorem dX9_readText_26 : decode cX9_readText 26 = .ok (.iastore, 1) := by decide +kernel
theorem dX9_readText_27 : decode cX9_readText 27 = .ok (.aload_n 0, 1) := by decide +kernel
theorem dX9_readText_28 : decode cX9_readText 28 = .ok (.invokevirtual 248, 3) := by decide +kernel
theorem dX9_readText_31 : decode cX9_readText 31 = .ok (.aload_n 0, 1) := by decide +kernel
theorem dX9_readText_32 : decode cX9_readText 32 = .ok (.getfield 199, 3) := by decide +kernel
theorem dX9_readText_35 : decode cX9_readText 35 = .ok (.ifCond .ge 29, 3) := by decide +kernel
theorem dX9_readText_38 : decode cX9_readText 38 = .ok (.aload_n 0, 1) := by decide +kernel
theorem dX9_readText_39 : decode cX9_readText 39 = .ok (.invokevirtual 211, 3) := by decide +kernel
theorem dX9_readText_42 : decode cX9_readText 42 = .ok (.bipush 59, 2) := by decide +kernel
theorem dX9_readText_44 : decode cX9_readText 44 = .ok (.if_icmp .ne 20, 3) := by decide +kernel
theorem dX9_readText_47 : decode cX9_readText 47 = .ok (.aload_n 0, 1) := by decide +kernel
theorem dX9_readText_48 : decode cX9_readText 48 = .ok (.dup, 1) := by decide +kernel
theorem dX9_readText_49 : decode cX9_readText 49 = .ok (.getfield 196, 3) := by decide +kernel
theorem dX9_readText_52 : decode cX9_readText 52 = .ok (.iconst 1, 1) := by decide +kernel
theorem dX9_readText_53 : decode cX9_readText 53 = .ok (.iadd, 1) := by decide +kernel
theorem dX9_readText_54 : decode cX9_readText 54 = .ok (.putfield 196, 3) := by decide +kernel
theorem dX9_readText_57 : decode cX9_readText 57 = .ok (.aload_n 0, 1) := by decide +kernel
theorem dX9_readText_58 : decode cX9_readText 58 = .ok (.invokevirtual 248, 3) := by decide +kernel
theorem dX9_readText_61 : decode cX9_readText 61 = .ok (.goto (-30), 3) := by decide +kernel
theorem dX9_readText_64 : decode cX9_readText 64 = .ok (.aload_n 0, 1) := by decide +kernel
theorem dX9_readText_65 : decode cX9_readText 65 = .ok (.getfield 199, 3) := by decide +kernel
theorem dX9_readText_68 : decode cX9_readText 68 = .ok (.ifCond .ge 18, 3) := by decide +kernel
theorem dX9_readText_71 : decode cX9_readText 71 = .ok (.aload_n 0, 1) := by decide +kernel
theorem dX9_readText_72 : decode cX9_readText 72 = .ok (.getfield 196, 3) := by decide +kernel
theorem dX9_readText_75 : decode cX9_readText 75 = .ok (.aload_n 0, 1) := by decide +kernel
theorem dX9_readText_76 : decode cX9_readText 76 = .ok (.getfield 193, 3) := by decide +kernel
theorem dX9_readText_79 : decode cX9_readText 79 = .ok (.if_icmp .ge 7, 3) := by decide +kernel
theorem dX9_readText_82 : decode cX9_readText 82 = .ok (.aload_n 0, 1) := by decide +kernel
theorem dX9_readText_83 : decode cX9_readText 83 = .ok (.invokevirtual 208, 3) := by decide +kernel
theorem dX9_readText_86 : decode cX9_readText 86 = .ok (.aload_n 0, 1) := by decide +kernel
theorem dX9_readText_87 : decode cX9_readText 87 = .ok (.iconst 0, 1) := by decide +kernel
theorem dX9_readText_88 : decode cX9_readText 88 = .ok (.putfield 193, 3) := by decide +kernel
theorem dX9_readText_91 : decode cX9_readText 91 = .ok (.aload_n 0, 1) := by decide +kernel
theorem dX9_readText_92 : decode cX9_readText 92 = .ok (.getfield 199, 3) := by decide +kernel
theorem dX9_readText_95 : decode cX9_readText 95 = .ok (.ifCond .lt 8, 3) := by decide +kernel
theorem dX9_readText_98 : decode cX9_readText 98 = .ok (.aload_n 0, 1) := by decide +kernel
theorem dX9_readText_99 : decode cX9_readText 99 = .ok (.getfield 199, 3) := by decide +kernel
theorem dX9_readText_102 : decode cX9_readText 102 = .ok (.ireturn, 1) := by decide +kernel
theorem dX9_readText_103 : decode cX9_readText 103 = .ok (.iconst 0, 1) := by decide +kernel
theorem dX9_readText_104 : decode cX9_readText 104 = .ok (.istore_n 2, 1) := by decide +kernel
theorem dX9_readText_105 : decode cX9_readText 105 = .ok (.iload_n 2, 1) := by decide +kernel
theorem dX9_readText_106 : decode cX9_readText 106 = .ok (.aload_n 0, 1) := by decide +kernel
theorem dX9_readText_107 : decode cX9_readText 107 = .ok (.getfield 202, 3) := by decide +kernel
theorem dX9_readText_110 : decode cX9_readText 110 = .ok (.if_icmp .ge 53, 3) := by decide +kernel
theorem dX9_readText_113 : decode cX9_readText 113 = .ok (.aload_n 0, 1) := by decide +kernel
theorem dX9_readText_114 : decode cX9_readText 114 = .ok (.getfield 59, 3) := by decide +kernel
theorem dX9_readText_117 : decode cX9_readText 117 = .ok (.sipush 130, 3) := by decide +kernel
theorem dX9_readText_120 : decode cX9_readText 120 = .ok (.iload_n 1, 1) := by decide +kernel
theorem dX9_readText_121 : decode cX9_readText 121 = .ok (.imul, 1) := by decide +kernel
theorem dX9_readText_122 : decode cX9_readText 122 = .ok (.iload_n 2, 1) := by decide +kernel
theorem dX9_readText_123 : decode cX9_readText 123 = .ok (.iadd, 1) := by decide +kernel
theorem dX9_readText_124 : decode cX9_readText 124 = .ok (.aload_n 0, 1) := by decide +kernel
theorem dX9_readText_125 : decode cX9_readText 125 = .ok (.getfield 59, 3) := by decide +kernel
theorem dX9_readText_128 : decode cX9_readText 128 = .ok (.sipush 130, 3) := by decide +kernel
theorem dX9_readText_131 : decode cX9_readText 131 = .ok (.iload_n 2, 1) := by decide +kernel
theorem dX9_readText_132 : decode cX9_readText 132 = .ok (.iadd, 1) := by decide +kernel
theorem dX9_readText_133 : decode cX9_readText 133 = .ok (.baload, 1) := by decide +kernel
theorem dX9_readText_134 : decode cX9_readText 134 = .ok (.bastore, 1) := by decide +kernel
theorem dX9_readText_135 : decode cX9_readText 135 = .ok (.aload_n 0, 1) := by decide +kernel
theorem dX9_readText_136 : decode cX9_readText 136 = .ok (.getfield 62, 3) := by decide +kernel
theorem dX9_readText_139 : decode cX9_readText 139 = .ok (.sipush 130, 3) := by decide +kernel
theorem dX9_readText_142 : decode cX9_readText 142 = .ok (.iload_n 1, 1) := by decide +kernel
theorem dX9_readText_143 : decode cX9_readText 143 = .ok (.imul, 1) := by decide +kernel
theorem dX9_readText_144 : decode cX9_readText 144 = .ok (.iload_n 2, 1) := by decide +kernel
theorem dX9_readText_145 : decode cX9_readText 145 = .ok (.iadd, 1) := by decide +kernel
theorem dX9_readText_146 : decode cX9_readText 146 = .ok (.aload_n 0, 1) := by decide +kernel
theorem dX9_readText_147 : decode cX9_readText 147 = .ok (.getfield 62, 3) := by decide +kernel
theorem dX9_readText_150 : decode cX9_readText 150 = .ok (.sipush 130, 3) := by decide +kernel
theorem dX9_readText_153 : decode cX9_readText 153 = .ok (.iload_n 2, 1) := by decide +kernel
theorem dX9_readText_154 : decode cX9_readText 154 = .ok (.iadd, 1) := by decide +kernel
theorem dX9_readText_155 : decode cX9_readText 155 = .ok (.iaload, 1) := by decide +kernel
theorem dX9_readText_156 : decode cX9_readText 156 = .ok (.iastore, 1) := by decide +kernel
theorem dX9_readText_157 : decode cX9_readText 157 = .ok (.iinc 2 1, 3) := by decide +kernel
theorem dX9_readText_160 : decode cX9_readText 160 = .ok (.goto (-55), 3) := by decide +kernel
theorem dX9_readText_163 : decode cX9_readText 163 = .ok (.aload_n 0, 1) := by decide +kernel
theorem dX9_readText_164 : decode cX9_readText 164 = .ok (.getfield 65, 3) := by decide +kernel
theorem dX9_readText_167 : decode cX9_readText 167 = .ok (.iload_n 1, 1) := by decide +kernel
theorem dX9_readText_168 : decode cX9_readText 168 = .ok (.aload_n 0, 1) := by decide +kernel
theorem dX9_readText_169 : decode cX9_readText 169 = .ok (.getfield 65, 3) := by decide +kernel
theorem dX9_readText_172 : decode cX9_readText 172 = .ok (.iconst 1, 1) := by decide +kernel
theorem dX9_readText_173 : decode cX9_readText 173 = .ok (.iaload, 1) := by decide +kernel
theorem dX9_readText_174 : decode cX9_readText 174 = .ok (.iastore, 1) := by decide +kernel
theorem dX9_readText_175 : decode cX9_readText 175 = .ok (.iconst 0, 1) := by decide +kernel
theorem dX9_readText_176 : decode cX9_readText 176 = .ok (.istore_n 2, 1) := by decide +kernel
theorem dX9_readText_177 : decode cX9_readText 177 = .ok (.iload_n 2, 1) := by decide +kernel
theorem dX9_readText_178 : decode cX9_readText 178 = .ok (.aload_n 0, 1) := by decide +kernel
theorem dX9_readText_179 : decode cX9_readText 179 = .ok (.getfield 65, 3) := by decide +kernel
theorem dX9_readText_182 : decode cX9_readText 182 = .ok (.iload_n 1, 1) := by decide +kernel
theorem dX9_readText_183 : decode cX9_readText 183 = .ok (.iaload, 1) := by decide +kernel
theorem dX9_readText_184 : decode cX9_readText 184 = .ok (.if_icmp .ge 49, 3) := by decide +kernel
theorem dX9_readText_187 : decode cX9_readText 187 = .ok (.aload_n 0, 1) := by decide +kernel
theorem dX9_readText_188 : decode cX9_readText 188 = .ok (.getfield 68, 3) := by decide +kernel
theorem dX9_readText_191 : decode cX9_readText 191 = .ok (.bipush 61, 2) := by decide +kernel
theorem dX9_readText_193 : decode cX9_readText 193 = .ok (.iload_n 1, 1) := by decide +kernel
theorem dX9_readText_194 : decode cX9_readText 194 = .ok (.imul, 1) := by decide +kernel
theorem dX9_readText_195 : decode cX9_readText 195 = .ok (.iload_n 2, 1) := by decide +kernel
theorem dX9_readText_196 : decode cX9_readText 196 = .ok (.iadd, 1) := by decide +kernel
theorem dX9_readText_197 : decode cX9_readText 197 = .ok (.aload_n 0, 1) := by decide +kernel
theorem dX9_readText_198 : decode cX9_readText 198 = .ok (.getfield 68, 3) := by decide +kernel
theorem dX9_readText_201 : decode cX9_readText 201 = .ok (.bipush 61, 2) := by decide +kernel
theorem dX9_readText_203 : decode cX9_readText 203 = .ok (.iload_n 2, 1) := by decide +kernel
theorem dX9_readText_204 : decode cX9_readText 204 = .ok (.iadd, 1) := by decide +kernel
theorem dX9_readText_205 : decode cX9_readText 205 = .ok (.saload, 1) := by decide +kernel
theorem dX9_readText_206 : decode cX9_readText 206 = .ok (.sastore, 1) := by decide +kernel
theorem dX9_readText_207 : decode cX9_readText 207 = .ok (.aload_n 0, 1) := by decide +kernel
theorem dX9_readText_208 : decode cX9_readText 208 = .ok (.getfield 72, 3) := by decide +kernel
theorem dX9_readText_211 : decode cX9_readText 211 = .ok (.bipush 61, 2) := by decide +kernel
theorem dX9_readText_213 : decode cX9_readText 213 = .ok (.iload_n 1, 1) := by decide +kernel
theorem dX9_readText_214 : decode cX9_readText 214 = .ok (.imul, 1) := by decide +kernel
theorem dX9_readText_215 : decode cX9_readText 215 = .ok (.iload_n 2, 1) := by decide +kernel
theorem dX9_readText_216 : decode cX9_readText 216 = .ok (.iadd, 1) := by decide +kernel
theorem dX9_readText_217 : decode cX9_readText 217 = .ok (.aload_n 0, 1) := by decide +kernel
theorem dX9_readText_218 : decode cX9_readText 218 = .ok (.getfield 72, 3) := by decide +kernel
theorem dX9_readText_221 : decode cX9_readText 221 = .ok (.bipush 61, 2) := by decide +kernel
theorem dX9_readText_223 : decode cX9_readText 223 = .ok (.iload_n 2, 1) := by decide +kernel
theorem dX9_readText_224 : decode cX9_readText 224 = .ok (.iadd, 1) := by decide +kernel
theorem dX9_readText_225 : decode cX9_readText 225 = .ok (.saload, 1) := by decide +kernel
theorem dX9_readText_226 : decode cX9_readText 226 = .ok (.sastore, 1) := by decide +kernel
theorem dX9_readText_227 : decode cX9_readText 227 = .ok (.iinc 2 1, 3) := by decide +kernel
theorem dX9_readText_230 : decode cX9_readText 230 = .ok (.goto (-53), 3) := by decide +kernel
theorem dX9_readText_233 : decode cX9_readText 233 = .ok (.iconst (-1), 1) := by decide +kernel
theorem dX9_readText_234 : decode cX9_readText 234 = .ok (.ireturn, 1) := by decide +kernel
theorem dX9_twoOf_0 : decode cX9_twoOf 0 = .ok (.iload_n 0, 1) := by decide +kernel
theorem dX9_twoOf_1 : decode cX9_twoOf 1 = .ok (.tableswitch 217 37 62 #[153, 203, 217, 217, 217, 127, 119, 217, 123, 217, 131, 217, 217, 217, 217, 217, 217, 217, 217, 217, 217, 217, 217, 170, 181, 192], 119) := by decide +kernel
theorem dX9_twoOf_120 : decode cX9_twoOf 120 = .ok (.iload_n 1, 1) := by decide +kernel
theorem dX9_twoOf_121 : decode cX9_twoOf 121 = .ok (.iload_n 2, 1) := by decide +kernel
theorem dX9_twoOf_122 : decode cX9_twoOf 122 = .ok (.iadd, 1) := by decide +kernel
theorem dX9_twoOf_123 : decode cX9_twoOf 123 = .ok (.ireturn, 1) := by decide +kernel
theorem dX9_twoOf_124 : decode cX9_twoOf 124 = .ok (.iload_n 1, 1) := by decide +kernel
theorem dX9_twoOf_125 : decode cX9_twoOf 125 = .ok (.iload_n 2, 1) := by decide +kernel
theorem dX9_twoOf_126 : decode cX9_twoOf 126 = .ok (.isub, 1) := by decide +kernel
theorem dX9_twoOf_127 : decode cX9_twoOf 127 = .ok (.ireturn, 1) := by decide +kernel
theorem dX9_twoOf_128 : decode cX9_twoOf 128 = .ok (.iload_n 1, 1) := by decide +kernel
theorem dX9_twoOf_129 : decode cX9_twoOf 129 = .ok (.iload_n 2, 1) := by decide +kernel
theorem dX9_twoOf_130 : decode cX9_twoOf 130 = .ok (.imul, 1) := by decide +kernel
theorem dX9_twoOf_131 : decode cX9_twoOf 131 = .ok (.ireturn, 1) := by decide +kernel
theorem dX9_twoOf_132 : decode cX9_twoOf 132 = .ok (.iload_n 2, 1) := by decide +kernel
theorem dX9_twoOf_133 : decode cX9_twoOf 133 = .ok (.ifCond .ne 7, 3) := by decide +kernel
theorem dX9_twoOf_136 : decode cX9_twoOf 136 = .ok (.iconst 0, 1) := by decide +kernel
theorem dX9_twoOf_137 : decode cX9_twoOf 137 = .ok (.goto 16, 3) := by decide +kernel
theorem dX9_twoOf_140 : decode cX9_twoOf 140 = .ok (.iload_n 2, 1) := by decide +kernel
theorem dX9_twoOf_141 : decode cX9_twoOf 141 = .ok (.iconst (-1), 1) := by decide +kernel
theorem dX9_twoOf_142 : decode cX9_twoOf 142 = .ok (.if_icmp .ne 8, 3) := by decide +kernel
theorem dX9_twoOf_145 : decode cX9_twoOf 145 = .ok (.iload_n 1, 1) := by decide +kernel
theorem dX9_twoOf_146 : decode cX9_twoOf 146 = .ok (.ineg, 1) := by decide +kernel
theorem dX9_twoOf_147 : decode cX9_twoOf 147 = .ok (.goto 6, 3) := by decide +kernel
theorem dX9_twoOf_150 : decode cX9_twoOf 150 = .ok (.iload_n 1, 1) := by decide +kernel
theorem dX9_twoOf_151 : decode cX9_twoOf 151 = .ok (.iload_n 2, 1) := by decide +kernel
theorem dX9_twoOf_152 : decode cX9_twoOf 152 = .ok (.idiv, 1) := by decide +kernel
theorem dX9_twoOf_153 : decode cX9_twoOf 153 = .ok (.ireturn, 1) := by decide +kernel
theorem dX9_twoOf_154 : decode cX9_twoOf 154 = .ok (.iload_n 2, 1) := by decide +kernel
theorem dX9_twoOf_155 : decode cX9_twoOf 155 = .ok (.ifCond .eq 8, 3) := by decide +kernel
theorem dX9_twoOf_158 : decode cX9_twoOf 158 = .ok (.iload_n 2, 1) := by decide +kernel
theorem dX9_twoOf_159 : decode cX9_twoOf 159 = .ok (.iconst (-1), 1) := by decide +kernel
theorem dX9_twoOf_160 : decode cX9_twoOf 160 = .ok (.if_icmp .ne 7, 3) := by decide +kernel
theorem dX9_twoOf_163 : decode cX9_twoOf 163 = .ok (.iconst 0, 1) := by decide +kernel
theorem dX9_twoOf_164 : decode cX9_twoOf 164 = .ok (.goto 6, 3) := by decide +kernel
theorem dX9_twoOf_167 : decode cX9_twoOf 167 = .ok (.iload_n 1, 1) := by decide +kernel
theorem dX9_twoOf_168 : decode cX9_twoOf 168 = .ok (.iload_n 2, 1) := by decide +kernel
theorem dX9_twoOf_169 : decode cX9_twoOf 169 = .ok (.irem, 1) := by decide +kernel
theorem dX9_twoOf_170 : decode cX9_twoOf 170 = .ok (.ireturn, 1) := by decide +kernel
theorem dX9_twoOf_171 : decode cX9_twoOf 171 = .ok (.iload_n 1, 1) := by decide +kernel
theorem dX9_twoOf_172 : decode cX9_twoOf 172 = .ok (.iload_n 2, 1) := by decide +kernel
theorem dX9_twoOf_173 : decode cX9_twoOf 173 = .ok (.if_icmp .ge 7, 3) := by decide +kernel
theorem dX9_twoOf_176 : decode cX9_twoOf 176 = .ok (.iconst 1, 1) := by decide +kernel
theorem dX9_twoOf_177 : decode cX9_twoOf 177 = .ok (.goto 4, 3) := by decide +kernel
theorem dX9_twoOf_180 : decode cX9_twoOf 180 = .ok (.iconst 0, 1) := by decide +kernel
theorem dX9_twoOf_181 : decode cX9_twoOf 181 = .ok (.ireturn, 1) := by decide +kernel
theorem dX9_twoOf_182 : decode cX9_twoOf 182 = .ok (.iload_n 1, 1) := by decide +kernel
theorem dX9_twoOf_183 : decode cX9_twoOf 183 = .ok (.iload_n 2, 1) := by decide +kernel
theorem dX9_twoOf_184 : decode cX9_twoOf 184 = .ok (.if_icmp .ne 7, 3) := by decide +kernel
theorem dX9_twoOf_187 : decode cX9_twoOf 187 = .ok (.iconst 1, 1) := by decide +kernel
theorem dX9_twoOf_188 : decode cX9_twoOf 188 = .ok (.goto 4, 3) := by decide +kernel
theorem dX9_twoOf_191 : decode cX9_twoOf 191 = .ok (.iconst 0, 1) := by decide +kernel
theorem dX9_twoOf_192 : decode cX9_twoOf 192 = .ok (.ireturn, 1) := by decide +kernel
theorem dX9_twoOf_193 : decode cX9_twoOf 193 = .ok (.iload_n 1, 1) := by decide +kernel
theorem dX9_twoOf_194 : decode cX9_twoOf 194 = .ok (.iload_n 2, 1) := by decide +kernel
theorem dX9_twoOf_195 : decode cX9_twoOf 195 = .ok (.if_icmp .le 7, 3) := by decide +kernel
theorem dX9_twoOf_198 : decode cX9_twoOf 198 = .ok (.iconst 1, 1) := by decide +kernel
theorem dX9_twoOf_199 : decode cX9_twoOf 199 = .ok (.goto 4, 3) := by decide +kernel
theorem dX9_twoOf_202 : decode cX9_twoOf 202 = .ok (.iconst 0, 1) := by decide +kernel
theorem dX9_twoOf_203 : decode cX9_twoOf 203 = .ok (.ireturn, 1) := by decide +kernel
theorem dX9_twoOf_204 : decode cX9_twoOf 204 = .ok (.iload_n 1, 1) := by decide +kernel
theorem dX9_twoOf_205 : decode cX9_twoOf 205 = .ok (.ifCond .eq 11, 3) := by decide +kernel
theorem dX9_twoOf_208 : decode cX9_twoOf 208 = .ok (.iload_n 2, 1) := by decide +kernel
theorem dX9_twoOf_209 : decode cX9_twoOf 209 = .ok (.ifCond .eq 7, 3) := by decide +kernel
theorem dX9_twoOf_212 : decode cX9_twoOf 212 = .ok (.iconst 1, 1) := by decide +kernel
theorem dX9_twoOf_213 : decode cX9_twoOf 213 = .ok (.goto 4, 3) := by decide +kernel
theorem dX9_twoOf_216 : decode cX9_twoOf 216 = .ok (.iconst 0, 1) := by decide +kernel
theorem dX9_twoOf_217 : decode cX9_twoOf 217 = .ok (.ireturn, 1) := by decide +kernel
theorem dX9_twoOf_218 : decode cX9_twoOf 218 = .ok (.iload_n 1, 1) := by decide +kernel
theorem dX9_twoOf_219 : decode cX9_twoOf 219 = .ok (.ifCond .ne 7, 3) := by decide +kernel
theorem dX9_twoOf_222 : decode cX9_twoOf 222 = .ok (.iload_n 2, 1) := by decide +kernel
theorem dX9_twoOf_223 : decode cX9_twoOf 223 = .ok (.ifCond .eq 7, 3) := by decide +kernel
theorem dX9_twoOf_226 : decode cX9_twoOf 226 = .ok (.iconst 1, 1) := by decide +kernel
theorem dX9_twoOf_227 : decode cX9_twoOf 227 = .ok (.goto 4, 3) := by decide +kernel
theorem dX9_twoOf_230 : decode cX9_twoOf 230 = .ok (.iconst 0, 1) := by decide +kernel
theorem dX9_twoOf_231 : decode cX9_twoOf 231 = .ok (.ireturn, 1) := by decide +kernel
theorem dX9_worked_0 : decode cX9_worked 0 = .ok (.iconst 0, 1) := by decide +kernel
theorem dX9_worked_1 : decode cX9_worked 1 = .ok (.istore 4, 2) := by decide +kernel
theorem dX9_worked_3 : decode cX9_worked 3 = .ok (.sipush 130, 3) := by decide +kernel
theorem dX9_worked_6 : decode cX9_worked 6 = .ok (.iload_n 1, 1) := by decide +kernel
theorem dX9_worked_7 : decode cX9_worked 7 = .ok (.imul, 1) := by decide +kernel
theorem dX9_worked_8 : decode cX9_worked 8 = .ok (.iload_n 2, 1) := by decide +kernel
theorem dX9_worked_9 : decode cX9_worked 9 = .ok (.iadd, 1) := by decide +kernel
theorem dX9_worked_10 : decode cX9_worked 10 = .ok (.istore 5, 2) := by decide +kernel
theorem dX9_worked_12 : decode cX9_worked 12 = .ok (.iload 5, 2) := by decide +kernel
theorem dX9_worked_14 : decode cX9_worked 14 = .ok (.sipush 130, 3) := by decide +kernel
theorem dX9_worked_17 : decode cX9_worked 17 = .ok (.iload_n 1, 1) := by decide +kernel
theorem dX9_worked_18 : decode cX9_worked 18 = .ok (.imul, 1) := by decide +kernel
theorem dX9_worked_19 : decode cX9_worked 19 = .ok (.iload_n 3, 1) := by decide +kernel
theorem dX9_worked_20 : decode cX9_worked 20 = .ok (.iadd, 1) := by decide +kernel
theorem dX9_worked_21 : decode cX9_worked 21 = .ok (.if_icmp .ge 167, 3) := by decide +kernel
theorem dX9_worked_24 : decode cX9_worked 24 = .ok (.aload_n 0, 1) := by decide +kernel
theorem dX9_worked_25 : decode cX9_worked 25 = .ok (.getfield 59, 3) := by decide +kernel
theorem dX9_worked_28 : decode cX9_worked 28 = .ok (.iload 5, 2) := by decide +kernel
theorem dX9_worked_30 : decode cX9_worked 30 = .ok (.baload, 1) := by decide +kernel
theorem dX9_worked_31 : decode cX9_worked 31 = .ok (.istore 6, 2) := by decide +kernel
theorem dX9_worked_33 : decode cX9_worked 33 = .ok (.iload 6, 2) := by decide +kernel
theorem dX9_worked_35 : decode cX9_worked 35 = .ok (.iconst 1, 1) := by decide +kernel
theorem dX9_worked_36 : decode cX9_worked 36 = .ok (.if_icmp .eq 9, 3) := by decide +kernel
theorem dX9_worked_39 : decode cX9_worked 39 = .ok (.iload 6, 2) := by decide +kernel
theorem dX9_worked_41 : decode cX9_worked 41 = .ok (.iconst 2, 1) := by decide +kernel
theorem dX9_worked_42 : decode cX9_worked 42 = .ok (.if_icmp .ne 44, 3) := by decide +kernel
theorem dX9_worked_45 : decode cX9_worked 45 = .ok (.aload_n 0, 1) := by decide +kernel
theorem dX9_worked_46 : decode cX9_worked 46 = .ok (.getfield 78, 3) := by decide +kernel
theorem dX9_worked_49 : decode cX9_worked 49 = .ok (.iload 4, 2) := by decide +kernel
theorem dX9_worked_51 : decode cX9_worked 51 = .ok (.iload 6, 2) := by decide +kernel
theorem dX9_worked_53 : decode cX9_worked 53 = .ok (.iconst 1, 1) := by decide +kernel
theorem dX9_worked_54 : decode cX9_worked 54 = .ok (.if_icmp .ne 13, 3) := by decide +kernel
theorem dX9_worked_57 : decode cX9_worked 57 = .ok (.aload_n 0, 1) := by decide +kernel
theorem dX9_worked_58 : decode cX9_worked 58 = .ok (.getfield 62, 3) := by decide +kernel
theorem dX9_worked_61 : decode cX9_worked 61 = .ok (.iload 5, 2) := by decide +kernel
theorem dX9_worked_63 : decode cX9_worked 63 = .ok (.iaload, 1) := by decide +kernel
theorem dX9_worked_64 : decode cX9_worked 64 = .ok (.goto 15, 3) := by decide +kernel
theorem dX9_worked_67 : decode cX9_worked 67 = .ok (.aload_n 0, 1) := by decide +kernel
theorem dX9_worked_68 : decode cX9_worked 68 = .ok (.getfield 75, 3) := by decide +kernel
theorem dX9_worked_71 : decode cX9_worked 71 = .ok (.aload_n 0, 1) := by decide +kernel
theorem dX9_worked_72 : decode cX9_worked 72 = .ok (.getfield 62, 3) := by decide +kernel
theorem dX9_worked_75 : decode cX9_worked 75 = .ok (.iload 5, 2) := by decide +kernel
theorem dX9_worked_77 : decode cX9_worked 77 = .ok (.iaload, 1) := by decide +kernel
theorem dX9_worked_78 : decode cX9_worked 78 = .ok (.iaload, 1) := by decide +kernel
theorem dX9_worked_79 : decode cX9_worked 79 = .ok (.iastore, 1) := by decide +kernel
theorem dX9_worked_80 : decode cX9_worked 80 = .ok (.iinc 4 1, 3) := by decide +kernel
theorem dX9_worked_83 : decode cX9_worked 83 = .ok (.goto 99, 3) := by decide +kernel
theorem dX9_worked_86 : decode cX9_worked 86 = .ok (.iload 6, 2) := by decide +kernel
theorem dX9_worked_88 : decode cX9_worked 88 = .ok (.iconst 3, 1) := by decide +kernel
theorem dX9_worked_89 : decode cX9_worked 89 = .ok (.if_icmp .ne 32, 3) := by decide +kernel
theorem dX9_worked_92 : decode cX9_worked 92 = .ok (.aload_n 0, 1) := by decide +kernel
theorem dX9_worked_93 : decode cX9_worked 93 = .ok (.getfield 78, 3) := by decide +kernel
theorem dX9_worked_96 : decode cX9_worked 96 = .ok (.iload 4, 2) := by decide +kernel
theorem dX9_worked_98 : decode cX9_worked 98 = .ok (.iconst 1, 1) := by decide +kernel
theorem dX9_worked_99 : decode cX9_worked 99 = .ok (.isub, 1) := by decide +kernel
theorem dX9_worked_100 : decode cX9_worked 100 = .ok (.aload_n 0, 1) := by decide +kernel
theorem dX9_worked_101 : decode cX9_worked 101 = .ok (.getfield 78, 3) := by decide +kernel
theorem dX9_worked_104 : decode cX9_worked 104 = .ok (.iload 4, 2) := by decide +kernel
theorem dX9_worked_106 : decode cX9_worked 106 = .ok (.iconst 1, 1) := by decide +kernel
theorem dX9_worked_107 : decode cX9_worked 107 = .ok (.isub, 1) := by decide +kernel
theorem dX9_worked_108 : decode cX9_worked 108 = .ok (.iaload, 1) := by decide +kernel
theorem dX9_worked_109 : decode cX9_worked 109 = .ok (.ifCond .ne 7, 3) := by decide +kernel
theorem dX9_worked_112 : decode cX9_worked 112 = .ok (.iconst 1, 1) := by decide +kernel
theorem dX9_worked_113 : decode cX9_worked 113 = .ok (.goto 4, 3) := by decide +kernel
theorem dX9_worked_116 : decode cX9_worked 116 = .ok (.iconst 0, 1) := by decide +kernel
theorem dX9_worked_117 : decode cX9_worked 117 = .ok (.iastore, 1) := by decide +kernel
theorem dX9_worked_118 : decode cX9_worked 118 = .ok (.goto 64, 3) := by decide +kernel
theorem dX9_worked_121 : decode cX9_worked 121 = .ok (.iload 6, 2) := by decide +kernel
theorem dX9_worked_123 : decode cX9_worked 123 = .ok (.iconst 4, 1) := by decide +kernel
theorem dX9_worked_124 : decode cX9_worked 124 = .ok (.if_icmp .ne 25, 3) := by decide +kernel
theorem dX9_worked_127 : decode cX9_worked 127 = .ok (.aload_n 0, 1) := by decide +kernel
theorem dX9_worked_128 : decode cX9_worked 128 = .ok (.getfield 78, 3) := by decide +kernel
theorem dX9_worked_131 : decode cX9_worked 131 = .ok (.iload 4, 2) := by decide +kernel
theorem dX9_worked_133 : decode cX9_worked 133 = .ok (.iconst 1, 1) := by decide +kernel
theorem dX9_worked_134 : decode cX9_worked 134 = .ok (.isub, 1) := by decide +kernel
theorem dX9_worked_135 : decode cX9_worked 135 = .ok (.aload_n 0, 1) := by decide +kernel
theorem dX9_worked_136 : decode cX9_worked 136 = .ok (.getfield 78, 3) := by decide +kernel
theorem dX9_worked_139 : decode cX9_worked 139 = .ok (.iload 4, 2) := by decide +kernel
theorem dX9_worked_141 : decode cX9_worked 141 = .ok (.iconst 1, 1) := by decide +kernel
theorem dX9_worked_142 : decode cX9_worked 142 = .ok (.isub, 1) := by decide +kernel
theorem dX9_worked_143 : decode cX9_worked 143 = .ok (.iaload, 1) := by decide +kernel
theorem dX9_worked_144 : decode cX9_worked 144 = .ok (.ineg, 1) := by decide +kernel
theorem dX9_worked_145 : decode cX9_worked 145 = .ok (.iastore, 1) := by decide +kernel
theorem dX9_worked_146 : decode cX9_worked 146 = .ok (.goto 36, 3) := by decide +kernel
theorem dX9_worked_149 : decode cX9_worked 149 = .ok (.iinc 4 (-1), 3) := by decide +kernel
theorem dX9_worked_152 : decode cX9_worked 152 = .ok (.aload_n 0, 1) := by decide +kernel
theorem dX9_worked_153 : decode cX9_worked 153 = .ok (.getfield 78, 3) := by decide +kernel
theorem dX9_worked_156 : decode cX9_worked 156 = .ok (.iload 4, 2) := by decide +kernel
theorem dX9_worked_158 : decode cX9_worked 158 = .ok (.iconst 1, 1) := by decide +kernel
theorem dX9_worked_159 : decode cX9_worked 159 = .ok (.isub, 1) := by decide +kernel
theorem dX9_worked_160 : decode cX9_worked 160 = .ok (.iload 6, 2) := by decide +kernel
theorem dX9_worked_162 : decode cX9_worked 162 = .ok (.aload_n 0, 1) := by decide +kernel
theorem dX9_worked_163 : decode cX9_worked 163 = .ok (.getfield 78, 3) := by decide +kernel
theorem dX9_worked_166 : decode cX9_worked 166 = .ok (.iload 4, 2) := by decide +kernel
theorem dX9_worked_168 : decode cX9_worked 168 = .ok (.iconst 1, 1) := by decide +kernel
theorem dX9_worked_169 : decode cX9_worked 169 = .ok (.isub, 1) := by decide +kernel
theorem dX9_worked_170 : decode cX9_worked 170 = .ok (.iaload, 1) := by decide +kernel
theorem dX9_worked_171 : decode cX9_worked 171 = .ok (.aload_n 0, 1) := by decide +kernel
theorem dX9_worked_172 : decode cX9_worked 172 = .ok (.getfield 78, 3) := by decide +kernel
theorem dX9_worked_175 : decode cX9_worked 175 = .ok (.iload 4, 2) := by decide +kernel
theorem dX9_worked_177 : decode cX9_worked 177 = .ok (.iaload, 1) := by decide +kernel
theorem dX9_worked_178 : decode cX9_worked 178 = .ok (.invokestatic 251, 3) := by decide +kernel
theorem dX9_worked_181 : decode cX9_worked 181 = .ok (.iastore, 1) := by decide +kernel
theorem dX9_worked_182 : decode cX9_worked 182 = .ok (.iinc 5 1, 3) := by decide +kernel
theorem dX9_worked_185 : decode cX9_worked 185 = .ok (.goto (-173), 3) := by decide +kernel
theorem dX9_worked_188 : decode cX9_worked 188 = .ok (.aload_n 0, 1) := by decide +kernel
theorem dX9_worked_189 : decode cX9_worked 189 = .ok (.getfield 78, 3) := by decide +kernel
theorem dX9_worked_192 : decode cX9_worked 192 = .ok (.iconst 0, 1) := by decide +kernel
theorem dX9_worked_193 : decode cX9_worked 193 = .ok (.iaload, 1) := by decide +kernel
theorem dX9_worked_194 : decode cX9_worked 194 = .ok (.ireturn, 1) := by decide +kernel
theorem dX9_gives_0 : decode cX9_gives 0 = .ok (.iconst 0, 1) := by decide +kernel
theorem dX9_gives_1 : decode cX9_gives 1 = .ok (.istore_n 2, 1) := by decide +kernel
theorem dX9_gives_2 : decode cX9_gives 2 = .ok (.bipush 61, 2) := by decide +kernel
theorem dX9_gives_4 : decode cX9_gives 4 = .ok (.iload_n 1, 1) := by decide +kernel
theorem dX9_gives_5 : decode cX9_gives 5 = .ok (.imul, 1) := by decide +kernel
theorem dX9_gives_6 : decode cX9_gives 6 = .ok (.istore_n 3, 1) := by decide +kernel
theorem dX9_gives_7 : decode cX9_gives 7 = .ok (.iload_n 3, 1) := by decide +kernel
theorem dX9_gives_8 : decode cX9_gives 8 = .ok (.bipush 61, 2) := by decide +kernel
theorem dX9_gives_10 : decode cX9_gives 10 = .ok (.iload_n 1, 1) := by decide +kernel
theorem dX9_gives_11 : decode cX9_gives 11 = .ok (.imul, 1) := by decide +kernel
theorem dX9_gives_12 : decode cX9_gives 12 = .ok (.aload_n 0, 1) := by decide +kernel
theorem dX9_gives_13 : decode cX9_gives 13 = .ok (.getfield 65, 3) := by decide +kernel
theorem dX9_gives_16 : decode cX9_gives 16 = .ok (.iload_n 1, 1) := by decide +kernel
theorem dX9_gives_17 : decode cX9_gives 17 = .ok (.iaload, 1) := by decide +kernel
theorem dX9_gives_18 : decode cX9_gives 18 = .ok (.iadd, 1) := by decide +kernel
theorem dX9_gives_19 : decode cX9_gives 19 = .ok (.if_icmp .ge 59, 3) := by decide +kernel
theorem dX9_gives_22 : decode cX9_gives 22 = .ok (.aload_n 0, 1) := by decide +kernel
theorem dX9_gives_23 : decode cX9_gives 23 = .ok (.getfield 68, 3) := by decide +kernel
theorem dX9_gives_26 : decode cX9_gives 26 = .ok (.iload_n 3, 1) := by decide +kernel
theorem dX9_gives_27 : decode cX9_gives 27 = .ok (.saload, 1) := by decide +kernel
theorem dX9_gives_28 : decode cX9_gives 28 = .ok (.iload_n 2, 1) := by decide +kernel
theorem dX9_gives_29 : decode cX9_gives 29 = .ok (.if_icmp .eq 18, 3) := by decide +kernel
theorem dX9_gives_32 : decode cX9_gives 32 = .ok (.aload_n 0, 1) := by decide +kernel
theorem dX9_gives_33 : decode cX9_gives 33 = .ok (.iload_n 1, 1) := by decide +kernel
theorem dX9_gives_34 : decode cX9_gives 34 = .ok (.iload_n 2, 1) := by decide +kernel
theorem dX9_gives_35 : decode cX9_gives 35 = .ok (.aload_n 0, 1) := by decide +kernel
theorem dX9_gives_36 : decode cX9_gives 36 = .ok (.getfield 68, 3) := by decide +kernel
theorem dX9_gives_39 : decode cX9_gives 39 = .ok (.iload_n 3, 1) := by decide +kernel
theorem dX9_gives_40 : decode cX9_gives 40 = .ok (.saload, 1) := by decide +kernel
theorem dX9_gives_41 : decode cX9_gives 41 = .ok (.invokevirtual 254, 3) := by decide +kernel
theorem dX9_gives_44 : decode cX9_gives 44 = .ok (.ifCond .eq 21, 3) := by decide +kernel
theorem dX9_gives_47 : decode cX9_gives 47 = .ok (.aload_n 0, 1) := by decide +kernel
theorem dX9_gives_48 : decode cX9_gives 48 = .ok (.iload_n 1, 1) := by decide +kernel
theorem dX9_gives_49 : decode cX9_gives 49 = .ok (.aload_n 0, 1) := by decide +kernel
theorem dX9_gives_50 : decode cX9_gives 50 = .ok (.getfield 68, 3) := by decide +kernel
theorem dX9_gives_53 : decode cX9_gives 53 = .ok (.iload_n 3, 1) := by decide +kernel
theorem dX9_gives_54 : decode cX9_gives 54 = .ok (.saload, 1) := by decide +kernel
theorem dX9_gives_55 : decode cX9_gives 55 = .ok (.aload_n 0, 1) := by decide +kernel
theorem dX9_gives_56 : decode cX9_gives 56 = .ok (.getfield 72, 3) := by decide +kernel
theorem dX9_gives_59 : decode cX9_gives 59 = .ok (.iload_n 3, 1) := by decide +kernel
theorem dX9_gives_60 : decode cX9_gives 60 = .ok (.saload, 1) := by decide +kernel
theorem dX9_gives_61 : decode cX9_gives 61 = .ok (.invokevirtual 254, 3) := by decide +kernel
theorem dX9_gives_64 : decode cX9_gives 64 = .ok (.ireturn, 1) := by decide +kernel
theorem dX9_gives_65 : decode cX9_gives 65 = .ok (.aload_n 0, 1) := by decide +kernel
theorem dX9_gives_66 : decode cX9_gives 66 = .ok (.getfield 72, 3) := by decide +kernel
theorem dX9_gives_69 : decode cX9_gives 69 = .ok (.iload_n 3, 1) := by decide +kernel
theorem dX9_gives_70 : decode cX9_gives 70 = .ok (.saload, 1) := by decide +kernel
theorem dX9_gives_71 : decode cX9_gives 71 = .ok (.istore_n 2, 1) := by decide +kernel
theorem dX9_gives_72 : decode cX9_gives 72 = .ok (.iinc 3 1, 3) := by decide +kernel
theorem dX9_gives_75 : decode cX9_gives 75 = .ok (.goto (-68), 3) := by decide +kernel
theorem dX9_gives_78 : decode cX9_gives 78 = .ok (.iconst 0, 1) := by decide +kernel
theorem dX9_gives_79 : decode cX9_gives 79 = .ok (.ireturn, 1) := by decide +kernel
theorem dX9_law_0 : decode cX9_law 0 = .ok (.aload_n 0, 1) := by decide +kernel
theorem dX9_law_1 : decode cX9_law 1 = .ok (.iconst 0, 1) := by decide +kernel
theorem dX9_law_2 : decode cX9_law 2 = .ok (.invokevirtual 257, 3) := by decide +kernel
theorem dX9_law_5 : decode cX9_law 5 = .ok (.istore_n 1, 1) := by decide +kernel
theorem dX9_law_6 : decode cX9_law 6 = .ok (.iload_n 1, 1) := by decide +kernel
theorem dX9_law_7 : decode cX9_law 7 = .ok (.ifCond .lt 8, 3) := by decide +kernel
theorem dX9_law_10 : decode cX9_law 10 = .ok (.bipush (-100), 2) := by decide +kernel
theorem dX9_law_12 : decode cX9_law 12 = .ok (.iload_n 1, 1) := by decide +kernel
theorem dX9_law_13 : decode cX9_law 13 = .ok (.isub, 1) := by decide +kernel
theorem dX9_law_14 : decode cX9_law 14 = .ok (.ireturn, 1) := by decide +kernel
theorem dX9_law_15 : decode cX9_law 15 = .ok (.aload_n 0, 1) := by decide +kernel
theorem dX9_law_16 : decode cX9_law 16 = .ok (.iconst 1, 1) := by decide +kernel
theorem dX9_law_17 : decode cX9_law 17 = .ok (.putfield 260, 3) := by decide +kernel
theorem dX9_law_20 : decode cX9_law 20 = .ok (.iconst 1, 1) := by decide +kernel
theorem dX9_law_21 : decode cX9_law 21 = .ok (.ireturn, 1) := by decide +kernel
theorem dX9_passesBy_0 : decode cX9_passesBy 0 = .ok (.aload_n 0, 1) := by decide +kernel
theorem dX9_passesBy_1 : decode cX9_passesBy 1 = .ok (.getfield 260, 3) := by decide +kernel
theorem dX9_passesBy_4 : decode cX9_passesBy 4 = .ok (.ifCond .ne 31, 3) := by decide +kernel
theorem dX9_passesBy_7 : decode cX9_passesBy 7 = .ok (.aload_n 0, 1) := by decide +kernel
theorem dX9_passesBy_8 : decode cX9_passesBy 8 = .ok (.getfield 9, 3) := by decide +kernel
theorem dX9_passesBy_11 : decode cX9_passesBy 11 = .ok (.iload_n 1, 1) := by decide +kernel
theorem dX9_passesBy_12 : decode cX9_passesBy 12 = .ok (.iaload, 1) := by decide +kernel
theorem dX9_passesBy_13 : decode cX9_passesBy 13 = .ok (.aload_n 0, 1) := by decide +kernel
theorem dX9_passesBy_14 : decode cX9_passesBy 14 = .ok (.getfield 15, 3) := by decide +kernel
theorem dX9_passesBy_17 : decode cX9_passesBy 17 = .ok (.iload_n 1, 1) := by decide +kernel
theorem dX9_passesBy_18 : decode cX9_passesBy 18 = .ok (.iaload, 1) := by decide +kernel
theorem dX9_passesBy_19 : decode cX9_passesBy 19 = .ok (.iadd, 1) := by decide +kernel
theorem dX9_passesBy_20 : decode cX9_passesBy 20 = .ok (.aload_n 0, 1) := by decide +kernel
theorem dX9_passesBy_21 : decode cX9_passesBy 21 = .ok (.getfield 39, 3) := by decide +kernel
theorem dX9_passesBy_24 : decode cX9_passesBy 24 = .ok (.iload_n 2, 1) := by decide +kernel
theorem dX9_passesBy_25 : decode cX9_passesBy 25 = .ok (.isub, 1) := by decide +kernel
theorem dX9_passesBy_26 : decode cX9_passesBy 26 = .ok (.if_icmp .gt 7, 3) := by decide +kernel
theorem dX9_passesBy_29 : decode cX9_passesBy 29 = .ok (.iconst 1, 1) := by decide +kernel
theorem dX9_passesBy_30 : decode cX9_passesBy 30 = .ok (.goto 4, 3) := by decide +kernel
theorem dX9_passesBy_33 : decode cX9_passesBy 33 = .ok (.iconst 0, 1) := by decide +kernel
theorem dX9_passesBy_34 : decode cX9_passesBy 34 = .ok (.ireturn, 1) := by decide +kernel
theorem dX9_passesBy_35 : decode cX9_passesBy 35 = .ok (.aload_n 0, 1) := by decide +kernel
theorem dX9_passesBy_36 : decode cX9_passesBy 36 = .ok (.getfield 75, 3) := by decide +kernel
theorem dX9_passesBy_39 : decode cX9_passesBy 39 = .ok (.iconst 0, 1) := by decide +kernel
theorem dX9_passesBy_40 : decode cX9_passesBy 40 = .ok (.aload_n 0, 1) := by decide +kernel
theorem dX9_passesBy_41 : decode cX9_passesBy 41 = .ok (.getfield 9, 3) := by decide +kernel
theorem dX9_passesBy_44 : decode cX9_passesBy 44 = .ok (.iload_n 1, 1) := by decide +kernel
theorem dX9_passesBy_45 : decode cX9_passesBy 45 = .ok (.iaload, 1) := by decide +kernel
theorem dX9_passesBy_46 : decode cX9_passesBy 46 = .ok (.iastore, 1) := by decide +kernel
theorem dX9_passesBy_47 : decode cX9_passesBy 47 = .ok (.aload_n 0, 1) := by decide +kernel
theorem dX9_passesBy_48 : decode cX9_passesBy 48 = .ok (.getfield 75, 3) := by decide +kernel
theorem dX9_passesBy_51 : decode cX9_passesBy 51 = .ok (.iconst 1, 1) := by decide +kernel
theorem dX9_passesBy_52 : decode cX9_passesBy 52 = .ok (.aload_n 0, 1) := by decide +kernel
theorem dX9_passesBy_53 : decode cX9_passesBy 53 = .ok (.getfield 15, 3) := by decide +kernel
theorem dX9_passesBy_56 : decode cX9_passesBy 56 = .ok (.iload_n 1, 1) := by decide +kernel
theorem dX9_passesBy_57 : decode cX9_passesBy 57 = .ok (.iaload, 1) := by decide +kernel
theorem dX9_passesBy_58 : decode cX9_passesBy 58 = .ok (.iastore, 1) := by decide +kernel
theorem dX9_passesBy_59 : decode cX9_passesBy 59 = .ok (.aload_n 0, 1) := by decide +kernel
theorem dX9_passesBy_60 : decode cX9_passesBy 60 = .ok (.getfield 75, 3) := by decide +kernel
theorem dX9_passesBy_63 : decode cX9_passesBy 63 = .ok (.iconst 2, 1) := by decide +kernel
theorem dX9_passesBy_64 : decode cX9_passesBy 64 = .ok (.aload_n 0, 1) := by decide +kernel
theorem dX9_passesBy_65 : decode cX9_passesBy 65 = .ok (.getfield 18, 3) := by decide +kernel
theorem dX9_passesBy_68 : decode cX9_passesBy 68 = .ok (.iload_n 1, 1) := by decide +kernel
theorem dX9_passesBy_69 : decode cX9_passesBy 69 = .ok (.iaload, 1) := by decide +kernel
theorem dX9_passesBy_70 : decode cX9_passesBy 70 = .ok (.iastore, 1) := by decide +kernel
theorem dX9_passesBy_71 : decode cX9_passesBy 71 = .ok (.aload_n 0, 1) := by decide +kernel
theorem dX9_passesBy_72 : decode cX9_passesBy 72 = .ok (.getfield 75, 3) := by decide +kernel
theorem dX9_passesBy_75 : decode cX9_passesBy 75 = .ok (.iconst 3, 1) := by decide +kernel
theorem dX9_passesBy_76 : decode cX9_passesBy 76 = .ok (.iload_n 2, 1) := by decide +kernel
theorem dX9_passesBy_77 : decode cX9_passesBy 77 = .ok (.iastore, 1) := by decide +kernel
theorem dX9_passesBy_78 : decode cX9_passesBy 78 = .ok (.aload_n 0, 1) := by decide +kernel
theorem dX9_passesBy_79 : decode cX9_passesBy 79 = .ok (.getfield 75, 3) := by decide +kernel
theorem dX9_passesBy_82 : decode cX9_passesBy 82 = .ok (.iconst 4, 1) := by decide +kernel
theorem dX9_passesBy_83 : decode cX9_passesBy 83 = .ok (.iload_n 3, 1) := by decide +kernel
theorem dX9_passesBy_84 : decode cX9_passesBy 84 = .ok (.iastore, 1) := by decide +kernel
theorem dX9_passesBy_85 : decode cX9_passesBy 85 = .ok (.aload_n 0, 1) := by decide +kernel
theorem dX9_passesBy_86 : decode cX9_passesBy 86 = .ok (.getfield 75, 3) := by decide +kernel
theorem dX9_passesBy_89 : decode cX9_passesBy 89 = .ok (.iconst 5, 1) := by decide +kernel
theorem dX9_passesBy_90 : decode cX9_passesBy 90 = .ok (.iload 4, 2) := by decide +kernel
theorem dX9_passesBy_92 : decode cX9_passesBy 92 = .ok (.iastore, 1) := by decide +kernel
theorem dX9_passesBy_93 : decode cX9_passesBy 93 = .ok (.aload_n 0, 1) := by decide +kernel
theorem dX9_passesBy_94 : decode cX9_passesBy 94 = .ok (.iconst 0, 1) := by decide +kernel
theorem dX9_passesBy_95 : decode cX9_passesBy 95 = .ok (.invokevirtual 264, 3) := by decide +kernel
theorem dX9_passesBy_98 : decode cX9_passesBy 98 = .ok (.ifCond .le 7, 3) := by decide +kernel
theorem dX9_passesBy_101 : decode cX9_passesBy 101 = .ok (.iconst 1, 1) := by decide +kernel
theorem dX9_passesBy_102 : decode cX9_passesBy 102 = .ok (.goto 4, 3) := by decide +kernel
theorem dX9_passesBy_105 : decode cX9_passesBy 105 = .ok (.iconst 0, 1) := by decide +kernel
theorem dX9_passesBy_106 : decode cX9_passesBy 106 = .ok (.ireturn, 1) := by decide +kernel
theorem dX9_passes_0 : decode cX9_passes 0 = .ok (.iload_n 2, 1) := by decide +kernel
theorem dX9_passes_1 : decode cX9_passes 1 = .ok (.ifCond .lt 20, 3) := by decide +kernel
theorem dX9_passes_4 : decode cX9_passes 4 = .ok (.aload_n 0, 1) := by decide +kernel
theorem dX9_passes_5 : decode cX9_passes 5 = .ok (.iload_n 1, 1) := by decide +kernel
theorem dX9_passes_6 : decode cX9_passes 6 = .ok (.aload_n 0, 1) := by decide +kernel
theorem dX9_passes_7 : decode cX9_passes 7 = .ok (.getfield 27, 3) := by decide +kernel
theorem dX9_passes_10 : decode cX9_passes 10 = .ok (.iload_n 2, 1) := by decide +kernel
theorem dX9_passes_11 : decode cX9_passes 11 = .ok (.iaload, 1) := by decide +kernel
theorem dX9_passes_12 : decode cX9_passes 12 = .ok (.iload_n 3, 1) := by decide +kernel
theorem dX9_passes_13 : decode cX9_passes 13 = .ok (.iload 4, 2) := by decide +kernel
theorem dX9_passes_15 : decode cX9_passes 15 = .ok (.invokevirtual 267, 3) := by decide +kernel
theorem dX9_passes_18 : decode cX9_passes 18 = .ok (.ifCond .eq 7, 3) := by decide +kernel
theorem dX9_passes_21 : decode cX9_passes 21 = .ok (.iconst 1, 1) := by decide +kernel
theorem dX9_passes_22 : decode cX9_passes 22 = .ok (.goto 4, 3) := by decide +kernel
theorem dX9_passes_25 : decode cX9_passes 25 = .ok (.iconst 0, 1) := by decide +kernel
theorem dX9_passes_26 : decode cX9_passes 26 = .ok (.ireturn, 1) := by decide +kernel
theorem dX9_lets_0 : decode cX9_lets 0 = .ok (.iload_n 1, 1) := by decide +kernel
theorem dX9_lets_1 : decode cX9_lets 1 = .ok (.ifCond .lt 36, 3) := by decide +kernel
theorem dX9_lets_4 : decode cX9_lets 4 = .ok (.aload_n 0, 1) := by decide +kernel
theorem dX9_lets_5 : decode cX9_lets 5 = .ok (.iload_n 1, 1) := by decide +kernel
theorem dX9_lets_6 : decode cX9_lets 6 = .ok (.bipush 10, 2) := by decide +kernel
theorem dX9_lets_8 : decode cX9_lets 8 = .ok (.idiv, 1) := by decide +kernel
theorem dX9_lets_9 : decode cX9_lets 9 = .ok (.invokevirtual 177, 3) := by decide +kernel
theorem dX9_lets_12 : decode cX9_lets 12 = .ok (.ifCond .eq 25, 3) := by decide +kernel
theorem dX9_lets_15 : decode cX9_lets 15 = .ok (.aload_n 0, 1) := by decide +kernel
theorem dX9_lets_16 : decode cX9_lets 16 = .ok (.iload_n 1, 1) := by decide +kernel
theorem dX9_lets_17 : decode cX9_lets 17 = .ok (.bipush 10, 2) := by decide +kernel
theorem dX9_lets_19 : decode cX9_lets 19 = .ok (.irem, 1) := by decide +kernel
theorem dX9_lets_20 : decode cX9_lets 20 = .ok (.invokevirtual 180, 3) := by decide +kernel
theorem dX9_lets_23 : decode cX9_lets 23 = .ok (.ifCond .eq 14, 3) := by decide +kernel
theorem dX9_lets_26 : decode cX9_lets 26 = .ok (.iload_n 2, 1) := by decide +kernel
theorem dX9_lets_27 : decode cX9_lets 27 = .ok (.iconst 0, 1) := by decide +kernel
theorem dX9_lets_28 : decode cX9_lets 28 = .ok (.sipush 9999, 3) := by decide +kernel
theorem dX9_lets_31 : decode cX9_lets 31 = .ok (.invokestatic 143, 3) := by decide +kernel
theorem dX9_lets_34 : decode cX9_lets 34 = .ok (.ifCond .ne 5, 3) := by decide +kernel
theorem dX9_lets_37 : decode cX9_lets 37 = .ok (.iconst (-1), 1) := by decide +kernel
theorem dX9_lets_38 : decode cX9_lets 38 = .ok (.ireturn, 1) := by decide +kernel
theorem dX9_lets_39 : decode cX9_lets 39 = .ok (.aload_n 0, 1) := by decide +kernel
theorem dX9_lets_40 : decode cX9_lets 40 = .ok (.iload_n 1, 1) := by decide +kernel
theorem dX9_lets_41 : decode cX9_lets 41 = .ok (.bipush 10, 2) := by decide +kernel
theorem dX9_lets_43 : decode cX9_lets 43 = .ok (.idiv, 1) := by decide +kernel
theorem dX9_lets_44 : decode cX9_lets 44 = .ok (.iload_n 1, 1) := by decide +kernel
theorem dX9_lets_45 : decode cX9_lets 45 = .ok (.bipush 10, 2) := by decide +kernel
theorem dX9_lets_47 : decode cX9_lets 47 = .ok (.irem, 1) := by decide +kernel
theorem dX9_lets_48 : decode cX9_lets 48 = .ok (.iload_n 2, 1) := by decide +kernel
theorem dX9_lets_49 : decode cX9_lets 49 = .ok (.bipush 100, 2) := by decide +kernel
theorem dX9_lets_51 : decode cX9_lets 51 = .ok (.idiv, 1) := by decide +kernel
theorem dX9_lets_52 : decode cX9_lets 52 = .ok (.iload_n 2, 1) := by decide +kernel
theorem dX9_lets_53 : decode cX9_lets 53 = .ok (.bipush 100, 2) := by decide +kernel
theorem dX9_lets_55 : decode cX9_lets 55 = .ok (.irem, 1) := by decide +kernel
theorem dX9_lets_56 : decode cX9_lets 56 = .ok (.invokevirtual 271, 3) := by decide +kernel
theorem dX9_lets_59 : decode cX9_lets 59 = .ok (.ifCond .eq 7, 3) := by decide +kernel
theorem dX9_lets_62 : decode cX9_lets 62 = .ok (.iconst 1, 1) := by decide +kernel
theorem dX9_lets_63 : decode cX9_lets 63 = .ok (.goto 4, 3) := by decide +kernel
theorem dX9_lets_66 : decode cX9_lets 66 = .ok (.iconst 0, 1) := by decide +kernel
theorem dX9_lets_67 : decode cX9_lets 67 = .ok (.ireturn, 1) := by decide +kernel
theorem dX9_rowFault_0 : decode cX9_rowFault 0 = .ok (.aload_n 0, 1) := by decide +kernel
theorem dX9_rowFault_1 : decode cX9_rowFault 1 = .ok (.getfield 125, 3) := by decide +kernel
theorem dX9_rowFault_4 : decode cX9_rowFault 4 = .ok (.iload_n 1, 1) := by decide +kernel
theorem dX9_rowFault_5 : decode cX9_rowFault 5 = .ok (.iaload, 1) := by decide +kernel
theorem dX9_rowFault_6 : decode cX9_rowFault 6 = .ok (.iconst (-1), 1) := by decide +kernel
theorem dX9_rowFault_7 : decode cX9_rowFault 7 = .ok (.if_icmp .ne 8, 3) := by decide +kernel
theorem dX9_rowFault_10 : decode cX9_rowFault 10 = .ok (.bipush (-11), 2) := by decide +kernel
theorem dX9_rowFault_12 : decode cX9_rowFault 12 = .ok (.goto 20, 3) := by decide +kernel
theorem dX9_rowFault_15 : decode cX9_rowFault 15 = .ok (.aload_n 0, 1) := by decide +kernel
theorem dX9_rowFault_16 : decode cX9_rowFault 16 = .ok (.getfield 125, 3) := by decide +kernel
theorem dX9_rowFault_19 : decode cX9_rowFault 19 = .ok (.iload_n 1, 1) := by decide +kernel
theorem dX9_rowFault_20 : decode cX9_rowFault 20 = .ok (.iaload, 1) := by decide +kernel
theorem dX9_rowFault_21 : decode cX9_rowFault 21 = .ok (.bipush (-2), 2) := by decide +kernel
theorem dX9_rowFault_23 : decode cX9_rowFault 23 = .ok (.if_icmp .ne 7, 3) := by decide +kernel
theorem dX9_rowFault_26 : decode cX9_rowFault 26 = .ok (.iconst 0, 1) := by decide +kernel
theorem dX9_rowFault_27 : decode cX9_rowFault 27 = .ok (.goto 5, 3) := by decide +kernel
theorem dX9_rowFault_30 : decode cX9_rowFault 30 = .ok (.bipush (-12), 2) := by decide +kernel
theorem dX9_rowFault_32 : decode cX9_rowFault 32 = .ok (.ireturn, 1) := by decide +kernel
theorem dX9_at_0 : decode cX9_at 0 = .ok (.aload_n 0, 1) := by decide +kernel
theorem dX9_at_1 : decode cX9_at 1 = .ok (.getfield 131, 3) := by decide +kernel
theorem dX9_at_4 : decode cX9_at 4 = .ok (.bipush 60, 2) := by decide +kernel
theorem dX9_at_6 : decode cX9_at 6 = .ok (.iload_n 1, 1) := by decide +kernel
theorem dX9_at_7 : decode cX9_at 7 = .ok (.imul, 1) := by decide +kernel
theorem dX9_at_8 : decode cX9_at 8 = .ok (.iload_n 2, 1) := by decide +kernel
theorem dX9_at_9 : decode cX9_at 9 = .ok (.iadd, 1) := by decide +kernel
theorem dX9_at_10 : decode cX9_at 10 = .ok (.laload, 1) := by decide +kernel
theorem dX9_at_11 : decode cX9_at 11 = .ok (.l2i, 1) := by decide +kernel
theorem dX9_at_12 : decode cX9_at 12 = .ok (.ireturn, 1) := by decide +kernel
theorem dX9_laySaying_0 : decode cX9_laySaying 0 = .ok (.aload_n 0, 1) := by decide +kernel
theorem dX9_laySaying_1 : decode cX9_laySaying 1 = .ok (.iconst 0, 1) := by decide +kernel
theorem dX9_laySaying_2 : decode cX9_laySaying 2 = .ok (.putfield 274, 3) := by decide +kernel
theorem dX9_laySaying_5 : decode cX9_laySaying 5 = .ok (.aload_n 0, 1) := by decide +kernel
theorem dX9_laySaying_6 : decode cX9_laySaying 6 = .ok (.getfield 274, 3) := by decide +kernel
theorem dX9_laySaying_9 : decode cX9_laySaying 9 = .ok (.bipush 12, 2) := by decide +kernel
theorem dX9_laySaying_11 : decode cX9_laySaying 11 = .ok (.if_icmp .ge 63, 3) := by decide +kernel
theorem dX9_laySaying_14 : decode cX9_laySaying 14 = .ok (.aload_n 0, 1) := by decide +kernel
theorem dX9_laySaying_15 : decode cX9_laySaying 15 = .ok (.getfield 274, 3) := by decide +kernel
theorem dX9_laySaying_18 : decode cX9_laySaying 18 = .ok (.aload_n 0, 1) := by decide +kernel
theorem dX9_laySaying_19 : decode cX9_laySaying 19 = .ok (.getfield 128, 3) := by decide +kernel
theorem dX9_laySaying_22 : decode cX9_laySaying 22 = .ok (.iload_n 1, 1) := by decide +kernel
theorem dX9_laySaying_23 : decode cX9_laySaying 23 = .ok (.iaload, 1) := by decide +kernel
theorem dX9_laySaying_24 : decode cX9_laySaying 24 = .ok (.if_icmp .ge 50, 3) := by decide +kernel
theorem dX9_laySaying_27 : decode cX9_laySaying 27 = .ok (.aload_n 0, 1) := by decide +kernel
theorem dX9_laySaying_28 : decode cX9_laySaying 28 = .ok (.aload_n 0, 1) := by decide +kernel
theorem dX9_laySaying_29 : decode cX9_laySaying 29 = .ok (.iload_n 1, 1) := by decide +kernel
theorem dX9_laySaying_30 : decode cX9_laySaying 30 = .ok (.aload_n 0, 1) := by decide +kernel
theorem dX9_laySaying_31 : decode cX9_laySaying 31 = .ok (.getfield 274, 3) := by decide +kernel
theorem dX9_laySaying_34 : decode cX9_laySaying 34 = .ok (.invokevirtual 277, 3) := by decide +kernel
theorem dX9_laySaying_37 : decode cX9_laySaying 37 = .ok (.invokevirtual 177, 3) := by decide +kernel
theorem dX9_laySaying_40 : decode cX9_laySaying 40 = .ok (.ifCond .eq 34, 3) := by decide +kernel
theorem dX9_laySaying_43 : decode cX9_laySaying 43 = .ok (.aload_n 0, 1) := by decide +kernel
theorem dX9_laySaying_44 : decode cX9_laySaying 44 = .ok (.getfield 81, 3) := by decide +kernel
theorem dX9_laySaying_47 : decode cX9_laySaying 47 = .ok (.aload_n 0, 1) := by decide +kernel
theorem dX9_laySaying_48 : decode cX9_laySaying 48 = .ok (.getfield 274, 3) := by decide +kernel
theorem dX9_laySaying_51 : decode cX9_laySaying 51 = .ok (.aload_n 0, 1) := by decide +kernel
theorem dX9_laySaying_52 : decode cX9_laySaying 52 = .ok (.iload_n 1, 1) := by decide +kernel
theorem dX9_laySaying_53 : decode cX9_laySaying 53 = .ok (.aload_n 0, 1) := by decide +kernel
theorem dX9_laySaying_54 : decode cX9_laySaying 54 = .ok (.getfield 274, 3) := by decide +kernel
theorem dX9_laySaying_57 : decode cX9_laySaying 57 = .ok (.invokevirtual 277, 3) := by decide +kernel
theorem dX9_laySaying_60 : decode cX9_laySaying 60 = .ok (.iastore, 1) := by decide +kernel
theorem dX9_laySaying_61 : decode cX9_laySaying 61 = .ok (.aload_n 0, 1) := by decide +kernel
theorem dX9_laySaying_62 : decode cX9_laySaying 62 = .ok (.dup, 1) := by decide +kernel
theorem dX9_laySaying_63 : decode cX9_laySaying 63 = .ok (.getfield 274, 3) := by decide +kernel
theorem dX9_laySaying_66 : decode cX9_laySaying 66 = .ok (.iconst 1, 1) := by decide +kernel
theorem dX9_laySaying_67 : decode cX9_laySaying 67 = .ok (.iadd, 1) := by decide +kernel
theorem dX9_laySaying_68 : decode cX9_laySaying 68 = .ok (.putfield 274, 3) := by decide +kernel
theorem dX9_laySaying_71 : decode cX9_laySaying 71 = .ok (.goto (-66), 3) := by decide +kernel
theorem dX9_laySaying_74 : decode cX9_laySaying 74 = .ok (.return_, 1) := by decide +kernel
theorem dX9_goThrough_0 : decode cX9_goThrough 0 = .ok (.aload_n 0, 1) := by decide +kernel
theorem dX9_goThrough_1 : decode cX9_goThrough 1 = .ok (.iconst 0, 1) := by decide +kernel
theorem dX9_goThrough_2 : decode cX9_goThrough 2 = .ok (.putfield 280, 3) := by decide +kernel
theorem dX9_goThrough_5 : decode cX9_goThrough 5 = .ok (.aload_n 0, 1) := by decide +kernel
theorem dX9_goThrough_6 : decode cX9_goThrough 6 = .ok (.iconst 0, 1) := by decide +kernel
theorem dX9_goThrough_7 : decode cX9_goThrough 7 = .ok (.putfield 283, 3) := by decide +kernel
theorem dX9_goThrough_10 : decode cX9_goThrough 10 = .ok (.iconst 0, 1) := by decide +kernel
theorem dX9_goThrough_11 : decode cX9_goThrough 11 = .ok (.istore_n 3, 1) := by decide +kernel
theorem dX9_goThrough_12 : decode cX9_goThrough 12 = .ok (.iload_n 3, 1) := by decide +kernel
theorem dX9_goThrough_13 : decode cX9_goThrough 13 = .ok (.aload_n 0, 1) := by decide +kernel
theorem dX9_goThrough_14 : decode cX9_goThrough 14 = .ok (.getfield 274, 3) := by decide +kernel
theorem dX9_goThrough_17 : decode cX9_goThrough 17 = .ok (.if_icmp .ge 79, 3) := by decide +kernel
theorem dX9_goThrough_20 : decode cX9_goThrough 20 = .ok (.aload_n 0, 1) := by decide +kernel
theorem dX9_goThrough_21 : decode cX9_goThrough 21 = .ok (.getfield 81, 3) := by decide +kernel
theorem dX9_goThrough_24 : decode cX9_goThrough 24 = .ok (.iload_n 3, 1) := by decide +kernel
theorem dX9_goThrough_25 : decode cX9_goThrough 25 = .ok (.iaload, 1) := by decide +kernel
theorem dX9_goThrough_26 : decode cX9_goThrough 26 = .ok (.istore 4, 2) := by decide +kernel
theorem dX9_goThrough_28 : decode cX9_goThrough 28 = .ok (.aload_n 0, 1) := by decide +kernel
theorem dX9_goThrough_29 : decode cX9_goThrough 29 = .ok (.iload 4, 2) := by decide +kernel
theorem dX9_goThrough_31 : decode cX9_goThrough 31 = .ok (.iload_n 1, 1) := by decide +kernel
theorem dX9_goThrough_32 : decode cX9_goThrough 32 = .ok (.iload_n 3, 1) := by decide +kernel
theorem dX9_goThrough_33 : decode cX9_goThrough 33 = .ok (.iload_n 2, 1) := by decide +kernel
theorem dX9_goThrough_34 : decode cX9_goThrough 34 = .ok (.aload_n 0, 1) := by decide +kernel
theorem dX9_goThrough_35 : decode cX9_goThrough 35 = .ok (.getfield 283, 3) := by decide +kernel
theorem dX9_goThrough_38 : decode cX9_goThrough 38 = .ok (.iadd, 1) := by decide +kernel
theorem dX9_goThrough_39 : decode cX9_goThrough 39 = .ok (.invokevirtual 271, 3) := by decide +kernel
theorem dX9_goThrough_42 : decode cX9_goThrough 42 = .ok (.ifCond .eq 27, 3) := by decide +kernel
theorem dX9_goThrough_45 : decode cX9_goThrough 45 = .ok (.aload_n 0, 1) := by decide +kernel
theorem dX9_goThrough_46 : decode cX9_goThrough 46 = .ok (.getfield 84, 3) := by decide +kernel
theorem dX9_goThrough_49 : decode cX9_goThrough 49 = .ok (.aload_n 0, 1) := by decide +kernel
theorem dX9_goThrough_50 : decode cX9_goThrough 50 = .ok (.getfield 280, 3) := by decide +kernel
theorem dX9_goThrough_53 : decode cX9_goThrough 53 = .ok (.iload 4, 2) := by decide +kernel
theorem dX9_goThrough_55 : decode cX9_goThrough 55 = .ok (.iastore, 1) := by decide +kernel
theorem dX9_goThrough_56 : decode cX9_goThrough 56 = .ok (.aload_n 0, 1) := by decide +kernel
theorem dX9_goThrough_57 : decode cX9_goThrough 57 = .ok (.dup, 1) := by decide +kernel
theorem dX9_goThrough_58 : decode cX9_goThrough 58 = .ok (.getfield 280, 3) := by decide +kernel
theorem dX9_goThrough_61 : decode cX9_goThrough 61 = .ok (.iconst 1, 1) := by decide +kernel
theorem dX9_goThrough_62 : decode cX9_goThrough 62 = .ok (.iadd, 1) := by decide +kernel
theorem dX9_goThrough_63 : decode cX9_goThrough 63 = .ok (.putfield 280, 3) := by decide +kernel
theorem dX9_goThrough_66 : decode cX9_goThrough 66 = .ok (.goto 24, 3) := by decide +kernel
theorem dX9_goThrough_69 : decode cX9_goThrough 69 = .ok (.aload_n 0, 1) := by decide +kernel
theorem dX9_goThrough_70 : decode cX9_goThrough 70 = .ok (.getfield 87, 3) := by decide +kernel
theorem dX9_goThrough_73 : decode cX9_goThrough 73 = .ok (.aload_n 0, 1) := by decide +kernel
theorem dX9_goThrough_74 : decode cX9_goThrough 74 = .ok (.getfield 283, 3) := by decide +kernel
theorem dX9_goThrough_77 : decode cX9_goThrough 77 = .ok (.iload 4, 2) := by decide +kernel
theorem dX9_goThrough_79 : decode cX9_goThrough 79 = .ok (.iastore, 1) := by decide +kernel
theorem dX9_goThrough_80 : decode cX9_goThrough 80 = .ok (.aload_n 0, 1) := by decide +kernel
theorem dX9_goThrough_81 : decode cX9_goThrough 81 = .ok (.dup, 1) := by decide +kernel
theorem dX9_goThrough_82 : decode cX9_goThrough 82 = .ok (.getfield 283, 3) := by decide +kernel
theorem dX9_goThrough_85 : decode cX9_goThrough 85 = .ok (.iconst 1, 1) := by decide +kernel
theorem dX9_goThrough_86 : decode cX9_goThrough 86 = .ok (.iadd, 1) := by decide +kernel
theorem dX9_goThrough_87 : decode cX9_goThrough 87 = .ok (.putfield 283, 3) := by decide +kernel
theorem dX9_goThrough_90 : decode cX9_goThrough 90 = .ok (.iinc 3 1, 3) := by decide +kernel
theorem dX9_goThrough_93 : decode cX9_goThrough 93 = .ok (.goto (-81), 3) := by decide +kernel
theorem dX9_goThrough_96 : decode cX9_goThrough 96 = .ok (.return_, 1) := by decide +kernel
theorem dX9_makesSense_0 : decode cX9_makesSense 0 = .ok (.aload_n 0, 1) := by decide +kernel
theorem dX9_makesSense_1 : decode cX9_makesSense 1 = .ok (.getfield 280, 3) := by decide +kernel
theorem dX9_makesSense_4 : decode cX9_makesSense 4 = .ok (.iconst 2, 1) := by decide +kernel
theorem dX9_makesSense_5 : decode cX9_makesSense 5 = .ok (.if_icmp .ge 5, 3) := by decide +kernel
theorem dX9_makesSense_8 : decode cX9_makesSense 8 = .ok (.iconst 0, 1) := by decide +kernel
theorem dX9_makesSense_9 : decode cX9_makesSense 9 = .ok (.ireturn, 1) := by decide +kernel
theorem dX9_makesSense_10 : decode cX9_makesSense 10 = .ok (.iconst 0, 1) := by decide +kernel
theorem dX9_makesSense_11 : decode cX9_makesSense 11 = .ok (.istore_n 1, 1) := by decide +kernel
theorem dX9_makesSense_12 : decode cX9_makesSense 12 = .ok (.iload_n 1, 1) := by decide +kernel
theorem dX9_makesSense_13 : decode cX9_makesSense 13 = .ok (.aload_n 0, 1) := by decide +kernel
theorem dX9_makesSense_14 : decode cX9_makesSense 14 = .ok (.getfield 280, 3) := by decide +kernel
theorem dX9_makesSense_17 : decode cX9_makesSense 17 = .ok (.if_icmp .ge 35, 3) := by decide +kernel
theorem dX9_makesSense_20 : decode cX9_makesSense 20 = .ok (.aload_n 0, 1) := by decide +kernel
theorem dX9_makesSense_21 : decode cX9_makesSense 21 = .ok (.getfield 21, 3) := by decide +kernel
theorem dX9_makesSense_24 : decode cX9_makesSense 24 = .ok (.aload_n 0, 1) := by decide +kernel
theorem dX9_makesSense_25 : decode cX9_makesSense 25 = .ok (.getfield 84, 3) := by decide +kernel
theorem dX9_makesSense_28 : decode cX9_makesSense 28 = .ok (.iload_n 1, 1) := by decide +kernel
theorem dX9_makesSense_29 : decode cX9_makesSense 29 = .ok (.iaload, 1) := by decide +kernel
theorem dX9_makesSense_30 : decode cX9_makesSense 30 = .ok (.iaload, 1) := by decide +kernel
theorem dX9_makesSense_31 : decode cX9_makesSense 31 = .ok (.iload_n 1, 1) := by decide +kernel
theorem dX9_makesSense_32 : decode cX9_makesSense 32 = .ok (.iconst 2, 1) := by decide +kernel
theorem dX9_makesSense_33 : decode cX9_makesSense 33 = .ok (.if_icmp .ge 7, 3) := by decide +kernel
theorem dX9_makesSense_36 : decode cX9_makesSense 36 = .ok (.iload_n 1, 1) := by decide +kernel
theorem dX9_makesSense_37 : decode cX9_makesSense 37 = .ok (.goto 4, 3) := by decide +kernel
theorem dX9_makesSense_40 : decode cX9_makesSense 40 = .ok (.iconst 2, 1) := by decide +kernel
theorem dX9_makesSense_41 : decode cX9_makesSense 41 = .ok (.if_icmp .eq 5, 3) := by decide +kernel
theorem dX9_makesSense_44 : decode cX9_makesSense 44 = .ok (.iconst 0, 1) := by decide +kernel
theorem dX9_makesSense_45 : decode cX9_makesSense 45 = .ok (.ireturn, 1) := by decide +kernel
theorem dX9_makesSense_46 : decode cX9_makesSense 46 = .ok (.iinc 1 1, 3) := by decide +kernel
theorem dX9_makesSense_49 : decode cX9_makesSense 49 = .ok (.goto (-37), 3) := by decide +kernel
theorem dX9_makesSense_52 : decode cX9_makesSense 52 = .ok (.iconst 1, 1) := by decide +kernel
theorem dX9_makesSense_53 : decode cX9_makesSense 53 = .ok (.ireturn, 1) := by decide +kernel
theorem dX9_hurtBy_0 : decode cX9_hurtBy 0 = .ok (.iconst 0, 1) := by decide +kernel
theorem dX9_hurtBy_1 : decode cX9_hurtBy 1 = .ok (.istore_n 2, 1) := by decide +kernel
theorem dX9_hurtBy_2 : decode cX9_hurtBy 2 = .ok (.iconst 0, 1) := by decide +kernel
theorem dX9_hurtBy_3 : decode cX9_hurtBy 3 = .ok (.istore_n 3, 1) := by decide +kernel
theorem dX9_hurtBy_4 : decode cX9_hurtBy 4 = .ok (.iload_n 3, 1) := by decide +kernel
theorem dX9_hurtBy_5 : decode cX9_hurtBy 5 = .ok (.aload_n 0, 1) := by decide +kernel
theorem dX9_hurtBy_6 : decode cX9_hurtBy 6 = .ok (.getfield 160, 3) := by decide +kernel
theorem dX9_hurtBy_9 : decode cX9_hurtBy 9 = .ok (.if_icmp .ge 115, 3) := by decide +kernel
theorem dX9_hurtBy_12 : decode cX9_hurtBy 12 = .ok (.iconst 0, 1) := by decide +kernel
theorem dX9_hurtBy_13 : decode cX9_hurtBy 13 = .ok (.istore 4, 2) := by decide +kernel
theorem dX9_hurtBy_15 : decode cX9_hurtBy 15 = .ok (.iconst 0, 1) := by decide +kernel
theorem dX9_hurtBy_16 : decode cX9_hurtBy 16 = .ok (.istore 5, 2) := by decide +kernel
theorem dX9_hurtBy_18 : decode cX9_hurtBy 18 = .ok (.iload 5, 2) := by decide +kernel
theorem dX9_hurtBy_20 : decode cX9_hurtBy 20 = .ok (.iload_n 1, 1) := by decide +kernel
theorem dX9_hurtBy_21 : decode cX9_hurtBy 21 = .ok (.ifCond .eq 10, 3) := by decide +kernel
theorem dX9_hurtBy_24 : decode cX9_hurtBy 24 = .ok (.aload_n 0, 1) := by decide +kernel
theorem dX9_hurtBy_25 : decode cX9_hurtBy 25 = .ok (.getfield 274, 3) := by decide +kernel
theorem dX9_hurtBy_28 : decode cX9_hurtBy 28 = .ok (.goto 7, 3) := by decide +kernel
theorem dX9_hurtBy_31 : decode cX9_hurtBy 31 = .ok (.aload_n 0, 1) := by decide +kernel
theorem dX9_hurtBy_32 : decode cX9_hurtBy 32 = .ok (.getfield 280, 3) := by decide +kernel
theorem dX9_hurtBy_35 : decode cX9_hurtBy 35 = .ok (.if_icmp .ge 63, 3) := by decide +kernel
theorem dX9_hurtBy_38 : decode cX9_hurtBy 38 = .ok (.iload_n 1, 1) := by decide +kernel
theorem dX9_hurtBy_39 : decode cX9_hurtBy 39 = .ok (.ifCond .eq 13, 3) := by decide +kernel
theorem dX9_hurtBy_42 : decode cX9_hurtBy 42 = .ok (.aload_n 0, 1) := by decide +kernel
theorem dX9_hurtBy_43 : decode cX9_hurtBy 43 = .ok (.getfield 81, 3) := by decide +kernel
theorem dX9_hurtBy_46 : decode cX9_hurtBy 46 = .ok (.iload 5, 2) := by decide +kernel
theorem dX9_hurtBy_48 : decode cX9_hurtBy 48 = .ok (.iaload, 1) := by decide +kernel
theorem dX9_hurtBy_49 : decode cX9_hurtBy 49 = .ok (.goto 10, 3) := by decide +kernel
theorem dX9_hurtBy_52 : decode cX9_hurtBy 52 = .ok (.aload_n 0, 1) := by decide +kernel
theorem dX9_hurtBy_53 : decode cX9_hurtBy 53 = .ok (.getfield 84, 3) := by decide +kernel
theorem dX9_hurtBy_56 : decode cX9_hurtBy 56 = .ok (.iload 5, 2) := by decide +kernel
theorem dX9_hurtBy_58 : decode cX9_hurtBy 58 = .ok (.iaload, 1) := by decide +kernel
theorem dX9_hurtBy_59 : decode cX9_hurtBy 59 = .ok (.istore 6, 2) := by decide +kernel
theorem dX9_hurtBy_61 : decode cX9_hurtBy 61 = .ok (.aload_n 0, 1) := by decide +kernel
theorem dX9_hurtBy_62 : decode cX9_hurtBy 62 = .ok (.getfield 24, 3) := by decide +kernel
theorem dX9_hurtBy_65 : decode cX9_hurtBy 65 = .ok (.iload 6, 2) := by decide +kernel
theorem dX9_hurtBy_67 : decode cX9_hurtBy 67 = .ok (.iaload, 1) := by decide +kernel
theorem dX9_hurtBy_68 : decode cX9_hurtBy 68 = .ok (.iload_n 3, 1) := by decide +kernel
theorem dX9_hurtBy_69 : decode cX9_hurtBy 69 = .ok (.if_icmp .ne 23, 3) := by decide +kernel
theorem dX9_hurtBy_72 : decode cX9_hurtBy 72 = .ok (.iload 4, 2) := by decide +kernel
theorem dX9_hurtBy_74 : decode cX9_hurtBy 74 = .ok (.aload_n 0, 1) := by decide +kernel
theorem dX9_hurtBy_75 : decode cX9_hurtBy 75 = .ok (.getfield 15, 3) := by decide +kernel
theorem dX9_hurtBy_78 : decode cX9_hurtBy 78 = .ok (.iload 6, 2) := by decide +kernel
theorem dX9_hurtBy_80 : decode cX9_hurtBy 80 = .ok (.iaload, 1) := by decide +kernel
theorem dX9_hurtBy_81 : decode cX9_hurtBy 81 = .ok (.aload_n 0, 1) := by decide +kernel
theorem dX9_hurtBy_82 : decode cX9_hurtBy 82 = .ok (.getfield 18, 3) := by decide +kernel
theorem dX9_hurtBy_85 : decode cX9_hurtBy 85 = .ok (.iload 6, 2) := by decide +kernel
theorem dX9_hurtBy_87 : decode cX9_hurtBy 87 = .ok (.iaload, 1) := by decide +kernel
theorem dX9_hurtBy_88 : decode cX9_hurtBy 88 = .ok (.isub, 1) := by decide +kernel
theorem dX9_hurtBy_89 : decode cX9_hurtBy 89 = .ok (.iadd, 1) := by decide +kernel
theorem dX9_hurtBy_90 : decode cX9_hurtBy 90 = .ok (.istore 4, 2) := by decide +kernel
theorem dX9_hurtBy_92 : decode cX9_hurtBy 92 = .ok (.iinc 5 1, 3) := by decide +kernel
theorem dX9_hurtBy_95 : decode cX9_hurtBy 95 = .ok (.goto (-77), 3) := by decide +kernel
theorem dX9_hurtBy_98 : decode cX9_hurtBy 98 = .ok (.iload 4, 2) := by decide +kernel
theorem dX9_hurtBy_100 : decode cX9_hurtBy 100 = .ok (.bipush 9, 2) := by decide +kernel
theorem dX9_hurtBy_102 : decode cX9_hurtBy 102 = .ok (.aload_n 0, 1) := by decide +kernel
theorem dX9_hurtBy_103 : decode cX9_hurtBy 103 = .ok (.getfield 36, 3) := by decide +kernel
theorem dX9_hurtBy_106 : decode cX9_hurtBy 106 = .ok (.iload_n 3, 1) := by decide +kernel
theorem dX9_hurtBy_107 : decode cX9_hurtBy 107 = .ok (.iaload, 1) := by decide +kernel
theorem dX9_hurtBy_108 : decode cX9_hurtBy 108 = .ok (.isub, 1) := by decide +kernel
theorem dX9_hurtBy_109 : decode cX9_hurtBy 109 = .ok (.if_icmp .le 9, 3) := by decide +kernel
theorem dX9_hurtBy_112 : decode cX9_hurtBy 112 = .ok (.iload_n 2, 1) := by decide +kernel
theorem dX9_hurtBy_113 : decode cX9_hurtBy 113 = .ok (.iconst 1, 1) := by decide +kernel
theorem dX9_hurtBy_114 : decode cX9_hurtBy 114 = .ok (.iload_n 3, 1) := by decide +kernel
theorem dX9_hurtBy_115 : decode cX9_hurtBy 115 = .ok (.ishl, 1) := by decide +kernel
theorem dX9_hurtBy_116 : decode cX9_hurtBy 116 = .ok (.ior, 1) := by decide +kernel
theorem dX9_hurtBy_117 : decode cX9_hurtBy 117 = .ok (.istore_n 2, 1) := by decide +kernel
theorem dX9_hurtBy_118 : decode cX9_hurtBy 118 = .ok (.iinc 3 1, 3) := by decide +kernel
theorem dX9_hurtBy_121 : decode cX9_hurtBy 121 = .ok (.goto (-117), 3) := by decide +kernel
theorem dX9_hurtBy_124 : decode cX9_hurtBy 124 = .ok (.iload_n 2, 1) := by decide +kernel
