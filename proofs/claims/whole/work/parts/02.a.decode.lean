theorem dX0_init_0 : decode cX0_init 0 = .ok (.aload_n 0, 1) := by decide +kernel
theorem dX0_init_1 : decode cX0_init 1 = .ok (.invokespecial 3, 3) := by decide +kernel
theorem dX0_init_4 : decode cX0_init 4 = .ok (.aload_n 0, 1) := by decide +kernel
theorem dX0_init_5 : decode cX0_init 5 = .ok (.bipush 40, 2) := by decide +kernel
theorem dX0_init_7 : decode cX0_init 7 = .ok (.newarray .int, 2) := by decide +kernel
theorem dX0_init_9 : decode cX0_init 9 = .ok (.putfield 11, 3) := by decide +kernel
theorem dX0_init_12 : decode cX0_init 12 = .ok (.aload_n 0, 1) := by decide +kernel
theorem dX0_init_13 : decode cX0_init 13 = .ok (.bipush 40, 2) := by decide +kernel
theorem dX0_init_15 : decode cX0_init 15 = .ok (.newarray .int, 2) := by decide +kernel
theorem dX0_init_17 : decode cX0_init 17 = .ok (.putfield 15, 3) := by decide +kernel
theorem dX0_init_20 : decode cX0_init 20 = .ok (.aload_n 0, 1) := by decide +kernel
theorem dX0_init_21 : decode cX0_init 21 = .ok (.bipush 40, 2) := by decide +kernel
theorem dX0_init_23 : decode cX0_init 23 = .ok (.newarray .int, 2) := by decide +kernel
theorem dX0_init_25 : decode cX0_init 25 = .ok (.putfield 18, 3) := by decide +kernel
theorem dX0_init_28 : decode cX0_init 28 = .ok (.aload_n 0, 1) := by decide +kernel
theorem dX0_init_29 : decode cX0_init 29 = .ok (.bipush 40, 2) := by decide +kernel
theorem dX0_init_31 : decode cX0_init 31 = .ok (.newarray .int, 2) := by decide +kernel
theorem dX0_init_33 : decode cX0_init 33 = .ok (.putfield 21, 3) := by decide +kernel
theorem dX0_init_36 : decode cX0_init 36 = .ok (.return_, 1) := by decide +kernel
theorem dX0_note_0 : decode cX0_note 0 = .ok (.aload_n 0, 1) := by decide +kernel
theorem dX0_note_1 : decode cX0_note 1 = .ok (.iconst 0, 1) := by decide +kernel
theorem dX0_note_2 : decode cX0_note 2 = .ok (.putfield 24, 3) := by decide +kernel
theorem dX0_note_5 : decode cX0_note 5 = .ok (.aload_n 0, 1) := by decide +kernel
theorem dX0_note_6 : decode cX0_note 6 = .ok (.getfield 28, 3) := by decide +kernel
theorem dX0_note_9 : decode cX0_note 9 = .ok (.bipush 40, 2) := by decide +kernel
theorem dX0_note_11 : decode cX0_note 11 = .ok (.if_icmp .lt 7, 3) := by decide +kernel
theorem dX0_note_14 : decode cX0_note 14 = .ok (.aload_n 0, 1) := by decide +kernel
theorem dX0_note_15 : decode cX0_note 15 = .ok (.invokevirtual 31, 3) := by decide +kernel
theorem dX0_note_18 : decode cX0_note 18 = .ok (.aload_n 0, 1) := by decide +kernel
theorem dX0_note_19 : decode cX0_note 19 = .ok (.getfield 28, 3) := by decide +kernel
theorem dX0_note_22 : decode cX0_note 22 = .ok (.ifCond .lt 12, 3) := by decide +kernel
theorem dX0_note_25 : decode cX0_note 25 = .ok (.aload_n 0, 1) := by decide +kernel
theorem dX0_note_26 : decode cX0_note 26 = .ok (.getfield 28, 3) := by decide +kernel
theorem dX0_note_29 : decode cX0_note 29 = .ok (.bipush 40, 2) := by decide +kernel
theorem dX0_note_31 : decode cX0_note 31 = .ok (.if_icmp .lt 4, 3) := by decide +kernel
theorem dX0_note_34 : decode cX0_note 34 = .ok (.return_, 1) := by decide +kernel
theorem dX0_note_35 : decode cX0_note 35 = .ok (.aload_n 0, 1) := by decide +kernel
theorem dX0_note_36 : decode cX0_note 36 = .ok (.getfield 11, 3) := by decide +kernel
theorem dX0_note_39 : decode cX0_note 39 = .ok (.aload_n 0, 1) := by decide +kernel
theorem dX0_note_40 : decode cX0_note 40 = .ok (.getfield 28, 3) := by decide +kernel
theorem dX0_note_43 : decode cX0_note 43 = .ok (.iload_n 1, 1) := by decide +kernel
theorem dX0_note_44 : decode cX0_note 44 = .ok (.iastore, 1) := by decide +kernel
theorem dX0_note_45 : decode cX0_note 45 = .ok (.aload_n 0, 1) := by decide +kernel
theorem dX0_note_46 : decode cX0_note 46 = .ok (.getfield 15, 3) := by decide +kernel
theorem dX0_note_49 : decode cX0_note 49 = .ok (.aload_n 0, 1) := by decide +kernel
theorem dX0_note_50 : decode cX0_note 50 = .ok (.getfield 28, 3) := by decide +kernel
theorem dX0_note_53 : decode cX0_note 53 = .ok (.iload_n 2, 1) := by decide +kernel
theorem dX0_note_54 : decode cX0_note 54 = .ok (.iastore, 1) := by decide +kernel
theorem dX0_note_55 : decode cX0_note 55 = .ok (.aload_n 0, 1) := by decide +kernel
theorem dX0_note_56 : decode cX0_note 56 = .ok (.getfield 18, 3) := by decide +kernel
theorem dX0_note_59 : decode cX0_note 59 = .ok (.aload_n 0, 1) := by decide +kernel
theorem dX0_note_60 : decode cX0_note 60 = .ok (.getfield 28, 3) := by decide +kernel
theorem dX0_note_63 : decode cX0_note 63 = .ok (.iload_n 3, 1) := by decide +kernel
theorem dX0_note_64 : decode cX0_note 64 = .ok (.iastore, 1) := by decide +kernel
theorem dX0_note_65 : decode cX0_note 65 = .ok (.aload_n 0, 1) := by decide +kernel
theorem dX0_note_66 : decode cX0_note 66 = .ok (.getfield 21, 3) := by decide +kernel
theorem dX0_note_69 : decode cX0_note 69 = .ok (.aload_n 0, 1) := by decide +kernel
theorem dX0_note_70 : decode cX0_note 70 = .ok (.getfield 28, 3) := by decide +kernel
theorem dX0_note_73 : decode cX0_note 73 = .ok (.iload 4, 2) := by decide +kernel
theorem dX0_note_75 : decode cX0_note 75 = .ok (.iastore, 1) := by decide +kernel
theorem dX0_note_76 : decode cX0_note 76 = .ok (.aload_n 0, 1) := by decide +kernel
theorem dX0_note_77 : decode cX0_note 77 = .ok (.dup, 1) := by decide +kernel
theorem dX0_note_78 : decode cX0_note 78 = .ok (.getfield 28, 3) := by decide +kernel
theorem dX0_note_81 : decode cX0_note 81 = .ok (.iconst 1, 1) := by decide +kernel
theorem dX0_note_82 : decode cX0_note 82 = .ok (.iadd, 1) := by decide +kernel
theorem dX0_note_83 : decode cX0_note 83 = .ok (.putfield 28, 3) := by decide +kernel
theorem dX0_note_86 : decode cX0_note 86 = .ok (.return_, 1) := by decide +kernel
theorem dX0_forgetOldest_0 : decode cX0_forgetOldest 0 = .ok (.iconst 1, 1) := by decide +kernel
theorem dX0_forgetOldest_1 : decode cX0_forgetOldest 1 = .ok (.istore_n 1, 1) := by decide +kernel
theorem dX0_forgetOldest_2 : decode cX0_forgetOldest 2 = .ok (.iload_n 1, 1) := by decide +kernel
theorem dX0_forgetOldest_3 : decode cX0_forgetOldest 3 = .ok (.bipush 40, 2) := by decide +kernel
theorem dX0_forgetOldest_5 : decode cX0_forgetOldest 5 = .ok (.if_icmp .ge 65, 3) := by decide +kernel
theorem dX0_forgetOldest_8 : decode cX0_forgetOldest 8 = .ok (.aload_n 0, 1) := by decide +kernel
theorem dX0_forgetOldest_9 : decode cX0_forgetOldest 9 = .ok (.getfield 11, 3) := by decide +kernel
theorem dX0_forgetOldest_12 : decode cX0_forgetOldest 12 = .ok (.iload_n 1, 1) := by decide +kernel
theorem dX0_forgetOldest_13 : decode cX0_forgetOldest 13 = .ok (.iconst 1, 1) := by decide +kernel
theorem dX0_forgetOldest_14 : decode cX0_forgetOldest 14 = .ok (.isub, 1) := by decide +kernel
theorem dX0_forgetOldest_15 : decode cX0_forgetOldest 15 = .ok (.aload_n 0, 1) := by decide +kernel
theorem dX0_forgetOldest_16 : decode cX0_forgetOldest 16 = .ok (.getfield 11, 3) := by decide +kernel
theorem dX0_forgetOldest_19 : decode cX0_forgetOldest 19 = .ok (.iload_n 1, 1) := by decide +kernel
theorem dX0_forgetOldest_20 : decode cX0_forgetOldest 20 = .ok (.iaload, 1) := by decide +kernel
theorem dX0_forgetOldest_21 : decode cX0_forgetOldest 21 = .ok (.iastore, 1) := by decide +kernel
theorem dX0_forgetOldest_22 : decode cX0_forgetOldest 22 = .ok (.aload_n 0, 1) := by decide +kernel
theorem dX0_forgetOldest_23 : decode cX0_forgetOldest 23 = .ok (.getfield 15, 3) := by decide +kernel
theorem dX0_forgetOldest_26 : decode cX0_forgetOldest 26 = .ok (.iload_n 1, 1) := by decide +kernel
theorem dX0_forgetOldest_27 : decode cX0_forgetOldest 27 = .ok (.iconst 1, 1) := by decide +kernel
theorem dX0_forgetOldest_28 : decode cX0_forgetOldest 28 = .ok (.isub, 1) := by decide +kernel
theorem dX0_forgetOldest_29 : decode cX0_forgetOldest 29 = .ok (.aload_n 0, 1) := by decide +kernel
theorem dX0_forgetOldest_30 : decode cX0_forgetOldest 30 = .ok (.getfield 15, 3) := by decide +kernel
theorem dX0_forgetOldest_33 : decode cX0_forgetOldest 33 = .ok (.iload_n 1, 1) := by decide +kernel
theorem dX0_forgetOldest_34 : decode cX0_forgetOldest 34 = .ok (.iaload, 1) := by decide +kernel
theorem dX0_forgetOldest_35 : decode cX0_forgetOldest 35 = .ok (.iastore, 1) := by decide +kernel
theorem dX0_forgetOldest_36 : decode cX0_forgetOldest 36 = .ok (.aload_n 0, 1) := by decide +kernel
theorem dX0_forgetOldest_37 : decode cX0_forgetOldest 37 = .ok (.getfield 18, 3) := by decide +kernel
theorem dX0_forgetOldest_40 : decode cX0_forgetOldest 40 = .ok (.iload_n 1, 1) := by decide +kernel
theorem dX0_forgetOldest_41 : decode cX0_forgetOldest 41 = .ok (.iconst 1, 1) := by decide +kernel
theorem dX0_forgetOldest_42 : decode cX0_forgetOldest 42 = .ok (.isub, 1) := by decide +kernel
theorem dX0_forgetOldest_43 : decode cX0_forgetOldest 43 = .ok (.aload_n 0, 1) := by decide +kernel
theorem dX0_forgetOldest_44 : decode cX0_forgetOldest 44 = .ok (.getfield 18, 3) := by decide +kernel
theorem dX0_forgetOldest_47 : decode cX0_forgetOldest 47 = .ok (.iload_n 1, 1) := by decide +kernel
theorem dX0_forgetOldest_48 : decode cX0_forgetOldest 48 = .ok (.iaload, 1) := by decide +kernel
theorem dX0_forgetOldest_49 : decode cX0_forgetOldest 49 = .ok (.iastore, 1) := by decide +kernel
theorem dX0_forgetOldest_50 : decode cX0_forgetOldest 50 = .ok (.aload_n 0, 1) := by decide +kernel
theorem dX0_forgetOldest_51 : decode cX0_forgetOldest 51 = .ok (.getfield 21, 3) := by decide +kernel
theorem dX0_forgetOldest_54 : decode cX0_forgetOldest 54 = .ok (.iload_n 1, 1) := by decide +kernel
theorem dX0_forgetOldest_55 : decode cX0_forgetOldest 55 = .ok (.iconst 1, 1) := by decide +kernel
theorem dX0_forgetOldest_56 : decode cX0_forgetOldest 56 = .ok (.isub, 1) := by decide +kernel
theorem dX0_forgetOldest_57 : decode cX0_forgetOldest 57 = .ok (.aload_n 0, 1) := by decide +kernel
theorem dX0_forgetOldest_58 : decode cX0_forgetOldest 58 = .ok (.getfield 21, 3) := by decide +kernel
theorem dX0_forgetOldest_61 : decode cX0_forgetOldest 61 = .ok (.iload_n 1, 1) := by decide +kernel
theorem dX0_forgetOldest_62 : decode cX0_forgetOldest 62 = .ok (.iaload, 1) := by decide +kernel
theorem dX0_forgetOldest_63 : decode cX0_forgetOldest 63 = .ok (.iastore, 1) := by decide +kernel
theorem dX0_forgetOldest_64 : decode cX0_forgetOldest 64 = .ok (.iinc 1 1, 3) := by decide +kernel
theorem dX0_forgetOldest_67 : decode cX0_forgetOldest 67 = .ok (.goto (-65), 3) := by decide +kernel
theorem dX0_forgetOldest_70 : decode cX0_forgetOldest 70 = .ok (.aload_n 0, 1) := by decide +kernel
theorem dX0_forgetOldest_71 : decode cX0_forgetOldest 71 = .ok (.bipush 39, 2) := by decide +kernel
theorem dX0_forgetOldest_73 : decode cX0_forgetOldest 73 = .ok (.putfield 28, 3) := by decide +kernel
theorem dX0_forgetOldest_76 : decode cX0_forgetOldest 76 = .ok (.return_, 1) := by decide +kernel
theorem dX0_stepBack_0 : decode cX0_stepBack 0 = .ok (.aload_n 0, 1) := by decide +kernel
theorem dX0_stepBack_1 : decode cX0_stepBack 1 = .ok (.getfield 28, 3) := by decide +kernel
theorem dX0_stepBack_4 : decode cX0_stepBack 4 = .ok (.iconst 1, 1) := by decide +kernel
theorem dX0_stepBack_5 : decode cX0_stepBack 5 = .ok (.if_icmp .lt 12, 3) := by decide +kernel
theorem dX0_stepBack_8 : decode cX0_stepBack 8 = .ok (.aload_n 0, 1) := by decide +kernel
theorem dX0_stepBack_9 : decode cX0_stepBack 9 = .ok (.getfield 28, 3) := by decide +kernel
theorem dX0_stepBack_12 : decode cX0_stepBack 12 = .ok (.bipush 40, 2) := by decide +kernel
theorem dX0_stepBack_14 : decode cX0_stepBack 14 = .ok (.if_icmp .le 6, 3) := by decide +kernel
theorem dX0_stepBack_17 : decode cX0_stepBack 17 = .ok (.bipush (-5), 2) := by decide +kernel
theorem dX0_stepBack_19 : decode cX0_stepBack 19 = .ok (.ireturn, 1) := by decide +kernel
theorem dX0_stepBack_20 : decode cX0_stepBack 20 = .ok (.aload_n 0, 1) := by decide +kernel
theorem dX0_stepBack_21 : decode cX0_stepBack 21 = .ok (.dup, 1) := by decide +kernel
theorem dX0_stepBack_22 : decode cX0_stepBack 22 = .ok (.getfield 28, 3) := by decide +kernel
theorem dX0_stepBack_25 : decode cX0_stepBack 25 = .ok (.iconst 1, 1) := by decide +kernel
theorem dX0_stepBack_26 : decode cX0_stepBack 26 = .ok (.isub, 1) := by decide +kernel
theorem dX0_stepBack_27 : decode cX0_stepBack 27 = .ok (.putfield 28, 3) := by decide +kernel
theorem dX0_stepBack_30 : decode cX0_stepBack 30 = .ok (.aload_n 0, 1) := by decide +kernel
theorem dX0_stepBack_31 : decode cX0_stepBack 31 = .ok (.dup, 1) := by decide +kernel
theorem dX0_stepBack_32 : decode cX0_stepBack 32 = .ok (.getfield 24, 3) := by decide +kernel
theorem dX0_stepBack_35 : decode cX0_stepBack 35 = .ok (.iconst 1, 1) := by decide +kernel
theorem dX0_stepBack_36 : decode cX0_stepBack 36 = .ok (.iadd, 1) := by decide +kernel
theorem dX0_stepBack_37 : decode cX0_stepBack 37 = .ok (.putfield 24, 3) := by decide +kernel
theorem dX0_stepBack_40 : decode cX0_stepBack 40 = .ok (.aload_n 1, 1) := by decide +kernel
theorem dX0_stepBack_41 : decode cX0_stepBack 41 = .ok (.aload_n 0, 1) := by decide +kernel
theorem dX0_stepBack_42 : decode cX0_stepBack 42 = .ok (.getfield 11, 3) := by decide +kernel
theorem dX0_stepBack_45 : decode cX0_stepBack 45 = .ok (.aload_n 0, 1) := by decide +kernel
theorem dX0_stepBack_46 : decode cX0_stepBack 46 = .ok (.getfield 28, 3) := by decide +kernel
theorem dX0_stepBack_49 : decode cX0_stepBack 49 = .ok (.iaload, 1) := by decide +kernel
theorem dX0_stepBack_50 : decode cX0_stepBack 50 = .ok (.aload_n 0, 1) := by decide +kernel
theorem dX0_stepBack_51 : decode cX0_stepBack 51 = .ok (.getfield 15, 3) := by decide +kernel
theorem dX0_stepBack_54 : decode cX0_stepBack 54 = .ok (.aload_n 0, 1) := by decide +kernel
theorem dX0_stepBack_55 : decode cX0_stepBack 55 = .ok (.getfield 28, 3) := by decide +kernel
theorem dX0_stepBack_58 : decode cX0_stepBack 58 = .ok (.iaload, 1) := by decide +kernel
theorem dX0_stepBack_59 : decode cX0_stepBack 59 = .ok (.aload_n 0, 1) := by decide +kernel
theorem dX0_stepBack_60 : decode cX0_stepBack 60 = .ok (.getfield 18, 3) := by decide +kernel
theorem dX0_stepBack_63 : decode cX0_stepBack 63 = .ok (.aload_n 0, 1) := by decide +kernel
theorem dX0_stepBack_64 : decode cX0_stepBack 64 = .ok (.getfield 28, 3) := by decide +kernel
theorem dX0_stepBack_67 : decode cX0_stepBack 67 = .ok (.iaload, 1) := by decide +kernel
theorem dX0_stepBack_68 : decode cX0_stepBack 68 = .ok (.invokevirtual 34, 3) := by decide +kernel
theorem dX0_stepBack_71 : decode cX0_stepBack 71 = .ok (.aload_n 0, 1) := by decide +kernel
theorem dX0_stepBack_72 : decode cX0_stepBack 72 = .ok (.getfield 28, 3) := by decide +kernel
theorem dX0_stepBack_75 : decode cX0_stepBack 75 = .ok (.ireturn, 1) := by decide +kernel
theorem dX0_stepOn_0 : decode cX0_stepOn 0 = .ok (.aload_n 0, 1) := by decide +kernel
theorem dX0_stepOn_1 : decode cX0_stepOn 1 = .ok (.getfield 24, 3) := by decide +kernel
theorem dX0_stepOn_4 : decode cX0_stepOn 4 = .ok (.iconst 1, 1) := by decide +kernel
theorem dX0_stepOn_5 : decode cX0_stepOn 5 = .ok (.if_icmp .lt 19, 3) := by decide +kernel
theorem dX0_stepOn_8 : decode cX0_stepOn 8 = .ok (.aload_n 0, 1) := by decide +kernel
theorem dX0_stepOn_9 : decode cX0_stepOn 9 = .ok (.getfield 28, 3) := by decide +kernel
theorem dX0_stepOn_12 : decode cX0_stepOn 12 = .ok (.ifCond .lt 12, 3) := by decide +kernel
theorem dX0_stepOn_15 : decode cX0_stepOn 15 = .ok (.aload_n 0, 1) := by decide +kernel
theorem dX0_stepOn_16 : decode cX0_stepOn 16 = .ok (.getfield 28, 3) := by decide +kernel
theorem dX0_stepOn_19 : decode cX0_stepOn 19 = .ok (.bipush 40, 2) := by decide +kernel
theorem dX0_stepOn_21 : decode cX0_stepOn 21 = .ok (.if_icmp .lt 6, 3) := by decide +kernel
theorem dX0_stepOn_24 : decode cX0_stepOn 24 = .ok (.bipush (-5), 2) := by decide +kernel
theorem dX0_stepOn_26 : decode cX0_stepOn 26 = .ok (.ireturn, 1) := by decide +kernel
theorem dX0_stepOn_27 : decode cX0_stepOn 27 = .ok (.aload_n 1, 1) := by decide +kernel
theorem dX0_stepOn_28 : decode cX0_stepOn 28 = .ok (.aload_n 0, 1) := by decide +kernel
theorem dX0_stepOn_29 : decode cX0_stepOn 29 = .ok (.getfield 11, 3) := by decide +kernel
theorem dX0_stepOn_32 : decode cX0_stepOn 32 = .ok (.aload_n 0, 1) := by decide +kernel
theorem dX0_stepOn_33 : decode cX0_stepOn 33 = .ok (.getfield 28, 3) := by decide +kernel
theorem dX0_stepOn_36 : decode cX0_stepOn 36 = .ok (.iaload, 1) := by decide +kernel
theorem dX0_stepOn_37 : decode cX0_stepOn 37 = .ok (.aload_n 0, 1) := by decide +kernel
theorem dX0_stepOn_38 : decode cX0_stepOn 38 = .ok (.getfield 15, 3) := by decide +kernel
theorem dX0_stepOn_41 : decode cX0_stepOn 41 = .ok (.aload_n 0, 1) := by decide +kernel
theorem dX0_stepOn_42 : decode cX0_stepOn 42 = .ok (.getfield 28, 3) := by decide +kernel
theorem dX0_stepOn_45 : decode cX0_stepOn 45 = .ok (.iaload, 1) := by decide +kernel
theorem dX0_stepOn_46 : decode cX0_stepOn 46 = .ok (.aload_n 0, 1) := by decide +kernel
theorem dX0_stepOn_47 : decode cX0_stepOn 47 = .ok (.getfield 21, 3) := by decide +kernel
theorem dX0_stepOn_50 : decode cX0_stepOn 50 = .ok (.aload_n 0, 1) := by decide +kernel
theorem dX0_stepOn_51 : decode cX0_stepOn 51 = .ok (.getfield 28, 3) := by decide +kernel
theorem dX0_stepOn_54 : decode cX0_stepOn 54 = .ok (.iaload, 1) := by decide +kernel
theorem dX0_stepOn_55 : decode cX0_stepOn 55 = .ok (.invokevirtual 34, 3) := by decide +kernel
theorem dX0_stepOn_58 : decode cX0_stepOn 58 = .ok (.aload_n 0, 1) := by decide +kernel
theorem dX0_stepOn_59 : decode cX0_stepOn 59 = .ok (.dup, 1) := by decide +kernel
theorem dX0_stepOn_60 : decode cX0_stepOn 60 = .ok (.getfield 28, 3) := by decide +kernel
theorem dX0_stepOn_63 : decode cX0_stepOn 63 = .ok (.iconst 1, 1) := by decide +kernel
theorem dX0_stepOn_64 : decode cX0_stepOn 64 = .ok (.iadd, 1) := by decide +kernel
theorem dX0_stepOn_65 : decode cX0_stepOn 65 = .ok (.putfield 28, 3) := by decide +kernel
theorem dX0_stepOn_68 : decode cX0_stepOn 68 = .ok (.aload_n 0, 1) := by decide +kernel
theorem dX0_stepOn_69 : decode cX0_stepOn 69 = .ok (.dup, 1) := by decide +kernel
theorem dX0_stepOn_70 : decode cX0_stepOn 70 = .ok (.getfield 24, 3) := by decide +kernel
theorem dX0_stepOn_73 : decode cX0_stepOn 73 = .ok (.iconst 1, 1) := by decide +kernel
theorem dX0_stepOn_74 : decode cX0_stepOn 74 = .ok (.isub, 1) := by decide +kernel
theorem dX0_stepOn_75 : decode cX0_stepOn 75 = .ok (.putfield 24, 3) := by decide +kernel
theorem dX0_stepOn_78 : decode cX0_stepOn 78 = .ok (.aload_n 0, 1) := by decide +kernel
theorem dX0_stepOn_79 : decode cX0_stepOn 79 = .ok (.getfield 24, 3) := by decide +kernel
theorem dX0_stepOn_82 : decode cX0_stepOn 82 = .ok (.ireturn, 1) := by decide +kernel
theorem dX1_init_0 : decode cX1_init 0 = .ok (.aload_n 0, 1) := by decide +kernel
theorem dX1_init_1 : decode cX1_init 1 = .ok (.invokespecial 3, 3) := by decide +kernel
theorem dX1_init_4 : decode cX1_init 4 = .ok (.aload_n 0, 1) := by decide +kernel
theorem dX1_init_5 : decode cX1_init 5 = .ok (.iconst 5, 1) := by decide +kernel
theorem dX1_init_6 : decode cX1_init 6 = .ok (.newarray .int, 2) := by decide +kernel
theorem dX1_init_8 : decode cX1_init 8 = .ok (.putfield 11, 3) := by decide +kernel
theorem dX1_init_11 : decode cX1_init 11 = .ok (.aload_n 0, 1) := by decide +kernel
theorem dX1_init_12 : decode cX1_init 12 = .ok (.iconst 5, 1) := by decide +kernel
theorem dX1_init_13 : decode cX1_init 13 = .ok (.newarray .int, 2) := by decide +kernel
theorem dX1_init_15 : decode cX1_init 15 = .ok (.putfield 15, 3) := by decide +kernel
theorem dX1_init_18 : decode cX1_init 18 = .ok (.aload_n 0, 1) := by decide +kernel
theorem dX1_init_19 : decode cX1_init 19 = .ok (.bipush 6, 2) := by decide +kernel
theorem dX1_init_21 : decode cX1_init 21 = .ok (.newarray .int, 2) := by decide +kernel
theorem dX1_init_23 : decode cX1_init 23 = .ok (.putfield 18, 3) := by decide +kernel
theorem dX1_init_26 : decode cX1_init 26 = .ok (.aload_n 0, 1) := by decide +kernel
theorem dX1_init_27 : decode cX1_init 27 = .ok (.iconst 5, 1) := by decide +kernel
theorem dX1_init_28 : decode cX1_init 28 = .ok (.newarray .int, 2) := by decide +kernel
theorem dX1_init_30 : decode cX1_init 30 = .ok (.putfield 21, 3) := by decide +kernel
theorem dX1_init_33 : decode cX1_init 33 = .ok (.aload_n 0, 1) := by decide +kernel
theorem dX1_init_34 : decode cX1_init 34 = .ok (.iconst 5, 1) := by decide +kernel
theorem dX1_init_35 : decode cX1_init 35 = .ok (.newarray .int, 2) := by decide +kernel
theorem dX1_init_37 : decode cX1_init 37 = .ok (.putfield 24, 3) := by decide +kernel
theorem dX1_init_40 : decode cX1_init 40 = .ok (.aload_n 0, 1) := by decide +kernel
theorem dX1_init_41 : decode cX1_init 41 = .ok (.bipush 6, 2) := by decide +kernel
theorem dX1_init_43 : decode cX1_init 43 = .ok (.newarray .int, 2) := by decide +kernel
theorem dX1_init_45 : decode cX1_init 45 = .ok (.putfield 27, 3) := by decide +kernel
theorem dX1_init_48 : decode cX1_init 48 = .ok (.return_, 1) := by decide +kernel
theorem dX1_lyingIn_0 : decode cX1_lyingIn 0 = .ok (.iload_n 1, 1) := by decide +kernel
theorem dX1_lyingIn_1 : decode cX1_lyingIn 1 = .ok (.ifCond .lt 17, 3) := by decide +kernel
theorem dX1_lyingIn_4 : decode cX1_lyingIn 4 = .ok (.iload_n 1, 1) := by decide +kernel
theorem dX1_lyingIn_5 : decode cX1_lyingIn 5 = .ok (.iconst 5, 1) := by decide +kernel
theorem dX1_lyingIn_6 : decode cX1_lyingIn 6 = .ok (.if_icmp .ge 12, 3) := by decide +kernel
theorem dX1_lyingIn_9 : decode cX1_lyingIn 9 = .ok (.aload_n 0, 1) := by decide +kernel
theorem dX1_lyingIn_10 : decode cX1_lyingIn 10 = .ok (.getfield 11, 3) := by decide +kernel
theorem dX1_lyingIn_13 : decode cX1_lyingIn 13 = .ok (.iload_n 1, 1) := by decide +kernel
theorem dX1_lyingIn_14 : decode cX1_lyingIn 14 = .ok (.iaload, 1) := by decide +kernel
theorem dX1_lyingIn_15 : decode cX1_lyingIn 15 = .ok (.goto 4, 3) := by decide +kernel
theorem dX1_lyingIn_18 : decode cX1_lyingIn 18 = .ok (.iconst 0, 1) := by decide +kernel
theorem dX1_lyingIn_19 : decode cX1_lyingIn 19 = .ok (.ireturn, 1) := by decide +kernel
theorem dX1_harmIn_0 : decode cX1_harmIn 0 = .ok (.iload_n 1, 1) := by decide +kernel
theorem dX1_harmIn_1 : decode cX1_harmIn 1 = .ok (.ifCond .lt 17, 3) := by decide +kernel
theorem dX1_harmIn_4 : decode cX1_harmIn 4 = .ok (.iload_n 1, 1) := by decide +kernel
theorem dX1_harmIn_5 : decode cX1_harmIn 5 = .ok (.iconst 5, 1) := by decide +kernel
theorem dX1_harmIn_6 : decode cX1_harmIn 6 = .ok (.if_icmp .ge 12, 3) := by decide +kernel
theorem dX1_harmIn_9 : decode cX1_harmIn 9 = .ok (.aload_n 0, 1) := by decide +kernel
theorem dX1_harmIn_10 : decode cX1_harmIn 10 = .ok (.getfield 15, 3) := by decide +kernel
theorem dX1_harmIn_13 : decode cX1_harmIn 13 = .ok (.iload_n 1, 1) := by decide +kernel
theorem dX1_harmIn_14 : decode cX1_harmIn 14 = .ok (.iaload, 1) := by decide +kernel
theorem dX1_harmIn_15 : decode cX1_harmIn 15 = .ok (.goto 4, 3) := by decide +kernel
theorem dX1_harmIn_18 : decode cX1_harmIn 18 = .ok (.iconst 0, 1) := by decide +kernel
theorem dX1_harmIn_19 : decode cX1_harmIn 19 = .ok (.ireturn, 1) := by decide +kernel
theorem dX1_ledOf_0 : decode cX1_ledOf 0 = .ok (.iload_n 1, 1) := by decide +kernel
theorem dX1_ledOf_1 : decode cX1_ledOf 1 = .ok (.ifCond .lt 18, 3) := by decide +kernel
theorem dX1_ledOf_4 : decode cX1_ledOf 4 = .ok (.iload_n 1, 1) := by decide +kernel
theorem dX1_ledOf_5 : decode cX1_ledOf 5 = .ok (.bipush 6, 2) := by decide +kernel
theorem dX1_ledOf_7 : decode cX1_ledOf 7 = .ok (.if_icmp .ge 12, 3) := by decide +kernel
theorem dX1_ledOf_10 : decode cX1_ledOf 10 = .ok (.aload_n 0, 1) := by decide +kernel
theorem dX1_ledOf_11 : decode cX1_ledOf 11 = .ok (.getfield 18, 3) := by decide +kernel
theorem dX1_ledOf_14 : decode cX1_ledOf 14 = .ok (.iload_n 1, 1) := by decide +kernel
theorem dX1_ledOf_15 : decode cX1_ledOf 15 = .ok (.iaload, 1) := by decide +kernel
theorem dX1_ledOf_16 : decode cX1_ledOf 16 = .ok (.goto 4, 3) := by decide +kernel
theorem dX1_ledOf_19 : decode cX1_ledOf 19 = .ok (.iconst (-1), 1) := by decide +kernel
theorem dX1_ledOf_20 : decode cX1_ledOf 20 = .ok (.ireturn, 1) := by decide +kernel
theorem dX1_noteSaying_0 : decode cX1_noteSaying 0 = .ok (.iload_n 1, 1) := by decide +kernel
theorem dX1_noteSaying_1 : decode cX1_noteSaying 1 = .ok (.ifCond .lt 8, 3) := by decide +kernel
theorem dX1_noteSaying_4 : decode cX1_noteSaying 4 = .ok (.iload_n 1, 1) := by decide +kernel
theorem dX1_noteSaying_5 : decode cX1_noteSaying 5 = .ok (.iconst 5, 1) := by decide +kernel
theorem dX1_noteSaying_6 : decode cX1_noteSaying 6 = .ok (.if_icmp .lt 4, 3) := by decide +kernel
theorem dX1_noteSaying_9 : decode cX1_noteSaying 9 = .ok (.return_, 1) := by decide +kernel
theorem dX1_noteSaying_10 : decode cX1_noteSaying 10 = .ok (.aload_n 0, 1) := by decide +kernel
theorem dX1_noteSaying_11 : decode cX1_noteSaying 11 = .ok (.getfield 11, 3) := by decide +kernel
theorem dX1_noteSaying_14 : decode cX1_noteSaying 14 = .ok (.iload_n 1, 1) := by decide +kernel
theorem dX1_noteSaying_15 : decode cX1_noteSaying 15 = .ok (.dup2, 1) := by decide +kernel
theorem dX1_noteSaying_16 : decode cX1_noteSaying 16 = .ok (.iaload, 1) := by decide +kernel
theorem dX1_noteSaying_17 : decode cX1_noteSaying 17 = .ok (.iload_n 3, 1) := by decide +kernel
theorem dX1_noteSaying_18 : decode cX1_noteSaying 18 = .ok (.iadd, 1) := by decide +kernel
theorem dX1_noteSaying_19 : decode cX1_noteSaying 19 = .ok (.iastore, 1) := by decide +kernel
theorem dX1_noteSaying_20 : decode cX1_noteSaying 20 = .ok (.aload_n 0, 1) := by decide +kernel
theorem dX1_noteSaying_21 : decode cX1_noteSaying 21 = .ok (.getfield 15, 3) := by decide +kernel
theorem dX1_noteSaying_24 : decode cX1_noteSaying 24 = .ok (.iload_n 1, 1) := by decide +kernel
theorem dX1_noteSaying_25 : decode cX1_noteSaying 25 = .ok (.dup2, 1) := by decide +kernel
theorem dX1_noteSaying_26 : decode cX1_noteSaying 26 = .ok (.iaload, 1) := by decide +kernel
theorem dX1_noteSaying_27 : decode cX1_noteSaying 27 = .ok (.iload 4, 2) := by decide +kernel
theorem dX1_noteSaying_29 : decode cX1_noteSaying 29 = .ok (.iadd, 1) := by decide +kernel
theorem dX1_noteSaying_30 : decode cX1_noteSaying 30 = .ok (.iastore, 1) := by decide +kernel
theorem dX1_noteSaying_31 : decode cX1_noteSaying 31 = .ok (.aload_n 0, 1) := by decide +kernel
theorem dX1_noteSaying_32 : decode cX1_noteSaying 32 = .ok (.getfield 18, 3) := by decide +kernel
theorem dX1_noteSaying_35 : decode cX1_noteSaying 35 = .ok (.iconst 0, 1) := by decide +kernel
theorem dX1_noteSaying_36 : decode cX1_noteSaying 36 = .ok (.dup2, 1) := by decide +kernel
theorem dX1_noteSaying_37 : decode cX1_noteSaying 37 = .ok (.iaload, 1) := by decide +kernel
theorem dX1_noteSaying_38 : decode cX1_noteSaying 38 = .ok (.iconst 1, 1) := by decide +kernel
theorem dX1_noteSaying_39 : decode cX1_noteSaying 39 = .ok (.iadd, 1) := by decide +kernel
theorem dX1_noteSaying_40 : decode cX1_noteSaying 40 = .ok (.iastore, 1) := by decide +kernel
theorem dX1_noteSaying_41 : decode cX1_noteSaying 41 = .ok (.aload_n 0, 1) := by decide +kernel
theorem dX1_noteSaying_42 : decode cX1_noteSaying 42 = .ok (.getfield 18, 3) := by decide +kernel
theorem dX1_noteSaying_45 : decode cX1_noteSaying 45 = .ok (.iconst 1, 1) := by decide +kernel
theorem dX1_noteSaying_46 : decode cX1_noteSaying 46 = .ok (.dup2, 1) := by decide +kernel
theorem dX1_noteSaying_47 : decode cX1_noteSaying 47 = .ok (.iaload, 1) := by decide +kernel
theorem dX1_noteSaying_48 : decode cX1_noteSaying 48 = .ok (.iload_n 2, 1) := by decide +kernel
theorem dX1_noteSaying_49 : decode cX1_noteSaying 49 = .ok (.iadd, 1) := by decide +kernel
theorem dX1_noteSaying_50 : decode cX1_noteSaying 50 = .ok (.iastore, 1) := by decide +kernel
theorem dX1_noteSaying_51 : decode cX1_noteSaying 51 = .ok (.aload_n 0, 1) := by decide +kernel
theorem dX1_noteSaying_52 : decode cX1_noteSaying 52 = .ok (.getfield 18, 3) := by decide +kernel
theorem dX1_noteSaying_55 : decode cX1_noteSaying 55 = .ok (.iconst 2, 1) := by decide +kernel
theorem dX1_noteSaying_56 : decode cX1_noteSaying 56 = .ok (.dup2, 1) := by decide +kernel
theorem dX1_noteSaying_57 : decode cX1_noteSaying 57 = .ok (.iaload, 1) := by decide +kernel
theorem dX1_noteSaying_58 : decode cX1_noteSaying 58 = .ok (.iload_n 3, 1) := by decide +kernel
theorem dX1_noteSaying_59 : decode cX1_noteSaying 59 = .ok (.iadd, 1) := by decide +kernel
theorem dX1_noteSaying_60 : decode cX1_noteSaying 60 = .ok (.iastore, 1) := by decide +kernel
theorem dX1_noteSaying_61 : decode cX1_noteSaying 61 = .ok (.aload_n 0, 1) := by decide +kernel
theorem dX1_noteSaying_62 : decode cX1_noteSaying 62 = .ok (.getfield 18, 3) := by decide +kernel
theorem dX1_noteSaying_65 : decode cX1_noteSaying 65 = .ok (.iconst 3, 1) := by decide +kernel
theorem dX1_noteSaying_66 : decode cX1_noteSaying 66 = .ok (.dup2, 1) := by decide +kernel
theorem dX1_noteSaying_67 : decode cX1_noteSaying 67 = .ok (.iaload, 1) := by decide +kernel
theorem dX1_noteSaying_68 : decode cX1_noteSaying 68 = .ok (.iload 5, 2) := by decide +kernel
theorem dX1_noteSaying_70 : decode cX1_noteSaying 70 = .ok (.iadd, 1) := by decide +kernel
theorem dX1_noteSaying_71 : decode cX1_noteSaying 71 = .ok (.iastore, 1) := by decide +kernel
theorem dX1_noteSaying_72 : decode cX1_noteSaying 72 = .ok (.return_, 1) := by decide +kernel
theorem dX1_rinseOut_0 : decode cX1_rinseOut 0 = .ok (.iload_n 1, 1) := by decide +kernel
theorem dX1_rinseOut_1 : decode cX1_rinseOut 1 = .ok (.ifCond .lt 8, 3) := by decide +kernel
theorem dX1_rinseOut_4 : decode cX1_rinseOut 4 = .ok (.iload_n 1, 1) := by decide +kernel
theorem dX1_rinseOut_5 : decode cX1_rinseOut 5 = .ok (.iconst 5, 1) := by decide +kernel
theorem dX1_rinseOut_6 : decode cX1_rinseOut 6 = .ok (.if_icmp .lt 5, 3) := by decide +kernel
theorem dX1_rinseOut_9 : decode cX1_rinseOut 9 = .ok (.iconst (-1), 1) := by decide +kernel
theorem dX1_rinseOut_10 : decode cX1_rinseOut 10 = .ok (.ireturn, 1) := by decide +kernel
theorem dX1_rinseOut_11 : decode cX1_rinseOut 11 = .ok (.aload_n 0, 1) := by decide +kernel
theorem dX1_rinseOut_12 : decode cX1_rinseOut 12 = .ok (.getfield 11, 3) := by decide +kernel
theorem dX1_rinseOut_15 : decode cX1_rinseOut 15 = .ok (.iload_n 1, 1) := by decide +kernel
theorem dX1_rinseOut_16 : decode cX1_rinseOut 16 = .ok (.iaload, 1) := by decide +kernel
theorem dX1_rinseOut_17 : decode cX1_rinseOut 17 = .ok (.istore_n 2, 1) := by decide +kernel
theorem dX1_rinseOut_18 : decode cX1_rinseOut 18 = .ok (.aload_n 0, 1) := by decide +kernel
theorem dX1_rinseOut_19 : decode cX1_rinseOut 19 = .ok (.getfield 18, 3) := by decide +kernel
theorem dX1_rinseOut_22 : decode cX1_rinseOut 22 = .ok (.iconst 4, 1) := by decide +kernel
theorem dX1_rinseOut_23 : decode cX1_rinseOut 23 = .ok (.dup2, 1) := by decide +kernel
theorem dX1_rinseOut_24 : decode cX1_rinseOut 24 = .ok (.iaload, 1) := by decide +kernel
theorem dX1_rinseOut_25 : decode cX1_rinseOut 25 = .ok (.iconst 1, 1) := by decide +kernel
theorem dX1_rinseOut_26 : decode cX1_rinseOut 26 = .ok (.iadd, 1) := by decide +kernel
theorem dX1_rinseOut_27 : decode cX1_rinseOut 27 = .ok (.iastore, 1) := by decide +kernel
theorem dX1_rinseOut_28 : decode cX1_rinseOut 28 = .ok (.aload_n 0, 1) := by decide +kernel
theorem dX1_rinseOut_29 : decode cX1_rinseOut 29 = .ok (.getfield 18, 3) := by decide +kernel
theorem dX1_rinseOut_32 : decode cX1_rinseOut 32 = .ok (.iconst 5, 1) := by decide +kernel
theorem dX1_rinseOut_33 : decode cX1_rinseOut 33 = .ok (.dup2, 1) := by decide +kernel
theorem dX1_rinseOut_34 : decode cX1_rinseOut 34 = .ok (.iaload, 1) := by decide +kernel
theorem dX1_rinseOut_35 : decode cX1_rinseOut 35 = .ok (.aload_n 0, 1) := by decide +kernel
theorem dX1_rinseOut_36 : decode cX1_rinseOut 36 = .ok (.getfield 15, 3) := by decide +kernel
theorem dX1_rinseOut_39 : decode cX1_rinseOut 39 = .ok (.iload_n 1, 1) := by decide +kernel
theorem dX1_rinseOut_40 : decode cX1_rinseOut 40 = .ok (.iaload, 1) := by decide +kernel
theorem dX1_rinseOut_41 : decode cX1_rinseOut 41 = .ok (.iadd, 1) := by decide +kernel
theorem dX1_rinseOut_42 : decode cX1_rinseOut 42 = .ok (.iastore, 1) := by decide +kernel
theorem dX1_rinseOut_43 : decode cX1_rinseOut 43 = .ok (.aload_n 0, 1) := by decide +kernel
theorem dX1_rinseOut_44 : decode cX1_rinseOut 44 = .ok (.getfield 11, 3) := by decide +kernel
theorem dX1_rinseOut_47 : decode cX1_rinseOut 47 = .ok (.iload_n 1, 1) := by decide +kernel
theorem dX1_rinseOut_48 : decode cX1_rinseOut 48 = .ok (.iconst 0, 1) := by decide +kernel
theorem dX1_rinseOut_49 : decode cX1_rinseOut 49 = .ok (.iastore, 1) := by decide +kernel
theorem dX1_rinseOut_50 : decode cX1_rinseOut 50 = .ok (.aload_n 0, 1) := by decide +kernel
theorem dX1_rinseOut_51 : decode cX1_rinseOut 51 = .ok (.getfield 15, 3) := by decide +kernel
theorem dX1_rinseOut_54 : decode cX1_rinseOut 54 = .ok (.iload_n 1, 1) := by decide +kernel
theorem dX1_rinseOut_55 : decode cX1_rinseOut 55 = .ok (.iconst 0, 1) := by decide +kernel
theorem dX1_rinseOut_56 : decode cX1_rinseOut 56 = .ok (.iastore, 1) := by decide +kernel
theorem dX1_rinseOut_57 : decode cX1_rinseOut 57 = .ok (.iload_n 2, 1) := by decide +kernel
theorem dX1_rinseOut_58 : decode cX1_rinseOut 58 = .ok (.ireturn, 1) := by decide +kernel
theorem dX1_keepImage_0 : decode cX1_keepImage 0 = .ok (.aload_n 0, 1) := by decide +kernel
theorem dX1_keepImage_1 : decode cX1_keepImage 1 = .ok (.getfield 11, 3) := by decide +kernel
theorem dX1_keepImage_4 : decode cX1_keepImage 4 = .ok (.iconst 0, 1) := by decide +kernel
theorem dX1_keepImage_5 : decode cX1_keepImage 5 = .ok (.aload_n 0, 1) := by decide +kernel
theorem dX1_keepImage_6 : decode cX1_keepImage 6 = .ok (.getfield 21, 3) := by decide +kernel
theorem dX1_keepImage_9 : decode cX1_keepImage 9 = .ok (.iconst 0, 1) := by decide +kernel
theorem dX1_keepImage_10 : decode cX1_keepImage 10 = .ok (.iconst 5, 1) := by decide +kernel
theorem dX1_keepImage_11 : decode cX1_keepImage 11 = .ok (.invokestatic 30, 3) := by decide +kernel
theorem dX1_keepImage_14 : decode cX1_keepImage 14 = .ok (.aload_n 0, 1) := by decide +kernel
theorem dX1_keepImage_15 : decode cX1_keepImage 15 = .ok (.getfield 15, 3) := by decide +kernel
theorem dX1_keepImage_18 : decode cX1_keepImage 18 = .ok (.iconst 0, 1) := by decide +kernel
theorem dX1_keepImage_19 : decode cX1_keepImage 19 = .ok (.aload_n 0, 1) := by decide +kernel
theorem dX1_keepImage_20 : decode cX1_keepImage 20 = .ok (.getfield 24, 3) := by decide +kernel
theorem dX1_keepImage_23 : decode cX1_keepImage 23 = .ok (.iconst 0, 1) := by decide +kernel
theorem dX1_keepImage_24 : decode cX1_keepImage 24 = .ok (.iconst 5, 1) := by decide +kernel
theorem dX1_keepImage_25 : decode cX1_keepImage 25 = .ok (.invokestatic 30, 3) := by decide +kernel
theorem dX1_keepImage_28 : decode cX1_keepImage 28 = .ok (.aload_n 0, 1) := by decide +kernel
theorem dX1_keepImage_29 : decode cX1_keepImage 29 = .ok (.getfield 18, 3) := by decide +kernel
theorem dX1_keepImage_32 : decode cX1_keepImage 32 = .ok (.iconst 0, 1) := by decide +kernel
theorem dX1_keepImage_33 : decode cX1_keepImage 33 = .ok (.aload_n 0, 1) := by decide +kernel
theorem dX1_keepImage_34 : decode cX1_keepImage 34 = .ok (.getfield 27, 3) := by decide +kernel
theorem dX1_keepImage_37 : decode cX1_keepImage 37 = .ok (.iconst 0, 1) := by decide +kernel
theorem dX1_keepImage_38 : decode cX1_keepImage 38 = .ok (.bipush 6, 2) := by decide +kernel
theorem dX1_keepImage_40 : decode cX1_keepImage 40 = .ok (.invokestatic 30, 3) := by decide +kernel
theorem dX1_keepImage_43 : decode cX1_keepImage 43 = .ok (.aload_n 0, 1) := by decide +kernel
theorem dX1_keepImage_44 : decode cX1_keepImage 44 = .ok (.iconst 1, 1) := by decide +kernel
theorem dX1_keepImage_45 : decode cX1_keepImage 45 = .ok (.putfield 36, 3) := by decide +kernel
theorem dX1_keepImage_48 : decode cX1_keepImage 48 = .ok (.aload_n 0, 1) := by decide +kernel
theorem dX1_keepImage_49 : decode cX1_keepImage 49 = .ok (.getfield 18, 3) := by decide +kernel
theorem dX1_keepImage_52 : decode cX1_keepImage 52 = .ok (.iconst 0, 1) := by decide +kernel
theorem dX1_keepImage_53 : decode cX1_keepImage 53 = .ok (.iaload, 1) := by decide +kernel
theorem dX1_keepImage_54 : decode cX1_keepImage 54 = .ok (.ireturn, 1) := by decide +kernel
theorem dX1_layBack_0 : decode cX1_layBack 0 = .ok (.aload_n 0, 1) := by decide +kernel
theorem dX1_layBack_1 : decode cX1_layBack 1 = .ok (.getfield 36, 3) := by decide +kernel
theorem dX1_layBack_4 : decode cX1_layBack 4 = .ok (.ifCond .ne 6, 3) := by decide +kernel
theorem dX1_layBack_7 : decode cX1_layBack 7 = .ok (.bipush (-5), 2) := by decide +kernel
theorem dX1_layBack_9 : decode cX1_layBack 9 = .ok (.ireturn, 1) := by decide +kernel
theorem dX1_layBack_10 : decode cX1_layBack 10 = .ok (.aload_n 0, 1) := by decide +kernel
theorem dX1_layBack_11 : decode cX1_layBack 11 = .ok (.getfield 21, 3) := by decide +kernel
theorem dX1_layBack_14 : decode cX1_layBack 14 = .ok (.iconst 0, 1) := by decide +kernel
theorem dX1_layBack_15 : decode cX1_layBack 15 = .ok (.aload_n 0, 1) := by decide +kernel
theorem dX1_layBack_16 : decode cX1_layBack 16 = .ok (.getfield 11, 3) := by decide +kernel
theorem dX1_layBack_19 : decode cX1_layBack 19 = .ok (.iconst 0, 1) := by decide +kernel
theorem dX1_layBack_20 : decode cX1_layBack 20 = .ok (.iconst 5, 1) := by decide +kernel
theorem dX1_layBack_21 : decode cX1_layBack 21 = .ok (.invokestatic 30, 3) := by decide +kernel
theorem dX1_layBack_24 : decode cX1_layBack 24 = .ok (.aload_n 0, 1) := by decide +kernel
theorem dX1_layBack_25 : decode cX1_layBack 25 = .ok (.getfield 24, 3) := by decide +kernel
theorem dX1_layBack_28 : decode cX1_layBack 28 = .ok (.iconst 0, 1) := by decide +kernel
theorem dX1_layBack_29 : decode cX1_layBack 29 = .ok (.aload_n 0, 1) := by decide +kernel
theorem dX1_layBack_30 : decode cX1_layBack 30 = .ok (.getfield 15, 3) := by decide +kernel
theorem dX1_layBack_33 : decode cX1_layBack 33 = .ok (.iconst 0, 1) := by decide +kernel
theorem dX1_layBack_34 : decode cX1_layBack 34 = .ok (.iconst 5, 1) := by decide +kernel
theorem dX1_layBack_35 : decode cX1_layBack 35 = .ok (.invokestatic 30, 3) := by decide +kernel
theorem dX1_layBack_38 : decode cX1_layBack 38 = .ok (.aload_n 0, 1) := by decide +kernel
theorem dX1_layBack_39 : decode cX1_layBack 39 = .ok (.getfield 27, 3) := by decide +kernel
theorem dX1_layBack_42 : decode cX1_layBack 42 = .ok (.iconst 0, 1) := by decide +kernel
theorem dX1_layBack_43 : decode cX1_layBack 43 = .ok (.aload_n 0, 1) := by decide +kernel
theorem dX1_layBack_44 : decode cX1_layBack 44 = .ok (.getfield 18, 3) := by decide +kernel
theorem dX1_layBack_47 : decode cX1_layBack 47 = .ok (.iconst 0, 1) := by decide +kernel
theorem dX1_layBack_48 : decode cX1_layBack 48 = .ok (.bipush 6, 2) := by decide +kernel
theorem dX1_layBack_50 : decode cX1_layBack 50 = .ok (.invokestatic 30, 3) := by decide +kernel
theorem dX1_layBack_53 : decode cX1_layBack 53 = .ok (.aload_n 0, 1) := by decide +kernel
theorem dX1_layBack_54 : decode cX1_layBack 54 = .ok (.getfield 18, 3) := by decide +kernel
theorem dX1_layBack_57 : decode cX1_layBack 57 = .ok (.iconst 0, 1) := by decide +kernel
theorem dX1_layBack_58 : decode cX1_layBack 58 = .ok (.iaload, 1) := by decide +kernel
theorem dX1_layBack_59 : decode cX1_layBack 59 = .ok (.ireturn, 1) := by decide +kernel
theorem dX2_init_0 : decode cX2_init 0 = .ok (.aload_n 0, 1) := by decide +kernel
theorem dX2_init_1 : decode cX2_init 1 = .ok (.invokespecial 3, 3) := by decide +kernel
theorem dX2_init_4 : decode cX2_init 4 = .ok (.aload_n 0, 1) := by decide +kernel
theorem dX2_init_5 : decode cX2_init 5 = .ok (.bipush 120, 2) := by decide +kernel
theorem dX2_init_7 : decode cX2_init 7 = .ok (.newarray .int, 2) := by decide +kernel
theorem dX2_init_9 : decode cX2_init 9 = .ok (.putfield 11, 3) := by decide +kernel
theorem dX2_init_12 : decode cX2_init 12 = .ok (.aload_n 0, 1) := by decide +kernel
theorem dX2_init_13 : decode cX2_init 13 = .ok (.sipush 256, 3) := by decide +kernel
theorem dX2_init_16 : decode cX2_init 16 = .ok (.newarray .int, 2) := by decide +kernel
theorem dX2_init_18 : decode cX2_init 18 = .ok (.putfield 15, 3) := by decide +kernel
theorem dX2_init_21 : decode cX2_init 21 = .ok (.aload_n 0, 1) := by decide +kernel
theorem dX2_init_22 : decode cX2_init 22 = .ok (.sipush 256, 3) := by decide +kernel
theorem dX2_init_25 : decode cX2_init 25 = .ok (.newarray .int, 2) := by decide +kernel
theorem dX2_init_27 : decode cX2_init 27 = .ok (.putfield 18, 3) := by decide +kernel
theorem dX2_init_30 : decode cX2_init 30 = .ok (.aload_n 0, 1) := by decide +kernel
theorem dX2_init_31 : decode cX2_init 31 = .ok (.bipush 64, 2) := by decide +kernel
theorem dX2_init_33 : decode cX2_init 33 = .ok (.newarray .int, 2) := by decide +kernel
theorem dX2_init_35 : decode cX2_init 35 = .ok (.putfield 21, 3) := by decide +kernel
theorem dX2_init_38 : decode cX2_init 38 = .ok (.aload_n 0, 1) := by decide +kernel
theorem dX2_init_39 : decode cX2_init 39 = .ok (.bipush 6, 2) := by decide +kernel
theorem dX2_init_41 : decode cX2_init 41 = .ok (.newarray .int, 2) := by decide +kernel
theorem dX2_init_43 : decode cX2_init 43 = .ok (.putfield 24, 3) := by decide +kernel
theorem dX2_init_46 : decode cX2_init 46 = .ok (.return_, 1) := by decide +kernel
theorem dX2_take_0 : decode cX2_take 0 = .ok (.aload_n 0, 1) := by decide +kernel
theorem dX2_take_1 : decode cX2_take 1 = .ok (.getfield 27, 3) := by decide +kernel
theorem dX2_take_4 : decode cX2_take 4 = .ok (.ifCond .lt 12, 3) := by decide +kernel
theorem dX2_take_7 : decode cX2_take 7 = .ok (.aload_n 0, 1) := by decide +kernel
theorem dX2_take_8 : decode cX2_take 8 = .ok (.getfield 27, 3) := by decide +kernel
theorem dX2_take_11 : decode cX2_take 11 = .ok (.bipush 120, 2) := by decide +kernel
theorem dX2_take_13 : decode cX2_take 13 = .ok (.if_icmp .lt 6, 3) := by decide +kernel
theorem dX2_take_16 : decode cX2_take 16 = .ok (.bipush (-3), 2) := by decide +kernel
theorem dX2_take_18 : decode cX2_take 18 = .ok (.ireturn, 1) := by decide +kernel
theorem dX2_take_19 : decode cX2_take 19 = .ok (.aload_n 0, 1) := by decide +kernel
theorem dX2_take_20 : decode cX2_take 20 = .ok (.getfield 11, 3) := by decide +kernel
theorem dX2_take_23 : decode cX2_take 23 = .ok (.aload_n 0, 1) := by decide +kernel
theorem dX2_take_24 : decode cX2_take 24 = .ok (.getfield 27, 3) := by decide +kernel
theorem dX2_take_27 : decode cX2_take 27 = .ok (.iload_n 1, 1) := by decide +kernel
theorem dX2_take_28 : decode cX2_take 28 = .ok (.iastore, 1) := by decide +kernel
theorem dX2_take_29 : decode cX2_take 29 = .ok (.aload_n 0, 1) := by decide +kernel
theorem dX2_take_30 : decode cX2_take 30 = .ok (.dup, 1) := by decide +kernel
theorem dX2_take_31 : decode cX2_take 31 = .ok (.getfield 27, 3) := by decide +kernel
theorem dX2_take_34 : decode cX2_take 34 = .ok (.iconst 1, 1) := by decide +kernel
theorem dX2_take_35 : decode cX2_take 35 = .ok (.iadd, 1) := by decide +kernel
theorem dX2_take_36 : decode cX2_take 36 = .ok (.putfield 27, 3) := by decide +kernel
theorem dX2_take_39 : decode cX2_take 39 = .ok (.aload_n 0, 1) := by decide +kernel
theorem dX2_take_40 : decode cX2_take 40 = .ok (.getfield 27, 3) := by decide +kernel
theorem dX2_take_43 : decode cX2_take 43 = .ok (.ireturn, 1) := by decide +kernel
theorem dX2_becomeTape_0 : decode cX2_becomeTape 0 = .ok (.aload_n 0, 1) := by decide +kernel
theorem dX2_becomeTape_1 : decode cX2_becomeTape 1 = .ok (.iconst 0, 1) := by decide +kernel
theorem dX2_becomeTape_2 : decode cX2_becomeTape 2 = .ok (.putfield 31, 3) := by decide +kernel
theorem dX2_becomeTape_5 : decode cX2_becomeTape 5 = .ok (.aload_n 0, 1) := by decide +kernel
theorem dX2_becomeTape_6 : decode cX2_becomeTape 6 = .ok (.iconst 0, 1) := by decide +kernel
theorem dX2_becomeTape_7 : decode cX2_becomeTape 7 = .ok (.putfield 34, 3) := by decide +kernel
theorem dX2_becomeTape_10 : decode cX2_becomeTape 10 = .ok (.aload_n 0, 1) := by decide +kernel
theorem dX2_becomeTape_11 : decode cX2_becomeTape 11 = .ok (.iconst 0, 1) := by decide +kernel
theorem dX2_becomeTape_12 : decode cX2_becomeTape 12 = .ok (.putfield 37, 3) := by decide +kernel
theorem dX2_becomeTape_15 : decode cX2_becomeTape 15 = .ok (.aload_n 0, 1) := by decide +kernel
theorem dX2_becomeTape_16 : decode cX2_becomeTape 16 = .ok (.invokevirtual 41, 3) := by decide +kernel
theorem dX2_becomeTape_19 : decode cX2_becomeTape 19 = .ok (.aload_n 0, 1) := by decide +kernel
theorem dX2_becomeTape_20 : decode cX2_becomeTape 20 = .ok (.iconst 0, 1) := by decide +kernel
theorem dX2_becomeTape_21 : decode cX2_becomeTape 21 = .ok (.putfield 27, 3) := by decide +kernel
theorem dX2_becomeTape_24 : decode cX2_becomeTape 24 = .ok (.aload_n 0, 1) := by decide +kernel
theorem dX2_becomeTape_25 : decode cX2_becomeTape 25 = .ok (.getfield 37, 3) := by decide +kernel
theorem dX2_becomeTape_28 : decode cX2_becomeTape 28 = .ok (.ifCond .eq 11, 3) := by decide +kernel
theorem dX2_becomeTape_31 : decode cX2_becomeTape 31 = .ok (.bipush (-100), 2) := by decide +kernel
theorem dX2_becomeTape_33 : decode cX2_becomeTape 33 = .ok (.aload_n 0, 1) := by decide +kernel
theorem dX2_becomeTape_34 : decode cX2_becomeTape 34 = .ok (.getfield 31, 3) := by decide +kernel
theorem dX2_becomeTape_37 : decode cX2_becomeTape 37 = .ok (.isub, 1) := by decide +kernel
theorem dX2_becomeTape_38 : decode cX2_becomeTape 38 = .ok (.ireturn, 1) := by decide +kernel
theorem dX2_becomeTape_39 : decode cX2_becomeTape 39 = .ok (.iconst 0, 1) := by decide +kernel
theorem dX2_becomeTape_40 : decode cX2_becomeTape 40 = .ok (.istore_n 1, 1) := by decide +kernel
theorem dX2_becomeTape_41 : decode cX2_becomeTape 41 = .ok (.iload_n 1, 1) := by decide +kernel
theorem dX2_becomeTape_42 : decode cX2_becomeTape 42 = .ok (.aload_n 0, 1) := by decide +kernel
theorem dX2_becomeTape_43 : decode cX2_becomeTape 43 = .ok (.getfield 34, 3) := by decide +kernel
theorem dX2_becomeTape_46 : decode cX2_becomeTape 46 = .ok (.if_icmp .ge 28, 3) := by decide +kernel
theorem dX2_becomeTape_49 : decode cX2_becomeTape 49 = .ok (.iload_n 1, 1) := by decide +kernel
theorem dX2_becomeTape_50 : decode cX2_becomeTape 50 = .ok (.sipush 256, 3) := by decide +kernel
theorem dX2_becomeTape_53 : decode cX2_becomeTape 53 = .ok (.if_icmp .ge 21, 3) := by decide +kernel
theorem dX2_becomeTape_56 : decode cX2_becomeTape 56 = .ok (.aload_n 0, 1) := by decide +kernel
theorem dX2_becomeTape_57 : decode cX2_becomeTape 57 = .ok (.getfield 18, 3) := by decide +kernel
theorem dX2_becomeTape_60 : decode cX2_becomeTape 60 = .ok (.iload_n 1, 1) := by decide +kernel
theorem dX2_becomeTape_61 : decode cX2_becomeTape 61 = .ok (.aload_n 0, 1) := by decide +kernel
theorem dX2_becomeTape_62 : decode cX2_becomeTape 62 = .ok (.getfield 15, 3) := by decide +kernel
theorem dX2_becomeTape_65 : decode cX2_becomeTape 65 = .ok (.iload_n 1, 1) := by decide +kernel
theorem dX2_becomeTape_66 : decode cX2_becomeTape 66 = .ok (.iaload, 1) := by decide +kernel
theorem dX2_becomeTape_67 : decode cX2_becomeTape 67 = .ok (.iastore, 1) := by decide +kernel
theorem dX2_becomeTape_68 : decode cX2_becomeTape 68 = .ok (.iinc 1 1, 3) := by decide +kernel
theorem dX2_becomeTape_71 : decode cX2_becomeTape 71 = .ok (.goto (-30), 3) := by decide +kernel
theorem dX2_becomeTape_74 : decode cX2_becomeTape 74 = .ok (.aload_n 0, 1) := by decide +kernel
theorem dX2_becomeTape_75 : decode cX2_becomeTape 75 = .ok (.aload_n 0, 1) := by decide +kernel
theorem dX2_becomeTape_76 : decode cX2_becomeTape 76 = .ok (.getfield 34, 3) := by decide +kernel
theorem dX2_becomeTape_79 : decode cX2_becomeTape 79 = .ok (.putfield 44, 3) := by decide +kernel
theorem dX2_becomeTape_82 : decode cX2_becomeTape 82 = .ok (.iconst 1, 1) := by decide +kernel
theorem dX2_becomeTape_83 : decode cX2_becomeTape 83 = .ok (.ireturn, 1) := by decide +kernel
theorem dX2_readLines_0 : decode cX2_readLines 0 = .ok (.iconst 0, 1) := by decide +kernel
theorem dX2_readLines_1 : decode cX2_readLines 1 = .ok (.istore_n 1, 1) := by decide +kernel
theorem dX2_readLines_2 : decode cX2_readLines 2 = .ok (.iload_n 1, 1) := by decide +kernel
theorem dX2_readLines_3 : decode cX2_readLines 3 = .ok (.bipush 120, 2) := by decide +kernel
theorem dX2_readLines_5 : decode cX2_readLines 5 = .ok (.if_icmp .ge 57, 3) := by decide +kernel
theorem dX2_readLines_8 : decode cX2_readLines 8 = .ok (.aload_n 0, 1) := by decide +kernel
theorem dX2_readLines_9 : decode cX2_readLines 9 = .ok (.invokevirtual 47, 3) := by decide +kernel
theorem dX2_readLines_12 : decode cX2_readLines 12 = .ok (.aload_n 0, 1) := by decide +kernel
theorem dX2_readLines_13 : decode cX2_readLines 13 = .ok (.getfield 37, 3) := by decide +kernel
theorem dX2_readLines_16 : decode cX2_readLines 16 = .ok (.ifCond .ne 14, 3) := by decide +kernel
theorem dX2_readLines_19 : decode cX2_readLines 19 = .ok (.aload_n 0, 1) := by decide +kernel
theorem dX2_readLines_20 : decode cX2_readLines 20 = .ok (.getfield 31, 3) := by decide +kernel
theorem dX2_readLines_23 : decode cX2_readLines 23 = .ok (.aload_n 0, 1) := by decide +kernel
theorem dX2_readLines_24 : decode cX2_readLines 24 = .ok (.getfield 27, 3) := by decide +kernel
theorem dX2_readLines_27 : decode cX2_readLines 27 = .ok (.if_icmp .lt 4, 3) := by decide +kernel
theorem dX2_readLines_30 : decode cX2_readLines 30 = .ok (.return_, 1) := by decide +kernel
theorem dX2_readLines_31 : decode cX2_readLines 31 = .ok (.aload_n 0, 1) := by decide +kernel
theorem dX2_readLines_32 : decode cX2_readLines 32 = .ok (.invokevirtual 50, 3) := by decide +kernel
theorem dX2_readLines_35 : decode cX2_readLines 35 = .ok (.bipush 59, 2) := by decide +kernel
theorem dX2_readLines_37 : decode cX2_readLines 37 = .ok (.if_icmp .eq 9, 3) := by decide +kernel
theorem dX2_readLines_40 : decode cX2_readLines 40 = .ok (.aload_n 0, 1) := by decide +kernel
theorem dX2_readLines_41 : decode cX2_readLines 41 = .ok (.iconst 1, 1) := by decide +kernel
theorem dX2_readLines_42 : decode cX2_readLines 42 = .ok (.putfield 37, 3) := by decide +kernel
theorem dX2_readLines_45 : decode cX2_readLines 45 = .ok (.return_, 1) := by decide +kernel
theorem dX2_readLines_46 : decode cX2_readLines 46 = .ok (.aload_n 0, 1) := by decide +kernel
theorem dX2_readLines_47 : decode cX2_readLines 47 = .ok (.dup, 1) := by decide +kernel
theorem dX2_readLines_48 : decode cX2_readLines 48 = .ok (.getfield 31, 3) := by decide +kernel
theorem dX2_readLines_51 : decode cX2_readLines 51 = .ok (.iconst 1, 1) := by decide +kernel
theorem dX2_readLines_52 : decode cX2_readLines 52 = .ok (.iadd, 1) := by decide +kernel
theorem dX2_readLines_53 : decode cX2_readLines 53 = .ok (.putfield 31, 3) := by decide +kernel
theorem dX2_readLines_56 : decode cX2_readLines 56 = .ok (.iinc 1 1, 3) := by decide +kernel
theorem dX2_readLines_59 : decode cX2_readLines 59 = .ok (.goto (-57), 3) := by decide +kernel
theorem dX2_readLines_62 : decode cX2_readLines 62 = .ok (.return_, 1) := by decide +kernel
theorem dX2_readLine_0 : decode cX2_readLine 0 = .ok (.aload_n 0, 1) := by decide +kernel
theorem dX2_readLine_1 : decode cX2_readLine 1 = .ok (.iconst 0, 1) := by decide +kernel
theorem dX2_readLine_2 : decode cX2_readLine 2 = .ok (.iconst 0, 1) := by decide +kernel
theorem dX2_readLine_3 : decode cX2_readLine 3 = .ok (.invokevirtual 54, 3) := by decide +kernel
theorem dX2_readLine_6 : decode cX2_readLine 6 = .ok (.aload_n 0, 1) := by decide +kernel
theorem dX2_readLine_7 : decode cX2_readLine 7 = .ok (.getfield 37, 3) := by decide +kernel
theorem dX2_readLine_10 : decode cX2_readLine 10 = .ok (.ifCond .ne 12, 3) := by decide +kernel
theorem dX2_readLine_13 : decode cX2_readLine 13 = .ok (.aload_n 0, 1) := by decide +kernel
theorem dX2_readLine_14 : decode cX2_readLine 14 = .ok (.invokevirtual 50, 3) := by decide +kernel
theorem dX2_readLine_17 : decode cX2_readLine 17 = .ok (.bipush 63, 2) := by decide +kernel
theorem dX2_readLine_19 : decode cX2_readLine 19 = .ok (.if_icmp .eq 10, 3) := by decide +kernel
theorem dX2_readLine_22 : decode cX2_readLine 22 = .ok (.aload_n 0, 1) := by decide +kernel
theorem dX2_readLine_23 : decode cX2_readLine 23 = .ok (.bipush (-59), 2) := by decide +kernel
theorem dX2_readLine_25 : decode cX2_readLine 25 = .ok (.invokevirtual 58, 3) := by decide +kernel
theorem dX2_readLine_28 : decode cX2_readLine 28 = .ok (.return_, 1) := by decide +kernel
theorem dX2_readLine_29 : decode cX2_readLine 29 = .ok (.aload_n 0, 1) := by decide +kernel
theorem dX2_readLine_30 : decode cX2_readLine 30 = .ok (.dup, 1) := by decide +kernel
theorem dX2_readLine_31 : decode cX2_readLine 31 = .ok (.getfield 31, 3) := by decide +kernel
theorem dX2_readLine_34 : decode cX2_readLine 34 = .ok (.iconst 1, 1) := by decide +kernel
theorem dX2_readLine_35 : decode cX2_readLine 35 = .ok (.iadd, 1) := by decide +kernel
theorem dX2_readLine_36 : decode cX2_readLine 36 = .ok (.putfield 31, 3) := by decide +kernel
theorem dX2_readLine_39 : decode cX2_readLine 39 = .ok (.aload_n 0, 1) := by decide +kernel
theorem dX2_readLine_40 : decode cX2_readLine 40 = .ok (.bipush (-63), 2) := by decide +kernel
theorem dX2_readLine_42 : decode cX2_readLine 42 = .ok (.invokevirtual 58, 3) := by decide +kernel
theorem dX2_readLine_45 : decode cX2_readLine 45 = .ok (.aload_n 0, 1) := by decide +kernel
theorem dX2_readLine_46 : decode cX2_readLine 46 = .ok (.getfield 34, 3) := by decide +kernel
theorem dX2_readLine_49 : decode cX2_readLine 49 = .ok (.istore_n 1, 1) := by decide +kernel
theorem dX2_readLine_50 : decode cX2_readLine 50 = .ok (.aload_n 0, 1) := by decide +kernel
theorem dX2_readLine_51 : decode cX2_readLine 51 = .ok (.iconst 0, 1) := by decide +kernel
theorem dX2_readLine_52 : decode cX2_readLine 52 = .ok (.invokevirtual 58, 3) := by decide +kernel
theorem dX2_readLine_55 : decode cX2_readLine 55 = .ok (.aload_n 0, 1) := by decide +kernel
theorem dX2_readLine_56 : decode cX2_readLine 56 = .ok (.iconst 0, 1) := by decide +kernel
theorem dX2_readLine_57 : decode cX2_readLine 57 = .ok (.iconst 0, 1) := by decide +kernel
theorem dX2_readLine_58 : decode cX2_readLine 58 = .ok (.invokevirtual 54, 3) := by decide +kernel
theorem dX2_readLine_61 : decode cX2_readLine 61 = .ok (.aload_n 0, 1) := by decide +kernel
theorem dX2_readLine_62 : decode cX2_readLine 62 = .ok (.bipush (-59), 2) := by decide +kernel
theorem dX2_readLine_64 : decode cX2_readLine 64 = .ok (.invokevirtual 58, 3) := by decide +kernel
theorem dX2_readLine_67 : decode cX2_readLine 67 = .ok (.iload_n 1, 1) := by decide +kernel
theorem dX2_readLine_68 : decode cX2_readLine 68 = .ok (.ifCond .lt 20, 3) := by decide +kernel
theorem dX2_readLine_71 : decode cX2_readLine 71 = .ok (.iload_n 1, 1) := by decide +kernel
theorem dX2_readLine_72 : decode cX2_readLine 72 = .ok (.sipush 256, 3) := by decide +kernel
theorem dX2_readLine_75 : decode cX2_readLine 75 = .ok (.if_icmp .ge 13, 3) := by decide +kernel
theorem dX2_readLine_78 : decode cX2_readLine 78 = .ok (.aload_n 0, 1) := by decide +kernel
theorem dX2_readLine_79 : decode cX2_readLine 79 = .ok (.getfield 15, 3) := by decide +kernel
theorem dX2_readLine_82 : decode cX2_readLine 82 = .ok (.iload_n 1, 1) := by decide +kernel
theorem dX2_readLine_83 : decode cX2_readLine 83 = .ok (.aload_n 0, 1) := by decide +kernel
theorem dX2_readLine_84 : decode cX2_readLine 84 = .ok (.getfield 34, 3) := by decide +kernel
theorem dX2_readLine_87 : decode cX2_readLine 87 = .ok (.iastore, 1) := by decide +kernel
theorem dX2_readLine_88 : decode cX2_readLine 88 = .ok (.return_, 1) := by decide +kernel
theorem dX2_readLevel_0 : decode cX2_readLevel 0 = .ok (.iload_n 1, 1) := by decide +kernel
theorem dX2_readLevel_1 : decode cX2_readLevel 1 = .ok (.iconst 5, 1) := by decide +kernel
theorem dX2_readLevel_2 : decode cX2_readLevel 2 = .ok (.if_icmp .lt 9, 3) := by decide +kernel
theorem dX2_readLevel_5 : decode cX2_readLevel 5 = .ok (.aload_n 0, 1) := by decide +kernel
theorem dX2_readLevel_6 : decode cX2_readLevel 6 = .ok (.iload_n 2, 1) := by decide +kernel
theorem dX2_readLevel_7 : decode cX2_readLevel 7 = .ok (.invokevirtual 62, 3) := by decide +kernel
theorem dX2_readLevel_10 : decode cX2_readLevel 10 = .ok (.return_, 1) := by decide +kernel
theorem dX2_readLevel_11 : decode cX2_readLevel 11 = .ok (.aload_n 0, 1) := by decide +kernel
theorem dX2_readLevel_12 : decode cX2_readLevel 12 = .ok (.iload_n 1, 1) := by decide +kernel
theorem dX2_readLevel_13 : decode cX2_readLevel 13 = .ok (.iconst 1, 1) := by decide +kernel
theorem dX2_readLevel_14 : decode cX2_readLevel 14 = .ok (.iadd, 1) := by decide +kernel
theorem dX2_readLevel_15 : decode cX2_readLevel 15 = .ok (.iload_n 2, 1) := by decide +kernel
theorem dX2_readLevel_16 : decode cX2_readLevel 16 = .ok (.invokevirtual 54, 3) := by decide +kernel
theorem dX2_readLevel_19 : decode cX2_readLevel 19 = .ok (.iload_n 1, 1) := by decide +kernel
theorem dX2_readLevel_20 : decode cX2_readLevel 20 = .ok (.iconst 2, 1) := by decide +kernel
theorem dX2_readLevel_21 : decode cX2_readLevel 21 = .ok (.if_icmp .ne 7, 3) := by decide +kernel
theorem dX2_readLevel_24 : decode cX2_readLevel 24 = .ok (.iconst 1, 1) := by decide +kernel
theorem dX2_readLevel_25 : decode cX2_readLevel 25 = .ok (.goto 5, 3) := by decide +kernel
theorem dX2_readLevel_28 : decode cX2_readLevel 28 = .ok (.bipush 120, 2) := by decide +kernel
theorem dX2_readLevel_30 : decode cX2_readLevel 30 = .ok (.istore_n 3, 1) := by decide +kernel
theorem dX2_readLevel_31 : decode cX2_readLevel 31 = .ok (.iconst 0, 1) := by decide +kernel
theorem dX2_readLevel_32 : decode cX2_readLevel 32 = .ok (.istore 4, 2) := by decide +kernel
theorem dX2_readLevel_34 : decode cX2_readLevel 34 = .ok (.iload 4, 2) := by decide +kernel
theorem dX2_readLevel_36 : decode cX2_readLevel 36 = .ok (.iload_n 3, 1) := by decide +kernel
theorem dX2_readLevel_37 : decode cX2_readLevel 37 = .ok (.if_icmp .ge 58, 3) := by decide +kernel
theorem dX2_readLevel_40 : decode cX2_readLevel 40 = .ok (.aload_n 0, 1) := by decide +kernel
theorem dX2_readLevel_41 : decode cX2_readLevel 41 = .ok (.getfield 37, 3) := by decide +kernel
theorem dX2_readLevel_44 : decode cX2_readLevel 44 = .ok (.ifCond .ne 51, 3) := by decide +kernel
theorem dX2_readLevel_47 : decode cX2_readLevel 47 = .ok (.aload_n 0, 1) := by decide +kernel
theorem dX2_readLevel_48 : decode cX2_readLevel 48 = .ok (.invokevirtual 50, 3) := by decide +kernel
theorem dX2_readLevel_51 : decode cX2_readLevel 51 = .ok (.invokestatic 65, 3) := by decide +kernel
theorem dX2_readLevel_54 : decode cX2_readLevel 54 = .ok (.iload_n 1, 1) := by decide +kernel
theorem dX2_readLevel_55 : decode cX2_readLevel 55 = .ok (.if_icmp .ne 40, 3) := by decide +kernel
theorem dX2_readLevel_58 : decode cX2_readLevel 58 = .ok (.aload_n 0, 1) := by decide +kernel
theorem dX2_readLevel_59 : decode cX2_readLevel 59 = .ok (.invokevirtual 50, 3) := by decide +kernel
theorem dX2_readLevel_62 : decode cX2_readLevel 62 = .ok (.istore 5, 2) := by decide +kernel
theorem dX2_readLevel_64 : decode cX2_readLevel 64 = .ok (.aload_n 0, 1) := by decide +kernel
theorem dX2_readLevel_65 : decode cX2_readLevel 65 = .ok (.dup, 1) := by decide +kernel
theorem dX2_readLevel_66 : decode cX2_readLevel 66 = .ok (.getfield 31, 3) := by decide +kernel
theorem dX2_readLevel_69 : decode cX2_readLevel 69 = .ok (.iconst 1, 1) := by decide +kernel
theorem dX2_readLevel_70 : decode cX2_readLevel 70 = .ok (.iadd, 1) := by decide +kernel
theorem dX2_readLevel_71 : decode cX2_readLevel 71 = .ok (.putfield 31, 3) := by decide +kernel
theorem dX2_readLevel_74 : decode cX2_readLevel 74 = .ok (.aload_n 0, 1) := by decide +kernel
theorem dX2_readLevel_75 : decode cX2_readLevel 75 = .ok (.iload_n 1, 1) := by decide +kernel
theorem dX2_readLevel_76 : decode cX2_readLevel 76 = .ok (.iconst 1, 1) := by decide +kernel
theorem dX2_readLevel_77 : decode cX2_readLevel 77 = .ok (.iadd, 1) := by decide +kernel
theorem dX2_readLevel_78 : decode cX2_readLevel 78 = .ok (.iload_n 2, 1) := by decide +kernel
theorem dX2_readLevel_79 : decode cX2_readLevel 79 = .ok (.invokevirtual 54, 3) := by decide +kernel
theorem dX2_readLevel_82 : decode cX2_readLevel 82 = .ok (.aload_n 0, 1) := by decide +kernel
theorem dX2_readLevel_83 : decode cX2_readLevel 83 = .ok (.iload 5, 2) := by decide +kernel
theorem dX2_readLevel_85 : decode cX2_readLevel 85 = .ok (.ineg, 1) := by decide +kernel
theorem dX2_readLevel_86 : decode cX2_readLevel 86 = .ok (.invokevirtual 58, 3) := by decide +kernel
theorem dX2_readLevel_89 : decode cX2_readLevel 89 = .ok (.iinc 4 1, 3) := by decide +kernel
theorem dX2_readLevel_92 : decode cX2_readLevel 92 = .ok (.goto (-58), 3) := by decide +kernel
theorem dX2_readLevel_95 : decode cX2_readLevel 95 = .ok (.return_, 1) := by decide +kernel
theorem dX2_readOperand_0 : decode cX2_readOperand 0 = .ok (.aload_n 0, 1) := by decide +kernel
theorem dX2_readOperand_1 : decode cX2_readOperand 1 = .ok (.invokevirtual 50, 3) := by decide +kernel
theorem dX2_readOperand_4 : decode cX2_readOperand 4 = .ok (.istore_n 2, 1) := by decide +kernel
theorem dX2_readOperand_5 : decode cX2_readOperand 5 = .ok (.iload_n 2, 1) := by decide +kernel
theorem dX2_readOperand_6 : decode cX2_readOperand 6 = .ok (.invokestatic 69, 3) := by decide +kernel
theorem dX2_readOperand_9 : decode cX2_readOperand 9 = .ok (.ifCond .eq 10, 3) := by decide +kernel
theorem dX2_readOperand_12 : decode cX2_readOperand 12 = .ok (.aload_n 0, 1) := by decide +kernel
theorem dX2_readOperand_13 : decode cX2_readOperand 13 = .ok (.invokevirtual 73, 3) := by decide +kernel
theorem dX2_readOperand_16 : decode cX2_readOperand 16 = .ok (.goto 130, 3) := by decide +kernel
theorem dX2_readOperand_19 : decode cX2_readOperand 19 = .ok (.iload_n 2, 1) := by decide +kernel
theorem dX2_readOperand_20 : decode cX2_readOperand 20 = .ok (.invokestatic 76, 3) := by decide +kernel
theorem dX2_readOperand_23 : decode cX2_readOperand 23 = .ok (.ifCond .ge 24, 3) := by decide +kernel
theorem dX2_readOperand_26 : decode cX2_readOperand 26 = .ok (.aload_n 0, 1) := by decide +kernel
theorem dX2_readOperand_27 : decode cX2_readOperand 27 = .ok (.dup, 1) := by decide +kernel
theorem dX2_readOperand_28 : decode cX2_readOperand 28 = .ok (.getfield 31, 3) := by decide +kernel
theorem dX2_readOperand_31 : decode cX2_readOperand 31 = .ok (.iconst 1, 1) := by decide +kernel
theorem dX2_readOperand_32 : decode cX2_readOperand 32 = .ok (.iadd, 1) := by decide +kernel
theorem dX2_readOperand_33 : decode cX2_readOperand 33 = .ok (.putfield 31, 3) := by decide +kernel
theorem dX2_readOperand_36 : decode cX2_readOperand 36 = .ok (.aload_n 0, 1) := by decide +kernel
theorem dX2_readOperand_37 : decode cX2_readOperand 37 = .ok (.iload_n 2, 1) := by decide +kernel
theorem dX2_readOperand_38 : decode cX2_readOperand 38 = .ok (.invokestatic 76, 3) := by decide +kernel
theorem dX2_readOperand_41 : decode cX2_readOperand 41 = .ok (.invokevirtual 58, 3) := by decide +kernel
theorem dX2_readOperand_44 : decode cX2_readOperand 44 = .ok (.goto 102, 3) := by decide +kernel
theorem dX2_readOperand_47 : decode cX2_readOperand 47 = .ok (.iload_n 1, 1) := by decide +kernel
theorem dX2_readOperand_48 : decode cX2_readOperand 48 = .ok (.bipush 6, 2) := by decide +kernel
theorem dX2_readOperand_50 : decode cX2_readOperand 50 = .ok (.if_icmp .lt 11, 3) := by decide +kernel
theorem dX2_readOperand_53 : decode cX2_readOperand 53 = .ok (.aload_n 0, 1) := by decide +kernel
theorem dX2_readOperand_54 : decode cX2_readOperand 54 = .ok (.iconst 1, 1) := by decide +kernel
theorem dX2_readOperand_55 : decode cX2_readOperand 55 = .ok (.putfield 37, 3) := by decide +kernel
theorem dX2_readOperand_58 : decode cX2_readOperand 58 = .ok (.goto 88, 3) := by decide +kernel
theorem dX2_readOperand_61 : decode cX2_readOperand 61 = .ok (.iload_n 2, 1) := by decide +kernel
theorem dX2_readOperand_62 : decode cX2_readOperand 62 = .ok (.bipush 33, 2) := by decide +kernel
theorem dX2_readOperand_64 : decode cX2_readOperand 64 = .ok (.if_icmp .eq 9, 3) := by decide +kernel
theorem dX2_readOperand_67 : decode cX2_readOperand 67 = .ok (.iload_n 2, 1) := by decide +kernel
theorem dX2_readOperand_68 : decode cX2_readOperand 68 = .ok (.bipush 45, 2) := by decide +kernel
theorem dX2_readOperand_70 : decode cX2_readOperand 70 = .ok (.if_icmp .ne 40, 3) := by decide +kernel
theorem dX2_readOperand_73 : decode cX2_readOperand 73 = .ok (.aload_n 0, 1) := by decide +kernel
theorem dX2_readOperand_74 : decode cX2_readOperand 74 = .ok (.dup, 1) := by decide +kernel
theorem dX2_readOperand_75 : decode cX2_readOperand 75 = .ok (.getfield 31, 3) := by decide +kernel
theorem dX2_readOperand_78 : decode cX2_readOperand 78 = .ok (.iconst 1, 1) := by decide +kernel
theorem dX2_readOperand_79 : decode cX2_readOperand 79 = .ok (.iadd, 1) := by decide +kernel
theorem dX2_readOperand_80 : decode cX2_readOperand 80 = .ok (.putfield 31, 3) := by decide +kernel
theorem dX2_readOperand_83 : decode cX2_readOperand 83 = .ok (.aload_n 0, 1) := by decide +kernel
theorem dX2_readOperand_84 : decode cX2_readOperand 84 = .ok (.iload_n 1, 1) := by decide +kernel
theorem dX2_readOperand_85 : decode cX2_readOperand 85 = .ok (.iconst 1, 1) := by decide +kernel
theorem dX2_readOperand_86 : decode cX2_readOperand 86 = .ok (.iadd, 1) := by decide +kernel
theorem dX2_readOperand_87 : decode cX2_readOperand 87 = .ok (.invokevirtual 62, 3) := by decide +kernel
theorem dX2_readOperand_90 : decode cX2_readOperand 90 = .ok (.aload_n 0, 1) := by decide +kernel
theorem dX2_readOperand_91 : decode cX2_readOperand 91 = .ok (.iload_n 2, 1) := by decide +kernel
theorem dX2_readOperand_92 : decode cX2_readOperand 92 = .ok (.bipush 33, 2) := by decide +kernel
theorem dX2_readOperand_94 : decode cX2_readOperand 94 = .ok (.if_icmp .ne 8, 3) := by decide +kernel
theorem dX2_readOperand_97 : decode cX2_readOperand 97 = .ok (.bipush (-33), 2) := by decide +kernel
theorem dX2_readOperand_99 : decode cX2_readOperand 99 = .ok (.goto 5, 3) := by decide +kernel
theorem dX2_readOperand_102 : decode cX2_readOperand 102 = .ok (.bipush (-126), 2) := by decide +kernel
theorem dX2_readOperand_104 : decode cX2_readOperand 104 = .ok (.invokevirtual 58, 3) := by decide +kernel
theorem dX2_readOperand_107 : decode cX2_readOperand 107 = .ok (.goto 39, 3) := by decide +kernel
theorem dX2_readOperand_110 : decode cX2_readOperand 110 = .ok (.iload_n 2, 1) := by decide +kernel
theorem dX2_readOperand_111 : decode cX2_readOperand 111 = .ok (.bipush 40, 2) := by decide +kernel
theorem dX2_readOperand_113 : decode cX2_readOperand 113 = .ok (.if_icmp .ne 28, 3) := by decide +kernel
theorem dX2_readOperand_116 : decode cX2_readOperand 116 = .ok (.aload_n 0, 1) := by decide +kernel
theorem dX2_readOperand_117 : decode cX2_readOperand 117 = .ok (.dup, 1) := by decide +kernel
theorem dX2_readOperand_118 : decode cX2_readOperand 118 = .ok (.getfield 31, 3) := by decide +kernel
theorem dX2_readOperand_121 : decode cX2_readOperand 121 = .ok (.iconst 1, 1) := by decide +kernel
theorem dX2_readOperand_122 : decode cX2_readOperand 122 = .ok (.iadd, 1) := by decide +kernel
theorem dX2_readOperand_123 : decode cX2_readOperand 123 = .ok (.putfield 31, 3) := by decide +kernel
theorem dX2_readOperand_126 : decode cX2_readOperand 126 = .ok (.aload_n 0, 1) := by decide +kernel
theorem dX2_readOperand_127 : decode cX2_readOperand 127 = .ok (.iconst 0, 1) := by decide +kernel
theorem dX2_readOperand_128 : decode cX2_readOperand 128 = .ok (.iload_n 1, 1) := by decide +kernel
theorem dX2_readOperand_129 : decode cX2_readOperand 129 = .ok (.iconst 1, 1) := by decide +kernel
theorem dX2_readOperand_130 : decode cX2_readOperand 130 = .ok (.iadd, 1) := by decide +kernel
theorem dX2_readOperand_131 : decode cX2_readOperand 131 = .ok (.invokevirtual 54, 3) := by decide +kernel
theorem dX2_readOperand_134 : decode cX2_readOperand 134 = .ok (.aload_n 0, 1) := by decide +kernel
theorem dX2_readOperand_135 : decode cX2_readOperand 135 = .ok (.invokevirtual 79, 3) := by decide +kernel
theorem dX2_readOperand_138 : decode cX2_readOperand 138 = .ok (.goto 8, 3) := by decide +kernel
theorem dX2_readOperand_141 : decode cX2_readOperand 141 = .ok (.aload_n 0, 1) := by decide +kernel
theorem dX2_readOperand_142 : decode cX2_readOperand 142 = .ok (.iconst 1, 1) := by decide +kernel
theorem dX2_readOperand_143 : decode cX2_readOperand 143 = .ok (.putfield 37, 3) := by decide +kernel
theorem dX2_readOperand_146 : decode cX2_readOperand 146 = .ok (.return_, 1) := by decide +kernel
theorem dX2_closeBracket_0 : decode cX2_closeBracket 0 = .ok (.aload_n 0, 1) := by decide +kernel
theorem dX2_closeBracket_1 : decode cX2_closeBracket 1 = .ok (.getfield 37, 3) := by decide +kernel
theorem dX2_closeBracket_4 : decode cX2_closeBracket 4 = .ok (.ifCond .eq 4, 3) := by decide +kernel
theorem dX2_closeBracket_7 : decode cX2_closeBracket 7 = .ok (.return_, 1) := by decide +kernel
theorem dX2_closeBracket_8 : decode cX2_closeBracket 8 = .ok (.aload_n 0, 1) := by decide +kernel
theorem dX2_closeBracket_9 : decode cX2_closeBracket 9 = .ok (.invokevirtual 50, 3) := by decide +kernel
theorem dX2_closeBracket_12 : decode cX2_closeBracket 12 = .ok (.bipush 41, 2) := by decide +kernel
theorem dX2_closeBracket_14 : decode cX2_closeBracket 14 = .ok (.if_icmp .ne 16, 3) := by decide +kernel
theorem dX2_closeBracket_17 : decode cX2_closeBracket 17 = .ok (.aload_n 0, 1) := by decide +kernel
theorem dX2_closeBracket_18 : decode cX2_closeBracket 18 = .ok (.dup, 1) := by decide +kernel
theorem dX2_closeBracket_19 : decode cX2_closeBracket 19 = .ok (.getfield 31, 3) := by decide +kernel
theorem dX2_closeBracket_22 : decode cX2_closeBracket 22 = .ok (.iconst 1, 1) := by decide +kernel
theorem dX2_closeBracket_23 : decode cX2_closeBracket 23 = .ok (.iadd, 1) := by decide +kernel
theorem dX2_closeBracket_24 : decode cX2_closeBracket 24 = .ok (.putfield 31, 3) := by decide +kernel
theorem dX2_closeBracket_27 : decode cX2_closeBracket 27 = .ok (.goto 8, 3) := by decide +kernel
theorem dX2_closeBracket_30 : decode cX2_closeBracket 30 = .ok (.aload_n 0, 1) := by decide +kernel
theorem dX2_closeBracket_31 : decode cX2_closeBracket 31 = .ok (.iconst 1, 1) := by decide +kernel
theorem dX2_closeBracket_32 : decode cX2_closeBracket 32 = .ok (.putfield 37, 3) := by decide +kernel
theorem dX2_closeBracket_35 : decode cX2_closeBracket 35 = .ok (.return_, 1) := by decide +kernel
theorem dX2_readNumber_0 : decode cX2_readNumber 0 = .ok (.iconst 0, 1) := by decide +kernel
theorem dX2_readNumber_1 : decode cX2_readNumber 1 = .ok (.istore_n 1, 1) := by decide +kernel
theorem dX2_readNumber_2 : decode cX2_readNumber 2 = .ok (.iconst 0, 1) := by decide +kernel
theorem dX2_readNumber_3 : decode cX2_readNumber 3 = .ok (.istore_n 2, 1) := by decide +kernel
theorem dX2_readNumber_4 : decode cX2_readNumber 4 = .ok (.iload_n 2, 1) := by decide +kernel
theorem dX2_readNumber_5 : decode cX2_readNumber 5 = .ok (.iconst 4, 1) := by decide +kernel
theorem dX2_readNumber_6 : decode cX2_readNumber 6 = .ok (.if_icmp .ge 42, 3) := by decide +kernel
theorem dX2_readNumber_9 : decode cX2_readNumber 9 = .ok (.aload_n 0, 1) := by decide +kernel
theorem dX2_readNumber_10 : decode cX2_readNumber 10 = .ok (.invokevirtual 50, 3) := by decide +kernel
theorem dX2_readNumber_13 : decode cX2_readNumber 13 = .ok (.invokestatic 69, 3) := by decide +kernel
theorem dX2_readNumber_16 : decode cX2_readNumber 16 = .ok (.ifCond .eq 32, 3) := by decide +kernel
theorem dX2_readNumber_19 : decode cX2_readNumber 19 = .ok (.iload_n 1, 1) := by decide +kernel
theorem dX2_readNumber_20 : decode cX2_readNumber 20 = .ok (.bipush 10, 2) := by decide +kernel
theorem dX2_readNumber_22 : decode cX2_readNumber 22 = .ok (.imul, 1) := by decide +kernel
theorem dX2_readNumber_23 : decode cX2_readNumber 23 = .ok (.aload_n 0, 1) := by decide +kernel
theorem dX2_readNumber_24 : decode cX2_readNumber 24 = .ok (.invokevirtual 50, 3) := by decide +kernel
theorem dX2_readNumber_27 : decode cX2_readNumber 27 = .ok (.iadd, 1) := by decide +kernel
theorem dX2_readNumber_28 : decode cX2_readNumber 28 = .ok (.bipush 48, 2) := by decide +kernel
theorem dX2_readNumber_30 : decode cX2_readNumber 30 = .ok (.isub, 1) := by decide +kernel
theorem dX2_readNumber_31 : decode cX2_readNumber 31 = .ok (.istore_n 1, 1) := by decide +kernel
theorem dX2_readNumber_32 : decode cX2_readNumber 32 = .ok (.aload_n 0, 1) := by decide +kernel
theorem dX2_readNumber_33 : decode cX2_readNumber 33 = .ok (.dup, 1) := by decide +kernel
theorem dX2_readNumber_34 : decode cX2_readNumber 34 = .ok (.getfield 31, 3) := by decide +kernel
theorem dX2_readNumber_37 : decode cX2_readNumber 37 = .ok (.iconst 1, 1) := by decide +kernel
theorem dX2_readNumber_38 : decode cX2_readNumber 38 = .ok (.iadd, 1) := by decide +kernel
theorem dX2_readNumber_39 : decode cX2_readNumber 39 = .ok (.putfield 31, 3) := by decide +kernel
theorem dX2_readNumber_42 : decode cX2_readNumber 42 = .ok (.iinc 2 1, 3) := by decide +kernel
theorem dX2_readNumber_45 : decode cX2_readNumber 45 = .ok (.goto (-41), 3) := by decide +kernel
theorem dX2_readNumber_48 : decode cX2_readNumber 48 = .ok (.aload_n 0, 1) := by decide +kernel
theorem dX2_readNumber_49 : decode cX2_readNumber 49 = .ok (.iload_n 1, 1) := by decide +kernel
theorem dX2_readNumber_50 : decode cX2_readNumber 50 = .ok (.invokevirtual 58, 3) := by decide +kernel
theorem dX2_readNumber_53 : decode cX2_readNumber 53 = .ok (.return_, 1) := by decide +kernel
theorem dX2_nextByte_0 : decode cX2_nextByte 0 = .ok (.aload_n 0, 1) := by decide +kernel
theorem dX2_nextByte_1 : decode cX2_nextByte 1 = .ok (.getfield 31, 3) := by decide +kernel
theorem dX2_nextByte_4 : decode cX2_nextByte 4 = .ok (.ifCond .lt 35, 3) := by decide +kernel
theorem dX2_nextByte_7 : decode cX2_nextByte 7 = .ok (.aload_n 0, 1) := by decide +kernel
theorem dX2_nextByte_8 : decode cX2_nextByte 8 = .ok (.getfield 31, 3) := by decide +kernel
theorem dX2_nextByte_11 : decode cX2_nextByte 11 = .ok (.aload_n 0, 1) := by decide +kernel
theorem dX2_nextByte_12 : decode cX2_nextByte 12 = .ok (.getfield 27, 3) := by decide +kernel
theorem dX2_nextByte_15 : decode cX2_nextByte 15 = .ok (.if_icmp .ge 24, 3) := by decide +kernel
theorem dX2_nextByte_18 : decode cX2_nextByte 18 = .ok (.aload_n 0, 1) := by decide +kernel
theorem dX2_nextByte_19 : decode cX2_nextByte 19 = .ok (.getfield 31, 3) := by decide +kernel
theorem dX2_nextByte_22 : decode cX2_nextByte 22 = .ok (.bipush 120, 2) := by decide +kernel
theorem dX2_nextByte_24 : decode cX2_nextByte 24 = .ok (.if_icmp .ge 15, 3) := by decide +kernel
theorem dX2_nextByte_27 : decode cX2_nextByte 27 = .ok (.aload_n 0, 1) := by decide +kernel
theorem dX2_nextByte_28 : decode cX2_nextByte 28 = .ok (.getfield 11, 3) := by decide +kernel
theorem dX2_nextByte_31 : decode cX2_nextByte 31 = .ok (.aload_n 0, 1) := by decide +kernel
theorem dX2_nextByte_32 : decode cX2_nextByte 32 = .ok (.getfield 31, 3) := by decide +kernel
theorem dX2_nextByte_35 : decode cX2_nextByte 35 = .ok (.iaload, 1) := by decide +kernel
theorem dX2_nextByte_36 : decode cX2_nextByte 36 = .ok (.goto 4, 3) := by decide +kernel
theorem dX2_nextByte_39 : decode cX2_nextByte 39 = .ok (.iconst (-1), 1) := by decide +kernel
theorem dX2_nextByte_40 : decode cX2_nextByte 40 = .ok (.ireturn, 1) := by decide +kernel
theorem dX2_addStep_0 : decode cX2_addStep 0 = .ok (.aload_n 0, 1) := by decide +kernel
theorem dX2_addStep_1 : decode cX2_addStep 1 = .ok (.getfield 37, 3) := by decide +kernel
theorem dX2_addStep_4 : decode cX2_addStep 4 = .ok (.ifCond .ne 40, 3) := by decide +kernel
theorem dX2_addStep_7 : decode cX2_addStep 7 = .ok (.aload_n 0, 1) := by decide +kernel
theorem dX2_addStep_8 : decode cX2_addStep 8 = .ok (.getfield 34, 3) := by decide +kernel
theorem dX2_addStep_11 : decode cX2_addStep 11 = .ok (.ifCond .lt 33, 3) := by decide +kernel
theorem dX2_addStep_14 : decode cX2_addStep 14 = .ok (.aload_n 0, 1) := by decide +kernel
theorem dX2_addStep_15 : decode cX2_addStep 15 = .ok (.getfield 34, 3) := by decide +kernel
theorem dX2_addStep_18 : decode cX2_addStep 18 = .ok (.sipush 256, 3) := by decide +kernel
theorem dX2_addStep_21 : decode cX2_addStep 21 = .ok (.if_icmp .ge 23, 3) := by decide +kernel
theorem dX2_addStep_24 : decode cX2_addStep 24 = .ok (.aload_n 0, 1) := by decide +kernel
theorem dX2_addStep_25 : decode cX2_addStep 25 = .ok (.getfield 15, 3) := by decide +kernel
theorem dX2_addStep_28 : decode cX2_addStep 28 = .ok (.aload_n 0, 1) := by decide +kernel
theorem dX2_addStep_29 : decode cX2_addStep 29 = .ok (.getfield 34, 3) := by decide +kernel
theorem dX2_addStep_32 : decode cX2_addStep 32 = .ok (.iload_n 1, 1) := by decide +kernel
theorem dX2_addStep_33 : decode cX2_addStep 33 = .ok (.iastore, 1) := by decide +kernel
theorem dX2_addStep_34 : decode cX2_addStep 34 = .ok (.aload_n 0, 1) := by decide +kernel
theorem dX2_addStep_35 : decode cX2_addStep 35 = .ok (.dup, 1) := by decide +kernel
theorem dX2_addStep_36 : decode cX2_addStep 36 = .ok (.getfield 34, 3) := by decide +kernel
theorem dX2_addStep_39 : decode cX2_addStep 39 = .ok (.iconst 1, 1) := by decide +kernel
theorem dX2_addStep_40 : decode cX2_addStep 40 = .ok (.iadd, 1) := by decide +kernel
theorem dX2_addStep_41 : decode cX2_addStep 41 = .ok (.putfield 34, 3) := by decide +kernel
theorem dX2_addStep_44 : decode cX2_addStep 44 = .ok (.return_, 1) := by decide +kernel
theorem dX2_isDigit_0 : decode cX2_isDigit 0 = .ok (.iload_n 0, 1) := by decide +kernel
theorem dX2_isDigit_1 : decode cX2_isDigit 1 = .ok (.bipush 48, 2) := by decide +kernel
theorem dX2_isDigit_3 : decode cX2_isDigit 3 = .ok (.if_icmp .lt 13, 3) := by decide +kernel
theorem dX2_isDigit_6 : decode cX2_isDigit 6 = .ok (.iload_n 0, 1) := by decide +kernel
theorem dX2_isDigit_7 : decode cX2_isDigit 7 = .ok (.bipush 57, 2) := by decide +kernel
theorem dX2_isDigit_9 : decode cX2_isDigit 9 = .ok (.if_icmp .gt 7, 3) := by decide +kernel
theorem dX2_isDigit_12 : decode cX2_isDigit 12 = .ok (.iconst 1, 1) := by decide +kernel
theorem dX2_isDigit_13 : decode cX2_isDigit 13 = .ok (.goto 4, 3) := by decide +kernel
theorem dX2_isDigit_16 : decode cX2_isDigit 16 = .ok (.iconst 0, 1) := by decide +kernel
theorem dX2_isDigit_17 : decode cX2_isDigit 17 = .ok (.ireturn, 1) := by decide +kernel
theorem dX2_levelOf_0 : decode cX2_levelOf 0 = .ok (.iload_n 0, 1) := by decide +kernel
theorem dX2_levelOf_1 : decode cX2_levelOf 1 = .ok (.lookupswitch 101 #[(37, 99), (38, 93), (42, 99), (43, 97), (45, 97), (47, 99), (60, 95), (61, 95), (62, 95), (124, 91)], 91) := by decide +kernel
theorem dX2_levelOf_92 : decode cX2_levelOf 92 = .ok (.iconst 0, 1) := by decide +kernel
theorem dX2_levelOf_93 : decode cX2_levelOf 93 = .ok (.ireturn, 1) := by decide +kernel
theorem dX2_levelOf_94 : decode cX2_levelOf 94 = .ok (.iconst 1, 1) := by decide +kernel
theorem dX2_levelOf_95 : decode cX2_levelOf 95 = .ok (.ireturn, 1) := by decide +kernel
theorem dX2_levelOf_96 : decode cX2_levelOf 96 = .ok (.iconst 2, 1) := by decide +kernel
theorem dX2_levelOf_97 : decode cX2_levelOf 97 = .ok (.ireturn, 1) := by decide +kernel
theorem dX2_levelOf_98 : decode cX2_levelOf 98 = .ok (.iconst 3, 1) := by decide +kernel
theorem dX2_levelOf_99 : decode cX2_levelOf 99 = .ok (.ireturn, 1) := by decide +kernel
theorem dX2_levelOf_100 : decode cX2_levelOf 100 = .ok (.iconst 4, 1) := by decide +kernel
theorem dX2_levelOf_101 : decode cX2_levelOf 101 = .ok (.ireturn, 1) := by decide +kernel
theorem dX2_levelOf_102 : decode cX2_levelOf 102 = .ok (.iconst (-1), 1) := by decide +kernel
theorem dX2_levelOf_103 : decode cX2_levelOf 103 = .ok (.ireturn, 1) := by decide +kernel
theorem dX2_nameOf_0 : decode cX2_nameOf 0 = .ok (.iload_n 0, 1) := by decide +kernel
theorem dX2_nameOf_1 : decode cX2_nameOf 1 = .ok (.tableswitch 104 102 119 #[95, 104, 89, 104, 104, 104, 101, 104, 104, 104, 98, 104, 104, 87, 104, 104, 104, 92], 87) := by decide +kernel
theorem dX2_nameOf_88 : decode cX2_nameOf 88 = .ok (.iconst (-1), 1) := by decide +kernel
theorem dX2_nameOf_89 : decode cX2_nameOf 89 = .ok (.ireturn, 1) := by decide +kernel
theorem dX2_nameOf_90 : decode cX2_nameOf 90 = .ok (.bipush (-2), 2) := by decide +kernel
theorem dX2_nameOf_92 : decode cX2_nameOf 92 = .ok (.ireturn, 1) := by decide +kernel
theorem dX2_nameOf_93 : decode cX2_nameOf 93 = .ok (.bipush (-3), 2) := by decide +kernel
theorem dX2_nameOf_95 : decode cX2_nameOf 95 = .ok (.ireturn, 1) := by decide +kernel
theorem dX2_nameOf_96 : decode cX2_nameOf 96 = .ok (.bipush (-4), 2) := by decide +kernel
theorem dX2_nameOf_98 : decode cX2_nameOf 98 = .ok (.ireturn, 1) := by decide +kernel
theorem dX2_nameOf_99 : decode cX2_nameOf 99 = .ok (.bipush (-5), 2) := by decide +kernel
theorem dX2_nameOf_101 : decode cX2_nameOf 101 = .ok (.ireturn, 1) := by decide +kernel
theorem dX2_nameOf_102 : decode cX2_nameOf 102 = .ok (.bipush (-6), 2) := by decide +kernel
theorem dX2_nameOf_104 : decode cX2_nameOf 104 = .ok (.ireturn, 1) := by decide +kernel
theorem dX2_nameOf_105 : decode cX2_nameOf 105 = .ok (.iconst 0, 1) := by decide +kernel
theorem dX2_nameOf_106 : decode cX2_nameOf 106 = .ok (.ireturn, 1) := by decide +kernel
theorem dX2_isTold_0 : decode cX2_isTold 0 = .ok (.aload_n 0, 1) := by decide +kernel
theorem dX2_isTold_1 : decode cX2_isTold 1 = .ok (.getfield 44, 3) := by decide +kernel
theorem dX2_isTold_4 : decode cX2_isTold 4 = .ok (.ifCond .le 7, 3) := by decide +kernel
theorem dX2_isTold_7 : decode cX2_isTold 7 = .ok (.iconst 1, 1) := by decide +kernel
theorem dX2_isTold_8 : decode cX2_isTold 8 = .ok (.goto 4, 3) := by decide +kernel
theorem dX2_isTold_11 : decode cX2_isTold 11 = .ok (.iconst 0, 1) := by decide +kernel
theorem dX2_isTold_12 : decode cX2_isTold 12 = .ok (.ireturn, 1) := by decide +kernel
theorem dX2_worth_0 : decode cX2_worth 0 = .ok (.aload_n 0, 1) := by decide +kernel
theorem dX2_worth_1 : decode cX2_worth 1 = .ok (.getfield 24, 3) := by decide +kernel
theorem dX2_worth_4 : decode cX2_worth 4 = .ok (.iconst 0, 1) := by decide +kernel
theorem dX2_worth_5 : decode cX2_worth 5 = .ok (.iload_n 1, 1) := by decide +kernel
theorem dX2_worth_6 : decode cX2_worth 6 = .ok (.iastore, 1) := by decide +kernel
theorem dX2_worth_7 : decode cX2_worth 7 = .ok (.aload_n 0, 1) := by decide +kernel
theorem dX2_worth_8 : decode cX2_worth 8 = .ok (.getfield 24, 3) := by decide +kernel
theorem dX2_worth_11 : decode cX2_worth 11 = .ok (.iconst 1, 1) := by decide +kernel
theorem dX2_worth_12 : decode cX2_worth 12 = .ok (.iload_n 2, 1) := by decide +kernel
theorem dX2_worth_13 : decode cX2_worth 13 = .ok (.iastore, 1) := by decide +kernel
theorem dX2_worth_14 : decode cX2_worth 14 = .ok (.aload_n 0, 1) := by decide +kernel
theorem dX2_worth_15 : decode cX2_worth 15 = .ok (.getfield 24, 3) := by decide +kernel
theorem dX2_worth_18 : decode cX2_worth 18 = .ok (.iconst 2, 1) := by decide +kernel
theorem dX2_worth_19 : decode cX2_worth 19 = .ok (.iload_n 3, 1) := by decide +kernel
theorem dX2_worth_20 : decode cX2_worth 20 = .ok (.iastore, 1) := by decide +kernel
theorem dX2_worth_21 : decode cX2_worth 21 = .ok (.aload_n 0, 1) := by decide +kernel
theorem dX2_worth_22 : decode cX2_worth 22 = .ok (.getfield 24, 3) := by decide +kernel
theorem dX2_worth_25 : decode cX2_worth 25 = .ok (.iconst 3, 1) := by decide +kernel
theorem dX2_worth_26 : decode cX2_worth 26 = .ok (.iload 4, 2) := by decide +kernel
theorem dX2_worth_28 : decode cX2_worth 28 = .ok (.iastore, 1) := by decide +kernel
theorem dX2_worth_29 : decode cX2_worth 29 = .ok (.aload_n 0, 1) := by decide +kernel
theorem dX2_worth_30 : decode cX2_worth 30 = .ok (.getfield 24, 3) := by decide +kernel
theorem dX2_worth_33 : decode cX2_worth 33 = .ok (.iconst 4, 1) := by decide +kernel
theorem dX2_worth_34 : decode cX2_worth 34 = .ok (.iload 5, 2) := by decide +kernel
theorem dX2_worth_36 : decode cX2_worth 36 = .ok (.iastore, 1) := by decide +kernel
theorem dX2_worth_37 : decode cX2_worth 37 = .ok (.aload_n 0, 1) := by decide +kernel
theorem dX2_worth_38 : decode cX2_worth 38 = .ok (.getfield 24, 3) := by decide +kernel
theorem dX2_worth_41 : decode cX2_worth 41 = .ok (.iconst 5, 1) := by decide +kernel
theorem dX2_worth_42 : decode cX2_worth 42 = .ok (.iload 6, 2) := by decide +kernel
theorem dX2_worth_44 : decode cX2_worth 44 = .ok (.iastore, 1) := by decide +kernel
theorem dX2_worth_45 : decode cX2_worth 45 = .ok (.iconst 0, 1) := by decide +kernel
theorem dX2_worth_46 : decode cX2_worth 46 = .ok (.istore 7, 2) := by decide +kernel
theorem dX2_worth_48 : decode cX2_worth 48 = .ok (.iconst 0, 1) := by decide +kernel
theorem dX2_worth_49 : decode cX2_worth 49 = .ok (.istore 8, 2) := by decide +kernel
theorem dX2_worth_51 : decode cX2_worth 51 = .ok (.iconst 0, 1) := by decide +kernel
theorem dX2_worth_52 : decode cX2_worth 52 = .ok (.istore 9, 2) := by decide +kernel
theorem dX2_worth_54 : decode cX2_worth 54 = .ok (.iload 9, 2) := by decide +kernel
theorem dX2_worth_56 : decode cX2_worth 56 = .ok (.sipush 256, 3) := by decide +kernel
theorem dX2_worth_59 : decode cX2_worth 59 = .ok (.if_icmp .ge 275, 3) := by decide +kernel
theorem dX2_worth_62 : decode cX2_worth 62 = .ok (.iload 8, 2) := by decide +kernel
theorem dX2_worth_64 : decode cX2_worth 64 = .ok (.ifCond .lt 270, 3) := by decide +kernel
theorem dX2_worth_67 : decode cX2_worth 67 = .ok (.iload 8, 2) := by decide +kernel
theorem dX2_worth_69 : decode cX2_worth 69 = .ok (.aload_n 0, 1) := by decide +kernel
theorem dX2_worth_70 : decode cX2_worth 70 = .ok (.getfield 44, 3) := by decide +kernel
theorem dX2_worth_73 : decode cX2_worth 73 = .ok (.if_icmp .ge 261, 3) := by decide +kernel
theorem dX2_worth_76 : decode cX2_worth 76 = .ok (.iload 8, 2) := by decide +kernel
theorem dX2_worth_78 : decode cX2_worth 78 = .ok (.sipush 256, 3) := by decide +kernel
theorem dX2_worth_81 : decode cX2_worth 81 = .ok (.if_icmp .ge 253, 3) := by decide +kernel
theorem dX2_worth_84 : decode cX2_worth 84 = .ok (.aload_n 0, 1) := by decide +kernel
theorem dX2_worth_85 : decode cX2_worth 85 = .ok (.getfield 18, 3) := by decide +kernel
theorem dX2_worth_88 : decode cX2_worth 88 = .ok (.iload 8, 2) := by decide +kernel
theorem dX2_worth_90 : decode cX2_worth 90 = .ok (.iaload, 1) := by decide +kernel
theorem dX2_worth_91 : decode cX2_worth 91 = .ok (.istore 10, 2) := by decide +kernel
theorem dX2_worth_93 : decode cX2_worth 93 = .ok (.iinc 8 1, 3) := by decide +kernel
theorem dX2_worth_96 : decode cX2_worth 96 = .ok (.iload 10, 2) := by decide +kernel
theorem dX2_worth_98 : decode cX2_worth 98 = .ok (.bipush (-6), 2) := by decide +kernel
theorem dX2_worth_100 : decode cX2_worth 100 = .ok (.if_icmp .lt 44, 3) := by decide +kernel
theorem dX2_worth_103 : decode cX2_worth 103 = .ok (.iload 7, 2) := by decide +kernel
theorem dX2_worth_105 : decode cX2_worth 105 = .ok (.bipush 64, 2) := by decide +kernel
theorem dX2_worth_107 : decode cX2_worth 107 = .ok (.if_icmp .lt 5, 3) := by decide +kernel
theorem dX2_worth_110 : decode cX2_worth 110 = .ok (.iconst 0, 1) := by decide +kernel
theorem dX2_worth_111 : decode cX2_worth 111 = .ok (.ireturn, 1) := by decide +kernel
theorem dX2_worth_112 : decode cX2_worth 112 = .ok (.aload_n 0, 1) := by decide +kernel
theorem dX2_worth_113 : decode cX2_worth 113 = .ok (.getfield 21, 3) := by decide +kernel
theorem dX2_worth_116 : decode cX2_worth 116 = .ok (.iload 7, 2) := by decide +kernel
theorem dX2_worth_118 : decode cX2_worth 118 = .ok (.iload 10, 2) := by decide +kernel
theorem dX2_worth_120 : decode cX2_worth 120 = .ok (.ifCond .lt 8, 3) := by decide +kernel
theorem dX2_worth_123 : decode cX2_worth 123 = .ok (.iload 10, 2) := by decide +kernel
theorem dX2_worth_125 : decode cX2_worth 125 = .ok (.goto 12, 3) := by decide +kernel
theorem dX2_worth_128 : decode cX2_worth 128 = .ok (.aload_n 0, 1) := by decide +kernel
theorem dX2_worth_129 : decode cX2_worth 129 = .ok (.getfield 24, 3) := by decide +kernel
theorem dX2_worth_132 : decode cX2_worth 132 = .ok (.iconst (-1), 1) := by decide +kernel
theorem dX2_worth_133 : decode cX2_worth 133 = .ok (.iload 10, 2) := by decide +kernel
theorem dX2_worth_135 : decode cX2_worth 135 = .ok (.isub, 1) := by decide +kernel
theorem dX2_worth_136 : decode cX2_worth 136 = .ok (.iaload, 1) := by decide +kernel
theorem dX2_worth_137 : decode cX2_worth 137 = .ok (.iastore, 1) := by decide +kernel
theorem dX2_worth_138 : decode cX2_worth 138 = .ok (.iinc 7 1, 3) := by decide +kernel
theorem dX2_worth_141 : decode cX2_worth 141 = .ok (.goto 187, 3) := by decide +kernel
theorem dX2_worth_144 : decode cX2_worth 144 = .ok (.iload 7, 2) := by decide +kernel
theorem dX2_worth_146 : decode cX2_worth 146 = .ok (.iconst 1, 1) := by decide +kernel
theorem dX2_worth_147 : decode cX2_worth 147 = .ok (.if_icmp .lt 10, 3) := by decide +kernel
theorem dX2_worth_150 : decode cX2_worth 150 = .ok (.iload 7, 2) := by decide +kernel
theorem dX2_worth_152 : decode cX2_worth 152 = .ok (.bipush 64, 2) := by decide +kernel
theorem dX2_worth_154 : decode cX2_worth 154 = .ok (.if_icmp .le 5, 3) := by decide +kernel
theorem dX2_worth_157 : decode cX2_worth 157 = .ok (.iconst 0, 1) := by decide +kernel
theorem dX2_worth_158 : decode cX2_worth 158 = .ok (.ireturn, 1) := by decide +kernel
theorem dX2_worth_159 : decode cX2_worth 159 = .ok (.iload 10, 2) := by decide +kernel
theorem dX2_worth_161 : decode cX2_worth 161 = .ok (.bipush (-59), 2) := by decide +kernel
theorem dX2_worth_163 : decode cX2_worth 163 = .ok (.if_icmp .ne 13, 3) := by decide +kernel
theorem dX2_worth_166 : decode cX2_worth 166 = .ok (.aload_n 0, 1) := by decide +kernel
theorem dX2_worth_167 : decode cX2_worth 167 = .ok (.getfield 21, 3) := by decide +kernel
theorem dX2_worth_170 : decode cX2_worth 170 = .ok (.iload 7, 2) := by decide +kernel
theorem dX2_worth_172 : decode cX2_worth 172 = .ok (.iconst 1, 1) := by decide +kernel
theorem dX2_worth_173 : decode cX2_worth 173 = .ok (.isub, 1) := by decide +kernel
theorem dX2_worth_174 : decode cX2_worth 174 = .ok (.iaload, 1) := by decide +kernel
theorem dX2_worth_175 : decode cX2_worth 175 = .ok (.ireturn, 1) := by decide +kernel
theorem dX2_worth_176 : decode cX2_worth 176 = .ok (.iload 10, 2) := by decide +kernel
theorem dX2_worth_178 : decode cX2_worth 178 = .ok (.bipush (-63), 2) := by decide +kernel
theorem dX2_worth_180 : decode cX2_worth 180 = .ok (.if_icmp .ne 43, 3) := by decide +kernel
theorem dX2_worth_183 : decode cX2_worth 183 = .ok (.iinc 7 (-1), 3) := by decide +kernel
theorem dX2_worth_186 : decode cX2_worth 186 = .ok (.aload_n 0, 1) := by decide +kernel
theorem dX2_worth_187 : decode cX2_worth 187 = .ok (.getfield 21, 3) := by decide +kernel
theorem dX2_worth_190 : decode cX2_worth 190 = .ok (.iload 7, 2) := by decide +kernel
theorem dX2_worth_192 : decode cX2_worth 192 = .ok (.iaload, 1) := by decide +kernel
theorem dX2_worth_193 : decode cX2_worth 193 = .ok (.ifCond .ne 11, 3) := by decide +kernel
theorem dX2_worth_196 : decode cX2_worth 196 = .ok (.iload 8, 2) := by decide +kernel
theorem dX2_worth_198 : decode cX2_worth 198 = .ok (.sipush 256, 3) := by decide +kernel
theorem dX2_worth_201 : decode cX2_worth 201 = .ok (.if_icmp .lt 10, 3) := by decide +kernel
theorem dX2_worth_204 : decode cX2_worth 204 = .ok (.iload 8, 2) := by decide +kernel
theorem dX2_worth_206 : decode cX2_worth 206 = .ok (.iconst 1, 1) := by decide +kernel
theorem dX2_worth_207 : decode cX2_worth 207 = .ok (.iadd, 1) := by decide +kernel
theorem dX2_worth_208 : decode cX2_worth 208 = .ok (.goto 10, 3) := by decide +kernel
theorem dX2_worth_211 : decode cX2_worth 211 = .ok (.aload_n 0, 1) := by decide +kernel
theorem dX2_worth_212 : decode cX2_worth 212 = .ok (.getfield 18, 3) := by decide +kernel
theorem dX2_worth_215 : decode cX2_worth 215 = .ok (.iload 8, 2) := by decide +kernel
theorem dX2_worth_217 : decode cX2_worth 217 = .ok (.iaload, 1) := by decide +kernel
theorem dX2_worth_218 : decode cX2_worth 218 = .ok (.istore 8, 2) := by decide +kernel
theorem dX2_worth_220 : decode cX2_worth 220 = .ok (.goto 108, 3) := by decide +kernel
theorem dX2_worth_223 : decode cX2_worth 223 = .ok (.iload 10, 2) := by decide +kernel
theorem dX2_worth_225 : decode cX2_worth 225 = .ok (.bipush (-33), 2) := by decide +kernel
theorem dX2_worth_227 : decode cX2_worth 227 = .ok (.if_icmp .ne 32, 3) := by decide +kernel
theorem dX2_worth_230 : decode cX2_worth 230 = .ok (.aload_n 0, 1) := by decide +kernel
theorem dX2_worth_231 : decode cX2_worth 231 = .ok (.getfield 21, 3) := by decide +kernel
theorem dX2_worth_234 : decode cX2_worth 234 = .ok (.iload 7, 2) := by decide +kernel
theorem dX2_worth_236 : decode cX2_worth 236 = .ok (.iconst 1, 1) := by decide +kernel
theorem dX2_worth_237 : decode cX2_worth 237 = .ok (.isub, 1) := by decide +kernel
theorem dX2_worth_238 : decode cX2_worth 238 = .ok (.aload_n 0, 1) := by decide +kernel
theorem dX2_worth_239 : decode cX2_worth 239 = .ok (.getfield 21, 3) := by decide +kernel
theorem dX2_worth_242 : decode cX2_worth 242 = .ok (.iload 7, 2) := by decide +kernel
theorem dX2_worth_244 : decode cX2_worth 244 = .ok (.iconst 1, 1) := by decide +kernel
theorem dX2_worth_245 : decode cX2_worth 245 = .ok (.isub, 1) := by decide +kernel
theorem dX2_worth_246 : decode cX2_worth 246 = .ok (.iaload, 1) := by decide +kernel
theorem dX2_worth_247 : decode cX2_worth 247 = .ok (.ifCond .ne 7, 3) := by decide +kernel
theorem dX2_worth_250 : decode cX2_worth 250 = .ok (.iconst 1, 1) := by decide +kernel
theorem dX2_worth_251 : decode cX2_worth 251 = .ok (.goto 4, 3) := by decide +kernel
theorem dX2_worth_254 : decode cX2_worth 254 = .ok (.iconst 0, 1) := by decide +kernel
theorem dX2_worth_255 : decode cX2_worth 255 = .ok (.iastore, 1) := by decide +kernel
theorem dX2_worth_256 : decode cX2_worth 256 = .ok (.goto 72, 3) := by decide +kernel
theorem dX2_worth_259 : decode cX2_worth 259 = .ok (.iload 10, 2) := by decide +kernel
theorem dX2_worth_261 : decode cX2_worth 261 = .ok (.bipush (-126), 2) := by decide +kernel
theorem dX2_worth_263 : decode cX2_worth 263 = .ok (.if_icmp .ne 25, 3) := by decide +kernel
theorem dX2_worth_266 : decode cX2_worth 266 = .ok (.aload_n 0, 1) := by decide +kernel
theorem dX2_worth_267 : decode cX2_worth 267 = .ok (.getfield 21, 3) := by decide +kernel
theorem dX2_worth_270 : decode cX2_worth 270 = .ok (.iload 7, 2) := by decide +kernel
theorem dX2_worth_272 : decode cX2_worth 272 = .ok (.iconst 1, 1) := by decide +kernel
theorem dX2_worth_273 : decode cX2_worth 273 = .ok (.isub, 1) := by decide +kernel
theorem dX2_worth_274 : decode cX2_worth 274 = .ok (.aload_n 0, 1) := by decide +kernel
theorem dX2_worth_275 : decode cX2_worth 275 = .ok (.getfield 21, 3) := by decide +kernel
theorem dX2_worth_278 : decode cX2_worth 278 = .ok (.iload 7, 2) := by decide +kernel
theorem dX2_worth_280 : decode cX2_worth 280 = .ok (.iconst 1, 1) := by decide +kernel
theorem dX2_worth_281 : decode cX2_worth 281 = .ok (.isub, 1) := by decide +kernel
theorem dX2_worth_282 : decode cX2_worth 282 = .ok (.iaload, 1) := by decide +kernel
theorem dX2_worth_283 : decode cX2_worth 283 = .ok (.ineg, 1) := by decide +kernel
theorem dX2_worth_284 : decode cX2_worth 284 = .ok (.iastore, 1) := by decide +kernel
theorem dX2_worth_285 : decode cX2_worth 285 = .ok (.goto 43, 3) := by decide +kernel
theorem dX2_worth_288 : decode cX2_worth 288 = .ok (.iload 7, 2) := by decide +kernel
theorem dX2_worth_290 : decode cX2_worth 290 = .ok (.iconst 2, 1) := by decide +kernel
theorem dX2_worth_291 : decode cX2_worth 291 = .ok (.if_icmp .lt 37, 3) := by decide +kernel
theorem dX2_worth_294 : decode cX2_worth 294 = .ok (.iinc 7 (-1), 3) := by decide +kernel
theorem dX2_worth_297 : decode cX2_worth 297 = .ok (.aload_n 0, 1) := by decide +kernel
theorem dX2_worth_298 : decode cX2_worth 298 = .ok (.getfield 21, 3) := by decide +kernel
theorem dX2_worth_301 : decode cX2_worth 301 = .ok (.iload 7, 2) := by decide +kernel
theorem dX2_worth_303 : decode cX2_worth 303 = .ok (.iconst 1, 1) := by decide +kernel
theorem dX2_worth_304 : decode cX2_worth 304 = .ok (.isub, 1) := by decide +kernel
theorem dX2_worth_305 : decode cX2_worth 305 = .ok (.iload 10, 2) := by decide +kernel
theorem dX2_worth_307 : decode cX2_worth 307 = .ok (.ineg, 1) := by decide +kernel
theorem dX2_worth_308 : decode cX2_worth 308 = .ok (.aload_n 0, 1) := by decide +kernel
theorem dX2_worth_309 : decode cX2_worth 309 = .ok (.getfield 21, 3) := by decide +kernel
theorem dX2_worth_312 : decode cX2_worth 312 = .ok (.iload 7, 2) := by decide +kernel
theorem dX2_worth_314 : decode cX2_worth 314 = .ok (.iconst 1, 1) := by decide +kernel
theorem dX2_worth_315 : decode cX2_worth 315 = .ok (.isub, 1) := by decide +kernel
theorem dX2_worth_316 : decode cX2_worth 316 = .ok (.iaload, 1) := by decide +kernel
theorem dX2_worth_317 : decode cX2_worth 317 = .ok (.aload_n 0, 1) := by decide +kernel
theorem dX2_worth_318 : decode cX2_worth 318 = .ok (.getfield 21, 3) := by decide +kernel
theorem dX2_worth_321 : decode cX2_worth 321 = .ok (.iload 7, 2) := by decide +kernel
theorem dX2_worth_323 : decode cX2_worth 323 = .ok (.iaload, 1) := by decide +kernel
theorem dX2_worth_324 : decode cX2_worth 324 = .ok (.invokestatic 82, 3) := by decide +kernel
theorem dX2_worth_327 : decode cX2_worth 327 = .ok (.iastore, 1) := by decide +kernel
theorem dX2_worth_328 : decode cX2_worth 328 = .ok (.iinc 9 1, 3) := by decide +kernel
theorem dX2_worth_331 : decode cX2_worth 331 = .ok (.goto (-277), 3) := by decide +kernel
theorem dX2_worth_334 : decode cX2_worth 334 = .ok (.iconst 0, 1) := by decide +kernel
theorem dX2_worth_335 : decode cX2_worth 335 = .ok (.ireturn, 1) := by decide +kernel
theorem dX2_joined_0 : decode cX2_joined 0 = .ok (.iload_n 0, 1) := by decide +kernel
theorem dX2_joined_1 : decode cX2_joined 1 = .ok (.lookupswitch 168 #[(38, 97), (42, 152), (43, 144), (45, 148), (47, 156), (60, 111), (61, 122), (62, 133), (124, 83)], 83) := by decide +kernel
theorem dX2_joined_84 : decode cX2_joined 84 = .ok (.iload_n 1, 1) := by decide +kernel
theorem dX2_joined_85 : decode cX2_joined 85 = .ok (.ifCond .ne 7, 3) := by decide +kernel
theorem dX2_joined_88 : decode cX2_joined 88 = .ok (.iload_n 2, 1) := by decide +kernel
theorem dX2_joined_89 : decode cX2_joined 89 = .ok (.ifCond .eq 7, 3) := by decide +kernel
theorem dX2_joined_92 : decode cX2_joined 92 = .ok (.iconst 1, 1) := by decide +kernel
theorem dX2_joined_93 : decode cX2_joined 93 = .ok (.goto 4, 3) := by decide +kernel
theorem dX2_joined_96 : decode cX2_joined 96 = .ok (.iconst 0, 1) := by decide +kernel
theorem dX2_joined_97 : decode cX2_joined 97 = .ok (.ireturn, 1) := by decide +kernel
theorem dX2_joined_98 : decode cX2_joined 98 = .ok (.iload_n 1, 1) := by decide +kernel
theorem dX2_joined_99 : decode cX2_joined 99 = .ok (.ifCond .eq 11, 3) := by decide +kernel
theorem dX2_joined_102 : decode cX2_joined 102 = .ok (.iload_n 2, 1) := by decide +kernel
theorem dX2_joined_103 : decode cX2_joined 103 = .ok (.ifCond .eq 7, 3) := by decide +kernel
theorem dX2_joined_106 : decode cX2_joined 106 = .ok (.iconst 1, 1) := by decide +kernel
theorem dX2_joined_107 : decode cX2_joined 107 = .ok (.goto 4, 3) := by decide +kernel
theorem dX2_joined_110 : decode cX2_joined 110 = .ok (.iconst 0, 1) := by decide +kernel
theorem dX2_joined_111 : decode cX2_joined 111 = .ok (.ireturn, 1) := by decide +kernel
theorem dX2_joined_112 : decode cX2_joined 112 = .ok (.iload_n 1, 1) := by decide +kernel
theorem dX2_joined_113 : decode cX2_joined 113 = .ok (.iload_n 2, 1) := by decide +kernel
theorem dX2_joined_114 : decode cX2_joined 114 = .ok (.if_icmp .ge 7, 3) := by decide +kernel
theorem dX2_joined_117 : decode cX2_joined 117 = .ok (.iconst 1, 1) := by decide +kernel
theorem dX2_joined_118 : decode cX2_joined 118 = .ok (.goto 4, 3) := by decide +kernel
theorem dX2_joined_121 : decode cX2_joined 121 = .ok (.iconst 0, 1) := by decide +kernel
theorem dX2_joined_122 : decode cX2_joined 122 = .ok (.ireturn, 1) := by decide +kernel
theorem dX2_joined_123 : decode cX2_joined 123 = .ok (.iload_n 1, 1) := by decide +kernel
theorem dX2_joined_124 : decode cX2_joined 124 = .ok (.iload_n 2, 1) := by decide +kernel
theorem dX2_joined_125 : decode cX2_joined 125 = .ok (.if_icmp .ne 7, 3) := by decide +kernel
theorem dX2_joined_128 : decode cX2_joined 128 = .ok (.iconst 1, 1) := by decide +kernel
theorem dX2_joined_129 : decode cX2_joined 129 = .ok (.goto 4, 3) := by decide +kernel
theorem dX2_joined_132 : decode cX2_joined 132 = .ok (.iconst 0, 1) := by decide +kernel
theorem dX2_joined_133 : decode cX2_joined 133 = .ok (.ireturn, 1) := by decide +kernel
theorem dX2_joined_134 : decode cX2_joined 134 = .ok (.iload_n 1, 1) := by decide +kernel
theorem dX2_joined_135 : decode cX2_joined 135 = .ok (.iload_n 2, 1) := by decide +kernel
theorem dX2_joined_136 : decode cX2_joined 136 = .ok (.if_icmp .le 7, 3) := by decide +kernel
theorem dX2_joined_139 : decode cX2_joined 139 = .ok (.iconst 1, 1) := by decide +kernel
theorem dX2_joined_140 : decode cX2_joined 140 = .ok (.goto 4, 3) := by decide +kernel
theorem dX2_joined_143 : decode cX2_joined 143 = .ok (.iconst 0, 1) := by decide +kernel
theorem dX2_joined_144 : decode cX2_joined 144 = .ok (.ireturn, 1) := by decide +kernel
theorem dX2_joined_145 : decode cX2_joined 145 = .ok (.iload_n 1, 1) := by decide +kernel
theorem dX2_joined_146 : decode cX2_joined 146 = .ok (.iload_n 2, 1) := by decide +kernel
theorem dX2_joined_147 : decode cX2_joined 147 = .ok (.iadd, 1) := by decide +kernel
theorem dX2_joined_148 : decode cX2_joined 148 = .ok (.ireturn, 1) := by decide +kernel
theorem dX2_joined_149 : decode cX2_joined 149 = .ok (.iload_n 1, 1) := by decide +kernel
theorem dX2_joined_150 : decode cX2_joined 150 = .ok (.iload_n 2, 1) := by decide +kernel
theorem dX2_joined_151 : decode cX2_joined 151 = .ok (.isub, 1) := by decide +kernel
theorem dX2_joined_152 : decode cX2_joined 152 = .ok (.ireturn, 1) := by decide +kernel
theorem dX2_joined_153 : decode cX2_joined 153 = .ok (.iload_n 1, 1) := by decide +kernel
theorem dX2_joined_154 : decode cX2_joined 154 = .ok (.iload_n 2, 1) := by decide +kernel
theorem dX2_joined_155 : decode cX2_joined 155 = .ok (.imul, 1) := by decide +kernel
theorem dX2_joined_156 : decode cX2_joined 156 = .ok (.ireturn, 1) := by decide +kernel
theorem dX2_joined_157 : decode cX2_joined 157 = .ok (.iload_n 2, 1) := by decide +kernel
theorem dX2_joined_158 : decode cX2_joined 158 = .ok (.ifCond .ne 7, 3) := by decide +kernel
theorem dX2_joined_161 : decode cX2_joined 161 = .ok (.iconst 0, 1) := by decide +kernel
theorem dX2_joined_162 : decode cX2_joined 162 = .ok (.goto 6, 3) := by decide +kernel
theorem dX2_joined_165 : decode cX2_joined 165 = .ok (.iload_n 1, 1) := by decide +kernel
theorem dX2_joined_166 : decode cX2_joined 166 = .ok (.iload_n 2, 1) := by decide +kernel
theorem dX2_joined_167 : decode cX2_joined 167 = .ok (.idiv, 1) := by decide +kernel
theorem dX2_joined_168 : decode cX2_joined 168 = .ok (.ireturn, 1) := by decide +kernel
theorem dX2_joined_169 : decode cX2_joined 169 = .ok (.iload_n 2, 1) := by decide +kernel
theorem dX2_joined_170 : decode cX2_joined 170 = .ok (.ifCond .ne 7, 3) := by decide +kernel
theorem dX2_joined_173 : decode cX2_joined 173 = .ok (.iconst 0, 1) := by decide +kernel
theorem dX2_joined_174 : decode cX2_joined 174 = .ok (.goto 6, 3) := by decide +kernel
theorem dX2_joined_177 : decode cX2_joined 177 = .ok (.iload_n 1, 1) := by decide +kernel
theorem dX2_joined_178 : decode cX2_joined 178 = .ok (.iload_n 2, 1) := by decide +kernel
theorem dX2_joined_179 : decode cX2_joined 179 = .ok (.irem, 1) := by decide +kernel
theorem dX2_joined_180 : decode cX2_joined 180 = .ok (.ireturn, 1) := by decide +kernel
theorem dX3_init_0 : decode cX3_init 0 = .ok (.aload_n 0, 1) := by decide +kernel
theorem dX3_init_1 : decode cX3_init 1 = .ok (.invokespecial 3, 3) := by decide +kernel
theorem dX3_init_4 : decode cX3_init 4 = .ok (.aload_n 0, 1) := by decide +kernel
theorem dX3_init_5 : decode cX3_init 5 = .ok (.bipush 50, 2) := by decide +kernel
theorem dX3_init_7 : decode cX3_init 7 = .ok (.newarray .int, 2) := by decide +kernel
theorem dX3_init_9 : decode cX3_init 9 = .ok (.putfield 11, 3) := by decide +kernel
theorem dX3_init_12 : decode cX3_init 12 = .ok (.aload_n 0, 1) := by decide +kernel
theorem dX3_init_13 : decode cX3_init 13 = .ok (.bipush 24, 2) := by decide +kernel
theorem dX3_init_15 : decode cX3_init 15 = .ok (.newarray .int, 2) := by decide +kernel
theorem dX3_init_17 : decode cX3_init 17 = .ok (.putfield 15, 3) := by decide +kernel
theorem dX3_init_20 : decode cX3_init 20 = .ok (.return_, 1) := by decide +kernel
theorem dX3_keepBody_0 : decode cX3_keepBody 0 = .ok (.aload_n 0, 1) := by decide +kernel
theorem dX3_keepBody_1 : decode cX3_keepBody 1 = .ok (.getfield 18, 3) := by decide +kernel
theorem dX3_keepBody_4 : decode cX3_keepBody 4 = .ok (.bipush 50, 2) := by decide +kernel
theorem dX3_keepBody_6 : decode cX3_keepBody 6 = .ok (.if_icmp .lt 6, 3) := by decide +kernel
theorem dX3_keepBody_9 : decode cX3_keepBody 9 = .ok (.bipush (-3), 2) := by decide +kernel
theorem dX3_keepBody_11 : decode cX3_keepBody 11 = .ok (.ireturn, 1) := by decide +kernel
theorem dX3_keepBody_12 : decode cX3_keepBody 12 = .ok (.aload_n 0, 1) := by decide +kernel
theorem dX3_keepBody_13 : decode cX3_keepBody 13 = .ok (.getfield 11, 3) := by decide +kernel
theorem dX3_keepBody_16 : decode cX3_keepBody 16 = .ok (.aload_n 0, 1) := by decide +kernel
theorem dX3_keepBody_17 : decode cX3_keepBody 17 = .ok (.getfield 18, 3) := by decide +kernel
theorem dX3_keepBody_20 : decode cX3_keepBody 20 = .ok (.iload_n 1, 1) := by decide +kernel
theorem dX3_keepBody_21 : decode cX3_keepBody 21 = .ok (.iastore, 1) := by decide +kernel
theorem dX3_keepBody_22 : decode cX3_keepBody 22 = .ok (.aload_n 0, 1) := by decide +kernel
theorem dX3_keepBody_23 : decode cX3_keepBody 23 = .ok (.dup, 1) := by decide +kernel
theorem dX3_keepBody_24 : decode cX3_keepBody 24 = .ok (.getfield 18, 3) := by decide +kernel
theorem dX3_keepBody_27 : decode cX3_keepBody 27 = .ok (.iconst 1, 1) := by decide +kernel
theorem dX3_keepBody_28 : decode cX3_keepBody 28 = .ok (.iadd, 1) := by decide +kernel
theorem dX3_keepBody_29 : decode cX3_keepBody 29 = .ok (.putfield 18, 3) := by decide +kernel
theorem dX3_keepBody_32 : decode cX3_keepBody 32 = .ok (.aload_n 0, 1) := by decide +kernel
theorem dX3_keepBody_33 : decode cX3_keepBody 33 = .ok (.getfield 18, 3) := by decide +kernel
theorem dX3_keepBody_36 : decode cX3_keepBody 36 = .ok (.iconst 1, 1) := by decide +kernel
theorem dX3_keepBody_37 : decode cX3_keepBody 37 = .ok (.isub, 1) := by decide +kernel
theorem dX3_keepBody_38 : decode cX3_keepBody 38 = .ok (.ireturn, 1) := by decide +kernel
theorem dX3_kindOf_0 : decode cX3_kindOf 0 = .ok (.iload_n 1, 1) := by decide +kernel
theorem dX3_kindOf_1 : decode cX3_kindOf 1 = .ok (.ifCond .lt 26, 3) := by decide +kernel
theorem dX3_kindOf_4 : decode cX3_kindOf 4 = .ok (.iload_n 1, 1) := by decide +kernel
theorem dX3_kindOf_5 : decode cX3_kindOf 5 = .ok (.aload_n 0, 1) := by decide +kernel
theorem dX3_kindOf_6 : decode cX3_kindOf 6 = .ok (.getfield 18, 3) := by decide +kernel
theorem dX3_kindOf_9 : decode cX3_kindOf 9 = .ok (.if_icmp .ge 18, 3) := by decide +kernel
theorem dX3_kindOf_12 : decode cX3_kindOf 12 = .ok (.iload_n 1, 1) := by decide +kernel
theorem dX3_kindOf_13 : decode cX3_kindOf 13 = .ok (.bipush 50, 2) := by decide +kernel
theorem dX3_kindOf_15 : decode cX3_kindOf 15 = .ok (.if_icmp .ge 12, 3) := by decide +kernel
theorem dX3_kindOf_18 : decode cX3_kindOf 18 = .ok (.aload_n 0, 1) := by decide +kernel
theorem dX3_kindOf_19 : decode cX3_kindOf 19 = .ok (.getfield 11, 3) := by decide +kernel
theorem dX3_kindOf_22 : decode cX3_kindOf 22 = .ok (.iload_n 1, 1) := by decide +kernel
theorem dX3_kindOf_23 : decode cX3_kindOf 23 = .ok (.iaload, 1) := by decide +kernel
theorem dX3_kindOf_24 : decode cX3_kindOf 24 = .ok (.goto 4, 3) := by decide +kernel
theorem dX3_kindOf_27 : decode cX3_kindOf 27 = .ok (.iconst (-1), 1) := by decide +kernel
theorem dX3_kindOf_28 : decode cX3_kindOf 28 = .ok (.ireturn, 1) := by decide +kernel
theorem dX3_isUnder_0 : decode cX3_isUnder 0 = .ok (.iload_n 1, 1) := by decide +kernel
theorem dX3_isUnder_1 : decode cX3_isUnder 1 = .ok (.istore_n 3, 1) := by decide +kernel
theorem dX3_isUnder_2 : decode cX3_isUnder 2 = .ok (.iconst 0, 1) := by decide +kernel
theorem dX3_isUnder_3 : decode cX3_isUnder 3 = .ok (.istore 4, 2) := by decide +kernel
theorem dX3_isUnder_5 : decode cX3_isUnder 5 = .ok (.iload 4, 2) := by decide +kernel
theorem dX3_isUnder_7 : decode cX3_isUnder 7 = .ok (.bipush 8, 2) := by decide +kernel
theorem dX3_isUnder_9 : decode cX3_isUnder 9 = .ok (.if_icmp .ge 32, 3) := by decide +kernel
theorem dX3_isUnder_12 : decode cX3_isUnder 12 = .ok (.iload_n 3, 1) := by decide +kernel
theorem dX3_isUnder_13 : decode cX3_isUnder 13 = .ok (.ifCond .lt 28, 3) := by decide +kernel
theorem dX3_isUnder_16 : decode cX3_isUnder 16 = .ok (.iload_n 3, 1) := by decide +kernel
theorem dX3_isUnder_17 : decode cX3_isUnder 17 = .ok (.bipush 8, 2) := by decide +kernel
theorem dX3_isUnder_19 : decode cX3_isUnder 19 = .ok (.if_icmp .ge 22, 3) := by decide +kernel
theorem dX3_isUnder_22 : decode cX3_isUnder 22 = .ok (.iload_n 3, 1) := by decide +kernel
theorem dX3_isUnder_23 : decode cX3_isUnder 23 = .ok (.iload_n 2, 1) := by decide +kernel
theorem dX3_isUnder_24 : decode cX3_isUnder 24 = .ok (.if_icmp .ne 5, 3) := by decide +kernel
theorem dX3_isUnder_27 : decode cX3_isUnder 27 = .ok (.iconst 1, 1) := by decide +kernel
theorem dX3_isUnder_28 : decode cX3_isUnder 28 = .ok (.ireturn, 1) := by decide +kernel
theorem dX3_isUnder_29 : decode cX3_isUnder 29 = .ok (.getstatic 22, 3) := by decide +kernel
theorem dX3_isUnder_32 : decode cX3_isUnder 32 = .ok (.iload_n 3, 1) := by decide +kernel
theorem dX3_isUnder_33 : decode cX3_isUnder 33 = .ok (.iaload, 1) := by decide +kernel
theorem dX3_isUnder_34 : decode cX3_isUnder 34 = .ok (.istore_n 3, 1) := by decide +kernel
theorem dX3_isUnder_35 : decode cX3_isUnder 35 = .ok (.iinc 4 1, 3) := by decide +kernel
theorem dX3_isUnder_38 : decode cX3_isUnder 38 = .ok (.goto (-33), 3) := by decide +kernel
theorem dX3_isUnder_41 : decode cX3_isUnder 41 = .ok (.iconst 0, 1) := by decide +kernel
theorem dX3_isUnder_42 : decode cX3_isUnder 42 = .ok (.ireturn, 1) := by decide +kernel
theorem dX3_traceAt_0 : decode cX3_traceAt 0 = .ok (.iload_n 1, 1) := by decide +kernel
theorem dX3_traceAt_1 : decode cX3_traceAt 1 = .ok (.ifCond .lt 26, 3) := by decide +kernel
theorem dX3_traceAt_4 : decode cX3_traceAt 4 = .ok (.iload_n 1, 1) := by decide +kernel
theorem dX3_traceAt_5 : decode cX3_traceAt 5 = .ok (.aload_n 0, 1) := by decide +kernel
theorem dX3_traceAt_6 : decode cX3_traceAt 6 = .ok (.getfield 25, 3) := by decide +kernel
theorem dX3_traceAt_9 : decode cX3_traceAt 9 = .ok (.if_icmp .ge 18, 3) := by decide +kernel
theorem dX3_traceAt_12 : decode cX3_traceAt 12 = .ok (.iload_n 1, 1) := by decide +kernel
theorem dX3_traceAt_13 : decode cX3_traceAt 13 = .ok (.bipush 24, 2) := by decide +kernel
theorem dX3_traceAt_15 : decode cX3_traceAt 15 = .ok (.if_icmp .ge 12, 3) := by decide +kernel
theorem dX3_traceAt_18 : decode cX3_traceAt 18 = .ok (.aload_n 0, 1) := by decide +kernel
theorem dX3_traceAt_19 : decode cX3_traceAt 19 = .ok (.getfield 15, 3) := by decide +kernel
theorem dX3_traceAt_22 : decode cX3_traceAt 22 = .ok (.iload_n 1, 1) := by decide +kernel
theorem dX3_traceAt_23 : decode cX3_traceAt 23 = .ok (.iaload, 1) := by decide +kernel
theorem dX3_traceAt_24 : decode cX3_traceAt 24 = .ok (.goto 4, 3) := by decide +kernel
theorem dX3_traceAt_27 : decode cX3_traceAt 27 = .ok (.iconst (-1), 1) := by decide +kernel
theorem dX3_traceAt_28 : decode cX3_traceAt 28 = .ok (.ireturn, 1) := by decide +kernel
theorem dX3_actOf_0 : decode cX3_actOf 0 = .ok (.aload_n 0, 1) := by decide +kernel
theorem dX3_actOf_1 : decode cX3_actOf 1 = .ok (.iconst 0, 1) := by decide +kernel
theorem dX3_actOf_2 : decode cX3_actOf 2 = .ok (.putfield 25, 3) := by decide +kernel
theorem dX3_actOf_5 : decode cX3_actOf 5 = .ok (.iload_n 1, 1) := by decide +kernel
theorem dX3_actOf_6 : decode cX3_actOf 6 = .ok (.ifCond .lt 20, 3) := by decide +kernel
theorem dX3_actOf_9 : decode cX3_actOf 9 = .ok (.iload_n 1, 1) := by decide +kernel
theorem dX3_actOf_10 : decode cX3_actOf 10 = .ok (.aload_n 0, 1) := by decide +kernel
theorem dX3_actOf_11 : decode cX3_actOf 11 = .ok (.getfield 18, 3) := by decide +kernel
theorem dX3_actOf_14 : decode cX3_actOf 14 = .ok (.if_icmp .ge 12, 3) := by decide +kernel
theorem dX3_actOf_17 : decode cX3_actOf 17 = .ok (.iload_n 2, 1) := by decide +kernel
theorem dX3_actOf_18 : decode cX3_actOf 18 = .ok (.ifCond .lt 8, 3) := by decide +kernel
theorem dX3_actOf_21 : decode cX3_actOf 21 = .ok (.iload_n 2, 1) := by decide +kernel
theorem dX3_actOf_22 : decode cX3_actOf 22 = .ok (.iconst 4, 1) := by decide +kernel
theorem dX3_actOf_23 : decode cX3_actOf 23 = .ok (.if_icmp .lt 5, 3) := by decide +kernel
theorem dX3_actOf_26 : decode cX3_actOf 26 = .ok (.iconst 0, 1) := by decide +kernel
theorem dX3_actOf_27 : decode cX3_actOf 27 = .ok (.ireturn, 1) := by decide +kernel
theorem dX3_actOf_28 : decode cX3_actOf 28 = .ok (.aload_n 0, 1) := by decide +kernel
theorem dX3_actOf_29 : decode cX3_actOf 29 = .ok (.iload_n 1, 1) := by decide +kernel
theorem dX3_actOf_30 : decode cX3_actOf 30 = .ok (.putfield 28, 3) := by decide +kernel
theorem dX3_actOf_33 : decode cX3_actOf 33 = .ok (.aload_n 0, 1) := by decide +kernel
theorem dX3_actOf_34 : decode cX3_actOf 34 = .ok (.aload_n 0, 1) := by decide +kernel
theorem dX3_actOf_35 : decode cX3_actOf 35 = .ok (.iload_n 1, 1) := by decide +kernel
theorem dX3_actOf_36 : decode cX3_actOf 36 = .ok (.invokevirtual 31, 3) := by decide +kernel
theorem dX3_actOf_39 : decode cX3_actOf 39 = .ok (.putfield 35, 3) := by decide +kernel
theorem dX3_actOf_42 : decode cX3_actOf 42 = .ok (.aload_n 0, 1) := by decide +kernel
theorem dX3_actOf_43 : decode cX3_actOf 43 = .ok (.iload_n 2, 1) := by decide +kernel
theorem dX3_actOf_44 : decode cX3_actOf 44 = .ok (.aload_n 0, 1) := by decide +kernel
theorem dX3_actOf_45 : decode cX3_actOf 45 = .ok (.getfield 35, 3) := by decide +kernel
theorem dX3_actOf_48 : decode cX3_actOf 48 = .ok (.iload_n 3, 1) := by decide +kernel
theorem dX3_actOf_49 : decode cX3_actOf 49 = .ok (.iconst 0, 1) := by decide +kernel
theorem dX3_actOf_50 : decode cX3_actOf 50 = .ok (.invokevirtual 38, 3) := by decide +kernel
theorem dX3_actOf_53 : decode cX3_actOf 53 = .ok (.ireturn, 1) := by decide +kernel
theorem dX3_bodyFrom_0 : decode cX3_bodyFrom 0 = .ok (.iload_n 1, 1) := by decide +kernel
theorem dX3_bodyFrom_1 : decode cX3_bodyFrom 1 = .ok (.istore_n 2, 1) := by decide +kernel
theorem dX3_bodyFrom_2 : decode cX3_bodyFrom 2 = .ok (.iconst 0, 1) := by decide +kernel
theorem dX3_bodyFrom_3 : decode cX3_bodyFrom 3 = .ok (.istore_n 3, 1) := by decide +kernel
theorem dX3_bodyFrom_4 : decode cX3_bodyFrom 4 = .ok (.iload_n 3, 1) := by decide +kernel
theorem dX3_bodyFrom_5 : decode cX3_bodyFrom 5 = .ok (.bipush 8, 2) := by decide +kernel
theorem dX3_bodyFrom_7 : decode cX3_bodyFrom 7 = .ok (.if_icmp .ge 62, 3) := by decide +kernel
theorem dX3_bodyFrom_10 : decode cX3_bodyFrom 10 = .ok (.iload_n 2, 1) := by decide +kernel
theorem dX3_bodyFrom_11 : decode cX3_bodyFrom 11 = .ok (.ifCond .lt 58, 3) := by decide +kernel
theorem dX3_bodyFrom_14 : decode cX3_bodyFrom 14 = .ok (.iload_n 2, 1) := by decide +kernel
theorem dX3_bodyFrom_15 : decode cX3_bodyFrom 15 = .ok (.bipush 8, 2) := by decide +kernel
theorem dX3_bodyFrom_17 : decode cX3_bodyFrom 17 = .ok (.if_icmp .ge 52, 3) := by decide +kernel
theorem dX3_bodyFrom_20 : decode cX3_bodyFrom 20 = .ok (.iload_n 2, 1) := by decide +kernel
theorem dX3_bodyFrom_21 : decode cX3_bodyFrom 21 = .ok (.iconst 4, 1) := by decide +kernel
theorem dX3_bodyFrom_22 : decode cX3_bodyFrom 22 = .ok (.imul, 1) := by decide +kernel
theorem dX3_bodyFrom_23 : decode cX3_bodyFrom 23 = .ok (.iload_n 0, 1) := by decide +kernel
theorem dX3_bodyFrom_24 : decode cX3_bodyFrom 24 = .ok (.iadd, 1) := by decide +kernel
theorem dX3_bodyFrom_25 : decode cX3_bodyFrom 25 = .ok (.istore 4, 2) := by decide +kernel
theorem dX3_bodyFrom_27 : decode cX3_bodyFrom 27 = .ok (.iload 4, 2) := by decide +kernel
theorem dX3_bodyFrom_29 : decode cX3_bodyFrom 29 = .ok (.ifCond .lt 28, 3) := by decide +kernel
theorem dX3_bodyFrom_32 : decode cX3_bodyFrom 32 = .ok (.iload 4, 2) := by decide +kernel
theorem dX3_bodyFrom_34 : decode cX3_bodyFrom 34 = .ok (.getstatic 42, 3) := by decide +kernel
theorem dX3_bodyFrom_37 : decode cX3_bodyFrom 37 = .ok (.arraylength, 1) := by decide +kernel
theorem dX3_bodyFrom_38 : decode cX3_bodyFrom 38 = .ok (.if_icmp .ge 19, 3) := by decide +kernel
theorem dX3_bodyFrom_41 : decode cX3_bodyFrom 41 = .ok (.getstatic 42, 3) := by decide +kernel
theorem dX3_bodyFrom_44 : decode cX3_bodyFrom 44 = .ok (.iload 4, 2) := by decide +kernel
theorem dX3_bodyFrom_46 : decode cX3_bodyFrom 46 = .ok (.iaload, 1) := by decide +kernel
theorem dX3_bodyFrom_47 : decode cX3_bodyFrom 47 = .ok (.ifCond .eq 10, 3) := by decide +kernel
theorem dX3_bodyFrom_50 : decode cX3_bodyFrom 50 = .ok (.getstatic 42, 3) := by decide +kernel
theorem dX3_bodyFrom_53 : decode cX3_bodyFrom 53 = .ok (.iload 4, 2) := by decide +kernel
theorem dX3_bodyFrom_55 : decode cX3_bodyFrom 55 = .ok (.iaload, 1) := by decide +kernel
theorem dX3_bodyFrom_56 : decode cX3_bodyFrom 56 = .ok (.ireturn, 1) := by decide +kernel
theorem dX3_bodyFrom_57 : decode cX3_bodyFrom 57 = .ok (.getstatic 22, 3) := by decide +kernel
theorem dX3_bodyFrom_60 : decode cX3_bodyFrom 60 = .ok (.iload_n 2, 1) := by decide +kernel
theorem dX3_bodyFrom_61 : decode cX3_bodyFrom 61 = .ok (.iaload, 1) := by decide +kernel
theorem dX3_bodyFrom_62 : decode cX3_bodyFrom 62 = .ok (.istore_n 2, 1) := by decide +kernel
theorem dX3_bodyFrom_63 : decode cX3_bodyFrom 63 = .ok (.iinc 3 1, 3) := by decide +kernel
theorem dX3_bodyFrom_66 : decode cX3_bodyFrom 66 = .ok (.goto (-62), 3) := by decide +kernel
theorem dX3_bodyFrom_69 : decode cX3_bodyFrom 69 = .ok (.iconst 0, 1) := by decide +kernel
theorem dX3_bodyFrom_70 : decode cX3_bodyFrom 70 = .ok (.ireturn, 1) := by decide +kernel
theorem dX3_noteBody_0 : decode cX3_noteBody 0 = .ok (.aload_n 0, 1) := by decide +kernel
theorem dX3_noteBody_1 : decode cX3_noteBody 1 = .ok (.getfield 25, 3) := by decide +kernel
theorem dX3_noteBody_4 : decode cX3_noteBody 4 = .ok (.ifCond .lt 22, 3) := by decide +kernel
theorem dX3_noteBody_7 : decode cX3_noteBody 7 = .ok (.aload_n 0, 1) := by decide +kernel
theorem dX3_noteBody_8 : decode cX3_noteBody 8 = .ok (.getfield 25, 3) := by decide +kernel
theorem dX3_noteBody_11 : decode cX3_noteBody 11 = .ok (.bipush 24, 2) := by decide +kernel
theorem dX3_noteBody_13 : decode cX3_noteBody 13 = .ok (.if_icmp .ge 13, 3) := by decide +kernel
theorem dX3_noteBody_16 : decode cX3_noteBody 16 = .ok (.aload_n 0, 1) := by decide +kernel
theorem dX3_noteBody_17 : decode cX3_noteBody 17 = .ok (.getfield 15, 3) := by decide +kernel
theorem dX3_noteBody_20 : decode cX3_noteBody 20 = .ok (.aload_n 0, 1) := by decide +kernel
theorem dX3_noteBody_21 : decode cX3_noteBody 21 = .ok (.getfield 25, 3) := by decide +kernel
theorem dX3_noteBody_24 : decode cX3_noteBody 24 = .ok (.iload_n 1, 1) := by decide +kernel
theorem dX3_noteBody_25 : decode cX3_noteBody 25 = .ok (.iastore, 1) := by decide +kernel
theorem dX3_noteBody_26 : decode cX3_noteBody 26 = .ok (.aload_n 0, 1) := by decide +kernel
theorem dX3_noteBody_27 : decode cX3_noteBody 27 = .ok (.dup, 1) := by decide +kernel
theorem dX3_noteBody_28 : decode cX3_noteBody 28 = .ok (.getfield 25, 3) := by decide +kernel
theorem dX3_noteBody_31 : decode cX3_noteBody 31 = .ok (.iconst 1, 1) := by decide +kernel
theorem dX3_noteBody_32 : decode cX3_noteBody 32 = .ok (.iadd, 1) := by decide +kernel
theorem dX3_noteBody_33 : decode cX3_noteBody 33 = .ok (.putfield 25, 3) := by decide +kernel
theorem dX3_noteBody_36 : decode cX3_noteBody 36 = .ok (.return_, 1) := by decide +kernel
theorem dX3_run_0 : decode cX3_run 0 = .ok (.iload 4, 2) := by decide +kernel
theorem dX3_run_2 : decode cX3_run 2 = .ok (.bipush 40, 2) := by decide +kernel
theorem dX3_run_4 : decode cX3_run 4 = .ok (.if_icmp .lt 5, 3) := by decide +kernel
theorem dX3_run_7 : decode cX3_run 7 = .ok (.iconst 0, 1) := by decide +kernel
theorem dX3_run_8 : decode cX3_run 8 = .ok (.ireturn, 1) := by decide +kernel
theorem dX3_run_9 : decode cX3_run 9 = .ok (.iload_n 1, 1) := by decide +kernel
theorem dX3_run_10 : decode cX3_run 10 = .ok (.iload_n 2, 1) := by decide +kernel
theorem dX3_run_11 : decode cX3_run 11 = .ok (.invokestatic 45, 3) := by decide +kernel
theorem dX3_run_14 : decode cX3_run 14 = .ok (.istore 5, 2) := by decide +kernel
theorem dX3_run_16 : decode cX3_run 16 = .ok (.aload_n 0, 1) := by decide +kernel
theorem dX3_run_17 : decode cX3_run 17 = .ok (.iload 5, 2) := by decide +kernel
theorem dX3_run_19 : decode cX3_run 19 = .ok (.invokevirtual 49, 3) := by decide +kernel
theorem dX3_run_22 : decode cX3_run 22 = .ok (.aload_n 0, 1) := by decide +kernel
theorem dX3_run_23 : decode cX3_run 23 = .ok (.iload 5, 2) := by decide +kernel
theorem dX3_run_25 : decode cX3_run 25 = .ok (.iload_n 3, 1) := by decide +kernel
theorem dX3_run_26 : decode cX3_run 26 = .ok (.iload 4, 2) := by decide +kernel
theorem dX3_run_28 : decode cX3_run 28 = .ok (.iconst 1, 1) := by decide +kernel
theorem dX3_run_29 : decode cX3_run 29 = .ok (.iadd, 1) := by decide +kernel
theorem dX3_run_30 : decode cX3_run 30 = .ok (.invokevirtual 53, 3) := by decide +kernel
theorem dX3_run_33 : decode cX3_run 33 = .ok (.ireturn, 1) := by decide +kernel
theorem dX3_answerOf_0 : decode cX3_answerOf 0 = .ok (.iload_n 1, 1) := by decide +kernel
theorem dX3_answerOf_1 : decode cX3_answerOf 1 = .ok (.lookupswitch 306 #[(1, 123), (2, 130), (10, 154), (11, 168), (20, 175), (30, 186), (40, 196), (41, 207), (50, 218), (60, 229), (61, 250), (70, 261), (80, 272), (81, 294)], 123) := by decide +kernel
theorem dX3_answerOf_124 : decode cX3_answerOf 124 = .ok (.iload_n 2, 1) := by decide +kernel
theorem dX3_answerOf_125 : decode cX3_answerOf 125 = .ok (.aload_n 0, 1) := by decide +kernel
theorem dX3_answerOf_126 : decode cX3_answerOf 126 = .ok (.getfield 28, 3) := by decide +kernel
theorem dX3_answerOf_129 : decode cX3_answerOf 129 = .ok (.iadd, 1) := by decide +kernel
theorem dX3_answerOf_130 : decode cX3_answerOf 130 = .ok (.ireturn, 1) := by decide +kernel
theorem dX3_answerOf_131 : decode cX3_answerOf 131 = .ok (.aload_n 0, 1) := by decide +kernel
theorem dX3_answerOf_132 : decode cX3_answerOf 132 = .ok (.iconst 1, 1) := by decide +kernel
theorem dX3_answerOf_133 : decode cX3_answerOf 133 = .ok (.aload_n 0, 1) := by decide +kernel
theorem dX3_answerOf_134 : decode cX3_answerOf 134 = .ok (.getfield 35, 3) := by decide +kernel
theorem dX3_answerOf_137 : decode cX3_answerOf 137 = .ok (.iload_n 2, 1) := by decide +kernel
theorem dX3_answerOf_138 : decode cX3_answerOf 138 = .ok (.iload_n 3, 1) := by decide +kernel
theorem dX3_answerOf_139 : decode cX3_answerOf 139 = .ok (.invokevirtual 38, 3) := by decide +kernel
theorem dX3_answerOf_142 : decode cX3_answerOf 142 = .ok (.aload_n 0, 1) := by decide +kernel
theorem dX3_answerOf_143 : decode cX3_answerOf 143 = .ok (.iconst 2, 1) := by decide +kernel
theorem dX3_answerOf_144 : decode cX3_answerOf 144 = .ok (.aload_n 0, 1) := by decide +kernel
theorem dX3_answerOf_145 : decode cX3_answerOf 145 = .ok (.getfield 35, 3) := by decide +kernel
theorem dX3_answerOf_148 : decode cX3_answerOf 148 = .ok (.iconst 1, 1) := by decide +kernel
theorem dX3_answerOf_149 : decode cX3_answerOf 149 = .ok (.iload_n 3, 1) := by decide +kernel
theorem dX3_answerOf_150 : decode cX3_answerOf 150 = .ok (.invokevirtual 38, 3) := by decide +kernel
theorem dX3_answerOf_153 : decode cX3_answerOf 153 = .ok (.isub, 1) := by decide +kernel
theorem dX3_answerOf_154 : decode cX3_answerOf 154 = .ok (.ireturn, 1) := by decide +kernel
theorem dX3_answerOf_155 : decode cX3_answerOf 155 = .ok (.aload_n 0, 1) := by decide +kernel
theorem dX3_answerOf_156 : decode cX3_answerOf 156 = .ok (.iconst 0, 1) := by decide +kernel
theorem dX3_answerOf_157 : decode cX3_answerOf 157 = .ok (.aload_n 0, 1) := by decide +kernel
theorem dX3_answerOf_158 : decode cX3_answerOf 158 = .ok (.getfield 35, 3) := by decide +kernel
theorem dX3_answerOf_161 : decode cX3_answerOf 161 = .ok (.iload_n 2, 1) := by decide +kernel
theorem dX3_answerOf_162 : decode cX3_answerOf 162 = .ok (.iload_n 3, 1) := by decide +kernel
theorem dX3_answerOf_163 : decode cX3_answerOf 163 = .ok (.invokevirtual 38, 3) := by decide +kernel
theorem dX3_answerOf_166 : decode cX3_answerOf 166 = .ok (.iconst 2, 1) := by decide +kernel
theorem dX3_answerOf_167 : decode cX3_answerOf 167 = .ok (.imul, 1) := by decide +kernel
theorem dX3_answerOf_168 : decode cX3_answerOf 168 = .ok (.ireturn, 1) := by decide +kernel
theorem dX3_answerOf_169 : decode cX3_answerOf 169 = .ok (.iload_n 2, 1) := by decide +kernel
theorem dX3_answerOf_170 : decode cX3_answerOf 170 = .ok (.aload_n 0, 1) := by decide +kernel
theorem dX3_answerOf_171 : decode cX3_answerOf 171 = .ok (.getfield 28, 3) := by decide +kernel
theorem dX3_answerOf_174 : decode cX3_answerOf 174 = .ok (.ixor, 1) := by decide +kernel
theorem dX3_answerOf_175 : decode cX3_answerOf 175 = .ok (.ireturn, 1) := by decide +kernel
theorem dX3_answerOf_176 : decode cX3_answerOf 176 = .ok (.aload_n 0, 1) := by decide +kernel
theorem dX3_answerOf_177 : decode cX3_answerOf 177 = .ok (.iconst 0, 1) := by decide +kernel
theorem dX3_answerOf_178 : decode cX3_answerOf 178 = .ok (.iconst 0, 1) := by decide +kernel
theorem dX3_answerOf_179 : decode cX3_answerOf 179 = .ok (.iload_n 2, 1) := by decide +kernel
theorem dX3_answerOf_180 : decode cX3_answerOf 180 = .ok (.iload_n 3, 1) := by decide +kernel
theorem dX3_answerOf_181 : decode cX3_answerOf 181 = .ok (.invokevirtual 38, 3) := by decide +kernel
theorem dX3_answerOf_184 : decode cX3_answerOf 184 = .ok (.iconst 3, 1) := by decide +kernel
theorem dX3_answerOf_185 : decode cX3_answerOf 185 = .ok (.iadd, 1) := by decide +kernel
theorem dX3_answerOf_186 : decode cX3_answerOf 186 = .ok (.ireturn, 1) := by decide +kernel
theorem dX3_answerOf_187 : decode cX3_answerOf 187 = .ok (.aload_n 0, 1) := by decide +kernel
theorem dX3_answerOf_188 : decode cX3_answerOf 188 = .ok (.iconst 1, 1) := by decide +kernel
theorem dX3_answerOf_189 : decode cX3_answerOf 189 = .ok (.iconst 0, 1) := by decide +kernel
theorem dX3_answerOf_190 : decode cX3_answerOf 190 = .ok (.iload_n 2, 1) := by decide +kernel
theorem dX3_answerOf_191 : decode cX3_answerOf 191 = .ok (.iload_n 3, 1) := by decide +kernel
theorem dX3_answerOf_192 : decode cX3_answerOf 192 = .ok (.invokevirtual 38, 3) := by decide +kernel
theorem dX3_answerOf_195 : decode cX3_answerOf 195 = .ok (.ineg, 1) := by decide +kernel
theorem dX3_answerOf_196 : decode cX3_answerOf 196 = .ok (.ireturn, 1) := by decide +kernel
theorem dX3_answerOf_197 : decode cX3_answerOf 197 = .ok (.aload_n 0, 1) := by decide +kernel
theorem dX3_answerOf_198 : decode cX3_answerOf 198 = .ok (.iconst 2, 1) := by decide +kernel
theorem dX3_answerOf_199 : decode cX3_answerOf 199 = .ok (.iconst 2, 1) := by decide +kernel
theorem dX3_answerOf_200 : decode cX3_answerOf 200 = .ok (.iload_n 2, 1) := by decide +kernel
theorem dX3_answerOf_201 : decode cX3_answerOf 201 = .ok (.iload_n 3, 1) := by decide +kernel
theorem dX3_answerOf_202 : decode cX3_answerOf 202 = .ok (.invokevirtual 38, 3) := by decide +kernel
theorem dX3_answerOf_205 : decode cX3_answerOf 205 = .ok (.iconst 3, 1) := by decide +kernel
theorem dX3_answerOf_206 : decode cX3_answerOf 206 = .ok (.imul, 1) := by decide +kernel
theorem dX3_answerOf_207 : decode cX3_answerOf 207 = .ok (.ireturn, 1) := by decide +kernel
theorem dX3_answerOf_208 : decode cX3_answerOf 208 = .ok (.aload_n 0, 1) := by decide +kernel
theorem dX3_answerOf_209 : decode cX3_answerOf 209 = .ok (.iconst 1, 1) := by decide +kernel
theorem dX3_answerOf_210 : decode cX3_answerOf 210 = .ok (.iconst 2, 1) := by decide +kernel
theorem dX3_answerOf_211 : decode cX3_answerOf 211 = .ok (.iload_n 2, 1) := by decide +kernel
theorem dX3_answerOf_212 : decode cX3_answerOf 212 = .ok (.iconst 1, 1) := by decide +kernel
theorem dX3_answerOf_213 : decode cX3_answerOf 213 = .ok (.iadd, 1) := by decide +kernel
theorem dX3_answerOf_214 : decode cX3_answerOf 214 = .ok (.iload_n 3, 1) := by decide +kernel
theorem dX3_answerOf_215 : decode cX3_answerOf 215 = .ok (.invokevirtual 38, 3) := by decide +kernel
theorem dX3_answerOf_218 : decode cX3_answerOf 218 = .ok (.ireturn, 1) := by decide +kernel
theorem dX3_answerOf_219 : decode cX3_answerOf 219 = .ok (.aload_n 0, 1) := by decide +kernel
theorem dX3_answerOf_220 : decode cX3_answerOf 220 = .ok (.iconst 3, 1) := by decide +kernel
theorem dX3_answerOf_221 : decode cX3_answerOf 221 = .ok (.iconst 1, 1) := by decide +kernel
theorem dX3_answerOf_222 : decode cX3_answerOf 222 = .ok (.iload_n 2, 1) := by decide +kernel
theorem dX3_answerOf_223 : decode cX3_answerOf 223 = .ok (.iload_n 3, 1) := by decide +kernel
theorem dX3_answerOf_224 : decode cX3_answerOf 224 = .ok (.invokevirtual 38, 3) := by decide +kernel
theorem dX3_answerOf_227 : decode cX3_answerOf 227 = .ok (.iconst 5, 1) := by decide +kernel
theorem dX3_answerOf_228 : decode cX3_answerOf 228 = .ok (.ixor, 1) := by decide +kernel
theorem dX3_answerOf_229 : decode cX3_answerOf 229 = .ok (.ireturn, 1) := by decide +kernel
theorem dX3_answerOf_230 : decode cX3_answerOf 230 = .ok (.aload_n 0, 1) := by decide +kernel
theorem dX3_answerOf_231 : decode cX3_answerOf 231 = .ok (.iconst 2, 1) := by decide +kernel
theorem dX3_answerOf_232 : decode cX3_answerOf 232 = .ok (.iconst 3, 1) := by decide +kernel
theorem dX3_answerOf_233 : decode cX3_answerOf 233 = .ok (.iload_n 2, 1) := by decide +kernel
theorem dX3_answerOf_234 : decode cX3_answerOf 234 = .ok (.iload_n 3, 1) := by decide +kernel
theorem dX3_answerOf_235 : decode cX3_answerOf 235 = .ok (.invokevirtual 38, 3) := by decide +kernel
theorem dX3_answerOf_238 : decode cX3_answerOf 238 = .ok (.aload_n 0, 1) := by decide +kernel
theorem dX3_answerOf_239 : decode cX3_answerOf 239 = .ok (.iconst 0, 1) := by decide +kernel
theorem dX3_answerOf_240 : decode cX3_answerOf 240 = .ok (.aload_n 0, 1) := by decide +kernel
theorem dX3_answerOf_241 : decode cX3_answerOf 241 = .ok (.getfield 35, 3) := by decide +kernel
theorem dX3_answerOf_244 : decode cX3_answerOf 244 = .ok (.iconst 2, 1) := by decide +kernel
theorem dX3_answerOf_245 : decode cX3_answerOf 245 = .ok (.iload_n 3, 1) := by decide +kernel
theorem dX3_answerOf_246 : decode cX3_answerOf 246 = .ok (.invokevirtual 38, 3) := by decide +kernel
theorem dX3_answerOf_249 : decode cX3_answerOf 249 = .ok (.isub, 1) := by decide +kernel
theorem dX3_answerOf_250 : decode cX3_answerOf 250 = .ok (.ireturn, 1) := by decide +kernel
theorem dX3_answerOf_251 : decode cX3_answerOf 251 = .ok (.aload_n 0, 1) := by decide +kernel
theorem dX3_answerOf_252 : decode cX3_answerOf 252 = .ok (.iconst 3, 1) := by decide +kernel
theorem dX3_answerOf_253 : decode cX3_answerOf 253 = .ok (.iconst 3, 1) := by decide +kernel
theorem dX3_answerOf_254 : decode cX3_answerOf 254 = .ok (.iload_n 2, 1) := by decide +kernel
theorem dX3_answerOf_255 : decode cX3_answerOf 255 = .ok (.iload_n 3, 1) := by decide +kernel
theorem dX3_answerOf_256 : decode cX3_answerOf 256 = .ok (.invokevirtual 38, 3) := by decide +kernel
theorem dX3_answerOf_259 : decode cX3_answerOf 259 = .ok (.iconst 1, 1) := by decide +kernel
theorem dX3_answerOf_260 : decode cX3_answerOf 260 = .ok (.iadd, 1) := by decide +kernel
theorem dX3_answerOf_261 : decode cX3_answerOf 261 = .ok (.ireturn, 1) := by decide +kernel
theorem dX3_answerOf_262 : decode cX3_answerOf 262 = .ok (.aload_n 0, 1) := by decide +kernel
theorem dX3_answerOf_263 : decode cX3_answerOf 263 = .ok (.iconst 0, 1) := by decide +kernel
theorem dX3_answerOf_264 : decode cX3_answerOf 264 = .ok (.iconst 0, 1) := by decide +kernel
theorem dX3_answerOf_265 : decode cX3_answerOf 265 = .ok (.iload_n 2, 1) := by decide +kernel
theorem dX3_answerOf_266 : decode cX3_answerOf 266 = .ok (.iload_n 3, 1) := by decide +kernel
theorem dX3_answerOf_267 : decode cX3_answerOf 267 = .ok (.invokevirtual 38, 3) := by decide +kernel
theorem dX3_answerOf_270 : decode cX3_answerOf 270 = .ok (.iconst 2, 1) := by decide +kernel
theorem dX3_answerOf_271 : decode cX3_answerOf 271 = .ok (.imul, 1) := by decide +kernel
theorem dX3_answerOf_272 : decode cX3_answerOf 272 = .ok (.ireturn, 1) := by decide +kernel
theorem dX3_answerOf_273 : decode cX3_answerOf 273 = .ok (.aload_n 0, 1) := by decide +kernel
theorem dX3_answerOf_274 : decode cX3_answerOf 274 = .ok (.iconst 1, 1) := by decide +kernel
theorem dX3_answerOf_275 : decode cX3_answerOf 275 = .ok (.bipush 6, 2) := by decide +kernel
theorem dX3_answerOf_277 : decode cX3_answerOf 277 = .ok (.iload_n 2, 1) := by decide +kernel
theorem dX3_answerOf_278 : decode cX3_answerOf 278 = .ok (.iload_n 3, 1) := by decide +kernel
theorem dX3_answerOf_279 : decode cX3_answerOf 279 = .ok (.invokevirtual 38, 3) := by decide +kernel
theorem dX3_answerOf_282 : decode cX3_answerOf 282 = .ok (.aload_n 0, 1) := by decide +kernel
theorem dX3_answerOf_283 : decode cX3_answerOf 283 = .ok (.iconst 2, 1) := by decide +kernel
theorem dX3_answerOf_284 : decode cX3_answerOf 284 = .ok (.aload_n 0, 1) := by decide +kernel
theorem dX3_answerOf_285 : decode cX3_answerOf 285 = .ok (.getfield 35, 3) := by decide +kernel
theorem dX3_answerOf_288 : decode cX3_answerOf 288 = .ok (.iconst 2, 1) := by decide +kernel
theorem dX3_answerOf_289 : decode cX3_answerOf 289 = .ok (.iload_n 3, 1) := by decide +kernel
theorem dX3_answerOf_290 : decode cX3_answerOf 290 = .ok (.invokevirtual 38, 3) := by decide +kernel
theorem dX3_answerOf_293 : decode cX3_answerOf 293 = .ok (.iadd, 1) := by decide +kernel
theorem dX3_answerOf_294 : decode cX3_answerOf 294 = .ok (.ireturn, 1) := by decide +kernel
theorem dX3_answerOf_295 : decode cX3_answerOf 295 = .ok (.aload_n 0, 1) := by decide +kernel
theorem dX3_answerOf_296 : decode cX3_answerOf 296 = .ok (.iconst 0, 1) := by decide +kernel
theorem dX3_answerOf_297 : decode cX3_answerOf 297 = .ok (.bipush 6, 2) := by decide +kernel
theorem dX3_answerOf_299 : decode cX3_answerOf 299 = .ok (.iload_n 2, 1) := by decide +kernel
theorem dX3_answerOf_300 : decode cX3_answerOf 300 = .ok (.iload_n 3, 1) := by decide +kernel
theorem dX3_answerOf_301 : decode cX3_answerOf 301 = .ok (.invokevirtual 38, 3) := by decide +kernel
theorem dX3_answerOf_304 : decode cX3_answerOf 304 = .ok (.iconst 1, 1) := by decide +kernel
theorem dX3_answerOf_305 : decode cX3_answerOf 305 = .ok (.isub, 1) := by decide +kernel
theorem dX3_answerOf_306 : decode cX3_answerOf 306 = .ok (.ireturn, 1) := by decide +kernel
theorem dX3_answerOf_307 : decode cX3_answerOf 307 = .ok (.iconst 0, 1) := by decide +kernel
theorem dX3_answerOf_308 : decode cX3_answerOf 308 = .ok (.ireturn, 1) := by decide +kernel
theorem dX4_init_0 : decode cX4_init 0 = .ok (.aload_n 0, 1) := by decide +kernel
theorem dX4_init_1 : decode cX4_init 1 = .ok (.invokespecial 3, 3) := by decide +kernel
theorem dX4_init_4 : decode cX4_init 4 = .ok (.aload_n 0, 1) := by decide +kernel
theorem dX4_init_5 : decode cX4_init 5 = .ok (.aload_n 1, 1) := by decide +kernel
theorem dX4_init_6 : decode cX4_init 6 = .ok (.putfield 9, 3) := by decide +kernel
theorem dX4_init_9 : decode cX4_init 9 = .ok (.aload_n 0, 1) := by decide +kernel
theorem dX4_init_10 : decode cX4_init 10 = .ok (.aload_n 2, 1) := by decide +kernel
theorem dX4_init_11 : decode cX4_init 11 = .ok (.putfield 15, 3) := by decide +kernel
theorem dX4_init_14 : decode cX4_init 14 = .ok (.aload_n 0, 1) := by decide +kernel
theorem dX4_init_15 : decode cX4_init 15 = .ok (.bipush 13, 2) := by decide +kernel
theorem dX4_init_17 : decode cX4_init 17 = .ok (.newarray .int, 2) := by decide +kernel
theorem dX4_init_19 : decode cX4_init 19 = .ok (.putfield 19, 3) := by decide +kernel
theorem dX4_init_22 : decode cX4_init 22 = .ok (.aload_n 0, 1) := by decide +kernel
theorem dX4_init_23 : decode cX4_init 23 = .ok (.bipush 13, 2) := by decide +kernel
theorem dX4_init_25 : decode cX4_init 25 = .ok (.newarray .int, 2) := by decide +kernel
theorem dX4_init_27 : decode cX4_init 27 = .ok (.putfield 23, 3) := by decide +kernel
theorem dX4_init_30 : decode cX4_init 30 = .ok (.aload_n 0, 1) := by decide +kernel
theorem dX4_init_31 : decode cX4_init 31 = .ok (.bipush 13, 2) := by decide +kernel
theorem dX4_init_33 : decode cX4_init 33 = .ok (.newarray .int, 2) := by decide +kernel
theorem dX4_init_35 : decode cX4_init 35 = .ok (.putfield 26, 3) := by decide +kernel
theorem dX4_init_38 : decode cX4_init 38 = .ok (.aload_n 0, 1) := by decide +kernel
theorem dX4_init_39 : decode cX4_init 39 = .ok (.bipush 11, 2) := by decide +kernel
theorem dX4_init_41 : decode cX4_init 41 = .ok (.bipush 11, 2) := by decide +kernel
theorem dX4_init_43 : decode cX4_init 43 = .ok (.multianewarray 29 2, 4) := by decide +kernel
theorem dX4_init_47 : decode cX4_init 47 = .ok (.putfield 31, 3) := by decide +kernel
theorem dX4_init_50 : decode cX4_init 50 = .ok (.aload_n 0, 1) := by decide +kernel
theorem dX4_init_51 : decode cX4_init 51 = .ok (.bipush 13, 2) := by decide +kernel
theorem dX4_init_53 : decode cX4_init 53 = .ok (.bipush 13, 2) := by decide +kernel
theorem dX4_init_55 : decode cX4_init 55 = .ok (.multianewarray 34 2, 4) := by decide +kernel
theorem dX4_init_59 : decode cX4_init 59 = .ok (.putfield 36, 3) := by decide +kernel
theorem dX4_init_62 : decode cX4_init 62 = .ok (.aload_n 0, 1) := by decide +kernel
theorem dX4_init_63 : decode cX4_init 63 = .ok (.bipush 11, 2) := by decide +kernel
theorem dX4_init_65 : decode cX4_init 65 = .ok (.newarray .int, 2) := by decide +kernel
theorem dX4_init_67 : decode cX4_init 67 = .ok (.putfield 39, 3) := by decide +kernel
theorem dX4_init_70 : decode cX4_init 70 = .ok (.aload_n 0, 1) := by decide +kernel
theorem dX4_init_71 : decode cX4_init 71 = .ok (.sipush 1024, 3) := by decide +kernel
theorem dX4_init_74 : decode cX4_init 74 = .ok (.newarray .boolean, 2) := by decide +kernel
theorem dX4_init_76 : decode cX4_init 76 = .ok (.putfield 42, 3) := by decide +kernel
theorem dX4_init_79 : decode cX4_init 79 = .ok (.return_, 1) := by decide +kernel
theorem dX4_foundAt_0 : decode cX4_foundAt 0 = .ok (.iload_n 1, 1) := by decide +kernel
theorem dX4_foundAt_1 : decode cX4_foundAt 1 = .ok (.ifCond .lt 18, 3) := by decide +kernel
theorem dX4_foundAt_4 : decode cX4_foundAt 4 = .ok (.iload_n 1, 1) := by decide +kernel
theorem dX4_foundAt_5 : decode cX4_foundAt 5 = .ok (.bipush 13, 2) := by decide +kernel
theorem dX4_foundAt_7 : decode cX4_foundAt 7 = .ok (.if_icmp .ge 12, 3) := by decide +kernel
theorem dX4_foundAt_10 : decode cX4_foundAt 10 = .ok (.aload_n 0, 1) := by decide +kernel
theorem dX4_foundAt_11 : decode cX4_foundAt 11 = .ok (.getfield 19, 3) := by decide +kernel
theorem dX4_foundAt_14 : decode cX4_foundAt 14 = .ok (.iload_n 1, 1) := by decide +kernel
theorem dX4_foundAt_15 : decode cX4_foundAt 15 = .ok (.iaload, 1) := by decide +kernel
theorem dX4_foundAt_16 : decode cX4_foundAt 16 = .ok (.goto 5, 3) := by decide +kernel
theorem dX4_foundAt_19 : decode cX4_foundAt 19 = .ok (.bipush (-2), 2) := by decide +kernel
theorem dX4_foundAt_21 : decode cX4_foundAt 21 = .ok (.ireturn, 1) := by decide +kernel
theorem dX4_shortestSaying_0 : decode cX4_shortestSaying 0 = .ok (.iload_n 2, 1) := by decide +kernel
theorem dX4_shortestSaying_1 : decode cX4_shortestSaying 1 = .ok (.bipush 10, 2) := by decide +kernel
theorem dX4_shortestSaying_3 : decode cX4_shortestSaying 3 = .ok (.if_icmp .gt 9, 3) := by decide +kernel
theorem dX4_shortestSaying_6 : decode cX4_shortestSaying 6 = .ok (.iload_n 2, 1) := by decide +kernel
theorem dX4_shortestSaying_7 : decode cX4_shortestSaying 7 = .ok (.aload_n 1, 1) := by decide +kernel
theorem dX4_shortestSaying_8 : decode cX4_shortestSaying 8 = .ok (.arraylength, 1) := by decide +kernel
theorem dX4_shortestSaying_9 : decode cX4_shortestSaying 9 = .ok (.if_icmp .le 6, 3) := by decide +kernel
theorem dX4_shortestSaying_12 : decode cX4_shortestSaying 12 = .ok (.bipush (-2), 2) := by decide +kernel
theorem dX4_shortestSaying_14 : decode cX4_shortestSaying 14 = .ok (.ireturn, 1) := by decide +kernel
theorem dX4_shortestSaying_15 : decode cX4_shortestSaying 15 = .ok (.bipush 10, 2) := by decide +kernel
theorem dX4_shortestSaying_17 : decode cX4_shortestSaying 17 = .ok (.istore 4, 2) := by decide +kernel
theorem dX4_shortestSaying_19 : decode cX4_shortestSaying 19 = .ok (.iload 4, 2) := by decide +kernel
theorem dX4_shortestSaying_21 : decode cX4_shortestSaying 21 = .ok (.ifCond .lt 49, 3) := by decide +kernel
theorem dX4_shortestSaying_24 : decode cX4_shortestSaying 24 = .ok (.iload 4, 2) := by decide +kernel
theorem dX4_shortestSaying_26 : decode cX4_shortestSaying 26 = .ok (.iload_n 2, 1) := by decide +kernel
theorem dX4_shortestSaying_27 : decode cX4_shortestSaying 27 = .ok (.invokestatic 46, 3) := by decide +kernel
theorem dX4_shortestSaying_30 : decode cX4_shortestSaying 30 = .ok (.istore 5, 2) := by decide +kernel
theorem dX4_shortestSaying_32 : decode cX4_shortestSaying 32 = .ok (.iload 5, 2) := by decide +kernel
theorem dX4_shortestSaying_34 : decode cX4_shortestSaying 34 = .ok (.ifCond .lt 30, 3) := by decide +kernel
theorem dX4_shortestSaying_37 : decode cX4_shortestSaying 37 = .ok (.aload_n 0, 1) := by decide +kernel
theorem dX4_shortestSaying_38 : decode cX4_shortestSaying 38 = .ok (.getfield 31, 3) := by decide +kernel
theorem dX4_shortestSaying_41 : decode cX4_shortestSaying 41 = .ok (.iload 4, 2) := by decide +kernel
theorem dX4_shortestSaying_43 : decode cX4_shortestSaying 43 = .ok (.aaload, 1) := by decide +kernel
theorem dX4_shortestSaying_44 : decode cX4_shortestSaying 44 = .ok (.iload 5, 2) := by decide +kernel
theorem dX4_shortestSaying_46 : decode cX4_shortestSaying 46 = .ok (.aload_n 0, 1) := by decide +kernel
theorem dX4_shortestSaying_47 : decode cX4_shortestSaying 47 = .ok (.iload 4, 2) := by decide +kernel
theorem dX4_shortestSaying_49 : decode cX4_shortestSaying 49 = .ok (.iload 5, 2) := by decide +kernel
theorem dX4_shortestSaying_51 : decode cX4_shortestSaying 51 = .ok (.aload_n 1, 1) := by decide +kernel
theorem dX4_shortestSaying_52 : decode cX4_shortestSaying 52 = .ok (.iload_n 2, 1) := by decide +kernel
theorem dX4_shortestSaying_53 : decode cX4_shortestSaying 53 = .ok (.iload_n 3, 1) := by decide +kernel
theorem dX4_shortestSaying_54 : decode cX4_shortestSaying 54 = .ok (.invokevirtual 52, 3) := by decide +kernel
theorem dX4_shortestSaying_57 : decode cX4_shortestSaying 57 = .ok (.iastore, 1) := by decide +kernel
theorem dX4_shortestSaying_58 : decode cX4_shortestSaying 58 = .ok (.iinc 5 (-1), 3) := by decide +kernel
theorem dX4_shortestSaying_61 : decode cX4_shortestSaying 61 = .ok (.goto (-29), 3) := by decide +kernel
theorem dX4_shortestSaying_64 : decode cX4_shortestSaying 64 = .ok (.iinc 4 (-1), 3) := by decide +kernel
theorem dX4_shortestSaying_67 : decode cX4_shortestSaying 67 = .ok (.goto (-48), 3) := by decide +kernel
theorem dX4_shortestSaying_70 : decode cX4_shortestSaying 70 = .ok (.aload_n 0, 1) := by decide +kernel
theorem dX4_shortestSaying_71 : decode cX4_shortestSaying 71 = .ok (.getfield 31, 3) := by decide +kernel
theorem dX4_shortestSaying_74 : decode cX4_shortestSaying 74 = .ok (.iconst 0, 1) := by decide +kernel
theorem dX4_shortestSaying_75 : decode cX4_shortestSaying 75 = .ok (.aaload, 1) := by decide +kernel
theorem dX4_shortestSaying_76 : decode cX4_shortestSaying 76 = .ok (.iconst 0, 1) := by decide +kernel
theorem dX4_shortestSaying_77 : decode cX4_shortestSaying 77 = .ok (.iaload, 1) := by decide +kernel
theorem dX4_shortestSaying_78 : decode cX4_shortestSaying 78 = .ok (.istore 4, 2) := by decide +kernel
theorem dX4_shortestSaying_80 : decode cX4_shortestSaying 80 = .ok (.iload 4, 2) := by decide +kernel
theorem dX4_shortestSaying_82 : decode cX4_shortestSaying 82 = .ok (.bipush 100, 2) := by decide +kernel
theorem dX4_shortestSaying_84 : decode cX4_shortestSaying 84 = .ok (.if_icmp .lt 6, 3) := by decide +kernel
theorem dX4_shortestSaying_87 : decode cX4_shortestSaying 87 = .ok (.bipush (-2), 2) := by decide +kernel
theorem dX4_shortestSaying_89 : decode cX4_shortestSaying 89 = .ok (.ireturn, 1) := by decide +kernel
theorem dX4_shortestSaying_90 : decode cX4_shortestSaying 90 = .ok (.iconst 0, 1) := by decide +kernel
theorem dX4_shortestSaying_91 : decode cX4_shortestSaying 91 = .ok (.istore 5, 2) := by decide +kernel
theorem dX4_shortestSaying_93 : decode cX4_shortestSaying 93 = .ok (.iconst 0, 1) := by decide +kernel
theorem dX4_shortestSaying_94 : decode cX4_shortestSaying 94 = .ok (.istore 6, 2) := by decide +kernel
theorem dX4_shortestSaying_96 : decode cX4_shortestSaying 96 = .ok (.iload 6, 2) := by decide +kernel
theorem dX4_shortestSaying_98 : decode cX4_shortestSaying 98 = .ok (.iload 4, 2) := by decide +kernel
theorem dX4_shortestSaying_100 : decode cX4_shortestSaying 100 = .ok (.if_icmp .ge 61, 3) := by decide +kernel
theorem dX4_shortestSaying_103 : decode cX4_shortestSaying 103 = .ok (.iload 6, 2) := by decide +kernel
theorem dX4_shortestSaying_105 : decode cX4_shortestSaying 105 = .ok (.bipush 10, 2) := by decide +kernel
theorem dX4_shortestSaying_107 : decode cX4_shortestSaying 107 = .ok (.if_icmp .ge 54, 3) := by decide +kernel
theorem dX4_shortestSaying_110 : decode cX4_shortestSaying 110 = .ok (.aload_n 0, 1) := by decide +kernel
theorem dX4_shortestSaying_111 : decode cX4_shortestSaying 111 = .ok (.iload 6, 2) := by decide +kernel
theorem dX4_shortestSaying_113 : decode cX4_shortestSaying 113 = .ok (.iload 5, 2) := by decide +kernel
theorem dX4_shortestSaying_115 : decode cX4_shortestSaying 115 = .ok (.aload_n 1, 1) := by decide +kernel
theorem dX4_shortestSaying_116 : decode cX4_shortestSaying 116 = .ok (.iload_n 2, 1) := by decide +kernel
theorem dX4_shortestSaying_117 : decode cX4_shortestSaying 117 = .ok (.iload_n 3, 1) := by decide +kernel
theorem dX4_shortestSaying_118 : decode cX4_shortestSaying 118 = .ok (.invokevirtual 56, 3) := by decide +kernel
theorem dX4_shortestSaying_121 : decode cX4_shortestSaying 121 = .ok (.istore 7, 2) := by decide +kernel
theorem dX4_shortestSaying_123 : decode cX4_shortestSaying 123 = .ok (.aload_n 0, 1) := by decide +kernel
theorem dX4_shortestSaying_124 : decode cX4_shortestSaying 124 = .ok (.getfield 19, 3) := by decide +kernel
theorem dX4_shortestSaying_127 : decode cX4_shortestSaying 127 = .ok (.iload 6, 2) := by decide +kernel
theorem dX4_shortestSaying_129 : decode cX4_shortestSaying 129 = .ok (.iload 7, 2) := by decide +kernel
theorem dX4_shortestSaying_131 : decode cX4_shortestSaying 131 = .ok (.iastore, 1) := by decide +kernel
theorem dX4_shortestSaying_132 : decode cX4_shortestSaying 132 = .ok (.aload_n 0, 1) := by decide +kernel
theorem dX4_shortestSaying_133 : decode cX4_shortestSaying 133 = .ok (.getfield 15, 3) := by decide +kernel
theorem dX4_shortestSaying_136 : decode cX4_shortestSaying 136 = .ok (.iload 7, 2) := by decide +kernel
theorem dX4_shortestSaying_138 : decode cX4_shortestSaying 138 = .ok (.iload_n 3, 1) := by decide +kernel
theorem dX4_shortestSaying_139 : decode cX4_shortestSaying 139 = .ok (.iload 6, 2) := by decide +kernel
theorem dX4_shortestSaying_141 : decode cX4_shortestSaying 141 = .ok (.iload 6, 2) := by decide +kernel
theorem dX4_shortestSaying_143 : decode cX4_shortestSaying 143 = .ok (.iload 5, 2) := by decide +kernel
theorem dX4_shortestSaying_145 : decode cX4_shortestSaying 145 = .ok (.isub, 1) := by decide +kernel
theorem dX4_shortestSaying_146 : decode cX4_shortestSaying 146 = .ok (.invokevirtual 59, 3) := by decide +kernel
theorem dX4_shortestSaying_149 : decode cX4_shortestSaying 149 = .ok (.ifCond .eq 6, 3) := by decide +kernel
theorem dX4_shortestSaying_152 : decode cX4_shortestSaying 152 = .ok (.iinc 5 1, 3) := by decide +kernel
theorem dX4_shortestSaying_155 : decode cX4_shortestSaying 155 = .ok (.iinc 6 1, 3) := by decide +kernel
theorem dX4_shortestSaying_158 : decode cX4_shortestSaying 158 = .ok (.goto (-62), 3) := by decide +kernel
theorem dX4_shortestSaying_161 : decode cX4_shortestSaying 161 = .ok (.iload 4, 2) := by decide +kernel
theorem dX4_shortestSaying_163 : decode cX4_shortestSaying 163 = .ok (.ireturn, 1) := by decide +kernel
theorem dX4_neededFrom_0 : decode cX4_neededFrom 0 = .ok (.iload_n 2, 1) := by decide +kernel
theorem dX4_neededFrom_1 : decode cX4_neededFrom 1 = .ok (.iload 4, 2) := by decide +kernel
theorem dX4_neededFrom_3 : decode cX4_neededFrom 3 = .ok (.if_icmp .ne 10, 3) := by decide +kernel
theorem dX4_neededFrom_6 : decode cX4_neededFrom 6 = .ok (.iload_n 1, 1) := by decide +kernel
theorem dX4_neededFrom_7 : decode cX4_neededFrom 7 = .ok (.iconst 2, 1) := by decide +kernel
theorem dX4_neededFrom_8 : decode cX4_neededFrom 8 = .ok (.if_icmp .lt 5, 3) := by decide +kernel
theorem dX4_neededFrom_11 : decode cX4_neededFrom 11 = .ok (.iconst 0, 1) := by decide +kernel
theorem dX4_neededFrom_12 : decode cX4_neededFrom 12 = .ok (.ireturn, 1) := by decide +kernel
theorem dX4_neededFrom_13 : decode cX4_neededFrom 13 = .ok (.bipush 100, 2) := by decide +kernel
theorem dX4_neededFrom_15 : decode cX4_neededFrom 15 = .ok (.istore 6, 2) := by decide +kernel
theorem dX4_neededFrom_17 : decode cX4_neededFrom 17 = .ok (.iconst 0, 1) := by decide +kernel
theorem dX4_neededFrom_18 : decode cX4_neededFrom 18 = .ok (.istore 7, 2) := by decide +kernel
theorem dX4_neededFrom_20 : decode cX4_neededFrom 20 = .ok (.iload 7, 2) := by decide +kernel
theorem dX4_neededFrom_22 : decode cX4_neededFrom 22 = .ok (.aload_n 0, 1) := by decide +kernel
theorem dX4_neededFrom_23 : decode cX4_neededFrom 23 = .ok (.getfield 9, 3) := by decide +kernel
theorem dX4_neededFrom_26 : decode cX4_neededFrom 26 = .ok (.getfield 65, 3) := by decide +kernel
theorem dX4_neededFrom_29 : decode cX4_neededFrom 29 = .ok (.if_icmp .ge 29, 3) := by decide +kernel
theorem dX4_neededFrom_32 : decode cX4_neededFrom 32 = .ok (.iload 6, 2) := by decide +kernel
theorem dX4_neededFrom_34 : decode cX4_neededFrom 34 = .ok (.aload_n 0, 1) := by decide +kernel
theorem dX4_neededFrom_35 : decode cX4_neededFrom 35 = .ok (.iload 7, 2) := by decide +kernel
theorem dX4_neededFrom_37 : decode cX4_neededFrom 37 = .ok (.iload_n 1, 1) := by decide +kernel
theorem dX4_neededFrom_38 : decode cX4_neededFrom 38 = .ok (.iload_n 2, 1) := by decide +kernel
theorem dX4_neededFrom_39 : decode cX4_neededFrom 39 = .ok (.aload_n 3, 1) := by decide +kernel
theorem dX4_neededFrom_40 : decode cX4_neededFrom 40 = .ok (.iload 4, 2) := by decide +kernel
theorem dX4_neededFrom_42 : decode cX4_neededFrom 42 = .ok (.iload 5, 2) := by decide +kernel
theorem dX4_neededFrom_44 : decode cX4_neededFrom 44 = .ok (.invokevirtual 71, 3) := by decide +kernel
theorem dX4_neededFrom_47 : decode cX4_neededFrom 47 = .ok (.invokestatic 46, 3) := by decide +kernel
theorem dX4_neededFrom_50 : decode cX4_neededFrom 50 = .ok (.istore 6, 2) := by decide +kernel
theorem dX4_neededFrom_52 : decode cX4_neededFrom 52 = .ok (.iinc 7 1, 3) := by decide +kernel
theorem dX4_neededFrom_55 : decode cX4_neededFrom 55 = .ok (.goto (-35), 3) := by decide +kernel
theorem dX4_neededFrom_58 : decode cX4_neededFrom 58 = .ok (.iload 6, 2) := by decide +kernel
theorem dX4_neededFrom_60 : decode cX4_neededFrom 60 = .ok (.ireturn, 1) := by decide +kernel
theorem dX4_firstStep_0 : decode cX4_firstStep 0 = .ok (.iload_n 1, 1) := by decide +kernel
theorem dX4_firstStep_1 : decode cX4_firstStep 1 = .ok (.ifCond .lt 19, 3) := by decide +kernel
theorem dX4_firstStep_4 : decode cX4_firstStep 4 = .ok (.iload_n 1, 1) := by decide +kernel
theorem dX4_firstStep_5 : decode cX4_firstStep 5 = .ok (.bipush 10, 2) := by decide +kernel
theorem dX4_firstStep_7 : decode cX4_firstStep 7 = .ok (.if_icmp .gt 13, 3) := by decide +kernel
theorem dX4_firstStep_10 : decode cX4_firstStep 10 = .ok (.iload_n 2, 1) := by decide +kernel
theorem dX4_firstStep_11 : decode cX4_firstStep 11 = .ok (.ifCond .lt 9, 3) := by decide +kernel
theorem dX4_firstStep_14 : decode cX4_firstStep 14 = .ok (.iload_n 2, 1) := by decide +kernel
theorem dX4_firstStep_15 : decode cX4_firstStep 15 = .ok (.bipush 10, 2) := by decide +kernel
theorem dX4_firstStep_17 : decode cX4_firstStep 17 = .ok (.if_icmp .le 6, 3) := by decide +kernel
theorem dX4_firstStep_20 : decode cX4_firstStep 20 = .ok (.bipush (-2), 2) := by decide +kernel
theorem dX4_firstStep_22 : decode cX4_firstStep 22 = .ok (.ireturn, 1) := by decide +kernel
theorem dX4_firstStep_23 : decode cX4_firstStep 23 = .ok (.iconst 0, 1) := by decide +kernel
theorem dX4_firstStep_24 : decode cX4_firstStep 24 = .ok (.istore 6, 2) := by decide +kernel
theorem dX4_firstStep_26 : decode cX4_firstStep 26 = .ok (.iload 6, 2) := by decide +kernel
theorem dX4_firstStep_28 : decode cX4_firstStep 28 = .ok (.aload_n 0, 1) := by decide +kernel
theorem dX4_firstStep_29 : decode cX4_firstStep 29 = .ok (.getfield 9, 3) := by decide +kernel
theorem dX4_firstStep_32 : decode cX4_firstStep 32 = .ok (.getfield 65, 3) := by decide +kernel
theorem dX4_firstStep_35 : decode cX4_firstStep 35 = .ok (.if_icmp .ge 36, 3) := by decide +kernel
theorem dX4_firstStep_38 : decode cX4_firstStep 38 = .ok (.aload_n 0, 1) := by decide +kernel
theorem dX4_firstStep_39 : decode cX4_firstStep 39 = .ok (.iload 6, 2) := by decide +kernel
theorem dX4_firstStep_41 : decode cX4_firstStep 41 = .ok (.iload_n 1, 1) := by decide +kernel
theorem dX4_firstStep_42 : decode cX4_firstStep 42 = .ok (.iload_n 2, 1) := by decide +kernel
theorem dX4_firstStep_43 : decode cX4_firstStep 43 = .ok (.aload_n 3, 1) := by decide +kernel
theorem dX4_firstStep_44 : decode cX4_firstStep 44 = .ok (.iload 4, 2) := by decide +kernel
theorem dX4_firstStep_46 : decode cX4_firstStep 46 = .ok (.iload 5, 2) := by decide +kernel
theorem dX4_firstStep_48 : decode cX4_firstStep 48 = .ok (.invokevirtual 71, 3) := by decide +kernel
theorem dX4_firstStep_51 : decode cX4_firstStep 51 = .ok (.aload_n 0, 1) := by decide +kernel
theorem dX4_firstStep_52 : decode cX4_firstStep 52 = .ok (.getfield 31, 3) := by decide +kernel
theorem dX4_firstStep_55 : decode cX4_firstStep 55 = .ok (.iload_n 1, 1) := by decide +kernel
theorem dX4_firstStep_56 : decode cX4_firstStep 56 = .ok (.aaload, 1) := by decide +kernel
theorem dX4_firstStep_57 : decode cX4_firstStep 57 = .ok (.iload_n 2, 1) := by decide +kernel
theorem dX4_firstStep_58 : decode cX4_firstStep 58 = .ok (.iaload, 1) := by decide +kernel
theorem dX4_firstStep_59 : decode cX4_firstStep 59 = .ok (.if_icmp .ne 6, 3) := by decide +kernel
theorem dX4_firstStep_62 : decode cX4_firstStep 62 = .ok (.iload 6, 2) := by decide +kernel
theorem dX4_firstStep_64 : decode cX4_firstStep 64 = .ok (.ireturn, 1) := by decide +kernel
theorem dX4_firstStep_65 : decode cX4_firstStep 65 = .ok (.iinc 6 1, 3) := by decide +kernel
theorem dX4_firstStep_68 : decode cX4_firstStep 68 = .ok (.goto (-42), 3) := by decide +kernel
theorem dX4_firstStep_71 : decode cX4_firstStep 71 = .ok (.bipush (-2), 2) := by decide +kernel
theorem dX4_firstStep_73 : decode cX4_firstStep 73 = .ok (.ireturn, 1) := by decide +kernel
theorem dX4_neededWith_0 : decode cX4_neededWith 0 = .ok (.iload_n 2, 1) := by decide +kernel
theorem dX4_neededWith_1 : decode cX4_neededWith 1 = .ok (.ifCond .lt 30, 3) := by decide +kernel
theorem dX4_neededWith_4 : decode cX4_neededWith 4 = .ok (.iload_n 2, 1) := by decide +kernel
theorem dX4_neededWith_5 : decode cX4_neededWith 5 = .ok (.bipush 10, 2) := by decide +kernel
theorem dX4_neededWith_7 : decode cX4_neededWith 7 = .ok (.if_icmp .ge 24, 3) := by decide +kernel
theorem dX4_neededWith_10 : decode cX4_neededWith 10 = .ok (.iload_n 3, 1) := by decide +kernel
theorem dX4_neededWith_11 : decode cX4_neededWith 11 = .ok (.ifCond .lt 20, 3) := by decide +kernel
theorem dX4_neededWith_14 : decode cX4_neededWith 14 = .ok (.iload_n 3, 1) := by decide +kernel
theorem dX4_neededWith_15 : decode cX4_neededWith 15 = .ok (.iload_n 2, 1) := by decide +kernel
theorem dX4_neededWith_16 : decode cX4_neededWith 16 = .ok (.if_icmp .gt 15, 3) := by decide +kernel
theorem dX4_neededWith_19 : decode cX4_neededWith 19 = .ok (.aload_n 0, 1) := by decide +kernel
theorem dX4_neededWith_20 : decode cX4_neededWith 20 = .ok (.getfield 15, 3) := by decide +kernel
theorem dX4_neededWith_23 : decode cX4_neededWith 23 = .ok (.iload_n 1, 1) := by decide +kernel
theorem dX4_neededWith_24 : decode cX4_neededWith 24 = .ok (.iload_n 2, 1) := by decide +kernel
theorem dX4_neededWith_25 : decode cX4_neededWith 25 = .ok (.invokevirtual 75, 3) := by decide +kernel
theorem dX4_neededWith_28 : decode cX4_neededWith 28 = .ok (.ifCond .ne 6, 3) := by decide +kernel
theorem dX4_neededWith_31 : decode cX4_neededWith 31 = .ok (.bipush 100, 2) := by decide +kernel
theorem dX4_neededWith_33 : decode cX4_neededWith 33 = .ok (.ireturn, 1) := by decide +kernel
theorem dX4_neededWith_34 : decode cX4_neededWith 34 = .ok (.aload_n 0, 1) := by decide +kernel
theorem dX4_neededWith_35 : decode cX4_neededWith 35 = .ok (.getfield 15, 3) := by decide +kernel
theorem dX4_neededWith_38 : decode cX4_neededWith 38 = .ok (.iload_n 1, 1) := by decide +kernel
theorem dX4_neededWith_39 : decode cX4_neededWith 39 = .ok (.iload 6, 2) := by decide +kernel
theorem dX4_neededWith_41 : decode cX4_neededWith 41 = .ok (.iload_n 2, 1) := by decide +kernel
theorem dX4_neededWith_42 : decode cX4_neededWith 42 = .ok (.iload_n 2, 1) := by decide +kernel
theorem dX4_neededWith_43 : decode cX4_neededWith 43 = .ok (.iload_n 3, 1) := by decide +kernel
theorem dX4_neededWith_44 : decode cX4_neededWith 44 = .ok (.isub, 1) := by decide +kernel
theorem dX4_neededWith_45 : decode cX4_neededWith 45 = .ok (.invokevirtual 59, 3) := by decide +kernel
theorem dX4_neededWith_48 : decode cX4_neededWith 48 = .ok (.ifCond .ne 16, 3) := by decide +kernel
theorem dX4_neededWith_51 : decode cX4_neededWith 51 = .ok (.aload_n 0, 1) := by decide +kernel
theorem dX4_neededWith_52 : decode cX4_neededWith 52 = .ok (.getfield 31, 3) := by decide +kernel
theorem dX4_neededWith_55 : decode cX4_neededWith 55 = .ok (.iload_n 2, 1) := by decide +kernel
theorem dX4_neededWith_56 : decode cX4_neededWith 56 = .ok (.iconst 1, 1) := by decide +kernel
theorem dX4_neededWith_57 : decode cX4_neededWith 57 = .ok (.iadd, 1) := by decide +kernel
theorem dX4_neededWith_58 : decode cX4_neededWith 58 = .ok (.aaload, 1) := by decide +kernel
theorem dX4_neededWith_59 : decode cX4_neededWith 59 = .ok (.iload_n 3, 1) := by decide +kernel
theorem dX4_neededWith_60 : decode cX4_neededWith 60 = .ok (.iaload, 1) := by decide +kernel
theorem dX4_neededWith_61 : decode cX4_neededWith 61 = .ok (.iconst 1, 1) := by decide +kernel
theorem dX4_neededWith_62 : decode cX4_neededWith 62 = .ok (.iadd, 1) := by decide +kernel
theorem dX4_neededWith_63 : decode cX4_neededWith 63 = .ok (.ireturn, 1) := by decide +kernel
theorem dX4_neededWith_64 : decode cX4_neededWith 64 = .ok (.iload_n 3, 1) := by decide +kernel
theorem dX4_neededWith_65 : decode cX4_neededWith 65 = .ok (.iload 5, 2) := by decide +kernel
theorem dX4_neededWith_67 : decode cX4_neededWith 67 = .ok (.if_icmp .ge 18, 3) := by decide +kernel
theorem dX4_neededWith_70 : decode cX4_neededWith 70 = .ok (.iload_n 3, 1) := by decide +kernel
theorem dX4_neededWith_71 : decode cX4_neededWith 71 = .ok (.aload 4, 2) := by decide +kernel
theorem dX4_neededWith_73 : decode cX4_neededWith 73 = .ok (.arraylength, 1) := by decide +kernel
theorem dX4_neededWith_74 : decode cX4_neededWith 74 = .ok (.if_icmp .ge 11, 3) := by decide +kernel
theorem dX4_neededWith_77 : decode cX4_neededWith 77 = .ok (.aload 4, 2) := by decide +kernel
theorem dX4_neededWith_79 : decode cX4_neededWith 79 = .ok (.iload_n 3, 1) := by decide +kernel
theorem dX4_neededWith_80 : decode cX4_neededWith 80 = .ok (.iaload, 1) := by decide +kernel
theorem dX4_neededWith_81 : decode cX4_neededWith 81 = .ok (.iload_n 1, 1) := by decide +kernel
theorem dX4_neededWith_82 : decode cX4_neededWith 82 = .ok (.if_icmp .eq 6, 3) := by decide +kernel
theorem dX4_neededWith_85 : decode cX4_neededWith 85 = .ok (.bipush 100, 2) := by decide +kernel
theorem dX4_neededWith_87 : decode cX4_neededWith 87 = .ok (.ireturn, 1) := by decide +kernel
theorem dX4_neededWith_88 : decode cX4_neededWith 88 = .ok (.aload_n 0, 1) := by decide +kernel
theorem dX4_neededWith_89 : decode cX4_neededWith 89 = .ok (.getfield 31, 3) := by decide +kernel
theorem dX4_neededWith_92 : decode cX4_neededWith 92 = .ok (.iload_n 2, 1) := by decide +kernel
theorem dX4_neededWith_93 : decode cX4_neededWith 93 = .ok (.iconst 1, 1) := by decide +kernel
theorem dX4_neededWith_94 : decode cX4_neededWith 94 = .ok (.iadd, 1) := by decide +kernel
theorem dX4_neededWith_95 : decode cX4_neededWith 95 = .ok (.aaload, 1) := by decide +kernel
theorem dX4_neededWith_96 : decode cX4_neededWith 96 = .ok (.iload_n 3, 1) := by decide +kernel
theorem dX4_neededWith_97 : decode cX4_neededWith 97 = .ok (.iconst 1, 1) := by decide +kernel
theorem dX4_neededWith_98 : decode cX4_neededWith 98 = .ok (.iadd, 1) := by decide +kernel
theorem dX4_neededWith_99 : decode cX4_neededWith 99 = .ok (.iaload, 1) := by decide +kernel
theorem dX4_neededWith_100 : decode cX4_neededWith 100 = .ok (.iconst 1, 1) := by decide +kernel
theorem dX4_neededWith_101 : decode cX4_neededWith 101 = .ok (.iadd, 1) := by decide +kernel
theorem dX4_neededWith_102 : decode cX4_neededWith 102 = .ok (.ireturn, 1) := by decide +kernel
theorem dX4_greatestHarmlessSet_0 : decode cX4_greatestHarmlessSet 0 = .ok (.iconst 0, 1) := by decide +kernel
theorem dX4_greatestHarmlessSet_1 : decode cX4_greatestHarmlessSet 1 = .ok (.istore_n 1, 1) := by decide +kernel
theorem dX4_greatestHarmlessSet_2 : decode cX4_greatestHarmlessSet 2 = .ok (.iconst 0, 1) := by decide +kernel
theorem dX4_greatestHarmlessSet_3 : decode cX4_greatestHarmlessSet 3 = .ok (.istore_n 2, 1) := by decide +kernel
theorem dX4_greatestHarmlessSet_4 : decode cX4_greatestHarmlessSet 4 = .ok (.iconst 1, 1) := by decide +kernel
theorem dX4_greatestHarmlessSet_5 : decode cX4_greatestHarmlessSet 5 = .ok (.aload_n 0, 1) := by decide +kernel
theorem dX4_greatestHarmlessSet_6 : decode cX4_greatestHarmlessSet 6 = .ok (.getfield 9, 3) := by decide +kernel
theorem dX4_greatestHarmlessSet_9 : decode cX4_greatestHarmlessSet 9 = .ok (.getfield 65, 3) := by decide +kernel
theorem dX4_greatestHarmlessSet_12 : decode cX4_greatestHarmlessSet 12 = .ok (.ishl, 1) := by decide +kernel
theorem dX4_greatestHarmlessSet_13 : decode cX4_greatestHarmlessSet 13 = .ok (.istore_n 3, 1) := by decide +kernel
theorem dX4_greatestHarmlessSet_14 : decode cX4_greatestHarmlessSet 14 = .ok (.iconst 1, 1) := by decide +kernel
theorem dX4_greatestHarmlessSet_15 : decode cX4_greatestHarmlessSet 15 = .ok (.istore 4, 2) := by decide +kernel
theorem dX4_greatestHarmlessSet_17 : decode cX4_greatestHarmlessSet 17 = .ok (.iload 4, 2) := by decide +kernel
theorem dX4_greatestHarmlessSet_19 : decode cX4_greatestHarmlessSet 19 = .ok (.iload_n 3, 1) := by decide +kernel
theorem dX4_greatestHarmlessSet_20 : decode cX4_greatestHarmlessSet 20 = .ok (.if_icmp .ge 40, 3) := by decide +kernel
theorem dX4_greatestHarmlessSet_23 : decode cX4_greatestHarmlessSet 23 = .ok (.iload 4, 2) := by decide +kernel
theorem dX4_greatestHarmlessSet_25 : decode cX4_greatestHarmlessSet 25 = .ok (.invokestatic 79, 3) := by decide +kernel
theorem dX4_greatestHarmlessSet_28 : decode cX4_greatestHarmlessSet 28 = .ok (.istore 5, 2) := by decide +kernel
theorem dX4_greatestHarmlessSet_30 : decode cX4_greatestHarmlessSet 30 = .ok (.iload 5, 2) := by decide +kernel
theorem dX4_greatestHarmlessSet_32 : decode cX4_greatestHarmlessSet 32 = .ok (.iload_n 2, 1) := by decide +kernel
theorem dX4_greatestHarmlessSet_33 : decode cX4_greatestHarmlessSet 33 = .ok (.if_icmp .le 21, 3) := by decide +kernel
theorem dX4_greatestHarmlessSet_36 : decode cX4_greatestHarmlessSet 36 = .ok (.aload_n 0, 1) := by decide +kernel
theorem dX4_greatestHarmlessSet_37 : decode cX4_greatestHarmlessSet 37 = .ok (.getfield 15, 3) := by decide +kernel
theorem dX4_greatestHarmlessSet_40 : decode cX4_greatestHarmlessSet 40 = .ok (.iload 4, 2) := by decide +kernel
theorem dX4_greatestHarmlessSet_42 : decode cX4_greatestHarmlessSet 42 = .ok (.invokevirtual 85, 3) := by decide +kernel
theorem dX4_greatestHarmlessSet_45 : decode cX4_greatestHarmlessSet 45 = .ok (.ifCond .ne 9, 3) := by decide +kernel
theorem dX4_greatestHarmlessSet_48 : decode cX4_greatestHarmlessSet 48 = .ok (.iload 4, 2) := by decide +kernel
theorem dX4_greatestHarmlessSet_50 : decode cX4_greatestHarmlessSet 50 = .ok (.istore_n 1, 1) := by decide +kernel
theorem dX4_greatestHarmlessSet_51 : decode cX4_greatestHarmlessSet 51 = .ok (.iload 5, 2) := by decide +kernel
theorem dX4_greatestHarmlessSet_53 : decode cX4_greatestHarmlessSet 53 = .ok (.istore_n 2, 1) := by decide +kernel
theorem dX4_greatestHarmlessSet_54 : decode cX4_greatestHarmlessSet 54 = .ok (.iinc 4 1, 3) := by decide +kernel
theorem dX4_greatestHarmlessSet_57 : decode cX4_greatestHarmlessSet 57 = .ok (.goto (-40), 3) := by decide +kernel
theorem dX4_greatestHarmlessSet_60 : decode cX4_greatestHarmlessSet 60 = .ok (.iload_n 1, 1) := by decide +kernel
theorem dX4_greatestHarmlessSet_61 : decode cX4_greatestHarmlessSet 61 = .ok (.ireturn, 1) := by decide +kernel
theorem dX4_mergings_0 : decode cX4_mergings 0 = .ok (.iload_n 2, 1) := by decide +kernel
theorem dX4_mergings_1 : decode cX4_mergings 1 = .ok (.iload 4, 2) := by decide +kernel
theorem dX4_mergings_3 : decode cX4_mergings 3 = .ok (.iadd, 1) := by decide +kernel
theorem dX4_mergings_4 : decode cX4_mergings 4 = .ok (.bipush 12, 2) := by decide +kernel
theorem dX4_mergings_6 : decode cX4_mergings 6 = .ok (.if_icmp .gt 16, 3) := by decide +kernel
theorem dX4_mergings_9 : decode cX4_mergings 9 = .ok (.iload_n 2, 1) := by decide +kernel
theorem dX4_mergings_10 : decode cX4_mergings 10 = .ok (.aload_n 1, 1) := by decide +kernel
theorem dX4_mergings_11 : decode cX4_mergings 11 = .ok (.arraylength, 1) := by decide +kernel
theorem dX4_mergings_12 : decode cX4_mergings 12 = .ok (.if_icmp .gt 10, 3) := by decide +kernel
theorem dX4_mergings_15 : decode cX4_mergings 15 = .ok (.iload 4, 2) := by decide +kernel
theorem dX4_mergings_17 : decode cX4_mergings 17 = .ok (.aload_n 3, 1) := by decide +kernel
theorem dX4_mergings_18 : decode cX4_mergings 18 = .ok (.arraylength, 1) := by decide +kernel
theorem dX4_mergings_19 : decode cX4_mergings 19 = .ok (.if_icmp .le 5, 3) := by decide +kernel
theorem dX4_mergings_22 : decode cX4_mergings 22 = .ok (.lconst 0, 1) := by decide +kernel
theorem dX4_mergings_23 : decode cX4_mergings 23 = .ok (.lreturn, 1) := by decide +kernel
theorem dX4_mergings_24 : decode cX4_mergings 24 = .ok (.iload_n 2, 1) := by decide +kernel
theorem dX4_mergings_25 : decode cX4_mergings 25 = .ok (.istore 6, 2) := by decide +kernel
theorem dX4_mergings_27 : decode cX4_mergings 27 = .ok (.iload 6, 2) := by decide +kernel
theorem dX4_mergings_29 : decode cX4_mergings 29 = .ok (.ifCond .lt 149, 3) := by decide +kernel
theorem dX4_mergings_32 : decode cX4_mergings 32 = .ok (.iload 4, 2) := by decide +kernel
theorem dX4_mergings_34 : decode cX4_mergings 34 = .ok (.istore 7, 2) := by decide +kernel
theorem dX4_mergings_36 : decode cX4_mergings 36 = .ok (.iload 7, 2) := by decide +kernel
theorem dX4_mergings_38 : decode cX4_mergings 38 = .ok (.ifCond .lt 134, 3) := by decide +kernel
theorem dX4_mergings_41 : decode cX4_mergings 41 = .ok (.iload 6, 2) := by decide +kernel
theorem dX4_mergings_43 : decode cX4_mergings 43 = .ok (.iload_n 2, 1) := by decide +kernel
theorem dX4_mergings_44 : decode cX4_mergings 44 = .ok (.if_icmp .ne 14, 3) := by decide +kernel
theorem dX4_mergings_47 : decode cX4_mergings 47 = .ok (.iload 7, 2) := by decide +kernel
theorem dX4_mergings_49 : decode cX4_mergings 49 = .ok (.iload 4, 2) := by decide +kernel
theorem dX4_mergings_51 : decode cX4_mergings 51 = .ok (.if_icmp .ne 7, 3) := by decide +kernel
theorem dX4_mergings_54 : decode cX4_mergings 54 = .ok (.lconst 1, 1) := by decide +kernel
theorem dX4_mergings_55 : decode cX4_mergings 55 = .ok (.goto 4, 3) := by decide +kernel
theorem dX4_mergings_58 : decode cX4_mergings 58 = .ok (.lconst 0, 1) := by decide +kernel
theorem dX4_mergings_59 : decode cX4_mergings 59 = .ok (.lstore 8, 2) := by decide +kernel
theorem dX4_mergings_61 : decode cX4_mergings 61 = .ok (.iload 6, 2) := by decide +kernel
theorem dX4_mergings_63 : decode cX4_mergings 63 = .ok (.iload_n 2, 1) := by decide +kernel
theorem dX4_mergings_64 : decode cX4_mergings 64 = .ok (.if_icmp .ge 43, 3) := by decide +kernel
theorem dX4_mergings_67 : decode cX4_mergings 67 = .ok (.aload_n 0, 1) := by decide +kernel
theorem dX4_mergings_68 : decode cX4_mergings 68 = .ok (.getfield 15, 3) := by decide +kernel
theorem dX4_mergings_71 : decode cX4_mergings 71 = .ok (.aload_n 1, 1) := by decide +kernel
theorem dX4_mergings_72 : decode cX4_mergings 72 = .ok (.iload 6, 2) := by decide +kernel
theorem dX4_mergings_74 : decode cX4_mergings 74 = .ok (.iaload, 1) := by decide +kernel
theorem dX4_mergings_75 : decode cX4_mergings 75 = .ok (.iload 5, 2) := by decide +kernel
theorem dX4_mergings_77 : decode cX4_mergings 77 = .ok (.iload 6, 2) := by decide +kernel
theorem dX4_mergings_79 : decode cX4_mergings 79 = .ok (.iload 7, 2) := by decide +kernel
theorem dX4_mergings_81 : decode cX4_mergings 81 = .ok (.iadd, 1) := by decide +kernel
theorem dX4_mergings_82 : decode cX4_mergings 82 = .ok (.iload 7, 2) := by decide +kernel
theorem dX4_mergings_84 : decode cX4_mergings 84 = .ok (.invokevirtual 59, 3) := by decide +kernel
theorem dX4_mergings_87 : decode cX4_mergings 87 = .ok (.ifCond .eq 20, 3) := by decide +kernel
theorem dX4_mergings_90 : decode cX4_mergings 90 = .ok (.lload 8, 2) := by decide +kernel
theorem dX4_mergings_92 : decode cX4_mergings 92 = .ok (.aload_n 0, 1) := by decide +kernel
theorem dX4_mergings_93 : decode cX4_mergings 93 = .ok (.getfield 36, 3) := by decide +kernel
theorem dX4_mergings_96 : decode cX4_mergings 96 = .ok (.iload 6, 2) := by decide +kernel
theorem dX4_mergings_98 : decode cX4_mergings 98 = .ok (.iconst 1, 1) := by decide +kernel
theorem dX4_mergings_99 : decode cX4_mergings 99 = .ok (.iadd, 1) := by decide +kernel
theorem dX4_mergings_100 : decode cX4_mergings 100 = .ok (.aaload, 1) := by decide +kernel
theorem dX4_mergings_101 : decode cX4_mergings 101 = .ok (.iload 7, 2) := by decide +kernel
theorem dX4_mergings_103 : decode cX4_mergings 103 = .ok (.laload, 1) := by decide +kernel
theorem dX4_mergings_104 : decode cX4_mergings 104 = .ok (.ladd, 1) := by decide +kernel
theorem dX4_mergings_105 : decode cX4_mergings 105 = .ok (.lstore 8, 2) := by decide +kernel
theorem dX4_mergings_107 : decode cX4_mergings 107 = .ok (.iload 7, 2) := by decide +kernel
theorem dX4_mergings_109 : decode cX4_mergings 109 = .ok (.iload 4, 2) := by decide +kernel
theorem dX4_mergings_111 : decode cX4_mergings 111 = .ok (.if_icmp .ge 43, 3) := by decide +kernel
theorem dX4_mergings_114 : decode cX4_mergings 114 = .ok (.aload_n 0, 1) := by decide +kernel
theorem dX4_mergings_115 : decode cX4_mergings 115 = .ok (.getfield 15, 3) := by decide +kernel
theorem dX4_mergings_118 : decode cX4_mergings 118 = .ok (.aload_n 3, 1) := by decide +kernel
theorem dX4_mergings_119 : decode cX4_mergings 119 = .ok (.iload 7, 2) := by decide +kernel
theorem dX4_mergings_121 : decode cX4_mergings 121 = .ok (.iaload, 1) := by decide +kernel
theorem dX4_mergings_122 : decode cX4_mergings 122 = .ok (.iload 5, 2) := by decide +kernel
theorem dX4_mergings_124 : decode cX4_mergings 124 = .ok (.iload 6, 2) := by decide +kernel
theorem dX4_mergings_126 : decode cX4_mergings 126 = .ok (.iload 7, 2) := by decide +kernel
theorem dX4_mergings_128 : decode cX4_mergings 128 = .ok (.iadd, 1) := by decide +kernel
theorem dX4_mergings_129 : decode cX4_mergings 129 = .ok (.iload 7, 2) := by decide +kernel
theorem dX4_mergings_131 : decode cX4_mergings 131 = .ok (.invokevirtual 59, 3) := by decide +kernel
theorem dX4_mergings_134 : decode cX4_mergings 134 = .ok (.ifCond .ne 20, 3) := by decide +kernel
theorem dX4_mergings_137 : decode cX4_mergings 137 = .ok (.lload 8, 2) := by decide +kernel
theorem dX4_mergings_139 : decode cX4_mergings 139 = .ok (.aload_n 0, 1) := by decide +kernel
theorem dX4_mergings_140 : decode cX4_mergings 140 = .ok (.getfield 36, 3) := by decide +kernel
theorem dX4_mergings_143 : decode cX4_mergings 143 = .ok (.iload 6, 2) := by decide +kernel
theorem dX4_mergings_145 : decode cX4_mergings 145 = .ok (.aaload, 1) := by decide +kernel
theorem dX4_mergings_146 : decode cX4_mergings 146 = .ok (.iload 7, 2) := by decide +kernel
theorem dX4_mergings_148 : decode cX4_mergings 148 = .ok (.iconst 1, 1) := by decide +kernel
theorem dX4_mergings_149 : decode cX4_mergings 149 = .ok (.iadd, 1) := by decide +kernel
theorem dX4_mergings_150 : decode cX4_mergings 150 = .ok (.laload, 1) := by decide +kernel
theorem dX4_mergings_151 : decode cX4_mergings 151 = .ok (.ladd, 1) := by decide +kernel
theorem dX4_mergings_152 : decode cX4_mergings 152 = .ok (.lstore 8, 2) := by decide +kernel
theorem dX4_mergings_154 : decode cX4_mergings 154 = .ok (.aload_n 0, 1) := by decide +kernel
theorem dX4_mergings_155 : decode cX4_mergings 155 = .ok (.getfield 36, 3) := by decide +kernel
theorem dX4_mergings_158 : decode cX4_mergings 158 = .ok (.iload 6, 2) := by decide +kernel
theorem dX4_mergings_160 : decode cX4_mergings 160 = .ok (.aaload, 1) := by decide +kernel
theorem dX4_mergings_161 : decode cX4_mergings 161 = .ok (.iload 7, 2) := by decide +kernel
theorem dX4_mergings_163 : decode cX4_mergings 163 = .ok (.lload 8, 2) := by decide +kernel
theorem dX4_mergings_165 : decode cX4_mergings 165 = .ok (.lastore, 1) := by decide +kernel
theorem dX4_mergings_166 : decode cX4_mergings 166 = .ok (.iinc 7 (-1), 3) := by decide +kernel
theorem dX4_mergings_169 : decode cX4_mergings 169 = .ok (.goto (-133), 3) := by decide +kernel
theorem dX4_mergings_172 : decode cX4_mergings 172 = .ok (.iinc 6 (-1), 3) := by decide +kernel
theorem dX4_mergings_175 : decode cX4_mergings 175 = .ok (.goto (-148), 3) := by decide +kernel
theorem dX4_mergings_178 : decode cX4_mergings 178 = .ok (.aload_n 0, 1) := by decide +kernel
theorem dX4_mergings_179 : decode cX4_mergings 179 = .ok (.getfield 36, 3) := by decide +kernel
theorem dX4_mergings_182 : decode cX4_mergings 182 = .ok (.iconst 0, 1) := by decide +kernel
theorem dX4_mergings_183 : decode cX4_mergings 183 = .ok (.aaload, 1) := by decide +kernel
theorem dX4_mergings_184 : decode cX4_mergings 184 = .ok (.iconst 0, 1) := by decide +kernel
theorem dX4_mergings_185 : decode cX4_mergings 185 = .ok (.laload, 1) := by decide +kernel
theorem dX4_mergings_186 : decode cX4_mergings 186 = .ok (.lreturn, 1) := by decide +kernel
theorem dX4_firstMerging_0 : decode cX4_firstMerging 0 = .ok (.iconst 0, 1) := by decide +kernel
theorem dX4_firstMerging_1 : decode cX4_firstMerging 1 = .ok (.istore 6, 2) := by decide +kernel
theorem dX4_firstMerging_3 : decode cX4_firstMerging 3 = .ok (.iconst 0, 1) := by decide +kernel
theorem dX4_firstMerging_4 : decode cX4_firstMerging 4 = .ok (.istore 7, 2) := by decide +kernel
theorem dX4_firstMerging_6 : decode cX4_firstMerging 6 = .ok (.iconst 0, 1) := by decide +kernel
theorem dX4_firstMerging_7 : decode cX4_firstMerging 7 = .ok (.istore 8, 2) := by decide +kernel
theorem dX4_firstMerging_9 : decode cX4_firstMerging 9 = .ok (.iload 8, 2) := by decide +kernel
theorem dX4_firstMerging_11 : decode cX4_firstMerging 11 = .ok (.bipush 12, 2) := by decide +kernel
theorem dX4_firstMerging_13 : decode cX4_firstMerging 13 = .ok (.if_icmp .ge 194, 3) := by decide +kernel
theorem dX4_firstMerging_16 : decode cX4_firstMerging 16 = .ok (.iload 8, 2) := by decide +kernel
theorem dX4_firstMerging_18 : decode cX4_firstMerging 18 = .ok (.iload_n 2, 1) := by decide +kernel
theorem dX4_firstMerging_19 : decode cX4_firstMerging 19 = .ok (.iload 4, 2) := by decide +kernel
theorem dX4_firstMerging_21 : decode cX4_firstMerging 21 = .ok (.iadd, 1) := by decide +kernel
theorem dX4_firstMerging_22 : decode cX4_firstMerging 22 = .ok (.if_icmp .ge 185, 3) := by decide +kernel
theorem dX4_firstMerging_25 : decode cX4_firstMerging 25 = .ok (.iload 6, 2) := by decide +kernel
theorem dX4_firstMerging_27 : decode cX4_firstMerging 27 = .ok (.iload_n 2, 1) := by decide +kernel
theorem dX4_firstMerging_28 : decode cX4_firstMerging 28 = .ok (.if_icmp .ge 51, 3) := by decide +kernel
theorem dX4_firstMerging_31 : decode cX4_firstMerging 31 = .ok (.iload 6, 2) := by decide +kernel
theorem dX4_firstMerging_33 : decode cX4_firstMerging 33 = .ok (.aload_n 1, 1) := by decide +kernel
theorem dX4_firstMerging_34 : decode cX4_firstMerging 34 = .ok (.arraylength, 1) := by decide +kernel
theorem dX4_firstMerging_35 : decode cX4_firstMerging 35 = .ok (.if_icmp .ge 44, 3) := by decide +kernel
theorem dX4_firstMerging_38 : decode cX4_firstMerging 38 = .ok (.aload_n 0, 1) := by decide +kernel
theorem dX4_firstMerging_39 : decode cX4_firstMerging 39 = .ok (.getfield 36, 3) := by decide +kernel
theorem dX4_firstMerging_42 : decode cX4_firstMerging 42 = .ok (.iload 6, 2) := by decide +kernel
theorem dX4_firstMerging_44 : decode cX4_firstMerging 44 = .ok (.iconst 1, 1) := by decide +kernel
theorem dX4_firstMerging_45 : decode cX4_firstMerging 45 = .ok (.iadd, 1) := by decide +kernel
theorem dX4_firstMerging_46 : decode cX4_firstMerging 46 = .ok (.aaload, 1) := by decide +kernel
theorem dX4_firstMerging_47 : decode cX4_firstMerging 47 = .ok (.iload 7, 2) := by decide +kernel
theorem dX4_firstMerging_49 : decode cX4_firstMerging 49 = .ok (.laload, 1) := by decide +kernel
theorem dX4_firstMerging_50 : decode cX4_firstMerging 50 = .ok (.lconst 0, 1) := by decide +kernel
theorem dX4_firstMerging_51 : decode cX4_firstMerging 51 = .ok (.lcmp, 1) := by decide +kernel
theorem dX4_firstMerging_52 : decode cX4_firstMerging 52 = .ok (.ifCond .le 27, 3) := by decide +kernel
theorem dX4_firstMerging_55 : decode cX4_firstMerging 55 = .ok (.aload_n 0, 1) := by decide +kernel
theorem dX4_firstMerging_56 : decode cX4_firstMerging 56 = .ok (.getfield 15, 3) := by decide +kernel
theorem dX4_firstMerging_59 : decode cX4_firstMerging 59 = .ok (.aload_n 1, 1) := by decide +kernel
theorem dX4_firstMerging_60 : decode cX4_firstMerging 60 = .ok (.iload 6, 2) := by decide +kernel
theorem dX4_firstMerging_62 : decode cX4_firstMerging 62 = .ok (.iaload, 1) := by decide +kernel
theorem dX4_firstMerging_63 : decode cX4_firstMerging 63 = .ok (.iload 5, 2) := by decide +kernel
theorem dX4_firstMerging_65 : decode cX4_firstMerging 65 = .ok (.iload 8, 2) := by decide +kernel
theorem dX4_firstMerging_67 : decode cX4_firstMerging 67 = .ok (.iload 7, 2) := by decide +kernel
theorem dX4_firstMerging_69 : decode cX4_firstMerging 69 = .ok (.invokevirtual 59, 3) := by decide +kernel
theorem dX4_firstMerging_72 : decode cX4_firstMerging 72 = .ok (.ifCond .eq 7, 3) := by decide +kernel
theorem dX4_firstMerging_75 : decode cX4_firstMerging 75 = .ok (.iconst 1, 1) := by decide +kernel
theorem dX4_firstMerging_76 : decode cX4_firstMerging 76 = .ok (.goto 4, 3) := by decide +kernel
theorem dX4_firstMerging_79 : decode cX4_firstMerging 79 = .ok (.iconst 0, 1) := by decide +kernel
theorem dX4_firstMerging_80 : decode cX4_firstMerging 80 = .ok (.istore 9, 2) := by decide +kernel
theorem dX4_firstMerging_82 : decode cX4_firstMerging 82 = .ok (.iload 7, 2) := by decide +kernel
theorem dX4_firstMerging_84 : decode cX4_firstMerging 84 = .ok (.iload 4, 2) := by decide +kernel
theorem dX4_firstMerging_86 : decode cX4_firstMerging 86 = .ok (.if_icmp .ge 51, 3) := by decide +kernel
theorem dX4_firstMerging_89 : decode cX4_firstMerging 89 = .ok (.iload 7, 2) := by decide +kernel
theorem dX4_firstMerging_91 : decode cX4_firstMerging 91 = .ok (.aload_n 3, 1) := by decide +kernel
theorem dX4_firstMerging_92 : decode cX4_firstMerging 92 = .ok (.arraylength, 1) := by decide +kernel
theorem dX4_firstMerging_93 : decode cX4_firstMerging 93 = .ok (.if_icmp .ge 44, 3) := by decide +kernel
theorem dX4_firstMerging_96 : decode cX4_firstMerging 96 = .ok (.aload_n 0, 1) := by decide +kernel
theorem dX4_firstMerging_97 : decode cX4_firstMerging 97 = .ok (.getfield 36, 3) := by decide +kernel
theorem dX4_firstMerging_100 : decode cX4_firstMerging 100 = .ok (.iload 6, 2) := by decide +kernel
theorem dX4_firstMerging_102 : decode cX4_firstMerging 102 = .ok (.aaload, 1) := by decide +kernel
theorem dX4_firstMerging_103 : decode cX4_firstMerging 103 = .ok (.iload 7, 2) := by decide +kernel
theorem dX4_firstMerging_105 : decode cX4_firstMerging 105 = .ok (.iconst 1, 1) := by decide +kernel
theorem dX4_firstMerging_106 : decode cX4_firstMerging 106 = .ok (.iadd, 1) := by decide +kernel
theorem dX4_firstMerging_107 : decode cX4_firstMerging 107 = .ok (.laload, 1) := by decide +kernel
theorem dX4_firstMerging_108 : decode cX4_firstMerging 108 = .ok (.lconst 0, 1) := by decide +kernel
theorem dX4_firstMerging_109 : decode cX4_firstMerging 109 = .ok (.lcmp, 1) := by decide +kernel
theorem dX4_firstMerging_110 : decode cX4_firstMerging 110 = .ok (.ifCond .le 27, 3) := by decide +kernel
theorem dX4_firstMerging_113 : decode cX4_firstMerging 113 = .ok (.aload_n 0, 1) := by decide +kernel
theorem dX4_firstMerging_114 : decode cX4_firstMerging 114 = .ok (.getfield 15, 3) := by decide +kernel
theorem dX4_firstMerging_117 : decode cX4_firstMerging 117 = .ok (.aload_n 3, 1) := by decide +kernel
theorem dX4_firstMerging_118 : decode cX4_firstMerging 118 = .ok (.iload 7, 2) := by decide +kernel
theorem dX4_firstMerging_120 : decode cX4_firstMerging 120 = .ok (.iaload, 1) := by decide +kernel
theorem dX4_firstMerging_121 : decode cX4_firstMerging 121 = .ok (.iload 5, 2) := by decide +kernel
theorem dX4_firstMerging_123 : decode cX4_firstMerging 123 = .ok (.iload 8, 2) := by decide +kernel
theorem dX4_firstMerging_125 : decode cX4_firstMerging 125 = .ok (.iload 7, 2) := by decide +kernel
theorem dX4_firstMerging_127 : decode cX4_firstMerging 127 = .ok (.invokevirtual 59, 3) := by decide +kernel
theorem dX4_firstMerging_130 : decode cX4_firstMerging 130 = .ok (.ifCond .ne 7, 3) := by decide +kernel
theorem dX4_firstMerging_133 : decode cX4_firstMerging 133 = .ok (.iconst 1, 1) := by decide +kernel
theorem dX4_firstMerging_134 : decode cX4_firstMerging 134 = .ok (.goto 4, 3) := by decide +kernel
theorem dX4_firstMerging_137 : decode cX4_firstMerging 137 = .ok (.iconst 0, 1) := by decide +kernel
theorem dX4_firstMerging_138 : decode cX4_firstMerging 138 = .ok (.istore 10, 2) := by decide +kernel
theorem dX4_firstMerging_140 : decode cX4_firstMerging 140 = .ok (.iload 9, 2) := by decide +kernel
theorem dX4_firstMerging_142 : decode cX4_firstMerging 142 = .ok (.ifCond .eq 36, 3) := by decide +kernel
theorem dX4_firstMerging_145 : decode cX4_firstMerging 145 = .ok (.iload 10, 2) := by decide +kernel
theorem dX4_firstMerging_147 : decode cX4_firstMerging 147 = .ok (.ifCond .eq 14, 3) := by decide +kernel
theorem dX4_firstMerging_150 : decode cX4_firstMerging 150 = .ok (.aload_n 1, 1) := by decide +kernel
theorem dX4_firstMerging_151 : decode cX4_firstMerging 151 = .ok (.iload 6, 2) := by decide +kernel
theorem dX4_firstMerging_153 : decode cX4_firstMerging 153 = .ok (.iaload, 1) := by decide +kernel
theorem dX4_firstMerging_154 : decode cX4_firstMerging 154 = .ok (.aload_n 3, 1) := by decide +kernel
theorem dX4_firstMerging_155 : decode cX4_firstMerging 155 = .ok (.iload 7, 2) := by decide +kernel
theorem dX4_firstMerging_157 : decode cX4_firstMerging 157 = .ok (.iaload, 1) := by decide +kernel
theorem dX4_firstMerging_158 : decode cX4_firstMerging 158 = .ok (.if_icmp .ge 20, 3) := by decide +kernel
theorem dX4_firstMerging_161 : decode cX4_firstMerging 161 = .ok (.aload_n 0, 1) := by decide +kernel
theorem dX4_firstMerging_162 : decode cX4_firstMerging 162 = .ok (.getfield 19, 3) := by decide +kernel
theorem dX4_firstMerging_165 : decode cX4_firstMerging 165 = .ok (.iload 8, 2) := by decide +kernel
theorem dX4_firstMerging_167 : decode cX4_firstMerging 167 = .ok (.aload_n 1, 1) := by decide +kernel
theorem dX4_firstMerging_168 : decode cX4_firstMerging 168 = .ok (.iload 6, 2) := by decide +kernel
theorem dX4_firstMerging_170 : decode cX4_firstMerging 170 = .ok (.iaload, 1) := by decide +kernel
theorem dX4_firstMerging_171 : decode cX4_firstMerging 171 = .ok (.iastore, 1) := by decide +kernel
theorem dX4_firstMerging_172 : decode cX4_firstMerging 172 = .ok (.iinc 6 1, 3) := by decide +kernel
theorem dX4_firstMerging_175 : decode cX4_firstMerging 175 = .ok (.goto 26, 3) := by decide +kernel
theorem dX4_firstMerging_178 : decode cX4_firstMerging 178 = .ok (.iload 10, 2) := by decide +kernel
theorem dX4_firstMerging_180 : decode cX4_firstMerging 180 = .ok (.ifCond .eq 20, 3) := by decide +kernel
theorem dX4_firstMerging_183 : decode cX4_firstMerging 183 = .ok (.aload_n 0, 1) := by decide +kernel
theorem dX4_firstMerging_184 : decode cX4_firstMerging 184 = .ok (.getfield 19, 3) := by decide +kernel
theorem dX4_firstMerging_187 : decode cX4_firstMerging 187 = .ok (.iload 8, 2) := by decide +kernel
theorem dX4_firstMerging_189 : decode cX4_firstMerging 189 = .ok (.aload_n 3, 1) := by decide +kernel
theorem dX4_firstMerging_190 : decode cX4_firstMerging 190 = .ok (.iload 7, 2) := by decide +kernel
theorem dX4_firstMerging_192 : decode cX4_firstMerging 192 = .ok (.iaload, 1) := by decide +kernel
theorem dX4_firstMerging_193 : decode cX4_firstMerging 193 = .ok (.iastore, 1) := by decide +kernel
theorem dX4_firstMerging_194 : decode cX4_firstMerging 194 = .ok (.iinc 7 1, 3) := by decide +kernel
theorem dX4_firstMerging_197 : decode cX4_firstMerging 197 = .ok (.goto 4, 3) := by decide +kernel
theorem dX4_firstMerging_200 : decode cX4_firstMerging 200 = .ok (.return_, 1) := by decide +kernel
theorem dX4_firstMerging_201 : decode cX4_firstMerging 201 = .ok (.iinc 8 1, 3) := by decide +kernel
theorem dX4_firstMerging_204 : decode cX4_firstMerging 204 = .ok (.goto (-195), 3) := by decide +kernel
theorem dX4_firstMerging_207 : decode cX4_firstMerging 207 = .ok (.return_, 1) := by decide +kernel
theorem dX4_sayingsWithLeft_0 : decode cX4_sayingsWithLeft 0 = .ok (.iload_n 2, 1) := by decide +kernel
theorem dX4_sayingsWithLeft_1 : decode cX4_sayingsWithLeft 1 = .ok (.iload_n 3, 1) := by decide +kernel
theorem dX4_sayingsWithLeft_2 : decode cX4_sayingsWithLeft 2 = .ok (.iadd, 1) := by decide +kernel
theorem dX4_sayingsWithLeft_3 : decode cX4_sayingsWithLeft 3 = .ok (.bipush 12, 2) := by decide +kernel
theorem dX4_sayingsWithLeft_5 : decode cX4_sayingsWithLeft 5 = .ok (.if_icmp .gt 9, 3) := by decide +kernel
theorem dX4_sayingsWithLeft_8 : decode cX4_sayingsWithLeft 8 = .ok (.iload_n 2, 1) := by decide +kernel
theorem dX4_sayingsWithLeft_9 : decode cX4_sayingsWithLeft 9 = .ok (.aload_n 1, 1) := by decide +kernel
theorem dX4_sayingsWithLeft_10 : decode cX4_sayingsWithLeft 10 = .ok (.arraylength, 1) := by decide +kernel
theorem dX4_sayingsWithLeft_11 : decode cX4_sayingsWithLeft 11 = .ok (.if_icmp .le 5, 3) := by decide +kernel
theorem dX4_sayingsWithLeft_14 : decode cX4_sayingsWithLeft 14 = .ok (.lconst 0, 1) := by decide +kernel
theorem dX4_sayingsWithLeft_15 : decode cX4_sayingsWithLeft 15 = .ok (.lreturn, 1) := by decide +kernel
theorem dX4_sayingsWithLeft_16 : decode cX4_sayingsWithLeft 16 = .ok (.iload_n 2, 1) := by decide +kernel
theorem dX4_sayingsWithLeft_17 : decode cX4_sayingsWithLeft 17 = .ok (.istore 5, 2) := by decide +kernel
theorem dX4_sayingsWithLeft_19 : decode cX4_sayingsWithLeft 19 = .ok (.iload 5, 2) := by decide +kernel
theorem dX4_sayingsWithLeft_21 : decode cX4_sayingsWithLeft 21 = .ok (.ifCond .lt 138, 3) := by decide +kernel
theorem dX4_sayingsWithLeft_24 : decode cX4_sayingsWithLeft 24 = .ok (.iload_n 3, 1) := by decide +kernel
theorem dX4_sayingsWithLeft_25 : decode cX4_sayingsWithLeft 25 = .ok (.istore 6, 2) := by decide +kernel
theorem dX4_sayingsWithLeft_27 : decode cX4_sayingsWithLeft 27 = .ok (.iload 6, 2) := by decide +kernel
theorem dX4_sayingsWithLeft_29 : decode cX4_sayingsWithLeft 29 = .ok (.ifCond .lt 124, 3) := by decide +kernel
theorem dX4_sayingsWithLeft_32 : decode cX4_sayingsWithLeft 32 = .ok (.iload 5, 2) := by decide +kernel
theorem dX4_sayingsWithLeft_34 : decode cX4_sayingsWithLeft 34 = .ok (.iload_n 2, 1) := by decide +kernel
theorem dX4_sayingsWithLeft_35 : decode cX4_sayingsWithLeft 35 = .ok (.if_icmp .ne 13, 3) := by decide +kernel
theorem dX4_sayingsWithLeft_38 : decode cX4_sayingsWithLeft 38 = .ok (.iload 6, 2) := by decide +kernel
theorem dX4_sayingsWithLeft_40 : decode cX4_sayingsWithLeft 40 = .ok (.iload_n 3, 1) := by decide +kernel
theorem dX4_sayingsWithLeft_41 : decode cX4_sayingsWithLeft 41 = .ok (.if_icmp .ne 7, 3) := by decide +kernel
theorem dX4_sayingsWithLeft_44 : decode cX4_sayingsWithLeft 44 = .ok (.lconst 1, 1) := by decide +kernel
theorem dX4_sayingsWithLeft_45 : decode cX4_sayingsWithLeft 45 = .ok (.goto 4, 3) := by decide +kernel
theorem dX4_sayingsWithLeft_48 : decode cX4_sayingsWithLeft 48 = .ok (.lconst 0, 1) := by decide +kernel
theorem dX4_sayingsWithLeft_49 : decode cX4_sayingsWithLeft 49 = .ok (.lstore 7, 2) := by decide +kernel
theorem dX4_sayingsWithLeft_51 : decode cX4_sayingsWithLeft 51 = .ok (.iload 5, 2) := by decide +kernel
theorem dX4_sayingsWithLeft_53 : decode cX4_sayingsWithLeft 53 = .ok (.iload_n 2, 1) := by decide +kernel
theorem dX4_sayingsWithLeft_54 : decode cX4_sayingsWithLeft 54 = .ok (.if_icmp .ge 43, 3) := by decide +kernel
theorem dX4_sayingsWithLeft_57 : decode cX4_sayingsWithLeft 57 = .ok (.aload_n 0, 1) := by decide +kernel
theorem dX4_sayingsWithLeft_58 : decode cX4_sayingsWithLeft 58 = .ok (.getfield 15, 3) := by decide +kernel
theorem dX4_sayingsWithLeft_61 : decode cX4_sayingsWithLeft 61 = .ok (.aload_n 1, 1) := by decide +kernel
theorem dX4_sayingsWithLeft_62 : decode cX4_sayingsWithLeft 62 = .ok (.iload 5, 2) := by decide +kernel
theorem dX4_sayingsWithLeft_64 : decode cX4_sayingsWithLeft 64 = .ok (.iaload, 1) := by decide +kernel
theorem dX4_sayingsWithLeft_65 : decode cX4_sayingsWithLeft 65 = .ok (.iload 4, 2) := by decide +kernel
theorem dX4_sayingsWithLeft_67 : decode cX4_sayingsWithLeft 67 = .ok (.iload 5, 2) := by decide +kernel
theorem dX4_sayingsWithLeft_69 : decode cX4_sayingsWithLeft 69 = .ok (.iload 6, 2) := by decide +kernel
theorem dX4_sayingsWithLeft_71 : decode cX4_sayingsWithLeft 71 = .ok (.iadd, 1) := by decide +kernel
theorem dX4_sayingsWithLeft_72 : decode cX4_sayingsWithLeft 72 = .ok (.iload 6, 2) := by decide +kernel
theorem dX4_sayingsWithLeft_74 : decode cX4_sayingsWithLeft 74 = .ok (.invokevirtual 59, 3) := by decide +kernel
theorem dX4_sayingsWithLeft_77 : decode cX4_sayingsWithLeft 77 = .ok (.ifCond .eq 20, 3) := by decide +kernel
theorem dX4_sayingsWithLeft_80 : decode cX4_sayingsWithLeft 80 = .ok (.lload 7, 2) := by decide +kernel
theorem dX4_sayingsWithLeft_82 : decode cX4_sayingsWithLeft 82 = .ok (.aload_n 0, 1) := by decide +kernel
theorem dX4_sayingsWithLeft_83 : decode cX4_sayingsWithLeft 83 = .ok (.getfield 36, 3) := by decide +kernel
theorem dX4_sayingsWithLeft_86 : decode cX4_sayingsWithLeft 86 = .ok (.iload 5, 2) := by decide +kernel
theorem dX4_sayingsWithLeft_88 : decode cX4_sayingsWithLeft 88 = .ok (.iconst 1, 1) := by decide +kernel
theorem dX4_sayingsWithLeft_89 : decode cX4_sayingsWithLeft 89 = .ok (.iadd, 1) := by decide +kernel
theorem dX4_sayingsWithLeft_90 : decode cX4_sayingsWithLeft 90 = .ok (.aaload, 1) := by decide +kernel
theorem dX4_sayingsWithLeft_91 : decode cX4_sayingsWithLeft 91 = .ok (.iload 6, 2) := by decide +kernel
theorem dX4_sayingsWithLeft_93 : decode cX4_sayingsWithLeft 93 = .ok (.laload, 1) := by decide +kernel
theorem dX4_sayingsWithLeft_94 : decode cX4_sayingsWithLeft 94 = .ok (.ladd, 1) := by decide +kernel
theorem dX4_sayingsWithLeft_95 : decode cX4_sayingsWithLeft 95 = .ok (.lstore 7, 2) := by decide +kernel
theorem dX4_sayingsWithLeft_97 : decode cX4_sayingsWithLeft 97 = .ok (.iload 6, 2) := by decide +kernel
theorem dX4_sayingsWithLeft_99 : decode cX4_sayingsWithLeft 99 = .ok (.iload_n 3, 1) := by decide +kernel
theorem dX4_sayingsWithLeft_100 : decode cX4_sayingsWithLeft 100 = .ok (.if_icmp .ge 35, 3) := by decide +kernel
theorem dX4_sayingsWithLeft_103 : decode cX4_sayingsWithLeft 103 = .ok (.lload 7, 2) := by decide +kernel
theorem dX4_sayingsWithLeft_105 : decode cX4_sayingsWithLeft 105 = .ok (.aload_n 0, 1) := by decide +kernel
theorem dX4_sayingsWithLeft_106 : decode cX4_sayingsWithLeft 106 = .ok (.getfield 36, 3) := by decide +kernel
theorem dX4_sayingsWithLeft_109 : decode cX4_sayingsWithLeft 109 = .ok (.iload 5, 2) := by decide +kernel
theorem dX4_sayingsWithLeft_111 : decode cX4_sayingsWithLeft 111 = .ok (.aaload, 1) := by decide +kernel
theorem dX4_sayingsWithLeft_112 : decode cX4_sayingsWithLeft 112 = .ok (.iload 6, 2) := by decide +kernel
theorem dX4_sayingsWithLeft_114 : decode cX4_sayingsWithLeft 114 = .ok (.iconst 1, 1) := by decide +kernel
theorem dX4_sayingsWithLeft_115 : decode cX4_sayingsWithLeft 115 = .ok (.iadd, 1) := by decide +kernel
theorem dX4_sayingsWithLeft_116 : decode cX4_sayingsWithLeft 116 = .ok (.laload, 1) := by decide +kernel
theorem dX4_sayingsWithLeft_117 : decode cX4_sayingsWithLeft 117 = .ok (.aload_n 0, 1) := by decide +kernel
theorem dX4_sayingsWithLeft_118 : decode cX4_sayingsWithLeft 118 = .ok (.iload 4, 2) := by decide +kernel
theorem dX4_sayingsWithLeft_120 : decode cX4_sayingsWithLeft 120 = .ok (.iload 5, 2) := by decide +kernel
theorem dX4_sayingsWithLeft_122 : decode cX4_sayingsWithLeft 122 = .ok (.iload 6, 2) := by decide +kernel
theorem dX4_sayingsWithLeft_124 : decode cX4_sayingsWithLeft 124 = .ok (.iadd, 1) := by decide +kernel
theorem dX4_sayingsWithLeft_125 : decode cX4_sayingsWithLeft 125 = .ok (.iload 6, 2) := by decide +kernel
theorem dX4_sayingsWithLeft_127 : decode cX4_sayingsWithLeft 127 = .ok (.invokevirtual 88, 3) := by decide +kernel
theorem dX4_sayingsWithLeft_130 : decode cX4_sayingsWithLeft 130 = .ok (.i2l, 1) := by decide +kernel
theorem dX4_sayingsWithLeft_131 : decode cX4_sayingsWithLeft 131 = .ok (.lmul, 1) := by decide +kernel
theorem dX4_sayingsWithLeft_132 : decode cX4_sayingsWithLeft 132 = .ok (.ladd, 1) := by decide +kernel
theorem dX4_sayingsWithLeft_133 : decode cX4_sayingsWithLeft 133 = .ok (.lstore 7, 2) := by decide +kernel
theorem dX4_sayingsWithLeft_135 : decode cX4_sayingsWithLeft 135 = .ok (.aload_n 0, 1) := by decide +kernel
theorem dX4_sayingsWithLeft_136 : decode cX4_sayingsWithLeft 136 = .ok (.getfield 36, 3) := by decide +kernel
theorem dX4_sayingsWithLeft_139 : decode cX4_sayingsWithLeft 139 = .ok (.iload 5, 2) := by decide +kernel
theorem dX4_sayingsWithLeft_141 : decode cX4_sayingsWithLeft 141 = .ok (.aaload, 1) := by decide +kernel
theorem dX4_sayingsWithLeft_142 : decode cX4_sayingsWithLeft 142 = .ok (.iload 6, 2) := by decide +kernel
theorem dX4_sayingsWithLeft_144 : decode cX4_sayingsWithLeft 144 = .ok (.lload 7, 2) := by decide +kernel
theorem dX4_sayingsWithLeft_146 : decode cX4_sayingsWithLeft 146 = .ok (.lastore, 1) := by decide +kernel
theorem dX4_sayingsWithLeft_147 : decode cX4_sayingsWithLeft 147 = .ok (.iinc 6 (-1), 3) := by decide +kernel
theorem dX4_sayingsWithLeft_150 : decode cX4_sayingsWithLeft 150 = .ok (.goto (-123), 3) := by decide +kernel
theorem dX4_sayingsWithLeft_153 : decode cX4_sayingsWithLeft 153 = .ok (.iinc 5 (-1), 3) := by decide +kernel
theorem dX4_sayingsWithLeft_156 : decode cX4_sayingsWithLeft 156 = .ok (.goto (-137), 3) := by decide +kernel
theorem dX4_sayingsWithLeft_159 : decode cX4_sayingsWithLeft 159 = .ok (.aload_n 0, 1) := by decide +kernel
theorem dX4_sayingsWithLeft_160 : decode cX4_sayingsWithLeft 160 = .ok (.getfield 36, 3) := by decide +kernel
theorem dX4_sayingsWithLeft_163 : decode cX4_sayingsWithLeft 163 = .ok (.iconst 0, 1) := by decide +kernel
theorem dX4_sayingsWithLeft_164 : decode cX4_sayingsWithLeft 164 = .ok (.aaload, 1) := by decide +kernel
theorem dX4_sayingsWithLeft_165 : decode cX4_sayingsWithLeft 165 = .ok (.iconst 0, 1) := by decide +kernel
theorem dX4_sayingsWithLeft_166 : decode cX4_sayingsWithLeft 166 = .ok (.laload, 1) := by decide +kernel
theorem dX4_sayingsWithLeft_167 : decode cX4_sayingsWithLeft 167 = .ok (.lreturn, 1) := by decide +kernel
theorem dX4_wordsLeftAt_0 : decode cX4_wordsLeftAt 0 = .ok (.iconst 0, 1) := by decide +kernel
theorem dX4_wordsLeftAt_1 : decode cX4_wordsLeftAt 1 = .ok (.istore 4, 2) := by decide +kernel
theorem dX4_wordsLeftAt_3 : decode cX4_wordsLeftAt 3 = .ok (.iconst 0, 1) := by decide +kernel
theorem dX4_wordsLeftAt_4 : decode cX4_wordsLeftAt 4 = .ok (.istore 5, 2) := by decide +kernel
theorem dX4_wordsLeftAt_6 : decode cX4_wordsLeftAt 6 = .ok (.iload 5, 2) := by decide +kernel
theorem dX4_wordsLeftAt_8 : decode cX4_wordsLeftAt 8 = .ok (.aload_n 0, 1) := by decide +kernel
theorem dX4_wordsLeftAt_9 : decode cX4_wordsLeftAt 9 = .ok (.getfield 9, 3) := by decide +kernel
theorem dX4_wordsLeftAt_12 : decode cX4_wordsLeftAt 12 = .ok (.getfield 65, 3) := by decide +kernel
theorem dX4_wordsLeftAt_15 : decode cX4_wordsLeftAt 15 = .ok (.if_icmp .ge 27, 3) := by decide +kernel
theorem dX4_wordsLeftAt_18 : decode cX4_wordsLeftAt 18 = .ok (.aload_n 0, 1) := by decide +kernel
theorem dX4_wordsLeftAt_19 : decode cX4_wordsLeftAt 19 = .ok (.getfield 15, 3) := by decide +kernel
theorem dX4_wordsLeftAt_22 : decode cX4_wordsLeftAt 22 = .ok (.iload 5, 2) := by decide +kernel
theorem dX4_wordsLeftAt_24 : decode cX4_wordsLeftAt 24 = .ok (.iload_n 1, 1) := by decide +kernel
theorem dX4_wordsLeftAt_25 : decode cX4_wordsLeftAt 25 = .ok (.iload_n 2, 1) := by decide +kernel
theorem dX4_wordsLeftAt_26 : decode cX4_wordsLeftAt 26 = .ok (.iload_n 3, 1) := by decide +kernel
theorem dX4_wordsLeftAt_27 : decode cX4_wordsLeftAt 27 = .ok (.invokevirtual 59, 3) := by decide +kernel
theorem dX4_wordsLeftAt_30 : decode cX4_wordsLeftAt 30 = .ok (.ifCond .ne 6, 3) := by decide +kernel
theorem dX4_wordsLeftAt_33 : decode cX4_wordsLeftAt 33 = .ok (.iinc 4 1, 3) := by decide +kernel
theorem dX4_wordsLeftAt_36 : decode cX4_wordsLeftAt 36 = .ok (.iinc 5 1, 3) := by decide +kernel
theorem dX4_wordsLeftAt_39 : decode cX4_wordsLeftAt 39 = .ok (.goto (-33), 3) := by decide +kernel
theorem dX4_wordsLeftAt_42 : decode cX4_wordsLeftAt 42 = .ok (.iload 4, 2) := by decide +kernel
theorem dX4_wordsLeftAt_44 : decode cX4_wordsLeftAt 44 = .ok (.ireturn, 1) := by decide +kernel
theorem dX4_unheardBehind_0 : decode cX4_unheardBehind 0 = .ok (.iload_n 2, 1) := by decide +kernel
theorem dX4_unheardBehind_1 : decode cX4_unheardBehind 1 = .ok (.ifCond .lt 24, 3) := by decide +kernel
theorem dX4_unheardBehind_4 : decode cX4_unheardBehind 4 = .ok (.iload_n 2, 1) := by decide +kernel
theorem dX4_unheardBehind_5 : decode cX4_unheardBehind 5 = .ok (.bipush 12, 2) := by decide +kernel
theorem dX4_unheardBehind_7 : decode cX4_unheardBehind 7 = .ok (.if_icmp .gt 18, 3) := by decide +kernel
theorem dX4_unheardBehind_10 : decode cX4_unheardBehind 10 = .ok (.iload_n 2, 1) := by decide +kernel
theorem dX4_unheardBehind_11 : decode cX4_unheardBehind 11 = .ok (.aload_n 1, 1) := by decide +kernel
theorem dX4_unheardBehind_12 : decode cX4_unheardBehind 12 = .ok (.arraylength, 1) := by decide +kernel
theorem dX4_unheardBehind_13 : decode cX4_unheardBehind 13 = .ok (.if_icmp .gt 12, 3) := by decide +kernel
theorem dX4_unheardBehind_16 : decode cX4_unheardBehind 16 = .ok (.iload_n 3, 1) := by decide +kernel
theorem dX4_unheardBehind_17 : decode cX4_unheardBehind 17 = .ok (.ifCond .lt 8, 3) := by decide +kernel
theorem dX4_unheardBehind_20 : decode cX4_unheardBehind 20 = .ok (.iload_n 3, 1) := by decide +kernel
theorem dX4_unheardBehind_21 : decode cX4_unheardBehind 21 = .ok (.iload_n 2, 1) := by decide +kernel
theorem dX4_unheardBehind_22 : decode cX4_unheardBehind 22 = .ok (.if_icmp .le 5, 3) := by decide +kernel
theorem dX4_unheardBehind_25 : decode cX4_unheardBehind 25 = .ok (.iconst 0, 1) := by decide +kernel
theorem dX4_unheardBehind_26 : decode cX4_unheardBehind 26 = .ok (.ireturn, 1) := by decide +kernel
theorem dX4_unheardBehind_27 : decode cX4_unheardBehind 27 = .ok (.aload_n 0, 1) := by decide +kernel
theorem dX4_unheardBehind_28 : decode cX4_unheardBehind 28 = .ok (.getfield 15, 3) := by decide +kernel
theorem dX4_unheardBehind_31 : decode cX4_unheardBehind 31 = .ok (.aload_n 1, 1) := by decide +kernel
theorem dX4_unheardBehind_32 : decode cX4_unheardBehind 32 = .ok (.iload_n 2, 1) := by decide +kernel
theorem dX4_unheardBehind_33 : decode cX4_unheardBehind 33 = .ok (.iload 4, 2) := by decide +kernel
theorem dX4_unheardBehind_35 : decode cX4_unheardBehind 35 = .ok (.iconst 0, 1) := by decide +kernel
theorem dX4_unheardBehind_36 : decode cX4_unheardBehind 36 = .ok (.invokevirtual 92, 3) := by decide +kernel
theorem dX4_unheardBehind_39 : decode cX4_unheardBehind 39 = .ok (.aload_n 0, 1) := by decide +kernel
theorem dX4_unheardBehind_40 : decode cX4_unheardBehind 40 = .ok (.getfield 15, 3) := by decide +kernel
theorem dX4_unheardBehind_43 : decode cX4_unheardBehind 43 = .ok (.aload_n 0, 1) := by decide +kernel
theorem dX4_unheardBehind_44 : decode cX4_unheardBehind 44 = .ok (.getfield 26, 3) := by decide +kernel
theorem dX4_unheardBehind_47 : decode cX4_unheardBehind 47 = .ok (.invokevirtual 96, 3) := by decide +kernel
theorem dX4_unheardBehind_50 : decode cX4_unheardBehind 50 = .ok (.istore 5, 2) := by decide +kernel
theorem dX4_unheardBehind_52 : decode cX4_unheardBehind 52 = .ok (.aload_n 0, 1) := by decide +kernel
theorem dX4_unheardBehind_53 : decode cX4_unheardBehind 53 = .ok (.getfield 15, 3) := by decide +kernel
theorem dX4_unheardBehind_56 : decode cX4_unheardBehind 56 = .ok (.aload_n 1, 1) := by decide +kernel
theorem dX4_unheardBehind_57 : decode cX4_unheardBehind 57 = .ok (.iload_n 3, 1) := by decide +kernel
theorem dX4_unheardBehind_58 : decode cX4_unheardBehind 58 = .ok (.iload 4, 2) := by decide +kernel
theorem dX4_unheardBehind_60 : decode cX4_unheardBehind 60 = .ok (.iconst 0, 1) := by decide +kernel
theorem dX4_unheardBehind_61 : decode cX4_unheardBehind 61 = .ok (.invokevirtual 92, 3) := by decide +kernel
theorem dX4_unheardBehind_64 : decode cX4_unheardBehind 64 = .ok (.aload_n 0, 1) := by decide +kernel
theorem dX4_unheardBehind_65 : decode cX4_unheardBehind 65 = .ok (.getfield 15, 3) := by decide +kernel
theorem dX4_unheardBehind_68 : decode cX4_unheardBehind 68 = .ok (.getfield 100, 3) := by decide +kernel
theorem dX4_unheardBehind_71 : decode cX4_unheardBehind 71 = .ok (.istore 6, 2) := by decide +kernel
theorem dX4_unheardBehind_73 : decode cX4_unheardBehind 73 = .ok (.iconst 0, 1) := by decide +kernel
theorem dX4_unheardBehind_74 : decode cX4_unheardBehind 74 = .ok (.istore 7, 2) := by decide +kernel
theorem dX4_unheardBehind_76 : decode cX4_unheardBehind 76 = .ok (.iload 7, 2) := by decide +kernel
theorem dX4_unheardBehind_78 : decode cX4_unheardBehind 78 = .ok (.iload_n 2, 1) := by decide +kernel
theorem dX4_unheardBehind_79 : decode cX4_unheardBehind 79 = .ok (.if_icmp .ge 33, 3) := by decide +kernel
theorem dX4_unheardBehind_82 : decode cX4_unheardBehind 82 = .ok (.aload_n 0, 1) := by decide +kernel
theorem dX4_unheardBehind_83 : decode cX4_unheardBehind 83 = .ok (.getfield 23, 3) := by decide +kernel
theorem dX4_unheardBehind_86 : decode cX4_unheardBehind 86 = .ok (.iload 7, 2) := by decide +kernel
theorem dX4_unheardBehind_88 : decode cX4_unheardBehind 88 = .ok (.iload_n 3, 1) := by decide +kernel
theorem dX4_unheardBehind_89 : decode cX4_unheardBehind 89 = .ok (.if_icmp .ge 8, 3) := by decide +kernel
theorem dX4_unheardBehind_92 : decode cX4_unheardBehind 92 = .ok (.iload 7, 2) := by decide +kernel
theorem dX4_unheardBehind_94 : decode cX4_unheardBehind 94 = .ok (.goto 7, 3) := by decide +kernel
theorem dX4_unheardBehind_97 : decode cX4_unheardBehind 97 = .ok (.iload 7, 2) := by decide +kernel
theorem dX4_unheardBehind_99 : decode cX4_unheardBehind 99 = .ok (.iconst 1, 1) := by decide +kernel
theorem dX4_unheardBehind_100 : decode cX4_unheardBehind 100 = .ok (.iadd, 1) := by decide +kernel
theorem dX4_unheardBehind_101 : decode cX4_unheardBehind 101 = .ok (.aload_n 1, 1) := by decide +kernel
theorem dX4_unheardBehind_102 : decode cX4_unheardBehind 102 = .ok (.iload 7, 2) := by decide +kernel
theorem dX4_unheardBehind_104 : decode cX4_unheardBehind 104 = .ok (.iaload, 1) := by decide +kernel
theorem dX4_unheardBehind_105 : decode cX4_unheardBehind 105 = .ok (.iastore, 1) := by decide +kernel
theorem dX4_unheardBehind_106 : decode cX4_unheardBehind 106 = .ok (.iinc 7 1, 3) := by decide +kernel
theorem dX4_unheardBehind_109 : decode cX4_unheardBehind 109 = .ok (.goto (-33), 3) := by decide +kernel
theorem dX4_unheardBehind_112 : decode cX4_unheardBehind 112 = .ok (.iconst 0, 1) := by decide +kernel
theorem dX4_unheardBehind_113 : decode cX4_unheardBehind 113 = .ok (.istore 7, 2) := by decide +kernel
theorem dX4_unheardBehind_115 : decode cX4_unheardBehind 115 = .ok (.iconst 0, 1) := by decide +kernel
theorem dX4_unheardBehind_116 : decode cX4_unheardBehind 116 = .ok (.istore 8, 2) := by decide +kernel
theorem dX4_unheardBehind_118 : decode cX4_unheardBehind 118 = .ok (.iload 8, 2) := by decide +kernel
theorem dX4_unheardBehind_120 : decode cX4_unheardBehind 120 = .ok (.aload_n 0, 1) := by decide +kernel
theorem dX4_unheardBehind_121 : decode cX4_unheardBehind 121 = .ok (.getfield 9, 3) := by decide +kernel
theorem dX4_unheardBehind_124 : decode cX4_unheardBehind 124 = .ok (.getfield 65, 3) := by decide +kernel
theorem dX4_unheardBehind_127 : decode cX4_unheardBehind 127 = .ok (.if_icmp .ge 80, 3) := by decide +kernel
theorem dX4_unheardBehind_130 : decode cX4_unheardBehind 130 = .ok (.aload_n 0, 1) := by decide +kernel
theorem dX4_unheardBehind_131 : decode cX4_unheardBehind 131 = .ok (.getfield 15, 3) := by decide +kernel
theorem dX4_unheardBehind_134 : decode cX4_unheardBehind 134 = .ok (.iload 8, 2) := by decide +kernel
theorem dX4_unheardBehind_136 : decode cX4_unheardBehind 136 = .ok (.iload 4, 2) := by decide +kernel
theorem dX4_unheardBehind_138 : decode cX4_unheardBehind 138 = .ok (.iload_n 3, 1) := by decide +kernel
theorem dX4_unheardBehind_139 : decode cX4_unheardBehind 139 = .ok (.iload 6, 2) := by decide +kernel
theorem dX4_unheardBehind_141 : decode cX4_unheardBehind 141 = .ok (.invokevirtual 59, 3) := by decide +kernel
theorem dX4_unheardBehind_144 : decode cX4_unheardBehind 144 = .ok (.ifCond .ne 57, 3) := by decide +kernel
theorem dX4_unheardBehind_147 : decode cX4_unheardBehind 147 = .ok (.aload_n 0, 1) := by decide +kernel
theorem dX4_unheardBehind_148 : decode cX4_unheardBehind 148 = .ok (.getfield 23, 3) := by decide +kernel
theorem dX4_unheardBehind_151 : decode cX4_unheardBehind 151 = .ok (.iload_n 3, 1) := by decide +kernel
theorem dX4_unheardBehind_152 : decode cX4_unheardBehind 152 = .ok (.iload 8, 2) := by decide +kernel
theorem dX4_unheardBehind_154 : decode cX4_unheardBehind 154 = .ok (.iastore, 1) := by decide +kernel
theorem dX4_unheardBehind_155 : decode cX4_unheardBehind 155 = .ok (.aload_n 0, 1) := by decide +kernel
theorem dX4_unheardBehind_156 : decode cX4_unheardBehind 156 = .ok (.getfield 15, 3) := by decide +kernel
theorem dX4_unheardBehind_159 : decode cX4_unheardBehind 159 = .ok (.aload_n 0, 1) := by decide +kernel
theorem dX4_unheardBehind_160 : decode cX4_unheardBehind 160 = .ok (.getfield 23, 3) := by decide +kernel
theorem dX4_unheardBehind_163 : decode cX4_unheardBehind 163 = .ok (.iload_n 2, 1) := by decide +kernel
theorem dX4_unheardBehind_164 : decode cX4_unheardBehind 164 = .ok (.iconst 1, 1) := by decide +kernel
theorem dX4_unheardBehind_165 : decode cX4_unheardBehind 165 = .ok (.iadd, 1) := by decide +kernel
theorem dX4_unheardBehind_166 : decode cX4_unheardBehind 166 = .ok (.iload 4, 2) := by decide +kernel
theorem dX4_unheardBehind_168 : decode cX4_unheardBehind 168 = .ok (.iconst 0, 1) := by decide +kernel
theorem dX4_unheardBehind_169 : decode cX4_unheardBehind 169 = .ok (.invokevirtual 92, 3) := by decide +kernel
theorem dX4_unheardBehind_172 : decode cX4_unheardBehind 172 = .ok (.iload 7, 2) := by decide +kernel
theorem dX4_unheardBehind_174 : decode cX4_unheardBehind 174 = .ok (.aload_n 0, 1) := by decide +kernel
theorem dX4_unheardBehind_175 : decode cX4_unheardBehind 175 = .ok (.getfield 15, 3) := by decide +kernel
theorem dX4_unheardBehind_178 : decode cX4_unheardBehind 178 = .ok (.aload_n 0, 1) := by decide +kernel
theorem dX4_unheardBehind_179 : decode cX4_unheardBehind 179 = .ok (.getfield 26, 3) := by decide +kernel
theorem dX4_unheardBehind_182 : decode cX4_unheardBehind 182 = .ok (.iload 5, 2) := by decide +kernel
theorem dX4_unheardBehind_184 : decode cX4_unheardBehind 184 = .ok (.invokevirtual 103, 3) := by decide +kernel
theorem dX4_unheardBehind_187 : decode cX4_unheardBehind 187 = .ok (.ifCond .eq 10, 3) := by decide +kernel
theorem dX4_unheardBehind_190 : decode cX4_unheardBehind 190 = .ok (.iconst 1, 1) := by decide +kernel
theorem dX4_unheardBehind_191 : decode cX4_unheardBehind 191 = .ok (.iload 8, 2) := by decide +kernel
theorem dX4_unheardBehind_193 : decode cX4_unheardBehind 193 = .ok (.ishl, 1) := by decide +kernel
theorem dX4_unheardBehind_194 : decode cX4_unheardBehind 194 = .ok (.goto 4, 3) := by decide +kernel
theorem dX4_unheardBehind_197 : decode cX4_unheardBehind 197 = .ok (.iconst 0, 1) := by decide +kernel
theorem dX4_unheardBehind_198 : decode cX4_unheardBehind 198 = .ok (.ior, 1) := by decide +kernel
theorem dX4_unheardBehind_199 : decode cX4_unheardBehind 199 = .ok (.istore 7, 2) := by decide +kernel
theorem dX4_unheardBehind_201 : decode cX4_unheardBehind 201 = .ok (.iinc 8 1, 3) := by decide +kernel
theorem dX4_unheardBehind_204 : decode cX4_unheardBehind 204 = .ok (.goto (-86), 3) := by decide +kernel
theorem dX4_unheardBehind_207 : decode cX4_unheardBehind 207 = .ok (.iload 7, 2) := by decide +kernel
theorem dX4_unheardBehind_209 : decode cX4_unheardBehind 209 = .ok (.ireturn, 1) := by decide +kernel
theorem dX4_winningWord_0 : decode cX4_winningWord 0 = .ok (.aload_n 0, 1) := by decide +kernel
theorem dX4_winningWord_1 : decode cX4_winningWord 1 = .ok (.getfield 9, 3) := by decide +kernel
theorem dX4_winningWord_4 : decode cX4_winningWord 4 = .ok (.getfield 65, 3) := by decide +kernel
theorem dX4_winningWord_7 : decode cX4_winningWord 7 = .ok (.bipush 10, 2) := by decide +kernel
theorem dX4_winningWord_9 : decode cX4_winningWord 9 = .ok (.invokestatic 46, 3) := by decide +kernel
theorem dX4_winningWord_12 : decode cX4_winningWord 12 = .ok (.istore_n 2, 1) := by decide +kernel
theorem dX4_winningWord_13 : decode cX4_winningWord 13 = .ok (.iconst 0, 1) := by decide +kernel
theorem dX4_winningWord_14 : decode cX4_winningWord 14 = .ok (.istore_n 3, 1) := by decide +kernel
theorem dX4_winningWord_15 : decode cX4_winningWord 15 = .ok (.iload_n 3, 1) := by decide +kernel
theorem dX4_winningWord_16 : decode cX4_winningWord 16 = .ok (.bipush 10, 2) := by decide +kernel
theorem dX4_winningWord_18 : decode cX4_winningWord 18 = .ok (.if_icmp .gt 63, 3) := by decide +kernel
theorem dX4_winningWord_21 : decode cX4_winningWord 21 = .ok (.aload_n 0, 1) := by decide +kernel
theorem dX4_winningWord_22 : decode cX4_winningWord 22 = .ok (.getfield 39, 3) := by decide +kernel
theorem dX4_winningWord_25 : decode cX4_winningWord 25 = .ok (.iload_n 3, 1) := by decide +kernel
theorem dX4_winningWord_26 : decode cX4_winningWord 26 = .ok (.iconst 0, 1) := by decide +kernel
theorem dX4_winningWord_27 : decode cX4_winningWord 27 = .ok (.iastore, 1) := by decide +kernel
theorem dX4_winningWord_28 : decode cX4_winningWord 28 = .ok (.iconst 0, 1) := by decide +kernel
theorem dX4_winningWord_29 : decode cX4_winningWord 29 = .ok (.istore 4, 2) := by decide +kernel
theorem dX4_winningWord_31 : decode cX4_winningWord 31 = .ok (.iload 4, 2) := by decide +kernel
theorem dX4_winningWord_33 : decode cX4_winningWord 33 = .ok (.iload_n 2, 1) := by decide +kernel
theorem dX4_winningWord_34 : decode cX4_winningWord 34 = .ok (.if_icmp .ge 41, 3) := by decide +kernel
theorem dX4_winningWord_37 : decode cX4_winningWord 37 = .ok (.aload_n 0, 1) := by decide +kernel
theorem dX4_winningWord_38 : decode cX4_winningWord 38 = .ok (.getfield 39, 3) := by decide +kernel
theorem dX4_winningWord_41 : decode cX4_winningWord 41 = .ok (.iload_n 3, 1) := by decide +kernel
theorem dX4_winningWord_42 : decode cX4_winningWord 42 = .ok (.dup2, 1) := by decide +kernel
theorem dX4_winningWord_43 : decode cX4_winningWord 43 = .ok (.iaload, 1) := by decide +kernel
theorem dX4_winningWord_44 : decode cX4_winningWord 44 = .ok (.aload_n 0, 1) := by decide +kernel
theorem dX4_winningWord_45 : decode cX4_winningWord 45 = .ok (.getfield 15, 3) := by decide +kernel
theorem dX4_winningWord_48 : decode cX4_winningWord 48 = .ok (.iload 4, 2) := by decide +kernel
theorem dX4_winningWord_50 : decode cX4_winningWord 50 = .ok (.iload_n 1, 1) := by decide +kernel
theorem dX4_winningWord_51 : decode cX4_winningWord 51 = .ok (.iload_n 3, 1) := by decide +kernel
theorem dX4_winningWord_52 : decode cX4_winningWord 52 = .ok (.iconst 0, 1) := by decide +kernel
theorem dX4_winningWord_53 : decode cX4_winningWord 53 = .ok (.invokevirtual 59, 3) := by decide +kernel
theorem dX4_winningWord_56 : decode cX4_winningWord 56 = .ok (.ifCond .eq 10, 3) := by decide +kernel
theorem dX4_winningWord_59 : decode cX4_winningWord 59 = .ok (.iconst 1, 1) := by decide +kernel
theorem dX4_winningWord_60 : decode cX4_winningWord 60 = .ok (.iload 4, 2) := by decide +kernel
theorem dX4_winningWord_62 : decode cX4_winningWord 62 = .ok (.ishl, 1) := by decide +kernel
theorem dX4_winningWord_63 : decode cX4_winningWord 63 = .ok (.goto 4, 3) := by decide +kernel
theorem dX4_winningWord_66 : decode cX4_winningWord 66 = .ok (.iconst 0, 1) := by decide +kernel
theorem dX4_winningWord_67 : decode cX4_winningWord 67 = .ok (.ior, 1) := by decide +kernel
theorem dX4_winningWord_68 : decode cX4_winningWord 68 = .ok (.iastore, 1) := by decide +kernel
theorem dX4_winningWord_69 : decode cX4_winningWord 69 = .ok (.iinc 4 1, 3) := by decide +kernel
theorem dX4_winningWord_72 : decode cX4_winningWord 72 = .ok (.goto (-41), 3) := by decide +kernel
theorem dX4_winningWord_75 : decode cX4_winningWord 75 = .ok (.iinc 3 1, 3) := by decide +kernel
theorem dX4_winningWord_78 : decode cX4_winningWord 78 = .ok (.goto (-63), 3) := by decide +kernel
theorem dX4_winningWord_81 : decode cX4_winningWord 81 = .ok (.bipush (-2), 2) := by decide +kernel
theorem dX4_winningWord_83 : decode cX4_winningWord 83 = .ok (.istore_n 3, 1) := by decide +kernel
theorem dX4_winningWord_84 : decode cX4_winningWord 84 = .ok (.iconst 1, 1) := by decide +kernel
theorem dX4_winningWord_85 : decode cX4_winningWord 85 = .ok (.iload_n 2, 1) := by decide +kernel
theorem dX4_winningWord_86 : decode cX4_winningWord 86 = .ok (.ishl, 1) := by decide +kernel
theorem dX4_winningWord_87 : decode cX4_winningWord 87 = .ok (.iconst 1, 1) := by decide +kernel
theorem dX4_winningWord_88 : decode cX4_winningWord 88 = .ok (.isub, 1) := by decide +kernel
theorem dX4_winningWord_89 : decode cX4_winningWord 89 = .ok (.istore 4, 2) := by decide +kernel
theorem dX4_winningWord_91 : decode cX4_winningWord 91 = .ok (.iload 4, 2) := by decide +kernel
theorem dX4_winningWord_93 : decode cX4_winningWord 93 = .ok (.ifCond .lt 35, 3) := by decide +kernel
theorem dX4_winningWord_96 : decode cX4_winningWord 96 = .ok (.aload_n 0, 1) := by decide +kernel
theorem dX4_winningWord_97 : decode cX4_winningWord 97 = .ok (.iload 4, 2) := by decide +kernel
theorem dX4_winningWord_99 : decode cX4_winningWord 99 = .ok (.iload_n 2, 1) := by decide +kernel
theorem dX4_winningWord_100 : decode cX4_winningWord 100 = .ok (.invokevirtual 107, 3) := by decide +kernel
theorem dX4_winningWord_103 : decode cX4_winningWord 103 = .ok (.istore_n 3, 1) := by decide +kernel
theorem dX4_winningWord_104 : decode cX4_winningWord 104 = .ok (.aload_n 0, 1) := by decide +kernel
theorem dX4_winningWord_105 : decode cX4_winningWord 105 = .ok (.getfield 42, 3) := by decide +kernel
theorem dX4_winningWord_108 : decode cX4_winningWord 108 = .ok (.iload 4, 2) := by decide +kernel
theorem dX4_winningWord_110 : decode cX4_winningWord 110 = .ok (.iload_n 3, 1) := by decide +kernel
theorem dX4_winningWord_111 : decode cX4_winningWord 111 = .ok (.bipush (-2), 2) := by decide +kernel
theorem dX4_winningWord_113 : decode cX4_winningWord 113 = .ok (.if_icmp .eq 7, 3) := by decide +kernel
theorem dX4_winningWord_116 : decode cX4_winningWord 116 = .ok (.iconst 1, 1) := by decide +kernel
theorem dX4_winningWord_117 : decode cX4_winningWord 117 = .ok (.goto 4, 3) := by decide +kernel
theorem dX4_winningWord_120 : decode cX4_winningWord 120 = .ok (.iconst 0, 1) := by decide +kernel
theorem dX4_winningWord_121 : decode cX4_winningWord 121 = .ok (.bastore, 1) := by decide +kernel
theorem dX4_winningWord_122 : decode cX4_winningWord 122 = .ok (.iinc 4 (-1), 3) := by decide +kernel
theorem dX4_winningWord_125 : decode cX4_winningWord 125 = .ok (.goto (-34), 3) := by decide +kernel
theorem dX4_winningWord_128 : decode cX4_winningWord 128 = .ok (.iload_n 3, 1) := by decide +kernel
theorem dX4_winningWord_129 : decode cX4_winningWord 129 = .ok (.ireturn, 1) := by decide +kernel
theorem dX4_winningFrom_0 : decode cX4_winningFrom 0 = .ok (.aload_n 0, 1) := by decide +kernel
theorem dX4_winningFrom_1 : decode cX4_winningFrom 1 = .ok (.getfield 39, 3) := by decide +kernel
theorem dX4_winningFrom_4 : decode cX4_winningFrom 4 = .ok (.iload_n 1, 1) := by decide +kernel
theorem dX4_winningFrom_5 : decode cX4_winningFrom 5 = .ok (.invokestatic 79, 3) := by decide +kernel
theorem dX4_winningFrom_8 : decode cX4_winningFrom 8 = .ok (.bipush 10, 2) := by decide +kernel
theorem dX4_winningFrom_10 : decode cX4_winningFrom 10 = .ok (.invokestatic 46, 3) := by decide +kernel
theorem dX4_winningFrom_13 : decode cX4_winningFrom 13 = .ok (.iaload, 1) := by decide +kernel
theorem dX4_winningFrom_14 : decode cX4_winningFrom 14 = .ok (.iload_n 1, 1) := by decide +kernel
theorem dX4_winningFrom_15 : decode cX4_winningFrom 15 = .ok (.iconst (-1), 1) := by decide +kernel
theorem dX4_winningFrom_16 : decode cX4_winningFrom 16 = .ok (.ixor, 1) := by decide +kernel
theorem dX4_winningFrom_17 : decode cX4_winningFrom 17 = .ok (.iand, 1) := by decide +kernel
theorem dX4_winningFrom_18 : decode cX4_winningFrom 18 = .ok (.istore_n 3, 1) := by decide +kernel
theorem dX4_winningFrom_19 : decode cX4_winningFrom 19 = .ok (.iconst 0, 1) := by decide +kernel
theorem dX4_winningFrom_20 : decode cX4_winningFrom 20 = .ok (.istore 4, 2) := by decide +kernel
theorem dX4_winningFrom_22 : decode cX4_winningFrom 22 = .ok (.iload 4, 2) := by decide +kernel
theorem dX4_winningFrom_24 : decode cX4_winningFrom 24 = .ok (.iload_n 2, 1) := by decide +kernel
theorem dX4_winningFrom_25 : decode cX4_winningFrom 25 = .ok (.if_icmp .ge 54, 3) := by decide +kernel
theorem dX4_winningFrom_28 : decode cX4_winningFrom 28 = .ok (.iload_n 1, 1) := by decide +kernel
theorem dX4_winningFrom_29 : decode cX4_winningFrom 29 = .ok (.iconst 1, 1) := by decide +kernel
theorem dX4_winningFrom_30 : decode cX4_winningFrom 30 = .ok (.iload 4, 2) := by decide +kernel
theorem dX4_winningFrom_32 : decode cX4_winningFrom 32 = .ok (.ishl, 1) := by decide +kernel
theorem dX4_winningFrom_33 : decode cX4_winningFrom 33 = .ok (.ior, 1) := by decide +kernel
theorem dX4_winningFrom_34 : decode cX4_winningFrom 34 = .ok (.istore 5, 2) := by decide +kernel
theorem dX4_winningFrom_36 : decode cX4_winningFrom 36 = .ok (.iload_n 3, 1) := by decide +kernel
theorem dX4_winningFrom_37 : decode cX4_winningFrom 37 = .ok (.iload 4, 2) := by decide +kernel
theorem dX4_winningFrom_39 : decode cX4_winningFrom 39 = .ok (.ishr, 1) := by decide +kernel
theorem dX4_winningFrom_40 : decode cX4_winningFrom 40 = .ok (.iconst 1, 1) := by decide +kernel
theorem dX4_winningFrom_41 : decode cX4_winningFrom 41 = .ok (.iand, 1) := by decide +kernel
theorem dX4_winningFrom_42 : decode cX4_winningFrom 42 = .ok (.ifCond .eq 31, 3) := by decide +kernel
theorem dX4_winningFrom_45 : decode cX4_winningFrom 45 = .ok (.iload 5, 2) := by decide +kernel
theorem dX4_winningFrom_47 : decode cX4_winningFrom 47 = .ok (.ifCond .lt 26, 3) := by decide +kernel
theorem dX4_winningFrom_50 : decode cX4_winningFrom 50 = .ok (.iload 5, 2) := by decide +kernel
theorem dX4_winningFrom_52 : decode cX4_winningFrom 52 = .ok (.aload_n 0, 1) := by decide +kernel
theorem dX4_winningFrom_53 : decode cX4_winningFrom 53 = .ok (.getfield 42, 3) := by decide +kernel
theorem dX4_winningFrom_56 : decode cX4_winningFrom 56 = .ok (.arraylength, 1) := by decide +kernel
theorem dX4_winningFrom_57 : decode cX4_winningFrom 57 = .ok (.if_icmp .ge 16, 3) := by decide +kernel
theorem dX4_winningFrom_60 : decode cX4_winningFrom 60 = .ok (.aload_n 0, 1) := by decide +kernel
theorem dX4_winningFrom_61 : decode cX4_winningFrom 61 = .ok (.getfield 42, 3) := by decide +kernel
theorem dX4_winningFrom_64 : decode cX4_winningFrom 64 = .ok (.iload 5, 2) := by decide +kernel
theorem dX4_winningFrom_66 : decode cX4_winningFrom 66 = .ok (.baload, 1) := by decide +kernel
theorem dX4_winningFrom_67 : decode cX4_winningFrom 67 = .ok (.ifCond .ne 6, 3) := by decide +kernel
theorem dX4_winningFrom_70 : decode cX4_winningFrom 70 = .ok (.iload 4, 2) := by decide +kernel
theorem dX4_winningFrom_72 : decode cX4_winningFrom 72 = .ok (.ireturn, 1) := by decide +kernel
theorem dX4_winningFrom_73 : decode cX4_winningFrom 73 = .ok (.iinc 4 1, 3) := by decide +kernel
theorem dX4_winningFrom_76 : decode cX4_winningFrom 76 = .ok (.goto (-54), 3) := by decide +kernel
theorem dX4_winningFrom_79 : decode cX4_winningFrom 79 = .ok (.bipush (-2), 2) := by decide +kernel
theorem dX4_winningFrom_81 : decode cX4_winningFrom 81 = .ok (.ireturn, 1) := by decide +kernel
theorem dX4_drawnEvenings_0 : decode cX4_drawnEvenings 0 = .ok (.aload_n 0, 1) := by decide +kernel
theorem dX4_drawnEvenings_1 : decode cX4_drawnEvenings 1 = .ok (.getfield 9, 3) := by decide +kernel
theorem dX4_drawnEvenings_4 : decode cX4_drawnEvenings 4 = .ok (.getfield 65, 3) := by decide +kernel
theorem dX4_drawnEvenings_7 : decode cX4_drawnEvenings 7 = .ok (.iconst 1, 1) := by decide +kernel
theorem dX4_drawnEvenings_8 : decode cX4_drawnEvenings 8 = .ok (.if_icmp .ge 5, 3) := by decide +kernel
theorem dX4_drawnEvenings_11 : decode cX4_drawnEvenings 11 = .ok (.iconst 0, 1) := by decide +kernel
theorem dX4_drawnEvenings_12 : decode cX4_drawnEvenings 12 = .ok (.ireturn, 1) := by decide +kernel
theorem dX4_drawnEvenings_13 : decode cX4_drawnEvenings 13 = .ok (.iload_n 1, 1) := by decide +kernel
theorem dX4_drawnEvenings_14 : decode cX4_drawnEvenings 14 = .ok (.istore 6, 2) := by decide +kernel
theorem dX4_drawnEvenings_16 : decode cX4_drawnEvenings 16 = .ok (.iconst 0, 1) := by decide +kernel
theorem dX4_drawnEvenings_17 : decode cX4_drawnEvenings 17 = .ok (.istore 7, 2) := by decide +kernel
theorem dX4_drawnEvenings_19 : decode cX4_drawnEvenings 19 = .ok (.iconst 0, 1) := by decide +kernel
theorem dX4_drawnEvenings_20 : decode cX4_drawnEvenings 20 = .ok (.istore 8, 2) := by decide +kernel
theorem dX4_drawnEvenings_22 : decode cX4_drawnEvenings 22 = .ok (.iconst 0, 1) := by decide +kernel
theorem dX4_drawnEvenings_23 : decode cX4_drawnEvenings 23 = .ok (.istore 9, 2) := by decide +kernel
theorem dX4_drawnEvenings_25 : decode cX4_drawnEvenings 25 = .ok (.iload 9, 2) := by decide +kernel
theorem dX4_drawnEvenings_27 : decode cX4_drawnEvenings 27 = .ok (.iload_n 2, 1) := by decide +kernel
theorem dX4_drawnEvenings_28 : decode cX4_drawnEvenings 28 = .ok (.if_icmp .ge 140, 3) := by decide +kernel
theorem dX4_drawnEvenings_31 : decode cX4_drawnEvenings 31 = .ok (.iconst 0, 1) := by decide +kernel
theorem dX4_drawnEvenings_32 : decode cX4_drawnEvenings 32 = .ok (.istore 10, 2) := by decide +kernel
theorem dX4_drawnEvenings_34 : decode cX4_drawnEvenings 34 = .ok (.iconst 0, 1) := by decide +kernel
theorem dX4_drawnEvenings_35 : decode cX4_drawnEvenings 35 = .ok (.istore 11, 2) := by decide +kernel
theorem dX4_drawnEvenings_37 : decode cX4_drawnEvenings 37 = .ok (.iload 11, 2) := by decide +kernel
theorem dX4_drawnEvenings_39 : decode cX4_drawnEvenings 39 = .ok (.iload_n 3, 1) := by decide +kernel
theorem dX4_drawnEvenings_40 : decode cX4_drawnEvenings 40 = .ok (.if_icmp .ge 115, 3) := by decide +kernel
theorem dX4_drawnEvenings_43 : decode cX4_drawnEvenings 43 = .ok (.iconst 0, 1) := by decide +kernel
theorem dX4_drawnEvenings_44 : decode cX4_drawnEvenings 44 = .ok (.istore 12, 2) := by decide +kernel
theorem dX4_drawnEvenings_46 : decode cX4_drawnEvenings 46 = .ok (.iload 12, 2) := by decide +kernel
theorem dX4_drawnEvenings_48 : decode cX4_drawnEvenings 48 = .ok (.iconst 4, 1) := by decide +kernel
theorem dX4_drawnEvenings_49 : decode cX4_drawnEvenings 49 = .ok (.if_icmp .ge 40, 3) := by decide +kernel
theorem dX4_drawnEvenings_52 : decode cX4_drawnEvenings 52 = .ok (.iload 6, 2) := by decide +kernel
theorem dX4_drawnEvenings_54 : decode cX4_drawnEvenings 54 = .ok (.ldc 110, 2) := by decide +kernel
theorem dX4_drawnEvenings_56 : decode cX4_drawnEvenings 56 = .ok (.imul, 1) := by decide +kernel
theorem dX4_drawnEvenings_57 : decode cX4_drawnEvenings 57 = .ok (.sipush 12345, 3) := by decide +kernel
theorem dX4_drawnEvenings_60 : decode cX4_drawnEvenings 60 = .ok (.iadd, 1) := by decide +kernel
theorem dX4_drawnEvenings_61 : decode cX4_drawnEvenings 61 = .ok (.istore 6, 2) := by decide +kernel
theorem dX4_drawnEvenings_63 : decode cX4_drawnEvenings 63 = .ok (.aload_n 0, 1) := by decide +kernel
theorem dX4_drawnEvenings_64 : decode cX4_drawnEvenings 64 = .ok (.getfield 23, 3) := by decide +kernel
theorem dX4_drawnEvenings_67 : decode cX4_drawnEvenings 67 = .ok (.iload 12, 2) := by decide +kernel
theorem dX4_drawnEvenings_69 : decode cX4_drawnEvenings 69 = .ok (.iload 6, 2) := by decide +kernel
theorem dX4_drawnEvenings_71 : decode cX4_drawnEvenings 71 = .ok (.bipush 10, 2) := by decide +kernel
theorem dX4_drawnEvenings_73 : decode cX4_drawnEvenings 73 = .ok (.iushr, 1) := by decide +kernel
theorem dX4_drawnEvenings_74 : decode cX4_drawnEvenings 74 = .ok (.aload_n 0, 1) := by decide +kernel
theorem dX4_drawnEvenings_75 : decode cX4_drawnEvenings 75 = .ok (.getfield 9, 3) := by decide +kernel
theorem dX4_drawnEvenings_78 : decode cX4_drawnEvenings 78 = .ok (.getfield 65, 3) := by decide +kernel
theorem dX4_drawnEvenings_81 : decode cX4_drawnEvenings 81 = .ok (.irem, 1) := by decide +kernel
theorem dX4_drawnEvenings_82 : decode cX4_drawnEvenings 82 = .ok (.iastore, 1) := by decide +kernel
theorem dX4_drawnEvenings_83 : decode cX4_drawnEvenings 83 = .ok (.iinc 12 1, 3) := by decide +kernel
theorem dX4_drawnEvenings_86 : decode cX4_drawnEvenings 86 = .ok (.goto (-40), 3) := by decide +kernel
