theorem dX9_hurtBy_125 : decode cX9_hurtBy 125 = .ok (.ireturn, 1) := by decide +kernel
theorem dX9_harmLeft_0 : decode cX9_harmLeft 0 = .ok (.iconst 0, 1) := by decide +kernel
theorem dX9_harmLeft_1 : decode cX9_harmLeft 1 = .ok (.istore_n 1, 1) := by decide +kernel
theorem dX9_harmLeft_2 : decode cX9_harmLeft 2 = .ok (.iconst 0, 1) := by decide +kernel
theorem dX9_harmLeft_3 : decode cX9_harmLeft 3 = .ok (.istore_n 2, 1) := by decide +kernel
theorem dX9_harmLeft_4 : decode cX9_harmLeft 4 = .ok (.iload_n 2, 1) := by decide +kernel
theorem dX9_harmLeft_5 : decode cX9_harmLeft 5 = .ok (.aload_n 0, 1) := by decide +kernel
theorem dX9_harmLeft_6 : decode cX9_harmLeft 6 = .ok (.getfield 283, 3) := by decide +kernel
theorem dX9_harmLeft_9 : decode cX9_harmLeft 9 = .ok (.if_icmp .ge 23, 3) := by decide +kernel
theorem dX9_harmLeft_12 : decode cX9_harmLeft 12 = .ok (.iload_n 1, 1) := by decide +kernel
theorem dX9_harmLeft_13 : decode cX9_harmLeft 13 = .ok (.aload_n 0, 1) := by decide +kernel
theorem dX9_harmLeft_14 : decode cX9_harmLeft 14 = .ok (.getfield 15, 3) := by decide +kernel
theorem dX9_harmLeft_17 : decode cX9_harmLeft 17 = .ok (.aload_n 0, 1) := by decide +kernel
theorem dX9_harmLeft_18 : decode cX9_harmLeft 18 = .ok (.getfield 87, 3) := by decide +kernel
theorem dX9_harmLeft_21 : decode cX9_harmLeft 21 = .ok (.iload_n 2, 1) := by decide +kernel
theorem dX9_harmLeft_22 : decode cX9_harmLeft 22 = .ok (.iaload, 1) := by decide +kernel
theorem dX9_harmLeft_23 : decode cX9_harmLeft 23 = .ok (.iaload, 1) := by decide +kernel
theorem dX9_harmLeft_24 : decode cX9_harmLeft 24 = .ok (.iadd, 1) := by decide +kernel
theorem dX9_harmLeft_25 : decode cX9_harmLeft 25 = .ok (.istore_n 1, 1) := by decide +kernel
theorem dX9_harmLeft_26 : decode cX9_harmLeft 26 = .ok (.iinc 2 1, 3) := by decide +kernel
theorem dX9_harmLeft_29 : decode cX9_harmLeft 29 = .ok (.goto (-25), 3) := by decide +kernel
theorem dX9_harmLeft_32 : decode cX9_harmLeft 32 = .ok (.iload_n 1, 1) := by decide +kernel
theorem dX9_harmLeft_33 : decode cX9_harmLeft 33 = .ok (.ireturn, 1) := by decide +kernel
theorem dX9_through_0 : decode cX9_through 0 = .ok (.iload_n 1, 1) := by decide +kernel
theorem dX9_through_1 : decode cX9_through 1 = .ok (.invokestatic 154, 3) := by decide +kernel
theorem dX9_through_4 : decode cX9_through 4 = .ok (.ifCond .eq 20, 3) := by decide +kernel
theorem dX9_through_7 : decode cX9_through 7 = .ok (.aload_n 0, 1) := by decide +kernel
theorem dX9_through_8 : decode cX9_through 8 = .ok (.iload_n 2, 1) := by decide +kernel
theorem dX9_through_9 : decode cX9_through 9 = .ok (.invokevirtual 286, 3) := by decide +kernel
theorem dX9_through_12 : decode cX9_through 12 = .ok (.ifCond .eq 12, 3) := by decide +kernel
theorem dX9_through_15 : decode cX9_through 15 = .ok (.iload_n 3, 1) := by decide +kernel
theorem dX9_through_16 : decode cX9_through 16 = .ok (.iconst 0, 1) := by decide +kernel
theorem dX9_through_17 : decode cX9_through 17 = .ok (.iconst 5, 1) := by decide +kernel
theorem dX9_through_18 : decode cX9_through 18 = .ok (.invokestatic 143, 3) := by decide +kernel
theorem dX9_through_21 : decode cX9_through 21 = .ok (.ifCond .ne 5, 3) := by decide +kernel
theorem dX9_through_24 : decode cX9_through 24 = .ok (.iconst (-1), 1) := by decide +kernel
theorem dX9_through_25 : decode cX9_through 25 = .ok (.ireturn, 1) := by decide +kernel
theorem dX9_through_26 : decode cX9_through 26 = .ok (.aload_n 0, 1) := by decide +kernel
theorem dX9_through_27 : decode cX9_through 27 = .ok (.iload_n 1, 1) := by decide +kernel
theorem dX9_through_28 : decode cX9_through 28 = .ok (.invokevirtual 289, 3) := by decide +kernel
theorem dX9_through_31 : decode cX9_through 31 = .ok (.istore 4, 2) := by decide +kernel
theorem dX9_through_33 : decode cX9_through 33 = .ok (.iload 4, 2) := by decide +kernel
theorem dX9_through_35 : decode cX9_through 35 = .ok (.ifCond .ge 6, 3) := by decide +kernel
theorem dX9_through_38 : decode cX9_through 38 = .ok (.iload 4, 2) := by decide +kernel
theorem dX9_through_40 : decode cX9_through 40 = .ok (.ireturn, 1) := by decide +kernel
theorem dX9_through_41 : decode cX9_through 41 = .ok (.aload_n 0, 1) := by decide +kernel
theorem dX9_through_42 : decode cX9_through 42 = .ok (.iload_n 1, 1) := by decide +kernel
theorem dX9_through_43 : decode cX9_through 43 = .ok (.invokevirtual 292, 3) := by decide +kernel
theorem dX9_through_46 : decode cX9_through 46 = .ok (.aload_n 0, 1) := by decide +kernel
theorem dX9_through_47 : decode cX9_through 47 = .ok (.iload_n 2, 1) := by decide +kernel
theorem dX9_through_48 : decode cX9_through 48 = .ok (.iconst 0, 1) := by decide +kernel
theorem dX9_through_49 : decode cX9_through 49 = .ok (.invokevirtual 296, 3) := by decide +kernel
theorem dX9_through_52 : decode cX9_through 52 = .ok (.iload_n 3, 1) := by decide +kernel
theorem dX9_through_53 : decode cX9_through 53 = .ok (.tableswitch 70 0 4 #[35, 40, 45, 58, 64], 35) := by decide +kernel
theorem dX9_through_88 : decode cX9_through 88 = .ok (.aload_n 0, 1) := by decide +kernel
theorem dX9_through_89 : decode cX9_through 89 = .ok (.getfield 280, 3) := by decide +kernel
theorem dX9_through_92 : decode cX9_through 92 = .ok (.ireturn, 1) := by decide +kernel
theorem dX9_through_93 : decode cX9_through 93 = .ok (.aload_n 0, 1) := by decide +kernel
theorem dX9_through_94 : decode cX9_through 94 = .ok (.getfield 283, 3) := by decide +kernel
theorem dX9_through_97 : decode cX9_through 97 = .ok (.ireturn, 1) := by decide +kernel
theorem dX9_through_98 : decode cX9_through 98 = .ok (.aload_n 0, 1) := by decide +kernel
theorem dX9_through_99 : decode cX9_through 99 = .ok (.invokevirtual 299, 3) := by decide +kernel
theorem dX9_through_102 : decode cX9_through 102 = .ok (.ifCond .eq 7, 3) := by decide +kernel
theorem dX9_through_105 : decode cX9_through 105 = .ok (.iconst 1, 1) := by decide +kernel
theorem dX9_through_106 : decode cX9_through 106 = .ok (.goto 4, 3) := by decide +kernel
theorem dX9_through_109 : decode cX9_through 109 = .ok (.iconst 0, 1) := by decide +kernel
theorem dX9_through_110 : decode cX9_through 110 = .ok (.ireturn, 1) := by decide +kernel
theorem dX9_through_111 : decode cX9_through 111 = .ok (.aload_n 0, 1) := by decide +kernel
theorem dX9_through_112 : decode cX9_through 112 = .ok (.iconst 0, 1) := by decide +kernel
theorem dX9_through_113 : decode cX9_through 113 = .ok (.invokevirtual 302, 3) := by decide +kernel
theorem dX9_through_116 : decode cX9_through 116 = .ok (.ireturn, 1) := by decide +kernel
theorem dX9_through_117 : decode cX9_through 117 = .ok (.aload_n 0, 1) := by decide +kernel
theorem dX9_through_118 : decode cX9_through 118 = .ok (.iconst 1, 1) := by decide +kernel
theorem dX9_through_119 : decode cX9_through 119 = .ok (.invokevirtual 302, 3) := by decide +kernel
theorem dX9_through_122 : decode cX9_through 122 = .ok (.ireturn, 1) := by decide +kernel
theorem dX9_through_123 : decode cX9_through 123 = .ok (.aload_n 0, 1) := by decide +kernel
theorem dX9_through_124 : decode cX9_through 124 = .ok (.invokevirtual 306, 3) := by decide +kernel
theorem dX9_through_127 : decode cX9_through 127 = .ok (.ireturn, 1) := by decide +kernel
theorem dX9_nth_0 : decode cX9_nth 0 = .ok (.iload_n 1, 1) := by decide +kernel
theorem dX9_nth_1 : decode cX9_nth 1 = .ok (.invokestatic 154, 3) := by decide +kernel
theorem dX9_nth_4 : decode cX9_nth 4 = .ok (.ifCond .eq 25, 3) := by decide +kernel
theorem dX9_nth_7 : decode cX9_nth 7 = .ok (.aload_n 0, 1) := by decide +kernel
theorem dX9_nth_8 : decode cX9_nth 8 = .ok (.iload_n 2, 1) := by decide +kernel
theorem dX9_nth_9 : decode cX9_nth 9 = .ok (.invokevirtual 286, 3) := by decide +kernel
theorem dX9_nth_12 : decode cX9_nth 12 = .ok (.ifCond .eq 17, 3) := by decide +kernel
theorem dX9_nth_15 : decode cX9_nth 15 = .ok (.iload_n 3, 1) := by decide +kernel
theorem dX9_nth_16 : decode cX9_nth 16 = .ok (.ifCond .lt 13, 3) := by decide +kernel
theorem dX9_nth_19 : decode cX9_nth 19 = .ok (.iload 4, 2) := by decide +kernel
theorem dX9_nth_21 : decode cX9_nth 21 = .ok (.iconst 0, 1) := by decide +kernel
theorem dX9_nth_22 : decode cX9_nth 22 = .ok (.iconst 1, 1) := by decide +kernel
theorem dX9_nth_23 : decode cX9_nth 23 = .ok (.invokestatic 143, 3) := by decide +kernel
theorem dX9_nth_26 : decode cX9_nth 26 = .ok (.ifCond .ne 5, 3) := by decide +kernel
theorem dX9_nth_29 : decode cX9_nth 29 = .ok (.iconst (-1), 1) := by decide +kernel
theorem dX9_nth_30 : decode cX9_nth 30 = .ok (.ireturn, 1) := by decide +kernel
theorem dX9_nth_31 : decode cX9_nth 31 = .ok (.aload_n 0, 1) := by decide +kernel
theorem dX9_nth_32 : decode cX9_nth 32 = .ok (.iload_n 1, 1) := by decide +kernel
theorem dX9_nth_33 : decode cX9_nth 33 = .ok (.invokevirtual 289, 3) := by decide +kernel
theorem dX9_nth_36 : decode cX9_nth 36 = .ok (.istore 5, 2) := by decide +kernel
theorem dX9_nth_38 : decode cX9_nth 38 = .ok (.iload 5, 2) := by decide +kernel
theorem dX9_nth_40 : decode cX9_nth 40 = .ok (.ifCond .ge 6, 3) := by decide +kernel
theorem dX9_nth_43 : decode cX9_nth 43 = .ok (.iload 5, 2) := by decide +kernel
theorem dX9_nth_45 : decode cX9_nth 45 = .ok (.ireturn, 1) := by decide +kernel
theorem dX9_nth_46 : decode cX9_nth 46 = .ok (.aload_n 0, 1) := by decide +kernel
theorem dX9_nth_47 : decode cX9_nth 47 = .ok (.iload_n 1, 1) := by decide +kernel
theorem dX9_nth_48 : decode cX9_nth 48 = .ok (.invokevirtual 292, 3) := by decide +kernel
theorem dX9_nth_51 : decode cX9_nth 51 = .ok (.aload_n 0, 1) := by decide +kernel
theorem dX9_nth_52 : decode cX9_nth 52 = .ok (.iload_n 2, 1) := by decide +kernel
theorem dX9_nth_53 : decode cX9_nth 53 = .ok (.iconst 0, 1) := by decide +kernel
theorem dX9_nth_54 : decode cX9_nth 54 = .ok (.invokevirtual 296, 3) := by decide +kernel
theorem dX9_nth_57 : decode cX9_nth 57 = .ok (.iload_n 3, 1) := by decide +kernel
theorem dX9_nth_58 : decode cX9_nth 58 = .ok (.iload 4, 2) := by decide +kernel
theorem dX9_nth_60 : decode cX9_nth 60 = .ok (.ifCond .ne 10, 3) := by decide +kernel
theorem dX9_nth_63 : decode cX9_nth 63 = .ok (.aload_n 0, 1) := by decide +kernel
theorem dX9_nth_64 : decode cX9_nth 64 = .ok (.getfield 280, 3) := by decide +kernel
theorem dX9_nth_67 : decode cX9_nth 67 = .ok (.goto 7, 3) := by decide +kernel
theorem dX9_nth_70 : decode cX9_nth 70 = .ok (.aload_n 0, 1) := by decide +kernel
theorem dX9_nth_71 : decode cX9_nth 71 = .ok (.getfield 283, 3) := by decide +kernel
theorem dX9_nth_74 : decode cX9_nth 74 = .ok (.if_icmp .lt 6, 3) := by decide +kernel
theorem dX9_nth_77 : decode cX9_nth 77 = .ok (.bipush (-2), 2) := by decide +kernel
theorem dX9_nth_79 : decode cX9_nth 79 = .ok (.ireturn, 1) := by decide +kernel
theorem dX9_nth_80 : decode cX9_nth 80 = .ok (.iload 4, 2) := by decide +kernel
theorem dX9_nth_82 : decode cX9_nth 82 = .ok (.ifCond .ne 12, 3) := by decide +kernel
theorem dX9_nth_85 : decode cX9_nth 85 = .ok (.aload_n 0, 1) := by decide +kernel
theorem dX9_nth_86 : decode cX9_nth 86 = .ok (.getfield 84, 3) := by decide +kernel
theorem dX9_nth_89 : decode cX9_nth 89 = .ok (.iload_n 3, 1) := by decide +kernel
theorem dX9_nth_90 : decode cX9_nth 90 = .ok (.iaload, 1) := by decide +kernel
theorem dX9_nth_91 : decode cX9_nth 91 = .ok (.goto 9, 3) := by decide +kernel
theorem dX9_nth_94 : decode cX9_nth 94 = .ok (.aload_n 0, 1) := by decide +kernel
theorem dX9_nth_95 : decode cX9_nth 95 = .ok (.getfield 87, 3) := by decide +kernel
theorem dX9_nth_98 : decode cX9_nth 98 = .ok (.iload_n 3, 1) := by decide +kernel
theorem dX9_nth_99 : decode cX9_nth 99 = .ok (.iaload, 1) := by decide +kernel
theorem dX9_nth_100 : decode cX9_nth 100 = .ok (.ireturn, 1) := by decide +kernel
theorem dX9_areShelves_0 : decode cX9_areShelves 0 = .ok (.iload_n 0, 1) := by decide +kernel
theorem dX9_areShelves_1 : decode cX9_areShelves 1 = .ok (.ifCond .lt 27, 3) := by decide +kernel
theorem dX9_areShelves_4 : decode cX9_areShelves 4 = .ok (.iload_n 0, 1) := by decide +kernel
theorem dX9_areShelves_5 : decode cX9_areShelves 5 = .ok (.bipush 10, 2) := by decide +kernel
theorem dX9_areShelves_7 : decode cX9_areShelves 7 = .ok (.idiv, 1) := by decide +kernel
theorem dX9_areShelves_8 : decode cX9_areShelves 8 = .ok (.invokestatic 154, 3) := by decide +kernel
theorem dX9_areShelves_11 : decode cX9_areShelves 11 = .ok (.ifCond .eq 17, 3) := by decide +kernel
theorem dX9_areShelves_14 : decode cX9_areShelves 14 = .ok (.iload_n 0, 1) := by decide +kernel
theorem dX9_areShelves_15 : decode cX9_areShelves 15 = .ok (.bipush 10, 2) := by decide +kernel
theorem dX9_areShelves_17 : decode cX9_areShelves 17 = .ok (.irem, 1) := by decide +kernel
theorem dX9_areShelves_18 : decode cX9_areShelves 18 = .ok (.invokestatic 154, 3) := by decide +kernel
theorem dX9_areShelves_21 : decode cX9_areShelves 21 = .ok (.ifCond .eq 7, 3) := by decide +kernel
theorem dX9_areShelves_24 : decode cX9_areShelves 24 = .ok (.iconst 1, 1) := by decide +kernel
theorem dX9_areShelves_25 : decode cX9_areShelves 25 = .ok (.goto 4, 3) := by decide +kernel
theorem dX9_areShelves_28 : decode cX9_areShelves 28 = .ok (.iconst 0, 1) := by decide +kernel
theorem dX9_areShelves_29 : decode cX9_areShelves 29 = .ok (.ireturn, 1) := by decide +kernel
theorem dX9_bothFault_0 : decode cX9_bothFault 0 = .ok (.aload_n 0, 1) := by decide +kernel
theorem dX9_bothFault_1 : decode cX9_bothFault 1 = .ok (.getfield 125, 3) := by decide +kernel
theorem dX9_bothFault_4 : decode cX9_bothFault 4 = .ok (.iload_n 1, 1) := by decide +kernel
theorem dX9_bothFault_5 : decode cX9_bothFault 5 = .ok (.bipush 10, 2) := by decide +kernel
theorem dX9_bothFault_7 : decode cX9_bothFault 7 = .ok (.idiv, 1) := by decide +kernel
theorem dX9_bothFault_8 : decode cX9_bothFault 8 = .ok (.iaload, 1) := by decide +kernel
theorem dX9_bothFault_9 : decode cX9_bothFault 9 = .ok (.iconst (-1), 1) := by decide +kernel
theorem dX9_bothFault_10 : decode cX9_bothFault 10 = .ok (.if_icmp .eq 16, 3) := by decide +kernel
theorem dX9_bothFault_13 : decode cX9_bothFault 13 = .ok (.aload_n 0, 1) := by decide +kernel
theorem dX9_bothFault_14 : decode cX9_bothFault 14 = .ok (.getfield 125, 3) := by decide +kernel
theorem dX9_bothFault_17 : decode cX9_bothFault 17 = .ok (.iload_n 1, 1) := by decide +kernel
theorem dX9_bothFault_18 : decode cX9_bothFault 18 = .ok (.bipush 10, 2) := by decide +kernel
theorem dX9_bothFault_20 : decode cX9_bothFault 20 = .ok (.irem, 1) := by decide +kernel
theorem dX9_bothFault_21 : decode cX9_bothFault 21 = .ok (.iaload, 1) := by decide +kernel
theorem dX9_bothFault_22 : decode cX9_bothFault 22 = .ok (.iconst (-1), 1) := by decide +kernel
theorem dX9_bothFault_23 : decode cX9_bothFault 23 = .ok (.if_icmp .ne 6, 3) := by decide +kernel
theorem dX9_bothFault_26 : decode cX9_bothFault 26 = .ok (.bipush (-11), 2) := by decide +kernel
theorem dX9_bothFault_28 : decode cX9_bothFault 28 = .ok (.ireturn, 1) := by decide +kernel
theorem dX9_bothFault_29 : decode cX9_bothFault 29 = .ok (.aload_n 0, 1) := by decide +kernel
theorem dX9_bothFault_30 : decode cX9_bothFault 30 = .ok (.iload_n 1, 1) := by decide +kernel
theorem dX9_bothFault_31 : decode cX9_bothFault 31 = .ok (.bipush 10, 2) := by decide +kernel
theorem dX9_bothFault_33 : decode cX9_bothFault 33 = .ok (.idiv, 1) := by decide +kernel
theorem dX9_bothFault_34 : decode cX9_bothFault 34 = .ok (.invokevirtual 289, 3) := by decide +kernel
theorem dX9_bothFault_37 : decode cX9_bothFault 37 = .ok (.ifCond .lt 14, 3) := by decide +kernel
theorem dX9_bothFault_40 : decode cX9_bothFault 40 = .ok (.aload_n 0, 1) := by decide +kernel
theorem dX9_bothFault_41 : decode cX9_bothFault 41 = .ok (.iload_n 1, 1) := by decide +kernel
theorem dX9_bothFault_42 : decode cX9_bothFault 42 = .ok (.bipush 10, 2) := by decide +kernel
theorem dX9_bothFault_44 : decode cX9_bothFault 44 = .ok (.irem, 1) := by decide +kernel
theorem dX9_bothFault_45 : decode cX9_bothFault 45 = .ok (.invokevirtual 289, 3) := by decide +kernel
theorem dX9_bothFault_48 : decode cX9_bothFault 48 = .ok (.ifCond .ge 8, 3) := by decide +kernel
theorem dX9_bothFault_51 : decode cX9_bothFault 51 = .ok (.bipush (-12), 2) := by decide +kernel
theorem dX9_bothFault_53 : decode cX9_bothFault 53 = .ok (.goto 4, 3) := by decide +kernel
theorem dX9_bothFault_56 : decode cX9_bothFault 56 = .ok (.iconst 0, 1) := by decide +kernel
theorem dX9_bothFault_57 : decode cX9_bothFault 57 = .ok (.ireturn, 1) := by decide +kernel
theorem dX9_several_0 : decode cX9_several 0 = .ok (.iload_n 1, 1) := by decide +kernel
theorem dX9_several_1 : decode cX9_several 1 = .ok (.invokestatic 309, 3) := by decide +kernel
theorem dX9_several_4 : decode cX9_several 4 = .ok (.ifCond .eq 12, 3) := by decide +kernel
theorem dX9_several_7 : decode cX9_several 7 = .ok (.iload_n 2, 1) := by decide +kernel
theorem dX9_several_8 : decode cX9_several 8 = .ok (.iconst 0, 1) := by decide +kernel
theorem dX9_several_9 : decode cX9_several 9 = .ok (.iconst 1, 1) := by decide +kernel
theorem dX9_several_10 : decode cX9_several 10 = .ok (.invokestatic 143, 3) := by decide +kernel
theorem dX9_several_13 : decode cX9_several 13 = .ok (.ifCond .ne 5, 3) := by decide +kernel
theorem dX9_several_16 : decode cX9_several 16 = .ok (.iconst (-1), 1) := by decide +kernel
theorem dX9_several_17 : decode cX9_several 17 = .ok (.ireturn, 1) := by decide +kernel
theorem dX9_several_18 : decode cX9_several 18 = .ok (.aload_n 0, 1) := by decide +kernel
theorem dX9_several_19 : decode cX9_several 19 = .ok (.iload_n 1, 1) := by decide +kernel
theorem dX9_several_20 : decode cX9_several 20 = .ok (.invokevirtual 312, 3) := by decide +kernel
theorem dX9_several_23 : decode cX9_several 23 = .ok (.istore_n 3, 1) := by decide +kernel
theorem dX9_several_24 : decode cX9_several 24 = .ok (.iload_n 3, 1) := by decide +kernel
theorem dX9_several_25 : decode cX9_several 25 = .ok (.ifCond .ge 5, 3) := by decide +kernel
theorem dX9_several_28 : decode cX9_several 28 = .ok (.iload_n 3, 1) := by decide +kernel
theorem dX9_several_29 : decode cX9_several 29 = .ok (.ireturn, 1) := by decide +kernel
theorem dX9_several_30 : decode cX9_several 30 = .ok (.aload_n 0, 1) := by decide +kernel
theorem dX9_several_31 : decode cX9_several 31 = .ok (.iload_n 1, 1) := by decide +kernel
theorem dX9_several_32 : decode cX9_several 32 = .ok (.bipush 10, 2) := by decide +kernel
theorem dX9_several_34 : decode cX9_several 34 = .ok (.idiv, 1) := by decide +kernel
theorem dX9_several_35 : decode cX9_several 35 = .ok (.invokevirtual 292, 3) := by decide +kernel
theorem dX9_several_38 : decode cX9_several 38 = .ok (.iconst 0, 1) := by decide +kernel
theorem dX9_several_39 : decode cX9_several 39 = .ok (.istore 4, 2) := by decide +kernel
theorem dX9_several_41 : decode cX9_several 41 = .ok (.iload_n 1, 1) := by decide +kernel
theorem dX9_several_42 : decode cX9_several 42 = .ok (.bipush 10, 2) := by decide +kernel
theorem dX9_several_44 : decode cX9_several 44 = .ok (.irem, 1) := by decide +kernel
theorem dX9_several_45 : decode cX9_several 45 = .ok (.istore 5, 2) := by decide +kernel
theorem dX9_several_47 : decode cX9_several 47 = .ok (.iconst 0, 1) := by decide +kernel
theorem dX9_several_48 : decode cX9_several 48 = .ok (.istore 6, 2) := by decide +kernel
theorem dX9_several_50 : decode cX9_several 50 = .ok (.iload 6, 2) := by decide +kernel
theorem dX9_several_52 : decode cX9_several 52 = .ok (.aload_n 0, 1) := by decide +kernel
theorem dX9_several_53 : decode cX9_several 53 = .ok (.getfield 128, 3) := by decide +kernel
theorem dX9_several_56 : decode cX9_several 56 = .ok (.iload 5, 2) := by decide +kernel
theorem dX9_several_58 : decode cX9_several 58 = .ok (.iaload, 1) := by decide +kernel
theorem dX9_several_59 : decode cX9_several 59 = .ok (.if_icmp .ge 86, 3) := by decide +kernel
theorem dX9_several_62 : decode cX9_several 62 = .ok (.aload_n 0, 1) := by decide +kernel
theorem dX9_several_63 : decode cX9_several 63 = .ok (.aload_n 0, 1) := by decide +kernel
theorem dX9_several_64 : decode cX9_several 64 = .ok (.iload 5, 2) := by decide +kernel
theorem dX9_several_66 : decode cX9_several 66 = .ok (.iload 6, 2) := by decide +kernel
theorem dX9_several_68 : decode cX9_several 68 = .ok (.invokevirtual 277, 3) := by decide +kernel
theorem dX9_several_71 : decode cX9_several 71 = .ok (.invokevirtual 180, 3) := by decide +kernel
theorem dX9_several_74 : decode cX9_several 74 = .ok (.ifCond .eq 71, 3) := by decide +kernel
theorem dX9_several_77 : decode cX9_several 77 = .ok (.aload_n 0, 1) := by decide +kernel
theorem dX9_several_78 : decode cX9_several 78 = .ok (.aload_n 0, 1) := by decide +kernel
theorem dX9_several_79 : decode cX9_several 79 = .ok (.iload 5, 2) := by decide +kernel
theorem dX9_several_81 : decode cX9_several 81 = .ok (.iload 6, 2) := by decide +kernel
theorem dX9_several_83 : decode cX9_several 83 = .ok (.invokevirtual 277, 3) := by decide +kernel
theorem dX9_several_86 : decode cX9_several 86 = .ok (.iconst 0, 1) := by decide +kernel
theorem dX9_several_87 : decode cX9_several 87 = .ok (.invokevirtual 296, 3) := by decide +kernel
theorem dX9_several_90 : decode cX9_several 90 = .ok (.iload 4, 2) := by decide +kernel
theorem dX9_several_92 : decode cX9_several 92 = .ok (.aload_n 0, 1) := by decide +kernel
theorem dX9_several_93 : decode cX9_several 93 = .ok (.invokevirtual 306, 3) := by decide +kernel
theorem dX9_several_96 : decode cX9_several 96 = .ok (.iadd, 1) := by decide +kernel
theorem dX9_several_97 : decode cX9_several 97 = .ok (.istore 4, 2) := by decide +kernel
theorem dX9_several_99 : decode cX9_several 99 = .ok (.aload_n 0, 1) := by decide +kernel
theorem dX9_several_100 : decode cX9_several 100 = .ok (.aload_n 0, 1) := by decide +kernel
theorem dX9_several_101 : decode cX9_several 101 = .ok (.getfield 280, 3) := by decide +kernel
theorem dX9_several_104 : decode cX9_several 104 = .ok (.putfield 274, 3) := by decide +kernel
theorem dX9_several_107 : decode cX9_several 107 = .ok (.iconst 0, 1) := by decide +kernel
theorem dX9_several_108 : decode cX9_several 108 = .ok (.istore 7, 2) := by decide +kernel
theorem dX9_several_110 : decode cX9_several 110 = .ok (.iload 7, 2) := by decide +kernel
theorem dX9_several_112 : decode cX9_several 112 = .ok (.aload_n 0, 1) := by decide +kernel
theorem dX9_several_113 : decode cX9_several 113 = .ok (.getfield 280, 3) := by decide +kernel
theorem dX9_several_116 : decode cX9_several 116 = .ok (.if_icmp .ge 23, 3) := by decide +kernel
theorem dX9_several_119 : decode cX9_several 119 = .ok (.aload_n 0, 1) := by decide +kernel
theorem dX9_several_120 : decode cX9_several 120 = .ok (.getfield 81, 3) := by decide +kernel
theorem dX9_several_123 : decode cX9_several 123 = .ok (.iload 7, 2) := by decide +kernel
theorem dX9_several_125 : decode cX9_several 125 = .ok (.aload_n 0, 1) := by decide +kernel
theorem dX9_several_126 : decode cX9_several 126 = .ok (.getfield 84, 3) := by decide +kernel
theorem dX9_several_129 : decode cX9_several 129 = .ok (.iload 7, 2) := by decide +kernel
theorem dX9_several_131 : decode cX9_several 131 = .ok (.iaload, 1) := by decide +kernel
theorem dX9_several_132 : decode cX9_several 132 = .ok (.iastore, 1) := by decide +kernel
theorem dX9_several_133 : decode cX9_several 133 = .ok (.iinc 7 1, 3) := by decide +kernel
theorem dX9_several_136 : decode cX9_several 136 = .ok (.goto (-26), 3) := by decide +kernel
theorem dX9_several_139 : decode cX9_several 139 = .ok (.iinc 6 1, 3) := by decide +kernel
theorem dX9_several_142 : decode cX9_several 142 = .ok (.goto (-92), 3) := by decide +kernel
theorem dX9_several_145 : decode cX9_several 145 = .ok (.iload_n 2, 1) := by decide +kernel
theorem dX9_several_146 : decode cX9_several 146 = .ok (.ifCond .ne 10, 3) := by decide +kernel
theorem dX9_several_149 : decode cX9_several 149 = .ok (.aload_n 0, 1) := by decide +kernel
theorem dX9_several_150 : decode cX9_several 150 = .ok (.getfield 274, 3) := by decide +kernel
theorem dX9_several_153 : decode cX9_several 153 = .ok (.goto 5, 3) := by decide +kernel
theorem dX9_several_156 : decode cX9_several 156 = .ok (.iload 4, 2) := by decide +kernel
theorem dX9_several_158 : decode cX9_several 158 = .ok (.ireturn, 1) := by decide +kernel
theorem dX9_layRow_0 : decode cX9_layRow 0 = .ok (.aload_n 0, 1) := by decide +kernel
theorem dX9_layRow_1 : decode cX9_layRow 1 = .ok (.iload_n 1, 1) := by decide +kernel
theorem dX9_layRow_2 : decode cX9_layRow 2 = .ok (.invokevirtual 292, 3) := by decide +kernel
theorem dX9_layRow_5 : decode cX9_layRow 5 = .ok (.aload_n 0, 1) := by decide +kernel
theorem dX9_layRow_6 : decode cX9_layRow 6 = .ok (.aload_n 0, 1) := by decide +kernel
theorem dX9_layRow_7 : decode cX9_layRow 7 = .ok (.getfield 274, 3) := by decide +kernel
theorem dX9_layRow_10 : decode cX9_layRow 10 = .ok (.putfield 315, 3) := by decide +kernel
theorem dX9_layRow_13 : decode cX9_layRow 13 = .ok (.iconst 0, 1) := by decide +kernel
theorem dX9_layRow_14 : decode cX9_layRow 14 = .ok (.istore_n 2, 1) := by decide +kernel
theorem dX9_layRow_15 : decode cX9_layRow 15 = .ok (.iload_n 2, 1) := by decide +kernel
theorem dX9_layRow_16 : decode cX9_layRow 16 = .ok (.aload_n 0, 1) := by decide +kernel
theorem dX9_layRow_17 : decode cX9_layRow 17 = .ok (.getfield 315, 3) := by decide +kernel
theorem dX9_layRow_20 : decode cX9_layRow 20 = .ok (.if_icmp .ge 21, 3) := by decide +kernel
theorem dX9_layRow_23 : decode cX9_layRow 23 = .ok (.aload_n 0, 1) := by decide +kernel
theorem dX9_layRow_24 : decode cX9_layRow 24 = .ok (.getfield 94, 3) := by decide +kernel
theorem dX9_layRow_27 : decode cX9_layRow 27 = .ok (.iload_n 2, 1) := by decide +kernel
theorem dX9_layRow_28 : decode cX9_layRow 28 = .ok (.aload_n 0, 1) := by decide +kernel
theorem dX9_layRow_29 : decode cX9_layRow 29 = .ok (.getfield 81, 3) := by decide +kernel
theorem dX9_layRow_32 : decode cX9_layRow 32 = .ok (.iload_n 2, 1) := by decide +kernel
theorem dX9_layRow_33 : decode cX9_layRow 33 = .ok (.iaload, 1) := by decide +kernel
theorem dX9_layRow_34 : decode cX9_layRow 34 = .ok (.iastore, 1) := by decide +kernel
theorem dX9_layRow_35 : decode cX9_layRow 35 = .ok (.iinc 2 1, 3) := by decide +kernel
theorem dX9_layRow_38 : decode cX9_layRow 38 = .ok (.goto (-23), 3) := by decide +kernel
theorem dX9_layRow_41 : decode cX9_layRow 41 = .ok (.return_, 1) := by decide +kernel
theorem dX9_maySay_0 : decode cX9_maySay 0 = .ok (.aload_n 0, 1) := by decide +kernel
theorem dX9_maySay_1 : decode cX9_maySay 1 = .ok (.getfield 21, 3) := by decide +kernel
theorem dX9_maySay_4 : decode cX9_maySay 4 = .ok (.iload_n 1, 1) := by decide +kernel
theorem dX9_maySay_5 : decode cX9_maySay 5 = .ok (.iaload, 1) := by decide +kernel
theorem dX9_maySay_6 : decode cX9_maySay 6 = .ok (.iload_n 2, 1) := by decide +kernel
theorem dX9_maySay_7 : decode cX9_maySay 7 = .ok (.iconst 2, 1) := by decide +kernel
theorem dX9_maySay_8 : decode cX9_maySay 8 = .ok (.if_icmp .ge 7, 3) := by decide +kernel
theorem dX9_maySay_11 : decode cX9_maySay 11 = .ok (.iload_n 2, 1) := by decide +kernel
theorem dX9_maySay_12 : decode cX9_maySay 12 = .ok (.goto 4, 3) := by decide +kernel
theorem dX9_maySay_15 : decode cX9_maySay 15 = .ok (.iconst 2, 1) := by decide +kernel
theorem dX9_maySay_16 : decode cX9_maySay 16 = .ok (.if_icmp .eq 5, 3) := by decide +kernel
theorem dX9_maySay_19 : decode cX9_maySay 19 = .ok (.iconst 0, 1) := by decide +kernel
theorem dX9_maySay_20 : decode cX9_maySay 20 = .ok (.ireturn, 1) := by decide +kernel
theorem dX9_maySay_21 : decode cX9_maySay 21 = .ok (.aload_n 0, 1) := by decide +kernel
theorem dX9_maySay_22 : decode cX9_maySay 22 = .ok (.iload_n 1, 1) := by decide +kernel
theorem dX9_maySay_23 : decode cX9_maySay 23 = .ok (.iload 4, 2) := by decide +kernel
theorem dX9_maySay_25 : decode cX9_maySay 25 = .ok (.iload_n 2, 1) := by decide +kernel
theorem dX9_maySay_26 : decode cX9_maySay 26 = .ok (.iload_n 2, 1) := by decide +kernel
theorem dX9_maySay_27 : decode cX9_maySay 27 = .ok (.iload_n 3, 1) := by decide +kernel
theorem dX9_maySay_28 : decode cX9_maySay 28 = .ok (.isub, 1) := by decide +kernel
theorem dX9_maySay_29 : decode cX9_maySay 29 = .ok (.invokevirtual 271, 3) := by decide +kernel
theorem dX9_maySay_32 : decode cX9_maySay 32 = .ok (.istore 5, 2) := by decide +kernel
theorem dX9_maySay_34 : decode cX9_maySay 34 = .ok (.iload 5, 2) := by decide +kernel
theorem dX9_maySay_36 : decode cX9_maySay 36 = .ok (.ifCond .eq 23, 3) := by decide +kernel
theorem dX9_maySay_39 : decode cX9_maySay 39 = .ok (.iload_n 3, 1) := by decide +kernel
theorem dX9_maySay_40 : decode cX9_maySay 40 = .ok (.aload_n 0, 1) := by decide +kernel
theorem dX9_maySay_41 : decode cX9_maySay 41 = .ok (.getfield 315, 3) := by decide +kernel
theorem dX9_maySay_44 : decode cX9_maySay 44 = .ok (.if_icmp .eq 13, 3) := by decide +kernel
theorem dX9_maySay_47 : decode cX9_maySay 47 = .ok (.aload_n 0, 1) := by decide +kernel
theorem dX9_maySay_48 : decode cX9_maySay 48 = .ok (.getfield 94, 3) := by decide +kernel
theorem dX9_maySay_51 : decode cX9_maySay 51 = .ok (.iload_n 3, 1) := by decide +kernel
theorem dX9_maySay_52 : decode cX9_maySay 52 = .ok (.iaload, 1) := by decide +kernel
theorem dX9_maySay_53 : decode cX9_maySay 53 = .ok (.iload_n 1, 1) := by decide +kernel
theorem dX9_maySay_54 : decode cX9_maySay 54 = .ok (.if_icmp .eq 5, 3) := by decide +kernel
theorem dX9_maySay_57 : decode cX9_maySay 57 = .ok (.iconst 0, 1) := by decide +kernel
theorem dX9_maySay_58 : decode cX9_maySay 58 = .ok (.ireturn, 1) := by decide +kernel
theorem dX9_maySay_59 : decode cX9_maySay 59 = .ok (.aload_n 0, 1) := by decide +kernel
theorem dX9_maySay_60 : decode cX9_maySay 60 = .ok (.getfield 90, 3) := by decide +kernel
theorem dX9_maySay_63 : decode cX9_maySay 63 = .ok (.bipush 13, 2) := by decide +kernel
theorem dX9_maySay_65 : decode cX9_maySay 65 = .ok (.iload_n 2, 1) := by decide +kernel
theorem dX9_maySay_66 : decode cX9_maySay 66 = .ok (.iconst 1, 1) := by decide +kernel
theorem dX9_maySay_67 : decode cX9_maySay 67 = .ok (.iadd, 1) := by decide +kernel
theorem dX9_maySay_68 : decode cX9_maySay 68 = .ok (.imul, 1) := by decide +kernel
theorem dX9_maySay_69 : decode cX9_maySay 69 = .ok (.iload 5, 2) := by decide +kernel
theorem dX9_maySay_71 : decode cX9_maySay 71 = .ok (.ifCond .eq 9, 3) := by decide +kernel
theorem dX9_maySay_74 : decode cX9_maySay 74 = .ok (.iload_n 3, 1) := by decide +kernel
theorem dX9_maySay_75 : decode cX9_maySay 75 = .ok (.iconst 1, 1) := by decide +kernel
theorem dX9_maySay_76 : decode cX9_maySay 76 = .ok (.iadd, 1) := by decide +kernel
theorem dX9_maySay_77 : decode cX9_maySay 77 = .ok (.goto 4, 3) := by decide +kernel
theorem dX9_maySay_80 : decode cX9_maySay 80 = .ok (.iload_n 3, 1) := by decide +kernel
theorem dX9_maySay_81 : decode cX9_maySay 81 = .ok (.iadd, 1) := by decide +kernel
theorem dX9_maySay_82 : decode cX9_maySay 82 = .ok (.baload, 1) := by decide +kernel
theorem dX9_maySay_83 : decode cX9_maySay 83 = .ok (.ireturn, 1) := by decide +kernel
theorem dX9_findSay_0 : decode cX9_findSay 0 = .ok (.aload_n 0, 1) := by decide +kernel
theorem dX9_findSay_1 : decode cX9_findSay 1 = .ok (.iload_n 1, 1) := by decide +kernel
theorem dX9_findSay_2 : decode cX9_findSay 2 = .ok (.putfield 318, 3) := by decide +kernel
theorem dX9_findSay_5 : decode cX9_findSay 5 = .ok (.iconst 0, 1) := by decide +kernel
theorem dX9_findSay_6 : decode cX9_findSay 6 = .ok (.istore_n 3, 1) := by decide +kernel
theorem dX9_findSay_7 : decode cX9_findSay 7 = .ok (.iload_n 3, 1) := by decide +kernel
theorem dX9_findSay_8 : decode cX9_findSay 8 = .ok (.aload_n 0, 1) := by decide +kernel
theorem dX9_findSay_9 : decode cX9_findSay 9 = .ok (.getfield 315, 3) := by decide +kernel
theorem dX9_findSay_12 : decode cX9_findSay 12 = .ok (.if_icmp .gt 33, 3) := by decide +kernel
theorem dX9_findSay_15 : decode cX9_findSay 15 = .ok (.aload_n 0, 1) := by decide +kernel
theorem dX9_findSay_16 : decode cX9_findSay 16 = .ok (.getfield 90, 3) := by decide +kernel
theorem dX9_findSay_19 : decode cX9_findSay 19 = .ok (.bipush 13, 2) := by decide +kernel
theorem dX9_findSay_21 : decode cX9_findSay 21 = .ok (.iload_n 1, 1) := by decide +kernel
theorem dX9_findSay_22 : decode cX9_findSay 22 = .ok (.imul, 1) := by decide +kernel
theorem dX9_findSay_23 : decode cX9_findSay 23 = .ok (.iload_n 3, 1) := by decide +kernel
theorem dX9_findSay_24 : decode cX9_findSay 24 = .ok (.iadd, 1) := by decide +kernel
theorem dX9_findSay_25 : decode cX9_findSay 25 = .ok (.iload_n 3, 1) := by decide +kernel
theorem dX9_findSay_26 : decode cX9_findSay 26 = .ok (.aload_n 0, 1) := by decide +kernel
theorem dX9_findSay_27 : decode cX9_findSay 27 = .ok (.getfield 315, 3) := by decide +kernel
theorem dX9_findSay_30 : decode cX9_findSay 30 = .ok (.if_icmp .ne 7, 3) := by decide +kernel
theorem dX9_findSay_33 : decode cX9_findSay 33 = .ok (.iconst 1, 1) := by decide +kernel
theorem dX9_findSay_34 : decode cX9_findSay 34 = .ok (.goto 4, 3) := by decide +kernel
theorem dX9_findSay_37 : decode cX9_findSay 37 = .ok (.iconst 0, 1) := by decide +kernel
theorem dX9_findSay_38 : decode cX9_findSay 38 = .ok (.bastore, 1) := by decide +kernel
theorem dX9_findSay_39 : decode cX9_findSay 39 = .ok (.iinc 3 1, 3) := by decide +kernel
theorem dX9_findSay_42 : decode cX9_findSay 42 = .ok (.goto (-35), 3) := by decide +kernel
theorem dX9_findSay_45 : decode cX9_findSay 45 = .ok (.iload_n 1, 1) := by decide +kernel
theorem dX9_findSay_46 : decode cX9_findSay 46 = .ok (.iconst 1, 1) := by decide +kernel
theorem dX9_findSay_47 : decode cX9_findSay 47 = .ok (.isub, 1) := by decide +kernel
theorem dX9_findSay_48 : decode cX9_findSay 48 = .ok (.istore_n 3, 1) := by decide +kernel
theorem dX9_findSay_49 : decode cX9_findSay 49 = .ok (.iload_n 3, 1) := by decide +kernel
theorem dX9_findSay_50 : decode cX9_findSay 50 = .ok (.ifCond .lt 93, 3) := by decide +kernel
theorem dX9_findSay_53 : decode cX9_findSay 53 = .ok (.iconst 0, 1) := by decide +kernel
theorem dX9_findSay_54 : decode cX9_findSay 54 = .ok (.istore 4, 2) := by decide +kernel
theorem dX9_findSay_56 : decode cX9_findSay 56 = .ok (.iload 4, 2) := by decide +kernel
theorem dX9_findSay_58 : decode cX9_findSay 58 = .ok (.aload_n 0, 1) := by decide +kernel
theorem dX9_findSay_59 : decode cX9_findSay 59 = .ok (.getfield 315, 3) := by decide +kernel
theorem dX9_findSay_62 : decode cX9_findSay 62 = .ok (.if_icmp .gt 75, 3) := by decide +kernel
theorem dX9_findSay_65 : decode cX9_findSay 65 = .ok (.iconst 0, 1) := by decide +kernel
theorem dX9_findSay_66 : decode cX9_findSay 66 = .ok (.istore 5, 2) := by decide +kernel
theorem dX9_findSay_68 : decode cX9_findSay 68 = .ok (.iconst 0, 1) := by decide +kernel
theorem dX9_findSay_69 : decode cX9_findSay 69 = .ok (.istore 6, 2) := by decide +kernel
theorem dX9_findSay_71 : decode cX9_findSay 71 = .ok (.iload 6, 2) := by decide +kernel
theorem dX9_findSay_73 : decode cX9_findSay 73 = .ok (.aload_n 0, 1) := by decide +kernel
theorem dX9_findSay_74 : decode cX9_findSay 74 = .ok (.getfield 140, 3) := by decide +kernel
theorem dX9_findSay_77 : decode cX9_findSay 77 = .ok (.if_icmp .ge 40, 3) := by decide +kernel
theorem dX9_findSay_80 : decode cX9_findSay 80 = .ok (.iload 4, 2) := by decide +kernel
theorem dX9_findSay_82 : decode cX9_findSay 82 = .ok (.iload_n 3, 1) := by decide +kernel
theorem dX9_findSay_83 : decode cX9_findSay 83 = .ok (.if_icmp .gt 34, 3) := by decide +kernel
theorem dX9_findSay_86 : decode cX9_findSay 86 = .ok (.iload 5, 2) := by decide +kernel
theorem dX9_findSay_88 : decode cX9_findSay 88 = .ok (.ifCond .ne 16, 3) := by decide +kernel
theorem dX9_findSay_91 : decode cX9_findSay 91 = .ok (.aload_n 0, 1) := by decide +kernel
theorem dX9_findSay_92 : decode cX9_findSay 92 = .ok (.iload 6, 2) := by decide +kernel
theorem dX9_findSay_94 : decode cX9_findSay 94 = .ok (.iload_n 3, 1) := by decide +kernel
theorem dX9_findSay_95 : decode cX9_findSay 95 = .ok (.iload 4, 2) := by decide +kernel
theorem dX9_findSay_97 : decode cX9_findSay 97 = .ok (.iload_n 2, 1) := by decide +kernel
theorem dX9_findSay_98 : decode cX9_findSay 98 = .ok (.invokevirtual 321, 3) := by decide +kernel
theorem dX9_findSay_101 : decode cX9_findSay 101 = .ok (.ifCond .eq 7, 3) := by decide +kernel
theorem dX9_findSay_104 : decode cX9_findSay 104 = .ok (.iconst 1, 1) := by decide +kernel
theorem dX9_findSay_105 : decode cX9_findSay 105 = .ok (.goto 4, 3) := by decide +kernel
theorem dX9_findSay_108 : decode cX9_findSay 108 = .ok (.iconst 0, 1) := by decide +kernel
theorem dX9_findSay_109 : decode cX9_findSay 109 = .ok (.istore 5, 2) := by decide +kernel
theorem dX9_findSay_111 : decode cX9_findSay 111 = .ok (.iinc 6 1, 3) := by decide +kernel
theorem dX9_findSay_114 : decode cX9_findSay 114 = .ok (.goto (-43), 3) := by decide +kernel
theorem dX9_findSay_117 : decode cX9_findSay 117 = .ok (.aload_n 0, 1) := by decide +kernel
theorem dX9_findSay_118 : decode cX9_findSay 118 = .ok (.getfield 90, 3) := by decide +kernel
theorem dX9_findSay_121 : decode cX9_findSay 121 = .ok (.bipush 13, 2) := by decide +kernel
theorem dX9_findSay_123 : decode cX9_findSay 123 = .ok (.iload_n 3, 1) := by decide +kernel
theorem dX9_findSay_124 : decode cX9_findSay 124 = .ok (.imul, 1) := by decide +kernel
theorem dX9_findSay_125 : decode cX9_findSay 125 = .ok (.iload 4, 2) := by decide +kernel
theorem dX9_findSay_127 : decode cX9_findSay 127 = .ok (.iadd, 1) := by decide +kernel
theorem dX9_findSay_128 : decode cX9_findSay 128 = .ok (.iload 5, 2) := by decide +kernel
theorem dX9_findSay_130 : decode cX9_findSay 130 = .ok (.bastore, 1) := by decide +kernel
theorem dX9_findSay_131 : decode cX9_findSay 131 = .ok (.iinc 4 1, 3) := by decide +kernel
theorem dX9_findSay_134 : decode cX9_findSay 134 = .ok (.goto (-78), 3) := by decide +kernel
theorem dX9_findSay_137 : decode cX9_findSay 137 = .ok (.iinc 3 (-1), 3) := by decide +kernel
theorem dX9_findSay_140 : decode cX9_findSay 140 = .ok (.goto (-91), 3) := by decide +kernel
theorem dX9_findSay_143 : decode cX9_findSay 143 = .ok (.aload_n 0, 1) := by decide +kernel
theorem dX9_findSay_144 : decode cX9_findSay 144 = .ok (.getfield 90, 3) := by decide +kernel
theorem dX9_findSay_147 : decode cX9_findSay 147 = .ok (.iconst 0, 1) := by decide +kernel
theorem dX9_findSay_148 : decode cX9_findSay 148 = .ok (.baload, 1) := by decide +kernel
theorem dX9_findSay_149 : decode cX9_findSay 149 = .ok (.ireturn, 1) := by decide +kernel
theorem dX9_saysAt_0 : decode cX9_saysAt 0 = .ok (.iconst 0, 1) := by decide +kernel
theorem dX9_saysAt_1 : decode cX9_saysAt 1 = .ok (.istore_n 3, 1) := by decide +kernel
theorem dX9_saysAt_2 : decode cX9_saysAt 2 = .ok (.iconst 0, 1) := by decide +kernel
theorem dX9_saysAt_3 : decode cX9_saysAt 3 = .ok (.istore 4, 2) := by decide +kernel
theorem dX9_saysAt_5 : decode cX9_saysAt 5 = .ok (.iload 4, 2) := by decide +kernel
theorem dX9_saysAt_7 : decode cX9_saysAt 7 = .ok (.iload_n 1, 1) := by decide +kernel
theorem dX9_saysAt_8 : decode cX9_saysAt 8 = .ok (.if_icmp .gt 59, 3) := by decide +kernel
theorem dX9_saysAt_11 : decode cX9_saysAt 11 = .ok (.iconst 0, 1) := by decide +kernel
theorem dX9_saysAt_12 : decode cX9_saysAt 12 = .ok (.istore 5, 2) := by decide +kernel
theorem dX9_saysAt_14 : decode cX9_saysAt 14 = .ok (.aload_n 0, 1) := by decide +kernel
theorem dX9_saysAt_15 : decode cX9_saysAt 15 = .ok (.iload 5, 2) := by decide +kernel
theorem dX9_saysAt_17 : decode cX9_saysAt 17 = .ok (.iload 4, 2) := by decide +kernel
theorem dX9_saysAt_19 : decode cX9_saysAt 19 = .ok (.iload_n 3, 1) := by decide +kernel
theorem dX9_saysAt_20 : decode cX9_saysAt 20 = .ok (.iload_n 2, 1) := by decide +kernel
theorem dX9_saysAt_21 : decode cX9_saysAt 21 = .ok (.invokevirtual 321, 3) := by decide +kernel
theorem dX9_saysAt_24 : decode cX9_saysAt 24 = .ok (.ifCond .ne 9, 3) := by decide +kernel
theorem dX9_saysAt_27 : decode cX9_saysAt 27 = .ok (.iinc 5 1, 3) := by decide +kernel
theorem dX9_saysAt_30 : decode cX9_saysAt 30 = .ok (.goto (-16), 3) := by decide +kernel
theorem dX9_saysAt_33 : decode cX9_saysAt 33 = .ok (.iload 4, 2) := by decide +kernel
theorem dX9_saysAt_35 : decode cX9_saysAt 35 = .ok (.iload_n 1, 1) := by decide +kernel
theorem dX9_saysAt_36 : decode cX9_saysAt 36 = .ok (.if_icmp .ne 6, 3) := by decide +kernel
theorem dX9_saysAt_39 : decode cX9_saysAt 39 = .ok (.iload 5, 2) := by decide +kernel
theorem dX9_saysAt_41 : decode cX9_saysAt 41 = .ok (.ireturn, 1) := by decide +kernel
theorem dX9_saysAt_42 : decode cX9_saysAt 42 = .ok (.aload_n 0, 1) := by decide +kernel
theorem dX9_saysAt_43 : decode cX9_saysAt 43 = .ok (.iload 5, 2) := by decide +kernel
theorem dX9_saysAt_45 : decode cX9_saysAt 45 = .ok (.iload_n 2, 1) := by decide +kernel
theorem dX9_saysAt_46 : decode cX9_saysAt 46 = .ok (.iload 4, 2) := by decide +kernel
theorem dX9_saysAt_48 : decode cX9_saysAt 48 = .ok (.iload 4, 2) := by decide +kernel
theorem dX9_saysAt_50 : decode cX9_saysAt 50 = .ok (.iload_n 3, 1) := by decide +kernel
theorem dX9_saysAt_51 : decode cX9_saysAt 51 = .ok (.isub, 1) := by decide +kernel
theorem dX9_saysAt_52 : decode cX9_saysAt 52 = .ok (.invokevirtual 271, 3) := by decide +kernel
theorem dX9_saysAt_55 : decode cX9_saysAt 55 = .ok (.ifCond .eq 6, 3) := by decide +kernel
theorem dX9_saysAt_58 : decode cX9_saysAt 58 = .ok (.iinc 3 1, 3) := by decide +kernel
theorem dX9_saysAt_61 : decode cX9_saysAt 61 = .ok (.iinc 4 1, 3) := by decide +kernel
theorem dX9_saysAt_64 : decode cX9_saysAt 64 = .ok (.goto (-59), 3) := by decide +kernel
theorem dX9_saysAt_67 : decode cX9_saysAt 67 = .ok (.bipush (-2), 2) := by decide +kernel
theorem dX9_saysAt_69 : decode cX9_saysAt 69 = .ok (.ireturn, 1) := by decide +kernel
theorem dX9_say_0 : decode cX9_say 0 = .ok (.iload_n 1, 1) := by decide +kernel
theorem dX9_say_1 : decode cX9_say 1 = .ok (.invokestatic 154, 3) := by decide +kernel
theorem dX9_say_4 : decode cX9_say 4 = .ok (.ifCond .eq 16, 3) := by decide +kernel
theorem dX9_say_7 : decode cX9_say 7 = .ok (.aload_n 0, 1) := by decide +kernel
theorem dX9_say_8 : decode cX9_say 8 = .ok (.iload_n 2, 1) := by decide +kernel
theorem dX9_say_9 : decode cX9_say 9 = .ok (.invokevirtual 286, 3) := by decide +kernel
theorem dX9_say_12 : decode cX9_say 12 = .ok (.ifCond .eq 8, 3) := by decide +kernel
theorem dX9_say_15 : decode cX9_say 15 = .ok (.iload_n 3, 1) := by decide +kernel
theorem dX9_say_16 : decode cX9_say 16 = .ok (.iconst (-1), 1) := by decide +kernel
theorem dX9_say_17 : decode cX9_say 17 = .ok (.if_icmp .ge 5, 3) := by decide +kernel
theorem dX9_say_20 : decode cX9_say 20 = .ok (.iconst (-1), 1) := by decide +kernel
theorem dX9_say_21 : decode cX9_say 21 = .ok (.ireturn, 1) := by decide +kernel
theorem dX9_say_22 : decode cX9_say 22 = .ok (.aload_n 0, 1) := by decide +kernel
theorem dX9_say_23 : decode cX9_say 23 = .ok (.iload_n 1, 1) := by decide +kernel
theorem dX9_say_24 : decode cX9_say 24 = .ok (.invokevirtual 289, 3) := by decide +kernel
theorem dX9_say_27 : decode cX9_say 27 = .ok (.istore 4, 2) := by decide +kernel
theorem dX9_say_29 : decode cX9_say 29 = .ok (.iload 4, 2) := by decide +kernel
theorem dX9_say_31 : decode cX9_say 31 = .ok (.ifCond .ge 6, 3) := by decide +kernel
theorem dX9_say_34 : decode cX9_say 34 = .ok (.iload 4, 2) := by decide +kernel
theorem dX9_say_36 : decode cX9_say 36 = .ok (.ireturn, 1) := by decide +kernel
theorem dX9_say_37 : decode cX9_say 37 = .ok (.aload_n 0, 1) := by decide +kernel
theorem dX9_say_38 : decode cX9_say 38 = .ok (.iload_n 1, 1) := by decide +kernel
theorem dX9_say_39 : decode cX9_say 39 = .ok (.invokevirtual 324, 3) := by decide +kernel
theorem dX9_say_42 : decode cX9_say 42 = .ok (.iconst 2, 1) := by decide +kernel
theorem dX9_say_43 : decode cX9_say 43 = .ok (.istore 5, 2) := by decide +kernel
theorem dX9_say_45 : decode cX9_say 45 = .ok (.iload 5, 2) := by decide +kernel
theorem dX9_say_47 : decode cX9_say 47 = .ok (.bipush 10, 2) := by decide +kernel
theorem dX9_say_49 : decode cX9_say 49 = .ok (.if_icmp .gt 46, 3) := by decide +kernel
theorem dX9_say_52 : decode cX9_say 52 = .ok (.aload_n 0, 1) := by decide +kernel
theorem dX9_say_53 : decode cX9_say 53 = .ok (.iload 5, 2) := by decide +kernel
theorem dX9_say_55 : decode cX9_say 55 = .ok (.iload_n 2, 1) := by decide +kernel
theorem dX9_say_56 : decode cX9_say 56 = .ok (.invokevirtual 327, 3) := by decide +kernel
theorem dX9_say_59 : decode cX9_say 59 = .ok (.ifCond .eq 30, 3) := by decide +kernel
theorem dX9_say_62 : decode cX9_say 62 = .ok (.iload_n 3, 1) := by decide +kernel
theorem dX9_say_63 : decode cX9_say 63 = .ok (.ifCond .ge 8, 3) := by decide +kernel
theorem dX9_say_66 : decode cX9_say 66 = .ok (.iload 5, 2) := by decide +kernel
theorem dX9_say_68 : decode cX9_say 68 = .ok (.goto 20, 3) := by decide +kernel
theorem dX9_say_71 : decode cX9_say 71 = .ok (.iload_n 3, 1) := by decide +kernel
theorem dX9_say_72 : decode cX9_say 72 = .ok (.iload 5, 2) := by decide +kernel
theorem dX9_say_74 : decode cX9_say 74 = .ok (.if_icmp .ge 12, 3) := by decide +kernel
theorem dX9_say_77 : decode cX9_say 77 = .ok (.aload_n 0, 1) := by decide +kernel
theorem dX9_say_78 : decode cX9_say 78 = .ok (.iload_n 3, 1) := by decide +kernel
theorem dX9_say_79 : decode cX9_say 79 = .ok (.iload_n 2, 1) := by decide +kernel
theorem dX9_say_80 : decode cX9_say 80 = .ok (.invokevirtual 330, 3) := by decide +kernel
theorem dX9_say_83 : decode cX9_say 83 = .ok (.goto 5, 3) := by decide +kernel
theorem dX9_say_86 : decode cX9_say 86 = .ok (.bipush (-2), 2) := by decide +kernel
theorem dX9_say_88 : decode cX9_say 88 = .ok (.ireturn, 1) := by decide +kernel
theorem dX9_say_89 : decode cX9_say 89 = .ok (.iinc 5 1, 3) := by decide +kernel
theorem dX9_say_92 : decode cX9_say 92 = .ok (.goto (-47), 3) := by decide +kernel
theorem dX9_say_95 : decode cX9_say 95 = .ok (.bipush (-2), 2) := by decide +kernel
theorem dX9_say_97 : decode cX9_say 97 = .ok (.ireturn, 1) := by decide +kernel
theorem dX9_allPass_0 : decode cX9_allPass 0 = .ok (.iconst 0, 1) := by decide +kernel
theorem dX9_allPass_1 : decode cX9_allPass 1 = .ok (.istore_n 2, 1) := by decide +kernel
theorem dX9_allPass_2 : decode cX9_allPass 2 = .ok (.iload_n 2, 1) := by decide +kernel
theorem dX9_allPass_3 : decode cX9_allPass 3 = .ok (.aload_n 0, 1) := by decide +kernel
theorem dX9_allPass_4 : decode cX9_allPass 4 = .ok (.getfield 274, 3) := by decide +kernel
theorem dX9_allPass_7 : decode cX9_allPass 7 = .ok (.if_icmp .ge 27, 3) := by decide +kernel
theorem dX9_allPass_10 : decode cX9_allPass 10 = .ok (.aload_n 0, 1) := by decide +kernel
theorem dX9_allPass_11 : decode cX9_allPass 11 = .ok (.aload_n 0, 1) := by decide +kernel
theorem dX9_allPass_12 : decode cX9_allPass 12 = .ok (.getfield 81, 3) := by decide +kernel
theorem dX9_allPass_15 : decode cX9_allPass 15 = .ok (.iload_n 2, 1) := by decide +kernel
theorem dX9_allPass_16 : decode cX9_allPass 16 = .ok (.iaload, 1) := by decide +kernel
theorem dX9_allPass_17 : decode cX9_allPass 17 = .ok (.iload_n 1, 1) := by decide +kernel
theorem dX9_allPass_18 : decode cX9_allPass 18 = .ok (.iload_n 2, 1) := by decide +kernel
theorem dX9_allPass_19 : decode cX9_allPass 19 = .ok (.iconst 0, 1) := by decide +kernel
theorem dX9_allPass_20 : decode cX9_allPass 20 = .ok (.invokevirtual 267, 3) := by decide +kernel
theorem dX9_allPass_23 : decode cX9_allPass 23 = .ok (.ifCond .ne 5, 3) := by decide +kernel
theorem dX9_allPass_26 : decode cX9_allPass 26 = .ok (.iconst 0, 1) := by decide +kernel
theorem dX9_allPass_27 : decode cX9_allPass 27 = .ok (.ireturn, 1) := by decide +kernel
theorem dX9_allPass_28 : decode cX9_allPass 28 = .ok (.iinc 2 1, 3) := by decide +kernel
theorem dX9_allPass_31 : decode cX9_allPass 31 = .ok (.goto (-29), 3) := by decide +kernel
theorem dX9_allPass_34 : decode cX9_allPass 34 = .ok (.iconst 1, 1) := by decide +kernel
theorem dX9_allPass_35 : decode cX9_allPass 35 = .ok (.ireturn, 1) := by decide +kernel
theorem dX9_finest_0 : decode cX9_finest 0 = .ok (.iload_n 1, 1) := by decide +kernel
theorem dX9_finest_1 : decode cX9_finest 1 = .ok (.invokestatic 154, 3) := by decide +kernel
theorem dX9_finest_4 : decode cX9_finest 4 = .ok (.ifCond .ne 5, 3) := by decide +kernel
theorem dX9_finest_7 : decode cX9_finest 7 = .ok (.iconst (-1), 1) := by decide +kernel
theorem dX9_finest_8 : decode cX9_finest 8 = .ok (.ireturn, 1) := by decide +kernel
theorem dX9_finest_9 : decode cX9_finest 9 = .ok (.aload_n 0, 1) := by decide +kernel
theorem dX9_finest_10 : decode cX9_finest 10 = .ok (.iload_n 1, 1) := by decide +kernel
theorem dX9_finest_11 : decode cX9_finest 11 = .ok (.invokevirtual 289, 3) := by decide +kernel
theorem dX9_finest_14 : decode cX9_finest 14 = .ok (.istore_n 2, 1) := by decide +kernel
theorem dX9_finest_15 : decode cX9_finest 15 = .ok (.iload_n 2, 1) := by decide +kernel
theorem dX9_finest_16 : decode cX9_finest 16 = .ok (.ifCond .ge 5, 3) := by decide +kernel
theorem dX9_finest_19 : decode cX9_finest 19 = .ok (.iload_n 2, 1) := by decide +kernel
theorem dX9_finest_20 : decode cX9_finest 20 = .ok (.ireturn, 1) := by decide +kernel
theorem dX9_finest_21 : decode cX9_finest 21 = .ok (.aload_n 0, 1) := by decide +kernel
theorem dX9_finest_22 : decode cX9_finest 22 = .ok (.iload_n 1, 1) := by decide +kernel
theorem dX9_finest_23 : decode cX9_finest 23 = .ok (.invokevirtual 292, 3) := by decide +kernel
theorem dX9_finest_26 : decode cX9_finest 26 = .ok (.bipush 9, 2) := by decide +kernel
theorem dX9_finest_28 : decode cX9_finest 28 = .ok (.istore_n 3, 1) := by decide +kernel
theorem dX9_finest_29 : decode cX9_finest 29 = .ok (.iload_n 3, 1) := by decide +kernel
theorem dX9_finest_30 : decode cX9_finest 30 = .ok (.ifCond .lt 19, 3) := by decide +kernel
theorem dX9_finest_33 : decode cX9_finest 33 = .ok (.aload_n 0, 1) := by decide +kernel
theorem dX9_finest_34 : decode cX9_finest 34 = .ok (.iload_n 3, 1) := by decide +kernel
theorem dX9_finest_35 : decode cX9_finest 35 = .ok (.invokevirtual 333, 3) := by decide +kernel
theorem dX9_finest_38 : decode cX9_finest 38 = .ok (.ifCond .eq 5, 3) := by decide +kernel
theorem dX9_finest_41 : decode cX9_finest 41 = .ok (.iload_n 3, 1) := by decide +kernel
theorem dX9_finest_42 : decode cX9_finest 42 = .ok (.ireturn, 1) := by decide +kernel
theorem dX9_finest_43 : decode cX9_finest 43 = .ok (.iinc 3 (-1), 3) := by decide +kernel
theorem dX9_finest_46 : decode cX9_finest 46 = .ok (.goto (-17), 3) := by decide +kernel
theorem dX9_finest_49 : decode cX9_finest 49 = .ok (.bipush (-2), 2) := by decide +kernel
theorem dX9_finest_51 : decode cX9_finest 51 = .ok (.ireturn, 1) := by decide +kernel
theorem dX9_keepsBy_0 : decode cX9_keepsBy 0 = .ok (.iconst 0, 1) := by decide +kernel
theorem dX9_keepsBy_1 : decode cX9_keepsBy 1 = .ok (.istore_n 3, 1) := by decide +kernel
theorem dX9_keepsBy_2 : decode cX9_keepsBy 2 = .ok (.iload_n 3, 1) := by decide +kernel
theorem dX9_keepsBy_3 : decode cX9_keepsBy 3 = .ok (.aload_n 0, 1) := by decide +kernel
theorem dX9_keepsBy_4 : decode cX9_keepsBy 4 = .ok (.getfield 140, 3) := by decide +kernel
theorem dX9_keepsBy_7 : decode cX9_keepsBy 7 = .ok (.if_icmp .ge 36, 3) := by decide +kernel
theorem dX9_keepsBy_10 : decode cX9_keepsBy 10 = .ok (.aload_n 0, 1) := by decide +kernel
theorem dX9_keepsBy_11 : decode cX9_keepsBy 11 = .ok (.iload_n 3, 1) := by decide +kernel
theorem dX9_keepsBy_12 : decode cX9_keepsBy 12 = .ok (.iload_n 1, 1) := by decide +kernel
theorem dX9_keepsBy_13 : decode cX9_keepsBy 13 = .ok (.iconst 0, 1) := by decide +kernel
theorem dX9_keepsBy_14 : decode cX9_keepsBy 14 = .ok (.iconst 0, 1) := by decide +kernel
theorem dX9_keepsBy_15 : decode cX9_keepsBy 15 = .ok (.invokevirtual 271, 3) := by decide +kernel
theorem dX9_keepsBy_18 : decode cX9_keepsBy 18 = .ok (.iload_n 2, 1) := by decide +kernel
theorem dX9_keepsBy_19 : decode cX9_keepsBy 19 = .ok (.iload_n 3, 1) := by decide +kernel
theorem dX9_keepsBy_20 : decode cX9_keepsBy 20 = .ok (.ishr, 1) := by decide +kernel
theorem dX9_keepsBy_21 : decode cX9_keepsBy 21 = .ok (.iconst 1, 1) := by decide +kernel
theorem dX9_keepsBy_22 : decode cX9_keepsBy 22 = .ok (.iand, 1) := by decide +kernel
theorem dX9_keepsBy_23 : decode cX9_keepsBy 23 = .ok (.iconst 1, 1) := by decide +kernel
theorem dX9_keepsBy_24 : decode cX9_keepsBy 24 = .ok (.if_icmp .ne 7, 3) := by decide +kernel
theorem dX9_keepsBy_27 : decode cX9_keepsBy 27 = .ok (.iconst 1, 1) := by decide +kernel
theorem dX9_keepsBy_28 : decode cX9_keepsBy 28 = .ok (.goto 4, 3) := by decide +kernel
theorem dX9_keepsBy_31 : decode cX9_keepsBy 31 = .ok (.iconst 0, 1) := by decide +kernel
theorem dX9_keepsBy_32 : decode cX9_keepsBy 32 = .ok (.if_icmp .ne 5, 3) := by decide +kernel
theorem dX9_keepsBy_35 : decode cX9_keepsBy 35 = .ok (.iconst 0, 1) := by decide +kernel
theorem dX9_keepsBy_36 : decode cX9_keepsBy 36 = .ok (.ireturn, 1) := by decide +kernel
theorem dX9_keepsBy_37 : decode cX9_keepsBy 37 = .ok (.iinc 3 1, 3) := by decide +kernel
theorem dX9_keepsBy_40 : decode cX9_keepsBy 40 = .ok (.goto (-38), 3) := by decide +kernel
theorem dX9_keepsBy_43 : decode cX9_keepsBy 43 = .ok (.iconst 1, 1) := by decide +kernel
theorem dX9_keepsBy_44 : decode cX9_keepsBy 44 = .ok (.ireturn, 1) := by decide +kernel
theorem dX9_keeps_0 : decode cX9_keeps 0 = .ok (.iload_n 1, 1) := by decide +kernel
theorem dX9_keeps_1 : decode cX9_keeps 1 = .ok (.iconst 0, 1) := by decide +kernel
theorem dX9_keeps_2 : decode cX9_keeps 2 = .ok (.sipush 4095, 3) := by decide +kernel
theorem dX9_keeps_5 : decode cX9_keeps 5 = .ok (.invokestatic 143, 3) := by decide +kernel
theorem dX9_keeps_8 : decode cX9_keeps 8 = .ok (.ifCond .ne 5, 3) := by decide +kernel
theorem dX9_keeps_11 : decode cX9_keeps 11 = .ok (.iconst (-1), 1) := by decide +kernel
theorem dX9_keeps_12 : decode cX9_keeps 12 = .ok (.ireturn, 1) := by decide +kernel
theorem dX9_keeps_13 : decode cX9_keeps 13 = .ok (.iconst 0, 1) := by decide +kernel
theorem dX9_keeps_14 : decode cX9_keeps 14 = .ok (.istore_n 2, 1) := by decide +kernel
theorem dX9_keeps_15 : decode cX9_keeps 15 = .ok (.iconst 0, 1) := by decide +kernel
theorem dX9_keeps_16 : decode cX9_keeps 16 = .ok (.istore_n 3, 1) := by decide +kernel
theorem dX9_keeps_17 : decode cX9_keeps 17 = .ok (.iload_n 3, 1) := by decide +kernel
theorem dX9_keeps_18 : decode cX9_keeps 18 = .ok (.aload_n 0, 1) := by decide +kernel
theorem dX9_keeps_19 : decode cX9_keeps 19 = .ok (.getfield 147, 3) := by decide +kernel
theorem dX9_keeps_22 : decode cX9_keeps 22 = .ok (.if_icmp .ge 24, 3) := by decide +kernel
theorem dX9_keeps_25 : decode cX9_keeps 25 = .ok (.aload_n 0, 1) := by decide +kernel
theorem dX9_keeps_26 : decode cX9_keeps 26 = .ok (.iload_n 3, 1) := by decide +kernel
theorem dX9_keeps_27 : decode cX9_keeps 27 = .ok (.iload_n 1, 1) := by decide +kernel
theorem dX9_keeps_28 : decode cX9_keeps 28 = .ok (.invokevirtual 336, 3) := by decide +kernel
theorem dX9_keeps_31 : decode cX9_keeps 31 = .ok (.ifCond .eq 9, 3) := by decide +kernel
theorem dX9_keeps_34 : decode cX9_keeps 34 = .ok (.iload_n 2, 1) := by decide +kernel
theorem dX9_keeps_35 : decode cX9_keeps 35 = .ok (.iconst 1, 1) := by decide +kernel
theorem dX9_keeps_36 : decode cX9_keeps 36 = .ok (.iload_n 3, 1) := by decide +kernel
theorem dX9_keeps_37 : decode cX9_keeps 37 = .ok (.ishl, 1) := by decide +kernel
theorem dX9_keeps_38 : decode cX9_keeps 38 = .ok (.ior, 1) := by decide +kernel
theorem dX9_keeps_39 : decode cX9_keeps 39 = .ok (.istore_n 2, 1) := by decide +kernel
theorem dX9_keeps_40 : decode cX9_keeps 40 = .ok (.iinc 3 1, 3) := by decide +kernel
theorem dX9_keeps_43 : decode cX9_keeps 43 = .ok (.goto (-26), 3) := by decide +kernel
theorem dX9_keeps_46 : decode cX9_keeps 46 = .ok (.iload_n 2, 1) := by decide +kernel
theorem dX9_keeps_47 : decode cX9_keeps 47 = .ok (.ireturn, 1) := by decide +kernel
theorem dX9_leastLost_0 : decode cX9_leastLost 0 = .ok (.iload_n 1, 1) := by decide +kernel
theorem dX9_leastLost_1 : decode cX9_leastLost 1 = .ok (.invokestatic 154, 3) := by decide +kernel
theorem dX9_leastLost_4 : decode cX9_leastLost 4 = .ok (.ifCond .ne 5, 3) := by decide +kernel
theorem dX9_leastLost_7 : decode cX9_leastLost 7 = .ok (.iconst (-1), 1) := by decide +kernel
theorem dX9_leastLost_8 : decode cX9_leastLost 8 = .ok (.ireturn, 1) := by decide +kernel
theorem dX9_leastLost_9 : decode cX9_leastLost 9 = .ok (.aload_n 0, 1) := by decide +kernel
theorem dX9_leastLost_10 : decode cX9_leastLost 10 = .ok (.iload_n 1, 1) := by decide +kernel
theorem dX9_leastLost_11 : decode cX9_leastLost 11 = .ok (.invokevirtual 289, 3) := by decide +kernel
theorem dX9_leastLost_14 : decode cX9_leastLost 14 = .ok (.istore_n 2, 1) := by decide +kernel
theorem dX9_leastLost_15 : decode cX9_leastLost 15 = .ok (.iload_n 2, 1) := by decide +kernel
theorem dX9_leastLost_16 : decode cX9_leastLost 16 = .ok (.ifCond .ge 5, 3) := by decide +kernel
theorem dX9_leastLost_19 : decode cX9_leastLost 19 = .ok (.iload_n 2, 1) := by decide +kernel
theorem dX9_leastLost_20 : decode cX9_leastLost 20 = .ok (.ireturn, 1) := by decide +kernel
theorem dX9_leastLost_21 : decode cX9_leastLost 21 = .ok (.aload_n 0, 1) := by decide +kernel
theorem dX9_leastLost_22 : decode cX9_leastLost 22 = .ok (.iload_n 1, 1) := by decide +kernel
theorem dX9_leastLost_23 : decode cX9_leastLost 23 = .ok (.invokevirtual 292, 3) := by decide +kernel
theorem dX9_leastLost_26 : decode cX9_leastLost 26 = .ok (.bipush (-2), 2) := by decide +kernel
theorem dX9_leastLost_28 : decode cX9_leastLost 28 = .ok (.istore_n 3, 1) := by decide +kernel
theorem dX9_leastLost_29 : decode cX9_leastLost 29 = .ok (.iconst 0, 1) := by decide +kernel
theorem dX9_leastLost_30 : decode cX9_leastLost 30 = .ok (.istore 4, 2) := by decide +kernel
theorem dX9_leastLost_32 : decode cX9_leastLost 32 = .ok (.iconst 0, 1) := by decide +kernel
theorem dX9_leastLost_33 : decode cX9_leastLost 33 = .ok (.istore 5, 2) := by decide +kernel
theorem dX9_leastLost_35 : decode cX9_leastLost 35 = .ok (.iload 5, 2) := by decide +kernel
theorem dX9_leastLost_37 : decode cX9_leastLost 37 = .ok (.aload_n 0, 1) := by decide +kernel
theorem dX9_leastLost_38 : decode cX9_leastLost 38 = .ok (.getfield 147, 3) := by decide +kernel
theorem dX9_leastLost_41 : decode cX9_leastLost 41 = .ok (.if_icmp .ge 83, 3) := by decide +kernel
theorem dX9_leastLost_44 : decode cX9_leastLost 44 = .ok (.aload_n 0, 1) := by decide +kernel
theorem dX9_leastLost_45 : decode cX9_leastLost 45 = .ok (.iload 5, 2) := by decide +kernel
theorem dX9_leastLost_47 : decode cX9_leastLost 47 = .ok (.iconst 0, 1) := by decide +kernel
theorem dX9_leastLost_48 : decode cX9_leastLost 48 = .ok (.invokevirtual 296, 3) := by decide +kernel
theorem dX9_leastLost_51 : decode cX9_leastLost 51 = .ok (.iconst 0, 1) := by decide +kernel
theorem dX9_leastLost_52 : decode cX9_leastLost 52 = .ok (.istore 6, 2) := by decide +kernel
theorem dX9_leastLost_54 : decode cX9_leastLost 54 = .ok (.iconst 0, 1) := by decide +kernel
theorem dX9_leastLost_55 : decode cX9_leastLost 55 = .ok (.istore 7, 2) := by decide +kernel
theorem dX9_leastLost_57 : decode cX9_leastLost 57 = .ok (.iload 7, 2) := by decide +kernel
theorem dX9_leastLost_59 : decode cX9_leastLost 59 = .ok (.aload_n 0, 1) := by decide +kernel
theorem dX9_leastLost_60 : decode cX9_leastLost 60 = .ok (.getfield 283, 3) := by decide +kernel
theorem dX9_leastLost_63 : decode cX9_leastLost 63 = .ok (.if_icmp .ge 26, 3) := by decide +kernel
theorem dX9_leastLost_66 : decode cX9_leastLost 66 = .ok (.iload 6, 2) := by decide +kernel
theorem dX9_leastLost_68 : decode cX9_leastLost 68 = .ok (.aload_n 0, 1) := by decide +kernel
theorem dX9_leastLost_69 : decode cX9_leastLost 69 = .ok (.getfield 18, 3) := by decide +kernel
theorem dX9_leastLost_72 : decode cX9_leastLost 72 = .ok (.aload_n 0, 1) := by decide +kernel
theorem dX9_leastLost_73 : decode cX9_leastLost 73 = .ok (.getfield 87, 3) := by decide +kernel
theorem dX9_leastLost_76 : decode cX9_leastLost 76 = .ok (.iload 7, 2) := by decide +kernel
theorem dX9_leastLost_78 : decode cX9_leastLost 78 = .ok (.iaload, 1) := by decide +kernel
theorem dX9_leastLost_79 : decode cX9_leastLost 79 = .ok (.iaload, 1) := by decide +kernel
theorem dX9_leastLost_80 : decode cX9_leastLost 80 = .ok (.iadd, 1) := by decide +kernel
theorem dX9_leastLost_81 : decode cX9_leastLost 81 = .ok (.istore 6, 2) := by decide +kernel
theorem dX9_leastLost_83 : decode cX9_leastLost 83 = .ok (.iinc 7 1, 3) := by decide +kernel
theorem dX9_leastLost_86 : decode cX9_leastLost 86 = .ok (.goto (-29), 3) := by decide +kernel
theorem dX9_leastLost_89 : decode cX9_leastLost 89 = .ok (.aload_n 0, 1) := by decide +kernel
theorem dX9_leastLost_90 : decode cX9_leastLost 90 = .ok (.iconst 0, 1) := by decide +kernel
theorem dX9_leastLost_91 : decode cX9_leastLost 91 = .ok (.invokevirtual 302, 3) := by decide +kernel
theorem dX9_leastLost_94 : decode cX9_leastLost 94 = .ok (.ifCond .ne 24, 3) := by decide +kernel
theorem dX9_leastLost_97 : decode cX9_leastLost 97 = .ok (.iload_n 3, 1) := by decide +kernel
theorem dX9_leastLost_98 : decode cX9_leastLost 98 = .ok (.ifCond .lt 13, 3) := by decide +kernel
theorem dX9_leastLost_101 : decode cX9_leastLost 101 = .ok (.iload 6, 2) := by decide +kernel
theorem dX9_leastLost_103 : decode cX9_leastLost 103 = .ok (.iload 4, 2) := by decide +kernel
theorem dX9_leastLost_105 : decode cX9_leastLost 105 = .ok (.if_icmp .lt 6, 3) := by decide +kernel
theorem dX9_leastLost_108 : decode cX9_leastLost 108 = .ok (.goto 10, 3) := by decide +kernel
theorem dX9_leastLost_111 : decode cX9_leastLost 111 = .ok (.iload 5, 2) := by decide +kernel
theorem dX9_leastLost_113 : decode cX9_leastLost 113 = .ok (.istore_n 3, 1) := by decide +kernel
theorem dX9_leastLost_114 : decode cX9_leastLost 114 = .ok (.iload 6, 2) := by decide +kernel
theorem dX9_leastLost_116 : decode cX9_leastLost 116 = .ok (.istore 4, 2) := by decide +kernel
theorem dX9_leastLost_118 : decode cX9_leastLost 118 = .ok (.iinc 5 1, 3) := by decide +kernel
theorem dX9_leastLost_121 : decode cX9_leastLost 121 = .ok (.goto (-86), 3) := by decide +kernel
theorem dX9_leastLost_124 : decode cX9_leastLost 124 = .ok (.iload_n 3, 1) := by decide +kernel
theorem dX9_leastLost_125 : decode cX9_leastLost 125 = .ok (.ireturn, 1) := by decide +kernel
theorem dX9_laySet_0 : decode cX9_laySet 0 = .ok (.aload_n 0, 1) := by decide +kernel
theorem dX9_laySet_1 : decode cX9_laySet 1 = .ok (.iconst 0, 1) := by decide +kernel
theorem dX9_laySet_2 : decode cX9_laySet 2 = .ok (.putfield 274, 3) := by decide +kernel
theorem dX9_laySet_5 : decode cX9_laySet 5 = .ok (.iconst 0, 1) := by decide +kernel
theorem dX9_laySet_6 : decode cX9_laySet 6 = .ok (.istore_n 2, 1) := by decide +kernel
theorem dX9_laySet_7 : decode cX9_laySet 7 = .ok (.iload_n 2, 1) := by decide +kernel
theorem dX9_laySet_8 : decode cX9_laySet 8 = .ok (.aload_n 0, 1) := by decide +kernel
theorem dX9_laySet_9 : decode cX9_laySet 9 = .ok (.getfield 140, 3) := by decide +kernel
theorem dX9_laySet_12 : decode cX9_laySet 12 = .ok (.if_icmp .ge 40, 3) := by decide +kernel
theorem dX9_laySet_15 : decode cX9_laySet 15 = .ok (.iload_n 1, 1) := by decide +kernel
theorem dX9_laySet_16 : decode cX9_laySet 16 = .ok (.iload_n 2, 1) := by decide +kernel
theorem dX9_laySet_17 : decode cX9_laySet 17 = .ok (.ishr, 1) := by decide +kernel
theorem dX9_laySet_18 : decode cX9_laySet 18 = .ok (.iconst 1, 1) := by decide +kernel
theorem dX9_laySet_19 : decode cX9_laySet 19 = .ok (.iand, 1) := by decide +kernel
theorem dX9_laySet_20 : decode cX9_laySet 20 = .ok (.ifCond .ne 6, 3) := by decide +kernel
theorem dX9_laySet_23 : decode cX9_laySet 23 = .ok (.goto 23, 3) := by decide +kernel
theorem dX9_laySet_26 : decode cX9_laySet 26 = .ok (.aload_n 0, 1) := by decide +kernel
theorem dX9_laySet_27 : decode cX9_laySet 27 = .ok (.getfield 81, 3) := by decide +kernel
theorem dX9_laySet_30 : decode cX9_laySet 30 = .ok (.aload_n 0, 1) := by decide +kernel
theorem dX9_laySet_31 : decode cX9_laySet 31 = .ok (.getfield 274, 3) := by decide +kernel
theorem dX9_laySet_34 : decode cX9_laySet 34 = .ok (.iload_n 2, 1) := by decide +kernel
theorem dX9_laySet_35 : decode cX9_laySet 35 = .ok (.iastore, 1) := by decide +kernel
theorem dX9_laySet_36 : decode cX9_laySet 36 = .ok (.aload_n 0, 1) := by decide +kernel
theorem dX9_laySet_37 : decode cX9_laySet 37 = .ok (.dup, 1) := by decide +kernel
theorem dX9_laySet_38 : decode cX9_laySet 38 = .ok (.getfield 274, 3) := by decide +kernel
theorem dX9_laySet_41 : decode cX9_laySet 41 = .ok (.iconst 1, 1) := by decide +kernel
theorem dX9_laySet_42 : decode cX9_laySet 42 = .ok (.iadd, 1) := by decide +kernel
theorem dX9_laySet_43 : decode cX9_laySet 43 = .ok (.putfield 274, 3) := by decide +kernel
theorem dX9_laySet_46 : decode cX9_laySet 46 = .ok (.iinc 2 1, 3) := by decide +kernel
theorem dX9_laySet_49 : decode cX9_laySet 49 = .ok (.goto (-42), 3) := by decide +kernel
theorem dX9_laySet_52 : decode cX9_laySet 52 = .ok (.return_, 1) := by decide +kernel
theorem dX9_most_0 : decode cX9_most 0 = .ok (.iload_n 1, 1) := by decide +kernel
theorem dX9_most_1 : decode cX9_most 1 = .ok (.iconst 0, 1) := by decide +kernel
theorem dX9_most_2 : decode cX9_most 2 = .ok (.iconst 1, 1) := by decide +kernel
theorem dX9_most_3 : decode cX9_most 3 = .ok (.invokestatic 143, 3) := by decide +kernel
theorem dX9_most_6 : decode cX9_most 6 = .ok (.ifCond .ne 5, 3) := by decide +kernel
theorem dX9_most_9 : decode cX9_most 9 = .ok (.iconst (-1), 1) := by decide +kernel
theorem dX9_most_10 : decode cX9_most 10 = .ok (.ireturn, 1) := by decide +kernel
theorem dX9_most_11 : decode cX9_most 11 = .ok (.iconst (-1), 1) := by decide +kernel
theorem dX9_most_12 : decode cX9_most 12 = .ok (.istore_n 2, 1) := by decide +kernel
theorem dX9_most_13 : decode cX9_most 13 = .ok (.iconst 0, 1) := by decide +kernel
theorem dX9_most_14 : decode cX9_most 14 = .ok (.istore_n 3, 1) := by decide +kernel
theorem dX9_most_15 : decode cX9_most 15 = .ok (.iload_n 3, 1) := by decide +kernel
theorem dX9_most_16 : decode cX9_most 16 = .ok (.iconst 1, 1) := by decide +kernel
theorem dX9_most_17 : decode cX9_most 17 = .ok (.aload_n 0, 1) := by decide +kernel
theorem dX9_most_18 : decode cX9_most 18 = .ok (.getfield 140, 3) := by decide +kernel
theorem dX9_most_21 : decode cX9_most 21 = .ok (.ishl, 1) := by decide +kernel
theorem dX9_most_22 : decode cX9_most 22 = .ok (.if_icmp .ge 42, 3) := by decide +kernel
theorem dX9_most_25 : decode cX9_most 25 = .ok (.iload_n 2, 1) := by decide +kernel
theorem dX9_most_26 : decode cX9_most 26 = .ok (.ifCond .lt 17, 3) := by decide +kernel
theorem dX9_most_29 : decode cX9_most 29 = .ok (.iload_n 3, 1) := by decide +kernel
theorem dX9_most_30 : decode cX9_most 30 = .ok (.invokestatic 339, 3) := by decide +kernel
theorem dX9_most_33 : decode cX9_most 33 = .ok (.iload_n 2, 1) := by decide +kernel
theorem dX9_most_34 : decode cX9_most 34 = .ok (.invokestatic 339, 3) := by decide +kernel
theorem dX9_most_37 : decode cX9_most 37 = .ok (.if_icmp .gt 6, 3) := by decide +kernel
theorem dX9_most_40 : decode cX9_most 40 = .ok (.goto 18, 3) := by decide +kernel
theorem dX9_most_43 : decode cX9_most 43 = .ok (.aload_n 0, 1) := by decide +kernel
theorem dX9_most_44 : decode cX9_most 44 = .ok (.iload_n 3, 1) := by decide +kernel
theorem dX9_most_45 : decode cX9_most 45 = .ok (.invokevirtual 342, 3) := by decide +kernel
theorem dX9_most_48 : decode cX9_most 48 = .ok (.aload_n 0, 1) := by decide +kernel
theorem dX9_most_49 : decode cX9_most 49 = .ok (.iconst 1, 1) := by decide +kernel
theorem dX9_most_50 : decode cX9_most 50 = .ok (.invokevirtual 302, 3) := by decide +kernel
theorem dX9_most_53 : decode cX9_most 53 = .ok (.ifCond .ne 5, 3) := by decide +kernel
theorem dX9_most_56 : decode cX9_most 56 = .ok (.iload_n 3, 1) := by decide +kernel
theorem dX9_most_57 : decode cX9_most 57 = .ok (.istore_n 2, 1) := by decide +kernel
theorem dX9_most_58 : decode cX9_most 58 = .ok (.iinc 3 1, 3) := by decide +kernel
theorem dX9_most_61 : decode cX9_most 61 = .ok (.goto (-46), 3) := by decide +kernel
theorem dX9_most_64 : decode cX9_most 64 = .ok (.iload_n 2, 1) := by decide +kernel
theorem dX9_most_65 : decode cX9_most 65 = .ok (.ifCond .ge 8, 3) := by decide +kernel
theorem dX9_most_68 : decode cX9_most 68 = .ok (.bipush (-2), 2) := by decide +kernel
theorem dX9_most_70 : decode cX9_most 70 = .ok (.goto 15, 3) := by decide +kernel
theorem dX9_most_73 : decode cX9_most 73 = .ok (.iload_n 1, 1) := by decide +kernel
theorem dX9_most_74 : decode cX9_most 74 = .ok (.ifCond .ne 10, 3) := by decide +kernel
theorem dX9_most_77 : decode cX9_most 77 = .ok (.iload_n 2, 1) := by decide +kernel
theorem dX9_most_78 : decode cX9_most 78 = .ok (.invokestatic 339, 3) := by decide +kernel
theorem dX9_most_81 : decode cX9_most 81 = .ok (.goto 4, 3) := by decide +kernel
theorem dX9_most_84 : decode cX9_most 84 = .ok (.iload_n 2, 1) := by decide +kernel
theorem dX9_most_85 : decode cX9_most 85 = .ok (.ireturn, 1) := by decide +kernel
theorem dX9_wayAt_0 : decode cX9_wayAt 0 = .ok (.aload_n 0, 1) := by decide +kernel
theorem dX9_wayAt_1 : decode cX9_wayAt 1 = .ok (.getfield 97, 3) := by decide +kernel
theorem dX9_wayAt_4 : decode cX9_wayAt 4 = .ok (.bipush 13, 2) := by decide +kernel
theorem dX9_wayAt_6 : decode cX9_wayAt 6 = .ok (.iload_n 1, 1) := by decide +kernel
theorem dX9_wayAt_7 : decode cX9_wayAt 7 = .ok (.imul, 1) := by decide +kernel
theorem dX9_wayAt_8 : decode cX9_wayAt 8 = .ok (.iload_n 2, 1) := by decide +kernel
theorem dX9_wayAt_9 : decode cX9_wayAt 9 = .ok (.iadd, 1) := by decide +kernel
theorem dX9_wayAt_10 : decode cX9_wayAt 10 = .ok (.laload, 1) := by decide +kernel
theorem dX9_wayAt_11 : decode cX9_wayAt 11 = .ok (.lreturn, 1) := by decide +kernel
theorem dX9_comes_0 : decode cX9_comes 0 = .ok (.iload_n 1, 1) := by decide +kernel
theorem dX9_comes_1 : decode cX9_comes 1 = .ok (.aload_n 0, 1) := by decide +kernel
theorem dX9_comes_2 : decode cX9_comes 2 = .ok (.getfield 315, 3) := by decide +kernel
theorem dX9_comes_5 : decode cX9_comes 5 = .ok (.if_icmp .ge 25, 3) := by decide +kernel
theorem dX9_comes_8 : decode cX9_comes 8 = .ok (.aload_n 0, 1) := by decide +kernel
theorem dX9_comes_9 : decode cX9_comes 9 = .ok (.aload_n 0, 1) := by decide +kernel
theorem dX9_comes_10 : decode cX9_comes 10 = .ok (.getfield 94, 3) := by decide +kernel
theorem dX9_comes_13 : decode cX9_comes 13 = .ok (.iload_n 1, 1) := by decide +kernel
theorem dX9_comes_14 : decode cX9_comes 14 = .ok (.iaload, 1) := by decide +kernel
theorem dX9_comes_15 : decode cX9_comes 15 = .ok (.iload_n 3, 1) := by decide +kernel
theorem dX9_comes_16 : decode cX9_comes 16 = .ok (.iload_n 1, 1) := by decide +kernel
theorem dX9_comes_17 : decode cX9_comes 17 = .ok (.iload_n 2, 1) := by decide +kernel
theorem dX9_comes_18 : decode cX9_comes 18 = .ok (.iadd, 1) := by decide +kernel
theorem dX9_comes_19 : decode cX9_comes 19 = .ok (.iload_n 2, 1) := by decide +kernel
theorem dX9_comes_20 : decode cX9_comes 20 = .ok (.invokevirtual 271, 3) := by decide +kernel
theorem dX9_comes_23 : decode cX9_comes 23 = .ok (.ifCond .eq 7, 3) := by decide +kernel
theorem dX9_comes_26 : decode cX9_comes 26 = .ok (.iconst 1, 1) := by decide +kernel
theorem dX9_comes_27 : decode cX9_comes 27 = .ok (.goto 4, 3) := by decide +kernel
theorem dX9_comes_30 : decode cX9_comes 30 = .ok (.iconst 0, 1) := by decide +kernel
theorem dX9_comes_31 : decode cX9_comes 31 = .ok (.ireturn, 1) := by decide +kernel
theorem dX9_stays_0 : decode cX9_stays 0 = .ok (.iload_n 2, 1) := by decide +kernel
theorem dX9_stays_1 : decode cX9_stays 1 = .ok (.aload_n 0, 1) := by decide +kernel
theorem dX9_stays_2 : decode cX9_stays 2 = .ok (.getfield 345, 3) := by decide +kernel
theorem dX9_stays_5 : decode cX9_stays 5 = .ok (.if_icmp .ge 25, 3) := by decide +kernel
theorem dX9_stays_8 : decode cX9_stays 8 = .ok (.aload_n 0, 1) := by decide +kernel
theorem dX9_stays_9 : decode cX9_stays 9 = .ok (.aload_n 0, 1) := by decide +kernel
theorem dX9_stays_10 : decode cX9_stays 10 = .ok (.getfield 101, 3) := by decide +kernel
theorem dX9_stays_13 : decode cX9_stays 13 = .ok (.iload_n 2, 1) := by decide +kernel
theorem dX9_stays_14 : decode cX9_stays 14 = .ok (.iaload, 1) := by decide +kernel
theorem dX9_stays_15 : decode cX9_stays 15 = .ok (.iload_n 3, 1) := by decide +kernel
theorem dX9_stays_16 : decode cX9_stays 16 = .ok (.iload_n 1, 1) := by decide +kernel
theorem dX9_stays_17 : decode cX9_stays 17 = .ok (.iload_n 2, 1) := by decide +kernel
theorem dX9_stays_18 : decode cX9_stays 18 = .ok (.iadd, 1) := by decide +kernel
theorem dX9_stays_19 : decode cX9_stays 19 = .ok (.iload_n 2, 1) := by decide +kernel
theorem dX9_stays_20 : decode cX9_stays 20 = .ok (.invokevirtual 271, 3) := by decide +kernel
theorem dX9_stays_23 : decode cX9_stays 23 = .ok (.ifCond .ne 7, 3) := by decide +kernel
theorem dX9_stays_26 : decode cX9_stays 26 = .ok (.iconst 1, 1) := by decide +kernel
theorem dX9_stays_27 : decode cX9_stays 27 = .ok (.goto 4, 3) := by decide +kernel
theorem dX9_stays_30 : decode cX9_stays 30 = .ok (.iconst 0, 1) := by decide +kernel
theorem dX9_stays_31 : decode cX9_stays 31 = .ok (.ireturn, 1) := by decide +kernel
theorem dX9_layBoth_0 : decode cX9_layBoth 0 = .ok (.aload_n 0, 1) := by decide +kernel
theorem dX9_layBoth_1 : decode cX9_layBoth 1 = .ok (.iload_n 1, 1) := by decide +kernel
theorem dX9_layBoth_2 : decode cX9_layBoth 2 = .ok (.bipush 10, 2) := by decide +kernel
theorem dX9_layBoth_4 : decode cX9_layBoth 4 = .ok (.irem, 1) := by decide +kernel
theorem dX9_layBoth_5 : decode cX9_layBoth 5 = .ok (.invokevirtual 292, 3) := by decide +kernel
theorem dX9_layBoth_8 : decode cX9_layBoth 8 = .ok (.aload_n 0, 1) := by decide +kernel
theorem dX9_layBoth_9 : decode cX9_layBoth 9 = .ok (.aload_n 0, 1) := by decide +kernel
theorem dX9_layBoth_10 : decode cX9_layBoth 10 = .ok (.getfield 274, 3) := by decide +kernel
theorem dX9_layBoth_13 : decode cX9_layBoth 13 = .ok (.putfield 345, 3) := by decide +kernel
theorem dX9_layBoth_16 : decode cX9_layBoth 16 = .ok (.iconst 0, 1) := by decide +kernel
theorem dX9_layBoth_17 : decode cX9_layBoth 17 = .ok (.istore_n 2, 1) := by decide +kernel
theorem dX9_layBoth_18 : decode cX9_layBoth 18 = .ok (.iload_n 2, 1) := by decide +kernel
theorem dX9_layBoth_19 : decode cX9_layBoth 19 = .ok (.aload_n 0, 1) := by decide +kernel
theorem dX9_layBoth_20 : decode cX9_layBoth 20 = .ok (.getfield 345, 3) := by decide +kernel
theorem dX9_layBoth_23 : decode cX9_layBoth 23 = .ok (.if_icmp .ge 21, 3) := by decide +kernel
theorem dX9_layBoth_26 : decode cX9_layBoth 26 = .ok (.aload_n 0, 1) := by decide +kernel
theorem dX9_layBoth_27 : decode cX9_layBoth 27 = .ok (.getfield 101, 3) := by decide +kernel
theorem dX9_layBoth_30 : decode cX9_layBoth 30 = .ok (.iload_n 2, 1) := by decide +kernel
theorem dX9_layBoth_31 : decode cX9_layBoth 31 = .ok (.aload_n 0, 1) := by decide +kernel
theorem dX9_layBoth_32 : decode cX9_layBoth 32 = .ok (.getfield 81, 3) := by decide +kernel
theorem dX9_layBoth_35 : decode cX9_layBoth 35 = .ok (.iload_n 2, 1) := by decide +kernel
theorem dX9_layBoth_36 : decode cX9_layBoth 36 = .ok (.iaload, 1) := by decide +kernel
theorem dX9_layBoth_37 : decode cX9_layBoth 37 = .ok (.iastore, 1) := by decide +kernel
theorem dX9_layBoth_38 : decode cX9_layBoth 38 = .ok (.iinc 2 1, 3) := by decide +kernel
theorem dX9_layBoth_41 : decode cX9_layBoth 41 = .ok (.goto (-23), 3) := by decide +kernel
theorem dX9_layBoth_44 : decode cX9_layBoth 44 = .ok (.aload_n 0, 1) := by decide +kernel
theorem dX9_layBoth_45 : decode cX9_layBoth 45 = .ok (.iload_n 1, 1) := by decide +kernel
theorem dX9_layBoth_46 : decode cX9_layBoth 46 = .ok (.bipush 10, 2) := by decide +kernel
theorem dX9_layBoth_48 : decode cX9_layBoth 48 = .ok (.idiv, 1) := by decide +kernel
theorem dX9_layBoth_49 : decode cX9_layBoth 49 = .ok (.invokevirtual 324, 3) := by decide +kernel
theorem dX9_layBoth_52 : decode cX9_layBoth 52 = .ok (.return_, 1) := by decide +kernel
theorem dX9_findSaid_0 : decode cX9_findSaid 0 = .ok (.aload_n 0, 1) := by decide +kernel
theorem dX9_findSaid_1 : decode cX9_findSaid 1 = .ok (.getfield 315, 3) := by decide +kernel
theorem dX9_findSaid_4 : decode cX9_findSaid 4 = .ok (.istore_n 2, 1) := by decide +kernel
theorem dX9_findSaid_5 : decode cX9_findSaid 5 = .ok (.iload_n 2, 1) := by decide +kernel
theorem dX9_findSaid_6 : decode cX9_findSaid 6 = .ok (.ifCond .lt 106, 3) := by decide +kernel
theorem dX9_findSaid_9 : decode cX9_findSaid 9 = .ok (.aload_n 0, 1) := by decide +kernel
theorem dX9_findSaid_10 : decode cX9_findSaid 10 = .ok (.getfield 345, 3) := by decide +kernel
theorem dX9_findSaid_13 : decode cX9_findSaid 13 = .ok (.istore_n 3, 1) := by decide +kernel
theorem dX9_findSaid_14 : decode cX9_findSaid 14 = .ok (.iload_n 3, 1) := by decide +kernel
theorem dX9_findSaid_15 : decode cX9_findSaid 15 = .ok (.ifCond .lt 91, 3) := by decide +kernel
theorem dX9_findSaid_18 : decode cX9_findSaid 18 = .ok (.iload_n 2, 1) := by decide +kernel
theorem dX9_findSaid_19 : decode cX9_findSaid 19 = .ok (.aload_n 0, 1) := by decide +kernel
theorem dX9_findSaid_20 : decode cX9_findSaid 20 = .ok (.getfield 315, 3) := by decide +kernel
theorem dX9_findSaid_23 : decode cX9_findSaid 23 = .ok (.if_icmp .ne 15, 3) := by decide +kernel
theorem dX9_findSaid_26 : decode cX9_findSaid 26 = .ok (.iload_n 3, 1) := by decide +kernel
theorem dX9_findSaid_27 : decode cX9_findSaid 27 = .ok (.aload_n 0, 1) := by decide +kernel
theorem dX9_findSaid_28 : decode cX9_findSaid 28 = .ok (.getfield 345, 3) := by decide +kernel
theorem dX9_findSaid_31 : decode cX9_findSaid 31 = .ok (.if_icmp .ne 7, 3) := by decide +kernel
theorem dX9_findSaid_34 : decode cX9_findSaid 34 = .ok (.lconst 1, 1) := by decide +kernel
theorem dX9_findSaid_35 : decode cX9_findSaid 35 = .ok (.goto 4, 3) := by decide +kernel
theorem dX9_findSaid_38 : decode cX9_findSaid 38 = .ok (.lconst 0, 1) := by decide +kernel
theorem dX9_findSaid_39 : decode cX9_findSaid 39 = .ok (.lstore 4, 2) := by decide +kernel
theorem dX9_findSaid_41 : decode cX9_findSaid 41 = .ok (.aload_n 0, 1) := by decide +kernel
theorem dX9_findSaid_42 : decode cX9_findSaid 42 = .ok (.iload_n 2, 1) := by decide +kernel
theorem dX9_findSaid_43 : decode cX9_findSaid 43 = .ok (.iload_n 3, 1) := by decide +kernel
theorem dX9_findSaid_44 : decode cX9_findSaid 44 = .ok (.iload_n 1, 1) := by decide +kernel
theorem dX9_findSaid_45 : decode cX9_findSaid 45 = .ok (.invokevirtual 348, 3) := by decide +kernel
theorem dX9_findSaid_48 : decode cX9_findSaid 48 = .ok (.ifCond .eq 16, 3) := by decide +kernel
theorem dX9_findSaid_51 : decode cX9_findSaid 51 = .ok (.lload 4, 2) := by decide +kernel
theorem dX9_findSaid_53 : decode cX9_findSaid 53 = .ok (.aload_n 0, 1) := by decide +kernel
theorem dX9_findSaid_54 : decode cX9_findSaid 54 = .ok (.iload_n 2, 1) := by decide +kernel
theorem dX9_findSaid_55 : decode cX9_findSaid 55 = .ok (.iconst 1, 1) := by decide +kernel
theorem dX9_findSaid_56 : decode cX9_findSaid 56 = .ok (.iadd, 1) := by decide +kernel
theorem dX9_findSaid_57 : decode cX9_findSaid 57 = .ok (.iload_n 3, 1) := by decide +kernel
theorem dX9_findSaid_58 : decode cX9_findSaid 58 = .ok (.invokevirtual 351, 3) := by decide +kernel
theorem dX9_findSaid_61 : decode cX9_findSaid 61 = .ok (.ladd, 1) := by decide +kernel
theorem dX9_findSaid_62 : decode cX9_findSaid 62 = .ok (.lstore 4, 2) := by decide +kernel
theorem dX9_findSaid_64 : decode cX9_findSaid 64 = .ok (.aload_n 0, 1) := by decide +kernel
theorem dX9_findSaid_65 : decode cX9_findSaid 65 = .ok (.iload_n 2, 1) := by decide +kernel
theorem dX9_findSaid_66 : decode cX9_findSaid 66 = .ok (.iload_n 3, 1) := by decide +kernel
theorem dX9_findSaid_67 : decode cX9_findSaid 67 = .ok (.iload_n 1, 1) := by decide +kernel
theorem dX9_findSaid_68 : decode cX9_findSaid 68 = .ok (.invokevirtual 355, 3) := by decide +kernel
theorem dX9_findSaid_71 : decode cX9_findSaid 71 = .ok (.ifCond .eq 16, 3) := by decide +kernel
theorem dX9_findSaid_74 : decode cX9_findSaid 74 = .ok (.lload 4, 2) := by decide +kernel
theorem dX9_findSaid_76 : decode cX9_findSaid 76 = .ok (.aload_n 0, 1) := by decide +kernel
theorem dX9_findSaid_77 : decode cX9_findSaid 77 = .ok (.iload_n 2, 1) := by decide +kernel
theorem dX9_findSaid_78 : decode cX9_findSaid 78 = .ok (.iload_n 3, 1) := by decide +kernel
theorem dX9_findSaid_79 : decode cX9_findSaid 79 = .ok (.iconst 1, 1) := by decide +kernel
theorem dX9_findSaid_80 : decode cX9_findSaid 80 = .ok (.iadd, 1) := by decide +kernel
theorem dX9_findSaid_81 : decode cX9_findSaid 81 = .ok (.invokevirtual 351, 3) := by decide +kernel
theorem dX9_findSaid_84 : decode cX9_findSaid 84 = .ok (.ladd, 1) := by decide +kernel
theorem dX9_findSaid_85 : decode cX9_findSaid 85 = .ok (.lstore 4, 2) := by decide +kernel
theorem dX9_findSaid_87 : decode cX9_findSaid 87 = .ok (.aload_n 0, 1) := by decide +kernel
theorem dX9_findSaid_88 : decode cX9_findSaid 88 = .ok (.getfield 97, 3) := by decide +kernel
theorem dX9_findSaid_91 : decode cX9_findSaid 91 = .ok (.bipush 13, 2) := by decide +kernel
theorem dX9_findSaid_93 : decode cX9_findSaid 93 = .ok (.iload_n 2, 1) := by decide +kernel
theorem dX9_findSaid_94 : decode cX9_findSaid 94 = .ok (.imul, 1) := by decide +kernel
theorem dX9_findSaid_95 : decode cX9_findSaid 95 = .ok (.iload_n 3, 1) := by decide +kernel
theorem dX9_findSaid_96 : decode cX9_findSaid 96 = .ok (.iadd, 1) := by decide +kernel
theorem dX9_findSaid_97 : decode cX9_findSaid 97 = .ok (.lload 4, 2) := by decide +kernel
theorem dX9_findSaid_99 : decode cX9_findSaid 99 = .ok (.lastore, 1) := by decide +kernel
theorem dX9_findSaid_100 : decode cX9_findSaid 100 = .ok (.iinc 3 (-1), 3) := by decide +kernel
theorem dX9_findSaid_103 : decode cX9_findSaid 103 = .ok (.goto (-89), 3) := by decide +kernel
theorem dX9_findSaid_106 : decode cX9_findSaid 106 = .ok (.iinc 2 (-1), 3) := by decide +kernel
theorem dX9_findSaid_109 : decode cX9_findSaid 109 = .ok (.goto (-104), 3) := by decide +kernel
theorem dX9_findSaid_112 : decode cX9_findSaid 112 = .ok (.return_, 1) := by decide +kernel
theorem dX9_isMuch_0 : decode cX9_isMuch 0 = .ok (.aload_n 0, 1) := by decide +kernel
theorem dX9_isMuch_1 : decode cX9_isMuch 1 = .ok (.getfield 315, 3) := by decide +kernel
theorem dX9_isMuch_4 : decode cX9_isMuch 4 = .ok (.aload_n 0, 1) := by decide +kernel
theorem dX9_isMuch_5 : decode cX9_isMuch 5 = .ok (.getfield 345, 3) := by decide +kernel
theorem dX9_isMuch_8 : decode cX9_isMuch 8 = .ok (.iadd, 1) := by decide +kernel
theorem dX9_isMuch_9 : decode cX9_isMuch 9 = .ok (.bipush 12, 2) := by decide +kernel
theorem dX9_isMuch_11 : decode cX9_isMuch 11 = .ok (.if_icmp .le 7, 3) := by decide +kernel
theorem dX9_isMuch_14 : decode cX9_isMuch 14 = .ok (.iconst 1, 1) := by decide +kernel
theorem dX9_isMuch_15 : decode cX9_isMuch 15 = .ok (.goto 4, 3) := by decide +kernel
theorem dX9_isMuch_18 : decode cX9_isMuch 18 = .ok (.iconst 0, 1) := by decide +kernel
theorem dX9_isMuch_19 : decode cX9_isMuch 19 = .ok (.ireturn, 1) := by decide +kernel
theorem dX9_said_0 : decode cX9_said 0 = .ok (.iload_n 1, 1) := by decide +kernel
theorem dX9_said_1 : decode cX9_said 1 = .ok (.invokestatic 309, 3) := by decide +kernel
theorem dX9_said_4 : decode cX9_said 4 = .ok (.ifCond .eq 19, 3) := by decide +kernel
theorem dX9_said_7 : decode cX9_said 7 = .ok (.aload_n 0, 1) := by decide +kernel
theorem dX9_said_8 : decode cX9_said 8 = .ok (.iload_n 2, 1) := by decide +kernel
theorem dX9_said_9 : decode cX9_said 9 = .ok (.invokevirtual 286, 3) := by decide +kernel
theorem dX9_said_12 : decode cX9_said 12 = .ok (.ifCond .eq 11, 3) := by decide +kernel
theorem dX9_said_15 : decode cX9_said 15 = .ok (.aload_n 0, 1) := by decide +kernel
theorem dX9_said_16 : decode cX9_said 16 = .ok (.iload_n 1, 1) := by decide +kernel
theorem dX9_said_17 : decode cX9_said 17 = .ok (.invokevirtual 312, 3) := by decide +kernel
theorem dX9_said_20 : decode cX9_said 20 = .ok (.ifCond .ge 7, 3) := by decide +kernel
theorem dX9_said_23 : decode cX9_said 23 = .ok (.ldc2_w 358, 3) := by decide +kernel
theorem dX9_said_26 : decode cX9_said 26 = .ok (.lreturn, 1) := by decide +kernel
theorem dX9_said_27 : decode cX9_said 27 = .ok (.aload_n 0, 1) := by decide +kernel
theorem dX9_said_28 : decode cX9_said 28 = .ok (.iload_n 1, 1) := by decide +kernel
theorem dX9_said_29 : decode cX9_said 29 = .ok (.invokevirtual 360, 3) := by decide +kernel
theorem dX9_said_32 : decode cX9_said 32 = .ok (.aload_n 0, 1) := by decide +kernel
theorem dX9_said_33 : decode cX9_said 33 = .ok (.invokevirtual 363, 3) := by decide +kernel
theorem dX9_said_36 : decode cX9_said 36 = .ok (.ifCond .eq 5, 3) := by decide +kernel
theorem dX9_said_39 : decode cX9_said 39 = .ok (.lconst 0, 1) := by decide +kernel
theorem dX9_said_40 : decode cX9_said 40 = .ok (.lreturn, 1) := by decide +kernel
theorem dX9_said_41 : decode cX9_said 41 = .ok (.aload_n 0, 1) := by decide +kernel
theorem dX9_said_42 : decode cX9_said 42 = .ok (.iload_n 2, 1) := by decide +kernel
theorem dX9_said_43 : decode cX9_said 43 = .ok (.invokevirtual 366, 3) := by decide +kernel
theorem dX9_said_46 : decode cX9_said 46 = .ok (.aload_n 0, 1) := by decide +kernel
theorem dX9_said_47 : decode cX9_said 47 = .ok (.iconst 0, 1) := by decide +kernel
theorem dX9_said_48 : decode cX9_said 48 = .ok (.iconst 0, 1) := by decide +kernel
theorem dX9_said_49 : decode cX9_said 49 = .ok (.invokevirtual 351, 3) := by decide +kernel
theorem dX9_said_52 : decode cX9_said 52 = .ok (.lreturn, 1) := by decide +kernel
theorem dX9_saidAt_0 : decode cX9_saidAt 0 = .ok (.iload_n 1, 1) := by decide +kernel
theorem dX9_saidAt_1 : decode cX9_saidAt 1 = .ok (.invokestatic 309, 3) := by decide +kernel
theorem dX9_saidAt_4 : decode cX9_saidAt 4 = .ok (.ifCond .eq 15, 3) := by decide +kernel
theorem dX9_saidAt_7 : decode cX9_saidAt 7 = .ok (.aload_n 0, 1) := by decide +kernel
theorem dX9_saidAt_8 : decode cX9_saidAt 8 = .ok (.iload_n 2, 1) := by decide +kernel
theorem dX9_saidAt_9 : decode cX9_saidAt 9 = .ok (.invokevirtual 286, 3) := by decide +kernel
theorem dX9_saidAt_12 : decode cX9_saidAt 12 = .ok (.ifCond .eq 7, 3) := by decide +kernel
theorem dX9_saidAt_15 : decode cX9_saidAt 15 = .ok (.iload_n 3, 1) := by decide +kernel
theorem dX9_saidAt_16 : decode cX9_saidAt 16 = .ok (.ifCond .ge 5, 3) := by decide +kernel
theorem dX9_saidAt_19 : decode cX9_saidAt 19 = .ok (.iconst (-1), 1) := by decide +kernel
theorem dX9_saidAt_20 : decode cX9_saidAt 20 = .ok (.ireturn, 1) := by decide +kernel
theorem dX9_saidAt_21 : decode cX9_saidAt 21 = .ok (.aload_n 0, 1) := by decide +kernel
theorem dX9_saidAt_22 : decode cX9_saidAt 22 = .ok (.iload_n 1, 1) := by decide +kernel
theorem dX9_saidAt_23 : decode cX9_saidAt 23 = .ok (.invokevirtual 312, 3) := by decide +kernel
theorem dX9_saidAt_26 : decode cX9_saidAt 26 = .ok (.istore 4, 2) := by decide +kernel
theorem dX9_saidAt_28 : decode cX9_saidAt 28 = .ok (.iload 4, 2) := by decide +kernel
theorem dX9_saidAt_30 : decode cX9_saidAt 30 = .ok (.ifCond .ge 6, 3) := by decide +kernel
theorem dX9_saidAt_33 : decode cX9_saidAt 33 = .ok (.iload 4, 2) := by decide +kernel
theorem dX9_saidAt_35 : decode cX9_saidAt 35 = .ok (.ireturn, 1) := by decide +kernel
theorem dX9_saidAt_36 : decode cX9_saidAt 36 = .ok (.aload_n 0, 1) := by decide +kernel
theorem dX9_saidAt_37 : decode cX9_saidAt 37 = .ok (.iload_n 1, 1) := by decide +kernel
theorem dX9_saidAt_38 : decode cX9_saidAt 38 = .ok (.invokevirtual 360, 3) := by decide +kernel
theorem dX9_saidAt_41 : decode cX9_saidAt 41 = .ok (.aload_n 0, 1) := by decide +kernel
theorem dX9_saidAt_42 : decode cX9_saidAt 42 = .ok (.invokevirtual 363, 3) := by decide +kernel
theorem dX9_saidAt_45 : decode cX9_saidAt 45 = .ok (.ifCond .ne 16, 3) := by decide +kernel
theorem dX9_saidAt_48 : decode cX9_saidAt 48 = .ok (.iload_n 3, 1) := by decide +kernel
theorem dX9_saidAt_49 : decode cX9_saidAt 49 = .ok (.aload_n 0, 1) := by decide +kernel
theorem dX9_saidAt_50 : decode cX9_saidAt 50 = .ok (.getfield 315, 3) := by decide +kernel
theorem dX9_saidAt_53 : decode cX9_saidAt 53 = .ok (.aload_n 0, 1) := by decide +kernel
theorem dX9_saidAt_54 : decode cX9_saidAt 54 = .ok (.getfield 345, 3) := by decide +kernel
theorem dX9_saidAt_57 : decode cX9_saidAt 57 = .ok (.iadd, 1) := by decide +kernel
theorem dX9_saidAt_58 : decode cX9_saidAt 58 = .ok (.if_icmp .lt 6, 3) := by decide +kernel
theorem dX9_saidAt_61 : decode cX9_saidAt 61 = .ok (.bipush (-2), 2) := by decide +kernel
theorem dX9_saidAt_63 : decode cX9_saidAt 63 = .ok (.ireturn, 1) := by decide +kernel
theorem dX9_saidAt_64 : decode cX9_saidAt 64 = .ok (.aload_n 0, 1) := by decide +kernel
theorem dX9_saidAt_65 : decode cX9_saidAt 65 = .ok (.iload_n 2, 1) := by decide +kernel
theorem dX9_saidAt_66 : decode cX9_saidAt 66 = .ok (.invokevirtual 366, 3) := by decide +kernel
theorem dX9_saidAt_69 : decode cX9_saidAt 69 = .ok (.aload_n 0, 1) := by decide +kernel
theorem dX9_saidAt_70 : decode cX9_saidAt 70 = .ok (.iconst 0, 1) := by decide +kernel
theorem dX9_saidAt_71 : decode cX9_saidAt 71 = .ok (.iconst 0, 1) := by decide +kernel
theorem dX9_saidAt_72 : decode cX9_saidAt 72 = .ok (.invokevirtual 351, 3) := by decide +kernel
theorem dX9_saidAt_75 : decode cX9_saidAt 75 = .ok (.lconst 0, 1) := by decide +kernel
theorem dX9_saidAt_76 : decode cX9_saidAt 76 = .ok (.lcmp, 1) := by decide +kernel
theorem dX9_saidAt_77 : decode cX9_saidAt 77 = .ok (.ifCond .ne 6, 3) := by decide +kernel
theorem dX9_saidAt_80 : decode cX9_saidAt 80 = .ok (.bipush (-2), 2) := by decide +kernel
theorem dX9_saidAt_82 : decode cX9_saidAt 82 = .ok (.ireturn, 1) := by decide +kernel
theorem dX9_saidAt_83 : decode cX9_saidAt 83 = .ok (.iconst 0, 1) := by decide +kernel
theorem dX9_saidAt_84 : decode cX9_saidAt 84 = .ok (.istore 5, 2) := by decide +kernel
theorem dX9_saidAt_86 : decode cX9_saidAt 86 = .ok (.iconst 0, 1) := by decide +kernel
theorem dX9_saidAt_87 : decode cX9_saidAt 87 = .ok (.istore 6, 2) := by decide +kernel
theorem dX9_saidAt_89 : decode cX9_saidAt 89 = .ok (.bipush (-2), 2) := by decide +kernel
theorem dX9_saidAt_91 : decode cX9_saidAt 91 = .ok (.istore 7, 2) := by decide +kernel
theorem dX9_saidAt_93 : decode cX9_saidAt 93 = .ok (.iconst 0, 1) := by decide +kernel
theorem dX9_saidAt_94 : decode cX9_saidAt 94 = .ok (.istore 8, 2) := by decide +kernel
theorem dX9_saidAt_96 : decode cX9_saidAt 96 = .ok (.iload 8, 2) := by decide +kernel
theorem dX9_saidAt_98 : decode cX9_saidAt 98 = .ok (.iload_n 3, 1) := by decide +kernel
theorem dX9_saidAt_99 : decode cX9_saidAt 99 = .ok (.if_icmp .gt 131, 3) := by decide +kernel
theorem dX9_saidAt_102 : decode cX9_saidAt 102 = .ok (.aload_n 0, 1) := by decide +kernel
theorem dX9_saidAt_103 : decode cX9_saidAt 103 = .ok (.iload 5, 2) := by decide +kernel
theorem dX9_saidAt_105 : decode cX9_saidAt 105 = .ok (.iload 6, 2) := by decide +kernel
theorem dX9_saidAt_107 : decode cX9_saidAt 107 = .ok (.iload_n 2, 1) := by decide +kernel
theorem dX9_saidAt_108 : decode cX9_saidAt 108 = .ok (.invokevirtual 348, 3) := by decide +kernel
theorem dX9_saidAt_111 : decode cX9_saidAt 111 = .ok (.ifCond .eq 22, 3) := by decide +kernel
theorem dX9_saidAt_114 : decode cX9_saidAt 114 = .ok (.aload_n 0, 1) := by decide +kernel
theorem dX9_saidAt_115 : decode cX9_saidAt 115 = .ok (.iload 5, 2) := by decide +kernel
theorem dX9_saidAt_117 : decode cX9_saidAt 117 = .ok (.iconst 1, 1) := by decide +kernel
theorem dX9_saidAt_118 : decode cX9_saidAt 118 = .ok (.iadd, 1) := by decide +kernel
theorem dX9_saidAt_119 : decode cX9_saidAt 119 = .ok (.iload 6, 2) := by decide +kernel
theorem dX9_saidAt_121 : decode cX9_saidAt 121 = .ok (.invokevirtual 351, 3) := by decide +kernel
theorem dX9_saidAt_124 : decode cX9_saidAt 124 = .ok (.lconst 0, 1) := by decide +kernel
theorem dX9_saidAt_125 : decode cX9_saidAt 125 = .ok (.lcmp, 1) := by decide +kernel
theorem dX9_saidAt_126 : decode cX9_saidAt 126 = .ok (.ifCond .le 7, 3) := by decide +kernel
theorem dX9_saidAt_129 : decode cX9_saidAt 129 = .ok (.iconst 1, 1) := by decide +kernel
theorem dX9_saidAt_130 : decode cX9_saidAt 130 = .ok (.goto 4, 3) := by decide +kernel
theorem dX9_saidAt_133 : decode cX9_saidAt 133 = .ok (.iconst 0, 1) := by decide +kernel
theorem dX9_saidAt_134 : decode cX9_saidAt 134 = .ok (.istore 9, 2) := by decide +kernel
theorem dX9_saidAt_136 : decode cX9_saidAt 136 = .ok (.aload_n 0, 1) := by decide +kernel
theorem dX9_saidAt_137 : decode cX9_saidAt 137 = .ok (.iload 5, 2) := by decide +kernel
theorem dX9_saidAt_139 : decode cX9_saidAt 139 = .ok (.iload 6, 2) := by decide +kernel
theorem dX9_saidAt_141 : decode cX9_saidAt 141 = .ok (.iload_n 2, 1) := by decide +kernel
theorem dX9_saidAt_142 : decode cX9_saidAt 142 = .ok (.invokevirtual 355, 3) := by decide +kernel
theorem dX9_saidAt_145 : decode cX9_saidAt 145 = .ok (.ifCond .eq 22, 3) := by decide +kernel
theorem dX9_saidAt_148 : decode cX9_saidAt 148 = .ok (.aload_n 0, 1) := by decide +kernel
theorem dX9_saidAt_149 : decode cX9_saidAt 149 = .ok (.iload 5, 2) := by decide +kernel
theorem dX9_saidAt_151 : decode cX9_saidAt 151 = .ok (.iload 6, 2) := by decide +kernel
theorem dX9_saidAt_153 : decode cX9_saidAt 153 = .ok (.iconst 1, 1) := by decide +kernel
theorem dX9_saidAt_154 : decode cX9_saidAt 154 = .ok (.iadd, 1) := by decide +kernel
theorem dX9_saidAt_155 : decode cX9_saidAt 155 = .ok (.invokevirtual 351, 3) := by decide +kernel
theorem dX9_saidAt_158 : decode cX9_saidAt 158 = .ok (.lconst 0, 1) := by decide +kernel
theorem dX9_saidAt_159 : decode cX9_saidAt 159 = .ok (.lcmp, 1) := by decide +kernel
theorem dX9_saidAt_160 : decode cX9_saidAt 160 = .ok (.ifCond .le 7, 3) := by decide +kernel
theorem dX9_saidAt_163 : decode cX9_saidAt 163 = .ok (.iconst 1, 1) := by decide +kernel
theorem dX9_saidAt_164 : decode cX9_saidAt 164 = .ok (.goto 4, 3) := by decide +kernel
theorem dX9_saidAt_167 : decode cX9_saidAt 167 = .ok (.iconst 0, 1) := by decide +kernel
theorem dX9_saidAt_168 : decode cX9_saidAt 168 = .ok (.istore 10, 2) := by decide +kernel
theorem dX9_saidAt_170 : decode cX9_saidAt 170 = .ok (.iload 9, 2) := by decide +kernel
theorem dX9_saidAt_172 : decode cX9_saidAt 172 = .ok (.ifCond .eq 40, 3) := by decide +kernel
theorem dX9_saidAt_175 : decode cX9_saidAt 175 = .ok (.iload 10, 2) := by decide +kernel
theorem dX9_saidAt_177 : decode cX9_saidAt 177 = .ok (.ifCond .eq 20, 3) := by decide +kernel
theorem dX9_saidAt_180 : decode cX9_saidAt 180 = .ok (.aload_n 0, 1) := by decide +kernel
theorem dX9_saidAt_181 : decode cX9_saidAt 181 = .ok (.getfield 94, 3) := by decide +kernel
theorem dX9_saidAt_184 : decode cX9_saidAt 184 = .ok (.iload 5, 2) := by decide +kernel
theorem dX9_saidAt_186 : decode cX9_saidAt 186 = .ok (.iaload, 1) := by decide +kernel
theorem dX9_saidAt_187 : decode cX9_saidAt 187 = .ok (.aload_n 0, 1) := by decide +kernel
theorem dX9_saidAt_188 : decode cX9_saidAt 188 = .ok (.getfield 101, 3) := by decide +kernel
theorem dX9_saidAt_191 : decode cX9_saidAt 191 = .ok (.iload 6, 2) := by decide +kernel
theorem dX9_saidAt_193 : decode cX9_saidAt 193 = .ok (.iaload, 1) := by decide +kernel
theorem dX9_saidAt_194 : decode cX9_saidAt 194 = .ok (.if_icmp .ge 18, 3) := by decide +kernel
theorem dX9_saidAt_197 : decode cX9_saidAt 197 = .ok (.aload_n 0, 1) := by decide +kernel
theorem dX9_saidAt_198 : decode cX9_saidAt 198 = .ok (.getfield 94, 3) := by decide +kernel
theorem dX9_saidAt_201 : decode cX9_saidAt 201 = .ok (.iload 5, 2) := by decide +kernel
theorem dX9_saidAt_203 : decode cX9_saidAt 203 = .ok (.iaload, 1) := by decide +kernel
theorem dX9_saidAt_204 : decode cX9_saidAt 204 = .ok (.istore 7, 2) := by decide +kernel
theorem dX9_saidAt_206 : decode cX9_saidAt 206 = .ok (.iinc 5 1, 3) := by decide +kernel
theorem dX9_saidAt_209 : decode cX9_saidAt 209 = .ok (.goto 15, 3) := by decide +kernel
theorem dX9_saidAt_212 : decode cX9_saidAt 212 = .ok (.aload_n 0, 1) := by decide +kernel
theorem dX9_saidAt_213 : decode cX9_saidAt 213 = .ok (.getfield 101, 3) := by decide +kernel
theorem dX9_saidAt_216 : decode cX9_saidAt 216 = .ok (.iload 6, 2) := by decide +kernel
theorem dX9_saidAt_218 : decode cX9_saidAt 218 = .ok (.iaload, 1) := by decide +kernel
theorem dX9_saidAt_219 : decode cX9_saidAt 219 = .ok (.istore 7, 2) := by decide +kernel
theorem dX9_saidAt_221 : decode cX9_saidAt 221 = .ok (.iinc 6 1, 3) := by decide +kernel
theorem dX9_saidAt_224 : decode cX9_saidAt 224 = .ok (.iinc 8 1, 3) := by decide +kernel
theorem dX9_saidAt_227 : decode cX9_saidAt 227 = .ok (.goto (-131), 3) := by decide +kernel
theorem dX9_saidAt_230 : decode cX9_saidAt 230 = .ok (.iload 7, 2) := by decide +kernel
theorem dX9_saidAt_232 : decode cX9_saidAt 232 = .ok (.ireturn, 1) := by decide +kernel
theorem dX9_leftAt_0 : decode cX9_leftAt 0 = .ok (.iconst 0, 1) := by decide +kernel
theorem dX9_leftAt_1 : decode cX9_leftAt 1 = .ok (.istore 4, 2) := by decide +kernel
theorem dX9_leftAt_3 : decode cX9_leftAt 3 = .ok (.iconst 0, 1) := by decide +kernel
theorem dX9_leftAt_4 : decode cX9_leftAt 4 = .ok (.istore 5, 2) := by decide +kernel
theorem dX9_leftAt_6 : decode cX9_leftAt 6 = .ok (.iload 5, 2) := by decide +kernel
theorem dX9_leftAt_8 : decode cX9_leftAt 8 = .ok (.aload_n 0, 1) := by decide +kernel
theorem dX9_leftAt_9 : decode cX9_leftAt 9 = .ok (.getfield 140, 3) := by decide +kernel
theorem dX9_leftAt_12 : decode cX9_leftAt 12 = .ok (.if_icmp .ge 26, 3) := by decide +kernel
theorem dX9_leftAt_15 : decode cX9_leftAt 15 = .ok (.aload_n 0, 1) := by decide +kernel
theorem dX9_leftAt_16 : decode cX9_leftAt 16 = .ok (.iload 5, 2) := by decide +kernel
theorem dX9_leftAt_18 : decode cX9_leftAt 18 = .ok (.iload_n 3, 1) := by decide +kernel
theorem dX9_leftAt_19 : decode cX9_leftAt 19 = .ok (.iload_n 1, 1) := by decide +kernel
theorem dX9_leftAt_20 : decode cX9_leftAt 20 = .ok (.iload_n 2, 1) := by decide +kernel
theorem dX9_leftAt_21 : decode cX9_leftAt 21 = .ok (.iadd, 1) := by decide +kernel
theorem dX9_leftAt_22 : decode cX9_leftAt 22 = .ok (.iload_n 2, 1) := by decide +kernel
theorem dX9_leftAt_23 : decode cX9_leftAt 23 = .ok (.invokevirtual 271, 3) := by decide +kernel
theorem dX9_leftAt_26 : decode cX9_leftAt 26 = .ok (.ifCond .ne 6, 3) := by decide +kernel
theorem dX9_leftAt_29 : decode cX9_leftAt 29 = .ok (.iinc 4 1, 3) := by decide +kernel
theorem dX9_leftAt_32 : decode cX9_leftAt 32 = .ok (.iinc 5 1, 3) := by decide +kernel
theorem dX9_leftAt_35 : decode cX9_leftAt 35 = .ok (.goto (-29), 3) := by decide +kernel
theorem dX9_leftAt_38 : decode cX9_leftAt 38 = .ok (.iload 4, 2) := by decide +kernel
theorem dX9_leftAt_40 : decode cX9_leftAt 40 = .ok (.ireturn, 1) := by decide +kernel
theorem dX9_alone_0 : decode cX9_alone 0 = .ok (.iload_n 1, 1) := by decide +kernel
theorem dX9_alone_1 : decode cX9_alone 1 = .ok (.invokestatic 154, 3) := by decide +kernel
theorem dX9_alone_4 : decode cX9_alone 4 = .ok (.ifCond .eq 28, 3) := by decide +kernel
theorem dX9_alone_7 : decode cX9_alone 7 = .ok (.aload_n 0, 1) := by decide +kernel
theorem dX9_alone_8 : decode cX9_alone 8 = .ok (.iload_n 2, 1) := by decide +kernel
theorem dX9_alone_9 : decode cX9_alone 9 = .ok (.invokevirtual 286, 3) := by decide +kernel
theorem dX9_alone_12 : decode cX9_alone 12 = .ok (.ifCond .eq 20, 3) := by decide +kernel
theorem dX9_alone_15 : decode cX9_alone 15 = .ok (.iload_n 3, 1) := by decide +kernel
theorem dX9_alone_16 : decode cX9_alone 16 = .ok (.iconst 0, 1) := by decide +kernel
theorem dX9_alone_17 : decode cX9_alone 17 = .ok (.iconst 4, 1) := by decide +kernel
theorem dX9_alone_18 : decode cX9_alone 18 = .ok (.invokestatic 143, 3) := by decide +kernel
theorem dX9_alone_21 : decode cX9_alone 21 = .ok (.ifCond .eq 11, 3) := by decide +kernel
theorem dX9_alone_24 : decode cX9_alone 24 = .ok (.aload_n 0, 1) := by decide +kernel
theorem dX9_alone_25 : decode cX9_alone 25 = .ok (.iload_n 1, 1) := by decide +kernel
theorem dX9_alone_26 : decode cX9_alone 26 = .ok (.invokevirtual 289, 3) := by decide +kernel
theorem dX9_alone_29 : decode cX9_alone 29 = .ok (.ifCond .ge 7, 3) := by decide +kernel
theorem dX9_alone_32 : decode cX9_alone 32 = .ok (.ldc2_w 358, 3) := by decide +kernel
theorem dX9_alone_35 : decode cX9_alone 35 = .ok (.lreturn, 1) := by decide +kernel
theorem dX9_alone_36 : decode cX9_alone 36 = .ok (.aload_n 0, 1) := by decide +kernel
theorem dX9_alone_37 : decode cX9_alone 37 = .ok (.iload_n 1, 1) := by decide +kernel
theorem dX9_alone_38 : decode cX9_alone 38 = .ok (.invokevirtual 324, 3) := by decide +kernel
theorem dX9_alone_41 : decode cX9_alone 41 = .ok (.aload_n 0, 1) := by decide +kernel
theorem dX9_alone_42 : decode cX9_alone 42 = .ok (.getfield 315, 3) := by decide +kernel
theorem dX9_alone_45 : decode cX9_alone 45 = .ok (.iload_n 3, 1) := by decide +kernel
theorem dX9_alone_46 : decode cX9_alone 46 = .ok (.iadd, 1) := by decide +kernel
theorem dX9_alone_47 : decode cX9_alone 47 = .ok (.bipush 12, 2) := by decide +kernel
theorem dX9_alone_49 : decode cX9_alone 49 = .ok (.if_icmp .le 5, 3) := by decide +kernel
theorem dX9_alone_52 : decode cX9_alone 52 = .ok (.lconst 0, 1) := by decide +kernel
theorem dX9_alone_53 : decode cX9_alone 53 = .ok (.lreturn, 1) := by decide +kernel
theorem dX9_alone_54 : decode cX9_alone 54 = .ok (.aload_n 0, 1) := by decide +kernel
theorem dX9_alone_55 : decode cX9_alone 55 = .ok (.getfield 315, 3) := by decide +kernel
theorem dX9_alone_58 : decode cX9_alone 58 = .ok (.istore 4, 2) := by decide +kernel
theorem dX9_alone_60 : decode cX9_alone 60 = .ok (.iload 4, 2) := by decide +kernel
theorem dX9_alone_62 : decode cX9_alone 62 = .ok (.ifCond .lt 119, 3) := by decide +kernel
theorem dX9_alone_65 : decode cX9_alone 65 = .ok (.iload_n 3, 1) := by decide +kernel
theorem dX9_alone_66 : decode cX9_alone 66 = .ok (.istore 5, 2) := by decide +kernel
theorem dX9_alone_68 : decode cX9_alone 68 = .ok (.iload 5, 2) := by decide +kernel
theorem dX9_alone_70 : decode cX9_alone 70 = .ok (.ifCond .lt 105, 3) := by decide +kernel
theorem dX9_alone_73 : decode cX9_alone 73 = .ok (.iload 4, 2) := by decide +kernel
theorem dX9_alone_75 : decode cX9_alone 75 = .ok (.aload_n 0, 1) := by decide +kernel
theorem dX9_alone_76 : decode cX9_alone 76 = .ok (.getfield 315, 3) := by decide +kernel
theorem dX9_alone_79 : decode cX9_alone 79 = .ok (.if_icmp .ne 13, 3) := by decide +kernel
theorem dX9_alone_82 : decode cX9_alone 82 = .ok (.iload 5, 2) := by decide +kernel
theorem dX9_alone_84 : decode cX9_alone 84 = .ok (.iload_n 3, 1) := by decide +kernel
theorem dX9_alone_85 : decode cX9_alone 85 = .ok (.if_icmp .ne 7, 3) := by decide +kernel
theorem dX9_alone_88 : decode cX9_alone 88 = .ok (.lconst 1, 1) := by decide +kernel
theorem dX9_alone_89 : decode cX9_alone 89 = .ok (.goto 4, 3) := by decide +kernel
theorem dX9_alone_92 : decode cX9_alone 92 = .ok (.lconst 0, 1) := by decide +kernel
theorem dX9_alone_93 : decode cX9_alone 93 = .ok (.lstore 6, 2) := by decide +kernel
theorem dX9_alone_95 : decode cX9_alone 95 = .ok (.aload_n 0, 1) := by decide +kernel
theorem dX9_alone_96 : decode cX9_alone 96 = .ok (.iload 4, 2) := by decide +kernel
theorem dX9_alone_98 : decode cX9_alone 98 = .ok (.iload 5, 2) := by decide +kernel
theorem dX9_alone_100 : decode cX9_alone 100 = .ok (.iload_n 2, 1) := by decide +kernel
theorem dX9_alone_101 : decode cX9_alone 101 = .ok (.invokevirtual 348, 3) := by decide +kernel
theorem dX9_alone_104 : decode cX9_alone 104 = .ok (.ifCond .eq 18, 3) := by decide +kernel
theorem dX9_alone_107 : decode cX9_alone 107 = .ok (.lload 6, 2) := by decide +kernel
theorem dX9_alone_109 : decode cX9_alone 109 = .ok (.aload_n 0, 1) := by decide +kernel
theorem dX9_alone_110 : decode cX9_alone 110 = .ok (.iload 4, 2) := by decide +kernel
theorem dX9_alone_112 : decode cX9_alone 112 = .ok (.iconst 1, 1) := by decide +kernel
theorem dX9_alone_113 : decode cX9_alone 113 = .ok (.iadd, 1) := by decide +kernel
theorem dX9_alone_114 : decode cX9_alone 114 = .ok (.iload 5, 2) := by decide +kernel
theorem dX9_alone_116 : decode cX9_alone 116 = .ok (.invokevirtual 351, 3) := by decide +kernel
theorem dX9_alone_119 : decode cX9_alone 119 = .ok (.ladd, 1) := by decide +kernel
theorem dX9_alone_120 : decode cX9_alone 120 = .ok (.lstore 6, 2) := by decide +kernel
theorem dX9_alone_122 : decode cX9_alone 122 = .ok (.iload 5, 2) := by decide +kernel
theorem dX9_alone_124 : decode cX9_alone 124 = .ok (.iload_n 3, 1) := by decide +kernel
theorem dX9_alone_125 : decode cX9_alone 125 = .ok (.if_icmp .ge 29, 3) := by decide +kernel
theorem dX9_alone_128 : decode cX9_alone 128 = .ok (.lload 6, 2) := by decide +kernel
theorem dX9_alone_130 : decode cX9_alone 130 = .ok (.aload_n 0, 1) := by decide +kernel
theorem dX9_alone_131 : decode cX9_alone 131 = .ok (.iload 4, 2) := by decide +kernel
theorem dX9_alone_133 : decode cX9_alone 133 = .ok (.iload 5, 2) := by decide +kernel
theorem dX9_alone_135 : decode cX9_alone 135 = .ok (.iload_n 2, 1) := by decide +kernel
theorem dX9_alone_136 : decode cX9_alone 136 = .ok (.invokevirtual 369, 3) := by decide +kernel
theorem dX9_alone_139 : decode cX9_alone 139 = .ok (.i2l, 1) := by decide +kernel
theorem dX9_alone_140 : decode cX9_alone 140 = .ok (.aload_n 0, 1) := by decide +kernel
theorem dX9_alone_141 : decode cX9_alone 141 = .ok (.iload 4, 2) := by decide +kernel
theorem dX9_alone_143 : decode cX9_alone 143 = .ok (.iload 5, 2) := by decide +kernel
theorem dX9_alone_145 : decode cX9_alone 145 = .ok (.iconst 1, 1) := by decide +kernel
theorem dX9_alone_146 : decode cX9_alone 146 = .ok (.iadd, 1) := by decide +kernel
theorem dX9_alone_147 : decode cX9_alone 147 = .ok (.invokevirtual 351, 3) := by decide +kernel
theorem dX9_alone_150 : decode cX9_alone 150 = .ok (.lmul, 1) := by decide +kernel
theorem dX9_alone_151 : decode cX9_alone 151 = .ok (.ladd, 1) := by decide +kernel
theorem dX9_alone_152 : decode cX9_alone 152 = .ok (.lstore 6, 2) := by decide +kernel
theorem dX9_alone_154 : decode cX9_alone 154 = .ok (.aload_n 0, 1) := by decide +kernel
theorem dX9_alone_155 : decode cX9_alone 155 = .ok (.getfield 97, 3) := by decide +kernel
theorem dX9_alone_158 : decode cX9_alone 158 = .ok (.bipush 13, 2) := by decide +kernel
theorem dX9_alone_160 : decode cX9_alone 160 = .ok (.iload 4, 2) := by decide +kernel
theorem dX9_alone_162 : decode cX9_alone 162 = .ok (.imul, 1) := by decide +kernel
theorem dX9_alone_163 : decode cX9_alone 163 = .ok (.iload 5, 2) := by decide +kernel
theorem dX9_alone_165 : decode cX9_alone 165 = .ok (.iadd, 1) := by decide +kernel
theorem dX9_alone_166 : decode cX9_alone 166 = .ok (.lload 6, 2) := by decide +kernel
theorem dX9_alone_168 : decode cX9_alone 168 = .ok (.lastore, 1) := by decide +kernel
theorem dX9_alone_169 : decode cX9_alone 169 = .ok (.iinc 5 (-1), 3) := by decide +kernel
theorem dX9_alone_172 : decode cX9_alone 172 = .ok (.goto (-104), 3) := by decide +kernel
theorem dX9_alone_175 : decode cX9_alone 175 = .ok (.iinc 4 (-1), 3) := by decide +kernel
theorem dX9_alone_178 : decode cX9_alone 178 = .ok (.goto (-118), 3) := by decide +kernel
theorem dX9_alone_181 : decode cX9_alone 181 = .ok (.aload_n 0, 1) := by decide +kernel
theorem dX9_alone_182 : decode cX9_alone 182 = .ok (.iconst 0, 1) := by decide +kernel
theorem dX9_alone_183 : decode cX9_alone 183 = .ok (.iconst 0, 1) := by decide +kernel
theorem dX9_alone_184 : decode cX9_alone 184 = .ok (.invokevirtual 351, 3) := by decide +kernel
theorem dX9_alone_187 : decode cX9_alone 187 = .ok (.lreturn, 1) := by decide +kernel
theorem dX9_justComes_0 : decode cX9_justComes 0 = .ok (.aload_n 0, 1) := by decide +kernel
theorem dX9_justComes_1 : decode cX9_justComes 1 = .ok (.getfield 280, 3) := by decide +kernel
theorem dX9_justComes_4 : decode cX9_justComes 4 = .ok (.aload_n 0, 1) := by decide +kernel
theorem dX9_justComes_5 : decode cX9_justComes 5 = .ok (.getfield 315, 3) := by decide +kernel
theorem dX9_justComes_8 : decode cX9_justComes 8 = .ok (.if_icmp .eq 5, 3) := by decide +kernel
theorem dX9_justComes_11 : decode cX9_justComes 11 = .ok (.iconst 0, 1) := by decide +kernel
theorem dX9_justComes_12 : decode cX9_justComes 12 = .ok (.ireturn, 1) := by decide +kernel
theorem dX9_justComes_13 : decode cX9_justComes 13 = .ok (.iconst 0, 1) := by decide +kernel
theorem dX9_justComes_14 : decode cX9_justComes 14 = .ok (.istore_n 1, 1) := by decide +kernel
theorem dX9_justComes_15 : decode cX9_justComes 15 = .ok (.iload_n 1, 1) := by decide +kernel
theorem dX9_justComes_16 : decode cX9_justComes 16 = .ok (.aload_n 0, 1) := by decide +kernel
theorem dX9_justComes_17 : decode cX9_justComes 17 = .ok (.getfield 315, 3) := by decide +kernel
theorem dX9_justComes_20 : decode cX9_justComes 20 = .ok (.if_icmp .ge 26, 3) := by decide +kernel
theorem dX9_justComes_23 : decode cX9_justComes 23 = .ok (.aload_n 0, 1) := by decide +kernel
theorem dX9_justComes_24 : decode cX9_justComes 24 = .ok (.getfield 84, 3) := by decide +kernel
theorem dX9_justComes_27 : decode cX9_justComes 27 = .ok (.iload_n 1, 1) := by decide +kernel
theorem dX9_justComes_28 : decode cX9_justComes 28 = .ok (.iaload, 1) := by decide +kernel
theorem dX9_justComes_29 : decode cX9_justComes 29 = .ok (.aload_n 0, 1) := by decide +kernel
theorem dX9_justComes_30 : decode cX9_justComes 30 = .ok (.getfield 94, 3) := by decide +kernel
theorem dX9_justComes_33 : decode cX9_justComes 33 = .ok (.iload_n 1, 1) := by decide +kernel
theorem dX9_justComes_34 : decode cX9_justComes 34 = .ok (.iaload, 1) := by decide +kernel
theorem dX9_justComes_35 : decode cX9_justComes 35 = .ok (.if_icmp .eq 5, 3) := by decide +kernel
theorem dX9_justComes_38 : decode cX9_justComes 38 = .ok (.iconst 0, 1) := by decide +kernel
theorem dX9_justComes_39 : decode cX9_justComes 39 = .ok (.ireturn, 1) := by decide +kernel
theorem dX9_justComes_40 : decode cX9_justComes 40 = .ok (.iinc 1 1, 3) := by decide +kernel
theorem dX9_justComes_43 : decode cX9_justComes 43 = .ok (.goto (-28), 3) := by decide +kernel
theorem dX9_justComes_46 : decode cX9_justComes 46 = .ok (.iconst 1, 1) := by decide +kernel
theorem dX9_justComes_47 : decode cX9_justComes 47 = .ok (.ireturn, 1) := by decide +kernel
theorem dX9_goFine_0 : decode cX9_goFine 0 = .ok (.aload_n 0, 1) := by decide +kernel
theorem dX9_goFine_1 : decode cX9_goFine 1 = .ok (.iconst 0, 1) := by decide +kernel
theorem dX9_goFine_2 : decode cX9_goFine 2 = .ok (.putfield 280, 3) := by decide +kernel
theorem dX9_goFine_5 : decode cX9_goFine 5 = .ok (.aload_n 0, 1) := by decide +kernel
theorem dX9_goFine_6 : decode cX9_goFine 6 = .ok (.iconst 0, 1) := by decide +kernel
theorem dX9_goFine_7 : decode cX9_goFine 7 = .ok (.putfield 283, 3) := by decide +kernel
theorem dX9_goFine_10 : decode cX9_goFine 10 = .ok (.iconst 0, 1) := by decide +kernel
theorem dX9_goFine_11 : decode cX9_goFine 11 = .ok (.istore_n 2, 1) := by decide +kernel
theorem dX9_goFine_12 : decode cX9_goFine 12 = .ok (.iload_n 2, 1) := by decide +kernel
theorem dX9_goFine_13 : decode cX9_goFine 13 = .ok (.aload_n 0, 1) := by decide +kernel
theorem dX9_goFine_14 : decode cX9_goFine 14 = .ok (.getfield 274, 3) := by decide +kernel
theorem dX9_goFine_17 : decode cX9_goFine 17 = .ok (.if_icmp .ge 66, 3) := by decide +kernel
theorem dX9_goFine_20 : decode cX9_goFine 20 = .ok (.aload_n 0, 1) := by decide +kernel
theorem dX9_goFine_21 : decode cX9_goFine 21 = .ok (.aload_n 0, 1) := by decide +kernel
theorem dX9_goFine_22 : decode cX9_goFine 22 = .ok (.getfield 81, 3) := by decide +kernel
theorem dX9_goFine_25 : decode cX9_goFine 25 = .ok (.iload_n 2, 1) := by decide +kernel
theorem dX9_goFine_26 : decode cX9_goFine 26 = .ok (.iaload, 1) := by decide +kernel
theorem dX9_goFine_27 : decode cX9_goFine 27 = .ok (.iload_n 1, 1) := by decide +kernel
theorem dX9_goFine_28 : decode cX9_goFine 28 = .ok (.iload_n 2, 1) := by decide +kernel
theorem dX9_goFine_29 : decode cX9_goFine 29 = .ok (.aload_n 0, 1) := by decide +kernel
theorem dX9_goFine_30 : decode cX9_goFine 30 = .ok (.getfield 283, 3) := by decide +kernel
theorem dX9_goFine_33 : decode cX9_goFine 33 = .ok (.invokevirtual 267, 3) := by decide +kernel
theorem dX9_goFine_36 : decode cX9_goFine 36 = .ok (.ifCond .eq 31, 3) := by decide +kernel
theorem dX9_goFine_39 : decode cX9_goFine 39 = .ok (.aload_n 0, 1) := by decide +kernel
theorem dX9_goFine_40 : decode cX9_goFine 40 = .ok (.getfield 84, 3) := by decide +kernel
theorem dX9_goFine_43 : decode cX9_goFine 43 = .ok (.aload_n 0, 1) := by decide +kernel
theorem dX9_goFine_44 : decode cX9_goFine 44 = .ok (.getfield 280, 3) := by decide +kernel
theorem dX9_goFine_47 : decode cX9_goFine 47 = .ok (.aload_n 0, 1) := by decide +kernel
theorem dX9_goFine_48 : decode cX9_goFine 48 = .ok (.getfield 81, 3) := by decide +kernel
theorem dX9_goFine_51 : decode cX9_goFine 51 = .ok (.iload_n 2, 1) := by decide +kernel
theorem dX9_goFine_52 : decode cX9_goFine 52 = .ok (.iaload, 1) := by decide +kernel
theorem dX9_goFine_53 : decode cX9_goFine 53 = .ok (.iastore, 1) := by decide +kernel
theorem dX9_goFine_54 : decode cX9_goFine 54 = .ok (.aload_n 0, 1) := by decide +kernel
theorem dX9_goFine_55 : decode cX9_goFine 55 = .ok (.dup, 1) := by decide +kernel
theorem dX9_goFine_56 : decode cX9_goFine 56 = .ok (.getfield 280, 3) := by decide +kernel
theorem dX9_goFine_59 : decode cX9_goFine 59 = .ok (.iconst 1, 1) := by decide +kernel
theorem dX9_goFine_60 : decode cX9_goFine 60 = .ok (.iadd, 1) := by decide +kernel
theorem dX9_goFine_61 : decode cX9_goFine 61 = .ok (.putfield 280, 3) := by decide +kernel
theorem dX9_goFine_64 : decode cX9_goFine 64 = .ok (.goto 13, 3) := by decide +kernel
theorem dX9_goFine_67 : decode cX9_goFine 67 = .ok (.aload_n 0, 1) := by decide +kernel
theorem dX9_goFine_68 : decode cX9_goFine 68 = .ok (.dup, 1) := by decide +kernel
theorem dX9_goFine_69 : decode cX9_goFine 69 = .ok (.getfield 283, 3) := by decide +kernel
theorem dX9_goFine_72 : decode cX9_goFine 72 = .ok (.iconst 1, 1) := by decide +kernel
theorem dX9_goFine_73 : decode cX9_goFine 73 = .ok (.iadd, 1) := by decide +kernel
theorem dX9_goFine_74 : decode cX9_goFine 74 = .ok (.putfield 283, 3) := by decide +kernel
theorem dX9_goFine_77 : decode cX9_goFine 77 = .ok (.iinc 2 1, 3) := by decide +kernel
theorem dX9_goFine_80 : decode cX9_goFine 80 = .ok (.goto (-68), 3) := by decide +kernel
theorem dX9_goFine_83 : decode cX9_goFine 83 = .ok (.return_, 1) := by decide +kernel
theorem dX9_howFine_0 : decode cX9_howFine 0 = .ok (.iload_n 1, 1) := by decide +kernel
theorem dX9_howFine_1 : decode cX9_howFine 1 = .ok (.invokestatic 309, 3) := by decide +kernel
theorem dX9_howFine_4 : decode cX9_howFine 4 = .ok (.ifCond .eq 12, 3) := by decide +kernel
theorem dX9_howFine_7 : decode cX9_howFine 7 = .ok (.iload_n 2, 1) := by decide +kernel
theorem dX9_howFine_8 : decode cX9_howFine 8 = .ok (.iconst 0, 1) := by decide +kernel
theorem dX9_howFine_9 : decode cX9_howFine 9 = .ok (.iconst 1, 1) := by decide +kernel
theorem dX9_howFine_10 : decode cX9_howFine 10 = .ok (.invokestatic 143, 3) := by decide +kernel
theorem dX9_howFine_13 : decode cX9_howFine 13 = .ok (.ifCond .ne 5, 3) := by decide +kernel
theorem dX9_howFine_16 : decode cX9_howFine 16 = .ok (.iconst (-1), 1) := by decide +kernel
theorem dX9_howFine_17 : decode cX9_howFine 17 = .ok (.ireturn, 1) := by decide +kernel
theorem dX9_howFine_18 : decode cX9_howFine 18 = .ok (.aload_n 0, 1) := by decide +kernel
theorem dX9_howFine_19 : decode cX9_howFine 19 = .ok (.iload_n 1, 1) := by decide +kernel
theorem dX9_howFine_20 : decode cX9_howFine 20 = .ok (.invokevirtual 312, 3) := by decide +kernel
theorem dX9_howFine_23 : decode cX9_howFine 23 = .ok (.istore_n 3, 1) := by decide +kernel
theorem dX9_howFine_24 : decode cX9_howFine 24 = .ok (.iload_n 3, 1) := by decide +kernel
theorem dX9_howFine_25 : decode cX9_howFine 25 = .ok (.ifCond .ge 5, 3) := by decide +kernel
theorem dX9_howFine_28 : decode cX9_howFine 28 = .ok (.iload_n 3, 1) := by decide +kernel
theorem dX9_howFine_29 : decode cX9_howFine 29 = .ok (.ireturn, 1) := by decide +kernel
theorem dX9_howFine_30 : decode cX9_howFine 30 = .ok (.aload_n 0, 1) := by decide +kernel
theorem dX9_howFine_31 : decode cX9_howFine 31 = .ok (.iload_n 1, 1) := by decide +kernel
theorem dX9_howFine_32 : decode cX9_howFine 32 = .ok (.bipush 10, 2) := by decide +kernel
theorem dX9_howFine_34 : decode cX9_howFine 34 = .ok (.irem, 1) := by decide +kernel
theorem dX9_howFine_35 : decode cX9_howFine 35 = .ok (.invokevirtual 324, 3) := by decide +kernel
theorem dX9_howFine_38 : decode cX9_howFine 38 = .ok (.aload_n 0, 1) := by decide +kernel
theorem dX9_howFine_39 : decode cX9_howFine 39 = .ok (.iload_n 1, 1) := by decide +kernel
theorem dX9_howFine_40 : decode cX9_howFine 40 = .ok (.bipush 10, 2) := by decide +kernel
theorem dX9_howFine_42 : decode cX9_howFine 42 = .ok (.idiv, 1) := by decide +kernel
theorem dX9_howFine_43 : decode cX9_howFine 43 = .ok (.invokevirtual 292, 3) := by decide +kernel
theorem dX9_howFine_46 : decode cX9_howFine 46 = .ok (.iconst 0, 1) := by decide +kernel
theorem dX9_howFine_47 : decode cX9_howFine 47 = .ok (.istore 4, 2) := by decide +kernel
theorem dX9_howFine_49 : decode cX9_howFine 49 = .ok (.bipush (-2), 2) := by decide +kernel
theorem dX9_howFine_51 : decode cX9_howFine 51 = .ok (.istore 5, 2) := by decide +kernel
theorem dX9_howFine_53 : decode cX9_howFine 53 = .ok (.iconst 0, 1) := by decide +kernel
theorem dX9_howFine_54 : decode cX9_howFine 54 = .ok (.istore 6, 2) := by decide +kernel
theorem dX9_howFine_56 : decode cX9_howFine 56 = .ok (.iload 6, 2) := by decide +kernel
theorem dX9_howFine_58 : decode cX9_howFine 58 = .ok (.bipush 9, 2) := by decide +kernel
theorem dX9_howFine_60 : decode cX9_howFine 60 = .ok (.if_icmp .gt 37, 3) := by decide +kernel
theorem dX9_howFine_63 : decode cX9_howFine 63 = .ok (.aload_n 0, 1) := by decide +kernel
theorem dX9_howFine_64 : decode cX9_howFine 64 = .ok (.iload 6, 2) := by decide +kernel
theorem dX9_howFine_66 : decode cX9_howFine 66 = .ok (.invokevirtual 372, 3) := by decide +kernel
theorem dX9_howFine_69 : decode cX9_howFine 69 = .ok (.aload_n 0, 1) := by decide +kernel
theorem dX9_howFine_70 : decode cX9_howFine 70 = .ok (.invokevirtual 375, 3) := by decide +kernel
theorem dX9_howFine_73 : decode cX9_howFine 73 = .ok (.ifCond .ne 6, 3) := by decide +kernel
theorem dX9_howFine_76 : decode cX9_howFine 76 = .ok (.goto 15, 3) := by decide +kernel
theorem dX9_howFine_79 : decode cX9_howFine 79 = .ok (.iload 4, 2) := by decide +kernel
theorem dX9_howFine_81 : decode cX9_howFine 81 = .ok (.ifCond .ne 7, 3) := by decide +kernel
theorem dX9_howFine_84 : decode cX9_howFine 84 = .ok (.iload 6, 2) := by decide +kernel
theorem dX9_howFine_86 : decode cX9_howFine 86 = .ok (.istore 5, 2) := by decide +kernel
theorem dX9_howFine_88 : decode cX9_howFine 88 = .ok (.iinc 4 1, 3) := by decide +kernel
theorem dX9_howFine_91 : decode cX9_howFine 91 = .ok (.iinc 6 1, 3) := by decide +kernel
theorem dX9_howFine_94 : decode cX9_howFine 94 = .ok (.goto (-38), 3) := by decide +kernel
theorem dX9_howFine_97 : decode cX9_howFine 97 = .ok (.iload_n 2, 1) := by decide +kernel
theorem dX9_howFine_98 : decode cX9_howFine 98 = .ok (.ifCond .ne 8, 3) := by decide +kernel
theorem dX9_howFine_101 : decode cX9_howFine 101 = .ok (.iload 4, 2) := by decide +kernel
theorem dX9_howFine_103 : decode cX9_howFine 103 = .ok (.goto 5, 3) := by decide +kernel
theorem dX9_howFine_106 : decode cX9_howFine 106 = .ok (.iload 5, 2) := by decide +kernel
theorem dX9_howFine_108 : decode cX9_howFine 108 = .ok (.ireturn, 1) := by decide +kernel
theorem dX9_changesNothing_0 : decode cX9_changesNothing 0 = .ok (.aload_n 0, 1) := by decide +kernel
theorem dX9_changesNothing_1 : decode cX9_changesNothing 1 = .ok (.getfield 81, 3) := by decide +kernel
theorem dX9_changesNothing_4 : decode cX9_changesNothing 4 = .ok (.iload_n 3, 1) := by decide +kernel
theorem dX9_changesNothing_5 : decode cX9_changesNothing 5 = .ok (.iload_n 1, 1) := by decide +kernel
theorem dX9_changesNothing_6 : decode cX9_changesNothing 6 = .ok (.iastore, 1) := by decide +kernel
theorem dX9_changesNothing_7 : decode cX9_changesNothing 7 = .ok (.aload_n 0, 1) := by decide +kernel
theorem dX9_changesNothing_8 : decode cX9_changesNothing 8 = .ok (.iload_n 2, 1) := by decide +kernel
theorem dX9_changesNothing_9 : decode cX9_changesNothing 9 = .ok (.iconst 0, 1) := by decide +kernel
theorem dX9_changesNothing_10 : decode cX9_changesNothing 10 = .ok (.invokevirtual 296, 3) := by decide +kernel
theorem dX9_changesNothing_13 : decode cX9_changesNothing 13 = .ok (.aload_n 0, 1) := by decide +kernel
theorem dX9_changesNothing_14 : decode cX9_changesNothing 14 = .ok (.invokevirtual 375, 3) := by decide +kernel
theorem dX9_changesNothing_17 : decode cX9_changesNothing 17 = .ok (.ifCond .ne 5, 3) := by decide +kernel
theorem dX9_changesNothing_20 : decode cX9_changesNothing 20 = .ok (.iconst 0, 1) := by decide +kernel
theorem dX9_changesNothing_21 : decode cX9_changesNothing 21 = .ok (.ireturn, 1) := by decide +kernel
theorem dX9_changesNothing_22 : decode cX9_changesNothing 22 = .ok (.iconst 0, 1) := by decide +kernel
theorem dX9_changesNothing_23 : decode cX9_changesNothing 23 = .ok (.istore 4, 2) := by decide +kernel
theorem dX9_changesNothing_25 : decode cX9_changesNothing 25 = .ok (.iconst 0, 1) := by decide +kernel
theorem dX9_changesNothing_26 : decode cX9_changesNothing 26 = .ok (.istore 5, 2) := by decide +kernel
theorem dX9_changesNothing_28 : decode cX9_changesNothing 28 = .ok (.iload 5, 2) := by decide +kernel
theorem dX9_changesNothing_30 : decode cX9_changesNothing 30 = .ok (.iload_n 3, 1) := by decide +kernel
theorem dX9_changesNothing_31 : decode cX9_changesNothing 31 = .ok (.if_icmp .ge 31, 3) := by decide +kernel
theorem dX9_changesNothing_34 : decode cX9_changesNothing 34 = .ok (.aload_n 0, 1) := by decide +kernel
theorem dX9_changesNothing_35 : decode cX9_changesNothing 35 = .ok (.aload_n 0, 1) := by decide +kernel
theorem dX9_changesNothing_36 : decode cX9_changesNothing 36 = .ok (.getfield 81, 3) := by decide +kernel
theorem dX9_changesNothing_39 : decode cX9_changesNothing 39 = .ok (.iload 5, 2) := by decide +kernel
theorem dX9_changesNothing_41 : decode cX9_changesNothing 41 = .ok (.iaload, 1) := by decide +kernel
theorem dX9_changesNothing_42 : decode cX9_changesNothing 42 = .ok (.iload_n 2, 1) := by decide +kernel
theorem dX9_changesNothing_43 : decode cX9_changesNothing 43 = .ok (.iload 5, 2) := by decide +kernel
theorem dX9_changesNothing_45 : decode cX9_changesNothing 45 = .ok (.iload 4, 2) := by decide +kernel
theorem dX9_changesNothing_47 : decode cX9_changesNothing 47 = .ok (.invokevirtual 271, 3) := by decide +kernel
theorem dX9_changesNothing_50 : decode cX9_changesNothing 50 = .ok (.ifCond .ne 6, 3) := by decide +kernel
theorem dX9_changesNothing_53 : decode cX9_changesNothing 53 = .ok (.iinc 4 1, 3) := by decide +kernel
theorem dX9_changesNothing_56 : decode cX9_changesNothing 56 = .ok (.iinc 5 1, 3) := by decide +kernel
theorem dX9_changesNothing_59 : decode cX9_changesNothing 59 = .ok (.goto (-31), 3) := by decide +kernel
theorem dX9_changesNothing_62 : decode cX9_changesNothing 62 = .ok (.aload_n 0, 1) := by decide +kernel
theorem dX9_changesNothing_63 : decode cX9_changesNothing 63 = .ok (.iload_n 1, 1) := by decide +kernel
theorem dX9_changesNothing_64 : decode cX9_changesNothing 64 = .ok (.iload_n 2, 1) := by decide +kernel
theorem dX9_changesNothing_65 : decode cX9_changesNothing 65 = .ok (.iload_n 3, 1) := by decide +kernel
theorem dX9_changesNothing_66 : decode cX9_changesNothing 66 = .ok (.iload 4, 2) := by decide +kernel
theorem dX9_changesNothing_68 : decode cX9_changesNothing 68 = .ok (.invokevirtual 271, 3) := by decide +kernel
theorem dX9_changesNothing_71 : decode cX9_changesNothing 71 = .ok (.ifCond .ne 7, 3) := by decide +kernel
theorem dX9_changesNothing_74 : decode cX9_changesNothing 74 = .ok (.iconst 1, 1) := by decide +kernel
theorem dX9_changesNothing_75 : decode cX9_changesNothing 75 = .ok (.goto 4, 3) := by decide +kernel
theorem dX9_changesNothing_78 : decode cX9_changesNothing 78 = .ok (.iconst 0, 1) := by decide +kernel
theorem dX9_changesNothing_79 : decode cX9_changesNothing 79 = .ok (.ireturn, 1) := by decide +kernel
theorem dX9_between_0 : decode cX9_between 0 = .ok (.iload_n 1, 1) := by decide +kernel
theorem dX9_between_1 : decode cX9_between 1 = .ok (.invokestatic 154, 3) := by decide +kernel
theorem dX9_between_4 : decode cX9_between 4 = .ok (.ifCond .eq 15, 3) := by decide +kernel
theorem dX9_between_7 : decode cX9_between 7 = .ok (.aload_n 0, 1) := by decide +kernel
theorem dX9_between_8 : decode cX9_between 8 = .ok (.iload_n 2, 1) := by decide +kernel
theorem dX9_between_9 : decode cX9_between 9 = .ok (.invokevirtual 286, 3) := by decide +kernel
theorem dX9_between_12 : decode cX9_between 12 = .ok (.ifCond .eq 7, 3) := by decide +kernel
theorem dX9_between_15 : decode cX9_between 15 = .ok (.iload_n 3, 1) := by decide +kernel
theorem dX9_between_16 : decode cX9_between 16 = .ok (.ifCond .ge 5, 3) := by decide +kernel
theorem dX9_between_19 : decode cX9_between 19 = .ok (.iconst (-1), 1) := by decide +kernel
theorem dX9_between_20 : decode cX9_between 20 = .ok (.ireturn, 1) := by decide +kernel
theorem dX9_between_21 : decode cX9_between 21 = .ok (.aload_n 0, 1) := by decide +kernel
theorem dX9_between_22 : decode cX9_between 22 = .ok (.iload_n 1, 1) := by decide +kernel
theorem dX9_between_23 : decode cX9_between 23 = .ok (.invokevirtual 289, 3) := by decide +kernel
theorem dX9_between_26 : decode cX9_between 26 = .ok (.istore 4, 2) := by decide +kernel
theorem dX9_between_28 : decode cX9_between 28 = .ok (.iload 4, 2) := by decide +kernel
theorem dX9_between_30 : decode cX9_between 30 = .ok (.ifCond .ge 6, 3) := by decide +kernel
theorem dX9_between_33 : decode cX9_between 33 = .ok (.iload 4, 2) := by decide +kernel
theorem dX9_between_35 : decode cX9_between 35 = .ok (.ireturn, 1) := by decide +kernel
theorem dX9_between_36 : decode cX9_between 36 = .ok (.aload_n 0, 1) := by decide +kernel
theorem dX9_between_37 : decode cX9_between 37 = .ok (.iload_n 1, 1) := by decide +kernel
theorem dX9_between_38 : decode cX9_between 38 = .ok (.invokevirtual 292, 3) := by decide +kernel
theorem dX9_between_41 : decode cX9_between 41 = .ok (.aload_n 0, 1) := by decide +kernel
theorem dX9_between_42 : decode cX9_between 42 = .ok (.getfield 274, 3) := by decide +kernel
theorem dX9_between_45 : decode cX9_between 45 = .ok (.iload_n 3, 1) := by decide +kernel
theorem dX9_between_46 : decode cX9_between 46 = .ok (.if_icmp .ge 6, 3) := by decide +kernel
theorem dX9_between_49 : decode cX9_between 49 = .ok (.bipush (-2), 2) := by decide +kernel
theorem dX9_between_51 : decode cX9_between 51 = .ok (.ireturn, 1) := by decide +kernel
theorem dX9_between_52 : decode cX9_between 52 = .ok (.aload_n 0, 1) := by decide +kernel
theorem dX9_between_53 : decode cX9_between 53 = .ok (.iload_n 2, 1) := by decide +kernel
theorem dX9_between_54 : decode cX9_between 54 = .ok (.iconst 0, 1) := by decide +kernel
theorem dX9_between_55 : decode cX9_between 55 = .ok (.invokevirtual 296, 3) := by decide +kernel
theorem dX9_between_58 : decode cX9_between 58 = .ok (.aload_n 0, 1) := by decide +kernel
theorem dX9_between_59 : decode cX9_between 59 = .ok (.aload_n 0, 1) := by decide +kernel
theorem dX9_between_60 : decode cX9_between 60 = .ok (.getfield 280, 3) := by decide +kernel
theorem dX9_between_63 : decode cX9_between 63 = .ok (.putfield 315, 3) := by decide +kernel
theorem dX9_between_66 : decode cX9_between 66 = .ok (.iconst 0, 1) := by decide +kernel
theorem dX9_between_67 : decode cX9_between 67 = .ok (.istore 5, 2) := by decide +kernel
theorem dX9_between_69 : decode cX9_between 69 = .ok (.iload 5, 2) := by decide +kernel
theorem dX9_between_71 : decode cX9_between 71 = .ok (.aload_n 0, 1) := by decide +kernel
theorem dX9_between_72 : decode cX9_between 72 = .ok (.getfield 280, 3) := by decide +kernel
theorem dX9_between_75 : decode cX9_between 75 = .ok (.if_icmp .ge 23, 3) := by decide +kernel
theorem dX9_between_78 : decode cX9_between 78 = .ok (.aload_n 0, 1) := by decide +kernel
theorem dX9_between_79 : decode cX9_between 79 = .ok (.getfield 94, 3) := by decide +kernel
theorem dX9_between_82 : decode cX9_between 82 = .ok (.iload 5, 2) := by decide +kernel
theorem dX9_between_84 : decode cX9_between 84 = .ok (.aload_n 0, 1) := by decide +kernel
theorem dX9_between_85 : decode cX9_between 85 = .ok (.getfield 84, 3) := by decide +kernel
theorem dX9_between_88 : decode cX9_between 88 = .ok (.iload 5, 2) := by decide +kernel
theorem dX9_between_90 : decode cX9_between 90 = .ok (.iaload, 1) := by decide +kernel
theorem dX9_between_91 : decode cX9_between 91 = .ok (.iastore, 1) := by decide +kernel
theorem dX9_between_92 : decode cX9_between 92 = .ok (.iinc 5 1, 3) := by decide +kernel
theorem dX9_between_95 : decode cX9_between 95 = .ok (.goto (-26), 3) := by decide +kernel
theorem dX9_between_98 : decode cX9_between 98 = .ok (.aload_n 0, 1) := by decide +kernel
theorem dX9_between_99 : decode cX9_between 99 = .ok (.getfield 274, 3) := by decide +kernel
theorem dX9_between_102 : decode cX9_between 102 = .ok (.istore 5, 2) := by decide +kernel
theorem dX9_between_104 : decode cX9_between 104 = .ok (.iload 5, 2) := by decide +kernel
theorem dX9_between_106 : decode cX9_between 106 = .ok (.iload_n 3, 1) := by decide +kernel
theorem dX9_between_107 : decode cX9_between 107 = .ok (.if_icmp .le 25, 3) := by decide +kernel
theorem dX9_between_110 : decode cX9_between 110 = .ok (.aload_n 0, 1) := by decide +kernel
theorem dX9_between_111 : decode cX9_between 111 = .ok (.getfield 81, 3) := by decide +kernel
theorem dX9_between_114 : decode cX9_between 114 = .ok (.iload 5, 2) := by decide +kernel
theorem dX9_between_116 : decode cX9_between 116 = .ok (.aload_n 0, 1) := by decide +kernel
theorem dX9_between_117 : decode cX9_between 117 = .ok (.getfield 81, 3) := by decide +kernel
theorem dX9_between_120 : decode cX9_between 120 = .ok (.iload 5, 2) := by decide +kernel
theorem dX9_between_122 : decode cX9_between 122 = .ok (.iconst 1, 1) := by decide +kernel
theorem dX9_between_123 : decode cX9_between 123 = .ok (.isub, 1) := by decide +kernel
theorem dX9_between_124 : decode cX9_between 124 = .ok (.iaload, 1) := by decide +kernel
theorem dX9_between_125 : decode cX9_between 125 = .ok (.iastore, 1) := by decide +kernel
theorem dX9_between_126 : decode cX9_between 126 = .ok (.iinc 5 (-1), 3) := by decide +kernel
theorem dX9_between_129 : decode cX9_between 129 = .ok (.goto (-25), 3) := by decide +kernel
theorem dX9_between_132 : decode cX9_between 132 = .ok (.aload_n 0, 1) := by decide +kernel
theorem dX9_between_133 : decode cX9_between 133 = .ok (.dup, 1) := by decide +kernel
theorem dX9_between_134 : decode cX9_between 134 = .ok (.getfield 274, 3) := by decide +kernel
theorem dX9_between_137 : decode cX9_between 137 = .ok (.iconst 1, 1) := by decide +kernel
theorem dX9_between_138 : decode cX9_between 138 = .ok (.iadd, 1) := by decide +kernel
theorem dX9_between_139 : decode cX9_between 139 = .ok (.putfield 274, 3) := by decide +kernel
theorem dX9_between_142 : decode cX9_between 142 = .ok (.iconst 0, 1) := by decide +kernel
theorem dX9_between_143 : decode cX9_between 143 = .ok (.istore 5, 2) := by decide +kernel
theorem dX9_between_145 : decode cX9_between 145 = .ok (.iconst 0, 1) := by decide +kernel
theorem dX9_between_146 : decode cX9_between 146 = .ok (.istore 6, 2) := by decide +kernel
theorem dX9_between_148 : decode cX9_between 148 = .ok (.iload 6, 2) := by decide +kernel
theorem dX9_between_150 : decode cX9_between 150 = .ok (.aload_n 0, 1) := by decide +kernel
theorem dX9_between_151 : decode cX9_between 151 = .ok (.getfield 140, 3) := by decide +kernel
theorem dX9_between_154 : decode cX9_between 154 = .ok (.if_icmp .ge 29, 3) := by decide +kernel
theorem dX9_between_157 : decode cX9_between 157 = .ok (.aload_n 0, 1) := by decide +kernel
theorem dX9_between_158 : decode cX9_between 158 = .ok (.iload 6, 2) := by decide +kernel
theorem dX9_between_160 : decode cX9_between 160 = .ok (.iload_n 2, 1) := by decide +kernel
theorem dX9_between_161 : decode cX9_between 161 = .ok (.iload_n 3, 1) := by decide +kernel
theorem dX9_between_162 : decode cX9_between 162 = .ok (.invokevirtual 378, 3) := by decide +kernel
theorem dX9_between_165 : decode cX9_between 165 = .ok (.ifCond .eq 12, 3) := by decide +kernel
theorem dX9_between_168 : decode cX9_between 168 = .ok (.iload 5, 2) := by decide +kernel
theorem dX9_between_170 : decode cX9_between 170 = .ok (.iconst 1, 1) := by decide +kernel
theorem dX9_between_171 : decode cX9_between 171 = .ok (.iload 6, 2) := by decide +kernel
theorem dX9_between_173 : decode cX9_between 173 = .ok (.ishl, 1) := by decide +kernel
theorem dX9_between_174 : decode cX9_between 174 = .ok (.ior, 1) := by decide +kernel
theorem dX9_between_175 : decode cX9_between 175 = .ok (.istore 5, 2) := by decide +kernel
theorem dX9_between_177 : decode cX9_between 177 = .ok (.iinc 6 1, 3) := by decide +kernel
theorem dX9_between_180 : decode cX9_between 180 = .ok (.goto (-32), 3) := by decide +kernel
theorem dX9_between_183 : decode cX9_between 183 = .ok (.iload 5, 2) := by decide +kernel
theorem dX9_between_185 : decode cX9_between 185 = .ok (.ireturn, 1) := by decide +kernel
theorem dX9_harmOf_0 : decode cX9_harmOf 0 = .ok (.iconst 0, 1) := by decide +kernel
theorem dX9_harmOf_1 : decode cX9_harmOf 1 = .ok (.istore_n 2, 1) := by decide +kernel
theorem dX9_harmOf_2 : decode cX9_harmOf 2 = .ok (.iconst 0, 1) := by decide +kernel
theorem dX9_harmOf_3 : decode cX9_harmOf 3 = .ok (.istore_n 3, 1) := by decide +kernel
theorem dX9_harmOf_4 : decode cX9_harmOf 4 = .ok (.iload_n 3, 1) := by decide +kernel
theorem dX9_harmOf_5 : decode cX9_harmOf 5 = .ok (.aload_n 0, 1) := by decide +kernel
theorem dX9_harmOf_6 : decode cX9_harmOf 6 = .ok (.getfield 283, 3) := by decide +kernel
theorem dX9_harmOf_9 : decode cX9_harmOf 9 = .ok (.if_icmp .ge 38, 3) := by decide +kernel
theorem dX9_harmOf_12 : decode cX9_harmOf 12 = .ok (.aload_n 0, 1) := by decide +kernel
theorem dX9_harmOf_13 : decode cX9_harmOf 13 = .ok (.getfield 24, 3) := by decide +kernel
theorem dX9_harmOf_16 : decode cX9_harmOf 16 = .ok (.aload_n 0, 1) := by decide +kernel
theorem dX9_harmOf_17 : decode cX9_harmOf 17 = .ok (.getfield 87, 3) := by decide +kernel
theorem dX9_harmOf_20 : decode cX9_harmOf 20 = .ok (.iload_n 3, 1) := by decide +kernel
theorem dX9_harmOf_21 : decode cX9_harmOf 21 = .ok (.iaload, 1) := by decide +kernel
theorem dX9_harmOf_22 : decode cX9_harmOf 22 = .ok (.iaload, 1) := by decide +kernel
theorem dX9_harmOf_23 : decode cX9_harmOf 23 = .ok (.iload_n 1, 1) := by decide +kernel
theorem dX9_harmOf_24 : decode cX9_harmOf 24 = .ok (.if_icmp .ne 17, 3) := by decide +kernel
theorem dX9_harmOf_27 : decode cX9_harmOf 27 = .ok (.iload_n 2, 1) := by decide +kernel
theorem dX9_harmOf_28 : decode cX9_harmOf 28 = .ok (.aload_n 0, 1) := by decide +kernel
theorem dX9_harmOf_29 : decode cX9_harmOf 29 = .ok (.getfield 15, 3) := by decide +kernel
theorem dX9_harmOf_32 : decode cX9_harmOf 32 = .ok (.aload_n 0, 1) := by decide +kernel
theorem dX9_harmOf_33 : decode cX9_harmOf 33 = .ok (.getfield 87, 3) := by decide +kernel
theorem dX9_harmOf_36 : decode cX9_harmOf 36 = .ok (.iload_n 3, 1) := by decide +kernel
theorem dX9_harmOf_37 : decode cX9_harmOf 37 = .ok (.iaload, 1) := by decide +kernel
theorem dX9_harmOf_38 : decode cX9_harmOf 38 = .ok (.iaload, 1) := by decide +kernel
theorem dX9_harmOf_39 : decode cX9_harmOf 39 = .ok (.iadd, 1) := by decide +kernel
theorem dX9_harmOf_40 : decode cX9_harmOf 40 = .ok (.istore_n 2, 1) := by decide +kernel
theorem dX9_harmOf_41 : decode cX9_harmOf 41 = .ok (.iinc 3 1, 3) := by decide +kernel
theorem dX9_harmOf_44 : decode cX9_harmOf 44 = .ok (.goto (-40), 3) := by decide +kernel
theorem dX9_harmOf_47 : decode cX9_harmOf 47 = .ok (.iload_n 2, 1) := by decide +kernel
theorem dX9_harmOf_48 : decode cX9_harmOf 48 = .ok (.ireturn, 1) := by decide +kernel
theorem dX9_comesOf_0 : decode cX9_comesOf 0 = .ok (.iconst 0, 1) := by decide +kernel
theorem dX9_comesOf_1 : decode cX9_comesOf 1 = .ok (.istore_n 2, 1) := by decide +kernel
theorem dX9_comesOf_2 : decode cX9_comesOf 2 = .ok (.iload_n 2, 1) := by decide +kernel
theorem dX9_comesOf_3 : decode cX9_comesOf 3 = .ok (.aload_n 0, 1) := by decide +kernel
theorem dX9_comesOf_4 : decode cX9_comesOf 4 = .ok (.getfield 280, 3) := by decide +kernel
theorem dX9_comesOf_7 : decode cX9_comesOf 7 = .ok (.if_icmp .ge 26, 3) := by decide +kernel
theorem dX9_comesOf_10 : decode cX9_comesOf 10 = .ok (.aload_n 0, 1) := by decide +kernel
theorem dX9_comesOf_11 : decode cX9_comesOf 11 = .ok (.getfield 24, 3) := by decide +kernel
theorem dX9_comesOf_14 : decode cX9_comesOf 14 = .ok (.aload_n 0, 1) := by decide +kernel
theorem dX9_comesOf_15 : decode cX9_comesOf 15 = .ok (.getfield 84, 3) := by decide +kernel
theorem dX9_comesOf_18 : decode cX9_comesOf 18 = .ok (.iload_n 2, 1) := by decide +kernel
theorem dX9_comesOf_19 : decode cX9_comesOf 19 = .ok (.iaload, 1) := by decide +kernel
theorem dX9_comesOf_20 : decode cX9_comesOf 20 = .ok (.iaload, 1) := by decide +kernel
theorem dX9_comesOf_21 : decode cX9_comesOf 21 = .ok (.iload_n 1, 1) := by decide +kernel
theorem dX9_comesOf_22 : decode cX9_comesOf 22 = .ok (.if_icmp .ne 5, 3) := by decide +kernel
theorem dX9_comesOf_25 : decode cX9_comesOf 25 = .ok (.iconst 1, 1) := by decide +kernel
theorem dX9_comesOf_26 : decode cX9_comesOf 26 = .ok (.ireturn, 1) := by decide +kernel
theorem dX9_comesOf_27 : decode cX9_comesOf 27 = .ok (.iinc 2 1, 3) := by decide +kernel
theorem dX9_comesOf_30 : decode cX9_comesOf 30 = .ok (.goto (-28), 3) := by decide +kernel
theorem dX9_comesOf_33 : decode cX9_comesOf 33 = .ok (.iconst 0, 1) := by decide +kernel
theorem dX9_comesOf_34 : decode cX9_comesOf 34 = .ok (.ireturn, 1) := by decide +kernel
theorem dX9_meant_0 : decode cX9_meant 0 = .ok (.iload_n 1, 1) := by decide +kernel
theorem dX9_meant_1 : decode cX9_meant 1 = .ok (.invokestatic 154, 3) := by decide +kernel
theorem dX9_meant_4 : decode cX9_meant 4 = .ok (.ifCond .eq 20, 3) := by decide +kernel
theorem dX9_meant_7 : decode cX9_meant 7 = .ok (.aload_n 0, 1) := by decide +kernel
theorem dX9_meant_8 : decode cX9_meant 8 = .ok (.iload_n 2, 1) := by decide +kernel
theorem dX9_meant_9 : decode cX9_meant 9 = .ok (.invokevirtual 286, 3) := by decide +kernel
theorem dX9_meant_12 : decode cX9_meant 12 = .ok (.ifCond .eq 12, 3) := by decide +kernel
theorem dX9_meant_15 : decode cX9_meant 15 = .ok (.iload_n 3, 1) := by decide +kernel
theorem dX9_meant_16 : decode cX9_meant 16 = .ok (.iconst 0, 1) := by decide +kernel
theorem dX9_meant_17 : decode cX9_meant 17 = .ok (.iconst 1, 1) := by decide +kernel
theorem dX9_meant_18 : decode cX9_meant 18 = .ok (.invokestatic 143, 3) := by decide +kernel
theorem dX9_meant_21 : decode cX9_meant 21 = .ok (.ifCond .ne 5, 3) := by decide +kernel
theorem dX9_meant_24 : decode cX9_meant 24 = .ok (.iconst (-1), 1) := by decide +kernel
theorem dX9_meant_25 : decode cX9_meant 25 = .ok (.ireturn, 1) := by decide +kernel
theorem dX9_meant_26 : decode cX9_meant 26 = .ok (.aload_n 0, 1) := by decide +kernel
theorem dX9_meant_27 : decode cX9_meant 27 = .ok (.iload_n 1, 1) := by decide +kernel
theorem dX9_meant_28 : decode cX9_meant 28 = .ok (.invokevirtual 289, 3) := by decide +kernel
theorem dX9_meant_31 : decode cX9_meant 31 = .ok (.istore 4, 2) := by decide +kernel
theorem dX9_meant_33 : decode cX9_meant 33 = .ok (.iload 4, 2) := by decide +kernel
theorem dX9_meant_35 : decode cX9_meant 35 = .ok (.ifCond .ge 6, 3) := by decide +kernel
theorem dX9_meant_38 : decode cX9_meant 38 = .ok (.iload 4, 2) := by decide +kernel
theorem dX9_meant_40 : decode cX9_meant 40 = .ok (.ireturn, 1) := by decide +kernel
theorem dX9_meant_41 : decode cX9_meant 41 = .ok (.aload_n 0, 1) := by decide +kernel
theorem dX9_meant_42 : decode cX9_meant 42 = .ok (.iload_n 1, 1) := by decide +kernel
theorem dX9_meant_43 : decode cX9_meant 43 = .ok (.invokevirtual 292, 3) := by decide +kernel
theorem dX9_meant_46 : decode cX9_meant 46 = .ok (.aload_n 0, 1) := by decide +kernel
theorem dX9_meant_47 : decode cX9_meant 47 = .ok (.iload_n 2, 1) := by decide +kernel
theorem dX9_meant_48 : decode cX9_meant 48 = .ok (.iconst 0, 1) := by decide +kernel
theorem dX9_meant_49 : decode cX9_meant 49 = .ok (.invokevirtual 296, 3) := by decide +kernel
theorem dX9_meant_52 : decode cX9_meant 52 = .ok (.bipush (-2), 2) := by decide +kernel
theorem dX9_meant_54 : decode cX9_meant 54 = .ok (.istore 5, 2) := by decide +kernel
theorem dX9_meant_56 : decode cX9_meant 56 = .ok (.iconst 0, 1) := by decide +kernel
theorem dX9_meant_57 : decode cX9_meant 57 = .ok (.istore 6, 2) := by decide +kernel
theorem dX9_meant_59 : decode cX9_meant 59 = .ok (.iconst 0, 1) := by decide +kernel
theorem dX9_meant_60 : decode cX9_meant 60 = .ok (.istore 7, 2) := by decide +kernel
theorem dX9_meant_62 : decode cX9_meant 62 = .ok (.iconst 0, 1) := by decide +kernel
theorem dX9_meant_63 : decode cX9_meant 63 = .ok (.istore 8, 2) := by decide +kernel
theorem dX9_meant_65 : decode cX9_meant 65 = .ok (.iload 8, 2) := by decide +kernel
theorem dX9_meant_67 : decode cX9_meant 67 = .ok (.bipush 6, 2) := by decide +kernel
theorem dX9_meant_69 : decode cX9_meant 69 = .ok (.if_icmp .ge 58, 3) := by decide +kernel
theorem dX9_meant_72 : decode cX9_meant 72 = .ok (.aload_n 0, 1) := by decide +kernel
theorem dX9_meant_73 : decode cX9_meant 73 = .ok (.iload 8, 2) := by decide +kernel
theorem dX9_meant_75 : decode cX9_meant 75 = .ok (.invokevirtual 381, 3) := by decide +kernel
theorem dX9_meant_78 : decode cX9_meant 78 = .ok (.istore 9, 2) := by decide +kernel
theorem dX9_meant_80 : decode cX9_meant 80 = .ok (.iload 9, 2) := by decide +kernel
theorem dX9_meant_82 : decode cX9_meant 82 = .ok (.ifCond .le 21, 3) := by decide +kernel
theorem dX9_meant_85 : decode cX9_meant 85 = .ok (.aload_n 0, 1) := by decide +kernel
theorem dX9_meant_86 : decode cX9_meant 86 = .ok (.iload 8, 2) := by decide +kernel
theorem dX9_meant_88 : decode cX9_meant 88 = .ok (.invokevirtual 384, 3) := by decide +kernel
theorem dX9_meant_91 : decode cX9_meant 91 = .ok (.ifCond .ne 12, 3) := by decide +kernel
theorem dX9_meant_94 : decode cX9_meant 94 = .ok (.iload 7, 2) := by decide +kernel
theorem dX9_meant_96 : decode cX9_meant 96 = .ok (.iconst 1, 1) := by decide +kernel
theorem dX9_meant_97 : decode cX9_meant 97 = .ok (.iload 8, 2) := by decide +kernel
theorem dX9_meant_99 : decode cX9_meant 99 = .ok (.ishl, 1) := by decide +kernel
theorem dX9_meant_100 : decode cX9_meant 100 = .ok (.ior, 1) := by decide +kernel
theorem dX9_meant_101 : decode cX9_meant 101 = .ok (.istore 7, 2) := by decide +kernel
theorem dX9_meant_103 : decode cX9_meant 103 = .ok (.iload 9, 2) := by decide +kernel
theorem dX9_meant_105 : decode cX9_meant 105 = .ok (.iload 6, 2) := by decide +kernel
theorem dX9_meant_107 : decode cX9_meant 107 = .ok (.if_icmp .gt 6, 3) := by decide +kernel
theorem dX9_meant_110 : decode cX9_meant 110 = .ok (.goto 11, 3) := by decide +kernel
theorem dX9_meant_113 : decode cX9_meant 113 = .ok (.iload 8, 2) := by decide +kernel
theorem dX9_meant_115 : decode cX9_meant 115 = .ok (.istore 5, 2) := by decide +kernel
theorem dX9_meant_117 : decode cX9_meant 117 = .ok (.iload 9, 2) := by decide +kernel
theorem dX9_meant_119 : decode cX9_meant 119 = .ok (.istore 6, 2) := by decide +kernel
theorem dX9_meant_121 : decode cX9_meant 121 = .ok (.iinc 8 1, 3) := by decide +kernel
theorem dX9_meant_124 : decode cX9_meant 124 = .ok (.goto (-59), 3) := by decide +kernel
theorem dX9_meant_127 : decode cX9_meant 127 = .ok (.iload_n 3, 1) := by decide +kernel
theorem dX9_meant_128 : decode cX9_meant 128 = .ok (.ifCond .ne 8, 3) := by decide +kernel
theorem dX9_meant_131 : decode cX9_meant 131 = .ok (.iload 5, 2) := by decide +kernel
theorem dX9_meant_133 : decode cX9_meant 133 = .ok (.goto 5, 3) := by decide +kernel
theorem dX9_meant_136 : decode cX9_meant 136 = .ok (.iload 7, 2) := by decide +kernel
theorem dX9_meant_138 : decode cX9_meant 138 = .ok (.ireturn, 1) := by decide +kernel
theorem dX9_lowest_0 : decode cX9_lowest 0 = .ok (.lload_n 0, 1) := by decide +kernel
theorem dX9_lowest_1 : decode cX9_lowest 1 = .ok (.lstore 5, 2) := by decide +kernel
theorem dX9_lowest_3 : decode cX9_lowest 3 = .ok (.lload_n 2, 1) := by decide +kernel
theorem dX9_lowest_4 : decode cX9_lowest 4 = .ok (.lstore 7, 2) := by decide +kernel
theorem dX9_lowest_6 : decode cX9_lowest 6 = .ok (.lload 7, 2) := by decide +kernel
theorem dX9_lowest_8 : decode cX9_lowest 8 = .ok (.lconst 0, 1) := by decide +kernel
theorem dX9_lowest_9 : decode cX9_lowest 9 = .ok (.lcmp, 1) := by decide +kernel
theorem dX9_lowest_10 : decode cX9_lowest 10 = .ok (.ifCond .eq 21, 3) := by decide +kernel
theorem dX9_lowest_13 : decode cX9_lowest 13 = .ok (.lload 5, 2) := by decide +kernel
theorem dX9_lowest_15 : decode cX9_lowest 15 = .ok (.lload 7, 2) := by decide +kernel
theorem dX9_lowest_17 : decode cX9_lowest 17 = .ok (.lrem, 1) := by decide +kernel
theorem dX9_lowest_18 : decode cX9_lowest 18 = .ok (.lstore 9, 2) := by decide +kernel
theorem dX9_lowest_20 : decode cX9_lowest 20 = .ok (.lload 7, 2) := by decide +kernel
theorem dX9_lowest_22 : decode cX9_lowest 22 = .ok (.lstore 5, 2) := by decide +kernel
theorem dX9_lowest_24 : decode cX9_lowest 24 = .ok (.lload 9, 2) := by decide +kernel
theorem dX9_lowest_26 : decode cX9_lowest 26 = .ok (.lstore 7, 2) := by decide +kernel
theorem dX9_lowest_28 : decode cX9_lowest 28 = .ok (.goto (-22), 3) := by decide +kernel
theorem dX9_lowest_31 : decode cX9_lowest 31 = .ok (.iload 4, 2) := by decide +kernel
theorem dX9_lowest_33 : decode cX9_lowest 33 = .ok (.ifCond .ne 10, 3) := by decide +kernel
theorem dX9_lowest_36 : decode cX9_lowest 36 = .ok (.lload_n 0, 1) := by decide +kernel
theorem dX9_lowest_37 : decode cX9_lowest 37 = .ok (.lload 5, 2) := by decide +kernel
theorem dX9_lowest_39 : decode cX9_lowest 39 = .ok (.ldiv, 1) := by decide +kernel
theorem dX9_lowest_40 : decode cX9_lowest 40 = .ok (.goto 7, 3) := by decide +kernel
theorem dX9_lowest_43 : decode cX9_lowest 43 = .ok (.lload_n 2, 1) := by decide +kernel
theorem dX9_lowest_44 : decode cX9_lowest 44 = .ok (.lload 5, 2) := by decide +kernel
theorem dX9_lowest_46 : decode cX9_lowest 46 = .ok (.ldiv, 1) := by decide +kernel
theorem dX9_lowest_47 : decode cX9_lowest 47 = .ok (.lreturn, 1) := by decide +kernel
theorem dX9_likely_0 : decode cX9_likely 0 = .ok (.iload_n 1, 1) := by decide +kernel
theorem dX9_likely_1 : decode cX9_likely 1 = .ok (.invokestatic 154, 3) := by decide +kernel
theorem dX9_likely_4 : decode cX9_likely 4 = .ok (.ifCond .eq 38, 3) := by decide +kernel
theorem dX9_likely_7 : decode cX9_likely 7 = .ok (.aload_n 0, 1) := by decide +kernel
theorem dX9_likely_8 : decode cX9_likely 8 = .ok (.iload_n 2, 1) := by decide +kernel
theorem dX9_likely_9 : decode cX9_likely 9 = .ok (.invokevirtual 286, 3) := by decide +kernel
theorem dX9_likely_12 : decode cX9_likely 12 = .ok (.ifCond .eq 30, 3) := by decide +kernel
theorem dX9_likely_15 : decode cX9_likely 15 = .ok (.iload_n 3, 1) := by decide +kernel
theorem dX9_likely_16 : decode cX9_likely 16 = .ok (.iconst 0, 1) := by decide +kernel
theorem dX9_likely_17 : decode cX9_likely 17 = .ok (.iconst 5, 1) := by decide +kernel
theorem dX9_likely_18 : decode cX9_likely 18 = .ok (.invokestatic 143, 3) := by decide +kernel
theorem dX9_likely_21 : decode cX9_likely 21 = .ok (.ifCond .eq 21, 3) := by decide +kernel
theorem dX9_likely_24 : decode cX9_likely 24 = .ok (.iload 4, 2) := by decide +kernel
theorem dX9_likely_26 : decode cX9_likely 26 = .ok (.iconst 0, 1) := by decide +kernel
theorem dX9_likely_27 : decode cX9_likely 27 = .ok (.iconst 1, 1) := by decide +kernel
theorem dX9_likely_28 : decode cX9_likely 28 = .ok (.invokestatic 143, 3) := by decide +kernel
theorem dX9_likely_31 : decode cX9_likely 31 = .ok (.ifCond .eq 11, 3) := by decide +kernel
theorem dX9_likely_34 : decode cX9_likely 34 = .ok (.aload_n 0, 1) := by decide +kernel
theorem dX9_likely_35 : decode cX9_likely 35 = .ok (.iload_n 1, 1) := by decide +kernel
theorem dX9_likely_36 : decode cX9_likely 36 = .ok (.invokevirtual 289, 3) := by decide +kernel
theorem dX9_likely_39 : decode cX9_likely 39 = .ok (.ifCond .ge 7, 3) := by decide +kernel
theorem dX9_likely_42 : decode cX9_likely 42 = .ok (.ldc2_w 358, 3) := by decide +kernel
theorem dX9_likely_45 : decode cX9_likely 45 = .ok (.lreturn, 1) := by decide +kernel
theorem dX9_likely_46 : decode cX9_likely 46 = .ok (.aload_n 0, 1) := by decide +kernel
theorem dX9_likely_47 : decode cX9_likely 47 = .ok (.iload_n 1, 1) := by decide +kernel
theorem dX9_likely_48 : decode cX9_likely 48 = .ok (.invokevirtual 292, 3) := by decide +kernel
theorem dX9_likely_51 : decode cX9_likely 51 = .ok (.aload_n 0, 1) := by decide +kernel
theorem dX9_likely_52 : decode cX9_likely 52 = .ok (.iload_n 2, 1) := by decide +kernel
theorem dX9_likely_53 : decode cX9_likely 53 = .ok (.iconst 0, 1) := by decide +kernel
theorem dX9_likely_54 : decode cX9_likely 54 = .ok (.invokevirtual 296, 3) := by decide +kernel
theorem dX9_likely_57 : decode cX9_likely 57 = .ok (.aload_n 0, 1) := by decide +kernel
theorem dX9_likely_58 : decode cX9_likely 58 = .ok (.invokevirtual 306, 3) := by decide +kernel
theorem dX9_likely_61 : decode cX9_likely 61 = .ok (.istore 5, 2) := by decide +kernel
theorem dX9_likely_63 : decode cX9_likely 63 = .ok (.iload 5, 2) := by decide +kernel
theorem dX9_likely_65 : decode cX9_likely 65 = .ok (.ifCond .ne 9, 3) := by decide +kernel
theorem dX9_likely_68 : decode cX9_likely 68 = .ok (.iload 4, 2) := by decide +kernel
theorem dX9_likely_70 : decode cX9_likely 70 = .ok (.i2l, 1) := by decide +kernel
theorem dX9_likely_71 : decode cX9_likely 71 = .ok (.goto 17, 3) := by decide +kernel
theorem dX9_likely_74 : decode cX9_likely 74 = .ok (.aload_n 0, 1) := by decide +kernel
theorem dX9_likely_75 : decode cX9_likely 75 = .ok (.iload_n 3, 1) := by decide +kernel
theorem dX9_likely_76 : decode cX9_likely 76 = .ok (.invokevirtual 381, 3) := by decide +kernel
theorem dX9_likely_79 : decode cX9_likely 79 = .ok (.i2l, 1) := by decide +kernel
theorem dX9_likely_80 : decode cX9_likely 80 = .ok (.iload 5, 2) := by decide +kernel
theorem dX9_likely_82 : decode cX9_likely 82 = .ok (.i2l, 1) := by decide +kernel
theorem dX9_likely_83 : decode cX9_likely 83 = .ok (.iload 4, 2) := by decide +kernel
theorem dX9_likely_85 : decode cX9_likely 85 = .ok (.invokestatic 387, 3) := by decide +kernel
theorem dX9_likely_88 : decode cX9_likely 88 = .ok (.lreturn, 1) := by decide +kernel
theorem dX9_playedMany_0 : decode cX9_playedMany 0 = .ok (.aload_n 0, 1) := by decide +kernel
theorem dX9_playedMany_1 : decode cX9_playedMany 1 = .ok (.getfield 140, 3) := by decide +kernel
theorem dX9_playedMany_4 : decode cX9_playedMany 4 = .ok (.bipush 10, 2) := by decide +kernel
theorem dX9_playedMany_6 : decode cX9_playedMany 6 = .ok (.if_icmp .ge 10, 3) := by decide +kernel
theorem dX9_playedMany_9 : decode cX9_playedMany 9 = .ok (.aload_n 0, 1) := by decide +kernel
theorem dX9_playedMany_10 : decode cX9_playedMany 10 = .ok (.getfield 140, 3) := by decide +kernel
theorem dX9_playedMany_13 : decode cX9_playedMany 13 = .ok (.goto 5, 3) := by decide +kernel
theorem dX9_playedMany_16 : decode cX9_playedMany 16 = .ok (.bipush 10, 2) := by decide +kernel
theorem dX9_playedMany_18 : decode cX9_playedMany 18 = .ok (.ireturn, 1) := by decide +kernel
theorem dX9_mayPlay_0 : decode cX9_mayPlay 0 = .ok (.iload_n 2, 1) := by decide +kernel
theorem dX9_mayPlay_1 : decode cX9_mayPlay 1 = .ok (.iload_n 1, 1) := by decide +kernel
theorem dX9_mayPlay_2 : decode cX9_mayPlay 2 = .ok (.ishr, 1) := by decide +kernel
theorem dX9_mayPlay_3 : decode cX9_mayPlay 3 = .ok (.iconst 1, 1) := by decide +kernel
theorem dX9_mayPlay_4 : decode cX9_mayPlay 4 = .ok (.iand, 1) := by decide +kernel
theorem dX9_mayPlay_5 : decode cX9_mayPlay 5 = .ok (.ifCond .ne 21, 3) := by decide +kernel
theorem dX9_mayPlay_8 : decode cX9_mayPlay 8 = .ok (.aload_n 0, 1) := by decide +kernel
theorem dX9_mayPlay_9 : decode cX9_mayPlay 9 = .ok (.iload_n 1, 1) := by decide +kernel
theorem dX9_mayPlay_10 : decode cX9_mayPlay 10 = .ok (.iload_n 3, 1) := by decide +kernel
theorem dX9_mayPlay_11 : decode cX9_mayPlay 11 = .ok (.iload_n 2, 1) := by decide +kernel
theorem dX9_mayPlay_12 : decode cX9_mayPlay 12 = .ok (.invokestatic 339, 3) := by decide +kernel
theorem dX9_mayPlay_15 : decode cX9_mayPlay 15 = .ok (.iconst 0, 1) := by decide +kernel
theorem dX9_mayPlay_16 : decode cX9_mayPlay 16 = .ok (.invokevirtual 271, 3) := by decide +kernel
theorem dX9_mayPlay_19 : decode cX9_mayPlay 19 = .ok (.ifCond .eq 7, 3) := by decide +kernel
theorem dX9_mayPlay_22 : decode cX9_mayPlay 22 = .ok (.iconst 1, 1) := by decide +kernel
theorem dX9_mayPlay_23 : decode cX9_mayPlay 23 = .ok (.goto 4, 3) := by decide +kernel
theorem dX9_mayPlay_26 : decode cX9_mayPlay 26 = .ok (.iconst 0, 1) := by decide +kernel
theorem dX9_mayPlay_27 : decode cX9_mayPlay 27 = .ok (.ireturn, 1) := by decide +kernel
theorem dX9_winningWord_0 : decode cX9_winningWord 0 = .ok (.iconst 0, 1) := by decide +kernel
theorem dX9_winningWord_1 : decode cX9_winningWord 1 = .ok (.istore_n 3, 1) := by decide +kernel
theorem dX9_winningWord_2 : decode cX9_winningWord 2 = .ok (.iload_n 3, 1) := by decide +kernel
theorem dX9_winningWord_3 : decode cX9_winningWord 3 = .ok (.aload_n 0, 1) := by decide +kernel
theorem dX9_winningWord_4 : decode cX9_winningWord 4 = .ok (.invokevirtual 391, 3) := by decide +kernel
theorem dX9_winningWord_7 : decode cX9_winningWord 7 = .ok (.if_icmp .ge 34, 3) := by decide +kernel
theorem dX9_winningWord_10 : decode cX9_winningWord 10 = .ok (.aload_n 0, 1) := by decide +kernel
theorem dX9_winningWord_11 : decode cX9_winningWord 11 = .ok (.iload_n 3, 1) := by decide +kernel
theorem dX9_winningWord_12 : decode cX9_winningWord 12 = .ok (.iload_n 1, 1) := by decide +kernel
theorem dX9_winningWord_13 : decode cX9_winningWord 13 = .ok (.iload_n 2, 1) := by decide +kernel
theorem dX9_winningWord_14 : decode cX9_winningWord 14 = .ok (.invokevirtual 394, 3) := by decide +kernel
theorem dX9_winningWord_17 : decode cX9_winningWord 17 = .ok (.ifCond .eq 18, 3) := by decide +kernel
theorem dX9_winningWord_20 : decode cX9_winningWord 20 = .ok (.aload_n 0, 1) := by decide +kernel
theorem dX9_winningWord_21 : decode cX9_winningWord 21 = .ok (.getfield 104, 3) := by decide +kernel
theorem dX9_winningWord_24 : decode cX9_winningWord 24 = .ok (.iload_n 1, 1) := by decide +kernel
theorem dX9_winningWord_25 : decode cX9_winningWord 25 = .ok (.iconst 1, 1) := by decide +kernel
theorem dX9_winningWord_26 : decode cX9_winningWord 26 = .ok (.iload_n 3, 1) := by decide +kernel
theorem dX9_winningWord_27 : decode cX9_winningWord 27 = .ok (.ishl, 1) := by decide +kernel
theorem dX9_winningWord_28 : decode cX9_winningWord 28 = .ok (.ior, 1) := by decide +kernel
theorem dX9_winningWord_29 : decode cX9_winningWord 29 = .ok (.baload, 1) := by decide +kernel
theorem dX9_winningWord_30 : decode cX9_winningWord 30 = .ok (.ifCond .ne 5, 3) := by decide +kernel
theorem dX9_winningWord_33 : decode cX9_winningWord 33 = .ok (.iload_n 3, 1) := by decide +kernel
theorem dX9_winningWord_34 : decode cX9_winningWord 34 = .ok (.ireturn, 1) := by decide +kernel
theorem dX9_winningWord_35 : decode cX9_winningWord 35 = .ok (.iinc 3 1, 3) := by decide +kernel
theorem dX9_winningWord_38 : decode cX9_winningWord 38 = .ok (.goto (-36), 3) := by decide +kernel
theorem dX9_winningWord_41 : decode cX9_winningWord 41 = .ok (.bipush (-2), 2) := by decide +kernel
theorem dX9_winningWord_43 : decode cX9_winningWord 43 = .ok (.ireturn, 1) := by decide +kernel
theorem dX9_game_0 : decode cX9_game 0 = .ok (.aload_n 0, 1) := by decide +kernel
theorem dX9_game_1 : decode cX9_game 1 = .ok (.iload_n 1, 1) := by decide +kernel
theorem dX9_game_2 : decode cX9_game 2 = .ok (.invokevirtual 180, 3) := by decide +kernel
theorem dX9_game_5 : decode cX9_game 5 = .ok (.ifCond .eq 12, 3) := by decide +kernel
theorem dX9_game_8 : decode cX9_game 8 = .ok (.iload_n 2, 1) := by decide +kernel
theorem dX9_game_9 : decode cX9_game 9 = .ok (.iconst 0, 1) := by decide +kernel
theorem dX9_game_10 : decode cX9_game 10 = .ok (.iconst 1, 1) := by decide +kernel
theorem dX9_game_11 : decode cX9_game 11 = .ok (.invokestatic 143, 3) := by decide +kernel
theorem dX9_game_14 : decode cX9_game 14 = .ok (.ifCond .ne 5, 3) := by decide +kernel
theorem dX9_game_17 : decode cX9_game 17 = .ok (.iconst (-1), 1) := by decide +kernel
theorem dX9_game_18 : decode cX9_game 18 = .ok (.ireturn, 1) := by decide +kernel
theorem dX9_game_19 : decode cX9_game 19 = .ok (.iconst 1, 1) := by decide +kernel
theorem dX9_game_20 : decode cX9_game 20 = .ok (.aload_n 0, 1) := by decide +kernel
theorem dX9_game_21 : decode cX9_game 21 = .ok (.invokevirtual 391, 3) := by decide +kernel
theorem dX9_game_24 : decode cX9_game 24 = .ok (.ishl, 1) := by decide +kernel
theorem dX9_game_25 : decode cX9_game 25 = .ok (.iconst 1, 1) := by decide +kernel
theorem dX9_game_26 : decode cX9_game 26 = .ok (.isub, 1) := by decide +kernel
theorem dX9_game_27 : decode cX9_game 27 = .ok (.istore_n 3, 1) := by decide +kernel
theorem dX9_game_28 : decode cX9_game 28 = .ok (.iload_n 3, 1) := by decide +kernel
theorem dX9_game_29 : decode cX9_game 29 = .ok (.ifCond .lt 29, 3) := by decide +kernel
theorem dX9_game_32 : decode cX9_game 32 = .ok (.aload_n 0, 1) := by decide +kernel
theorem dX9_game_33 : decode cX9_game 33 = .ok (.getfield 104, 3) := by decide +kernel
theorem dX9_game_36 : decode cX9_game 36 = .ok (.iload_n 3, 1) := by decide +kernel
theorem dX9_game_37 : decode cX9_game 37 = .ok (.aload_n 0, 1) := by decide +kernel
theorem dX9_game_38 : decode cX9_game 38 = .ok (.iload_n 3, 1) := by decide +kernel
theorem dX9_game_39 : decode cX9_game 39 = .ok (.iload_n 1, 1) := by decide +kernel
theorem dX9_game_40 : decode cX9_game 40 = .ok (.invokevirtual 397, 3) := by decide +kernel
theorem dX9_game_43 : decode cX9_game 43 = .ok (.ifCond .lt 7, 3) := by decide +kernel
theorem dX9_game_46 : decode cX9_game 46 = .ok (.iconst 1, 1) := by decide +kernel
theorem dX9_game_47 : decode cX9_game 47 = .ok (.goto 4, 3) := by decide +kernel
theorem dX9_game_50 : decode cX9_game 50 = .ok (.iconst 0, 1) := by decide +kernel
theorem dX9_game_51 : decode cX9_game 51 = .ok (.bastore, 1) := by decide +kernel
theorem dX9_game_52 : decode cX9_game 52 = .ok (.iinc 3 (-1), 3) := by decide +kernel
theorem dX9_game_55 : decode cX9_game 55 = .ok (.goto (-27), 3) := by decide +kernel
theorem dX9_game_58 : decode cX9_game 58 = .ok (.iload_n 2, 1) := by decide +kernel
theorem dX9_game_59 : decode cX9_game 59 = .ok (.ifCond .ne 20, 3) := by decide +kernel
theorem dX9_game_62 : decode cX9_game 62 = .ok (.aload_n 0, 1) := by decide +kernel
theorem dX9_game_63 : decode cX9_game 63 = .ok (.getfield 104, 3) := by decide +kernel
theorem dX9_game_66 : decode cX9_game 66 = .ok (.iconst 0, 1) := by decide +kernel
theorem dX9_game_67 : decode cX9_game 67 = .ok (.baload, 1) := by decide +kernel
theorem dX9_game_68 : decode cX9_game 68 = .ok (.ifCond .eq 7, 3) := by decide +kernel
theorem dX9_game_71 : decode cX9_game 71 = .ok (.iconst 1, 1) := by decide +kernel
theorem dX9_game_72 : decode cX9_game 72 = .ok (.goto 13, 3) := by decide +kernel
theorem dX9_game_75 : decode cX9_game 75 = .ok (.iconst 0, 1) := by decide +kernel
theorem dX9_game_76 : decode cX9_game 76 = .ok (.goto 9, 3) := by decide +kernel
theorem dX9_game_79 : decode cX9_game 79 = .ok (.aload_n 0, 1) := by decide +kernel
theorem dX9_game_80 : decode cX9_game 80 = .ok (.iconst 0, 1) := by decide +kernel
theorem dX9_game_81 : decode cX9_game 81 = .ok (.iload_n 1, 1) := by decide +kernel
theorem dX9_game_82 : decode cX9_game 82 = .ok (.invokevirtual 397, 3) := by decide +kernel
theorem dX9_game_85 : decode cX9_game 85 = .ok (.ireturn, 1) := by decide +kernel
theorem dX9_drawn_0 : decode cX9_drawn 0 = .ok (.iload_n 2, 1) := by decide +kernel
theorem dX9_drawn_1 : decode cX9_drawn 1 = .ok (.ifCond .lt 47, 3) := by decide +kernel
theorem dX9_drawn_4 : decode cX9_drawn 4 = .ok (.iload_n 2, 1) := by decide +kernel
theorem dX9_drawn_5 : decode cX9_drawn 5 = .ok (.bipush 100, 2) := by decide +kernel
theorem dX9_drawn_7 : decode cX9_drawn 7 = .ok (.idiv, 1) := by decide +kernel
theorem dX9_drawn_8 : decode cX9_drawn 8 = .ok (.iconst 1, 1) := by decide +kernel
theorem dX9_drawn_9 : decode cX9_drawn 9 = .ok (.bipush 30, 2) := by decide +kernel
theorem dX9_drawn_11 : decode cX9_drawn 11 = .ok (.invokestatic 143, 3) := by decide +kernel
theorem dX9_drawn_14 : decode cX9_drawn 14 = .ok (.ifCond .eq 34, 3) := by decide +kernel
theorem dX9_drawn_17 : decode cX9_drawn 17 = .ok (.iload_n 2, 1) := by decide +kernel
theorem dX9_drawn_18 : decode cX9_drawn 18 = .ok (.bipush 100, 2) := by decide +kernel
theorem dX9_drawn_20 : decode cX9_drawn 20 = .ok (.irem, 1) := by decide +kernel
theorem dX9_drawn_21 : decode cX9_drawn 21 = .ok (.iconst 1, 1) := by decide +kernel
theorem dX9_drawn_22 : decode cX9_drawn 22 = .ok (.bipush 20, 2) := by decide +kernel
theorem dX9_drawn_24 : decode cX9_drawn 24 = .ok (.invokestatic 143, 3) := by decide +kernel
theorem dX9_drawn_27 : decode cX9_drawn 27 = .ok (.ifCond .eq 21, 3) := by decide +kernel
theorem dX9_drawn_30 : decode cX9_drawn 30 = .ok (.aload_n 0, 1) := by decide +kernel
theorem dX9_drawn_31 : decode cX9_drawn 31 = .ok (.iload_n 3, 1) := by decide +kernel
theorem dX9_drawn_32 : decode cX9_drawn 32 = .ok (.invokevirtual 180, 3) := by decide +kernel
theorem dX9_drawn_35 : decode cX9_drawn 35 = .ok (.ifCond .eq 13, 3) := by decide +kernel
theorem dX9_drawn_38 : decode cX9_drawn 38 = .ok (.iload 4, 2) := by decide +kernel
theorem dX9_drawn_40 : decode cX9_drawn 40 = .ok (.iconst 0, 1) := by decide +kernel
theorem dX9_drawn_41 : decode cX9_drawn 41 = .ok (.iconst 1, 1) := by decide +kernel
theorem dX9_drawn_42 : decode cX9_drawn 42 = .ok (.invokestatic 143, 3) := by decide +kernel
theorem dX9_drawn_45 : decode cX9_drawn 45 = .ok (.ifCond .ne 5, 3) := by decide +kernel
theorem dX9_drawn_48 : decode cX9_drawn 48 = .ok (.iconst (-1), 1) := by decide +kernel
theorem dX9_drawn_49 : decode cX9_drawn 49 = .ok (.ireturn, 1) := by decide +kernel
theorem dX9_drawn_50 : decode cX9_drawn 50 = .ok (.iload_n 1, 1) := by decide +kernel
theorem dX9_drawn_51 : decode cX9_drawn 51 = .ok (.istore 5, 2) := by decide +kernel
theorem dX9_drawn_53 : decode cX9_drawn 53 = .ok (.iconst 0, 1) := by decide +kernel
theorem dX9_drawn_54 : decode cX9_drawn 54 = .ok (.istore 6, 2) := by decide +kernel
theorem dX9_drawn_56 : decode cX9_drawn 56 = .ok (.iconst 0, 1) := by decide +kernel
theorem dX9_drawn_57 : decode cX9_drawn 57 = .ok (.istore 7, 2) := by decide +kernel
theorem dX9_drawn_59 : decode cX9_drawn 59 = .ok (.iconst 0, 1) := by decide +kernel
theorem dX9_drawn_60 : decode cX9_drawn 60 = .ok (.istore 8, 2) := by decide +kernel
theorem dX9_drawn_62 : decode cX9_drawn 62 = .ok (.iload 8, 2) := by decide +kernel
theorem dX9_drawn_64 : decode cX9_drawn 64 = .ok (.iload_n 2, 1) := by decide +kernel
theorem dX9_drawn_65 : decode cX9_drawn 65 = .ok (.bipush 100, 2) := by decide +kernel
theorem dX9_drawn_67 : decode cX9_drawn 67 = .ok (.idiv, 1) := by decide +kernel
theorem dX9_drawn_68 : decode cX9_drawn 68 = .ok (.if_icmp .ge 122, 3) := by decide +kernel
theorem dX9_drawn_71 : decode cX9_drawn 71 = .ok (.aload_n 0, 1) := by decide +kernel
theorem dX9_drawn_72 : decode cX9_drawn 72 = .ok (.getfield 140, 3) := by decide +kernel
theorem dX9_drawn_75 : decode cX9_drawn 75 = .ok (.ifCond .le 115, 3) := by decide +kernel
theorem dX9_drawn_78 : decode cX9_drawn 78 = .ok (.iconst 0, 1) := by decide +kernel
theorem dX9_drawn_79 : decode cX9_drawn 79 = .ok (.istore 9, 2) := by decide +kernel
theorem dX9_drawn_81 : decode cX9_drawn 81 = .ok (.iconst 0, 1) := by decide +kernel
theorem dX9_drawn_82 : decode cX9_drawn 82 = .ok (.istore 10, 2) := by decide +kernel
theorem dX9_drawn_84 : decode cX9_drawn 84 = .ok (.iload 10, 2) := by decide +kernel
theorem dX9_drawn_86 : decode cX9_drawn 86 = .ok (.iload_n 2, 1) := by decide +kernel
theorem dX9_drawn_87 : decode cX9_drawn 87 = .ok (.bipush 100, 2) := by decide +kernel
theorem dX9_drawn_89 : decode cX9_drawn 89 = .ok (.irem, 1) := by decide +kernel
theorem dX9_drawn_90 : decode cX9_drawn 90 = .ok (.if_icmp .ge 94, 3) := by decide +kernel
theorem dX9_drawn_93 : decode cX9_drawn 93 = .ok (.aload_n 0, 1) := by decide +kernel
theorem dX9_drawn_94 : decode cX9_drawn 94 = .ok (.iconst 4, 1) := by decide +kernel
theorem dX9_drawn_95 : decode cX9_drawn 95 = .ok (.putfield 274, 3) := by decide +kernel
theorem dX9_drawn_98 : decode cX9_drawn 98 = .ok (.iconst 0, 1) := by decide +kernel
theorem dX9_drawn_99 : decode cX9_drawn 99 = .ok (.istore 11, 2) := by decide +kernel
theorem dX9_drawn_101 : decode cX9_drawn 101 = .ok (.iload 11, 2) := by decide +kernel
theorem dX9_drawn_103 : decode cX9_drawn 103 = .ok (.iconst 4, 1) := by decide +kernel
theorem dX9_drawn_104 : decode cX9_drawn 104 = .ok (.if_icmp .ge 38, 3) := by decide +kernel
theorem dX9_drawn_107 : decode cX9_drawn 107 = .ok (.iload 5, 2) := by decide +kernel
theorem dX9_drawn_109 : decode cX9_drawn 109 = .ok (.ldc_w 400, 3) := by decide +kernel
theorem dX9_drawn_112 : decode cX9_drawn 112 = .ok (.imul, 1) := by decide +kernel
theorem dX9_drawn_113 : decode cX9_drawn 113 = .ok (.sipush 12345, 3) := by decide +kernel
theorem dX9_drawn_116 : decode cX9_drawn 116 = .ok (.iadd, 1) := by decide +kernel
theorem dX9_drawn_117 : decode cX9_drawn 117 = .ok (.istore 5, 2) := by decide +kernel
theorem dX9_drawn_119 : decode cX9_drawn 119 = .ok (.aload_n 0, 1) := by decide +kernel
theorem dX9_drawn_120 : decode cX9_drawn 120 = .ok (.getfield 81, 3) := by decide +kernel
theorem dX9_drawn_123 : decode cX9_drawn 123 = .ok (.iload 11, 2) := by decide +kernel
theorem dX9_drawn_125 : decode cX9_drawn 125 = .ok (.iload 5, 2) := by decide +kernel
theorem dX9_drawn_127 : decode cX9_drawn 127 = .ok (.bipush 10, 2) := by decide +kernel
theorem dX9_drawn_129 : decode cX9_drawn 129 = .ok (.iushr, 1) := by decide +kernel
theorem dX9_drawn_130 : decode cX9_drawn 130 = .ok (.aload_n 0, 1) := by decide +kernel
theorem dX9_drawn_131 : decode cX9_drawn 131 = .ok (.getfield 140, 3) := by decide +kernel
theorem dX9_drawn_134 : decode cX9_drawn 134 = .ok (.irem, 1) := by decide +kernel
theorem dX9_drawn_135 : decode cX9_drawn 135 = .ok (.iastore, 1) := by decide +kernel
theorem dX9_drawn_136 : decode cX9_drawn 136 = .ok (.iinc 11 1, 3) := by decide +kernel
theorem dX9_drawn_139 : decode cX9_drawn 139 = .ok (.goto (-38), 3) := by decide +kernel
theorem dX9_drawn_142 : decode cX9_drawn 142 = .ok (.aload_n 0, 1) := by decide +kernel
theorem dX9_drawn_143 : decode cX9_drawn 143 = .ok (.iload_n 3, 1) := by decide +kernel
theorem dX9_drawn_144 : decode cX9_drawn 144 = .ok (.iload 9, 2) := by decide +kernel
theorem dX9_drawn_146 : decode cX9_drawn 146 = .ok (.invokevirtual 296, 3) := by decide +kernel
theorem dX9_drawn_149 : decode cX9_drawn 149 = .ok (.iload 9, 2) := by decide +kernel
theorem dX9_drawn_151 : decode cX9_drawn 151 = .ok (.aload_n 0, 1) := by decide +kernel
theorem dX9_drawn_152 : decode cX9_drawn 152 = .ok (.getfield 283, 3) := by decide +kernel
theorem dX9_drawn_155 : decode cX9_drawn 155 = .ok (.iadd, 1) := by decide +kernel
theorem dX9_drawn_156 : decode cX9_drawn 156 = .ok (.istore 9, 2) := by decide +kernel
theorem dX9_drawn_158 : decode cX9_drawn 158 = .ok (.iload 6, 2) := by decide +kernel
theorem dX9_drawn_160 : decode cX9_drawn 160 = .ok (.aload_n 0, 1) := by decide +kernel
theorem dX9_drawn_161 : decode cX9_drawn 161 = .ok (.getfield 283, 3) := by decide +kernel
theorem dX9_drawn_164 : decode cX9_drawn 164 = .ok (.iadd, 1) := by decide +kernel
theorem dX9_drawn_165 : decode cX9_drawn 165 = .ok (.istore 6, 2) := by decide +kernel
theorem dX9_drawn_167 : decode cX9_drawn 167 = .ok (.aload_n 0, 1) := by decide +kernel
theorem dX9_drawn_168 : decode cX9_drawn 168 = .ok (.iconst 0, 1) := by decide +kernel
theorem dX9_drawn_169 : decode cX9_drawn 169 = .ok (.invokevirtual 302, 3) := by decide +kernel
theorem dX9_drawn_172 : decode cX9_drawn 172 = .ok (.ifCond .eq 6, 3) := by decide +kernel
theorem dX9_drawn_175 : decode cX9_drawn 175 = .ok (.iinc 7 1, 3) := by decide +kernel
theorem dX9_drawn_178 : decode cX9_drawn 178 = .ok (.iinc 10 1, 3) := by decide +kernel
theorem dX9_drawn_181 : decode cX9_drawn 181 = .ok (.goto (-97), 3) := by decide +kernel
theorem dX9_drawn_184 : decode cX9_drawn 184 = .ok (.iinc 8 1, 3) := by decide +kernel
theorem dX9_drawn_187 : decode cX9_drawn 187 = .ok (.goto (-125), 3) := by decide +kernel
theorem dX9_drawn_190 : decode cX9_drawn 190 = .ok (.iload 4, 2) := by decide +kernel
theorem dX9_drawn_192 : decode cX9_drawn 192 = .ok (.ifCond .ne 8, 3) := by decide +kernel
theorem dX9_drawn_195 : decode cX9_drawn 195 = .ok (.iload 6, 2) := by decide +kernel
theorem dX9_drawn_197 : decode cX9_drawn 197 = .ok (.goto 5, 3) := by decide +kernel
theorem dX9_drawn_200 : decode cX9_drawn 200 = .ok (.iload 7, 2) := by decide +kernel
theorem dX9_drawn_202 : decode cX9_drawn 202 = .ok (.ireturn, 1) := by decide +kernel
theorem dX9_speak_0 : decode cX9_speak 0 = .ok (.iload_n 1, 1) := by decide +kernel
theorem dX9_speak_1 : decode cX9_speak 1 = .ok (.invokestatic 154, 3) := by decide +kernel
theorem dX9_speak_4 : decode cX9_speak 4 = .ok (.ifCond .eq 11, 3) := by decide +kernel
theorem dX9_speak_7 : decode cX9_speak 7 = .ok (.aload_n 0, 1) := by decide +kernel
theorem dX9_speak_8 : decode cX9_speak 8 = .ok (.iload_n 2, 1) := by decide +kernel
theorem dX9_speak_9 : decode cX9_speak 9 = .ok (.invokevirtual 180, 3) := by decide +kernel
theorem dX9_speak_12 : decode cX9_speak 12 = .ok (.ifCond .ne 5, 3) := by decide +kernel
theorem dX9_speak_15 : decode cX9_speak 15 = .ok (.iconst (-1), 1) := by decide +kernel
theorem dX9_speak_16 : decode cX9_speak 16 = .ok (.ireturn, 1) := by decide +kernel
theorem dX9_speak_17 : decode cX9_speak 17 = .ok (.aload_n 0, 1) := by decide +kernel
theorem dX9_speak_18 : decode cX9_speak 18 = .ok (.iload_n 1, 1) := by decide +kernel
theorem dX9_speak_19 : decode cX9_speak 19 = .ok (.invokevirtual 289, 3) := by decide +kernel
theorem dX9_speak_22 : decode cX9_speak 22 = .ok (.istore_n 3, 1) := by decide +kernel
theorem dX9_speak_23 : decode cX9_speak 23 = .ok (.iload_n 3, 1) := by decide +kernel
theorem dX9_speak_24 : decode cX9_speak 24 = .ok (.ifCond .ge 5, 3) := by decide +kernel
theorem dX9_speak_27 : decode cX9_speak 27 = .ok (.iload_n 3, 1) := by decide +kernel
theorem dX9_speak_28 : decode cX9_speak 28 = .ok (.ireturn, 1) := by decide +kernel
theorem dX9_speak_29 : decode cX9_speak 29 = .ok (.aload_n 0, 1) := by decide +kernel
theorem dX9_speak_30 : decode cX9_speak 30 = .ok (.iload_n 1, 1) := by decide +kernel
theorem dX9_speak_31 : decode cX9_speak 31 = .ok (.invokevirtual 292, 3) := by decide +kernel
theorem dX9_speak_34 : decode cX9_speak 34 = .ok (.aload_n 0, 1) := by decide +kernel
theorem dX9_speak_35 : decode cX9_speak 35 = .ok (.iload_n 2, 1) := by decide +kernel
theorem dX9_speak_36 : decode cX9_speak 36 = .ok (.aload_n 0, 1) := by decide +kernel
theorem dX9_speak_37 : decode cX9_speak 37 = .ok (.getfield 30, 3) := by decide +kernel
theorem dX9_speak_40 : decode cX9_speak 40 = .ok (.iload_n 2, 1) := by decide +kernel
theorem dX9_speak_41 : decode cX9_speak 41 = .ok (.iaload, 1) := by decide +kernel
theorem dX9_speak_42 : decode cX9_speak 42 = .ok (.invokevirtual 296, 3) := by decide +kernel
theorem dX9_speak_45 : decode cX9_speak 45 = .ok (.aload_n 0, 1) := by decide +kernel
theorem dX9_speak_46 : decode cX9_speak 46 = .ok (.getfield 30, 3) := by decide +kernel
theorem dX9_speak_49 : decode cX9_speak 49 = .ok (.iload_n 2, 1) := by decide +kernel
theorem dX9_speak_50 : decode cX9_speak 50 = .ok (.dup2, 1) := by decide +kernel
theorem dX9_speak_51 : decode cX9_speak 51 = .ok (.iaload, 1) := by decide +kernel
theorem dX9_speak_52 : decode cX9_speak 52 = .ok (.aload_n 0, 1) := by decide +kernel
theorem dX9_speak_53 : decode cX9_speak 53 = .ok (.getfield 283, 3) := by decide +kernel
theorem dX9_speak_56 : decode cX9_speak 56 = .ok (.iadd, 1) := by decide +kernel
theorem dX9_speak_57 : decode cX9_speak 57 = .ok (.iastore, 1) := by decide +kernel
theorem dX9_speak_58 : decode cX9_speak 58 = .ok (.aload_n 0, 1) := by decide +kernel
theorem dX9_speak_59 : decode cX9_speak 59 = .ok (.getfield 33, 3) := by decide +kernel
theorem dX9_speak_62 : decode cX9_speak 62 = .ok (.iload_n 2, 1) := by decide +kernel
theorem dX9_speak_63 : decode cX9_speak 63 = .ok (.dup2, 1) := by decide +kernel
theorem dX9_speak_64 : decode cX9_speak 64 = .ok (.iaload, 1) := by decide +kernel
theorem dX9_speak_65 : decode cX9_speak 65 = .ok (.aload_n 0, 1) := by decide +kernel
theorem dX9_speak_66 : decode cX9_speak 66 = .ok (.invokevirtual 306, 3) := by decide +kernel
theorem dX9_speak_69 : decode cX9_speak 69 = .ok (.iadd, 1) := by decide +kernel
theorem dX9_speak_70 : decode cX9_speak 70 = .ok (.iastore, 1) := by decide +kernel
theorem dX9_speak_71 : decode cX9_speak 71 = .ok (.aload_n 0, 1) := by decide +kernel
theorem dX9_speak_72 : decode cX9_speak 72 = .ok (.getfield 107, 3) := by decide +kernel
theorem dX9_speak_75 : decode cX9_speak 75 = .ok (.iconst 0, 1) := by decide +kernel
theorem dX9_speak_76 : decode cX9_speak 76 = .ok (.dup2, 1) := by decide +kernel
theorem dX9_speak_77 : decode cX9_speak 77 = .ok (.iaload, 1) := by decide +kernel
theorem dX9_speak_78 : decode cX9_speak 78 = .ok (.iconst 1, 1) := by decide +kernel
theorem dX9_speak_79 : decode cX9_speak 79 = .ok (.iadd, 1) := by decide +kernel
theorem dX9_speak_80 : decode cX9_speak 80 = .ok (.iastore, 1) := by decide +kernel
theorem dX9_speak_81 : decode cX9_speak 81 = .ok (.aload_n 0, 1) := by decide +kernel
theorem dX9_speak_82 : decode cX9_speak 82 = .ok (.getfield 107, 3) := by decide +kernel
theorem dX9_speak_85 : decode cX9_speak 85 = .ok (.iconst 1, 1) := by decide +kernel
theorem dX9_speak_86 : decode cX9_speak 86 = .ok (.dup2, 1) := by decide +kernel
theorem dX9_speak_87 : decode cX9_speak 87 = .ok (.iaload, 1) := by decide +kernel
theorem dX9_speak_88 : decode cX9_speak 88 = .ok (.aload_n 0, 1) := by decide +kernel
theorem dX9_speak_89 : decode cX9_speak 89 = .ok (.getfield 280, 3) := by decide +kernel
theorem dX9_speak_92 : decode cX9_speak 92 = .ok (.iadd, 1) := by decide +kernel
theorem dX9_speak_93 : decode cX9_speak 93 = .ok (.iastore, 1) := by decide +kernel
theorem dX9_speak_94 : decode cX9_speak 94 = .ok (.aload_n 0, 1) := by decide +kernel
theorem dX9_speak_95 : decode cX9_speak 95 = .ok (.getfield 107, 3) := by decide +kernel
theorem dX9_speak_98 : decode cX9_speak 98 = .ok (.iconst 2, 1) := by decide +kernel
theorem dX9_speak_99 : decode cX9_speak 99 = .ok (.dup2, 1) := by decide +kernel
theorem dX9_speak_100 : decode cX9_speak 100 = .ok (.iaload, 1) := by decide +kernel
theorem dX9_speak_101 : decode cX9_speak 101 = .ok (.aload_n 0, 1) := by decide +kernel
theorem dX9_speak_102 : decode cX9_speak 102 = .ok (.getfield 283, 3) := by decide +kernel
theorem dX9_speak_105 : decode cX9_speak 105 = .ok (.iadd, 1) := by decide +kernel
theorem dX9_speak_106 : decode cX9_speak 106 = .ok (.iastore, 1) := by decide +kernel
theorem dX9_speak_107 : decode cX9_speak 107 = .ok (.aload_n 0, 1) := by decide +kernel
theorem dX9_speak_108 : decode cX9_speak 108 = .ok (.getfield 107, 3) := by decide +kernel
theorem dX9_speak_111 : decode cX9_speak 111 = .ok (.iconst 3, 1) := by decide +kernel
theorem dX9_speak_112 : decode cX9_speak 112 = .ok (.dup2, 1) := by decide +kernel
theorem dX9_speak_113 : decode cX9_speak 113 = .ok (.iaload, 1) := by decide +kernel
theorem dX9_speak_114 : decode cX9_speak 114 = .ok (.aload_n 0, 1) := by decide +kernel
theorem dX9_speak_115 : decode cX9_speak 115 = .ok (.iconst 0, 1) := by decide +kernel
theorem dX9_speak_116 : decode cX9_speak 116 = .ok (.invokevirtual 302, 3) := by decide +kernel
theorem dX9_speak_119 : decode cX9_speak 119 = .ok (.invokestatic 339, 3) := by decide +kernel
theorem dX9_speak_122 : decode cX9_speak 122 = .ok (.iadd, 1) := by decide +kernel
theorem dX9_speak_123 : decode cX9_speak 123 = .ok (.iastore, 1) := by decide +kernel
theorem dX9_speak_124 : decode cX9_speak 124 = .ok (.aload_n 0, 1) := by decide +kernel
theorem dX9_speak_125 : decode cX9_speak 125 = .ok (.getfield 280, 3) := by decide +kernel
theorem dX9_speak_128 : decode cX9_speak 128 = .ok (.ireturn, 1) := by decide +kernel
theorem dX9_rinse_0 : decode cX9_rinse 0 = .ok (.aload_n 0, 1) := by decide +kernel
theorem dX9_rinse_1 : decode cX9_rinse 1 = .ok (.iload_n 1, 1) := by decide +kernel
theorem dX9_rinse_2 : decode cX9_rinse 2 = .ok (.invokevirtual 180, 3) := by decide +kernel
theorem dX9_rinse_5 : decode cX9_rinse 5 = .ok (.ifCond .ne 5, 3) := by decide +kernel
theorem dX9_rinse_8 : decode cX9_rinse 8 = .ok (.iconst (-1), 1) := by decide +kernel
theorem dX9_rinse_9 : decode cX9_rinse 9 = .ok (.ireturn, 1) := by decide +kernel
theorem dX9_rinse_10 : decode cX9_rinse 10 = .ok (.aload_n 0, 1) := by decide +kernel
theorem dX9_rinse_11 : decode cX9_rinse 11 = .ok (.getfield 30, 3) := by decide +kernel
theorem dX9_rinse_14 : decode cX9_rinse 14 = .ok (.iload_n 1, 1) := by decide +kernel
theorem dX9_rinse_15 : decode cX9_rinse 15 = .ok (.iaload, 1) := by decide +kernel
theorem dX9_rinse_16 : decode cX9_rinse 16 = .ok (.istore_n 2, 1) := by decide +kernel
theorem dX9_rinse_17 : decode cX9_rinse 17 = .ok (.aload_n 0, 1) := by decide +kernel
theorem dX9_rinse_18 : decode cX9_rinse 18 = .ok (.getfield 107, 3) := by decide +kernel
theorem dX9_rinse_21 : decode cX9_rinse 21 = .ok (.iconst 4, 1) := by decide +kernel
theorem dX9_rinse_22 : decode cX9_rinse 22 = .ok (.dup2, 1) := by decide +kernel
theorem dX9_rinse_23 : decode cX9_rinse 23 = .ok (.iaload, 1) := by decide +kernel
theorem dX9_rinse_24 : decode cX9_rinse 24 = .ok (.iconst 1, 1) := by decide +kernel
theorem dX9_rinse_25 : decode cX9_rinse 25 = .ok (.iadd, 1) := by decide +kernel
theorem dX9_rinse_26 : decode cX9_rinse 26 = .ok (.iastore, 1) := by decide +kernel
theorem dX9_rinse_27 : decode cX9_rinse 27 = .ok (.aload_n 0, 1) := by decide +kernel
theorem dX9_rinse_28 : decode cX9_rinse 28 = .ok (.getfield 107, 3) := by decide +kernel
theorem dX9_rinse_31 : decode cX9_rinse 31 = .ok (.iconst 5, 1) := by decide +kernel
theorem dX9_rinse_32 : decode cX9_rinse 32 = .ok (.dup2, 1) := by decide +kernel
theorem dX9_rinse_33 : decode cX9_rinse 33 = .ok (.iaload, 1) := by decide +kernel
theorem dX9_rinse_34 : decode cX9_rinse 34 = .ok (.aload_n 0, 1) := by decide +kernel
theorem dX9_rinse_35 : decode cX9_rinse 35 = .ok (.getfield 33, 3) := by decide +kernel
theorem dX9_rinse_38 : decode cX9_rinse 38 = .ok (.iload_n 1, 1) := by decide +kernel
theorem dX9_rinse_39 : decode cX9_rinse 39 = .ok (.iaload, 1) := by decide +kernel
theorem dX9_rinse_40 : decode cX9_rinse 40 = .ok (.iadd, 1) := by decide +kernel
theorem dX9_rinse_41 : decode cX9_rinse 41 = .ok (.iastore, 1) := by decide +kernel
theorem dX9_rinse_42 : decode cX9_rinse 42 = .ok (.aload_n 0, 1) := by decide +kernel
theorem dX9_rinse_43 : decode cX9_rinse 43 = .ok (.getfield 30, 3) := by decide +kernel
theorem dX9_rinse_46 : decode cX9_rinse 46 = .ok (.iload_n 1, 1) := by decide +kernel
theorem dX9_rinse_47 : decode cX9_rinse 47 = .ok (.iconst 0, 1) := by decide +kernel
theorem dX9_rinse_48 : decode cX9_rinse 48 = .ok (.iastore, 1) := by decide +kernel
theorem dX9_rinse_49 : decode cX9_rinse 49 = .ok (.aload_n 0, 1) := by decide +kernel
theorem dX9_rinse_50 : decode cX9_rinse 50 = .ok (.getfield 33, 3) := by decide +kernel
theorem dX9_rinse_53 : decode cX9_rinse 53 = .ok (.iload_n 1, 1) := by decide +kernel
theorem dX9_rinse_54 : decode cX9_rinse 54 = .ok (.iconst 0, 1) := by decide +kernel
theorem dX9_rinse_55 : decode cX9_rinse 55 = .ok (.iastore, 1) := by decide +kernel
theorem dX9_rinse_56 : decode cX9_rinse 56 = .ok (.iload_n 2, 1) := by decide +kernel
theorem dX9_rinse_57 : decode cX9_rinse 57 = .ok (.ireturn, 1) := by decide +kernel
theorem dX9_led_0 : decode cX9_led 0 = .ok (.iload_n 1, 1) := by decide +kernel
theorem dX9_led_1 : decode cX9_led 1 = .ok (.iconst 0, 1) := by decide +kernel
theorem dX9_led_2 : decode cX9_led 2 = .ok (.iconst 5, 1) := by decide +kernel
theorem dX9_led_3 : decode cX9_led 3 = .ok (.invokestatic 143, 3) := by decide +kernel
theorem dX9_led_6 : decode cX9_led 6 = .ok (.ifCond .eq 12, 3) := by decide +kernel
theorem dX9_led_9 : decode cX9_led 9 = .ok (.aload_n 0, 1) := by decide +kernel
theorem dX9_led_10 : decode cX9_led 10 = .ok (.getfield 107, 3) := by decide +kernel
theorem dX9_led_13 : decode cX9_led 13 = .ok (.iload_n 1, 1) := by decide +kernel
theorem dX9_led_14 : decode cX9_led 14 = .ok (.iaload, 1) := by decide +kernel
theorem dX9_led_15 : decode cX9_led 15 = .ok (.goto 4, 3) := by decide +kernel
theorem dX9_led_18 : decode cX9_led 18 = .ok (.iconst (-1), 1) := by decide +kernel
theorem dX9_led_19 : decode cX9_led 19 = .ok (.ireturn, 1) := by decide +kernel
theorem dX9_image_0 : decode cX9_image 0 = .ok (.aload_n 0, 1) := by decide +kernel
theorem dX9_image_1 : decode cX9_image 1 = .ok (.iconst 1, 1) := by decide +kernel
theorem dX9_image_2 : decode cX9_image 2 = .ok (.putfield 401, 3) := by decide +kernel
theorem dX9_image_5 : decode cX9_image 5 = .ok (.aload_n 0, 1) := by decide +kernel
theorem dX9_image_6 : decode cX9_image 6 = .ok (.aload_n 0, 1) := by decide +kernel
theorem dX9_image_7 : decode cX9_image 7 = .ok (.getfield 147, 3) := by decide +kernel
theorem dX9_image_10 : decode cX9_image 10 = .ok (.putfield 404, 3) := by decide +kernel
theorem dX9_image_13 : decode cX9_image 13 = .ok (.iconst 0, 1) := by decide +kernel
theorem dX9_image_14 : decode cX9_image 14 = .ok (.istore_n 1, 1) := by decide +kernel
theorem dX9_image_15 : decode cX9_image 15 = .ok (.iload_n 1, 1) := by decide +kernel
theorem dX9_image_16 : decode cX9_image 16 = .ok (.aload_n 0, 1) := by decide +kernel
theorem dX9_image_17 : decode cX9_image 17 = .ok (.getfield 147, 3) := by decide +kernel
theorem dX9_image_20 : decode cX9_image 20 = .ok (.if_icmp .ge 33, 3) := by decide +kernel
theorem dX9_image_23 : decode cX9_image 23 = .ok (.aload_n 0, 1) := by decide +kernel
theorem dX9_image_24 : decode cX9_image 24 = .ok (.getfield 110, 3) := by decide +kernel
theorem dX9_image_27 : decode cX9_image 27 = .ok (.iload_n 1, 1) := by decide +kernel
theorem dX9_image_28 : decode cX9_image 28 = .ok (.aload_n 0, 1) := by decide +kernel
theorem dX9_image_29 : decode cX9_image 29 = .ok (.getfield 30, 3) := by decide +kernel
theorem dX9_image_32 : decode cX9_image 32 = .ok (.iload_n 1, 1) := by decide +kernel
theorem dX9_image_33 : decode cX9_image 33 = .ok (.iaload, 1) := by decide +kernel
theorem dX9_image_34 : decode cX9_image 34 = .ok (.iastore, 1) := by decide +kernel
theorem dX9_image_35 : decode cX9_image 35 = .ok (.aload_n 0, 1) := by decide +kernel
theorem dX9_image_36 : decode cX9_image 36 = .ok (.getfield 113, 3) := by decide +kernel
theorem dX9_image_39 : decode cX9_image 39 = .ok (.iload_n 1, 1) := by decide +kernel
theorem dX9_image_40 : decode cX9_image 40 = .ok (.aload_n 0, 1) := by decide +kernel
theorem dX9_image_41 : decode cX9_image 41 = .ok (.getfield 33, 3) := by decide +kernel
theorem dX9_image_44 : decode cX9_image 44 = .ok (.iload_n 1, 1) := by decide +kernel
theorem dX9_image_45 : decode cX9_image 45 = .ok (.iaload, 1) := by decide +kernel
theorem dX9_image_46 : decode cX9_image 46 = .ok (.iastore, 1) := by decide +kernel
theorem dX9_image_47 : decode cX9_image 47 = .ok (.iinc 1 1, 3) := by decide +kernel
theorem dX9_image_50 : decode cX9_image 50 = .ok (.goto (-35), 3) := by decide +kernel
theorem dX9_image_53 : decode cX9_image 53 = .ok (.iconst 0, 1) := by decide +kernel
theorem dX9_image_54 : decode cX9_image 54 = .ok (.istore_n 1, 1) := by decide +kernel
theorem dX9_image_55 : decode cX9_image 55 = .ok (.iload_n 1, 1) := by decide +kernel
theorem dX9_image_56 : decode cX9_image 56 = .ok (.bipush 6, 2) := by decide +kernel
theorem dX9_image_58 : decode cX9_image 58 = .ok (.if_icmp .ge 21, 3) := by decide +kernel
theorem dX9_image_61 : decode cX9_image 61 = .ok (.aload_n 0, 1) := by decide +kernel
theorem dX9_image_62 : decode cX9_image 62 = .ok (.getfield 116, 3) := by decide +kernel
theorem dX9_image_65 : decode cX9_image 65 = .ok (.iload_n 1, 1) := by decide +kernel
theorem dX9_image_66 : decode cX9_image 66 = .ok (.aload_n 0, 1) := by decide +kernel
theorem dX9_image_67 : decode cX9_image 67 = .ok (.getfield 107, 3) := by decide +kernel
theorem dX9_image_70 : decode cX9_image 70 = .ok (.iload_n 1, 1) := by decide +kernel
theorem dX9_image_71 : decode cX9_image 71 = .ok (.iaload, 1) := by decide +kernel
theorem dX9_image_72 : decode cX9_image 72 = .ok (.iastore, 1) := by decide +kernel
theorem dX9_image_73 : decode cX9_image 73 = .ok (.iinc 1 1, 3) := by decide +kernel
theorem dX9_image_76 : decode cX9_image 76 = .ok (.goto (-21), 3) := by decide +kernel
theorem dX9_image_79 : decode cX9_image 79 = .ok (.aload_n 0, 1) := by decide +kernel
theorem dX9_image_80 : decode cX9_image 80 = .ok (.getfield 107, 3) := by decide +kernel
theorem dX9_image_83 : decode cX9_image 83 = .ok (.iconst 0, 1) := by decide +kernel
theorem dX9_image_84 : decode cX9_image 84 = .ok (.iaload, 1) := by decide +kernel
theorem dX9_image_85 : decode cX9_image 85 = .ok (.ireturn, 1) := by decide +kernel
theorem dX9_back_0 : decode cX9_back 0 = .ok (.aload_n 0, 1) := by decide +kernel
theorem dX9_back_1 : decode cX9_back 1 = .ok (.getfield 401, 3) := by decide +kernel
theorem dX9_back_4 : decode cX9_back 4 = .ok (.ifCond .ne 6, 3) := by decide +kernel
theorem dX9_back_7 : decode cX9_back 7 = .ok (.bipush (-5), 2) := by decide +kernel
theorem dX9_back_9 : decode cX9_back 9 = .ok (.ireturn, 1) := by decide +kernel
theorem dX9_back_10 : decode cX9_back 10 = .ok (.iconst 0, 1) := by decide +kernel
theorem dX9_back_11 : decode cX9_back 11 = .ok (.istore_n 1, 1) := by decide +kernel
theorem dX9_back_12 : decode cX9_back 12 = .ok (.iload_n 1, 1) := by decide +kernel
theorem dX9_back_13 : decode cX9_back 13 = .ok (.aload_n 0, 1) := by decide +kernel
theorem dX9_back_14 : decode cX9_back 14 = .ok (.getfield 147, 3) := by decide +kernel
theorem dX9_back_17 : decode cX9_back 17 = .ok (.if_icmp .ge 57, 3) := by decide +kernel
theorem dX9_back_20 : decode cX9_back 20 = .ok (.aload_n 0, 1) := by decide +kernel
theorem dX9_back_21 : decode cX9_back 21 = .ok (.getfield 30, 3) := by decide +kernel
theorem dX9_back_24 : decode cX9_back 24 = .ok (.iload_n 1, 1) := by decide +kernel
theorem dX9_back_25 : decode cX9_back 25 = .ok (.iload_n 1, 1) := by decide +kernel
theorem dX9_back_26 : decode cX9_back 26 = .ok (.aload_n 0, 1) := by decide +kernel
theorem dX9_back_27 : decode cX9_back 27 = .ok (.getfield 404, 3) := by decide +kernel
theorem dX9_back_30 : decode cX9_back 30 = .ok (.if_icmp .ge 12, 3) := by decide +kernel
theorem dX9_back_33 : decode cX9_back 33 = .ok (.aload_n 0, 1) := by decide +kernel
theorem dX9_back_34 : decode cX9_back 34 = .ok (.getfield 110, 3) := by decide +kernel
theorem dX9_back_37 : decode cX9_back 37 = .ok (.iload_n 1, 1) := by decide +kernel
theorem dX9_back_38 : decode cX9_back 38 = .ok (.iaload, 1) := by decide +kernel
theorem dX9_back_39 : decode cX9_back 39 = .ok (.goto 4, 3) := by decide +kernel
theorem dX9_back_42 : decode cX9_back 42 = .ok (.iconst 0, 1) := by decide +kernel
theorem dX9_back_43 : decode cX9_back 43 = .ok (.iastore, 1) := by decide +kernel
theorem dX9_back_44 : decode cX9_back 44 = .ok (.aload_n 0, 1) := by decide +kernel
theorem dX9_back_45 : decode cX9_back 45 = .ok (.getfield 33, 3) := by decide +kernel
theorem dX9_back_48 : decode cX9_back 48 = .ok (.iload_n 1, 1) := by decide +kernel
theorem dX9_back_49 : decode cX9_back 49 = .ok (.iload_n 1, 1) := by decide +kernel
theorem dX9_back_50 : decode cX9_back 50 = .ok (.aload_n 0, 1) := by decide +kernel
theorem dX9_back_51 : decode cX9_back 51 = .ok (.getfield 404, 3) := by decide +kernel
theorem dX9_back_54 : decode cX9_back 54 = .ok (.if_icmp .ge 12, 3) := by decide +kernel
theorem dX9_back_57 : decode cX9_back 57 = .ok (.aload_n 0, 1) := by decide +kernel
theorem dX9_back_58 : decode cX9_back 58 = .ok (.getfield 113, 3) := by decide +kernel
theorem dX9_back_61 : decode cX9_back 61 = .ok (.iload_n 1, 1) := by decide +kernel
theorem dX9_back_62 : decode cX9_back 62 = .ok (.iaload, 1) := by decide +kernel
theorem dX9_back_63 : decode cX9_back 63 = .ok (.goto 4, 3) := by decide +kernel
theorem dX9_back_66 : decode cX9_back 66 = .ok (.iconst 0, 1) := by decide +kernel
theorem dX9_back_67 : decode cX9_back 67 = .ok (.iastore, 1) := by decide +kernel
theorem dX9_back_68 : decode cX9_back 68 = .ok (.iinc 1 1, 3) := by decide +kernel
theorem dX9_back_71 : decode cX9_back 71 = .ok (.goto (-59), 3) := by decide +kernel
theorem dX9_back_74 : decode cX9_back 74 = .ok (.iconst 0, 1) := by decide +kernel
theorem dX9_back_75 : decode cX9_back 75 = .ok (.istore_n 1, 1) := by decide +kernel
theorem dX9_back_76 : decode cX9_back 76 = .ok (.iload_n 1, 1) := by decide +kernel
theorem dX9_back_77 : decode cX9_back 77 = .ok (.bipush 6, 2) := by decide +kernel
theorem dX9_back_79 : decode cX9_back 79 = .ok (.if_icmp .ge 21, 3) := by decide +kernel
theorem dX9_back_82 : decode cX9_back 82 = .ok (.aload_n 0, 1) := by decide +kernel
theorem dX9_back_83 : decode cX9_back 83 = .ok (.getfield 107, 3) := by decide +kernel
theorem dX9_back_86 : decode cX9_back 86 = .ok (.iload_n 1, 1) := by decide +kernel
theorem dX9_back_87 : decode cX9_back 87 = .ok (.aload_n 0, 1) := by decide +kernel
theorem dX9_back_88 : decode cX9_back 88 = .ok (.getfield 116, 3) := by decide +kernel
theorem dX9_back_91 : decode cX9_back 91 = .ok (.iload_n 1, 1) := by decide +kernel
theorem dX9_back_92 : decode cX9_back 92 = .ok (.iaload, 1) := by decide +kernel
theorem dX9_back_93 : decode cX9_back 93 = .ok (.iastore, 1) := by decide +kernel
theorem dX9_back_94 : decode cX9_back 94 = .ok (.iinc 1 1, 3) := by decide +kernel
theorem dX9_back_97 : decode cX9_back 97 = .ok (.goto (-21), 3) := by decide +kernel
theorem dX9_back_100 : decode cX9_back 100 = .ok (.aload_n 0, 1) := by decide +kernel
theorem dX9_back_101 : decode cX9_back 101 = .ok (.getfield 107, 3) := by decide +kernel
theorem dX9_back_104 : decode cX9_back 104 = .ok (.iconst 0, 1) := by decide +kernel
theorem dX9_back_105 : decode cX9_back 105 = .ok (.iaload, 1) := by decide +kernel
theorem dX9_back_106 : decode cX9_back 106 = .ok (.ireturn, 1) := by decide +kernel
theorem dX9_isBody_0 : decode cX9_isBody 0 = .ok (.iload_n 1, 1) := by decide +kernel
theorem dX9_isBody_1 : decode cX9_isBody 1 = .ok (.iconst 0, 1) := by decide +kernel
theorem dX9_isBody_2 : decode cX9_isBody 2 = .ok (.aload_n 0, 1) := by decide +kernel
theorem dX9_isBody_3 : decode cX9_isBody 3 = .ok (.getfield 407, 3) := by decide +kernel
theorem dX9_isBody_6 : decode cX9_isBody 6 = .ok (.iconst 1, 1) := by decide +kernel
theorem dX9_isBody_7 : decode cX9_isBody 7 = .ok (.isub, 1) := by decide +kernel
theorem dX9_isBody_8 : decode cX9_isBody 8 = .ok (.invokestatic 143, 3) := by decide +kernel
theorem dX9_isBody_11 : decode cX9_isBody 11 = .ok (.ireturn, 1) := by decide +kernel
theorem dX9_ran_0 : decode cX9_ran 0 = .ok (.aload_n 0, 1) := by decide +kernel
theorem dX9_ran_1 : decode cX9_ran 1 = .ok (.getfield 410, 3) := by decide +kernel
theorem dX9_ran_4 : decode cX9_ran 4 = .ok (.bipush 24, 2) := by decide +kernel
theorem dX9_ran_6 : decode cX9_ran 6 = .ok (.if_icmp .ge 13, 3) := by decide +kernel
theorem dX9_ran_9 : decode cX9_ran 9 = .ok (.aload_n 0, 1) := by decide +kernel
theorem dX9_ran_10 : decode cX9_ran 10 = .ok (.getfield 122, 3) := by decide +kernel
theorem dX9_ran_13 : decode cX9_ran 13 = .ok (.aload_n 0, 1) := by decide +kernel
theorem dX9_ran_14 : decode cX9_ran 14 = .ok (.getfield 410, 3) := by decide +kernel
theorem dX9_ran_17 : decode cX9_ran 17 = .ok (.iload_n 1, 1) := by decide +kernel
theorem dX9_ran_18 : decode cX9_ran 18 = .ok (.iastore, 1) := by decide +kernel
theorem dX9_ran_19 : decode cX9_ran 19 = .ok (.aload_n 0, 1) := by decide +kernel
theorem dX9_ran_20 : decode cX9_ran 20 = .ok (.dup, 1) := by decide +kernel
theorem dX9_ran_21 : decode cX9_ran 21 = .ok (.getfield 410, 3) := by decide +kernel
theorem dX9_ran_24 : decode cX9_ran 24 = .ok (.iconst 1, 1) := by decide +kernel
theorem dX9_ran_25 : decode cX9_ran 25 = .ok (.iadd, 1) := by decide +kernel
theorem dX9_ran_26 : decode cX9_ran 26 = .ok (.putfield 410, 3) := by decide +kernel
theorem dX9_ran_29 : decode cX9_ran 29 = .ok (.return_, 1) := by decide +kernel
theorem dX9_trace_0 : decode cX9_trace 0 = .ok (.iload_n 1, 1) := by decide +kernel
theorem dX9_trace_1 : decode cX9_trace 1 = .ok (.ifCond .lt 26, 3) := by decide +kernel
theorem dX9_trace_4 : decode cX9_trace 4 = .ok (.iload_n 1, 1) := by decide +kernel
theorem dX9_trace_5 : decode cX9_trace 5 = .ok (.aload_n 0, 1) := by decide +kernel
theorem dX9_trace_6 : decode cX9_trace 6 = .ok (.getfield 410, 3) := by decide +kernel
theorem dX9_trace_9 : decode cX9_trace 9 = .ok (.if_icmp .ge 18, 3) := by decide +kernel
theorem dX9_trace_12 : decode cX9_trace 12 = .ok (.iload_n 1, 1) := by decide +kernel
theorem dX9_trace_13 : decode cX9_trace 13 = .ok (.bipush 24, 2) := by decide +kernel
theorem dX9_trace_15 : decode cX9_trace 15 = .ok (.if_icmp .ge 12, 3) := by decide +kernel
theorem dX9_trace_18 : decode cX9_trace 18 = .ok (.aload_n 0, 1) := by decide +kernel
theorem dX9_trace_19 : decode cX9_trace 19 = .ok (.getfield 122, 3) := by decide +kernel
theorem dX9_trace_22 : decode cX9_trace 22 = .ok (.iload_n 1, 1) := by decide +kernel
theorem dX9_trace_23 : decode cX9_trace 23 = .ok (.iaload, 1) := by decide +kernel
theorem dX9_trace_24 : decode cX9_trace 24 = .ok (.goto 4, 3) := by decide +kernel
theorem dX9_trace_27 : decode cX9_trace 27 = .ok (.iconst (-1), 1) := by decide +kernel
theorem dX9_trace_28 : decode cX9_trace 28 = .ok (.ireturn, 1) := by decide +kernel
theorem dX9_body_0 : decode cX9_body 0 = .ok (.iload_n 1, 1) := by decide +kernel
theorem dX9_body_1 : decode cX9_body 1 = .ok (.iconst 0, 1) := by decide +kernel
theorem dX9_body_2 : decode cX9_body 2 = .ok (.bipush 7, 2) := by decide +kernel
theorem dX9_body_4 : decode cX9_body 4 = .ok (.invokestatic 143, 3) := by decide +kernel
theorem dX9_body_7 : decode cX9_body 7 = .ok (.ifCond .ne 5, 3) := by decide +kernel
theorem dX9_body_10 : decode cX9_body 10 = .ok (.iconst (-1), 1) := by decide +kernel
theorem dX9_body_11 : decode cX9_body 11 = .ok (.ireturn, 1) := by decide +kernel
theorem dX9_body_12 : decode cX9_body 12 = .ok (.aload_n 0, 1) := by decide +kernel
theorem dX9_body_13 : decode cX9_body 13 = .ok (.getfield 407, 3) := by decide +kernel
theorem dX9_body_16 : decode cX9_body 16 = .ok (.bipush 50, 2) := by decide +kernel
theorem dX9_body_18 : decode cX9_body 18 = .ok (.if_icmp .ne 6, 3) := by decide +kernel
theorem dX9_body_21 : decode cX9_body 21 = .ok (.bipush (-3), 2) := by decide +kernel
theorem dX9_body_23 : decode cX9_body 23 = .ok (.ireturn, 1) := by decide +kernel
theorem dX9_body_24 : decode cX9_body 24 = .ok (.aload_n 0, 1) := by decide +kernel
theorem dX9_body_25 : decode cX9_body 25 = .ok (.getfield 119, 3) := by decide +kernel
theorem dX9_body_28 : decode cX9_body 28 = .ok (.aload_n 0, 1) := by decide +kernel
theorem dX9_body_29 : decode cX9_body 29 = .ok (.getfield 407, 3) := by decide +kernel
theorem dX9_body_32 : decode cX9_body 32 = .ok (.iload_n 1, 1) := by decide +kernel
theorem dX9_body_33 : decode cX9_body 33 = .ok (.iastore, 1) := by decide +kernel
theorem dX9_body_34 : decode cX9_body 34 = .ok (.aload_n 0, 1) := by decide +kernel
theorem dX9_body_35 : decode cX9_body 35 = .ok (.dup, 1) := by decide +kernel
theorem dX9_body_36 : decode cX9_body 36 = .ok (.getfield 407, 3) := by decide +kernel
theorem dX9_body_39 : decode cX9_body 39 = .ok (.iconst 1, 1) := by decide +kernel
theorem dX9_body_40 : decode cX9_body 40 = .ok (.iadd, 1) := by decide +kernel
theorem dX9_body_41 : decode cX9_body 41 = .ok (.putfield 407, 3) := by decide +kernel
theorem dX9_body_44 : decode cX9_body 44 = .ok (.aload_n 0, 1) := by decide +kernel
theorem dX9_body_45 : decode cX9_body 45 = .ok (.getfield 407, 3) := by decide +kernel
theorem dX9_body_48 : decode cX9_body 48 = .ok (.iconst 1, 1) := by decide +kernel
theorem dX9_body_49 : decode cX9_body 49 = .ok (.isub, 1) := by decide +kernel
theorem dX9_body_50 : decode cX9_body 50 = .ok (.ireturn, 1) := by decide +kernel
theorem dX9_isUnder_0 : decode cX9_isUnder 0 = .ok (.iload_n 1, 1) := by decide +kernel
theorem dX9_isUnder_1 : decode cX9_isUnder 1 = .ok (.ifCond .eq 55, 3) := by decide +kernel
theorem dX9_isUnder_4 : decode cX9_isUnder 4 = .ok (.iload_n 0, 1) := by decide +kernel
theorem dX9_isUnder_5 : decode cX9_isUnder 5 = .ok (.iload_n 1, 1) := by decide +kernel
theorem dX9_isUnder_6 : decode cX9_isUnder 6 = .ok (.if_icmp .eq 50, 3) := by decide +kernel
theorem dX9_isUnder_9 : decode cX9_isUnder 9 = .ok (.iload_n 1, 1) := by decide +kernel
theorem dX9_isUnder_10 : decode cX9_isUnder 10 = .ok (.iconst 1, 1) := by decide +kernel
theorem dX9_isUnder_11 : decode cX9_isUnder 11 = .ok (.if_icmp .ne 8, 3) := by decide +kernel
theorem dX9_isUnder_14 : decode cX9_isUnder 14 = .ok (.iload_n 0, 1) := by decide +kernel
theorem dX9_isUnder_15 : decode cX9_isUnder 15 = .ok (.iconst 4, 1) := by decide +kernel
theorem dX9_isUnder_16 : decode cX9_isUnder 16 = .ok (.if_icmp .eq 40, 3) := by decide +kernel
theorem dX9_isUnder_19 : decode cX9_isUnder 19 = .ok (.iload_n 1, 1) := by decide +kernel
theorem dX9_isUnder_20 : decode cX9_isUnder 20 = .ok (.iconst 2, 1) := by decide +kernel
theorem dX9_isUnder_21 : decode cX9_isUnder 21 = .ok (.if_icmp .ne 13, 3) := by decide +kernel
theorem dX9_isUnder_24 : decode cX9_isUnder 24 = .ok (.iload_n 0, 1) := by decide +kernel
theorem dX9_isUnder_25 : decode cX9_isUnder 25 = .ok (.iconst 3, 1) := by decide +kernel
theorem dX9_isUnder_26 : decode cX9_isUnder 26 = .ok (.if_icmp .eq 30, 3) := by decide +kernel
theorem dX9_isUnder_29 : decode cX9_isUnder 29 = .ok (.iload_n 0, 1) := by decide +kernel
theorem dX9_isUnder_30 : decode cX9_isUnder 30 = .ok (.iconst 5, 1) := by decide +kernel
theorem dX9_isUnder_31 : decode cX9_isUnder 31 = .ok (.if_icmp .eq 25, 3) := by decide +kernel
theorem dX9_isUnder_34 : decode cX9_isUnder 34 = .ok (.iload_n 1, 1) := by decide +kernel
theorem dX9_isUnder_35 : decode cX9_isUnder 35 = .ok (.iconst 3, 1) := by decide +kernel
theorem dX9_isUnder_36 : decode cX9_isUnder 36 = .ok (.if_icmp .ne 8, 3) := by decide +kernel
theorem dX9_isUnder_39 : decode cX9_isUnder 39 = .ok (.iload_n 0, 1) := by decide +kernel
theorem dX9_isUnder_40 : decode cX9_isUnder 40 = .ok (.iconst 5, 1) := by decide +kernel
theorem dX9_isUnder_41 : decode cX9_isUnder 41 = .ok (.if_icmp .eq 15, 3) := by decide +kernel
theorem dX9_isUnder_44 : decode cX9_isUnder 44 = .ok (.iload_n 1, 1) := by decide +kernel
theorem dX9_isUnder_45 : decode cX9_isUnder 45 = .ok (.bipush 6, 2) := by decide +kernel
theorem dX9_isUnder_47 : decode cX9_isUnder 47 = .ok (.if_icmp .ne 13, 3) := by decide +kernel
theorem dX9_isUnder_50 : decode cX9_isUnder 50 = .ok (.iload_n 0, 1) := by decide +kernel
theorem dX9_isUnder_51 : decode cX9_isUnder 51 = .ok (.bipush 7, 2) := by decide +kernel
theorem dX9_isUnder_53 : decode cX9_isUnder 53 = .ok (.if_icmp .ne 7, 3) := by decide +kernel
theorem dX9_isUnder_56 : decode cX9_isUnder 56 = .ok (.iconst 1, 1) := by decide +kernel
theorem dX9_isUnder_57 : decode cX9_isUnder 57 = .ok (.goto 4, 3) := by decide +kernel
theorem dX9_isUnder_60 : decode cX9_isUnder 60 = .ok (.iconst 0, 1) := by decide +kernel
theorem dX9_isUnder_61 : decode cX9_isUnder 61 = .ok (.ireturn, 1) := by decide +kernel
theorem dX9_plainPasses_0 : decode cX9_plainPasses 0 = .ok (.aload_n 0, 1) := by decide +kernel
theorem dX9_plainPasses_1 : decode cX9_plainPasses 1 = .ok (.iconst 1, 1) := by decide +kernel
theorem dX9_plainPasses_2 : decode cX9_plainPasses 2 = .ok (.invokevirtual 413, 3) := by decide +kernel
theorem dX9_plainPasses_5 : decode cX9_plainPasses 5 = .ok (.iload_n 2, 1) := by decide +kernel
theorem dX9_plainPasses_6 : decode cX9_plainPasses 6 = .ok (.iload_n 1, 1) := by decide +kernel
theorem dX9_plainPasses_7 : decode cX9_plainPasses 7 = .ok (.iadd, 1) := by decide +kernel
theorem dX9_plainPasses_8 : decode cX9_plainPasses 8 = .ok (.ireturn, 1) := by decide +kernel
theorem dX9_maidPasses_0 : decode cX9_maidPasses 0 = .ok (.aload_n 0, 1) := by decide +kernel
theorem dX9_maidPasses_1 : decode cX9_maidPasses 1 = .ok (.bipush 70, 2) := by decide +kernel
theorem dX9_maidPasses_3 : decode cX9_maidPasses 3 = .ok (.invokevirtual 413, 3) := by decide +kernel
theorem dX9_maidPasses_6 : decode cX9_maidPasses 6 = .ok (.aload_n 0, 1) := by decide +kernel
theorem dX9_maidPasses_7 : decode cX9_maidPasses 7 = .ok (.iload_n 1, 1) := by decide +kernel
theorem dX9_maidPasses_8 : decode cX9_maidPasses 8 = .ok (.iload_n 2, 1) := by decide +kernel
theorem dX9_maidPasses_9 : decode cX9_maidPasses 9 = .ok (.invokevirtual 416, 3) := by decide +kernel
theorem dX9_maidPasses_12 : decode cX9_maidPasses 12 = .ok (.iconst 2, 1) := by decide +kernel
theorem dX9_maidPasses_13 : decode cX9_maidPasses 13 = .ok (.imul, 1) := by decide +kernel
theorem dX9_maidPasses_14 : decode cX9_maidPasses 14 = .ok (.ireturn, 1) := by decide +kernel
theorem dX9_passing_0 : decode cX9_passing 0 = .ok (.aload_n 0, 1) := by decide +kernel
theorem dX9_passing_1 : decode cX9_passing 1 = .ok (.getfield 119, 3) := by decide +kernel
theorem dX9_passing_4 : decode cX9_passing 4 = .ok (.iload_n 1, 1) := by decide +kernel
theorem dX9_passing_5 : decode cX9_passing 5 = .ok (.iaload, 1) := by decide +kernel
theorem dX9_passing_6 : decode cX9_passing 6 = .ok (.iconst 1, 1) := by decide +kernel
theorem dX9_passing_7 : decode cX9_passing 7 = .ok (.invokestatic 419, 3) := by decide +kernel
theorem dX9_passing_10 : decode cX9_passing 10 = .ok (.ifCond .eq 18, 3) := by decide +kernel
theorem dX9_passing_13 : decode cX9_passing 13 = .ok (.aload_n 0, 1) := by decide +kernel
theorem dX9_passing_14 : decode cX9_passing 14 = .ok (.bipush 20, 2) := by decide +kernel
theorem dX9_passing_16 : decode cX9_passing 16 = .ok (.invokevirtual 413, 3) := by decide +kernel
theorem dX9_passing_19 : decode cX9_passing 19 = .ok (.aload_n 0, 1) := by decide +kernel
theorem dX9_passing_20 : decode cX9_passing 20 = .ok (.iload_n 1, 1) := by decide +kernel
theorem dX9_passing_21 : decode cX9_passing 21 = .ok (.iload_n 2, 1) := by decide +kernel
theorem dX9_passing_22 : decode cX9_passing 22 = .ok (.invokevirtual 416, 3) := by decide +kernel
theorem dX9_passing_25 : decode cX9_passing 25 = .ok (.iconst 3, 1) := by decide +kernel
theorem dX9_passing_26 : decode cX9_passing 26 = .ok (.iadd, 1) := by decide +kernel
theorem dX9_passing_27 : decode cX9_passing 27 = .ok (.ireturn, 1) := by decide +kernel
theorem dX9_passing_28 : decode cX9_passing 28 = .ok (.aload_n 0, 1) := by decide +kernel
theorem dX9_passing_29 : decode cX9_passing 29 = .ok (.getfield 119, 3) := by decide +kernel
theorem dX9_passing_32 : decode cX9_passing 32 = .ok (.iload_n 1, 1) := by decide +kernel
theorem dX9_passing_33 : decode cX9_passing 33 = .ok (.iaload, 1) := by decide +kernel
theorem dX9_passing_34 : decode cX9_passing 34 = .ok (.bipush 7, 2) := by decide +kernel
theorem dX9_passing_36 : decode cX9_passing 36 = .ok (.if_icmp .ne 18, 3) := by decide +kernel
theorem dX9_passing_39 : decode cX9_passing 39 = .ok (.aload_n 0, 1) := by decide +kernel
theorem dX9_passing_40 : decode cX9_passing 40 = .ok (.bipush 81, 2) := by decide +kernel
theorem dX9_passing_42 : decode cX9_passing 42 = .ok (.invokevirtual 413, 3) := by decide +kernel
theorem dX9_passing_45 : decode cX9_passing 45 = .ok (.aload_n 0, 1) := by decide +kernel
theorem dX9_passing_46 : decode cX9_passing 46 = .ok (.iload_n 1, 1) := by decide +kernel
theorem dX9_passing_47 : decode cX9_passing 47 = .ok (.iload_n 2, 1) := by decide +kernel
theorem dX9_passing_48 : decode cX9_passing 48 = .ok (.invokevirtual 422, 3) := by decide +kernel
theorem dX9_passing_51 : decode cX9_passing 51 = .ok (.iconst 1, 1) := by decide +kernel
theorem dX9_passing_52 : decode cX9_passing 52 = .ok (.isub, 1) := by decide +kernel
theorem dX9_passing_53 : decode cX9_passing 53 = .ok (.ireturn, 1) := by decide +kernel
theorem dX9_passing_54 : decode cX9_passing 54 = .ok (.aload_n 0, 1) := by decide +kernel
theorem dX9_passing_55 : decode cX9_passing 55 = .ok (.getfield 119, 3) := by decide +kernel
theorem dX9_passing_58 : decode cX9_passing 58 = .ok (.iload_n 1, 1) := by decide +kernel
theorem dX9_passing_59 : decode cX9_passing 59 = .ok (.iaload, 1) := by decide +kernel
theorem dX9_passing_60 : decode cX9_passing 60 = .ok (.bipush 6, 2) := by decide +kernel
theorem dX9_passing_62 : decode cX9_passing 62 = .ok (.if_icmp .ne 12, 3) := by decide +kernel
theorem dX9_passing_65 : decode cX9_passing 65 = .ok (.aload_n 0, 1) := by decide +kernel
theorem dX9_passing_66 : decode cX9_passing 66 = .ok (.iload_n 1, 1) := by decide +kernel
theorem dX9_passing_67 : decode cX9_passing 67 = .ok (.iload_n 2, 1) := by decide +kernel
theorem dX9_passing_68 : decode cX9_passing 68 = .ok (.invokevirtual 422, 3) := by decide +kernel
theorem dX9_passing_71 : decode cX9_passing 71 = .ok (.goto 9, 3) := by decide +kernel
theorem dX9_passing_74 : decode cX9_passing 74 = .ok (.aload_n 0, 1) := by decide +kernel
theorem dX9_passing_75 : decode cX9_passing 75 = .ok (.iload_n 1, 1) := by decide +kernel
theorem dX9_passing_76 : decode cX9_passing 76 = .ok (.iload_n 2, 1) := by decide +kernel
theorem dX9_passing_77 : decode cX9_passing 77 = .ok (.invokevirtual 416, 3) := by decide +kernel
theorem dX9_passing_80 : decode cX9_passing 80 = .ok (.ireturn, 1) := by decide +kernel
theorem dX9_plainStays_0 : decode cX9_plainStays 0 = .ok (.aload_n 0, 1) := by decide +kernel
theorem dX9_plainStays_1 : decode cX9_plainStays 1 = .ok (.bipush 10, 2) := by decide +kernel
theorem dX9_plainStays_3 : decode cX9_plainStays 3 = .ok (.invokevirtual 413, 3) := by decide +kernel
theorem dX9_plainStays_6 : decode cX9_plainStays 6 = .ok (.aload_n 0, 1) := by decide +kernel
theorem dX9_plainStays_7 : decode cX9_plainStays 7 = .ok (.iload_n 1, 1) := by decide +kernel
theorem dX9_plainStays_8 : decode cX9_plainStays 8 = .ok (.iload_n 2, 1) := by decide +kernel
theorem dX9_plainStays_9 : decode cX9_plainStays 9 = .ok (.invokevirtual 425, 3) := by decide +kernel
theorem dX9_plainStays_12 : decode cX9_plainStays 12 = .ok (.iconst 2, 1) := by decide +kernel
theorem dX9_plainStays_13 : decode cX9_plainStays 13 = .ok (.imul, 1) := by decide +kernel
theorem dX9_plainStays_14 : decode cX9_plainStays 14 = .ok (.ireturn, 1) := by decide +kernel
theorem dX9_barbStays_0 : decode cX9_barbStays 0 = .ok (.aload_n 0, 1) := by decide +kernel
theorem dX9_barbStays_1 : decode cX9_barbStays 1 = .ok (.bipush 30, 2) := by decide +kernel
theorem dX9_barbStays_3 : decode cX9_barbStays 3 = .ok (.invokevirtual 413, 3) := by decide +kernel
theorem dX9_barbStays_6 : decode cX9_barbStays 6 = .ok (.aload_n 0, 1) := by decide +kernel
theorem dX9_barbStays_7 : decode cX9_barbStays 7 = .ok (.iload_n 1, 1) := by decide +kernel
theorem dX9_barbStays_8 : decode cX9_barbStays 8 = .ok (.iload_n 2, 1) := by decide +kernel
theorem dX9_barbStays_9 : decode cX9_barbStays 9 = .ok (.invokevirtual 428, 3) := by decide +kernel
theorem dX9_barbStays_12 : decode cX9_barbStays 12 = .ok (.ineg, 1) := by decide +kernel
theorem dX9_barbStays_13 : decode cX9_barbStays 13 = .ok (.ireturn, 1) := by decide +kernel
theorem dX9_staying_0 : decode cX9_staying 0 = .ok (.aload_n 0, 1) := by decide +kernel
theorem dX9_staying_1 : decode cX9_staying 1 = .ok (.getfield 119, 3) := by decide +kernel
theorem dX9_staying_4 : decode cX9_staying 4 = .ok (.iload_n 1, 1) := by decide +kernel
theorem dX9_staying_5 : decode cX9_staying 5 = .ok (.iaload, 1) := by decide +kernel
theorem dX9_staying_6 : decode cX9_staying 6 = .ok (.iconst 3, 1) := by decide +kernel
theorem dX9_staying_7 : decode cX9_staying 7 = .ok (.invokestatic 419, 3) := by decide +kernel
theorem dX9_staying_10 : decode cX9_staying 10 = .ok (.ifCond .eq 18, 3) := by decide +kernel
theorem dX9_staying_13 : decode cX9_staying 13 = .ok (.aload_n 0, 1) := by decide +kernel
theorem dX9_staying_14 : decode cX9_staying 14 = .ok (.bipush 41, 2) := by decide +kernel
theorem dX9_staying_16 : decode cX9_staying 16 = .ok (.invokevirtual 413, 3) := by decide +kernel
theorem dX9_staying_19 : decode cX9_staying 19 = .ok (.aload_n 0, 1) := by decide +kernel
theorem dX9_staying_20 : decode cX9_staying 20 = .ok (.iload_n 1, 1) := by decide +kernel
theorem dX9_staying_21 : decode cX9_staying 21 = .ok (.iload_n 2, 1) := by decide +kernel
theorem dX9_staying_22 : decode cX9_staying 22 = .ok (.iconst 1, 1) := by decide +kernel
theorem dX9_staying_23 : decode cX9_staying 23 = .ok (.iadd, 1) := by decide +kernel
theorem dX9_staying_24 : decode cX9_staying 24 = .ok (.invokevirtual 431, 3) := by decide +kernel
theorem dX9_staying_27 : decode cX9_staying 27 = .ok (.ireturn, 1) := by decide +kernel
theorem dX9_staying_28 : decode cX9_staying 28 = .ok (.aload_n 0, 1) := by decide +kernel
theorem dX9_staying_29 : decode cX9_staying 29 = .ok (.getfield 119, 3) := by decide +kernel
theorem dX9_staying_32 : decode cX9_staying 32 = .ok (.iload_n 1, 1) := by decide +kernel
theorem dX9_staying_33 : decode cX9_staying 33 = .ok (.iaload, 1) := by decide +kernel
theorem dX9_staying_34 : decode cX9_staying 34 = .ok (.bipush 7, 2) := by decide +kernel
theorem dX9_staying_36 : decode cX9_staying 36 = .ok (.if_icmp .ne 25, 3) := by decide +kernel
theorem dX9_staying_39 : decode cX9_staying 39 = .ok (.aload_n 0, 1) := by decide +kernel
theorem dX9_staying_40 : decode cX9_staying 40 = .ok (.bipush 80, 2) := by decide +kernel
theorem dX9_staying_42 : decode cX9_staying 42 = .ok (.invokevirtual 413, 3) := by decide +kernel
theorem dX9_staying_45 : decode cX9_staying 45 = .ok (.aload_n 0, 1) := by decide +kernel
theorem dX9_staying_46 : decode cX9_staying 46 = .ok (.iload_n 1, 1) := by decide +kernel
theorem dX9_staying_47 : decode cX9_staying 47 = .ok (.iload_n 2, 1) := by decide +kernel
theorem dX9_staying_48 : decode cX9_staying 48 = .ok (.invokevirtual 428, 3) := by decide +kernel
theorem dX9_staying_51 : decode cX9_staying 51 = .ok (.istore_n 3, 1) := by decide +kernel
theorem dX9_staying_52 : decode cX9_staying 52 = .ok (.iload_n 3, 1) := by decide +kernel
theorem dX9_staying_53 : decode cX9_staying 53 = .ok (.aload_n 0, 1) := by decide +kernel
theorem dX9_staying_54 : decode cX9_staying 54 = .ok (.iload_n 1, 1) := by decide +kernel
theorem dX9_staying_55 : decode cX9_staying 55 = .ok (.iconst 2, 1) := by decide +kernel
theorem dX9_staying_56 : decode cX9_staying 56 = .ok (.invokevirtual 434, 3) := by decide +kernel
theorem dX9_staying_59 : decode cX9_staying 59 = .ok (.iadd, 1) := by decide +kernel
theorem dX9_staying_60 : decode cX9_staying 60 = .ok (.ireturn, 1) := by decide +kernel
theorem dX9_staying_61 : decode cX9_staying 61 = .ok (.aload_n 0, 1) := by decide +kernel
theorem dX9_staying_62 : decode cX9_staying 62 = .ok (.getfield 119, 3) := by decide +kernel
theorem dX9_staying_65 : decode cX9_staying 65 = .ok (.iload_n 1, 1) := by decide +kernel
theorem dX9_staying_66 : decode cX9_staying 66 = .ok (.iaload, 1) := by decide +kernel
theorem dX9_staying_67 : decode cX9_staying 67 = .ok (.iconst 2, 1) := by decide +kernel
theorem dX9_staying_68 : decode cX9_staying 68 = .ok (.if_icmp .ne 12, 3) := by decide +kernel
theorem dX9_staying_71 : decode cX9_staying 71 = .ok (.aload_n 0, 1) := by decide +kernel
theorem dX9_staying_72 : decode cX9_staying 72 = .ok (.iload_n 1, 1) := by decide +kernel
theorem dX9_staying_73 : decode cX9_staying 73 = .ok (.iload_n 2, 1) := by decide +kernel
theorem dX9_staying_74 : decode cX9_staying 74 = .ok (.invokevirtual 431, 3) := by decide +kernel
theorem dX9_staying_77 : decode cX9_staying 77 = .ok (.goto 9, 3) := by decide +kernel
theorem dX9_staying_80 : decode cX9_staying 80 = .ok (.aload_n 0, 1) := by decide +kernel
theorem dX9_staying_81 : decode cX9_staying 81 = .ok (.iload_n 1, 1) := by decide +kernel
theorem dX9_staying_82 : decode cX9_staying 82 = .ok (.iload_n 2, 1) := by decide +kernel
theorem dX9_staying_83 : decode cX9_staying 83 = .ok (.invokevirtual 428, 3) := by decide +kernel
theorem dX9_staying_86 : decode cX9_staying 86 = .ok (.ireturn, 1) := by decide +kernel
theorem dX9_plainHurts_0 : decode cX9_plainHurts 0 = .ok (.aload_n 0, 1) := by decide +kernel
theorem dX9_plainHurts_1 : decode cX9_plainHurts 1 = .ok (.bipush 11, 2) := by decide +kernel
theorem dX9_plainHurts_3 : decode cX9_plainHurts 3 = .ok (.invokevirtual 413, 3) := by decide +kernel
theorem dX9_plainHurts_6 : decode cX9_plainHurts 6 = .ok (.iload_n 2, 1) := by decide +kernel
theorem dX9_plainHurts_7 : decode cX9_plainHurts 7 = .ok (.iload_n 1, 1) := by decide +kernel
theorem dX9_plainHurts_8 : decode cX9_plainHurts 8 = .ok (.ixor, 1) := by decide +kernel
theorem dX9_plainHurts_9 : decode cX9_plainHurts 9 = .ok (.ireturn, 1) := by decide +kernel
theorem dX9_complimentHurts_0 : decode cX9_complimentHurts 0 = .ok (.aload_n 0, 1) := by decide +kernel
theorem dX9_complimentHurts_1 : decode cX9_complimentHurts 1 = .ok (.bipush 40, 2) := by decide +kernel
theorem dX9_complimentHurts_3 : decode cX9_complimentHurts 3 = .ok (.invokevirtual 413, 3) := by decide +kernel
theorem dX9_complimentHurts_6 : decode cX9_complimentHurts 6 = .ok (.aload_n 0, 1) := by decide +kernel
