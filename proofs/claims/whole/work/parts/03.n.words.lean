theorem uX0_r : u_ws RX0 TX0 6 = ([63, 65, 67, 69, 71, 73] : List Nat).filterMap (fun i => tables_1[i]?) := by decide +kernel
theorem uX0_g : (u_ws RX0 TX0 6).all goodWord = true := by decide +kernel
theorem uX0 : ∀ w ∈ u_ws RX0 TX0 6, w ∈ z_all := fun w hw => z_in (List.mem_append_right _ (by rw [uX0_r] at hw; obtain ⟨i, -, hi⟩ := List.mem_filterMap.mp hw; exact List.mem_of_getElem? hi)) (List.all_eq_true.mp uX0_g w hw)
theorem uX1_r : u_ws RX1 TX1 7 = ([221, 223, 225, 227, 229, 231, 233] : List Nat).filterMap (fun i => tables_1[i]?) := by decide +kernel
theorem uX1_g : (u_ws RX1 TX1 7).all goodWord = true := by decide +kernel
theorem uX1 : ∀ w ∈ u_ws RX1 TX1 7, w ∈ z_all := fun w hw => z_in (List.mem_append_right _ (by rw [uX1_r] at hw; obtain ⟨i, -, hi⟩ := List.mem_filterMap.mp hw; exact List.mem_of_getElem? hi)) (List.all_eq_true.mp uX1_g w hw)
theorem uX2_r : u_ws RX2 TX2 10 = ([93, 95, 97, 99, 101, 103, 105, 107, 109, 111] : List Nat).filterMap (fun i => tables_1[i]?) := by decide +kernel
theorem uX2_g : (u_ws RX2 TX2 10).all goodWord = true := by decide +kernel
theorem uX2 : ∀ w ∈ u_ws RX2 TX2 10, w ∈ z_all := fun w hw => z_in (List.mem_append_right _ (by rw [uX2_r] at hw; obtain ⟨i, -, hi⟩ := List.mem_filterMap.mp hw; exact List.mem_of_getElem? hi)) (List.all_eq_true.mp uX2_g w hw)
theorem uX3_r : u_ws RX3 TX3 6 = ([250, 252, 254, 256, 258, 260] : List Nat).filterMap (fun i => tables_1[i]?) := by decide +kernel
theorem uX3_g : (u_ws RX3 TX3 6).all goodWord = true := by decide +kernel
theorem uX3 : ∀ w ∈ u_ws RX3 TX3 6, w ∈ z_all := fun w hw => z_in (List.mem_append_right _ (by rw [uX3_r] at hw; obtain ⟨i, -, hi⟩ := List.mem_filterMap.mp hw; exact List.mem_of_getElem? hi)) (List.all_eq_true.mp uX3_g w hw)
theorem uX4_r : u_ws RX4 TX4 9 = ([188, 190, 192, 194, 196, 198, 200, 202, 204] : List Nat).filterMap (fun i => tables_1[i]?) := by decide +kernel
theorem uX4_g : (u_ws RX4 TX4 9).all goodWord = true := by decide +kernel
theorem uX4 : ∀ w ∈ u_ws RX4 TX4 9, w ∈ z_all := fun w hw => z_in (List.mem_append_right _ (by rw [uX4_r] at hw; obtain ⟨i, -, hi⟩ := List.mem_filterMap.mp hw; exact List.mem_of_getElem? hi)) (List.all_eq_true.mp uX4_g w hw)
theorem uX5_r : u_ws RX5 TX5 4 = ([126, 128, 130, 132] : List Nat).filterMap (fun i => tables_1[i]?) := by decide +kernel
theorem uX5_g : (u_ws RX5 TX5 4).all goodWord = true := by decide +kernel
theorem uX5 : ∀ w ∈ u_ws RX5 TX5 4, w ∈ z_all := fun w hw => z_in (List.mem_append_right _ (by rw [uX5_r] at hw; obtain ⟨i, -, hi⟩ := List.mem_filterMap.mp hw; exact List.mem_of_getElem? hi)) (List.all_eq_true.mp uX5_g w hw)
theorem uX6_r : u_ws RX6 TX6 7 = ([156, 158, 160, 162, 164, 166, 168] : List Nat).filterMap (fun i => tables_1[i]?) := by decide +kernel
theorem uX6_g : (u_ws RX6 TX6 7).all goodWord = true := by decide +kernel
theorem uX6 : ∀ w ∈ u_ws RX6 TX6 7, w ∈ z_all := fun w hw => z_in (List.mem_append_right _ (by rw [uX6_r] at hw; obtain ⟨i, -, hi⟩ := List.mem_filterMap.mp hw; exact List.mem_of_getElem? hi)) (List.all_eq_true.mp uX6_g w hw)
theorem uX7_r : u_ws RX7 TX7 4 = ([40, 42, 44, 46] : List Nat).filterMap (fun i => tables_1[i]?) := by decide +kernel
theorem uX7_g : (u_ws RX7 TX7 4).all goodWord = true := by decide +kernel
theorem uX7 : ∀ w ∈ u_ws RX7 TX7 4, w ∈ z_all := fun w hw => z_in (List.mem_append_right _ (by rw [uX7_r] at hw; obtain ⟨i, -, hi⟩ := List.mem_filterMap.mp hw; exact List.mem_of_getElem? hi)) (List.all_eq_true.mp uX7_g w hw)
theorem uX8_r : u_ws RX8 TX8 10 = ([273, 275, 277, 279, 281, 283, 285, 287, 289, 291] : List Nat).filterMap (fun i => tables_1[i]?) := by decide +kernel
theorem uX8_g : (u_ws RX8 TX8 10).all goodWord = true := by decide +kernel
theorem uX8 : ∀ w ∈ u_ws RX8 TX8 10, w ∈ z_all := fun w hw => z_in (List.mem_append_right _ (by rw [uX8_r] at hw; obtain ⟨i, -, hi⟩ := List.mem_filterMap.mp hw; exact List.mem_of_getElem? hi)) (List.all_eq_true.mp uX8_g w hw)
theorem uX9_r : u_ws RX9 TX9 62 = ([963, 965, 967, 969, 971, 973, 975, 977, 979, 981, 983, 985, 987, 989, 991, 993, 995, 997, 999, 1001, 1003, 1005, 1007, 1009, 1011, 1013, 1015, 1017, 1019, 1021, 1023, 1025, 1027, 1029, 1031, 1033, 1035, 1037, 1039, 1041, 1043, 1045, 1047, 1049, 1051, 1053, 1055, 1057, 1059, 1061, 1063, 1065, 1067, 1069, 1071, 1073, 1075, 1077, 1079, 1081, 1083, 1085] : List Nat).filterMap (fun i => tables_1[i]?) := by decide +kernel
theorem uX9_g : (u_ws RX9 TX9 62).all goodWord = true := by decide +kernel
theorem uX9 : ∀ w ∈ u_ws RX9 TX9 62, w ∈ z_all := fun w hw => z_in (List.mem_append_right _ (by rw [uX9_r] at hw; obtain ⟨i, -, hi⟩ := List.mem_filterMap.mp hw; exact List.mem_of_getElem? hi)) (List.all_eq_true.mp uX9_g w hw)
theorem nI_RX8 : Cond.initialized RX8 ∈ z_all := z_in (List.mem_append_right _ (List.mem_of_getElem? (i := 1) (by decide +kernel))) rfl
theorem nI_RX0 : Cond.initialized RX0 ∈ z_all := z_in (List.mem_append_right _ (List.mem_of_getElem? (i := 3) (by decide +kernel))) rfl
theorem nI_RX1 : Cond.initialized RX1 ∈ z_all := z_in (List.mem_append_right _ (List.mem_of_getElem? (i := 8) (by decide +kernel))) rfl
theorem nI_RX2 : Cond.initialized RX2 ∈ z_all := z_in (List.mem_append_right _ (List.mem_of_getElem? (i := 4) (by decide +kernel))) rfl
theorem nI_RX3 : Cond.initialized RX3 ∈ z_all := z_in (List.mem_append_right _ (List.mem_of_getElem? (i := 9) (by decide +kernel))) rfl
theorem nI_RX4 : Cond.initialized RX4 ∈ z_all := z_in (List.mem_append_right _ (List.mem_of_getElem? (i := 7) (by decide +kernel))) rfl
theorem nI_RX5 : Cond.initialized RX5 ∈ z_all := z_in (List.mem_append_right _ (List.mem_of_getElem? (i := 5) (by decide +kernel))) rfl
theorem nI_RX6 : Cond.initialized RX6 ∈ z_all := z_in (List.mem_append_right _ (List.mem_of_getElem? (i := 6) (by decide +kernel))) rfl
theorem nI_RX7 : Cond.initialized RX7 ∈ z_all := z_in (List.mem_append_right _ (List.mem_of_getElem? (i := 2) (by decide +kernel))) rfl
theorem nI_RL : Cond.initialized RL ∈ z_all := z_in (List.mem_append_right _ (List.mem_of_getElem? (i := 0) (by decide +kernel))) rfl
theorem nI_RX9 : Cond.initialized RX9 ∈ z_all := z_in (List.mem_append_right _ (List.mem_of_getElem? (i := 10) (by decide +kernel))) rfl
theorem nI_RJ6 : Cond.initialized RJ6 ∈ z_all := z_in (List.mem_append_right _ (List.mem_of_getElem? (i := 12) (by decide +kernel))) rfl
theorem wc_X0_init : Cond.code yX0_init cX0_init 1 none ∈ z_all := z_in (List.mem_append_right _ (List.mem_of_getElem? (i := 54) (by decide +kernel))) rfl
theorem wc_X0_note : Cond.code yX0_note cX0_note 5 none ∈ z_all := z_in (List.mem_append_right _ (List.mem_of_getElem? (i := 386) (by decide +kernel))) rfl
theorem wc_X0_forgetOldest : Cond.code yX0_forgetOldest cX0_forgetOldest 2 none ∈ z_all := z_in (List.mem_append_right _ (List.mem_of_getElem? (i := 390) (by decide +kernel))) rfl
theorem wc_X0_stepBack : Cond.code yX0_stepBack cX0_stepBack 2 (some .int) ∈ z_all := z_in (List.mem_append_right _ (List.mem_of_getElem? (i := 767) (by decide +kernel))) rfl
theorem wc_X0_stepOn : Cond.code yX0_stepOn cX0_stepOn 2 (some .int) ∈ z_all := z_in (List.mem_append_right _ (List.mem_of_getElem? (i := 776) (by decide +kernel))) rfl
theorem wc_X1_init : Cond.code yX1_init cX1_init 1 none ∈ z_all := z_in (List.mem_append_right _ (List.mem_of_getElem? (i := 212) (by decide +kernel))) rfl
theorem wc_X1_lyingIn : Cond.code yX1_lyingIn cX1_lyingIn 2 (some .int) ∈ z_all := z_in (List.mem_append_right _ (List.mem_of_getElem? (i := 402) (by decide +kernel))) rfl
theorem wc_X1_harmIn : Cond.code yX1_harmIn cX1_harmIn 2 (some .int) ∈ z_all := z_in (List.mem_append_right _ (List.mem_of_getElem? (i := 406) (by decide +kernel))) rfl
theorem wc_X1_ledOf : Cond.code yX1_ledOf cX1_ledOf 2 (some .int) ∈ z_all := z_in (List.mem_append_right _ (List.mem_of_getElem? (i := 740) (by decide +kernel))) rfl
theorem wc_X1_noteSaying : Cond.code yX1_noteSaying cX1_noteSaying 6 none ∈ z_all := z_in (List.mem_append_right _ (List.mem_of_getElem? (i := 724) (by decide +kernel))) rfl
theorem wc_X1_rinseOut : Cond.code yX1_rinseOut cX1_rinseOut 3 (some .int) ∈ z_all := z_in (List.mem_append_right _ (List.mem_of_getElem? (i := 732) (by decide +kernel))) rfl
theorem wc_X1_keepImage : Cond.code yX1_keepImage cX1_keepImage 1 (some .int) ∈ z_all := z_in (List.mem_append_right _ (List.mem_of_getElem? (i := 748) (by decide +kernel))) rfl
theorem wc_X1_layBack : Cond.code yX1_layBack cX1_layBack 1 (some .int) ∈ z_all := z_in (List.mem_append_right _ (List.mem_of_getElem? (i := 759) (by decide +kernel))) rfl
theorem wc_X2_init : Cond.code yX2_init cX2_init 1 none ∈ z_all := z_in (List.mem_append_right _ (List.mem_of_getElem? (i := 80) (by decide +kernel))) rfl
theorem wc_X2_take : Cond.code yX2_take cX2_take 2 (some .int) ∈ z_all := z_in (List.mem_append_right _ (List.mem_of_getElem? (i := 414) (by decide +kernel))) rfl
theorem wc_X2_becomeTape : Cond.code yX2_becomeTape cX2_becomeTape 2 (some .int) ∈ z_all := z_in (List.mem_append_right _ (List.mem_of_getElem? (i := 422) (by decide +kernel))) rfl
theorem wc_X2_readLines : Cond.code yX2_readLines cX2_readLines 2 none ∈ z_all := z_in (List.mem_append_right _ (List.mem_of_getElem? (i := 426) (by decide +kernel))) rfl
theorem wc_X2_readLine : Cond.code yX2_readLine cX2_readLine 2 none ∈ z_all := z_in (List.mem_append_right _ (List.mem_of_getElem? (i := 430) (by decide +kernel))) rfl
theorem wc_X2_readLevel : Cond.code yX2_readLevel cX2_readLevel 6 none ∈ z_all := z_in (List.mem_append_right _ (List.mem_of_getElem? (i := 434) (by decide +kernel))) rfl
theorem wc_X2_readOperand : Cond.code yX2_readOperand cX2_readOperand 3 none ∈ z_all := z_in (List.mem_append_right _ (List.mem_of_getElem? (i := 438) (by decide +kernel))) rfl
theorem wc_X2_closeBracket : Cond.code yX2_closeBracket cX2_closeBracket 1 none ∈ z_all := z_in (List.mem_append_right _ (List.mem_of_getElem? (i := 460) (by decide +kernel))) rfl
theorem wc_X2_readNumber : Cond.code yX2_readNumber cX2_readNumber 3 none ∈ z_all := z_in (List.mem_append_right _ (List.mem_of_getElem? (i := 449) (by decide +kernel))) rfl
theorem wc_X2_nextByte : Cond.code yX2_nextByte cX2_nextByte 1 (some .int) ∈ z_all := z_in (List.mem_append_right _ (List.mem_of_getElem? (i := 442) (by decide +kernel))) rfl
theorem wc_X2_addStep : Cond.code yX2_addStep cX2_addStep 2 none ∈ z_all := z_in (List.mem_append_right _ (List.mem_of_getElem? (i := 453) (by decide +kernel))) rfl
theorem wc_X2_isDigit : Cond.code yX2_isDigit cX2_isDigit 1 (some .boolean) ∈ z_all := z_in (List.mem_append_right _ (List.mem_of_getElem? (i := 445) (by decide +kernel))) rfl
theorem wc_X2_levelOf : Cond.code yX2_levelOf cX2_levelOf 1 (some .int) ∈ z_all := z_in (List.mem_append_right _ (List.mem_of_getElem? (i := 463) (by decide +kernel))) rfl
theorem wc_X2_nameOf : Cond.code yX2_nameOf cX2_nameOf 1 (some .int) ∈ z_all := z_in (List.mem_append_right _ (List.mem_of_getElem? (i := 456) (by decide +kernel))) rfl
theorem wc_X2_isTold : Cond.code yX2_isTold cX2_isTold 1 (some .boolean) ∈ z_all := z_in (List.mem_append_right _ (List.mem_of_getElem? (i := 480) (by decide +kernel))) rfl
theorem wc_X2_worth : Cond.code yX2_worth cX2_worth 11 (some .int) ∈ z_all := z_in (List.mem_append_right _ (List.mem_of_getElem? (i := 484) (by decide +kernel))) rfl
theorem wc_X2_joined : Cond.code yX2_joined cX2_joined 3 (some .int) ∈ z_all := z_in (List.mem_append_right _ (List.mem_of_getElem? (i := 487) (by decide +kernel))) rfl
theorem wc_X3_init : Cond.code yX3_init cX3_init 1 none ∈ z_all := z_in (List.mem_append_right _ (List.mem_of_getElem? (i := 240) (by decide +kernel))) rfl
theorem wc_X3_keepBody : Cond.code yX3_keepBody cX3_keepBody 2 (some .int) ∈ z_all := z_in (List.mem_append_right _ (List.mem_of_getElem? (i := 784) (by decide +kernel))) rfl
theorem wc_X3_kindOf : Cond.code yX3_kindOf cX3_kindOf 2 (some .int) ∈ z_all := z_in (List.mem_append_right _ (List.mem_of_getElem? (i := 796) (by decide +kernel))) rfl
theorem wc_X3_isUnder : Cond.code yX3_isUnder cX3_isUnder 5 (some .boolean) ∈ z_all := z_in (List.mem_append_right _ (List.mem_of_getElem? (i := 891) (by decide +kernel))) rfl
theorem wc_X3_traceAt : Cond.code yX3_traceAt cX3_traceAt 2 (some .int) ∈ z_all := z_in (List.mem_append_right _ (List.mem_of_getElem? (i := 823) (by decide +kernel))) rfl
theorem wc_X3_actOf : Cond.code yX3_actOf cX3_actOf 4 (some .int) ∈ z_all := z_in (List.mem_append_right _ (List.mem_of_getElem? (i := 792) (by decide +kernel))) rfl
theorem wc_X3_bodyFrom : Cond.code yX3_bodyFrom cX3_bodyFrom 5 (some .int) ∈ z_all := z_in (List.mem_append_right _ (List.mem_of_getElem? (i := 803) (by decide +kernel))) rfl
theorem wc_X3_noteBody : Cond.code yX3_noteBody cX3_noteBody 2 none ∈ z_all := z_in (List.mem_append_right _ (List.mem_of_getElem? (i := 811) (by decide +kernel))) rfl
theorem wc_X3_run : Cond.code yX3_run cX3_run 6 (some .int) ∈ z_all := z_in (List.mem_append_right _ (List.mem_of_getElem? (i := 800) (by decide +kernel))) rfl
theorem wc_X3_answerOf : Cond.code yX3_answerOf cX3_answerOf 4 (some .int) ∈ z_all := z_in (List.mem_append_right _ (List.mem_of_getElem? (i := 815) (by decide +kernel))) rfl
theorem wc_X4_init : Cond.code yX4_init cX4_init 3 none ∈ z_all := z_in (List.mem_append_right _ (List.mem_of_getElem? (i := 175) (by decide +kernel))) rfl
theorem wc_X4_foundAt : Cond.code yX4_foundAt cX4_foundAt 2 (some .int) ∈ z_all := z_in (List.mem_append_right _ (List.mem_of_getElem? (i := 583) (by decide +kernel))) rfl
theorem wc_X4_shortestSaying : Cond.code yX4_shortestSaying cX4_shortestSaying 8 (some .int) ∈ z_all := z_in (List.mem_append_right _ (List.mem_of_getElem? (i := 564) (by decide +kernel))) rfl
theorem wc_X4_neededFrom : Cond.code yX4_neededFrom cX4_neededFrom 8 (some .int) ∈ z_all := z_in (List.mem_append_right _ (List.mem_of_getElem? (i := 569) (by decide +kernel))) rfl
theorem wc_X4_firstStep : Cond.code yX4_firstStep cX4_firstStep 7 (some .int) ∈ z_all := z_in (List.mem_append_right _ (List.mem_of_getElem? (i := 579) (by decide +kernel))) rfl
theorem wc_X4_neededWith : Cond.code yX4_neededWith cX4_neededWith 7 (some .int) ∈ z_all := z_in (List.mem_append_right _ (List.mem_of_getElem? (i := 573) (by decide +kernel))) rfl
theorem wc_X4_greatestHarmlessSet : Cond.code yX4_greatestHarmlessSet cX4_greatestHarmlessSet 6 (some .int) ∈ z_all := z_in (List.mem_append_right _ (List.mem_of_getElem? (i := 607) (by decide +kernel))) rfl
theorem wc_X4_mergings : Cond.code yX4_mergings cX4_mergings 10 (some .long) ∈ z_all := z_in (List.mem_append_right _ (List.mem_of_getElem? (i := 627) (by decide +kernel))) rfl
theorem wc_X4_firstMerging : Cond.code yX4_firstMerging cX4_firstMerging 11 none ∈ z_all := z_in (List.mem_append_right _ (List.mem_of_getElem? (i := 635) (by decide +kernel))) rfl
theorem wc_X4_sayingsWithLeft : Cond.code yX4_sayingsWithLeft cX4_sayingsWithLeft 9 (some .long) ∈ z_all := z_in (List.mem_append_right _ (List.mem_of_getElem? (i := 643) (by decide +kernel))) rfl
theorem wc_X4_wordsLeftAt : Cond.code yX4_wordsLeftAt cX4_wordsLeftAt 6 (some .int) ∈ z_all := z_in (List.mem_append_right _ (List.mem_of_getElem? (i := 647) (by decide +kernel))) rfl
theorem wc_X4_unheardBehind : Cond.code yX4_unheardBehind cX4_unheardBehind 9 (some .int) ∈ z_all := z_in (List.mem_append_right _ (List.mem_of_getElem? (i := 663) (by decide +kernel))) rfl
theorem wc_X4_winningWord : Cond.code yX4_winningWord cX4_winningWord 5 (some .int) ∈ z_all := z_in (List.mem_append_right _ (List.mem_of_getElem? (i := 702) (by decide +kernel))) rfl
theorem wc_X4_winningFrom : Cond.code yX4_winningFrom cX4_winningFrom 6 (some .int) ∈ z_all := z_in (List.mem_append_right _ (List.mem_of_getElem? (i := 706) (by decide +kernel))) rfl
theorem wc_X4_drawnEvenings : Cond.code yX4_drawnEvenings cX4_drawnEvenings 13 (some .int) ∈ z_all := z_in (List.mem_append_right _ (List.mem_of_getElem? (i := 714) (by decide +kernel))) rfl
theorem wc_X5_init : Cond.code yX5_init cX5_init 2 none ∈ z_all := z_in (List.mem_append_right _ (List.mem_of_getElem? (i := 118) (by decide +kernel))) rfl
theorem wc_X5_heldOn : Cond.code yX5_heldOn cX5_heldOn 2 (some .int) ∈ z_all := z_in (List.mem_append_right _ (List.mem_of_getElem? (i := 338) (by decide +kernel))) rfl
theorem wc_X5_isEmpty : Cond.code yX5_isEmpty cX5_isEmpty 2 (some .boolean) ∈ z_all := z_in (List.mem_append_right _ (List.mem_of_getElem? (i := 334) (by decide +kernel))) rfl
theorem wc_X5_isRow : Cond.code yX5_isRow cX5_isRow 2 (some .boolean) ∈ z_all := z_in (List.mem_append_right _ (List.mem_of_getElem? (i := 852) (by decide +kernel))) rfl
theorem wc_X5_isAlike : Cond.code yX5_isAlike cX5_isAlike 3 (some .boolean) ∈ z_all := z_in (List.mem_append_right _ (List.mem_of_getElem? (i := 871) (by decide +kernel))) rfl
theorem wc_X5_bytesRefusal : Cond.code yX5_bytesRefusal cX5_bytesRefusal 2 (some .int) ∈ z_all := z_in (List.mem_append_right _ (List.mem_of_getElem? (i := 330) (by decide +kernel))) rfl
theorem wc_X5_lengthOf : Cond.code yX5_lengthOf cX5_lengthOf 2 (some .int) ∈ z_all := z_in (List.mem_append_right _ (List.mem_of_getElem? (i := 343) (by decide +kernel))) rfl
theorem wc_X5_bodyOn : Cond.code yX5_bodyOn cX5_bodyOn 2 (some .int) ∈ z_all := z_in (List.mem_append_right _ (List.mem_of_getElem? (i := 886) (by decide +kernel))) rfl
theorem wc_X5_hasRange : Cond.code yX5_hasRange cX5_hasRange 4 (some .boolean) ∈ z_all := z_in (List.mem_append_right _ (List.mem_of_getElem? (i := 355) (by decide +kernel))) rfl
theorem wc_X5_hold : Cond.code yX5_hold cX5_hold 3 none ∈ z_all := z_in (List.mem_append_right _ (List.mem_of_getElem? (i := 831) (by decide +kernel))) rfl
theorem wc_X5_newRow : Cond.code yX5_newRow cX5_newRow 5 none ∈ z_all := z_in (List.mem_append_right _ (List.mem_of_getElem? (i := 839) (by decide +kernel))) rfl
theorem wc_X5_valueAt : Cond.code yX5_valueAt cX5_valueAt 3 (some .long) ∈ z_all := z_in (List.mem_append_right _ (List.mem_of_getElem? (i := 351) (by decide +kernel))) rfl
theorem wc_X5_setAt : Cond.code yX5_setAt cX5_setAt 5 none ∈ z_all := z_in (List.mem_append_right _ (List.mem_of_getElem? (i := 856) (by decide +kernel))) rfl
theorem wc_X5_lowestBits : Cond.code yX5_lowestBits cX5_lowestBits 3 (some .long) ∈ z_all := z_in (List.mem_append_right _ (List.mem_of_getElem? (i := 859) (by decide +kernel))) rfl
theorem wc_X5_copyRange : Cond.code yX5_copyRange cX5_copyRange 6 none ∈ z_all := z_in (List.mem_append_right _ (List.mem_of_getElem? (i := 876) (by decide +kernel))) rfl
theorem wc_X6_init : Cond.code yX6_init cX6_init 3 none ∈ z_all := z_in (List.mem_append_right _ (List.mem_of_getElem? (i := 140) (by decide +kernel))) rfl
theorem wc_X6_passes : Cond.code yX6_passes cX6_passes 7 (some .boolean) ∈ z_all := z_in (List.mem_append_right _ (List.mem_of_getElem? (i := 475) (by decide +kernel))) rfl
theorem wc_X6_strain : Cond.code yX6_strain cX6_strain 7 none ∈ z_all := z_in (List.mem_append_right _ (List.mem_of_getElem? (i := 510) (by decide +kernel))) rfl
theorem wc_X6_copyCame : Cond.code yX6_copyCame cX6_copyCame 4 (some .int) ∈ z_all := z_in (List.mem_append_right _ (List.mem_of_getElem? (i := 556) (by decide +kernel))) rfl
theorem wc_X6_cameJust : Cond.code yX6_cameJust cX6_cameJust 4 (some .boolean) ∈ z_all := z_in (List.mem_append_right _ (List.mem_of_getElem? (i := 655) (by decide +kernel))) rfl
theorem wc_X6_makesSense : Cond.code yX6_makesSense cX6_makesSense 4 (some .boolean) ∈ z_all := z_in (List.mem_append_right _ (List.mem_of_getElem? (i := 515) (by decide +kernel))) rfl
theorem wc_X6_fitsAt : Cond.code yX6_fitsAt cX6_fitsAt 3 (some .boolean) ∈ z_all := z_in (List.mem_append_right _ (List.mem_of_getElem? (i := 519) (by decide +kernel))) rfl
theorem wc_X6_sumOf : Cond.code yX6_sumOf cX6_sumOf 6 (some .int) ∈ z_all := z_in (List.mem_append_right _ (List.mem_of_getElem? (i := 540) (by decide +kernel))) rfl
theorem wc_X6_hurtBy : Cond.code yX6_hurtBy cX6_hurtBy 4 (some .int) ∈ z_all := z_in (List.mem_append_right _ (List.mem_of_getElem? (i := 524) (by decide +kernel))) rfl
theorem wc_X6_hurtBySet : Cond.code yX6_hurtBySet cX6_hurtBySet 3 (some .int) ∈ z_all := z_in (List.mem_append_right _ (List.mem_of_getElem? (i := 617) (by decide +kernel))) rfl
theorem wc_X6_clearNet : Cond.code yX6_clearNet cX6_clearNet 2 none ∈ z_all := z_in (List.mem_append_right _ (List.mem_of_getElem? (i := 528) (by decide +kernel))) rfl
theorem wc_X6_addToNet : Cond.code yX6_addToNet cX6_addToNet 3 none ∈ z_all := z_in (List.mem_append_right _ (List.mem_of_getElem? (i := 532) (by decide +kernel))) rfl
theorem wc_X6_hurtByNet : Cond.code yX6_hurtByNet cX6_hurtByNet 3 (some .int) ∈ z_all := z_in (List.mem_append_right _ (List.mem_of_getElem? (i := 536) (by decide +kernel))) rfl
theorem wc_X6_keepsJust : Cond.code yX6_keepsJust cX6_keepsJust 5 (some .boolean) ∈ z_all := z_in (List.mem_append_right _ (List.mem_of_getElem? (i := 595) (by decide +kernel))) rfl
theorem wc_X6_harmLeftOf : Cond.code yX6_harmLeftOf cX6_harmLeftOf 4 (some .int) ∈ z_all := z_in (List.mem_append_right _ (List.mem_of_getElem? (i := 678) (by decide +kernel))) rfl
theorem wc_X6_mostHarmLeftOf : Cond.code yX6_mostHarmLeftOf cX6_mostHarmLeftOf 5 (some .int) ∈ z_all := z_in (List.mem_append_right _ (List.mem_of_getElem? (i := 674) (by decide +kernel))) rfl
theorem wc_X6_spite : Cond.code yX6_spite cX6_spite 3 (some .int) ∈ z_all := z_in (List.mem_append_right _ (List.mem_of_getElem? (i := 682) (by decide +kernel))) rfl
theorem wc_X6_somethingCameOf : Cond.code yX6_somethingCameOf cX6_somethingCameOf 3 (some .boolean) ∈ z_all := z_in (List.mem_append_right _ (List.mem_of_getElem? (i := 686) (by decide +kernel))) rfl
theorem wc_X7_init : Cond.code yX7_init cX7_init 1 none ∈ z_all := z_in (List.mem_append_right _ (List.mem_of_getElem? (i := 26) (by decide +kernel))) rfl
theorem wc_X7_newWord : Cond.code yX7_newWord cX7_newWord 5 (some .int) ∈ z_all := z_in (List.mem_append_right _ (List.mem_of_getElem? (i := 307) (by decide +kernel))) rfl
theorem wc_X7_newMesh : Cond.code yX7_newMesh cX7_newMesh 3 (some .int) ∈ z_all := z_in (List.mem_append_right _ (List.mem_of_getElem? (i := 364) (by decide +kernel))) rfl
theorem wc_X7_newPerson : Cond.code yX7_newPerson cX7_newPerson 3 (some .int) ∈ z_all := z_in (List.mem_append_right _ (List.mem_of_getElem? (i := 372) (by decide +kernel))) rfl
theorem wc_X7_allows : Cond.code yX7_allows cX7_allows 3 (some .boolean) ∈ z_all := z_in (List.mem_append_right _ (List.mem_of_getElem? (i := 301) (by decide +kernel))) rfl
theorem wc_X7_has : Cond.code yX7_has cX7_has 3 (some .boolean) ∈ z_all := z_in (List.mem_append_right _ (List.mem_of_getElem? (i := 315) (by decide +kernel))) rfl
theorem wc_X7_bearersOf : Cond.code yX7_bearersOf cX7_bearersOf 2 (some .int) ∈ z_all := z_in (List.mem_append_right _ (List.mem_of_getElem? (i := 319) (by decide +kernel))) rfl
theorem wc_X7_get : Cond.code yX7_get cX7_get 3 (some .int) ∈ z_all := z_in (List.mem_append_right _ (List.mem_of_getElem? (i := 381) (by decide +kernel))) rfl
theorem wc_X7_set : Cond.code yX7_set cX7_set 4 none ∈ z_all := z_in (List.mem_append_right _ (List.mem_of_getElem? (i := 311) (by decide +kernel))) rfl
theorem wc_X8_init : Cond.code yX8_init cX8_init 1 none ∈ z_all := z_in (List.mem_append_right _ (List.mem_of_getElem? (i := 18) (by decide +kernel))) rfl
theorem wc_X8_word : Cond.code yX8_word cX8_word 3 (some .int) ∈ z_all := z_in (List.mem_append_right _ (List.mem_of_getElem? (i := 297) (by decide +kernel))) rfl
theorem wc_X8_words : Cond.code yX8_words cX8_words 8 (some .int) ∈ z_all := z_in (List.mem_append_right _ (List.mem_of_getElem? (i := 323) (by decide +kernel))) rfl
theorem wc_X8_mesh : Cond.code yX8_mesh cX8_mesh 2 (some .int) ∈ z_all := z_in (List.mem_append_right _ (List.mem_of_getElem? (i := 360) (by decide +kernel))) rfl
theorem wc_X8_person : Cond.code yX8_person cX8_person 2 (some .int) ∈ z_all := z_in (List.mem_append_right _ (List.mem_of_getElem? (i := 368) (by decide +kernel))) rfl
theorem wc_X8_mend : Cond.code yX8_mend cX8_mend 5 (some .int) ∈ z_all := z_in (List.mem_append_right _ (List.mem_of_getElem? (i := 376) (by decide +kernel))) rfl
theorem wc_X8_of : Cond.code yX8_of cX8_of 3 (some .int) ∈ z_all := z_in (List.mem_append_right _ (List.mem_of_getElem? (i := 394) (by decide +kernel))) rfl
theorem wc_X8_feed : Cond.code yX8_feed cX8_feed 2 (some .int) ∈ z_all := z_in (List.mem_append_right _ (List.mem_of_getElem? (i := 410) (by decide +kernel))) rfl
theorem wc_X8_law : Cond.code yX8_law cX8_law 1 (some .int) ∈ z_all := z_in (List.mem_append_right _ (List.mem_of_getElem? (i := 418) (by decide +kernel))) rfl
theorem wc_X8_lets : Cond.code yX8_lets cX8_lets 5 (some .int) ∈ z_all := z_in (List.mem_append_right _ (List.mem_of_getElem? (i := 467) (by decide +kernel))) rfl
theorem wc_X8_through : Cond.code yX8_through cX8_through 5 (some .int) ∈ z_all := z_in (List.mem_append_right _ (List.mem_of_getElem? (i := 491) (by decide +kernel))) rfl
theorem wc_X8_nth : Cond.code yX8_nth cX8_nth 7 (some .int) ∈ z_all := z_in (List.mem_append_right _ (List.mem_of_getElem? (i := 544) (by decide +kernel))) rfl
theorem wc_X8_several : Cond.code yX8_several cX8_several 11 (some .int) ∈ z_all := z_in (List.mem_append_right _ (List.mem_of_getElem? (i := 548) (by decide +kernel))) rfl
theorem wc_X8_say : Cond.code yX8_say cX8_say 6 (some .int) ∈ z_all := z_in (List.mem_append_right _ (List.mem_of_getElem? (i := 560) (by decide +kernel))) rfl
theorem wc_X8_finest : Cond.code yX8_finest cX8_finest 4 (some .int) ∈ z_all := z_in (List.mem_append_right _ (List.mem_of_getElem? (i := 587) (by decide +kernel))) rfl
theorem wc_X8_keeps : Cond.code yX8_keeps cX8_keeps 4 (some .int) ∈ z_all := z_in (List.mem_append_right _ (List.mem_of_getElem? (i := 591) (by decide +kernel))) rfl
theorem wc_X8_leastLost : Cond.code yX8_leastLost cX8_leastLost 7 (some .int) ∈ z_all := z_in (List.mem_append_right _ (List.mem_of_getElem? (i := 599) (by decide +kernel))) rfl
theorem wc_X8_most : Cond.code yX8_most cX8_most 3 (some .int) ∈ z_all := z_in (List.mem_append_right _ (List.mem_of_getElem? (i := 603) (by decide +kernel))) rfl
theorem wc_X8_said : Cond.code yX8_said cX8_said 6 (some .long) ∈ z_all := z_in (List.mem_append_right _ (List.mem_of_getElem? (i := 622) (by decide +kernel))) rfl
theorem wc_X8_saidAt : Cond.code yX8_saidAt cX8_saidAt 9 (some .int) ∈ z_all := z_in (List.mem_append_right _ (List.mem_of_getElem? (i := 631) (by decide +kernel))) rfl
theorem wc_X8_alone : Cond.code yX8_alone cX8_alone 5 (some .long) ∈ z_all := z_in (List.mem_append_right _ (List.mem_of_getElem? (i := 639) (by decide +kernel))) rfl
theorem wc_X8_howFine : Cond.code yX8_howFine cX8_howFine 9 (some .int) ∈ z_all := z_in (List.mem_append_right _ (List.mem_of_getElem? (i := 651) (by decide +kernel))) rfl
theorem wc_X8_between : Cond.code yX8_between cX8_between 5 (some .int) ∈ z_all := z_in (List.mem_append_right _ (List.mem_of_getElem? (i := 659) (by decide +kernel))) rfl
theorem wc_X8_meant : Cond.code yX8_meant cX8_meant 5 (some .int) ∈ z_all := z_in (List.mem_append_right _ (List.mem_of_getElem? (i := 670) (by decide +kernel))) rfl
theorem wc_X8_likely : Cond.code yX8_likely cX8_likely 9 (some .long) ∈ z_all := z_in (List.mem_append_right _ (List.mem_of_getElem? (i := 690) (by decide +kernel))) rfl
theorem wc_X8_game : Cond.code yX8_game cX8_game 4 (some .int) ∈ z_all := z_in (List.mem_append_right _ (List.mem_of_getElem? (i := 698) (by decide +kernel))) rfl
theorem wc_X8_drawn : Cond.code yX8_drawn cX8_drawn 7 (some .int) ∈ z_all := z_in (List.mem_append_right _ (List.mem_of_getElem? (i := 710) (by decide +kernel))) rfl
theorem wc_X8_speak : Cond.code yX8_speak cX8_speak 6 (some .int) ∈ z_all := z_in (List.mem_append_right _ (List.mem_of_getElem? (i := 720) (by decide +kernel))) rfl
theorem wc_X8_rinse : Cond.code yX8_rinse cX8_rinse 2 (some .int) ∈ z_all := z_in (List.mem_append_right _ (List.mem_of_getElem? (i := 728) (by decide +kernel))) rfl
theorem wc_X8_led : Cond.code yX8_led cX8_led 2 (some .int) ∈ z_all := z_in (List.mem_append_right _ (List.mem_of_getElem? (i := 736) (by decide +kernel))) rfl
theorem wc_X8_image : Cond.code yX8_image cX8_image 1 (some .int) ∈ z_all := z_in (List.mem_append_right _ (List.mem_of_getElem? (i := 744) (by decide +kernel))) rfl
theorem wc_X8_back : Cond.code yX8_back cX8_back 1 (some .int) ∈ z_all := z_in (List.mem_append_right _ (List.mem_of_getElem? (i := 755) (by decide +kernel))) rfl
theorem wc_X8_undo : Cond.code yX8_undo cX8_undo 1 (some .int) ∈ z_all := z_in (List.mem_append_right _ (List.mem_of_getElem? (i := 763) (by decide +kernel))) rfl
theorem wc_X8_redo : Cond.code yX8_redo cX8_redo 1 (some .int) ∈ z_all := z_in (List.mem_append_right _ (List.mem_of_getElem? (i := 772) (by decide +kernel))) rfl
theorem wc_X8_body : Cond.code yX8_body cX8_body 2 (some .int) ∈ z_all := z_in (List.mem_append_right _ (List.mem_of_getElem? (i := 780) (by decide +kernel))) rfl
theorem wc_X8_act : Cond.code yX8_act cX8_act 4 (some .int) ∈ z_all := z_in (List.mem_append_right _ (List.mem_of_getElem? (i := 788) (by decide +kernel))) rfl
theorem wc_X8_trace : Cond.code yX8_trace cX8_trace 2 (some .int) ∈ z_all := z_in (List.mem_append_right _ (List.mem_of_getElem? (i := 819) (by decide +kernel))) rfl
theorem wc_X8_keep : Cond.code yX8_keep cX8_keep 3 (some .int) ∈ z_all := z_in (List.mem_append_right _ (List.mem_of_getElem? (i := 827) (by decide +kernel))) rfl
theorem wc_X8_row : Cond.code yX8_row cX8_row 4 (some .int) ∈ z_all := z_in (List.mem_append_right _ (List.mem_of_getElem? (i := 835) (by decide +kernel))) rfl
theorem wc_X8_put : Cond.code yX8_put cX8_put 6 (some .int) ∈ z_all := z_in (List.mem_append_right _ (List.mem_of_getElem? (i := 843) (by decide +kernel))) rfl
theorem wc_X8_element : Cond.code yX8_element cX8_element 3 (some .long) ∈ z_all := z_in (List.mem_append_right _ (List.mem_of_getElem? (i := 863) (by decide +kernel))) rfl
theorem wc_X8_shift : Cond.code yX8_shift cX8_shift 6 (some .int) ∈ z_all := z_in (List.mem_append_right _ (List.mem_of_getElem? (i := 867) (by decide +kernel))) rfl
theorem wc_X8_taken : Cond.code yX8_taken cX8_taken 4 (some .int) ∈ z_all := z_in (List.mem_append_right _ (List.mem_of_getElem? (i := 882) (by decide +kernel))) rfl
theorem wc_X8_count : Cond.code yX8_count cX8_count 2 (some .int) ∈ z_all := z_in (List.mem_append_right _ (List.mem_of_getElem? (i := 895) (by decide +kernel))) rfl
theorem wc_X8_isShelf : Cond.code yX8_isShelf cX8_isShelf 1 (some .boolean) ∈ z_all := z_in (List.mem_append_right _ (List.mem_of_getElem? (i := 326) (by decide +kernel))) rfl
theorem wc_X8_isMesh : Cond.code yX8_isMesh cX8_isMesh 2 (some .boolean) ∈ z_all := z_in (List.mem_append_right _ (List.mem_of_getElem? (i := 398) (by decide +kernel))) rfl
theorem wc_X8_isMeshOrNone : Cond.code yX8_isMeshOrNone cX8_isMeshOrNone 2 (some .boolean) ∈ z_all := z_in (List.mem_append_right _ (List.mem_of_getElem? (i := 499) (by decide +kernel))) rfl
theorem wc_X8_fineOf : Cond.code yX8_fineOf cX8_fineOf 2 (some .int) ∈ z_all := z_in (List.mem_append_right _ (List.mem_of_getElem? (i := 471) (by decide +kernel))) rfl
theorem wc_X8_hear : Cond.code yX8_hear cX8_hear 4 (some .int) ∈ z_all := z_in (List.mem_append_right _ (List.mem_of_getElem? (i := 495) (by decide +kernel))) rfl
theorem wc_X8_readSaying : Cond.code yX8_readSaying cX8_readSaying 7 (some .int) ∈ z_all := z_in (List.mem_append_right _ (List.mem_of_getElem? (i := 503) (by decide +kernel))) rfl
theorem wc_X8_pairRefusal : Cond.code yX8_pairRefusal cX8_pairRefusal 4 (some .int) ∈ z_all := z_in (List.mem_append_right _ (List.mem_of_getElem? (i := 552) (by decide +kernel))) rfl
theorem wc_X8_elementRefusal : Cond.code yX8_elementRefusal cX8_elementRefusal 3 (some .int) ∈ z_all := z_in (List.mem_append_right _ (List.mem_of_getElem? (i := 847) (by decide +kernel))) rfl
theorem wc_X8_wordFromThree : Cond.code yX8_wordFromThree cX8_wordFromThree 6 (some .boolean) ∈ z_all := z_in (List.mem_append_right _ (List.mem_of_getElem? (i := 347) (by decide +kernel))) rfl
theorem wc_X8_greatestCommon : Cond.code yX8_greatestCommon cX8_greatestCommon 6 (some .int) ∈ z_all := z_in (List.mem_append_right _ (List.mem_of_getElem? (i := 694) (by decide +kernel))) rfl
theorem wc_X9_init : Cond.code yX9_init cX9_init 1 none ∈ z_all := z_in (List.mem_append_right _ (List.mem_of_getElem? (i := 900) (by decide +kernel))) rfl
theorem wc_X9_in : Cond.code yX9_in cX9_in 3 (some .boolean) ∈ z_all := z_in (List.mem_append_right _ (List.mem_of_getElem? (i := 1096) (by decide +kernel))) rfl
theorem wc_X9_bitsOf : Cond.code yX9_bitsOf cX9_bitsOf 3 (some .int) ∈ z_all := z_in (List.mem_append_right _ (List.mem_of_getElem? (i := 1343) (by decide +kernel))) rfl
theorem wc_X9_isWord : Cond.code yX9_isWord cX9_isWord 2 (some .boolean) ∈ z_all := z_in (List.mem_append_right _ (List.mem_of_getElem? (i := 1140) (by decide +kernel))) rfl
theorem wc_X9_isMesh : Cond.code yX9_isMesh cX9_isMesh 2 (some .boolean) ∈ z_all := z_in (List.mem_append_right _ (List.mem_of_getElem? (i := 1144) (by decide +kernel))) rfl
theorem wc_X9_isMeshOrNone : Cond.code yX9_isMeshOrNone cX9_isMeshOrNone 2 (some .boolean) ∈ z_all := z_in (List.mem_append_right _ (List.mem_of_getElem? (i := 1253) (by decide +kernel))) rfl
theorem wc_X9_addWord : Cond.code yX9_addWord cX9_addWord 4 (some .int) ∈ z_all := z_in (List.mem_append_right _ (List.mem_of_getElem? (i := 1100) (by decide +kernel))) rfl
theorem wc_X9_word : Cond.code yX9_word cX9_word 3 (some .int) ∈ z_all := z_in (List.mem_append_right _ (List.mem_of_getElem? (i := 1093) (by decide +kernel))) rfl
theorem wc_X9_words : Cond.code yX9_words cX9_words 8 (some .int) ∈ z_all := z_in (List.mem_append_right _ (List.mem_of_getElem? (i := 1104) (by decide +kernel))) rfl
theorem wc_X9_mesh : Cond.code yX9_mesh cX9_mesh 2 (some .int) ∈ z_all := z_in (List.mem_append_right _ (List.mem_of_getElem? (i := 1112) (by decide +kernel))) rfl
theorem wc_X9_person : Cond.code yX9_person cX9_person 2 (some .int) ∈ z_all := z_in (List.mem_append_right _ (List.mem_of_getElem? (i := 1116) (by decide +kernel))) rfl
theorem wc_X9_valueAt : Cond.code yX9_valueAt cX9_valueAt 3 (some .int) ∈ z_all := z_in (List.mem_append_right _ (List.mem_of_getElem? (i := 1155) (by decide +kernel))) rfl
theorem wc_X9_lays : Cond.code yX9_lays cX9_lays 4 none ∈ z_all := z_in (List.mem_append_right _ (List.mem_of_getElem? (i := 1124) (by decide +kernel))) rfl
theorem wc_X9_changes : Cond.code yX9_changes cX9_changes 6 (some .int) ∈ z_all := z_in (List.mem_append_right _ (List.mem_of_getElem? (i := 1151) (by decide +kernel))) rfl
theorem wc_X9_undo : Cond.code yX9_undo cX9_undo 1 (some .int) ∈ z_all := z_in (List.mem_append_right _ (List.mem_of_getElem? (i := 1120) (by decide +kernel))) rfl
theorem wc_X9_redo : Cond.code yX9_redo cX9_redo 1 (some .int) ∈ z_all := z_in (List.mem_append_right _ (List.mem_of_getElem? (i := 1128) (by decide +kernel))) rfl
theorem wc_X9_isOne : Cond.code yX9_isOne cX9_isOne 3 (some .boolean) ∈ z_all := z_in (List.mem_append_right _ (List.mem_of_getElem? (i := 1136) (by decide +kernel))) rfl
theorem wc_X9_mayHave : Cond.code yX9_mayHave cX9_mayHave 2 (some .boolean) ∈ z_all := z_in (List.mem_append_right _ (List.mem_of_getElem? (i := 1147) (by decide +kernel))) rfl
theorem wc_X9_mend : Cond.code yX9_mend cX9_mend 4 (some .int) ∈ z_all := z_in (List.mem_append_right _ (List.mem_of_getElem? (i := 1132) (by decide +kernel))) rfl
theorem wc_X9_of : Cond.code yX9_of cX9_of 3 (some .int) ∈ z_all := z_in (List.mem_append_right _ (List.mem_of_getElem? (i := 1159) (by decide +kernel))) rfl
theorem wc_X9_feed : Cond.code yX9_feed cX9_feed 2 (some .int) ∈ z_all := z_in (List.mem_append_right _ (List.mem_of_getElem? (i := 1163) (by decide +kernel))) rfl
theorem wc_X9_look : Cond.code yX9_look cX9_look 1 (some .int) ∈ z_all := z_in (List.mem_append_right _ (List.mem_of_getElem? (i := 1203) (by decide +kernel))) rfl
theorem wc_X9_wrong : Cond.code yX9_wrong cX9_wrong 1 none ∈ z_all := z_in (List.mem_append_right _ (List.mem_of_getElem? (i := 1218) (by decide +kernel))) rfl
theorem wc_X9_addStep : Cond.code yX9_addStep cX9_addStep 3 none ∈ z_all := z_in (List.mem_append_right _ (List.mem_of_getElem? (i := 1210) (by decide +kernel))) rfl
theorem wc_X9_nameOf : Cond.code yX9_nameOf cX9_nameOf 1 (some .int) ∈ z_all := z_in (List.mem_append_right _ (List.mem_of_getElem? (i := 1206) (by decide +kernel))) rfl
theorem wc_X9_opens : Cond.code yX9_opens cX9_opens 1 (some .boolean) ∈ z_all := z_in (List.mem_append_right _ (List.mem_of_getElem? (i := 1214) (by decide +kernel))) rfl
theorem wc_X9_figure : Cond.code yX9_figure cX9_figure 3 none ∈ z_all := z_in (List.mem_append_right _ (List.mem_of_getElem? (i := 1222) (by decide +kernel))) rfl
theorem wc_X9_operand : Cond.code yX9_operand cX9_operand 2 none ∈ z_all := z_in (List.mem_append_right _ (List.mem_of_getElem? (i := 1199) (by decide +kernel))) rfl
theorem wc_X9_product : Cond.code yX9_product cX9_product 2 none ∈ z_all := z_in (List.mem_append_right _ (List.mem_of_getElem? (i := 1195) (by decide +kernel))) rfl
theorem wc_X9_sum : Cond.code yX9_sum cX9_sum 2 none ∈ z_all := z_in (List.mem_append_right _ (List.mem_of_getElem? (i := 1191) (by decide +kernel))) rfl
theorem wc_X9_compared : Cond.code yX9_compared cX9_compared 2 none ∈ z_all := z_in (List.mem_append_right _ (List.mem_of_getElem? (i := 1187) (by decide +kernel))) rfl
theorem wc_X9_both : Cond.code yX9_both cX9_both 1 none ∈ z_all := z_in (List.mem_append_right _ (List.mem_of_getElem? (i := 1183) (by decide +kernel))) rfl
theorem wc_X9_either : Cond.code yX9_either cX9_either 1 none ∈ z_all := z_in (List.mem_append_right _ (List.mem_of_getElem? (i := 1179) (by decide +kernel))) rfl
theorem wc_X9_line : Cond.code yX9_line cX9_line 2 none ∈ z_all := z_in (List.mem_append_right _ (List.mem_of_getElem? (i := 1175) (by decide +kernel))) rfl
theorem wc_X9_readText : Cond.code yX9_readText cX9_readText 3 (some .int) ∈ z_all := z_in (List.mem_append_right _ (List.mem_of_getElem? (i := 1171) (by decide +kernel))) rfl
theorem wc_X9_twoOf : Cond.code yX9_twoOf cX9_twoOf 3 (some .int) ∈ z_all := z_in (List.mem_append_right _ (List.mem_of_getElem? (i := 1245) (by decide +kernel))) rfl
theorem wc_X9_worked : Cond.code yX9_worked cX9_worked 7 (some .int) ∈ z_all := z_in (List.mem_append_right _ (List.mem_of_getElem? (i := 1242) (by decide +kernel))) rfl
theorem wc_X9_gives : Cond.code yX9_gives cX9_gives 4 (some .int) ∈ z_all := z_in (List.mem_append_right _ (List.mem_of_getElem? (i := 1238) (by decide +kernel))) rfl
theorem wc_X9_law : Cond.code yX9_law cX9_law 2 (some .int) ∈ z_all := z_in (List.mem_append_right _ (List.mem_of_getElem? (i := 1167) (by decide +kernel))) rfl
theorem wc_X9_passesBy : Cond.code yX9_passesBy cX9_passesBy 5 (some .boolean) ∈ z_all := z_in (List.mem_append_right _ (List.mem_of_getElem? (i := 1234) (by decide +kernel))) rfl
theorem wc_X9_passes : Cond.code yX9_passes cX9_passes 5 (some .boolean) ∈ z_all := z_in (List.mem_append_right _ (List.mem_of_getElem? (i := 1230) (by decide +kernel))) rfl
theorem wc_X9_lets : Cond.code yX9_lets cX9_lets 3 (some .int) ∈ z_all := z_in (List.mem_append_right _ (List.mem_of_getElem? (i := 1226) (by decide +kernel))) rfl
theorem wc_X9_rowFault : Cond.code yX9_rowFault cX9_rowFault 2 (some .int) ∈ z_all := z_in (List.mem_append_right _ (List.mem_of_getElem? (i := 1257) (by decide +kernel))) rfl
theorem wc_X9_at : Cond.code yX9_at cX9_at 3 (some .int) ∈ z_all := z_in (List.mem_append_right _ (List.mem_of_getElem? (i := 1265) (by decide +kernel))) rfl
theorem wc_X9_laySaying : Cond.code yX9_laySaying cX9_laySaying 2 none ∈ z_all := z_in (List.mem_append_right _ (List.mem_of_getElem? (i := 1261) (by decide +kernel))) rfl
theorem wc_X9_goThrough : Cond.code yX9_goThrough cX9_goThrough 5 none ∈ z_all := z_in (List.mem_append_right _ (List.mem_of_getElem? (i := 1269) (by decide +kernel))) rfl
theorem wc_X9_makesSense : Cond.code yX9_makesSense cX9_makesSense 2 (some .boolean) ∈ z_all := z_in (List.mem_append_right _ (List.mem_of_getElem? (i := 1273) (by decide +kernel))) rfl
theorem wc_X9_hurtBy : Cond.code yX9_hurtBy cX9_hurtBy 7 (some .int) ∈ z_all := z_in (List.mem_append_right _ (List.mem_of_getElem? (i := 1277) (by decide +kernel))) rfl
theorem wc_X9_harmLeft : Cond.code yX9_harmLeft cX9_harmLeft 3 (some .int) ∈ z_all := z_in (List.mem_append_right _ (List.mem_of_getElem? (i := 1281) (by decide +kernel))) rfl
theorem wc_X9_through : Cond.code yX9_through cX9_through 5 (some .int) ∈ z_all := z_in (List.mem_append_right _ (List.mem_of_getElem? (i := 1249) (by decide +kernel))) rfl
theorem wc_X9_nth : Cond.code yX9_nth cX9_nth 6 (some .int) ∈ z_all := z_in (List.mem_append_right _ (List.mem_of_getElem? (i := 1285) (by decide +kernel))) rfl
theorem wc_X9_areShelves : Cond.code yX9_areShelves cX9_areShelves 1 (some .boolean) ∈ z_all := z_in (List.mem_append_right _ (List.mem_of_getElem? (i := 1292) (by decide +kernel))) rfl
theorem wc_X9_bothFault : Cond.code yX9_bothFault cX9_bothFault 2 (some .int) ∈ z_all := z_in (List.mem_append_right _ (List.mem_of_getElem? (i := 1296) (by decide +kernel))) rfl
theorem wc_X9_several : Cond.code yX9_several cX9_several 8 (some .int) ∈ z_all := z_in (List.mem_append_right _ (List.mem_of_getElem? (i := 1289) (by decide +kernel))) rfl
theorem wc_X9_layRow : Cond.code yX9_layRow cX9_layRow 3 none ∈ z_all := z_in (List.mem_append_right _ (List.mem_of_getElem? (i := 1304) (by decide +kernel))) rfl
theorem wc_X9_maySay : Cond.code yX9_maySay cX9_maySay 6 (some .boolean) ∈ z_all := z_in (List.mem_append_right _ (List.mem_of_getElem? (i := 1312) (by decide +kernel))) rfl
theorem wc_X9_findSay : Cond.code yX9_findSay cX9_findSay 7 (some .boolean) ∈ z_all := z_in (List.mem_append_right _ (List.mem_of_getElem? (i := 1308) (by decide +kernel))) rfl
theorem wc_X9_saysAt : Cond.code yX9_saysAt cX9_saysAt 6 (some .int) ∈ z_all := z_in (List.mem_append_right _ (List.mem_of_getElem? (i := 1316) (by decide +kernel))) rfl
theorem wc_X9_say : Cond.code yX9_say cX9_say 6 (some .int) ∈ z_all := z_in (List.mem_append_right _ (List.mem_of_getElem? (i := 1300) (by decide +kernel))) rfl
theorem wc_X9_allPass : Cond.code yX9_allPass cX9_allPass 3 (some .boolean) ∈ z_all := z_in (List.mem_append_right _ (List.mem_of_getElem? (i := 1324) (by decide +kernel))) rfl
theorem wc_X9_finest : Cond.code yX9_finest cX9_finest 4 (some .int) ∈ z_all := z_in (List.mem_append_right _ (List.mem_of_getElem? (i := 1320) (by decide +kernel))) rfl
theorem wc_X9_keepsBy : Cond.code yX9_keepsBy cX9_keepsBy 4 (some .boolean) ∈ z_all := z_in (List.mem_append_right _ (List.mem_of_getElem? (i := 1332) (by decide +kernel))) rfl
theorem wc_X9_keeps : Cond.code yX9_keeps cX9_keeps 4 (some .int) ∈ z_all := z_in (List.mem_append_right _ (List.mem_of_getElem? (i := 1328) (by decide +kernel))) rfl
theorem wc_X9_leastLost : Cond.code yX9_leastLost cX9_leastLost 8 (some .int) ∈ z_all := z_in (List.mem_append_right _ (List.mem_of_getElem? (i := 1336) (by decide +kernel))) rfl
theorem wc_X9_laySet : Cond.code yX9_laySet cX9_laySet 3 none ∈ z_all := z_in (List.mem_append_right _ (List.mem_of_getElem? (i := 1347) (by decide +kernel))) rfl
theorem wc_X9_most : Cond.code yX9_most cX9_most 4 (some .int) ∈ z_all := z_in (List.mem_append_right _ (List.mem_of_getElem? (i := 1340) (by decide +kernel))) rfl
theorem wc_X9_wayAt : Cond.code yX9_wayAt cX9_wayAt 3 (some .long) ∈ z_all := z_in (List.mem_append_right _ (List.mem_of_getElem? (i := 1372) (by decide +kernel))) rfl
theorem wc_X9_comes : Cond.code yX9_comes cX9_comes 4 (some .boolean) ∈ z_all := z_in (List.mem_append_right _ (List.mem_of_getElem? (i := 1368) (by decide +kernel))) rfl
theorem wc_X9_stays : Cond.code yX9_stays cX9_stays 4 (some .boolean) ∈ z_all := z_in (List.mem_append_right _ (List.mem_of_getElem? (i := 1376) (by decide +kernel))) rfl
theorem wc_X9_layBoth : Cond.code yX9_layBoth cX9_layBoth 3 none ∈ z_all := z_in (List.mem_append_right _ (List.mem_of_getElem? (i := 1356) (by decide +kernel))) rfl
theorem wc_X9_findSaid : Cond.code yX9_findSaid cX9_findSaid 6 none ∈ z_all := z_in (List.mem_append_right _ (List.mem_of_getElem? (i := 1364) (by decide +kernel))) rfl
theorem wc_X9_isMuch : Cond.code yX9_isMuch cX9_isMuch 1 (some .boolean) ∈ z_all := z_in (List.mem_append_right _ (List.mem_of_getElem? (i := 1360) (by decide +kernel))) rfl
theorem wc_X9_said : Cond.code yX9_said cX9_said 3 (some .long) ∈ z_all := z_in (List.mem_append_right _ (List.mem_of_getElem? (i := 1351) (by decide +kernel))) rfl
theorem wc_X9_saidAt : Cond.code yX9_saidAt cX9_saidAt 11 (some .int) ∈ z_all := z_in (List.mem_append_right _ (List.mem_of_getElem? (i := 1380) (by decide +kernel))) rfl
theorem wc_X9_leftAt : Cond.code yX9_leftAt cX9_leftAt 6 (some .int) ∈ z_all := z_in (List.mem_append_right _ (List.mem_of_getElem? (i := 1388) (by decide +kernel))) rfl
theorem wc_X9_alone : Cond.code yX9_alone cX9_alone 8 (some .long) ∈ z_all := z_in (List.mem_append_right _ (List.mem_of_getElem? (i := 1384) (by decide +kernel))) rfl
theorem wc_X9_justComes : Cond.code yX9_justComes cX9_justComes 2 (some .boolean) ∈ z_all := z_in (List.mem_append_right _ (List.mem_of_getElem? (i := 1400) (by decide +kernel))) rfl
theorem wc_X9_goFine : Cond.code yX9_goFine cX9_goFine 3 none ∈ z_all := z_in (List.mem_append_right _ (List.mem_of_getElem? (i := 1396) (by decide +kernel))) rfl
theorem wc_X9_howFine : Cond.code yX9_howFine cX9_howFine 7 (some .int) ∈ z_all := z_in (List.mem_append_right _ (List.mem_of_getElem? (i := 1392) (by decide +kernel))) rfl
theorem wc_X9_changesNothing : Cond.code yX9_changesNothing cX9_changesNothing 6 (some .boolean) ∈ z_all := z_in (List.mem_append_right _ (List.mem_of_getElem? (i := 1408) (by decide +kernel))) rfl
theorem wc_X9_between : Cond.code yX9_between cX9_between 7 (some .int) ∈ z_all := z_in (List.mem_append_right _ (List.mem_of_getElem? (i := 1404) (by decide +kernel))) rfl
theorem wc_X9_harmOf : Cond.code yX9_harmOf cX9_harmOf 4 (some .int) ∈ z_all := z_in (List.mem_append_right _ (List.mem_of_getElem? (i := 1416) (by decide +kernel))) rfl
theorem wc_X9_comesOf : Cond.code yX9_comesOf cX9_comesOf 3 (some .boolean) ∈ z_all := z_in (List.mem_append_right _ (List.mem_of_getElem? (i := 1420) (by decide +kernel))) rfl
theorem wc_X9_meant : Cond.code yX9_meant cX9_meant 10 (some .int) ∈ z_all := z_in (List.mem_append_right _ (List.mem_of_getElem? (i := 1412) (by decide +kernel))) rfl
theorem wc_X9_lowest : Cond.code yX9_lowest cX9_lowest 11 (some .long) ∈ z_all := z_in (List.mem_append_right _ (List.mem_of_getElem? (i := 1427) (by decide +kernel))) rfl
theorem wc_X9_likely : Cond.code yX9_likely cX9_likely 6 (some .long) ∈ z_all := z_in (List.mem_append_right _ (List.mem_of_getElem? (i := 1424) (by decide +kernel))) rfl
theorem wc_X9_playedMany : Cond.code yX9_playedMany cX9_playedMany 1 (some .int) ∈ z_all := z_in (List.mem_append_right _ (List.mem_of_getElem? (i := 1435) (by decide +kernel))) rfl
theorem wc_X9_mayPlay : Cond.code yX9_mayPlay cX9_mayPlay 4 (some .boolean) ∈ z_all := z_in (List.mem_append_right _ (List.mem_of_getElem? (i := 1443) (by decide +kernel))) rfl
theorem wc_X9_winningWord : Cond.code yX9_winningWord cX9_winningWord 4 (some .int) ∈ z_all := z_in (List.mem_append_right _ (List.mem_of_getElem? (i := 1439) (by decide +kernel))) rfl
theorem wc_X9_game : Cond.code yX9_game cX9_game 4 (some .int) ∈ z_all := z_in (List.mem_append_right _ (List.mem_of_getElem? (i := 1431) (by decide +kernel))) rfl
theorem wc_X9_drawn : Cond.code yX9_drawn cX9_drawn 12 (some .int) ∈ z_all := z_in (List.mem_append_right _ (List.mem_of_getElem? (i := 1447) (by decide +kernel))) rfl
theorem wc_X9_speak : Cond.code yX9_speak cX9_speak 4 (some .int) ∈ z_all := z_in (List.mem_append_right _ (List.mem_of_getElem? (i := 1452) (by decide +kernel))) rfl
theorem wc_X9_rinse : Cond.code yX9_rinse cX9_rinse 3 (some .int) ∈ z_all := z_in (List.mem_append_right _ (List.mem_of_getElem? (i := 1456) (by decide +kernel))) rfl
theorem wc_X9_led : Cond.code yX9_led cX9_led 2 (some .int) ∈ z_all := z_in (List.mem_append_right _ (List.mem_of_getElem? (i := 1460) (by decide +kernel))) rfl
theorem wc_X9_image : Cond.code yX9_image cX9_image 2 (some .int) ∈ z_all := z_in (List.mem_append_right _ (List.mem_of_getElem? (i := 1464) (by decide +kernel))) rfl
theorem wc_X9_back : Cond.code yX9_back cX9_back 2 (some .int) ∈ z_all := z_in (List.mem_append_right _ (List.mem_of_getElem? (i := 1468) (by decide +kernel))) rfl
theorem wc_X9_isBody : Cond.code yX9_isBody cX9_isBody 2 (some .boolean) ∈ z_all := z_in (List.mem_append_right _ (List.mem_of_getElem? (i := 1484) (by decide +kernel))) rfl
theorem wc_X9_ran : Cond.code yX9_ran cX9_ran 2 none ∈ z_all := z_in (List.mem_append_right _ (List.mem_of_getElem? (i := 1495) (by decide +kernel))) rfl
theorem wc_X9_trace : Cond.code yX9_trace cX9_trace 2 (some .int) ∈ z_all := z_in (List.mem_append_right _ (List.mem_of_getElem? (i := 1472) (by decide +kernel))) rfl
theorem wc_X9_body : Cond.code yX9_body cX9_body 2 (some .int) ∈ z_all := z_in (List.mem_append_right _ (List.mem_of_getElem? (i := 1476) (by decide +kernel))) rfl
theorem wc_X9_isUnder : Cond.code yX9_isUnder cX9_isUnder 2 (some .boolean) ∈ z_all := z_in (List.mem_append_right _ (List.mem_of_getElem? (i := 1491) (by decide +kernel))) rfl
theorem wc_X9_plainPasses : Cond.code yX9_plainPasses cX9_plainPasses 3 (some .int) ∈ z_all := z_in (List.mem_append_right _ (List.mem_of_getElem? (i := 1499) (by decide +kernel))) rfl
theorem wc_X9_maidPasses : Cond.code yX9_maidPasses cX9_maidPasses 3 (some .int) ∈ z_all := z_in (List.mem_append_right _ (List.mem_of_getElem? (i := 1503) (by decide +kernel))) rfl
theorem wc_X9_passing : Cond.code yX9_passing cX9_passing 3 (some .int) ∈ z_all := z_in (List.mem_append_right _ (List.mem_of_getElem? (i := 1488) (by decide +kernel))) rfl
theorem wc_X9_plainStays : Cond.code yX9_plainStays cX9_plainStays 3 (some .int) ∈ z_all := z_in (List.mem_append_right _ (List.mem_of_getElem? (i := 1515) (by decide +kernel))) rfl
theorem wc_X9_barbStays : Cond.code yX9_barbStays cX9_barbStays 3 (some .int) ∈ z_all := z_in (List.mem_append_right _ (List.mem_of_getElem? (i := 1511) (by decide +kernel))) rfl
theorem wc_X9_staying : Cond.code yX9_staying cX9_staying 4 (some .int) ∈ z_all := z_in (List.mem_append_right _ (List.mem_of_getElem? (i := 1507) (by decide +kernel))) rfl
theorem wc_X9_plainHurts : Cond.code yX9_plainHurts cX9_plainHurts 3 (some .int) ∈ z_all := z_in (List.mem_append_right _ (List.mem_of_getElem? (i := 1527) (by decide +kernel))) rfl
theorem wc_X9_complimentHurts : Cond.code yX9_complimentHurts cX9_complimentHurts 3 (some .int) ∈ z_all := z_in (List.mem_append_right _ (List.mem_of_getElem? (i := 1523) (by decide +kernel))) rfl
theorem wc_X9_hurting : Cond.code yX9_hurting cX9_hurting 4 (some .int) ∈ z_all := z_in (List.mem_append_right _ (List.mem_of_getElem? (i := 1519) (by decide +kernel))) rfl
theorem wc_X9_plainTells : Cond.code yX9_plainTells cX9_plainTells 4 (some .int) ∈ z_all := z_in (List.mem_append_right _ (List.mem_of_getElem? (i := 1535) (by decide +kernel))) rfl
theorem wc_X9_telling : Cond.code yX9_telling cX9_telling 3 (some .int) ∈ z_all := z_in (List.mem_append_right _ (List.mem_of_getElem? (i := 1531) (by decide +kernel))) rfl
theorem wc_X9_act : Cond.code yX9_act cX9_act 4 (some .int) ∈ z_all := z_in (List.mem_append_right _ (List.mem_of_getElem? (i := 1480) (by decide +kernel))) rfl
theorem wc_X9_count : Cond.code yX9_count cX9_count 2 (some .int) ∈ z_all := z_in (List.mem_append_right _ (List.mem_of_getElem? (i := 1539) (by decide +kernel))) rfl
theorem wc_X9_isShelf : Cond.code yX9_isShelf cX9_isShelf 1 (some .boolean) ∈ z_all := z_in (List.mem_append_right _ (List.mem_of_getElem? (i := 1107) (by decide +kernel))) rfl
theorem wc_X9_keep : Cond.code yX9_keep cX9_keep 3 (some .int) ∈ z_all := z_in (List.mem_append_right _ (List.mem_of_getElem? (i := 1543) (by decide +kernel))) rfl
theorem wc_X9_row : Cond.code yX9_row cX9_row 5 (some .int) ∈ z_all := z_in (List.mem_append_right _ (List.mem_of_getElem? (i := 1547) (by decide +kernel))) rfl
theorem wc_X9_whyNoPlace : Cond.code yX9_whyNoPlace cX9_whyNoPlace 3 (some .int) ∈ z_all := z_in (List.mem_append_right _ (List.mem_of_getElem? (i := 1555) (by decide +kernel))) rfl
theorem wc_X9_put : Cond.code yX9_put cX9_put 7 (some .int) ∈ z_all := z_in (List.mem_append_right _ (List.mem_of_getElem? (i := 1551) (by decide +kernel))) rfl
theorem wc_X9_element : Cond.code yX9_element cX9_element 3 (some .long) ∈ z_all := z_in (List.mem_append_right _ (List.mem_of_getElem? (i := 1559) (by decide +kernel))) rfl
theorem wc_X9_shift : Cond.code yX9_shift cX9_shift 7 (some .int) ∈ z_all := z_in (List.mem_append_right _ (List.mem_of_getElem? (i := 1563) (by decide +kernel))) rfl
theorem wc_X9_taken : Cond.code yX9_taken cX9_taken 3 (some .int) ∈ z_all := z_in (List.mem_append_right _ (List.mem_of_getElem? (i := 1567) (by decide +kernel))) rfl
theorem wc_J6_bitCount_0f7a4 : Cond.code yJ6_bitCount_0f7a4 cJ6_bitCount_0f7a4 1 (some .int) ∈ z_all := z_in (List.mem_append_right _ (List.mem_of_getElem? (i := 610) (by decide +kernel))) rfl
theorem wi_X0_forgetOldest : Cond.instanceMethod yX0_forgetOldest ∈ z_all := z_in (List.mem_append_right _ (List.mem_of_getElem? (i := 389) (by decide +kernel))) rfl
theorem wl_X0_forgetOldest : Cond.selects RX0 yX0_forgetOldest yX0_forgetOldest ∈ z_all := z_in (List.mem_append_left _ (List.mem_of_getElem? (i := 3) (by decide +kernel))) rfl
theorem wd_X0_forgetOldest : yX0_forgetOldest.cls ≠ "java/lang/invoke/MethodHandle" ∧ yX0_forgetOldest.cls ≠ "java/lang/invoke/VarHandle" ∧ (parseMethodDescriptor yX0_forgetOldest.desc).map (fun d => d.parameters.length) = some 0 := ⟨by decide +kernel, by decide +kernel, by decide +kernel⟩
theorem vX0_31 : z_CV RX0 31 yX0_forgetOldest cX0_forgetOldest 2 none 0 := ⟨z_in (List.mem_append_right _ (List.mem_of_getElem? (i := 387) (by decide +kernel))) rfl, wi_X0_forgetOldest, wl_X0_forgetOldest, nI_RX0, wc_X0_forgetOldest, wd_X0_forgetOldest, by decide⟩
theorem wi_X7_set : Cond.instanceMethod yX7_set ∈ z_all := z_in (List.mem_append_right _ (List.mem_of_getElem? (i := 309) (by decide +kernel))) rfl
theorem wl_X7_set : Cond.selects RX7 yX7_set yX7_set ∈ z_all := z_in (List.mem_append_right _ (List.mem_of_getElem? (i := 310) (by decide +kernel))) rfl
theorem wd_X7_set : yX7_set.cls ≠ "java/lang/invoke/MethodHandle" ∧ yX7_set.cls ≠ "java/lang/invoke/VarHandle" ∧ (parseMethodDescriptor yX7_set.desc).map (fun d => d.parameters.length) = some 3 := ⟨by decide +kernel, by decide +kernel, by decide +kernel⟩
theorem vX0_34 : z_CV RX0 34 yX7_set cX7_set 4 none 3 := ⟨z_in (List.mem_append_right _ (List.mem_of_getElem? (i := 768) (by decide +kernel))) rfl, wi_X7_set, wl_X7_set, nI_RX7, wc_X7_set, wd_X7_set, by decide⟩
theorem wi_X2_readLines : Cond.instanceMethod yX2_readLines ∈ z_all := z_in (List.mem_append_right _ (List.mem_of_getElem? (i := 425) (by decide +kernel))) rfl
theorem wl_X2_readLines : Cond.selects RX2 yX2_readLines yX2_readLines ∈ z_all := z_in (List.mem_append_left _ (List.mem_of_getElem? (i := 5) (by decide +kernel))) rfl
theorem wd_X2_readLines : yX2_readLines.cls ≠ "java/lang/invoke/MethodHandle" ∧ yX2_readLines.cls ≠ "java/lang/invoke/VarHandle" ∧ (parseMethodDescriptor yX2_readLines.desc).map (fun d => d.parameters.length) = some 0 := ⟨by decide +kernel, by decide +kernel, by decide +kernel⟩
theorem vX2_41 : z_CV RX2 41 yX2_readLines cX2_readLines 2 none 0 := ⟨z_in (List.mem_append_right _ (List.mem_of_getElem? (i := 423) (by decide +kernel))) rfl, wi_X2_readLines, wl_X2_readLines, nI_RX2, wc_X2_readLines, wd_X2_readLines, by decide⟩
theorem wi_X2_readLine : Cond.instanceMethod yX2_readLine ∈ z_all := z_in (List.mem_append_right _ (List.mem_of_getElem? (i := 429) (by decide +kernel))) rfl
theorem wl_X2_readLine : Cond.selects RX2 yX2_readLine yX2_readLine ∈ z_all := z_in (List.mem_append_left _ (List.mem_of_getElem? (i := 6) (by decide +kernel))) rfl
theorem wd_X2_readLine : yX2_readLine.cls ≠ "java/lang/invoke/MethodHandle" ∧ yX2_readLine.cls ≠ "java/lang/invoke/VarHandle" ∧ (parseMethodDescriptor yX2_readLine.desc).map (fun d => d.parameters.length) = some 0 := ⟨by decide +kernel, by decide +kernel, by decide +kernel⟩
theorem vX2_47 : z_CV RX2 47 yX2_readLine cX2_readLine 2 none 0 := ⟨z_in (List.mem_append_right _ (List.mem_of_getElem? (i := 427) (by decide +kernel))) rfl, wi_X2_readLine, wl_X2_readLine, nI_RX2, wc_X2_readLine, wd_X2_readLine, by decide⟩
theorem wi_X2_nextByte : Cond.instanceMethod yX2_nextByte ∈ z_all := z_in (List.mem_append_right _ (List.mem_of_getElem? (i := 441) (by decide +kernel))) rfl
theorem wl_X2_nextByte : Cond.selects RX2 yX2_nextByte yX2_nextByte ∈ z_all := z_in (List.mem_append_left _ (List.mem_of_getElem? (i := 9) (by decide +kernel))) rfl
theorem wd_X2_nextByte : yX2_nextByte.cls ≠ "java/lang/invoke/MethodHandle" ∧ yX2_nextByte.cls ≠ "java/lang/invoke/VarHandle" ∧ (parseMethodDescriptor yX2_nextByte.desc).map (fun d => d.parameters.length) = some 0 := ⟨by decide +kernel, by decide +kernel, by decide +kernel⟩
theorem vX2_50 : z_CV RX2 50 yX2_nextByte cX2_nextByte 1 (some .int) 0 := ⟨z_in (List.mem_append_right _ (List.mem_of_getElem? (i := 439) (by decide +kernel))) rfl, wi_X2_nextByte, wl_X2_nextByte, nI_RX2, wc_X2_nextByte, wd_X2_nextByte, by decide⟩
theorem wi_X2_readLevel : Cond.instanceMethod yX2_readLevel ∈ z_all := z_in (List.mem_append_right _ (List.mem_of_getElem? (i := 433) (by decide +kernel))) rfl
theorem wl_X2_readLevel : Cond.selects RX2 yX2_readLevel yX2_readLevel ∈ z_all := z_in (List.mem_append_left _ (List.mem_of_getElem? (i := 7) (by decide +kernel))) rfl
theorem wd_X2_readLevel : yX2_readLevel.cls ≠ "java/lang/invoke/MethodHandle" ∧ yX2_readLevel.cls ≠ "java/lang/invoke/VarHandle" ∧ (parseMethodDescriptor yX2_readLevel.desc).map (fun d => d.parameters.length) = some 2 := ⟨by decide +kernel, by decide +kernel, by decide +kernel⟩
theorem vX2_54 : z_CV RX2 54 yX2_readLevel cX2_readLevel 6 none 2 := ⟨z_in (List.mem_append_right _ (List.mem_of_getElem? (i := 431) (by decide +kernel))) rfl, wi_X2_readLevel, wl_X2_readLevel, nI_RX2, wc_X2_readLevel, wd_X2_readLevel, by decide⟩
theorem wi_X2_addStep : Cond.instanceMethod yX2_addStep ∈ z_all := z_in (List.mem_append_right _ (List.mem_of_getElem? (i := 452) (by decide +kernel))) rfl
theorem wl_X2_addStep : Cond.selects RX2 yX2_addStep yX2_addStep ∈ z_all := z_in (List.mem_append_left _ (List.mem_of_getElem? (i := 11) (by decide +kernel))) rfl
theorem wd_X2_addStep : yX2_addStep.cls ≠ "java/lang/invoke/MethodHandle" ∧ yX2_addStep.cls ≠ "java/lang/invoke/VarHandle" ∧ (parseMethodDescriptor yX2_addStep.desc).map (fun d => d.parameters.length) = some 1 := ⟨by decide +kernel, by decide +kernel, by decide +kernel⟩
theorem vX2_58 : z_CV RX2 58 yX2_addStep cX2_addStep 2 none 1 := ⟨z_in (List.mem_append_right _ (List.mem_of_getElem? (i := 450) (by decide +kernel))) rfl, wi_X2_addStep, wl_X2_addStep, nI_RX2, wc_X2_addStep, wd_X2_addStep, by decide⟩
theorem wi_X2_readOperand : Cond.instanceMethod yX2_readOperand ∈ z_all := z_in (List.mem_append_right _ (List.mem_of_getElem? (i := 437) (by decide +kernel))) rfl
theorem wl_X2_readOperand : Cond.selects RX2 yX2_readOperand yX2_readOperand ∈ z_all := z_in (List.mem_append_left _ (List.mem_of_getElem? (i := 8) (by decide +kernel))) rfl
theorem wd_X2_readOperand : yX2_readOperand.cls ≠ "java/lang/invoke/MethodHandle" ∧ yX2_readOperand.cls ≠ "java/lang/invoke/VarHandle" ∧ (parseMethodDescriptor yX2_readOperand.desc).map (fun d => d.parameters.length) = some 1 := ⟨by decide +kernel, by decide +kernel, by decide +kernel⟩
theorem vX2_62 : z_CV RX2 62 yX2_readOperand cX2_readOperand 3 none 1 := ⟨z_in (List.mem_append_right _ (List.mem_of_getElem? (i := 435) (by decide +kernel))) rfl, wi_X2_readOperand, wl_X2_readOperand, nI_RX2, wc_X2_readOperand, wd_X2_readOperand, by decide⟩
theorem sX2_65 : z_CS RX2 65 yX2_levelOf cX2_levelOf 1 (some .int) 1 := ⟨Or.inl (z_in (List.mem_append_right _ (List.mem_of_getElem? (i := 461) (by decide +kernel))) rfl), z_in (List.mem_append_right _ (List.mem_of_getElem? (i := 462) (by decide +kernel))) rfl, nI_RX2, wc_X2_levelOf, ⟨by decide +kernel, by decide +kernel, by decide +kernel⟩, by decide⟩
theorem sX2_69 : z_CS RX2 69 yX2_isDigit cX2_isDigit 1 (some .boolean) 1 := ⟨Or.inl (z_in (List.mem_append_right _ (List.mem_of_getElem? (i := 443) (by decide +kernel))) rfl), z_in (List.mem_append_right _ (List.mem_of_getElem? (i := 444) (by decide +kernel))) rfl, nI_RX2, wc_X2_isDigit, ⟨by decide +kernel, by decide +kernel, by decide +kernel⟩, by decide⟩
theorem wi_X2_readNumber : Cond.instanceMethod yX2_readNumber ∈ z_all := z_in (List.mem_append_right _ (List.mem_of_getElem? (i := 448) (by decide +kernel))) rfl
theorem wl_X2_readNumber : Cond.selects RX2 yX2_readNumber yX2_readNumber ∈ z_all := z_in (List.mem_append_left _ (List.mem_of_getElem? (i := 10) (by decide +kernel))) rfl
theorem wd_X2_readNumber : yX2_readNumber.cls ≠ "java/lang/invoke/MethodHandle" ∧ yX2_readNumber.cls ≠ "java/lang/invoke/VarHandle" ∧ (parseMethodDescriptor yX2_readNumber.desc).map (fun d => d.parameters.length) = some 0 := ⟨by decide +kernel, by decide +kernel, by decide +kernel⟩
theorem vX2_73 : z_CV RX2 73 yX2_readNumber cX2_readNumber 3 none 0 := ⟨z_in (List.mem_append_right _ (List.mem_of_getElem? (i := 446) (by decide +kernel))) rfl, wi_X2_readNumber, wl_X2_readNumber, nI_RX2, wc_X2_readNumber, wd_X2_readNumber, by decide⟩
theorem sX2_76 : z_CS RX2 76 yX2_nameOf cX2_nameOf 1 (some .int) 1 := ⟨Or.inl (z_in (List.mem_append_right _ (List.mem_of_getElem? (i := 454) (by decide +kernel))) rfl), z_in (List.mem_append_right _ (List.mem_of_getElem? (i := 455) (by decide +kernel))) rfl, nI_RX2, wc_X2_nameOf, ⟨by decide +kernel, by decide +kernel, by decide +kernel⟩, by decide⟩
theorem wi_X2_closeBracket : Cond.instanceMethod yX2_closeBracket ∈ z_all := z_in (List.mem_append_right _ (List.mem_of_getElem? (i := 459) (by decide +kernel))) rfl
theorem wl_X2_closeBracket : Cond.selects RX2 yX2_closeBracket yX2_closeBracket ∈ z_all := z_in (List.mem_append_left _ (List.mem_of_getElem? (i := 12) (by decide +kernel))) rfl
theorem wd_X2_closeBracket : yX2_closeBracket.cls ≠ "java/lang/invoke/MethodHandle" ∧ yX2_closeBracket.cls ≠ "java/lang/invoke/VarHandle" ∧ (parseMethodDescriptor yX2_closeBracket.desc).map (fun d => d.parameters.length) = some 0 := ⟨by decide +kernel, by decide +kernel, by decide +kernel⟩
theorem vX2_79 : z_CV RX2 79 yX2_closeBracket cX2_closeBracket 1 none 0 := ⟨z_in (List.mem_append_right _ (List.mem_of_getElem? (i := 457) (by decide +kernel))) rfl, wi_X2_closeBracket, wl_X2_closeBracket, nI_RX2, wc_X2_closeBracket, wd_X2_closeBracket, by decide⟩
theorem sX2_82 : z_CS RX2 82 yX2_joined cX2_joined 3 (some .int) 3 := ⟨Or.inl (z_in (List.mem_append_right _ (List.mem_of_getElem? (i := 485) (by decide +kernel))) rfl), z_in (List.mem_append_right _ (List.mem_of_getElem? (i := 486) (by decide +kernel))) rfl, nI_RX2, wc_X2_joined, ⟨by decide +kernel, by decide +kernel, by decide +kernel⟩, by decide⟩
theorem wi_X3_kindOf : Cond.instanceMethod yX3_kindOf ∈ z_all := z_in (List.mem_append_right _ (List.mem_of_getElem? (i := 794) (by decide +kernel))) rfl
theorem wl_X3_kindOf : Cond.selects RX3 yX3_kindOf yX3_kindOf ∈ z_all := z_in (List.mem_append_right _ (List.mem_of_getElem? (i := 795) (by decide +kernel))) rfl
theorem wd_X3_kindOf : yX3_kindOf.cls ≠ "java/lang/invoke/MethodHandle" ∧ yX3_kindOf.cls ≠ "java/lang/invoke/VarHandle" ∧ (parseMethodDescriptor yX3_kindOf.desc).map (fun d => d.parameters.length) = some 1 := ⟨by decide +kernel, by decide +kernel, by decide +kernel⟩
theorem vX3_31 : z_CV RX3 31 yX3_kindOf cX3_kindOf 2 (some .int) 1 := ⟨z_in (List.mem_append_right _ (List.mem_of_getElem? (i := 793) (by decide +kernel))) rfl, wi_X3_kindOf, wl_X3_kindOf, nI_RX3, wc_X3_kindOf, wd_X3_kindOf, by decide⟩
theorem wi_X3_run : Cond.instanceMethod yX3_run ∈ z_all := z_in (List.mem_append_right _ (List.mem_of_getElem? (i := 799) (by decide +kernel))) rfl
theorem wl_X3_run : Cond.selects RX3 yX3_run yX3_run ∈ z_all := z_in (List.mem_append_left _ (List.mem_of_getElem? (i := 27) (by decide +kernel))) rfl
theorem wd_X3_run : yX3_run.cls ≠ "java/lang/invoke/MethodHandle" ∧ yX3_run.cls ≠ "java/lang/invoke/VarHandle" ∧ (parseMethodDescriptor yX3_run.desc).map (fun d => d.parameters.length) = some 4 := ⟨by decide +kernel, by decide +kernel, by decide +kernel⟩
theorem vX3_38 : z_CV RX3 38 yX3_run cX3_run 6 (some .int) 4 := ⟨z_in (List.mem_append_right _ (List.mem_of_getElem? (i := 797) (by decide +kernel))) rfl, wi_X3_run, wl_X3_run, nI_RX3, wc_X3_run, wd_X3_run, by decide⟩
theorem sX3_45 : z_CS RX3 45 yX3_bodyFrom cX3_bodyFrom 5 (some .int) 2 := ⟨Or.inl (z_in (List.mem_append_right _ (List.mem_of_getElem? (i := 801) (by decide +kernel))) rfl), z_in (List.mem_append_right _ (List.mem_of_getElem? (i := 802) (by decide +kernel))) rfl, nI_RX3, wc_X3_bodyFrom, ⟨by decide +kernel, by decide +kernel, by decide +kernel⟩, by decide⟩
theorem wi_X3_noteBody : Cond.instanceMethod yX3_noteBody ∈ z_all := z_in (List.mem_append_right _ (List.mem_of_getElem? (i := 810) (by decide +kernel))) rfl
theorem wl_X3_noteBody : Cond.selects RX3 yX3_noteBody yX3_noteBody ∈ z_all := z_in (List.mem_append_left _ (List.mem_of_getElem? (i := 28) (by decide +kernel))) rfl
theorem wd_X3_noteBody : yX3_noteBody.cls ≠ "java/lang/invoke/MethodHandle" ∧ yX3_noteBody.cls ≠ "java/lang/invoke/VarHandle" ∧ (parseMethodDescriptor yX3_noteBody.desc).map (fun d => d.parameters.length) = some 1 := ⟨by decide +kernel, by decide +kernel, by decide +kernel⟩
theorem vX3_49 : z_CV RX3 49 yX3_noteBody cX3_noteBody 2 none 1 := ⟨z_in (List.mem_append_right _ (List.mem_of_getElem? (i := 808) (by decide +kernel))) rfl, wi_X3_noteBody, wl_X3_noteBody, nI_RX3, wc_X3_noteBody, wd_X3_noteBody, by decide⟩
theorem wi_X3_answerOf : Cond.instanceMethod yX3_answerOf ∈ z_all := z_in (List.mem_append_right _ (List.mem_of_getElem? (i := 814) (by decide +kernel))) rfl
theorem wl_X3_answerOf : Cond.selects RX3 yX3_answerOf yX3_answerOf ∈ z_all := z_in (List.mem_append_left _ (List.mem_of_getElem? (i := 29) (by decide +kernel))) rfl
theorem wd_X3_answerOf : yX3_answerOf.cls ≠ "java/lang/invoke/MethodHandle" ∧ yX3_answerOf.cls ≠ "java/lang/invoke/VarHandle" ∧ (parseMethodDescriptor yX3_answerOf.desc).map (fun d => d.parameters.length) = some 3 := ⟨by decide +kernel, by decide +kernel, by decide +kernel⟩
theorem vX3_53 : z_CV RX3 53 yX3_answerOf cX3_answerOf 4 (some .int) 3 := ⟨z_in (List.mem_append_right _ (List.mem_of_getElem? (i := 812) (by decide +kernel))) rfl, wi_X3_answerOf, wl_X3_answerOf, nI_RX3, wc_X3_answerOf, wd_X3_answerOf, by decide⟩
theorem wi_X6_cameJust : Cond.instanceMethod yX6_cameJust ∈ z_all := z_in (List.mem_append_right _ (List.mem_of_getElem? (i := 653) (by decide +kernel))) rfl
theorem wl_X6_cameJust : Cond.selects RX6 yX6_cameJust yX6_cameJust ∈ z_all := z_in (List.mem_append_right _ (List.mem_of_getElem? (i := 654) (by decide +kernel))) rfl
theorem wd_X6_cameJust : yX6_cameJust.cls ≠ "java/lang/invoke/MethodHandle" ∧ yX6_cameJust.cls ≠ "java/lang/invoke/VarHandle" ∧ (parseMethodDescriptor yX6_cameJust.desc).map (fun d => d.parameters.length) = some 2 := ⟨by decide +kernel, by decide +kernel, by decide +kernel⟩
theorem vX4_103 : z_CV RX4 103 yX6_cameJust cX6_cameJust 4 (some .boolean) 2 := ⟨z_in (List.mem_append_right _ (List.mem_of_getElem? (i := 666) (by decide +kernel))) rfl, wi_X6_cameJust, wl_X6_cameJust, nI_RX6, wc_X6_cameJust, wd_X6_cameJust, by decide⟩
theorem wi_X4_winningFrom : Cond.instanceMethod yX4_winningFrom ∈ z_all := z_in (List.mem_append_right _ (List.mem_of_getElem? (i := 705) (by decide +kernel))) rfl
theorem wl_X4_winningFrom : Cond.selects RX4 yX4_winningFrom yX4_winningFrom ∈ z_all := z_in (List.mem_append_left _ (List.mem_of_getElem? (i := 26) (by decide +kernel))) rfl
theorem wd_X4_winningFrom : yX4_winningFrom.cls ≠ "java/lang/invoke/MethodHandle" ∧ yX4_winningFrom.cls ≠ "java/lang/invoke/VarHandle" ∧ (parseMethodDescriptor yX4_winningFrom.desc).map (fun d => d.parameters.length) = some 2 := ⟨by decide +kernel, by decide +kernel, by decide +kernel⟩
theorem vX4_107 : z_CV RX4 107 yX4_winningFrom cX4_winningFrom 6 (some .int) 2 := ⟨z_in (List.mem_append_right _ (List.mem_of_getElem? (i := 703) (by decide +kernel))) rfl, wi_X4_winningFrom, wl_X4_winningFrom, nI_RX4, wc_X4_winningFrom, wd_X4_winningFrom, by decide⟩
theorem wi_X6_hurtBy : Cond.instanceMethod yX6_hurtBy ∈ z_all := z_in (List.mem_append_right _ (List.mem_of_getElem? (i := 522) (by decide +kernel))) rfl
theorem wl_X6_hurtBy : Cond.selects RX6 yX6_hurtBy yX6_hurtBy ∈ z_all := z_in (List.mem_append_right _ (List.mem_of_getElem? (i := 523) (by decide +kernel))) rfl
theorem wd_X6_hurtBy : yX6_hurtBy.cls ≠ "java/lang/invoke/MethodHandle" ∧ yX6_hurtBy.cls ≠ "java/lang/invoke/VarHandle" ∧ (parseMethodDescriptor yX6_hurtBy.desc).map (fun d => d.parameters.length) = some 2 := ⟨by decide +kernel, by decide +kernel, by decide +kernel⟩
theorem vX4_117 : z_CV RX4 117 yX6_hurtBy cX6_hurtBy 4 (some .int) 2 := ⟨z_in (List.mem_append_right _ (List.mem_of_getElem? (i := 716) (by decide +kernel))) rfl, wi_X6_hurtBy, wl_X6_hurtBy, nI_RX6, wc_X6_hurtBy, wd_X6_hurtBy, by decide⟩
theorem mX4_46 : z_CM RX4 46 := ⟨z_in (List.mem_append_right _ (List.mem_of_getElem? (i := 565) (by decide +kernel))) rfl, z_in (List.mem_append_right _ (List.mem_of_getElem? (i := 505) (by decide +kernel))) rfl, z_in (List.mem_append_right _ (List.mem_of_getElem? (i := 11) (by decide +kernel))) rfl, z_in (List.mem_append_right _ (List.mem_of_getElem? (i := 506) (by decide +kernel))) rfl⟩
theorem wi_X4_neededFrom : Cond.instanceMethod yX4_neededFrom ∈ z_all := z_in (List.mem_append_right _ (List.mem_of_getElem? (i := 568) (by decide +kernel))) rfl
theorem wl_X4_neededFrom : Cond.selects RX4 yX4_neededFrom yX4_neededFrom ∈ z_all := z_in (List.mem_append_left _ (List.mem_of_getElem? (i := 21) (by decide +kernel))) rfl
theorem wd_X4_neededFrom : yX4_neededFrom.cls ≠ "java/lang/invoke/MethodHandle" ∧ yX4_neededFrom.cls ≠ "java/lang/invoke/VarHandle" ∧ (parseMethodDescriptor yX4_neededFrom.desc).map (fun d => d.parameters.length) = some 5 := ⟨by decide +kernel, by decide +kernel, by decide +kernel⟩
theorem vX4_52 : z_CV RX4 52 yX4_neededFrom cX4_neededFrom 8 (some .int) 5 := ⟨z_in (List.mem_append_right _ (List.mem_of_getElem? (i := 566) (by decide +kernel))) rfl, wi_X4_neededFrom, wl_X4_neededFrom, nI_RX4, wc_X4_neededFrom, wd_X4_neededFrom, by decide⟩
theorem wi_X4_firstStep : Cond.instanceMethod yX4_firstStep ∈ z_all := z_in (List.mem_append_right _ (List.mem_of_getElem? (i := 578) (by decide +kernel))) rfl
theorem wl_X4_firstStep : Cond.selects RX4 yX4_firstStep yX4_firstStep ∈ z_all := z_in (List.mem_append_left _ (List.mem_of_getElem? (i := 23) (by decide +kernel))) rfl
theorem wd_X4_firstStep : yX4_firstStep.cls ≠ "java/lang/invoke/MethodHandle" ∧ yX4_firstStep.cls ≠ "java/lang/invoke/VarHandle" ∧ (parseMethodDescriptor yX4_firstStep.desc).map (fun d => d.parameters.length) = some 5 := ⟨by decide +kernel, by decide +kernel, by decide +kernel⟩
theorem vX4_56 : z_CV RX4 56 yX4_firstStep cX4_firstStep 7 (some .int) 5 := ⟨z_in (List.mem_append_right _ (List.mem_of_getElem? (i := 576) (by decide +kernel))) rfl, wi_X4_firstStep, wl_X4_firstStep, nI_RX4, wc_X4_firstStep, wd_X4_firstStep, by decide⟩
theorem wi_X6_passes : Cond.instanceMethod yX6_passes ∈ z_all := z_in (List.mem_append_right _ (List.mem_of_getElem? (i := 473) (by decide +kernel))) rfl
theorem wl_X6_passes : Cond.selects RX6 yX6_passes yX6_passes ∈ z_all := z_in (List.mem_append_right _ (List.mem_of_getElem? (i := 474) (by decide +kernel))) rfl
theorem wd_X6_passes : yX6_passes.cls ≠ "java/lang/invoke/MethodHandle" ∧ yX6_passes.cls ≠ "java/lang/invoke/VarHandle" ∧ (parseMethodDescriptor yX6_passes.desc).map (fun d => d.parameters.length) = some 4 := ⟨by decide +kernel, by decide +kernel, by decide +kernel⟩
theorem vX4_59 : z_CV RX4 59 yX6_passes cX6_passes 7 (some .boolean) 4 := ⟨z_in (List.mem_append_right _ (List.mem_of_getElem? (i := 575) (by decide +kernel))) rfl, wi_X6_passes, wl_X6_passes, nI_RX6, wc_X6_passes, wd_X6_passes, by decide⟩
theorem wi_X4_neededWith : Cond.instanceMethod yX4_neededWith ∈ z_all := z_in (List.mem_append_right _ (List.mem_of_getElem? (i := 572) (by decide +kernel))) rfl
theorem wl_X4_neededWith : Cond.selects RX4 yX4_neededWith yX4_neededWith ∈ z_all := z_in (List.mem_append_left _ (List.mem_of_getElem? (i := 22) (by decide +kernel))) rfl
theorem wd_X4_neededWith : yX4_neededWith.cls ≠ "java/lang/invoke/MethodHandle" ∧ yX4_neededWith.cls ≠ "java/lang/invoke/VarHandle" ∧ (parseMethodDescriptor yX4_neededWith.desc).map (fun d => d.parameters.length) = some 6 := ⟨by decide +kernel, by decide +kernel, by decide +kernel⟩
theorem vX4_71 : z_CV RX4 71 yX4_neededWith cX4_neededWith 7 (some .int) 6 := ⟨z_in (List.mem_append_right _ (List.mem_of_getElem? (i := 570) (by decide +kernel))) rfl, wi_X4_neededWith, wl_X4_neededWith, nI_RX4, wc_X4_neededWith, wd_X4_neededWith, by decide⟩
theorem wi_X6_fitsAt : Cond.instanceMethod yX6_fitsAt ∈ z_all := z_in (List.mem_append_right _ (List.mem_of_getElem? (i := 517) (by decide +kernel))) rfl
theorem wl_X6_fitsAt : Cond.selects RX6 yX6_fitsAt yX6_fitsAt ∈ z_all := z_in (List.mem_append_right _ (List.mem_of_getElem? (i := 518) (by decide +kernel))) rfl
theorem wd_X6_fitsAt : yX6_fitsAt.cls ≠ "java/lang/invoke/MethodHandle" ∧ yX6_fitsAt.cls ≠ "java/lang/invoke/VarHandle" ∧ (parseMethodDescriptor yX6_fitsAt.desc).map (fun d => d.parameters.length) = some 2 := ⟨by decide +kernel, by decide +kernel, by decide +kernel⟩
theorem vX4_75 : z_CV RX4 75 yX6_fitsAt cX6_fitsAt 3 (some .boolean) 2 := ⟨z_in (List.mem_append_right _ (List.mem_of_getElem? (i := 574) (by decide +kernel))) rfl, wi_X6_fitsAt, wl_X6_fitsAt, nI_RX6, wc_X6_fitsAt, wd_X6_fitsAt, by decide⟩
theorem sX4_79 : z_CS RX4 79 yJ6_bitCount_0f7a4 cJ6_bitCount_0f7a4 1 (some .int) 1 := ⟨Or.inl (z_in (List.mem_append_right _ (List.mem_of_getElem? (i := 608) (by decide +kernel))) rfl), z_in (List.mem_append_right _ (List.mem_of_getElem? (i := 609) (by decide +kernel))) rfl, nI_RJ6, wc_J6_bitCount_0f7a4, ⟨by decide +kernel, by decide +kernel, by decide +kernel⟩, by decide⟩
theorem wi_X6_hurtBySet : Cond.instanceMethod yX6_hurtBySet ∈ z_all := z_in (List.mem_append_right _ (List.mem_of_getElem? (i := 615) (by decide +kernel))) rfl
theorem wl_X6_hurtBySet : Cond.selects RX6 yX6_hurtBySet yX6_hurtBySet ∈ z_all := z_in (List.mem_append_right _ (List.mem_of_getElem? (i := 616) (by decide +kernel))) rfl
theorem wd_X6_hurtBySet : yX6_hurtBySet.cls ≠ "java/lang/invoke/MethodHandle" ∧ yX6_hurtBySet.cls ≠ "java/lang/invoke/VarHandle" ∧ (parseMethodDescriptor yX6_hurtBySet.desc).map (fun d => d.parameters.length) = some 1 := ⟨by decide +kernel, by decide +kernel, by decide +kernel⟩
theorem vX4_85 : z_CV RX4 85 yX6_hurtBySet cX6_hurtBySet 3 (some .int) 1 := ⟨z_in (List.mem_append_right _ (List.mem_of_getElem? (i := 614) (by decide +kernel))) rfl, wi_X6_hurtBySet, wl_X6_hurtBySet, nI_RX6, wc_X6_hurtBySet, wd_X6_hurtBySet, by decide⟩
theorem wi_X4_wordsLeftAt : Cond.instanceMethod yX4_wordsLeftAt ∈ z_all := z_in (List.mem_append_right _ (List.mem_of_getElem? (i := 646) (by decide +kernel))) rfl
theorem wl_X4_wordsLeftAt : Cond.selects RX4 yX4_wordsLeftAt yX4_wordsLeftAt ∈ z_all := z_in (List.mem_append_left _ (List.mem_of_getElem? (i := 24) (by decide +kernel))) rfl
theorem wd_X4_wordsLeftAt : yX4_wordsLeftAt.cls ≠ "java/lang/invoke/MethodHandle" ∧ yX4_wordsLeftAt.cls ≠ "java/lang/invoke/VarHandle" ∧ (parseMethodDescriptor yX4_wordsLeftAt.desc).map (fun d => d.parameters.length) = some 3 := ⟨by decide +kernel, by decide +kernel, by decide +kernel⟩
theorem vX4_88 : z_CV RX4 88 yX4_wordsLeftAt cX4_wordsLeftAt 6 (some .int) 3 := ⟨z_in (List.mem_append_right _ (List.mem_of_getElem? (i := 644) (by decide +kernel))) rfl, wi_X4_wordsLeftAt, wl_X4_wordsLeftAt, nI_RX4, wc_X4_wordsLeftAt, wd_X4_wordsLeftAt, by decide⟩
theorem wi_X6_strain : Cond.instanceMethod yX6_strain ∈ z_all := z_in (List.mem_append_right _ (List.mem_of_getElem? (i := 508) (by decide +kernel))) rfl
theorem wl_X6_strain : Cond.selects RX6 yX6_strain yX6_strain ∈ z_all := z_in (List.mem_append_right _ (List.mem_of_getElem? (i := 509) (by decide +kernel))) rfl
theorem wd_X6_strain : yX6_strain.cls ≠ "java/lang/invoke/MethodHandle" ∧ yX6_strain.cls ≠ "java/lang/invoke/VarHandle" ∧ (parseMethodDescriptor yX6_strain.desc).map (fun d => d.parameters.length) = some 4 := ⟨by decide +kernel, by decide +kernel, by decide +kernel⟩
theorem vX4_92 : z_CV RX4 92 yX6_strain cX6_strain 7 none 4 := ⟨z_in (List.mem_append_right _ (List.mem_of_getElem? (i := 664) (by decide +kernel))) rfl, wi_X6_strain, wl_X6_strain, nI_RX6, wc_X6_strain, wd_X6_strain, by decide⟩
theorem wi_X6_copyCame : Cond.instanceMethod yX6_copyCame ∈ z_all := z_in (List.mem_append_right _ (List.mem_of_getElem? (i := 554) (by decide +kernel))) rfl
theorem wl_X6_copyCame : Cond.selects RX6 yX6_copyCame yX6_copyCame ∈ z_all := z_in (List.mem_append_right _ (List.mem_of_getElem? (i := 555) (by decide +kernel))) rfl
theorem wd_X6_copyCame : yX6_copyCame.cls ≠ "java/lang/invoke/MethodHandle" ∧ yX6_copyCame.cls ≠ "java/lang/invoke/VarHandle" ∧ (parseMethodDescriptor yX6_copyCame.desc).map (fun d => d.parameters.length) = some 1 := ⟨by decide +kernel, by decide +kernel, by decide +kernel⟩
theorem vX4_96 : z_CV RX4 96 yX6_copyCame cX6_copyCame 4 (some .int) 1 := ⟨z_in (List.mem_append_right _ (List.mem_of_getElem? (i := 665) (by decide +kernel))) rfl, wi_X6_copyCame, wl_X6_copyCame, nI_RX6, wc_X6_copyCame, wd_X6_copyCame, by decide⟩
theorem sX5_26 : z_CS RX5 26 yX8_isShelf cX8_isShelf 1 (some .boolean) 1 := ⟨Or.inr ⟨"TalkStrainer", z_inN (List.mem_append_right _ (List.mem_of_getElem? (i := 339) (by decide +kernel))) rfl⟩, z_in (List.mem_append_right _ (List.mem_of_getElem? (i := 325) (by decide +kernel))) rfl, nI_RX8, wc_X8_isShelf, ⟨by decide +kernel, by decide +kernel, by decide +kernel⟩, by decide⟩
theorem wi_X5_heldOn : Cond.instanceMethod yX5_heldOn ∈ z_all := z_in (List.mem_append_right _ (List.mem_of_getElem? (i := 337) (by decide +kernel))) rfl
theorem wl_X5_heldOn : Cond.selects RX5 yX5_heldOn yX5_heldOn ∈ z_all := z_in (List.mem_append_left _ (List.mem_of_getElem? (i := 1) (by decide +kernel))) rfl
theorem wd_X5_heldOn : yX5_heldOn.cls ≠ "java/lang/invoke/MethodHandle" ∧ yX5_heldOn.cls ≠ "java/lang/invoke/VarHandle" ∧ (parseMethodDescriptor yX5_heldOn.desc).map (fun d => d.parameters.length) = some 1 := ⟨by decide +kernel, by decide +kernel, by decide +kernel⟩
theorem vX5_30 : z_CV RX5 30 yX5_heldOn cX5_heldOn 2 (some .int) 1 := ⟨z_in (List.mem_append_right _ (List.mem_of_getElem? (i := 335) (by decide +kernel))) rfl, wi_X5_heldOn, wl_X5_heldOn, nI_RX5, wc_X5_heldOn, wd_X5_heldOn, by decide⟩
theorem wi_X5_isEmpty : Cond.instanceMethod yX5_isEmpty ∈ z_all := z_in (List.mem_append_right _ (List.mem_of_getElem? (i := 332) (by decide +kernel))) rfl
theorem wl_X5_isEmpty : Cond.selects RX5 yX5_isEmpty yX5_isEmpty ∈ z_all := z_in (List.mem_append_right _ (List.mem_of_getElem? (i := 333) (by decide +kernel))) rfl
theorem wd_X5_isEmpty : yX5_isEmpty.cls ≠ "java/lang/invoke/MethodHandle" ∧ yX5_isEmpty.cls ≠ "java/lang/invoke/VarHandle" ∧ (parseMethodDescriptor yX5_isEmpty.desc).map (fun d => d.parameters.length) = some 1 := ⟨by decide +kernel, by decide +kernel, by decide +kernel⟩
theorem vX5_34 : z_CV RX5 34 yX5_isEmpty cX5_isEmpty 2 (some .boolean) 1 := ⟨z_in (List.mem_append_right _ (List.mem_of_getElem? (i := 331) (by decide +kernel))) rfl, wi_X5_isEmpty, wl_X5_isEmpty, nI_RX5, wc_X5_isEmpty, wd_X5_isEmpty, by decide⟩
theorem wi_X5_lengthOf : Cond.instanceMethod yX5_lengthOf ∈ z_all := z_in (List.mem_append_right _ (List.mem_of_getElem? (i := 341) (by decide +kernel))) rfl
theorem wl_X5_lengthOf : Cond.selects RX5 yX5_lengthOf yX5_lengthOf ∈ z_all := z_in (List.mem_append_right _ (List.mem_of_getElem? (i := 342) (by decide +kernel))) rfl
theorem wd_X5_lengthOf : yX5_lengthOf.cls ≠ "java/lang/invoke/MethodHandle" ∧ yX5_lengthOf.cls ≠ "java/lang/invoke/VarHandle" ∧ (parseMethodDescriptor yX5_lengthOf.desc).map (fun d => d.parameters.length) = some 1 := ⟨by decide +kernel, by decide +kernel, by decide +kernel⟩
theorem vX5_37 : z_CV RX5 37 yX5_lengthOf cX5_lengthOf 2 (some .int) 1 := ⟨z_in (List.mem_append_right _ (List.mem_of_getElem? (i := 356) (by decide +kernel))) rfl, wi_X5_lengthOf, wl_X5_lengthOf, nI_RX5, wc_X5_lengthOf, wd_X5_lengthOf, by decide⟩
theorem wi_X5_hasRange : Cond.instanceMethod yX5_hasRange ∈ z_all := z_in (List.mem_append_right _ (List.mem_of_getElem? (i := 353) (by decide +kernel))) rfl
theorem wl_X5_hasRange : Cond.selects RX5 yX5_hasRange yX5_hasRange ∈ z_all := z_in (List.mem_append_right _ (List.mem_of_getElem? (i := 354) (by decide +kernel))) rfl
theorem wd_X5_hasRange : yX5_hasRange.cls ≠ "java/lang/invoke/MethodHandle" ∧ yX5_hasRange.cls ≠ "java/lang/invoke/VarHandle" ∧ (parseMethodDescriptor yX5_hasRange.desc).map (fun d => d.parameters.length) = some 3 := ⟨by decide +kernel, by decide +kernel, by decide +kernel⟩
theorem vX5_40 : z_CV RX5 40 yX5_hasRange cX5_hasRange 4 (some .boolean) 3 := ⟨z_in (List.mem_append_right _ (List.mem_of_getElem? (i := 352) (by decide +kernel))) rfl, wi_X5_hasRange, wl_X5_hasRange, nI_RX5, wc_X5_hasRange, wd_X5_hasRange, by decide⟩
theorem sX5_44 : z_CS RX5 44 yX5_lowestBits cX5_lowestBits 3 (some .long) 2 := ⟨Or.inl (z_in (List.mem_append_right _ (List.mem_of_getElem? (i := 857) (by decide +kernel))) rfl), z_in (List.mem_append_right _ (List.mem_of_getElem? (i := 858) (by decide +kernel))) rfl, nI_RX5, wc_X5_lowestBits, ⟨by decide +kernel, by decide +kernel, by decide +kernel⟩, by decide⟩
theorem wi_X5_isRow : Cond.instanceMethod yX5_isRow ∈ z_all := z_in (List.mem_append_right _ (List.mem_of_getElem? (i := 850) (by decide +kernel))) rfl
theorem wl_X5_isRow : Cond.selects RX5 yX5_isRow yX5_isRow ∈ z_all := z_in (List.mem_append_right _ (List.mem_of_getElem? (i := 851) (by decide +kernel))) rfl
theorem wd_X5_isRow : yX5_isRow.cls ≠ "java/lang/invoke/MethodHandle" ∧ yX5_isRow.cls ≠ "java/lang/invoke/VarHandle" ∧ (parseMethodDescriptor yX5_isRow.desc).map (fun d => d.parameters.length) = some 1 := ⟨by decide +kernel, by decide +kernel, by decide +kernel⟩
theorem vX5_48 : z_CV RX5 48 yX5_isRow cX5_isRow 2 (some .boolean) 1 := ⟨z_in (List.mem_append_right _ (List.mem_of_getElem? (i := 877) (by decide +kernel))) rfl, wi_X5_isRow, wl_X5_isRow, nI_RX5, wc_X5_isRow, wd_X5_isRow, by decide⟩
theorem wi_X7_get : Cond.instanceMethod yX7_get ∈ z_all := z_in (List.mem_append_right _ (List.mem_of_getElem? (i := 379) (by decide +kernel))) rfl
theorem wl_X7_get : Cond.selects RX7 yX7_get yX7_get ∈ z_all := z_in (List.mem_append_right _ (List.mem_of_getElem? (i := 380) (by decide +kernel))) rfl
theorem wd_X7_get : yX7_get.cls ≠ "java/lang/invoke/MethodHandle" ∧ yX7_get.cls ≠ "java/lang/invoke/VarHandle" ∧ (parseMethodDescriptor yX7_get.desc).map (fun d => d.parameters.length) = some 2 := ⟨by decide +kernel, by decide +kernel, by decide +kernel⟩
theorem vX6_31 : z_CV RX6 31 yX7_get cX7_get 3 (some .int) 2 := ⟨z_in (List.mem_append_right _ (List.mem_of_getElem? (i := 476) (by decide +kernel))) rfl, wi_X7_get, wl_X7_get, nI_RX7, wc_X7_get, wd_X7_get, by decide⟩
theorem wi_X2_isTold : Cond.instanceMethod yX2_isTold ∈ z_all := z_in (List.mem_append_right _ (List.mem_of_getElem? (i := 478) (by decide +kernel))) rfl
theorem wl_X2_isTold : Cond.selects RX2 yX2_isTold yX2_isTold ∈ z_all := z_in (List.mem_append_right _ (List.mem_of_getElem? (i := 479) (by decide +kernel))) rfl
theorem wd_X2_isTold : yX2_isTold.cls ≠ "java/lang/invoke/MethodHandle" ∧ yX2_isTold.cls ≠ "java/lang/invoke/VarHandle" ∧ (parseMethodDescriptor yX2_isTold.desc).map (fun d => d.parameters.length) = some 0 := ⟨by decide +kernel, by decide +kernel, by decide +kernel⟩
theorem vX6_35 : z_CV RX6 35 yX2_isTold cX2_isTold 1 (some .boolean) 0 := ⟨z_in (List.mem_append_right _ (List.mem_of_getElem? (i := 477) (by decide +kernel))) rfl, wi_X2_isTold, wl_X2_isTold, nI_RX2, wc_X2_isTold, wd_X2_isTold, by decide⟩
theorem wi_X2_worth : Cond.instanceMethod yX2_worth ∈ z_all := z_in (List.mem_append_right _ (List.mem_of_getElem? (i := 482) (by decide +kernel))) rfl
theorem wl_X2_worth : Cond.selects RX2 yX2_worth yX2_worth ∈ z_all := z_in (List.mem_append_right _ (List.mem_of_getElem? (i := 483) (by decide +kernel))) rfl
theorem wd_X2_worth : yX2_worth.cls ≠ "java/lang/invoke/MethodHandle" ∧ yX2_worth.cls ≠ "java/lang/invoke/VarHandle" ∧ (parseMethodDescriptor yX2_worth.desc).map (fun d => d.parameters.length) = some 6 := ⟨by decide +kernel, by decide +kernel, by decide +kernel⟩
theorem vX6_41 : z_CV RX6 41 yX2_worth cX2_worth 11 (some .int) 6 := ⟨z_in (List.mem_append_right _ (List.mem_of_getElem? (i := 481) (by decide +kernel))) rfl, wi_X2_worth, wl_X2_worth, nI_RX2, wc_X2_worth, wd_X2_worth, by decide⟩
theorem vX6_52 : z_CV RX6 52 yX6_passes cX6_passes 7 (some .boolean) 4 := ⟨z_in (List.mem_append_right _ (List.mem_of_getElem? (i := 511) (by decide +kernel))) rfl, wi_X6_passes, wl_X6_passes, nI_RX6, wc_X6_passes, wd_X6_passes, by decide⟩
theorem mX6_56 : z_CM RX6 56 := ⟨z_in (List.mem_append_right _ (List.mem_of_getElem? (i := 520) (by decide +kernel))) rfl, z_in (List.mem_append_right _ (List.mem_of_getElem? (i := 505) (by decide +kernel))) rfl, z_in (List.mem_append_right _ (List.mem_of_getElem? (i := 11) (by decide +kernel))) rfl, z_in (List.mem_append_right _ (List.mem_of_getElem? (i := 506) (by decide +kernel))) rfl⟩
theorem vX6_61 : z_CV RX6 61 yX6_fitsAt cX6_fitsAt 3 (some .boolean) 2 := ⟨z_in (List.mem_append_right _ (List.mem_of_getElem? (i := 516) (by decide +kernel))) rfl, wi_X6_fitsAt, wl_X6_fitsAt, nI_RX6, wc_X6_fitsAt, wd_X6_fitsAt, by decide⟩
theorem wi_X6_clearNet : Cond.instanceMethod yX6_clearNet ∈ z_all := z_in (List.mem_append_right _ (List.mem_of_getElem? (i := 527) (by decide +kernel))) rfl
theorem wl_X6_clearNet : Cond.selects RX6 yX6_clearNet yX6_clearNet ∈ z_all := z_in (List.mem_append_left _ (List.mem_of_getElem? (i := 17) (by decide +kernel))) rfl
theorem wd_X6_clearNet : yX6_clearNet.cls ≠ "java/lang/invoke/MethodHandle" ∧ yX6_clearNet.cls ≠ "java/lang/invoke/VarHandle" ∧ (parseMethodDescriptor yX6_clearNet.desc).map (fun d => d.parameters.length) = some 0 := ⟨by decide +kernel, by decide +kernel, by decide +kernel⟩
theorem vX6_65 : z_CV RX6 65 yX6_clearNet cX6_clearNet 2 none 0 := ⟨z_in (List.mem_append_right _ (List.mem_of_getElem? (i := 525) (by decide +kernel))) rfl, wi_X6_clearNet, wl_X6_clearNet, nI_RX6, wc_X6_clearNet, wd_X6_clearNet, by decide⟩
theorem wi_X6_addToNet : Cond.instanceMethod yX6_addToNet ∈ z_all := z_in (List.mem_append_right _ (List.mem_of_getElem? (i := 531) (by decide +kernel))) rfl
theorem wl_X6_addToNet : Cond.selects RX6 yX6_addToNet yX6_addToNet ∈ z_all := z_in (List.mem_append_left _ (List.mem_of_getElem? (i := 18) (by decide +kernel))) rfl
theorem wd_X6_addToNet : yX6_addToNet.cls ≠ "java/lang/invoke/MethodHandle" ∧ yX6_addToNet.cls ≠ "java/lang/invoke/VarHandle" ∧ (parseMethodDescriptor yX6_addToNet.desc).map (fun d => d.parameters.length) = some 1 := ⟨by decide +kernel, by decide +kernel, by decide +kernel⟩
theorem vX6_68 : z_CV RX6 68 yX6_addToNet cX6_addToNet 3 none 1 := ⟨z_in (List.mem_append_right _ (List.mem_of_getElem? (i := 529) (by decide +kernel))) rfl, wi_X6_addToNet, wl_X6_addToNet, nI_RX6, wc_X6_addToNet, wd_X6_addToNet, by decide⟩
theorem wi_X6_hurtByNet : Cond.instanceMethod yX6_hurtByNet ∈ z_all := z_in (List.mem_append_right _ (List.mem_of_getElem? (i := 535) (by decide +kernel))) rfl
theorem wl_X6_hurtByNet : Cond.selects RX6 yX6_hurtByNet yX6_hurtByNet ∈ z_all := z_in (List.mem_append_left _ (List.mem_of_getElem? (i := 19) (by decide +kernel))) rfl
theorem wd_X6_hurtByNet : yX6_hurtByNet.cls ≠ "java/lang/invoke/MethodHandle" ∧ yX6_hurtByNet.cls ≠ "java/lang/invoke/VarHandle" ∧ (parseMethodDescriptor yX6_hurtByNet.desc).map (fun d => d.parameters.length) = some 0 := ⟨by decide +kernel, by decide +kernel, by decide +kernel⟩
theorem vX6_72 : z_CV RX6 72 yX6_hurtByNet cX6_hurtByNet 3 (some .int) 0 := ⟨z_in (List.mem_append_right _ (List.mem_of_getElem? (i := 533) (by decide +kernel))) rfl, wi_X6_hurtByNet, wl_X6_hurtByNet, nI_RX6, wc_X6_hurtByNet, wd_X6_hurtByNet, by decide⟩
theorem wi_X6_harmLeftOf : Cond.instanceMethod yX6_harmLeftOf ∈ z_all := z_in (List.mem_append_right _ (List.mem_of_getElem? (i := 676) (by decide +kernel))) rfl
theorem wl_X6_harmLeftOf : Cond.selects RX6 yX6_harmLeftOf yX6_harmLeftOf ∈ z_all := z_in (List.mem_append_right _ (List.mem_of_getElem? (i := 677) (by decide +kernel))) rfl
theorem wd_X6_harmLeftOf : yX6_harmLeftOf.cls ≠ "java/lang/invoke/MethodHandle" ∧ yX6_harmLeftOf.cls ≠ "java/lang/invoke/VarHandle" ∧ (parseMethodDescriptor yX6_harmLeftOf.desc).map (fun d => d.parameters.length) = some 1 := ⟨by decide +kernel, by decide +kernel, by decide +kernel⟩
theorem vX6_82 : z_CV RX6 82 yX6_harmLeftOf cX6_harmLeftOf 4 (some .int) 1 := ⟨z_in (List.mem_append_right _ (List.mem_of_getElem? (i := 675) (by decide +kernel))) rfl, wi_X6_harmLeftOf, wl_X6_harmLeftOf, nI_RX6, wc_X6_harmLeftOf, wd_X6_harmLeftOf, by decide⟩
theorem wi_X6_somethingCameOf : Cond.instanceMethod yX6_somethingCameOf ∈ z_all := z_in (List.mem_append_right _ (List.mem_of_getElem? (i := 685) (by decide +kernel))) rfl
theorem wl_X6_somethingCameOf : Cond.selects RX6 yX6_somethingCameOf yX6_somethingCameOf ∈ z_all := z_in (List.mem_append_left _ (List.mem_of_getElem? (i := 25) (by decide +kernel))) rfl
theorem wd_X6_somethingCameOf : yX6_somethingCameOf.cls ≠ "java/lang/invoke/MethodHandle" ∧ yX6_somethingCameOf.cls ≠ "java/lang/invoke/VarHandle" ∧ (parseMethodDescriptor yX6_somethingCameOf.desc).map (fun d => d.parameters.length) = some 1 := ⟨by decide +kernel, by decide +kernel, by decide +kernel⟩
theorem vX6_86 : z_CV RX6 86 yX6_somethingCameOf cX6_somethingCameOf 3 (some .boolean) 1 := ⟨z_in (List.mem_append_right _ (List.mem_of_getElem? (i := 683) (by decide +kernel))) rfl, wi_X6_somethingCameOf, wl_X6_somethingCameOf, nI_RX6, wc_X6_somethingCameOf, wd_X6_somethingCameOf, by decide⟩
theorem vX7_20 : z_CV RX7 20 yX7_set cX7_set 4 none 3 := ⟨z_in (List.mem_append_right _ (List.mem_of_getElem? (i := 308) (by decide +kernel))) rfl, wi_X7_set, wl_X7_set, nI_RX7, wc_X7_set, wd_X7_set, by decide⟩
theorem wi_X7_bearersOf : Cond.instanceMethod yX7_bearersOf ∈ z_all := z_in (List.mem_append_right _ (List.mem_of_getElem? (i := 318) (by decide +kernel))) rfl
theorem wl_X7_bearersOf : Cond.selects RX7 yX7_bearersOf yX7_bearersOf ∈ z_all := z_in (List.mem_append_left _ (List.mem_of_getElem? (i := 0) (by decide +kernel))) rfl
theorem wd_X7_bearersOf : yX7_bearersOf.cls ≠ "java/lang/invoke/MethodHandle" ∧ yX7_bearersOf.cls ≠ "java/lang/invoke/VarHandle" ∧ (parseMethodDescriptor yX7_bearersOf.desc).map (fun d => d.parameters.length) = some 1 := ⟨by decide +kernel, by decide +kernel, by decide +kernel⟩
theorem vX7_34 : z_CV RX7 34 yX7_bearersOf cX7_bearersOf 2 (some .int) 1 := ⟨z_in (List.mem_append_right _ (List.mem_of_getElem? (i := 316) (by decide +kernel))) rfl, wi_X7_bearersOf, wl_X7_bearersOf, nI_RX7, wc_X7_bearersOf, wd_X7_bearersOf, by decide⟩
theorem wi_X7_has : Cond.instanceMethod yX7_has ∈ z_all := z_in (List.mem_append_right _ (List.mem_of_getElem? (i := 313) (by decide +kernel))) rfl
theorem wl_X7_has : Cond.selects RX7 yX7_has yX7_has ∈ z_all := z_in (List.mem_append_right _ (List.mem_of_getElem? (i := 314) (by decide +kernel))) rfl
theorem wd_X7_has : yX7_has.cls ≠ "java/lang/invoke/MethodHandle" ∧ yX7_has.cls ≠ "java/lang/invoke/VarHandle" ∧ (parseMethodDescriptor yX7_has.desc).map (fun d => d.parameters.length) = some 2 := ⟨by decide +kernel, by decide +kernel, by decide +kernel⟩
theorem vX7_38 : z_CV RX7 38 yX7_has cX7_has 3 (some .boolean) 2 := ⟨z_in (List.mem_append_right _ (List.mem_of_getElem? (i := 312) (by decide +kernel))) rfl, wi_X7_has, wl_X7_has, nI_RX7, wc_X7_has, wd_X7_has, by decide⟩
theorem wi_X7_newPerson : Cond.instanceMethod yX7_newPerson ∈ z_all := z_in (List.mem_append_right _ (List.mem_of_getElem? (i := 370) (by decide +kernel))) rfl
theorem wl_X7_newPerson : Cond.selects RX7 yX7_newPerson yX7_newPerson ∈ z_all := z_in (List.mem_append_right _ (List.mem_of_getElem? (i := 371) (by decide +kernel))) rfl
theorem wd_X7_newPerson : yX7_newPerson.cls ≠ "java/lang/invoke/MethodHandle" ∧ yX7_newPerson.cls ≠ "java/lang/invoke/VarHandle" ∧ (parseMethodDescriptor yX7_newPerson.desc).map (fun d => d.parameters.length) = some 1 := ⟨by decide +kernel, by decide +kernel, by decide +kernel⟩
theorem vX8_101 : z_CV RX8 101 yX7_newPerson cX7_newPerson 3 (some .int) 1 := ⟨z_in (List.mem_append_right _ (List.mem_of_getElem? (i := 369) (by decide +kernel))) rfl, wi_X7_newPerson, wl_X7_newPerson, nI_RX7, wc_X7_newPerson, wd_X7_newPerson, by decide⟩
theorem vX8_104 : z_CV RX8 104 yX7_has cX7_has 3 (some .boolean) 2 := ⟨z_in (List.mem_append_right _ (List.mem_of_getElem? (i := 377) (by decide +kernel))) rfl, wi_X7_has, wl_X7_has, nI_RX7, wc_X7_has, wd_X7_has, by decide⟩
theorem vX8_107 : z_CV RX8 107 yX7_get cX7_get 3 (some .int) 2 := ⟨z_in (List.mem_append_right _ (List.mem_of_getElem? (i := 378) (by decide +kernel))) rfl, wi_X7_get, wl_X7_get, nI_RX7, wc_X7_get, wd_X7_get, by decide⟩
theorem vX8_111 : z_CV RX8 111 yX7_set cX7_set 4 none 3 := ⟨z_in (List.mem_append_right _ (List.mem_of_getElem? (i := 382) (by decide +kernel))) rfl, wi_X7_set, wl_X7_set, nI_RX7, wc_X7_set, wd_X7_set, by decide⟩
theorem wi_X0_note : Cond.instanceMethod yX0_note ∈ z_all := z_in (List.mem_append_right _ (List.mem_of_getElem? (i := 384) (by decide +kernel))) rfl
theorem wl_X0_note : Cond.selects RX0 yX0_note yX0_note ∈ z_all := z_in (List.mem_append_right _ (List.mem_of_getElem? (i := 385) (by decide +kernel))) rfl
theorem wd_X0_note : yX0_note.cls ≠ "java/lang/invoke/MethodHandle" ∧ yX0_note.cls ≠ "java/lang/invoke/VarHandle" ∧ (parseMethodDescriptor yX0_note.desc).map (fun d => d.parameters.length) = some 4 := ⟨by decide +kernel, by decide +kernel, by decide +kernel⟩
theorem vX8_115 : z_CV RX8 115 yX0_note cX0_note 5 none 4 := ⟨z_in (List.mem_append_right _ (List.mem_of_getElem? (i := 383) (by decide +kernel))) rfl, wi_X0_note, wl_X0_note, nI_RX0, wc_X0_note, wd_X0_note, by decide⟩
theorem wi_X8_isMesh : Cond.instanceMethod yX8_isMesh ∈ z_all := z_in (List.mem_append_right _ (List.mem_of_getElem? (i := 397) (by decide +kernel))) rfl
theorem wl_X8_isMesh : Cond.selects RX8 yX8_isMesh yX8_isMesh ∈ z_all := z_in (List.mem_append_left _ (List.mem_of_getElem? (i := 4) (by decide +kernel))) rfl
theorem wd_X8_isMesh : yX8_isMesh.cls ≠ "java/lang/invoke/MethodHandle" ∧ yX8_isMesh.cls ≠ "java/lang/invoke/VarHandle" ∧ (parseMethodDescriptor yX8_isMesh.desc).map (fun d => d.parameters.length) = some 1 := ⟨by decide +kernel, by decide +kernel, by decide +kernel⟩
theorem vX8_119 : z_CV RX8 119 yX8_isMesh cX8_isMesh 2 (some .boolean) 1 := ⟨z_in (List.mem_append_right _ (List.mem_of_getElem? (i := 395) (by decide +kernel))) rfl, wi_X8_isMesh, wl_X8_isMesh, nI_RX8, wc_X8_isMesh, wd_X8_isMesh, by decide⟩
theorem wi_X1_lyingIn : Cond.instanceMethod yX1_lyingIn ∈ z_all := z_in (List.mem_append_right _ (List.mem_of_getElem? (i := 400) (by decide +kernel))) rfl
theorem wl_X1_lyingIn : Cond.selects RX1 yX1_lyingIn yX1_lyingIn ∈ z_all := z_in (List.mem_append_right _ (List.mem_of_getElem? (i := 401) (by decide +kernel))) rfl
theorem wd_X1_lyingIn : yX1_lyingIn.cls ≠ "java/lang/invoke/MethodHandle" ∧ yX1_lyingIn.cls ≠ "java/lang/invoke/VarHandle" ∧ (parseMethodDescriptor yX1_lyingIn.desc).map (fun d => d.parameters.length) = some 1 := ⟨by decide +kernel, by decide +kernel, by decide +kernel⟩
theorem vX8_122 : z_CV RX8 122 yX1_lyingIn cX1_lyingIn 2 (some .int) 1 := ⟨z_in (List.mem_append_right _ (List.mem_of_getElem? (i := 399) (by decide +kernel))) rfl, wi_X1_lyingIn, wl_X1_lyingIn, nI_RX1, wc_X1_lyingIn, wd_X1_lyingIn, by decide⟩
theorem wi_X1_harmIn : Cond.instanceMethod yX1_harmIn ∈ z_all := z_in (List.mem_append_right _ (List.mem_of_getElem? (i := 404) (by decide +kernel))) rfl
theorem wl_X1_harmIn : Cond.selects RX1 yX1_harmIn yX1_harmIn ∈ z_all := z_in (List.mem_append_right _ (List.mem_of_getElem? (i := 405) (by decide +kernel))) rfl
theorem wd_X1_harmIn : yX1_harmIn.cls ≠ "java/lang/invoke/MethodHandle" ∧ yX1_harmIn.cls ≠ "java/lang/invoke/VarHandle" ∧ (parseMethodDescriptor yX1_harmIn.desc).map (fun d => d.parameters.length) = some 1 := ⟨by decide +kernel, by decide +kernel, by decide +kernel⟩
theorem vX8_125 : z_CV RX8 125 yX1_harmIn cX1_harmIn 2 (some .int) 1 := ⟨z_in (List.mem_append_right _ (List.mem_of_getElem? (i := 403) (by decide +kernel))) rfl, wi_X1_harmIn, wl_X1_harmIn, nI_RX1, wc_X1_harmIn, wd_X1_harmIn, by decide⟩
theorem wi_X2_take : Cond.instanceMethod yX2_take ∈ z_all := z_in (List.mem_append_right _ (List.mem_of_getElem? (i := 412) (by decide +kernel))) rfl
theorem wl_X2_take : Cond.selects RX2 yX2_take yX2_take ∈ z_all := z_in (List.mem_append_right _ (List.mem_of_getElem? (i := 413) (by decide +kernel))) rfl
theorem wd_X2_take : yX2_take.cls ≠ "java/lang/invoke/MethodHandle" ∧ yX2_take.cls ≠ "java/lang/invoke/VarHandle" ∧ (parseMethodDescriptor yX2_take.desc).map (fun d => d.parameters.length) = some 1 := ⟨by decide +kernel, by decide +kernel, by decide +kernel⟩
theorem vX8_128 : z_CV RX8 128 yX2_take cX2_take 2 (some .int) 1 := ⟨z_in (List.mem_append_right _ (List.mem_of_getElem? (i := 411) (by decide +kernel))) rfl, wi_X2_take, wl_X2_take, nI_RX2, wc_X2_take, wd_X2_take, by decide⟩
theorem wi_X2_becomeTape : Cond.instanceMethod yX2_becomeTape ∈ z_all := z_in (List.mem_append_right _ (List.mem_of_getElem? (i := 420) (by decide +kernel))) rfl
theorem wl_X2_becomeTape : Cond.selects RX2 yX2_becomeTape yX2_becomeTape ∈ z_all := z_in (List.mem_append_right _ (List.mem_of_getElem? (i := 421) (by decide +kernel))) rfl
theorem wd_X2_becomeTape : yX2_becomeTape.cls ≠ "java/lang/invoke/MethodHandle" ∧ yX2_becomeTape.cls ≠ "java/lang/invoke/VarHandle" ∧ (parseMethodDescriptor yX2_becomeTape.desc).map (fun d => d.parameters.length) = some 0 := ⟨by decide +kernel, by decide +kernel, by decide +kernel⟩
theorem vX8_131 : z_CV RX8 131 yX2_becomeTape cX2_becomeTape 2 (some .int) 0 := ⟨z_in (List.mem_append_right _ (List.mem_of_getElem? (i := 419) (by decide +kernel))) rfl, wi_X2_becomeTape, wl_X2_becomeTape, nI_RX2, wc_X2_becomeTape, wd_X2_becomeTape, by decide⟩
theorem wi_X8_fineOf : Cond.instanceMethod yX8_fineOf ∈ z_all := z_in (List.mem_append_right _ (List.mem_of_getElem? (i := 470) (by decide +kernel))) rfl
theorem wl_X8_fineOf : Cond.selects RX8 yX8_fineOf yX8_fineOf ∈ z_all := z_in (List.mem_append_left _ (List.mem_of_getElem? (i := 13) (by decide +kernel))) rfl
theorem wd_X8_fineOf : yX8_fineOf.cls ≠ "java/lang/invoke/MethodHandle" ∧ yX8_fineOf.cls ≠ "java/lang/invoke/VarHandle" ∧ (parseMethodDescriptor yX8_fineOf.desc).map (fun d => d.parameters.length) = some 1 := ⟨by decide +kernel, by decide +kernel, by decide +kernel⟩
theorem vX8_139 : z_CV RX8 139 yX8_fineOf cX8_fineOf 2 (some .int) 1 := ⟨z_in (List.mem_append_right _ (List.mem_of_getElem? (i := 468) (by decide +kernel))) rfl, wi_X8_fineOf, wl_X8_fineOf, nI_RX8, wc_X8_fineOf, wd_X8_fineOf, by decide⟩
theorem vX8_142 : z_CV RX8 142 yX6_passes cX6_passes 7 (some .boolean) 4 := ⟨z_in (List.mem_append_right _ (List.mem_of_getElem? (i := 472) (by decide +kernel))) rfl, wi_X6_passes, wl_X6_passes, nI_RX6, wc_X6_passes, wd_X6_passes, by decide⟩
theorem wi_X8_hear : Cond.instanceMethod yX8_hear ∈ z_all := z_in (List.mem_append_right _ (List.mem_of_getElem? (i := 494) (by decide +kernel))) rfl
theorem wl_X8_hear : Cond.selects RX8 yX8_hear yX8_hear ∈ z_all := z_in (List.mem_append_left _ (List.mem_of_getElem? (i := 14) (by decide +kernel))) rfl
theorem wd_X8_hear : yX8_hear.cls ≠ "java/lang/invoke/MethodHandle" ∧ yX8_hear.cls ≠ "java/lang/invoke/VarHandle" ∧ (parseMethodDescriptor yX8_hear.desc).map (fun d => d.parameters.length) = some 2 := ⟨by decide +kernel, by decide +kernel, by decide +kernel⟩
theorem vX8_146 : z_CV RX8 146 yX8_hear cX8_hear 4 (some .int) 2 := ⟨z_in (List.mem_append_right _ (List.mem_of_getElem? (i := 492) (by decide +kernel))) rfl, wi_X8_hear, wl_X8_hear, nI_RX8, wc_X8_hear, wd_X8_hear, by decide⟩
theorem vX8_149 : z_CV RX8 149 yX6_strain cX6_strain 7 none 4 := ⟨z_in (List.mem_append_right _ (List.mem_of_getElem? (i := 507) (by decide +kernel))) rfl, wi_X6_strain, wl_X6_strain, nI_RX6, wc_X6_strain, wd_X6_strain, by decide⟩
theorem wi_X6_makesSense : Cond.instanceMethod yX6_makesSense ∈ z_all := z_in (List.mem_append_right _ (List.mem_of_getElem? (i := 513) (by decide +kernel))) rfl
theorem wl_X6_makesSense : Cond.selects RX6 yX6_makesSense yX6_makesSense ∈ z_all := z_in (List.mem_append_right _ (List.mem_of_getElem? (i := 514) (by decide +kernel))) rfl
theorem wd_X6_makesSense : yX6_makesSense.cls ≠ "java/lang/invoke/MethodHandle" ∧ yX6_makesSense.cls ≠ "java/lang/invoke/VarHandle" ∧ (parseMethodDescriptor yX6_makesSense.desc).map (fun d => d.parameters.length) = some 2 := ⟨by decide +kernel, by decide +kernel, by decide +kernel⟩
theorem vX8_162 : z_CV RX8 162 yX6_makesSense cX6_makesSense 4 (some .boolean) 2 := ⟨z_in (List.mem_append_right _ (List.mem_of_getElem? (i := 512) (by decide +kernel))) rfl, wi_X6_makesSense, wl_X6_makesSense, nI_RX6, wc_X6_makesSense, wd_X6_makesSense, by decide⟩
theorem vX8_166 : z_CV RX8 166 yX6_hurtBy cX6_hurtBy 4 (some .int) 2 := ⟨z_in (List.mem_append_right _ (List.mem_of_getElem? (i := 521) (by decide +kernel))) rfl, wi_X6_hurtBy, wl_X6_hurtBy, nI_RX6, wc_X6_hurtBy, wd_X6_hurtBy, by decide⟩
theorem wi_X6_sumOf : Cond.instanceMethod yX6_sumOf ∈ z_all := z_in (List.mem_append_right _ (List.mem_of_getElem? (i := 538) (by decide +kernel))) rfl
theorem wl_X6_sumOf : Cond.selects RX6 yX6_sumOf yX6_sumOf ∈ z_all := z_in (List.mem_append_right _ (List.mem_of_getElem? (i := 539) (by decide +kernel))) rfl
theorem wd_X6_sumOf : yX6_sumOf.cls ≠ "java/lang/invoke/MethodHandle" ∧ yX6_sumOf.cls ≠ "java/lang/invoke/VarHandle" ∧ (parseMethodDescriptor yX6_sumOf.desc).map (fun d => d.parameters.length) = some 3 := ⟨by decide +kernel, by decide +kernel, by decide +kernel⟩
theorem vX8_173 : z_CV RX8 173 yX6_sumOf cX6_sumOf 6 (some .int) 3 := ⟨z_in (List.mem_append_right _ (List.mem_of_getElem? (i := 537) (by decide +kernel))) rfl, wi_X6_sumOf, wl_X6_sumOf, nI_RX6, wc_X6_sumOf, wd_X6_sumOf, by decide⟩
theorem wi_X8_pairRefusal : Cond.instanceMethod yX8_pairRefusal ∈ z_all := z_in (List.mem_append_right _ (List.mem_of_getElem? (i := 551) (by decide +kernel))) rfl
theorem wl_X8_pairRefusal : Cond.selects RX8 yX8_pairRefusal yX8_pairRefusal ∈ z_all := z_in (List.mem_append_left _ (List.mem_of_getElem? (i := 20) (by decide +kernel))) rfl
theorem wd_X8_pairRefusal : yX8_pairRefusal.cls ≠ "java/lang/invoke/MethodHandle" ∧ yX8_pairRefusal.cls ≠ "java/lang/invoke/VarHandle" ∧ (parseMethodDescriptor yX8_pairRefusal.desc).map (fun d => d.parameters.length) = some 1 := ⟨by decide +kernel, by decide +kernel, by decide +kernel⟩
theorem vX8_177 : z_CV RX8 177 yX8_pairRefusal cX8_pairRefusal 4 (some .int) 1 := ⟨z_in (List.mem_append_right _ (List.mem_of_getElem? (i := 549) (by decide +kernel))) rfl, wi_X8_pairRefusal, wl_X8_pairRefusal, nI_RX8, wc_X8_pairRefusal, wd_X8_pairRefusal, by decide⟩
theorem wi_X8_readSaying : Cond.instanceMethod yX8_readSaying ∈ z_all := z_in (List.mem_append_right _ (List.mem_of_getElem? (i := 502) (by decide +kernel))) rfl
theorem wl_X8_readSaying : Cond.selects RX8 yX8_readSaying yX8_readSaying ∈ z_all := z_in (List.mem_append_left _ (List.mem_of_getElem? (i := 16) (by decide +kernel))) rfl
theorem wd_X8_readSaying : yX8_readSaying.cls ≠ "java/lang/invoke/MethodHandle" ∧ yX8_readSaying.cls ≠ "java/lang/invoke/VarHandle" ∧ (parseMethodDescriptor yX8_readSaying.desc).map (fun d => d.parameters.length) = some 2 := ⟨by decide +kernel, by decide +kernel, by decide +kernel⟩
theorem vX8_180 : z_CV RX8 180 yX8_readSaying cX8_readSaying 7 (some .int) 2 := ⟨z_in (List.mem_append_right _ (List.mem_of_getElem? (i := 500) (by decide +kernel))) rfl, wi_X8_readSaying, wl_X8_readSaying, nI_RX8, wc_X8_readSaying, wd_X8_readSaying, by decide⟩
theorem wi_X5_valueAt : Cond.instanceMethod yX5_valueAt ∈ z_all := z_in (List.mem_append_right _ (List.mem_of_getElem? (i := 349) (by decide +kernel))) rfl
theorem wl_X5_valueAt : Cond.selects RX5 yX5_valueAt yX5_valueAt ∈ z_all := z_in (List.mem_append_right _ (List.mem_of_getElem? (i := 350) (by decide +kernel))) rfl
theorem wd_X5_valueAt : yX5_valueAt.cls ≠ "java/lang/invoke/MethodHandle" ∧ yX5_valueAt.cls ≠ "java/lang/invoke/VarHandle" ∧ (parseMethodDescriptor yX5_valueAt.desc).map (fun d => d.parameters.length) = some 2 := ⟨by decide +kernel, by decide +kernel, by decide +kernel⟩
theorem vX8_184 : z_CV RX8 184 yX5_valueAt cX5_valueAt 3 (some .long) 2 := ⟨z_in (List.mem_append_right _ (List.mem_of_getElem? (i := 348) (by decide +kernel))) rfl, wi_X5_valueAt, wl_X5_valueAt, nI_RX5, wc_X5_valueAt, wd_X5_valueAt, by decide⟩
theorem vX8_191 : z_CV RX8 191 yX6_copyCame cX6_copyCame 4 (some .int) 1 := ⟨z_in (List.mem_append_right _ (List.mem_of_getElem? (i := 553) (by decide +kernel))) rfl, wi_X6_copyCame, wl_X6_copyCame, nI_RX6, wc_X6_copyCame, wd_X6_copyCame, by decide⟩
theorem wi_X4_shortestSaying : Cond.instanceMethod yX4_shortestSaying ∈ z_all := z_in (List.mem_append_right _ (List.mem_of_getElem? (i := 562) (by decide +kernel))) rfl
theorem wl_X4_shortestSaying : Cond.selects RX4 yX4_shortestSaying yX4_shortestSaying ∈ z_all := z_in (List.mem_append_right _ (List.mem_of_getElem? (i := 563) (by decide +kernel))) rfl
theorem wd_X4_shortestSaying : yX4_shortestSaying.cls ≠ "java/lang/invoke/MethodHandle" ∧ yX4_shortestSaying.cls ≠ "java/lang/invoke/VarHandle" ∧ (parseMethodDescriptor yX4_shortestSaying.desc).map (fun d => d.parameters.length) = some 3 := ⟨by decide +kernel, by decide +kernel, by decide +kernel⟩
theorem vX8_195 : z_CV RX8 195 yX4_shortestSaying cX4_shortestSaying 8 (some .int) 3 := ⟨z_in (List.mem_append_right _ (List.mem_of_getElem? (i := 561) (by decide +kernel))) rfl, wi_X4_shortestSaying, wl_X4_shortestSaying, nI_RX4, wc_X4_shortestSaying, wd_X4_shortestSaying, by decide⟩
theorem wi_X4_foundAt : Cond.instanceMethod yX4_foundAt ∈ z_all := z_in (List.mem_append_right _ (List.mem_of_getElem? (i := 581) (by decide +kernel))) rfl
theorem wl_X4_foundAt : Cond.selects RX4 yX4_foundAt yX4_foundAt ∈ z_all := z_in (List.mem_append_right _ (List.mem_of_getElem? (i := 582) (by decide +kernel))) rfl
theorem wd_X4_foundAt : yX4_foundAt.cls ≠ "java/lang/invoke/MethodHandle" ∧ yX4_foundAt.cls ≠ "java/lang/invoke/VarHandle" ∧ (parseMethodDescriptor yX4_foundAt.desc).map (fun d => d.parameters.length) = some 1 := ⟨by decide +kernel, by decide +kernel, by decide +kernel⟩
theorem vX8_198 : z_CV RX8 198 yX4_foundAt cX4_foundAt 2 (some .int) 1 := ⟨z_in (List.mem_append_right _ (List.mem_of_getElem? (i := 580) (by decide +kernel))) rfl, wi_X4_foundAt, wl_X4_foundAt, nI_RX4, wc_X4_foundAt, wd_X4_foundAt, by decide⟩
theorem wi_X6_keepsJust : Cond.instanceMethod yX6_keepsJust ∈ z_all := z_in (List.mem_append_right _ (List.mem_of_getElem? (i := 593) (by decide +kernel))) rfl
theorem wl_X6_keepsJust : Cond.selects RX6 yX6_keepsJust yX6_keepsJust ∈ z_all := z_in (List.mem_append_right _ (List.mem_of_getElem? (i := 594) (by decide +kernel))) rfl
theorem wd_X6_keepsJust : yX6_keepsJust.cls ≠ "java/lang/invoke/MethodHandle" ∧ yX6_keepsJust.cls ≠ "java/lang/invoke/VarHandle" ∧ (parseMethodDescriptor yX6_keepsJust.desc).map (fun d => d.parameters.length) = some 2 := ⟨by decide +kernel, by decide +kernel, by decide +kernel⟩
theorem vX8_201 : z_CV RX8 201 yX6_keepsJust cX6_keepsJust 5 (some .boolean) 2 := ⟨z_in (List.mem_append_right _ (List.mem_of_getElem? (i := 592) (by decide +kernel))) rfl, wi_X6_keepsJust, wl_X6_keepsJust, nI_RX6, wc_X6_keepsJust, wd_X6_keepsJust, by decide⟩
theorem wi_X4_greatestHarmlessSet : Cond.instanceMethod yX4_greatestHarmlessSet ∈ z_all := z_in (List.mem_append_right _ (List.mem_of_getElem? (i := 605) (by decide +kernel))) rfl
theorem wl_X4_greatestHarmlessSet : Cond.selects RX4 yX4_greatestHarmlessSet yX4_greatestHarmlessSet ∈ z_all := z_in (List.mem_append_right _ (List.mem_of_getElem? (i := 606) (by decide +kernel))) rfl
theorem wd_X4_greatestHarmlessSet : yX4_greatestHarmlessSet.cls ≠ "java/lang/invoke/MethodHandle" ∧ yX4_greatestHarmlessSet.cls ≠ "java/lang/invoke/VarHandle" ∧ (parseMethodDescriptor yX4_greatestHarmlessSet.desc).map (fun d => d.parameters.length) = some 0 := ⟨by decide +kernel, by decide +kernel, by decide +kernel⟩
theorem vX8_204 : z_CV RX8 204 yX4_greatestHarmlessSet cX4_greatestHarmlessSet 6 (some .int) 0 := ⟨z_in (List.mem_append_right _ (List.mem_of_getElem? (i := 604) (by decide +kernel))) rfl, wi_X4_greatestHarmlessSet, wl_X4_greatestHarmlessSet, nI_RX4, wc_X4_greatestHarmlessSet, wd_X4_greatestHarmlessSet, by decide⟩
theorem sX8_207 : z_CS RX8 207 yJ6_bitCount_0f7a4 cJ6_bitCount_0f7a4 1 (some .int) 1 := ⟨Or.inl (z_in (List.mem_append_right _ (List.mem_of_getElem? (i := 618) (by decide +kernel))) rfl), z_in (List.mem_append_right _ (List.mem_of_getElem? (i := 609) (by decide +kernel))) rfl, nI_RJ6, wc_J6_bitCount_0f7a4, ⟨by decide +kernel, by decide +kernel, by decide +kernel⟩, by decide⟩
theorem wi_X8_isMeshOrNone : Cond.instanceMethod yX8_isMeshOrNone ∈ z_all := z_in (List.mem_append_right _ (List.mem_of_getElem? (i := 498) (by decide +kernel))) rfl
theorem wl_X8_isMeshOrNone : Cond.selects RX8 yX8_isMeshOrNone yX8_isMeshOrNone ∈ z_all := z_in (List.mem_append_left _ (List.mem_of_getElem? (i := 15) (by decide +kernel))) rfl
theorem wd_X8_isMeshOrNone : yX8_isMeshOrNone.cls ≠ "java/lang/invoke/MethodHandle" ∧ yX8_isMeshOrNone.cls ≠ "java/lang/invoke/VarHandle" ∧ (parseMethodDescriptor yX8_isMeshOrNone.desc).map (fun d => d.parameters.length) = some 1 := ⟨by decide +kernel, by decide +kernel, by decide +kernel⟩
theorem vX8_212 : z_CV RX8 212 yX8_isMeshOrNone cX8_isMeshOrNone 2 (some .boolean) 1 := ⟨z_in (List.mem_append_right _ (List.mem_of_getElem? (i := 496) (by decide +kernel))) rfl, wi_X8_isMeshOrNone, wl_X8_isMeshOrNone, nI_RX8, wc_X8_isMeshOrNone, wd_X8_isMeshOrNone, by decide⟩
theorem wi_X4_mergings : Cond.instanceMethod yX4_mergings ∈ z_all := z_in (List.mem_append_right _ (List.mem_of_getElem? (i := 625) (by decide +kernel))) rfl
theorem wl_X4_mergings : Cond.selects RX4 yX4_mergings yX4_mergings ∈ z_all := z_in (List.mem_append_right _ (List.mem_of_getElem? (i := 626) (by decide +kernel))) rfl
theorem wd_X4_mergings : yX4_mergings.cls ≠ "java/lang/invoke/MethodHandle" ∧ yX4_mergings.cls ≠ "java/lang/invoke/VarHandle" ∧ (parseMethodDescriptor yX4_mergings.desc).map (fun d => d.parameters.length) = some 5 := ⟨by decide +kernel, by decide +kernel, by decide +kernel⟩
theorem vX8_217 : z_CV RX8 217 yX4_mergings cX4_mergings 10 (some .long) 5 := ⟨z_in (List.mem_append_right _ (List.mem_of_getElem? (i := 624) (by decide +kernel))) rfl, wi_X4_mergings, wl_X4_mergings, nI_RX4, wc_X4_mergings, wd_X4_mergings, by decide⟩
theorem wi_X4_firstMerging : Cond.instanceMethod yX4_firstMerging ∈ z_all := z_in (List.mem_append_right _ (List.mem_of_getElem? (i := 633) (by decide +kernel))) rfl
theorem wl_X4_firstMerging : Cond.selects RX4 yX4_firstMerging yX4_firstMerging ∈ z_all := z_in (List.mem_append_right _ (List.mem_of_getElem? (i := 634) (by decide +kernel))) rfl
theorem wd_X4_firstMerging : yX4_firstMerging.cls ≠ "java/lang/invoke/MethodHandle" ∧ yX4_firstMerging.cls ≠ "java/lang/invoke/VarHandle" ∧ (parseMethodDescriptor yX4_firstMerging.desc).map (fun d => d.parameters.length) = some 5 := ⟨by decide +kernel, by decide +kernel, by decide +kernel⟩
theorem vX8_221 : z_CV RX8 221 yX4_firstMerging cX4_firstMerging 11 none 5 := ⟨z_in (List.mem_append_right _ (List.mem_of_getElem? (i := 632) (by decide +kernel))) rfl, wi_X4_firstMerging, wl_X4_firstMerging, nI_RX4, wc_X4_firstMerging, wd_X4_firstMerging, by decide⟩
theorem wi_X4_sayingsWithLeft : Cond.instanceMethod yX4_sayingsWithLeft ∈ z_all := z_in (List.mem_append_right _ (List.mem_of_getElem? (i := 641) (by decide +kernel))) rfl
theorem wl_X4_sayingsWithLeft : Cond.selects RX4 yX4_sayingsWithLeft yX4_sayingsWithLeft ∈ z_all := z_in (List.mem_append_right _ (List.mem_of_getElem? (i := 642) (by decide +kernel))) rfl
theorem wd_X4_sayingsWithLeft : yX4_sayingsWithLeft.cls ≠ "java/lang/invoke/MethodHandle" ∧ yX4_sayingsWithLeft.cls ≠ "java/lang/invoke/VarHandle" ∧ (parseMethodDescriptor yX4_sayingsWithLeft.desc).map (fun d => d.parameters.length) = some 4 := ⟨by decide +kernel, by decide +kernel, by decide +kernel⟩
theorem vX8_225 : z_CV RX8 225 yX4_sayingsWithLeft cX4_sayingsWithLeft 9 (some .long) 4 := ⟨z_in (List.mem_append_right _ (List.mem_of_getElem? (i := 640) (by decide +kernel))) rfl, wi_X4_sayingsWithLeft, wl_X4_sayingsWithLeft, nI_RX4, wc_X4_sayingsWithLeft, wd_X4_sayingsWithLeft, by decide⟩
theorem vX8_229 : z_CV RX8 229 yX6_cameJust cX6_cameJust 4 (some .boolean) 2 := ⟨z_in (List.mem_append_right _ (List.mem_of_getElem? (i := 652) (by decide +kernel))) rfl, wi_X6_cameJust, wl_X6_cameJust, nI_RX6, wc_X6_cameJust, wd_X6_cameJust, by decide⟩
theorem wi_X4_unheardBehind : Cond.instanceMethod yX4_unheardBehind ∈ z_all := z_in (List.mem_append_right _ (List.mem_of_getElem? (i := 661) (by decide +kernel))) rfl
theorem wl_X4_unheardBehind : Cond.selects RX4 yX4_unheardBehind yX4_unheardBehind ∈ z_all := z_in (List.mem_append_right _ (List.mem_of_getElem? (i := 662) (by decide +kernel))) rfl
theorem wd_X4_unheardBehind : yX4_unheardBehind.cls ≠ "java/lang/invoke/MethodHandle" ∧ yX4_unheardBehind.cls ≠ "java/lang/invoke/VarHandle" ∧ (parseMethodDescriptor yX4_unheardBehind.desc).map (fun d => d.parameters.length) = some 4 := ⟨by decide +kernel, by decide +kernel, by decide +kernel⟩
theorem vX8_232 : z_CV RX8 232 yX4_unheardBehind cX4_unheardBehind 9 (some .int) 4 := ⟨z_in (List.mem_append_right _ (List.mem_of_getElem? (i := 660) (by decide +kernel))) rfl, wi_X4_unheardBehind, wl_X4_unheardBehind, nI_RX4, wc_X4_unheardBehind, wd_X4_unheardBehind, by decide⟩
theorem wi_X6_mostHarmLeftOf : Cond.instanceMethod yX6_mostHarmLeftOf ∈ z_all := z_in (List.mem_append_right _ (List.mem_of_getElem? (i := 672) (by decide +kernel))) rfl
theorem wl_X6_mostHarmLeftOf : Cond.selects RX6 yX6_mostHarmLeftOf yX6_mostHarmLeftOf ∈ z_all := z_in (List.mem_append_right _ (List.mem_of_getElem? (i := 673) (by decide +kernel))) rfl
theorem wd_X6_mostHarmLeftOf : yX6_mostHarmLeftOf.cls ≠ "java/lang/invoke/MethodHandle" ∧ yX6_mostHarmLeftOf.cls ≠ "java/lang/invoke/VarHandle" ∧ (parseMethodDescriptor yX6_mostHarmLeftOf.desc).map (fun d => d.parameters.length) = some 0 := ⟨by decide +kernel, by decide +kernel, by decide +kernel⟩
theorem vX8_236 : z_CV RX8 236 yX6_mostHarmLeftOf cX6_mostHarmLeftOf 5 (some .int) 0 := ⟨z_in (List.mem_append_right _ (List.mem_of_getElem? (i := 671) (by decide +kernel))) rfl, wi_X6_mostHarmLeftOf, wl_X6_mostHarmLeftOf, nI_RX6, wc_X6_mostHarmLeftOf, wd_X6_mostHarmLeftOf, by decide⟩
theorem wi_X6_spite : Cond.instanceMethod yX6_spite ∈ z_all := z_in (List.mem_append_right _ (List.mem_of_getElem? (i := 680) (by decide +kernel))) rfl
theorem wl_X6_spite : Cond.selects RX6 yX6_spite yX6_spite ∈ z_all := z_in (List.mem_append_right _ (List.mem_of_getElem? (i := 681) (by decide +kernel))) rfl
theorem wd_X6_spite : yX6_spite.cls ≠ "java/lang/invoke/MethodHandle" ∧ yX6_spite.cls ≠ "java/lang/invoke/VarHandle" ∧ (parseMethodDescriptor yX6_spite.desc).map (fun d => d.parameters.length) = some 0 := ⟨by decide +kernel, by decide +kernel, by decide +kernel⟩
theorem vX8_239 : z_CV RX8 239 yX6_spite cX6_spite 3 (some .int) 0 := ⟨z_in (List.mem_append_right _ (List.mem_of_getElem? (i := 679) (by decide +kernel))) rfl, wi_X6_spite, wl_X6_spite, nI_RX6, wc_X6_spite, wd_X6_spite, by decide⟩
theorem vX8_242 : z_CV RX8 242 yX6_harmLeftOf cX6_harmLeftOf 4 (some .int) 1 := ⟨z_in (List.mem_append_right _ (List.mem_of_getElem? (i := 691) (by decide +kernel))) rfl, wi_X6_harmLeftOf, wl_X6_harmLeftOf, nI_RX6, wc_X6_harmLeftOf, wd_X6_harmLeftOf, by decide⟩
theorem sX8_245 : z_CS RX8 245 yX8_greatestCommon cX8_greatestCommon 6 (some .int) 2 := ⟨Or.inl (z_in (List.mem_append_right _ (List.mem_of_getElem? (i := 692) (by decide +kernel))) rfl), z_in (List.mem_append_right _ (List.mem_of_getElem? (i := 693) (by decide +kernel))) rfl, nI_RX8, wc_X8_greatestCommon, ⟨by decide +kernel, by decide +kernel, by decide +kernel⟩, by decide⟩
theorem wi_X4_winningWord : Cond.instanceMethod yX4_winningWord ∈ z_all := z_in (List.mem_append_right _ (List.mem_of_getElem? (i := 700) (by decide +kernel))) rfl
theorem wl_X4_winningWord : Cond.selects RX4 yX4_winningWord yX4_winningWord ∈ z_all := z_in (List.mem_append_right _ (List.mem_of_getElem? (i := 701) (by decide +kernel))) rfl
theorem wd_X4_winningWord : yX4_winningWord.cls ≠ "java/lang/invoke/MethodHandle" ∧ yX4_winningWord.cls ≠ "java/lang/invoke/VarHandle" ∧ (parseMethodDescriptor yX4_winningWord.desc).map (fun d => d.parameters.length) = some 1 := ⟨by decide +kernel, by decide +kernel, by decide +kernel⟩
theorem vX8_248 : z_CV RX8 248 yX4_winningWord cX4_winningWord 5 (some .int) 1 := ⟨z_in (List.mem_append_right _ (List.mem_of_getElem? (i := 699) (by decide +kernel))) rfl, wi_X4_winningWord, wl_X4_winningWord, nI_RX4, wc_X4_winningWord, wd_X4_winningWord, by decide⟩
theorem wi_X4_drawnEvenings : Cond.instanceMethod yX4_drawnEvenings ∈ z_all := z_in (List.mem_append_right _ (List.mem_of_getElem? (i := 712) (by decide +kernel))) rfl
theorem wl_X4_drawnEvenings : Cond.selects RX4 yX4_drawnEvenings yX4_drawnEvenings ∈ z_all := z_in (List.mem_append_right _ (List.mem_of_getElem? (i := 713) (by decide +kernel))) rfl
theorem wd_X4_drawnEvenings : yX4_drawnEvenings.cls ≠ "java/lang/invoke/MethodHandle" ∧ yX4_drawnEvenings.cls ≠ "java/lang/invoke/VarHandle" ∧ (parseMethodDescriptor yX4_drawnEvenings.desc).map (fun d => d.parameters.length) = some 5 := ⟨by decide +kernel, by decide +kernel, by decide +kernel⟩
theorem vX8_251 : z_CV RX8 251 yX4_drawnEvenings cX4_drawnEvenings 13 (some .int) 5 := ⟨z_in (List.mem_append_right _ (List.mem_of_getElem? (i := 711) (by decide +kernel))) rfl, wi_X4_drawnEvenings, wl_X4_drawnEvenings, nI_RX4, wc_X4_drawnEvenings, wd_X4_drawnEvenings, by decide⟩
theorem wi_X1_noteSaying : Cond.instanceMethod yX1_noteSaying ∈ z_all := z_in (List.mem_append_right _ (List.mem_of_getElem? (i := 722) (by decide +kernel))) rfl
theorem wl_X1_noteSaying : Cond.selects RX1 yX1_noteSaying yX1_noteSaying ∈ z_all := z_in (List.mem_append_right _ (List.mem_of_getElem? (i := 723) (by decide +kernel))) rfl
theorem wd_X1_noteSaying : yX1_noteSaying.cls ≠ "java/lang/invoke/MethodHandle" ∧ yX1_noteSaying.cls ≠ "java/lang/invoke/VarHandle" ∧ (parseMethodDescriptor yX1_noteSaying.desc).map (fun d => d.parameters.length) = some 5 := ⟨by decide +kernel, by decide +kernel, by decide +kernel⟩
theorem vX8_255 : z_CV RX8 255 yX1_noteSaying cX1_noteSaying 6 none 5 := ⟨z_in (List.mem_append_right _ (List.mem_of_getElem? (i := 721) (by decide +kernel))) rfl, wi_X1_noteSaying, wl_X1_noteSaying, nI_RX1, wc_X1_noteSaying, wd_X1_noteSaying, by decide⟩
theorem wi_X1_rinseOut : Cond.instanceMethod yX1_rinseOut ∈ z_all := z_in (List.mem_append_right _ (List.mem_of_getElem? (i := 730) (by decide +kernel))) rfl
theorem wl_X1_rinseOut : Cond.selects RX1 yX1_rinseOut yX1_rinseOut ∈ z_all := z_in (List.mem_append_right _ (List.mem_of_getElem? (i := 731) (by decide +kernel))) rfl
theorem wd_X1_rinseOut : yX1_rinseOut.cls ≠ "java/lang/invoke/MethodHandle" ∧ yX1_rinseOut.cls ≠ "java/lang/invoke/VarHandle" ∧ (parseMethodDescriptor yX1_rinseOut.desc).map (fun d => d.parameters.length) = some 1 := ⟨by decide +kernel, by decide +kernel, by decide +kernel⟩
theorem vX8_259 : z_CV RX8 259 yX1_rinseOut cX1_rinseOut 3 (some .int) 1 := ⟨z_in (List.mem_append_right _ (List.mem_of_getElem? (i := 729) (by decide +kernel))) rfl, wi_X1_rinseOut, wl_X1_rinseOut, nI_RX1, wc_X1_rinseOut, wd_X1_rinseOut, by decide⟩
theorem wi_X1_ledOf : Cond.instanceMethod yX1_ledOf ∈ z_all := z_in (List.mem_append_right _ (List.mem_of_getElem? (i := 738) (by decide +kernel))) rfl
theorem wl_X1_ledOf : Cond.selects RX1 yX1_ledOf yX1_ledOf ∈ z_all := z_in (List.mem_append_right _ (List.mem_of_getElem? (i := 739) (by decide +kernel))) rfl
theorem wd_X1_ledOf : yX1_ledOf.cls ≠ "java/lang/invoke/MethodHandle" ∧ yX1_ledOf.cls ≠ "java/lang/invoke/VarHandle" ∧ (parseMethodDescriptor yX1_ledOf.desc).map (fun d => d.parameters.length) = some 1 := ⟨by decide +kernel, by decide +kernel, by decide +kernel⟩
theorem vX8_262 : z_CV RX8 262 yX1_ledOf cX1_ledOf 2 (some .int) 1 := ⟨z_in (List.mem_append_right _ (List.mem_of_getElem? (i := 737) (by decide +kernel))) rfl, wi_X1_ledOf, wl_X1_ledOf, nI_RX1, wc_X1_ledOf, wd_X1_ledOf, by decide⟩
theorem wi_X1_keepImage : Cond.instanceMethod yX1_keepImage ∈ z_all := z_in (List.mem_append_right _ (List.mem_of_getElem? (i := 746) (by decide +kernel))) rfl
theorem wl_X1_keepImage : Cond.selects RX1 yX1_keepImage yX1_keepImage ∈ z_all := z_in (List.mem_append_right _ (List.mem_of_getElem? (i := 747) (by decide +kernel))) rfl
theorem wd_X1_keepImage : yX1_keepImage.cls ≠ "java/lang/invoke/MethodHandle" ∧ yX1_keepImage.cls ≠ "java/lang/invoke/VarHandle" ∧ (parseMethodDescriptor yX1_keepImage.desc).map (fun d => d.parameters.length) = some 0 := ⟨by decide +kernel, by decide +kernel, by decide +kernel⟩
theorem vX8_265 : z_CV RX8 265 yX1_keepImage cX1_keepImage 1 (some .int) 0 := ⟨z_in (List.mem_append_right _ (List.mem_of_getElem? (i := 745) (by decide +kernel))) rfl, wi_X1_keepImage, wl_X1_keepImage, nI_RX1, wc_X1_keepImage, wd_X1_keepImage, by decide⟩
theorem wi_X1_layBack : Cond.instanceMethod yX1_layBack ∈ z_all := z_in (List.mem_append_right _ (List.mem_of_getElem? (i := 757) (by decide +kernel))) rfl
theorem wl_X1_layBack : Cond.selects RX1 yX1_layBack yX1_layBack ∈ z_all := z_in (List.mem_append_right _ (List.mem_of_getElem? (i := 758) (by decide +kernel))) rfl
theorem wd_X1_layBack : yX1_layBack.cls ≠ "java/lang/invoke/MethodHandle" ∧ yX1_layBack.cls ≠ "java/lang/invoke/VarHandle" ∧ (parseMethodDescriptor yX1_layBack.desc).map (fun d => d.parameters.length) = some 0 := ⟨by decide +kernel, by decide +kernel, by decide +kernel⟩
theorem vX8_268 : z_CV RX8 268 yX1_layBack cX1_layBack 1 (some .int) 0 := ⟨z_in (List.mem_append_right _ (List.mem_of_getElem? (i := 756) (by decide +kernel))) rfl, wi_X1_layBack, wl_X1_layBack, nI_RX1, wc_X1_layBack, wd_X1_layBack, by decide⟩
theorem wi_X0_stepBack : Cond.instanceMethod yX0_stepBack ∈ z_all := z_in (List.mem_append_right _ (List.mem_of_getElem? (i := 765) (by decide +kernel))) rfl
theorem wl_X0_stepBack : Cond.selects RX0 yX0_stepBack yX0_stepBack ∈ z_all := z_in (List.mem_append_right _ (List.mem_of_getElem? (i := 766) (by decide +kernel))) rfl
theorem wd_X0_stepBack : yX0_stepBack.cls ≠ "java/lang/invoke/MethodHandle" ∧ yX0_stepBack.cls ≠ "java/lang/invoke/VarHandle" ∧ (parseMethodDescriptor yX0_stepBack.desc).map (fun d => d.parameters.length) = some 1 := ⟨by decide +kernel, by decide +kernel, by decide +kernel⟩
theorem vX8_271 : z_CV RX8 271 yX0_stepBack cX0_stepBack 2 (some .int) 1 := ⟨z_in (List.mem_append_right _ (List.mem_of_getElem? (i := 764) (by decide +kernel))) rfl, wi_X0_stepBack, wl_X0_stepBack, nI_RX0, wc_X0_stepBack, wd_X0_stepBack, by decide⟩
theorem wi_X0_stepOn : Cond.instanceMethod yX0_stepOn ∈ z_all := z_in (List.mem_append_right _ (List.mem_of_getElem? (i := 774) (by decide +kernel))) rfl
theorem wl_X0_stepOn : Cond.selects RX0 yX0_stepOn yX0_stepOn ∈ z_all := z_in (List.mem_append_right _ (List.mem_of_getElem? (i := 775) (by decide +kernel))) rfl
theorem wd_X0_stepOn : yX0_stepOn.cls ≠ "java/lang/invoke/MethodHandle" ∧ yX0_stepOn.cls ≠ "java/lang/invoke/VarHandle" ∧ (parseMethodDescriptor yX0_stepOn.desc).map (fun d => d.parameters.length) = some 1 := ⟨by decide +kernel, by decide +kernel, by decide +kernel⟩
theorem vX8_275 : z_CV RX8 275 yX0_stepOn cX0_stepOn 2 (some .int) 1 := ⟨z_in (List.mem_append_right _ (List.mem_of_getElem? (i := 773) (by decide +kernel))) rfl, wi_X0_stepOn, wl_X0_stepOn, nI_RX0, wc_X0_stepOn, wd_X0_stepOn, by decide⟩
theorem wi_X3_keepBody : Cond.instanceMethod yX3_keepBody ∈ z_all := z_in (List.mem_append_right _ (List.mem_of_getElem? (i := 782) (by decide +kernel))) rfl
theorem wl_X3_keepBody : Cond.selects RX3 yX3_keepBody yX3_keepBody ∈ z_all := z_in (List.mem_append_right _ (List.mem_of_getElem? (i := 783) (by decide +kernel))) rfl
theorem wd_X3_keepBody : yX3_keepBody.cls ≠ "java/lang/invoke/MethodHandle" ∧ yX3_keepBody.cls ≠ "java/lang/invoke/VarHandle" ∧ (parseMethodDescriptor yX3_keepBody.desc).map (fun d => d.parameters.length) = some 1 := ⟨by decide +kernel, by decide +kernel, by decide +kernel⟩
theorem vX8_278 : z_CV RX8 278 yX3_keepBody cX3_keepBody 2 (some .int) 1 := ⟨z_in (List.mem_append_right _ (List.mem_of_getElem? (i := 781) (by decide +kernel))) rfl, wi_X3_keepBody, wl_X3_keepBody, nI_RX3, wc_X3_keepBody, wd_X3_keepBody, by decide⟩
theorem wi_X3_actOf : Cond.instanceMethod yX3_actOf ∈ z_all := z_in (List.mem_append_right _ (List.mem_of_getElem? (i := 790) (by decide +kernel))) rfl
theorem wl_X3_actOf : Cond.selects RX3 yX3_actOf yX3_actOf ∈ z_all := z_in (List.mem_append_right _ (List.mem_of_getElem? (i := 791) (by decide +kernel))) rfl
theorem wd_X3_actOf : yX3_actOf.cls ≠ "java/lang/invoke/MethodHandle" ∧ yX3_actOf.cls ≠ "java/lang/invoke/VarHandle" ∧ (parseMethodDescriptor yX3_actOf.desc).map (fun d => d.parameters.length) = some 3 := ⟨by decide +kernel, by decide +kernel, by decide +kernel⟩
theorem vX8_281 : z_CV RX8 281 yX3_actOf cX3_actOf 4 (some .int) 3 := ⟨z_in (List.mem_append_right _ (List.mem_of_getElem? (i := 789) (by decide +kernel))) rfl, wi_X3_actOf, wl_X3_actOf, nI_RX3, wc_X3_actOf, wd_X3_actOf, by decide⟩
theorem wi_X3_traceAt : Cond.instanceMethod yX3_traceAt ∈ z_all := z_in (List.mem_append_right _ (List.mem_of_getElem? (i := 821) (by decide +kernel))) rfl
theorem wl_X3_traceAt : Cond.selects RX3 yX3_traceAt yX3_traceAt ∈ z_all := z_in (List.mem_append_right _ (List.mem_of_getElem? (i := 822) (by decide +kernel))) rfl
theorem wd_X3_traceAt : yX3_traceAt.cls ≠ "java/lang/invoke/MethodHandle" ∧ yX3_traceAt.cls ≠ "java/lang/invoke/VarHandle" ∧ (parseMethodDescriptor yX3_traceAt.desc).map (fun d => d.parameters.length) = some 1 := ⟨by decide +kernel, by decide +kernel, by decide +kernel⟩
theorem vX8_284 : z_CV RX8 284 yX3_traceAt cX3_traceAt 2 (some .int) 1 := ⟨z_in (List.mem_append_right _ (List.mem_of_getElem? (i := 820) (by decide +kernel))) rfl, wi_X3_traceAt, wl_X3_traceAt, nI_RX3, wc_X3_traceAt, wd_X3_traceAt, by decide⟩
theorem wi_X5_hold : Cond.instanceMethod yX5_hold ∈ z_all := z_in (List.mem_append_right _ (List.mem_of_getElem? (i := 829) (by decide +kernel))) rfl
theorem wl_X5_hold : Cond.selects RX5 yX5_hold yX5_hold ∈ z_all := z_in (List.mem_append_right _ (List.mem_of_getElem? (i := 830) (by decide +kernel))) rfl
theorem wd_X5_hold : yX5_hold.cls ≠ "java/lang/invoke/MethodHandle" ∧ yX5_hold.cls ≠ "java/lang/invoke/VarHandle" ∧ (parseMethodDescriptor yX5_hold.desc).map (fun d => d.parameters.length) = some 2 := ⟨by decide +kernel, by decide +kernel, by decide +kernel⟩
theorem vX8_290 : z_CV RX8 290 yX5_hold cX5_hold 3 none 2 := ⟨z_in (List.mem_append_right _ (List.mem_of_getElem? (i := 828) (by decide +kernel))) rfl, wi_X5_hold, wl_X5_hold, nI_RX5, wc_X5_hold, wd_X5_hold, by decide⟩
theorem wi_X5_newRow : Cond.instanceMethod yX5_newRow ∈ z_all := z_in (List.mem_append_right _ (List.mem_of_getElem? (i := 837) (by decide +kernel))) rfl
theorem wl_X5_newRow : Cond.selects RX5 yX5_newRow yX5_newRow ∈ z_all := z_in (List.mem_append_right _ (List.mem_of_getElem? (i := 838) (by decide +kernel))) rfl
theorem wd_X5_newRow : yX5_newRow.cls ≠ "java/lang/invoke/MethodHandle" ∧ yX5_newRow.cls ≠ "java/lang/invoke/VarHandle" ∧ (parseMethodDescriptor yX5_newRow.desc).map (fun d => d.parameters.length) = some 3 := ⟨by decide +kernel, by decide +kernel, by decide +kernel⟩
theorem vX8_294 : z_CV RX8 294 yX5_newRow cX5_newRow 5 none 3 := ⟨z_in (List.mem_append_right _ (List.mem_of_getElem? (i := 836) (by decide +kernel))) rfl, wi_X5_newRow, wl_X5_newRow, nI_RX5, wc_X5_newRow, wd_X5_newRow, by decide⟩
theorem wi_X8_elementRefusal : Cond.instanceMethod yX8_elementRefusal ∈ z_all := z_in (List.mem_append_right _ (List.mem_of_getElem? (i := 846) (by decide +kernel))) rfl
theorem wl_X8_elementRefusal : Cond.selects RX8 yX8_elementRefusal yX8_elementRefusal ∈ z_all := z_in (List.mem_append_left _ (List.mem_of_getElem? (i := 30) (by decide +kernel))) rfl
theorem wd_X8_elementRefusal : yX8_elementRefusal.cls ≠ "java/lang/invoke/MethodHandle" ∧ yX8_elementRefusal.cls ≠ "java/lang/invoke/VarHandle" ∧ (parseMethodDescriptor yX8_elementRefusal.desc).map (fun d => d.parameters.length) = some 2 := ⟨by decide +kernel, by decide +kernel, by decide +kernel⟩
theorem vX8_297 : z_CV RX8 297 yX8_elementRefusal cX8_elementRefusal 3 (some .int) 2 := ⟨z_in (List.mem_append_right _ (List.mem_of_getElem? (i := 844) (by decide +kernel))) rfl, wi_X8_elementRefusal, wl_X8_elementRefusal, nI_RX8, wc_X8_elementRefusal, wd_X8_elementRefusal, by decide⟩
theorem wi_X5_setAt : Cond.instanceMethod yX5_setAt ∈ z_all := z_in (List.mem_append_right _ (List.mem_of_getElem? (i := 854) (by decide +kernel))) rfl
theorem wl_X5_setAt : Cond.selects RX5 yX5_setAt yX5_setAt ∈ z_all := z_in (List.mem_append_right _ (List.mem_of_getElem? (i := 855) (by decide +kernel))) rfl
theorem wd_X5_setAt : yX5_setAt.cls ≠ "java/lang/invoke/MethodHandle" ∧ yX5_setAt.cls ≠ "java/lang/invoke/VarHandle" ∧ (parseMethodDescriptor yX5_setAt.desc).map (fun d => d.parameters.length) = some 3 := ⟨by decide +kernel, by decide +kernel, by decide +kernel⟩
theorem vX8_300 : z_CV RX8 300 yX5_setAt cX5_setAt 5 none 3 := ⟨z_in (List.mem_append_right _ (List.mem_of_getElem? (i := 853) (by decide +kernel))) rfl, wi_X5_setAt, wl_X5_setAt, nI_RX5, wc_X5_setAt, wd_X5_setAt, by decide⟩
theorem vX8_304 : z_CV RX8 304 yX5_isEmpty cX5_isEmpty 2 (some .boolean) 1 := ⟨z_in (List.mem_append_right _ (List.mem_of_getElem? (i := 848) (by decide +kernel))) rfl, wi_X5_isEmpty, wl_X5_isEmpty, nI_RX5, wc_X5_isEmpty, wd_X5_isEmpty, by decide⟩
theorem vX8_307 : z_CV RX8 307 yX5_isRow cX5_isRow 2 (some .boolean) 1 := ⟨z_in (List.mem_append_right _ (List.mem_of_getElem? (i := 849) (by decide +kernel))) rfl, wi_X5_isRow, wl_X5_isRow, nI_RX5, wc_X5_isRow, wd_X5_isRow, by decide⟩
theorem wi_X5_isAlike : Cond.instanceMethod yX5_isAlike ∈ z_all := z_in (List.mem_append_right _ (List.mem_of_getElem? (i := 869) (by decide +kernel))) rfl
theorem wl_X5_isAlike : Cond.selects RX5 yX5_isAlike yX5_isAlike ∈ z_all := z_in (List.mem_append_right _ (List.mem_of_getElem? (i := 870) (by decide +kernel))) rfl
theorem wd_X5_isAlike : yX5_isAlike.cls ≠ "java/lang/invoke/MethodHandle" ∧ yX5_isAlike.cls ≠ "java/lang/invoke/VarHandle" ∧ (parseMethodDescriptor yX5_isAlike.desc).map (fun d => d.parameters.length) = some 2 := ⟨by decide +kernel, by decide +kernel, by decide +kernel⟩
theorem vX8_310 : z_CV RX8 310 yX5_isAlike cX5_isAlike 3 (some .boolean) 2 := ⟨z_in (List.mem_append_right _ (List.mem_of_getElem? (i := 868) (by decide +kernel))) rfl, wi_X5_isAlike, wl_X5_isAlike, nI_RX5, wc_X5_isAlike, wd_X5_isAlike, by decide⟩
theorem vX8_313 : z_CV RX8 313 yX5_hasRange cX5_hasRange 4 (some .boolean) 3 := ⟨z_in (List.mem_append_right _ (List.mem_of_getElem? (i := 872) (by decide +kernel))) rfl, wi_X5_hasRange, wl_X5_hasRange, nI_RX5, wc_X5_hasRange, wd_X5_hasRange, by decide⟩
theorem wi_X5_copyRange : Cond.instanceMethod yX5_copyRange ∈ z_all := z_in (List.mem_append_right _ (List.mem_of_getElem? (i := 874) (by decide +kernel))) rfl
theorem wl_X5_copyRange : Cond.selects RX5 yX5_copyRange yX5_copyRange ∈ z_all := z_in (List.mem_append_right _ (List.mem_of_getElem? (i := 875) (by decide +kernel))) rfl
theorem wd_X5_copyRange : yX5_copyRange.cls ≠ "java/lang/invoke/MethodHandle" ∧ yX5_copyRange.cls ≠ "java/lang/invoke/VarHandle" ∧ (parseMethodDescriptor yX5_copyRange.desc).map (fun d => d.parameters.length) = some 5 := ⟨by decide +kernel, by decide +kernel, by decide +kernel⟩
theorem vX8_317 : z_CV RX8 317 yX5_copyRange cX5_copyRange 6 none 5 := ⟨z_in (List.mem_append_right _ (List.mem_of_getElem? (i := 873) (by decide +kernel))) rfl, wi_X5_copyRange, wl_X5_copyRange, nI_RX5, wc_X5_copyRange, wd_X5_copyRange, by decide⟩
theorem wi_X5_bodyOn : Cond.instanceMethod yX5_bodyOn ∈ z_all := z_in (List.mem_append_right _ (List.mem_of_getElem? (i := 884) (by decide +kernel))) rfl
theorem wl_X5_bodyOn : Cond.selects RX5 yX5_bodyOn yX5_bodyOn ∈ z_all := z_in (List.mem_append_right _ (List.mem_of_getElem? (i := 885) (by decide +kernel))) rfl
theorem wd_X5_bodyOn : yX5_bodyOn.cls ≠ "java/lang/invoke/MethodHandle" ∧ yX5_bodyOn.cls ≠ "java/lang/invoke/VarHandle" ∧ (parseMethodDescriptor yX5_bodyOn.desc).map (fun d => d.parameters.length) = some 1 := ⟨by decide +kernel, by decide +kernel, by decide +kernel⟩
theorem vX8_320 : z_CV RX8 320 yX5_bodyOn cX5_bodyOn 2 (some .int) 1 := ⟨z_in (List.mem_append_right _ (List.mem_of_getElem? (i := 883) (by decide +kernel))) rfl, wi_X5_bodyOn, wl_X5_bodyOn, nI_RX5, wc_X5_bodyOn, wd_X5_bodyOn, by decide⟩
theorem vX8_323 : z_CV RX8 323 yX3_kindOf cX3_kindOf 2 (some .int) 1 := ⟨z_in (List.mem_append_right _ (List.mem_of_getElem? (i := 887) (by decide +kernel))) rfl, wi_X3_kindOf, wl_X3_kindOf, nI_RX3, wc_X3_kindOf, wd_X3_kindOf, by decide⟩
theorem wi_X3_isUnder : Cond.instanceMethod yX3_isUnder ∈ z_all := z_in (List.mem_append_right _ (List.mem_of_getElem? (i := 889) (by decide +kernel))) rfl
theorem wl_X3_isUnder : Cond.selects RX3 yX3_isUnder yX3_isUnder ∈ z_all := z_in (List.mem_append_right _ (List.mem_of_getElem? (i := 890) (by decide +kernel))) rfl
theorem wd_X3_isUnder : yX3_isUnder.cls ≠ "java/lang/invoke/MethodHandle" ∧ yX3_isUnder.cls ≠ "java/lang/invoke/VarHandle" ∧ (parseMethodDescriptor yX3_isUnder.desc).map (fun d => d.parameters.length) = some 2 := ⟨by decide +kernel, by decide +kernel, by decide +kernel⟩
theorem vX8_326 : z_CV RX8 326 yX3_isUnder cX3_isUnder 5 (some .boolean) 2 := ⟨z_in (List.mem_append_right _ (List.mem_of_getElem? (i := 888) (by decide +kernel))) rfl, wi_X3_isUnder, wl_X3_isUnder, nI_RX3, wc_X3_isUnder, wd_X3_isUnder, by decide⟩
theorem mX8_341 : z_CM RX8 341 := ⟨z_in (List.mem_append_right _ (List.mem_of_getElem? (i := 504) (by decide +kernel))) rfl, z_in (List.mem_append_right _ (List.mem_of_getElem? (i := 505) (by decide +kernel))) rfl, z_in (List.mem_append_right _ (List.mem_of_getElem? (i := 11) (by decide +kernel))) rfl, z_in (List.mem_append_right _ (List.mem_of_getElem? (i := 506) (by decide +kernel))) rfl⟩
theorem wi_X7_allows : Cond.instanceMethod yX7_allows ∈ z_all := z_in (List.mem_append_right _ (List.mem_of_getElem? (i := 299) (by decide +kernel))) rfl
theorem wl_X7_allows : Cond.selects RX7 yX7_allows yX7_allows ∈ z_all := z_in (List.mem_append_right _ (List.mem_of_getElem? (i := 300) (by decide +kernel))) rfl
theorem wd_X7_allows : yX7_allows.cls ≠ "java/lang/invoke/MethodHandle" ∧ yX7_allows.cls ≠ "java/lang/invoke/VarHandle" ∧ (parseMethodDescriptor yX7_allows.desc).map (fun d => d.parameters.length) = some 2 := ⟨by decide +kernel, by decide +kernel, by decide +kernel⟩
theorem vX8_76 : z_CV RX8 76 yX7_allows cX7_allows 3 (some .boolean) 2 := ⟨z_in (List.mem_append_right _ (List.mem_of_getElem? (i := 298) (by decide +kernel))) rfl, wi_X7_allows, wl_X7_allows, nI_RX7, wc_X7_allows, wd_X7_allows, by decide⟩
theorem wi_X7_newWord : Cond.instanceMethod yX7_newWord ∈ z_all := z_in (List.mem_append_right _ (List.mem_of_getElem? (i := 305) (by decide +kernel))) rfl
theorem wl_X7_newWord : Cond.selects RX7 yX7_newWord yX7_newWord ∈ z_all := z_in (List.mem_append_right _ (List.mem_of_getElem? (i := 306) (by decide +kernel))) rfl
theorem wd_X7_newWord : yX7_newWord.cls ≠ "java/lang/invoke/MethodHandle" ∧ yX7_newWord.cls ≠ "java/lang/invoke/VarHandle" ∧ (parseMethodDescriptor yX7_newWord.desc).map (fun d => d.parameters.length) = some 3 := ⟨by decide +kernel, by decide +kernel, by decide +kernel⟩
theorem vX8_80 : z_CV RX8 80 yX7_newWord cX7_newWord 5 (some .int) 3 := ⟨z_in (List.mem_append_right _ (List.mem_of_getElem? (i := 304) (by decide +kernel))) rfl, wi_X7_newWord, wl_X7_newWord, nI_RX7, wc_X7_newWord, wd_X7_newWord, by decide⟩
theorem sX8_84 : z_CS RX8 84 yX8_isShelf cX8_isShelf 1 (some .boolean) 1 := ⟨Or.inl (z_in (List.mem_append_right _ (List.mem_of_getElem? (i := 324) (by decide +kernel))) rfl), z_in (List.mem_append_right _ (List.mem_of_getElem? (i := 325) (by decide +kernel))) rfl, nI_RX8, wc_X8_isShelf, ⟨by decide +kernel, by decide +kernel, by decide +kernel⟩, by decide⟩
theorem wi_X5_bytesRefusal : Cond.instanceMethod yX5_bytesRefusal ∈ z_all := z_in (List.mem_append_right _ (List.mem_of_getElem? (i := 328) (by decide +kernel))) rfl
theorem wl_X5_bytesRefusal : Cond.selects RX5 yX5_bytesRefusal yX5_bytesRefusal ∈ z_all := z_in (List.mem_append_right _ (List.mem_of_getElem? (i := 329) (by decide +kernel))) rfl
theorem wd_X5_bytesRefusal : yX5_bytesRefusal.cls ≠ "java/lang/invoke/MethodHandle" ∧ yX5_bytesRefusal.cls ≠ "java/lang/invoke/VarHandle" ∧ (parseMethodDescriptor yX5_bytesRefusal.desc).map (fun d => d.parameters.length) = some 1 := ⟨by decide +kernel, by decide +kernel, by decide +kernel⟩
theorem vX8_88 : z_CV RX8 88 yX5_bytesRefusal cX5_bytesRefusal 2 (some .int) 1 := ⟨z_in (List.mem_append_right _ (List.mem_of_getElem? (i := 327) (by decide +kernel))) rfl, wi_X5_bytesRefusal, wl_X5_bytesRefusal, nI_RX5, wc_X5_bytesRefusal, wd_X5_bytesRefusal, by decide⟩
theorem vX8_92 : z_CV RX8 92 yX5_lengthOf cX5_lengthOf 2 (some .int) 1 := ⟨z_in (List.mem_append_right _ (List.mem_of_getElem? (i := 340) (by decide +kernel))) rfl, wi_X5_lengthOf, wl_X5_lengthOf, nI_RX5, wc_X5_lengthOf, wd_X5_lengthOf, by decide⟩
theorem wi_X8_wordFromThree : Cond.instanceMethod yX8_wordFromThree ∈ z_all := z_in (List.mem_append_right _ (List.mem_of_getElem? (i := 346) (by decide +kernel))) rfl
theorem wl_X8_wordFromThree : Cond.selects RX8 yX8_wordFromThree yX8_wordFromThree ∈ z_all := z_in (List.mem_append_left _ (List.mem_of_getElem? (i := 2) (by decide +kernel))) rfl
theorem wd_X8_wordFromThree : yX8_wordFromThree.cls ≠ "java/lang/invoke/MethodHandle" ∧ yX8_wordFromThree.cls ≠ "java/lang/invoke/VarHandle" ∧ (parseMethodDescriptor yX8_wordFromThree.desc).map (fun d => d.parameters.length) = some 2 := ⟨by decide +kernel, by decide +kernel, by decide +kernel⟩
theorem vX8_95 : z_CV RX8 95 yX8_wordFromThree cX8_wordFromThree 6 (some .boolean) 2 := ⟨z_in (List.mem_append_right _ (List.mem_of_getElem? (i := 344) (by decide +kernel))) rfl, wi_X8_wordFromThree, wl_X8_wordFromThree, nI_RX8, wc_X8_wordFromThree, wd_X8_wordFromThree, by decide⟩
theorem wi_X7_newMesh : Cond.instanceMethod yX7_newMesh ∈ z_all := z_in (List.mem_append_right _ (List.mem_of_getElem? (i := 362) (by decide +kernel))) rfl
theorem wl_X7_newMesh : Cond.selects RX7 yX7_newMesh yX7_newMesh ∈ z_all := z_in (List.mem_append_right _ (List.mem_of_getElem? (i := 363) (by decide +kernel))) rfl
theorem wd_X7_newMesh : yX7_newMesh.cls ≠ "java/lang/invoke/MethodHandle" ∧ yX7_newMesh.cls ≠ "java/lang/invoke/VarHandle" ∧ (parseMethodDescriptor yX7_newMesh.desc).map (fun d => d.parameters.length) = some 1 := ⟨by decide +kernel, by decide +kernel, by decide +kernel⟩
theorem vX8_98 : z_CV RX8 98 yX7_newMesh cX7_newMesh 3 (some .int) 1 := ⟨z_in (List.mem_append_right _ (List.mem_of_getElem? (i := 361) (by decide +kernel))) rfl, wi_X7_newMesh, wl_X7_newMesh, nI_RX7, wc_X7_newMesh, wd_X7_newMesh, by decide⟩
theorem wi_X8_howFine : Cond.instanceMethod yX8_howFine ∈ z_all := z_in (List.mem_append_right _ (List.mem_of_getElem? (i := 649) (by decide +kernel))) rfl
theorem wl_X8_howFine : Cond.selects RX8 yX8_howFine yX8_howFine ∈ z_all := z_in (List.mem_append_right _ (List.mem_of_getElem? (i := 650) (by decide +kernel))) rfl
theorem wd_X8_howFine : yX8_howFine.cls ≠ "java/lang/invoke/MethodHandle" ∧ yX8_howFine.cls ≠ "java/lang/invoke/VarHandle" ∧ (parseMethodDescriptor yX8_howFine.desc).map (fun d => d.parameters.length) = some 2 := ⟨by decide +kernel, by decide +kernel, by decide +kernel⟩
theorem vL_100 : z_CV RL 100 yX8_howFine cX8_howFine 9 (some .int) 2 := ⟨z_in (List.mem_append_right _ (List.mem_of_getElem? (i := 648) (by decide +kernel))) rfl, wi_X8_howFine, wl_X8_howFine, nI_RX8, wc_X8_howFine, wd_X8_howFine, by decide⟩
theorem wi_X9_howFine : Cond.instanceMethod yX9_howFine ∈ z_all := z_in (List.mem_append_right _ (List.mem_of_getElem? (i := 1390) (by decide +kernel))) rfl
theorem wl_X9_howFine : Cond.selects RX9 yX9_howFine yX9_howFine ∈ z_all := z_in (List.mem_append_right _ (List.mem_of_getElem? (i := 1391) (by decide +kernel))) rfl
theorem wd_X9_howFine : yX9_howFine.cls ≠ "java/lang/invoke/MethodHandle" ∧ yX9_howFine.cls ≠ "java/lang/invoke/VarHandle" ∧ (parseMethodDescriptor yX9_howFine.desc).map (fun d => d.parameters.length) = some 2 := ⟨by decide +kernel, by decide +kernel, by decide +kernel⟩
theorem vL_103 : z_CV RL 103 yX9_howFine cX9_howFine 7 (some .int) 2 := ⟨z_in (List.mem_append_right _ (List.mem_of_getElem? (i := 1389) (by decide +kernel))) rfl, wi_X9_howFine, wl_X9_howFine, nI_RX9, wc_X9_howFine, wd_X9_howFine, by decide⟩
theorem wi_X8_between : Cond.instanceMethod yX8_between ∈ z_all := z_in (List.mem_append_right _ (List.mem_of_getElem? (i := 657) (by decide +kernel))) rfl
theorem wl_X8_between : Cond.selects RX8 yX8_between yX8_between ∈ z_all := z_in (List.mem_append_right _ (List.mem_of_getElem? (i := 658) (by decide +kernel))) rfl
theorem wd_X8_between : yX8_between.cls ≠ "java/lang/invoke/MethodHandle" ∧ yX8_between.cls ≠ "java/lang/invoke/VarHandle" ∧ (parseMethodDescriptor yX8_between.desc).map (fun d => d.parameters.length) = some 3 := ⟨by decide +kernel, by decide +kernel, by decide +kernel⟩
theorem vL_104 : z_CV RL 104 yX8_between cX8_between 5 (some .int) 3 := ⟨z_in (List.mem_append_right _ (List.mem_of_getElem? (i := 656) (by decide +kernel))) rfl, wi_X8_between, wl_X8_between, nI_RX8, wc_X8_between, wd_X8_between, by decide⟩
theorem wi_X9_between : Cond.instanceMethod yX9_between ∈ z_all := z_in (List.mem_append_right _ (List.mem_of_getElem? (i := 1402) (by decide +kernel))) rfl
theorem wl_X9_between : Cond.selects RX9 yX9_between yX9_between ∈ z_all := z_in (List.mem_append_right _ (List.mem_of_getElem? (i := 1403) (by decide +kernel))) rfl
theorem wd_X9_between : yX9_between.cls ≠ "java/lang/invoke/MethodHandle" ∧ yX9_between.cls ≠ "java/lang/invoke/VarHandle" ∧ (parseMethodDescriptor yX9_between.desc).map (fun d => d.parameters.length) = some 3 := ⟨by decide +kernel, by decide +kernel, by decide +kernel⟩
theorem vL_107 : z_CV RL 107 yX9_between cX9_between 7 (some .int) 3 := ⟨z_in (List.mem_append_right _ (List.mem_of_getElem? (i := 1401) (by decide +kernel))) rfl, wi_X9_between, wl_X9_between, nI_RX9, wc_X9_between, wd_X9_between, by decide⟩
theorem wi_X8_meant : Cond.instanceMethod yX8_meant ∈ z_all := z_in (List.mem_append_right _ (List.mem_of_getElem? (i := 668) (by decide +kernel))) rfl
theorem wl_X8_meant : Cond.selects RX8 yX8_meant yX8_meant ∈ z_all := z_in (List.mem_append_right _ (List.mem_of_getElem? (i := 669) (by decide +kernel))) rfl
theorem wd_X8_meant : yX8_meant.cls ≠ "java/lang/invoke/MethodHandle" ∧ yX8_meant.cls ≠ "java/lang/invoke/VarHandle" ∧ (parseMethodDescriptor yX8_meant.desc).map (fun d => d.parameters.length) = some 3 := ⟨by decide +kernel, by decide +kernel, by decide +kernel⟩
theorem vL_108 : z_CV RL 108 yX8_meant cX8_meant 5 (some .int) 3 := ⟨z_in (List.mem_append_right _ (List.mem_of_getElem? (i := 667) (by decide +kernel))) rfl, wi_X8_meant, wl_X8_meant, nI_RX8, wc_X8_meant, wd_X8_meant, by decide⟩
theorem wi_X9_meant : Cond.instanceMethod yX9_meant ∈ z_all := z_in (List.mem_append_right _ (List.mem_of_getElem? (i := 1410) (by decide +kernel))) rfl
theorem wl_X9_meant : Cond.selects RX9 yX9_meant yX9_meant ∈ z_all := z_in (List.mem_append_right _ (List.mem_of_getElem? (i := 1411) (by decide +kernel))) rfl
theorem wd_X9_meant : yX9_meant.cls ≠ "java/lang/invoke/MethodHandle" ∧ yX9_meant.cls ≠ "java/lang/invoke/VarHandle" ∧ (parseMethodDescriptor yX9_meant.desc).map (fun d => d.parameters.length) = some 3 := ⟨by decide +kernel, by decide +kernel, by decide +kernel⟩
theorem vL_111 : z_CV RL 111 yX9_meant cX9_meant 10 (some .int) 3 := ⟨z_in (List.mem_append_right _ (List.mem_of_getElem? (i := 1409) (by decide +kernel))) rfl, wi_X9_meant, wl_X9_meant, nI_RX9, wc_X9_meant, wd_X9_meant, by decide⟩
theorem wi_X8_likely : Cond.instanceMethod yX8_likely ∈ z_all := z_in (List.mem_append_right _ (List.mem_of_getElem? (i := 688) (by decide +kernel))) rfl
theorem wl_X8_likely : Cond.selects RX8 yX8_likely yX8_likely ∈ z_all := z_in (List.mem_append_right _ (List.mem_of_getElem? (i := 689) (by decide +kernel))) rfl
theorem wd_X8_likely : yX8_likely.cls ≠ "java/lang/invoke/MethodHandle" ∧ yX8_likely.cls ≠ "java/lang/invoke/VarHandle" ∧ (parseMethodDescriptor yX8_likely.desc).map (fun d => d.parameters.length) = some 4 := ⟨by decide +kernel, by decide +kernel, by decide +kernel⟩
theorem vL_112 : z_CV RL 112 yX8_likely cX8_likely 9 (some .long) 4 := ⟨z_in (List.mem_append_right _ (List.mem_of_getElem? (i := 687) (by decide +kernel))) rfl, wi_X8_likely, wl_X8_likely, nI_RX8, wc_X8_likely, wd_X8_likely, by decide⟩
theorem wi_X9_likely : Cond.instanceMethod yX9_likely ∈ z_all := z_in (List.mem_append_right _ (List.mem_of_getElem? (i := 1422) (by decide +kernel))) rfl
theorem wl_X9_likely : Cond.selects RX9 yX9_likely yX9_likely ∈ z_all := z_in (List.mem_append_right _ (List.mem_of_getElem? (i := 1423) (by decide +kernel))) rfl
theorem wd_X9_likely : yX9_likely.cls ≠ "java/lang/invoke/MethodHandle" ∧ yX9_likely.cls ≠ "java/lang/invoke/VarHandle" ∧ (parseMethodDescriptor yX9_likely.desc).map (fun d => d.parameters.length) = some 4 := ⟨by decide +kernel, by decide +kernel, by decide +kernel⟩
theorem vL_116 : z_CV RL 116 yX9_likely cX9_likely 6 (some .long) 4 := ⟨z_in (List.mem_append_right _ (List.mem_of_getElem? (i := 1421) (by decide +kernel))) rfl, wi_X9_likely, wl_X9_likely, nI_RX9, wc_X9_likely, wd_X9_likely, by decide⟩
theorem wi_X8_game : Cond.instanceMethod yX8_game ∈ z_all := z_in (List.mem_append_right _ (List.mem_of_getElem? (i := 696) (by decide +kernel))) rfl
theorem wl_X8_game : Cond.selects RX8 yX8_game yX8_game ∈ z_all := z_in (List.mem_append_right _ (List.mem_of_getElem? (i := 697) (by decide +kernel))) rfl
theorem wd_X8_game : yX8_game.cls ≠ "java/lang/invoke/MethodHandle" ∧ yX8_game.cls ≠ "java/lang/invoke/VarHandle" ∧ (parseMethodDescriptor yX8_game.desc).map (fun d => d.parameters.length) = some 2 := ⟨by decide +kernel, by decide +kernel, by decide +kernel⟩
theorem vL_117 : z_CV RL 117 yX8_game cX8_game 4 (some .int) 2 := ⟨z_in (List.mem_append_right _ (List.mem_of_getElem? (i := 695) (by decide +kernel))) rfl, wi_X8_game, wl_X8_game, nI_RX8, wc_X8_game, wd_X8_game, by decide⟩
theorem wi_X9_game : Cond.instanceMethod yX9_game ∈ z_all := z_in (List.mem_append_right _ (List.mem_of_getElem? (i := 1429) (by decide +kernel))) rfl
theorem wl_X9_game : Cond.selects RX9 yX9_game yX9_game ∈ z_all := z_in (List.mem_append_right _ (List.mem_of_getElem? (i := 1430) (by decide +kernel))) rfl
theorem wd_X9_game : yX9_game.cls ≠ "java/lang/invoke/MethodHandle" ∧ yX9_game.cls ≠ "java/lang/invoke/VarHandle" ∧ (parseMethodDescriptor yX9_game.desc).map (fun d => d.parameters.length) = some 2 := ⟨by decide +kernel, by decide +kernel, by decide +kernel⟩
theorem vL_120 : z_CV RL 120 yX9_game cX9_game 4 (some .int) 2 := ⟨z_in (List.mem_append_right _ (List.mem_of_getElem? (i := 1428) (by decide +kernel))) rfl, wi_X9_game, wl_X9_game, nI_RX9, wc_X9_game, wd_X9_game, by decide⟩
theorem wi_X8_drawn : Cond.instanceMethod yX8_drawn ∈ z_all := z_in (List.mem_append_right _ (List.mem_of_getElem? (i := 708) (by decide +kernel))) rfl
theorem wl_X8_drawn : Cond.selects RX8 yX8_drawn yX8_drawn ∈ z_all := z_in (List.mem_append_right _ (List.mem_of_getElem? (i := 709) (by decide +kernel))) rfl
theorem wd_X8_drawn : yX8_drawn.cls ≠ "java/lang/invoke/MethodHandle" ∧ yX8_drawn.cls ≠ "java/lang/invoke/VarHandle" ∧ (parseMethodDescriptor yX8_drawn.desc).map (fun d => d.parameters.length) = some 4 := ⟨by decide +kernel, by decide +kernel, by decide +kernel⟩
theorem vL_121 : z_CV RL 121 yX8_drawn cX8_drawn 7 (some .int) 4 := ⟨z_in (List.mem_append_right _ (List.mem_of_getElem? (i := 707) (by decide +kernel))) rfl, wi_X8_drawn, wl_X8_drawn, nI_RX8, wc_X8_drawn, wd_X8_drawn, by decide⟩
theorem wi_X9_drawn : Cond.instanceMethod yX9_drawn ∈ z_all := z_in (List.mem_append_right _ (List.mem_of_getElem? (i := 1445) (by decide +kernel))) rfl
theorem wl_X9_drawn : Cond.selects RX9 yX9_drawn yX9_drawn ∈ z_all := z_in (List.mem_append_right _ (List.mem_of_getElem? (i := 1446) (by decide +kernel))) rfl
theorem wd_X9_drawn : yX9_drawn.cls ≠ "java/lang/invoke/MethodHandle" ∧ yX9_drawn.cls ≠ "java/lang/invoke/VarHandle" ∧ (parseMethodDescriptor yX9_drawn.desc).map (fun d => d.parameters.length) = some 4 := ⟨by decide +kernel, by decide +kernel, by decide +kernel⟩
theorem vL_124 : z_CV RL 124 yX9_drawn cX9_drawn 12 (some .int) 4 := ⟨z_in (List.mem_append_right _ (List.mem_of_getElem? (i := 1444) (by decide +kernel))) rfl, wi_X9_drawn, wl_X9_drawn, nI_RX9, wc_X9_drawn, wd_X9_drawn, by decide⟩
theorem wi_X8_speak : Cond.instanceMethod yX8_speak ∈ z_all := z_in (List.mem_append_right _ (List.mem_of_getElem? (i := 718) (by decide +kernel))) rfl
theorem wl_X8_speak : Cond.selects RX8 yX8_speak yX8_speak ∈ z_all := z_in (List.mem_append_right _ (List.mem_of_getElem? (i := 719) (by decide +kernel))) rfl
theorem wd_X8_speak : yX8_speak.cls ≠ "java/lang/invoke/MethodHandle" ∧ yX8_speak.cls ≠ "java/lang/invoke/VarHandle" ∧ (parseMethodDescriptor yX8_speak.desc).map (fun d => d.parameters.length) = some 2 := ⟨by decide +kernel, by decide +kernel, by decide +kernel⟩
theorem vL_125 : z_CV RL 125 yX8_speak cX8_speak 6 (some .int) 2 := ⟨z_in (List.mem_append_right _ (List.mem_of_getElem? (i := 717) (by decide +kernel))) rfl, wi_X8_speak, wl_X8_speak, nI_RX8, wc_X8_speak, wd_X8_speak, by decide⟩
theorem wi_X9_speak : Cond.instanceMethod yX9_speak ∈ z_all := z_in (List.mem_append_right _ (List.mem_of_getElem? (i := 1450) (by decide +kernel))) rfl
theorem wl_X9_speak : Cond.selects RX9 yX9_speak yX9_speak ∈ z_all := z_in (List.mem_append_right _ (List.mem_of_getElem? (i := 1451) (by decide +kernel))) rfl
theorem wd_X9_speak : yX9_speak.cls ≠ "java/lang/invoke/MethodHandle" ∧ yX9_speak.cls ≠ "java/lang/invoke/VarHandle" ∧ (parseMethodDescriptor yX9_speak.desc).map (fun d => d.parameters.length) = some 2 := ⟨by decide +kernel, by decide +kernel, by decide +kernel⟩
theorem vL_128 : z_CV RL 128 yX9_speak cX9_speak 4 (some .int) 2 := ⟨z_in (List.mem_append_right _ (List.mem_of_getElem? (i := 1449) (by decide +kernel))) rfl, wi_X9_speak, wl_X9_speak, nI_RX9, wc_X9_speak, wd_X9_speak, by decide⟩
theorem wi_X8_rinse : Cond.instanceMethod yX8_rinse ∈ z_all := z_in (List.mem_append_right _ (List.mem_of_getElem? (i := 726) (by decide +kernel))) rfl
theorem wl_X8_rinse : Cond.selects RX8 yX8_rinse yX8_rinse ∈ z_all := z_in (List.mem_append_right _ (List.mem_of_getElem? (i := 727) (by decide +kernel))) rfl
theorem wd_X8_rinse : yX8_rinse.cls ≠ "java/lang/invoke/MethodHandle" ∧ yX8_rinse.cls ≠ "java/lang/invoke/VarHandle" ∧ (parseMethodDescriptor yX8_rinse.desc).map (fun d => d.parameters.length) = some 1 := ⟨by decide +kernel, by decide +kernel, by decide +kernel⟩
theorem vL_129 : z_CV RL 129 yX8_rinse cX8_rinse 2 (some .int) 1 := ⟨z_in (List.mem_append_right _ (List.mem_of_getElem? (i := 725) (by decide +kernel))) rfl, wi_X8_rinse, wl_X8_rinse, nI_RX8, wc_X8_rinse, wd_X8_rinse, by decide⟩
theorem wi_X8_word : Cond.instanceMethod yX8_word ∈ z_all := z_in (List.mem_append_right _ (List.mem_of_getElem? (i := 295) (by decide +kernel))) rfl
theorem wl_X8_word : Cond.selects RX8 yX8_word yX8_word ∈ z_all := z_in (List.mem_append_right _ (List.mem_of_getElem? (i := 296) (by decide +kernel))) rfl
theorem wd_X8_word : yX8_word.cls ≠ "java/lang/invoke/MethodHandle" ∧ yX8_word.cls ≠ "java/lang/invoke/VarHandle" ∧ (parseMethodDescriptor yX8_word.desc).map (fun d => d.parameters.length) = some 2 := ⟨by decide +kernel, by decide +kernel, by decide +kernel⟩
theorem vL_13 : z_CV RL 13 yX8_word cX8_word 3 (some .int) 2 := ⟨z_in (List.mem_append_right _ (List.mem_of_getElem? (i := 294) (by decide +kernel))) rfl, wi_X8_word, wl_X8_word, nI_RX8, wc_X8_word, wd_X8_word, by decide⟩
theorem wi_X9_rinse : Cond.instanceMethod yX9_rinse ∈ z_all := z_in (List.mem_append_right _ (List.mem_of_getElem? (i := 1454) (by decide +kernel))) rfl
theorem wl_X9_rinse : Cond.selects RX9 yX9_rinse yX9_rinse ∈ z_all := z_in (List.mem_append_right _ (List.mem_of_getElem? (i := 1455) (by decide +kernel))) rfl
theorem wd_X9_rinse : yX9_rinse.cls ≠ "java/lang/invoke/MethodHandle" ∧ yX9_rinse.cls ≠ "java/lang/invoke/VarHandle" ∧ (parseMethodDescriptor yX9_rinse.desc).map (fun d => d.parameters.length) = some 1 := ⟨by decide +kernel, by decide +kernel, by decide +kernel⟩
theorem vL_132 : z_CV RL 132 yX9_rinse cX9_rinse 3 (some .int) 1 := ⟨z_in (List.mem_append_right _ (List.mem_of_getElem? (i := 1453) (by decide +kernel))) rfl, wi_X9_rinse, wl_X9_rinse, nI_RX9, wc_X9_rinse, wd_X9_rinse, by decide⟩
theorem wi_X8_led : Cond.instanceMethod yX8_led ∈ z_all := z_in (List.mem_append_right _ (List.mem_of_getElem? (i := 734) (by decide +kernel))) rfl
theorem wl_X8_led : Cond.selects RX8 yX8_led yX8_led ∈ z_all := z_in (List.mem_append_right _ (List.mem_of_getElem? (i := 735) (by decide +kernel))) rfl
theorem wd_X8_led : yX8_led.cls ≠ "java/lang/invoke/MethodHandle" ∧ yX8_led.cls ≠ "java/lang/invoke/VarHandle" ∧ (parseMethodDescriptor yX8_led.desc).map (fun d => d.parameters.length) = some 1 := ⟨by decide +kernel, by decide +kernel, by decide +kernel⟩
theorem vL_133 : z_CV RL 133 yX8_led cX8_led 2 (some .int) 1 := ⟨z_in (List.mem_append_right _ (List.mem_of_getElem? (i := 733) (by decide +kernel))) rfl, wi_X8_led, wl_X8_led, nI_RX8, wc_X8_led, wd_X8_led, by decide⟩
theorem wi_X9_led : Cond.instanceMethod yX9_led ∈ z_all := z_in (List.mem_append_right _ (List.mem_of_getElem? (i := 1458) (by decide +kernel))) rfl
theorem wl_X9_led : Cond.selects RX9 yX9_led yX9_led ∈ z_all := z_in (List.mem_append_right _ (List.mem_of_getElem? (i := 1459) (by decide +kernel))) rfl
theorem wd_X9_led : yX9_led.cls ≠ "java/lang/invoke/MethodHandle" ∧ yX9_led.cls ≠ "java/lang/invoke/VarHandle" ∧ (parseMethodDescriptor yX9_led.desc).map (fun d => d.parameters.length) = some 1 := ⟨by decide +kernel, by decide +kernel, by decide +kernel⟩
theorem vL_136 : z_CV RL 136 yX9_led cX9_led 2 (some .int) 1 := ⟨z_in (List.mem_append_right _ (List.mem_of_getElem? (i := 1457) (by decide +kernel))) rfl, wi_X9_led, wl_X9_led, nI_RX9, wc_X9_led, wd_X9_led, by decide⟩
theorem wi_X8_image : Cond.instanceMethod yX8_image ∈ z_all := z_in (List.mem_append_right _ (List.mem_of_getElem? (i := 742) (by decide +kernel))) rfl
theorem wl_X8_image : Cond.selects RX8 yX8_image yX8_image ∈ z_all := z_in (List.mem_append_right _ (List.mem_of_getElem? (i := 743) (by decide +kernel))) rfl
theorem wd_X8_image : yX8_image.cls ≠ "java/lang/invoke/MethodHandle" ∧ yX8_image.cls ≠ "java/lang/invoke/VarHandle" ∧ (parseMethodDescriptor yX8_image.desc).map (fun d => d.parameters.length) = some 0 := ⟨by decide +kernel, by decide +kernel, by decide +kernel⟩
theorem vL_137 : z_CV RL 137 yX8_image cX8_image 1 (some .int) 0 := ⟨z_in (List.mem_append_right _ (List.mem_of_getElem? (i := 741) (by decide +kernel))) rfl, wi_X8_image, wl_X8_image, nI_RX8, wc_X8_image, wd_X8_image, by decide⟩
theorem wi_X9_image : Cond.instanceMethod yX9_image ∈ z_all := z_in (List.mem_append_right _ (List.mem_of_getElem? (i := 1462) (by decide +kernel))) rfl
theorem wl_X9_image : Cond.selects RX9 yX9_image yX9_image ∈ z_all := z_in (List.mem_append_right _ (List.mem_of_getElem? (i := 1463) (by decide +kernel))) rfl
theorem wd_X9_image : yX9_image.cls ≠ "java/lang/invoke/MethodHandle" ∧ yX9_image.cls ≠ "java/lang/invoke/VarHandle" ∧ (parseMethodDescriptor yX9_image.desc).map (fun d => d.parameters.length) = some 0 := ⟨by decide +kernel, by decide +kernel, by decide +kernel⟩
theorem vL_140 : z_CV RL 140 yX9_image cX9_image 2 (some .int) 0 := ⟨z_in (List.mem_append_right _ (List.mem_of_getElem? (i := 1461) (by decide +kernel))) rfl, wi_X9_image, wl_X9_image, nI_RX9, wc_X9_image, wd_X9_image, by decide⟩
theorem wi_X8_back : Cond.instanceMethod yX8_back ∈ z_all := z_in (List.mem_append_right _ (List.mem_of_getElem? (i := 753) (by decide +kernel))) rfl
theorem wl_X8_back : Cond.selects RX8 yX8_back yX8_back ∈ z_all := z_in (List.mem_append_right _ (List.mem_of_getElem? (i := 754) (by decide +kernel))) rfl
theorem wd_X8_back : yX8_back.cls ≠ "java/lang/invoke/MethodHandle" ∧ yX8_back.cls ≠ "java/lang/invoke/VarHandle" ∧ (parseMethodDescriptor yX8_back.desc).map (fun d => d.parameters.length) = some 0 := ⟨by decide +kernel, by decide +kernel, by decide +kernel⟩
theorem vL_141 : z_CV RL 141 yX8_back cX8_back 1 (some .int) 0 := ⟨z_in (List.mem_append_right _ (List.mem_of_getElem? (i := 752) (by decide +kernel))) rfl, wi_X8_back, wl_X8_back, nI_RX8, wc_X8_back, wd_X8_back, by decide⟩
theorem wi_X9_back : Cond.instanceMethod yX9_back ∈ z_all := z_in (List.mem_append_right _ (List.mem_of_getElem? (i := 1466) (by decide +kernel))) rfl
theorem wl_X9_back : Cond.selects RX9 yX9_back yX9_back ∈ z_all := z_in (List.mem_append_right _ (List.mem_of_getElem? (i := 1467) (by decide +kernel))) rfl
theorem wd_X9_back : yX9_back.cls ≠ "java/lang/invoke/MethodHandle" ∧ yX9_back.cls ≠ "java/lang/invoke/VarHandle" ∧ (parseMethodDescriptor yX9_back.desc).map (fun d => d.parameters.length) = some 0 := ⟨by decide +kernel, by decide +kernel, by decide +kernel⟩
theorem vL_144 : z_CV RL 144 yX9_back cX9_back 2 (some .int) 0 := ⟨z_in (List.mem_append_right _ (List.mem_of_getElem? (i := 1465) (by decide +kernel))) rfl, wi_X9_back, wl_X9_back, nI_RX9, wc_X9_back, wd_X9_back, by decide⟩
theorem wi_X8_undo : Cond.instanceMethod yX8_undo ∈ z_all := z_in (List.mem_append_right _ (List.mem_of_getElem? (i := 761) (by decide +kernel))) rfl
theorem wl_X8_undo : Cond.selects RX8 yX8_undo yX8_undo ∈ z_all := z_in (List.mem_append_right _ (List.mem_of_getElem? (i := 762) (by decide +kernel))) rfl
theorem wd_X8_undo : yX8_undo.cls ≠ "java/lang/invoke/MethodHandle" ∧ yX8_undo.cls ≠ "java/lang/invoke/VarHandle" ∧ (parseMethodDescriptor yX8_undo.desc).map (fun d => d.parameters.length) = some 0 := ⟨by decide +kernel, by decide +kernel, by decide +kernel⟩
theorem vL_145 : z_CV RL 145 yX8_undo cX8_undo 1 (some .int) 0 := ⟨z_in (List.mem_append_right _ (List.mem_of_getElem? (i := 760) (by decide +kernel))) rfl, wi_X8_undo, wl_X8_undo, nI_RX8, wc_X8_undo, wd_X8_undo, by decide⟩
theorem wi_X9_undo : Cond.instanceMethod yX9_undo ∈ z_all := z_in (List.mem_append_right _ (List.mem_of_getElem? (i := 1118) (by decide +kernel))) rfl
theorem wl_X9_undo : Cond.selects RX9 yX9_undo yX9_undo ∈ z_all := z_in (List.mem_append_right _ (List.mem_of_getElem? (i := 1119) (by decide +kernel))) rfl
theorem wd_X9_undo : yX9_undo.cls ≠ "java/lang/invoke/MethodHandle" ∧ yX9_undo.cls ≠ "java/lang/invoke/VarHandle" ∧ (parseMethodDescriptor yX9_undo.desc).map (fun d => d.parameters.length) = some 0 := ⟨by decide +kernel, by decide +kernel, by decide +kernel⟩
theorem vL_148 : z_CV RL 148 yX9_undo cX9_undo 1 (some .int) 0 := ⟨z_in (List.mem_append_right _ (List.mem_of_getElem? (i := 1117) (by decide +kernel))) rfl, wi_X9_undo, wl_X9_undo, nI_RX9, wc_X9_undo, wd_X9_undo, by decide⟩
theorem wi_X8_redo : Cond.instanceMethod yX8_redo ∈ z_all := z_in (List.mem_append_right _ (List.mem_of_getElem? (i := 770) (by decide +kernel))) rfl
theorem wl_X8_redo : Cond.selects RX8 yX8_redo yX8_redo ∈ z_all := z_in (List.mem_append_right _ (List.mem_of_getElem? (i := 771) (by decide +kernel))) rfl
theorem wd_X8_redo : yX8_redo.cls ≠ "java/lang/invoke/MethodHandle" ∧ yX8_redo.cls ≠ "java/lang/invoke/VarHandle" ∧ (parseMethodDescriptor yX8_redo.desc).map (fun d => d.parameters.length) = some 0 := ⟨by decide +kernel, by decide +kernel, by decide +kernel⟩
theorem vL_149 : z_CV RL 149 yX8_redo cX8_redo 1 (some .int) 0 := ⟨z_in (List.mem_append_right _ (List.mem_of_getElem? (i := 769) (by decide +kernel))) rfl, wi_X8_redo, wl_X8_redo, nI_RX8, wc_X8_redo, wd_X8_redo, by decide⟩
theorem wi_X9_redo : Cond.instanceMethod yX9_redo ∈ z_all := z_in (List.mem_append_right _ (List.mem_of_getElem? (i := 1126) (by decide +kernel))) rfl
theorem wl_X9_redo : Cond.selects RX9 yX9_redo yX9_redo ∈ z_all := z_in (List.mem_append_right _ (List.mem_of_getElem? (i := 1127) (by decide +kernel))) rfl
theorem wd_X9_redo : yX9_redo.cls ≠ "java/lang/invoke/MethodHandle" ∧ yX9_redo.cls ≠ "java/lang/invoke/VarHandle" ∧ (parseMethodDescriptor yX9_redo.desc).map (fun d => d.parameters.length) = some 0 := ⟨by decide +kernel, by decide +kernel, by decide +kernel⟩
theorem vL_152 : z_CV RL 152 yX9_redo cX9_redo 1 (some .int) 0 := ⟨z_in (List.mem_append_right _ (List.mem_of_getElem? (i := 1125) (by decide +kernel))) rfl, wi_X9_redo, wl_X9_redo, nI_RX9, wc_X9_redo, wd_X9_redo, by decide⟩
theorem wi_X8_body : Cond.instanceMethod yX8_body ∈ z_all := z_in (List.mem_append_right _ (List.mem_of_getElem? (i := 778) (by decide +kernel))) rfl
theorem wl_X8_body : Cond.selects RX8 yX8_body yX8_body ∈ z_all := z_in (List.mem_append_right _ (List.mem_of_getElem? (i := 779) (by decide +kernel))) rfl
theorem wd_X8_body : yX8_body.cls ≠ "java/lang/invoke/MethodHandle" ∧ yX8_body.cls ≠ "java/lang/invoke/VarHandle" ∧ (parseMethodDescriptor yX8_body.desc).map (fun d => d.parameters.length) = some 1 := ⟨by decide +kernel, by decide +kernel, by decide +kernel⟩
theorem vL_153 : z_CV RL 153 yX8_body cX8_body 2 (some .int) 1 := ⟨z_in (List.mem_append_right _ (List.mem_of_getElem? (i := 777) (by decide +kernel))) rfl, wi_X8_body, wl_X8_body, nI_RX8, wc_X8_body, wd_X8_body, by decide⟩
theorem wi_X9_body : Cond.instanceMethod yX9_body ∈ z_all := z_in (List.mem_append_right _ (List.mem_of_getElem? (i := 1474) (by decide +kernel))) rfl
theorem wl_X9_body : Cond.selects RX9 yX9_body yX9_body ∈ z_all := z_in (List.mem_append_right _ (List.mem_of_getElem? (i := 1475) (by decide +kernel))) rfl
theorem wd_X9_body : yX9_body.cls ≠ "java/lang/invoke/MethodHandle" ∧ yX9_body.cls ≠ "java/lang/invoke/VarHandle" ∧ (parseMethodDescriptor yX9_body.desc).map (fun d => d.parameters.length) = some 1 := ⟨by decide +kernel, by decide +kernel, by decide +kernel⟩
theorem vL_156 : z_CV RL 156 yX9_body cX9_body 2 (some .int) 1 := ⟨z_in (List.mem_append_right _ (List.mem_of_getElem? (i := 1473) (by decide +kernel))) rfl, wi_X9_body, wl_X9_body, nI_RX9, wc_X9_body, wd_X9_body, by decide⟩
theorem wi_X8_act : Cond.instanceMethod yX8_act ∈ z_all := z_in (List.mem_append_right _ (List.mem_of_getElem? (i := 786) (by decide +kernel))) rfl
theorem wl_X8_act : Cond.selects RX8 yX8_act yX8_act ∈ z_all := z_in (List.mem_append_right _ (List.mem_of_getElem? (i := 787) (by decide +kernel))) rfl
theorem wd_X8_act : yX8_act.cls ≠ "java/lang/invoke/MethodHandle" ∧ yX8_act.cls ≠ "java/lang/invoke/VarHandle" ∧ (parseMethodDescriptor yX8_act.desc).map (fun d => d.parameters.length) = some 3 := ⟨by decide +kernel, by decide +kernel, by decide +kernel⟩
theorem vL_157 : z_CV RL 157 yX8_act cX8_act 4 (some .int) 3 := ⟨z_in (List.mem_append_right _ (List.mem_of_getElem? (i := 785) (by decide +kernel))) rfl, wi_X8_act, wl_X8_act, nI_RX8, wc_X8_act, wd_X8_act, by decide⟩
theorem wi_X9_act : Cond.instanceMethod yX9_act ∈ z_all := z_in (List.mem_append_right _ (List.mem_of_getElem? (i := 1478) (by decide +kernel))) rfl
theorem wl_X9_act : Cond.selects RX9 yX9_act yX9_act ∈ z_all := z_in (List.mem_append_right _ (List.mem_of_getElem? (i := 1479) (by decide +kernel))) rfl
theorem wd_X9_act : yX9_act.cls ≠ "java/lang/invoke/MethodHandle" ∧ yX9_act.cls ≠ "java/lang/invoke/VarHandle" ∧ (parseMethodDescriptor yX9_act.desc).map (fun d => d.parameters.length) = some 3 := ⟨by decide +kernel, by decide +kernel, by decide +kernel⟩
theorem vL_160 : z_CV RL 160 yX9_act cX9_act 4 (some .int) 3 := ⟨z_in (List.mem_append_right _ (List.mem_of_getElem? (i := 1477) (by decide +kernel))) rfl, wi_X9_act, wl_X9_act, nI_RX9, wc_X9_act, wd_X9_act, by decide⟩
theorem wi_X8_trace : Cond.instanceMethod yX8_trace ∈ z_all := z_in (List.mem_append_right _ (List.mem_of_getElem? (i := 817) (by decide +kernel))) rfl
theorem wl_X8_trace : Cond.selects RX8 yX8_trace yX8_trace ∈ z_all := z_in (List.mem_append_right _ (List.mem_of_getElem? (i := 818) (by decide +kernel))) rfl
theorem wd_X8_trace : yX8_trace.cls ≠ "java/lang/invoke/MethodHandle" ∧ yX8_trace.cls ≠ "java/lang/invoke/VarHandle" ∧ (parseMethodDescriptor yX8_trace.desc).map (fun d => d.parameters.length) = some 1 := ⟨by decide +kernel, by decide +kernel, by decide +kernel⟩
theorem vL_161 : z_CV RL 161 yX8_trace cX8_trace 2 (some .int) 1 := ⟨z_in (List.mem_append_right _ (List.mem_of_getElem? (i := 816) (by decide +kernel))) rfl, wi_X8_trace, wl_X8_trace, nI_RX8, wc_X8_trace, wd_X8_trace, by decide⟩
theorem wi_X9_trace : Cond.instanceMethod yX9_trace ∈ z_all := z_in (List.mem_append_right _ (List.mem_of_getElem? (i := 1470) (by decide +kernel))) rfl
theorem wl_X9_trace : Cond.selects RX9 yX9_trace yX9_trace ∈ z_all := z_in (List.mem_append_right _ (List.mem_of_getElem? (i := 1471) (by decide +kernel))) rfl
theorem wd_X9_trace : yX9_trace.cls ≠ "java/lang/invoke/MethodHandle" ∧ yX9_trace.cls ≠ "java/lang/invoke/VarHandle" ∧ (parseMethodDescriptor yX9_trace.desc).map (fun d => d.parameters.length) = some 1 := ⟨by decide +kernel, by decide +kernel, by decide +kernel⟩
theorem vL_164 : z_CV RL 164 yX9_trace cX9_trace 2 (some .int) 1 := ⟨z_in (List.mem_append_right _ (List.mem_of_getElem? (i := 1469) (by decide +kernel))) rfl, wi_X9_trace, wl_X9_trace, nI_RX9, wc_X9_trace, wd_X9_trace, by decide⟩
theorem wi_X8_keep : Cond.instanceMethod yX8_keep ∈ z_all := z_in (List.mem_append_right _ (List.mem_of_getElem? (i := 825) (by decide +kernel))) rfl
theorem wl_X8_keep : Cond.selects RX8 yX8_keep yX8_keep ∈ z_all := z_in (List.mem_append_right _ (List.mem_of_getElem? (i := 826) (by decide +kernel))) rfl
theorem wd_X8_keep : yX8_keep.cls ≠ "java/lang/invoke/MethodHandle" ∧ yX8_keep.cls ≠ "java/lang/invoke/VarHandle" ∧ (parseMethodDescriptor yX8_keep.desc).map (fun d => d.parameters.length) = some 2 := ⟨by decide +kernel, by decide +kernel, by decide +kernel⟩
theorem vL_165 : z_CV RL 165 yX8_keep cX8_keep 3 (some .int) 2 := ⟨z_in (List.mem_append_right _ (List.mem_of_getElem? (i := 824) (by decide +kernel))) rfl, wi_X8_keep, wl_X8_keep, nI_RX8, wc_X8_keep, wd_X8_keep, by decide⟩
theorem wi_X9_keep : Cond.instanceMethod yX9_keep ∈ z_all := z_in (List.mem_append_right _ (List.mem_of_getElem? (i := 1541) (by decide +kernel))) rfl
theorem wl_X9_keep : Cond.selects RX9 yX9_keep yX9_keep ∈ z_all := z_in (List.mem_append_right _ (List.mem_of_getElem? (i := 1542) (by decide +kernel))) rfl
theorem wd_X9_keep : yX9_keep.cls ≠ "java/lang/invoke/MethodHandle" ∧ yX9_keep.cls ≠ "java/lang/invoke/VarHandle" ∧ (parseMethodDescriptor yX9_keep.desc).map (fun d => d.parameters.length) = some 2 := ⟨by decide +kernel, by decide +kernel, by decide +kernel⟩
theorem vL_168 : z_CV RL 168 yX9_keep cX9_keep 3 (some .int) 2 := ⟨z_in (List.mem_append_right _ (List.mem_of_getElem? (i := 1540) (by decide +kernel))) rfl, wi_X9_keep, wl_X9_keep, nI_RX9, wc_X9_keep, wd_X9_keep, by decide⟩
theorem wi_X8_row : Cond.instanceMethod yX8_row ∈ z_all := z_in (List.mem_append_right _ (List.mem_of_getElem? (i := 833) (by decide +kernel))) rfl
theorem wl_X8_row : Cond.selects RX8 yX8_row yX8_row ∈ z_all := z_in (List.mem_append_right _ (List.mem_of_getElem? (i := 834) (by decide +kernel))) rfl
theorem wd_X8_row : yX8_row.cls ≠ "java/lang/invoke/MethodHandle" ∧ yX8_row.cls ≠ "java/lang/invoke/VarHandle" ∧ (parseMethodDescriptor yX8_row.desc).map (fun d => d.parameters.length) = some 3 := ⟨by decide +kernel, by decide +kernel, by decide +kernel⟩
theorem vL_169 : z_CV RL 169 yX8_row cX8_row 4 (some .int) 3 := ⟨z_in (List.mem_append_right _ (List.mem_of_getElem? (i := 832) (by decide +kernel))) rfl, wi_X8_row, wl_X8_row, nI_RX8, wc_X8_row, wd_X8_row, by decide⟩
theorem wi_X9_word : Cond.instanceMethod yX9_word ∈ z_all := z_in (List.mem_append_right _ (List.mem_of_getElem? (i := 1091) (by decide +kernel))) rfl
theorem wl_X9_word : Cond.selects RX9 yX9_word yX9_word ∈ z_all := z_in (List.mem_append_right _ (List.mem_of_getElem? (i := 1092) (by decide +kernel))) rfl
theorem wd_X9_word : yX9_word.cls ≠ "java/lang/invoke/MethodHandle" ∧ yX9_word.cls ≠ "java/lang/invoke/VarHandle" ∧ (parseMethodDescriptor yX9_word.desc).map (fun d => d.parameters.length) = some 2 := ⟨by decide +kernel, by decide +kernel, by decide +kernel⟩
theorem vL_17 : z_CV RL 17 yX9_word cX9_word 3 (some .int) 2 := ⟨z_in (List.mem_append_right _ (List.mem_of_getElem? (i := 1090) (by decide +kernel))) rfl, wi_X9_word, wl_X9_word, nI_RX9, wc_X9_word, wd_X9_word, by decide⟩
theorem wi_X9_row : Cond.instanceMethod yX9_row ∈ z_all := z_in (List.mem_append_right _ (List.mem_of_getElem? (i := 1545) (by decide +kernel))) rfl
theorem wl_X9_row : Cond.selects RX9 yX9_row yX9_row ∈ z_all := z_in (List.mem_append_right _ (List.mem_of_getElem? (i := 1546) (by decide +kernel))) rfl
theorem wd_X9_row : yX9_row.cls ≠ "java/lang/invoke/MethodHandle" ∧ yX9_row.cls ≠ "java/lang/invoke/VarHandle" ∧ (parseMethodDescriptor yX9_row.desc).map (fun d => d.parameters.length) = some 3 := ⟨by decide +kernel, by decide +kernel, by decide +kernel⟩
theorem vL_172 : z_CV RL 172 yX9_row cX9_row 5 (some .int) 3 := ⟨z_in (List.mem_append_right _ (List.mem_of_getElem? (i := 1544) (by decide +kernel))) rfl, wi_X9_row, wl_X9_row, nI_RX9, wc_X9_row, wd_X9_row, by decide⟩
theorem wi_X8_put : Cond.instanceMethod yX8_put ∈ z_all := z_in (List.mem_append_right _ (List.mem_of_getElem? (i := 841) (by decide +kernel))) rfl
theorem wl_X8_put : Cond.selects RX8 yX8_put yX8_put ∈ z_all := z_in (List.mem_append_right _ (List.mem_of_getElem? (i := 842) (by decide +kernel))) rfl
theorem wd_X8_put : yX8_put.cls ≠ "java/lang/invoke/MethodHandle" ∧ yX8_put.cls ≠ "java/lang/invoke/VarHandle" ∧ (parseMethodDescriptor yX8_put.desc).map (fun d => d.parameters.length) = some 3 := ⟨by decide +kernel, by decide +kernel, by decide +kernel⟩
theorem vL_175 : z_CV RL 175 yX8_put cX8_put 6 (some .int) 3 := ⟨z_in (List.mem_append_right _ (List.mem_of_getElem? (i := 840) (by decide +kernel))) rfl, wi_X8_put, wl_X8_put, nI_RX8, wc_X8_put, wd_X8_put, by decide⟩
theorem wi_X9_put : Cond.instanceMethod yX9_put ∈ z_all := z_in (List.mem_append_right _ (List.mem_of_getElem? (i := 1549) (by decide +kernel))) rfl
theorem wl_X9_put : Cond.selects RX9 yX9_put yX9_put ∈ z_all := z_in (List.mem_append_right _ (List.mem_of_getElem? (i := 1550) (by decide +kernel))) rfl
theorem wd_X9_put : yX9_put.cls ≠ "java/lang/invoke/MethodHandle" ∧ yX9_put.cls ≠ "java/lang/invoke/VarHandle" ∧ (parseMethodDescriptor yX9_put.desc).map (fun d => d.parameters.length) = some 3 := ⟨by decide +kernel, by decide +kernel, by decide +kernel⟩
theorem vL_179 : z_CV RL 179 yX9_put cX9_put 7 (some .int) 3 := ⟨z_in (List.mem_append_right _ (List.mem_of_getElem? (i := 1548) (by decide +kernel))) rfl, wi_X9_put, wl_X9_put, nI_RX9, wc_X9_put, wd_X9_put, by decide⟩
theorem wi_X8_words : Cond.instanceMethod yX8_words ∈ z_all := z_in (List.mem_append_right _ (List.mem_of_getElem? (i := 321) (by decide +kernel))) rfl
theorem wl_X8_words : Cond.selects RX8 yX8_words yX8_words ∈ z_all := z_in (List.mem_append_right _ (List.mem_of_getElem? (i := 322) (by decide +kernel))) rfl
theorem wd_X8_words : yX8_words.cls ≠ "java/lang/invoke/MethodHandle" ∧ yX8_words.cls ≠ "java/lang/invoke/VarHandle" ∧ (parseMethodDescriptor yX8_words.desc).map (fun d => d.parameters.length) = some 3 := ⟨by decide +kernel, by decide +kernel, by decide +kernel⟩
theorem vL_18 : z_CV RL 18 yX8_words cX8_words 8 (some .int) 3 := ⟨z_in (List.mem_append_right _ (List.mem_of_getElem? (i := 320) (by decide +kernel))) rfl, wi_X8_words, wl_X8_words, nI_RX8, wc_X8_words, wd_X8_words, by decide⟩
theorem wi_X8_element : Cond.instanceMethod yX8_element ∈ z_all := z_in (List.mem_append_right _ (List.mem_of_getElem? (i := 861) (by decide +kernel))) rfl
theorem wl_X8_element : Cond.selects RX8 yX8_element yX8_element ∈ z_all := z_in (List.mem_append_right _ (List.mem_of_getElem? (i := 862) (by decide +kernel))) rfl
theorem wd_X8_element : yX8_element.cls ≠ "java/lang/invoke/MethodHandle" ∧ yX8_element.cls ≠ "java/lang/invoke/VarHandle" ∧ (parseMethodDescriptor yX8_element.desc).map (fun d => d.parameters.length) = some 2 := ⟨by decide +kernel, by decide +kernel, by decide +kernel⟩
theorem vL_180 : z_CV RL 180 yX8_element cX8_element 3 (some .long) 2 := ⟨z_in (List.mem_append_right _ (List.mem_of_getElem? (i := 860) (by decide +kernel))) rfl, wi_X8_element, wl_X8_element, nI_RX8, wc_X8_element, wd_X8_element, by decide⟩
theorem wi_X9_element : Cond.instanceMethod yX9_element ∈ z_all := z_in (List.mem_append_right _ (List.mem_of_getElem? (i := 1557) (by decide +kernel))) rfl
theorem wl_X9_element : Cond.selects RX9 yX9_element yX9_element ∈ z_all := z_in (List.mem_append_right _ (List.mem_of_getElem? (i := 1558) (by decide +kernel))) rfl
theorem wd_X9_element : yX9_element.cls ≠ "java/lang/invoke/MethodHandle" ∧ yX9_element.cls ≠ "java/lang/invoke/VarHandle" ∧ (parseMethodDescriptor yX9_element.desc).map (fun d => d.parameters.length) = some 2 := ⟨by decide +kernel, by decide +kernel, by decide +kernel⟩
theorem vL_183 : z_CV RL 183 yX9_element cX9_element 3 (some .long) 2 := ⟨z_in (List.mem_append_right _ (List.mem_of_getElem? (i := 1556) (by decide +kernel))) rfl, wi_X9_element, wl_X9_element, nI_RX9, wc_X9_element, wd_X9_element, by decide⟩
theorem wi_X8_shift : Cond.instanceMethod yX8_shift ∈ z_all := z_in (List.mem_append_right _ (List.mem_of_getElem? (i := 865) (by decide +kernel))) rfl
theorem wl_X8_shift : Cond.selects RX8 yX8_shift yX8_shift ∈ z_all := z_in (List.mem_append_right _ (List.mem_of_getElem? (i := 866) (by decide +kernel))) rfl
theorem wd_X8_shift : yX8_shift.cls ≠ "java/lang/invoke/MethodHandle" ∧ yX8_shift.cls ≠ "java/lang/invoke/VarHandle" ∧ (parseMethodDescriptor yX8_shift.desc).map (fun d => d.parameters.length) = some 5 := ⟨by decide +kernel, by decide +kernel, by decide +kernel⟩
theorem vL_184 : z_CV RL 184 yX8_shift cX8_shift 6 (some .int) 5 := ⟨z_in (List.mem_append_right _ (List.mem_of_getElem? (i := 864) (by decide +kernel))) rfl, wi_X8_shift, wl_X8_shift, nI_RX8, wc_X8_shift, wd_X8_shift, by decide⟩
theorem wi_X9_shift : Cond.instanceMethod yX9_shift ∈ z_all := z_in (List.mem_append_right _ (List.mem_of_getElem? (i := 1561) (by decide +kernel))) rfl
theorem wl_X9_shift : Cond.selects RX9 yX9_shift yX9_shift ∈ z_all := z_in (List.mem_append_right _ (List.mem_of_getElem? (i := 1562) (by decide +kernel))) rfl
theorem wd_X9_shift : yX9_shift.cls ≠ "java/lang/invoke/MethodHandle" ∧ yX9_shift.cls ≠ "java/lang/invoke/VarHandle" ∧ (parseMethodDescriptor yX9_shift.desc).map (fun d => d.parameters.length) = some 5 := ⟨by decide +kernel, by decide +kernel, by decide +kernel⟩
theorem vL_188 : z_CV RL 188 yX9_shift cX9_shift 7 (some .int) 5 := ⟨z_in (List.mem_append_right _ (List.mem_of_getElem? (i := 1560) (by decide +kernel))) rfl, wi_X9_shift, wl_X9_shift, nI_RX9, wc_X9_shift, wd_X9_shift, by decide⟩
theorem wi_X8_taken : Cond.instanceMethod yX8_taken ∈ z_all := z_in (List.mem_append_right _ (List.mem_of_getElem? (i := 880) (by decide +kernel))) rfl
theorem wl_X8_taken : Cond.selects RX8 yX8_taken yX8_taken ∈ z_all := z_in (List.mem_append_right _ (List.mem_of_getElem? (i := 881) (by decide +kernel))) rfl
theorem wd_X8_taken : yX8_taken.cls ≠ "java/lang/invoke/MethodHandle" ∧ yX8_taken.cls ≠ "java/lang/invoke/VarHandle" ∧ (parseMethodDescriptor yX8_taken.desc).map (fun d => d.parameters.length) = some 2 := ⟨by decide +kernel, by decide +kernel, by decide +kernel⟩
theorem vL_189 : z_CV RL 189 yX8_taken cX8_taken 4 (some .int) 2 := ⟨z_in (List.mem_append_right _ (List.mem_of_getElem? (i := 879) (by decide +kernel))) rfl, wi_X8_taken, wl_X8_taken, nI_RX8, wc_X8_taken, wd_X8_taken, by decide⟩
theorem wi_X9_taken : Cond.instanceMethod yX9_taken ∈ z_all := z_in (List.mem_append_right _ (List.mem_of_getElem? (i := 1565) (by decide +kernel))) rfl
theorem wl_X9_taken : Cond.selects RX9 yX9_taken yX9_taken ∈ z_all := z_in (List.mem_append_right _ (List.mem_of_getElem? (i := 1566) (by decide +kernel))) rfl
theorem wd_X9_taken : yX9_taken.cls ≠ "java/lang/invoke/MethodHandle" ∧ yX9_taken.cls ≠ "java/lang/invoke/VarHandle" ∧ (parseMethodDescriptor yX9_taken.desc).map (fun d => d.parameters.length) = some 2 := ⟨by decide +kernel, by decide +kernel, by decide +kernel⟩
theorem vL_192 : z_CV RL 192 yX9_taken cX9_taken 3 (some .int) 2 := ⟨z_in (List.mem_append_right _ (List.mem_of_getElem? (i := 1564) (by decide +kernel))) rfl, wi_X9_taken, wl_X9_taken, nI_RX9, wc_X9_taken, wd_X9_taken, by decide⟩
theorem wi_X8_count : Cond.instanceMethod yX8_count ∈ z_all := z_in (List.mem_append_right _ (List.mem_of_getElem? (i := 893) (by decide +kernel))) rfl
theorem wl_X8_count : Cond.selects RX8 yX8_count yX8_count ∈ z_all := z_in (List.mem_append_right _ (List.mem_of_getElem? (i := 894) (by decide +kernel))) rfl
theorem wd_X8_count : yX8_count.cls ≠ "java/lang/invoke/MethodHandle" ∧ yX8_count.cls ≠ "java/lang/invoke/VarHandle" ∧ (parseMethodDescriptor yX8_count.desc).map (fun d => d.parameters.length) = some 1 := ⟨by decide +kernel, by decide +kernel, by decide +kernel⟩
theorem vL_193 : z_CV RL 193 yX8_count cX8_count 2 (some .int) 1 := ⟨z_in (List.mem_append_right _ (List.mem_of_getElem? (i := 892) (by decide +kernel))) rfl, wi_X8_count, wl_X8_count, nI_RX8, wc_X8_count, wd_X8_count, by decide⟩
theorem wi_X9_count : Cond.instanceMethod yX9_count ∈ z_all := z_in (List.mem_append_right _ (List.mem_of_getElem? (i := 1537) (by decide +kernel))) rfl
theorem wl_X9_count : Cond.selects RX9 yX9_count yX9_count ∈ z_all := z_in (List.mem_append_right _ (List.mem_of_getElem? (i := 1538) (by decide +kernel))) rfl
theorem wd_X9_count : yX9_count.cls ≠ "java/lang/invoke/MethodHandle" ∧ yX9_count.cls ≠ "java/lang/invoke/VarHandle" ∧ (parseMethodDescriptor yX9_count.desc).map (fun d => d.parameters.length) = some 1 := ⟨by decide +kernel, by decide +kernel, by decide +kernel⟩
theorem vL_196 : z_CV RL 196 yX9_count cX9_count 2 (some .int) 1 := ⟨z_in (List.mem_append_right _ (List.mem_of_getElem? (i := 1536) (by decide +kernel))) rfl, wi_X9_count, wl_X9_count, nI_RX9, wc_X9_count, wd_X9_count, by decide⟩
theorem wi_X9_words : Cond.instanceMethod yX9_words ∈ z_all := z_in (List.mem_append_right _ (List.mem_of_getElem? (i := 1102) (by decide +kernel))) rfl
theorem wl_X9_words : Cond.selects RX9 yX9_words yX9_words ∈ z_all := z_in (List.mem_append_right _ (List.mem_of_getElem? (i := 1103) (by decide +kernel))) rfl
theorem wd_X9_words : yX9_words.cls ≠ "java/lang/invoke/MethodHandle" ∧ yX9_words.cls ≠ "java/lang/invoke/VarHandle" ∧ (parseMethodDescriptor yX9_words.desc).map (fun d => d.parameters.length) = some 3 := ⟨by decide +kernel, by decide +kernel, by decide +kernel⟩
theorem vL_22 : z_CV RL 22 yX9_words cX9_words 8 (some .int) 3 := ⟨z_in (List.mem_append_right _ (List.mem_of_getElem? (i := 1101) (by decide +kernel))) rfl, wi_X9_words, wl_X9_words, nI_RX9, wc_X9_words, wd_X9_words, by decide⟩
theorem wi_X8_mesh : Cond.instanceMethod yX8_mesh ∈ z_all := z_in (List.mem_append_right _ (List.mem_of_getElem? (i := 358) (by decide +kernel))) rfl
theorem wl_X8_mesh : Cond.selects RX8 yX8_mesh yX8_mesh ∈ z_all := z_in (List.mem_append_right _ (List.mem_of_getElem? (i := 359) (by decide +kernel))) rfl
theorem wd_X8_mesh : yX8_mesh.cls ≠ "java/lang/invoke/MethodHandle" ∧ yX8_mesh.cls ≠ "java/lang/invoke/VarHandle" ∧ (parseMethodDescriptor yX8_mesh.desc).map (fun d => d.parameters.length) = some 1 := ⟨by decide +kernel, by decide +kernel, by decide +kernel⟩
theorem vL_23 : z_CV RL 23 yX8_mesh cX8_mesh 2 (some .int) 1 := ⟨z_in (List.mem_append_right _ (List.mem_of_getElem? (i := 357) (by decide +kernel))) rfl, wi_X8_mesh, wl_X8_mesh, nI_RX8, wc_X8_mesh, wd_X8_mesh, by decide⟩
theorem wi_X9_mesh : Cond.instanceMethod yX9_mesh ∈ z_all := z_in (List.mem_append_right _ (List.mem_of_getElem? (i := 1110) (by decide +kernel))) rfl
theorem wl_X9_mesh : Cond.selects RX9 yX9_mesh yX9_mesh ∈ z_all := z_in (List.mem_append_right _ (List.mem_of_getElem? (i := 1111) (by decide +kernel))) rfl
theorem wd_X9_mesh : yX9_mesh.cls ≠ "java/lang/invoke/MethodHandle" ∧ yX9_mesh.cls ≠ "java/lang/invoke/VarHandle" ∧ (parseMethodDescriptor yX9_mesh.desc).map (fun d => d.parameters.length) = some 1 := ⟨by decide +kernel, by decide +kernel, by decide +kernel⟩
theorem vL_27 : z_CV RL 27 yX9_mesh cX9_mesh 2 (some .int) 1 := ⟨z_in (List.mem_append_right _ (List.mem_of_getElem? (i := 1109) (by decide +kernel))) rfl, wi_X9_mesh, wl_X9_mesh, nI_RX9, wc_X9_mesh, wd_X9_mesh, by decide⟩
theorem wi_X8_person : Cond.instanceMethod yX8_person ∈ z_all := z_in (List.mem_append_right _ (List.mem_of_getElem? (i := 366) (by decide +kernel))) rfl
theorem wl_X8_person : Cond.selects RX8 yX8_person yX8_person ∈ z_all := z_in (List.mem_append_right _ (List.mem_of_getElem? (i := 367) (by decide +kernel))) rfl
theorem wd_X8_person : yX8_person.cls ≠ "java/lang/invoke/MethodHandle" ∧ yX8_person.cls ≠ "java/lang/invoke/VarHandle" ∧ (parseMethodDescriptor yX8_person.desc).map (fun d => d.parameters.length) = some 1 := ⟨by decide +kernel, by decide +kernel, by decide +kernel⟩
theorem vL_28 : z_CV RL 28 yX8_person cX8_person 2 (some .int) 1 := ⟨z_in (List.mem_append_right _ (List.mem_of_getElem? (i := 365) (by decide +kernel))) rfl, wi_X8_person, wl_X8_person, nI_RX8, wc_X8_person, wd_X8_person, by decide⟩
theorem wi_X9_person : Cond.instanceMethod yX9_person ∈ z_all := z_in (List.mem_append_right _ (List.mem_of_getElem? (i := 1114) (by decide +kernel))) rfl
theorem wl_X9_person : Cond.selects RX9 yX9_person yX9_person ∈ z_all := z_in (List.mem_append_right _ (List.mem_of_getElem? (i := 1115) (by decide +kernel))) rfl
theorem wd_X9_person : yX9_person.cls ≠ "java/lang/invoke/MethodHandle" ∧ yX9_person.cls ≠ "java/lang/invoke/VarHandle" ∧ (parseMethodDescriptor yX9_person.desc).map (fun d => d.parameters.length) = some 1 := ⟨by decide +kernel, by decide +kernel, by decide +kernel⟩
theorem vL_31 : z_CV RL 31 yX9_person cX9_person 2 (some .int) 1 := ⟨z_in (List.mem_append_right _ (List.mem_of_getElem? (i := 1113) (by decide +kernel))) rfl, wi_X9_person, wl_X9_person, nI_RX9, wc_X9_person, wd_X9_person, by decide⟩
theorem wi_X8_mend : Cond.instanceMethod yX8_mend ∈ z_all := z_in (List.mem_append_right _ (List.mem_of_getElem? (i := 374) (by decide +kernel))) rfl
theorem wl_X8_mend : Cond.selects RX8 yX8_mend yX8_mend ∈ z_all := z_in (List.mem_append_right _ (List.mem_of_getElem? (i := 375) (by decide +kernel))) rfl
theorem wd_X8_mend : yX8_mend.cls ≠ "java/lang/invoke/MethodHandle" ∧ yX8_mend.cls ≠ "java/lang/invoke/VarHandle" ∧ (parseMethodDescriptor yX8_mend.desc).map (fun d => d.parameters.length) = some 3 := ⟨by decide +kernel, by decide +kernel, by decide +kernel⟩
theorem vL_32 : z_CV RL 32 yX8_mend cX8_mend 5 (some .int) 3 := ⟨z_in (List.mem_append_right _ (List.mem_of_getElem? (i := 373) (by decide +kernel))) rfl, wi_X8_mend, wl_X8_mend, nI_RX8, wc_X8_mend, wd_X8_mend, by decide⟩
theorem wi_X9_mend : Cond.instanceMethod yX9_mend ∈ z_all := z_in (List.mem_append_right _ (List.mem_of_getElem? (i := 1130) (by decide +kernel))) rfl
theorem wl_X9_mend : Cond.selects RX9 yX9_mend yX9_mend ∈ z_all := z_in (List.mem_append_right _ (List.mem_of_getElem? (i := 1131) (by decide +kernel))) rfl
theorem wd_X9_mend : yX9_mend.cls ≠ "java/lang/invoke/MethodHandle" ∧ yX9_mend.cls ≠ "java/lang/invoke/VarHandle" ∧ (parseMethodDescriptor yX9_mend.desc).map (fun d => d.parameters.length) = some 3 := ⟨by decide +kernel, by decide +kernel, by decide +kernel⟩
theorem vL_35 : z_CV RL 35 yX9_mend cX9_mend 4 (some .int) 3 := ⟨z_in (List.mem_append_right _ (List.mem_of_getElem? (i := 1129) (by decide +kernel))) rfl, wi_X9_mend, wl_X9_mend, nI_RX9, wc_X9_mend, wd_X9_mend, by decide⟩
theorem wi_X8_of : Cond.instanceMethod yX8_of ∈ z_all := z_in (List.mem_append_right _ (List.mem_of_getElem? (i := 392) (by decide +kernel))) rfl
theorem wl_X8_of : Cond.selects RX8 yX8_of yX8_of ∈ z_all := z_in (List.mem_append_right _ (List.mem_of_getElem? (i := 393) (by decide +kernel))) rfl
theorem wd_X8_of : yX8_of.cls ≠ "java/lang/invoke/MethodHandle" ∧ yX8_of.cls ≠ "java/lang/invoke/VarHandle" ∧ (parseMethodDescriptor yX8_of.desc).map (fun d => d.parameters.length) = some 2 := ⟨by decide +kernel, by decide +kernel, by decide +kernel⟩
theorem vL_36 : z_CV RL 36 yX8_of cX8_of 3 (some .int) 2 := ⟨z_in (List.mem_append_right _ (List.mem_of_getElem? (i := 391) (by decide +kernel))) rfl, wi_X8_of, wl_X8_of, nI_RX8, wc_X8_of, wd_X8_of, by decide⟩
theorem wi_X9_of : Cond.instanceMethod yX9_of ∈ z_all := z_in (List.mem_append_right _ (List.mem_of_getElem? (i := 1157) (by decide +kernel))) rfl
theorem wl_X9_of : Cond.selects RX9 yX9_of yX9_of ∈ z_all := z_in (List.mem_append_right _ (List.mem_of_getElem? (i := 1158) (by decide +kernel))) rfl
theorem wd_X9_of : yX9_of.cls ≠ "java/lang/invoke/MethodHandle" ∧ yX9_of.cls ≠ "java/lang/invoke/VarHandle" ∧ (parseMethodDescriptor yX9_of.desc).map (fun d => d.parameters.length) = some 2 := ⟨by decide +kernel, by decide +kernel, by decide +kernel⟩
theorem vL_39 : z_CV RL 39 yX9_of cX9_of 3 (some .int) 2 := ⟨z_in (List.mem_append_right _ (List.mem_of_getElem? (i := 1156) (by decide +kernel))) rfl, wi_X9_of, wl_X9_of, nI_RX9, wc_X9_of, wd_X9_of, by decide⟩
theorem wi_X8_feed : Cond.instanceMethod yX8_feed ∈ z_all := z_in (List.mem_append_right _ (List.mem_of_getElem? (i := 408) (by decide +kernel))) rfl
theorem wl_X8_feed : Cond.selects RX8 yX8_feed yX8_feed ∈ z_all := z_in (List.mem_append_right _ (List.mem_of_getElem? (i := 409) (by decide +kernel))) rfl
theorem wd_X8_feed : yX8_feed.cls ≠ "java/lang/invoke/MethodHandle" ∧ yX8_feed.cls ≠ "java/lang/invoke/VarHandle" ∧ (parseMethodDescriptor yX8_feed.desc).map (fun d => d.parameters.length) = some 1 := ⟨by decide +kernel, by decide +kernel, by decide +kernel⟩
theorem vL_40 : z_CV RL 40 yX8_feed cX8_feed 2 (some .int) 1 := ⟨z_in (List.mem_append_right _ (List.mem_of_getElem? (i := 407) (by decide +kernel))) rfl, wi_X8_feed, wl_X8_feed, nI_RX8, wc_X8_feed, wd_X8_feed, by decide⟩
theorem wi_X9_feed : Cond.instanceMethod yX9_feed ∈ z_all := z_in (List.mem_append_right _ (List.mem_of_getElem? (i := 1161) (by decide +kernel))) rfl
theorem wl_X9_feed : Cond.selects RX9 yX9_feed yX9_feed ∈ z_all := z_in (List.mem_append_right _ (List.mem_of_getElem? (i := 1162) (by decide +kernel))) rfl
theorem wd_X9_feed : yX9_feed.cls ≠ "java/lang/invoke/MethodHandle" ∧ yX9_feed.cls ≠ "java/lang/invoke/VarHandle" ∧ (parseMethodDescriptor yX9_feed.desc).map (fun d => d.parameters.length) = some 1 := ⟨by decide +kernel, by decide +kernel, by decide +kernel⟩
theorem vL_43 : z_CV RL 43 yX9_feed cX9_feed 2 (some .int) 1 := ⟨z_in (List.mem_append_right _ (List.mem_of_getElem? (i := 1160) (by decide +kernel))) rfl, wi_X9_feed, wl_X9_feed, nI_RX9, wc_X9_feed, wd_X9_feed, by decide⟩
theorem wi_X8_law : Cond.instanceMethod yX8_law ∈ z_all := z_in (List.mem_append_right _ (List.mem_of_getElem? (i := 416) (by decide +kernel))) rfl
theorem wl_X8_law : Cond.selects RX8 yX8_law yX8_law ∈ z_all := z_in (List.mem_append_right _ (List.mem_of_getElem? (i := 417) (by decide +kernel))) rfl
theorem wd_X8_law : yX8_law.cls ≠ "java/lang/invoke/MethodHandle" ∧ yX8_law.cls ≠ "java/lang/invoke/VarHandle" ∧ (parseMethodDescriptor yX8_law.desc).map (fun d => d.parameters.length) = some 0 := ⟨by decide +kernel, by decide +kernel, by decide +kernel⟩
theorem vL_44 : z_CV RL 44 yX8_law cX8_law 1 (some .int) 0 := ⟨z_in (List.mem_append_right _ (List.mem_of_getElem? (i := 415) (by decide +kernel))) rfl, wi_X8_law, wl_X8_law, nI_RX8, wc_X8_law, wd_X8_law, by decide⟩
theorem wi_X9_law : Cond.instanceMethod yX9_law ∈ z_all := z_in (List.mem_append_right _ (List.mem_of_getElem? (i := 1165) (by decide +kernel))) rfl
theorem wl_X9_law : Cond.selects RX9 yX9_law yX9_law ∈ z_all := z_in (List.mem_append_right _ (List.mem_of_getElem? (i := 1166) (by decide +kernel))) rfl
theorem wd_X9_law : yX9_law.cls ≠ "java/lang/invoke/MethodHandle" ∧ yX9_law.cls ≠ "java/lang/invoke/VarHandle" ∧ (parseMethodDescriptor yX9_law.desc).map (fun d => d.parameters.length) = some 0 := ⟨by decide +kernel, by decide +kernel, by decide +kernel⟩
theorem vL_48 : z_CV RL 48 yX9_law cX9_law 2 (some .int) 0 := ⟨z_in (List.mem_append_right _ (List.mem_of_getElem? (i := 1164) (by decide +kernel))) rfl, wi_X9_law, wl_X9_law, nI_RX9, wc_X9_law, wd_X9_law, by decide⟩
theorem wi_X8_lets : Cond.instanceMethod yX8_lets ∈ z_all := z_in (List.mem_append_right _ (List.mem_of_getElem? (i := 465) (by decide +kernel))) rfl
theorem wl_X8_lets : Cond.selects RX8 yX8_lets yX8_lets ∈ z_all := z_in (List.mem_append_right _ (List.mem_of_getElem? (i := 466) (by decide +kernel))) rfl
theorem wd_X8_lets : yX8_lets.cls ≠ "java/lang/invoke/MethodHandle" ∧ yX8_lets.cls ≠ "java/lang/invoke/VarHandle" ∧ (parseMethodDescriptor yX8_lets.desc).map (fun d => d.parameters.length) = some 2 := ⟨by decide +kernel, by decide +kernel, by decide +kernel⟩
theorem vL_49 : z_CV RL 49 yX8_lets cX8_lets 5 (some .int) 2 := ⟨z_in (List.mem_append_right _ (List.mem_of_getElem? (i := 464) (by decide +kernel))) rfl, wi_X8_lets, wl_X8_lets, nI_RX8, wc_X8_lets, wd_X8_lets, by decide⟩
theorem wi_X9_lets : Cond.instanceMethod yX9_lets ∈ z_all := z_in (List.mem_append_right _ (List.mem_of_getElem? (i := 1224) (by decide +kernel))) rfl
theorem wl_X9_lets : Cond.selects RX9 yX9_lets yX9_lets ∈ z_all := z_in (List.mem_append_right _ (List.mem_of_getElem? (i := 1225) (by decide +kernel))) rfl
theorem wd_X9_lets : yX9_lets.cls ≠ "java/lang/invoke/MethodHandle" ∧ yX9_lets.cls ≠ "java/lang/invoke/VarHandle" ∧ (parseMethodDescriptor yX9_lets.desc).map (fun d => d.parameters.length) = some 2 := ⟨by decide +kernel, by decide +kernel, by decide +kernel⟩
theorem vL_52 : z_CV RL 52 yX9_lets cX9_lets 3 (some .int) 2 := ⟨z_in (List.mem_append_right _ (List.mem_of_getElem? (i := 1223) (by decide +kernel))) rfl, wi_X9_lets, wl_X9_lets, nI_RX9, wc_X9_lets, wd_X9_lets, by decide⟩
theorem wi_X8_through : Cond.instanceMethod yX8_through ∈ z_all := z_in (List.mem_append_right _ (List.mem_of_getElem? (i := 489) (by decide +kernel))) rfl
theorem wl_X8_through : Cond.selects RX8 yX8_through yX8_through ∈ z_all := z_in (List.mem_append_right _ (List.mem_of_getElem? (i := 490) (by decide +kernel))) rfl
theorem wd_X8_through : yX8_through.cls ≠ "java/lang/invoke/MethodHandle" ∧ yX8_through.cls ≠ "java/lang/invoke/VarHandle" ∧ (parseMethodDescriptor yX8_through.desc).map (fun d => d.parameters.length) = some 3 := ⟨by decide +kernel, by decide +kernel, by decide +kernel⟩
theorem vL_53 : z_CV RL 53 yX8_through cX8_through 5 (some .int) 3 := ⟨z_in (List.mem_append_right _ (List.mem_of_getElem? (i := 488) (by decide +kernel))) rfl, wi_X8_through, wl_X8_through, nI_RX8, wc_X8_through, wd_X8_through, by decide⟩
theorem wi_X9_through : Cond.instanceMethod yX9_through ∈ z_all := z_in (List.mem_append_right _ (List.mem_of_getElem? (i := 1247) (by decide +kernel))) rfl
theorem wl_X9_through : Cond.selects RX9 yX9_through yX9_through ∈ z_all := z_in (List.mem_append_right _ (List.mem_of_getElem? (i := 1248) (by decide +kernel))) rfl
theorem wd_X9_through : yX9_through.cls ≠ "java/lang/invoke/MethodHandle" ∧ yX9_through.cls ≠ "java/lang/invoke/VarHandle" ∧ (parseMethodDescriptor yX9_through.desc).map (fun d => d.parameters.length) = some 3 := ⟨by decide +kernel, by decide +kernel, by decide +kernel⟩
theorem vL_56 : z_CV RL 56 yX9_through cX9_through 5 (some .int) 3 := ⟨z_in (List.mem_append_right _ (List.mem_of_getElem? (i := 1246) (by decide +kernel))) rfl, wi_X9_through, wl_X9_through, nI_RX9, wc_X9_through, wd_X9_through, by decide⟩
theorem wi_X8_nth : Cond.instanceMethod yX8_nth ∈ z_all := z_in (List.mem_append_right _ (List.mem_of_getElem? (i := 542) (by decide +kernel))) rfl
theorem wl_X8_nth : Cond.selects RX8 yX8_nth yX8_nth ∈ z_all := z_in (List.mem_append_right _ (List.mem_of_getElem? (i := 543) (by decide +kernel))) rfl
theorem wd_X8_nth : yX8_nth.cls ≠ "java/lang/invoke/MethodHandle" ∧ yX8_nth.cls ≠ "java/lang/invoke/VarHandle" ∧ (parseMethodDescriptor yX8_nth.desc).map (fun d => d.parameters.length) = some 4 := ⟨by decide +kernel, by decide +kernel, by decide +kernel⟩
theorem vL_57 : z_CV RL 57 yX8_nth cX8_nth 7 (some .int) 4 := ⟨z_in (List.mem_append_right _ (List.mem_of_getElem? (i := 541) (by decide +kernel))) rfl, wi_X8_nth, wl_X8_nth, nI_RX8, wc_X8_nth, wd_X8_nth, by decide⟩
theorem wi_X9_nth : Cond.instanceMethod yX9_nth ∈ z_all := z_in (List.mem_append_right _ (List.mem_of_getElem? (i := 1283) (by decide +kernel))) rfl
theorem wl_X9_nth : Cond.selects RX9 yX9_nth yX9_nth ∈ z_all := z_in (List.mem_append_right _ (List.mem_of_getElem? (i := 1284) (by decide +kernel))) rfl
theorem wd_X9_nth : yX9_nth.cls ≠ "java/lang/invoke/MethodHandle" ∧ yX9_nth.cls ≠ "java/lang/invoke/VarHandle" ∧ (parseMethodDescriptor yX9_nth.desc).map (fun d => d.parameters.length) = some 4 := ⟨by decide +kernel, by decide +kernel, by decide +kernel⟩
theorem vL_61 : z_CV RL 61 yX9_nth cX9_nth 6 (some .int) 4 := ⟨z_in (List.mem_append_right _ (List.mem_of_getElem? (i := 1282) (by decide +kernel))) rfl, wi_X9_nth, wl_X9_nth, nI_RX9, wc_X9_nth, wd_X9_nth, by decide⟩
theorem wi_X8_several : Cond.instanceMethod yX8_several ∈ z_all := z_in (List.mem_append_right _ (List.mem_of_getElem? (i := 546) (by decide +kernel))) rfl
theorem wl_X8_several : Cond.selects RX8 yX8_several yX8_several ∈ z_all := z_in (List.mem_append_right _ (List.mem_of_getElem? (i := 547) (by decide +kernel))) rfl
theorem wd_X8_several : yX8_several.cls ≠ "java/lang/invoke/MethodHandle" ∧ yX8_several.cls ≠ "java/lang/invoke/VarHandle" ∧ (parseMethodDescriptor yX8_several.desc).map (fun d => d.parameters.length) = some 2 := ⟨by decide +kernel, by decide +kernel, by decide +kernel⟩
theorem vL_62 : z_CV RL 62 yX8_several cX8_several 11 (some .int) 2 := ⟨z_in (List.mem_append_right _ (List.mem_of_getElem? (i := 545) (by decide +kernel))) rfl, wi_X8_several, wl_X8_several, nI_RX8, wc_X8_several, wd_X8_several, by decide⟩
theorem wi_X9_several : Cond.instanceMethod yX9_several ∈ z_all := z_in (List.mem_append_right _ (List.mem_of_getElem? (i := 1287) (by decide +kernel))) rfl
theorem wl_X9_several : Cond.selects RX9 yX9_several yX9_several ∈ z_all := z_in (List.mem_append_right _ (List.mem_of_getElem? (i := 1288) (by decide +kernel))) rfl
theorem wd_X9_several : yX9_several.cls ≠ "java/lang/invoke/MethodHandle" ∧ yX9_several.cls ≠ "java/lang/invoke/VarHandle" ∧ (parseMethodDescriptor yX9_several.desc).map (fun d => d.parameters.length) = some 2 := ⟨by decide +kernel, by decide +kernel, by decide +kernel⟩
theorem vL_65 : z_CV RL 65 yX9_several cX9_several 8 (some .int) 2 := ⟨z_in (List.mem_append_right _ (List.mem_of_getElem? (i := 1286) (by decide +kernel))) rfl, wi_X9_several, wl_X9_several, nI_RX9, wc_X9_several, wd_X9_several, by decide⟩
theorem wi_X8_say : Cond.instanceMethod yX8_say ∈ z_all := z_in (List.mem_append_right _ (List.mem_of_getElem? (i := 558) (by decide +kernel))) rfl
theorem wl_X8_say : Cond.selects RX8 yX8_say yX8_say ∈ z_all := z_in (List.mem_append_right _ (List.mem_of_getElem? (i := 559) (by decide +kernel))) rfl
theorem wd_X8_say : yX8_say.cls ≠ "java/lang/invoke/MethodHandle" ∧ yX8_say.cls ≠ "java/lang/invoke/VarHandle" ∧ (parseMethodDescriptor yX8_say.desc).map (fun d => d.parameters.length) = some 3 := ⟨by decide +kernel, by decide +kernel, by decide +kernel⟩
theorem vL_66 : z_CV RL 66 yX8_say cX8_say 6 (some .int) 3 := ⟨z_in (List.mem_append_right _ (List.mem_of_getElem? (i := 557) (by decide +kernel))) rfl, wi_X8_say, wl_X8_say, nI_RX8, wc_X8_say, wd_X8_say, by decide⟩
theorem wi_X9_say : Cond.instanceMethod yX9_say ∈ z_all := z_in (List.mem_append_right _ (List.mem_of_getElem? (i := 1298) (by decide +kernel))) rfl
theorem wl_X9_say : Cond.selects RX9 yX9_say yX9_say ∈ z_all := z_in (List.mem_append_right _ (List.mem_of_getElem? (i := 1299) (by decide +kernel))) rfl
theorem wd_X9_say : yX9_say.cls ≠ "java/lang/invoke/MethodHandle" ∧ yX9_say.cls ≠ "java/lang/invoke/VarHandle" ∧ (parseMethodDescriptor yX9_say.desc).map (fun d => d.parameters.length) = some 3 := ⟨by decide +kernel, by decide +kernel, by decide +kernel⟩
theorem vL_69 : z_CV RL 69 yX9_say cX9_say 6 (some .int) 3 := ⟨z_in (List.mem_append_right _ (List.mem_of_getElem? (i := 1297) (by decide +kernel))) rfl, wi_X9_say, wl_X9_say, nI_RX9, wc_X9_say, wd_X9_say, by decide⟩
theorem wi_X8_finest : Cond.instanceMethod yX8_finest ∈ z_all := z_in (List.mem_append_right _ (List.mem_of_getElem? (i := 585) (by decide +kernel))) rfl
theorem wl_X8_finest : Cond.selects RX8 yX8_finest yX8_finest ∈ z_all := z_in (List.mem_append_right _ (List.mem_of_getElem? (i := 586) (by decide +kernel))) rfl
theorem wd_X8_finest : yX8_finest.cls ≠ "java/lang/invoke/MethodHandle" ∧ yX8_finest.cls ≠ "java/lang/invoke/VarHandle" ∧ (parseMethodDescriptor yX8_finest.desc).map (fun d => d.parameters.length) = some 1 := ⟨by decide +kernel, by decide +kernel, by decide +kernel⟩
theorem vL_70 : z_CV RL 70 yX8_finest cX8_finest 4 (some .int) 1 := ⟨z_in (List.mem_append_right _ (List.mem_of_getElem? (i := 584) (by decide +kernel))) rfl, wi_X8_finest, wl_X8_finest, nI_RX8, wc_X8_finest, wd_X8_finest, by decide⟩
theorem wi_X9_finest : Cond.instanceMethod yX9_finest ∈ z_all := z_in (List.mem_append_right _ (List.mem_of_getElem? (i := 1318) (by decide +kernel))) rfl
theorem wl_X9_finest : Cond.selects RX9 yX9_finest yX9_finest ∈ z_all := z_in (List.mem_append_right _ (List.mem_of_getElem? (i := 1319) (by decide +kernel))) rfl
theorem wd_X9_finest : yX9_finest.cls ≠ "java/lang/invoke/MethodHandle" ∧ yX9_finest.cls ≠ "java/lang/invoke/VarHandle" ∧ (parseMethodDescriptor yX9_finest.desc).map (fun d => d.parameters.length) = some 1 := ⟨by decide +kernel, by decide +kernel, by decide +kernel⟩
theorem vL_73 : z_CV RL 73 yX9_finest cX9_finest 4 (some .int) 1 := ⟨z_in (List.mem_append_right _ (List.mem_of_getElem? (i := 1317) (by decide +kernel))) rfl, wi_X9_finest, wl_X9_finest, nI_RX9, wc_X9_finest, wd_X9_finest, by decide⟩
theorem wi_X8_keeps : Cond.instanceMethod yX8_keeps ∈ z_all := z_in (List.mem_append_right _ (List.mem_of_getElem? (i := 589) (by decide +kernel))) rfl
theorem wl_X8_keeps : Cond.selects RX8 yX8_keeps yX8_keeps ∈ z_all := z_in (List.mem_append_right _ (List.mem_of_getElem? (i := 590) (by decide +kernel))) rfl
theorem wd_X8_keeps : yX8_keeps.cls ≠ "java/lang/invoke/MethodHandle" ∧ yX8_keeps.cls ≠ "java/lang/invoke/VarHandle" ∧ (parseMethodDescriptor yX8_keeps.desc).map (fun d => d.parameters.length) = some 1 := ⟨by decide +kernel, by decide +kernel, by decide +kernel⟩
theorem vL_74 : z_CV RL 74 yX8_keeps cX8_keeps 4 (some .int) 1 := ⟨z_in (List.mem_append_right _ (List.mem_of_getElem? (i := 588) (by decide +kernel))) rfl, wi_X8_keeps, wl_X8_keeps, nI_RX8, wc_X8_keeps, wd_X8_keeps, by decide⟩
theorem wi_X9_keeps : Cond.instanceMethod yX9_keeps ∈ z_all := z_in (List.mem_append_right _ (List.mem_of_getElem? (i := 1326) (by decide +kernel))) rfl
theorem wl_X9_keeps : Cond.selects RX9 yX9_keeps yX9_keeps ∈ z_all := z_in (List.mem_append_right _ (List.mem_of_getElem? (i := 1327) (by decide +kernel))) rfl
theorem wd_X9_keeps : yX9_keeps.cls ≠ "java/lang/invoke/MethodHandle" ∧ yX9_keeps.cls ≠ "java/lang/invoke/VarHandle" ∧ (parseMethodDescriptor yX9_keeps.desc).map (fun d => d.parameters.length) = some 1 := ⟨by decide +kernel, by decide +kernel, by decide +kernel⟩
theorem vL_77 : z_CV RL 77 yX9_keeps cX9_keeps 4 (some .int) 1 := ⟨z_in (List.mem_append_right _ (List.mem_of_getElem? (i := 1325) (by decide +kernel))) rfl, wi_X9_keeps, wl_X9_keeps, nI_RX9, wc_X9_keeps, wd_X9_keeps, by decide⟩
theorem wi_X8_leastLost : Cond.instanceMethod yX8_leastLost ∈ z_all := z_in (List.mem_append_right _ (List.mem_of_getElem? (i := 597) (by decide +kernel))) rfl
theorem wl_X8_leastLost : Cond.selects RX8 yX8_leastLost yX8_leastLost ∈ z_all := z_in (List.mem_append_right _ (List.mem_of_getElem? (i := 598) (by decide +kernel))) rfl
theorem wd_X8_leastLost : yX8_leastLost.cls ≠ "java/lang/invoke/MethodHandle" ∧ yX8_leastLost.cls ≠ "java/lang/invoke/VarHandle" ∧ (parseMethodDescriptor yX8_leastLost.desc).map (fun d => d.parameters.length) = some 1 := ⟨by decide +kernel, by decide +kernel, by decide +kernel⟩
theorem vL_78 : z_CV RL 78 yX8_leastLost cX8_leastLost 7 (some .int) 1 := ⟨z_in (List.mem_append_right _ (List.mem_of_getElem? (i := 596) (by decide +kernel))) rfl, wi_X8_leastLost, wl_X8_leastLost, nI_RX8, wc_X8_leastLost, wd_X8_leastLost, by decide⟩
theorem wi_X9_leastLost : Cond.instanceMethod yX9_leastLost ∈ z_all := z_in (List.mem_append_right _ (List.mem_of_getElem? (i := 1334) (by decide +kernel))) rfl
theorem wl_X9_leastLost : Cond.selects RX9 yX9_leastLost yX9_leastLost ∈ z_all := z_in (List.mem_append_right _ (List.mem_of_getElem? (i := 1335) (by decide +kernel))) rfl
theorem wd_X9_leastLost : yX9_leastLost.cls ≠ "java/lang/invoke/MethodHandle" ∧ yX9_leastLost.cls ≠ "java/lang/invoke/VarHandle" ∧ (parseMethodDescriptor yX9_leastLost.desc).map (fun d => d.parameters.length) = some 1 := ⟨by decide +kernel, by decide +kernel, by decide +kernel⟩
theorem vL_81 : z_CV RL 81 yX9_leastLost cX9_leastLost 8 (some .int) 1 := ⟨z_in (List.mem_append_right _ (List.mem_of_getElem? (i := 1333) (by decide +kernel))) rfl, wi_X9_leastLost, wl_X9_leastLost, nI_RX9, wc_X9_leastLost, wd_X9_leastLost, by decide⟩
theorem wi_X8_most : Cond.instanceMethod yX8_most ∈ z_all := z_in (List.mem_append_right _ (List.mem_of_getElem? (i := 601) (by decide +kernel))) rfl
theorem wl_X8_most : Cond.selects RX8 yX8_most yX8_most ∈ z_all := z_in (List.mem_append_right _ (List.mem_of_getElem? (i := 602) (by decide +kernel))) rfl
theorem wd_X8_most : yX8_most.cls ≠ "java/lang/invoke/MethodHandle" ∧ yX8_most.cls ≠ "java/lang/invoke/VarHandle" ∧ (parseMethodDescriptor yX8_most.desc).map (fun d => d.parameters.length) = some 1 := ⟨by decide +kernel, by decide +kernel, by decide +kernel⟩
theorem vL_82 : z_CV RL 82 yX8_most cX8_most 3 (some .int) 1 := ⟨z_in (List.mem_append_right _ (List.mem_of_getElem? (i := 600) (by decide +kernel))) rfl, wi_X8_most, wl_X8_most, nI_RX8, wc_X8_most, wd_X8_most, by decide⟩
theorem wi_X9_most : Cond.instanceMethod yX9_most ∈ z_all := z_in (List.mem_append_right _ (List.mem_of_getElem? (i := 1338) (by decide +kernel))) rfl
theorem wl_X9_most : Cond.selects RX9 yX9_most yX9_most ∈ z_all := z_in (List.mem_append_right _ (List.mem_of_getElem? (i := 1339) (by decide +kernel))) rfl
theorem wd_X9_most : yX9_most.cls ≠ "java/lang/invoke/MethodHandle" ∧ yX9_most.cls ≠ "java/lang/invoke/VarHandle" ∧ (parseMethodDescriptor yX9_most.desc).map (fun d => d.parameters.length) = some 1 := ⟨by decide +kernel, by decide +kernel, by decide +kernel⟩
theorem vL_85 : z_CV RL 85 yX9_most cX9_most 4 (some .int) 1 := ⟨z_in (List.mem_append_right _ (List.mem_of_getElem? (i := 1337) (by decide +kernel))) rfl, wi_X9_most, wl_X9_most, nI_RX9, wc_X9_most, wd_X9_most, by decide⟩
theorem wi_X8_said : Cond.instanceMethod yX8_said ∈ z_all := z_in (List.mem_append_right _ (List.mem_of_getElem? (i := 620) (by decide +kernel))) rfl
theorem wl_X8_said : Cond.selects RX8 yX8_said yX8_said ∈ z_all := z_in (List.mem_append_right _ (List.mem_of_getElem? (i := 621) (by decide +kernel))) rfl
theorem wd_X8_said : yX8_said.cls ≠ "java/lang/invoke/MethodHandle" ∧ yX8_said.cls ≠ "java/lang/invoke/VarHandle" ∧ (parseMethodDescriptor yX8_said.desc).map (fun d => d.parameters.length) = some 2 := ⟨by decide +kernel, by decide +kernel, by decide +kernel⟩
theorem vL_86 : z_CV RL 86 yX8_said cX8_said 6 (some .long) 2 := ⟨z_in (List.mem_append_right _ (List.mem_of_getElem? (i := 619) (by decide +kernel))) rfl, wi_X8_said, wl_X8_said, nI_RX8, wc_X8_said, wd_X8_said, by decide⟩
theorem wi_X9_said : Cond.instanceMethod yX9_said ∈ z_all := z_in (List.mem_append_right _ (List.mem_of_getElem? (i := 1349) (by decide +kernel))) rfl
theorem wl_X9_said : Cond.selects RX9 yX9_said yX9_said ∈ z_all := z_in (List.mem_append_right _ (List.mem_of_getElem? (i := 1350) (by decide +kernel))) rfl
theorem wd_X9_said : yX9_said.cls ≠ "java/lang/invoke/MethodHandle" ∧ yX9_said.cls ≠ "java/lang/invoke/VarHandle" ∧ (parseMethodDescriptor yX9_said.desc).map (fun d => d.parameters.length) = some 2 := ⟨by decide +kernel, by decide +kernel, by decide +kernel⟩
theorem vL_90 : z_CV RL 90 yX9_said cX9_said 3 (some .long) 2 := ⟨z_in (List.mem_append_right _ (List.mem_of_getElem? (i := 1348) (by decide +kernel))) rfl, wi_X9_said, wl_X9_said, nI_RX9, wc_X9_said, wd_X9_said, by decide⟩
theorem wi_X8_saidAt : Cond.instanceMethod yX8_saidAt ∈ z_all := z_in (List.mem_append_right _ (List.mem_of_getElem? (i := 629) (by decide +kernel))) rfl
theorem wl_X8_saidAt : Cond.selects RX8 yX8_saidAt yX8_saidAt ∈ z_all := z_in (List.mem_append_right _ (List.mem_of_getElem? (i := 630) (by decide +kernel))) rfl
theorem wd_X8_saidAt : yX8_saidAt.cls ≠ "java/lang/invoke/MethodHandle" ∧ yX8_saidAt.cls ≠ "java/lang/invoke/VarHandle" ∧ (parseMethodDescriptor yX8_saidAt.desc).map (fun d => d.parameters.length) = some 3 := ⟨by decide +kernel, by decide +kernel, by decide +kernel⟩
theorem vL_91 : z_CV RL 91 yX8_saidAt cX8_saidAt 9 (some .int) 3 := ⟨z_in (List.mem_append_right _ (List.mem_of_getElem? (i := 628) (by decide +kernel))) rfl, wi_X8_saidAt, wl_X8_saidAt, nI_RX8, wc_X8_saidAt, wd_X8_saidAt, by decide⟩
theorem wi_X9_saidAt : Cond.instanceMethod yX9_saidAt ∈ z_all := z_in (List.mem_append_right _ (List.mem_of_getElem? (i := 1378) (by decide +kernel))) rfl
theorem wl_X9_saidAt : Cond.selects RX9 yX9_saidAt yX9_saidAt ∈ z_all := z_in (List.mem_append_right _ (List.mem_of_getElem? (i := 1379) (by decide +kernel))) rfl
theorem wd_X9_saidAt : yX9_saidAt.cls ≠ "java/lang/invoke/MethodHandle" ∧ yX9_saidAt.cls ≠ "java/lang/invoke/VarHandle" ∧ (parseMethodDescriptor yX9_saidAt.desc).map (fun d => d.parameters.length) = some 3 := ⟨by decide +kernel, by decide +kernel, by decide +kernel⟩
theorem vL_94 : z_CV RL 94 yX9_saidAt cX9_saidAt 11 (some .int) 3 := ⟨z_in (List.mem_append_right _ (List.mem_of_getElem? (i := 1377) (by decide +kernel))) rfl, wi_X9_saidAt, wl_X9_saidAt, nI_RX9, wc_X9_saidAt, wd_X9_saidAt, by decide⟩
theorem wi_X8_alone : Cond.instanceMethod yX8_alone ∈ z_all := z_in (List.mem_append_right _ (List.mem_of_getElem? (i := 637) (by decide +kernel))) rfl
theorem wl_X8_alone : Cond.selects RX8 yX8_alone yX8_alone ∈ z_all := z_in (List.mem_append_right _ (List.mem_of_getElem? (i := 638) (by decide +kernel))) rfl
theorem wd_X8_alone : yX8_alone.cls ≠ "java/lang/invoke/MethodHandle" ∧ yX8_alone.cls ≠ "java/lang/invoke/VarHandle" ∧ (parseMethodDescriptor yX8_alone.desc).map (fun d => d.parameters.length) = some 3 := ⟨by decide +kernel, by decide +kernel, by decide +kernel⟩
theorem vL_95 : z_CV RL 95 yX8_alone cX8_alone 5 (some .long) 3 := ⟨z_in (List.mem_append_right _ (List.mem_of_getElem? (i := 636) (by decide +kernel))) rfl, wi_X8_alone, wl_X8_alone, nI_RX8, wc_X8_alone, wd_X8_alone, by decide⟩
theorem wi_X9_alone : Cond.instanceMethod yX9_alone ∈ z_all := z_in (List.mem_append_right _ (List.mem_of_getElem? (i := 1382) (by decide +kernel))) rfl
theorem wl_X9_alone : Cond.selects RX9 yX9_alone yX9_alone ∈ z_all := z_in (List.mem_append_right _ (List.mem_of_getElem? (i := 1383) (by decide +kernel))) rfl
theorem wd_X9_alone : yX9_alone.cls ≠ "java/lang/invoke/MethodHandle" ∧ yX9_alone.cls ≠ "java/lang/invoke/VarHandle" ∧ (parseMethodDescriptor yX9_alone.desc).map (fun d => d.parameters.length) = some 3 := ⟨by decide +kernel, by decide +kernel, by decide +kernel⟩
theorem vL_99 : z_CV RL 99 yX9_alone cX9_alone 8 (some .long) 3 := ⟨z_in (List.mem_append_right _ (List.mem_of_getElem? (i := 1381) (by decide +kernel))) rfl, wi_X9_alone, wl_X9_alone, nI_RX9, wc_X9_alone, wd_X9_alone, by decide⟩
theorem sX9_143 : z_CS RX9 143 yX9_in cX9_in 3 (some .boolean) 3 := ⟨Or.inl (z_in (List.mem_append_right _ (List.mem_of_getElem? (i := 1094) (by decide +kernel))) rfl), z_in (List.mem_append_right _ (List.mem_of_getElem? (i := 1095) (by decide +kernel))) rfl, nI_RX9, wc_X9_in, ⟨by decide +kernel, by decide +kernel, by decide +kernel⟩, by decide⟩
theorem wi_X9_addWord : Cond.instanceMethod yX9_addWord ∈ z_all := z_in (List.mem_append_right _ (List.mem_of_getElem? (i := 1099) (by decide +kernel))) rfl
theorem wl_X9_addWord : Cond.selects RX9 yX9_addWord yX9_addWord ∈ z_all := z_in (List.mem_append_left _ (List.mem_of_getElem? (i := 31) (by decide +kernel))) rfl
theorem wd_X9_addWord : yX9_addWord.cls ≠ "java/lang/invoke/MethodHandle" ∧ yX9_addWord.cls ≠ "java/lang/invoke/VarHandle" ∧ (parseMethodDescriptor yX9_addWord.desc).map (fun d => d.parameters.length) = some 3 := ⟨by decide +kernel, by decide +kernel, by decide +kernel⟩
theorem vX9_150 : z_CV RX9 150 yX9_addWord cX9_addWord 4 (some .int) 3 := ⟨z_in (List.mem_append_right _ (List.mem_of_getElem? (i := 1097) (by decide +kernel))) rfl, wi_X9_addWord, wl_X9_addWord, nI_RX9, wc_X9_addWord, wd_X9_addWord, by decide⟩
theorem sX9_154 : z_CS RX9 154 yX9_isShelf cX9_isShelf 1 (some .boolean) 1 := ⟨Or.inl (z_in (List.mem_append_right _ (List.mem_of_getElem? (i := 1105) (by decide +kernel))) rfl), z_in (List.mem_append_right _ (List.mem_of_getElem? (i := 1106) (by decide +kernel))) rfl, nI_RX9, wc_X9_isShelf, ⟨by decide +kernel, by decide +kernel, by decide +kernel⟩, by decide⟩
theorem wi_X9_valueAt : Cond.instanceMethod yX9_valueAt ∈ z_all := z_in (List.mem_append_right _ (List.mem_of_getElem? (i := 1154) (by decide +kernel))) rfl
theorem wl_X9_valueAt : Cond.selects RX9 yX9_valueAt yX9_valueAt ∈ z_all := z_in (List.mem_append_left _ (List.mem_of_getElem? (i := 37) (by decide +kernel))) rfl
theorem wd_X9_valueAt : yX9_valueAt.cls ≠ "java/lang/invoke/MethodHandle" ∧ yX9_valueAt.cls ≠ "java/lang/invoke/VarHandle" ∧ (parseMethodDescriptor yX9_valueAt.desc).map (fun d => d.parameters.length) = some 2 := ⟨by decide +kernel, by decide +kernel, by decide +kernel⟩
theorem vX9_163 : z_CV RX9 163 yX9_valueAt cX9_valueAt 3 (some .int) 2 := ⟨z_in (List.mem_append_right _ (List.mem_of_getElem? (i := 1152) (by decide +kernel))) rfl, wi_X9_valueAt, wl_X9_valueAt, nI_RX9, wc_X9_valueAt, wd_X9_valueAt, by decide⟩
theorem wi_X9_lays : Cond.instanceMethod yX9_lays ∈ z_all := z_in (List.mem_append_right _ (List.mem_of_getElem? (i := 1123) (by decide +kernel))) rfl
theorem wl_X9_lays : Cond.selects RX9 yX9_lays yX9_lays ∈ z_all := z_in (List.mem_append_left _ (List.mem_of_getElem? (i := 32) (by decide +kernel))) rfl
theorem wd_X9_lays : yX9_lays.cls ≠ "java/lang/invoke/MethodHandle" ∧ yX9_lays.cls ≠ "java/lang/invoke/VarHandle" ∧ (parseMethodDescriptor yX9_lays.desc).map (fun d => d.parameters.length) = some 3 := ⟨by decide +kernel, by decide +kernel, by decide +kernel⟩
theorem vX9_173 : z_CV RX9 173 yX9_lays cX9_lays 4 none 3 := ⟨z_in (List.mem_append_right _ (List.mem_of_getElem? (i := 1121) (by decide +kernel))) rfl, wi_X9_lays, wl_X9_lays, nI_RX9, wc_X9_lays, wd_X9_lays, by decide⟩
theorem wi_X9_isWord : Cond.instanceMethod yX9_isWord ∈ z_all := z_in (List.mem_append_right _ (List.mem_of_getElem? (i := 1139) (by decide +kernel))) rfl
theorem wl_X9_isWord : Cond.selects RX9 yX9_isWord yX9_isWord ∈ z_all := z_in (List.mem_append_left _ (List.mem_of_getElem? (i := 34) (by decide +kernel))) rfl
theorem wd_X9_isWord : yX9_isWord.cls ≠ "java/lang/invoke/MethodHandle" ∧ yX9_isWord.cls ≠ "java/lang/invoke/VarHandle" ∧ (parseMethodDescriptor yX9_isWord.desc).map (fun d => d.parameters.length) = some 1 := ⟨by decide +kernel, by decide +kernel, by decide +kernel⟩
theorem vX9_177 : z_CV RX9 177 yX9_isWord cX9_isWord 2 (some .boolean) 1 := ⟨z_in (List.mem_append_right _ (List.mem_of_getElem? (i := 1137) (by decide +kernel))) rfl, wi_X9_isWord, wl_X9_isWord, nI_RX9, wc_X9_isWord, wd_X9_isWord, by decide⟩
theorem wi_X9_isMesh : Cond.instanceMethod yX9_isMesh ∈ z_all := z_in (List.mem_append_right _ (List.mem_of_getElem? (i := 1143) (by decide +kernel))) rfl
theorem wl_X9_isMesh : Cond.selects RX9 yX9_isMesh yX9_isMesh ∈ z_all := z_in (List.mem_append_left _ (List.mem_of_getElem? (i := 35) (by decide +kernel))) rfl
theorem wd_X9_isMesh : yX9_isMesh.cls ≠ "java/lang/invoke/MethodHandle" ∧ yX9_isMesh.cls ≠ "java/lang/invoke/VarHandle" ∧ (parseMethodDescriptor yX9_isMesh.desc).map (fun d => d.parameters.length) = some 1 := ⟨by decide +kernel, by decide +kernel, by decide +kernel⟩
theorem vX9_180 : z_CV RX9 180 yX9_isMesh cX9_isMesh 2 (some .boolean) 1 := ⟨z_in (List.mem_append_right _ (List.mem_of_getElem? (i := 1141) (by decide +kernel))) rfl, wi_X9_isMesh, wl_X9_isMesh, nI_RX9, wc_X9_isMesh, wd_X9_isMesh, by decide⟩
theorem wi_X9_isOne : Cond.instanceMethod yX9_isOne ∈ z_all := z_in (List.mem_append_right _ (List.mem_of_getElem? (i := 1135) (by decide +kernel))) rfl
theorem wl_X9_isOne : Cond.selects RX9 yX9_isOne yX9_isOne ∈ z_all := z_in (List.mem_append_left _ (List.mem_of_getElem? (i := 33) (by decide +kernel))) rfl
theorem wd_X9_isOne : yX9_isOne.cls ≠ "java/lang/invoke/MethodHandle" ∧ yX9_isOne.cls ≠ "java/lang/invoke/VarHandle" ∧ (parseMethodDescriptor yX9_isOne.desc).map (fun d => d.parameters.length) = some 2 := ⟨by decide +kernel, by decide +kernel, by decide +kernel⟩
theorem vX9_183 : z_CV RX9 183 yX9_isOne cX9_isOne 3 (some .boolean) 2 := ⟨z_in (List.mem_append_right _ (List.mem_of_getElem? (i := 1133) (by decide +kernel))) rfl, wi_X9_isOne, wl_X9_isOne, nI_RX9, wc_X9_isOne, wd_X9_isOne, by decide⟩
theorem sX9_187 : z_CS RX9 187 yX9_mayHave cX9_mayHave 2 (some .boolean) 2 := ⟨Or.inl (z_in (List.mem_append_right _ (List.mem_of_getElem? (i := 1145) (by decide +kernel))) rfl), z_in (List.mem_append_right _ (List.mem_of_getElem? (i := 1146) (by decide +kernel))) rfl, nI_RX9, wc_X9_mayHave, ⟨by decide +kernel, by decide +kernel, by decide +kernel⟩, by decide⟩
theorem wi_X9_changes : Cond.instanceMethod yX9_changes ∈ z_all := z_in (List.mem_append_right _ (List.mem_of_getElem? (i := 1150) (by decide +kernel))) rfl
theorem wl_X9_changes : Cond.selects RX9 yX9_changes yX9_changes ∈ z_all := z_in (List.mem_append_left _ (List.mem_of_getElem? (i := 36) (by decide +kernel))) rfl
theorem wd_X9_changes : yX9_changes.cls ≠ "java/lang/invoke/MethodHandle" ∧ yX9_changes.cls ≠ "java/lang/invoke/VarHandle" ∧ (parseMethodDescriptor yX9_changes.desc).map (fun d => d.parameters.length) = some 3 := ⟨by decide +kernel, by decide +kernel, by decide +kernel⟩
theorem vX9_190 : z_CV RX9 190 yX9_changes cX9_changes 6 (some .int) 3 := ⟨z_in (List.mem_append_right _ (List.mem_of_getElem? (i := 1148) (by decide +kernel))) rfl, wi_X9_changes, wl_X9_changes, nI_RX9, wc_X9_changes, wd_X9_changes, by decide⟩
theorem wi_X9_wrong : Cond.instanceMethod yX9_wrong ∈ z_all := z_in (List.mem_append_right _ (List.mem_of_getElem? (i := 1217) (by decide +kernel))) rfl
theorem wl_X9_wrong : Cond.selects RX9 yX9_wrong yX9_wrong ∈ z_all := z_in (List.mem_append_left _ (List.mem_of_getElem? (i := 49) (by decide +kernel))) rfl
theorem wd_X9_wrong : yX9_wrong.cls ≠ "java/lang/invoke/MethodHandle" ∧ yX9_wrong.cls ≠ "java/lang/invoke/VarHandle" ∧ (parseMethodDescriptor yX9_wrong.desc).map (fun d => d.parameters.length) = some 0 := ⟨by decide +kernel, by decide +kernel, by decide +kernel⟩
theorem vX9_208 : z_CV RX9 208 yX9_wrong cX9_wrong 1 none 0 := ⟨z_in (List.mem_append_right _ (List.mem_of_getElem? (i := 1215) (by decide +kernel))) rfl, wi_X9_wrong, wl_X9_wrong, nI_RX9, wc_X9_wrong, wd_X9_wrong, by decide⟩
theorem wi_X9_look : Cond.instanceMethod yX9_look ∈ z_all := z_in (List.mem_append_right _ (List.mem_of_getElem? (i := 1202) (by decide +kernel))) rfl
theorem wl_X9_look : Cond.selects RX9 yX9_look yX9_look ∈ z_all := z_in (List.mem_append_left _ (List.mem_of_getElem? (i := 46) (by decide +kernel))) rfl
theorem wd_X9_look : yX9_look.cls ≠ "java/lang/invoke/MethodHandle" ∧ yX9_look.cls ≠ "java/lang/invoke/VarHandle" ∧ (parseMethodDescriptor yX9_look.desc).map (fun d => d.parameters.length) = some 0 := ⟨by decide +kernel, by decide +kernel, by decide +kernel⟩
theorem vX9_211 : z_CV RX9 211 yX9_look cX9_look 1 (some .int) 0 := ⟨z_in (List.mem_append_right _ (List.mem_of_getElem? (i := 1200) (by decide +kernel))) rfl, wi_X9_look, wl_X9_look, nI_RX9, wc_X9_look, wd_X9_look, by decide⟩
theorem wi_X9_addStep : Cond.instanceMethod yX9_addStep ∈ z_all := z_in (List.mem_append_right _ (List.mem_of_getElem? (i := 1209) (by decide +kernel))) rfl
theorem wl_X9_addStep : Cond.selects RX9 yX9_addStep yX9_addStep ∈ z_all := z_in (List.mem_append_left _ (List.mem_of_getElem? (i := 47) (by decide +kernel))) rfl
theorem wd_X9_addStep : yX9_addStep.cls ≠ "java/lang/invoke/MethodHandle" ∧ yX9_addStep.cls ≠ "java/lang/invoke/VarHandle" ∧ (parseMethodDescriptor yX9_addStep.desc).map (fun d => d.parameters.length) = some 2 := ⟨by decide +kernel, by decide +kernel, by decide +kernel⟩
theorem vX9_215 : z_CV RX9 215 yX9_addStep cX9_addStep 3 none 2 := ⟨z_in (List.mem_append_right _ (List.mem_of_getElem? (i := 1207) (by decide +kernel))) rfl, wi_X9_addStep, wl_X9_addStep, nI_RX9, wc_X9_addStep, wd_X9_addStep, by decide⟩
theorem sX9_219 : z_CS RX9 219 yX9_nameOf cX9_nameOf 1 (some .int) 1 := ⟨Or.inl (z_in (List.mem_append_right _ (List.mem_of_getElem? (i := 1204) (by decide +kernel))) rfl), z_in (List.mem_append_right _ (List.mem_of_getElem? (i := 1205) (by decide +kernel))) rfl, nI_RX9, wc_X9_nameOf, ⟨by decide +kernel, by decide +kernel, by decide +kernel⟩, by decide⟩
theorem wi_X9_opens : Cond.instanceMethod yX9_opens ∈ z_all := z_in (List.mem_append_right _ (List.mem_of_getElem? (i := 1213) (by decide +kernel))) rfl
theorem wl_X9_opens : Cond.selects RX9 yX9_opens yX9_opens ∈ z_all := z_in (List.mem_append_left _ (List.mem_of_getElem? (i := 48) (by decide +kernel))) rfl
theorem wd_X9_opens : yX9_opens.cls ≠ "java/lang/invoke/MethodHandle" ∧ yX9_opens.cls ≠ "java/lang/invoke/VarHandle" ∧ (parseMethodDescriptor yX9_opens.desc).map (fun d => d.parameters.length) = some 0 := ⟨by decide +kernel, by decide +kernel, by decide +kernel⟩
theorem vX9_223 : z_CV RX9 223 yX9_opens cX9_opens 1 (some .boolean) 0 := ⟨z_in (List.mem_append_right _ (List.mem_of_getElem? (i := 1211) (by decide +kernel))) rfl, wi_X9_opens, wl_X9_opens, nI_RX9, wc_X9_opens, wd_X9_opens, by decide⟩
theorem wi_X9_operand : Cond.instanceMethod yX9_operand ∈ z_all := z_in (List.mem_append_right _ (List.mem_of_getElem? (i := 1198) (by decide +kernel))) rfl
theorem wl_X9_operand : Cond.selects RX9 yX9_operand yX9_operand ∈ z_all := z_in (List.mem_append_left _ (List.mem_of_getElem? (i := 45) (by decide +kernel))) rfl
theorem wd_X9_operand : yX9_operand.cls ≠ "java/lang/invoke/MethodHandle" ∧ yX9_operand.cls ≠ "java/lang/invoke/VarHandle" ∧ (parseMethodDescriptor yX9_operand.desc).map (fun d => d.parameters.length) = some 0 := ⟨by decide +kernel, by decide +kernel, by decide +kernel⟩
theorem vX9_227 : z_CV RX9 227 yX9_operand cX9_operand 2 none 0 := ⟨z_in (List.mem_append_right _ (List.mem_of_getElem? (i := 1196) (by decide +kernel))) rfl, wi_X9_operand, wl_X9_operand, nI_RX9, wc_X9_operand, wd_X9_operand, by decide⟩
theorem wi_X9_either : Cond.instanceMethod yX9_either ∈ z_all := z_in (List.mem_append_right _ (List.mem_of_getElem? (i := 1178) (by decide +kernel))) rfl
theorem wl_X9_either : Cond.selects RX9 yX9_either yX9_either ∈ z_all := z_in (List.mem_append_left _ (List.mem_of_getElem? (i := 40) (by decide +kernel))) rfl
theorem wd_X9_either : yX9_either.cls ≠ "java/lang/invoke/MethodHandle" ∧ yX9_either.cls ≠ "java/lang/invoke/VarHandle" ∧ (parseMethodDescriptor yX9_either.desc).map (fun d => d.parameters.length) = some 0 := ⟨by decide +kernel, by decide +kernel, by decide +kernel⟩
theorem vX9_230 : z_CV RX9 230 yX9_either cX9_either 1 none 0 := ⟨z_in (List.mem_append_right _ (List.mem_of_getElem? (i := 1176) (by decide +kernel))) rfl, wi_X9_either, wl_X9_either, nI_RX9, wc_X9_either, wd_X9_either, by decide⟩
theorem wi_X9_figure : Cond.instanceMethod yX9_figure ∈ z_all := z_in (List.mem_append_right _ (List.mem_of_getElem? (i := 1221) (by decide +kernel))) rfl
theorem wl_X9_figure : Cond.selects RX9 yX9_figure yX9_figure ∈ z_all := z_in (List.mem_append_left _ (List.mem_of_getElem? (i := 50) (by decide +kernel))) rfl
theorem wd_X9_figure : yX9_figure.cls ≠ "java/lang/invoke/MethodHandle" ∧ yX9_figure.cls ≠ "java/lang/invoke/VarHandle" ∧ (parseMethodDescriptor yX9_figure.desc).map (fun d => d.parameters.length) = some 0 := ⟨by decide +kernel, by decide +kernel, by decide +kernel⟩
theorem vX9_233 : z_CV RX9 233 yX9_figure cX9_figure 3 none 0 := ⟨z_in (List.mem_append_right _ (List.mem_of_getElem? (i := 1219) (by decide +kernel))) rfl, wi_X9_figure, wl_X9_figure, nI_RX9, wc_X9_figure, wd_X9_figure, by decide⟩
theorem wi_X9_product : Cond.instanceMethod yX9_product ∈ z_all := z_in (List.mem_append_right _ (List.mem_of_getElem? (i := 1194) (by decide +kernel))) rfl
theorem wl_X9_product : Cond.selects RX9 yX9_product yX9_product ∈ z_all := z_in (List.mem_append_left _ (List.mem_of_getElem? (i := 44) (by decide +kernel))) rfl
theorem wd_X9_product : yX9_product.cls ≠ "java/lang/invoke/MethodHandle" ∧ yX9_product.cls ≠ "java/lang/invoke/VarHandle" ∧ (parseMethodDescriptor yX9_product.desc).map (fun d => d.parameters.length) = some 0 := ⟨by decide +kernel, by decide +kernel, by decide +kernel⟩
theorem vX9_236 : z_CV RX9 236 yX9_product cX9_product 2 none 0 := ⟨z_in (List.mem_append_right _ (List.mem_of_getElem? (i := 1192) (by decide +kernel))) rfl, wi_X9_product, wl_X9_product, nI_RX9, wc_X9_product, wd_X9_product, by decide⟩
theorem wi_X9_sum : Cond.instanceMethod yX9_sum ∈ z_all := z_in (List.mem_append_right _ (List.mem_of_getElem? (i := 1190) (by decide +kernel))) rfl
theorem wl_X9_sum : Cond.selects RX9 yX9_sum yX9_sum ∈ z_all := z_in (List.mem_append_left _ (List.mem_of_getElem? (i := 43) (by decide +kernel))) rfl
theorem wd_X9_sum : yX9_sum.cls ≠ "java/lang/invoke/MethodHandle" ∧ yX9_sum.cls ≠ "java/lang/invoke/VarHandle" ∧ (parseMethodDescriptor yX9_sum.desc).map (fun d => d.parameters.length) = some 0 := ⟨by decide +kernel, by decide +kernel, by decide +kernel⟩
theorem vX9_239 : z_CV RX9 239 yX9_sum cX9_sum 2 none 0 := ⟨z_in (List.mem_append_right _ (List.mem_of_getElem? (i := 1188) (by decide +kernel))) rfl, wi_X9_sum, wl_X9_sum, nI_RX9, wc_X9_sum, wd_X9_sum, by decide⟩
theorem wi_X9_compared : Cond.instanceMethod yX9_compared ∈ z_all := z_in (List.mem_append_right _ (List.mem_of_getElem? (i := 1186) (by decide +kernel))) rfl
theorem wl_X9_compared : Cond.selects RX9 yX9_compared yX9_compared ∈ z_all := z_in (List.mem_append_left _ (List.mem_of_getElem? (i := 42) (by decide +kernel))) rfl
theorem wd_X9_compared : yX9_compared.cls ≠ "java/lang/invoke/MethodHandle" ∧ yX9_compared.cls ≠ "java/lang/invoke/VarHandle" ∧ (parseMethodDescriptor yX9_compared.desc).map (fun d => d.parameters.length) = some 0 := ⟨by decide +kernel, by decide +kernel, by decide +kernel⟩
theorem vX9_242 : z_CV RX9 242 yX9_compared cX9_compared 2 none 0 := ⟨z_in (List.mem_append_right _ (List.mem_of_getElem? (i := 1184) (by decide +kernel))) rfl, wi_X9_compared, wl_X9_compared, nI_RX9, wc_X9_compared, wd_X9_compared, by decide⟩
theorem wi_X9_both : Cond.instanceMethod yX9_both ∈ z_all := z_in (List.mem_append_right _ (List.mem_of_getElem? (i := 1182) (by decide +kernel))) rfl
theorem wl_X9_both : Cond.selects RX9 yX9_both yX9_both ∈ z_all := z_in (List.mem_append_left _ (List.mem_of_getElem? (i := 41) (by decide +kernel))) rfl
theorem wd_X9_both : yX9_both.cls ≠ "java/lang/invoke/MethodHandle" ∧ yX9_both.cls ≠ "java/lang/invoke/VarHandle" ∧ (parseMethodDescriptor yX9_both.desc).map (fun d => d.parameters.length) = some 0 := ⟨by decide +kernel, by decide +kernel, by decide +kernel⟩
theorem vX9_245 : z_CV RX9 245 yX9_both cX9_both 1 none 0 := ⟨z_in (List.mem_append_right _ (List.mem_of_getElem? (i := 1180) (by decide +kernel))) rfl, wi_X9_both, wl_X9_both, nI_RX9, wc_X9_both, wd_X9_both, by decide⟩
theorem wi_X9_line : Cond.instanceMethod yX9_line ∈ z_all := z_in (List.mem_append_right _ (List.mem_of_getElem? (i := 1174) (by decide +kernel))) rfl
theorem wl_X9_line : Cond.selects RX9 yX9_line yX9_line ∈ z_all := z_in (List.mem_append_left _ (List.mem_of_getElem? (i := 39) (by decide +kernel))) rfl
theorem wd_X9_line : yX9_line.cls ≠ "java/lang/invoke/MethodHandle" ∧ yX9_line.cls ≠ "java/lang/invoke/VarHandle" ∧ (parseMethodDescriptor yX9_line.desc).map (fun d => d.parameters.length) = some 0 := ⟨by decide +kernel, by decide +kernel, by decide +kernel⟩
theorem vX9_248 : z_CV RX9 248 yX9_line cX9_line 2 none 0 := ⟨z_in (List.mem_append_right _ (List.mem_of_getElem? (i := 1172) (by decide +kernel))) rfl, wi_X9_line, wl_X9_line, nI_RX9, wc_X9_line, wd_X9_line, by decide⟩
theorem sX9_251 : z_CS RX9 251 yX9_twoOf cX9_twoOf 3 (some .int) 3 := ⟨Or.inl (z_in (List.mem_append_right _ (List.mem_of_getElem? (i := 1243) (by decide +kernel))) rfl), z_in (List.mem_append_right _ (List.mem_of_getElem? (i := 1244) (by decide +kernel))) rfl, nI_RX9, wc_X9_twoOf, ⟨by decide +kernel, by decide +kernel, by decide +kernel⟩, by decide⟩
theorem wi_X9_worked : Cond.instanceMethod yX9_worked ∈ z_all := z_in (List.mem_append_right _ (List.mem_of_getElem? (i := 1241) (by decide +kernel))) rfl
theorem wl_X9_worked : Cond.selects RX9 yX9_worked yX9_worked ∈ z_all := z_in (List.mem_append_left _ (List.mem_of_getElem? (i := 54) (by decide +kernel))) rfl
theorem wd_X9_worked : yX9_worked.cls ≠ "java/lang/invoke/MethodHandle" ∧ yX9_worked.cls ≠ "java/lang/invoke/VarHandle" ∧ (parseMethodDescriptor yX9_worked.desc).map (fun d => d.parameters.length) = some 3 := ⟨by decide +kernel, by decide +kernel, by decide +kernel⟩
theorem vX9_254 : z_CV RX9 254 yX9_worked cX9_worked 7 (some .int) 3 := ⟨z_in (List.mem_append_right _ (List.mem_of_getElem? (i := 1239) (by decide +kernel))) rfl, wi_X9_worked, wl_X9_worked, nI_RX9, wc_X9_worked, wd_X9_worked, by decide⟩
theorem wi_X9_readText : Cond.instanceMethod yX9_readText ∈ z_all := z_in (List.mem_append_right _ (List.mem_of_getElem? (i := 1170) (by decide +kernel))) rfl
theorem wl_X9_readText : Cond.selects RX9 yX9_readText yX9_readText ∈ z_all := z_in (List.mem_append_left _ (List.mem_of_getElem? (i := 38) (by decide +kernel))) rfl
theorem wd_X9_readText : yX9_readText.cls ≠ "java/lang/invoke/MethodHandle" ∧ yX9_readText.cls ≠ "java/lang/invoke/VarHandle" ∧ (parseMethodDescriptor yX9_readText.desc).map (fun d => d.parameters.length) = some 1 := ⟨by decide +kernel, by decide +kernel, by decide +kernel⟩
theorem vX9_257 : z_CV RX9 257 yX9_readText cX9_readText 3 (some .int) 1 := ⟨z_in (List.mem_append_right _ (List.mem_of_getElem? (i := 1168) (by decide +kernel))) rfl, wi_X9_readText, wl_X9_readText, nI_RX9, wc_X9_readText, wd_X9_readText, by decide⟩
theorem wi_X9_gives : Cond.instanceMethod yX9_gives ∈ z_all := z_in (List.mem_append_right _ (List.mem_of_getElem? (i := 1237) (by decide +kernel))) rfl
theorem wl_X9_gives : Cond.selects RX9 yX9_gives yX9_gives ∈ z_all := z_in (List.mem_append_left _ (List.mem_of_getElem? (i := 53) (by decide +kernel))) rfl
theorem wd_X9_gives : yX9_gives.cls ≠ "java/lang/invoke/MethodHandle" ∧ yX9_gives.cls ≠ "java/lang/invoke/VarHandle" ∧ (parseMethodDescriptor yX9_gives.desc).map (fun d => d.parameters.length) = some 1 := ⟨by decide +kernel, by decide +kernel, by decide +kernel⟩
theorem vX9_264 : z_CV RX9 264 yX9_gives cX9_gives 4 (some .int) 1 := ⟨z_in (List.mem_append_right _ (List.mem_of_getElem? (i := 1235) (by decide +kernel))) rfl, wi_X9_gives, wl_X9_gives, nI_RX9, wc_X9_gives, wd_X9_gives, by decide⟩
theorem wi_X9_passesBy : Cond.instanceMethod yX9_passesBy ∈ z_all := z_in (List.mem_append_right _ (List.mem_of_getElem? (i := 1233) (by decide +kernel))) rfl
theorem wl_X9_passesBy : Cond.selects RX9 yX9_passesBy yX9_passesBy ∈ z_all := z_in (List.mem_append_left _ (List.mem_of_getElem? (i := 52) (by decide +kernel))) rfl
theorem wd_X9_passesBy : yX9_passesBy.cls ≠ "java/lang/invoke/MethodHandle" ∧ yX9_passesBy.cls ≠ "java/lang/invoke/VarHandle" ∧ (parseMethodDescriptor yX9_passesBy.desc).map (fun d => d.parameters.length) = some 4 := ⟨by decide +kernel, by decide +kernel, by decide +kernel⟩
theorem vX9_267 : z_CV RX9 267 yX9_passesBy cX9_passesBy 5 (some .boolean) 4 := ⟨z_in (List.mem_append_right _ (List.mem_of_getElem? (i := 1231) (by decide +kernel))) rfl, wi_X9_passesBy, wl_X9_passesBy, nI_RX9, wc_X9_passesBy, wd_X9_passesBy, by decide⟩
theorem wi_X9_passes : Cond.instanceMethod yX9_passes ∈ z_all := z_in (List.mem_append_right _ (List.mem_of_getElem? (i := 1229) (by decide +kernel))) rfl
theorem wl_X9_passes : Cond.selects RX9 yX9_passes yX9_passes ∈ z_all := z_in (List.mem_append_left _ (List.mem_of_getElem? (i := 51) (by decide +kernel))) rfl
theorem wd_X9_passes : yX9_passes.cls ≠ "java/lang/invoke/MethodHandle" ∧ yX9_passes.cls ≠ "java/lang/invoke/VarHandle" ∧ (parseMethodDescriptor yX9_passes.desc).map (fun d => d.parameters.length) = some 4 := ⟨by decide +kernel, by decide +kernel, by decide +kernel⟩
theorem vX9_271 : z_CV RX9 271 yX9_passes cX9_passes 5 (some .boolean) 4 := ⟨z_in (List.mem_append_right _ (List.mem_of_getElem? (i := 1227) (by decide +kernel))) rfl, wi_X9_passes, wl_X9_passes, nI_RX9, wc_X9_passes, wd_X9_passes, by decide⟩
theorem wi_X9_at : Cond.instanceMethod yX9_at ∈ z_all := z_in (List.mem_append_right _ (List.mem_of_getElem? (i := 1264) (by decide +kernel))) rfl
theorem wl_X9_at : Cond.selects RX9 yX9_at yX9_at ∈ z_all := z_in (List.mem_append_left _ (List.mem_of_getElem? (i := 58) (by decide +kernel))) rfl
theorem wd_X9_at : yX9_at.cls ≠ "java/lang/invoke/MethodHandle" ∧ yX9_at.cls ≠ "java/lang/invoke/VarHandle" ∧ (parseMethodDescriptor yX9_at.desc).map (fun d => d.parameters.length) = some 2 := ⟨by decide +kernel, by decide +kernel, by decide +kernel⟩
theorem vX9_277 : z_CV RX9 277 yX9_at cX9_at 3 (some .int) 2 := ⟨z_in (List.mem_append_right _ (List.mem_of_getElem? (i := 1262) (by decide +kernel))) rfl, wi_X9_at, wl_X9_at, nI_RX9, wc_X9_at, wd_X9_at, by decide⟩
theorem wi_X9_isMeshOrNone : Cond.instanceMethod yX9_isMeshOrNone ∈ z_all := z_in (List.mem_append_right _ (List.mem_of_getElem? (i := 1252) (by decide +kernel))) rfl
theorem wl_X9_isMeshOrNone : Cond.selects RX9 yX9_isMeshOrNone yX9_isMeshOrNone ∈ z_all := z_in (List.mem_append_left _ (List.mem_of_getElem? (i := 55) (by decide +kernel))) rfl
theorem wd_X9_isMeshOrNone : yX9_isMeshOrNone.cls ≠ "java/lang/invoke/MethodHandle" ∧ yX9_isMeshOrNone.cls ≠ "java/lang/invoke/VarHandle" ∧ (parseMethodDescriptor yX9_isMeshOrNone.desc).map (fun d => d.parameters.length) = some 1 := ⟨by decide +kernel, by decide +kernel, by decide +kernel⟩
theorem vX9_286 : z_CV RX9 286 yX9_isMeshOrNone cX9_isMeshOrNone 2 (some .boolean) 1 := ⟨z_in (List.mem_append_right _ (List.mem_of_getElem? (i := 1250) (by decide +kernel))) rfl, wi_X9_isMeshOrNone, wl_X9_isMeshOrNone, nI_RX9, wc_X9_isMeshOrNone, wd_X9_isMeshOrNone, by decide⟩
theorem wi_X9_rowFault : Cond.instanceMethod yX9_rowFault ∈ z_all := z_in (List.mem_append_right _ (List.mem_of_getElem? (i := 1256) (by decide +kernel))) rfl
theorem wl_X9_rowFault : Cond.selects RX9 yX9_rowFault yX9_rowFault ∈ z_all := z_in (List.mem_append_left _ (List.mem_of_getElem? (i := 56) (by decide +kernel))) rfl
theorem wd_X9_rowFault : yX9_rowFault.cls ≠ "java/lang/invoke/MethodHandle" ∧ yX9_rowFault.cls ≠ "java/lang/invoke/VarHandle" ∧ (parseMethodDescriptor yX9_rowFault.desc).map (fun d => d.parameters.length) = some 1 := ⟨by decide +kernel, by decide +kernel, by decide +kernel⟩
theorem vX9_289 : z_CV RX9 289 yX9_rowFault cX9_rowFault 2 (some .int) 1 := ⟨z_in (List.mem_append_right _ (List.mem_of_getElem? (i := 1254) (by decide +kernel))) rfl, wi_X9_rowFault, wl_X9_rowFault, nI_RX9, wc_X9_rowFault, wd_X9_rowFault, by decide⟩
theorem wi_X9_laySaying : Cond.instanceMethod yX9_laySaying ∈ z_all := z_in (List.mem_append_right _ (List.mem_of_getElem? (i := 1260) (by decide +kernel))) rfl
theorem wl_X9_laySaying : Cond.selects RX9 yX9_laySaying yX9_laySaying ∈ z_all := z_in (List.mem_append_left _ (List.mem_of_getElem? (i := 57) (by decide +kernel))) rfl
theorem wd_X9_laySaying : yX9_laySaying.cls ≠ "java/lang/invoke/MethodHandle" ∧ yX9_laySaying.cls ≠ "java/lang/invoke/VarHandle" ∧ (parseMethodDescriptor yX9_laySaying.desc).map (fun d => d.parameters.length) = some 1 := ⟨by decide +kernel, by decide +kernel, by decide +kernel⟩
theorem vX9_292 : z_CV RX9 292 yX9_laySaying cX9_laySaying 2 none 1 := ⟨z_in (List.mem_append_right _ (List.mem_of_getElem? (i := 1258) (by decide +kernel))) rfl, wi_X9_laySaying, wl_X9_laySaying, nI_RX9, wc_X9_laySaying, wd_X9_laySaying, by decide⟩
theorem wi_X9_goThrough : Cond.instanceMethod yX9_goThrough ∈ z_all := z_in (List.mem_append_right _ (List.mem_of_getElem? (i := 1268) (by decide +kernel))) rfl
theorem wl_X9_goThrough : Cond.selects RX9 yX9_goThrough yX9_goThrough ∈ z_all := z_in (List.mem_append_left _ (List.mem_of_getElem? (i := 59) (by decide +kernel))) rfl
theorem wd_X9_goThrough : yX9_goThrough.cls ≠ "java/lang/invoke/MethodHandle" ∧ yX9_goThrough.cls ≠ "java/lang/invoke/VarHandle" ∧ (parseMethodDescriptor yX9_goThrough.desc).map (fun d => d.parameters.length) = some 2 := ⟨by decide +kernel, by decide +kernel, by decide +kernel⟩
theorem vX9_296 : z_CV RX9 296 yX9_goThrough cX9_goThrough 5 none 2 := ⟨z_in (List.mem_append_right _ (List.mem_of_getElem? (i := 1266) (by decide +kernel))) rfl, wi_X9_goThrough, wl_X9_goThrough, nI_RX9, wc_X9_goThrough, wd_X9_goThrough, by decide⟩
theorem wi_X9_makesSense : Cond.instanceMethod yX9_makesSense ∈ z_all := z_in (List.mem_append_right _ (List.mem_of_getElem? (i := 1272) (by decide +kernel))) rfl
theorem wl_X9_makesSense : Cond.selects RX9 yX9_makesSense yX9_makesSense ∈ z_all := z_in (List.mem_append_left _ (List.mem_of_getElem? (i := 60) (by decide +kernel))) rfl
theorem wd_X9_makesSense : yX9_makesSense.cls ≠ "java/lang/invoke/MethodHandle" ∧ yX9_makesSense.cls ≠ "java/lang/invoke/VarHandle" ∧ (parseMethodDescriptor yX9_makesSense.desc).map (fun d => d.parameters.length) = some 0 := ⟨by decide +kernel, by decide +kernel, by decide +kernel⟩
theorem vX9_299 : z_CV RX9 299 yX9_makesSense cX9_makesSense 2 (some .boolean) 0 := ⟨z_in (List.mem_append_right _ (List.mem_of_getElem? (i := 1270) (by decide +kernel))) rfl, wi_X9_makesSense, wl_X9_makesSense, nI_RX9, wc_X9_makesSense, wd_X9_makesSense, by decide⟩
theorem wi_X9_hurtBy : Cond.instanceMethod yX9_hurtBy ∈ z_all := z_in (List.mem_append_right _ (List.mem_of_getElem? (i := 1276) (by decide +kernel))) rfl
theorem wl_X9_hurtBy : Cond.selects RX9 yX9_hurtBy yX9_hurtBy ∈ z_all := z_in (List.mem_append_left _ (List.mem_of_getElem? (i := 61) (by decide +kernel))) rfl
theorem wd_X9_hurtBy : yX9_hurtBy.cls ≠ "java/lang/invoke/MethodHandle" ∧ yX9_hurtBy.cls ≠ "java/lang/invoke/VarHandle" ∧ (parseMethodDescriptor yX9_hurtBy.desc).map (fun d => d.parameters.length) = some 1 := ⟨by decide +kernel, by decide +kernel, by decide +kernel⟩
theorem vX9_302 : z_CV RX9 302 yX9_hurtBy cX9_hurtBy 7 (some .int) 1 := ⟨z_in (List.mem_append_right _ (List.mem_of_getElem? (i := 1274) (by decide +kernel))) rfl, wi_X9_hurtBy, wl_X9_hurtBy, nI_RX9, wc_X9_hurtBy, wd_X9_hurtBy, by decide⟩
theorem wi_X9_harmLeft : Cond.instanceMethod yX9_harmLeft ∈ z_all := z_in (List.mem_append_right _ (List.mem_of_getElem? (i := 1280) (by decide +kernel))) rfl
theorem wl_X9_harmLeft : Cond.selects RX9 yX9_harmLeft yX9_harmLeft ∈ z_all := z_in (List.mem_append_left _ (List.mem_of_getElem? (i := 62) (by decide +kernel))) rfl
theorem wd_X9_harmLeft : yX9_harmLeft.cls ≠ "java/lang/invoke/MethodHandle" ∧ yX9_harmLeft.cls ≠ "java/lang/invoke/VarHandle" ∧ (parseMethodDescriptor yX9_harmLeft.desc).map (fun d => d.parameters.length) = some 0 := ⟨by decide +kernel, by decide +kernel, by decide +kernel⟩
theorem vX9_306 : z_CV RX9 306 yX9_harmLeft cX9_harmLeft 3 (some .int) 0 := ⟨z_in (List.mem_append_right _ (List.mem_of_getElem? (i := 1278) (by decide +kernel))) rfl, wi_X9_harmLeft, wl_X9_harmLeft, nI_RX9, wc_X9_harmLeft, wd_X9_harmLeft, by decide⟩
theorem sX9_309 : z_CS RX9 309 yX9_areShelves cX9_areShelves 1 (some .boolean) 1 := ⟨Or.inl (z_in (List.mem_append_right _ (List.mem_of_getElem? (i := 1290) (by decide +kernel))) rfl), z_in (List.mem_append_right _ (List.mem_of_getElem? (i := 1291) (by decide +kernel))) rfl, nI_RX9, wc_X9_areShelves, ⟨by decide +kernel, by decide +kernel, by decide +kernel⟩, by decide⟩
theorem wi_X9_bothFault : Cond.instanceMethod yX9_bothFault ∈ z_all := z_in (List.mem_append_right _ (List.mem_of_getElem? (i := 1295) (by decide +kernel))) rfl
theorem wl_X9_bothFault : Cond.selects RX9 yX9_bothFault yX9_bothFault ∈ z_all := z_in (List.mem_append_left _ (List.mem_of_getElem? (i := 63) (by decide +kernel))) rfl
theorem wd_X9_bothFault : yX9_bothFault.cls ≠ "java/lang/invoke/MethodHandle" ∧ yX9_bothFault.cls ≠ "java/lang/invoke/VarHandle" ∧ (parseMethodDescriptor yX9_bothFault.desc).map (fun d => d.parameters.length) = some 1 := ⟨by decide +kernel, by decide +kernel, by decide +kernel⟩
theorem vX9_312 : z_CV RX9 312 yX9_bothFault cX9_bothFault 2 (some .int) 1 := ⟨z_in (List.mem_append_right _ (List.mem_of_getElem? (i := 1293) (by decide +kernel))) rfl, wi_X9_bothFault, wl_X9_bothFault, nI_RX9, wc_X9_bothFault, wd_X9_bothFault, by decide⟩
theorem wi_X9_maySay : Cond.instanceMethod yX9_maySay ∈ z_all := z_in (List.mem_append_right _ (List.mem_of_getElem? (i := 1311) (by decide +kernel))) rfl
theorem wl_X9_maySay : Cond.selects RX9 yX9_maySay yX9_maySay ∈ z_all := z_in (List.mem_append_left _ (List.mem_of_getElem? (i := 66) (by decide +kernel))) rfl
theorem wd_X9_maySay : yX9_maySay.cls ≠ "java/lang/invoke/MethodHandle" ∧ yX9_maySay.cls ≠ "java/lang/invoke/VarHandle" ∧ (parseMethodDescriptor yX9_maySay.desc).map (fun d => d.parameters.length) = some 4 := ⟨by decide +kernel, by decide +kernel, by decide +kernel⟩
theorem vX9_321 : z_CV RX9 321 yX9_maySay cX9_maySay 6 (some .boolean) 4 := ⟨z_in (List.mem_append_right _ (List.mem_of_getElem? (i := 1309) (by decide +kernel))) rfl, wi_X9_maySay, wl_X9_maySay, nI_RX9, wc_X9_maySay, wd_X9_maySay, by decide⟩
theorem wi_X9_layRow : Cond.instanceMethod yX9_layRow ∈ z_all := z_in (List.mem_append_right _ (List.mem_of_getElem? (i := 1303) (by decide +kernel))) rfl
theorem wl_X9_layRow : Cond.selects RX9 yX9_layRow yX9_layRow ∈ z_all := z_in (List.mem_append_left _ (List.mem_of_getElem? (i := 64) (by decide +kernel))) rfl
theorem wd_X9_layRow : yX9_layRow.cls ≠ "java/lang/invoke/MethodHandle" ∧ yX9_layRow.cls ≠ "java/lang/invoke/VarHandle" ∧ (parseMethodDescriptor yX9_layRow.desc).map (fun d => d.parameters.length) = some 1 := ⟨by decide +kernel, by decide +kernel, by decide +kernel⟩
theorem vX9_324 : z_CV RX9 324 yX9_layRow cX9_layRow 3 none 1 := ⟨z_in (List.mem_append_right _ (List.mem_of_getElem? (i := 1301) (by decide +kernel))) rfl, wi_X9_layRow, wl_X9_layRow, nI_RX9, wc_X9_layRow, wd_X9_layRow, by decide⟩
theorem wi_X9_findSay : Cond.instanceMethod yX9_findSay ∈ z_all := z_in (List.mem_append_right _ (List.mem_of_getElem? (i := 1307) (by decide +kernel))) rfl
theorem wl_X9_findSay : Cond.selects RX9 yX9_findSay yX9_findSay ∈ z_all := z_in (List.mem_append_left _ (List.mem_of_getElem? (i := 65) (by decide +kernel))) rfl
theorem wd_X9_findSay : yX9_findSay.cls ≠ "java/lang/invoke/MethodHandle" ∧ yX9_findSay.cls ≠ "java/lang/invoke/VarHandle" ∧ (parseMethodDescriptor yX9_findSay.desc).map (fun d => d.parameters.length) = some 2 := ⟨by decide +kernel, by decide +kernel, by decide +kernel⟩
theorem vX9_327 : z_CV RX9 327 yX9_findSay cX9_findSay 7 (some .boolean) 2 := ⟨z_in (List.mem_append_right _ (List.mem_of_getElem? (i := 1305) (by decide +kernel))) rfl, wi_X9_findSay, wl_X9_findSay, nI_RX9, wc_X9_findSay, wd_X9_findSay, by decide⟩
theorem wi_X9_saysAt : Cond.instanceMethod yX9_saysAt ∈ z_all := z_in (List.mem_append_right _ (List.mem_of_getElem? (i := 1315) (by decide +kernel))) rfl
theorem wl_X9_saysAt : Cond.selects RX9 yX9_saysAt yX9_saysAt ∈ z_all := z_in (List.mem_append_left _ (List.mem_of_getElem? (i := 67) (by decide +kernel))) rfl
theorem wd_X9_saysAt : yX9_saysAt.cls ≠ "java/lang/invoke/MethodHandle" ∧ yX9_saysAt.cls ≠ "java/lang/invoke/VarHandle" ∧ (parseMethodDescriptor yX9_saysAt.desc).map (fun d => d.parameters.length) = some 2 := ⟨by decide +kernel, by decide +kernel, by decide +kernel⟩
theorem vX9_330 : z_CV RX9 330 yX9_saysAt cX9_saysAt 6 (some .int) 2 := ⟨z_in (List.mem_append_right _ (List.mem_of_getElem? (i := 1313) (by decide +kernel))) rfl, wi_X9_saysAt, wl_X9_saysAt, nI_RX9, wc_X9_saysAt, wd_X9_saysAt, by decide⟩
theorem wi_X9_allPass : Cond.instanceMethod yX9_allPass ∈ z_all := z_in (List.mem_append_right _ (List.mem_of_getElem? (i := 1323) (by decide +kernel))) rfl
theorem wl_X9_allPass : Cond.selects RX9 yX9_allPass yX9_allPass ∈ z_all := z_in (List.mem_append_left _ (List.mem_of_getElem? (i := 68) (by decide +kernel))) rfl
theorem wd_X9_allPass : yX9_allPass.cls ≠ "java/lang/invoke/MethodHandle" ∧ yX9_allPass.cls ≠ "java/lang/invoke/VarHandle" ∧ (parseMethodDescriptor yX9_allPass.desc).map (fun d => d.parameters.length) = some 1 := ⟨by decide +kernel, by decide +kernel, by decide +kernel⟩
theorem vX9_333 : z_CV RX9 333 yX9_allPass cX9_allPass 3 (some .boolean) 1 := ⟨z_in (List.mem_append_right _ (List.mem_of_getElem? (i := 1321) (by decide +kernel))) rfl, wi_X9_allPass, wl_X9_allPass, nI_RX9, wc_X9_allPass, wd_X9_allPass, by decide⟩
theorem wi_X9_keepsBy : Cond.instanceMethod yX9_keepsBy ∈ z_all := z_in (List.mem_append_right _ (List.mem_of_getElem? (i := 1331) (by decide +kernel))) rfl
theorem wl_X9_keepsBy : Cond.selects RX9 yX9_keepsBy yX9_keepsBy ∈ z_all := z_in (List.mem_append_left _ (List.mem_of_getElem? (i := 69) (by decide +kernel))) rfl
theorem wd_X9_keepsBy : yX9_keepsBy.cls ≠ "java/lang/invoke/MethodHandle" ∧ yX9_keepsBy.cls ≠ "java/lang/invoke/VarHandle" ∧ (parseMethodDescriptor yX9_keepsBy.desc).map (fun d => d.parameters.length) = some 2 := ⟨by decide +kernel, by decide +kernel, by decide +kernel⟩
theorem vX9_336 : z_CV RX9 336 yX9_keepsBy cX9_keepsBy 4 (some .boolean) 2 := ⟨z_in (List.mem_append_right _ (List.mem_of_getElem? (i := 1329) (by decide +kernel))) rfl, wi_X9_keepsBy, wl_X9_keepsBy, nI_RX9, wc_X9_keepsBy, wd_X9_keepsBy, by decide⟩
theorem sX9_339 : z_CS RX9 339 yX9_bitsOf cX9_bitsOf 3 (some .int) 1 := ⟨Or.inl (z_in (List.mem_append_right _ (List.mem_of_getElem? (i := 1341) (by decide +kernel))) rfl), z_in (List.mem_append_right _ (List.mem_of_getElem? (i := 1342) (by decide +kernel))) rfl, nI_RX9, wc_X9_bitsOf, ⟨by decide +kernel, by decide +kernel, by decide +kernel⟩, by decide⟩
theorem wi_X9_laySet : Cond.instanceMethod yX9_laySet ∈ z_all := z_in (List.mem_append_right _ (List.mem_of_getElem? (i := 1346) (by decide +kernel))) rfl
theorem wl_X9_laySet : Cond.selects RX9 yX9_laySet yX9_laySet ∈ z_all := z_in (List.mem_append_left _ (List.mem_of_getElem? (i := 70) (by decide +kernel))) rfl
theorem wd_X9_laySet : yX9_laySet.cls ≠ "java/lang/invoke/MethodHandle" ∧ yX9_laySet.cls ≠ "java/lang/invoke/VarHandle" ∧ (parseMethodDescriptor yX9_laySet.desc).map (fun d => d.parameters.length) = some 1 := ⟨by decide +kernel, by decide +kernel, by decide +kernel⟩
theorem vX9_342 : z_CV RX9 342 yX9_laySet cX9_laySet 3 none 1 := ⟨z_in (List.mem_append_right _ (List.mem_of_getElem? (i := 1344) (by decide +kernel))) rfl, wi_X9_laySet, wl_X9_laySet, nI_RX9, wc_X9_laySet, wd_X9_laySet, by decide⟩
theorem wi_X9_comes : Cond.instanceMethod yX9_comes ∈ z_all := z_in (List.mem_append_right _ (List.mem_of_getElem? (i := 1367) (by decide +kernel))) rfl
theorem wl_X9_comes : Cond.selects RX9 yX9_comes yX9_comes ∈ z_all := z_in (List.mem_append_left _ (List.mem_of_getElem? (i := 74) (by decide +kernel))) rfl
theorem wd_X9_comes : yX9_comes.cls ≠ "java/lang/invoke/MethodHandle" ∧ yX9_comes.cls ≠ "java/lang/invoke/VarHandle" ∧ (parseMethodDescriptor yX9_comes.desc).map (fun d => d.parameters.length) = some 3 := ⟨by decide +kernel, by decide +kernel, by decide +kernel⟩
theorem vX9_348 : z_CV RX9 348 yX9_comes cX9_comes 4 (some .boolean) 3 := ⟨z_in (List.mem_append_right _ (List.mem_of_getElem? (i := 1365) (by decide +kernel))) rfl, wi_X9_comes, wl_X9_comes, nI_RX9, wc_X9_comes, wd_X9_comes, by decide⟩
theorem wi_X9_wayAt : Cond.instanceMethod yX9_wayAt ∈ z_all := z_in (List.mem_append_right _ (List.mem_of_getElem? (i := 1371) (by decide +kernel))) rfl
theorem wl_X9_wayAt : Cond.selects RX9 yX9_wayAt yX9_wayAt ∈ z_all := z_in (List.mem_append_left _ (List.mem_of_getElem? (i := 75) (by decide +kernel))) rfl
theorem wd_X9_wayAt : yX9_wayAt.cls ≠ "java/lang/invoke/MethodHandle" ∧ yX9_wayAt.cls ≠ "java/lang/invoke/VarHandle" ∧ (parseMethodDescriptor yX9_wayAt.desc).map (fun d => d.parameters.length) = some 2 := ⟨by decide +kernel, by decide +kernel, by decide +kernel⟩
theorem vX9_351 : z_CV RX9 351 yX9_wayAt cX9_wayAt 3 (some .long) 2 := ⟨z_in (List.mem_append_right _ (List.mem_of_getElem? (i := 1369) (by decide +kernel))) rfl, wi_X9_wayAt, wl_X9_wayAt, nI_RX9, wc_X9_wayAt, wd_X9_wayAt, by decide⟩
theorem wi_X9_stays : Cond.instanceMethod yX9_stays ∈ z_all := z_in (List.mem_append_right _ (List.mem_of_getElem? (i := 1375) (by decide +kernel))) rfl
theorem wl_X9_stays : Cond.selects RX9 yX9_stays yX9_stays ∈ z_all := z_in (List.mem_append_left _ (List.mem_of_getElem? (i := 76) (by decide +kernel))) rfl
theorem wd_X9_stays : yX9_stays.cls ≠ "java/lang/invoke/MethodHandle" ∧ yX9_stays.cls ≠ "java/lang/invoke/VarHandle" ∧ (parseMethodDescriptor yX9_stays.desc).map (fun d => d.parameters.length) = some 3 := ⟨by decide +kernel, by decide +kernel, by decide +kernel⟩
theorem vX9_355 : z_CV RX9 355 yX9_stays cX9_stays 4 (some .boolean) 3 := ⟨z_in (List.mem_append_right _ (List.mem_of_getElem? (i := 1373) (by decide +kernel))) rfl, wi_X9_stays, wl_X9_stays, nI_RX9, wc_X9_stays, wd_X9_stays, by decide⟩
theorem wi_X9_layBoth : Cond.instanceMethod yX9_layBoth ∈ z_all := z_in (List.mem_append_right _ (List.mem_of_getElem? (i := 1355) (by decide +kernel))) rfl
theorem wl_X9_layBoth : Cond.selects RX9 yX9_layBoth yX9_layBoth ∈ z_all := z_in (List.mem_append_left _ (List.mem_of_getElem? (i := 71) (by decide +kernel))) rfl
theorem wd_X9_layBoth : yX9_layBoth.cls ≠ "java/lang/invoke/MethodHandle" ∧ yX9_layBoth.cls ≠ "java/lang/invoke/VarHandle" ∧ (parseMethodDescriptor yX9_layBoth.desc).map (fun d => d.parameters.length) = some 1 := ⟨by decide +kernel, by decide +kernel, by decide +kernel⟩
theorem vX9_360 : z_CV RX9 360 yX9_layBoth cX9_layBoth 3 none 1 := ⟨z_in (List.mem_append_right _ (List.mem_of_getElem? (i := 1353) (by decide +kernel))) rfl, wi_X9_layBoth, wl_X9_layBoth, nI_RX9, wc_X9_layBoth, wd_X9_layBoth, by decide⟩
theorem wi_X9_isMuch : Cond.instanceMethod yX9_isMuch ∈ z_all := z_in (List.mem_append_right _ (List.mem_of_getElem? (i := 1359) (by decide +kernel))) rfl
theorem wl_X9_isMuch : Cond.selects RX9 yX9_isMuch yX9_isMuch ∈ z_all := z_in (List.mem_append_left _ (List.mem_of_getElem? (i := 72) (by decide +kernel))) rfl
theorem wd_X9_isMuch : yX9_isMuch.cls ≠ "java/lang/invoke/MethodHandle" ∧ yX9_isMuch.cls ≠ "java/lang/invoke/VarHandle" ∧ (parseMethodDescriptor yX9_isMuch.desc).map (fun d => d.parameters.length) = some 0 := ⟨by decide +kernel, by decide +kernel, by decide +kernel⟩
theorem vX9_363 : z_CV RX9 363 yX9_isMuch cX9_isMuch 1 (some .boolean) 0 := ⟨z_in (List.mem_append_right _ (List.mem_of_getElem? (i := 1357) (by decide +kernel))) rfl, wi_X9_isMuch, wl_X9_isMuch, nI_RX9, wc_X9_isMuch, wd_X9_isMuch, by decide⟩
theorem wi_X9_findSaid : Cond.instanceMethod yX9_findSaid ∈ z_all := z_in (List.mem_append_right _ (List.mem_of_getElem? (i := 1363) (by decide +kernel))) rfl
theorem wl_X9_findSaid : Cond.selects RX9 yX9_findSaid yX9_findSaid ∈ z_all := z_in (List.mem_append_left _ (List.mem_of_getElem? (i := 73) (by decide +kernel))) rfl
theorem wd_X9_findSaid : yX9_findSaid.cls ≠ "java/lang/invoke/MethodHandle" ∧ yX9_findSaid.cls ≠ "java/lang/invoke/VarHandle" ∧ (parseMethodDescriptor yX9_findSaid.desc).map (fun d => d.parameters.length) = some 1 := ⟨by decide +kernel, by decide +kernel, by decide +kernel⟩
theorem vX9_366 : z_CV RX9 366 yX9_findSaid cX9_findSaid 6 none 1 := ⟨z_in (List.mem_append_right _ (List.mem_of_getElem? (i := 1361) (by decide +kernel))) rfl, wi_X9_findSaid, wl_X9_findSaid, nI_RX9, wc_X9_findSaid, wd_X9_findSaid, by decide⟩
theorem wi_X9_leftAt : Cond.instanceMethod yX9_leftAt ∈ z_all := z_in (List.mem_append_right _ (List.mem_of_getElem? (i := 1387) (by decide +kernel))) rfl
theorem wl_X9_leftAt : Cond.selects RX9 yX9_leftAt yX9_leftAt ∈ z_all := z_in (List.mem_append_left _ (List.mem_of_getElem? (i := 77) (by decide +kernel))) rfl
theorem wd_X9_leftAt : yX9_leftAt.cls ≠ "java/lang/invoke/MethodHandle" ∧ yX9_leftAt.cls ≠ "java/lang/invoke/VarHandle" ∧ (parseMethodDescriptor yX9_leftAt.desc).map (fun d => d.parameters.length) = some 3 := ⟨by decide +kernel, by decide +kernel, by decide +kernel⟩
theorem vX9_369 : z_CV RX9 369 yX9_leftAt cX9_leftAt 6 (some .int) 3 := ⟨z_in (List.mem_append_right _ (List.mem_of_getElem? (i := 1385) (by decide +kernel))) rfl, wi_X9_leftAt, wl_X9_leftAt, nI_RX9, wc_X9_leftAt, wd_X9_leftAt, by decide⟩
theorem wi_X9_goFine : Cond.instanceMethod yX9_goFine ∈ z_all := z_in (List.mem_append_right _ (List.mem_of_getElem? (i := 1395) (by decide +kernel))) rfl
theorem wl_X9_goFine : Cond.selects RX9 yX9_goFine yX9_goFine ∈ z_all := z_in (List.mem_append_left _ (List.mem_of_getElem? (i := 78) (by decide +kernel))) rfl
theorem wd_X9_goFine : yX9_goFine.cls ≠ "java/lang/invoke/MethodHandle" ∧ yX9_goFine.cls ≠ "java/lang/invoke/VarHandle" ∧ (parseMethodDescriptor yX9_goFine.desc).map (fun d => d.parameters.length) = some 1 := ⟨by decide +kernel, by decide +kernel, by decide +kernel⟩
theorem vX9_372 : z_CV RX9 372 yX9_goFine cX9_goFine 3 none 1 := ⟨z_in (List.mem_append_right _ (List.mem_of_getElem? (i := 1393) (by decide +kernel))) rfl, wi_X9_goFine, wl_X9_goFine, nI_RX9, wc_X9_goFine, wd_X9_goFine, by decide⟩
theorem wi_X9_justComes : Cond.instanceMethod yX9_justComes ∈ z_all := z_in (List.mem_append_right _ (List.mem_of_getElem? (i := 1399) (by decide +kernel))) rfl
theorem wl_X9_justComes : Cond.selects RX9 yX9_justComes yX9_justComes ∈ z_all := z_in (List.mem_append_left _ (List.mem_of_getElem? (i := 79) (by decide +kernel))) rfl
theorem wd_X9_justComes : yX9_justComes.cls ≠ "java/lang/invoke/MethodHandle" ∧ yX9_justComes.cls ≠ "java/lang/invoke/VarHandle" ∧ (parseMethodDescriptor yX9_justComes.desc).map (fun d => d.parameters.length) = some 0 := ⟨by decide +kernel, by decide +kernel, by decide +kernel⟩
theorem vX9_375 : z_CV RX9 375 yX9_justComes cX9_justComes 2 (some .boolean) 0 := ⟨z_in (List.mem_append_right _ (List.mem_of_getElem? (i := 1397) (by decide +kernel))) rfl, wi_X9_justComes, wl_X9_justComes, nI_RX9, wc_X9_justComes, wd_X9_justComes, by decide⟩
theorem wi_X9_changesNothing : Cond.instanceMethod yX9_changesNothing ∈ z_all := z_in (List.mem_append_right _ (List.mem_of_getElem? (i := 1407) (by decide +kernel))) rfl
theorem wl_X9_changesNothing : Cond.selects RX9 yX9_changesNothing yX9_changesNothing ∈ z_all := z_in (List.mem_append_left _ (List.mem_of_getElem? (i := 80) (by decide +kernel))) rfl
theorem wd_X9_changesNothing : yX9_changesNothing.cls ≠ "java/lang/invoke/MethodHandle" ∧ yX9_changesNothing.cls ≠ "java/lang/invoke/VarHandle" ∧ (parseMethodDescriptor yX9_changesNothing.desc).map (fun d => d.parameters.length) = some 3 := ⟨by decide +kernel, by decide +kernel, by decide +kernel⟩
theorem vX9_378 : z_CV RX9 378 yX9_changesNothing cX9_changesNothing 6 (some .boolean) 3 := ⟨z_in (List.mem_append_right _ (List.mem_of_getElem? (i := 1405) (by decide +kernel))) rfl, wi_X9_changesNothing, wl_X9_changesNothing, nI_RX9, wc_X9_changesNothing, wd_X9_changesNothing, by decide⟩
theorem wi_X9_harmOf : Cond.instanceMethod yX9_harmOf ∈ z_all := z_in (List.mem_append_right _ (List.mem_of_getElem? (i := 1415) (by decide +kernel))) rfl
theorem wl_X9_harmOf : Cond.selects RX9 yX9_harmOf yX9_harmOf ∈ z_all := z_in (List.mem_append_left _ (List.mem_of_getElem? (i := 81) (by decide +kernel))) rfl
theorem wd_X9_harmOf : yX9_harmOf.cls ≠ "java/lang/invoke/MethodHandle" ∧ yX9_harmOf.cls ≠ "java/lang/invoke/VarHandle" ∧ (parseMethodDescriptor yX9_harmOf.desc).map (fun d => d.parameters.length) = some 1 := ⟨by decide +kernel, by decide +kernel, by decide +kernel⟩
theorem vX9_381 : z_CV RX9 381 yX9_harmOf cX9_harmOf 4 (some .int) 1 := ⟨z_in (List.mem_append_right _ (List.mem_of_getElem? (i := 1413) (by decide +kernel))) rfl, wi_X9_harmOf, wl_X9_harmOf, nI_RX9, wc_X9_harmOf, wd_X9_harmOf, by decide⟩
theorem wi_X9_comesOf : Cond.instanceMethod yX9_comesOf ∈ z_all := z_in (List.mem_append_right _ (List.mem_of_getElem? (i := 1419) (by decide +kernel))) rfl
theorem wl_X9_comesOf : Cond.selects RX9 yX9_comesOf yX9_comesOf ∈ z_all := z_in (List.mem_append_left _ (List.mem_of_getElem? (i := 82) (by decide +kernel))) rfl
theorem wd_X9_comesOf : yX9_comesOf.cls ≠ "java/lang/invoke/MethodHandle" ∧ yX9_comesOf.cls ≠ "java/lang/invoke/VarHandle" ∧ (parseMethodDescriptor yX9_comesOf.desc).map (fun d => d.parameters.length) = some 1 := ⟨by decide +kernel, by decide +kernel, by decide +kernel⟩
theorem vX9_384 : z_CV RX9 384 yX9_comesOf cX9_comesOf 3 (some .boolean) 1 := ⟨z_in (List.mem_append_right _ (List.mem_of_getElem? (i := 1417) (by decide +kernel))) rfl, wi_X9_comesOf, wl_X9_comesOf, nI_RX9, wc_X9_comesOf, wd_X9_comesOf, by decide⟩
theorem sX9_387 : z_CS RX9 387 yX9_lowest cX9_lowest 11 (some .long) 3 := ⟨Or.inl (z_in (List.mem_append_right _ (List.mem_of_getElem? (i := 1425) (by decide +kernel))) rfl), z_in (List.mem_append_right _ (List.mem_of_getElem? (i := 1426) (by decide +kernel))) rfl, nI_RX9, wc_X9_lowest, ⟨by decide +kernel, by decide +kernel, by decide +kernel⟩, by decide⟩
theorem wi_X9_playedMany : Cond.instanceMethod yX9_playedMany ∈ z_all := z_in (List.mem_append_right _ (List.mem_of_getElem? (i := 1434) (by decide +kernel))) rfl
theorem wl_X9_playedMany : Cond.selects RX9 yX9_playedMany yX9_playedMany ∈ z_all := z_in (List.mem_append_left _ (List.mem_of_getElem? (i := 83) (by decide +kernel))) rfl
theorem wd_X9_playedMany : yX9_playedMany.cls ≠ "java/lang/invoke/MethodHandle" ∧ yX9_playedMany.cls ≠ "java/lang/invoke/VarHandle" ∧ (parseMethodDescriptor yX9_playedMany.desc).map (fun d => d.parameters.length) = some 0 := ⟨by decide +kernel, by decide +kernel, by decide +kernel⟩
theorem vX9_391 : z_CV RX9 391 yX9_playedMany cX9_playedMany 1 (some .int) 0 := ⟨z_in (List.mem_append_right _ (List.mem_of_getElem? (i := 1432) (by decide +kernel))) rfl, wi_X9_playedMany, wl_X9_playedMany, nI_RX9, wc_X9_playedMany, wd_X9_playedMany, by decide⟩
theorem wi_X9_mayPlay : Cond.instanceMethod yX9_mayPlay ∈ z_all := z_in (List.mem_append_right _ (List.mem_of_getElem? (i := 1442) (by decide +kernel))) rfl
theorem wl_X9_mayPlay : Cond.selects RX9 yX9_mayPlay yX9_mayPlay ∈ z_all := z_in (List.mem_append_left _ (List.mem_of_getElem? (i := 85) (by decide +kernel))) rfl
theorem wd_X9_mayPlay : yX9_mayPlay.cls ≠ "java/lang/invoke/MethodHandle" ∧ yX9_mayPlay.cls ≠ "java/lang/invoke/VarHandle" ∧ (parseMethodDescriptor yX9_mayPlay.desc).map (fun d => d.parameters.length) = some 3 := ⟨by decide +kernel, by decide +kernel, by decide +kernel⟩
theorem vX9_394 : z_CV RX9 394 yX9_mayPlay cX9_mayPlay 4 (some .boolean) 3 := ⟨z_in (List.mem_append_right _ (List.mem_of_getElem? (i := 1440) (by decide +kernel))) rfl, wi_X9_mayPlay, wl_X9_mayPlay, nI_RX9, wc_X9_mayPlay, wd_X9_mayPlay, by decide⟩
theorem wi_X9_winningWord : Cond.instanceMethod yX9_winningWord ∈ z_all := z_in (List.mem_append_right _ (List.mem_of_getElem? (i := 1438) (by decide +kernel))) rfl
theorem wl_X9_winningWord : Cond.selects RX9 yX9_winningWord yX9_winningWord ∈ z_all := z_in (List.mem_append_left _ (List.mem_of_getElem? (i := 84) (by decide +kernel))) rfl
theorem wd_X9_winningWord : yX9_winningWord.cls ≠ "java/lang/invoke/MethodHandle" ∧ yX9_winningWord.cls ≠ "java/lang/invoke/VarHandle" ∧ (parseMethodDescriptor yX9_winningWord.desc).map (fun d => d.parameters.length) = some 2 := ⟨by decide +kernel, by decide +kernel, by decide +kernel⟩
theorem vX9_397 : z_CV RX9 397 yX9_winningWord cX9_winningWord 4 (some .int) 2 := ⟨z_in (List.mem_append_right _ (List.mem_of_getElem? (i := 1436) (by decide +kernel))) rfl, wi_X9_winningWord, wl_X9_winningWord, nI_RX9, wc_X9_winningWord, wd_X9_winningWord, by decide⟩
theorem wi_X9_ran : Cond.instanceMethod yX9_ran ∈ z_all := z_in (List.mem_append_right _ (List.mem_of_getElem? (i := 1494) (by decide +kernel))) rfl
theorem wl_X9_ran : Cond.selects RX9 yX9_ran yX9_ran ∈ z_all := z_in (List.mem_append_left _ (List.mem_of_getElem? (i := 88) (by decide +kernel))) rfl
theorem wd_X9_ran : yX9_ran.cls ≠ "java/lang/invoke/MethodHandle" ∧ yX9_ran.cls ≠ "java/lang/invoke/VarHandle" ∧ (parseMethodDescriptor yX9_ran.desc).map (fun d => d.parameters.length) = some 1 := ⟨by decide +kernel, by decide +kernel, by decide +kernel⟩
theorem vX9_413 : z_CV RX9 413 yX9_ran cX9_ran 2 none 1 := ⟨z_in (List.mem_append_right _ (List.mem_of_getElem? (i := 1492) (by decide +kernel))) rfl, wi_X9_ran, wl_X9_ran, nI_RX9, wc_X9_ran, wd_X9_ran, by decide⟩
theorem wi_X9_plainPasses : Cond.instanceMethod yX9_plainPasses ∈ z_all := z_in (List.mem_append_right _ (List.mem_of_getElem? (i := 1498) (by decide +kernel))) rfl
theorem wl_X9_plainPasses : Cond.selects RX9 yX9_plainPasses yX9_plainPasses ∈ z_all := z_in (List.mem_append_left _ (List.mem_of_getElem? (i := 89) (by decide +kernel))) rfl
theorem wd_X9_plainPasses : yX9_plainPasses.cls ≠ "java/lang/invoke/MethodHandle" ∧ yX9_plainPasses.cls ≠ "java/lang/invoke/VarHandle" ∧ (parseMethodDescriptor yX9_plainPasses.desc).map (fun d => d.parameters.length) = some 2 := ⟨by decide +kernel, by decide +kernel, by decide +kernel⟩
theorem vX9_416 : z_CV RX9 416 yX9_plainPasses cX9_plainPasses 3 (some .int) 2 := ⟨z_in (List.mem_append_right _ (List.mem_of_getElem? (i := 1496) (by decide +kernel))) rfl, wi_X9_plainPasses, wl_X9_plainPasses, nI_RX9, wc_X9_plainPasses, wd_X9_plainPasses, by decide⟩
theorem sX9_419 : z_CS RX9 419 yX9_isUnder cX9_isUnder 2 (some .boolean) 2 := ⟨Or.inl (z_in (List.mem_append_right _ (List.mem_of_getElem? (i := 1489) (by decide +kernel))) rfl), z_in (List.mem_append_right _ (List.mem_of_getElem? (i := 1490) (by decide +kernel))) rfl, nI_RX9, wc_X9_isUnder, ⟨by decide +kernel, by decide +kernel, by decide +kernel⟩, by decide⟩
theorem wi_X9_maidPasses : Cond.instanceMethod yX9_maidPasses ∈ z_all := z_in (List.mem_append_right _ (List.mem_of_getElem? (i := 1502) (by decide +kernel))) rfl
theorem wl_X9_maidPasses : Cond.selects RX9 yX9_maidPasses yX9_maidPasses ∈ z_all := z_in (List.mem_append_left _ (List.mem_of_getElem? (i := 90) (by decide +kernel))) rfl
theorem wd_X9_maidPasses : yX9_maidPasses.cls ≠ "java/lang/invoke/MethodHandle" ∧ yX9_maidPasses.cls ≠ "java/lang/invoke/VarHandle" ∧ (parseMethodDescriptor yX9_maidPasses.desc).map (fun d => d.parameters.length) = some 2 := ⟨by decide +kernel, by decide +kernel, by decide +kernel⟩
theorem vX9_422 : z_CV RX9 422 yX9_maidPasses cX9_maidPasses 3 (some .int) 2 := ⟨z_in (List.mem_append_right _ (List.mem_of_getElem? (i := 1500) (by decide +kernel))) rfl, wi_X9_maidPasses, wl_X9_maidPasses, nI_RX9, wc_X9_maidPasses, wd_X9_maidPasses, by decide⟩
theorem wi_X9_passing : Cond.instanceMethod yX9_passing ∈ z_all := z_in (List.mem_append_right _ (List.mem_of_getElem? (i := 1487) (by decide +kernel))) rfl
theorem wl_X9_passing : Cond.selects RX9 yX9_passing yX9_passing ∈ z_all := z_in (List.mem_append_left _ (List.mem_of_getElem? (i := 87) (by decide +kernel))) rfl
theorem wd_X9_passing : yX9_passing.cls ≠ "java/lang/invoke/MethodHandle" ∧ yX9_passing.cls ≠ "java/lang/invoke/VarHandle" ∧ (parseMethodDescriptor yX9_passing.desc).map (fun d => d.parameters.length) = some 2 := ⟨by decide +kernel, by decide +kernel, by decide +kernel⟩
theorem vX9_425 : z_CV RX9 425 yX9_passing cX9_passing 3 (some .int) 2 := ⟨z_in (List.mem_append_right _ (List.mem_of_getElem? (i := 1485) (by decide +kernel))) rfl, wi_X9_passing, wl_X9_passing, nI_RX9, wc_X9_passing, wd_X9_passing, by decide⟩
theorem wi_X9_plainStays : Cond.instanceMethod yX9_plainStays ∈ z_all := z_in (List.mem_append_right _ (List.mem_of_getElem? (i := 1514) (by decide +kernel))) rfl
theorem wl_X9_plainStays : Cond.selects RX9 yX9_plainStays yX9_plainStays ∈ z_all := z_in (List.mem_append_left _ (List.mem_of_getElem? (i := 93) (by decide +kernel))) rfl
theorem wd_X9_plainStays : yX9_plainStays.cls ≠ "java/lang/invoke/MethodHandle" ∧ yX9_plainStays.cls ≠ "java/lang/invoke/VarHandle" ∧ (parseMethodDescriptor yX9_plainStays.desc).map (fun d => d.parameters.length) = some 2 := ⟨by decide +kernel, by decide +kernel, by decide +kernel⟩
theorem vX9_428 : z_CV RX9 428 yX9_plainStays cX9_plainStays 3 (some .int) 2 := ⟨z_in (List.mem_append_right _ (List.mem_of_getElem? (i := 1512) (by decide +kernel))) rfl, wi_X9_plainStays, wl_X9_plainStays, nI_RX9, wc_X9_plainStays, wd_X9_plainStays, by decide⟩
theorem wi_X9_barbStays : Cond.instanceMethod yX9_barbStays ∈ z_all := z_in (List.mem_append_right _ (List.mem_of_getElem? (i := 1510) (by decide +kernel))) rfl
theorem wl_X9_barbStays : Cond.selects RX9 yX9_barbStays yX9_barbStays ∈ z_all := z_in (List.mem_append_left _ (List.mem_of_getElem? (i := 92) (by decide +kernel))) rfl
theorem wd_X9_barbStays : yX9_barbStays.cls ≠ "java/lang/invoke/MethodHandle" ∧ yX9_barbStays.cls ≠ "java/lang/invoke/VarHandle" ∧ (parseMethodDescriptor yX9_barbStays.desc).map (fun d => d.parameters.length) = some 2 := ⟨by decide +kernel, by decide +kernel, by decide +kernel⟩
theorem vX9_431 : z_CV RX9 431 yX9_barbStays cX9_barbStays 3 (some .int) 2 := ⟨z_in (List.mem_append_right _ (List.mem_of_getElem? (i := 1508) (by decide +kernel))) rfl, wi_X9_barbStays, wl_X9_barbStays, nI_RX9, wc_X9_barbStays, wd_X9_barbStays, by decide⟩
theorem wi_X9_hurting : Cond.instanceMethod yX9_hurting ∈ z_all := z_in (List.mem_append_right _ (List.mem_of_getElem? (i := 1518) (by decide +kernel))) rfl
theorem wl_X9_hurting : Cond.selects RX9 yX9_hurting yX9_hurting ∈ z_all := z_in (List.mem_append_left _ (List.mem_of_getElem? (i := 94) (by decide +kernel))) rfl
theorem wd_X9_hurting : yX9_hurting.cls ≠ "java/lang/invoke/MethodHandle" ∧ yX9_hurting.cls ≠ "java/lang/invoke/VarHandle" ∧ (parseMethodDescriptor yX9_hurting.desc).map (fun d => d.parameters.length) = some 2 := ⟨by decide +kernel, by decide +kernel, by decide +kernel⟩
theorem vX9_434 : z_CV RX9 434 yX9_hurting cX9_hurting 4 (some .int) 2 := ⟨z_in (List.mem_append_right _ (List.mem_of_getElem? (i := 1516) (by decide +kernel))) rfl, wi_X9_hurting, wl_X9_hurting, nI_RX9, wc_X9_hurting, wd_X9_hurting, by decide⟩
theorem wi_X9_plainHurts : Cond.instanceMethod yX9_plainHurts ∈ z_all := z_in (List.mem_append_right _ (List.mem_of_getElem? (i := 1526) (by decide +kernel))) rfl
theorem wl_X9_plainHurts : Cond.selects RX9 yX9_plainHurts yX9_plainHurts ∈ z_all := z_in (List.mem_append_left _ (List.mem_of_getElem? (i := 96) (by decide +kernel))) rfl
theorem wd_X9_plainHurts : yX9_plainHurts.cls ≠ "java/lang/invoke/MethodHandle" ∧ yX9_plainHurts.cls ≠ "java/lang/invoke/VarHandle" ∧ (parseMethodDescriptor yX9_plainHurts.desc).map (fun d => d.parameters.length) = some 2 := ⟨by decide +kernel, by decide +kernel, by decide +kernel⟩
theorem vX9_437 : z_CV RX9 437 yX9_plainHurts cX9_plainHurts 3 (some .int) 2 := ⟨z_in (List.mem_append_right _ (List.mem_of_getElem? (i := 1524) (by decide +kernel))) rfl, wi_X9_plainHurts, wl_X9_plainHurts, nI_RX9, wc_X9_plainHurts, wd_X9_plainHurts, by decide⟩
theorem wi_X9_complimentHurts : Cond.instanceMethod yX9_complimentHurts ∈ z_all := z_in (List.mem_append_right _ (List.mem_of_getElem? (i := 1522) (by decide +kernel))) rfl
theorem wl_X9_complimentHurts : Cond.selects RX9 yX9_complimentHurts yX9_complimentHurts ∈ z_all := z_in (List.mem_append_left _ (List.mem_of_getElem? (i := 95) (by decide +kernel))) rfl
theorem wd_X9_complimentHurts : yX9_complimentHurts.cls ≠ "java/lang/invoke/MethodHandle" ∧ yX9_complimentHurts.cls ≠ "java/lang/invoke/VarHandle" ∧ (parseMethodDescriptor yX9_complimentHurts.desc).map (fun d => d.parameters.length) = some 2 := ⟨by decide +kernel, by decide +kernel, by decide +kernel⟩
theorem vX9_440 : z_CV RX9 440 yX9_complimentHurts cX9_complimentHurts 3 (some .int) 2 := ⟨z_in (List.mem_append_right _ (List.mem_of_getElem? (i := 1520) (by decide +kernel))) rfl, wi_X9_complimentHurts, wl_X9_complimentHurts, nI_RX9, wc_X9_complimentHurts, wd_X9_complimentHurts, by decide⟩
theorem wi_X9_staying : Cond.instanceMethod yX9_staying ∈ z_all := z_in (List.mem_append_right _ (List.mem_of_getElem? (i := 1506) (by decide +kernel))) rfl
theorem wl_X9_staying : Cond.selects RX9 yX9_staying yX9_staying ∈ z_all := z_in (List.mem_append_left _ (List.mem_of_getElem? (i := 91) (by decide +kernel))) rfl
theorem wd_X9_staying : yX9_staying.cls ≠ "java/lang/invoke/MethodHandle" ∧ yX9_staying.cls ≠ "java/lang/invoke/VarHandle" ∧ (parseMethodDescriptor yX9_staying.desc).map (fun d => d.parameters.length) = some 2 := ⟨by decide +kernel, by decide +kernel, by decide +kernel⟩
theorem vX9_443 : z_CV RX9 443 yX9_staying cX9_staying 4 (some .int) 2 := ⟨z_in (List.mem_append_right _ (List.mem_of_getElem? (i := 1504) (by decide +kernel))) rfl, wi_X9_staying, wl_X9_staying, nI_RX9, wc_X9_staying, wd_X9_staying, by decide⟩
theorem wi_X9_plainTells : Cond.instanceMethod yX9_plainTells ∈ z_all := z_in (List.mem_append_right _ (List.mem_of_getElem? (i := 1534) (by decide +kernel))) rfl
theorem wl_X9_plainTells : Cond.selects RX9 yX9_plainTells yX9_plainTells ∈ z_all := z_in (List.mem_append_left _ (List.mem_of_getElem? (i := 98) (by decide +kernel))) rfl
theorem wd_X9_plainTells : yX9_plainTells.cls ≠ "java/lang/invoke/MethodHandle" ∧ yX9_plainTells.cls ≠ "java/lang/invoke/VarHandle" ∧ (parseMethodDescriptor yX9_plainTells.desc).map (fun d => d.parameters.length) = some 2 := ⟨by decide +kernel, by decide +kernel, by decide +kernel⟩
theorem vX9_446 : z_CV RX9 446 yX9_plainTells cX9_plainTells 4 (some .int) 2 := ⟨z_in (List.mem_append_right _ (List.mem_of_getElem? (i := 1532) (by decide +kernel))) rfl, wi_X9_plainTells, wl_X9_plainTells, nI_RX9, wc_X9_plainTells, wd_X9_plainTells, by decide⟩
theorem wi_X9_isBody : Cond.instanceMethod yX9_isBody ∈ z_all := z_in (List.mem_append_right _ (List.mem_of_getElem? (i := 1483) (by decide +kernel))) rfl
theorem wl_X9_isBody : Cond.selects RX9 yX9_isBody yX9_isBody ∈ z_all := z_in (List.mem_append_left _ (List.mem_of_getElem? (i := 86) (by decide +kernel))) rfl
theorem wd_X9_isBody : yX9_isBody.cls ≠ "java/lang/invoke/MethodHandle" ∧ yX9_isBody.cls ≠ "java/lang/invoke/VarHandle" ∧ (parseMethodDescriptor yX9_isBody.desc).map (fun d => d.parameters.length) = some 1 := ⟨by decide +kernel, by decide +kernel, by decide +kernel⟩
theorem vX9_449 : z_CV RX9 449 yX9_isBody cX9_isBody 2 (some .boolean) 1 := ⟨z_in (List.mem_append_right _ (List.mem_of_getElem? (i := 1481) (by decide +kernel))) rfl, wi_X9_isBody, wl_X9_isBody, nI_RX9, wc_X9_isBody, wd_X9_isBody, by decide⟩
theorem wi_X9_telling : Cond.instanceMethod yX9_telling ∈ z_all := z_in (List.mem_append_right _ (List.mem_of_getElem? (i := 1530) (by decide +kernel))) rfl
theorem wl_X9_telling : Cond.selects RX9 yX9_telling yX9_telling ∈ z_all := z_in (List.mem_append_left _ (List.mem_of_getElem? (i := 97) (by decide +kernel))) rfl
theorem wd_X9_telling : yX9_telling.cls ≠ "java/lang/invoke/MethodHandle" ∧ yX9_telling.cls ≠ "java/lang/invoke/VarHandle" ∧ (parseMethodDescriptor yX9_telling.desc).map (fun d => d.parameters.length) = some 2 := ⟨by decide +kernel, by decide +kernel, by decide +kernel⟩
theorem vX9_452 : z_CV RX9 452 yX9_telling cX9_telling 3 (some .int) 2 := ⟨z_in (List.mem_append_right _ (List.mem_of_getElem? (i := 1528) (by decide +kernel))) rfl, wi_X9_telling, wl_X9_telling, nI_RX9, wc_X9_telling, wd_X9_telling, by decide⟩
theorem wi_X9_whyNoPlace : Cond.instanceMethod yX9_whyNoPlace ∈ z_all := z_in (List.mem_append_right _ (List.mem_of_getElem? (i := 1554) (by decide +kernel))) rfl
theorem wl_X9_whyNoPlace : Cond.selects RX9 yX9_whyNoPlace yX9_whyNoPlace ∈ z_all := z_in (List.mem_append_left _ (List.mem_of_getElem? (i := 99) (by decide +kernel))) rfl
theorem wd_X9_whyNoPlace : yX9_whyNoPlace.cls ≠ "java/lang/invoke/MethodHandle" ∧ yX9_whyNoPlace.cls ≠ "java/lang/invoke/VarHandle" ∧ (parseMethodDescriptor yX9_whyNoPlace.desc).map (fun d => d.parameters.length) = some 2 := ⟨by decide +kernel, by decide +kernel, by decide +kernel⟩
theorem vX9_455 : z_CV RX9 455 yX9_whyNoPlace cX9_whyNoPlace 3 (some .int) 2 := ⟨z_in (List.mem_append_right _ (List.mem_of_getElem? (i := 1552) (by decide +kernel))) rfl, wi_X9_whyNoPlace, wl_X9_whyNoPlace, nI_RX9, wc_X9_whyNoPlace, wd_X9_whyNoPlace, by decide⟩
theorem gX0_11 : z_GF RX0 11 0 0 := ⟨RX0, TX0, 6, rfl, by decide, uX0, Or.inl (z_in (List.mem_append_right _ (List.mem_of_getElem? (i := 56) (by decide +kernel))) rfl)⟩
theorem gX0_15 : z_GF RX0 15 0 1 := ⟨RX0, TX0, 6, rfl, by decide, uX0, Or.inl (z_in (List.mem_append_right _ (List.mem_of_getElem? (i := 57) (by decide +kernel))) rfl)⟩
theorem gX0_18 : z_GF RX0 18 0 2 := ⟨RX0, TX0, 6, rfl, by decide, uX0, Or.inl (z_in (List.mem_append_right _ (List.mem_of_getElem? (i := 58) (by decide +kernel))) rfl)⟩
theorem gX0_21 : z_GF RX0 21 0 3 := ⟨RX0, TX0, 6, rfl, by decide, uX0, Or.inl (z_in (List.mem_append_right _ (List.mem_of_getElem? (i := 59) (by decide +kernel))) rfl)⟩
theorem gX0_24 : z_GF RX0 24 0 5 := ⟨RX0, TX0, 6, rfl, by decide, uX0, Or.inl (z_in (List.mem_append_right _ (List.mem_of_getElem? (i := 62) (by decide +kernel))) rfl)⟩
theorem pX0_24 : z_PF RX0 24 0 5 .int := ⟨RX0, TX0, 6, tyX0, rfl, by decide, uX0, z_in (List.mem_append_right _ (List.mem_of_getElem? (i := 62) (by decide +kernel))) rfl, tyX0_ok, nmX0, rfl, by decide +kernel⟩
theorem gX0_28 : z_GF RX0 28 0 4 := ⟨RX0, TX0, 6, rfl, by decide, uX0, Or.inl (z_in (List.mem_append_right _ (List.mem_of_getElem? (i := 60) (by decide +kernel))) rfl)⟩
theorem pX0_28 : z_PF RX0 28 0 4 .int := ⟨RX0, TX0, 6, tyX0, rfl, by decide, uX0, z_in (List.mem_append_right _ (List.mem_of_getElem? (i := 60) (by decide +kernel))) rfl, tyX0_ok, nmX0, rfl, by decide +kernel⟩
theorem gX1_11 : z_GF RX1 11 1 0 := ⟨RX1, TX1, 7, rfl, by decide, uX1, Or.inl (z_in (List.mem_append_right _ (List.mem_of_getElem? (i := 214) (by decide +kernel))) rfl)⟩
theorem gX1_15 : z_GF RX1 15 1 1 := ⟨RX1, TX1, 7, rfl, by decide, uX1, Or.inl (z_in (List.mem_append_right _ (List.mem_of_getElem? (i := 215) (by decide +kernel))) rfl)⟩
theorem gX1_18 : z_GF RX1 18 1 2 := ⟨RX1, TX1, 7, rfl, by decide, uX1, Or.inl (z_in (List.mem_append_right _ (List.mem_of_getElem? (i := 216) (by decide +kernel))) rfl)⟩
theorem gX1_21 : z_GF RX1 21 1 3 := ⟨RX1, TX1, 7, rfl, by decide, uX1, Or.inl (z_in (List.mem_append_right _ (List.mem_of_getElem? (i := 217) (by decide +kernel))) rfl)⟩
theorem gX1_24 : z_GF RX1 24 1 4 := ⟨RX1, TX1, 7, rfl, by decide, uX1, Or.inl (z_in (List.mem_append_right _ (List.mem_of_getElem? (i := 218) (by decide +kernel))) rfl)⟩
theorem gX1_27 : z_GF RX1 27 1 5 := ⟨RX1, TX1, 7, rfl, by decide, uX1, Or.inl (z_in (List.mem_append_right _ (List.mem_of_getElem? (i := 219) (by decide +kernel))) rfl)⟩
theorem gX1_36 : z_GF RX1 36 1 6 := ⟨RX1, TX1, 7, rfl, by decide, uX1, Or.inl (z_in (List.mem_append_right _ (List.mem_of_getElem? (i := 220) (by decide +kernel))) rfl)⟩
theorem pX1_36 : z_PF RX1 36 1 6 .boolean := ⟨RX1, TX1, 7, tyX1, rfl, by decide, uX1, z_in (List.mem_append_right _ (List.mem_of_getElem? (i := 220) (by decide +kernel))) rfl, tyX1_ok, nmX1, rfl, by decide +kernel⟩
theorem gX2_11 : z_GF RX2 11 2 0 := ⟨RX2, TX2, 10, rfl, by decide, uX2, Or.inl (z_in (List.mem_append_right _ (List.mem_of_getElem? (i := 82) (by decide +kernel))) rfl)⟩
theorem gX2_15 : z_GF RX2 15 2 1 := ⟨RX2, TX2, 10, rfl, by decide, uX2, Or.inl (z_in (List.mem_append_right _ (List.mem_of_getElem? (i := 83) (by decide +kernel))) rfl)⟩
theorem gX2_18 : z_GF RX2 18 2 2 := ⟨RX2, TX2, 10, rfl, by decide, uX2, Or.inl (z_in (List.mem_append_right _ (List.mem_of_getElem? (i := 84) (by decide +kernel))) rfl)⟩
theorem gX2_21 : z_GF RX2 21 2 3 := ⟨RX2, TX2, 10, rfl, by decide, uX2, Or.inl (z_in (List.mem_append_right _ (List.mem_of_getElem? (i := 85) (by decide +kernel))) rfl)⟩
theorem gX2_24 : z_GF RX2 24 2 4 := ⟨RX2, TX2, 10, rfl, by decide, uX2, Or.inl (z_in (List.mem_append_right _ (List.mem_of_getElem? (i := 86) (by decide +kernel))) rfl)⟩
theorem gX2_27 : z_GF RX2 27 2 5 := ⟨RX2, TX2, 10, rfl, by decide, uX2, Or.inl (z_in (List.mem_append_right _ (List.mem_of_getElem? (i := 87) (by decide +kernel))) rfl)⟩
theorem pX2_27 : z_PF RX2 27 2 5 .int := ⟨RX2, TX2, 10, tyX2, rfl, by decide, uX2, z_in (List.mem_append_right _ (List.mem_of_getElem? (i := 87) (by decide +kernel))) rfl, tyX2_ok, nmX2, rfl, by decide +kernel⟩
theorem gX2_31 : z_GF RX2 31 2 8 := ⟨RX2, TX2, 10, rfl, by decide, uX2, Or.inl (z_in (List.mem_append_right _ (List.mem_of_getElem? (i := 91) (by decide +kernel))) rfl)⟩
theorem pX2_31 : z_PF RX2 31 2 8 .int := ⟨RX2, TX2, 10, tyX2, rfl, by decide, uX2, z_in (List.mem_append_right _ (List.mem_of_getElem? (i := 91) (by decide +kernel))) rfl, tyX2_ok, nmX2, rfl, by decide +kernel⟩
theorem gX2_34 : z_GF RX2 34 2 6 := ⟨RX2, TX2, 10, rfl, by decide, uX2, Or.inl (z_in (List.mem_append_right _ (List.mem_of_getElem? (i := 89) (by decide +kernel))) rfl)⟩
theorem pX2_34 : z_PF RX2 34 2 6 .int := ⟨RX2, TX2, 10, tyX2, rfl, by decide, uX2, z_in (List.mem_append_right _ (List.mem_of_getElem? (i := 89) (by decide +kernel))) rfl, tyX2_ok, nmX2, rfl, by decide +kernel⟩
theorem gX2_37 : z_GF RX2 37 2 9 := ⟨RX2, TX2, 10, rfl, by decide, uX2, Or.inl (z_in (List.mem_append_right _ (List.mem_of_getElem? (i := 92) (by decide +kernel))) rfl)⟩
theorem pX2_37 : z_PF RX2 37 2 9 .boolean := ⟨RX2, TX2, 10, tyX2, rfl, by decide, uX2, z_in (List.mem_append_right _ (List.mem_of_getElem? (i := 92) (by decide +kernel))) rfl, tyX2_ok, nmX2, rfl, by decide +kernel⟩
theorem gX2_44 : z_GF RX2 44 2 7 := ⟨RX2, TX2, 10, rfl, by decide, uX2, Or.inl (z_in (List.mem_append_right _ (List.mem_of_getElem? (i := 90) (by decide +kernel))) rfl)⟩
theorem pX2_44 : z_PF RX2 44 2 7 .int := ⟨RX2, TX2, 10, tyX2, rfl, by decide, uX2, z_in (List.mem_append_right _ (List.mem_of_getElem? (i := 90) (by decide +kernel))) rfl, tyX2_ok, nmX2, rfl, by decide +kernel⟩
theorem gX3_11 : z_GF RX3 11 3 0 := ⟨RX3, TX3, 6, rfl, by decide, uX3, Or.inl (z_in (List.mem_append_right _ (List.mem_of_getElem? (i := 242) (by decide +kernel))) rfl)⟩
theorem gX3_15 : z_GF RX3 15 3 1 := ⟨RX3, TX3, 6, rfl, by decide, uX3, Or.inl (z_in (List.mem_append_right _ (List.mem_of_getElem? (i := 243) (by decide +kernel))) rfl)⟩
theorem gX3_18 : z_GF RX3 18 3 2 := ⟨RX3, TX3, 6, rfl, by decide, uX3, Or.inl (z_in (List.mem_append_right _ (List.mem_of_getElem? (i := 244) (by decide +kernel))) rfl)⟩
theorem pX3_18 : z_PF RX3 18 3 2 .int := ⟨RX3, TX3, 6, tyX3, rfl, by decide, uX3, z_in (List.mem_append_right _ (List.mem_of_getElem? (i := 244) (by decide +kernel))) rfl, tyX3_ok, nmX3, rfl, by decide +kernel⟩
theorem tX3_22 : Cond.fieldLink RX3 22 "TalkStrainer$Leaves" "ABOVE" "[I" ∈ z_all := z_in (List.mem_append_right _ (List.mem_of_getElem? (i := 806) (by decide +kernel))) rfl
theorem gX3_25 : z_GF RX3 25 3 3 := ⟨RX3, TX3, 6, rfl, by decide, uX3, Or.inl (z_in (List.mem_append_right _ (List.mem_of_getElem? (i := 246) (by decide +kernel))) rfl)⟩
theorem pX3_25 : z_PF RX3 25 3 3 .int := ⟨RX3, TX3, 6, tyX3, rfl, by decide, uX3, z_in (List.mem_append_right _ (List.mem_of_getElem? (i := 246) (by decide +kernel))) rfl, tyX3_ok, nmX3, rfl, by decide +kernel⟩
theorem gX3_28 : z_GF RX3 28 3 4 := ⟨RX3, TX3, 6, rfl, by decide, uX3, Or.inl (z_in (List.mem_append_right _ (List.mem_of_getElem? (i := 248) (by decide +kernel))) rfl)⟩
theorem pX3_28 : z_PF RX3 28 3 4 .int := ⟨RX3, TX3, 6, tyX3, rfl, by decide, uX3, z_in (List.mem_append_right _ (List.mem_of_getElem? (i := 248) (by decide +kernel))) rfl, tyX3_ok, nmX3, rfl, by decide +kernel⟩
theorem gX3_35 : z_GF RX3 35 3 5 := ⟨RX3, TX3, 6, rfl, by decide, uX3, Or.inl (z_in (List.mem_append_right _ (List.mem_of_getElem? (i := 249) (by decide +kernel))) rfl)⟩
theorem pX3_35 : z_PF RX3 35 3 5 .int := ⟨RX3, TX3, 6, tyX3, rfl, by decide, uX3, z_in (List.mem_append_right _ (List.mem_of_getElem? (i := 249) (by decide +kernel))) rfl, tyX3_ok, nmX3, rfl, by decide +kernel⟩
theorem tX3_42 : Cond.fieldLink RX3 42 "TalkStrainer$Leaves" "OWN" "[I" ∈ z_all := z_in (List.mem_append_right _ (List.mem_of_getElem? (i := 804) (by decide +kernel))) rfl
theorem gX4_100 : z_GF RX4 100 6 6 := ⟨RX6, TX6, 7, rfl, by decide, uX6, Or.inr ⟨"TalkStrainer", z_inN (List.mem_append_right _ (List.mem_of_getElem? (i := 155) (by decide +kernel))) rfl⟩⟩
theorem gX4_111 : z_GF RX4 111 6 2 := ⟨RX6, TX6, 7, rfl, by decide, uX6, Or.inr ⟨"TalkStrainer", z_inN (List.mem_append_right _ (List.mem_of_getElem? (i := 146) (by decide +kernel))) rfl⟩⟩
theorem gX4_114 : z_GF RX4 114 6 5 := ⟨RX6, TX6, 7, rfl, by decide, uX6, Or.inr ⟨"TalkStrainer", z_inN (List.mem_append_right _ (List.mem_of_getElem? (i := 152) (by decide +kernel))) rfl⟩⟩
theorem gX4_15 : z_GF RX4 15 4 1 := ⟨RX4, TX4, 9, rfl, by decide, uX4, Or.inl (z_in (List.mem_append_right _ (List.mem_of_getElem? (i := 180) (by decide +kernel))) rfl)⟩
theorem gX4_19 : z_GF RX4 19 4 2 := ⟨RX4, TX4, 9, rfl, by decide, uX4, Or.inl (z_in (List.mem_append_right _ (List.mem_of_getElem? (i := 181) (by decide +kernel))) rfl)⟩
theorem gX4_23 : z_GF RX4 23 4 3 := ⟨RX4, TX4, 9, rfl, by decide, uX4, Or.inl (z_in (List.mem_append_right _ (List.mem_of_getElem? (i := 182) (by decide +kernel))) rfl)⟩
theorem gX4_26 : z_GF RX4 26 4 4 := ⟨RX4, TX4, 9, rfl, by decide, uX4, Or.inl (z_in (List.mem_append_right _ (List.mem_of_getElem? (i := 183) (by decide +kernel))) rfl)⟩
theorem gX4_31 : z_GF RX4 31 4 5 := ⟨RX4, TX4, 9, rfl, by decide, uX4, Or.inl (z_in (List.mem_append_right _ (List.mem_of_getElem? (i := 184) (by decide +kernel))) rfl)⟩
theorem gX4_36 : z_GF RX4 36 4 6 := ⟨RX4, TX4, 9, rfl, by decide, uX4, Or.inl (z_in (List.mem_append_right _ (List.mem_of_getElem? (i := 185) (by decide +kernel))) rfl)⟩
theorem gX4_39 : z_GF RX4 39 4 7 := ⟨RX4, TX4, 9, rfl, by decide, uX4, Or.inl (z_in (List.mem_append_right _ (List.mem_of_getElem? (i := 186) (by decide +kernel))) rfl)⟩
theorem gX4_42 : z_GF RX4 42 4 8 := ⟨RX4, TX4, 9, rfl, by decide, uX4, Or.inl (z_in (List.mem_append_right _ (List.mem_of_getElem? (i := 187) (by decide +kernel))) rfl)⟩
theorem gX4_65 : z_GF RX4 65 7 1 := ⟨RX7, TX7, 4, rfl, by decide, uX7, Or.inr ⟨"TalkStrainer", z_inN (List.mem_append_right _ (List.mem_of_getElem? (i := 32) (by decide +kernel))) rfl⟩⟩
theorem gX4_9 : z_GF RX4 9 4 0 := ⟨RX4, TX4, 9, rfl, by decide, uX4, Or.inl (z_in (List.mem_append_right _ (List.mem_of_getElem? (i := 179) (by decide +kernel))) rfl)⟩
theorem gX5_15 : z_GF RX5 15 5 1 := ⟨RX5, TX5, 4, rfl, by decide, uX5, Or.inl (z_in (List.mem_append_right _ (List.mem_of_getElem? (i := 123) (by decide +kernel))) rfl)⟩
theorem gX5_18 : z_GF RX5 18 5 2 := ⟨RX5, TX5, 4, rfl, by decide, uX5, Or.inl (z_in (List.mem_append_right _ (List.mem_of_getElem? (i := 124) (by decide +kernel))) rfl)⟩
theorem gX5_23 : z_GF RX5 23 5 3 := ⟨RX5, TX5, 4, rfl, by decide, uX5, Or.inl (z_in (List.mem_append_right _ (List.mem_of_getElem? (i := 125) (by decide +kernel))) rfl)⟩
theorem gX5_9 : z_GF RX5 9 5 0 := ⟨RX5, TX5, 4, rfl, by decide, uX5, Or.inl (z_in (List.mem_append_right _ (List.mem_of_getElem? (i := 122) (by decide +kernel))) rfl)⟩
theorem gX6_15 : z_GF RX6 15 6 1 := ⟨RX6, TX6, 7, rfl, by decide, uX6, Or.inl (z_in (List.mem_append_right _ (List.mem_of_getElem? (i := 143) (by decide +kernel))) rfl)⟩
theorem gX6_19 : z_GF RX6 19 6 2 := ⟨RX6, TX6, 7, rfl, by decide, uX6, Or.inl (z_in (List.mem_append_right _ (List.mem_of_getElem? (i := 144) (by decide +kernel))) rfl)⟩
theorem gX6_23 : z_GF RX6 23 6 3 := ⟨RX6, TX6, 7, rfl, by decide, uX6, Or.inl (z_in (List.mem_append_right _ (List.mem_of_getElem? (i := 147) (by decide +kernel))) rfl)⟩
theorem gX6_26 : z_GF RX6 26 6 4 := ⟨RX6, TX6, 7, rfl, by decide, uX6, Or.inl (z_in (List.mem_append_right _ (List.mem_of_getElem? (i := 149) (by decide +kernel))) rfl)⟩
theorem gX6_45 : z_GF RX6 45 6 5 := ⟨RX6, TX6, 7, rfl, by decide, uX6, Or.inl (z_in (List.mem_append_right _ (List.mem_of_getElem? (i := 150) (by decide +kernel))) rfl)⟩
theorem pX6_45 : z_PF RX6 45 6 5 .int := ⟨RX6, TX6, 7, tyX6, rfl, by decide, uX6, z_in (List.mem_append_right _ (List.mem_of_getElem? (i := 150) (by decide +kernel))) rfl, tyX6_ok, nmX6, rfl, by decide +kernel⟩
theorem gX6_49 : z_GF RX6 49 6 6 := ⟨RX6, TX6, 7, rfl, by decide, uX6, Or.inl (z_in (List.mem_append_right _ (List.mem_of_getElem? (i := 153) (by decide +kernel))) rfl)⟩
theorem pX6_49 : z_PF RX6 49 6 6 .int := ⟨RX6, TX6, 7, tyX6, rfl, by decide, uX6, z_in (List.mem_append_right _ (List.mem_of_getElem? (i := 153) (by decide +kernel))) rfl, tyX6_ok, nmX6, rfl, by decide +kernel⟩
theorem gX6_76 : z_GF RX6 76 7 1 := ⟨RX7, TX7, 4, rfl, by decide, uX7, Or.inr ⟨"TalkStrainer", z_inN (List.mem_append_right _ (List.mem_of_getElem? (i := 33) (by decide +kernel))) rfl⟩⟩
theorem gX6_79 : z_GF RX6 79 7 3 := ⟨RX7, TX7, 4, rfl, by decide, uX7, Or.inr ⟨"TalkStrainer", z_inN (List.mem_append_right _ (List.mem_of_getElem? (i := 38) (by decide +kernel))) rfl⟩⟩
theorem gX6_9 : z_GF RX6 9 6 0 := ⟨RX6, TX6, 7, rfl, by decide, uX6, Or.inl (z_in (List.mem_append_right _ (List.mem_of_getElem? (i := 142) (by decide +kernel))) rfl)⟩
theorem gX7_13 : z_GF RX7 13 7 0 := ⟨RX7, TX7, 4, rfl, by decide, uX7, Or.inl (z_in (List.mem_append_right _ (List.mem_of_getElem? (i := 30) (by decide +kernel))) rfl)⟩
theorem gX7_16 : z_GF RX7 16 7 1 := ⟨RX7, TX7, 4, rfl, by decide, uX7, Or.inl (z_in (List.mem_append_right _ (List.mem_of_getElem? (i := 31) (by decide +kernel))) rfl)⟩
theorem pX7_16 : z_PF RX7 16 7 1 .int := ⟨RX7, TX7, 4, tyX7, rfl, by decide, uX7, z_in (List.mem_append_right _ (List.mem_of_getElem? (i := 31) (by decide +kernel))) rfl, tyX7_ok, nmX7, rfl, by decide +kernel⟩
theorem gX7_24 : z_GF RX7 24 7 2 := ⟨RX7, TX7, 4, rfl, by decide, uX7, Or.inl (z_in (List.mem_append_right _ (List.mem_of_getElem? (i := 35) (by decide +kernel))) rfl)⟩
theorem pX7_24 : z_PF RX7 24 7 2 .int := ⟨RX7, TX7, 4, tyX7, rfl, by decide, uX7, z_in (List.mem_append_right _ (List.mem_of_getElem? (i := 35) (by decide +kernel))) rfl, tyX7_ok, nmX7, rfl, by decide +kernel⟩
theorem gX7_27 : z_GF RX7 27 7 3 := ⟨RX7, TX7, 4, rfl, by decide, uX7, Or.inl (z_in (List.mem_append_right _ (List.mem_of_getElem? (i := 37) (by decide +kernel))) rfl)⟩
theorem pX7_27 : z_PF RX7 27 7 3 .int := ⟨RX7, TX7, 4, tyX7, rfl, by decide, uX7, z_in (List.mem_append_right _ (List.mem_of_getElem? (i := 37) (by decide +kernel))) rfl, tyX7_ok, nmX7, rfl, by decide +kernel⟩
theorem tX7_30 : Cond.fieldLink RX7 30 "TalkStrainer$Stock" "GREATEST" "[I" ∈ z_all := z_in (List.mem_append_right _ (List.mem_of_getElem? (i := 302) (by decide +kernel))) rfl
theorem gX8_10 : z_GF RX8 10 8 0 := ⟨RX8, TX8, 10, rfl, by decide, uX8, Or.inl (z_in (List.mem_append_right _ (List.mem_of_getElem? (i := 263) (by decide +kernel))) rfl)⟩
theorem gX8_135 : z_GF RX8 135 7 1 := ⟨RX7, TX7, 4, rfl, by decide, uX7, Or.inr ⟨"TalkStrainer", z_inN (List.mem_append_right _ (List.mem_of_getElem? (i := 34) (by decide +kernel))) rfl⟩⟩
theorem gX8_153 : z_GF RX8 153 6 5 := ⟨RX6, TX6, 7, rfl, by decide, uX6, Or.inr ⟨"TalkStrainer", z_inN (List.mem_append_right _ (List.mem_of_getElem? (i := 151) (by decide +kernel))) rfl⟩⟩
theorem gX8_156 : z_GF RX8 156 6 6 := ⟨RX6, TX6, 7, rfl, by decide, uX6, Or.inr ⟨"TalkStrainer", z_inN (List.mem_append_right _ (List.mem_of_getElem? (i := 154) (by decide +kernel))) rfl⟩⟩
theorem gX8_159 : z_GF RX8 159 6 2 := ⟨RX6, TX6, 7, rfl, by decide, uX6, Or.inr ⟨"TalkStrainer", z_inN (List.mem_append_right _ (List.mem_of_getElem? (i := 145) (by decide +kernel))) rfl⟩⟩
theorem gX8_170 : z_GF RX8 170 6 3 := ⟨RX6, TX6, 7, rfl, by decide, uX6, Or.inr ⟨"TalkStrainer", z_inN (List.mem_append_right _ (List.mem_of_getElem? (i := 148) (by decide +kernel))) rfl⟩⟩
theorem gX8_188 : z_GF RX8 188 7 2 := ⟨RX7, TX7, 4, rfl, by decide, uX7, Or.inr ⟨"TalkStrainer", z_inN (List.mem_append_right _ (List.mem_of_getElem? (i := 36) (by decide +kernel))) rfl⟩⟩
theorem gX8_19 : z_GF RX8 19 8 1 := ⟨RX8, TX8, 10, rfl, by decide, uX8, Or.inl (z_in (List.mem_append_right _ (List.mem_of_getElem? (i := 264) (by decide +kernel))) rfl)⟩
theorem gX8_26 : z_GF RX8 26 8 2 := ⟨RX8, TX8, 10, rfl, by decide, uX8, Or.inl (z_in (List.mem_append_right _ (List.mem_of_getElem? (i := 265) (by decide +kernel))) rfl)⟩
theorem gX8_287 : z_GF RX8 287 3 2 := ⟨RX3, TX3, 6, rfl, by decide, uX3, Or.inr ⟨"TalkStrainer", z_inN (List.mem_append_right _ (List.mem_of_getElem? (i := 245) (by decide +kernel))) rfl⟩⟩
theorem gX8_329 : z_GF RX8 329 7 3 := ⟨RX7, TX7, 4, rfl, by decide, uX7, Or.inr ⟨"TalkStrainer", z_inN (List.mem_append_right _ (List.mem_of_getElem? (i := 39) (by decide +kernel))) rfl⟩⟩
theorem gX8_33 : z_GF RX8 33 8 3 := ⟨RX8, TX8, 10, rfl, by decide, uX8, Or.inl (z_in (List.mem_append_right _ (List.mem_of_getElem? (i := 266) (by decide +kernel))) rfl)⟩
theorem gX8_332 : z_GF RX8 332 2 5 := ⟨RX2, TX2, 10, rfl, by decide, uX2, Or.inr ⟨"TalkStrainer", z_inN (List.mem_append_right _ (List.mem_of_getElem? (i := 88) (by decide +kernel))) rfl⟩⟩
theorem gX8_335 : z_GF RX8 335 0 4 := ⟨RX0, TX0, 6, rfl, by decide, uX0, Or.inr ⟨"TalkStrainer", z_inN (List.mem_append_right _ (List.mem_of_getElem? (i := 61) (by decide +kernel))) rfl⟩⟩
theorem gX8_338 : z_GF RX8 338 3 3 := ⟨RX3, TX3, 6, rfl, by decide, uX3, Or.inr ⟨"TalkStrainer", z_inN (List.mem_append_right _ (List.mem_of_getElem? (i := 247) (by decide +kernel))) rfl⟩⟩
theorem gX8_42 : z_GF RX8 42 8 4 := ⟨RX8, TX8, 10, rfl, by decide, uX8, Or.inl (z_in (List.mem_append_right _ (List.mem_of_getElem? (i := 267) (by decide +kernel))) rfl)⟩
theorem gX8_51 : z_GF RX8 51 8 5 := ⟨RX8, TX8, 10, rfl, by decide, uX8, Or.inl (z_in (List.mem_append_right _ (List.mem_of_getElem? (i := 268) (by decide +kernel))) rfl)⟩
theorem gX8_58 : z_GF RX8 58 8 6 := ⟨RX8, TX8, 10, rfl, by decide, uX8, Or.inl (z_in (List.mem_append_right _ (List.mem_of_getElem? (i := 269) (by decide +kernel))) rfl)⟩
theorem gX8_65 : z_GF RX8 65 8 7 := ⟨RX8, TX8, 10, rfl, by decide, uX8, Or.inl (z_in (List.mem_append_right _ (List.mem_of_getElem? (i := 270) (by decide +kernel))) rfl)⟩
theorem gX8_69 : z_GF RX8 69 8 8 := ⟨RX8, TX8, 10, rfl, by decide, uX8, Or.inl (z_in (List.mem_append_right _ (List.mem_of_getElem? (i := 271) (by decide +kernel))) rfl)⟩
theorem gX8_73 : z_GF RX8 73 8 9 := ⟨RX8, TX8, 10, rfl, by decide, uX8, Or.inl (z_in (List.mem_append_right _ (List.mem_of_getElem? (i := 272) (by decide +kernel))) rfl)⟩
theorem gX9_101 : z_GF RX9 101 9 45 := ⟨RX9, TX9, 62, rfl, by decide, uX9, Or.inl (z_in (List.mem_append_right _ (List.mem_of_getElem? (i := 946) (by decide +kernel))) rfl)⟩
theorem gX9_104 : z_GF RX9 104 9 47 := ⟨RX9, TX9, 62, rfl, by decide, uX9, Or.inl (z_in (List.mem_append_right _ (List.mem_of_getElem? (i := 948) (by decide +kernel))) rfl)⟩
theorem gX9_107 : z_GF RX9 107 9 48 := ⟨RX9, TX9, 62, rfl, by decide, uX9, Or.inl (z_in (List.mem_append_right _ (List.mem_of_getElem? (i := 949) (by decide +kernel))) rfl)⟩
theorem gX9_110 : z_GF RX9 110 9 51 := ⟨RX9, TX9, 62, rfl, by decide, uX9, Or.inl (z_in (List.mem_append_right _ (List.mem_of_getElem? (i := 952) (by decide +kernel))) rfl)⟩
theorem gX9_113 : z_GF RX9 113 9 52 := ⟨RX9, TX9, 62, rfl, by decide, uX9, Or.inl (z_in (List.mem_append_right _ (List.mem_of_getElem? (i := 953) (by decide +kernel))) rfl)⟩
theorem gX9_116 : z_GF RX9 116 9 53 := ⟨RX9, TX9, 62, rfl, by decide, uX9, Or.inl (z_in (List.mem_append_right _ (List.mem_of_getElem? (i := 954) (by decide +kernel))) rfl)⟩
theorem gX9_119 : z_GF RX9 119 9 55 := ⟨RX9, TX9, 62, rfl, by decide, uX9, Or.inl (z_in (List.mem_append_right _ (List.mem_of_getElem? (i := 956) (by decide +kernel))) rfl)⟩
theorem gX9_122 : z_GF RX9 122 9 57 := ⟨RX9, TX9, 62, rfl, by decide, uX9, Or.inl (z_in (List.mem_append_right _ (List.mem_of_getElem? (i := 958) (by decide +kernel))) rfl)⟩
theorem gX9_125 : z_GF RX9 125 9 58 := ⟨RX9, TX9, 62, rfl, by decide, uX9, Or.inl (z_in (List.mem_append_right _ (List.mem_of_getElem? (i := 959) (by decide +kernel))) rfl)⟩
theorem gX9_128 : z_GF RX9 128 9 59 := ⟨RX9, TX9, 62, rfl, by decide, uX9, Or.inl (z_in (List.mem_append_right _ (List.mem_of_getElem? (i := 960) (by decide +kernel))) rfl)⟩
theorem gX9_131 : z_GF RX9 131 9 60 := ⟨RX9, TX9, 62, rfl, by decide, uX9, Or.inl (z_in (List.mem_append_right _ (List.mem_of_getElem? (i := 961) (by decide +kernel))) rfl)⟩
theorem gX9_134 : z_GF RX9 134 9 61 := ⟨RX9, TX9, 62, rfl, by decide, uX9, Or.inl (z_in (List.mem_append_right _ (List.mem_of_getElem? (i := 962) (by decide +kernel))) rfl)⟩
theorem gX9_140 : z_GF RX9 140 9 1 := ⟨RX9, TX9, 62, rfl, by decide, uX9, Or.inl (z_in (List.mem_append_right _ (List.mem_of_getElem? (i := 902) (by decide +kernel))) rfl)⟩
theorem pX9_140 : z_PF RX9 140 9 1 .int := ⟨RX9, TX9, 62, tyX9, rfl, by decide, uX9, z_in (List.mem_append_right _ (List.mem_of_getElem? (i := 902) (by decide +kernel))) rfl, tyX9_ok, nmX9, rfl, by decide +kernel⟩
theorem gX9_147 : z_GF RX9 147 9 7 := ⟨RX9, TX9, 62, rfl, by decide, uX9, Or.inl (z_in (List.mem_append_right _ (List.mem_of_getElem? (i := 908) (by decide +kernel))) rfl)⟩
theorem pX9_147 : z_PF RX9 147 9 7 .int := ⟨RX9, TX9, 62, tyX9, rfl, by decide, uX9, z_in (List.mem_append_right _ (List.mem_of_getElem? (i := 908) (by decide +kernel))) rfl, tyX9_ok, nmX9, rfl, by decide +kernel⟩
theorem gX9_15 : z_GF RX9 15 9 3 := ⟨RX9, TX9, 62, rfl, by decide, uX9, Or.inl (z_in (List.mem_append_right _ (List.mem_of_getElem? (i := 904) (by decide +kernel))) rfl)⟩
theorem gX9_160 : z_GF RX9 160 9 11 := ⟨RX9, TX9, 62, rfl, by decide, uX9, Or.inl (z_in (List.mem_append_right _ (List.mem_of_getElem? (i := 912) (by decide +kernel))) rfl)⟩
theorem pX9_160 : z_PF RX9 160 9 11 .int := ⟨RX9, TX9, 62, tyX9, rfl, by decide, uX9, z_in (List.mem_append_right _ (List.mem_of_getElem? (i := 912) (by decide +kernel))) rfl, tyX9_ok, nmX9, rfl, by decide +kernel⟩
theorem gX9_167 : z_GF RX9 167 9 15 := ⟨RX9, TX9, 62, rfl, by decide, uX9, Or.inl (z_in (List.mem_append_right _ (List.mem_of_getElem? (i := 916) (by decide +kernel))) rfl)⟩
theorem pX9_167 : z_PF RX9 167 9 15 .int := ⟨RX9, TX9, 62, tyX9, rfl, by decide, uX9, z_in (List.mem_append_right _ (List.mem_of_getElem? (i := 916) (by decide +kernel))) rfl, tyX9_ok, nmX9, rfl, by decide +kernel⟩
theorem gX9_170 : z_GF RX9 170 9 14 := ⟨RX9, TX9, 62, rfl, by decide, uX9, Or.inl (z_in (List.mem_append_right _ (List.mem_of_getElem? (i := 915) (by decide +kernel))) rfl)⟩
theorem pX9_170 : z_PF RX9 170 9 14 .int := ⟨RX9, TX9, 62, tyX9, rfl, by decide, uX9, z_in (List.mem_append_right _ (List.mem_of_getElem? (i := 915) (by decide +kernel))) rfl, tyX9_ok, nmX9, rfl, by decide +kernel⟩
theorem gX9_18 : z_GF RX9 18 9 4 := ⟨RX9, TX9, 62, rfl, by decide, uX9, Or.inl (z_in (List.mem_append_right _ (List.mem_of_getElem? (i := 905) (by decide +kernel))) rfl)⟩
theorem gX9_193 : z_GF RX9 193 9 21 := ⟨RX9, TX9, 62, rfl, by decide, uX9, Or.inl (z_in (List.mem_append_right _ (List.mem_of_getElem? (i := 922) (by decide +kernel))) rfl)⟩
theorem pX9_193 : z_PF RX9 193 9 21 .int := ⟨RX9, TX9, 62, tyX9, rfl, by decide, uX9, z_in (List.mem_append_right _ (List.mem_of_getElem? (i := 922) (by decide +kernel))) rfl, tyX9_ok, nmX9, rfl, by decide +kernel⟩
theorem gX9_196 : z_GF RX9 196 9 22 := ⟨RX9, TX9, 62, rfl, by decide, uX9, Or.inl (z_in (List.mem_append_right _ (List.mem_of_getElem? (i := 923) (by decide +kernel))) rfl)⟩
theorem pX9_196 : z_PF RX9 196 9 22 .int := ⟨RX9, TX9, 62, tyX9, rfl, by decide, uX9, z_in (List.mem_append_right _ (List.mem_of_getElem? (i := 923) (by decide +kernel))) rfl, tyX9_ok, nmX9, rfl, by decide +kernel⟩
theorem gX9_199 : z_GF RX9 199 9 23 := ⟨RX9, TX9, 62, rfl, by decide, uX9, Or.inl (z_in (List.mem_append_right _ (List.mem_of_getElem? (i := 924) (by decide +kernel))) rfl)⟩
theorem pX9_199 : z_PF RX9 199 9 23 .int := ⟨RX9, TX9, 62, tyX9, rfl, by decide, uX9, z_in (List.mem_append_right _ (List.mem_of_getElem? (i := 924) (by decide +kernel))) rfl, tyX9_ok, nmX9, rfl, by decide +kernel⟩
theorem gX9_202 : z_GF RX9 202 9 25 := ⟨RX9, TX9, 62, rfl, by decide, uX9, Or.inl (z_in (List.mem_append_right _ (List.mem_of_getElem? (i := 926) (by decide +kernel))) rfl)⟩
theorem pX9_202 : z_PF RX9 202 9 25 .int := ⟨RX9, TX9, 62, tyX9, rfl, by decide, uX9, z_in (List.mem_append_right _ (List.mem_of_getElem? (i := 926) (by decide +kernel))) rfl, tyX9_ok, nmX9, rfl, by decide +kernel⟩
theorem gX9_205 : z_GF RX9 205 9 24 := ⟨RX9, TX9, 62, rfl, by decide, uX9, Or.inl (z_in (List.mem_append_right _ (List.mem_of_getElem? (i := 925) (by decide +kernel))) rfl)⟩
theorem pX9_205 : z_PF RX9 205 9 24 .int := ⟨RX9, TX9, 62, tyX9, rfl, by decide, uX9, z_in (List.mem_append_right _ (List.mem_of_getElem? (i := 925) (by decide +kernel))) rfl, tyX9_ok, nmX9, rfl, by decide +kernel⟩
theorem gX9_21 : z_GF RX9 21 9 5 := ⟨RX9, TX9, 62, rfl, by decide, uX9, Or.inl (z_in (List.mem_append_right _ (List.mem_of_getElem? (i := 906) (by decide +kernel))) rfl)⟩
theorem gX9_24 : z_GF RX9 24 9 6 := ⟨RX9, TX9, 62, rfl, by decide, uX9, Or.inl (z_in (List.mem_append_right _ (List.mem_of_getElem? (i := 907) (by decide +kernel))) rfl)⟩
theorem gX9_260 : z_GF RX9 260 9 33 := ⟨RX9, TX9, 62, rfl, by decide, uX9, Or.inl (z_in (List.mem_append_right _ (List.mem_of_getElem? (i := 934) (by decide +kernel))) rfl)⟩
theorem pX9_260 : z_PF RX9 260 9 33 .boolean := ⟨RX9, TX9, 62, tyX9, rfl, by decide, uX9, z_in (List.mem_append_right _ (List.mem_of_getElem? (i := 934) (by decide +kernel))) rfl, tyX9_ok, nmX9, rfl, by decide +kernel⟩
theorem gX9_27 : z_GF RX9 27 9 8 := ⟨RX9, TX9, 62, rfl, by decide, uX9, Or.inl (z_in (List.mem_append_right _ (List.mem_of_getElem? (i := 909) (by decide +kernel))) rfl)⟩
theorem gX9_274 : z_GF RX9 274 9 35 := ⟨RX9, TX9, 62, rfl, by decide, uX9, Or.inl (z_in (List.mem_append_right _ (List.mem_of_getElem? (i := 936) (by decide +kernel))) rfl)⟩
theorem pX9_274 : z_PF RX9 274 9 35 .int := ⟨RX9, TX9, 62, tyX9, rfl, by decide, uX9, z_in (List.mem_append_right _ (List.mem_of_getElem? (i := 936) (by decide +kernel))) rfl, tyX9_ok, nmX9, rfl, by decide +kernel⟩
theorem gX9_280 : z_GF RX9 280 9 37 := ⟨RX9, TX9, 62, rfl, by decide, uX9, Or.inl (z_in (List.mem_append_right _ (List.mem_of_getElem? (i := 938) (by decide +kernel))) rfl)⟩
theorem pX9_280 : z_PF RX9 280 9 37 .int := ⟨RX9, TX9, 62, tyX9, rfl, by decide, uX9, z_in (List.mem_append_right _ (List.mem_of_getElem? (i := 938) (by decide +kernel))) rfl, tyX9_ok, nmX9, rfl, by decide +kernel⟩
theorem gX9_283 : z_GF RX9 283 9 39 := ⟨RX9, TX9, 62, rfl, by decide, uX9, Or.inl (z_in (List.mem_append_right _ (List.mem_of_getElem? (i := 940) (by decide +kernel))) rfl)⟩
theorem pX9_283 : z_PF RX9 283 9 39 .int := ⟨RX9, TX9, 62, tyX9, rfl, by decide, uX9, z_in (List.mem_append_right _ (List.mem_of_getElem? (i := 940) (by decide +kernel))) rfl, tyX9_ok, nmX9, rfl, by decide +kernel⟩
theorem gX9_30 : z_GF RX9 30 9 9 := ⟨RX9, TX9, 62, rfl, by decide, uX9, Or.inl (z_in (List.mem_append_right _ (List.mem_of_getElem? (i := 910) (by decide +kernel))) rfl)⟩
theorem gX9_315 : z_GF RX9 315 9 43 := ⟨RX9, TX9, 62, rfl, by decide, uX9, Or.inl (z_in (List.mem_append_right _ (List.mem_of_getElem? (i := 944) (by decide +kernel))) rfl)⟩
theorem pX9_315 : z_PF RX9 315 9 43 .int := ⟨RX9, TX9, 62, tyX9, rfl, by decide, uX9, z_in (List.mem_append_right _ (List.mem_of_getElem? (i := 944) (by decide +kernel))) rfl, tyX9_ok, nmX9, rfl, by decide +kernel⟩
theorem gX9_318 : z_GF RX9 318 9 41 := ⟨RX9, TX9, 62, rfl, by decide, uX9, Or.inl (z_in (List.mem_append_right _ (List.mem_of_getElem? (i := 942) (by decide +kernel))) rfl)⟩
theorem pX9_318 : z_PF RX9 318 9 41 .int := ⟨RX9, TX9, 62, tyX9, rfl, by decide, uX9, z_in (List.mem_append_right _ (List.mem_of_getElem? (i := 942) (by decide +kernel))) rfl, tyX9_ok, nmX9, rfl, by decide +kernel⟩
theorem gX9_33 : z_GF RX9 33 9 10 := ⟨RX9, TX9, 62, rfl, by decide, uX9, Or.inl (z_in (List.mem_append_right _ (List.mem_of_getElem? (i := 911) (by decide +kernel))) rfl)⟩
theorem gX9_345 : z_GF RX9 345 9 46 := ⟨RX9, TX9, 62, rfl, by decide, uX9, Or.inl (z_in (List.mem_append_right _ (List.mem_of_getElem? (i := 947) (by decide +kernel))) rfl)⟩
theorem pX9_345 : z_PF RX9 345 9 46 .int := ⟨RX9, TX9, 62, tyX9, rfl, by decide, uX9, z_in (List.mem_append_right _ (List.mem_of_getElem? (i := 947) (by decide +kernel))) rfl, tyX9_ok, nmX9, rfl, by decide +kernel⟩
theorem gX9_36 : z_GF RX9 36 9 12 := ⟨RX9, TX9, 62, rfl, by decide, uX9, Or.inl (z_in (List.mem_append_right _ (List.mem_of_getElem? (i := 913) (by decide +kernel))) rfl)⟩
theorem gX9_39 : z_GF RX9 39 9 13 := ⟨RX9, TX9, 62, rfl, by decide, uX9, Or.inl (z_in (List.mem_append_right _ (List.mem_of_getElem? (i := 914) (by decide +kernel))) rfl)⟩
theorem pX9_39 : z_PF RX9 39 9 13 .int := ⟨RX9, TX9, 62, tyX9, rfl, by decide, uX9, z_in (List.mem_append_right _ (List.mem_of_getElem? (i := 914) (by decide +kernel))) rfl, tyX9_ok, nmX9, rfl, by decide +kernel⟩
theorem gX9_401 : z_GF RX9 401 9 49 := ⟨RX9, TX9, 62, rfl, by decide, uX9, Or.inl (z_in (List.mem_append_right _ (List.mem_of_getElem? (i := 950) (by decide +kernel))) rfl)⟩
theorem pX9_401 : z_PF RX9 401 9 49 .boolean := ⟨RX9, TX9, 62, tyX9, rfl, by decide, uX9, z_in (List.mem_append_right _ (List.mem_of_getElem? (i := 950) (by decide +kernel))) rfl, tyX9_ok, nmX9, rfl, by decide +kernel⟩
theorem gX9_404 : z_GF RX9 404 9 50 := ⟨RX9, TX9, 62, rfl, by decide, uX9, Or.inl (z_in (List.mem_append_right _ (List.mem_of_getElem? (i := 951) (by decide +kernel))) rfl)⟩
theorem pX9_404 : z_PF RX9 404 9 50 .int := ⟨RX9, TX9, 62, tyX9, rfl, by decide, uX9, z_in (List.mem_append_right _ (List.mem_of_getElem? (i := 951) (by decide +kernel))) rfl, tyX9_ok, nmX9, rfl, by decide +kernel⟩
theorem gX9_407 : z_GF RX9 407 9 54 := ⟨RX9, TX9, 62, rfl, by decide, uX9, Or.inl (z_in (List.mem_append_right _ (List.mem_of_getElem? (i := 955) (by decide +kernel))) rfl)⟩
theorem pX9_407 : z_PF RX9 407 9 54 .int := ⟨RX9, TX9, 62, tyX9, rfl, by decide, uX9, z_in (List.mem_append_right _ (List.mem_of_getElem? (i := 955) (by decide +kernel))) rfl, tyX9_ok, nmX9, rfl, by decide +kernel⟩
theorem gX9_410 : z_GF RX9 410 9 56 := ⟨RX9, TX9, 62, rfl, by decide, uX9, Or.inl (z_in (List.mem_append_right _ (List.mem_of_getElem? (i := 957) (by decide +kernel))) rfl)⟩
theorem pX9_410 : z_PF RX9 410 9 56 .int := ⟨RX9, TX9, 62, tyX9, rfl, by decide, uX9, z_in (List.mem_append_right _ (List.mem_of_getElem? (i := 957) (by decide +kernel))) rfl, tyX9_ok, nmX9, rfl, by decide +kernel⟩
theorem gX9_43 : z_GF RX9 43 9 16 := ⟨RX9, TX9, 62, rfl, by decide, uX9, Or.inl (z_in (List.mem_append_right _ (List.mem_of_getElem? (i := 917) (by decide +kernel))) rfl)⟩
theorem gX9_46 : z_GF RX9 46 9 17 := ⟨RX9, TX9, 62, rfl, by decide, uX9, Or.inl (z_in (List.mem_append_right _ (List.mem_of_getElem? (i := 918) (by decide +kernel))) rfl)⟩
theorem gX9_49 : z_GF RX9 49 9 18 := ⟨RX9, TX9, 62, rfl, by decide, uX9, Or.inl (z_in (List.mem_append_right _ (List.mem_of_getElem? (i := 919) (by decide +kernel))) rfl)⟩
theorem gX9_52 : z_GF RX9 52 9 19 := ⟨RX9, TX9, 62, rfl, by decide, uX9, Or.inl (z_in (List.mem_append_right _ (List.mem_of_getElem? (i := 920) (by decide +kernel))) rfl)⟩
theorem gX9_55 : z_GF RX9 55 9 20 := ⟨RX9, TX9, 62, rfl, by decide, uX9, Or.inl (z_in (List.mem_append_right _ (List.mem_of_getElem? (i := 921) (by decide +kernel))) rfl)⟩
theorem gX9_59 : z_GF RX9 59 9 26 := ⟨RX9, TX9, 62, rfl, by decide, uX9, Or.inl (z_in (List.mem_append_right _ (List.mem_of_getElem? (i := 927) (by decide +kernel))) rfl)⟩
theorem gX9_62 : z_GF RX9 62 9 27 := ⟨RX9, TX9, 62, rfl, by decide, uX9, Or.inl (z_in (List.mem_append_right _ (List.mem_of_getElem? (i := 928) (by decide +kernel))) rfl)⟩
theorem gX9_65 : z_GF RX9 65 9 28 := ⟨RX9, TX9, 62, rfl, by decide, uX9, Or.inl (z_in (List.mem_append_right _ (List.mem_of_getElem? (i := 929) (by decide +kernel))) rfl)⟩
theorem gX9_68 : z_GF RX9 68 9 29 := ⟨RX9, TX9, 62, rfl, by decide, uX9, Or.inl (z_in (List.mem_append_right _ (List.mem_of_getElem? (i := 930) (by decide +kernel))) rfl)⟩
theorem gX9_72 : z_GF RX9 72 9 30 := ⟨RX9, TX9, 62, rfl, by decide, uX9, Or.inl (z_in (List.mem_append_right _ (List.mem_of_getElem? (i := 931) (by decide +kernel))) rfl)⟩
theorem gX9_75 : z_GF RX9 75 9 31 := ⟨RX9, TX9, 62, rfl, by decide, uX9, Or.inl (z_in (List.mem_append_right _ (List.mem_of_getElem? (i := 932) (by decide +kernel))) rfl)⟩
theorem gX9_78 : z_GF RX9 78 9 32 := ⟨RX9, TX9, 62, rfl, by decide, uX9, Or.inl (z_in (List.mem_append_right _ (List.mem_of_getElem? (i := 933) (by decide +kernel))) rfl)⟩
theorem gX9_81 : z_GF RX9 81 9 34 := ⟨RX9, TX9, 62, rfl, by decide, uX9, Or.inl (z_in (List.mem_append_right _ (List.mem_of_getElem? (i := 935) (by decide +kernel))) rfl)⟩
theorem gX9_84 : z_GF RX9 84 9 36 := ⟨RX9, TX9, 62, rfl, by decide, uX9, Or.inl (z_in (List.mem_append_right _ (List.mem_of_getElem? (i := 937) (by decide +kernel))) rfl)⟩
theorem gX9_87 : z_GF RX9 87 9 38 := ⟨RX9, TX9, 62, rfl, by decide, uX9, Or.inl (z_in (List.mem_append_right _ (List.mem_of_getElem? (i := 939) (by decide +kernel))) rfl)⟩
theorem gX9_9 : z_GF RX9 9 9 2 := ⟨RX9, TX9, 62, rfl, by decide, uX9, Or.inl (z_in (List.mem_append_right _ (List.mem_of_getElem? (i := 903) (by decide +kernel))) rfl)⟩
theorem gX9_90 : z_GF RX9 90 9 40 := ⟨RX9, TX9, 62, rfl, by decide, uX9, Or.inl (z_in (List.mem_append_right _ (List.mem_of_getElem? (i := 941) (by decide +kernel))) rfl)⟩
theorem gX9_94 : z_GF RX9 94 9 42 := ⟨RX9, TX9, 62, rfl, by decide, uX9, Or.inl (z_in (List.mem_append_right _ (List.mem_of_getElem? (i := 943) (by decide +kernel))) rfl)⟩
theorem gX9_97 : z_GF RX9 97 9 44 := ⟨RX9, TX9, 62, rfl, by decide, uX9, Or.inl (z_in (List.mem_append_right _ (List.mem_of_getElem? (i := 945) (by decide +kernel))) rfl)⟩
theorem kJ6_265 : Cond.constant RJ6 265 (Int32.ofInt (1431655765)) ∈ z_all := z_in (List.mem_append_right _ (List.mem_of_getElem? (i := 611) (by decide +kernel))) rfl
theorem kJ6_266 : Cond.constant RJ6 266 (Int32.ofInt (858993459)) ∈ z_all := z_in (List.mem_append_right _ (List.mem_of_getElem? (i := 612) (by decide +kernel))) rfl
theorem kJ6_267 : Cond.constant RJ6 267 (Int32.ofInt (252645135)) ∈ z_all := z_in (List.mem_append_right _ (List.mem_of_getElem? (i := 613) (by decide +kernel))) rfl
theorem kX8_215 : Cond.constantLong RX8 215 (Int64.ofInt (-9223372036854775808)) ∈ z_all := z_in (List.mem_append_right _ (List.mem_of_getElem? (i := 623) (by decide +kernel))) rfl
theorem kX4_110 : Cond.constant RX4 110 (Int32.ofInt (1103515245)) ∈ z_all := z_in (List.mem_append_right _ (List.mem_of_getElem? (i := 715) (by decide +kernel))) rfl
theorem kX9_158 : Cond.constantLong RX9 158 (Int64.ofInt (2)) ∈ z_all := z_in (List.mem_append_right _ (List.mem_of_getElem? (i := 1108) (by decide +kernel))) rfl
theorem kX9_358 : Cond.constantLong RX9 358 (Int64.ofInt (-9223372036854775808)) ∈ z_all := z_in (List.mem_append_right _ (List.mem_of_getElem? (i := 1352) (by decide +kernel))) rfl
theorem kX9_400 : Cond.constant RX9 400 (Int32.ofInt (1103515245)) ∈ z_all := z_in (List.mem_append_right _ (List.mem_of_getElem? (i := 1448) (by decide +kernel))) rfl
theorem kL_173 : Cond.constantLong RL 173 (Int64.ofInt (4294967295)) ∈ z_all := z_in (List.mem_append_right _ (List.mem_of_getElem? (i := 1568) (by decide +kernel))) rfl
