/-! ===== The reference: the image ===== -/
set_option maxRecDepth 20000 in
theorem l_X9_image2 {d : Nat} {τ : Sto} {z0 : Int} (h0 : z0 = τ 111 0) (i : Int) (hi : 0 ≤ i ∧ i ≤ 6) : Z (z_me cX9_image RX9 2 (some .int) (d + 0) (qI fun z σ' => z = z0 ∧ σ' = imB τ 6)) 55 [some (zR 9), some (zI i)] [] (imB τ i) := by
  refine z_iload_n dX9_image_55 rfl ?_
  refine z_bipush (v := 6) dX9_image_56 (by decide +kernel) ?_
  refine z_icmp_ge (tgt := 79) dX9_image_58 (by decide) ⟨by omega, by omega⟩ ⟨by omega, by omega⟩ (fun h58 => ?_) (fun h58 => ?_)
  · first
    | exfalso; omega
    | skip
      obtain rfl : i = 6 := by omega
      refine z_aload_n dX9_image_79 rfl ?_
      refine z_getR dX9_image_80 gX9_107 rfl (Nat.le_of_ble_eq_true rfl) rfl ?_
      refine z_iconst dX9_image_83 ?_
      refine z_iald dX9_image_84 rfl (Nat.le_of_ble_eq_true rfl) (by omega) (fun hr84 => ?_)
      exact z_iret dX9_image_85 ⟨by rw [h0]; rfl, rfl⟩
  · first
    | exfalso; omega
    | skip
      refine z_aload_n dX9_image_61 rfl ?_
      refine z_getR dX9_image_62 gX9_116 rfl (Nat.le_of_ble_eq_true rfl) rfl ?_
      refine z_iload_n dX9_image_65 rfl ?_
      refine z_aload_n dX9_image_66 rfl ?_
      refine z_getR dX9_image_67 gX9_107 rfl (Nat.le_of_ble_eq_true rfl) rfl ?_
      refine z_iload_n dX9_image_70 rfl ?_
      refine z_iald dX9_image_71 rfl (Nat.le_of_ble_eq_true rfl) (by omega) (fun hr71 => ?_)
      refine z_iast dX9_image_72 rfl (Nat.le_of_ble_eq_true rfl) (by omega) ⟨by omega, by omega⟩ ?_
      rw [imB_s hi.1]
      refine z_iinc (L' := [_, _]) dX9_image_73 (Nat.le_of_ble_eq_true rfl) rfl rfl rfl ?_
      refine z_goto (tgt := 55) dX9_image_76 (by decide) ?_
      exact l_X9_image2 h0 (i + 1) (by omega)
termination_by (6 - i).toNat
decreasing_by omega
set_option maxRecDepth 20000 in
theorem l_X9_image {d : Nat} {τ : Sto} (h7 : 0 ≤ τ 9 7 ∧ τ 9 7 ≤ 5) (i : Int) (hi : 0 ≤ i ∧ i ≤ τ 9 7) : Z (z_me cX9_image RX9 2 (some .int) (d + 0) (qI fun z σ' => z = τ 111 0 ∧ σ' = imB (imA τ (τ 9 7)) 6)) 15 [some (zR 9), some (zI i)] [] (imA τ i) := by
  have q7 : imA τ i 9 7 = τ 9 7 := rfl
  refine z_iload_n dX9_image_15 rfl ?_
  refine z_aload_n dX9_image_16 rfl ?_
  refine z_getI dX9_image_17 gX9_147 rfl (Nat.le_of_ble_eq_true rfl) rfl (fun hr17 => ?_)
  refine z_icmp_ge (tgt := 53) dX9_image_20 (by decide) ⟨by omega, by omega⟩ ⟨by omega, by omega⟩ (fun h20 => ?_) (fun h20 => ?_)
  · first
    | exfalso; omega
    | skip
      refine z_iconst dX9_image_53 ?_
      refine z_istore_n (L' := [_, _]) dX9_image_54 (Nat.le_of_ble_eq_true rfl) rfl rfl ?_
      obtain rfl : i = τ 9 7 := by omega
      have h := l_X9_image2 (d := d) (τ := imA τ (τ 9 7)) (z0 := τ 111 0) rfl 0 (by omega)
      rw [(im_0 _).2.1] at h
      exact h
  · first
    | exfalso; omega
    | skip
      refine z_aload_n dX9_image_23 rfl ?_
      refine z_getR dX9_image_24 gX9_110 rfl (Nat.le_of_ble_eq_true rfl) rfl ?_
      refine z_iload_n dX9_image_27 rfl ?_
      refine z_aload_n dX9_image_28 rfl ?_
      refine z_getR dX9_image_29 gX9_30 rfl (Nat.le_of_ble_eq_true rfl) rfl ?_
      refine z_iload_n dX9_image_32 rfl ?_
      refine z_iald dX9_image_33 rfl (Nat.le_of_ble_eq_true rfl) (by omega) (fun hr33 => ?_)
      refine z_iast dX9_image_34 rfl (Nat.le_of_ble_eq_true rfl) (by omega) ⟨by omega, by omega⟩ ?_
      refine z_aload_n dX9_image_35 rfl ?_
      refine z_getR dX9_image_36 gX9_113 rfl (Nat.le_of_ble_eq_true rfl) rfl ?_
      refine z_iload_n dX9_image_39 rfl ?_
      refine z_aload_n dX9_image_40 rfl ?_
      refine z_getR dX9_image_41 gX9_33 rfl (Nat.le_of_ble_eq_true rfl) rfl ?_
      refine z_iload_n dX9_image_44 rfl ?_
      refine z_iald dX9_image_45 rfl (Nat.le_of_ble_eq_true rfl) (by omega) (fun hr45 => ?_)
      try simp only [z_rd, Nat.reduceEqDiff, ↓reduceIte, eq_self] at hr45 ⊢
      refine z_iast dX9_image_46 rfl (Nat.le_of_ble_eq_true rfl) (by omega) ⟨by omega, by omega⟩ ?_
      rw [imA_s hi.1]
      refine z_iinc (L' := [_, _]) dX9_image_47 (Nat.le_of_ble_eq_true rfl) rfl rfl rfl ?_
      refine z_goto (tgt := 15) dX9_image_50 (by decide) ?_
      exact l_X9_image h7 (i + 1) (by omega)
termination_by (τ 9 7 - i).toNat
decreasing_by omega
def imM (σ : Sto) : Sto := imB (imA (z_put (z_put σ 9 49 1) 9 50 (σ 9 7)) (σ 9 7)) 6
set_option maxRecDepth 20000 in
theorem c_X9_image {d : Nat} {σ : Sto} (h7 : 0 ≤ σ 9 7 ∧ σ 9 7 ≤ 5) : m_X9_image d [zR 9] σ (qI fun z σ' => z = σ 111 0 ∧ σ' = imM σ) := by
  refine z_does (L := [some (zR 9), none]) rfl (by decide +kernel) (Nat.le_of_ble_eq_true rfl) rfl ?_
  refine z_aload_n dX9_image_0 rfl ?_
  refine z_iconst dX9_image_1 ?_
  refine z_putZ dX9_image_2 pX9_401 rfl (Nat.le_of_ble_eq_true rfl) rfl (by omega) ?_
  refine z_aload_n dX9_image_5 rfl ?_
  refine z_aload_n dX9_image_6 rfl ?_
  refine z_getI dX9_image_7 gX9_147 rfl (Nat.le_of_ble_eq_true rfl) rfl (fun hr7 => ?_)
  try simp only [z_rd, Nat.reduceEqDiff, ↓reduceIte, eq_self] at hr7 ⊢
  refine z_putI dX9_image_10 pX9_404 rfl (Nat.le_of_ble_eq_true rfl) rfl ⟨by omega, by omega⟩ ?_
  refine z_iconst dX9_image_13 ?_
  refine z_istore_n (L' := [_, _]) dX9_image_14 (Nat.le_of_ble_eq_true rfl) rfl rfl ?_
  have h := l_X9_image (d := d) (τ := z_put (z_put σ 9 49 1) 9 50 (σ 9 7)) h7 0 (by show 0 ≤ (0 : Int) ∧ 0 ≤ σ 9 7; omega)
  rw [(im_0 _).1] at h
  exact h
set_option maxRecDepth 20000 in
theorem l_X9_back2 {d : Nat} {τ : Sto} {z0 : Int} (h0 : z0 = τ 114 0) (i : Int) (hi : 0 ≤ i ∧ i ≤ 6) : Z (z_me cX9_back RX9 2 (some .int) (d + 0) (qI fun z σ' => z = z0 ∧ σ' = bkB τ 6)) 76 [some (zR 9), some (zI i)] [] (bkB τ i) := by
  refine z_iload_n dX9_back_76 rfl ?_
  refine z_bipush (v := 6) dX9_back_77 (by decide +kernel) ?_
  refine z_icmp_ge (tgt := 100) dX9_back_79 (by decide) ⟨by omega, by omega⟩ ⟨by omega, by omega⟩ (fun h79 => ?_) (fun h79 => ?_)
  · first
    | exfalso; omega
    | skip
      obtain rfl : i = 6 := by omega
      refine z_aload_n dX9_back_100 rfl ?_
      refine z_getR dX9_back_101 gX9_107 rfl (Nat.le_of_ble_eq_true rfl) rfl ?_
      refine z_iconst dX9_back_104 ?_
      refine z_iald dX9_back_105 rfl (Nat.le_of_ble_eq_true rfl) (by omega) (fun hr105 => ?_)
      exact z_iret dX9_back_106 ⟨by rw [h0]; rfl, rfl⟩
  · first
    | exfalso; omega
    | skip
      refine z_aload_n dX9_back_82 rfl ?_
      refine z_getR dX9_back_83 gX9_107 rfl (Nat.le_of_ble_eq_true rfl) rfl ?_
      refine z_iload_n dX9_back_86 rfl ?_
      refine z_aload_n dX9_back_87 rfl ?_
      refine z_getR dX9_back_88 gX9_116 rfl (Nat.le_of_ble_eq_true rfl) rfl ?_
      refine z_iload_n dX9_back_91 rfl ?_
      refine z_iald dX9_back_92 rfl (Nat.le_of_ble_eq_true rfl) (by omega) (fun hr92 => ?_)
      refine z_iast dX9_back_93 rfl (Nat.le_of_ble_eq_true rfl) (by omega) ⟨by omega, by omega⟩ ?_
      rw [bkB_s hi.1]
      refine z_iinc (L' := [_, _]) dX9_back_94 (Nat.le_of_ble_eq_true rfl) rfl rfl rfl ?_
      refine z_goto (tgt := 76) dX9_back_97 (by decide) ?_
      exact l_X9_back2 h0 (i + 1) (by omega)
termination_by (6 - i).toNat
decreasing_by omega
set_option maxRecDepth 20000 in
theorem l_X9_back {d : Nat} {τ : Sto} (h7 : 0 ≤ τ 9 7 ∧ τ 9 7 ≤ 5) (h50 : 0 ≤ τ 9 50 ∧ τ 9 50 ≤ 5) (i : Int) (hi : 0 ≤ i ∧ i ≤ τ 9 7) : Z (z_me cX9_back RX9 2 (some .int) (d + 0) (qI fun z σ' => z = τ 114 0 ∧ σ' = bkB (bkA τ (τ 9 7)) 6)) 12 [some (zR 9), some (zI i)] [] (bkA τ i) := by
  have q7 : bkA τ i 9 7 = τ 9 7 := rfl
  have q50 : bkA τ i 9 50 = τ 9 50 := rfl
  refine z_iload_n dX9_back_12 rfl ?_
  refine z_aload_n dX9_back_13 rfl ?_
  refine z_getI dX9_back_14 gX9_147 rfl (Nat.le_of_ble_eq_true rfl) rfl (fun hr14 => ?_)
  refine z_icmp_ge (tgt := 74) dX9_back_17 (by decide) ⟨by omega, by omega⟩ ⟨by omega, by omega⟩ (fun h17 => ?_) (fun h17 => ?_)
  · first
    | exfalso; omega
    | skip
      refine z_iconst dX9_back_74 ?_
      refine z_istore_n (L' := [_, _]) dX9_back_75 (Nat.le_of_ble_eq_true rfl) rfl rfl ?_
      obtain rfl : i = τ 9 7 := by omega
      have h := l_X9_back2 (d := d) (τ := bkA τ (τ 9 7)) (z0 := τ 114 0) rfl 0 (by omega)
      rw [(im_0 _).2.2.2] at h
      exact h
  · first
    | exfalso; omega
    | skip
      refine z_aload_n dX9_back_20 rfl ?_
      refine z_getR dX9_back_21 gX9_30 rfl (Nat.le_of_ble_eq_true rfl) rfl ?_
      refine z_iload_n dX9_back_24 rfl ?_
      refine z_iload_n dX9_back_25 rfl ?_
      refine z_aload_n dX9_back_26 rfl ?_
      refine z_getI dX9_back_27 gX9_404 rfl (Nat.le_of_ble_eq_true rfl) rfl (fun hr27 => ?_)
      refine z_icmp_ge (tgt := 42) dX9_back_30 (by decide) ⟨by omega, by omega⟩ ⟨by omega, by omega⟩ (fun h30 => ?_) (fun h30 => ?_)
      · skip
        refine z_iconst dX9_back_42 ?_
        refine z_iast dX9_back_43 rfl (Nat.le_of_ble_eq_true rfl) (by omega) ⟨by omega, by omega⟩ ?_
        refine z_aload_n dX9_back_44 rfl ?_
        refine z_getR dX9_back_45 gX9_33 rfl (Nat.le_of_ble_eq_true rfl) rfl ?_
        refine z_iload_n dX9_back_48 rfl ?_
        refine z_iload_n dX9_back_49 rfl ?_
        refine z_aload_n dX9_back_50 rfl ?_
        refine z_getI dX9_back_51 gX9_404 rfl (Nat.le_of_ble_eq_true rfl) rfl (fun hr51 => ?_)
        try simp only [z_rd, Nat.reduceEqDiff, ↓reduceIte, eq_self] at hr51 ⊢
        refine z_icmp_ge (tgt := 66) dX9_back_54 (by decide) ⟨by omega, by omega⟩ ⟨by omega, by omega⟩ (fun h54 => ?_) (fun h54 => ?_)
        · skip
          refine z_iconst dX9_back_66 ?_
          refine z_iast dX9_back_67 rfl (Nat.le_of_ble_eq_true rfl) (by omega) ⟨by omega, by omega⟩ ?_
          refine z_iinc (L' := [_, _]) dX9_back_68 (Nat.le_of_ble_eq_true rfl) rfl rfl rfl ?_
          refine z_goto (tgt := 12) dX9_back_71 (by decide) ?_
          rw [bkA_s hi.1 (by first | (rw [if_pos (by omega)]; rfl) | (rw [if_neg (by omega)])) (by first | (rw [if_pos (by omega)]; rfl) | (rw [if_neg (by omega)]))]
          exact l_X9_back h7 h50 (i + 1) (by omega)
        · skip
          refine z_aload_n dX9_back_57 rfl ?_
          refine z_getR dX9_back_58 gX9_113 rfl (Nat.le_of_ble_eq_true rfl) rfl ?_
          refine z_iload_n dX9_back_61 rfl ?_
          refine z_iald dX9_back_62 rfl (Nat.le_of_ble_eq_true rfl) (by omega) (fun hr62 => ?_)
          try simp only [z_rd, Nat.reduceEqDiff, ↓reduceIte, eq_self] at hr62 ⊢
          refine z_goto (tgt := 67) dX9_back_63 (by decide) ?_
          refine z_iast dX9_back_67 rfl (Nat.le_of_ble_eq_true rfl) (by omega) ⟨by omega, by omega⟩ ?_
          refine z_iinc (L' := [_, _]) dX9_back_68 (Nat.le_of_ble_eq_true rfl) rfl rfl rfl ?_
          refine z_goto (tgt := 12) dX9_back_71 (by decide) ?_
          rw [bkA_s hi.1 (by first | (rw [if_pos (by omega)]; rfl) | (rw [if_neg (by omega)])) (by first | (rw [if_pos (by omega)]; rfl) | (rw [if_neg (by omega)]))]
          exact l_X9_back h7 h50 (i + 1) (by omega)
      · skip
        refine z_aload_n dX9_back_33 rfl ?_
        refine z_getR dX9_back_34 gX9_110 rfl (Nat.le_of_ble_eq_true rfl) rfl ?_
        refine z_iload_n dX9_back_37 rfl ?_
        refine z_iald dX9_back_38 rfl (Nat.le_of_ble_eq_true rfl) (by omega) (fun hr38 => ?_)
        refine z_goto (tgt := 43) dX9_back_39 (by decide) ?_
        refine z_iast dX9_back_43 rfl (Nat.le_of_ble_eq_true rfl) (by omega) ⟨by omega, by omega⟩ ?_
        refine z_aload_n dX9_back_44 rfl ?_
        refine z_getR dX9_back_45 gX9_33 rfl (Nat.le_of_ble_eq_true rfl) rfl ?_
        refine z_iload_n dX9_back_48 rfl ?_
        refine z_iload_n dX9_back_49 rfl ?_
        refine z_aload_n dX9_back_50 rfl ?_
        refine z_getI dX9_back_51 gX9_404 rfl (Nat.le_of_ble_eq_true rfl) rfl (fun hr51 => ?_)
        try simp only [z_rd, Nat.reduceEqDiff, ↓reduceIte, eq_self] at hr51 ⊢
        refine z_icmp_ge (tgt := 66) dX9_back_54 (by decide) ⟨by omega, by omega⟩ ⟨by omega, by omega⟩ (fun h54 => ?_) (fun h54 => ?_)
        · skip
          refine z_iconst dX9_back_66 ?_
          refine z_iast dX9_back_67 rfl (Nat.le_of_ble_eq_true rfl) (by omega) ⟨by omega, by omega⟩ ?_
          refine z_iinc (L' := [_, _]) dX9_back_68 (Nat.le_of_ble_eq_true rfl) rfl rfl rfl ?_
          refine z_goto (tgt := 12) dX9_back_71 (by decide) ?_
          rw [bkA_s hi.1 (by first | (rw [if_pos (by omega)]; rfl) | (rw [if_neg (by omega)])) (by first | (rw [if_pos (by omega)]; rfl) | (rw [if_neg (by omega)]))]
          exact l_X9_back h7 h50 (i + 1) (by omega)
        · skip
          refine z_aload_n dX9_back_57 rfl ?_
          refine z_getR dX9_back_58 gX9_113 rfl (Nat.le_of_ble_eq_true rfl) rfl ?_
          refine z_iload_n dX9_back_61 rfl ?_
          refine z_iald dX9_back_62 rfl (Nat.le_of_ble_eq_true rfl) (by omega) (fun hr62 => ?_)
          try simp only [z_rd, Nat.reduceEqDiff, ↓reduceIte, eq_self] at hr62 ⊢
          refine z_goto (tgt := 67) dX9_back_63 (by decide) ?_
          refine z_iast dX9_back_67 rfl (Nat.le_of_ble_eq_true rfl) (by omega) ⟨by omega, by omega⟩ ?_
          refine z_iinc (L' := [_, _]) dX9_back_68 (Nat.le_of_ble_eq_true rfl) rfl rfl rfl ?_
          refine z_goto (tgt := 12) dX9_back_71 (by decide) ?_
          rw [bkA_s hi.1 (by first | (rw [if_pos (by omega)]; rfl) | (rw [if_neg (by omega)])) (by first | (rw [if_pos (by omega)]; rfl) | (rw [if_neg (by omega)]))]
          exact l_X9_back h7 h50 (i + 1) (by omega)
termination_by (τ 9 7 - i).toNat
decreasing_by all_goals omega
def bkM (σ : Sto) : Sto := bkB (bkA σ (σ 9 7)) 6
set_option maxRecDepth 20000 in
theorem c_X9_back {d : Nat} {σ : Sto} (h7 : 0 ≤ σ 9 7 ∧ σ 9 7 ≤ 5) (h50 : 0 ≤ σ 9 50 ∧ σ 9 50 ≤ 5) : m_X9_back d [zR 9] σ (qI fun z σ' => (σ 9 49 = 0 ∧ z = -5 ∧ σ' = σ) ∨ (σ 9 49 ≠ 0 ∧ z = σ 114 0 ∧ σ' = bkM σ)) := by
  refine z_does (L := [some (zR 9), none]) rfl (by decide +kernel) (Nat.le_of_ble_eq_true rfl) rfl ?_
  refine z_aload_n dX9_back_0 rfl ?_
  refine z_getI dX9_back_1 gX9_401 rfl (Nat.le_of_ble_eq_true rfl) rfl (fun hr1 => ?_)
  refine z_if_ne (tgt := 10) dX9_back_4 (by decide) ⟨by omega, by omega⟩ (fun h4 => ?_) (fun h4 => ?_)
  · skip
    refine z_iconst dX9_back_10 ?_
    refine z_istore_n (L' := [_, _]) dX9_back_11 (Nat.le_of_ble_eq_true rfl) rfl rfl ?_
    have h := l_X9_back (d := d) (τ := σ) h7 h50 0 (by omega)
    rw [(im_0 _).2.2.1] at h
    exact h.mono (fun r σ' ⟨z, e, q⟩ => ⟨z, e, Or.inr ⟨by omega, q⟩⟩)
  · skip
    refine z_bipush (v := -5) dX9_back_7 (by decide +kernel) ?_
    exact z_iret dX9_back_9 (Or.inl ⟨by omega, rfl, rfl⟩)
