/-! ===== Changes ===== -/
def shf (σ : Sto) (i : Int) : Sto := fun a b => if (21 ≤ a ∧ a ≤ 24) ∧ (b : Int) + 1 < i then σ a (b + 1) else σ a b
theorem shf_rd (σ : Sto) (i : Int) (a b : Nat) : shf σ i a b = if (21 ≤ a ∧ a ≤ 24) ∧ (b : Int) + 1 < i then σ a (b + 1) else σ a b := rfl
theorem shf_1 (σ : Sto) : shf σ 1 = σ := by
  funext a b
  rw [shf_rd, if_neg (by omega)]
theorem shf_step {σ : Sto} {i : Int} (hi : 1 ≤ i) : z_put (z_put (z_put (z_put (shf σ i) 21 (i - 1).toNat (shf σ i 21 i.toNat)) 22 (i - 1).toNat (shf σ i 22 i.toNat)) 23 (i - 1).toNat (shf σ i 23 i.toNat)) 24 (i - 1).toNat (shf σ i 24 i.toNat) = shf σ (i + 1) := by
  have e : i.toNat = (i - 1).toNat + 1 := by omega
  funext a b
  simp only [z_rd, shf_rd]
  by_cases hb : b = (i - 1).toNat
  · subst hb
    rw [e]
    grind
  · grind
set_option maxRecDepth 20000 in
theorem l_X0_forgetOldest {d : Nat} {σ : Sto} (i : Int) (hi : 1 ≤ i ∧ i ≤ 40) : Z (z_me cX0_forgetOldest RX0 2 none (d + 0) (qV fun σ' => σ' = z_put (shf σ 40) 2 4 39)) 2 [some (zR 2), some (zI i)] [] (shf σ i) := by
  refine z_iload_n dX0_forgetOldest_2 rfl ?_
  refine z_bipush (v := 40) dX0_forgetOldest_3 (by decide +kernel) ?_
  refine z_icmp_ge (tgt := 70) dX0_forgetOldest_5 (by decide) ⟨by omega, by omega⟩ ⟨by omega, by omega⟩ (fun h5 => ?_) (fun h5 => ?_)
  · first
    | exfalso; omega
    | skip
      obtain rfl : i = 40 := by omega
      refine z_aload_n dX0_forgetOldest_70 rfl ?_
      refine z_bipush (v := 39) dX0_forgetOldest_71 (by decide +kernel) ?_
      refine z_putI dX0_forgetOldest_73 pX0_28 rfl (Nat.le_of_ble_eq_true rfl) rfl ⟨by omega, by omega⟩ ?_
      exact z_vret dX0_forgetOldest_76 rfl
  · first
    | exfalso; omega
    | skip
      refine z_aload_n dX0_forgetOldest_8 rfl ?_
      refine z_getR dX0_forgetOldest_9 gX0_11 rfl (Nat.le_of_ble_eq_true rfl) rfl ?_
      refine z_iload_n dX0_forgetOldest_12 rfl ?_
      refine z_iconst dX0_forgetOldest_13 ?_
      refine z_isub dX0_forgetOldest_14 ?_
      refine z_aload_n dX0_forgetOldest_15 rfl ?_
      refine z_getR dX0_forgetOldest_16 gX0_11 rfl (Nat.le_of_ble_eq_true rfl) rfl ?_
      refine z_iload_n dX0_forgetOldest_19 rfl ?_
      refine z_iald dX0_forgetOldest_20 rfl (Nat.le_of_ble_eq_true rfl) (by omega) (fun hr20 => ?_)
      refine z_iast dX0_forgetOldest_21 rfl (Nat.le_of_ble_eq_true rfl) (by omega) ⟨by omega, by omega⟩ ?_
      refine z_aload_n dX0_forgetOldest_22 rfl ?_
      refine z_getR dX0_forgetOldest_23 gX0_15 rfl (Nat.le_of_ble_eq_true rfl) rfl ?_
      refine z_iload_n dX0_forgetOldest_26 rfl ?_
      refine z_iconst dX0_forgetOldest_27 ?_
      refine z_isub dX0_forgetOldest_28 ?_
      refine z_aload_n dX0_forgetOldest_29 rfl ?_
      refine z_getR dX0_forgetOldest_30 gX0_15 rfl (Nat.le_of_ble_eq_true rfl) rfl ?_
      refine z_iload_n dX0_forgetOldest_33 rfl ?_
      refine z_iald dX0_forgetOldest_34 rfl (Nat.le_of_ble_eq_true rfl) (by omega) (fun hr34 => ?_)
      try simp only [z_rd, Nat.reduceEqDiff, ↓reduceIte, eq_self] at hr34 ⊢
      refine z_iast dX0_forgetOldest_35 rfl (Nat.le_of_ble_eq_true rfl) (by omega) ⟨by omega, by omega⟩ ?_
      refine z_aload_n dX0_forgetOldest_36 rfl ?_
      refine z_getR dX0_forgetOldest_37 gX0_18 rfl (Nat.le_of_ble_eq_true rfl) rfl ?_
      refine z_iload_n dX0_forgetOldest_40 rfl ?_
      refine z_iconst dX0_forgetOldest_41 ?_
      refine z_isub dX0_forgetOldest_42 ?_
      refine z_aload_n dX0_forgetOldest_43 rfl ?_
      refine z_getR dX0_forgetOldest_44 gX0_18 rfl (Nat.le_of_ble_eq_true rfl) rfl ?_
      refine z_iload_n dX0_forgetOldest_47 rfl ?_
      refine z_iald dX0_forgetOldest_48 rfl (Nat.le_of_ble_eq_true rfl) (by omega) (fun hr48 => ?_)
      try simp only [z_rd, Nat.reduceEqDiff, ↓reduceIte, eq_self] at hr48 ⊢
      refine z_iast dX0_forgetOldest_49 rfl (Nat.le_of_ble_eq_true rfl) (by omega) ⟨by omega, by omega⟩ ?_
      refine z_aload_n dX0_forgetOldest_50 rfl ?_
      refine z_getR dX0_forgetOldest_51 gX0_21 rfl (Nat.le_of_ble_eq_true rfl) rfl ?_
      refine z_iload_n dX0_forgetOldest_54 rfl ?_
      refine z_iconst dX0_forgetOldest_55 ?_
      refine z_isub dX0_forgetOldest_56 ?_
      refine z_aload_n dX0_forgetOldest_57 rfl ?_
      refine z_getR dX0_forgetOldest_58 gX0_21 rfl (Nat.le_of_ble_eq_true rfl) rfl ?_
      refine z_iload_n dX0_forgetOldest_61 rfl ?_
      refine z_iald dX0_forgetOldest_62 rfl (Nat.le_of_ble_eq_true rfl) (by omega) (fun hr62 => ?_)
      try simp only [z_rd, Nat.reduceEqDiff, ↓reduceIte, eq_self] at hr62 ⊢
      refine z_iast dX0_forgetOldest_63 rfl (Nat.le_of_ble_eq_true rfl) (by omega) ⟨by omega, by omega⟩ ?_
      rw [shf_step hi.1]
      refine z_iinc (L' := [_, _]) dX0_forgetOldest_64 (Nat.le_of_ble_eq_true rfl) rfl rfl rfl ?_
      refine z_goto (tgt := 2) dX0_forgetOldest_67 (by decide) ?_
      exact l_X0_forgetOldest (i + 1) (by omega)
termination_by (40 - i).toNat
decreasing_by omega
set_option maxRecDepth 20000 in
theorem c_X0_forgetOldest {d : Nat} {σ : Sto} : m_X0_forgetOldest d [zR 2] σ (qV fun σ' => σ' = z_put (shf σ 40) 2 4 39) := by
  refine z_does (L := [some (zR 2), none]) rfl (by decide +kernel) (Nat.le_of_ble_eq_true rfl) rfl ?_
  refine z_iconst dX0_forgetOldest_0 ?_
  refine z_istore_n (L' := [_, _]) dX0_forgetOldest_1 (Nat.le_of_ble_eq_true rfl) rfl rfl ?_
  have h := l_X0_forgetOldest (d := d) (σ := σ) 1 (by omega)
  rw [shf_1] at h
  exact h
def noteT (τ : Sto) (k n w b a : Int) : Sto := z_put (z_put (z_put (z_put (z_put τ 21 k.toNat n) 22 k.toNat w) 23 k.toNat b) 24 k.toNat a) 2 4 (k + 1)
set_option maxRecDepth 20000 in
theorem c_X0_note {d : Nat} {σ : Sto} {n w b a : Int} (hd : 0 ≤ σ 2 4 ∧ σ 2 4 ≤ 40) (hn : inR n) (hw : inR w) (hb : inR b) (ha : inR a) : m_X0_note d [zR 2, zI n, zI w, zI b, zI a] σ (qV fun σ' => (σ 2 4 < 40 ∧ σ' = noteT (z_put σ 2 5 0) (σ 2 4) n w b a) ∨ (σ 2 4 = 40 ∧ σ' = noteT (z_put (shf (z_put σ 2 5 0) 40) 2 4 39) 39 n w b a)) := by
  refine z_does (L := [some (zR 2), some (zI n), some (zI w), some (zI b), some (zI a)]) rfl (by decide +kernel) (Nat.le_of_ble_eq_true rfl) rfl ?_
  refine z_aload_n dX0_note_0 rfl ?_
  refine z_iconst dX0_note_1 ?_
  refine z_putI dX0_note_2 pX0_24 rfl (Nat.le_of_ble_eq_true rfl) rfl ⟨by omega, by omega⟩ ?_
  refine z_aload_n dX0_note_5 rfl ?_
  refine z_getI dX0_note_6 gX0_28 rfl (Nat.le_of_ble_eq_true rfl) rfl (fun hr6 => ?_)
  try simp only [z_rd, Nat.reduceEqDiff, ↓reduceIte, eq_self] at hr6 ⊢
  refine z_bipush (v := 40) dX0_note_9 (by decide +kernel) ?_
  refine z_icmp_lt (tgt := 18) dX0_note_11 (by decide) ⟨by omega, by omega⟩ ⟨by omega, by omega⟩ (fun h11 => ?_) (fun h11 => ?_)
  · first
    | exfalso; omega
    | skip
      refine z_aload_n dX0_note_18 rfl ?_
      refine z_getI dX0_note_19 gX0_28 rfl (Nat.le_of_ble_eq_true rfl) rfl (fun hr19 => ?_)
      try simp only [z_rd, Nat.reduceEqDiff, ↓reduceIte, eq_self] at hr19 ⊢
      refine z_if_lt (tgt := 34) dX0_note_22 (by decide) ⟨by omega, by omega⟩ (fun h22 => ?_) (fun h22 => ?_)
      · first
        | exfalso; omega
        | skip
          exact z_vret dX0_note_34 (by first | exact Or.inl ⟨by omega, rfl⟩ | exact Or.inr ⟨by omega, rfl⟩)
      · first
        | exfalso; omega
        | skip
          refine z_aload_n dX0_note_25 rfl ?_
          refine z_getI dX0_note_26 gX0_28 rfl (Nat.le_of_ble_eq_true rfl) rfl (fun hr26 => ?_)
          try simp only [z_rd, Nat.reduceEqDiff, ↓reduceIte, eq_self] at hr26 ⊢
          refine z_bipush (v := 40) dX0_note_29 (by decide +kernel) ?_
          refine z_icmp_lt (tgt := 35) dX0_note_31 (by decide) ⟨by omega, by omega⟩ ⟨by omega, by omega⟩ (fun h31 => ?_) (fun h31 => ?_)
          · first
            | exfalso; omega
            | skip
              refine z_aload_n dX0_note_35 rfl ?_
              refine z_getR dX0_note_36 gX0_11 rfl (Nat.le_of_ble_eq_true rfl) rfl ?_
              refine z_aload_n dX0_note_39 rfl ?_
              refine z_getI dX0_note_40 gX0_28 rfl (Nat.le_of_ble_eq_true rfl) rfl (fun hr40 => ?_)
              try simp only [z_rd, Nat.reduceEqDiff, ↓reduceIte, eq_self] at hr40 ⊢
              refine z_iload_n dX0_note_43 rfl ?_
              refine z_iast dX0_note_44 rfl (Nat.le_of_ble_eq_true rfl) (by omega) ⟨by omega, by omega⟩ ?_
              refine z_aload_n dX0_note_45 rfl ?_
              refine z_getR dX0_note_46 gX0_15 rfl (Nat.le_of_ble_eq_true rfl) rfl ?_
              refine z_aload_n dX0_note_49 rfl ?_
              refine z_getI dX0_note_50 gX0_28 rfl (Nat.le_of_ble_eq_true rfl) rfl (fun hr50 => ?_)
              try simp only [z_rd, Nat.reduceEqDiff, ↓reduceIte, eq_self] at hr50 ⊢
              refine z_iload_n dX0_note_53 rfl ?_
              refine z_iast dX0_note_54 rfl (Nat.le_of_ble_eq_true rfl) (by omega) ⟨by omega, by omega⟩ ?_
              refine z_aload_n dX0_note_55 rfl ?_
              refine z_getR dX0_note_56 gX0_18 rfl (Nat.le_of_ble_eq_true rfl) rfl ?_
              refine z_aload_n dX0_note_59 rfl ?_
              refine z_getI dX0_note_60 gX0_28 rfl (Nat.le_of_ble_eq_true rfl) rfl (fun hr60 => ?_)
              try simp only [z_rd, Nat.reduceEqDiff, ↓reduceIte, eq_self] at hr60 ⊢
              refine z_iload_n dX0_note_63 rfl ?_
              refine z_iast dX0_note_64 rfl (Nat.le_of_ble_eq_true rfl) (by omega) ⟨by omega, by omega⟩ ?_
              refine z_aload_n dX0_note_65 rfl ?_
              refine z_getR dX0_note_66 gX0_21 rfl (Nat.le_of_ble_eq_true rfl) rfl ?_
              refine z_aload_n dX0_note_69 rfl ?_
              refine z_getI dX0_note_70 gX0_28 rfl (Nat.le_of_ble_eq_true rfl) rfl (fun hr70 => ?_)
              try simp only [z_rd, Nat.reduceEqDiff, ↓reduceIte, eq_self] at hr70 ⊢
              refine z_iload dX0_note_73 rfl ?_
              refine z_iast dX0_note_75 rfl (Nat.le_of_ble_eq_true rfl) (by omega) ⟨by omega, by omega⟩ ?_
              refine z_aload_n dX0_note_76 rfl ?_
              refine z_dup dX0_note_77 rfl ?_
              refine z_getI dX0_note_78 gX0_28 rfl (Nat.le_of_ble_eq_true rfl) rfl (fun hr78 => ?_)
              try simp only [z_rd, Nat.reduceEqDiff, ↓reduceIte, eq_self] at hr78 ⊢
              refine z_iconst dX0_note_81 ?_
              refine z_iadd dX0_note_82 ?_
              refine z_putI dX0_note_83 pX0_28 rfl (Nat.le_of_ble_eq_true rfl) rfl ⟨by omega, by omega⟩ ?_
              exact z_vret dX0_note_86 (by first | exact Or.inl ⟨by omega, rfl⟩ | exact Or.inr ⟨by omega, rfl⟩)
          · first
            | exfalso; omega
            | skip
              exact z_vret dX0_note_34 (by first | exact Or.inl ⟨by omega, rfl⟩ | exact Or.inr ⟨by omega, rfl⟩)
  · first
    | exfalso; omega
    | skip
      refine z_aload_n dX0_note_14 rfl ?_
      refine z_callVV (d := d + 0) (av := []) dX0_note_15 vX0_31 rfl (Nat.le_of_ble_eq_true rfl) rfl rfl rfl (Nat.le_of_ble_eq_true rfl) (Nat.le_refl _) (c_X0_forgetOldest) (fun σ15 h15 => ?_)
      subst h15
      refine z_aload_n dX0_note_18 rfl ?_
      refine z_getI dX0_note_19 gX0_28 rfl (Nat.le_of_ble_eq_true rfl) rfl (fun hr19 => ?_)
      try simp only [z_rd, Nat.reduceEqDiff, ↓reduceIte, eq_self] at hr19 ⊢
      refine z_if_lt (tgt := 34) dX0_note_22 (by decide) ⟨by omega, by omega⟩ (fun h22 => ?_) (fun h22 => ?_)
      · first
        | exfalso; omega
        | skip
          exact z_vret dX0_note_34 (by first | exact Or.inl ⟨by omega, rfl⟩ | exact Or.inr ⟨by omega, rfl⟩)
      · first
        | exfalso; omega
        | skip
          refine z_aload_n dX0_note_25 rfl ?_
          refine z_getI dX0_note_26 gX0_28 rfl (Nat.le_of_ble_eq_true rfl) rfl (fun hr26 => ?_)
          try simp only [z_rd, Nat.reduceEqDiff, ↓reduceIte, eq_self] at hr26 ⊢
          refine z_bipush (v := 40) dX0_note_29 (by decide +kernel) ?_
          refine z_icmp_lt (tgt := 35) dX0_note_31 (by decide) ⟨by omega, by omega⟩ ⟨by omega, by omega⟩ (fun h31 => ?_) (fun h31 => ?_)
          · first
            | exfalso; omega
            | skip
              refine z_aload_n dX0_note_35 rfl ?_
              refine z_getR dX0_note_36 gX0_11 rfl (Nat.le_of_ble_eq_true rfl) rfl ?_
              refine z_aload_n dX0_note_39 rfl ?_
              refine z_getI dX0_note_40 gX0_28 rfl (Nat.le_of_ble_eq_true rfl) rfl (fun hr40 => ?_)
              try simp only [z_rd, Nat.reduceEqDiff, ↓reduceIte, eq_self] at hr40 ⊢
              refine z_iload_n dX0_note_43 rfl ?_
              refine z_iast dX0_note_44 rfl (Nat.le_of_ble_eq_true rfl) (by omega) ⟨by omega, by omega⟩ ?_
              refine z_aload_n dX0_note_45 rfl ?_
              refine z_getR dX0_note_46 gX0_15 rfl (Nat.le_of_ble_eq_true rfl) rfl ?_
              refine z_aload_n dX0_note_49 rfl ?_
              refine z_getI dX0_note_50 gX0_28 rfl (Nat.le_of_ble_eq_true rfl) rfl (fun hr50 => ?_)
              try simp only [z_rd, Nat.reduceEqDiff, ↓reduceIte, eq_self] at hr50 ⊢
              refine z_iload_n dX0_note_53 rfl ?_
              refine z_iast dX0_note_54 rfl (Nat.le_of_ble_eq_true rfl) (by omega) ⟨by omega, by omega⟩ ?_
              refine z_aload_n dX0_note_55 rfl ?_
              refine z_getR dX0_note_56 gX0_18 rfl (Nat.le_of_ble_eq_true rfl) rfl ?_
              refine z_aload_n dX0_note_59 rfl ?_
              refine z_getI dX0_note_60 gX0_28 rfl (Nat.le_of_ble_eq_true rfl) rfl (fun hr60 => ?_)
              try simp only [z_rd, Nat.reduceEqDiff, ↓reduceIte, eq_self] at hr60 ⊢
              refine z_iload_n dX0_note_63 rfl ?_
              refine z_iast dX0_note_64 rfl (Nat.le_of_ble_eq_true rfl) (by omega) ⟨by omega, by omega⟩ ?_
              refine z_aload_n dX0_note_65 rfl ?_
              refine z_getR dX0_note_66 gX0_21 rfl (Nat.le_of_ble_eq_true rfl) rfl ?_
              refine z_aload_n dX0_note_69 rfl ?_
              refine z_getI dX0_note_70 gX0_28 rfl (Nat.le_of_ble_eq_true rfl) rfl (fun hr70 => ?_)
              try simp only [z_rd, Nat.reduceEqDiff, ↓reduceIte, eq_self] at hr70 ⊢
              refine z_iload dX0_note_73 rfl ?_
              refine z_iast dX0_note_75 rfl (Nat.le_of_ble_eq_true rfl) (by omega) ⟨by omega, by omega⟩ ?_
              refine z_aload_n dX0_note_76 rfl ?_
              refine z_dup dX0_note_77 rfl ?_
              refine z_getI dX0_note_78 gX0_28 rfl (Nat.le_of_ble_eq_true rfl) rfl (fun hr78 => ?_)
              try simp only [z_rd, Nat.reduceEqDiff, ↓reduceIte, eq_self] at hr78 ⊢
              refine z_iconst dX0_note_81 ?_
              refine z_iadd dX0_note_82 ?_
              refine z_putI dX0_note_83 pX0_28 rfl (Nat.le_of_ble_eq_true rfl) rfl ⟨by omega, by omega⟩ ?_
              exact z_vret dX0_note_86 (by first | exact Or.inl ⟨by omega, rfl⟩ | exact Or.inr ⟨by omega, rfl⟩)
          · first
            | exfalso; omega
            | skip
              exact z_vret dX0_note_34 (by first | exact Or.inl ⟨by omega, rfl⟩ | exact Or.inr ⟨by omega, rfl⟩)
/-- a kept change speaks of something that there is -/
abbrev chOK (σ : Sto) (j : Nat) : Prop := (0 ≤ σ 22 j ∧ σ 22 j < 8) ∧ (0 ≤ σ 21 j ∧ σ 21 j < 12) ∧ ∃ b, bearR σ (σ 22 j) b ∧ σ 21 j < b
set_option maxRecDepth 20000 in
theorem c_X0_stepBack {d : Nat} {σ : Sto} (hd : 0 ≤ σ 2 4 ∧ σ 2 4 ≤ 40) (hu : 0 ≤ σ 2 5 ∧ σ 2 5 ≤ 40) (hok : 1 ≤ σ 2 4 → chOK σ (σ 2 4 - 1).toNat) : m_X0_stepBack d [zR 2, zR 1] σ (qI fun z σ' => (σ 2 4 = 0 ∧ z = -5 ∧ σ' = σ) ∨ (1 ≤ σ 2 4 ∧ z = σ 2 4 - 1 ∧ σ' = z_put (z_put (z_put σ 2 4 (σ 2 4 - 1)) 2 5 (σ 2 5 + 1)) (13 + (σ 22 (σ 2 4 - 1).toNat).toNat) (σ 21 (σ 2 4 - 1).toNat).toNat (σ 23 (σ 2 4 - 1).toNat))) := by
  refine z_does (L := [some (zR 2), some (zR 1)]) rfl (by decide +kernel) (Nat.le_of_ble_eq_true rfl) rfl ?_
  refine z_aload_n dX0_stepBack_0 rfl ?_
  refine z_getI dX0_stepBack_1 gX0_28 rfl (Nat.le_of_ble_eq_true rfl) rfl (fun hr1 => ?_)
  refine z_iconst dX0_stepBack_4 ?_
  refine z_icmp_lt (tgt := 17) dX0_stepBack_5 (by decide) ⟨by omega, by omega⟩ ⟨by omega, by omega⟩ (fun h5 => ?_) (fun h5 => ?_)
  · first
    | exfalso; omega
    | skip
      refine z_bipush (v := -5) dX0_stepBack_17 (by decide +kernel) ?_
      exact z_iret dX0_stepBack_19 (by first | exact Or.inl ⟨by omega, rfl, rfl⟩ | exact Or.inr ⟨by omega, rfl, rfl⟩)
  · first
    | exfalso; omega
    | skip
      refine z_aload_n dX0_stepBack_8 rfl ?_
      refine z_getI dX0_stepBack_9 gX0_28 rfl (Nat.le_of_ble_eq_true rfl) rfl (fun hr9 => ?_)
      refine z_bipush (v := 40) dX0_stepBack_12 (by decide +kernel) ?_
      refine z_icmp_le (tgt := 20) dX0_stepBack_14 (by decide) ⟨by omega, by omega⟩ ⟨by omega, by omega⟩ (fun h14 => ?_) (fun h14 => ?_)
      · first
        | exfalso; omega
        | skip
          obtain ⟨o1, o2, o3⟩ := hok (by omega)
          refine z_aload_n dX0_stepBack_20 rfl ?_
          refine z_dup dX0_stepBack_21 rfl ?_
          refine z_getI dX0_stepBack_22 gX0_28 rfl (Nat.le_of_ble_eq_true rfl) rfl (fun hr22 => ?_)
          refine z_iconst dX0_stepBack_25 ?_
          refine z_isub dX0_stepBack_26 ?_
          refine z_putI dX0_stepBack_27 pX0_28 rfl (Nat.le_of_ble_eq_true rfl) rfl ⟨by omega, by omega⟩ ?_
          refine z_aload_n dX0_stepBack_30 rfl ?_
          refine z_dup dX0_stepBack_31 rfl ?_
          refine z_getI dX0_stepBack_32 gX0_24 rfl (Nat.le_of_ble_eq_true rfl) rfl (fun hr32 => ?_)
          try simp only [z_rd, Nat.reduceEqDiff, ↓reduceIte, eq_self] at hr32 ⊢
          refine z_iconst dX0_stepBack_35 ?_
          refine z_iadd dX0_stepBack_36 ?_
          refine z_putI dX0_stepBack_37 pX0_24 rfl (Nat.le_of_ble_eq_true rfl) rfl ⟨by omega, by omega⟩ ?_
          refine z_aload_n dX0_stepBack_40 rfl ?_
          refine z_aload_n dX0_stepBack_41 rfl ?_
          refine z_getR dX0_stepBack_42 gX0_11 rfl (Nat.le_of_ble_eq_true rfl) rfl ?_
          refine z_aload_n dX0_stepBack_45 rfl ?_
          refine z_getI dX0_stepBack_46 gX0_28 rfl (Nat.le_of_ble_eq_true rfl) rfl (fun hr46 => ?_)
          try simp only [z_rd, Nat.reduceEqDiff, ↓reduceIte, eq_self] at hr46 ⊢
          refine z_iald dX0_stepBack_49 rfl (Nat.le_of_ble_eq_true rfl) (by omega) (fun hr49 => ?_)
          try simp only [z_rd, Nat.reduceEqDiff, ↓reduceIte, eq_self] at hr49 ⊢
          refine z_aload_n dX0_stepBack_50 rfl ?_
          refine z_getR dX0_stepBack_51 gX0_15 rfl (Nat.le_of_ble_eq_true rfl) rfl ?_
          refine z_aload_n dX0_stepBack_54 rfl ?_
          refine z_getI dX0_stepBack_55 gX0_28 rfl (Nat.le_of_ble_eq_true rfl) rfl (fun hr55 => ?_)
          try simp only [z_rd, Nat.reduceEqDiff, ↓reduceIte, eq_self] at hr55 ⊢
          refine z_iald dX0_stepBack_58 rfl (Nat.le_of_ble_eq_true rfl) (by omega) (fun hr58 => ?_)
          try simp only [z_rd, Nat.reduceEqDiff, ↓reduceIte, eq_self] at hr58 ⊢
          refine z_aload_n dX0_stepBack_59 rfl ?_
          refine z_getR dX0_stepBack_60 gX0_18 rfl (Nat.le_of_ble_eq_true rfl) rfl ?_
          refine z_aload_n dX0_stepBack_63 rfl ?_
          refine z_getI dX0_stepBack_64 gX0_28 rfl (Nat.le_of_ble_eq_true rfl) rfl (fun hr64 => ?_)
          try simp only [z_rd, Nat.reduceEqDiff, ↓reduceIte, eq_self] at hr64 ⊢
          refine z_iald dX0_stepBack_67 rfl (Nat.le_of_ble_eq_true rfl) (by omega) (fun hr67 => ?_)
          try simp only [z_rd, Nat.reduceEqDiff, ↓reduceIte, eq_self] at hr67 ⊢
          refine z_callVV (d := d + 2) (av := [_, _, _]) dX0_stepBack_68 vX0_34 rfl (Nat.le_of_ble_eq_true rfl) rfl rfl rfl (Nat.le_of_ble_eq_true rfl) (Nat.le_refl _) (c_X7_set (by omega) (by omega) (by simp only [bearR, z_rd, Nat.reduceEqDiff, ↓reduceIte, eq_self]; exact o3) (by omega)) (fun σ68 h68 => ?_)
          subst h68
          refine z_aload_n dX0_stepBack_71 rfl ?_
          refine z_getI dX0_stepBack_72 gX0_28 rfl (Nat.le_of_ble_eq_true rfl) rfl (fun hr72 => ?_)
          try simp only [z_rd, Nat.reduceEqDiff, ↓reduceIte, eq_self] at hr72 ⊢
          have e13 : ¬ (2 = 13 + (σ 22 (σ 2 4 - 1).toNat).toNat) := by omega
          simp only [z_rd, e13, Nat.reduceEqDiff, ↓reduceIte, eq_self]
          exact z_iret dX0_stepBack_75 (by first | exact Or.inl ⟨by omega, rfl, rfl⟩ | exact Or.inr ⟨by omega, rfl, rfl⟩)
      · first
        | exfalso; omega
        | skip
          refine z_bipush (v := -5) dX0_stepBack_17 (by decide +kernel) ?_
          exact z_iret dX0_stepBack_19 (by first | exact Or.inl ⟨by omega, rfl, rfl⟩ | exact Or.inr ⟨by omega, rfl, rfl⟩)
set_option maxRecDepth 20000 in
theorem c_X0_stepOn {d : Nat} {σ : Sto} (hd : 0 ≤ σ 2 4 ∧ σ 2 4 ≤ 40) (hu : 0 ≤ σ 2 5 ∧ σ 2 5 + σ 2 4 ≤ 40) (hok : 1 ≤ σ 2 5 → chOK σ (σ 2 4).toNat) : m_X0_stepOn d [zR 2, zR 1] σ (qI fun z σ' => (σ 2 5 = 0 ∧ z = -5 ∧ σ' = σ) ∨ (1 ≤ σ 2 5 ∧ z = σ 2 5 - 1 ∧ σ' = z_put (z_put (z_put σ (13 + (σ 22 (σ 2 4).toNat).toNat) (σ 21 (σ 2 4).toNat).toNat (σ 24 (σ 2 4).toNat)) 2 4 (σ 2 4 + 1)) 2 5 (σ 2 5 - 1))) := by
  refine z_does (L := [some (zR 2), some (zR 1)]) rfl (by decide +kernel) (Nat.le_of_ble_eq_true rfl) rfl ?_
  refine z_aload_n dX0_stepOn_0 rfl ?_
  refine z_getI dX0_stepOn_1 gX0_24 rfl (Nat.le_of_ble_eq_true rfl) rfl (fun hr1 => ?_)
  refine z_iconst dX0_stepOn_4 ?_
  refine z_icmp_lt (tgt := 24) dX0_stepOn_5 (by decide) ⟨by omega, by omega⟩ ⟨by omega, by omega⟩ (fun h5 => ?_) (fun h5 => ?_)
  · first
    | exfalso; omega
    | skip
      refine z_bipush (v := -5) dX0_stepOn_24 (by decide +kernel) ?_
      exact z_iret dX0_stepOn_26 (by first | exact Or.inl ⟨by omega, rfl, rfl⟩ | exact Or.inr ⟨by omega, rfl, rfl⟩)
  · first
    | exfalso; omega
    | skip
      refine z_aload_n dX0_stepOn_8 rfl ?_
      refine z_getI dX0_stepOn_9 gX0_28 rfl (Nat.le_of_ble_eq_true rfl) rfl (fun hr9 => ?_)
      refine z_if_lt (tgt := 24) dX0_stepOn_12 (by decide) ⟨by omega, by omega⟩ (fun h12 => ?_) (fun h12 => ?_)
      · first
        | exfalso; omega
        | skip
          refine z_bipush (v := -5) dX0_stepOn_24 (by decide +kernel) ?_
          exact z_iret dX0_stepOn_26 (by first | exact Or.inl ⟨by omega, rfl, rfl⟩ | exact Or.inr ⟨by omega, rfl, rfl⟩)
      · first
        | exfalso; omega
        | skip
          refine z_aload_n dX0_stepOn_15 rfl ?_
          refine z_getI dX0_stepOn_16 gX0_28 rfl (Nat.le_of_ble_eq_true rfl) rfl (fun hr16 => ?_)
          refine z_bipush (v := 40) dX0_stepOn_19 (by decide +kernel) ?_
          refine z_icmp_lt (tgt := 27) dX0_stepOn_21 (by decide) ⟨by omega, by omega⟩ ⟨by omega, by omega⟩ (fun h21 => ?_) (fun h21 => ?_)
          · first
            | exfalso; omega
            | skip
              obtain ⟨o1, o2, o3⟩ := hok (by omega)
              refine z_aload_n dX0_stepOn_27 rfl ?_
              refine z_aload_n dX0_stepOn_28 rfl ?_
              refine z_getR dX0_stepOn_29 gX0_11 rfl (Nat.le_of_ble_eq_true rfl) rfl ?_
              refine z_aload_n dX0_stepOn_32 rfl ?_
              refine z_getI dX0_stepOn_33 gX0_28 rfl (Nat.le_of_ble_eq_true rfl) rfl (fun hr33 => ?_)
              refine z_iald dX0_stepOn_36 rfl (Nat.le_of_ble_eq_true rfl) (by omega) (fun hr36 => ?_)
              refine z_aload_n dX0_stepOn_37 rfl ?_
              refine z_getR dX0_stepOn_38 gX0_15 rfl (Nat.le_of_ble_eq_true rfl) rfl ?_
              refine z_aload_n dX0_stepOn_41 rfl ?_
              refine z_getI dX0_stepOn_42 gX0_28 rfl (Nat.le_of_ble_eq_true rfl) rfl (fun hr42 => ?_)
              refine z_iald dX0_stepOn_45 rfl (Nat.le_of_ble_eq_true rfl) (by omega) (fun hr45 => ?_)
              refine z_aload_n dX0_stepOn_46 rfl ?_
              refine z_getR dX0_stepOn_47 gX0_21 rfl (Nat.le_of_ble_eq_true rfl) rfl ?_
              refine z_aload_n dX0_stepOn_50 rfl ?_
              refine z_getI dX0_stepOn_51 gX0_28 rfl (Nat.le_of_ble_eq_true rfl) rfl (fun hr51 => ?_)
              refine z_iald dX0_stepOn_54 rfl (Nat.le_of_ble_eq_true rfl) (by omega) (fun hr54 => ?_)
              refine z_callVV (d := d + 2) (av := [_, _, _]) dX0_stepOn_55 vX0_34 rfl (Nat.le_of_ble_eq_true rfl) rfl rfl rfl (Nat.le_of_ble_eq_true rfl) (Nat.le_refl _) (c_X7_set (by omega) (by omega) o3 (by omega)) (fun σ55 h55 => ?_)
              subst h55
              have e13 : ¬ (2 = 13 + (σ 22 (σ 2 4).toNat).toNat) := by omega
              refine z_aload_n dX0_stepOn_58 rfl ?_
              refine z_dup dX0_stepOn_59 rfl ?_
              refine z_getI dX0_stepOn_60 gX0_28 rfl (Nat.le_of_ble_eq_true rfl) rfl (fun hr60 => ?_)
              try simp only [z_rd, Nat.reduceEqDiff, ↓reduceIte, eq_self] at hr60 ⊢
              try simp only [z_rd, e13, Nat.reduceEqDiff, ↓reduceIte, eq_self] at hr60 ⊢
              refine z_iconst dX0_stepOn_63 ?_
              refine z_iadd dX0_stepOn_64 ?_
              refine z_putI dX0_stepOn_65 pX0_28 rfl (Nat.le_of_ble_eq_true rfl) rfl ⟨by omega, by omega⟩ ?_
              refine z_aload_n dX0_stepOn_68 rfl ?_
              refine z_dup dX0_stepOn_69 rfl ?_
              refine z_getI dX0_stepOn_70 gX0_24 rfl (Nat.le_of_ble_eq_true rfl) rfl (fun hr70 => ?_)
              try simp only [z_rd, Nat.reduceEqDiff, ↓reduceIte, eq_self] at hr70 ⊢
              try simp only [z_rd, e13, Nat.reduceEqDiff, ↓reduceIte, eq_self] at hr70 ⊢
              refine z_iconst dX0_stepOn_73 ?_
              refine z_isub dX0_stepOn_74 ?_
              refine z_putI dX0_stepOn_75 pX0_24 rfl (Nat.le_of_ble_eq_true rfl) rfl ⟨by omega, by omega⟩ ?_
              refine z_aload_n dX0_stepOn_78 rfl ?_
              refine z_getI dX0_stepOn_79 gX0_24 rfl (Nat.le_of_ble_eq_true rfl) rfl (fun hr79 => ?_)
              try simp only [z_rd, Nat.reduceEqDiff, ↓reduceIte, eq_self] at hr79 ⊢
              try simp only [z_rd, e13, Nat.reduceEqDiff, ↓reduceIte, eq_self] at hr79 ⊢
              exact z_iret dX0_stepOn_82 (by first | exact Or.inl ⟨by omega, rfl, rfl⟩ | exact Or.inr ⟨by omega, rfl, rfl⟩)
          · first
            | exfalso; omega
            | skip
              refine z_bipush (v := -5) dX0_stepOn_24 (by decide +kernel) ?_
              exact z_iret dX0_stepOn_26 (by first | exact Or.inl ⟨by omega, rfl, rfl⟩ | exact Or.inr ⟨by omega, rfl, rfl⟩)
