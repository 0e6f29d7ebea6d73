/-! ===== The reference: words, meshes, people, numbers ===== -/
def nwM (σ : Sto) (s h w : Int) : Sto := z_put (z_put (z_put (z_put (z_put (z_put σ 82 (σ 9 1).toNat s) 83 (σ 9 1).toNat h) 84 (σ 9 1).toNat w) 85 (σ 9 1).toNat 2) 86 (σ 9 1).toNat 0) 9 1 (σ 9 1 + 1)
set_option maxRecDepth 20000 in
theorem c_X9_addWord {d : Nat} {σ : Sto} {s h w : Int} (hc : 0 ≤ σ 9 1 ∧ σ 9 1 < 12) (hs : inR s) (hh : inR h) (hw : inR w) : m_X9_addWord d [zR 9, zI s, zI h, zI w] σ (qI fun z σ' => z = σ 9 1 ∧ σ' = nwM σ s h w) := by
  refine z_does (L := [some (zR 9), some (zI s), some (zI h), some (zI w)]) rfl (by decide +kernel) (Nat.le_of_ble_eq_true rfl) rfl ?_
  refine z_aload_n dX9_addWord_0 rfl ?_
  refine z_getR dX9_addWord_1 gX9_9 rfl (Nat.le_of_ble_eq_true rfl) rfl ?_
  refine z_aload_n dX9_addWord_4 rfl ?_
  refine z_getI dX9_addWord_5 gX9_140 rfl (Nat.le_of_ble_eq_true rfl) rfl (fun hr5 => ?_)
  refine z_iload_n dX9_addWord_8 rfl ?_
  refine z_iast dX9_addWord_9 rfl (Nat.le_of_ble_eq_true rfl) (by omega) ⟨by omega, by omega⟩ ?_
  refine z_aload_n dX9_addWord_10 rfl ?_
  refine z_getR dX9_addWord_11 gX9_15 rfl (Nat.le_of_ble_eq_true rfl) rfl ?_
  refine z_aload_n dX9_addWord_14 rfl ?_
  refine z_getI dX9_addWord_15 gX9_140 rfl (Nat.le_of_ble_eq_true rfl) rfl (fun hr15 => ?_)
  try simp only [z_rd, Nat.reduceEqDiff, ↓reduceIte, eq_self] at hr15 ⊢
  refine z_iload_n dX9_addWord_18 rfl ?_
  refine z_iast dX9_addWord_19 rfl (Nat.le_of_ble_eq_true rfl) (by omega) ⟨by omega, by omega⟩ ?_
  refine z_aload_n dX9_addWord_20 rfl ?_
  refine z_getR dX9_addWord_21 gX9_18 rfl (Nat.le_of_ble_eq_true rfl) rfl ?_
  refine z_aload_n dX9_addWord_24 rfl ?_
  refine z_getI dX9_addWord_25 gX9_140 rfl (Nat.le_of_ble_eq_true rfl) rfl (fun hr25 => ?_)
  try simp only [z_rd, Nat.reduceEqDiff, ↓reduceIte, eq_self] at hr25 ⊢
  refine z_iload_n dX9_addWord_28 rfl ?_
  refine z_iast dX9_addWord_29 rfl (Nat.le_of_ble_eq_true rfl) (by omega) ⟨by omega, by omega⟩ ?_
  refine z_aload_n dX9_addWord_30 rfl ?_
  refine z_getR dX9_addWord_31 gX9_21 rfl (Nat.le_of_ble_eq_true rfl) rfl ?_
  refine z_aload_n dX9_addWord_34 rfl ?_
  refine z_getI dX9_addWord_35 gX9_140 rfl (Nat.le_of_ble_eq_true rfl) rfl (fun hr35 => ?_)
  try simp only [z_rd, Nat.reduceEqDiff, ↓reduceIte, eq_self] at hr35 ⊢
  refine z_iconst dX9_addWord_38 ?_
  refine z_iast dX9_addWord_39 rfl (Nat.le_of_ble_eq_true rfl) (by omega) ⟨by omega, by omega⟩ ?_
  refine z_aload_n dX9_addWord_40 rfl ?_
  refine z_getR dX9_addWord_41 gX9_24 rfl (Nat.le_of_ble_eq_true rfl) rfl ?_
  refine z_aload_n dX9_addWord_44 rfl ?_
  refine z_getI dX9_addWord_45 gX9_140 rfl (Nat.le_of_ble_eq_true rfl) rfl (fun hr45 => ?_)
  try simp only [z_rd, Nat.reduceEqDiff, ↓reduceIte, eq_self] at hr45 ⊢
  refine z_iconst dX9_addWord_48 ?_
  refine z_iast dX9_addWord_49 rfl (Nat.le_of_ble_eq_true rfl) (by omega) ⟨by omega, by omega⟩ ?_
  refine z_aload_n dX9_addWord_50 rfl ?_
  refine z_dup dX9_addWord_51 rfl ?_
  refine z_getI dX9_addWord_52 gX9_140 rfl (Nat.le_of_ble_eq_true rfl) rfl (fun hr52 => ?_)
  try simp only [z_rd, Nat.reduceEqDiff, ↓reduceIte, eq_self] at hr52 ⊢
  refine z_iconst dX9_addWord_55 ?_
  refine z_iadd dX9_addWord_56 ?_
  refine z_putI dX9_addWord_57 pX9_140 rfl (Nat.le_of_ble_eq_true rfl) rfl ⟨by omega, by omega⟩ ?_
  refine z_aload_n dX9_addWord_60 rfl ?_
  refine z_getI dX9_addWord_61 gX9_140 rfl (Nat.le_of_ble_eq_true rfl) rfl (fun hr61 => ?_)
  try simp only [z_rd, Nat.reduceEqDiff, ↓reduceIte, eq_self] at hr61 ⊢
  refine z_iconst dX9_addWord_64 ?_
  refine z_isub dX9_addWord_65 ?_
  exact z_iret dX9_addWord_66 ⟨by omega, rfl⟩
set_option maxRecDepth 20000 in
theorem c_X9_word {d : Nat} {σ : Sto} {s h : Int} (hc : 0 ≤ σ 9 1 ∧ σ 9 1 ≤ 12) (hs : inR s) (hh : inR h) : m_X9_word d [zR 9, zI s, zI h] σ (qI fun z σ' => (¬ (allowR 0 s ∧ allowR 1 h) ∧ z = -1 ∧ σ' = σ) ∨ ((allowR 0 s ∧ allowR 1 h) ∧ ((σ 9 1 = 12 ∧ z = -3 ∧ σ' = σ) ∨ (σ 9 1 < 12 ∧ z = σ 9 1 ∧ σ' = nwM σ s h 0)))) := by
  refine z_does (L := [some (zR 9), some (zI s), some (zI h)]) rfl (by decide +kernel) (Nat.le_of_ble_eq_true rfl) rfl ?_
  refine z_iload_n dX9_word_0 rfl ?_
  refine z_iconst dX9_word_1 ?_
  refine z_bipush (v := 9) dX9_word_2 (by decide +kernel) ?_
  refine z_callSI (d := d + 0) (av := [_, _, _]) dX9_word_4 sX9_143 rfl rfl (Nat.le_of_ble_eq_true rfl) (Nat.le_refl _) (c_X9_in (by omega) (by omega) (by omega)) (fun z4 σ4 h4 => ?_)
  obtain ⟨hs4, h4⟩ := h4
  subst σ4
  refine z_if_eq (tgt := 20) dX9_word_7 (by decide) ⟨by omega, by omega⟩ (fun h7 => ?_) (fun h7 => ?_)
  · skip
    refine z_iconst dX9_word_20 ?_
    exact z_iret dX9_word_21 (Or.inl ⟨by omega, rfl, rfl⟩)
  · skip
    refine z_iload_n dX9_word_10 rfl ?_
    refine z_iconst dX9_word_11 ?_
    refine z_bipush (v := 9) dX9_word_12 (by decide +kernel) ?_
    refine z_callSI (d := d + 0) (av := [_, _, _]) dX9_word_14 sX9_143 rfl rfl (Nat.le_of_ble_eq_true rfl) (Nat.le_refl _) (c_X9_in (by omega) (by omega) (by omega)) (fun z14 σ14 h14 => ?_)
    obtain ⟨hs14, h14⟩ := h14
    subst σ14
    refine z_if_ne (tgt := 22) dX9_word_17 (by decide) ⟨by omega, by omega⟩ (fun h17 => ?_) (fun h17 => ?_)
    · skip
      refine z_aload_n dX9_word_22 rfl ?_
      refine z_getI dX9_word_23 gX9_140 rfl (Nat.le_of_ble_eq_true rfl) rfl (fun hr23 => ?_)
      refine z_bipush (v := 12) dX9_word_26 (by decide +kernel) ?_
      refine z_icmp_ne (tgt := 36) dX9_word_28 (by decide) ⟨by omega, by omega⟩ ⟨by omega, by omega⟩ (fun h28 => ?_) (fun h28 => ?_)
      · skip
        refine z_aload_n dX9_word_36 rfl ?_
        refine z_iload_n dX9_word_37 rfl ?_
        refine z_iload_n dX9_word_38 rfl ?_
        refine z_iconst dX9_word_39 ?_
        refine z_callVI (d := d + 0) (av := [_, _, _]) dX9_word_40 vX9_150 rfl (Nat.le_of_ble_eq_true rfl) rfl rfl rfl (Nat.le_of_ble_eq_true rfl) (Nat.le_refl _) (c_X9_addWord (by omega) (by omega) (by omega) (by omega)) (fun z40 σ40 h40 => ?_)
        obtain ⟨rfl, hs40⟩ := h40
        subst σ40
        exact z_iret dX9_word_43 (by
          first
          | exact Or.inr ⟨by omega, Or.inl ⟨by omega, rfl, rfl⟩⟩
          | exact Or.inr ⟨by omega, Or.inr ⟨by omega, rfl, rfl⟩⟩)
      · skip
        refine z_bipush (v := -3) dX9_word_31 (by decide +kernel) ?_
        refine z_goto (tgt := 43) dX9_word_33 (by decide) ?_
        exact z_iret dX9_word_43 (by
          first
          | exact Or.inr ⟨by omega, Or.inl ⟨by omega, rfl, rfl⟩⟩
          | exact Or.inr ⟨by omega, Or.inr ⟨by omega, rfl, rfl⟩⟩)
    · skip
      refine z_iconst dX9_word_20 ?_
      exact z_iret dX9_word_21 (Or.inl ⟨by omega, rfl, rfl⟩)
def nmM (σ : Sto) (f : Int) : Sto := z_put (z_put (z_put (z_put σ 87 (σ 9 7).toNat f) 88 (σ 9 7).toNat 0) 89 (σ 9 7).toNat 0) 9 7 (σ 9 7 + 1)
set_option maxRecDepth 20000 in
theorem c_X9_mesh {d : Nat} {σ : Sto} {f : Int} (hc : 0 ≤ σ 9 7 ∧ σ 9 7 ≤ 5) (hf : inR f) : m_X9_mesh d [zR 9, zI f] σ (qI fun z σ' => (¬ allowR 5 f ∧ z = -1 ∧ σ' = σ) ∨ (allowR 5 f ∧ ((σ 9 7 = 5 ∧ z = -3 ∧ σ' = σ) ∨ (σ 9 7 < 5 ∧ z = σ 9 7 ∧ σ' = nmM σ f)))) := by
  refine z_does (L := [some (zR 9), some (zI f)]) rfl (by decide +kernel) (Nat.le_of_ble_eq_true rfl) rfl ?_
  refine z_iload_n dX9_mesh_0 rfl ?_
  refine z_iconst dX9_mesh_1 ?_
  refine z_bipush (v := 9) dX9_mesh_2 (by decide +kernel) ?_
  refine z_callSI (d := d + 0) (av := [_, _, _]) dX9_mesh_4 sX9_143 rfl rfl (Nat.le_of_ble_eq_true rfl) (Nat.le_refl _) (c_X9_in (by omega) (by omega) (by omega)) (fun z4 σ4 h4 => ?_)
  obtain ⟨hs4, h4⟩ := h4
  subst σ4
  refine z_if_ne (tgt := 12) dX9_mesh_7 (by decide) ⟨by omega, by omega⟩ (fun h7 => ?_) (fun h7 => ?_)
  · skip
    refine z_aload_n dX9_mesh_12 rfl ?_
    refine z_getI dX9_mesh_13 gX9_147 rfl (Nat.le_of_ble_eq_true rfl) rfl (fun hr13 => ?_)
    refine z_iconst dX9_mesh_16 ?_
    refine z_icmp_ne (tgt := 23) dX9_mesh_17 (by decide) ⟨by omega, by omega⟩ ⟨by omega, by omega⟩ (fun h17 => ?_) (fun h17 => ?_)
    · skip
      refine z_aload_n dX9_mesh_23 rfl ?_
      refine z_getR dX9_mesh_24 gX9_27 rfl (Nat.le_of_ble_eq_true rfl) rfl ?_
      refine z_aload_n dX9_mesh_27 rfl ?_
      refine z_getI dX9_mesh_28 gX9_147 rfl (Nat.le_of_ble_eq_true rfl) rfl (fun hr28 => ?_)
      refine z_iload_n dX9_mesh_31 rfl ?_
      refine z_iast dX9_mesh_32 rfl (Nat.le_of_ble_eq_true rfl) (by omega) ⟨by omega, by omega⟩ ?_
      refine z_aload_n dX9_mesh_33 rfl ?_
      refine z_getR dX9_mesh_34 gX9_30 rfl (Nat.le_of_ble_eq_true rfl) rfl ?_
      refine z_aload_n dX9_mesh_37 rfl ?_
      refine z_getI dX9_mesh_38 gX9_147 rfl (Nat.le_of_ble_eq_true rfl) rfl (fun hr38 => ?_)
      try simp only [z_rd, Nat.reduceEqDiff, ↓reduceIte, eq_self] at hr38 ⊢
      refine z_iconst dX9_mesh_41 ?_
      refine z_iast dX9_mesh_42 rfl (Nat.le_of_ble_eq_true rfl) (by omega) ⟨by omega, by omega⟩ ?_
      refine z_aload_n dX9_mesh_43 rfl ?_
      refine z_getR dX9_mesh_44 gX9_33 rfl (Nat.le_of_ble_eq_true rfl) rfl ?_
      refine z_aload_n dX9_mesh_47 rfl ?_
      refine z_getI dX9_mesh_48 gX9_147 rfl (Nat.le_of_ble_eq_true rfl) rfl (fun hr48 => ?_)
      try simp only [z_rd, Nat.reduceEqDiff, ↓reduceIte, eq_self] at hr48 ⊢
      refine z_iconst dX9_mesh_51 ?_
      refine z_iast dX9_mesh_52 rfl (Nat.le_of_ble_eq_true rfl) (by omega) ⟨by omega, by omega⟩ ?_
      refine z_aload_n dX9_mesh_53 rfl ?_
      refine z_dup dX9_mesh_54 rfl ?_
      refine z_getI dX9_mesh_55 gX9_147 rfl (Nat.le_of_ble_eq_true rfl) rfl (fun hr55 => ?_)
      try simp only [z_rd, Nat.reduceEqDiff, ↓reduceIte, eq_self] at hr55 ⊢
      refine z_iconst dX9_mesh_58 ?_
      refine z_iadd dX9_mesh_59 ?_
      refine z_putI dX9_mesh_60 pX9_147 rfl (Nat.le_of_ble_eq_true rfl) rfl ⟨by omega, by omega⟩ ?_
      refine z_aload_n dX9_mesh_63 rfl ?_
      refine z_getI dX9_mesh_64 gX9_147 rfl (Nat.le_of_ble_eq_true rfl) rfl (fun hr64 => ?_)
      try simp only [z_rd, Nat.reduceEqDiff, ↓reduceIte, eq_self] at hr64 ⊢
      refine z_iconst dX9_mesh_67 ?_
      refine z_isub dX9_mesh_68 ?_
      exact z_iret dX9_mesh_69 (Or.inr ⟨by omega, Or.inr ⟨by omega, by omega, rfl⟩⟩)
    · skip
      refine z_bipush (v := -3) dX9_mesh_20 (by decide +kernel) ?_
      exact z_iret dX9_mesh_22 (Or.inr ⟨by omega, Or.inl ⟨by omega, rfl, rfl⟩⟩)
  · skip
    refine z_iconst dX9_mesh_10 ?_
    exact z_iret dX9_mesh_11 (Or.inl ⟨by omega, rfl, rfl⟩)
def npM (σ : Sto) (f : Int) : Sto := z_put (z_put σ 90 (σ 9 11).toNat f) 9 11 (σ 9 11 + 1)
set_option maxRecDepth 20000 in
theorem c_X9_person {d : Nat} {σ : Sto} {f : Int} (hc : 0 ≤ σ 9 11 ∧ σ 9 11 ≤ 6) (hf : inR f) : m_X9_person d [zR 9, zI f] σ (qI fun z σ' => (¬ allowR 6 f ∧ z = -1 ∧ σ' = σ) ∨ (allowR 6 f ∧ ((σ 9 11 = 6 ∧ z = -3 ∧ σ' = σ) ∨ (σ 9 11 < 6 ∧ z = σ 9 11 ∧ σ' = npM σ f)))) := by
  refine z_does (L := [some (zR 9), some (zI f)]) rfl (by decide +kernel) (Nat.le_of_ble_eq_true rfl) rfl ?_
  refine z_iload_n dX9_person_0 rfl ?_
  refine z_iconst dX9_person_1 ?_
  refine z_bipush (v := 9) dX9_person_2 (by decide +kernel) ?_
  refine z_callSI (d := d + 0) (av := [_, _, _]) dX9_person_4 sX9_143 rfl rfl (Nat.le_of_ble_eq_true rfl) (Nat.le_refl _) (c_X9_in (by omega) (by omega) (by omega)) (fun z4 σ4 h4 => ?_)
  obtain ⟨hs4, h4⟩ := h4
  subst σ4
  refine z_if_ne (tgt := 12) dX9_person_7 (by decide) ⟨by omega, by omega⟩ (fun h7 => ?_) (fun h7 => ?_)
  · skip
    refine z_aload_n dX9_person_12 rfl ?_
    refine z_getI dX9_person_13 gX9_160 rfl (Nat.le_of_ble_eq_true rfl) rfl (fun hr13 => ?_)
    refine z_bipush (v := 6) dX9_person_16 (by decide +kernel) ?_
    refine z_icmp_ne (tgt := 24) dX9_person_18 (by decide) ⟨by omega, by omega⟩ ⟨by omega, by omega⟩ (fun h18 => ?_) (fun h18 => ?_)
    · skip
      refine z_aload_n dX9_person_24 rfl ?_
      refine z_getR dX9_person_25 gX9_36 rfl (Nat.le_of_ble_eq_true rfl) rfl ?_
      refine z_aload_n dX9_person_28 rfl ?_
      refine z_getI dX9_person_29 gX9_160 rfl (Nat.le_of_ble_eq_true rfl) rfl (fun hr29 => ?_)
      refine z_iload_n dX9_person_32 rfl ?_
      refine z_iast dX9_person_33 rfl (Nat.le_of_ble_eq_true rfl) (by omega) ⟨by omega, by omega⟩ ?_
      refine z_aload_n dX9_person_34 rfl ?_
      refine z_dup dX9_person_35 rfl ?_
      refine z_getI dX9_person_36 gX9_160 rfl (Nat.le_of_ble_eq_true rfl) rfl (fun hr36 => ?_)
      try simp only [z_rd, Nat.reduceEqDiff, ↓reduceIte, eq_self] at hr36 ⊢
      refine z_iconst dX9_person_39 ?_
      refine z_iadd dX9_person_40 ?_
      refine z_putI dX9_person_41 pX9_160 rfl (Nat.le_of_ble_eq_true rfl) rfl ⟨by omega, by omega⟩ ?_
      refine z_aload_n dX9_person_44 rfl ?_
      refine z_getI dX9_person_45 gX9_160 rfl (Nat.le_of_ble_eq_true rfl) rfl (fun hr45 => ?_)
      try simp only [z_rd, Nat.reduceEqDiff, ↓reduceIte, eq_self] at hr45 ⊢
      refine z_iconst dX9_person_48 ?_
      refine z_isub dX9_person_49 ?_
      exact z_iret dX9_person_50 (Or.inr ⟨by omega, Or.inr ⟨by omega, by omega, rfl⟩⟩)
    · skip
      refine z_bipush (v := -3) dX9_person_21 (by decide +kernel) ?_
      exact z_iret dX9_person_23 (Or.inr ⟨by omega, Or.inl ⟨by omega, rfl, rfl⟩⟩)
  · skip
    refine z_iconst dX9_person_10 ?_
    exact z_iret dX9_person_11 (Or.inl ⟨by omega, rfl, rfl⟩)
set_option maxRecDepth 20000 in
theorem c_X9_isWord {d : Nat} {σ : Sto} {n : Int} (hc : 0 ≤ σ 9 1 ∧ σ 9 1 ≤ 12) (hn : inR n) : m_X9_isWord d [zR 9, zI n] σ (qI fun z σ' => σ' = σ ∧ yn z (0 ≤ n ∧ n < σ 9 1)) := by
  refine z_does (L := [some (zR 9), some (zI n)]) rfl (by decide +kernel) (Nat.le_of_ble_eq_true rfl) rfl ?_
  refine z_iload_n dX9_isWord_0 rfl ?_
  refine z_iconst dX9_isWord_1 ?_
  refine z_aload_n dX9_isWord_2 rfl ?_
  refine z_getI dX9_isWord_3 gX9_140 rfl (Nat.le_of_ble_eq_true rfl) rfl (fun hr3 => ?_)
  refine z_iconst dX9_isWord_6 ?_
  refine z_isub dX9_isWord_7 ?_
  refine z_callSI (d := d + 0) (av := [_, _, _]) dX9_isWord_8 sX9_143 rfl rfl (Nat.le_of_ble_eq_true rfl) (Nat.le_refl _) (c_X9_in (by omega) (by omega) (by omega)) (fun z8 σ8 h8 => ?_)
  obtain ⟨hs8, h8⟩ := h8
  subst σ8
  exact z_zret dX9_isWord_11 (by omega) ⟨rfl, by omega⟩
set_option maxRecDepth 20000 in
theorem c_X9_isMesh {d : Nat} {σ : Sto} {n : Int} (hc : 0 ≤ σ 9 7 ∧ σ 9 7 ≤ 5) (hn : inR n) : m_X9_isMesh d [zR 9, zI n] σ (qI fun z σ' => σ' = σ ∧ yn z (0 ≤ n ∧ n < σ 9 7)) := by
  refine z_does (L := [some (zR 9), some (zI n)]) rfl (by decide +kernel) (Nat.le_of_ble_eq_true rfl) rfl ?_
  refine z_iload_n dX9_isMesh_0 rfl ?_
  refine z_iconst dX9_isMesh_1 ?_
  refine z_aload_n dX9_isMesh_2 rfl ?_
  refine z_getI dX9_isMesh_3 gX9_147 rfl (Nat.le_of_ble_eq_true rfl) rfl (fun hr3 => ?_)
  refine z_iconst dX9_isMesh_6 ?_
  refine z_isub dX9_isMesh_7 ?_
  refine z_callSI (d := d + 0) (av := [_, _, _]) dX9_isMesh_8 sX9_143 rfl rfl (Nat.le_of_ble_eq_true rfl) (Nat.le_refl _) (c_X9_in (by omega) (by omega) (by omega)) (fun z8 σ8 h8 => ?_)
  obtain ⟨hs8, h8⟩ := h8
  subst σ8
  exact z_zret dX9_isMesh_11 (by omega) ⟨rfl, by omega⟩
set_option maxRecDepth 20000 in
theorem c_X9_isMeshOrNone {d : Nat} {σ : Sto} {n : Int} (hc : 0 ≤ σ 9 7 ∧ σ 9 7 ≤ 5) (hn : inR n) : m_X9_isMeshOrNone d [zR 9, zI n] σ (qI fun z σ' => σ' = σ ∧ yn z (-1 ≤ n ∧ n < σ 9 7)) := by
  refine z_does (L := [some (zR 9), some (zI n)]) rfl (by decide +kernel) (Nat.le_of_ble_eq_true rfl) rfl ?_
  refine z_iload_n dX9_isMeshOrNone_0 rfl ?_
  refine z_iconst dX9_isMeshOrNone_1 ?_
  refine z_aload_n dX9_isMeshOrNone_2 rfl ?_
  refine z_getI dX9_isMeshOrNone_3 gX9_147 rfl (Nat.le_of_ble_eq_true rfl) rfl (fun hr3 => ?_)
  refine z_iconst dX9_isMeshOrNone_6 ?_
  refine z_isub dX9_isMeshOrNone_7 ?_
  refine z_callSI (d := d + 0) (av := [_, _, _]) dX9_isMeshOrNone_8 sX9_143 rfl rfl (Nat.le_of_ble_eq_true rfl) (Nat.le_refl _) (c_X9_in (by omega) (by omega) (by omega)) (fun z8 σ8 h8 => ?_)
  obtain ⟨hs8, h8⟩ := h8
  subst σ8
  exact z_zret dX9_isMeshOrNone_11 (by omega) ⟨rfl, by omega⟩
set_option maxRecDepth 20000 in
theorem c_X9_isBody {d : Nat} {σ : Sto} {n : Int} (hc : 0 ≤ σ 9 54 ∧ σ 9 54 ≤ 50) (hn : inR n) : m_X9_isBody d [zR 9, zI n] σ (qI fun z σ' => σ' = σ ∧ yn z (0 ≤ n ∧ n < σ 9 54)) := by
  refine z_does (L := [some (zR 9), some (zI n)]) rfl (by decide +kernel) (Nat.le_of_ble_eq_true rfl) rfl ?_
  refine z_iload_n dX9_isBody_0 rfl ?_
  refine z_iconst dX9_isBody_1 ?_
  refine z_aload_n dX9_isBody_2 rfl ?_
  refine z_getI dX9_isBody_3 gX9_407 rfl (Nat.le_of_ble_eq_true rfl) rfl (fun hr3 => ?_)
  refine z_iconst dX9_isBody_6 ?_
  refine z_isub dX9_isBody_7 ?_
  refine z_callSI (d := d + 0) (av := [_, _, _]) dX9_isBody_8 sX9_143 rfl rfl (Nat.le_of_ble_eq_true rfl) (Nat.le_refl _) (c_X9_in (by omega) (by omega) (by omega)) (fun z8 σ8 h8 => ?_)
  obtain ⟨hs8, h8⟩ := h8
  subst σ8
  exact z_zret dX9_isBody_11 (by omega) ⟨rfl, by omega⟩
set_option maxRecDepth 20000 in
theorem c_X9_isShelf {d : Nat} {σ : Sto} {n : Int} (hn : inR n) : m_X9_isShelf d [zI n] σ (qI fun z σ' => σ' = σ ∧ yn z (0 ≤ n ∧ n < 6)) := by
  refine z_does (L := [some (zI n)]) rfl (by decide +kernel) (Nat.le_of_ble_eq_true rfl) rfl ?_
  refine z_iload_n dX9_isShelf_0 rfl ?_
  refine z_iconst dX9_isShelf_1 ?_
  refine z_iconst dX9_isShelf_2 ?_
  refine z_callSI (d := d + 0) (av := [_, _, _]) dX9_isShelf_3 sX9_143 rfl rfl (Nat.le_of_ble_eq_true rfl) (Nat.le_refl _) (c_X9_in (by omega) (by omega) (by omega)) (fun z3 σ3 h3 => ?_)
  obtain ⟨hs3, h3⟩ := h3
  subst σ3
  exact z_zret dX9_isShelf_6 (by omega) ⟨rfl, by omega⟩
set_option maxRecDepth 20000 in
theorem c_X9_mayHave {d : Nat} {σ : Sto} {w v : Int} (hw : 0 ≤ w ∧ w < 8) (hv : inR v) : m_X9_mayHave d [zI w, zI v] σ (qI fun z σ' => σ' = σ ∧ yn z (allowR w v)) := by
  refine z_does (L := [some (zI w), some (zI v)]) rfl (by decide +kernel) (Nat.le_of_ble_eq_true rfl) rfl ?_
  refine z_iload_n dX9_mayHave_0 rfl ?_
  refine z_iconst dX9_mayHave_1 ?_
  refine z_icmp_ne (tgt := 14) dX9_mayHave_2 (by decide) ⟨by omega, by omega⟩ ⟨by omega, by omega⟩ (fun h2 => ?_) (fun h2 => ?_)
  · skip
    refine z_iload_n dX9_mayHave_14 rfl ?_
    refine z_iconst dX9_mayHave_15 ?_
    refine z_icmp_ne (tgt := 28) dX9_mayHave_16 (by decide) ⟨by omega, by omega⟩ ⟨by omega, by omega⟩ (fun h16 => ?_) (fun h16 => ?_)
    · skip
      refine z_iload_n dX9_mayHave_28 rfl ?_
      refine z_bipush (v := 7) dX9_mayHave_29 (by decide +kernel) ?_
      refine z_icmp_ne (tgt := 44) dX9_mayHave_31 (by decide) ⟨by omega, by omega⟩ ⟨by omega, by omega⟩ (fun h31 => ?_) (fun h31 => ?_)
      · skip
        refine z_iload_n dX9_mayHave_44 rfl ?_
        refine z_iconst dX9_mayHave_45 ?_
        refine z_bipush (v := 9) dX9_mayHave_46 (by decide +kernel) ?_
        refine z_callSI (d := d + 0) (av := [_, _, _]) dX9_mayHave_48 sX9_143 rfl rfl (Nat.le_of_ble_eq_true rfl) (Nat.le_refl _) (c_X9_in (by omega) (by omega) (by omega)) (fun z48 σ48 h48 => ?_)
        obtain ⟨hs48, h48⟩ := h48
        subst σ48
        exact z_zret dX9_mayHave_51 (by omega) ⟨rfl, by omega⟩
      · skip
        refine z_iload_n dX9_mayHave_34 rfl ?_
        refine z_iconst dX9_mayHave_35 ?_
        refine z_bipush (v := 20) dX9_mayHave_36 (by decide +kernel) ?_
        refine z_callSI (d := d + 0) (av := [_, _, _]) dX9_mayHave_38 sX9_143 rfl rfl (Nat.le_of_ble_eq_true rfl) (Nat.le_refl _) (c_X9_in (by omega) (by omega) (by omega)) (fun z38 σ38 h38 => ?_)
        obtain ⟨hs38, h38⟩ := h38
        subst σ38
        refine z_goto (tgt := 51) dX9_mayHave_41 (by decide) ?_
        exact z_zret dX9_mayHave_51 (by omega) ⟨rfl, by omega⟩
    · skip
      refine z_iload_n dX9_mayHave_19 rfl ?_
      refine z_iconst dX9_mayHave_20 ?_
      refine z_iconst dX9_mayHave_21 ?_
      refine z_callSI (d := d + 0) (av := [_, _, _]) dX9_mayHave_22 sX9_143 rfl rfl (Nat.le_of_ble_eq_true rfl) (Nat.le_refl _) (c_X9_in (by omega) (by omega) (by omega)) (fun z22 σ22 h22 => ?_)
      obtain ⟨hs22, h22⟩ := h22
      subst σ22
      refine z_goto (tgt := 51) dX9_mayHave_25 (by decide) ?_
      exact z_zret dX9_mayHave_51 (by omega) ⟨rfl, by omega⟩
  · skip
    refine z_iload_n dX9_mayHave_5 rfl ?_
    refine z_iconst dX9_mayHave_6 ?_
    refine z_iconst dX9_mayHave_7 ?_
    refine z_callSI (d := d + 0) (av := [_, _, _]) dX9_mayHave_8 sX9_143 rfl rfl (Nat.le_of_ble_eq_true rfl) (Nat.le_refl _) (c_X9_in (by omega) (by omega) (by omega)) (fun z8 σ8 h8 => ?_)
    obtain ⟨hs8, h8⟩ := h8
    subst σ8
    refine z_goto (tgt := 51) dX9_mayHave_11 (by decide) ?_
    exact z_zret dX9_mayHave_51 (by omega) ⟨rfl, by omega⟩
/-- which thing's numbers the reference has -/
def bearM (σ : Sto) (w : Int) : Int := if w = 5 then σ 9 7 else if w = 6 then σ 9 11 else if w = 7 then 1 else σ 9 1
def hasM (σ : Sto) (n w : Int) : Prop := 0 ≤ w ∧ w < 8 ∧ 0 ≤ n ∧ n < bearM σ w
set_option maxRecDepth 20000 in
theorem c_X9_isOne {d : Nat} {σ : Sto} {n w : Int} (hc : (0 ≤ σ 9 1 ∧ σ 9 1 ≤ 12) ∧ (0 ≤ σ 9 7 ∧ σ 9 7 ≤ 5) ∧ (0 ≤ σ 9 11 ∧ σ 9 11 ≤ 6)) (hn : inR n) (hw : inR w) : m_X9_isOne d [zR 9, zI n, zI w] σ (qI fun z σ' => σ' = σ ∧ yn z (hasM σ n w)) := by
  refine z_does (L := [some (zR 9), some (zI n), some (zI w)]) rfl (by decide +kernel) (Nat.le_of_ble_eq_true rfl) rfl ?_
  refine z_iload_n dX9_isOne_0 rfl ?_
  refine z_iconst dX9_isOne_1 ?_
  refine z_iconst dX9_isOne_2 ?_
  refine z_callSI (d := d + 1) (av := [_, _, _]) dX9_isOne_3 sX9_143 rfl rfl (Nat.le_of_ble_eq_true rfl) (Nat.le_refl _) (c_X9_in (by omega) (by omega) (by omega)) (fun z3 σ3 h3 => ?_)
  obtain ⟨hs3, h3⟩ := h3
  subst σ3
  refine z_if_eq (tgt := 17) dX9_isOne_6 (by decide) ⟨by omega, by omega⟩ (fun h6 => ?_) (fun h6 => ?_)
  · skip
    refine z_iload_n dX9_isOne_17 rfl ?_
    refine z_iconst dX9_isOne_18 ?_
    refine z_icmp_ne (tgt := 30) dX9_isOne_19 (by decide) ⟨by omega, by omega⟩ ⟨by omega, by omega⟩ (fun h19 => ?_) (fun h19 => ?_)
    · skip
      refine z_iload_n dX9_isOne_30 rfl ?_
      refine z_bipush (v := 6) dX9_isOne_31 (by decide +kernel) ?_
      refine z_icmp_ne (tgt := 50) dX9_isOne_33 (by decide) ⟨by omega, by omega⟩ ⟨by omega, by omega⟩ (fun h33 => ?_) (fun h33 => ?_)
      · skip
        refine z_iload_n dX9_isOne_50 rfl ?_
        refine z_bipush (v := 7) dX9_isOne_51 (by decide +kernel) ?_
        refine z_icmp_ne (tgt := 64) dX9_isOne_53 (by decide) ⟨by omega, by omega⟩ ⟨by omega, by omega⟩ (fun h53 => ?_) (fun h53 => ?_)
        · skip
          refine z_iconst dX9_isOne_64 ?_
          exact z_zret dX9_isOne_65 (by omega) ⟨rfl, by unfold hasM bearM; repeat (first | rw [if_pos (by omega)] | rw [if_neg (by omega)]); omega⟩
        · skip
          refine z_iload_n dX9_isOne_56 rfl ?_
          refine z_if_ne (tgt := 64) dX9_isOne_57 (by decide) ⟨by omega, by omega⟩ (fun h57 => ?_) (fun h57 => ?_)
          · skip
            refine z_iconst dX9_isOne_64 ?_
            exact z_zret dX9_isOne_65 (by omega) ⟨rfl, by unfold hasM bearM; repeat (first | rw [if_pos (by omega)] | rw [if_neg (by omega)]); omega⟩
          · skip
            refine z_iconst dX9_isOne_60 ?_
            refine z_goto (tgt := 65) dX9_isOne_61 (by decide) ?_
            exact z_zret dX9_isOne_65 (by omega) ⟨rfl, by unfold hasM bearM; repeat (first | rw [if_pos (by omega)] | rw [if_neg (by omega)]); omega⟩
      · skip
        refine z_iload_n dX9_isOne_36 rfl ?_
        refine z_iconst dX9_isOne_37 ?_
        refine z_aload_n dX9_isOne_38 rfl ?_
        refine z_getI dX9_isOne_39 gX9_160 rfl (Nat.le_of_ble_eq_true rfl) rfl (fun hr39 => ?_)
        refine z_iconst dX9_isOne_42 ?_
        refine z_isub dX9_isOne_43 ?_
        refine z_callSI (d := d + 1) (av := [_, _, _]) dX9_isOne_44 sX9_143 rfl rfl (Nat.le_of_ble_eq_true rfl) (Nat.le_refl _) (c_X9_in (by omega) (by omega) (by omega)) (fun z44 σ44 h44 => ?_)
        obtain ⟨hs44, h44⟩ := h44
        subst σ44
        refine z_goto (tgt := 65) dX9_isOne_47 (by decide) ?_
        exact z_zret dX9_isOne_65 (by omega) ⟨rfl, by unfold hasM bearM; repeat (first | rw [if_pos (by omega)] | rw [if_neg (by omega)]); omega⟩
    · skip
      refine z_aload_n dX9_isOne_22 rfl ?_
      refine z_iload_n dX9_isOne_23 rfl ?_
      refine z_callVI (d := d + 1) (av := [_]) dX9_isOne_24 vX9_180 rfl (Nat.le_of_ble_eq_true rfl) rfl rfl rfl (Nat.le_of_ble_eq_true rfl) (Nat.le_refl _) (c_X9_isMesh (by omega) (by omega)) (fun z24 σ24 h24 => ?_)
      obtain ⟨hs24, h24⟩ := h24
      subst σ24
      refine z_goto (tgt := 65) dX9_isOne_27 (by decide) ?_
      exact z_zret dX9_isOne_65 (by omega) ⟨rfl, by unfold hasM bearM; repeat (first | rw [if_pos (by omega)] | rw [if_neg (by omega)]); omega⟩
  · skip
    refine z_aload_n dX9_isOne_9 rfl ?_
    refine z_iload_n dX9_isOne_10 rfl ?_
    refine z_callVI (d := d + 1) (av := [_]) dX9_isOne_11 vX9_177 rfl (Nat.le_of_ble_eq_true rfl) rfl rfl rfl (Nat.le_of_ble_eq_true rfl) (Nat.le_refl _) (c_X9_isWord (by omega) (by omega)) (fun z11 σ11 h11 => ?_)
    obtain ⟨hs11, h11⟩ := h11
    subst σ11
    refine z_goto (tgt := 65) dX9_isOne_14 (by decide) ?_
    exact z_zret dX9_isOne_65 (by omega) ⟨rfl, by unfold hasM bearM; repeat (first | rw [if_pos (by omega)] | rw [if_neg (by omega)]); omega⟩
def celM (w : Int) : Nat := if w = 6 then 90 else 82 + w.toNat
def vaM (σ : Sto) (w n : Int) : Int := if w = 7 then σ 9 13 else σ (celM w) n.toNat
def lyM (σ : Sto) (w n v : Int) : Sto := if w = 7 then z_put σ 9 13 v else z_put σ (celM w) n.toNat v
abbrev placM (w n : Int) : Prop := 0 ≤ n ∧ ((w < 5 ∧ n < 12) ∨ (w = 5 ∧ n < 5) ∨ (w = 6 ∧ n < 6) ∨ (w = 7 ∧ n < 1))
set_option maxRecDepth 20000 in
theorem c_X9_valueAt {d : Nat} {σ : Sto} {w n : Int} (hw : 0 ≤ w ∧ w < 8) (hn : placM w n) (hI : ∀ k j, 82 ≤ k → k ≤ 90 → inR (σ k j)) (hB : inR (σ 9 13)) : m_X9_valueAt d [zR 9, zI w, zI n] σ (qI fun z σ' => z = vaM σ w n ∧ inR z ∧ σ' = σ) := by
  refine z_does (L := [some (zR 9), some (zI w), some (zI n)]) rfl (by decide +kernel) (Nat.le_of_ble_eq_true rfl) rfl ?_
  refine z_iload_n dX9_valueAt_0 rfl ?_
  refine sw_X9_valueAt_1 ⟨by omega, by omega⟩ (fun h1 => ?_) (fun h1 => ?_) (fun h1 => ?_) (fun h1 => ?_) (fun h1 => ?_) (fun h1 => ?_) (fun h1 => ?_) (fun h1 => ?_)
  · first
    | exfalso; omega
    | skip
      refine z_aload_n dX9_valueAt_44 rfl ?_
      refine z_getR dX9_valueAt_45 gX9_9 rfl (Nat.le_of_ble_eq_true rfl) rfl ?_
      refine z_iload_n dX9_valueAt_48 rfl ?_
      refine z_iald dX9_valueAt_49 rfl (Nat.le_of_ble_eq_true rfl) (by omega) (fun hr49 => ?_)
      exact z_iret dX9_valueAt_50 ⟨by unfold vaM; rw [if_neg (by omega)]; subst_vars; rfl, hI _ _ (by decide) (by decide), rfl⟩
  · first
    | exfalso; omega
    | skip
      refine z_aload_n dX9_valueAt_51 rfl ?_
      refine z_getR dX9_valueAt_52 gX9_15 rfl (Nat.le_of_ble_eq_true rfl) rfl ?_
      refine z_iload_n dX9_valueAt_55 rfl ?_
      refine z_iald dX9_valueAt_56 rfl (Nat.le_of_ble_eq_true rfl) (by omega) (fun hr56 => ?_)
      exact z_iret dX9_valueAt_57 ⟨by unfold vaM; rw [if_neg (by omega)]; subst_vars; rfl, hI _ _ (by decide) (by decide), rfl⟩
  · first
    | exfalso; omega
    | skip
      refine z_aload_n dX9_valueAt_58 rfl ?_
      refine z_getR dX9_valueAt_59 gX9_18 rfl (Nat.le_of_ble_eq_true rfl) rfl ?_
      refine z_iload_n dX9_valueAt_62 rfl ?_
      refine z_iald dX9_valueAt_63 rfl (Nat.le_of_ble_eq_true rfl) (by omega) (fun hr63 => ?_)
      exact z_iret dX9_valueAt_64 ⟨by unfold vaM; rw [if_neg (by omega)]; subst_vars; rfl, hI _ _ (by decide) (by decide), rfl⟩
  · first
    | exfalso; omega
    | skip
      refine z_aload_n dX9_valueAt_65 rfl ?_
      refine z_getR dX9_valueAt_66 gX9_21 rfl (Nat.le_of_ble_eq_true rfl) rfl ?_
      refine z_iload_n dX9_valueAt_69 rfl ?_
      refine z_iald dX9_valueAt_70 rfl (Nat.le_of_ble_eq_true rfl) (by omega) (fun hr70 => ?_)
      exact z_iret dX9_valueAt_71 ⟨by unfold vaM; rw [if_neg (by omega)]; subst_vars; rfl, hI _ _ (by decide) (by decide), rfl⟩
  · first
    | exfalso; omega
    | skip
      refine z_aload_n dX9_valueAt_72 rfl ?_
      refine z_getR dX9_valueAt_73 gX9_24 rfl (Nat.le_of_ble_eq_true rfl) rfl ?_
      refine z_iload_n dX9_valueAt_76 rfl ?_
      refine z_iald dX9_valueAt_77 rfl (Nat.le_of_ble_eq_true rfl) (by omega) (fun hr77 => ?_)
      exact z_iret dX9_valueAt_78 ⟨by unfold vaM; rw [if_neg (by omega)]; subst_vars; rfl, hI _ _ (by decide) (by decide), rfl⟩
  · first
    | exfalso; omega
    | skip
      refine z_aload_n dX9_valueAt_79 rfl ?_
      refine z_getR dX9_valueAt_80 gX9_27 rfl (Nat.le_of_ble_eq_true rfl) rfl ?_
      refine z_iload_n dX9_valueAt_83 rfl ?_
      refine z_iald dX9_valueAt_84 rfl (Nat.le_of_ble_eq_true rfl) (by omega) (fun hr84 => ?_)
      exact z_iret dX9_valueAt_85 ⟨by unfold vaM; rw [if_neg (by omega)]; subst_vars; rfl, hI _ _ (by decide) (by decide), rfl⟩
  · first
    | exfalso; omega
    | skip
      refine z_aload_n dX9_valueAt_86 rfl ?_
      refine z_getR dX9_valueAt_87 gX9_36 rfl (Nat.le_of_ble_eq_true rfl) rfl ?_
      refine z_iload_n dX9_valueAt_90 rfl ?_
      refine z_iald dX9_valueAt_91 rfl (Nat.le_of_ble_eq_true rfl) (by omega) (fun hr91 => ?_)
      exact z_iret dX9_valueAt_92 ⟨by unfold vaM; rw [if_neg (by omega)]; subst_vars; rfl, hI _ _ (by decide) (by decide), rfl⟩
  · first
    | exfalso; omega
    | skip
      refine z_aload_n dX9_valueAt_93 rfl ?_
      refine z_getI dX9_valueAt_94 gX9_39 rfl (Nat.le_of_ble_eq_true rfl) rfl (fun hr94 => ?_)
      exact z_iret dX9_valueAt_97 ⟨by unfold vaM; rw [if_pos (by omega)], hB, rfl⟩
set_option maxRecDepth 20000 in
theorem c_X9_lays {d : Nat} {σ : Sto} {w n v : Int} (hw : 0 ≤ w ∧ w < 8) (hn : placM w n) (hv : inR v) : m_X9_lays d [zR 9, zI w, zI n, zI v] σ (qV fun σ' => σ' = lyM σ w n v) := by
  refine z_does (L := [some (zR 9), some (zI w), some (zI n), some (zI v)]) rfl (by decide +kernel) (Nat.le_of_ble_eq_true rfl) rfl ?_
  refine z_iload_n dX9_lays_0 rfl ?_
  refine sw_X9_lays_1 ⟨by omega, by omega⟩ (fun h1 => ?_) (fun h1 => ?_) (fun h1 => ?_) (fun h1 => ?_) (fun h1 => ?_) (fun h1 => ?_) (fun h1 => ?_) (fun h1 => ?_)
  · first
    | exfalso; omega
    | skip
      refine z_aload_n dX9_lays_44 rfl ?_
      refine z_getR dX9_lays_45 gX9_9 rfl (Nat.le_of_ble_eq_true rfl) rfl ?_
      refine z_iload_n dX9_lays_48 rfl ?_
      refine z_iload_n dX9_lays_49 rfl ?_
      refine z_iast dX9_lays_50 rfl (Nat.le_of_ble_eq_true rfl) (by omega) ⟨by omega, by omega⟩ ?_
      refine z_goto (tgt := 119) dX9_lays_51 (by decide) ?_
      exact z_vret dX9_lays_119 (by
        unfold lyM
        first
        | (rw [if_pos (by omega)]; done)
        | (rw [if_neg (by omega)]; subst_vars; rfl))
  · first
    | exfalso; omega
    | skip
      refine z_aload_n dX9_lays_54 rfl ?_
      refine z_getR dX9_lays_55 gX9_15 rfl (Nat.le_of_ble_eq_true rfl) rfl ?_
      refine z_iload_n dX9_lays_58 rfl ?_
      refine z_iload_n dX9_lays_59 rfl ?_
      refine z_iast dX9_lays_60 rfl (Nat.le_of_ble_eq_true rfl) (by omega) ⟨by omega, by omega⟩ ?_
      refine z_goto (tgt := 119) dX9_lays_61 (by decide) ?_
      exact z_vret dX9_lays_119 (by
        unfold lyM
        first
        | (rw [if_pos (by omega)]; done)
        | (rw [if_neg (by omega)]; subst_vars; rfl))
  · first
    | exfalso; omega
    | skip
      refine z_aload_n dX9_lays_64 rfl ?_
      refine z_getR dX9_lays_65 gX9_18 rfl (Nat.le_of_ble_eq_true rfl) rfl ?_
      refine z_iload_n dX9_lays_68 rfl ?_
      refine z_iload_n dX9_lays_69 rfl ?_
      refine z_iast dX9_lays_70 rfl (Nat.le_of_ble_eq_true rfl) (by omega) ⟨by omega, by omega⟩ ?_
      refine z_goto (tgt := 119) dX9_lays_71 (by decide) ?_
      exact z_vret dX9_lays_119 (by
        unfold lyM
        first
        | (rw [if_pos (by omega)]; done)
        | (rw [if_neg (by omega)]; subst_vars; rfl))
  · first
    | exfalso; omega
    | skip
      refine z_aload_n dX9_lays_74 rfl ?_
      refine z_getR dX9_lays_75 gX9_21 rfl (Nat.le_of_ble_eq_true rfl) rfl ?_
      refine z_iload_n dX9_lays_78 rfl ?_
      refine z_iload_n dX9_lays_79 rfl ?_
      refine z_iast dX9_lays_80 rfl (Nat.le_of_ble_eq_true rfl) (by omega) ⟨by omega, by omega⟩ ?_
      refine z_goto (tgt := 119) dX9_lays_81 (by decide) ?_
      exact z_vret dX9_lays_119 (by
        unfold lyM
        first
        | (rw [if_pos (by omega)]; done)
        | (rw [if_neg (by omega)]; subst_vars; rfl))
  · first
    | exfalso; omega
    | skip
      refine z_aload_n dX9_lays_84 rfl ?_
      refine z_getR dX9_lays_85 gX9_24 rfl (Nat.le_of_ble_eq_true rfl) rfl ?_
      refine z_iload_n dX9_lays_88 rfl ?_
      refine z_iload_n dX9_lays_89 rfl ?_
      refine z_iast dX9_lays_90 rfl (Nat.le_of_ble_eq_true rfl) (by omega) ⟨by omega, by omega⟩ ?_
      refine z_goto (tgt := 119) dX9_lays_91 (by decide) ?_
      exact z_vret dX9_lays_119 (by
        unfold lyM
        first
        | (rw [if_pos (by omega)]; done)
        | (rw [if_neg (by omega)]; subst_vars; rfl))
  · first
    | exfalso; omega
    | skip
      refine z_aload_n dX9_lays_94 rfl ?_
      refine z_getR dX9_lays_95 gX9_27 rfl (Nat.le_of_ble_eq_true rfl) rfl ?_
      refine z_iload_n dX9_lays_98 rfl ?_
      refine z_iload_n dX9_lays_99 rfl ?_
      refine z_iast dX9_lays_100 rfl (Nat.le_of_ble_eq_true rfl) (by omega) ⟨by omega, by omega⟩ ?_
      refine z_goto (tgt := 119) dX9_lays_101 (by decide) ?_
      exact z_vret dX9_lays_119 (by
        unfold lyM
        first
        | (rw [if_pos (by omega)]; done)
        | (rw [if_neg (by omega)]; subst_vars; rfl))
  · first
    | exfalso; omega
    | skip
      refine z_aload_n dX9_lays_104 rfl ?_
      refine z_getR dX9_lays_105 gX9_36 rfl (Nat.le_of_ble_eq_true rfl) rfl ?_
      refine z_iload_n dX9_lays_108 rfl ?_
      refine z_iload_n dX9_lays_109 rfl ?_
      refine z_iast dX9_lays_110 rfl (Nat.le_of_ble_eq_true rfl) (by omega) ⟨by omega, by omega⟩ ?_
      refine z_goto (tgt := 119) dX9_lays_111 (by decide) ?_
      exact z_vret dX9_lays_119 (by
        unfold lyM
        first
        | (rw [if_pos (by omega)]; done)
        | (rw [if_neg (by omega)]; subst_vars; rfl))
  · first
    | exfalso; omega
    | skip
      refine z_aload_n dX9_lays_114 rfl ?_
      refine z_iload_n dX9_lays_115 rfl ?_
      refine z_putI dX9_lays_116 pX9_39 rfl (Nat.le_of_ble_eq_true rfl) rfl ⟨by omega, by omega⟩ ?_
      exact z_vret dX9_lays_119 (by
        unfold lyM
        first
        | (rw [if_pos (by omega)]; done)
        | (rw [if_neg (by omega)]; subst_vars; rfl))
