/-! ===== The class's shelves, leaves, counts ===== -/
set_option maxRecDepth 20000 in
theorem c_X8_put {d : Nat} {σ : Sto} {s a v : Int} (hS : SH σ) (hs : inR s) (ha : inR a) (hv : inJ v) : m_X8_put d [zR 0, zI s, zI a, zJ v] σ (qI fun z σ' => (erC σ s a ≠ 0 ∧ z = erC σ s a ∧ σ' = σ) ∨ (erC σ s a = 0 ∧ z = 1 ∧ ∃ y, lowR (σ 30 s.toNat) v y ∧ σ' = z_put σ (34 + s.toNat) a.toNat y)) := by
  have hn := erC_n (σ := σ) (s := s) (a := a)
  refine z_does (L := [some (zR 0), some (zI s), some (zI a), some (zJ v), none, none]) rfl (by decide +kernel) (Nat.le_of_ble_eq_true rfl) rfl ?_
  refine z_aload_n dX8_put_0 rfl ?_
  refine z_iload_n dX8_put_1 rfl ?_
  refine z_iload_n dX8_put_2 rfl ?_
  refine z_callVI (d := d + 3) (av := [_, _]) dX8_put_3 vX8_297 rfl (Nat.le_of_ble_eq_true rfl) rfl rfl rfl (Nat.le_of_ble_eq_true rfl) (Nat.le_refl _) (c_X8_elementRefusal hs ha) (fun z3 σ3 h3 => ?_)
  obtain ⟨rfl, hs3⟩ := h3
  subst σ3
  refine z_istore (L' := [_, _, _, _, _, _]) dX8_put_6 (Nat.le_of_ble_eq_true rfl) rfl rfl ?_
  refine z_iload dX8_put_8 rfl ?_
  refine z_if_eq (tgt := 16) dX8_put_10 (by decide) ⟨by omega, by omega⟩ (fun h10 => ?_) (fun h10 => ?_)
  · skip
    obtain ⟨p1, p2, p3⟩ := erC_0 (σ := σ) (s := s) (a := a) (by omega)
    have hs6 := (hS s p1.1 p1.2).2.1
    refine z_aload_n dX8_put_16 rfl ?_
    refine z_getR dX8_put_17 gX8_33 rfl (Nat.le_of_ble_eq_true rfl) rfl ?_
    refine z_iload_n dX8_put_20 rfl ?_
    refine z_iload_n dX8_put_21 rfl ?_
    refine z_lload_n dX8_put_22 rfl ?_
    refine z_callVV (d := d + 3) (av := [_, _, _]) dX8_put_23 vX8_300 rfl (Nat.le_of_ble_eq_true rfl) rfl rfl rfl (Nat.le_of_ble_eq_true rfl) (Nat.le_refl _) (c_X5_setAt p1 p2 p3 (by omega) hv) (fun σ23 h23 => ?_)
    skip
    refine z_iconst dX8_put_26 ?_
    exact z_iret dX8_put_27 (Or.inr ⟨by omega, rfl, h23⟩)
  · skip
    refine z_iload dX8_put_13 rfl ?_
    exact z_iret dX8_put_15 (Or.inl ⟨h10, rfl, rfl⟩)
set_option maxRecDepth 20000 in
theorem c_X8_element {d : Nat} {σ : Sto} {s a : Int} (hS : SH σ) (hs : inR s) (ha : inR a) : m_X8_element d [zR 0, zI s, zI a] σ (qJ fun z σ' => z = (if erC σ s a ≠ 0 then minJ else σ (34 + s.toNat) a.toNat) ∧ σ' = σ) := by
  have hn := erC_n (σ := σ) (s := s) (a := a)
  refine z_does (L := [some (zR 0), some (zI s), some (zI a)]) rfl (by decide +kernel) (Nat.le_of_ble_eq_true rfl) rfl ?_
  refine z_aload_n dX8_element_0 rfl ?_
  refine z_iload_n dX8_element_1 rfl ?_
  refine z_iload_n dX8_element_2 rfl ?_
  refine z_callVI (d := d + 3) (av := [_, _]) dX8_element_3 vX8_297 rfl (Nat.le_of_ble_eq_true rfl) rfl rfl rfl (Nat.le_of_ble_eq_true rfl) (Nat.le_refl _) (c_X8_elementRefusal hs ha) (fun z3 σ3 h3 => ?_)
  obtain ⟨rfl, hs3⟩ := h3
  subst σ3
  refine z_if_eq (tgt := 15) dX8_element_6 (by decide) ⟨by omega, by omega⟩ (fun h6 => ?_) (fun h6 => ?_)
  · skip
    obtain ⟨p1, p2, p3⟩ := erC_0 (σ := σ) (s := s) (a := a) (by omega)
    have hs6 := (hS s p1.1 p1.2).2.1
    refine z_aload_n dX8_element_15 rfl ?_
    refine z_getR dX8_element_16 gX8_33 rfl (Nat.le_of_ble_eq_true rfl) rfl ?_
    refine z_iload_n dX8_element_19 rfl ?_
    refine z_iload_n dX8_element_20 rfl ?_
    refine z_callVJ (d := d + 3) (av := [_, _]) dX8_element_21 vX8_184 rfl (Nat.le_of_ble_eq_true rfl) rfl rfl rfl (Nat.le_of_ble_eq_true rfl) (Nat.le_refl _) (c_X5_valueAt p1 rfl (by omega) (by omega)) (fun z21 σ21 h21 => ?_)
    obtain ⟨hs21, h21, h21r⟩ := h21
    subst σ21
    exact z_lret dX8_element_24 (by
      first
      | exact ⟨by rw [if_pos h6]; rfl, rfl⟩
      | exact ⟨by rw [if_neg (by omega)]; omega, rfl⟩)
  · skip
    refine z_ldc2 dX8_element_9 kX8_215 ?_
    refine z_goto (tgt := 24) dX8_element_12 (by decide) ?_
    exact z_lret dX8_element_24 (by
      first
      | exact ⟨by rw [if_pos h6]; rfl, rfl⟩
      | exact ⟨by rw [if_neg (by omega)]; omega, rfl⟩)
def shC (σ : Sto) (s fr o to n : Int) : Int :=
  if ¬ (0 ≤ s ∧ s < 6) ∨ ¬ (0 ≤ o ∧ o < 6) then -1 else if σ 30 s.toNat = -1 ∨ σ 30 o.toNat = -1 then -11 else if σ 30 s.toNat < 0 ∨ σ 30 s.toNat ≠ σ 30 o.toNat then -12
  else if (0 ≤ fr ∧ 0 ≤ n ∧ n ≤ σ 32 s.toNat ∧ fr ≤ σ 32 s.toNat - n) ∧ (0 ≤ to ∧ 0 ≤ n ∧ n ≤ σ 32 o.toNat ∧ to ≤ σ 32 o.toNat - n) then 0 else -13
set_option maxRecDepth 20000 in
theorem c_X8_shift {d : Nat} {σ : Sto} {s fr o to n : Int} (hS : SH σ) (hs : inR s) (hf : inR fr) (ho : inR o) (ht : inR to) (hn : inR n) : m_X8_shift d [zR 0, zI s, zI fr, zI o, zI to, zI n] σ (qI fun z σ' => (shC σ s fr o to n ≠ 0 ∧ z = shC σ s fr o to n ∧ σ' = σ) ∨ (shC σ s fr o to n = 0 ∧ z = n ∧ σ' = z_cp σ (34 + s.toNat) (34 + o.toNat) fr.toNat to.toNat n.toNat)) := by
  refine z_does (L := [some (zR 0), some (zI s), some (zI fr), some (zI o), some (zI to), some (zI n)]) rfl (by decide +kernel) (Nat.le_of_ble_eq_true rfl) rfl ?_
  refine z_iload_n dX8_shift_0 rfl ?_
  refine z_callSI (d := d + 3) (av := [_]) dX8_shift_1 sX8_84 rfl rfl (Nat.le_of_ble_eq_true rfl) (Nat.le_refl _) (c_X8_isShelf (by omega)) (fun z1 σ1 h1 => ?_)
  obtain ⟨hs1, h1⟩ := h1
  subst σ1
  refine z_if_eq (tgt := 14) dX8_shift_4 (by decide) ⟨by omega, by omega⟩ (fun h4 => ?_) (fun h4 => ?_)
  · skip
    refine z_iconst dX8_shift_14 ?_
    exact z_iret dX8_shift_15 (by
      have e : shC σ s fr o to n = -1 := by unfold shC; rw [if_pos (by omega)]
      exact Or.inl ⟨by omega, e.symm, rfl⟩)
  · skip
    refine z_iload_n dX8_shift_7 rfl ?_
    refine z_callSI (d := d + 3) (av := [_]) dX8_shift_8 sX8_84 rfl rfl (Nat.le_of_ble_eq_true rfl) (Nat.le_refl _) (c_X8_isShelf (by omega)) (fun z8 σ8 h8 => ?_)
    obtain ⟨hs8, h8⟩ := h8
    subst σ8
    refine z_if_ne (tgt := 16) dX8_shift_11 (by decide) ⟨by omega, by omega⟩ (fun h11 => ?_) (fun h11 => ?_)
    · skip
      refine z_aload_n dX8_shift_16 rfl ?_
      refine z_getR dX8_shift_17 gX8_33 rfl (Nat.le_of_ble_eq_true rfl) rfl ?_
      refine z_iload_n dX8_shift_20 rfl ?_
      refine z_callVI (d := d + 3) (av := [_]) dX8_shift_21 vX8_304 rfl (Nat.le_of_ble_eq_true rfl) rfl rfl rfl (Nat.le_of_ble_eq_true rfl) (Nat.le_refl _) (c_X5_isEmpty (by omega)) (fun z21 σ21 h21 => ?_)
      obtain ⟨hs21, h21⟩ := h21
      subst σ21
      refine z_if_ne (tgt := 38) dX8_shift_24 (by decide) ⟨by omega, by omega⟩ (fun h24 => ?_) (fun h24 => ?_)
      · skip
        refine z_bipush (v := -11) dX8_shift_38 (by decide +kernel) ?_
        exact z_iret dX8_shift_40 (by
          have e : shC σ s fr o to n = -11 := by unfold shC; rw [if_neg (by omega), if_pos (by omega)]
          exact Or.inl ⟨by omega, e.symm, rfl⟩)
      · skip
        refine z_aload_n dX8_shift_27 rfl ?_
        refine z_getR dX8_shift_28 gX8_33 rfl (Nat.le_of_ble_eq_true rfl) rfl ?_
        refine z_iload_n dX8_shift_31 rfl ?_
        refine z_callVI (d := d + 3) (av := [_]) dX8_shift_32 vX8_304 rfl (Nat.le_of_ble_eq_true rfl) rfl rfl rfl (Nat.le_of_ble_eq_true rfl) (Nat.le_refl _) (c_X5_isEmpty (by omega)) (fun z32 σ32 h32 => ?_)
        obtain ⟨hs32, h32⟩ := h32
        subst σ32
        refine z_if_eq (tgt := 41) dX8_shift_35 (by decide) ⟨by omega, by omega⟩ (fun h35 => ?_) (fun h35 => ?_)
        · skip
          refine z_aload_n dX8_shift_41 rfl ?_
          refine z_getR dX8_shift_42 gX8_33 rfl (Nat.le_of_ble_eq_true rfl) rfl ?_
          refine z_iload_n dX8_shift_45 rfl ?_
          refine z_callVI (d := d + 3) (av := [_]) dX8_shift_46 vX8_307 rfl (Nat.le_of_ble_eq_true rfl) rfl rfl rfl (Nat.le_of_ble_eq_true rfl) (Nat.le_refl _) (c_X5_isRow (by omega)) (fun z46 σ46 h46 => ?_)
          obtain ⟨hs46, h46⟩ := h46
          subst σ46
          refine z_if_eq (tgt := 64) dX8_shift_49 (by decide) ⟨by omega, by omega⟩ (fun h49 => ?_) (fun h49 => ?_)
          · skip
            refine z_bipush (v := -12) dX8_shift_64 (by decide +kernel) ?_
            exact z_iret dX8_shift_66 (by
              have e : shC σ s fr o to n = -12 := by unfold shC; rw [if_neg (by omega), if_neg (by omega), if_pos (by omega)]
              exact Or.inl ⟨by omega, e.symm, rfl⟩)
          · skip
            refine z_aload_n dX8_shift_52 rfl ?_
            refine z_getR dX8_shift_53 gX8_33 rfl (Nat.le_of_ble_eq_true rfl) rfl ?_
            refine z_iload_n dX8_shift_56 rfl ?_
            refine z_iload_n dX8_shift_57 rfl ?_
            refine z_callVI (d := d + 3) (av := [_, _]) dX8_shift_58 vX8_310 rfl (Nat.le_of_ble_eq_true rfl) rfl rfl rfl (Nat.le_of_ble_eq_true rfl) (Nat.le_refl _) (c_X5_isAlike (by omega) (by omega)) (fun z58 σ58 h58 => ?_)
            obtain ⟨hs58, h58⟩ := h58
            subst σ58
            refine z_if_ne (tgt := 67) dX8_shift_61 (by decide) ⟨by omega, by omega⟩ (fun h61 => ?_) (fun h61 => ?_)
            · skip
              have hs6 := (hS s (by omega) (by omega)).2.1
              have ho6 := (hS o (by omega) (by omega)).2.1
              refine z_aload_n dX8_shift_67 rfl ?_
              refine z_getR dX8_shift_68 gX8_33 rfl (Nat.le_of_ble_eq_true rfl) rfl ?_
              refine z_iload_n dX8_shift_71 rfl ?_
              refine z_iload_n dX8_shift_72 rfl ?_
              refine z_iload dX8_shift_73 rfl ?_
              refine z_callVI (d := d + 3) (av := [_, _, _]) dX8_shift_75 vX8_313 rfl (Nat.le_of_ble_eq_true rfl) rfl rfl rfl (Nat.le_of_ble_eq_true rfl) (Nat.le_refl _) (c_X5_hasRange (l := σ 32 s.toNat) (by omega) rfl (by omega) (by omega) (by omega)) (fun z75 σ75 h75 => ?_)
              obtain ⟨hs75, h75⟩ := h75
              subst σ75
              refine z_if_eq (tgt := 96) dX8_shift_78 (by decide) ⟨by omega, by omega⟩ (fun h78 => ?_) (fun h78 => ?_)
              · skip
                refine z_bipush (v := -13) dX8_shift_96 (by decide +kernel) ?_
                exact z_iret dX8_shift_98 (by
                  have e : shC σ s fr o to n = -13 := by unfold shC; rw [if_neg (by omega), if_neg (by omega), if_neg (by omega), if_neg (by omega)]
                  exact Or.inl ⟨by omega, e.symm, rfl⟩)
              · skip
                refine z_aload_n dX8_shift_81 rfl ?_
                refine z_getR dX8_shift_82 gX8_33 rfl (Nat.le_of_ble_eq_true rfl) rfl ?_
                refine z_iload_n dX8_shift_85 rfl ?_
                refine z_iload dX8_shift_86 rfl ?_
                refine z_iload dX8_shift_88 rfl ?_
                refine z_callVI (d := d + 3) (av := [_, _, _]) dX8_shift_90 vX8_313 rfl (Nat.le_of_ble_eq_true rfl) rfl rfl rfl (Nat.le_of_ble_eq_true rfl) (Nat.le_refl _) (c_X5_hasRange (l := σ 32 o.toNat) (by omega) rfl (by omega) (by omega) (by omega)) (fun z90 σ90 h90 => ?_)
                obtain ⟨hs90, h90⟩ := h90
                subst σ90
                refine z_if_ne (tgt := 99) dX8_shift_93 (by decide) ⟨by omega, by omega⟩ (fun h93 => ?_) (fun h93 => ?_)
                · skip
                  refine z_aload_n dX8_shift_99 rfl ?_
                  refine z_getR dX8_shift_100 gX8_33 rfl (Nat.le_of_ble_eq_true rfl) rfl ?_
                  refine z_iload_n dX8_shift_103 rfl ?_
                  refine z_iload_n dX8_shift_104 rfl ?_
                  refine z_iload_n dX8_shift_105 rfl ?_
                  refine z_iload dX8_shift_106 rfl ?_
                  refine z_iload dX8_shift_108 rfl ?_
                  refine z_callVV (d := d + 3) (av := [_, _, _, _, _]) dX8_shift_110 vX8_317 rfl (Nat.le_of_ble_eq_true rfl) rfl rfl rfl (Nat.le_of_ble_eq_true rfl) (Nat.le_refl _) (c_X5_copyRange (ls := σ 32 s.toNat) (lo := σ 32 o.toNat) (by omega) (by omega) rfl (by omega) rfl (by omega) (by omega) (by omega) (by omega) (by omega)) (fun σ110 h110 => ?_)
                  subst h110
                  refine z_iload dX8_shift_113 rfl ?_
                  exact z_iret dX8_shift_115 (by
                    have e : shC σ s fr o to n = 0 := by unfold shC; rw [if_neg (by omega), if_neg (by omega), if_neg (by omega), if_pos (by omega)]
                    exact Or.inr ⟨e, rfl, rfl⟩)
                · skip
                  refine z_bipush (v := -13) dX8_shift_96 (by decide +kernel) ?_
                  exact z_iret dX8_shift_98 (by
                    have e : shC σ s fr o to n = -13 := by unfold shC; rw [if_neg (by omega), if_neg (by omega), if_neg (by omega), if_neg (by omega)]
                    exact Or.inl ⟨by omega, e.symm, rfl⟩)
            · skip
              refine z_bipush (v := -12) dX8_shift_64 (by decide +kernel) ?_
              exact z_iret dX8_shift_66 (by
                have e : shC σ s fr o to n = -12 := by unfold shC; rw [if_neg (by omega), if_neg (by omega), if_pos (by omega)]
                exact Or.inl ⟨by omega, e.symm, rfl⟩)
        · skip
          refine z_bipush (v := -11) dX8_shift_38 (by decide +kernel) ?_
          exact z_iret dX8_shift_40 (by
            have e : shC σ s fr o to n = -11 := by unfold shC; rw [if_neg (by omega), if_pos (by omega)]
            exact Or.inl ⟨by omega, e.symm, rfl⟩)
    · skip
      refine z_iconst dX8_shift_14 ?_
      exact z_iret dX8_shift_15 (by
        have e : shC σ s fr o to n = -1 := by unfold shC; rw [if_pos (by omega)]
        exact Or.inl ⟨by omega, e.symm, rfl⟩)
/-- the kind of the body on a shelf -/
def kdC (σ : Sto) (s : Int) : Int := if σ 30 s.toNat = -2 ∧ 0 ≤ σ 31 s.toNat ∧ σ 31 s.toNat < σ 8 2 then σ 80 (σ 31 s.toNat).toNat else -1
def tkC (σ : Sto) (s u : Int) : Int :=
  if ¬ (0 ≤ s ∧ s < 6) ∨ ¬ (0 ≤ u ∧ u < 8) then -1 else if σ 30 s.toNat = -1 then -11 else if undN 8 (kdC σ s) u then kdC σ s else -12
set_option maxRecDepth 20000 in
theorem c_X8_taken {d : Nat} {σ : Sto} {s u : Int} (hb : 0 ≤ σ 8 2 ∧ σ 8 2 ≤ 50) (hk : ∀ j, 0 ≤ σ 80 j ∧ σ 80 j < 8) (hs : inR s) (hu : inR u) : m_X8_taken d [zR 0, zI s, zI u] σ (qI fun z σ' => z = tkC σ s u ∧ σ' = σ) := by
  refine z_does (L := [some (zR 0), some (zI s), some (zI u), none]) rfl (by decide +kernel) (Nat.le_of_ble_eq_true rfl) rfl ?_
  refine z_iload_n dX8_taken_0 rfl ?_
  refine z_callSI (d := d + 2) (av := [_]) dX8_taken_1 sX8_84 rfl rfl (Nat.le_of_ble_eq_true rfl) (Nat.le_refl _) (c_X8_isShelf (by omega)) (fun z1 σ1 h1 => ?_)
  obtain ⟨hs1, h1⟩ := h1
  subst σ1
  refine z_if_eq (tgt := 17) dX8_taken_4 (by decide) ⟨by omega, by omega⟩ (fun h4 => ?_) (fun h4 => ?_)
  · skip
    refine z_iconst dX8_taken_17 ?_
    exact z_iret dX8_taken_18 (⟨by unfold tkC; rw [if_pos (by omega)], rfl⟩)
  · skip
    refine z_iload_n dX8_taken_7 rfl ?_
    refine z_if_lt (tgt := 17) dX8_taken_8 (by decide) ⟨by omega, by omega⟩ (fun h8 => ?_) (fun h8 => ?_)
    · skip
      refine z_iconst dX8_taken_17 ?_
      exact z_iret dX8_taken_18 (⟨by unfold tkC; rw [if_pos (by omega)], rfl⟩)
    · skip
      refine z_iload_n dX8_taken_11 rfl ?_
      refine z_bipush (v := 8) dX8_taken_12 (by decide +kernel) ?_
      refine z_icmp_lt (tgt := 19) dX8_taken_14 (by decide) ⟨by omega, by omega⟩ ⟨by omega, by omega⟩ (fun h14 => ?_) (fun h14 => ?_)
      · skip
        refine z_aload_n dX8_taken_19 rfl ?_
        refine z_getR dX8_taken_20 gX8_33 rfl (Nat.le_of_ble_eq_true rfl) rfl ?_
        refine z_iload_n dX8_taken_23 rfl ?_
        refine z_callVI (d := d + 2) (av := [_]) dX8_taken_24 vX8_304 rfl (Nat.le_of_ble_eq_true rfl) rfl rfl rfl (Nat.le_of_ble_eq_true rfl) (Nat.le_refl _) (c_X5_isEmpty (by omega)) (fun z24 σ24 h24 => ?_)
        obtain ⟨hs24, h24⟩ := h24
        subst σ24
        refine z_if_eq (tgt := 33) dX8_taken_27 (by decide) ⟨by omega, by omega⟩ (fun h27 => ?_) (fun h27 => ?_)
        · skip
          refine z_aload_n dX8_taken_33 rfl ?_
          refine z_getR dX8_taken_34 gX8_65 rfl (Nat.le_of_ble_eq_true rfl) rfl ?_
          refine z_aload_n dX8_taken_37 rfl ?_
          refine z_getR dX8_taken_38 gX8_33 rfl (Nat.le_of_ble_eq_true rfl) rfl ?_
          refine z_iload_n dX8_taken_41 rfl ?_
          refine z_callVI (d := d + 2) (av := [_]) dX8_taken_42 vX8_320 rfl (Nat.le_of_ble_eq_true rfl) rfl rfl rfl (Nat.le_of_ble_eq_true rfl) (Nat.le_refl _) (c_X5_bodyOn (by omega)) (fun z42 σ42 h42 => ?_)
          obtain ⟨hs42, h42, h42r⟩ := h42
          subst σ42
          refine z_callVI (d := d + 2) (av := [_]) dX8_taken_45 vX8_323 rfl (Nat.le_of_ble_eq_true rfl) rfl rfl rfl (Nat.le_of_ble_eq_true rfl) (Nat.le_refl _) (c_X3_kindOf (by omega) (by omega)) (fun z45 σ45 h45 => ?_)
          obtain ⟨hs45, h45⟩ := h45
          subst σ45
          have e45 : z45 = kdC σ s := by
            unfold kdC
            rcases h42 with q | q
            · by_cases q2 : 0 ≤ σ 31 s.toNat ∧ σ 31 s.toNat < σ 8 2
              · rw [if_pos ⟨q.1, q2⟩]; rw [q.2] at h45; omega
              · rw [if_neg (fun x => q2 x.2)]; omega
            · rw [if_neg (fun x => q.1 x.1)]; omega
          have hkR : -1 ≤ kdC σ s ∧ kdC σ s < 8 := by
            unfold kdC
            split
            · have := hk (σ 31 s.toNat).toNat; omega
            · decide
          subst e45
          refine z_istore_n (L' := [_, _, _, _]) dX8_taken_48 (Nat.le_of_ble_eq_true rfl) rfl rfl ?_
          refine z_aload_n dX8_taken_49 rfl ?_
          refine z_getR dX8_taken_50 gX8_65 rfl (Nat.le_of_ble_eq_true rfl) rfl ?_
          refine z_iload_n dX8_taken_53 rfl ?_
          refine z_iload_n dX8_taken_54 rfl ?_
          refine z_callVI (d := d + 2) (av := [_, _]) dX8_taken_55 vX8_326 rfl (Nat.le_of_ble_eq_true rfl) rfl rfl rfl (Nat.le_of_ble_eq_true rfl) (Nat.le_refl _) (c_X3_isUnder (by omega) (by omega)) (fun z55 σ55 h55 => ?_)
          obtain ⟨rfl, hs55⟩ := h55
          subst σ55
          refine z_if_eq (tgt := 65) dX8_taken_58 (by decide) ⟨by omega, by omega⟩ (fun h58 => ?_) (fun h58 => ?_)
          · skip
            refine z_bipush (v := -12) dX8_taken_65 (by decide +kernel) ?_
            exact z_iret dX8_taken_67 (by
              refine ⟨?_, rfl⟩
              unfold tkC; rw [if_neg (by omega), if_neg (by omega)]
              by_cases q : undN 8 (kdC σ s) u = true
              · first | exact (if_pos q).symm | (exfalso; rw [if_pos q] at h58; omega)
              · first | exact (if_neg q).symm | (exfalso; rw [if_neg q] at h58; omega))
          · skip
            refine z_iload_n dX8_taken_61 rfl ?_
            refine z_goto (tgt := 67) dX8_taken_62 (by decide) ?_
            exact z_iret dX8_taken_67 (by
              refine ⟨?_, rfl⟩
              unfold tkC; rw [if_neg (by omega), if_neg (by omega)]
              by_cases q : undN 8 (kdC σ s) u = true
              · first | exact (if_pos q).symm | (exfalso; rw [if_pos q] at h58; omega)
              · first | exact (if_neg q).symm | (exfalso; rw [if_neg q] at h58; omega))
        · skip
          refine z_bipush (v := -11) dX8_taken_30 (by decide +kernel) ?_
          exact z_iret dX8_taken_32 (⟨by unfold tkC; rw [if_neg (by omega), if_pos (by omega)], rfl⟩)
      · skip
        refine z_iconst dX8_taken_17 ?_
        exact z_iret dX8_taken_18 (⟨by unfold tkC; rw [if_pos (by omega)], rfl⟩)
def cnC (a b c d e f g : Int) (w : Int) : Int := if w = 0 then a else if w = 1 then b else if w = 2 then c else if w = 3 then d else if w = 4 then e else if w = 5 then f else if w = 6 then g else -1
set_option maxRecDepth 20000 in
theorem c_X8_count {d : Nat} {σ : Sto} {w : Int} (hI : inR (σ 1 1) ∧ inR (σ 1 2) ∧ inR (σ 1 3) ∧ inR (σ 3 5) ∧ inR (σ 2 4) ∧ inR (σ 8 2) ∧ inR (σ 8 3)) (hw : inR w) : m_X8_count d [zR 0, zI w] σ (qI fun z σ' => z = cnC (σ 1 1) (σ 1 2) (σ 1 3) (σ 3 5) (σ 2 4) (σ 8 2) (σ 8 3) w ∧ σ' = σ) := by
  refine z_does (L := [some (zR 0), some (zI w)]) rfl (by decide +kernel) (Nat.le_of_ble_eq_true rfl) rfl ?_
  refine z_iload_n dX8_count_0 rfl ?_
  refine sw_X8_count_1 ⟨by omega, by omega⟩ (fun h1 => ?_) (fun h1 => ?_) (fun h1 => ?_) (fun h1 => ?_) (fun h1 => ?_) (fun h1 => ?_) (fun h1 => ?_) (fun h1 => ?_)
  · first
    | exfalso; omega
    | skip
      refine z_aload_n dX8_count_44 rfl ?_
      refine z_getR dX8_count_45 gX8_10 rfl (Nat.le_of_ble_eq_true rfl) rfl ?_
      refine z_getI dX8_count_48 gX8_135 rfl (Nat.le_of_ble_eq_true rfl) rfl (fun hr48 => ?_)
      exact z_iret dX8_count_51 ⟨by unfold cnC; repeat (first | rw [if_pos (by omega)] | rw [if_neg (by omega)]), rfl⟩
  · first
    | exfalso; omega
    | skip
      refine z_aload_n dX8_count_52 rfl ?_
      refine z_getR dX8_count_53 gX8_10 rfl (Nat.le_of_ble_eq_true rfl) rfl ?_
      refine z_getI dX8_count_56 gX8_188 rfl (Nat.le_of_ble_eq_true rfl) rfl (fun hr56 => ?_)
      exact z_iret dX8_count_59 ⟨by unfold cnC; repeat (first | rw [if_pos (by omega)] | rw [if_neg (by omega)]), rfl⟩
  · first
    | exfalso; omega
    | skip
      refine z_aload_n dX8_count_60 rfl ?_
      refine z_getR dX8_count_61 gX8_10 rfl (Nat.le_of_ble_eq_true rfl) rfl ?_
      refine z_getI dX8_count_64 gX8_329 rfl (Nat.le_of_ble_eq_true rfl) rfl (fun hr64 => ?_)
      exact z_iret dX8_count_67 ⟨by unfold cnC; repeat (first | rw [if_pos (by omega)] | rw [if_neg (by omega)]), rfl⟩
  · first
    | exfalso; omega
    | skip
      refine z_aload_n dX8_count_68 rfl ?_
      refine z_getR dX8_count_69 gX8_26 rfl (Nat.le_of_ble_eq_true rfl) rfl ?_
      refine z_getI dX8_count_72 gX8_332 rfl (Nat.le_of_ble_eq_true rfl) rfl (fun hr72 => ?_)
      exact z_iret dX8_count_75 ⟨by unfold cnC; repeat (first | rw [if_pos (by omega)] | rw [if_neg (by omega)]), rfl⟩
  · first
    | exfalso; omega
    | skip
      refine z_aload_n dX8_count_76 rfl ?_
      refine z_getR dX8_count_77 gX8_19 rfl (Nat.le_of_ble_eq_true rfl) rfl ?_
      refine z_getI dX8_count_80 gX8_335 rfl (Nat.le_of_ble_eq_true rfl) rfl (fun hr80 => ?_)
      exact z_iret dX8_count_83 ⟨by unfold cnC; repeat (first | rw [if_pos (by omega)] | rw [if_neg (by omega)]), rfl⟩
  · first
    | exfalso; omega
    | skip
      refine z_aload_n dX8_count_84 rfl ?_
      refine z_getR dX8_count_85 gX8_65 rfl (Nat.le_of_ble_eq_true rfl) rfl ?_
      refine z_getI dX8_count_88 gX8_287 rfl (Nat.le_of_ble_eq_true rfl) rfl (fun hr88 => ?_)
      exact z_iret dX8_count_91 ⟨by unfold cnC; repeat (first | rw [if_pos (by omega)] | rw [if_neg (by omega)]), rfl⟩
  · first
    | exfalso; omega
    | skip
      refine z_aload_n dX8_count_92 rfl ?_
      refine z_getR dX8_count_93 gX8_65 rfl (Nat.le_of_ble_eq_true rfl) rfl ?_
      refine z_getI dX8_count_96 gX8_338 rfl (Nat.le_of_ble_eq_true rfl) rfl (fun hr96 => ?_)
      exact z_iret dX8_count_99 ⟨by unfold cnC; repeat (first | rw [if_pos (by omega)] | rw [if_neg (by omega)]), rfl⟩
  · first
    | exfalso; omega
    | skip
      refine z_iconst dX8_count_100 ?_
      exact z_iret dX8_count_101 ⟨by unfold cnC; repeat (first | rw [if_pos (by omega)] | rw [if_neg (by omega)]), rfl⟩
