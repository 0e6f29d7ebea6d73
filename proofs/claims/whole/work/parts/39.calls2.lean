/-! ===== More of the class's calls ===== -/
/-- the same, decidably -/
def hasB (σ : Sto) (n w : Int) : Bool := decide (0 ≤ w ∧ w < 8 ∧ 0 ≤ n ∧ n < (if w = 5 then σ 1 2 else if w = 6 then σ 1 3 else if w = 7 then 1 else σ 1 1))
theorem hasB_iff {σ : Sto} {n w : Int} : hasB σ n w = true ↔ hasR σ n w := by
  unfold hasB hasR
  rw [decide_eq_true_eq]
  constructor
  · rintro ⟨a, b, c, e⟩
    by_cases q5 : w = 5
    · rw [if_pos q5] at e; exact ⟨a, b, c, _, Or.inl ⟨q5, rfl⟩, e⟩
    · by_cases q6 : w = 6
      · rw [if_neg q5, if_pos q6] at e; exact ⟨a, b, c, _, Or.inr (Or.inl ⟨q6, rfl⟩), e⟩
      · by_cases q7 : w = 7
        · rw [if_neg q5, if_neg q6, if_pos q7] at e; exact ⟨a, b, c, _, Or.inr (Or.inr (Or.inl ⟨q7, rfl⟩)), e⟩
        · rw [if_neg q5, if_neg q6, if_neg q7] at e; exact ⟨a, b, c, _, Or.inr (Or.inr (Or.inr ⟨q5, q6, q7, rfl⟩)), e⟩
  · rintro ⟨a, b, c, x, e, f⟩
    unfold bearR at e
    refine ⟨a, b, c, ?_⟩
    by_cases q5 : w = 5
    · rw [if_pos q5]; omega
    · by_cases q6 : w = 6
      · rw [if_neg q5, if_pos q6]; omega
      · by_cases q7 : w = 7
        · rw [if_neg q5, if_neg q6, if_pos q7]; omega
        · rw [if_neg q5, if_neg q6, if_neg q7]; omega
def ofC (σ : Sto) (n w : Int) : Int :=
  if w = 8 ∨ w = 9 then (if 0 ≤ n ∧ n < σ 1 2 then (if w = 8 then σ 74 n.toNat else σ 75 n.toNat) else -1) else if hasB σ n w then σ (13 + w.toNat) n.toNat else -1
set_option maxRecDepth 20000 in
theorem c_X8_of {d : Nat} {σ : Sto} {n w : Int} (hc : (0 ≤ σ 1 1 ∧ σ 1 1 ≤ 12) ∧ (0 ≤ σ 1 2 ∧ σ 1 2 ≤ 5) ∧ (0 ≤ σ 1 3 ∧ σ 1 3 ≤ 6)) (hn : inR n) (hw : inR w) (hI : ∀ k j, 13 ≤ k → k ≤ 20 → inR (σ k j)) (hJ : ∀ j, inR (σ 74 j) ∧ inR (σ 75 j)) : m_X8_of d [zR 0, zI n, zI w] σ (qI fun z σ' => z = ofC σ n w ∧ σ' = σ) := by
  have hJn := hJ n.toNat
  refine z_does (L := [some (zR 0), some (zI n), some (zI w)]) rfl (by decide +kernel) (Nat.le_of_ble_eq_true rfl) rfl ?_
  refine z_iload_n dX8_of_0 rfl ?_
  refine z_bipush (v := 8) dX8_of_1 (by decide +kernel) ?_
  refine z_icmp_eq (tgt := 12) dX8_of_3 (by decide) ⟨by omega, by omega⟩ ⟨by omega, by omega⟩ (fun h3 => ?_) (fun h3 => ?_)
  · skip
    refine z_aload_n dX8_of_12 rfl ?_
    refine z_iload_n dX8_of_13 rfl ?_
    refine z_callVI (d := d + 1) (av := [_]) dX8_of_14 vX8_119 rfl (Nat.le_of_ble_eq_true rfl) rfl rfl rfl (Nat.le_of_ble_eq_true rfl) (Nat.le_refl _) (c_X8_isMesh (by omega)) (fun z14 σ14 h14 => ?_)
    obtain ⟨hs14, h14⟩ := h14
    subst σ14
    refine z_if_ne (tgt := 22) dX8_of_17 (by decide) ⟨by omega, by omega⟩ (fun h17 => ?_) (fun h17 => ?_)
    · skip
      refine z_iload_n dX8_of_22 rfl ?_
      refine z_bipush (v := 8) dX8_of_23 (by decide +kernel) ?_
      refine z_icmp_ne (tgt := 39) dX8_of_25 (by decide) ⟨by omega, by omega⟩ ⟨by omega, by omega⟩ (fun h25 => ?_) (fun h25 => ?_)
      · skip
        refine z_aload_n dX8_of_39 rfl ?_
        refine z_getR dX8_of_40 gX8_58 rfl (Nat.le_of_ble_eq_true rfl) rfl ?_
        refine z_iload_n dX8_of_43 rfl ?_
        refine z_callVI (d := d + 1) (av := [_]) dX8_of_44 vX8_125 rfl (Nat.le_of_ble_eq_true rfl) rfl rfl rfl (Nat.le_of_ble_eq_true rfl) (Nat.le_refl _) (c_X1_harmIn (by omega)) (fun z44 σ44 h44 => ?_)
        obtain ⟨rfl, hs44⟩ := h44
        subst σ44
        exact z_iret dX8_of_47 (by
          first
          | (exfalso; omega)
          | exact ⟨by unfold ofC; rw [if_pos (by omega), if_pos (by omega), if_pos (by omega)], rfl⟩
          | exact ⟨by unfold ofC; rw [if_pos (by omega), if_pos (by omega), if_neg (by omega)], rfl⟩)
      · skip
        refine z_aload_n dX8_of_28 rfl ?_
        refine z_getR dX8_of_29 gX8_58 rfl (Nat.le_of_ble_eq_true rfl) rfl ?_
        refine z_iload_n dX8_of_32 rfl ?_
        refine z_callVI (d := d + 1) (av := [_]) dX8_of_33 vX8_122 rfl (Nat.le_of_ble_eq_true rfl) rfl rfl rfl (Nat.le_of_ble_eq_true rfl) (Nat.le_refl _) (c_X1_lyingIn (by omega)) (fun z33 σ33 h33 => ?_)
        obtain ⟨rfl, hs33⟩ := h33
        subst σ33
        refine z_goto (tgt := 47) dX8_of_36 (by decide) ?_
        exact z_iret dX8_of_47 (by
          first
          | (exfalso; omega)
          | exact ⟨by unfold ofC; rw [if_pos (by omega), if_pos (by omega), if_pos (by omega)], rfl⟩
          | exact ⟨by unfold ofC; rw [if_pos (by omega), if_pos (by omega), if_neg (by omega)], rfl⟩)
    · skip
      refine z_iconst dX8_of_20 ?_
      exact z_iret dX8_of_21 (⟨by unfold ofC; rw [if_pos (by omega), if_neg (by omega)], rfl⟩)
  · skip
    refine z_iload_n dX8_of_6 rfl ?_
    refine z_bipush (v := 9) dX8_of_7 (by decide +kernel) ?_
    refine z_icmp_ne (tgt := 48) dX8_of_9 (by decide) ⟨by omega, by omega⟩ ⟨by omega, by omega⟩ (fun h9 => ?_) (fun h9 => ?_)
    · skip
      refine z_aload_n dX8_of_48 rfl ?_
      refine z_getR dX8_of_49 gX8_10 rfl (Nat.le_of_ble_eq_true rfl) rfl ?_
      refine z_iload_n dX8_of_52 rfl ?_
      refine z_iload_n dX8_of_53 rfl ?_
      refine z_callVI (d := d + 1) (av := [_, _]) dX8_of_54 vX8_104 rfl (Nat.le_of_ble_eq_true rfl) rfl rfl rfl (Nat.le_of_ble_eq_true rfl) (Nat.le_refl _) (c_X7_has (by omega) (by omega)) (fun z54 σ54 h54 => ?_)
      obtain ⟨hs54, h54⟩ := h54
      subst σ54
      have h54 : yn z54 (hasR σ n w) := h54
      refine z_if_eq (tgt := 72) dX8_of_57 (by decide) ⟨by omega, by omega⟩ (fun h57 => ?_) (fun h57 => ?_)
      · skip
        refine z_iconst dX8_of_72 ?_
        exact z_iret dX8_of_73 (by
          first
          | exact ⟨by unfold ofC; rw [if_neg (by omega), if_pos (hasB_iff.mpr hh)], rfl⟩
          | exact ⟨by unfold ofC; rw [if_neg (by omega), if_neg (fun q => by rcases h54 with q6 | q6; omega; exact q6.2 (hasB_iff.mp q))], rfl⟩)
      · skip
        have hh : hasR σ n w := by rcases h54 with q | q; exact q.2; exfalso; omega
        obtain ⟨b, b1, b2⟩ := hh.2.2.2
        have hh1 := hh.1
        have hh2 := hh.2.1
        have hh3 := hh.2.2.1
        have hn12 : n < 12 := by unfold bearR at b1; omega
        have hzR := hI (13 + w.toNat) n.toNat (by omega) (by omega)
        refine z_aload_n dX8_of_60 rfl ?_
        refine z_getR dX8_of_61 gX8_10 rfl (Nat.le_of_ble_eq_true rfl) rfl ?_
        refine z_iload_n dX8_of_64 rfl ?_
        refine z_iload_n dX8_of_65 rfl ?_
        refine z_callVI (d := d + 1) (av := [_, _]) dX8_of_66 vX8_107 rfl (Nat.le_of_ble_eq_true rfl) rfl rfl rfl (Nat.le_of_ble_eq_true rfl) (Nat.le_refl _) (c_X7_get (by omega) (by omega)) (fun z66 σ66 h66 => ?_)
        obtain ⟨rfl, hs66⟩ := h66
        subst σ66
        refine z_goto (tgt := 73) dX8_of_69 (by decide) ?_
        exact z_iret dX8_of_73 (by
          first
          | exact ⟨by unfold ofC; rw [if_neg (by omega), if_pos (hasB_iff.mpr hh)], rfl⟩
          | exact ⟨by unfold ofC; rw [if_neg (by omega), if_neg (fun q => by rcases h54 with q6 | q6; omega; exact q6.2 (hasB_iff.mp q))], rfl⟩)
    · skip
      refine z_aload_n dX8_of_12 rfl ?_
      refine z_iload_n dX8_of_13 rfl ?_
      refine z_callVI (d := d + 1) (av := [_]) dX8_of_14 vX8_119 rfl (Nat.le_of_ble_eq_true rfl) rfl rfl rfl (Nat.le_of_ble_eq_true rfl) (Nat.le_refl _) (c_X8_isMesh (by omega)) (fun z14 σ14 h14 => ?_)
      obtain ⟨hs14, h14⟩ := h14
      subst σ14
      refine z_if_ne (tgt := 22) dX8_of_17 (by decide) ⟨by omega, by omega⟩ (fun h17 => ?_) (fun h17 => ?_)
      · skip
        refine z_iload_n dX8_of_22 rfl ?_
        refine z_bipush (v := 8) dX8_of_23 (by decide +kernel) ?_
        refine z_icmp_ne (tgt := 39) dX8_of_25 (by decide) ⟨by omega, by omega⟩ ⟨by omega, by omega⟩ (fun h25 => ?_) (fun h25 => ?_)
        · skip
          refine z_aload_n dX8_of_39 rfl ?_
          refine z_getR dX8_of_40 gX8_58 rfl (Nat.le_of_ble_eq_true rfl) rfl ?_
          refine z_iload_n dX8_of_43 rfl ?_
          refine z_callVI (d := d + 1) (av := [_]) dX8_of_44 vX8_125 rfl (Nat.le_of_ble_eq_true rfl) rfl rfl rfl (Nat.le_of_ble_eq_true rfl) (Nat.le_refl _) (c_X1_harmIn (by omega)) (fun z44 σ44 h44 => ?_)
          obtain ⟨rfl, hs44⟩ := h44
          subst σ44
          exact z_iret dX8_of_47 (by
            first
            | (exfalso; omega)
            | exact ⟨by unfold ofC; rw [if_pos (by omega), if_pos (by omega), if_pos (by omega)], rfl⟩
            | exact ⟨by unfold ofC; rw [if_pos (by omega), if_pos (by omega), if_neg (by omega)], rfl⟩)
        · skip
          refine z_aload_n dX8_of_28 rfl ?_
          refine z_getR dX8_of_29 gX8_58 rfl (Nat.le_of_ble_eq_true rfl) rfl ?_
          refine z_iload_n dX8_of_32 rfl ?_
          refine z_callVI (d := d + 1) (av := [_]) dX8_of_33 vX8_122 rfl (Nat.le_of_ble_eq_true rfl) rfl rfl rfl (Nat.le_of_ble_eq_true rfl) (Nat.le_refl _) (c_X1_lyingIn (by omega)) (fun z33 σ33 h33 => ?_)
          obtain ⟨rfl, hs33⟩ := h33
          subst σ33
          refine z_goto (tgt := 47) dX8_of_36 (by decide) ?_
          exact z_iret dX8_of_47 (by
            first
            | (exfalso; omega)
            | exact ⟨by unfold ofC; rw [if_pos (by omega), if_pos (by omega), if_pos (by omega)], rfl⟩
            | exact ⟨by unfold ofC; rw [if_pos (by omega), if_pos (by omega), if_neg (by omega)], rfl⟩)
      · skip
        refine z_iconst dX8_of_20 ?_
        exact z_iret dX8_of_21 (⟨by unfold ofC; rw [if_pos (by omega), if_neg (by omega)], rfl⟩)
set_option maxRecDepth 20000 in
theorem c_X8_rinse {d : Nat} {σ : Sto} {m : Int} (hc : 0 ≤ σ 1 2 ∧ σ 1 2 ≤ 5) (hm : inR m) (hJ : ∀ j, inR (σ 74 j)) : m_X8_rinse d [zR 0, zI m] σ (qI fun z σ' => (¬ (0 ≤ m ∧ m < σ 1 2) ∧ z = -1 ∧ σ' = σ) ∨ ((0 ≤ m ∧ m < σ 1 2) ∧ z = σ 74 m.toNat ∧ σ' = riS σ m)) := by
  have hJm := hJ m.toNat
  refine z_does (L := [some (zR 0), some (zI m)]) rfl (by decide +kernel) (Nat.le_of_ble_eq_true rfl) rfl ?_
  refine z_aload_n dX8_rinse_0 rfl ?_
  refine z_iload_n dX8_rinse_1 rfl ?_
  refine z_callVI (d := d + 0) (av := [_]) dX8_rinse_2 vX8_119 rfl (Nat.le_of_ble_eq_true rfl) rfl rfl rfl (Nat.le_of_ble_eq_true rfl) (Nat.le_refl _) (c_X8_isMesh (by omega)) (fun z2 σ2 h2 => ?_)
  obtain ⟨hs2, h2⟩ := h2
  subst σ2
  refine z_if_eq (tgt := 19) dX8_rinse_5 (by decide) ⟨by omega, by omega⟩ (fun h5 => ?_) (fun h5 => ?_)
  · skip
    refine z_iconst dX8_rinse_19 ?_
    exact z_iret dX8_rinse_20 (by first | exact Or.inl ⟨by omega, rfl, rfl⟩ | exact Or.inr ⟨by omega, rfl, rfl⟩)
  · skip
    refine z_aload_n dX8_rinse_8 rfl ?_
    refine z_getR dX8_rinse_9 gX8_58 rfl (Nat.le_of_ble_eq_true rfl) rfl ?_
    refine z_iload_n dX8_rinse_12 rfl ?_
    refine z_callVI (d := d + 0) (av := [_]) dX8_rinse_13 vX8_259 rfl (Nat.le_of_ble_eq_true rfl) rfl rfl rfl (Nat.le_of_ble_eq_true rfl) (Nat.le_refl _) (c_X1_rinseOut (by omega)) (fun z13 σ13 h13 => ?_)
    obtain ⟨rfl, hs13⟩ := h13
    subst σ13
    refine z_goto (tgt := 20) dX8_rinse_16 (by decide) ?_
    exact z_iret dX8_rinse_20 (by first | exact Or.inl ⟨by omega, rfl, rfl⟩ | exact Or.inr ⟨by omega, rfl, rfl⟩)
set_option maxRecDepth 20000 in
theorem c_X8_led {d : Nat} {σ : Sto} {w : Int} (hw : inR w) : m_X8_led d [zR 0, zI w] σ (qI fun z σ' => σ' = σ ∧ ((0 ≤ w ∧ w < 6 ∧ z = σ 76 w.toNat) ∨ ((w < 0 ∨ 6 ≤ w) ∧ z = -1))) := by
  refine z_does (L := [some (zR 0), some (zI w)]) rfl (by decide +kernel) (Nat.le_of_ble_eq_true rfl) rfl ?_
  refine z_aload_n dX8_led_0 rfl ?_
  refine z_getR dX8_led_1 gX8_58 rfl (Nat.le_of_ble_eq_true rfl) rfl ?_
  refine z_iload_n dX8_led_4 rfl ?_
  refine z_callVI (d := d + 0) (av := [_]) dX8_led_5 vX8_262 rfl (Nat.le_of_ble_eq_true rfl) rfl rfl rfl (Nat.le_of_ble_eq_true rfl) (Nat.le_refl _) (c_X1_ledOf (by omega)) (fun z5 σ5 h5 => ?_)
  obtain ⟨hs5, h5⟩ := h5
  subst σ5
  exact z_iret dX8_led_8 ⟨rfl, h5⟩
set_option maxRecDepth 20000 in
theorem c_X8_image {d : Nat} {σ : Sto} : m_X8_image d [zR 0] σ (qI fun z σ' => z = σ 76 0 ∧ σ' = kiS σ) := by
  refine z_does (L := [some (zR 0)]) rfl (by decide +kernel) (Nat.le_of_ble_eq_true rfl) rfl ?_
  refine z_aload_n dX8_image_0 rfl ?_
  refine z_getR dX8_image_1 gX8_58 rfl (Nat.le_of_ble_eq_true rfl) rfl ?_
  refine z_callVI (d := d + 1) (av := []) dX8_image_4 vX8_265 rfl (Nat.le_of_ble_eq_true rfl) rfl rfl rfl (Nat.le_of_ble_eq_true rfl) (Nat.le_refl _) (c_X1_keepImage) (fun z4 σ4 h4 => ?_)
  obtain ⟨rfl, hs4⟩ := h4
  subst σ4
  exact z_iret dX8_image_7 ⟨rfl, rfl⟩
set_option maxRecDepth 20000 in
theorem c_X8_back {d : Nat} {σ : Sto} : m_X8_back d [zR 0] σ (qI fun z σ' => (σ 7 6 = 0 ∧ z = -5 ∧ σ' = σ) ∨ (σ 7 6 ≠ 0 ∧ z = σ 79 0 ∧ σ' = lbS σ)) := by
  refine z_does (L := [some (zR 0)]) rfl (by decide +kernel) (Nat.le_of_ble_eq_true rfl) rfl ?_
  refine z_aload_n dX8_back_0 rfl ?_
  refine z_getR dX8_back_1 gX8_58 rfl (Nat.le_of_ble_eq_true rfl) rfl ?_
  refine z_callVI (d := d + 1) (av := []) dX8_back_4 vX8_268 rfl (Nat.le_of_ble_eq_true rfl) rfl rfl rfl (Nat.le_of_ble_eq_true rfl) (Nat.le_refl _) (c_X1_layBack) (fun z4 σ4 h4 => ?_)
  skip
  exact z_iret dX8_back_7 h4
set_option maxRecDepth 20000 in
theorem c_X8_undo {d : Nat} {σ : Sto} (hd : 0 ≤ σ 2 4 ∧ σ 2 4 ≤ 40) (hu : 0 ≤ σ 2 5 ∧ σ 2 5 ≤ 40) (hok : 1 ≤ σ 2 4 → chOK σ (σ 2 4 - 1).toNat) : m_X8_undo d [zR 0] σ (qI fun z σ' => (σ 2 4 = 0 ∧ z = -5 ∧ σ' = σ) ∨ (1 ≤ σ 2 4 ∧ z = σ 2 4 - 1 ∧ σ' = z_put (z_put (z_put σ 2 4 (σ 2 4 - 1)) 2 5 (σ 2 5 + 1)) (13 + (σ 22 (σ 2 4 - 1).toNat).toNat) (σ 21 (σ 2 4 - 1).toNat).toNat (σ 23 (σ 2 4 - 1).toNat))) := by
  refine z_does (L := [some (zR 0)]) rfl (by decide +kernel) (Nat.le_of_ble_eq_true rfl) rfl ?_
  refine z_aload_n dX8_undo_0 rfl ?_
  refine z_getR dX8_undo_1 gX8_19 rfl (Nat.le_of_ble_eq_true rfl) rfl ?_
  refine z_aload_n dX8_undo_4 rfl ?_
  refine z_getR dX8_undo_5 gX8_10 rfl (Nat.le_of_ble_eq_true rfl) rfl ?_
  refine z_callVI (d := d + 3) (av := [_]) dX8_undo_8 vX8_271 rfl (Nat.le_of_ble_eq_true rfl) rfl rfl rfl (Nat.le_of_ble_eq_true rfl) (Nat.le_refl _) (c_X0_stepBack hd hu hok) (fun z8 σ8 h8 => ?_)
  skip
  exact z_iret dX8_undo_11 h8
set_option maxRecDepth 20000 in
theorem c_X8_redo {d : Nat} {σ : Sto} (hd : 0 ≤ σ 2 4 ∧ σ 2 4 ≤ 40) (hu : 0 ≤ σ 2 5 ∧ σ 2 5 + σ 2 4 ≤ 40) (hok : 1 ≤ σ 2 5 → chOK σ (σ 2 4).toNat) : m_X8_redo d [zR 0] σ (qI fun z σ' => (σ 2 5 = 0 ∧ z = -5 ∧ σ' = σ) ∨ (1 ≤ σ 2 5 ∧ z = σ 2 5 - 1 ∧ σ' = z_put (z_put (z_put σ (13 + (σ 22 (σ 2 4).toNat).toNat) (σ 21 (σ 2 4).toNat).toNat (σ 24 (σ 2 4).toNat)) 2 4 (σ 2 4 + 1)) 2 5 (σ 2 5 - 1))) := by
  refine z_does (L := [some (zR 0)]) rfl (by decide +kernel) (Nat.le_of_ble_eq_true rfl) rfl ?_
  refine z_aload_n dX8_redo_0 rfl ?_
  refine z_getR dX8_redo_1 gX8_19 rfl (Nat.le_of_ble_eq_true rfl) rfl ?_
  refine z_aload_n dX8_redo_4 rfl ?_
  refine z_getR dX8_redo_5 gX8_10 rfl (Nat.le_of_ble_eq_true rfl) rfl ?_
  refine z_callVI (d := d + 3) (av := [_]) dX8_redo_8 vX8_275 rfl (Nat.le_of_ble_eq_true rfl) rfl rfl rfl (Nat.le_of_ble_eq_true rfl) (Nat.le_refl _) (c_X0_stepOn hd hu hok) (fun z8 σ8 h8 => ?_)
  skip
  exact z_iret dX8_redo_11 h8
set_option maxRecDepth 20000 in
theorem c_X8_body {d : Nat} {σ : Sto} {k : Int} (hb : 0 ≤ σ 8 2 ∧ σ 8 2 ≤ 50) (hk : inR k) : m_X8_body d [zR 0, zI k] σ (qI fun z σ' => (¬ (0 ≤ k ∧ k < 8) ∧ z = -1 ∧ σ' = σ) ∨ ((0 ≤ k ∧ k < 8) ∧ ((σ 8 2 = 50 ∧ z = -3 ∧ σ' = σ) ∨ (σ 8 2 < 50 ∧ z = σ 8 2 ∧ σ' = z_put (z_put σ 80 (σ 8 2).toNat k) 8 2 (σ 8 2 + 1))))) := by
  refine z_does (L := [some (zR 0), some (zI k)]) rfl (by decide +kernel) (Nat.le_of_ble_eq_true rfl) rfl ?_
  refine z_iload_n dX8_body_0 rfl ?_
  refine z_if_lt (tgt := 10) dX8_body_1 (by decide) ⟨by omega, by omega⟩ (fun h1 => ?_) (fun h1 => ?_)
  · skip
    refine z_iconst dX8_body_10 ?_
    refine z_goto (tgt := 22) dX8_body_11 (by decide) ?_
    exact z_iret dX8_body_22 (by first | exact Or.inr ⟨by omega, h19⟩ | exact Or.inl ⟨by omega, rfl, rfl⟩)
  · skip
    refine z_iload_n dX8_body_4 rfl ?_
    refine z_bipush (v := 8) dX8_body_5 (by decide +kernel) ?_
    refine z_icmp_lt (tgt := 14) dX8_body_7 (by decide) ⟨by omega, by omega⟩ ⟨by omega, by omega⟩ (fun h7 => ?_) (fun h7 => ?_)
    · skip
      refine z_aload_n dX8_body_14 rfl ?_
      refine z_getR dX8_body_15 gX8_65 rfl (Nat.le_of_ble_eq_true rfl) rfl ?_
      refine z_iload_n dX8_body_18 rfl ?_
      refine z_callVI (d := d + 0) (av := [_]) dX8_body_19 vX8_278 rfl (Nat.le_of_ble_eq_true rfl) rfl rfl rfl (Nat.le_of_ble_eq_true rfl) (Nat.le_refl _) (c_X3_keepBody (by omega) (by omega)) (fun z19 σ19 h19 => ?_)
      have hr19 : inR z19 := by omega
      exact z_iret dX8_body_22 (by first | exact Or.inr ⟨by omega, h19⟩ | exact Or.inl ⟨by omega, rfl, rfl⟩)
    · skip
      refine z_iconst dX8_body_10 ?_
      refine z_goto (tgt := 22) dX8_body_11 (by decide) ?_
      exact z_iret dX8_body_22 (by first | exact Or.inr ⟨by omega, h19⟩ | exact Or.inl ⟨by omega, rfl, rfl⟩)
set_option maxRecDepth 20000 in
theorem c_X8_trace {d : Nat} {σ : Sto} {i : Int} (hr : inR i) : m_X8_trace d [zR 0, zI i] σ (qI fun z σ' => σ' = σ ∧ ((0 ≤ i ∧ i < σ 8 3 ∧ i < 24 ∧ z = σ 81 i.toNat) ∨ ((i < 0 ∨ σ 8 3 ≤ i ∨ 24 ≤ i) ∧ z = -1))) := by
  refine z_does (L := [some (zR 0), some (zI i)]) rfl (by decide +kernel) (Nat.le_of_ble_eq_true rfl) rfl ?_
  refine z_aload_n dX8_trace_0 rfl ?_
  refine z_getR dX8_trace_1 gX8_65 rfl (Nat.le_of_ble_eq_true rfl) rfl ?_
  refine z_iload_n dX8_trace_4 rfl ?_
  refine z_callVI (d := d + 0) (av := [_]) dX8_trace_5 vX8_284 rfl (Nat.le_of_ble_eq_true rfl) rfl rfl rfl (Nat.le_of_ble_eq_true rfl) (Nat.le_refl _) (c_X3_traceAt (by omega)) (fun z5 σ5 h5 => ?_)
  obtain ⟨hs5, h5⟩ := h5
  subst σ5
  exact z_iret dX8_trace_8 ⟨rfl, h5⟩
def kpS (σ : Sto) (s n : Int) : Prop := (0 ≤ s ∧ s < 6) ∧ -1 ≤ n ∧ n < σ 8 2
set_option maxRecDepth 20000 in
theorem c_X8_keep {d : Nat} {σ : Sto} {s n : Int} (hs : inR s) (hn : inR n) : m_X8_keep d [zR 0, zI s, zI n] σ (qI fun z σ' => (¬ kpS σ s n ∧ z = -1 ∧ σ' = σ) ∨ (kpS σ s n ∧ z = 1 ∧ σ' = hdS σ s n)) := by
  refine z_does (L := [some (zR 0), some (zI s), some (zI n)]) rfl (by decide +kernel) (Nat.le_of_ble_eq_true rfl) rfl ?_
  refine z_iload_n dX8_keep_0 rfl ?_
  refine z_callSI (d := d + 1) (av := [_]) dX8_keep_1 sX8_84 rfl rfl (Nat.le_of_ble_eq_true rfl) (Nat.le_refl _) (c_X8_isShelf (by omega)) (fun z1 σ1 h1 => ?_)
  obtain ⟨hs1, h1⟩ := h1
  subst σ1
  refine z_if_eq (tgt := 23) dX8_keep_4 (by decide) ⟨by omega, by omega⟩ (fun h4 => ?_) (fun h4 => ?_)
  · skip
    refine z_iconst dX8_keep_23 ?_
    exact z_iret dX8_keep_24 (Or.inl ⟨by unfold kpS; omega, rfl, rfl⟩)
  · skip
    refine z_iload_n dX8_keep_7 rfl ?_
    refine z_iconst dX8_keep_8 ?_
    refine z_icmp_lt (tgt := 23) dX8_keep_9 (by decide) ⟨by omega, by omega⟩ ⟨by omega, by omega⟩ (fun h9 => ?_) (fun h9 => ?_)
    · skip
      refine z_iconst dX8_keep_23 ?_
      exact z_iret dX8_keep_24 (Or.inl ⟨by unfold kpS; omega, rfl, rfl⟩)
    · skip
      refine z_iload_n dX8_keep_12 rfl ?_
      refine z_aload_n dX8_keep_13 rfl ?_
      refine z_getR dX8_keep_14 gX8_65 rfl (Nat.le_of_ble_eq_true rfl) rfl ?_
      refine z_getI dX8_keep_17 gX8_287 rfl (Nat.le_of_ble_eq_true rfl) rfl (fun hr17 => ?_)
      refine z_icmp_lt (tgt := 25) dX8_keep_20 (by decide) ⟨by omega, by omega⟩ ⟨by omega, by omega⟩ (fun h20 => ?_) (fun h20 => ?_)
      · skip
        refine z_aload_n dX8_keep_25 rfl ?_
        refine z_getR dX8_keep_26 gX8_33 rfl (Nat.le_of_ble_eq_true rfl) rfl ?_
        refine z_iload_n dX8_keep_29 rfl ?_
        refine z_iload_n dX8_keep_30 rfl ?_
        refine z_callVV (d := d + 1) (av := [_, _]) dX8_keep_31 vX8_290 rfl (Nat.le_of_ble_eq_true rfl) rfl rfl rfl (Nat.le_of_ble_eq_true rfl) (Nat.le_refl _) (c_X5_hold (by omega) (by omega)) (fun σ31 h31 => ?_)
        subst h31
        refine z_iconst dX8_keep_34 ?_
        exact z_iret dX8_keep_35 (Or.inr ⟨by unfold kpS; omega, rfl, rfl⟩)
      · skip
        refine z_iconst dX8_keep_23 ?_
        exact z_iret dX8_keep_24 (Or.inl ⟨by unfold kpS; omega, rfl, rfl⟩)
set_option maxRecDepth 20000 in
theorem c_X8_row {d : Nat} {σ : Sto} {s so n : Int} (hs : inR s) (ho : inR so) (hn : inR n) : m_X8_row d [zR 0, zI s, zI so, zI n] σ (qI fun z σ' => ((¬ (0 ≤ s ∧ s < 6) ∨ ¬ (0 ≤ so ∧ so < 5) ∨ 60 < n) ∧ z = -1 ∧ σ' = σ) ∨ (((0 ≤ s ∧ s < 6) ∧ (0 ≤ so ∧ so < 5) ∧ n ≤ 60) ∧ ((n < 0 ∧ z = -14 ∧ σ' = σ) ∨ (0 ≤ n ∧ z = 1 ∧ σ' = rowS σ s so n)))) := by
  refine z_does (L := [some (zR 0), some (zI s), some (zI so), some (zI n)]) rfl (by decide +kernel) (Nat.le_of_ble_eq_true rfl) rfl ?_
  refine z_iload_n dX8_row_0 rfl ?_
  refine z_callSI (d := d + 1) (av := [_]) dX8_row_1 sX8_84 rfl rfl (Nat.le_of_ble_eq_true rfl) (Nat.le_refl _) (c_X8_isShelf (by omega)) (fun z1 σ1 h1 => ?_)
  obtain ⟨hs1, h1⟩ := h1
  subst σ1
  refine z_if_eq (tgt := 22) dX8_row_4 (by decide) ⟨by omega, by omega⟩ (fun h4 => ?_) (fun h4 => ?_)
  · skip
    refine z_iconst dX8_row_22 ?_
    exact z_iret dX8_row_23 (Or.inl ⟨by omega, rfl, rfl⟩)
  · skip
    refine z_iload_n dX8_row_7 rfl ?_
    refine z_if_lt (tgt := 22) dX8_row_8 (by decide) ⟨by omega, by omega⟩ (fun h8 => ?_) (fun h8 => ?_)
    · skip
      refine z_iconst dX8_row_22 ?_
      exact z_iret dX8_row_23 (Or.inl ⟨by omega, rfl, rfl⟩)
    · skip
      refine z_iload_n dX8_row_11 rfl ?_
      refine z_iconst dX8_row_12 ?_
      refine z_icmp_ge (tgt := 22) dX8_row_13 (by decide) ⟨by omega, by omega⟩ ⟨by omega, by omega⟩ (fun h13 => ?_) (fun h13 => ?_)
      · skip
        refine z_iconst dX8_row_22 ?_
        exact z_iret dX8_row_23 (Or.inl ⟨by omega, rfl, rfl⟩)
      · skip
        refine z_iload_n dX8_row_16 rfl ?_
        refine z_bipush (v := 60) dX8_row_17 (by decide +kernel) ?_
        refine z_icmp_le (tgt := 24) dX8_row_19 (by decide) ⟨by omega, by omega⟩ ⟨by omega, by omega⟩ (fun h19 => ?_) (fun h19 => ?_)
        · skip
          refine z_iload_n dX8_row_24 rfl ?_
          refine z_if_ge (tgt := 31) dX8_row_25 (by decide) ⟨by omega, by omega⟩ (fun h25 => ?_) (fun h25 => ?_)
          · skip
            refine z_aload_n dX8_row_31 rfl ?_
            refine z_getR dX8_row_32 gX8_33 rfl (Nat.le_of_ble_eq_true rfl) rfl ?_
            refine z_iload_n dX8_row_35 rfl ?_
            refine z_iload_n dX8_row_36 rfl ?_
            refine z_iload_n dX8_row_37 rfl ?_
            refine z_callVV (d := d + 1) (av := [_, _, _]) dX8_row_38 vX8_294 rfl (Nat.le_of_ble_eq_true rfl) rfl rfl rfl (Nat.le_of_ble_eq_true rfl) (Nat.le_refl _) (c_X5_newRow (by omega) (by omega) (by omega)) (fun σ38 h38 => ?_)
            subst h38
            refine z_iconst dX8_row_41 ?_
            exact z_iret dX8_row_42 (Or.inr ⟨by omega, Or.inr ⟨by omega, rfl, rfl⟩⟩)
          · skip
            refine z_bipush (v := -14) dX8_row_28 (by decide +kernel) ?_
            exact z_iret dX8_row_30 (Or.inr ⟨by omega, Or.inl ⟨by omega, rfl, rfl⟩⟩)
        · skip
          refine z_iconst dX8_row_22 ?_
          exact z_iret dX8_row_23 (Or.inl ⟨by omega, rfl, rfl⟩)
def erC (σ : Sto) (s a : Int) : Int := if ¬ (0 ≤ s ∧ s < 6) then -1 else if σ 30 s.toNat = -1 then -11 else if σ 30 s.toNat < 0 then -12 else if 0 ≤ a ∧ a < σ 32 s.toNat then 0 else -13
set_option maxRecDepth 20000 in
theorem c_X8_elementRefusal {d : Nat} {σ : Sto} {s a : Int} (hs : inR s) (ha : inR a) : m_X8_elementRefusal d [zR 0, zI s, zI a] σ (qI fun z σ' => z = erC σ s a ∧ σ' = σ) := by
  refine z_does (L := [some (zR 0), some (zI s), some (zI a)]) rfl (by decide +kernel) (Nat.le_of_ble_eq_true rfl) rfl ?_
  refine z_iload_n dX8_elementRefusal_0 rfl ?_
  refine z_callSI (d := d + 2) (av := [_]) dX8_elementRefusal_1 sX8_84 rfl rfl (Nat.le_of_ble_eq_true rfl) (Nat.le_refl _) (c_X8_isShelf (by omega)) (fun z1 σ1 h1 => ?_)
  obtain ⟨hs1, h1⟩ := h1
  subst σ1
  refine z_if_ne (tgt := 9) dX8_elementRefusal_4 (by decide) ⟨by omega, by omega⟩ (fun h4 => ?_) (fun h4 => ?_)
  · skip
    refine z_aload_n dX8_elementRefusal_9 rfl ?_
    refine z_getR dX8_elementRefusal_10 gX8_33 rfl (Nat.le_of_ble_eq_true rfl) rfl ?_
    refine z_iload_n dX8_elementRefusal_13 rfl ?_
    refine z_callVI (d := d + 2) (av := [_]) dX8_elementRefusal_14 vX8_304 rfl (Nat.le_of_ble_eq_true rfl) rfl rfl rfl (Nat.le_of_ble_eq_true rfl) (Nat.le_refl _) (c_X5_isEmpty (by omega)) (fun z14 σ14 h14 => ?_)
    obtain ⟨hs14, h14⟩ := h14
    subst σ14
    refine z_if_eq (tgt := 23) dX8_elementRefusal_17 (by decide) ⟨by omega, by omega⟩ (fun h17 => ?_) (fun h17 => ?_)
    · skip
      refine z_aload_n dX8_elementRefusal_23 rfl ?_
      refine z_getR dX8_elementRefusal_24 gX8_33 rfl (Nat.le_of_ble_eq_true rfl) rfl ?_
      refine z_iload_n dX8_elementRefusal_27 rfl ?_
      refine z_callVI (d := d + 2) (av := [_]) dX8_elementRefusal_28 vX8_307 rfl (Nat.le_of_ble_eq_true rfl) rfl rfl rfl (Nat.le_of_ble_eq_true rfl) (Nat.le_refl _) (c_X5_isRow (by omega)) (fun z28 σ28 h28 => ?_)
      obtain ⟨hs28, h28⟩ := h28
      subst σ28
      refine z_if_ne (tgt := 37) dX8_elementRefusal_31 (by decide) ⟨by omega, by omega⟩ (fun h31 => ?_) (fun h31 => ?_)
      · skip
        refine z_iload_n dX8_elementRefusal_37 rfl ?_
        refine z_if_lt (tgt := 53) dX8_elementRefusal_38 (by decide) ⟨by omega, by omega⟩ (fun h38 => ?_) (fun h38 => ?_)
        · skip
          refine z_bipush (v := -13) dX8_elementRefusal_53 (by decide +kernel) ?_
          refine z_goto (tgt := 59) dX8_elementRefusal_55 (by decide) ?_
          exact z_iret dX8_elementRefusal_59 (⟨by unfold erC; rw [if_neg (by omega), if_neg (by omega), if_neg (by omega)]; first | rw [if_pos (by omega)] | rw [if_neg (by omega)], rfl⟩)
        · skip
          refine z_iload_n dX8_elementRefusal_41 rfl ?_
          refine z_aload_n dX8_elementRefusal_42 rfl ?_
          refine z_getR dX8_elementRefusal_43 gX8_33 rfl (Nat.le_of_ble_eq_true rfl) rfl ?_
          refine z_iload_n dX8_elementRefusal_46 rfl ?_
          refine z_callVI (d := d + 2) (av := [_]) dX8_elementRefusal_47 vX8_92 rfl (Nat.le_of_ble_eq_true rfl) rfl rfl rfl (Nat.le_of_ble_eq_true rfl) (Nat.le_refl _) (c_X5_lengthOf (by omega)) (fun z47 σ47 h47 => ?_)
          obtain ⟨hs47, h47, h47r⟩ := h47
          subst σ47
          refine z_icmp_lt (tgt := 58) dX8_elementRefusal_50 (by decide) ⟨by omega, by omega⟩ ⟨by omega, by omega⟩ (fun h50 => ?_) (fun h50 => ?_)
          · skip
            refine z_iconst dX8_elementRefusal_58 ?_
            exact z_iret dX8_elementRefusal_59 (⟨by unfold erC; rw [if_neg (by omega), if_neg (by omega), if_neg (by omega)]; first | rw [if_pos (by omega)] | rw [if_neg (by omega)], rfl⟩)
          · skip
            refine z_bipush (v := -13) dX8_elementRefusal_53 (by decide +kernel) ?_
            refine z_goto (tgt := 59) dX8_elementRefusal_55 (by decide) ?_
            exact z_iret dX8_elementRefusal_59 (⟨by unfold erC; rw [if_neg (by omega), if_neg (by omega), if_neg (by omega)]; first | rw [if_pos (by omega)] | rw [if_neg (by omega)], rfl⟩)
      · skip
        refine z_bipush (v := -12) dX8_elementRefusal_34 (by decide +kernel) ?_
        exact z_iret dX8_elementRefusal_36 (⟨by unfold erC; rw [if_neg (by omega), if_neg (by omega), if_pos (by omega)], rfl⟩)
    · skip
      refine z_bipush (v := -11) dX8_elementRefusal_20 (by decide +kernel) ?_
      exact z_iret dX8_elementRefusal_22 (⟨by unfold erC; rw [if_neg (by omega), if_pos (by omega)], rfl⟩)
  · skip
    refine z_iconst dX8_elementRefusal_7 ?_
    exact z_iret dX8_elementRefusal_8 (⟨by unfold erC; rw [if_pos (by omega)], rfl⟩)
theorem erC_n {σ : Sto} {s a : Int} : -13 ≤ erC σ s a ∧ erC σ s a ≤ 0 := by
  unfold erC
  split
  · decide
  · split
    · decide
    · split
      · decide
      · split <;> decide
theorem erC_0 {σ : Sto} {s a : Int} (h : erC σ s a = 0) : (0 ≤ s ∧ s < 6) ∧ 0 ≤ σ 30 s.toNat ∧ 0 ≤ a ∧ a < σ 32 s.toNat := by
  unfold erC at h
  split at h
  · omega
  · split at h
    · omega
    · split at h
      · omega
      · split at h <;> omega
