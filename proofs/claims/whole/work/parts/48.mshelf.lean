/-! ===== The reference: shelves ===== -/
def SM (σ : Sto) : Prop := ∀ s : Int, 0 ≤ s → s < 6 → (-6 ≤ σ 117 s.toNat ∧ σ 117 s.toNat ≤ 49) ∧ (0 ≤ σ 118 s.toNat ∧ σ 118 s.toNat ≤ 60) ∧ (σ 117 s.toNat = -2 → ∀ j : Int, 0 ≤ j → j < 60 → -128 ≤ σ 119 (60 * s + j).toNat ∧ σ 119 (60 * s + j).toNat ≤ 127)
def kpM (σ : Sto) (s n : Int) : Prop := (0 ≤ s ∧ s < 6) ∧ (n = -1 ∨ (0 ≤ n ∧ n < σ 9 54))
set_option maxRecDepth 20000 in
theorem c_X9_keep {d : Nat} {σ : Sto} {s n : Int} (hb : 0 ≤ σ 9 54 ∧ σ 9 54 ≤ 50) (hs : inR s) (hn : inR n) : m_X9_keep d [zR 9, zI s, zI n] σ (qI fun z σ' => (¬ kpM σ s n ∧ z = -1 ∧ σ' = σ) ∨ (kpM σ s n ∧ z = 1 ∧ σ' = z_put σ 117 s.toNat n)) := by
  refine z_does (L := [some (zR 9), some (zI s), some (zI n)]) rfl (by decide +kernel) (Nat.le_of_ble_eq_true rfl) rfl ?_
  refine z_iload_n dX9_keep_0 rfl ?_
  refine z_callSI (d := d + 1) (av := [_]) dX9_keep_1 sX9_154 rfl rfl (Nat.le_of_ble_eq_true rfl) (Nat.le_refl _) (c_X9_isShelf (by omega)) (fun z1 σ1 h1 => ?_)
  obtain ⟨hs1, h1⟩ := h1
  subst σ1
  refine z_if_eq (tgt := 20) dX9_keep_4 (by decide) ⟨by omega, by omega⟩ (fun h4 => ?_) (fun h4 => ?_)
  · skip
    refine z_iconst dX9_keep_20 ?_
    exact z_iret dX9_keep_21 (Or.inl ⟨by unfold kpM; omega, rfl, rfl⟩)
  · skip
    refine z_iload_n dX9_keep_7 rfl ?_
    refine z_iconst dX9_keep_8 ?_
    refine z_icmp_eq (tgt := 22) dX9_keep_9 (by decide) ⟨by omega, by omega⟩ ⟨by omega, by omega⟩ (fun h9 => ?_) (fun h9 => ?_)
    · skip
      refine z_aload_n dX9_keep_22 rfl ?_
      refine z_getR dX9_keep_23 gX9_125 rfl (Nat.le_of_ble_eq_true rfl) rfl ?_
      refine z_iload_n dX9_keep_26 rfl ?_
      refine z_iload_n dX9_keep_27 rfl ?_
      refine z_iast dX9_keep_28 rfl (Nat.le_of_ble_eq_true rfl) (by omega) ⟨by omega, by omega⟩ ?_
      refine z_iconst dX9_keep_29 ?_
      exact z_iret dX9_keep_30 (Or.inr ⟨by unfold kpM; omega, rfl, rfl⟩)
    · skip
      refine z_aload_n dX9_keep_12 rfl ?_
      refine z_iload_n dX9_keep_13 rfl ?_
      refine z_callVI (d := d + 1) (av := [_]) dX9_keep_14 vX9_449 rfl (Nat.le_of_ble_eq_true rfl) rfl rfl rfl (Nat.le_of_ble_eq_true rfl) (Nat.le_refl _) (c_X9_isBody (by omega) (by omega)) (fun z14 σ14 h14 => ?_)
      obtain ⟨hs14, h14⟩ := h14
      subst σ14
      refine z_if_ne (tgt := 22) dX9_keep_17 (by decide) ⟨by omega, by omega⟩ (fun h17 => ?_) (fun h17 => ?_)
      · skip
        refine z_aload_n dX9_keep_22 rfl ?_
        refine z_getR dX9_keep_23 gX9_125 rfl (Nat.le_of_ble_eq_true rfl) rfl ?_
        refine z_iload_n dX9_keep_26 rfl ?_
        refine z_iload_n dX9_keep_27 rfl ?_
        refine z_iast dX9_keep_28 rfl (Nat.le_of_ble_eq_true rfl) (by omega) ⟨by omega, by omega⟩ ?_
        refine z_iconst dX9_keep_29 ?_
        exact z_iret dX9_keep_30 (Or.inr ⟨by unfold kpM; omega, rfl, rfl⟩)
      · skip
        refine z_iconst dX9_keep_20 ?_
        exact z_iret dX9_keep_21 (Or.inl ⟨by unfold kpM; omega, rfl, rfl⟩)
def zerM (σ : Sto) (lo i : Int) : Sto := fun a b => if a = 119 ∧ lo ≤ (b : Int) ∧ (b : Int) < i then 0 else σ a b
theorem zerM_0 (σ : Sto) (lo : Int) : zerM σ lo lo = σ := by
  funext a b
  unfold zerM
  rw [if_neg (by omega)]
theorem zerM_s {σ : Sto} {lo i : Int} (h0 : 0 ≤ lo) (hi : lo ≤ i) : z_put (zerM σ lo i) 119 i.toNat 0 = zerM σ lo (i + 1) := by
  funext a b
  rw [z_rd]
  unfold zerM
  grind
set_option maxRecDepth 20000 in
theorem l_X9_row {d : Nat} {τ : Sto} {s so n : Int} (hs : 0 ≤ s ∧ s < 6) (i : Int) (hi : 60 * s ≤ i ∧ i ≤ 60 * s + 60) : Z (z_me cX9_row RX9 5 (some .int) (d + 2) (qI fun z σ' => z = 1 ∧ σ' = zerM τ (60 * s) (60 * s + 60))) 54 [some (zR 9), some (zI s), some (zI so), some (zI n), some (zI i)] [] (zerM τ (60 * s) i) := by
  refine z_iload dX9_row_54 rfl ?_
  refine z_bipush (v := 60) dX9_row_56 (by decide +kernel) ?_
  refine z_iload_n dX9_row_58 rfl ?_
  refine z_imul dX9_row_59 ?_
  refine z_bipush (v := 60) dX9_row_60 (by decide +kernel) ?_
  refine z_iadd dX9_row_62 ?_
  refine z_icmp_ge (tgt := 80) dX9_row_63 (by decide) ⟨by omega, by omega⟩ ⟨by omega, by omega⟩ (fun h63 => ?_) (fun h63 => ?_)
  · first
    | exfalso; omega
    | skip
      refine z_iconst dX9_row_80 ?_
      exact z_iret dX9_row_81 ⟨rfl, by rw [show i = 60 * s + 60 by omega]⟩
  · first
    | exfalso; omega
    | skip
      refine z_aload_n dX9_row_66 rfl ?_
      refine z_getR dX9_row_67 gX9_131 rfl (Nat.le_of_ble_eq_true rfl) rfl ?_
      refine z_iload dX9_row_70 rfl ?_
      refine z_lconst (v := 0) dX9_row_72 (by decide +kernel) ?_
      refine z_last dX9_row_73 rfl (Nat.le_of_ble_eq_true rfl) (by omega) ⟨by omega, by omega⟩ ?_
      rw [zerM_s (by omega) hi.1]
      refine z_iinc (L' := [_, _, _, _, _]) dX9_row_74 (Nat.le_of_ble_eq_true rfl) rfl rfl rfl ?_
      refine z_goto (tgt := 54) dX9_row_77 (by decide) ?_
      exact l_X9_row hs (i + 1) (by omega)
termination_by (60 * s + 60 - i).toNat
decreasing_by omega
def rowM (σ : Sto) (s so n : Int) : Sto := zerM (z_put (z_put σ 117 s.toNat (-2 - so)) 118 s.toNat n) (60 * s) (60 * s + 60)
set_option maxRecDepth 20000 in
theorem c_X9_row {d : Nat} {σ : Sto} {s so n : Int} (hs : inR s) (ho : inR so) (hn : inR n) : m_X9_row d [zR 9, zI s, zI so, zI n] σ (qI fun z σ' => ((¬ (0 ≤ s ∧ s < 6) ∨ ¬ (0 ≤ so ∧ so < 5) ∨ 60 < n) ∧ z = -1 ∧ σ' = σ) ∨ (((0 ≤ s ∧ s < 6) ∧ (0 ≤ so ∧ so < 5) ∧ n ≤ 60) ∧ ((n < 0 ∧ z = -14 ∧ σ' = σ) ∨ (0 ≤ n ∧ z = 1 ∧ σ' = rowM σ s so n)))) := by
  refine z_does (L := [some (zR 9), some (zI s), some (zI so), some (zI n), none]) rfl (by decide +kernel) (Nat.le_of_ble_eq_true rfl) rfl ?_
  refine z_iload_n dX9_row_0 rfl ?_
  refine z_callSI (d := d + 1) (av := [_]) dX9_row_1 sX9_154 rfl rfl (Nat.le_of_ble_eq_true rfl) (Nat.le_refl _) (c_X9_isShelf (by omega)) (fun z1 σ1 h1 => ?_)
  obtain ⟨hs1, h1⟩ := h1
  subst σ1
  refine z_if_eq (tgt := 22) dX9_row_4 (by decide) ⟨by omega, by omega⟩ (fun h4 => ?_) (fun h4 => ?_)
  · skip
    refine z_iconst dX9_row_22 ?_
    exact z_iret dX9_row_23 (Or.inl ⟨by omega, rfl, rfl⟩)
  · skip
    refine z_iload_n dX9_row_7 rfl ?_
    refine z_iconst dX9_row_8 ?_
    refine z_iconst dX9_row_9 ?_
    refine z_callSI (d := d + 1) (av := [_, _, _]) dX9_row_10 sX9_143 rfl rfl (Nat.le_of_ble_eq_true rfl) (Nat.le_refl _) (c_X9_in (by omega) (by omega) (by omega)) (fun z10 σ10 h10 => ?_)
    obtain ⟨hs10, h10⟩ := h10
    subst σ10
    refine z_if_eq (tgt := 22) dX9_row_13 (by decide) ⟨by omega, by omega⟩ (fun h13 => ?_) (fun h13 => ?_)
    · skip
      refine z_iconst dX9_row_22 ?_
      exact z_iret dX9_row_23 (Or.inl ⟨by omega, rfl, rfl⟩)
    · skip
      refine z_iload_n dX9_row_16 rfl ?_
      refine z_bipush (v := 60) dX9_row_17 (by decide +kernel) ?_
      refine z_icmp_le (tgt := 24) dX9_row_19 (by decide) ⟨by omega, by omega⟩ ⟨by omega, by omega⟩ (fun h19 => ?_) (fun h19 => ?_)
      · skip
        refine z_iload_n dX9_row_24 rfl ?_
        refine z_if_ge (tgt := 31) dX9_row_25 (by decide) ⟨by omega, by omega⟩ (fun h25 => ?_) (fun h25 => ?_)
        · skip
          refine z_aload_n dX9_row_31 rfl ?_
          refine z_getR dX9_row_32 gX9_125 rfl (Nat.le_of_ble_eq_true rfl) rfl ?_
          refine z_iload_n dX9_row_35 rfl ?_
          refine z_bipush (v := -2) dX9_row_36 (by decide +kernel) ?_
          refine z_iload_n dX9_row_38 rfl ?_
          refine z_isub dX9_row_39 ?_
          refine z_iast dX9_row_40 rfl (Nat.le_of_ble_eq_true rfl) (by omega) ⟨by omega, by omega⟩ ?_
          refine z_aload_n dX9_row_41 rfl ?_
          refine z_getR dX9_row_42 gX9_128 rfl (Nat.le_of_ble_eq_true rfl) rfl ?_
          refine z_iload_n dX9_row_45 rfl ?_
          refine z_iload_n dX9_row_46 rfl ?_
          refine z_iast dX9_row_47 rfl (Nat.le_of_ble_eq_true rfl) (by omega) ⟨by omega, by omega⟩ ?_
          refine z_bipush (v := 60) dX9_row_48 (by decide +kernel) ?_
          refine z_iload_n dX9_row_50 rfl ?_
          refine z_imul dX9_row_51 ?_
          refine z_istore (L' := [_, _, _, _, _]) dX9_row_52 (Nat.le_of_ble_eq_true rfl) rfl rfl ?_
          have h := l_X9_row (d := d) (τ := z_put (z_put σ 117 s.toNat (-2 - so)) 118 s.toNat n) (s := s) (so := so) (n := n) (by omega) (60 * s) (by omega)
          rw [zerM_0] at h
          exact h.mono (fun r σ' ⟨z, e, q⟩ => ⟨z, e, Or.inr ⟨by omega, Or.inr ⟨by omega, q⟩⟩⟩)
        · skip
          refine z_bipush (v := -14) dX9_row_28 (by decide +kernel) ?_
          exact z_iret dX9_row_30 (Or.inr ⟨by omega, Or.inl ⟨by omega, rfl, rfl⟩⟩)
      · skip
        refine z_iconst dX9_row_22 ?_
        exact z_iret dX9_row_23 (Or.inl ⟨by omega, rfl, rfl⟩)
def erM (σ : Sto) (s a : Int) : Int := if ¬ (0 ≤ s ∧ s < 6) then -1 else if σ 117 s.toNat = -1 then -11 else if 0 ≤ σ 117 s.toNat then -12 else if 0 ≤ a ∧ a < σ 118 s.toNat then 0 else -13
set_option maxRecDepth 20000 in
theorem c_X9_whyNoPlace {d : Nat} {σ : Sto} {s a : Int} (hS : SM σ) (hs : inR s) (ha : inR a) : m_X9_whyNoPlace d [zR 9, zI s, zI a] σ (qI fun z σ' => z = erM σ s a ∧ σ' = σ) := by
  refine z_does (L := [some (zR 9), some (zI s), some (zI a)]) rfl (by decide +kernel) (Nat.le_of_ble_eq_true rfl) rfl ?_
  refine z_iload_n dX9_whyNoPlace_0 rfl ?_
  refine z_callSI (d := d + 1) (av := [_]) dX9_whyNoPlace_1 sX9_154 rfl rfl (Nat.le_of_ble_eq_true rfl) (Nat.le_refl _) (c_X9_isShelf (by omega)) (fun z1 σ1 h1 => ?_)
  obtain ⟨hs1, h1⟩ := h1
  subst σ1
  refine z_if_ne (tgt := 9) dX9_whyNoPlace_4 (by decide) ⟨by omega, by omega⟩ (fun h4 => ?_) (fun h4 => ?_)
  · skip
    obtain ⟨s1, s2, -⟩ := hS s (by omega) (by omega)
    refine z_aload_n dX9_whyNoPlace_9 rfl ?_
    refine z_getR dX9_whyNoPlace_10 gX9_125 rfl (Nat.le_of_ble_eq_true rfl) rfl ?_
    refine z_iload_n dX9_whyNoPlace_13 rfl ?_
    refine z_iald dX9_whyNoPlace_14 rfl (Nat.le_of_ble_eq_true rfl) (by omega) (fun hr14 => ?_)
    refine z_iconst dX9_whyNoPlace_15 ?_
    refine z_icmp_ne (tgt := 22) dX9_whyNoPlace_16 (by decide) ⟨by omega, by omega⟩ ⟨by omega, by omega⟩ (fun h16 => ?_) (fun h16 => ?_)
    · skip
      refine z_aload_n dX9_whyNoPlace_22 rfl ?_
      refine z_getR dX9_whyNoPlace_23 gX9_125 rfl (Nat.le_of_ble_eq_true rfl) rfl ?_
      refine z_iload_n dX9_whyNoPlace_26 rfl ?_
      refine z_iald dX9_whyNoPlace_27 rfl (Nat.le_of_ble_eq_true rfl) (by omega) (fun hr27 => ?_)
      refine z_if_lt (tgt := 34) dX9_whyNoPlace_28 (by decide) ⟨by omega, by omega⟩ (fun h28 => ?_) (fun h28 => ?_)
      · skip
        refine z_iload_n dX9_whyNoPlace_34 rfl ?_
        refine z_iconst dX9_whyNoPlace_35 ?_
        refine z_aload_n dX9_whyNoPlace_36 rfl ?_
        refine z_getR dX9_whyNoPlace_37 gX9_128 rfl (Nat.le_of_ble_eq_true rfl) rfl ?_
        refine z_iload_n dX9_whyNoPlace_40 rfl ?_
        refine z_iald dX9_whyNoPlace_41 rfl (Nat.le_of_ble_eq_true rfl) (by omega) (fun hr41 => ?_)
        refine z_iconst dX9_whyNoPlace_42 ?_
        refine z_isub dX9_whyNoPlace_43 ?_
        refine z_callSI (d := d + 1) (av := [_, _, _]) dX9_whyNoPlace_44 sX9_143 rfl rfl (Nat.le_of_ble_eq_true rfl) (Nat.le_refl _) (c_X9_in (by omega) (by omega) (by omega)) (fun z44 σ44 h44 => ?_)
        obtain ⟨hs44, h44⟩ := h44
        subst σ44
        refine z_if_eq (tgt := 54) dX9_whyNoPlace_47 (by decide) ⟨by omega, by omega⟩ (fun h47 => ?_) (fun h47 => ?_)
        · skip
          refine z_bipush (v := -13) dX9_whyNoPlace_54 (by decide +kernel) ?_
          exact z_iret dX9_whyNoPlace_56 (⟨by unfold erM; rw [if_neg (by omega), if_neg (by omega), if_neg (by omega)]; first | rw [if_pos (by omega)] | rw [if_neg (by omega)], rfl⟩)
        · skip
          refine z_iconst dX9_whyNoPlace_50 ?_
          refine z_goto (tgt := 56) dX9_whyNoPlace_51 (by decide) ?_
          exact z_iret dX9_whyNoPlace_56 (⟨by unfold erM; rw [if_neg (by omega), if_neg (by omega), if_neg (by omega)]; first | rw [if_pos (by omega)] | rw [if_neg (by omega)], rfl⟩)
      · skip
        refine z_bipush (v := -12) dX9_whyNoPlace_31 (by decide +kernel) ?_
        exact z_iret dX9_whyNoPlace_33 (⟨by unfold erM; rw [if_neg (by omega), if_neg (by omega), if_pos (by omega)], rfl⟩)
    · skip
      refine z_bipush (v := -11) dX9_whyNoPlace_19 (by decide +kernel) ?_
      exact z_iret dX9_whyNoPlace_21 (⟨by unfold erM; rw [if_neg (by omega), if_pos (by omega)], rfl⟩)
  · skip
    refine z_iconst dX9_whyNoPlace_7 ?_
    exact z_iret dX9_whyNoPlace_8 (⟨by unfold erM; rw [if_pos (by omega)], rfl⟩)
theorem erM_n {σ : Sto} {s a : Int} : -13 ≤ erM σ s a ∧ erM σ s a ≤ 0 := by
  unfold erM
  split
  · decide
  · split
    · decide
    · split
      · decide
      · split <;> decide
theorem erM_0 {σ : Sto} {s a : Int} (h : erM σ s a = 0) : (0 ≤ s ∧ s < 6) ∧ (σ 117 s.toNat ≠ -1 ∧ σ 117 s.toNat < 0) ∧ 0 ≤ a ∧ a < σ 118 s.toNat := by
  unfold erM at h
  split at h
  · omega
  · split at h
    · omega
    · split at h
      · omega
      · split at h <;> omega
set_option maxRecDepth 20000 in
theorem c_X9_element {d : Nat} {σ : Sto} {s a : Int} (hS : SM σ) (hs : inR s) (ha : inR a) : m_X9_element d [zR 9, zI s, zI a] σ (qJ fun z σ' => z = (if erM σ s a ≠ 0 then minJ else σ 119 (60 * s + a).toNat) ∧ σ' = σ) := by
  have hn := erM_n (σ := σ) (s := s) (a := a)
  refine z_does (L := [some (zR 9), some (zI s), some (zI a)]) rfl (by decide +kernel) (Nat.le_of_ble_eq_true rfl) rfl ?_
  refine z_aload_n dX9_element_0 rfl ?_
  refine z_iload_n dX9_element_1 rfl ?_
  refine z_iload_n dX9_element_2 rfl ?_
  refine z_callVI (d := d + 2) (av := [_, _]) dX9_element_3 vX9_455 rfl (Nat.le_of_ble_eq_true rfl) rfl rfl rfl (Nat.le_of_ble_eq_true rfl) (Nat.le_refl _) (c_X9_whyNoPlace hS hs ha) (fun z3 σ3 h3 => ?_)
  obtain ⟨rfl, hs3⟩ := h3
  subst σ3
  refine z_if_ge (tgt := 15) dX9_element_6 (by decide) ⟨by omega, by omega⟩ (fun h6 => ?_) (fun h6 => ?_)
  · skip
    obtain ⟨p1, p2, p3⟩ := erM_0 (σ := σ) (s := s) (a := a) (by omega)
    have hs6 := (hS s p1.1 p1.2).2.1
    refine z_aload_n dX9_element_15 rfl ?_
    refine z_getR dX9_element_16 gX9_131 rfl (Nat.le_of_ble_eq_true rfl) rfl ?_
    refine z_bipush (v := 60) dX9_element_19 (by decide +kernel) ?_
    refine z_iload_n dX9_element_21 rfl ?_
    refine z_imul dX9_element_22 ?_
    refine z_iload_n dX9_element_23 rfl ?_
    refine z_iadd dX9_element_24 ?_
    refine z_lald dX9_element_25 rfl (Nat.le_of_ble_eq_true rfl) (by omega) (fun hr25 => ?_)
    exact z_lret dX9_element_26 (by
      first
      | exact ⟨by rw [if_pos (by omega)]; rfl, rfl⟩
      | exact ⟨by rw [if_neg (by omega)], rfl⟩)
  · skip
    refine z_ldc2 dX9_element_9 kX9_358 ?_
    refine z_goto (tgt := 26) dX9_element_12 (by decide) ?_
    exact z_lret dX9_element_26 (by
      first
      | exact ⟨by rw [if_pos (by omega)]; rfl, rfl⟩
      | exact ⟨by rw [if_neg (by omega)], rfl⟩)
set_option maxRecDepth 20000 in
theorem c_X9_put {d : Nat} {σ : Sto} {s a v : Int} (hS : SM σ) (hs : inR s) (ha : inR a) (hv : inJ v) : m_X9_put d [zR 9, zI s, zI a, zJ v] σ (qI fun z σ' => (erM σ s a ≠ 0 ∧ z = erM σ s a ∧ σ' = σ) ∨ (erM σ s a = 0 ∧ z = 1 ∧ ∃ y, lowR (-2 - σ 117 s.toNat) v y ∧ σ' = z_put σ 119 (60 * s + a).toNat y)) := by
  have hn := erM_n (σ := σ) (s := s) (a := a)
  have r1 : inR (z_i2bF v) := z_rng _
  have r2 : inR (z_i2sF v) := z_rng _
  have r3 := wr_R v
  refine z_does (L := [some (zR 9), some (zI s), some (zI a), some (zJ v), none, none, none]) rfl (by decide +kernel) (Nat.le_of_ble_eq_true rfl) rfl ?_
  refine z_aload_n dX9_put_0 rfl ?_
  refine z_iload_n dX9_put_1 rfl ?_
  refine z_iload_n dX9_put_2 rfl ?_
  refine z_callVI (d := d + 2) (av := [_, _]) dX9_put_3 vX9_455 rfl (Nat.le_of_ble_eq_true rfl) rfl rfl rfl (Nat.le_of_ble_eq_true rfl) (Nat.le_refl _) (c_X9_whyNoPlace hS hs ha) (fun z3 σ3 h3 => ?_)
  obtain ⟨rfl, hs3⟩ := h3
  subst σ3
  refine z_istore (L' := [_, _, _, _, _, _, _]) dX9_put_6 (Nat.le_of_ble_eq_true rfl) rfl rfl ?_
  refine z_iload dX9_put_8 rfl ?_
  refine z_if_ge (tgt := 16) dX9_put_10 (by decide) ⟨by omega, by omega⟩ (fun h10 => ?_) (fun h10 => ?_)
  · skip
    obtain ⟨p1, p2, p3⟩ := erM_0 (σ := σ) (s := s) (a := a) (by omega)
    have hs6 := (hS s p1.1 p1.2).2.1
    have hs7 := (hS s p1.1 p1.2).1
    refine z_bipush (v := -2) dX9_put_16 (by decide +kernel) ?_
    refine z_aload_n dX9_put_18 rfl ?_
    refine z_getR dX9_put_19 gX9_125 rfl (Nat.le_of_ble_eq_true rfl) rfl ?_
    refine z_iload_n dX9_put_22 rfl ?_
    refine z_iald dX9_put_23 rfl (Nat.le_of_ble_eq_true rfl) (by omega) (fun hr23 => ?_)
    refine z_isub dX9_put_24 ?_
    refine z_istore (L' := [_, _, _, _, _, _, _]) dX9_put_25 (Nat.le_of_ble_eq_true rfl) rfl rfl ?_
    refine z_aload_n dX9_put_27 rfl ?_
    refine z_getR dX9_put_28 gX9_131 rfl (Nat.le_of_ble_eq_true rfl) rfl ?_
    refine z_bipush (v := 60) dX9_put_31 (by decide +kernel) ?_
    refine z_iload_n dX9_put_33 rfl ?_
    refine z_imul dX9_put_34 ?_
    refine z_iload_n dX9_put_35 rfl ?_
    refine z_iadd dX9_put_36 ?_
    refine z_iload dX9_put_37 rfl ?_
    refine z_if_ne (tgt := 49) dX9_put_39 (by decide) ⟨by omega, by omega⟩ (fun h39 => ?_) (fun h39 => ?_)
    · skip
      refine z_iload dX9_put_49 rfl ?_
      refine z_iconst dX9_put_51 ?_
      refine z_icmp_ne (tgt := 62) dX9_put_52 (by decide) ⟨by omega, by omega⟩ ⟨by omega, by omega⟩ (fun h52 => ?_) (fun h52 => ?_)
      · skip
        refine z_iload dX9_put_62 rfl ?_
        refine z_iconst dX9_put_64 ?_
        refine z_icmp_ne (tgt := 74) dX9_put_65 (by decide) ⟨by omega, by omega⟩ ⟨by omega, by omega⟩ (fun h65 => ?_) (fun h65 => ?_)
        · skip
          refine z_iload dX9_put_74 rfl ?_
          refine z_iconst dX9_put_76 ?_
          refine z_icmp_ne (tgt := 84) dX9_put_77 (by decide) ⟨by omega, by omega⟩ ⟨by omega, by omega⟩ (fun h77 => ?_) (fun h77 => ?_)
          · skip
            refine z_lload_n dX9_put_84 rfl ?_
            refine z_lconst (v := 0) dX9_put_85 (by decide +kernel) ?_
            refine z_lc_eq (tgt := 94) dX9_put_86 dX9_put_87 (by decide) ⟨by omega, by omega⟩ ⟨by omega, by omega⟩ (fun h86 => ?_) (fun h86 => ?_)
            · first
              | exfalso; omega
              | skip
                refine z_lconst (v := 0) dX9_put_94 (by decide +kernel) ?_
                refine z_last dX9_put_95 rfl (Nat.le_of_ble_eq_true rfl) (by omega) ⟨by omega, by omega⟩ ?_
                refine z_iconst dX9_put_96 ?_
                exact z_iret dX9_put_97 (Or.inr ⟨by omega, rfl, _, by omega, rfl⟩)
            · first
              | exfalso; omega
              | skip
                refine z_lconst (v := 1) dX9_put_90 (by decide +kernel) ?_
                refine z_goto (tgt := 95) dX9_put_91 (by decide) ?_
                refine z_last dX9_put_95 rfl (Nat.le_of_ble_eq_true rfl) (by omega) ⟨by omega, by omega⟩ ?_
                refine z_iconst dX9_put_96 ?_
                exact z_iret dX9_put_97 (Or.inr ⟨by omega, rfl, _, by omega, rfl⟩)
          · skip
            refine z_lload_n dX9_put_80 rfl ?_
            refine z_goto (tgt := 95) dX9_put_81 (by decide) ?_
            refine z_last dX9_put_95 rfl (Nat.le_of_ble_eq_true rfl) (by omega) ⟨by omega, by omega⟩ ?_
            refine z_iconst dX9_put_96 ?_
            exact z_iret dX9_put_97 (Or.inr ⟨by omega, rfl, _, by omega, rfl⟩)
        · skip
          refine z_lload_n dX9_put_68 rfl ?_
          refine z_l2i dX9_put_69 ?_
          refine z_wr ?_
          refine z_i2l dX9_put_70 ⟨by omega, by omega⟩ ?_
          refine z_goto (tgt := 95) dX9_put_71 (by decide) ?_
          refine z_last dX9_put_95 rfl (Nat.le_of_ble_eq_true rfl) (by omega) ⟨by omega, by omega⟩ ?_
          refine z_iconst dX9_put_96 ?_
          exact z_iret dX9_put_97 (Or.inr ⟨by omega, rfl, _, by omega, rfl⟩)
      · skip
        refine z_lload_n dX9_put_55 rfl ?_
        refine z_l2i dX9_put_56 ?_
        refine z_i2s dX9_put_57 ?_
        refine z_i2l dX9_put_58 ⟨by omega, by omega⟩ ?_
        refine z_goto (tgt := 95) dX9_put_59 (by decide) ?_
        refine z_last dX9_put_95 rfl (Nat.le_of_ble_eq_true rfl) (by omega) ⟨by omega, by omega⟩ ?_
        refine z_iconst dX9_put_96 ?_
        exact z_iret dX9_put_97 (Or.inr ⟨by omega, rfl, _, by omega, rfl⟩)
    · skip
      refine z_lload_n dX9_put_42 rfl ?_
      refine z_l2i dX9_put_43 ?_
      refine z_i2b dX9_put_44 ?_
      refine z_i2l dX9_put_45 ⟨by omega, by omega⟩ ?_
      refine z_goto (tgt := 95) dX9_put_46 (by decide) ?_
      refine z_last dX9_put_95 rfl (Nat.le_of_ble_eq_true rfl) (by omega) ⟨by omega, by omega⟩ ?_
      refine z_iconst dX9_put_96 ?_
      exact z_iret dX9_put_97 (Or.inr ⟨by omega, rfl, _, by omega, rfl⟩)
  · skip
    refine z_iload dX9_put_13 rfl ?_
    exact z_iret dX9_put_15 (Or.inl ⟨by omega, rfl, rfl⟩)
