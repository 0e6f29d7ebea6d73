/-! ===== The class's calls that change something ===== -/
set_option maxRecDepth 20000 in
theorem c_X8_word {d : Nat} {σ : Sto} {s h : Int} (hc : 0 ≤ σ 1 1 ∧ σ 1 1 ≤ 12) (hs : inR s) (hh : inR h) : m_X8_word d [zR 0, zI s, zI h] σ (qI fun z σ' => (¬ (allowR 0 s ∧ allowR 1 h) ∧ z = -1 ∧ σ' = σ) ∨ ((allowR 0 s ∧ allowR 1 h) ∧ ((σ 1 1 = 12 ∧ z = -3 ∧ σ' = σ) ∨ (σ 1 1 < 12 ∧ z = σ 1 1 ∧ σ' = nwS σ s h 0)))) := by
  refine z_does (L := [some (zR 0), some (zI s), some (zI h)]) rfl (by decide +kernel) (Nat.le_of_ble_eq_true rfl) rfl ?_
  refine z_aload_n dX8_word_0 rfl ?_
  refine z_getR dX8_word_1 gX8_10 rfl (Nat.le_of_ble_eq_true rfl) rfl ?_
  refine z_iconst dX8_word_4 ?_
  refine z_iload_n dX8_word_5 rfl ?_
  refine z_callVI (d := d + 3) (av := [_, _]) dX8_word_6 vX8_76 rfl (Nat.le_of_ble_eq_true rfl) rfl rfl rfl (Nat.le_of_ble_eq_true rfl) (Nat.le_refl _) (c_X7_allows (by omega) (by omega)) (fun z6 σ6 h6 => ?_)
  obtain ⟨hs6, h6⟩ := h6
  subst σ6
  refine z_if_eq (tgt := 24) dX8_word_9 (by decide) ⟨by omega, by omega⟩ (fun h9 => ?_) (fun h9 => ?_)
  · skip
    refine z_iconst dX8_word_24 ?_
    exact z_iret dX8_word_25 (Or.inl ⟨by omega, rfl, rfl⟩)
  · skip
    refine z_aload_n dX8_word_12 rfl ?_
    refine z_getR dX8_word_13 gX8_10 rfl (Nat.le_of_ble_eq_true rfl) rfl ?_
    refine z_iconst dX8_word_16 ?_
    refine z_iload_n dX8_word_17 rfl ?_
    refine z_callVI (d := d + 3) (av := [_, _]) dX8_word_18 vX8_76 rfl (Nat.le_of_ble_eq_true rfl) rfl rfl rfl (Nat.le_of_ble_eq_true rfl) (Nat.le_refl _) (c_X7_allows (by omega) (by omega)) (fun z18 σ18 h18 => ?_)
    obtain ⟨hs18, h18⟩ := h18
    subst σ18
    refine z_if_ne (tgt := 26) dX8_word_21 (by decide) ⟨by omega, by omega⟩ (fun h21 => ?_) (fun h21 => ?_)
    · skip
      refine z_aload_n dX8_word_26 rfl ?_
      refine z_getR dX8_word_27 gX8_10 rfl (Nat.le_of_ble_eq_true rfl) rfl ?_
      refine z_iload_n dX8_word_30 rfl ?_
      refine z_iload_n dX8_word_31 rfl ?_
      refine z_iconst dX8_word_32 ?_
      refine z_callVI (d := d + 3) (av := [_, _, _]) dX8_word_33 vX8_80 rfl (Nat.le_of_ble_eq_true rfl) rfl rfl rfl (Nat.le_of_ble_eq_true rfl) (Nat.le_refl _) (c_X7_newWord (by omega) (by omega) (by omega) (by omega)) (fun z33 σ33 h33 => ?_)
      skip
      exact z_iret dX8_word_36 (Or.inr ⟨by omega, h33⟩)
    · skip
      refine z_iconst dX8_word_24 ?_
      exact z_iret dX8_word_25 (Or.inl ⟨by omega, rfl, rfl⟩)
set_option maxRecDepth 20000 in
theorem c_X8_mesh {d : Nat} {σ : Sto} {f : Int} (hc : 0 ≤ σ 1 2 ∧ σ 1 2 ≤ 5) (hf : inR f) : m_X8_mesh d [zR 0, zI f] σ (qI fun z σ' => (¬ allowR 5 f ∧ z = -1 ∧ σ' = σ) ∨ (allowR 5 f ∧ ((σ 1 2 = 5 ∧ z = -3 ∧ σ' = σ) ∨ (σ 1 2 < 5 ∧ z = σ 1 2 ∧ σ' = z_put (z_put σ 1 2 (σ 1 2 + 1)) 18 (σ 1 2).toNat f)))) := by
  refine z_does (L := [some (zR 0), some (zI f)]) rfl (by decide +kernel) (Nat.le_of_ble_eq_true rfl) rfl ?_
  refine z_aload_n dX8_mesh_0 rfl ?_
  refine z_getR dX8_mesh_1 gX8_10 rfl (Nat.le_of_ble_eq_true rfl) rfl ?_
  refine z_iconst dX8_mesh_4 ?_
  refine z_iload_n dX8_mesh_5 rfl ?_
  refine z_callVI (d := d + 3) (av := [_, _]) dX8_mesh_6 vX8_76 rfl (Nat.le_of_ble_eq_true rfl) rfl rfl rfl (Nat.le_of_ble_eq_true rfl) (Nat.le_refl _) (c_X7_allows (by omega) (by omega)) (fun z6 σ6 h6 => ?_)
  obtain ⟨hs6, h6⟩ := h6
  subst σ6
  refine z_if_eq (tgt := 23) dX8_mesh_9 (by decide) ⟨by omega, by omega⟩ (fun h9 => ?_) (fun h9 => ?_)
  · skip
    refine z_iconst dX8_mesh_23 ?_
    exact z_iret dX8_mesh_24 (by first | exact Or.inr ⟨by omega, h17⟩ | exact Or.inl ⟨by omega, rfl, rfl⟩)
  · skip
    refine z_aload_n dX8_mesh_12 rfl ?_
    refine z_getR dX8_mesh_13 gX8_10 rfl (Nat.le_of_ble_eq_true rfl) rfl ?_
    refine z_iload_n dX8_mesh_16 rfl ?_
    refine z_callVI (d := d + 3) (av := [_]) dX8_mesh_17 vX8_98 rfl (Nat.le_of_ble_eq_true rfl) rfl rfl rfl (Nat.le_of_ble_eq_true rfl) (Nat.le_refl _) (c_X7_newMesh (by omega) (by omega)) (fun z17 σ17 h17 => ?_)
    have hr17 : inR z17 := by omega
    refine z_goto (tgt := 24) dX8_mesh_20 (by decide) ?_
    exact z_iret dX8_mesh_24 (by first | exact Or.inr ⟨by omega, h17⟩ | exact Or.inl ⟨by omega, rfl, rfl⟩)
set_option maxRecDepth 20000 in
theorem c_X8_person {d : Nat} {σ : Sto} {f : Int} (hc : 0 ≤ σ 1 3 ∧ σ 1 3 ≤ 6) (hf : inR f) : m_X8_person d [zR 0, zI f] σ (qI fun z σ' => (¬ allowR 6 f ∧ z = -1 ∧ σ' = σ) ∨ (allowR 6 f ∧ ((σ 1 3 = 6 ∧ z = -3 ∧ σ' = σ) ∨ (σ 1 3 < 6 ∧ z = σ 1 3 ∧ σ' = z_put (z_put σ 1 3 (σ 1 3 + 1)) 19 (σ 1 3).toNat f)))) := by
  refine z_does (L := [some (zR 0), some (zI f)]) rfl (by decide +kernel) (Nat.le_of_ble_eq_true rfl) rfl ?_
  refine z_aload_n dX8_person_0 rfl ?_
  refine z_getR dX8_person_1 gX8_10 rfl (Nat.le_of_ble_eq_true rfl) rfl ?_
  refine z_bipush (v := 6) dX8_person_4 (by decide +kernel) ?_
  refine z_iload_n dX8_person_6 rfl ?_
  refine z_callVI (d := d + 3) (av := [_, _]) dX8_person_7 vX8_76 rfl (Nat.le_of_ble_eq_true rfl) rfl rfl rfl (Nat.le_of_ble_eq_true rfl) (Nat.le_refl _) (c_X7_allows (by omega) (by omega)) (fun z7 σ7 h7 => ?_)
  obtain ⟨hs7, h7⟩ := h7
  subst σ7
  refine z_if_eq (tgt := 24) dX8_person_10 (by decide) ⟨by omega, by omega⟩ (fun h10 => ?_) (fun h10 => ?_)
  · skip
    refine z_iconst dX8_person_24 ?_
    exact z_iret dX8_person_25 (by first | exact Or.inr ⟨by omega, h18⟩ | exact Or.inl ⟨by omega, rfl, rfl⟩)
  · skip
    refine z_aload_n dX8_person_13 rfl ?_
    refine z_getR dX8_person_14 gX8_10 rfl (Nat.le_of_ble_eq_true rfl) rfl ?_
    refine z_iload_n dX8_person_17 rfl ?_
    refine z_callVI (d := d + 3) (av := [_]) dX8_person_18 vX8_101 rfl (Nat.le_of_ble_eq_true rfl) rfl rfl rfl (Nat.le_of_ble_eq_true rfl) (Nat.le_refl _) (c_X7_newPerson (by omega) (by omega)) (fun z18 σ18 h18 => ?_)
    have hr18 : inR z18 := by omega
    refine z_goto (tgt := 25) dX8_person_21 (by decide) ?_
    exact z_iret dX8_person_25 (by first | exact Or.inr ⟨by omega, h18⟩ | exact Or.inl ⟨by omega, rfl, rfl⟩)
/-- which of a thing's numbers can be asked for -/
def hasR (σ : Sto) (n w : Int) : Prop := 0 ≤ w ∧ w < 8 ∧ 0 ≤ n ∧ ∃ b, bearR σ w b ∧ n < b
def ntK (σ : Sto) (n w b a : Int) : Sto := if σ 2 4 < 40 then noteT (z_put σ 2 5 0) (σ 2 4) n w b a else noteT (z_put (shf (z_put σ 2 5 0) 40) 2 4 39) 39 n w b a
set_option maxRecDepth 20000 in
theorem c_X8_mend {d : Nat} {σ : Sto} {n w v : Int} (hc : (0 ≤ σ 1 1 ∧ σ 1 1 ≤ 12) ∧ (0 ≤ σ 1 2 ∧ σ 1 2 ≤ 5) ∧ (0 ≤ σ 1 3 ∧ σ 1 3 ≤ 6)) (hd : 0 ≤ σ 2 4 ∧ σ 2 4 ≤ 40) (hn : inR n) (hw : inR w) (hv : inR v) (hI : ∀ k j, 13 ≤ k → k ≤ 20 → inR (σ k j)) : m_X8_mend d [zR 0, zI n, zI w, zI v] σ (qI fun z σ' => (¬ (hasR σ n w ∧ allowR w v) ∧ z = -1 ∧ σ' = σ) ∨ ((hasR σ n w ∧ allowR w v) ∧ z = σ (13 + w.toNat) n.toNat ∧ ((z = v ∧ σ' = σ) ∨ (z ≠ v ∧ σ' = ntK (z_put σ (13 + w.toNat) n.toNat v) n w z v)))) := by
  refine z_does (L := [some (zR 0), some (zI n), some (zI w), some (zI v), none]) rfl (by decide +kernel) (Nat.le_of_ble_eq_true rfl) rfl ?_
  refine z_aload_n dX8_mend_0 rfl ?_
  refine z_getR dX8_mend_1 gX8_10 rfl (Nat.le_of_ble_eq_true rfl) rfl ?_
  refine z_iload_n dX8_mend_4 rfl ?_
  refine z_iload_n dX8_mend_5 rfl ?_
  refine z_callVI (d := d + 2) (av := [_, _]) dX8_mend_6 vX8_104 rfl (Nat.le_of_ble_eq_true rfl) rfl rfl rfl (Nat.le_of_ble_eq_true rfl) (Nat.le_refl _) (c_X7_has (by omega) (by omega)) (fun z6 σ6 h6 => ?_)
  obtain ⟨hs6, h6⟩ := h6
  subst σ6
  refine z_if_eq (tgt := 24) dX8_mend_9 (by decide) ⟨by omega, by omega⟩ (fun h9 => ?_) (fun h9 => ?_)
  · skip
    refine z_iconst dX8_mend_24 ?_
    exact z_iret dX8_mend_25 (Or.inl ⟨by intro q; rcases h6 with q6 | q6; omega; exact q6.2 q.1, rfl, rfl⟩)
  · skip
    refine z_aload_n dX8_mend_12 rfl ?_
    refine z_getR dX8_mend_13 gX8_10 rfl (Nat.le_of_ble_eq_true rfl) rfl ?_
    refine z_iload_n dX8_mend_16 rfl ?_
    refine z_iload_n dX8_mend_17 rfl ?_
    refine z_callVI (d := d + 2) (av := [_, _]) dX8_mend_18 vX8_76 rfl (Nat.le_of_ble_eq_true rfl) rfl rfl rfl (Nat.le_of_ble_eq_true rfl) (Nat.le_refl _) (c_X7_allows (by omega) (by omega)) (fun z18 σ18 h18 => ?_)
    obtain ⟨hs18, h18⟩ := h18
    subst σ18
    refine z_if_ne (tgt := 26) dX8_mend_21 (by decide) ⟨by omega, by omega⟩ (fun h21 => ?_) (fun h21 => ?_)
    · skip
      have hh : hasR σ n w := by rcases h6 with q | q; exact q.2; exfalso; omega
      obtain ⟨b, b1, b2⟩ := hh.2.2.2
      have hh1 := hh.1
      have hh2 := hh.2.1
      have hh3 := hh.2.2.1
      have hn12 : n < 12 := by unfold bearR at b1; omega
      have hzR := hI (13 + w.toNat) n.toNat (by omega) (by omega)
      refine z_aload_n dX8_mend_26 rfl ?_
      refine z_getR dX8_mend_27 gX8_10 rfl (Nat.le_of_ble_eq_true rfl) rfl ?_
      refine z_iload_n dX8_mend_30 rfl ?_
      refine z_iload_n dX8_mend_31 rfl ?_
      refine z_callVI (d := d + 2) (av := [_, _]) dX8_mend_32 vX8_107 rfl (Nat.le_of_ble_eq_true rfl) rfl rfl rfl (Nat.le_of_ble_eq_true rfl) (Nat.le_refl _) (c_X7_get (by omega) (by omega)) (fun z32 σ32 h32 => ?_)
      obtain ⟨rfl, hs32⟩ := h32
      subst σ32
      refine z_istore (L' := [_, _, _, _, _]) dX8_mend_35 (Nat.le_of_ble_eq_true rfl) rfl rfl ?_
      refine z_iload dX8_mend_37 rfl ?_
      refine z_iload_n dX8_mend_39 rfl ?_
      refine z_icmp_eq (tgt := 65) dX8_mend_40 (by decide) ⟨by omega, by omega⟩ ⟨by omega, by omega⟩ (fun h40 => ?_) (fun h40 => ?_)
      · skip
        refine z_iload dX8_mend_65 rfl ?_
        exact z_iret dX8_mend_67 (by
          first
          | exact Or.inr ⟨⟨hh, by omega⟩, rfl, Or.inl ⟨by omega, rfl⟩⟩
          | (refine Or.inr ⟨⟨hh, by omega⟩, rfl, Or.inr ⟨by omega, ?_⟩⟩
             unfold ntK; rw [e50]
             rcases h62 with q | q
             · rw [if_pos q.1]; exact q.2
             · rw [if_neg (by omega)]; exact q.2))
      · skip
        refine z_aload_n dX8_mend_43 rfl ?_
        refine z_getR dX8_mend_44 gX8_10 rfl (Nat.le_of_ble_eq_true rfl) rfl ?_
        refine z_iload_n dX8_mend_47 rfl ?_
        refine z_iload_n dX8_mend_48 rfl ?_
        refine z_iload_n dX8_mend_49 rfl ?_
        refine z_callVV (d := d + 2) (av := [_, _, _]) dX8_mend_50 vX8_111 rfl (Nat.le_of_ble_eq_true rfl) rfl rfl rfl (Nat.le_of_ble_eq_true rfl) (Nat.le_refl _) (c_X7_set (by omega) (by omega) ⟨b, b1, b2⟩ (by omega)) (fun σ50 h50 => ?_)
        subst h50
        have e50 : z_put σ (13 + w.toNat) n.toNat v 2 = σ 2 := z_put_ne (by omega)
        refine z_aload_n dX8_mend_53 rfl ?_
        refine z_getR dX8_mend_54 gX8_19 rfl (Nat.le_of_ble_eq_true rfl) rfl ?_
        refine z_iload_n dX8_mend_57 rfl ?_
        refine z_iload_n dX8_mend_58 rfl ?_
        refine z_iload dX8_mend_59 rfl ?_
        refine z_iload_n dX8_mend_61 rfl ?_
        refine z_callVV (d := d + 2) (av := [_, _, _, _]) dX8_mend_62 vX8_115 rfl (Nat.le_of_ble_eq_true rfl) rfl rfl rfl (Nat.le_of_ble_eq_true rfl) (Nat.le_refl _) (c_X0_note (by rw [e50]; omega) (by omega) (by omega) (by omega) (by omega)) (fun σ62 h62 => ?_)
        rw [e50] at h62
        refine z_iload dX8_mend_65 rfl ?_
        exact z_iret dX8_mend_67 (by
          first
          | exact Or.inr ⟨⟨hh, by omega⟩, rfl, Or.inl ⟨by omega, rfl⟩⟩
          | (refine Or.inr ⟨⟨hh, by omega⟩, rfl, Or.inr ⟨by omega, ?_⟩⟩
             unfold ntK; rw [e50]
             rcases h62 with q | q
             · rw [if_pos q.1]; exact q.2
             · rw [if_neg (by omega)]; exact q.2))
    · skip
      refine z_iconst dX8_mend_24 ?_
      exact z_iret dX8_mend_25 (Or.inl ⟨by intro q; rcases h6 with q6 | q6; omega; exact q6.2 q.1, rfl, rfl⟩)
set_option maxRecDepth 20000 in
theorem c_X8_feed {d : Nat} {σ : Sto} {x : Int} (h : 0 ≤ σ 3 5 ∧ σ 3 5 ≤ 120) (hx : inR x) : m_X8_feed d [zR 0, zI x] σ (qI fun z σ' => (¬ (0 ≤ x ∧ x ≤ 255) ∧ z = -1 ∧ σ' = σ) ∨ ((0 ≤ x ∧ x ≤ 255) ∧ ((σ 3 5 = 120 ∧ z = -3 ∧ σ' = σ) ∨ (σ 3 5 < 120 ∧ z = σ 3 5 + 1 ∧ σ' = z_put (z_put σ 25 (σ 3 5).toNat x) 3 5 (σ 3 5 + 1))))) := by
  refine z_does (L := [some (zR 0), some (zI x)]) rfl (by decide +kernel) (Nat.le_of_ble_eq_true rfl) rfl ?_
  refine z_iload_n dX8_feed_0 rfl ?_
  refine z_if_lt (tgt := 11) dX8_feed_1 (by decide) ⟨by omega, by omega⟩ (fun h1 => ?_) (fun h1 => ?_)
  · skip
    refine z_iconst dX8_feed_11 ?_
    refine z_goto (tgt := 23) dX8_feed_12 (by decide) ?_
    exact z_iret dX8_feed_23 (by first | exact Or.inr ⟨by omega, h20⟩ | exact Or.inl ⟨by omega, rfl, rfl⟩)
  · skip
    refine z_iload_n dX8_feed_4 rfl ?_
    refine z_sipush (v := 255) dX8_feed_5 (by decide +kernel) ?_
    refine z_icmp_le (tgt := 15) dX8_feed_8 (by decide) ⟨by omega, by omega⟩ ⟨by omega, by omega⟩ (fun h8 => ?_) (fun h8 => ?_)
    · skip
      refine z_aload_n dX8_feed_15 rfl ?_
      refine z_getR dX8_feed_16 gX8_26 rfl (Nat.le_of_ble_eq_true rfl) rfl ?_
      refine z_iload_n dX8_feed_19 rfl ?_
      refine z_callVI (d := d + 0) (av := [_]) dX8_feed_20 vX8_128 rfl (Nat.le_of_ble_eq_true rfl) rfl rfl rfl (Nat.le_of_ble_eq_true rfl) (Nat.le_refl _) (c_X2_take (by omega) (by omega)) (fun z20 σ20 h20 => ?_)
      have hr20 : inR z20 := by omega
      exact z_iret dX8_feed_23 (by first | exact Or.inr ⟨by omega, h20⟩ | exact Or.inl ⟨by omega, rfl, rfl⟩)
    · skip
      refine z_iconst dX8_feed_11 ?_
      refine z_goto (tgt := 23) dX8_feed_12 (by decide) ?_
      exact z_iret dX8_feed_23 (by first | exact Or.inr ⟨by omega, h20⟩ | exact Or.inl ⟨by omega, rfl, rfl⟩)
set_option maxRecDepth 20000 in
theorem c_X8_law {σ : Sto} (ht : tpO σ) : Does 102 yX8_law cX8_law 1 (some .int) [zR 0] σ (qI fun z σ' => btK σ σ' ∧ (((rdT σ).1 = false ∧ z = -100 - (rdT σ).2.1 ∧ σ' 27 = σ 27 ∧ σ' 3 7 = σ 3 7) ∨ ((rdT σ).1 = true ∧ z = 1 ∧ σ' 3 7 = (clS 0 (rdT σ).2.2).length ∧ Seg σ' 27 0 (clS 0 (rdT σ).2.2)))) := by
  refine z_does (L := [some (zR 0)]) rfl (by decide +kernel) (Nat.le_of_ble_eq_true rfl) rfl ?_
  refine z_aload_n dX8_law_0 rfl ?_
  refine z_getR dX8_law_1 gX8_26 rfl (Nat.le_of_ble_eq_true rfl) rfl ?_
  refine z_callVI (d := 101) (av := []) dX8_law_4 vX8_131 rfl (Nat.le_of_ble_eq_true rfl) rfl rfl rfl (Nat.le_of_ble_eq_true rfl) (Nat.le_refl _) (c_X2_becomeTape ht) (fun z4 σ4 h4 => ?_)
  skip
  exact z_iret dX8_law_7 h4
