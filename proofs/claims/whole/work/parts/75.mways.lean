/-! ===== The reference: ways, what comes and what stays at a place ===== -/
set_option maxRecDepth 20000 in
theorem c_X9_wayAt {d : Nat} {σ : Sto} {a b : Int} (ha : 0 ≤ a ∧ a ≤ 12) (hb : 0 ≤ b ∧ b ≤ 12) : m_X9_wayAt d [zR 9, zI a, zI b] σ (qJ fun z σ' => z = σ 108 (13 * a + b).toNat ∧ inJ z ∧ σ' = σ) := by
  refine z_does (L := [some (zR 9), some (zI a), some (zI b)]) rfl (by decide +kernel) (Nat.le_of_ble_eq_true rfl) rfl ?_
  refine z_aload_n dX9_wayAt_0 rfl ?_
  refine z_getR dX9_wayAt_1 gX9_97 rfl (Nat.le_of_ble_eq_true rfl) rfl ?_
  refine z_bipush (v := 13) dX9_wayAt_4 (by decide +kernel) ?_
  refine z_iload_n dX9_wayAt_6 rfl ?_
  refine z_imul dX9_wayAt_7 ?_
  refine z_iload_n dX9_wayAt_8 rfl ?_
  refine z_iadd dX9_wayAt_9 ?_
  refine z_lald dX9_wayAt_10 rfl (Nat.le_of_ble_eq_true rfl) (by omega) (fun hr10 => ?_)
  exact z_lret dX9_wayAt_11 ⟨rfl, by omega, rfl⟩
set_option maxRecDepth 20000 in
theorem c_X9_comes {d : Nat} {σ : Sto} {LF : LFT} {c l m : Int} {X : List Int} (hW : WM LF σ) (hX : r1M σ X) (hc : 0 ≤ c ∧ c ≤ X.length) (hl : 0 ≤ l ∧ l ≤ 12) (hm : -1 ≤ m ∧ m < 5) : m_X9_comes d [zR 9, zI c, zI l, zI m] σ (qI fun z σ' => ((z = 1 ∧ c < X.length ∧ pasM LF σ (finM σ m) (X.getD c.toNat 0) (c + l) l = true) ∨ (z = 0 ∧ ¬ (c < X.length ∧ pasM LF σ (finM σ m) (X.getD c.toNat 0) (c + l) l = true))) ∧ pMK σ σ') := by
  obtain ⟨x1, x2, x3, x4⟩ := hX
  refine z_does (L := [some (zR 9), some (zI c), some (zI l), some (zI m)]) rfl (by decide +kernel) (Nat.le_of_ble_eq_true rfl) rfl ?_
  refine z_iload_n dX9_comes_0 rfl ?_
  refine z_aload_n dX9_comes_1 rfl ?_
  refine z_getI dX9_comes_2 gX9_315 rfl (Nat.le_of_ble_eq_true rfl) rfl (fun hr2 => ?_)
  refine z_icmp_ge (tgt := 30) dX9_comes_5 (by decide) ⟨by omega, by omega⟩ ⟨by omega, by omega⟩ (fun h5 => ?_) (fun h5 => ?_)
  · skip
    refine z_iconst dX9_comes_30 ?_
    exact z_zret dX9_comes_31 (by omega) (by
      first
      | exact ⟨Or.inr ⟨rfl, fun q => by have := q.1; omega⟩, frM.rf _ _ σ⟩
      | (rcases hps with q | q
         · first
           | exact ⟨Or.inl ⟨rfl, by omega, q.2⟩, hfr⟩
           | (exfalso; omega)
         · first
           | exact ⟨Or.inr ⟨rfl, fun v => by rw [q.2] at v; exact absurd v.2 Bool.false_ne_true⟩, hfr⟩
           | (exfalso; omega)))
  · skip
    refine z_aload_n dX9_comes_8 rfl ?_
    refine z_aload_n dX9_comes_9 rfl ?_
    refine z_getR dX9_comes_10 gX9_94 rfl (Nat.le_of_ble_eq_true rfl) rfl ?_
    refine z_iload_n dX9_comes_13 rfl ?_
    refine z_iald dX9_comes_14 rfl (Nat.le_of_ble_eq_true rfl) (by omega) (fun hr14 => ?_)
    have ec := Seg.getD x2 (show c.toNat < X.length by omega)
    rw [Nat.zero_add] at ec
    have hw := x3 (X.getD c.toNat 0) (by rw [List.getD_eq_getElem?_getD, List.getElem?_eq_getElem (show c.toNat < X.length by omega)]; exact List.getElem_mem _)
    rw [ec]
    refine z_iload_n dX9_comes_15 rfl ?_
    refine z_iload_n dX9_comes_16 rfl ?_
    refine z_iload_n dX9_comes_17 rfl ?_
    refine z_iadd dX9_comes_18 ?_
    refine z_iload_n dX9_comes_19 rfl ?_
    refine z_callVI (d := d + 4) (av := [_, _, _, _]) dX9_comes_20 vX9_271 rfl (Nat.le_of_ble_eq_true rfl) rfl rfl rfl (Nat.le_of_ble_eq_true rfl) (Nat.le_refl _) (c_X9_passes (LF := LF) hW hw hm (by omega) (by omega)) (fun z20 σ20 h20 => ?_)
    obtain ⟨hps, hfr⟩ := h20
    have hr20 : inR z20 := by rcases hps with q | q; rw [q.1]; decide; rw [q.1]; decide
    refine z_if_eq (tgt := 30) dX9_comes_23 (by decide) ⟨by omega, by omega⟩ (fun h23 => ?_) (fun h23 => ?_)
    · skip
      refine z_iconst dX9_comes_30 ?_
      exact z_zret dX9_comes_31 (by omega) (by
        first
        | exact ⟨Or.inr ⟨rfl, fun q => by have := q.1; omega⟩, frM.rf _ _ σ⟩
        | (rcases hps with q | q
           · first
             | exact ⟨Or.inl ⟨rfl, by omega, q.2⟩, hfr⟩
             | (exfalso; omega)
           · first
             | exact ⟨Or.inr ⟨rfl, fun v => by rw [q.2] at v; exact absurd v.2 Bool.false_ne_true⟩, hfr⟩
             | (exfalso; omega)))
    · skip
      refine z_iconst dX9_comes_26 ?_
      refine z_goto (tgt := 31) dX9_comes_27 (by decide) ?_
      exact z_zret dX9_comes_31 (by omega) (by
        first
        | exact ⟨Or.inr ⟨rfl, fun q => by have := q.1; omega⟩, frM.rf _ _ σ⟩
        | (rcases hps with q | q
           · first
             | exact ⟨Or.inl ⟨rfl, by omega, q.2⟩, hfr⟩
             | (exfalso; omega)
           · first
             | exact ⟨Or.inr ⟨rfl, fun v => by rw [q.2] at v; exact absurd v.2 Bool.false_ne_true⟩, hfr⟩
             | (exfalso; omega)))
set_option maxRecDepth 20000 in
theorem c_X9_stays {d : Nat} {σ : Sto} {LF : LFT} {c l m : Int} {X : List Int} (hW : WM LF σ) (hX : reM σ X) (hc : 0 ≤ c ∧ c ≤ 12) (hl : 0 ≤ l ∧ l ≤ X.length) (hm : -1 ≤ m ∧ m < 5) : m_X9_stays d [zR 9, zI c, zI l, zI m] σ (qI fun z σ' => ((z = 1 ∧ l < X.length ∧ pasM LF σ (finM σ m) (X.getD l.toNat 0) (c + l) l = false) ∨ (z = 0 ∧ ¬ (l < X.length ∧ pasM LF σ (finM σ m) (X.getD l.toNat 0) (c + l) l = false))) ∧ pMK σ σ') := by
  obtain ⟨x1, x2, x3, x4⟩ := hX
  refine z_does (L := [some (zR 9), some (zI c), some (zI l), some (zI m)]) rfl (by decide +kernel) (Nat.le_of_ble_eq_true rfl) rfl ?_
  refine z_iload_n dX9_stays_0 rfl ?_
  refine z_aload_n dX9_stays_1 rfl ?_
  refine z_getI dX9_stays_2 gX9_345 rfl (Nat.le_of_ble_eq_true rfl) rfl (fun hr2 => ?_)
  refine z_icmp_ge (tgt := 30) dX9_stays_5 (by decide) ⟨by omega, by omega⟩ ⟨by omega, by omega⟩ (fun h5 => ?_) (fun h5 => ?_)
  · skip
    refine z_iconst dX9_stays_30 ?_
    exact z_zret dX9_stays_31 (by omega) (by
      first
      | exact ⟨Or.inr ⟨rfl, fun q => by have := q.1; omega⟩, frM.rf _ _ σ⟩
      | (rcases hps with q | q
         · first
           | exact ⟨Or.inr ⟨rfl, fun v => by rw [q.2] at v; exact absurd v.2 (by decide)⟩, hfr⟩
           | (exfalso; omega)
         · first
           | exact ⟨Or.inl ⟨rfl, by omega, q.2⟩, hfr⟩
           | (exfalso; omega)))
  · skip
    refine z_aload_n dX9_stays_8 rfl ?_
    refine z_aload_n dX9_stays_9 rfl ?_
    refine z_getR dX9_stays_10 gX9_101 rfl (Nat.le_of_ble_eq_true rfl) rfl ?_
    refine z_iload_n dX9_stays_13 rfl ?_
    refine z_iald dX9_stays_14 rfl (Nat.le_of_ble_eq_true rfl) (by omega) (fun hr14 => ?_)
    have ec := Seg.getD x2 (show l.toNat < X.length by omega)
    rw [Nat.zero_add] at ec
    have hw := x3 (X.getD l.toNat 0) (by rw [List.getD_eq_getElem?_getD, List.getElem?_eq_getElem (show l.toNat < X.length by omega)]; exact List.getElem_mem _)
    rw [ec]
    refine z_iload_n dX9_stays_15 rfl ?_
    refine z_iload_n dX9_stays_16 rfl ?_
    refine z_iload_n dX9_stays_17 rfl ?_
    refine z_iadd dX9_stays_18 ?_
    refine z_iload_n dX9_stays_19 rfl ?_
    refine z_callVI (d := d + 4) (av := [_, _, _, _]) dX9_stays_20 vX9_271 rfl (Nat.le_of_ble_eq_true rfl) rfl rfl rfl (Nat.le_of_ble_eq_true rfl) (Nat.le_refl _) (c_X9_passes (LF := LF) hW hw hm (by omega) (by omega)) (fun z20 σ20 h20 => ?_)
    obtain ⟨hps, hfr⟩ := h20
    have hr20 : inR z20 := by rcases hps with q | q; rw [q.1]; decide; rw [q.1]; decide
    refine z_if_ne (tgt := 30) dX9_stays_23 (by decide) ⟨by omega, by omega⟩ (fun h23 => ?_) (fun h23 => ?_)
    · skip
      refine z_iconst dX9_stays_30 ?_
      exact z_zret dX9_stays_31 (by omega) (by
        first
        | exact ⟨Or.inr ⟨rfl, fun q => by have := q.1; omega⟩, frM.rf _ _ σ⟩
        | (rcases hps with q | q
           · first
             | exact ⟨Or.inr ⟨rfl, fun v => by rw [q.2] at v; exact absurd v.2 (by decide)⟩, hfr⟩
             | (exfalso; omega)
           · first
             | exact ⟨Or.inl ⟨rfl, by omega, q.2⟩, hfr⟩
             | (exfalso; omega)))
    · skip
      refine z_iconst dX9_stays_26 ?_
      refine z_goto (tgt := 31) dX9_stays_27 (by decide) ?_
      exact z_zret dX9_stays_31 (by omega) (by
        first
        | exact ⟨Or.inr ⟨rfl, fun q => by have := q.1; omega⟩, frM.rf _ _ σ⟩
        | (rcases hps with q | q
           · first
             | exact ⟨Or.inr ⟨rfl, fun v => by rw [q.2] at v; exact absurd v.2 (by decide)⟩, hfr⟩
             | (exfalso; omega)
           · first
             | exact ⟨Or.inl ⟨rfl, by omega, q.2⟩, hfr⟩
             | (exfalso; omega)))
