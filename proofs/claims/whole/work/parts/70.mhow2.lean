/-! ===== The reference's questions: howFine ===== -/
set_option maxRecDepth 20000 in
theorem c_X9_howFine {d : Nat} {σ : Sto} {LF : LFT} {sc w : Int} (hW : WM LF σ) (hS : SM σ) (hsR : inR sc) (h2 : inR w) : m_X9_howFine d [zR 9, zI sc, zI w] σ (qI fun z σ' => z = hfG (prM σ sc) (pasM LF σ) (SYM σ (sc.tdiv 10)) (SYM σ (sc.tmod 10)) w ∧ KM σ σ') := by
  have w1 := hW.1
  have hprR := prM_R (σ := σ) (t := sc)
  refine z_does (L := [some (zR 9), some (zI sc), some (zI w), none, none, none, none]) rfl (by decide +kernel) (Nat.le_of_ble_eq_true rfl) rfl ?_
  refine z_iload_n dX9_howFine_0 rfl ?_
  refine z_callSI (d := d + 4) (av := [_]) dX9_howFine_1 sX9_309 rfl rfl (Nat.le_of_ble_eq_true rfl) (Nat.le_refl _) (c_X9_areShelves (by omega)) (fun z1 σ1 h1 => ?_)
  obtain ⟨hs1, h1⟩ := h1
  subst σ1
  refine z_if_eq (tgt := 16) dX9_howFine_4 (by decide) ⟨by omega, by omega⟩ (fun h4 => ?_) (fun h4 => ?_)
  · skip
    refine z_iconst dX9_howFine_16 ?_
    exact z_iret dX9_howFine_17 (by
      refine ⟨?_, frM.rf _ _ σ⟩
      unfold hfG
      by_cases q : w < 0 ∨ 1 < w
      · rw [if_pos q]
      · have e : prM σ sc = -1 := by unfold prM; rw [if_pos (by omega)]
        rw [if_neg q, e]; rfl)
  · skip
    refine z_iload_n dX9_howFine_7 rfl ?_
    refine z_iconst dX9_howFine_8 ?_
    refine z_iconst dX9_howFine_9 ?_
    refine z_callSI (d := d + 4) (av := [_, _, _]) dX9_howFine_10 sX9_143 rfl rfl (Nat.le_of_ble_eq_true rfl) (Nat.le_refl _) (c_X9_in (by omega) (by omega) (by omega)) (fun z10 σ10 h10 => ?_)
    obtain ⟨hs10, h10⟩ := h10
    subst σ10
    refine z_if_ne (tgt := 18) dX9_howFine_13 (by decide) ⟨by omega, by omega⟩ (fun h13 => ?_) (fun h13 => ?_)
    · skip
      refine z_aload_n dX9_howFine_18 rfl ?_
      refine z_iload_n dX9_howFine_19 rfl ?_
      refine z_callVI (d := d + 4) (av := [_]) dX9_howFine_20 vX9_312 rfl (Nat.le_of_ble_eq_true rfl) rfl rfl rfl (Nat.le_of_ble_eq_true rfl) (Nat.le_refl _) (c_X9_bothFault hS (by omega) hsR) (fun z20 σ20 h20 => ?_)
      obtain ⟨rfl, hs20⟩ := h20
      subst σ20
      refine z_istore_n (L' := [_, _, _, _, _, _, _]) dX9_howFine_23 (Nat.le_of_ble_eq_true rfl) rfl rfl ?_
      refine z_iload_n dX9_howFine_24 rfl ?_
      refine z_if_ge (tgt := 30) dX9_howFine_25 (by decide) ⟨by omega, by omega⟩ (fun h25 => ?_) (fun h25 => ?_)
      · skip
        obtain ⟨p1, p2, p3, p4, p5⟩ := prM_0 (σ := σ) (t := sc) (by omega)
        refine z_aload_n dX9_howFine_30 rfl ?_
        refine z_iload_n dX9_howFine_31 rfl ?_
        refine z_bipush (v := 10) dX9_howFine_32 (by decide +kernel) ?_
        refine z_irem dX9_howFine_34 ⟨by omega, by omega⟩ ⟨by omega, by omega⟩ (by omega) ?_
        refine z_callVV (d := d + 4) (av := [_]) dX9_howFine_35 vX9_324 rfl (Nat.le_of_ble_eq_true rfl) rfl rfl rfl (Nat.le_of_ble_eq_true rfl) (Nat.le_refl _) (c_X9_layRow w1 hS p2 p4) (fun σ35 h35 => ?_)
        obtain ⟨hk1, -, hr1⟩ := h35
        have hS1 : SM σ35 := hS.fr hk1 (by decide) (by decide) (by decide)
        have e17 : σ35 117 = σ 117 := hk1.1 117 (by decide) (by decide)
        have e91 : σ35 9 1 = σ 9 1 := hk1.2 1 (by decide)
        have esy : SYM σ35 (sc.tdiv 10) = SYM σ (sc.tdiv 10) := hk1.sym (by decide) (by decide) (by decide)
        refine z_aload_n dX9_howFine_38 rfl ?_
        refine z_iload_n dX9_howFine_39 rfl ?_
        refine z_bipush (v := 10) dX9_howFine_40 (by decide +kernel) ?_
        refine z_idiv dX9_howFine_42 ⟨by omega, by omega⟩ ⟨by omega, by omega⟩ (by omega) ?_
        refine z_callVV (d := d + 4) (av := [_]) dX9_howFine_43 vX9_292 rfl (Nat.le_of_ble_eq_true rfl) rfl rfl rfl (Nat.le_of_ble_eq_true rfl) (Nat.le_refl _) (c_X9_laySaying (by rw [e91]; exact w1) hS1 p1 (by rw [e17]; exact p3)) (fun σ43 h43 => ?_)
        obtain ⟨hk2, hsd⟩ := h43
        rw [esy] at hsd
        have hkA : KM σ σ43 := (hk1.mono (by decide) (by decide)).tr (hk2.mono (by decide) (by decide))
        have hr2 := hr1.fr hk2 (by decide) (by decide)
        refine z_iconst dX9_howFine_46 ?_
        refine z_istore (L' := [_, _, _, _, _, _, _]) dX9_howFine_47 (Nat.le_of_ble_eq_true rfl) rfl rfl ?_
        refine z_bipush (v := -2) dX9_howFine_49 (by decide +kernel) ?_
        refine z_istore (L' := [_, _, _, _, _, _, _]) dX9_howFine_51 (Nat.le_of_ble_eq_true rfl) rfl rfl ?_
        refine z_iconst dX9_howFine_53 ?_
        refine z_istore (L' := [_, _, _, _, _, _, _]) dX9_howFine_54 (Nat.le_of_ble_eq_true rfl) rfl rfl ?_
        have h := l_X9_howFine (d := d) (t := sc) (w := w) (e0 := prM σ sc) hW (by omega) 10 σ43 0 0 (-2) (by omega) (by omega) (by omega) (by omega) hkA hsd hr2
        rw [if_pos rfl, Int.zero_add] at h
        unfold hfG
        rw [if_neg (by omega), if_neg (by omega)]
        exact h
      · skip
        refine z_iload_n dX9_howFine_28 rfl ?_
        exact z_iret dX9_howFine_29 (⟨by unfold hfG; rw [if_neg (by omega), if_pos (by omega)], frM.rf _ _ σ⟩)
    · skip
      refine z_iconst dX9_howFine_16 ?_
      exact z_iret dX9_howFine_17 (by
        refine ⟨?_, frM.rf _ _ σ⟩
        unfold hfG
        by_cases q : w < 0 ∨ 1 < w
        · rw [if_pos q]
        · have e : prM σ sc = -1 := by unfold prM; rw [if_pos (by omega)]
          rw [if_neg q, e]; rfl)
