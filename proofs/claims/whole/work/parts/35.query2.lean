/-! ===== TalkStrainer: the calls in thought, on ===== -/
def ltG (W M : Int) (ps : Int → Int → Int → Int → Bool) (fin : Int → Int) (wm pl : Int) : Int :=
  if ¬ (0 ≤ wm ∧ 0 ≤ pl ∧ pl ≤ 9999 ∧ wm.tdiv 10 < W ∧ wm.tmod 10 < M) then -1 else if ps (fin (wm.tmod 10)) (wm.tdiv 10) (pl.tdiv 100) (pl.tmod 100) = true then 1 else 0
theorem dm100 {t : Int} (h : 0 ≤ t) : 0 ≤ t.tdiv 100 ∧ 0 ≤ t.tmod 100 ∧ t.tmod 100 < 100 ∧ t.tdiv 100 ≤ t := by
  rw [Int.tdiv_eq_ediv_of_nonneg h, Int.tmod_eq_emod_of_nonneg h]
  omega
set_option maxRecDepth 20000 in
theorem c_X8_lets {d : Nat} {σ : Sto} {LF : LFT} {wm pl : Int} (hW : WC LF σ) (h1 : inR wm) (h2 : inR pl) : m_X8_lets d [zR 0, zI wm, zI pl] σ (qI fun z σ' => z = ltG (σ 1 1) (σ 1 2) (pasC LF σ) (finC σ) wm pl ∧ KC σ σ') := by
  have w1 := hW.1
  have w2 := hW.2.1
  have hd := dm10 (t := wm)
  have he := dm100 (t := pl)
  have hfR := finC_R (m := wm.tmod 10) hW
  refine z_does (L := [some (zR 0), some (zI wm), some (zI pl), none, none]) rfl (by decide +kernel) (Nat.le_of_ble_eq_true rfl) rfl ?_
  refine z_iload_n dX8_lets_0 rfl ?_
  refine z_if_lt (tgt := 15) dX8_lets_1 (by decide) ⟨by omega, by omega⟩ (fun h1 => ?_) (fun h1 => ?_)
  · first
    | exfalso; omega
    | skip
      refine z_iconst dX8_lets_15 ?_
      exact z_iret dX8_lets_16 sorry
  · first
    | exfalso; omega
    | skip
      refine z_iload_n dX8_lets_4 rfl ?_
      refine z_if_lt (tgt := 15) dX8_lets_5 (by decide) ⟨by omega, by omega⟩ (fun h5 => ?_) (fun h5 => ?_)
      · first
        | exfalso; omega
        | skip
          refine z_iconst dX8_lets_15 ?_
          exact z_iret dX8_lets_16 sorry
      · first
        | exfalso; omega
        | skip
          refine z_iload_n dX8_lets_8 rfl ?_
          refine z_sipush (v := 9999) dX8_lets_9 (by decide +kernel) ?_
          refine z_icmp_le (tgt := 17) dX8_lets_12 (by decide) ⟨by omega, by omega⟩ ⟨by omega, by omega⟩ (fun h12 => ?_) (fun h12 => ?_)
          · first
            | exfalso; omega
            | skip
              have hd := hd (by omega)
              have he := he (by omega)
              refine z_iload_n dX8_lets_17 rfl ?_
              refine z_bipush (v := 10) dX8_lets_18 (by decide +kernel) ?_
              refine z_idiv dX8_lets_20 ⟨by omega, by omega⟩ ⟨by omega, by omega⟩ (by omega) ?_
              refine z_istore_n (L' := [_, _, _, _, _]) dX8_lets_21 (Nat.le_of_ble_eq_true rfl) rfl rfl ?_
              refine z_iload_n dX8_lets_22 rfl ?_
              refine z_bipush (v := 10) dX8_lets_23 (by decide +kernel) ?_
              refine z_irem dX8_lets_25 ⟨by omega, by omega⟩ ⟨by omega, by omega⟩ (by omega) ?_
              refine z_istore (L' := [_, _, _, _, _]) dX8_lets_26 (Nat.le_of_ble_eq_true rfl) rfl rfl ?_
              refine z_iload_n dX8_lets_28 rfl ?_
              refine z_aload_n dX8_lets_29 rfl ?_
              refine z_getR dX8_lets_30 gX8_10 rfl (Nat.le_of_ble_eq_true rfl) rfl ?_
              refine z_getI dX8_lets_33 gX8_135 rfl (Nat.le_of_ble_eq_true rfl) rfl (fun hr33 => ?_)
              refine z_icmp_ge (tgt := 48) dX8_lets_36 (by decide) ⟨by omega, by omega⟩ ⟨by omega, by omega⟩ (fun h36 => ?_) (fun h36 => ?_)
              · first
                | exfalso; omega
                | skip
                  refine z_iconst dX8_lets_48 ?_
                  exact z_iret dX8_lets_49 sorry
              · first
                | exfalso; omega
                | skip
                  refine z_aload_n dX8_lets_39 rfl ?_
                  refine z_iload dX8_lets_40 rfl ?_
                  refine z_callVI (d := d + 2) (av := [_]) dX8_lets_42 vX8_119 rfl (Nat.le_of_ble_eq_true rfl) rfl rfl rfl (Nat.le_of_ble_eq_true rfl) (Nat.le_refl _) (c_X8_isMesh (by omega)) (fun z42 σ42 h42 => ?_)
                  obtain ⟨hs42, h42⟩ := h42
                  subst σ42
                  refine z_if_ne (tgt := 50) dX8_lets_45 (by decide) ⟨by omega, by omega⟩ (fun h45 => ?_) (fun h45 => ?_)
                  · first
                    | exfalso; omega
                    | skip
                      refine z_aload_n dX8_lets_50 rfl ?_
                      refine z_getR dX8_lets_51 gX8_42 rfl (Nat.le_of_ble_eq_true rfl) rfl ?_
                      refine z_iload_n dX8_lets_54 rfl ?_
                      refine z_aload_n dX8_lets_55 rfl ?_
                      refine z_iload dX8_lets_56 rfl ?_
                      refine z_callVI (d := d + 2) (av := [_]) dX8_lets_58 vX8_139 rfl (Nat.le_of_ble_eq_true rfl) rfl rfl rfl (Nat.le_of_ble_eq_true rfl) (Nat.le_refl _) (c_X8_fineOf (by omega)) (fun z58 σ58 h58 => ?_)
                      obtain ⟨rfl, hs58⟩ := h58
                      subst σ58
                      refine z_iload_n dX8_lets_61 rfl ?_
                      refine z_bipush (v := 100) dX8_lets_62 (by decide +kernel) ?_
                      refine z_idiv dX8_lets_64 ⟨by omega, by omega⟩ ⟨by omega, by omega⟩ (by omega) ?_
                      refine z_iload_n dX8_lets_65 rfl ?_
                      refine z_bipush (v := 100) dX8_lets_66 (by decide +kernel) ?_
                      refine z_irem dX8_lets_68 ⟨by omega, by omega⟩ ⟨by omega, by omega⟩ (by omega) ?_
                      refine z_callVI (d := d + 2) (av := [_, _, _, _]) dX8_lets_69 vX8_142 rfl (Nat.le_of_ble_eq_true rfl) rfl rfl rfl (Nat.le_of_ble_eq_true rfl) (Nat.le_refl _) (c_X6_passes (LF := LF) (by assumption) (by omega) (by omega) (by omega) (by omega)) (fun z69 σ69 h69 => ?_)
                      skip
                      refine z_if_eq (tgt := 79) dX8_lets_72 (by decide) ⟨by omega, by omega⟩ (fun h72 => ?_) (fun h72 => ?_)
                      · first
                        | exfalso; omega
                        | skip
                          refine z_iconst dX8_lets_79 ?_
                          exact z_iret dX8_lets_80 sorry
                      · first
                        | exfalso; omega
                        | skip
                          refine z_iconst dX8_lets_75 ?_
                          refine z_goto (tgt := 80) dX8_lets_76 (by decide) ?_
                          exact z_iret dX8_lets_80 sorry
                  · first
                    | exfalso; omega
                    | skip
                      refine z_iconst dX8_lets_48 ?_
                      exact z_iret dX8_lets_49 sorry
          · first
            | exfalso; omega
            | skip
              refine z_iconst dX8_lets_15 ?_
              exact z_iret dX8_lets_16 sorry
