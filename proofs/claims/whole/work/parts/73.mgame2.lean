/-! ===== The reference's questions: the game's table ===== -/
set_option maxRecDepth 20000 in
theorem l_X9_game {d : Nat} {σ : Sto} {LF : LFT} {m w : Int} {n : Nat} {Q : Option Value → Sto → Prop} (hW : WM LF σ) (hn : (n : Int) = min (σ 9 1) 10) (hm : 0 ≤ m ∧ m < 5)
    (kk : ∀ τ : Sto, KM σ τ → wnI (τ 110) (fun v p => pasM LF σ (finM σ m) v p 0) n (-1) → Z (z_me cX9_game RX9 4 (some .int) (d + 7) Q) 58 [some (zR 9), some (zI m), some (zI w), some (zI (-1))] [] τ) :
    ∀ (k : Nat) (τ : Sto) (s : Int), s + 1 = k → s < (2 ^ n : Nat) → KM σ τ → wnI (τ 110) (fun v p => pasM LF σ (finM σ m) v p 0) n s →
    Z (z_me cX9_game RX9 4 (some .int) (d + 7) Q) 28 [some (zR 9), some (zI m), some (zI w), some (zI s)] [] τ
  | 0, τ, s, hs, hs2, hK, hI => by
    obtain rfl : s = -1 := by omega
    refine z_iload_n dX9_game_28 rfl ?_
    refine z_if_lt (tgt := 58) dX9_game_29 (by decide) ⟨by omega, by omega⟩ (fun h29 => ?_) (fun h29 => ?_)
    · skip
      exact kk τ hK hI
    · exfalso; omega
  | k + 1, τ, s, hs, hs2, hK, hI => by
    have p10 := pow10 (n := n) (by omega)
    have e1 : τ 9 1 = σ 9 1 := hK.2 1 (by decide)
    have hwp := wnI_wp (by omega) (by omega) hI
    have hI2 := wnI_up (by omega) hI
    have hwr := wpF_R (ps := fun v p => pasM LF σ (finM σ m) v p 0) (W := τ 110) (s := s) n 0 (by omega)
    refine z_iload_n dX9_game_28 rfl ?_
    refine z_if_lt (tgt := 58) dX9_game_29 (by decide) ⟨by omega, by omega⟩ (fun h29 => ?_) (fun h29 => ?_)
    · exfalso; omega
    · skip
      refine z_aload_n dX9_game_32 rfl ?_
      refine z_getR dX9_game_33 gX9_104 rfl (Nat.le_of_ble_eq_true rfl) rfl ?_
      refine z_iload_n dX9_game_36 rfl ?_
      refine z_aload_n dX9_game_37 rfl ?_
      refine z_iload_n dX9_game_38 rfl ?_
      refine z_iload_n dX9_game_39 rfl ?_
      refine z_callVI (d := d + 6) (av := [_, _]) dX9_game_40 vX9_397 rfl (Nat.le_of_ble_eq_true rfl) rfl rfl rfl (Nat.le_of_ble_eq_true rfl) (Nat.le_refl _) (c_X9_winningWord (LF := LF) (n := n) (hK.wm hW rfl) (by rw [e1]; exact hn) (by omega) hm) (fun z40 σ40 h40 => ?_)
      obtain ⟨hz, hfr⟩ := h40
      have ep : (fun v p => pasM LF τ (finM τ m) v p 0) = (fun v p => pasM LF σ (finM σ m) v p 0) := by rw [hK.pm rfl, hK.fi rfl]
      rw [ep] at hz
      subst hz
      have hK2 : KM σ σ40 := hK.tr (hfr.mono (by decide) (by decide))
      have f110 : σ40 110 = τ 110 := hfr.1 110 (by decide) (by decide)
      refine z_if_lt (tgt := 50) dX9_game_43 (by decide) ⟨by omega, by omega⟩ (fun h43 => ?_) (fun h43 => ?_)
      · skip
        refine z_iconst dX9_game_50 ?_
        refine z_zast dX9_game_51 rfl (Nat.le_of_ble_eq_true rfl) (by omega) (by omega) ?_
        refine z_iinc (L' := [_, _, _, _]) dX9_game_52 (Nat.le_of_ble_eq_true rfl) rfl rfl rfl ?_
        refine z_goto (tgt := 28) dX9_game_55 (by decide) ?_
        rw [← hwp] at hI2
        refine l_X9_game hW hn hm kk k _ (s + -1) (by omega) (by omega) (frM.putA hK2 (by decide) (by decide)) ?_
        rw [z_put_up, f110]
        first
          | (rw [if_pos (by omega)] at hI2; exact hI2)
          | (rw [if_neg (by omega)] at hI2; exact hI2)
      · skip
        refine z_iconst dX9_game_46 ?_
        refine z_goto (tgt := 51) dX9_game_47 (by decide) ?_
        refine z_zast dX9_game_51 rfl (Nat.le_of_ble_eq_true rfl) (by omega) (by omega) ?_
        refine z_iinc (L' := [_, _, _, _]) dX9_game_52 (Nat.le_of_ble_eq_true rfl) rfl rfl rfl ?_
        refine z_goto (tgt := 28) dX9_game_55 (by decide) ?_
        rw [← hwp] at hI2
        refine l_X9_game hW hn hm kk k _ (s + -1) (by omega) (by omega) (frM.putA hK2 (by decide) (by decide)) ?_
        rw [z_put_up, f110]
        first
          | (rw [if_pos (by omega)] at hI2; exact hI2)
          | (rw [if_neg (by omega)] at hI2; exact hI2)
