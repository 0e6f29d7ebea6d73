/-! ===== The reference's questions: game ===== -/
theorem wnI_0 {τ : Nat → Int} {ps : Int → Int → Bool} {n : Nat} (hn : n ≤ 10) (h : wnI τ ps n (-1)) : τ 0 = (if gmF ps n = -2 then 0 else 1) ∧ wpF ps τ 0 n 0 = gmF ps n := by
  have p0 : 0 < 2 ^ n := Nat.pow_pos (by decide)
  have pc : ((2 ^ n : Nat) : Int) = 2 ^ n := by simp
  have e1 : (2 ^ n - 1 - (-1) : Int).toNat = (2 ^ n - 1) + 1 := by omega
  have e3 : (2 ^ n - 1 - 0 : Int).toNat = 2 ^ n - 1 := by omega
  have hj : ∀ j : Nat, j < 2 ^ n → τ j = up (wnT ps n (2 ^ n - 1)) 0 (if gmF ps n = -2 then 0 else 1) j := fun j hj => by
    have q := h j (by omega) hj
    rw [e1, wnT, show 2 ^ n - 1 - (2 ^ n - 1) = 0 by omega] at q
    exact q
  have hI0 : wnI τ ps n 0 := fun j h1 h2 => by
    rw [e3, hj j h2]
    unfold up
    rw [if_neg (by omega)]
  refine ⟨?_, ?_⟩
  · rw [hj 0 p0]
    unfold up
    rw [if_pos rfl]
  · have q := wnI_wp hn (s := 0) (by omega) hI0
    rw [e3] at q
    exact q
set_option maxRecDepth 20000 in
theorem t_X9_game {d : Nat} {σ : Sto} {LF : LFT} {m w : Int} {n : Nat} (hW : WM LF σ) (hn : (n : Int) = min (σ 9 1) 10) (hm : 0 ≤ m ∧ m < 5) (hm2 : m < σ 9 7) (hw : 0 ≤ w ∧ w ≤ 1) (τ : Sto) (hK : KM σ τ) (hI : wnI (τ 110) (fun v p => pasM LF σ (finM σ m) v p 0) n (-1)) :
    Z (z_me cX9_game RX9 4 (some .int) (d + 7) (qI fun z σ' => z = gmG (σ 9 1) (σ 9 7) (pasM LF σ) (finM σ) m w ∧ KM σ σ')) 58 [some (zR 9), some (zI m), some (zI w), some (zI (-1))] [] τ := by
  have e1 : τ 9 1 = σ 9 1 := hK.2 1 (by decide)
  have w1 := hW.1
  have p0 : 0 < 2 ^ n := Nat.pow_pos (by decide)
  obtain ⟨h0, hg⟩ := wnI_0 (by omega) hI
  have hG : gmG (σ 9 1) (σ 9 7) (pasM LF σ) (finM σ) m w = (if w = 1 then gmF (fun v p => pasM LF σ (finM σ m) v p 0) n else if gmF (fun v p => pasM LF σ (finM σ m) v p 0) n = -2 then 0 else 1) := by
    unfold gmG
    rw [if_neg (by omega), show (min (σ 9 1) 10).toNat = n by omega]
  rw [hG]
  refine z_iload_n dX9_game_58 rfl ?_
  refine z_if_ne (tgt := 79) dX9_game_59 (by decide) ⟨by omega, by omega⟩ (fun h59 => ?_) (fun h59 => ?_)
  · skip
    refine z_aload_n dX9_game_79 rfl ?_
    refine z_iconst dX9_game_80 ?_
    refine z_iload_n dX9_game_81 rfl ?_
    refine z_callVI (d := d + 6) (av := [_, _]) dX9_game_82 vX9_397 rfl (Nat.le_of_ble_eq_true rfl) rfl rfl rfl (Nat.le_of_ble_eq_true rfl) (Nat.le_refl _) (c_X9_winningWord (LF := LF) (n := n) (hK.wm hW rfl) (by rw [e1]; exact hn) (by omega) hm) (fun z82 σ82 h82 => ?_)
    obtain ⟨hz, hfr⟩ := h82
    have ep : (fun v p => pasM LF τ (finM τ m) v p 0) = (fun v p => pasM LF σ (finM σ m) v p 0) := by rw [hK.pm rfl, hK.fi rfl]
    rw [ep, hg] at hz
    exact z_iret dX9_game_85 (by
      first
      | exact ⟨by rw [hz, if_pos (by omega)], hK.tr (hfr.mono (by decide) (by decide))⟩
      | (refine ⟨?_, hK⟩
         rw [if_neg (show ¬ w = 1 by omega)]
         by_cases q : gmF (fun v p => pasM LF σ (finM σ m) v p 0) n = -2
         · first | exact (if_pos q).symm | (exfalso; rw [if_pos q] at h68; omega)
         · first | exact (if_neg q).symm | (exfalso; rw [if_neg q] at h68; omega)))
  · skip
    refine z_aload_n dX9_game_62 rfl ?_
    refine z_getR dX9_game_63 gX9_104 rfl (Nat.le_of_ble_eq_true rfl) rfl ?_
    refine z_iconst dX9_game_66 ?_
    refine z_zald dX9_game_67 rfl (Nat.le_of_ble_eq_true rfl) (by omega) (fun hr67 => ?_)
    rw [show τ 110 (Int.toNat 0) = _ from h0]
    have hr68 : inR (if gmF (fun v p => pasM LF σ (finM σ m) v p 0) n = -2 then (0 : Int) else 1) := by split <;> decide
    refine z_if_eq (tgt := 75) dX9_game_68 (by decide) hr68 (fun h68 => ?_) (fun h68 => ?_)
    · skip
      refine z_iconst dX9_game_75 ?_
      refine z_goto (tgt := 85) dX9_game_76 (by decide) ?_
      exact z_iret dX9_game_85 (by
        first
        | exact ⟨by rw [hz, if_pos (by omega)], hK.tr (hfr.mono (by decide) (by decide))⟩
        | (refine ⟨?_, hK⟩
           rw [if_neg (show ¬ w = 1 by omega)]
           by_cases q : gmF (fun v p => pasM LF σ (finM σ m) v p 0) n = -2
           · first | exact (if_pos q).symm | (exfalso; rw [if_pos q] at h68; omega)
           · first | exact (if_neg q).symm | (exfalso; rw [if_neg q] at h68; omega)))
    · skip
      refine z_iconst dX9_game_71 ?_
      refine z_goto (tgt := 85) dX9_game_72 (by decide) ?_
      exact z_iret dX9_game_85 (by
        first
        | exact ⟨by rw [hz, if_pos (by omega)], hK.tr (hfr.mono (by decide) (by decide))⟩
        | (refine ⟨?_, hK⟩
           rw [if_neg (show ¬ w = 1 by omega)]
           by_cases q : gmF (fun v p => pasM LF σ (finM σ m) v p 0) n = -2
           · first | exact (if_pos q).symm | (exfalso; rw [if_pos q] at h68; omega)
           · first | exact (if_neg q).symm | (exfalso; rw [if_neg q] at h68; omega)))
set_option maxRecDepth 20000 in
theorem c_X9_game {d : Nat} {σ : Sto} {LF : LFT} {m w : Int} (hW : WM LF σ) (hm : inR m) (h1 : inR w) : m_X9_game d [zR 9, zI m, zI w] σ (qI fun z σ' => z = gmG (σ 9 1) (σ 9 7) (pasM LF σ) (finM σ) m w ∧ KM σ σ') := by
  have w1 := hW.1
  have w7 := hW.2.1
  obtain ⟨n, hn⟩ : ∃ n : Nat, (n : Int) = min (σ 9 1) 10 := ⟨(min (σ 9 1) 10).toNat, by omega⟩
  have hnn : (min (σ 9 1) 10).toNat = n := by omega
  have p10 := pow10 (n := n) (by omega)
  have p0 : 0 < 2 ^ n := Nat.pow_pos (by decide)
  have hsh := shl1I (w := (n : Int)) (by omega)
  rw [Int.toNat_natCast] at hsh
  refine z_does (L := [some (zR 9), some (zI m), some (zI w), none]) rfl (by decide +kernel) (Nat.le_of_ble_eq_true rfl) rfl ?_
  refine z_aload_n dX9_game_0 rfl ?_
  refine z_iload_n dX9_game_1 rfl ?_
  refine z_callVI (d := d + 6) (av := [_]) dX9_game_2 vX9_180 rfl (Nat.le_of_ble_eq_true rfl) rfl rfl rfl (Nat.le_of_ble_eq_true rfl) (Nat.le_refl _) (c_X9_isMesh (by omega) (by omega)) (fun z2 σ2 h2 => ?_)
  obtain ⟨hs2, h2⟩ := h2
  subst σ2
  refine z_if_eq (tgt := 17) dX9_game_5 (by decide) ⟨by omega, by omega⟩ (fun h5 => ?_) (fun h5 => ?_)
  · skip
    refine z_iconst dX9_game_17 ?_
    exact z_iret dX9_game_18 (⟨by unfold gmG; rw [if_pos (by omega)], frM.rf _ _ σ⟩)
  · skip
    refine z_iload_n dX9_game_8 rfl ?_
    refine z_iconst dX9_game_9 ?_
    refine z_iconst dX9_game_10 ?_
    refine z_callSI (d := d + 6) (av := [_, _, _]) dX9_game_11 sX9_143 rfl rfl (Nat.le_of_ble_eq_true rfl) (Nat.le_refl _) (c_X9_in (by omega) (by omega) (by omega)) (fun z11 σ11 h11 => ?_)
    obtain ⟨hs11, h11⟩ := h11
    subst σ11
    refine z_if_ne (tgt := 19) dX9_game_14 (by decide) ⟨by omega, by omega⟩ (fun h14 => ?_) (fun h14 => ?_)
    · skip
      refine z_iconst dX9_game_19 ?_
      refine z_aload_n dX9_game_20 rfl ?_
      refine z_callVI (d := d + 6) (av := []) dX9_game_21 vX9_391 rfl (Nat.le_of_ble_eq_true rfl) rfl rfl rfl (Nat.le_of_ble_eq_true rfl) (Nat.le_refl _) (c_X9_playedMany (by omega)) (fun z21 σ21 h21 => ?_)
      obtain ⟨rfl, hs21⟩ := h21
      subst σ21
      rw [← hn]
      refine z_ishl dX9_game_24 ?_
      rw [hsh]
      refine z_iconst dX9_game_25 ?_
      refine z_isub dX9_game_26 ?_
      refine z_istore_n (L' := [_, _, _, _]) dX9_game_27 (Nat.le_of_ble_eq_true rfl) rfl rfl ?_
      exact l_X9_game hW hn (by omega) (fun τ hK hI => t_X9_game hW hn (by omega) (by omega) (by omega) τ hK hI) (2 ^ n) σ _ (by omega) (by omega) (frM.rf _ _ σ) (fun j h1 h2 => by omega)
    · skip
      refine z_iconst dX9_game_17 ?_
      exact z_iret dX9_game_18 (⟨by unfold gmG; rw [if_pos (by omega)], frM.rf _ _ σ⟩)
