/-! ===== The reference's questions: the game's moves ===== -/
set_option maxRecDepth 20000 in
theorem c_X9_playedMany {d : Nat} {σ : Sto} (hc : 0 ≤ σ 9 1 ∧ σ 9 1 ≤ 12) : m_X9_playedMany d [zR 9] σ (qI fun z σ' => z = min (σ 9 1) 10 ∧ σ' = σ) := by
  refine z_does (L := [some (zR 9)]) rfl (by decide +kernel) (Nat.le_of_ble_eq_true rfl) rfl ?_
  refine z_aload_n dX9_playedMany_0 rfl ?_
  refine z_getI dX9_playedMany_1 gX9_140 rfl (Nat.le_of_ble_eq_true rfl) rfl (fun hr1 => ?_)
  refine z_bipush (v := 10) dX9_playedMany_4 (by decide +kernel) ?_
  refine z_icmp_ge (tgt := 16) dX9_playedMany_6 (by decide) ⟨by omega, by omega⟩ ⟨by omega, by omega⟩ (fun h6 => ?_) (fun h6 => ?_)
  · skip
    refine z_bipush (v := 10) dX9_playedMany_16 (by decide +kernel) ?_
    exact z_iret dX9_playedMany_18 ⟨by omega, rfl⟩
  · skip
    refine z_aload_n dX9_playedMany_9 rfl ?_
    refine z_getI dX9_playedMany_10 gX9_140 rfl (Nat.le_of_ble_eq_true rfl) rfl (fun hr10 => ?_)
    refine z_goto (tgt := 18) dX9_playedMany_13 (by decide) ?_
    exact z_iret dX9_playedMany_18 ⟨by omega, rfl⟩
set_option maxRecDepth 20000 in
theorem c_X9_mayPlay {d : Nat} {σ : Sto} {LF : LFT} {w s m : Int} (hW : WM LF σ) (hw : 0 ≤ w ∧ w < 12) (hs : 0 ≤ s ∧ s < 1024) (hm : 0 ≤ m ∧ m < 5) : m_X9_mayPlay d [zR 9, zI w, zI s, zI m] σ (qI fun z σ' => ((z = 1 ∧ bt s w = 0 ∧ pasM LF σ (finM σ m) w (pcF 12 s.toNat) 0 = true) ∨ (z = 0 ∧ ¬ (bt s w = 0 ∧ pasM LF σ (finM σ m) w (pcF 12 s.toNat) 0 = true))) ∧ pMK σ σ') := by
  have hbr : inR (z_iandF (z_ishrF s w) 1) := z_rng _
  have hpc := bcF_pcI (s := s) (by omega)
  have r2 := pcF_R 12 s.toNat
  refine z_does (L := [some (zR 9), some (zI w), some (zI s), some (zI m)]) rfl (by decide +kernel) (Nat.le_of_ble_eq_true rfl) rfl ?_
  refine z_iload_n dX9_mayPlay_0 rfl ?_
  refine z_iload_n dX9_mayPlay_1 rfl ?_
  refine z_ishr dX9_mayPlay_2 ?_
  refine z_iconst dX9_mayPlay_3 ?_
  refine z_iand dX9_mayPlay_4 ?_
  refine z_if_ne (tgt := 26) dX9_mayPlay_5 (by decide) ⟨by omega, by omega⟩ (fun h5 => ?_) (fun h5 => ?_)
  · skip
    refine z_iconst dX9_mayPlay_26 ?_
    exact z_zret dX9_mayPlay_27 (by omega) (by
      first
      | exact ⟨Or.inr ⟨rfl, fun q => h5 q.1⟩, frM.rf _ _ σ⟩
      | (rcases hps with q | q
         · first
           | exact ⟨Or.inl ⟨rfl, h5, q.2⟩, hfr⟩
           | (exfalso; omega)
         · first
           | exact ⟨Or.inr ⟨rfl, fun v => by rw [q.2] at v; exact absurd v.2 Bool.false_ne_true⟩, hfr⟩
           | (exfalso; omega)))
  · skip
    refine z_aload_n dX9_mayPlay_8 rfl ?_
    refine z_iload_n dX9_mayPlay_9 rfl ?_
    refine z_iload_n dX9_mayPlay_10 rfl ?_
    refine z_iload_n dX9_mayPlay_11 rfl ?_
    refine z_callSI (d := d + 4) (av := [_]) dX9_mayPlay_12 sX9_339 rfl rfl (Nat.le_of_ble_eq_true rfl) (Nat.le_refl _) (c_X9_bitsOf (by omega)) (fun z12 σ12 h12 => ?_)
    obtain ⟨rfl, hs12⟩ := h12
    subst σ12
    rw [hpc]
    refine z_iconst dX9_mayPlay_15 ?_
    refine z_callVI (d := d + 4) (av := [_, _, _, _]) dX9_mayPlay_16 vX9_271 rfl (Nat.le_of_ble_eq_true rfl) rfl rfl rfl (Nat.le_of_ble_eq_true rfl) (Nat.le_refl _) (c_X9_passes (LF := LF) hW hw (by omega) (by omega) (by omega)) (fun z16 σ16 h16 => ?_)
    obtain ⟨hps, hfr⟩ := h16
    have hr16 : inR z16 := by rcases hps with q | q; rw [q.1]; decide; rw [q.1]; decide
    refine z_if_eq (tgt := 26) dX9_mayPlay_19 (by decide) ⟨by omega, by omega⟩ (fun h19 => ?_) (fun h19 => ?_)
    · skip
      refine z_iconst dX9_mayPlay_26 ?_
      exact z_zret dX9_mayPlay_27 (by omega) (by
        first
        | exact ⟨Or.inr ⟨rfl, fun q => h5 q.1⟩, frM.rf _ _ σ⟩
        | (rcases hps with q | q
           · first
             | exact ⟨Or.inl ⟨rfl, h5, q.2⟩, hfr⟩
             | (exfalso; omega)
           · first
             | exact ⟨Or.inr ⟨rfl, fun v => by rw [q.2] at v; exact absurd v.2 Bool.false_ne_true⟩, hfr⟩
             | (exfalso; omega)))
    · skip
      refine z_iconst dX9_mayPlay_22 ?_
      refine z_goto (tgt := 27) dX9_mayPlay_23 (by decide) ?_
      exact z_zret dX9_mayPlay_27 (by omega) (by
        first
        | exact ⟨Or.inr ⟨rfl, fun q => h5 q.1⟩, frM.rf _ _ σ⟩
        | (rcases hps with q | q
           · first
             | exact ⟨Or.inl ⟨rfl, h5, q.2⟩, hfr⟩
             | (exfalso; omega)
           · first
             | exact ⟨Or.inr ⟨rfl, fun v => by rw [q.2] at v; exact absurd v.2 Bool.false_ne_true⟩, hfr⟩
             | (exfalso; omega)))
