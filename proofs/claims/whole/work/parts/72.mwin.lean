/-! ===== The reference's questions: the winning word ===== -/
set_option maxRecDepth 20000 in
theorem l_X9_winningWord {d : Nat} {σ : Sto} {LF : LFT} {s m : Int} {n : Nat} (hW : WM LF σ) (hn : (n : Int) = min (σ 9 1) 10) (hs : 0 ≤ s ∧ s < (2 ^ n : Nat)) (hm : 0 ≤ m ∧ m < 5) :
    ∀ (k : Nat) (τ : Sto) (w : Int), 0 ≤ w → w + k = n → pMK σ τ →
    Z (z_me cX9_winningWord RX9 4 (some .int) (d + 6) (qI fun z σ' => z = wpF (fun v p => pasM LF σ (finM σ m) v p 0) (σ 110) s k w ∧ pMK σ σ')) 2 [some (zR 9), some (zI s), some (zI m), some (zI w)] [] τ
  | 0, τ, w, h0, hk, hK => by
    have e1 : τ 9 1 = σ 9 1 := hK.2 1 (by decide)
    have w1 := hW.1
    refine z_iload_n dX9_winningWord_2 rfl ?_
    refine z_aload_n dX9_winningWord_3 rfl ?_
    refine z_callVI (d := d + 5) (av := []) dX9_winningWord_4 vX9_391 rfl (Nat.le_of_ble_eq_true rfl) rfl rfl rfl (Nat.le_of_ble_eq_true rfl) (Nat.le_refl _) (c_X9_playedMany (by omega)) (fun z4 σ4 h4 => ?_)
    obtain ⟨rfl, hs4⟩ := h4
    subst σ4
    refine z_icmp_ge (tgt := 41) dX9_winningWord_7 (by decide) ⟨by omega, by omega⟩ ⟨by omega, by omega⟩ (fun h7 => ?_) (fun h7 => ?_)
    · skip
      refine z_bipush (v := -2) dX9_winningWord_41 (by decide +kernel) ?_
      exact z_iret dX9_winningWord_43 ⟨rfl, hK⟩
    · exfalso; omega
  | k + 1, τ, w, h0, hk, hK => by
    have e1 : τ 9 1 = σ 9 1 := hK.2 1 (by decide)
    have e110 : τ 110 = σ 110 := hK.1 110 (by decide) (by decide)
    have w1 := hW.1
    have p10 := pow10 (n := n) (by omega)
    have hnx := nxt_R (n := n) (by omega) hs (w := w) (by omega)
    refine z_iload_n dX9_winningWord_2 rfl ?_
    refine z_aload_n dX9_winningWord_3 rfl ?_
    refine z_callVI (d := d + 5) (av := []) dX9_winningWord_4 vX9_391 rfl (Nat.le_of_ble_eq_true rfl) rfl rfl rfl (Nat.le_of_ble_eq_true rfl) (Nat.le_refl _) (c_X9_playedMany (by omega)) (fun z4 σ4 h4 => ?_)
    obtain ⟨rfl, hs4⟩ := h4
    subst σ4
    refine z_icmp_ge (tgt := 41) dX9_winningWord_7 (by decide) ⟨by omega, by omega⟩ ⟨by omega, by omega⟩ (fun h7 => ?_) (fun h7 => ?_)
    · exfalso; omega
    · skip
      refine z_aload_n dX9_winningWord_10 rfl ?_
      refine z_iload_n dX9_winningWord_11 rfl ?_
      refine z_iload_n dX9_winningWord_12 rfl ?_
      refine z_iload_n dX9_winningWord_13 rfl ?_
      refine z_callVI (d := d + 5) (av := [_, _, _]) dX9_winningWord_14 vX9_394 rfl (Nat.le_of_ble_eq_true rfl) rfl rfl rfl (Nat.le_of_ble_eq_true rfl) (Nat.le_refl _) (c_X9_mayPlay (LF := LF) (hK.wm hW rfl) (by omega) (by omega) hm) (fun z14 σ14 h14 => ?_)
      obtain ⟨hps, hfr⟩ := h14
      rw [hK.pm rfl, hK.fi rfl] at hps
      have hr14 : inR z14 := by rcases hps with q | q; rw [q.1]; decide; rw [q.1]; decide
      have hK2 : pMK σ σ14 := hK.tr hfr
      have f110 : σ14 110 = σ 110 := hK2.1 110 (by decide) (by decide)
      refine z_if_eq (tgt := 35) dX9_winningWord_17 (by decide) ⟨by omega, by omega⟩ (fun h17 => ?_) (fun h17 => ?_)
      · skip
        refine z_iinc (L' := [_, _, _, _]) dX9_winningWord_35 (Nat.le_of_ble_eq_true rfl) rfl rfl rfl ?_
        refine z_goto (tgt := 2) dX9_winningWord_38 (by decide) ?_
        have hne : ¬ (bt s w = 0 ∧ (fun v p => pasM LF σ (finM σ m) v p 0) w (pcF 12 s.toNat) = true ∧ σ 110 (z_iorF s (z_ishlF 1 w)).toNat = 0) := by
          intro v
          rcases hps with q | q
          · first
            | (exfalso; omega)
            | exact h30 v.2.2
          · exact q.2 ⟨v.1, v.2.1⟩
        rw [show wpF (fun v p => pasM LF σ (finM σ m) v p 0) (σ 110) s (k + 1) w = wpF (fun v p => pasM LF σ (finM σ m) v p 0) (σ 110) s k (w + 1) by rw [wpF, if_neg hne]]
        exact l_X9_winningWord hW hn hs hm k σ14 (w + 1) (by omega) (by omega) hK2
      · skip
        refine z_aload_n dX9_winningWord_20 rfl ?_
        refine z_getR dX9_winningWord_21 gX9_104 rfl (Nat.le_of_ble_eq_true rfl) rfl ?_
        refine z_iload_n dX9_winningWord_24 rfl ?_
        refine z_iconst dX9_winningWord_25 ?_
        refine z_iload_n dX9_winningWord_26 rfl ?_
        refine z_ishl dX9_winningWord_27 ?_
        refine z_ior dX9_winningWord_28 ?_
        refine z_zald dX9_winningWord_29 rfl (Nat.le_of_ble_eq_true rfl) (by omega) (fun hr29 => ?_)
        rw [f110] at hr29 ⊢
        refine z_if_ne (tgt := 35) dX9_winningWord_30 (by decide) ⟨by omega, by omega⟩ (fun h30 => ?_) (fun h30 => ?_)
        · skip
          refine z_iinc (L' := [_, _, _, _]) dX9_winningWord_35 (Nat.le_of_ble_eq_true rfl) rfl rfl rfl ?_
          refine z_goto (tgt := 2) dX9_winningWord_38 (by decide) ?_
          have hne : ¬ (bt s w = 0 ∧ (fun v p => pasM LF σ (finM σ m) v p 0) w (pcF 12 s.toNat) = true ∧ σ 110 (z_iorF s (z_ishlF 1 w)).toNat = 0) := by
            intro v
            rcases hps with q | q
            · first
              | (exfalso; omega)
              | exact h30 v.2.2
            · exact q.2 ⟨v.1, v.2.1⟩
          rw [show wpF (fun v p => pasM LF σ (finM σ m) v p 0) (σ 110) s (k + 1) w = wpF (fun v p => pasM LF σ (finM σ m) v p 0) (σ 110) s k (w + 1) by rw [wpF, if_neg hne]]
          exact l_X9_winningWord hW hn hs hm k σ14 (w + 1) (by omega) (by omega) hK2
        · skip
          refine z_iload_n dX9_winningWord_33 rfl ?_
          exact z_iret dX9_winningWord_34 (by
            rcases hps with q | q
            · exact ⟨by rw [wpF, if_pos ⟨q.2.1, q.2.2, h30⟩], hK2⟩
            · exfalso; omega)
set_option maxRecDepth 20000 in
theorem c_X9_winningWord {d : Nat} {σ : Sto} {LF : LFT} {s m : Int} {n : Nat} (hW : WM LF σ) (hn : (n : Int) = min (σ 9 1) 10) (hs : 0 ≤ s ∧ s < (2 ^ n : Nat)) (hm : 0 ≤ m ∧ m < 5) : m_X9_winningWord d [zR 9, zI s, zI m] σ (qI fun z σ' => z = wpF (fun v p => pasM LF σ (finM σ m) v p 0) (σ 110) s n 0 ∧ pMK σ σ') := by
  refine z_does (L := [some (zR 9), some (zI s), some (zI m), none]) rfl (by decide +kernel) (Nat.le_of_ble_eq_true rfl) rfl ?_
  refine z_iconst dX9_winningWord_0 ?_
  refine z_istore_n (L' := [_, _, _, _]) dX9_winningWord_1 (Nat.le_of_ble_eq_true rfl) rfl rfl ?_
  exact l_X9_winningWord hW hn hs hm n σ 0 (by omega) (by omega) (frM.rf _ _ σ)
