/-! ===== The reference: of, feed, deeds, undo, bodies, counts ===== -/
def ofM (σ : Sto) (n w : Int) : Int :=
  if w = 8 ∨ w = 9 then (if 0 ≤ n ∧ n < σ 9 7 then (if w = 8 then σ 88 n.toNat else σ 89 n.toNat) else -1) else if 0 ≤ w ∧ w < 8 ∧ 0 ≤ n ∧ n < bearM σ w then vaM σ w n else -1
theorem hasM_pl {σ : Sto} {n w : Int} (hc : (0 ≤ σ 9 1 ∧ σ 9 1 ≤ 12) ∧ (0 ≤ σ 9 7 ∧ σ 9 7 ≤ 5) ∧ (0 ≤ σ 9 11 ∧ σ 9 11 ≤ 6)) (hh : hasM σ n w) : placM w n := by
  obtain ⟨q1, q2, q3, q4⟩ := hh
  unfold bearM at q4
  refine ⟨q3, ?_⟩
  by_cases q5 : w = 5
  · rw [if_pos q5] at q4; omega
  · by_cases q6 : w = 6
    · rw [if_neg q5, if_pos q6] at q4; omega
    · by_cases q7 : w = 7
      · rw [if_neg q5, if_neg q6, if_pos q7] at q4; omega
      · rw [if_neg q5, if_neg q6, if_neg q7] at q4; omega
set_option maxRecDepth 20000 in
theorem c_X9_of {d : Nat} {σ : Sto} {n w : Int} (hc : (0 ≤ σ 9 1 ∧ σ 9 1 ≤ 12) ∧ (0 ≤ σ 9 7 ∧ σ 9 7 ≤ 5) ∧ (0 ≤ σ 9 11 ∧ σ 9 11 ≤ 6)) (hn : inR n) (hw : inR w) (hI : ∀ k j, 82 ≤ k → k ≤ 90 → inR (σ k j)) (hB : inR (σ 9 13)) : m_X9_of d [zR 9, zI n, zI w] σ (qI fun z σ' => z = ofM σ n w ∧ σ' = σ) := by
  have hc7 := hc.2.1
  have i8 := hI 88 n.toNat (by decide) (by decide)
  have i9 := hI 89 n.toNat (by decide) (by decide)
  refine z_does (L := [some (zR 9), some (zI n), some (zI w)]) rfl (by decide +kernel) (Nat.le_of_ble_eq_true rfl) rfl ?_
  refine z_iload_n dX9_of_0 rfl ?_
  refine z_bipush (v := 8) dX9_of_1 (by decide +kernel) ?_
  refine z_bipush (v := 9) dX9_of_3 (by decide +kernel) ?_
  refine z_callSI (d := d + 2) (av := [_, _, _]) dX9_of_5 sX9_143 rfl rfl (Nat.le_of_ble_eq_true rfl) (Nat.le_refl _) (c_X9_in (by omega) (by omega) (by omega)) (fun z5 σ5 h5 => ?_)
  obtain ⟨hs5, h5⟩ := h5
  subst σ5
  refine z_if_eq (tgt := 45) dX9_of_8 (by decide) ⟨by omega, by omega⟩ (fun h8 => ?_) (fun h8 => ?_)
  · skip
    refine z_aload_n dX9_of_45 rfl ?_
    refine z_iload_n dX9_of_46 rfl ?_
    refine z_iload_n dX9_of_47 rfl ?_
    refine z_callVI (d := d + 2) (av := [_, _]) dX9_of_48 vX9_183 rfl (Nat.le_of_ble_eq_true rfl) rfl rfl rfl (Nat.le_of_ble_eq_true rfl) (Nat.le_refl _) (c_X9_isOne hc hn hw) (fun z48 σ48 h48 => ?_)
    obtain ⟨hs48, h48⟩ := h48
    subst σ48
    refine z_if_eq (tgt := 63) dX9_of_51 (by decide) ⟨by omega, by omega⟩ (fun h51 => ?_) (fun h51 => ?_)
    · skip
      refine z_iconst dX9_of_63 ?_
      exact z_iret dX9_of_64 (by
        refine ⟨?_, rfl⟩
        unfold ofM
        rw [if_neg (by omega)]
        first
        | exact (if_pos hh).symm
        | (refine (if_neg ?_).symm; intro q; rcases h48 with q6 | q6; omega; exact q6.2 q))
    · skip
      have hh : hasM σ n w := by rcases h48 with q | q; exact q.2; exfalso; omega
      refine z_aload_n dX9_of_54 rfl ?_
      refine z_iload_n dX9_of_55 rfl ?_
      refine z_iload_n dX9_of_56 rfl ?_
      refine z_callVI (d := d + 2) (av := [_, _]) dX9_of_57 vX9_163 rfl (Nat.le_of_ble_eq_true rfl) rfl rfl rfl (Nat.le_of_ble_eq_true rfl) (Nat.le_refl _) (c_X9_valueAt ⟨hh.1, hh.2.1⟩ (hasM_pl hc hh) hI hB) (fun z57 σ57 h57 => ?_)
      obtain ⟨rfl, h57r, hs57⟩ := h57
      subst σ57
      refine z_goto (tgt := 64) dX9_of_60 (by decide) ?_
      exact z_iret dX9_of_64 (by
        refine ⟨?_, rfl⟩
        unfold ofM
        rw [if_neg (by omega)]
        first
        | exact (if_pos hh).symm
        | (refine (if_neg ?_).symm; intro q; rcases h48 with q6 | q6; omega; exact q6.2 q))
  · skip
    refine z_aload_n dX9_of_11 rfl ?_
    refine z_iload_n dX9_of_12 rfl ?_
    refine z_callVI (d := d + 2) (av := [_]) dX9_of_13 vX9_180 rfl (Nat.le_of_ble_eq_true rfl) rfl rfl rfl (Nat.le_of_ble_eq_true rfl) (Nat.le_refl _) (c_X9_isMesh (by omega) (by omega)) (fun z13 σ13 h13 => ?_)
    obtain ⟨hs13, h13⟩ := h13
    subst σ13
    refine z_if_ne (tgt := 23) dX9_of_16 (by decide) ⟨by omega, by omega⟩ (fun h16 => ?_) (fun h16 => ?_)
    · skip
      refine z_iload_n dX9_of_23 rfl ?_
      refine z_bipush (v := 8) dX9_of_24 (by decide +kernel) ?_
      refine z_icmp_ne (tgt := 38) dX9_of_26 (by decide) ⟨by omega, by omega⟩ ⟨by omega, by omega⟩ (fun h26 => ?_) (fun h26 => ?_)
      · skip
        refine z_aload_n dX9_of_38 rfl ?_
        refine z_getR dX9_of_39 gX9_33 rfl (Nat.le_of_ble_eq_true rfl) rfl ?_
        refine z_iload_n dX9_of_42 rfl ?_
        refine z_iald dX9_of_43 rfl (Nat.le_of_ble_eq_true rfl) (by omega) (fun hr43 => ?_)
        exact z_iret dX9_of_44 (by
          refine ⟨?_, rfl⟩
          unfold ofM
          rw [if_pos (by omega)]
          first
          | (exfalso; omega)
          | (rw [if_neg (by omega)]; done)
          | (rw [if_pos (by omega), if_pos (by omega)]; done)
          | (rw [if_pos (by omega), if_neg (by omega)]; done))
      · skip
        refine z_aload_n dX9_of_29 rfl ?_
        refine z_getR dX9_of_30 gX9_30 rfl (Nat.le_of_ble_eq_true rfl) rfl ?_
        refine z_iload_n dX9_of_33 rfl ?_
        refine z_iald dX9_of_34 rfl (Nat.le_of_ble_eq_true rfl) (by omega) (fun hr34 => ?_)
        refine z_goto (tgt := 44) dX9_of_35 (by decide) ?_
        exact z_iret dX9_of_44 (by
          refine ⟨?_, rfl⟩
          unfold ofM
          rw [if_pos (by omega)]
          first
          | (exfalso; omega)
          | (rw [if_neg (by omega)]; done)
          | (rw [if_pos (by omega), if_pos (by omega)]; done)
          | (rw [if_pos (by omega), if_neg (by omega)]; done))
    · skip
      refine z_iconst dX9_of_19 ?_
      refine z_goto (tgt := 44) dX9_of_20 (by decide) ?_
      exact z_iret dX9_of_44 (by
        refine ⟨?_, rfl⟩
        unfold ofM
        rw [if_pos (by omega)]
        first
        | (exfalso; omega)
        | (rw [if_neg (by omega)]; done)
        | (rw [if_pos (by omega), if_pos (by omega)]; done)
        | (rw [if_pos (by omega), if_neg (by omega)]; done))
theorem i2b_sb : ∀ n : Nat, n < 256 → z_i2bF (z_i2bF n) = sbF n := by decide +kernel
theorem i2b_sbI {x : Int} (h : 0 ≤ x ∧ x ≤ 255) : z_i2bF (z_i2bF x) = sbF x := by
  have := i2b_sb x.toNat (by omega)
  rw [show ((x.toNat : Nat) : Int) = x by omega] at this
  exact this
set_option maxRecDepth 20000 in
theorem c_X9_feed {d : Nat} {σ : Sto} {x : Int} (h : 0 ≤ σ 9 21 ∧ σ 9 21 ≤ 120) (hx : inR x) : m_X9_feed d [zR 9, zI x] σ (qI fun z σ' => (¬ (0 ≤ x ∧ x ≤ 255) ∧ z = -1 ∧ σ' = σ) ∨ ((0 ≤ x ∧ x ≤ 255) ∧ ((σ 9 21 = 120 ∧ z = -3 ∧ σ' = σ) ∨ (σ 9 21 < 120 ∧ z = σ 9 21 + 1 ∧ σ' = z_put (z_put σ 95 (σ 9 21).toNat (sbF x)) 9 21 (σ 9 21 + 1))))) := by
  refine z_does (L := [some (zR 9), some (zI x)]) rfl (by decide +kernel) (Nat.le_of_ble_eq_true rfl) rfl ?_
  refine z_iload_n dX9_feed_0 rfl ?_
  refine z_iconst dX9_feed_1 ?_
  refine z_sipush (v := 255) dX9_feed_2 (by decide +kernel) ?_
  refine z_callSI (d := d + 0) (av := [_, _, _]) dX9_feed_5 sX9_143 rfl rfl (Nat.le_of_ble_eq_true rfl) (Nat.le_refl _) (c_X9_in (by omega) (by omega) (by omega)) (fun z5 σ5 h5 => ?_)
  obtain ⟨hs5, h5⟩ := h5
  subst σ5
  refine z_if_ne (tgt := 13) dX9_feed_8 (by decide) ⟨by omega, by omega⟩ (fun h8 => ?_) (fun h8 => ?_)
  · skip
    refine z_aload_n dX9_feed_13 rfl ?_
    refine z_getI dX9_feed_14 gX9_193 rfl (Nat.le_of_ble_eq_true rfl) rfl (fun hr14 => ?_)
    refine z_bipush (v := 120) dX9_feed_17 (by decide +kernel) ?_
    refine z_icmp_ne (tgt := 25) dX9_feed_19 (by decide) ⟨by omega, by omega⟩ ⟨by omega, by omega⟩ (fun h19 => ?_) (fun h19 => ?_)
    · skip
      refine z_aload_n dX9_feed_25 rfl ?_
      refine z_getR dX9_feed_26 gX9_55 rfl (Nat.le_of_ble_eq_true rfl) rfl ?_
      refine z_aload_n dX9_feed_29 rfl ?_
      refine z_getI dX9_feed_30 gX9_193 rfl (Nat.le_of_ble_eq_true rfl) rfl (fun hr30 => ?_)
      refine z_iload_n dX9_feed_33 rfl ?_
      refine z_i2b dX9_feed_34 ?_
      refine z_bast dX9_feed_35 rfl (Nat.le_of_ble_eq_true rfl) (by omega) ?_
      refine z_aload_n dX9_feed_36 rfl ?_
      refine z_dup dX9_feed_37 rfl ?_
      refine z_getI dX9_feed_38 gX9_193 rfl (Nat.le_of_ble_eq_true rfl) rfl (fun hr38 => ?_)
      try simp only [z_rd, Nat.reduceEqDiff, ↓reduceIte, eq_self] at hr38 ⊢
      refine z_iconst dX9_feed_41 ?_
      refine z_iadd dX9_feed_42 ?_
      refine z_putI dX9_feed_43 pX9_193 rfl (Nat.le_of_ble_eq_true rfl) rfl ⟨by omega, by omega⟩ ?_
      refine z_aload_n dX9_feed_46 rfl ?_
      refine z_getI dX9_feed_47 gX9_193 rfl (Nat.le_of_ble_eq_true rfl) rfl (fun hr47 => ?_)
      try simp only [z_rd, Nat.reduceEqDiff, ↓reduceIte, eq_self] at hr47 ⊢
      exact z_iret dX9_feed_50 (Or.inr ⟨by omega, Or.inr ⟨by omega, by omega, by rw [i2b_sbI (by omega)]⟩⟩)
    · skip
      refine z_bipush (v := -3) dX9_feed_22 (by decide +kernel) ?_
      exact z_iret dX9_feed_24 (Or.inr ⟨by omega, Or.inl ⟨by omega, rfl, rfl⟩⟩)
  · skip
    refine z_iconst dX9_feed_11 ?_
    exact z_iret dX9_feed_12 (Or.inl ⟨by omega, rfl, rfl⟩)
def riM (σ : Sto) (m : Int) : Sto := z_put (z_put (z_put (z_put σ 111 4 (wr (σ 111 4 + 1))) 111 5 (wr (σ 111 5 + σ 89 m.toNat))) 88 m.toNat 0) 89 m.toNat 0
set_option maxRecDepth 20000 in
theorem c_X9_rinse {d : Nat} {σ : Sto} {m : Int} (hc : 0 ≤ σ 9 7 ∧ σ 9 7 ≤ 5) (hm : inR m) (hI : ∀ j, inR (σ 88 j)) : m_X9_rinse d [zR 9, zI m] σ (qI fun z σ' => (¬ (0 ≤ m ∧ m < σ 9 7) ∧ z = -1 ∧ σ' = σ) ∨ ((0 ≤ m ∧ m < σ 9 7) ∧ z = σ 88 m.toNat ∧ σ' = riM σ m)) := by
  have hJ := hI m.toNat
  refine z_does (L := [some (zR 9), some (zI m), none]) rfl (by decide +kernel) (Nat.le_of_ble_eq_true rfl) rfl ?_
  refine z_aload_n dX9_rinse_0 rfl ?_
  refine z_iload_n dX9_rinse_1 rfl ?_
  refine z_callVI (d := d + 1) (av := [_]) dX9_rinse_2 vX9_180 rfl (Nat.le_of_ble_eq_true rfl) rfl rfl rfl (Nat.le_of_ble_eq_true rfl) (Nat.le_refl _) (c_X9_isMesh (by omega) (by omega)) (fun z2 σ2 h2 => ?_)
  obtain ⟨hs2, h2⟩ := h2
  subst σ2
  refine z_if_ne (tgt := 10) dX9_rinse_5 (by decide) ⟨by omega, by omega⟩ (fun h5 => ?_) (fun h5 => ?_)
  · skip
    refine z_aload_n dX9_rinse_10 rfl ?_
    refine z_getR dX9_rinse_11 gX9_30 rfl (Nat.le_of_ble_eq_true rfl) rfl ?_
    refine z_iload_n dX9_rinse_14 rfl ?_
    refine z_iald dX9_rinse_15 rfl (Nat.le_of_ble_eq_true rfl) (by omega) (fun hr15 => ?_)
    refine z_istore_n (L' := [_, _, _]) dX9_rinse_16 (Nat.le_of_ble_eq_true rfl) rfl rfl ?_
    refine z_aload_n dX9_rinse_17 rfl ?_
    refine z_getR dX9_rinse_18 gX9_107 rfl (Nat.le_of_ble_eq_true rfl) rfl ?_
    refine z_iconst dX9_rinse_21 ?_
    refine z_dup2 dX9_rinse_22 rfl rfl ?_
    refine z_iald dX9_rinse_23 rfl (Nat.le_of_ble_eq_true rfl) (by omega) (fun hr23 => ?_)
    refine z_iconst dX9_rinse_24 ?_
    refine z_iadd dX9_rinse_25 ?_
    refine z_wr ?_
    refine z_iast dX9_rinse_26 rfl (Nat.le_of_ble_eq_true rfl) (by omega) (wr_R _) ?_
    refine z_aload_n dX9_rinse_27 rfl ?_
    refine z_getR dX9_rinse_28 gX9_107 rfl (Nat.le_of_ble_eq_true rfl) rfl ?_
    refine z_iconst dX9_rinse_31 ?_
    refine z_dup2 dX9_rinse_32 rfl rfl ?_
    refine z_iald dX9_rinse_33 rfl (Nat.le_of_ble_eq_true rfl) (by omega) (fun hr33 => ?_)
    try simp only [z_rd, Nat.reduceEqDiff, ↓reduceIte, eq_self] at hr33 ⊢
    refine z_aload_n dX9_rinse_34 rfl ?_
    refine z_getR dX9_rinse_35 gX9_33 rfl (Nat.le_of_ble_eq_true rfl) rfl ?_
    refine z_iload_n dX9_rinse_38 rfl ?_
    refine z_iald dX9_rinse_39 rfl (Nat.le_of_ble_eq_true rfl) (by omega) (fun hr39 => ?_)
    try simp only [z_rd, Nat.reduceEqDiff, ↓reduceIte, eq_self] at hr39 ⊢
    refine z_iadd dX9_rinse_40 ?_
    refine z_wr ?_
    refine z_iast dX9_rinse_41 rfl (Nat.le_of_ble_eq_true rfl) (by omega) (wr_R _) ?_
    refine z_aload_n dX9_rinse_42 rfl ?_
    refine z_getR dX9_rinse_43 gX9_30 rfl (Nat.le_of_ble_eq_true rfl) rfl ?_
    refine z_iload_n dX9_rinse_46 rfl ?_
    refine z_iconst dX9_rinse_47 ?_
    refine z_iast dX9_rinse_48 rfl (Nat.le_of_ble_eq_true rfl) (by omega) ⟨by omega, by omega⟩ ?_
    refine z_aload_n dX9_rinse_49 rfl ?_
    refine z_getR dX9_rinse_50 gX9_33 rfl (Nat.le_of_ble_eq_true rfl) rfl ?_
    refine z_iload_n dX9_rinse_53 rfl ?_
    refine z_iconst dX9_rinse_54 ?_
    refine z_iast dX9_rinse_55 rfl (Nat.le_of_ble_eq_true rfl) (by omega) ⟨by omega, by omega⟩ ?_
    refine z_iload_n dX9_rinse_56 rfl ?_
    exact z_iret dX9_rinse_57 (Or.inr ⟨by omega, rfl, rfl⟩)
  · skip
    refine z_iconst dX9_rinse_8 ?_
    exact z_iret dX9_rinse_9 (Or.inl ⟨by omega, rfl, rfl⟩)
set_option maxRecDepth 20000 in
theorem c_X9_led {d : Nat} {σ : Sto} {w : Int} (hw : inR w) : m_X9_led d [zR 9, zI w] σ (qI fun z σ' => σ' = σ ∧ ((0 ≤ w ∧ w < 6 ∧ z = σ 111 w.toNat) ∨ ((w < 0 ∨ 6 ≤ w) ∧ z = -1))) := by
  refine z_does (L := [some (zR 9), some (zI w)]) rfl (by decide +kernel) (Nat.le_of_ble_eq_true rfl) rfl ?_
  refine z_iload_n dX9_led_0 rfl ?_
  refine z_iconst dX9_led_1 ?_
  refine z_iconst dX9_led_2 ?_
  refine z_callSI (d := d + 0) (av := [_, _, _]) dX9_led_3 sX9_143 rfl rfl (Nat.le_of_ble_eq_true rfl) (Nat.le_refl _) (c_X9_in (by omega) (by omega) (by omega)) (fun z3 σ3 h3 => ?_)
  obtain ⟨hs3, h3⟩ := h3
  subst σ3
  refine z_if_eq (tgt := 18) dX9_led_6 (by decide) ⟨by omega, by omega⟩ (fun h6 => ?_) (fun h6 => ?_)
  · skip
    refine z_iconst dX9_led_18 ?_
    exact z_iret dX9_led_19 (by first | exact ⟨rfl, Or.inl ⟨by omega, by omega, rfl⟩⟩ | exact ⟨rfl, Or.inr ⟨by omega, rfl⟩⟩)
  · skip
    refine z_aload_n dX9_led_9 rfl ?_
    refine z_getR dX9_led_10 gX9_107 rfl (Nat.le_of_ble_eq_true rfl) rfl ?_
    refine z_iload_n dX9_led_13 rfl ?_
    refine z_iald dX9_led_14 rfl (Nat.le_of_ble_eq_true rfl) (by omega) (fun hr14 => ?_)
    refine z_goto (tgt := 19) dX9_led_15 (by decide) ?_
    exact z_iret dX9_led_19 (by first | exact ⟨rfl, Or.inl ⟨by omega, by omega, rfl⟩⟩ | exact ⟨rfl, Or.inr ⟨by omega, rfl⟩⟩)
abbrev chM (σ : Sto) (j : Nat) : Prop := (0 ≤ σ 91 j ∧ σ 91 j < 8) ∧ placM (σ 91 j) (σ 92 j)
set_option maxRecDepth 20000 in
theorem c_X9_undo {d : Nat} {σ : Sto} (hd : 0 ≤ σ 9 14 ∧ σ 9 14 ≤ 40) (hu : 0 ≤ σ 9 15 ∧ σ 9 15 ≤ 40) (hok : 1 ≤ σ 9 14 → chM σ (σ 9 14 - 1).toNat) (hI : ∀ j, inR (σ 93 j)) : m_X9_undo d [zR 9] σ (qI fun z σ' => (σ 9 14 = 0 ∧ z = -5 ∧ σ' = σ) ∨ (1 ≤ σ 9 14 ∧ z = σ 9 14 - 1 ∧ σ' = lyM (z_put (z_put σ 9 14 (σ 9 14 - 1)) 9 15 (σ 9 15 + 1)) (σ 91 (σ 9 14 - 1).toNat) (σ 92 (σ 9 14 - 1).toNat) (σ 93 (σ 9 14 - 1).toNat))) := by
  refine z_does (L := [some (zR 9)]) rfl (by decide +kernel) (Nat.le_of_ble_eq_true rfl) rfl ?_
  refine z_aload_n dX9_undo_0 rfl ?_
  refine z_getI dX9_undo_1 gX9_170 rfl (Nat.le_of_ble_eq_true rfl) rfl (fun hr1 => ?_)
  refine z_if_ne (tgt := 10) dX9_undo_4 (by decide) ⟨by omega, by omega⟩ (fun h4 => ?_) (fun h4 => ?_)
  · skip
    obtain ⟨k1, k2⟩ := hok (by omega)
    have k3 := hI (σ 9 14 - 1).toNat
    refine z_aload_n dX9_undo_10 rfl ?_
    refine z_dup dX9_undo_11 rfl ?_
    refine z_getI dX9_undo_12 gX9_170 rfl (Nat.le_of_ble_eq_true rfl) rfl (fun hr12 => ?_)
    refine z_iconst dX9_undo_15 ?_
    refine z_isub dX9_undo_16 ?_
    refine z_putI dX9_undo_17 pX9_170 rfl (Nat.le_of_ble_eq_true rfl) rfl ⟨by omega, by omega⟩ ?_
    refine z_aload_n dX9_undo_20 rfl ?_
    refine z_dup dX9_undo_21 rfl ?_
    refine z_getI dX9_undo_22 gX9_167 rfl (Nat.le_of_ble_eq_true rfl) rfl (fun hr22 => ?_)
    try simp only [z_rd, Nat.reduceEqDiff, ↓reduceIte, eq_self] at hr22 ⊢
    refine z_iconst dX9_undo_25 ?_
    refine z_iadd dX9_undo_26 ?_
    refine z_putI dX9_undo_27 pX9_167 rfl (Nat.le_of_ble_eq_true rfl) rfl ⟨by omega, by omega⟩ ?_
    refine z_aload_n dX9_undo_30 rfl ?_
    refine z_aload_n dX9_undo_31 rfl ?_
    refine z_getR dX9_undo_32 gX9_43 rfl (Nat.le_of_ble_eq_true rfl) rfl ?_
    refine z_aload_n dX9_undo_35 rfl ?_
    refine z_getI dX9_undo_36 gX9_170 rfl (Nat.le_of_ble_eq_true rfl) rfl (fun hr36 => ?_)
    try simp only [z_rd, Nat.reduceEqDiff, ↓reduceIte, eq_self] at hr36 ⊢
    refine z_iald dX9_undo_39 rfl (Nat.le_of_ble_eq_true rfl) (by omega) (fun hr39 => ?_)
    try simp only [z_rd, Nat.reduceEqDiff, ↓reduceIte, eq_self] at hr39 ⊢
    refine z_aload_n dX9_undo_40 rfl ?_
    refine z_getR dX9_undo_41 gX9_46 rfl (Nat.le_of_ble_eq_true rfl) rfl ?_
    refine z_aload_n dX9_undo_44 rfl ?_
    refine z_getI dX9_undo_45 gX9_170 rfl (Nat.le_of_ble_eq_true rfl) rfl (fun hr45 => ?_)
    try simp only [z_rd, Nat.reduceEqDiff, ↓reduceIte, eq_self] at hr45 ⊢
    refine z_iald dX9_undo_48 rfl (Nat.le_of_ble_eq_true rfl) (by omega) (fun hr48 => ?_)
    try simp only [z_rd, Nat.reduceEqDiff, ↓reduceIte, eq_self] at hr48 ⊢
    refine z_aload_n dX9_undo_49 rfl ?_
    refine z_getR dX9_undo_50 gX9_49 rfl (Nat.le_of_ble_eq_true rfl) rfl ?_
    refine z_aload_n dX9_undo_53 rfl ?_
    refine z_getI dX9_undo_54 gX9_170 rfl (Nat.le_of_ble_eq_true rfl) rfl (fun hr54 => ?_)
    try simp only [z_rd, Nat.reduceEqDiff, ↓reduceIte, eq_self] at hr54 ⊢
    refine z_iald dX9_undo_57 rfl (Nat.le_of_ble_eq_true rfl) (by omega) (fun hr57 => ?_)
    try simp only [z_rd, Nat.reduceEqDiff, ↓reduceIte, eq_self] at hr57 ⊢
    refine z_callVV (d := d + 0) (av := [_, _, _]) dX9_undo_58 vX9_173 rfl (Nat.le_of_ble_eq_true rfl) rfl rfl rfl (Nat.le_of_ble_eq_true rfl) (Nat.le_refl _) (c_X9_lays (by omega) k2 (by omega)) (fun σ58 h58 => ?_)
    subst h58
    have e14 : lyM (z_put (z_put σ 9 14 (σ 9 14 - 1)) 9 15 (σ 9 15 + 1)) (σ 91 (σ 9 14 - 1).toNat) (σ 92 (σ 9 14 - 1).toNat) (σ 93 (σ 9 14 - 1).toNat) 9 14 = σ 9 14 - 1 := by
      unfold lyM
      split
      · rfl
      · rw [z_put_ne (by unfold celM; split <;> omega)]; rfl
    refine z_aload_n dX9_undo_61 rfl ?_
    refine z_getI dX9_undo_62 gX9_170 rfl (Nat.le_of_ble_eq_true rfl) rfl (fun hr62 => ?_)
    try simp only [z_rd, Nat.reduceEqDiff, ↓reduceIte, eq_self] at hr62 ⊢
    exact z_iret dX9_undo_65 (Or.inr ⟨by omega, e14, rfl⟩)
  · skip
    refine z_bipush (v := -5) dX9_undo_7 (by decide +kernel) ?_
    exact z_iret dX9_undo_9 (Or.inl ⟨by omega, rfl, rfl⟩)
set_option maxRecDepth 20000 in
theorem c_X9_body {d : Nat} {σ : Sto} {k : Int} (hb : 0 ≤ σ 9 54 ∧ σ 9 54 ≤ 50) (hk : inR k) : m_X9_body d [zR 9, zI k] σ (qI fun z σ' => (¬ (0 ≤ k ∧ k < 8) ∧ z = -1 ∧ σ' = σ) ∨ ((0 ≤ k ∧ k < 8) ∧ ((σ 9 54 = 50 ∧ z = -3 ∧ σ' = σ) ∨ (σ 9 54 < 50 ∧ z = σ 9 54 ∧ σ' = z_put (z_put σ 115 (σ 9 54).toNat k) 9 54 (σ 9 54 + 1))))) := by
  refine z_does (L := [some (zR 9), some (zI k)]) rfl (by decide +kernel) (Nat.le_of_ble_eq_true rfl) rfl ?_
  refine z_iload_n dX9_body_0 rfl ?_
  refine z_iconst dX9_body_1 ?_
  refine z_bipush (v := 7) dX9_body_2 (by decide +kernel) ?_
  refine z_callSI (d := d + 0) (av := [_, _, _]) dX9_body_4 sX9_143 rfl rfl (Nat.le_of_ble_eq_true rfl) (Nat.le_refl _) (c_X9_in (by omega) (by omega) (by omega)) (fun z4 σ4 h4 => ?_)
  obtain ⟨hs4, h4⟩ := h4
  subst σ4
  refine z_if_ne (tgt := 12) dX9_body_7 (by decide) ⟨by omega, by omega⟩ (fun h7 => ?_) (fun h7 => ?_)
  · skip
    refine z_aload_n dX9_body_12 rfl ?_
    refine z_getI dX9_body_13 gX9_407 rfl (Nat.le_of_ble_eq_true rfl) rfl (fun hr13 => ?_)
    refine z_bipush (v := 50) dX9_body_16 (by decide +kernel) ?_
    refine z_icmp_ne (tgt := 24) dX9_body_18 (by decide) ⟨by omega, by omega⟩ ⟨by omega, by omega⟩ (fun h18 => ?_) (fun h18 => ?_)
    · skip
      refine z_aload_n dX9_body_24 rfl ?_
      refine z_getR dX9_body_25 gX9_119 rfl (Nat.le_of_ble_eq_true rfl) rfl ?_
      refine z_aload_n dX9_body_28 rfl ?_
      refine z_getI dX9_body_29 gX9_407 rfl (Nat.le_of_ble_eq_true rfl) rfl (fun hr29 => ?_)
      refine z_iload_n dX9_body_32 rfl ?_
      refine z_iast dX9_body_33 rfl (Nat.le_of_ble_eq_true rfl) (by omega) ⟨by omega, by omega⟩ ?_
      refine z_aload_n dX9_body_34 rfl ?_
      refine z_dup dX9_body_35 rfl ?_
      refine z_getI dX9_body_36 gX9_407 rfl (Nat.le_of_ble_eq_true rfl) rfl (fun hr36 => ?_)
      try simp only [z_rd, Nat.reduceEqDiff, ↓reduceIte, eq_self] at hr36 ⊢
      refine z_iconst dX9_body_39 ?_
      refine z_iadd dX9_body_40 ?_
      refine z_putI dX9_body_41 pX9_407 rfl (Nat.le_of_ble_eq_true rfl) rfl ⟨by omega, by omega⟩ ?_
      refine z_aload_n dX9_body_44 rfl ?_
      refine z_getI dX9_body_45 gX9_407 rfl (Nat.le_of_ble_eq_true rfl) rfl (fun hr45 => ?_)
      try simp only [z_rd, Nat.reduceEqDiff, ↓reduceIte, eq_self] at hr45 ⊢
      refine z_iconst dX9_body_48 ?_
      refine z_isub dX9_body_49 ?_
      exact z_iret dX9_body_50 (Or.inr ⟨by omega, Or.inr ⟨by omega, by omega, rfl⟩⟩)
    · skip
      refine z_bipush (v := -3) dX9_body_21 (by decide +kernel) ?_
      exact z_iret dX9_body_23 (Or.inr ⟨by omega, Or.inl ⟨by omega, rfl, rfl⟩⟩)
  · skip
    refine z_iconst dX9_body_10 ?_
    exact z_iret dX9_body_11 (Or.inl ⟨by omega, rfl, rfl⟩)
set_option maxRecDepth 20000 in
theorem c_X9_trace {d : Nat} {σ : Sto} {i : Int} (hr : inR i) : m_X9_trace d [zR 9, zI i] σ (qI fun z σ' => σ' = σ ∧ ((0 ≤ i ∧ i < σ 9 56 ∧ i < 24 ∧ z = σ 116 i.toNat) ∨ ((i < 0 ∨ σ 9 56 ≤ i ∨ 24 ≤ i) ∧ z = -1))) := by
  refine z_does (L := [some (zR 9), some (zI i)]) rfl (by decide +kernel) (Nat.le_of_ble_eq_true rfl) rfl ?_
  refine z_iload_n dX9_trace_0 rfl ?_
  refine z_if_lt (tgt := 27) dX9_trace_1 (by decide) ⟨by omega, by omega⟩ (fun h1 => ?_) (fun h1 => ?_)
  · skip
    refine z_iconst dX9_trace_27 ?_
    exact z_iret dX9_trace_28 (by first | exact ⟨rfl, Or.inl ⟨by omega, by omega, by omega, rfl⟩⟩ | exact ⟨rfl, Or.inr ⟨by omega, rfl⟩⟩)
  · skip
    refine z_iload_n dX9_trace_4 rfl ?_
    refine z_aload_n dX9_trace_5 rfl ?_
    refine z_getI dX9_trace_6 gX9_410 rfl (Nat.le_of_ble_eq_true rfl) rfl (fun hr6 => ?_)
    refine z_icmp_ge (tgt := 27) dX9_trace_9 (by decide) ⟨by omega, by omega⟩ ⟨by omega, by omega⟩ (fun h9 => ?_) (fun h9 => ?_)
    · skip
      refine z_iconst dX9_trace_27 ?_
      exact z_iret dX9_trace_28 (by first | exact ⟨rfl, Or.inl ⟨by omega, by omega, by omega, rfl⟩⟩ | exact ⟨rfl, Or.inr ⟨by omega, rfl⟩⟩)
    · skip
      refine z_iload_n dX9_trace_12 rfl ?_
      refine z_bipush (v := 24) dX9_trace_13 (by decide +kernel) ?_
      refine z_icmp_ge (tgt := 27) dX9_trace_15 (by decide) ⟨by omega, by omega⟩ ⟨by omega, by omega⟩ (fun h15 => ?_) (fun h15 => ?_)
      · skip
        refine z_iconst dX9_trace_27 ?_
        exact z_iret dX9_trace_28 (by first | exact ⟨rfl, Or.inl ⟨by omega, by omega, by omega, rfl⟩⟩ | exact ⟨rfl, Or.inr ⟨by omega, rfl⟩⟩)
      · skip
        refine z_aload_n dX9_trace_18 rfl ?_
        refine z_getR dX9_trace_19 gX9_122 rfl (Nat.le_of_ble_eq_true rfl) rfl ?_
        refine z_iload_n dX9_trace_22 rfl ?_
        refine z_iald dX9_trace_23 rfl (Nat.le_of_ble_eq_true rfl) (by omega) (fun hr23 => ?_)
        refine z_goto (tgt := 28) dX9_trace_24 (by decide) ?_
        exact z_iret dX9_trace_28 (by first | exact ⟨rfl, Or.inl ⟨by omega, by omega, by omega, rfl⟩⟩ | exact ⟨rfl, Or.inr ⟨by omega, rfl⟩⟩)
set_option maxRecDepth 20000 in
theorem c_X9_count {d : Nat} {σ : Sto} {w : Int} (hw : inR w) : m_X9_count d [zR 9, zI w] σ (qI fun z σ' => z = cnC (σ 9 1) (σ 9 7) (σ 9 11) (σ 9 21) (σ 9 14) (σ 9 54) (σ 9 56) w ∧ σ' = σ) := by
  refine z_does (L := [some (zR 9), some (zI w)]) rfl (by decide +kernel) (Nat.le_of_ble_eq_true rfl) rfl ?_
  refine z_iload_n dX9_count_0 rfl ?_
  refine sw_X9_count_1 ⟨by omega, by omega⟩ (fun h1 => ?_) (fun h1 => ?_) (fun h1 => ?_) (fun h1 => ?_) (fun h1 => ?_) (fun h1 => ?_) (fun h1 => ?_) (fun h1 => ?_)
  · first
    | exfalso; omega
    | skip
      refine z_aload_n dX9_count_44 rfl ?_
      refine z_getI dX9_count_45 gX9_140 rfl (Nat.le_of_ble_eq_true rfl) rfl (fun hr45 => ?_)
      exact z_iret dX9_count_48 ⟨by unfold cnC; repeat (first | rw [if_pos (by omega)] | rw [if_neg (by omega)]), rfl⟩
  · first
    | exfalso; omega
    | skip
      refine z_aload_n dX9_count_49 rfl ?_
      refine z_getI dX9_count_50 gX9_147 rfl (Nat.le_of_ble_eq_true rfl) rfl (fun hr50 => ?_)
      exact z_iret dX9_count_53 ⟨by unfold cnC; repeat (first | rw [if_pos (by omega)] | rw [if_neg (by omega)]), rfl⟩
  · first
    | exfalso; omega
    | skip
      refine z_aload_n dX9_count_54 rfl ?_
      refine z_getI dX9_count_55 gX9_160 rfl (Nat.le_of_ble_eq_true rfl) rfl (fun hr55 => ?_)
      exact z_iret dX9_count_58 ⟨by unfold cnC; repeat (first | rw [if_pos (by omega)] | rw [if_neg (by omega)]), rfl⟩
  · first
    | exfalso; omega
    | skip
      refine z_aload_n dX9_count_59 rfl ?_
      refine z_getI dX9_count_60 gX9_193 rfl (Nat.le_of_ble_eq_true rfl) rfl (fun hr60 => ?_)
      exact z_iret dX9_count_63 ⟨by unfold cnC; repeat (first | rw [if_pos (by omega)] | rw [if_neg (by omega)]), rfl⟩
  · first
    | exfalso; omega
    | skip
      refine z_aload_n dX9_count_64 rfl ?_
      refine z_getI dX9_count_65 gX9_170 rfl (Nat.le_of_ble_eq_true rfl) rfl (fun hr65 => ?_)
      exact z_iret dX9_count_68 ⟨by unfold cnC; repeat (first | rw [if_pos (by omega)] | rw [if_neg (by omega)]), rfl⟩
  · first
    | exfalso; omega
    | skip
      refine z_aload_n dX9_count_69 rfl ?_
      refine z_getI dX9_count_70 gX9_407 rfl (Nat.le_of_ble_eq_true rfl) rfl (fun hr70 => ?_)
      exact z_iret dX9_count_73 ⟨by unfold cnC; repeat (first | rw [if_pos (by omega)] | rw [if_neg (by omega)]), rfl⟩
  · first
    | exfalso; omega
    | skip
      refine z_aload_n dX9_count_74 rfl ?_
      refine z_getI dX9_count_75 gX9_410 rfl (Nat.le_of_ble_eq_true rfl) rfl (fun hr75 => ?_)
      exact z_iret dX9_count_78 ⟨by unfold cnC; repeat (first | rw [if_pos (by omega)] | rw [if_neg (by omega)]), rfl⟩
  · first
    | exfalso; omega
    | skip
      refine z_iconst dX9_count_79 ?_
      exact z_iret dX9_count_80 ⟨by unfold cnC; repeat (first | rw [if_pos (by omega)] | rw [if_neg (by omega)]), rfl⟩
set_option maxRecDepth 20000 in
theorem c_X9_redo {d : Nat} {σ : Sto} (hd : 0 ≤ σ 9 14 ∧ σ 9 14 ≤ 40) (hu : 0 ≤ σ 9 15 ∧ σ 9 15 + σ 9 14 ≤ 40) (hok : 1 ≤ σ 9 15 → chM σ (σ 9 14).toNat) (hI : ∀ j, inR (σ 94 j)) : m_X9_redo d [zR 9] σ (qI fun z σ' => (σ 9 15 = 0 ∧ z = -5 ∧ σ' = σ) ∨ (1 ≤ σ 9 15 ∧ z = σ 9 15 - 1 ∧ σ' = z_put (z_put (lyM σ (σ 91 (σ 9 14).toNat) (σ 92 (σ 9 14).toNat) (σ 94 (σ 9 14).toNat)) 9 14 (σ 9 14 + 1)) 9 15 (σ 9 15 - 1))) := by
  have hr : ∀ w n v, lyM σ w n v 9 14 = σ 9 14 ∧ lyM σ w n v 9 15 = σ 9 15 := fun w n v => by
    unfold lyM
    split
    · exact ⟨rfl, rfl⟩
    · rw [z_put_ne (by unfold celM; split <;> omega)]; exact ⟨rfl, rfl⟩
  obtain ⟨r14, r15⟩ := hr (σ 91 (σ 9 14).toNat) (σ 92 (σ 9 14).toNat) (σ 94 (σ 9 14).toNat)
  refine z_does (L := [some (zR 9)]) rfl (by decide +kernel) (Nat.le_of_ble_eq_true rfl) rfl ?_
  refine z_aload_n dX9_redo_0 rfl ?_
  refine z_getI dX9_redo_1 gX9_167 rfl (Nat.le_of_ble_eq_true rfl) rfl (fun hr1 => ?_)
  refine z_if_ne (tgt := 10) dX9_redo_4 (by decide) ⟨by omega, by omega⟩ (fun h4 => ?_) (fun h4 => ?_)
  · skip
    obtain ⟨k1, k2⟩ := hok (by omega)
    have k3 := hI (σ 9 14).toNat
    refine z_aload_n dX9_redo_10 rfl ?_
    refine z_aload_n dX9_redo_11 rfl ?_
    refine z_getR dX9_redo_12 gX9_43 rfl (Nat.le_of_ble_eq_true rfl) rfl ?_
    refine z_aload_n dX9_redo_15 rfl ?_
    refine z_getI dX9_redo_16 gX9_170 rfl (Nat.le_of_ble_eq_true rfl) rfl (fun hr16 => ?_)
    refine z_iald dX9_redo_19 rfl (Nat.le_of_ble_eq_true rfl) (by omega) (fun hr19 => ?_)
    refine z_aload_n dX9_redo_20 rfl ?_
    refine z_getR dX9_redo_21 gX9_46 rfl (Nat.le_of_ble_eq_true rfl) rfl ?_
    refine z_aload_n dX9_redo_24 rfl ?_
    refine z_getI dX9_redo_25 gX9_170 rfl (Nat.le_of_ble_eq_true rfl) rfl (fun hr25 => ?_)
    refine z_iald dX9_redo_28 rfl (Nat.le_of_ble_eq_true rfl) (by omega) (fun hr28 => ?_)
    refine z_aload_n dX9_redo_29 rfl ?_
    refine z_getR dX9_redo_30 gX9_52 rfl (Nat.le_of_ble_eq_true rfl) rfl ?_
    refine z_aload_n dX9_redo_33 rfl ?_
    refine z_getI dX9_redo_34 gX9_170 rfl (Nat.le_of_ble_eq_true rfl) rfl (fun hr34 => ?_)
    refine z_iald dX9_redo_37 rfl (Nat.le_of_ble_eq_true rfl) (by omega) (fun hr37 => ?_)
    refine z_callVV (d := d + 0) (av := [_, _, _]) dX9_redo_38 vX9_173 rfl (Nat.le_of_ble_eq_true rfl) rfl rfl rfl (Nat.le_of_ble_eq_true rfl) (Nat.le_refl _) (c_X9_lays (by omega) k2 (by omega)) (fun σ38 h38 => ?_)
    subst h38
    refine z_aload_n dX9_redo_41 rfl ?_
    refine z_dup dX9_redo_42 rfl ?_
    refine z_getI dX9_redo_43 gX9_170 rfl (Nat.le_of_ble_eq_true rfl) rfl (fun hr43 => ?_)
    try simp only [z_rd, Nat.reduceEqDiff, ↓reduceIte, eq_self] at hr43 ⊢
    refine z_iconst dX9_redo_46 ?_
    refine z_iadd dX9_redo_47 ?_
    refine z_putI dX9_redo_48 pX9_170 rfl (Nat.le_of_ble_eq_true rfl) rfl ⟨by omega, by omega⟩ ?_
    refine z_aload_n dX9_redo_51 rfl ?_
    refine z_dup dX9_redo_52 rfl ?_
    refine z_getI dX9_redo_53 gX9_167 rfl (Nat.le_of_ble_eq_true rfl) rfl (fun hr53 => ?_)
    try simp only [z_rd, Nat.reduceEqDiff, ↓reduceIte, eq_self] at hr53 ⊢
    refine z_iconst dX9_redo_56 ?_
    refine z_isub dX9_redo_57 ?_
    refine z_putI dX9_redo_58 pX9_167 rfl (Nat.le_of_ble_eq_true rfl) rfl ⟨by omega, by omega⟩ ?_
    refine z_aload_n dX9_redo_61 rfl ?_
    refine z_getI dX9_redo_62 gX9_167 rfl (Nat.le_of_ble_eq_true rfl) rfl (fun hr62 => ?_)
    try simp only [z_rd, Nat.reduceEqDiff, ↓reduceIte, eq_self] at hr62 ⊢
    exact z_iret dX9_redo_65 (Or.inr ⟨by omega, by omega, by rw [r14, r15]⟩)
  · skip
    refine z_bipush (v := -5) dX9_redo_7 (by decide +kernel) ?_
    exact z_iret dX9_redo_9 (Or.inl ⟨by omega, rfl, rfl⟩)
def imA (σ : Sto) (i : Int) : Sto := fun a b => if a = 112 ∧ (b : Int) < i then σ 88 b else if a = 113 ∧ (b : Int) < i then σ 89 b else σ a b
def imB (σ : Sto) (i : Int) : Sto := fun a b => if a = 114 ∧ (b : Int) < i then σ 111 b else σ a b
def bkA (σ : Sto) (i : Int) : Sto := fun a b => if a = 88 ∧ (b : Int) < i then (if (b : Int) < σ 9 50 then σ 112 b else 0) else if a = 89 ∧ (b : Int) < i then (if (b : Int) < σ 9 50 then σ 113 b else 0) else σ a b
def bkB (σ : Sto) (i : Int) : Sto := fun a b => if a = 111 ∧ (b : Int) < i then σ 114 b else σ a b
theorem imA_rd (σ : Sto) (i : Int) (a b : Nat) : imA σ i a b = if a = 112 ∧ (b : Int) < i then σ 88 b else if a = 113 ∧ (b : Int) < i then σ 89 b else σ a b := rfl
theorem imB_rd (σ : Sto) (i : Int) (a b : Nat) : imB σ i a b = if a = 114 ∧ (b : Int) < i then σ 111 b else σ a b := rfl
theorem bkA_rd (σ : Sto) (i : Int) (a b : Nat) : bkA σ i a b = if a = 88 ∧ (b : Int) < i then (if (b : Int) < σ 9 50 then σ 112 b else 0) else if a = 89 ∧ (b : Int) < i then (if (b : Int) < σ 9 50 then σ 113 b else 0) else σ a b := rfl
theorem bkB_rd (σ : Sto) (i : Int) (a b : Nat) : bkB σ i a b = if a = 111 ∧ (b : Int) < i then σ 114 b else σ a b := rfl
theorem imA_s {σ : Sto} {i : Int} (hi : 0 ≤ i) : z_put (z_put (imA σ i) 112 i.toNat (imA σ i 88 i.toNat)) 113 i.toNat (imA σ i 89 i.toNat) = imA σ (i + 1) := by
  funext a b
  simp only [z_rd, imA_rd]
  by_cases hb : b = i.toNat
  · subst hb; grind
  · grind
theorem imB_s {σ : Sto} {i : Int} (hi : 0 ≤ i) : z_put (imB σ i) 114 i.toNat (imB σ i 111 i.toNat) = imB σ (i + 1) := by
  funext a b
  simp only [z_rd, imB_rd]
  by_cases hb : b = i.toNat
  · subst hb; grind
  · grind
theorem bkA_s {σ : Sto} {i x y : Int} (hi : 0 ≤ i) (hx : x = if i < σ 9 50 then σ 112 i.toNat else 0) (hy : y = if i < σ 9 50 then σ 113 i.toNat else 0) : z_put (z_put (bkA σ i) 88 i.toNat x) 89 i.toNat y = bkA σ (i + 1) := by
  subst hx hy
  funext a b
  simp only [z_rd, bkA_rd]
  by_cases hb : b = i.toNat
  · subst hb; grind
  · grind
theorem bkB_s {σ : Sto} {i : Int} (hi : 0 ≤ i) : z_put (bkB σ i) 111 i.toNat (bkB σ i 114 i.toNat) = bkB σ (i + 1) := by
  funext a b
  simp only [z_rd, bkB_rd]
  by_cases hb : b = i.toNat
  · subst hb; grind
  · grind
theorem im_0 (σ : Sto) : imA σ 0 = σ ∧ imB σ 0 = σ ∧ bkA σ 0 = σ ∧ bkB σ 0 = σ := by
  refine ⟨?_, ?_, ?_, ?_⟩ <;> funext a b
  · rw [imA_rd, if_neg (by omega), if_neg (by omega)]
  · rw [imB_rd, if_neg (by omega)]
  · rw [bkA_rd, if_neg (by omega), if_neg (by omega)]
  · rw [bkB_rd, if_neg (by omega)]
