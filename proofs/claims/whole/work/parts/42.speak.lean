/-! ===== The class's speak and words ===== -/
abbrev spC (LF : LFT) (σ : Sto) (s m : Int) : List Int × List Int := cmL (pasC LF σ (finC σ m)) (SYC σ s) 0 (σ 74 m.toNat)
theorem nsS_ne {σ : Sto} {m c l h u : Int} {a : Nat} (h1 : a ≠ 74) (h2 : a ≠ 75) (h3 : a ≠ 76) : nsS σ m c l h u a = σ a := by
  unfold nsS
  rw [z_put_ne h3, z_put_ne h3, z_put_ne h3, z_put_ne h3, z_put_ne h2, z_put_ne h1]
set_option maxRecDepth 20000 in
set_option maxHeartbeats 1000000 in
theorem c_X8_speak {d : Nat} {σ : Sto} {LF : LFT} {s m : Int} (hW : WC LF σ) (hS : SH σ) (hs : inR s) (hm : inR m) (hl : ∀ j, 0 ≤ σ 74 j ∧ σ 74 j ≤ 100000) : m_X8_speak d [zR 0, zI s, zI m] σ (qI fun z σ' => (¬ (0 ≤ m ∧ m < σ 1 2) ∧ z = -1 ∧ σ' = σ) ∨ ((0 ≤ m ∧ m < σ 1 2) ∧ hrC σ s m ≠ 0 ∧ z = hrC σ s m ∧ σ' = σ) ∨ ((0 ≤ m ∧ m < σ 1 2) ∧ hrC σ s m = 0 ∧ z = ((spC LF σ s m).1.length : Int) ∧ ∃ τ, KC σ τ ∧ σ' = nsS τ m (spC LF σ s m).1.length (spC LF σ s m).2.length (sumL (σ 14) (spC LF σ s m).2) (bcF (hurtC σ (spC LF σ s m).1)))) := by
  have w2 := hW.2.1
  have hfR := finC_R (m := m) hW
  have hlm := hl m.toNat
  have hsR := sumL_R hW.2.2.2.2.1 (cmL (pasC LF σ (finC σ m)) (SYC σ s) 0 (σ 74 m.toNat)).2
  have hhR : inR (hurtC σ (cmL (pasC LF σ (finC σ m)) (SYC σ s) 0 (σ 74 m.toNat)).1) := hurt_R
  refine z_does (L := [some (zR 0), some (zI s), some (zI m), none, none, none]) rfl (by decide +kernel) (Nat.le_of_ble_eq_true rfl) rfl ?_
  refine z_aload_n dX8_speak_0 rfl ?_
  refine z_iload_n dX8_speak_1 rfl ?_
  refine z_callVI (d := d + 5) (av := [_]) dX8_speak_2 vX8_119 rfl (Nat.le_of_ble_eq_true rfl) rfl rfl rfl (Nat.le_of_ble_eq_true rfl) (Nat.le_refl _) (c_X8_isMesh (by omega)) (fun z2 σ2 h2 => ?_)
  obtain ⟨hs2, h2⟩ := h2
  subst σ2
  refine z_if_ne (tgt := 10) dX8_speak_5 (by decide) ⟨by omega, by omega⟩ (fun h5 => ?_) (fun h5 => ?_)
  · skip
    refine z_aload_n dX8_speak_10 rfl ?_
    refine z_iload_n dX8_speak_11 rfl ?_
    refine z_iload_n dX8_speak_12 rfl ?_
    refine z_callVI (d := d + 5) (av := [_, _]) dX8_speak_13 vX8_146 rfl (Nat.le_of_ble_eq_true rfl) rfl rfl rfl (Nat.le_of_ble_eq_true rfl) (Nat.le_refl _) (c_X8_hear (LF := LF) hW hS (by omega) (by omega)) (fun z13 σ13 h13 => ?_)
    have hzr : -12 ≤ z13 ∧ z13 ≤ 12 := by rcases h13 with q | q; have := hrC_n q.1; have := q.2.1; omega; have := q.2.1; have := SYC_len (σ := σ) (s := s); omega
    refine z_istore_n (L' := [_, _, _, _, _, _]) dX8_speak_16 (Nat.le_of_ble_eq_true rfl) rfl rfl ?_
    refine z_iload_n dX8_speak_17 rfl ?_
    refine z_if_ge (tgt := 23) dX8_speak_18 (by decide) ⟨by omega, by omega⟩ (fun h18 => ?_) (fun h18 => ?_)
    · first
      | exfalso; omega
      | skip
        have hh : hrC σ s m = 0 ∧ z13 = (SYC σ s).length ∧ (∀ a, a ≠ 10 → σ13 a = σ a) ∧ Seg σ13 10 0 (SYC σ s) := by rcases h13 with q | q; exfalso; have := q.2.2.1; omega; exact q
        obtain ⟨hh1, hh2, hh3, hh4⟩ := hh
        subst hh2
        obtain ⟨hs6, hm5, h30⟩ := hrC_0 hh1
        have hk := k1.kc hh3 (by decide)
        have hWt := hk.wc hW
        have hx12 := SYC_len (σ := σ) (s := s)
        have hxw := SYC_wok (s := s) hW
        refine z_aload_n dX8_speak_23 rfl ?_
        refine z_getR dX8_speak_24 gX8_42 rfl (Nat.le_of_ble_eq_true rfl) rfl ?_
        refine z_aload_n dX8_speak_27 rfl ?_
        refine z_getR dX8_speak_28 gX8_69 rfl (Nat.le_of_ble_eq_true rfl) rfl ?_
        refine z_iload_n dX8_speak_31 rfl ?_
        refine z_aload_n dX8_speak_32 rfl ?_
        refine z_iload_n dX8_speak_33 rfl ?_
        refine z_callVI (d := d + 5) (av := [_]) dX8_speak_34 vX8_139 rfl (Nat.le_of_ble_eq_true rfl) rfl rfl rfl (Nat.le_of_ble_eq_true rfl) (Nat.le_refl _) (c_X8_fineOf (by omega)) (fun z34 σ34 h34 => ?_)
        obtain ⟨rfl, hs34⟩ := h34
        subst σ34
        rw [hk.fin]
        refine z_aload_n dX8_speak_37 rfl ?_
        refine z_getR dX8_speak_38 gX8_58 rfl (Nat.le_of_ble_eq_true rfl) rfl ?_
        refine z_iload_n dX8_speak_41 rfl ?_
        refine z_callVI (d := d + 5) (av := [_]) dX8_speak_42 vX8_122 rfl (Nat.le_of_ble_eq_true rfl) rfl rfl rfl (Nat.le_of_ble_eq_true rfl) (Nat.le_refl _) (c_X1_lyingIn (by omega)) (fun z42 σ42 h42 => ?_)
        obtain ⟨rfl, hs42⟩ := h42
        subst σ42
        rw [hk 74 (by omega)]
        refine z_callVV (d := d + 5) (av := [_, _, _, _]) dX8_speak_45 vX8_149 rfl (Nat.le_of_ble_eq_true rfl) rfl rfl rfl (Nat.le_of_ble_eq_true rfl) (Nat.le_refl _) (c_X6_strain (LF := LF) (xs := (SYC σ s)) hWt rfl (Nat.le_of_ble_eq_true rfl) (by decide) (by decide) (by omega) (by omega) rfl hxw hh4 (by omega)) (fun σ45 h45 => ?_)
        obtain ⟨t1, t2, t3, t4, t5⟩ := h45
        rw [hk.ps] at t2 t3 t4 t5
        have hk2 := hk.tr t1.kc
        have hcl := cmL_len (ps := pasC LF σ (finC σ m)) (SYC σ s) 0 (σ 74 m.toNat)
        have hcw := cmL_wok (ps := pasC LF σ (finC σ m)) (SYC σ s) 0 (σ 74 m.toNat) hxw
        have hWu := hk2.wc hW
        refine z_aload_n dX8_speak_48 rfl ?_
        refine z_getR dX8_speak_49 gX8_42 rfl (Nat.le_of_ble_eq_true rfl) rfl ?_
        refine z_aload_n dX8_speak_52 rfl ?_
        refine z_getR dX8_speak_53 gX8_42 rfl (Nat.le_of_ble_eq_true rfl) rfl ?_
        refine z_getR dX8_speak_56 gX8_170 rfl (Nat.le_of_ble_eq_true rfl) rfl ?_
        refine z_aload_n dX8_speak_59 rfl ?_
        refine z_getR dX8_speak_60 gX8_42 rfl (Nat.le_of_ble_eq_true rfl) rfl ?_
        refine z_getI dX8_speak_63 gX8_156 rfl (Nat.le_of_ble_eq_true rfl) rfl (fun hr63 => ?_)
        refine z_iconst dX8_speak_66 ?_
        rw [t3]
        refine z_callVI (d := d + 5) (av := [_, _, _]) dX8_speak_67 vX8_173 rfl (Nat.le_of_ble_eq_true rfl) rfl rfl rfl (Nat.le_of_ble_eq_true rfl) (Nat.le_refl _) (c_X6_sumOf (X := (cmL (pasC LF σ (finC σ m)) (SYC σ s) 0 (σ 74 m.toNat)).2) rfl (Nat.le_of_ble_eq_true rfl) (by decide) hWu.2.2.2.2.1 rfl (by omega) (by decide) t5 hcw.2) (fun z67 σ67 h67 => ?_)
        obtain ⟨rfl, hs67⟩ := h67
        subst σ67
        rw [show σ45 (13 + (1 : Int).toNat) = σ 14 from hk2 14 (by omega)]
        refine z_istore (L' := [_, _, _, _, _, _]) dX8_speak_70 (Nat.le_of_ble_eq_true rfl) rfl rfl ?_
        refine z_aload_n dX8_speak_72 rfl ?_
        refine z_getR dX8_speak_73 gX8_42 rfl (Nat.le_of_ble_eq_true rfl) rfl ?_
        refine z_aload_n dX8_speak_76 rfl ?_
        refine z_getR dX8_speak_77 gX8_42 rfl (Nat.le_of_ble_eq_true rfl) rfl ?_
        refine z_getR dX8_speak_80 gX8_159 rfl (Nat.le_of_ble_eq_true rfl) rfl ?_
        refine z_aload_n dX8_speak_83 rfl ?_
        refine z_getR dX8_speak_84 gX8_42 rfl (Nat.le_of_ble_eq_true rfl) rfl ?_
        refine z_getI dX8_speak_87 gX8_153 rfl (Nat.le_of_ble_eq_true rfl) rfl (fun hr87 => ?_)
        rw [t2]
        refine z_callVI (d := d + 5) (av := [_, _]) dX8_speak_90 vX8_166 rfl (Nat.le_of_ble_eq_true rfl) rfl rfl rfl (Nat.le_of_ble_eq_true rfl) (Nat.le_refl _) (c_X6_hurtBy (LF := LF) (X := (cmL (pasC LF σ (finC σ m)) (SYC σ s) 0 (σ 74 m.toNat)).1) hWu rfl (Nat.le_of_ble_eq_true rfl) (by decide) rfl (by omega) (by decide) t4 hcw.1) (fun z90 σ90 h90 => ?_)
        obtain ⟨rfl, hf2⟩ := h90
        rw [hk2.hurt]
        have f5 : σ90 5 = σ45 5 := hf2 5 (by decide)
        refine z_callSI (d := d + 5) (av := [_]) dX8_speak_93 sX8_207 rfl rfl (Nat.le_of_ble_eq_true rfl) (Nat.le_refl _) (c_J6_bitCount_0f7a4) (fun z93 σ93 h93 => ?_)
        obtain ⟨rfl, hs93⟩ := h93
        subst σ93
        refine z_istore (L' := [_, _, _, _, _, _]) dX8_speak_96 (Nat.le_of_ble_eq_true rfl) rfl rfl ?_
        refine z_aload_n dX8_speak_98 rfl ?_
        refine z_getR dX8_speak_99 gX8_58 rfl (Nat.le_of_ble_eq_true rfl) rfl ?_
        refine z_iload_n dX8_speak_102 rfl ?_
        refine z_aload_n dX8_speak_103 rfl ?_
        refine z_getR dX8_speak_104 gX8_42 rfl (Nat.le_of_ble_eq_true rfl) rfl ?_
        refine z_getI dX8_speak_107 gX8_153 rfl (Nat.le_of_ble_eq_true rfl) rfl (fun hr107 => ?_)
        refine z_aload_n dX8_speak_110 rfl ?_
        refine z_getR dX8_speak_111 gX8_42 rfl (Nat.le_of_ble_eq_true rfl) rfl ?_
        refine z_getI dX8_speak_114 gX8_156 rfl (Nat.le_of_ble_eq_true rfl) rfl (fun hr114 => ?_)
        refine z_iload dX8_speak_117 rfl ?_
        refine z_iload dX8_speak_119 rfl ?_
        rw [show σ90 5 5 = ((spC LF σ s m).1.length : Int) by rw [f5]; exact t2, show σ90 5 6 = ((spC LF σ s m).2.length : Int) by rw [f5]; exact t3]
        refine z_callVV (d := d + 5) (av := [_, _, _, _, _]) dX8_speak_121 vX8_255 rfl (Nat.le_of_ble_eq_true rfl) rfl rfl rfl (Nat.le_of_ble_eq_true rfl) (Nat.le_refl _) (c_X1_noteSaying (by omega)) (fun σ121 h121 => ?_)
        subst h121
        refine z_aload_n dX8_speak_124 rfl ?_
        refine z_getR dX8_speak_125 gX8_42 rfl (Nat.le_of_ble_eq_true rfl) rfl ?_
        refine z_getI dX8_speak_128 gX8_153 rfl (Nat.le_of_ble_eq_true rfl) rfl (fun hr128 => ?_)
        try simp only [z_rd, Nat.reduceEqDiff, ↓reduceIte, eq_self] at hr128 ⊢
        rw [show ∀ a b c e f, nsS σ90 a b c e f 5 = σ90 5 from fun a b c e f => nsS_ne (by decide) (by decide) (by decide), show σ90 5 5 = ((spC LF σ s m).1.length : Int) by rw [f5]; exact t2]
        exact z_iret dX8_speak_131 (Or.inr (Or.inr ⟨by omega, hh1, rfl, _, hk2.tr (k1.kc hf2 (by decide)), rfl⟩))
    · first
      | exfalso; omega
      | skip
        have hh : hrC σ s m ≠ 0 ∧ z13 = hrC σ s m ∧ σ13 = σ := by rcases h13 with q | q; exact ⟨q.1, q.2.1, q.2.2.2⟩; exfalso; have := q.2.1; omega
        obtain ⟨hh1, hh2, hs⟩ := hh
        subst σ13
        refine z_iload_n dX8_speak_21 rfl ?_
        exact z_iret dX8_speak_22 (Or.inr (Or.inl ⟨by omega, hh1, hh2, rfl⟩))
  · skip
    refine z_iconst dX8_speak_8 ?_
    exact z_iret dX8_speak_9 (Or.inl ⟨by omega, rfl, rfl⟩)
/-- words out of a row, three bytes each -/
def w3B (R : Nat → Int) (i l W : Int) : Bool := decide (i ≤ l - 3 ∧ (0 ≤ R i.toNat ∧ R i.toNat ≤ 9) ∧ (0 ≤ R (i + 1).toNat ∧ R (i + 1).toNat ≤ 9) ∧ (0 ≤ R (i + 2).toNat ∧ R (i + 2).toNat ≤ 9) ∧ W < 12)
def w3S (R : Nat → Int) (l : Int) : Nat → Int → Int → Sto → Int × Sto
  | 0, _, c, σ => (c, σ)
  | k + 1, i, c, σ => if w3B R i l (σ 1 1) then w3S R l k (i + 3) (c + 1) (nwS σ (R i.toNat) (R (i + 1).toNat) (R (i + 2).toNat)) else (c, σ)
set_option maxRecDepth 20000 in
theorem c_X8_wordFromThree {d : Nat} {σ : Sto} {s i : Int} (hS : SH σ) (hc : 0 ≤ σ 1 1 ∧ σ 1 1 ≤ 12) (hs : 0 ≤ s ∧ s < 6) (h0 : σ 30 s.toNat = 0) (hi : 0 ≤ i ∧ i + 3 ≤ σ 32 s.toNat) : m_X8_wordFromThree d [zR 0, zI s, zI i] σ (qI fun z σ' => (w3B (σ (34 + s.toNat)) i (σ 32 s.toNat) (σ 1 1) = false ∧ z = 0 ∧ σ' = σ) ∨ (w3B (σ (34 + s.toNat)) i (σ 32 s.toNat) (σ 1 1) = true ∧ z = 1 ∧ σ' = nwS σ (σ (34 + s.toNat) i.toNat) (σ (34 + s.toNat) (i + 1).toNat) (σ (34 + s.toNat) (i + 2).toNat))) := by
  obtain ⟨-, q32, hb⟩ := hS s hs.1 hs.2
  have hb := hb h0
  have b0 := hb i.toNat
  have b1 := hb (i + 1).toNat
  have b2 := hb (i + 2).toNat
  have hlr : lenR σ s (σ 32 s.toNat) := rfl
  refine z_does (L := [some (zR 0), some (zI s), some (zI i), none, none, none]) rfl (by decide +kernel) (Nat.le_of_ble_eq_true rfl) rfl ?_
  refine z_aload_n dX8_wordFromThree_0 rfl ?_
  refine z_getR dX8_wordFromThree_1 gX8_33 rfl (Nat.le_of_ble_eq_true rfl) rfl ?_
  refine z_iload_n dX8_wordFromThree_4 rfl ?_
  refine z_iload_n dX8_wordFromThree_5 rfl ?_
  refine z_callVJ (d := d + 3) (av := [_, _]) dX8_wordFromThree_6 vX8_184 rfl (Nat.le_of_ble_eq_true rfl) rfl rfl rfl (Nat.le_of_ble_eq_true rfl) (Nat.le_refl _) (c_X5_valueAt hs hlr (by omega) (by omega)) (fun z6 σ6 h6 => ?_)
  obtain ⟨hs6, g6, -⟩ := h6
  subst σ6
  have e6 : z6 = σ (34 + s.toNat) i.toNat := by omega
  subst e6
  refine z_l2i dX8_wordFromThree_9 ?_
  refine z_istore_n (L' := [_, _, _, _, _, _]) dX8_wordFromThree_10 (Nat.le_of_ble_eq_true rfl) rfl rfl ?_
  refine z_aload_n dX8_wordFromThree_11 rfl ?_
  refine z_getR dX8_wordFromThree_12 gX8_33 rfl (Nat.le_of_ble_eq_true rfl) rfl ?_
  refine z_iload_n dX8_wordFromThree_15 rfl ?_
  refine z_iload_n dX8_wordFromThree_16 rfl ?_
  refine z_iconst dX8_wordFromThree_17 ?_
  refine z_iadd dX8_wordFromThree_18 ?_
  refine z_callVJ (d := d + 3) (av := [_, _]) dX8_wordFromThree_19 vX8_184 rfl (Nat.le_of_ble_eq_true rfl) rfl rfl rfl (Nat.le_of_ble_eq_true rfl) (Nat.le_refl _) (c_X5_valueAt hs hlr (by omega) (by omega)) (fun z19 σ19 h19 => ?_)
  obtain ⟨hs19, g19, -⟩ := h19
  subst σ19
  have e19 : z19 = σ (34 + s.toNat) (i + 1).toNat := by omega
  subst e19
  refine z_l2i dX8_wordFromThree_22 ?_
  refine z_istore (L' := [_, _, _, _, _, _]) dX8_wordFromThree_23 (Nat.le_of_ble_eq_true rfl) rfl rfl ?_
  refine z_aload_n dX8_wordFromThree_25 rfl ?_
  refine z_getR dX8_wordFromThree_26 gX8_33 rfl (Nat.le_of_ble_eq_true rfl) rfl ?_
  refine z_iload_n dX8_wordFromThree_29 rfl ?_
  refine z_iload_n dX8_wordFromThree_30 rfl ?_
  refine z_iconst dX8_wordFromThree_31 ?_
  refine z_iadd dX8_wordFromThree_32 ?_
  refine z_callVJ (d := d + 3) (av := [_, _]) dX8_wordFromThree_33 vX8_184 rfl (Nat.le_of_ble_eq_true rfl) rfl rfl rfl (Nat.le_of_ble_eq_true rfl) (Nat.le_refl _) (c_X5_valueAt hs hlr (by omega) (by omega)) (fun z33 σ33 h33 => ?_)
  obtain ⟨hs33, g33, -⟩ := h33
  subst σ33
  have e33 : z33 = σ (34 + s.toNat) (i + 2).toNat := by omega
  subst e33
  refine z_l2i dX8_wordFromThree_36 ?_
  refine z_istore (L' := [_, _, _, _, _, _]) dX8_wordFromThree_37 (Nat.le_of_ble_eq_true rfl) rfl rfl ?_
  refine z_aload_n dX8_wordFromThree_39 rfl ?_
  refine z_getR dX8_wordFromThree_40 gX8_10 rfl (Nat.le_of_ble_eq_true rfl) rfl ?_
  refine z_iconst dX8_wordFromThree_43 ?_
  refine z_iload_n dX8_wordFromThree_44 rfl ?_
  refine z_callVI (d := d + 3) (av := [_, _]) dX8_wordFromThree_45 vX8_76 rfl (Nat.le_of_ble_eq_true rfl) rfl rfl rfl (Nat.le_of_ble_eq_true rfl) (Nat.le_refl _) (c_X7_allows (by omega) (by omega)) (fun z45 σ45 h45 => ?_)
  obtain ⟨hs45, h45⟩ := h45
  subst σ45
  refine z_if_eq (tgt := 77) dX8_wordFromThree_48 (by decide) ⟨by omega, by omega⟩ (fun h48 => ?_) (fun h48 => ?_)
  · skip
    refine z_iconst dX8_wordFromThree_77 ?_
    exact z_zret dX8_wordFromThree_78 (by omega) (Or.inl ⟨by unfold w3B; rw [decide_eq_false_iff_not]; omega, rfl, rfl⟩)
  · skip
    refine z_aload_n dX8_wordFromThree_51 rfl ?_
    refine z_getR dX8_wordFromThree_52 gX8_10 rfl (Nat.le_of_ble_eq_true rfl) rfl ?_
    refine z_iconst dX8_wordFromThree_55 ?_
    refine z_iload dX8_wordFromThree_56 rfl ?_
    refine z_callVI (d := d + 3) (av := [_, _]) dX8_wordFromThree_58 vX8_76 rfl (Nat.le_of_ble_eq_true rfl) rfl rfl rfl (Nat.le_of_ble_eq_true rfl) (Nat.le_refl _) (c_X7_allows (by omega) (by omega)) (fun z58 σ58 h58 => ?_)
    obtain ⟨hs58, h58⟩ := h58
    subst σ58
    refine z_if_eq (tgt := 77) dX8_wordFromThree_61 (by decide) ⟨by omega, by omega⟩ (fun h61 => ?_) (fun h61 => ?_)
    · skip
      refine z_iconst dX8_wordFromThree_77 ?_
      exact z_zret dX8_wordFromThree_78 (by omega) (Or.inl ⟨by unfold w3B; rw [decide_eq_false_iff_not]; omega, rfl, rfl⟩)
    · skip
      refine z_aload_n dX8_wordFromThree_64 rfl ?_
      refine z_getR dX8_wordFromThree_65 gX8_10 rfl (Nat.le_of_ble_eq_true rfl) rfl ?_
      refine z_iconst dX8_wordFromThree_68 ?_
      refine z_iload dX8_wordFromThree_69 rfl ?_
      refine z_callVI (d := d + 3) (av := [_, _]) dX8_wordFromThree_71 vX8_76 rfl (Nat.le_of_ble_eq_true rfl) rfl rfl rfl (Nat.le_of_ble_eq_true rfl) (Nat.le_refl _) (c_X7_allows (by omega) (by omega)) (fun z71 σ71 h71 => ?_)
      obtain ⟨hs71, h71⟩ := h71
      subst σ71
      refine z_if_ne (tgt := 79) dX8_wordFromThree_74 (by decide) ⟨by omega, by omega⟩ (fun h74 => ?_) (fun h74 => ?_)
      · skip
        refine z_aload_n dX8_wordFromThree_79 rfl ?_
        refine z_getR dX8_wordFromThree_80 gX8_10 rfl (Nat.le_of_ble_eq_true rfl) rfl ?_
        refine z_iload_n dX8_wordFromThree_83 rfl ?_
        refine z_iload dX8_wordFromThree_84 rfl ?_
        refine z_iload dX8_wordFromThree_86 rfl ?_
        refine z_callVI (d := d + 3) (av := [_, _, _]) dX8_wordFromThree_88 vX8_80 rfl (Nat.le_of_ble_eq_true rfl) rfl rfl rfl (Nat.le_of_ble_eq_true rfl) (Nat.le_refl _) (c_X7_newWord (by omega) (by omega) (by omega) (by omega)) (fun z88 σ88 h88 => ?_)
        skip
        refine z_bipush (v := -3) dX8_wordFromThree_91 (by decide +kernel) ?_
        refine z_icmp_eq (tgt := 100) dX8_wordFromThree_93 (by decide) ⟨by omega, by omega⟩ ⟨by omega, by omega⟩ (fun h93 => ?_) (fun h93 => ?_)
        · skip
          refine z_iconst dX8_wordFromThree_100 ?_
          exact z_zret dX8_wordFromThree_101 (by omega) (by
            first
            | exact Or.inl ⟨by unfold w3B; rw [decide_eq_false_iff_not]; omega, rfl, by rcases h88 with q | q; exact q.2.2; exfalso; omega⟩
            | exact Or.inr ⟨by unfold w3B; rw [decide_eq_true_eq]; omega, rfl, by rcases h88 with q | q; exfalso; omega; exact q.2.2⟩)
        · skip
          refine z_iconst dX8_wordFromThree_96 ?_
          refine z_goto (tgt := 101) dX8_wordFromThree_97 (by decide) ?_
          exact z_zret dX8_wordFromThree_101 (by omega) (by
            first
            | exact Or.inl ⟨by unfold w3B; rw [decide_eq_false_iff_not]; omega, rfl, by rcases h88 with q | q; exact q.2.2; exfalso; omega⟩
            | exact Or.inr ⟨by unfold w3B; rw [decide_eq_true_eq]; omega, rfl, by rcases h88 with q | q; exfalso; omega; exact q.2.2⟩)
      · skip
        refine z_iconst dX8_wordFromThree_77 ?_
        exact z_zret dX8_wordFromThree_78 (by omega) (Or.inl ⟨by unfold w3B; rw [decide_eq_false_iff_not]; omega, rfl, rfl⟩)
