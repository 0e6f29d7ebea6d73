/-! ===== Sieve ===== -/
abbrev LFT : Type := Int → Int → Int → Int → Int → Int → Int
/-- what the class's words, meshes, people and law are -/
def WC (LF : LFT) (σ : Sto) : Prop := (0 ≤ σ 1 1 ∧ σ 1 1 ≤ 12) ∧ (0 ≤ σ 1 2 ∧ σ 1 2 ≤ 5) ∧ (0 ≤ σ 1 3 ∧ σ 1 3 ≤ 6) ∧ (∀ j, 0 ≤ σ 13 j ∧ σ 13 j ≤ 9) ∧ (∀ j, 0 ≤ σ 14 j ∧ σ 14 j ≤ 9) ∧ (∀ j, 0 ≤ σ 15 j ∧ σ 15 j ≤ 9) ∧ (∀ j, 0 ≤ σ 16 j ∧ σ 16 j ≤ 2) ∧ (∀ j, 0 ≤ σ 17 j ∧ σ 17 j ≤ 5) ∧ (∀ j, 0 ≤ σ 18 j ∧ σ 18 j ≤ 9) ∧ (∀ j, 0 ≤ σ 19 j ∧ σ 19 j ≤ 9) ∧ (0 ≤ σ 20 0 ∧ σ 20 0 ≤ 20) ∧
  (0 < σ 3 7 → ∀ N sk, evF 256 (σ 27) (σ 3 7) N sk 0 0 = LF (N 0) (N 1) (N 2) (N 3) (N 4) (N 5))
theorem WC.keep {LF : LFT} {σ τ : Sto} (h : WC LF σ) (h1 : τ 1 = σ 1) (h3 : τ 3 = σ 3) (h27 : τ 27 = σ 27) (hn : ∀ a, 13 ≤ a → a ≤ 20 → τ a = σ a) : WC LF τ := by
  unfold WC at h ⊢
  rw [h1, h3, h27, hn 13 (by decide) (by decide), hn 14 (by decide) (by decide), hn 15 (by decide) (by decide), hn 16 (by decide) (by decide), hn 17 (by decide) (by decide), hn 18 (by decide) (by decide), hn 19 (by decide) (by decide), hn 20 (by decide) (by decide)]
  exact h
abbrev pasC (LF : LFT) (σ : Sto) (f : Int) : Int → Int → Int → Bool := pasP LF (decide (0 < σ 3 7)) (σ 13) (σ 14) (σ 15) (σ 20 0) f
set_option maxRecDepth 20000 in
theorem c_X2_isTold {d : Nat} {σ : Sto} : m_X2_isTold d [zR 3] σ (qI fun z σ' => σ' = σ ∧ yn z (0 < σ 3 7)) := by
  refine z_does (L := [some (zR 3)]) rfl (by decide +kernel) (Nat.le_of_ble_eq_true rfl) rfl ?_
  refine z_aload_n dX2_isTold_0 rfl ?_
  refine z_getI dX2_isTold_1 gX2_44 rfl (Nat.le_of_ble_eq_true rfl) rfl (fun hr1 => ?_)
  refine z_if_le (tgt := 11) dX2_isTold_4 (by decide) ⟨by omega, by omega⟩ (fun h4 => ?_) (fun h4 => ?_)
  · first
    | exfalso; omega
    | skip
      refine z_iconst dX2_isTold_11 ?_
      exact z_zret dX2_isTold_12 (by omega) ⟨rfl, by omega⟩
  · first
    | exfalso; omega
    | skip
      refine z_iconst dX2_isTold_7 ?_
      refine z_goto (tgt := 12) dX2_isTold_8 (by decide) ?_
      exact z_zret dX2_isTold_12 (by omega) ⟨rfl, by omega⟩
set_option maxRecDepth 20000 in
theorem c_X2_worth {d : Nat} {σ : Sto} {LF : LFT} {a1 a2 a3 a4 a5 a6 : Int} (hL : ∀ N sk, evF 256 (σ 27) (σ 3 7) N sk 0 0 = LF (N 0) (N 1) (N 2) (N 3) (N 4) (N 5)) (h1 : inR a1) (h2 : inR a2) (h3 : inR a3) (h4 : inR a4) (h5 : inR a5) (h6 : inR a6) : m_X2_worth d [zR 3, zI a1, zI a2, zI a3, zI a4, zI a5, zI a6] σ (qI fun z σ' => z = LF a1 a2 a3 a4 a5 a6 ∧ inR z ∧ ∀ a, a ≠ 28 → a ≠ 29 → σ' a = σ a) := by
  refine z_does (L := [some (zR 3), some (zI a1), some (zI a2), some (zI a3), some (zI a4), some (zI a5), some (zI a6), none, none, none, none]) rfl (by decide +kernel) (Nat.le_of_ble_eq_true rfl) rfl ?_
  refine z_aload_n dX2_worth_0 rfl ?_
  refine z_getR dX2_worth_1 gX2_24 rfl (Nat.le_of_ble_eq_true rfl) rfl ?_
  refine z_iconst dX2_worth_4 ?_
  refine z_iload_n dX2_worth_5 rfl ?_
  refine z_iast dX2_worth_6 rfl (Nat.le_of_ble_eq_true rfl) (by omega) ⟨by omega, by omega⟩ ?_
  refine z_aload_n dX2_worth_7 rfl ?_
  refine z_getR dX2_worth_8 gX2_24 rfl (Nat.le_of_ble_eq_true rfl) rfl ?_
  refine z_iconst dX2_worth_11 ?_
  refine z_iload_n dX2_worth_12 rfl ?_
  refine z_iast dX2_worth_13 rfl (Nat.le_of_ble_eq_true rfl) (by omega) ⟨by omega, by omega⟩ ?_
  refine z_aload_n dX2_worth_14 rfl ?_
  refine z_getR dX2_worth_15 gX2_24 rfl (Nat.le_of_ble_eq_true rfl) rfl ?_
  refine z_iconst dX2_worth_18 ?_
  refine z_iload_n dX2_worth_19 rfl ?_
  refine z_iast dX2_worth_20 rfl (Nat.le_of_ble_eq_true rfl) (by omega) ⟨by omega, by omega⟩ ?_
  refine z_aload_n dX2_worth_21 rfl ?_
  refine z_getR dX2_worth_22 gX2_24 rfl (Nat.le_of_ble_eq_true rfl) rfl ?_
  refine z_iconst dX2_worth_25 ?_
  refine z_iload dX2_worth_26 rfl ?_
  refine z_iast dX2_worth_28 rfl (Nat.le_of_ble_eq_true rfl) (by omega) ⟨by omega, by omega⟩ ?_
  refine z_aload_n dX2_worth_29 rfl ?_
  refine z_getR dX2_worth_30 gX2_24 rfl (Nat.le_of_ble_eq_true rfl) rfl ?_
  refine z_iconst dX2_worth_33 ?_
  refine z_iload dX2_worth_34 rfl ?_
  refine z_iast dX2_worth_36 rfl (Nat.le_of_ble_eq_true rfl) (by omega) ⟨by omega, by omega⟩ ?_
  refine z_aload_n dX2_worth_37 rfl ?_
  refine z_getR dX2_worth_38 gX2_24 rfl (Nat.le_of_ble_eq_true rfl) rfl ?_
  refine z_iconst dX2_worth_41 ?_
  refine z_iload dX2_worth_42 rfl ?_
  refine z_iast dX2_worth_44 rfl (Nat.le_of_ble_eq_true rfl) (by omega) ⟨by omega, by omega⟩ ?_
  refine z_iconst dX2_worth_45 ?_
  refine z_istore (L' := [_, _, _, _, _, _, _, _, _, _, _]) dX2_worth_46 (Nat.le_of_ble_eq_true rfl) rfl rfl ?_
  refine z_iconst dX2_worth_48 ?_
  refine z_istore (L' := [_, _, _, _, _, _, _, _, _, _, _]) dX2_worth_49 (Nat.le_of_ble_eq_true rfl) rfl rfl ?_
  refine z_iconst dX2_worth_51 ?_
  refine z_istore (L' := [_, _, _, _, _, _, _, _, _, _, _]) dX2_worth_52 (Nat.le_of_ble_eq_true rfl) rfl rfl ?_
  generalize hτ : z_put (z_put (z_put (z_put (z_put (z_put σ 29 _ a1) 29 _ a2) 29 _ a3) 29 _ a4) 29 _ a5) 29 _ a6 = τ
  have e : ∀ a, a ≠ 29 → τ a = σ a := fun a ha => by rw [← hτ]; simp only [z_put_ne ha]
  have hv := hL (τ 29) (τ 28)
  rw [← e 27 (by decide), ← e 3 (by decide), show τ 29 0 = a1 by rw [← hτ]; rfl, show τ 29 1 = a2 by rw [← hτ]; rfl, show τ 29 2 = a3 by rw [← hτ]; rfl, show τ 29 3 = a4 by rw [← hτ]; rfl, show τ 29 4 = a5 by rw [← hτ]; rfl, show τ 29 5 = a6 by rw [← hτ]; rfl] at hv
  refine Z.mono (l_X2_worth (d := d) (σ := τ) τ 0 0 0 (by omega) (by omega) (by omega) (fun _ _ => rfl)) ?_
  rintro r σ' ⟨z, hr, hz, hz2, hz3⟩
  exact ⟨z, hr, by rw [hz]; exact hv, hz2, fun a ha hb => by rw [hz3 a ha, e a hb]⟩
set_option maxRecDepth 20000 in
theorem c_X6_passes {d : Nat} {σ : Sto} {LF : LFT} {w f p q : Int} (hW : WC LF σ) (hw : 0 ≤ w ∧ w < 12) (hf : -1 ≤ f ∧ f ≤ 9) (hp : inR p) (hq : inR q) : m_X6_passes d [zR 5, zI w, zI f, zI p, zI q] σ (qI fun z σ' => ((z = 1 ∧ pasC LF σ f w p q = true) ∨ (z = 0 ∧ pasC LF σ f w p q = false)) ∧ ∀ a, a ≠ 28 → a ≠ 29 → σ' a = σ a) := by
  have hW0 := hW
  obtain ⟨-, -, -, w0, w1, w2, -, -, -, -, wb, wl⟩ := hW
  have w0 := w0 w.toNat
  have w1 := w1 w.toNat
  have w2 := w2 w.toNat
  refine z_does (L := [some (zR 5), some (zI w), some (zI f), some (zI p), some (zI q), none, none]) rfl (by decide +kernel) (Nat.le_of_ble_eq_true rfl) rfl ?_
  refine z_iload_n dX6_passes_0 rfl ?_
  refine z_iconst dX6_passes_1 ?_
  refine z_icmp_ne (tgt := 7) dX6_passes_2 (by decide) ⟨by omega, by omega⟩ ⟨by omega, by omega⟩ (fun h2 => ?_) (fun h2 => ?_)
  · first
    | exfalso; omega
    | skip
      refine z_aload_n dX6_passes_7 rfl ?_
      refine z_getR dX6_passes_8 gX6_9 rfl (Nat.le_of_ble_eq_true rfl) rfl ?_
      refine z_iload_n dX6_passes_11 rfl ?_
      refine z_iconst dX6_passes_12 ?_
      refine z_callVI (d := d + 1) (av := [_, _]) dX6_passes_13 vX6_31 rfl (Nat.le_of_ble_eq_true rfl) rfl rfl rfl (Nat.le_of_ble_eq_true rfl) (Nat.le_refl _) (c_X7_get (by omega) (by omega)) (fun z13 σ13 h13 => ?_)
      obtain ⟨rfl, hs13⟩ := h13
      subst σ13
      refine z_istore (L' := [_, _, _, _, _, _, _]) dX6_passes_16 (Nat.le_of_ble_eq_true rfl) rfl rfl ?_
      refine z_aload_n dX6_passes_18 rfl ?_
      refine z_getR dX6_passes_19 gX6_9 rfl (Nat.le_of_ble_eq_true rfl) rfl ?_
      refine z_iload_n dX6_passes_22 rfl ?_
      refine z_iconst dX6_passes_23 ?_
      refine z_callVI (d := d + 1) (av := [_, _]) dX6_passes_24 vX6_31 rfl (Nat.le_of_ble_eq_true rfl) rfl rfl rfl (Nat.le_of_ble_eq_true rfl) (Nat.le_refl _) (c_X7_get (by omega) (by omega)) (fun z24 σ24 h24 => ?_)
      obtain ⟨rfl, hs24⟩ := h24
      subst σ24
      refine z_istore (L' := [_, _, _, _, _, _, _]) dX6_passes_27 (Nat.le_of_ble_eq_true rfl) rfl rfl ?_
      refine z_aload_n dX6_passes_29 rfl ?_
      refine z_getR dX6_passes_30 gX6_15 rfl (Nat.le_of_ble_eq_true rfl) rfl ?_
      refine z_callVI (d := d + 1) (av := []) dX6_passes_33 vX6_35 rfl (Nat.le_of_ble_eq_true rfl) rfl rfl rfl (Nat.le_of_ble_eq_true rfl) (Nat.le_refl _) (c_X2_isTold) (fun z33 σ33 h33 => ?_)
      obtain ⟨hs33, h33⟩ := h33
      subst σ33
      refine z_if_ne (tgt := 65) dX6_passes_36 (by decide) ⟨by omega, by omega⟩ (fun h36 => ?_) (fun h36 => ?_)
      · first
        | exfalso; omega
        | skip
          refine z_aload_n dX6_passes_65 rfl ?_
          refine z_getR dX6_passes_66 gX6_15 rfl (Nat.le_of_ble_eq_true rfl) rfl ?_
          refine z_iload dX6_passes_69 rfl ?_
          refine z_iload dX6_passes_71 rfl ?_
          refine z_aload_n dX6_passes_73 rfl ?_
          refine z_getR dX6_passes_74 gX6_9 rfl (Nat.le_of_ble_eq_true rfl) rfl ?_
          refine z_iload_n dX6_passes_77 rfl ?_
          refine z_iconst dX6_passes_78 ?_
          refine z_callVI (d := d + 1) (av := [_, _]) dX6_passes_79 vX6_31 rfl (Nat.le_of_ble_eq_true rfl) rfl rfl rfl (Nat.le_of_ble_eq_true rfl) (Nat.le_refl _) (c_X7_get (by omega) (by omega)) (fun z79 σ79 h79 => ?_)
          obtain ⟨rfl, hs79⟩ := h79
          subst σ79
          refine z_iload_n dX6_passes_82 rfl ?_
          refine z_iload_n dX6_passes_83 rfl ?_
          refine z_iload dX6_passes_84 rfl ?_
          refine z_callVI (d := d + 1) (av := [_, _, _, _, _, _]) dX6_passes_86 vX6_41 rfl (Nat.le_of_ble_eq_true rfl) rfl rfl rfl (Nat.le_of_ble_eq_true rfl) (Nat.le_refl _) (c_X2_worth (LF := LF) (wl (by omega)) ⟨by omega, by omega⟩ ⟨by omega, by omega⟩ ⟨by omega, by omega⟩ ⟨by omega, by omega⟩ (by omega) (by omega)) (fun z86 σ86 h86 => ?_)
          obtain ⟨rfl, h86r, h86⟩ := h86
          refine z_if_le (tgt := 96) dX6_passes_89 (by decide) ⟨by omega, by omega⟩ (fun h89 => ?_) (fun h89 => ?_)
          · first
            | exfalso; omega
            | skip
              refine z_iconst dX6_passes_96 ?_
              exact z_zret dX6_passes_97 (by omega) ⟨by simp only [pasP]; rw [if_neg (by omega), decide_eq_true (by omega : 0 < σ 3 7)]; simp only [↓reduceIte, decide_eq_true_eq, decide_eq_false_iff_not]; exact (by omega : _), h86⟩
          · first
            | exfalso; omega
            | skip
              refine z_iconst dX6_passes_92 ?_
              refine z_goto (tgt := 97) dX6_passes_93 (by decide) ?_
              exact z_zret dX6_passes_97 (by omega) ⟨by simp only [pasP]; rw [if_neg (by omega), decide_eq_true (by omega : 0 < σ 3 7)]; simp only [↓reduceIte, decide_eq_true_eq, decide_eq_false_iff_not]; exact (by omega : _), h86⟩
      · first
        | exfalso; omega
        | skip
          refine z_iload dX6_passes_39 rfl ?_
          refine z_iload dX6_passes_41 rfl ?_
          refine z_iadd dX6_passes_43 ?_
          refine z_aload_n dX6_passes_44 rfl ?_
          refine z_getR dX6_passes_45 gX6_9 rfl (Nat.le_of_ble_eq_true rfl) rfl ?_
          refine z_iconst dX6_passes_48 ?_
          refine z_bipush (v := 7) dX6_passes_49 (by decide +kernel) ?_
          refine z_callVI (d := d + 1) (av := [_, _]) dX6_passes_51 vX6_31 rfl (Nat.le_of_ble_eq_true rfl) rfl rfl rfl (Nat.le_of_ble_eq_true rfl) (Nat.le_refl _) (c_X7_get (by omega) (by omega)) (fun z51 σ51 h51 => ?_)
          obtain ⟨rfl, hs51⟩ := h51
          subst σ51
          refine z_iload_n dX6_passes_54 rfl ?_
          refine z_isub dX6_passes_55 ?_
          refine z_icmp_gt (tgt := 63) dX6_passes_56 (by decide) ⟨by omega, by omega⟩ ⟨by omega, by omega⟩ (fun h56 => ?_) (fun h56 => ?_)
          · first
            | exfalso; omega
            | skip
              refine z_iconst dX6_passes_63 ?_
              exact z_zret dX6_passes_64 (by omega) ⟨by simp only [pasP]; rw [if_neg (by omega), decide_eq_false (by omega : ¬ 0 < σ 3 7)]; simp only [Bool.false_eq_true, ↓reduceIte, decide_eq_true_eq, decide_eq_false_iff_not]; simp only [show (0 : Int).toNat = 0 from rfl, show 13 + (0 : Int).toNat = 13 from rfl, show 13 + (1 : Int).toNat = 14 from rfl, show 13 + (7 : Int).toNat = 20 from rfl] at h56; omega, fun _ _ _ => rfl⟩
          · first
            | exfalso; omega
            | skip
              refine z_iconst dX6_passes_59 ?_
              refine z_goto (tgt := 64) dX6_passes_60 (by decide) ?_
              exact z_zret dX6_passes_64 (by omega) ⟨by simp only [pasP]; rw [if_neg (by omega), decide_eq_false (by omega : ¬ 0 < σ 3 7)]; simp only [Bool.false_eq_true, ↓reduceIte, decide_eq_true_eq, decide_eq_false_iff_not]; simp only [show (0 : Int).toNat = 0 from rfl, show 13 + (0 : Int).toNat = 13 from rfl, show 13 + (1 : Int).toNat = 14 from rfl, show 13 + (7 : Int).toNat = 20 from rfl] at h56; omega, fun _ _ _ => rfl⟩
  · first
    | exfalso; omega
    | skip
      refine z_iconst dX6_passes_5 ?_
      exact z_zret dX6_passes_6 (by omega) ⟨Or.inl ⟨rfl, by simp only [pasP]; rw [if_pos (by omega)]⟩, fun _ _ _ => rfl⟩
