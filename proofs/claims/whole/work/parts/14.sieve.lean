/-! ===== Sieve ===== -/
theorem c_X7_get0 {d : Nat} {σ : Sto} {n : Int} (hn : 0 ≤ n ∧ n < 12) : m_X7_get d [zR 1, zI n, zI 0] σ (qI fun z σ' => z = σ 13 n.toNat ∧ σ' = σ) := c_X7_get hn (by omega)
theorem c_X7_get1 {d : Nat} {σ : Sto} {n : Int} (hn : 0 ≤ n ∧ n < 12) : m_X7_get d [zR 1, zI n, zI 1] σ (qI fun z σ' => z = σ 14 n.toNat ∧ σ' = σ) := c_X7_get hn (by omega)
theorem c_X7_get2 {d : Nat} {σ : Sto} {n : Int} (hn : 0 ≤ n ∧ n < 12) : m_X7_get d [zR 1, zI n, zI 2] σ (qI fun z σ' => z = σ 15 n.toNat ∧ σ' = σ) := c_X7_get hn (by omega)
theorem c_X7_get3 {d : Nat} {σ : Sto} {n : Int} (hn : 0 ≤ n ∧ n < 12) : m_X7_get d [zR 1, zI n, zI 3] σ (qI fun z σ' => z = σ 16 n.toNat ∧ σ' = σ) := c_X7_get hn (by omega)
theorem c_X7_get4 {d : Nat} {σ : Sto} {n : Int} (hn : 0 ≤ n ∧ n < 12) : m_X7_get d [zR 1, zI n, zI 4] σ (qI fun z σ' => z = σ 17 n.toNat ∧ σ' = σ) := c_X7_get hn (by omega)
theorem c_X7_get5 {d : Nat} {σ : Sto} {n : Int} (hn : 0 ≤ n ∧ n < 12) : m_X7_get d [zR 1, zI n, zI 5] σ (qI fun z σ' => z = σ 18 n.toNat ∧ σ' = σ) := c_X7_get hn (by omega)
theorem c_X7_get6 {d : Nat} {σ : Sto} {n : Int} (hn : 0 ≤ n ∧ n < 12) : m_X7_get d [zR 1, zI n, zI 6] σ (qI fun z σ' => z = σ 19 n.toNat ∧ σ' = σ) := c_X7_get hn (by omega)
theorem c_X7_get7 {d : Nat} {σ : Sto} : m_X7_get d [zR 1, zI 0, zI 7] σ (qI fun z σ' => z = σ 20 0 ∧ σ' = σ) := c_X7_get (by omega) (by omega)
abbrev LFT : Type := Int → Int → Int → Int → Int → Int → Int
/-- what the class's words, meshes, people and law are -/
def WC (LF : LFT) (σ : Sto) : Prop := (0 ≤ σ 1 1 ∧ σ 1 1 ≤ 12) ∧ (0 ≤ σ 1 2 ∧ σ 1 2 ≤ 5) ∧ (0 ≤ σ 1 3 ∧ σ 1 3 ≤ 6) ∧ (∀ j, 0 ≤ σ 13 j ∧ σ 13 j ≤ 9) ∧ (∀ j, 0 ≤ σ 14 j ∧ σ 14 j ≤ 9) ∧ (∀ j, 0 ≤ σ 15 j ∧ σ 15 j ≤ 9) ∧ (∀ j, 0 ≤ σ 16 j ∧ σ 16 j ≤ 2) ∧ (∀ j, 0 ≤ σ 17 j ∧ σ 17 j ≤ 5) ∧ (∀ j, 0 ≤ σ 18 j ∧ σ 18 j ≤ 9) ∧ (∀ j, 0 ≤ σ 19 j ∧ σ 19 j ≤ 9) ∧ (0 ≤ σ 20 0 ∧ σ 20 0 ≤ 20) ∧
  (0 < σ 3 7 → ∀ N sk, evF 256 (σ 27) (σ 3 7) N sk 0 0 = LF (N 0) (N 1) (N 2) (N 3) (N 4) (N 5))
theorem WC.keep {LF : LFT} {σ τ : Sto} (h : WC LF σ) (h1 : τ 1 = σ 1) (h3 : τ 3 = σ 3) (h27 : τ 27 = σ 27) (hn : ∀ a, 13 ≤ a → a ≤ 20 → τ a = σ a) : WC LF τ := by
  unfold WC at h ⊢
  rw [h1, h3, h27, hn 13 (by decide) (by decide), hn 14 (by decide) (by decide), hn 15 (by decide) (by decide), hn 16 (by decide) (by decide), hn 17 (by decide) (by decide), hn 18 (by decide) (by decide), hn 19 (by decide) (by decide), hn 20 (by decide) (by decide)]
  exact h
abbrev pasC (LF : LFT) (σ : Sto) (f : Int) : Int → Int → Int → Bool := pasP LF (decide (0 < σ 3 7)) (σ 13) (σ 14) (σ 15) (σ 20 0) f
theorem pasC_n {LF : LFT} {σ : Sto} {f w p q : Int} (h : f = -1) : pasC LF σ f w p q = true := by simp [pasP, h]
theorem pasC_t {LF : LFT} {σ : Sto} {f w p q : Int} (h : f ≠ -1) (h2 : 0 < σ 3 7) : pasC LF σ f w p q = decide (0 < LF (σ 13 w.toNat) (σ 14 w.toNat) (σ 15 w.toNat) f p q) := by simp [pasP, h, h2]
theorem pasC_f {LF : LFT} {σ : Sto} {f w p q : Int} (h : f ≠ -1) (h2 : ¬ 0 < σ 3 7) : pasC LF σ f w p q = decide (σ 13 w.toNat + σ 14 w.toNat ≤ σ 20 0 - f) := by simp [pasP, h, h2]
set_option maxRecDepth 20000 in
theorem c_X2_isTold {d : Nat} {σ : Sto} : m_X2_isTold d [zR 3] σ (qI fun z σ' => σ' = σ ∧ yn z (0 < σ 3 7)) := by
  refine z_does (L := [some (zR 3)]) rfl (by decide +kernel) (Nat.le_of_ble_eq_true rfl) rfl ?_
  refine z_aload_n dX2_isTold_0 rfl ?_
  refine z_getI dX2_isTold_1 gX2_44 rfl (Nat.le_of_ble_eq_true rfl) rfl (fun hr1 => ?_)
  refine z_if_le (tgt := 11) dX2_isTold_4 (by decide) ⟨by omega, by omega⟩ (fun h4 => ?_) (fun h4 => ?_)
  · first
    | exfalso; omega
    | skip
      refine z_iconst dX2_isTold_11 ?_
      exact z_zret dX2_isTold_12 (by omega) ⟨rfl, by omega⟩
  · first
    | exfalso; omega
    | skip
      refine z_iconst dX2_isTold_7 ?_
      refine z_goto (tgt := 12) dX2_isTold_8 (by decide) ?_
      exact z_zret dX2_isTold_12 (by omega) ⟨rfl, by omega⟩
set_option maxRecDepth 20000 in
theorem c_X2_worth {d : Nat} {σ : Sto} {LF : LFT} {a1 a2 a3 a4 a5 a6 : Int} (hL : ∀ N sk, evF 256 (σ 27) (σ 3 7) N sk 0 0 = LF (N 0) (N 1) (N 2) (N 3) (N 4) (N 5)) (h1 : inR a1) (h2 : inR a2) (h3 : inR a3) (h4 : inR a4) (h5 : inR a5) (h6 : inR a6) : m_X2_worth d [zR 3, zI a1, zI a2, zI a3, zI a4, zI a5, zI a6] σ (qI fun z σ' => z = LF a1 a2 a3 a4 a5 a6 ∧ inR z ∧ ∀ a, a ≠ 28 → a ≠ 29 → σ' a = σ a) := by
  refine z_does (L := [some (zR 3), some (zI a1), some (zI a2), some (zI a3), some (zI a4), some (zI a5), some (zI a6), none, none, none, none]) rfl (by decide +kernel) (Nat.le_of_ble_eq_true rfl) rfl ?_
  refine z_aload_n dX2_worth_0 rfl ?_
  refine z_getR dX2_worth_1 gX2_24 rfl (Nat.le_of_ble_eq_true rfl) rfl ?_
  refine z_iconst dX2_worth_4 ?_
  refine z_iload_n dX2_worth_5 rfl ?_
  refine z_iast dX2_worth_6 rfl (Nat.le_of_ble_eq_true rfl) (by omega) ⟨by omega, by omega⟩ ?_
  refine z_aload_n dX2_worth_7 rfl ?_
  refine z_getR dX2_worth_8 gX2_24 rfl (Nat.le_of_ble_eq_true rfl) rfl ?_
  refine z_iconst dX2_worth_11 ?_
  refine z_iload_n dX2_worth_12 rfl ?_
  refine z_iast dX2_worth_13 rfl (Nat.le_of_ble_eq_true rfl) (by omega) ⟨by omega, by omega⟩ ?_
  refine z_aload_n dX2_worth_14 rfl ?_
  refine z_getR dX2_worth_15 gX2_24 rfl (Nat.le_of_ble_eq_true rfl) rfl ?_
  refine z_iconst dX2_worth_18 ?_
  refine z_iload_n dX2_worth_19 rfl ?_
  refine z_iast dX2_worth_20 rfl (Nat.le_of_ble_eq_true rfl) (by omega) ⟨by omega, by omega⟩ ?_
  refine z_aload_n dX2_worth_21 rfl ?_
  refine z_getR dX2_worth_22 gX2_24 rfl (Nat.le_of_ble_eq_true rfl) rfl ?_
  refine z_iconst dX2_worth_25 ?_
  refine z_iload dX2_worth_26 rfl ?_
  refine z_iast dX2_worth_28 rfl (Nat.le_of_ble_eq_true rfl) (by omega) ⟨by omega, by omega⟩ ?_
  refine z_aload_n dX2_worth_29 rfl ?_
  refine z_getR dX2_worth_30 gX2_24 rfl (Nat.le_of_ble_eq_true rfl) rfl ?_
  refine z_iconst dX2_worth_33 ?_
  refine z_iload dX2_worth_34 rfl ?_
  refine z_iast dX2_worth_36 rfl (Nat.le_of_ble_eq_true rfl) (by omega) ⟨by omega, by omega⟩ ?_
  refine z_aload_n dX2_worth_37 rfl ?_
  refine z_getR dX2_worth_38 gX2_24 rfl (Nat.le_of_ble_eq_true rfl) rfl ?_
  refine z_iconst dX2_worth_41 ?_
  refine z_iload dX2_worth_42 rfl ?_
  refine z_iast dX2_worth_44 rfl (Nat.le_of_ble_eq_true rfl) (by omega) ⟨by omega, by omega⟩ ?_
  refine z_iconst dX2_worth_45 ?_
  refine z_istore (L' := [_, _, _, _, _, _, _, _, _, _, _]) dX2_worth_46 (Nat.le_of_ble_eq_true rfl) rfl rfl ?_
  refine z_iconst dX2_worth_48 ?_
  refine z_istore (L' := [_, _, _, _, _, _, _, _, _, _, _]) dX2_worth_49 (Nat.le_of_ble_eq_true rfl) rfl rfl ?_
  refine z_iconst dX2_worth_51 ?_
  refine z_istore (L' := [_, _, _, _, _, _, _, _, _, _, _]) dX2_worth_52 (Nat.le_of_ble_eq_true rfl) rfl rfl ?_
  generalize hτ : z_put (z_put (z_put (z_put (z_put (z_put σ 29 _ a1) 29 _ a2) 29 _ a3) 29 _ a4) 29 _ a5) 29 _ a6 = τ
  have e : ∀ a, a ≠ 29 → τ a = σ a := fun a ha => by rw [← hτ]; simp only [z_put_ne ha]
  have hv := hL (τ 29) (τ 28)
  rw [← e 27 (by decide), ← e 3 (by decide), show τ 29 0 = a1 by rw [← hτ]; rfl, show τ 29 1 = a2 by rw [← hτ]; rfl, show τ 29 2 = a3 by rw [← hτ]; rfl, show τ 29 3 = a4 by rw [← hτ]; rfl, show τ 29 4 = a5 by rw [← hτ]; rfl, show τ 29 5 = a6 by rw [← hτ]; rfl] at hv
  refine Z.mono (l_X2_worth (d := d) (σ := τ) τ 0 0 0 (by omega) (by omega) (by omega) (fun _ _ => rfl)) ?_
  rintro r σ' ⟨z, hr, hz, hz2, hz3⟩
  exact ⟨z, hr, by rw [hz]; exact hv, hz2, fun a ha hb => by rw [hz3 a ha, e a hb]⟩
set_option maxRecDepth 20000 in
theorem c_X6_passes {d : Nat} {σ : Sto} {LF : LFT} {w f p q : Int} (hW : WC LF σ) (hw : 0 ≤ w ∧ w < 12) (hf : -1 ≤ f ∧ f ≤ 9) (hp : inR p) (hq : inR q) : m_X6_passes d [zR 5, zI w, zI f, zI p, zI q] σ (qI fun z σ' => ((z = 1 ∧ pasC LF σ f w p q = true) ∨ (z = 0 ∧ pasC LF σ f w p q = false)) ∧ ∀ a, a ≠ 28 → a ≠ 29 → σ' a = σ a) := by
  have hW0 := hW
  obtain ⟨-, -, -, w0, w1, w2, -, -, -, -, wb, wl⟩ := hW
  have w0 := w0 w.toNat
  have w1 := w1 w.toNat
  have w2 := w2 w.toNat
  refine z_does (L := [some (zR 5), some (zI w), some (zI f), some (zI p), some (zI q), none, none]) rfl (by decide +kernel) (Nat.le_of_ble_eq_true rfl) rfl ?_
  refine z_iload_n dX6_passes_0 rfl ?_
  refine z_iconst dX6_passes_1 ?_
  refine z_icmp_ne (tgt := 7) dX6_passes_2 (by decide) ⟨by omega, by omega⟩ ⟨by omega, by omega⟩ (fun h2 => ?_) (fun h2 => ?_)
  · first
    | exfalso; omega
    | skip
      refine z_aload_n dX6_passes_7 rfl ?_
      refine z_getR dX6_passes_8 gX6_9 rfl (Nat.le_of_ble_eq_true rfl) rfl ?_
      refine z_iload_n dX6_passes_11 rfl ?_
      refine z_iconst dX6_passes_12 ?_
      refine z_callVI (d := d + 1) (av := [_, _]) dX6_passes_13 vX6_31 rfl (Nat.le_of_ble_eq_true rfl) rfl rfl rfl (Nat.le_of_ble_eq_true rfl) (Nat.le_refl _) (c_X7_get0 (by omega)) (fun z13 σ13 h13 => ?_)
      obtain ⟨rfl, hs13⟩ := h13
      subst σ13
      refine z_istore (L' := [_, _, _, _, _, _, _]) dX6_passes_16 (Nat.le_of_ble_eq_true rfl) rfl rfl ?_
      refine z_aload_n dX6_passes_18 rfl ?_
      refine z_getR dX6_passes_19 gX6_9 rfl (Nat.le_of_ble_eq_true rfl) rfl ?_
      refine z_iload_n dX6_passes_22 rfl ?_
      refine z_iconst dX6_passes_23 ?_
      refine z_callVI (d := d + 1) (av := [_, _]) dX6_passes_24 vX6_31 rfl (Nat.le_of_ble_eq_true rfl) rfl rfl rfl (Nat.le_of_ble_eq_true rfl) (Nat.le_refl _) (c_X7_get1 (by omega)) (fun z24 σ24 h24 => ?_)
      obtain ⟨rfl, hs24⟩ := h24
      subst σ24
      refine z_istore (L' := [_, _, _, _, _, _, _]) dX6_passes_27 (Nat.le_of_ble_eq_true rfl) rfl rfl ?_
      refine z_aload_n dX6_passes_29 rfl ?_
      refine z_getR dX6_passes_30 gX6_15 rfl (Nat.le_of_ble_eq_true rfl) rfl ?_
      refine z_callVI (d := d + 1) (av := []) dX6_passes_33 vX6_35 rfl (Nat.le_of_ble_eq_true rfl) rfl rfl rfl (Nat.le_of_ble_eq_true rfl) (Nat.le_refl _) (c_X2_isTold) (fun z33 σ33 h33 => ?_)
      obtain ⟨hs33, h33⟩ := h33
      subst σ33
      refine z_if_ne (tgt := 65) dX6_passes_36 (by decide) ⟨by omega, by omega⟩ (fun h36 => ?_) (fun h36 => ?_)
      · first
        | exfalso; omega
        | skip
          refine z_aload_n dX6_passes_65 rfl ?_
          refine z_getR dX6_passes_66 gX6_15 rfl (Nat.le_of_ble_eq_true rfl) rfl ?_
          refine z_iload dX6_passes_69 rfl ?_
          refine z_iload dX6_passes_71 rfl ?_
          refine z_aload_n dX6_passes_73 rfl ?_
          refine z_getR dX6_passes_74 gX6_9 rfl (Nat.le_of_ble_eq_true rfl) rfl ?_
          refine z_iload_n dX6_passes_77 rfl ?_
          refine z_iconst dX6_passes_78 ?_
          refine z_callVI (d := d + 1) (av := [_, _]) dX6_passes_79 vX6_31 rfl (Nat.le_of_ble_eq_true rfl) rfl rfl rfl (Nat.le_of_ble_eq_true rfl) (Nat.le_refl _) (c_X7_get2 (by omega)) (fun z79 σ79 h79 => ?_)
          obtain ⟨rfl, hs79⟩ := h79
          subst σ79
          refine z_iload_n dX6_passes_82 rfl ?_
          refine z_iload_n dX6_passes_83 rfl ?_
          refine z_iload dX6_passes_84 rfl ?_
          refine z_callVI (d := d + 1) (av := [_, _, _, _, _, _]) dX6_passes_86 vX6_41 rfl (Nat.le_of_ble_eq_true rfl) rfl rfl rfl (Nat.le_of_ble_eq_true rfl) (Nat.le_refl _) (c_X2_worth (LF := LF) (wl (by omega)) ⟨by omega, by omega⟩ ⟨by omega, by omega⟩ ⟨by omega, by omega⟩ ⟨by omega, by omega⟩ (by omega) (by omega)) (fun z86 σ86 h86 => ?_)
          obtain ⟨rfl, h86r, h86⟩ := h86
          refine z_if_le (tgt := 96) dX6_passes_89 (by decide) ⟨by omega, by omega⟩ (fun h89 => ?_) (fun h89 => ?_)
          · first
            | exfalso; omega
            | skip
              refine z_iconst dX6_passes_96 ?_
              exact z_zret dX6_passes_97 (by omega) ⟨by rw [pasC_t (by omega) (by omega)]; first | exact Or.inl ⟨rfl, decide_eq_true (by omega)⟩ | exact Or.inr ⟨rfl, decide_eq_false (by omega)⟩, h86⟩
          · first
            | exfalso; omega
            | skip
              refine z_iconst dX6_passes_92 ?_
              refine z_goto (tgt := 97) dX6_passes_93 (by decide) ?_
              exact z_zret dX6_passes_97 (by omega) ⟨by rw [pasC_t (by omega) (by omega)]; first | exact Or.inl ⟨rfl, decide_eq_true (by omega)⟩ | exact Or.inr ⟨rfl, decide_eq_false (by omega)⟩, h86⟩
      · first
        | exfalso; omega
        | skip
          refine z_iload dX6_passes_39 rfl ?_
          refine z_iload dX6_passes_41 rfl ?_
          refine z_iadd dX6_passes_43 ?_
          refine z_aload_n dX6_passes_44 rfl ?_
          refine z_getR dX6_passes_45 gX6_9 rfl (Nat.le_of_ble_eq_true rfl) rfl ?_
          refine z_iconst dX6_passes_48 ?_
          refine z_bipush (v := 7) dX6_passes_49 (by decide +kernel) ?_
          refine z_callVI (d := d + 1) (av := [_, _]) dX6_passes_51 vX6_31 rfl (Nat.le_of_ble_eq_true rfl) rfl rfl rfl (Nat.le_of_ble_eq_true rfl) (Nat.le_refl _) (c_X7_get7) (fun z51 σ51 h51 => ?_)
          obtain ⟨rfl, hs51⟩ := h51
          subst σ51
          refine z_iload_n dX6_passes_54 rfl ?_
          refine z_isub dX6_passes_55 ?_
          refine z_icmp_gt (tgt := 63) dX6_passes_56 (by decide) ⟨by omega, by omega⟩ ⟨by omega, by omega⟩ (fun h56 => ?_) (fun h56 => ?_)
          · first
            | exfalso; omega
            | skip
              refine z_iconst dX6_passes_63 ?_
              exact z_zret dX6_passes_64 (by omega) ⟨by rw [pasC_f (by omega) (by omega)]; first | exact Or.inl ⟨rfl, decide_eq_true (by omega)⟩ | exact Or.inr ⟨rfl, decide_eq_false (by omega)⟩, fun _ _ _ => rfl⟩
          · first
            | exfalso; omega
            | skip
              refine z_iconst dX6_passes_59 ?_
              refine z_goto (tgt := 64) dX6_passes_60 (by decide) ?_
              exact z_zret dX6_passes_64 (by omega) ⟨by rw [pasC_f (by omega) (by omega)]; first | exact Or.inl ⟨rfl, decide_eq_true (by omega)⟩ | exact Or.inr ⟨rfl, decide_eq_false (by omega)⟩, fun _ _ _ => rfl⟩
  · first
    | exfalso; omega
    | skip
      refine z_iconst dX6_passes_5 ?_
      exact z_zret dX6_passes_6 (by omega) ⟨Or.inl ⟨rfl, pasC_n (by omega)⟩, fun _ _ _ => rfl⟩
/-- the cells that a mesh's work leaves as they are -/
theorem pas_cong {LF : LFT} {σ τ : Sto} {f : Int} (h3 : τ 3 = σ 3) (h13 : τ 13 = σ 13) (h14 : τ 14 = σ 14) (h15 : τ 15 = σ 15) (h20 : τ 20 = σ 20) : pasC LF τ f = pasC LF σ f := by
  unfold pasC
  rw [h3, h13, h14, h15, h20]
/-- what a straining leaves: cells 5, 28, 29, 40, 41 alone are written -/
def stK (σ τ : Sto) : Prop := ∀ a, a ≠ 5 → a ≠ 28 → a ≠ 29 → a ≠ 40 → a ≠ 41 → τ a = σ a
set_option maxRecDepth 20000 in
set_option maxHeartbeats 1000000 in
theorem l_X6_strain {d : Nat} {σ : Sto} {LF : LFT} {k len : Nat} {rr : Nat → Nat} {f l : Int} (hW : WC LF σ) (hk : z_lay k = .inr (0, len, rr)) (hkn : k < z_NC) (hk2 : k ≠ 40 ∧ k ≠ 41 ∧ k ≠ 5 ∧ k ≠ 28 ∧ k ≠ 29) (hlen : len ≤ 13) (hf : -1 ≤ f ∧ f ≤ 9) (hl : -100000000 ≤ l ∧ l ≤ 2147483000) (n : Int) (hn : n ≤ len) :
    ∀ (xs : List Int) (τ : Sto) (A B : List Int) (p : Int), 0 ≤ p → p + xs.length = n → wok xs → Seg σ k p.toNat xs → stK σ τ → τ 5 5 = A.length → τ 5 6 = B.length → ((A.length : Int) + B.length = p) → Seg τ 40 0 A → Seg τ 41 0 B →
    Z (z_me cX6_strain RX6 7 none (d + 3) (qV fun σ' => stK σ σ' ∧ σ' 5 5 = ((A ++ (cmL (pasC LF σ f) xs p (l + B.length)).1).length : Int) ∧ σ' 5 6 = ((B ++ (cmL (pasC LF σ f) xs p (l + B.length)).2).length : Int) ∧ Seg σ' 40 0 (A ++ (cmL (pasC LF σ f) xs p (l + B.length)).1) ∧ Seg σ' 41 0 (B ++ (cmL (pasC LF σ f) xs p (l + B.length)).2))) 13 [some (zR 5), some (zR k), some (zI n), some (zI f), some (zI l), some (zI p), none] [] τ
  | [], τ, A, B, p, hp, hpn, hx, hs, hK, hA, hB, hAB, sA, sB => by
    refine z_iload dX6_strain_13 rfl ?_
    refine z_iload_n dX6_strain_15 rfl ?_
    refine z_icmp_ge (tgt := 109) dX6_strain_16 (by decide) ⟨by omega, by omega⟩ ⟨by omega, by omega⟩ (fun h16 => ?_) (fun h16 => ?_)
    · skip
      exact z_vret dX6_strain_109 ⟨hK, by simpa [cmL] using hA, by simpa [cmL] using hB, by simpa [cmL] using sA, by simpa [cmL] using sB⟩
    · exfalso; simp only [List.length_nil] at hpn; omega
  | w :: r, τ, A, B, p, hp, hpn, hx, hs, hK, hA, hB, hAB, sA, sB => by
    rw [List.length_cons] at hpn
    obtain ⟨hw, hx⟩ := wok_c hx
    obtain ⟨hv, hs⟩ := hs
    have ek : τ k p.toNat = w := by rw [hK k hk2.2.2.1 hk2.2.2.2.1 hk2.2.2.2.2 hk2.1 hk2.2.1]; exact hv
    have hWt : WC LF τ := hW.keep (hK 1 (by decide) (by decide) (by decide) (by decide) (by decide)) (hK 3 (by decide) (by decide) (by decide) (by decide) (by decide)) (hK 27 (by decide) (by decide) (by decide) (by decide) (by decide)) (fun a h1 h2 => hK a (by omega) (by omega) (by omega) (by omega) (by omega))
    have ep : pasC LF τ f = pasC LF σ f := pas_cong (hK 3 (by decide) (by decide) (by decide) (by decide) (by decide)) (hK 13 (by decide) (by decide) (by decide) (by decide) (by decide)) (hK 14 (by decide) (by decide) (by decide) (by decide) (by decide)) (hK 15 (by decide) (by decide) (by decide) (by decide) (by decide)) (hK 20 (by decide) (by decide) (by decide) (by decide) (by decide))
    refine z_iload dX6_strain_13 rfl ?_
    refine z_iload_n dX6_strain_15 rfl ?_
    refine z_icmp_ge (tgt := 109) dX6_strain_16 (by decide) ⟨by omega, by omega⟩ ⟨by omega, by omega⟩ (fun h16 => ?_) (fun h16 => ?_)
    · exfalso; omega
    · skip
      refine z_iload dX6_strain_19 rfl ?_
      refine z_aload_n dX6_strain_21 rfl ?_
      refine z_alen dX6_strain_22 hk (Nat.le_of_ble_eq_true rfl) hkn ?_
      refine z_icmp_ge (tgt := 109) dX6_strain_23 (by decide) ⟨by omega, by omega⟩ ⟨by omega, by omega⟩ (fun h23 => ?_) (fun h23 => ?_)
      · exfalso; omega
      · skip
        refine z_iload dX6_strain_26 rfl ?_
        refine z_bipush (v := 13) dX6_strain_28 (by decide +kernel) ?_
        refine z_icmp_ge (tgt := 109) dX6_strain_30 (by decide) ⟨by omega, by omega⟩ ⟨by omega, by omega⟩ (fun h30 => ?_) (fun h30 => ?_)
        · exfalso; omega
        · skip
          refine z_aload_n dX6_strain_33 rfl ?_
          refine z_iload dX6_strain_34 rfl ?_
          refine z_iald dX6_strain_36 hk hkn (by omega) (fun hr36 => ?_)
          try simp only [g5, hA, hB, z_rd, Nat.reduceEqDiff, ↓reduceIte, eq_self] at hr36 ⊢
          rw [ek]
          refine z_istore (L' := [_, _, _, _, _, _, _]) dX6_strain_37 (Nat.le_of_ble_eq_true rfl) rfl rfl ?_
          refine z_aload_n dX6_strain_39 rfl ?_
          refine z_iload dX6_strain_40 rfl ?_
          refine z_iload_n dX6_strain_42 rfl ?_
          refine z_iload dX6_strain_43 rfl ?_
          refine z_iload dX6_strain_45 rfl ?_
          refine z_aload_n dX6_strain_47 rfl ?_
          refine z_getI dX6_strain_48 gX6_49 rfl (Nat.le_of_ble_eq_true rfl) rfl (fun hr48 => ?_)
          try simp only [g5, hA, hB, z_rd, Nat.reduceEqDiff, ↓reduceIte, eq_self] at hr48 ⊢
          rw [hB]
          refine z_iadd dX6_strain_51 ?_
          refine z_callVI (d := d + 2) (av := [_, _, _, _]) dX6_strain_52 vX6_52 rfl (Nat.le_of_ble_eq_true rfl) rfl rfl rfl (Nat.le_of_ble_eq_true rfl) (Nat.le_refl _) (c_X6_passes (LF := LF) hWt hw hf (by omega) (by omega)) (fun z52 σ52 h52 => ?_)
          obtain ⟨hps, hfr⟩ := h52
          rw [ep] at hps
          have g5 : σ52 5 = τ 5 := hfr 5 (by decide) (by decide)
          have g40 : σ52 40 = τ 40 := hfr 40 (by decide) (by decide)
          have g41 : σ52 41 = τ 41 := hfr 41 (by decide) (by decide)
          refine z_if_eq (tgt := 82) dX6_strain_55 (by decide) ⟨by omega, by omega⟩ (fun h55 => ?_) (fun h55 => ?_)
          · skip
            refine z_aload_n dX6_strain_82 rfl ?_
            refine z_getR dX6_strain_83 gX6_23 rfl (Nat.le_of_ble_eq_true rfl) rfl ?_
            refine z_aload_n dX6_strain_86 rfl ?_
            refine z_getI dX6_strain_87 gX6_49 rfl (Nat.le_of_ble_eq_true rfl) rfl (fun hr87 => ?_)
            try simp only [g5, hA, hB, z_rd, Nat.reduceEqDiff, ↓reduceIte, eq_self] at hr87 ⊢
            refine z_iload dX6_strain_90 rfl ?_
            refine z_iast dX6_strain_92 rfl (Nat.le_of_ble_eq_true rfl) (by omega) ⟨by omega, by omega⟩ ?_
            refine z_aload_n dX6_strain_93 rfl ?_
            refine z_dup dX6_strain_94 rfl ?_
            refine z_getI dX6_strain_95 gX6_49 rfl (Nat.le_of_ble_eq_true rfl) rfl (fun hr95 => ?_)
            try simp only [g5, hA, hB, z_rd, Nat.reduceEqDiff, ↓reduceIte, eq_self] at hr95 ⊢
            refine z_iconst dX6_strain_98 ?_
            refine z_iadd dX6_strain_99 ?_
            refine z_putI dX6_strain_100 pX6_49 rfl (Nat.le_of_ble_eq_true rfl) rfl ⟨by omega, by omega⟩ ?_
            refine z_iinc (L' := [_, _, _, _, _, _, _]) dX6_strain_103 (Nat.le_of_ble_eq_true rfl) rfl rfl rfl ?_
            refine z_goto (tgt := 13) dX6_strain_106 (by decide) ?_
            refine z_forget [true, true, true, true, true, true, false] (L' := [_, _, _, _, _, _, _]) rfl ?_
            rcases hps with ⟨hz, hps⟩ | ⟨hz, hps⟩
            · first
                | exfalso; omega
                | rw [cmL, if_pos hps]
                  refine Z.mono (l_X6_strain hW hk hkn hk2 hlen hf hl n hn r _ (A ++ [w]) B (p + 1) (by omega) (by omega) hx (by rw [toN_s hp]; exact hs) ?_ ?_ ?_ (by rw [List.length_append]; simp only [List.length_cons, List.length_nil]; omega) ?_ ?_) ?_
                  · intro a b1 b2 b3 b4 b5; rw [z_put_ne b1, z_put_ne b4, hfr a b2 b3]; exact hK a b1 b2 b3 b4 b5
                  · simp only [z_rd, ↓reduceIte, eq_self, List.length_append, List.length_cons, List.length_nil]; omega
                  · simp only [z_rd, Nat.reduceEqDiff, ↓reduceIte, eq_self, g5, hB]
                  · rw [show ((A.length : Int)).toNat = A.length by omega]; exact Seg.row (z_put_ne (by decide)) (Seg.put (Seg.row g40 sA))
                  · exact Seg.row (by rw [z_put_ne (by decide), z_put_ne (by decide)]; exact g41) sB
                  · rintro r2 σ' ⟨hr2, q1, q2, q3, q4, q5⟩
                    simp only [List.append_assoc, List.cons_append, List.nil_append] at q2 q4
                    exact ⟨hr2, q1, q2, q3, q4, q5⟩
            · first
                | exfalso; omega
                | rw [cmL, if_neg (by rw [hps]; exact Bool.false_ne_true)]
                  refine Z.mono (l_X6_strain hW hk hkn hk2 hlen hf hl n hn r _ A (B ++ [w]) (p + 1) (by omega) (by omega) hx (by rw [toN_s hp]; exact hs) ?_ ?_ ?_ (by rw [List.length_append]; simp only [List.length_cons, List.length_nil]; omega) ?_ ?_) ?_
                  · intro a b1 b2 b3 b4 b5; rw [z_put_ne b1, z_put_ne b5, hfr a b2 b3]; exact hK a b1 b2 b3 b4 b5
                  · simp only [z_rd, Nat.reduceEqDiff, ↓reduceIte, eq_self, g5, hA]
                  · simp only [z_rd, ↓reduceIte, eq_self, List.length_append, List.length_cons, List.length_nil]; omega
                  · exact Seg.row (by rw [z_put_ne (by decide), z_put_ne (by decide)]; exact g40) sA
                  · rw [show ((B.length : Int)).toNat = B.length by omega]; exact Seg.row (z_put_ne (by decide)) (Seg.put (Seg.row g41 sB))
                  · rintro r2 σ' ⟨hr2, q1, q2, q3, q4, q5⟩
                    rw [show l + ((B ++ [w]).length : Int) = l + (B.length : Int) + 1 by simp only [List.length_append, List.length_cons, List.length_nil]; omega] at q2 q3 q4 q5
                    simp only [List.append_assoc, List.cons_append, List.nil_append] at q3 q5
                    exact ⟨hr2, q1, q2, q3, q4, q5⟩
          · skip
            refine z_aload_n dX6_strain_58 rfl ?_
            refine z_getR dX6_strain_59 gX6_19 rfl (Nat.le_of_ble_eq_true rfl) rfl ?_
            refine z_aload_n dX6_strain_62 rfl ?_
            refine z_getI dX6_strain_63 gX6_45 rfl (Nat.le_of_ble_eq_true rfl) rfl (fun hr63 => ?_)
            try simp only [g5, hA, hB, z_rd, Nat.reduceEqDiff, ↓reduceIte, eq_self] at hr63 ⊢
            refine z_iload dX6_strain_66 rfl ?_
            refine z_iast dX6_strain_68 rfl (Nat.le_of_ble_eq_true rfl) (by omega) ⟨by omega, by omega⟩ ?_
            refine z_aload_n dX6_strain_69 rfl ?_
            refine z_dup dX6_strain_70 rfl ?_
            refine z_getI dX6_strain_71 gX6_45 rfl (Nat.le_of_ble_eq_true rfl) rfl (fun hr71 => ?_)
            try simp only [g5, hA, hB, z_rd, Nat.reduceEqDiff, ↓reduceIte, eq_self] at hr71 ⊢
            refine z_iconst dX6_strain_74 ?_
            refine z_iadd dX6_strain_75 ?_
            refine z_putI dX6_strain_76 pX6_45 rfl (Nat.le_of_ble_eq_true rfl) rfl ⟨by omega, by omega⟩ ?_
            refine z_goto (tgt := 103) dX6_strain_79 (by decide) ?_
            refine z_iinc (L' := [_, _, _, _, _, _, _]) dX6_strain_103 (Nat.le_of_ble_eq_true rfl) rfl rfl rfl ?_
            refine z_goto (tgt := 13) dX6_strain_106 (by decide) ?_
            refine z_forget [true, true, true, true, true, true, false] (L' := [_, _, _, _, _, _, _]) rfl ?_
            rcases hps with ⟨hz, hps⟩ | ⟨hz, hps⟩
            · first
                | exfalso; omega
                | rw [cmL, if_pos hps]
                  refine Z.mono (l_X6_strain hW hk hkn hk2 hlen hf hl n hn r _ (A ++ [w]) B (p + 1) (by omega) (by omega) hx (by rw [toN_s hp]; exact hs) ?_ ?_ ?_ (by rw [List.length_append]; simp only [List.length_cons, List.length_nil]; omega) ?_ ?_) ?_
                  · intro a b1 b2 b3 b4 b5; rw [z_put_ne b1, z_put_ne b4, hfr a b2 b3]; exact hK a b1 b2 b3 b4 b5
                  · simp only [z_rd, ↓reduceIte, eq_self, List.length_append, List.length_cons, List.length_nil]; omega
                  · simp only [z_rd, Nat.reduceEqDiff, ↓reduceIte, eq_self, g5, hB]
                  · rw [show ((A.length : Int)).toNat = A.length by omega]; exact Seg.row (z_put_ne (by decide)) (Seg.put (Seg.row g40 sA))
                  · exact Seg.row (by rw [z_put_ne (by decide), z_put_ne (by decide)]; exact g41) sB
                  · rintro r2 σ' ⟨hr2, q1, q2, q3, q4, q5⟩
                    simp only [List.append_assoc, List.cons_append, List.nil_append] at q2 q4
                    exact ⟨hr2, q1, q2, q3, q4, q5⟩
            · first
                | exfalso; omega
                | rw [cmL, if_neg (by rw [hps]; exact Bool.false_ne_true)]
                  refine Z.mono (l_X6_strain hW hk hkn hk2 hlen hf hl n hn r _ A (B ++ [w]) (p + 1) (by omega) (by omega) hx (by rw [toN_s hp]; exact hs) ?_ ?_ ?_ (by rw [List.length_append]; simp only [List.length_cons, List.length_nil]; omega) ?_ ?_) ?_
                  · intro a b1 b2 b3 b4 b5; rw [z_put_ne b1, z_put_ne b5, hfr a b2 b3]; exact hK a b1 b2 b3 b4 b5
                  · simp only [z_rd, Nat.reduceEqDiff, ↓reduceIte, eq_self, g5, hA]
                  · simp only [z_rd, ↓reduceIte, eq_self, List.length_append, List.length_cons, List.length_nil]; omega
                  · exact Seg.row (by rw [z_put_ne (by decide), z_put_ne (by decide)]; exact g40) sA
                  · rw [show ((B.length : Int)).toNat = B.length by omega]; exact Seg.row (z_put_ne (by decide)) (Seg.put (Seg.row g41 sB))
                  · rintro r2 σ' ⟨hr2, q1, q2, q3, q4, q5⟩
                    rw [show l + ((B ++ [w]).length : Int) = l + (B.length : Int) + 1 by simp only [List.length_append, List.length_cons, List.length_nil]; omega] at q2 q3 q4 q5
                    simp only [List.append_assoc, List.cons_append, List.nil_append] at q3 q5
                    exact ⟨hr2, q1, q2, q3, q4, q5⟩
set_option maxRecDepth 20000 in
/-- Sieve.strain: what comes lies in came, what is left in left -/
theorem c_X6_strain {d : Nat} {σ : Sto} {LF : LFT} {k len : Nat} {rr : Nat → Nat} {f l n : Int} {xs : List Int} (hW : WC LF σ) (hk : z_lay k = .inr (0, len, rr)) (hkn : k < z_NC) (hk2 : k ≠ 40 ∧ k ≠ 41 ∧ k ≠ 5 ∧ k ≠ 28 ∧ k ≠ 29) (hlen : len ≤ 13) (hf : -1 ≤ f ∧ f ≤ 9) (hl : -100000000 ≤ l ∧ l ≤ 2147483000) (hn : n = xs.length) (hx : wok xs) (hs : Seg σ k 0 xs) (hxl : xs.length ≤ len) :
    m_X6_strain d [zR 5, zR k, zI n, zI f, zI l] σ (qV fun σ' => stK σ σ' ∧ σ' 5 5 = ((cmL (pasC LF σ f) xs 0 l).1.length : Int) ∧ σ' 5 6 = ((cmL (pasC LF σ f) xs 0 l).2.length : Int) ∧ Seg σ' 40 0 (cmL (pasC LF σ f) xs 0 l).1 ∧ Seg σ' 41 0 (cmL (pasC LF σ f) xs 0 l).2) := by
  refine z_does (L := [some (zR 5), some (zR k), some (zI n), some (zI f), some (zI l), none, none]) rfl (by decide +kernel) (Nat.le_of_ble_eq_true rfl) rfl ?_
  refine z_aload_n dX6_strain_0 rfl ?_
  refine z_iconst dX6_strain_1 ?_
  refine z_putI dX6_strain_2 pX6_45 rfl (Nat.le_of_ble_eq_true rfl) rfl ⟨by omega, by omega⟩ ?_
  refine z_aload_n dX6_strain_5 rfl ?_
  refine z_iconst dX6_strain_6 ?_
  refine z_putI dX6_strain_7 pX6_49 rfl (Nat.le_of_ble_eq_true rfl) rfl ⟨by omega, by omega⟩ ?_
  refine z_iconst dX6_strain_10 ?_
  refine z_istore (L' := [_, _, _, _, _, _, _]) dX6_strain_11 (Nat.le_of_ble_eq_true rfl) rfl rfl ?_
  have h := l_X6_strain (d := d) (σ := σ) hW hk hkn hk2 hlen hf hl n (by omega) xs (z_put (z_put σ 5 5 0) 5 6 0) [] [] 0 (by omega) (by omega) hx hs (fun a b1 b2 b3 b4 b5 => by rw [z_put_ne b1, z_put_ne b1]) rfl rfl rfl trivial trivial
  simp only [List.nil_append, List.length_nil, Int.natCast_zero, Int.add_zero] at h
  exact h
