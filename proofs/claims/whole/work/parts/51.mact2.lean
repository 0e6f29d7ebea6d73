/-! ===== The reference's act is the class's; words ===== -/
theorem bf_ (f : Nat) {k a : Int} (v : Int) (h : bfN 8 a k = v) : bfN 8 a k = v := h
theorem run_0 (n x : Int) (f : Nat) (k : Int) : runF (f + 1) k n 0 0 x = (x + n, [1]) := runF_1 (by decide)
theorem run_h0 (n x : Int) (f : Nat) (k fr : Int) (h : bfN 8 2 fr = 11) : runF (f + 1) k n 2 fr x = phF n x := by rw [runF_11 h]; rfl
theorem pa_k (f : Nat) (n x : Int) : ∀ k : Int, 0 ≤ k ∧ k < 8 → runF (f + 3) k n 0 k x = paF k n x := by
  intro k hk
  rcases (show k = 0 ∨ k = 1 ∨ k = 2 ∨ k = 3 ∨ k = 4 ∨ k = 5 ∨ k = 6 ∨ k = 7 by omega) with rfl | rfl | rfl | rfl | rfl | rfl | rfl | rfl
  · rw [runF_1 (by decide)]; rfl
  · rw [runF_20 (by decide), run_0]; rfl
  · rw [runF_1 (by decide)]; rfl
  · rw [runF_1 (by decide)]; rfl
  · rw [runF_20 (by decide), run_0]; rfl
  · rw [runF_1 (by decide)]; rfl
  · rw [runF_70 (by decide), run_0]; rfl
  · rw [runF_81 (by decide), runF_70 (by decide), run_0]; rfl
theorem ps_k (f : Nat) (n x : Int) {k fr : Int} (hk : 0 ≤ k ∧ k < 8) (hf : bfN 8 1 fr = 10) : runF (f + 4) k n 1 fr x = psF k n x := by
  rw [runF_10 hf, pa_k f n x k hk]; rfl
theorem bs_k (f : Nat) (n x : Int) {k fr : Int} (hk : 0 ≤ k ∧ k < 8) (hf : bfN 8 1 fr = 30) : runF (f + 5) k n 1 fr x = bsF k n x := by
  rw [runF_30 hf, ps_k f n x hk (by decide)]; rfl
theorem ch_k (f : Nat) (n x k : Int) {fr : Int} (hf : bfN 8 2 fr = 40) : runF (f + 2) k n 2 fr x = chF n x := by
  rw [runF_40 hf, run_h0 _ _ _ _ _ (by decide)]; rfl
theorem hu_k (f : Nat) (n x : Int) : ∀ k : Int, 0 ≤ k ∧ k < 8 → runF (f + 4) k n 2 k x = huF k n x := by
  intro k hk
  rcases (show k = 0 ∨ k = 1 ∨ k = 2 ∨ k = 3 ∨ k = 4 ∨ k = 5 ∨ k = 6 ∨ k = 7 by omega) with rfl | rfl | rfl | rfl | rfl | rfl | rfl | rfl
  · rw [runF_11 (by decide)]; rfl
  · rw [runF_11 (by decide)]; rfl
  · rw [runF_11 (by decide)]; rfl
  · exact ch_k _ _ _ _ (by decide)
  · rw [runF_11 (by decide)]; rfl
  · rw [runF_60 (by decide), ch_k _ _ _ _ (by decide), pa_k _ _ _ _ (by decide)]; rfl
  · rw [runF_11 (by decide)]; rfl
  · rw [runF_11 (by decide)]; rfl
theorem st_k (f : Nat) (n x : Int) : ∀ k : Int, 0 ≤ k ∧ k < 8 → runF (f + 6) k n 1 k x = stF k n x := by
  intro k hk
  rcases (show k = 0 ∨ k = 1 ∨ k = 2 ∨ k = 3 ∨ k = 4 ∨ k = 5 ∨ k = 6 ∨ k = 7 by omega) with rfl | rfl | rfl | rfl | rfl | rfl | rfl | rfl
  · exact ps_k (f + 2) n x (by decide) (by decide)
  · exact ps_k (f + 2) n x (by decide) (by decide)
  · exact bs_k (f + 1) n x (by decide) (by decide)
  · rw [runF_41 (by decide), bs_k f n (x + 1) (by decide) (by decide)]; rfl
  · exact ps_k (f + 2) n x (by decide) (by decide)
  · rw [runF_41 (by decide), bs_k f n (x + 1) (by decide) (by decide)]; rfl
  · exact ps_k (f + 2) n x (by decide) (by decide)
  · rw [runF_80 (by decide), ps_k (f + 1) n x (by decide) (by decide), hu_k (f + 1) n 2 7 (by decide)]; rfl
theorem pt_k (f : Nat) (n x : Int) {k fr : Int} (hk : 0 ≤ k ∧ k < 8) (hf : bfN 8 3 fr = 2) : runF (f + 7) k n 3 fr x = ptF k n x := by
  rw [runF_2 hf, st_k f n x k hk, hu_k (f + 2) n 1 k hk]; rfl
theorem te_k (f : Nat) (n x : Int) : ∀ k : Int, 0 ≤ k ∧ k < 8 → runF (f + 8) k n 3 k x = teF k n x := by
  intro k hk
  rcases (show k = 0 ∨ k = 1 ∨ k = 2 ∨ k = 3 ∨ k = 4 ∨ k = 5 ∨ k = 6 ∨ k = 7 by omega) with rfl | rfl | rfl | rfl | rfl | rfl | rfl | rfl
  · exact pt_k (f + 1) n x (by decide) (by decide)
  · exact pt_k (f + 1) n x (by decide) (by decide)
  · exact pt_k (f + 1) n x (by decide) (by decide)
  · exact pt_k (f + 1) n x (by decide) (by decide)
  · rw [runF_50 (by decide), pt_k f n x (by decide) (by decide)]; rfl
  · rw [runF_61 (by decide), pt_k f n x (by decide) (by decide)]; rfl
  · exact pt_k (f + 1) n x (by decide) (by decide)
  · exact pt_k (f + 1) n x (by decide) (by decide)
theorem ac_k {k n a x : Int} (hk : 0 ≤ k ∧ k < 8) (ha : 0 ≤ a ∧ a < 4) : runF 40 k n a k x = acM k n a x := by
  rcases (show a = 0 ∨ a = 1 ∨ a = 2 ∨ a = 3 by omega) with rfl | rfl | rfl | rfl
  · exact pa_k 37 n x k hk
  · exact st_k 34 n x k hk
  · exact hu_k 36 n x k hk
  · exact te_k 32 n x k hk
def acU (σ : Sto) (b a x : Int) : Sto := if 0 ≤ b ∧ b < σ 9 54 ∧ 0 ≤ a ∧ a < 4 then pushM (z_put σ 9 56 0) (runF 40 (σ 115 b.toNat) b a (σ 115 b.toNat) x).2 else z_put σ 9 56 0
set_option maxRecDepth 20000 in
theorem c_X9_act {d : Nat} {σ : Sto} {b a x : Int} (hb : 0 ≤ σ 9 54 ∧ σ 9 54 ≤ 50) (hr : inR b) (ha : inR a) (hk : ∀ j, 0 ≤ σ 115 j ∧ σ 115 j < 8) : m_X9_act d [zR 9, zI b, zI a, zI x] σ (qI fun z σ' => z = acZ (σ 9 54) (σ 115) b a x ∧ σ' = acU σ b a x) := by
  have hkk := hk b.toNat
  have e54 : z_put σ 9 56 0 9 54 = σ 9 54 := rfl
  have hA : 0 ≤ b → b < 50 → aM (z_put σ 9 56 0) b (σ 115 b.toNat) 100 := fun h1 h2 => ⟨⟨h1, h2⟩, rfl, hkk, Int.le_refl 0, (by decide : (0 : Int) + (100 : Nat) ≤ 2000000000)⟩
  have hT : ∀ {v : Int × List Int}, (0 ≤ b ∧ b < σ 9 54 ∧ 0 ≤ a ∧ a < 4) → acM (σ 115 b.toNat) b a x = v → v.1 = acZ (σ 9 54) (σ 115) b a x ∧ pushM (z_put σ 9 56 0) v.2 = acU σ b a x := fun h q => by
    unfold acZ acU
    rw [if_pos h, if_pos h, ac_k hkk ⟨h.2.2.1, h.2.2.2⟩, q]
    exact ⟨rfl, rfl⟩
  refine z_does (L := [some (zR 9), some (zI b), some (zI a), some (zI x)]) rfl (by decide +kernel) (Nat.le_of_ble_eq_true rfl) rfl ?_
  refine z_aload_n dX9_act_0 rfl ?_
  refine z_iconst dX9_act_1 ?_
  refine z_putI dX9_act_2 pX9_410 rfl (Nat.le_of_ble_eq_true rfl) rfl ⟨by omega, by omega⟩ ?_
  refine z_aload_n dX9_act_5 rfl ?_
  refine z_iload_n dX9_act_6 rfl ?_
  refine z_callVI (d := d + 8) (av := [_]) dX9_act_7 vX9_449 rfl (Nat.le_of_ble_eq_true rfl) rfl rfl rfl (Nat.le_of_ble_eq_true rfl) (Nat.le_refl _) (c_X9_isBody (by omega) (by omega)) (fun z7 σ7 h7 => ?_)
  obtain ⟨hs7, h7⟩ := h7
  subst σ7
  refine z_if_eq (tgt := 22) dX9_act_10 (by decide) ⟨by omega, by omega⟩ (fun h10 => ?_) (fun h10 => ?_)
  · skip
    refine z_iconst dX9_act_22 ?_
    exact z_iret dX9_act_23 ⟨by unfold acZ; rw [if_neg (by omega)], by unfold acU; rw [if_neg (by omega)]⟩
  · skip
    refine z_iload_n dX9_act_13 rfl ?_
    refine z_iconst dX9_act_14 ?_
    refine z_iconst dX9_act_15 ?_
    refine z_callSI (d := d + 8) (av := [_, _, _]) dX9_act_16 sX9_143 rfl rfl (Nat.le_of_ble_eq_true rfl) (Nat.le_refl _) (c_X9_in (by omega) (by omega) (by omega)) (fun z16 σ16 h16 => ?_)
    obtain ⟨hs16, h16⟩ := h16
    subst σ16
    refine z_if_ne (tgt := 24) dX9_act_19 (by decide) ⟨by omega, by omega⟩ (fun h19 => ?_) (fun h19 => ?_)
    · skip
      refine z_iload_n dX9_act_24 rfl ?_
      refine z_if_ne (tgt := 37) dX9_act_25 (by decide) ⟨by omega, by omega⟩ (fun h25 => ?_) (fun h25 => ?_)
      · skip
        refine z_iload_n dX9_act_37 rfl ?_
        refine z_iconst dX9_act_38 ?_
        refine z_icmp_ne (tgt := 51) dX9_act_39 (by decide) ⟨by omega, by omega⟩ ⟨by omega, by omega⟩ (fun h39 => ?_) (fun h39 => ?_)
        · skip
          refine z_iload_n dX9_act_51 rfl ?_
          refine z_iconst dX9_act_52 ?_
          refine z_icmp_ne (tgt := 65) dX9_act_53 (by decide) ⟨by omega, by omega⟩ ⟨by omega, by omega⟩ (fun h53 => ?_) (fun h53 => ?_)
          · skip
            refine z_aload_n dX9_act_65 rfl ?_
            refine z_iload_n dX9_act_66 rfl ?_
            refine z_iload_n dX9_act_67 rfl ?_
            refine z_callVI (d := d + 8) (av := [_, _]) dX9_act_68 vX9_452 rfl (Nat.le_of_ble_eq_true rfl) rfl rfl rfl (Nat.le_of_ble_eq_true rfl) (Nat.le_refl _) (c_X9_telling (k := σ 115 b.toNat) ((hA (by omega) (by omega)).le (by decide))) (fun z68 σ68 h68 => ?_)
            obtain ⟨rfl, hs68⟩ := h68
            subst σ68
            exact z_iret dX9_act_71 (by
              first
              | exact hT ⟨by omega, by omega, by omega, by omega⟩ (by unfold acM; rw [if_pos (by omega)])
              | exact hT ⟨by omega, by omega, by omega, by omega⟩ (by unfold acM; rw [if_neg (by omega), if_pos (by omega)])
              | exact hT ⟨by omega, by omega, by omega, by omega⟩ (by unfold acM; rw [if_neg (by omega), if_neg (by omega), if_pos (by omega)])
              | exact hT ⟨by omega, by omega, by omega, by omega⟩ (by unfold acM; rw [if_neg (by omega), if_neg (by omega), if_neg (by omega)]))
          · skip
            refine z_aload_n dX9_act_56 rfl ?_
            refine z_iload_n dX9_act_57 rfl ?_
            refine z_iload_n dX9_act_58 rfl ?_
            refine z_callVI (d := d + 8) (av := [_, _]) dX9_act_59 vX9_434 rfl (Nat.le_of_ble_eq_true rfl) rfl rfl rfl (Nat.le_of_ble_eq_true rfl) (Nat.le_refl _) (c_X9_hurting (k := σ 115 b.toNat) ((hA (by omega) (by omega)).le (by decide))) (fun z59 σ59 h59 => ?_)
            obtain ⟨rfl, hs59⟩ := h59
            subst σ59
            refine z_goto (tgt := 71) dX9_act_62 (by decide) ?_
            exact z_iret dX9_act_71 (by
              first
              | exact hT ⟨by omega, by omega, by omega, by omega⟩ (by unfold acM; rw [if_pos (by omega)])
              | exact hT ⟨by omega, by omega, by omega, by omega⟩ (by unfold acM; rw [if_neg (by omega), if_pos (by omega)])
              | exact hT ⟨by omega, by omega, by omega, by omega⟩ (by unfold acM; rw [if_neg (by omega), if_neg (by omega), if_pos (by omega)])
              | exact hT ⟨by omega, by omega, by omega, by omega⟩ (by unfold acM; rw [if_neg (by omega), if_neg (by omega), if_neg (by omega)]))
        · skip
          refine z_aload_n dX9_act_42 rfl ?_
          refine z_iload_n dX9_act_43 rfl ?_
          refine z_iload_n dX9_act_44 rfl ?_
          refine z_callVI (d := d + 8) (av := [_, _]) dX9_act_45 vX9_443 rfl (Nat.le_of_ble_eq_true rfl) rfl rfl rfl (Nat.le_of_ble_eq_true rfl) (Nat.le_refl _) (c_X9_staying (k := σ 115 b.toNat) ((hA (by omega) (by omega)).le (by decide))) (fun z45 σ45 h45 => ?_)
          obtain ⟨rfl, hs45⟩ := h45
          subst σ45
          refine z_goto (tgt := 71) dX9_act_48 (by decide) ?_
          exact z_iret dX9_act_71 (by
            first
            | exact hT ⟨by omega, by omega, by omega, by omega⟩ (by unfold acM; rw [if_pos (by omega)])
            | exact hT ⟨by omega, by omega, by omega, by omega⟩ (by unfold acM; rw [if_neg (by omega), if_pos (by omega)])
            | exact hT ⟨by omega, by omega, by omega, by omega⟩ (by unfold acM; rw [if_neg (by omega), if_neg (by omega), if_pos (by omega)])
            | exact hT ⟨by omega, by omega, by omega, by omega⟩ (by unfold acM; rw [if_neg (by omega), if_neg (by omega), if_neg (by omega)]))
      · skip
        refine z_aload_n dX9_act_28 rfl ?_
        refine z_iload_n dX9_act_29 rfl ?_
        refine z_iload_n dX9_act_30 rfl ?_
        refine z_callVI (d := d + 8) (av := [_, _]) dX9_act_31 vX9_425 rfl (Nat.le_of_ble_eq_true rfl) rfl rfl rfl (Nat.le_of_ble_eq_true rfl) (Nat.le_refl _) (c_X9_passing (k := σ 115 b.toNat) ((hA (by omega) (by omega)).le (by decide))) (fun z31 σ31 h31 => ?_)
        obtain ⟨rfl, hs31⟩ := h31
        subst σ31
        refine z_goto (tgt := 71) dX9_act_34 (by decide) ?_
        exact z_iret dX9_act_71 (by
          first
          | exact hT ⟨by omega, by omega, by omega, by omega⟩ (by unfold acM; rw [if_pos (by omega)])
          | exact hT ⟨by omega, by omega, by omega, by omega⟩ (by unfold acM; rw [if_neg (by omega), if_pos (by omega)])
          | exact hT ⟨by omega, by omega, by omega, by omega⟩ (by unfold acM; rw [if_neg (by omega), if_neg (by omega), if_pos (by omega)])
          | exact hT ⟨by omega, by omega, by omega, by omega⟩ (by unfold acM; rw [if_neg (by omega), if_neg (by omega), if_neg (by omega)]))
    · skip
      refine z_iconst dX9_act_22 ?_
      exact z_iret dX9_act_23 ⟨by unfold acZ; rw [if_neg (by omega)], by unfold acU; rw [if_neg (by omega)]⟩
