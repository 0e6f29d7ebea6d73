/-! ===== The reference's questions: maySay, findSay ===== -/
set_option maxRecDepth 20000 in
theorem c_X9_maySay {d : Nat} {σ : Sto} {LF : LFT} {w p c m : Int} {X : List Int} {N : Nat → Bool} (hW : WM LF σ) (hw : 0 ≤ w ∧ w < 12) (hp : 0 ≤ p ∧ p < 10) (hc : 0 ≤ c ∧ c ≤ X.length) (hX : r1M σ X) (hm : -1 ≤ m ∧ m < 5) (hN : ∀ b : Nat, b ≤ X.length → yn (σ 106 (13 * (p + 1).toNat + b)) (N b = true)) : m_X9_maySay d [zR 9, zI w, zI p, zI c, zI m] σ (qI fun z σ' => yn z (myP (pasM LF σ (finM σ m)) (σ 85) X p N c w = true) ∧ pMK σ σ') := by
  have x4 := hX.2.2.2
  have e43 : σ 9 43 = X.length := hX.1
  have w85 := hW.2.2.2.2.2.2.1 w.toNat
  refine z_does (L := [some (zR 9), some (zI w), some (zI p), some (zI c), some (zI m), none]) rfl (by decide +kernel) (Nat.le_of_ble_eq_true rfl) rfl ?_
  refine z_aload_n dX9_maySay_0 rfl ?_
  refine z_getR dX9_maySay_1 gX9_21 rfl (Nat.le_of_ble_eq_true rfl) rfl ?_
  refine z_iload_n dX9_maySay_4 rfl ?_
  refine z_iald dX9_maySay_5 rfl (Nat.le_of_ble_eq_true rfl) (by omega) (fun hr5 => ?_)
  refine z_iload_n dX9_maySay_6 rfl ?_
  refine z_iconst dX9_maySay_7 ?_
  refine z_icmp_ge (tgt := 15) dX9_maySay_8 (by decide) ⟨by omega, by omega⟩ ⟨by omega, by omega⟩ (fun h8 => ?_) (fun h8 => ?_)
  · skip
    refine z_iconst dX9_maySay_15 ?_
    refine z_icmp_eq (tgt := 21) dX9_maySay_16 (by decide) ⟨by omega, by omega⟩ ⟨by omega, by omega⟩ (fun h16 => ?_) (fun h16 => ?_)
    · skip
      refine z_aload_n dX9_maySay_21 rfl ?_
      refine z_iload_n dX9_maySay_22 rfl ?_
      refine z_iload dX9_maySay_23 rfl ?_
      refine z_iload_n dX9_maySay_25 rfl ?_
      refine z_iload_n dX9_maySay_26 rfl ?_
      refine z_iload_n dX9_maySay_27 rfl ?_
      refine z_isub dX9_maySay_28 ?_
      refine z_callVI (d := d + 4) (av := [_, _, _, _]) dX9_maySay_29 vX9_271 rfl (Nat.le_of_ble_eq_true rfl) rfl rfl rfl (Nat.le_of_ble_eq_true rfl) (Nat.le_refl _) (c_X9_passes (LF := LF) hW hw hm (by omega) (by omega)) (fun z29 σ29 h29 => ?_)
      obtain ⟨hps, hfr⟩ := h29
      have hr29 : inR z29 := by rcases hps with q | q; rw [q.1]; decide; rw [q.1]; decide
      have f43 : σ29 9 43 = X.length := by rw [hfr.2 43 (by decide)]; exact e43
      have f107 : σ29 107 = σ 107 := hfr.1 107 (by decide) (by decide)
      have f106 : σ29 106 = σ 106 := hfr.1 106 (by decide) (by decide)
      refine z_istore (L' := [_, _, _, _, _, _]) dX9_maySay_32 (Nat.le_of_ble_eq_true rfl) rfl rfl ?_
      refine z_iload dX9_maySay_34 rfl ?_
      refine z_if_eq (tgt := 59) dX9_maySay_36 (by decide) ⟨by omega, by omega⟩ (fun h36 => ?_) (fun h36 => ?_)
      · skip
        refine z_aload_n dX9_maySay_59 rfl ?_
        refine z_getR dX9_maySay_60 gX9_90 rfl (Nat.le_of_ble_eq_true rfl) rfl ?_
        refine z_bipush (v := 13) dX9_maySay_63 (by decide +kernel) ?_
        refine z_iload_n dX9_maySay_65 rfl ?_
        refine z_iconst dX9_maySay_66 ?_
        refine z_iadd dX9_maySay_67 ?_
        refine z_imul dX9_maySay_68 ?_
        refine z_iload dX9_maySay_69 rfl ?_
        refine z_if_eq (tgt := 80) dX9_maySay_71 (by decide) ⟨by omega, by omega⟩ (fun h71 => ?_) (fun h71 => ?_)
        · first
          | exfalso; omega
          | skip
            refine z_iload_n dX9_maySay_80 rfl ?_
            refine z_iadd dX9_maySay_81 ?_
            refine z_zald dX9_maySay_82 rfl (Nat.le_of_ble_eq_true rfl) (by omega) (fun hr82 => ?_)
            first
              | rw [show (13 * (p + 1) + (c + 1)).toNat = 13 * (p + 1).toNat + (c + 1).toNat by omega, f106]
              | rw [show (13 * (p + 1) + c).toNat = 13 * (p + 1).toNat + c.toNat by omega, f106]
            exact z_zret dX9_maySay_83 (by
              first
              | (rcases hN (c + 1).toNat (by omega) with q | q; exact Or.inr q.1; exact Or.inl q.1)
              | (rcases hN c.toNat (by omega) with q | q; exact Or.inr q.1; exact Or.inl q.1)) (by
              refine ⟨?_, hfr⟩
              first
              | (have e := hN (c + 1).toNat (by omega)
                 have hpt : pasM LF σ (finM σ m) w p (p - c) = true := by rcases hps with q | q; exact q.2; exact absurd q.1 (by omega)
                 have em : myP (pasM LF σ (finM σ m)) (σ 85) X p N c w = N (c + 1).toNat := by unfold myP; rw [if_pos hpt, decide_eq_true (show σ 85 w.toNat = min p 2 by omega), decide_eq_true (show c < X.length ∧ X.getD c.toNat 0 = w from ⟨by omega, by omega⟩), Bool.true_and, Bool.true_and]
                 rw [em]
                 exact e)
              | (have e := hN c.toNat (by omega)
                 have hpf : ¬ pasM LF σ (finM σ m) w p (p - c) = true := by rcases hps with q | q; exact absurd q.1 (by omega); rw [q.2]; exact Bool.false_ne_true
                 have em : myP (pasM LF σ (finM σ m)) (σ 85) X p N c w = N c.toNat := by unfold myP; rw [if_neg hpf, decide_eq_true (show σ 85 w.toNat = min p 2 by omega), Bool.true_and]
                 rw [em]
                 exact e))
        · first
          | exfalso; omega
          | skip
            refine z_iload_n dX9_maySay_74 rfl ?_
            refine z_iconst dX9_maySay_75 ?_
            refine z_iadd dX9_maySay_76 ?_
            refine z_goto (tgt := 81) dX9_maySay_77 (by decide) ?_
            refine z_iadd dX9_maySay_81 ?_
            refine z_zald dX9_maySay_82 rfl (Nat.le_of_ble_eq_true rfl) (by omega) (fun hr82 => ?_)
            first
              | rw [show (13 * (p + 1) + (c + 1)).toNat = 13 * (p + 1).toNat + (c + 1).toNat by omega, f106]
              | rw [show (13 * (p + 1) + c).toNat = 13 * (p + 1).toNat + c.toNat by omega, f106]
            exact z_zret dX9_maySay_83 (by
              first
              | (rcases hN (c + 1).toNat (by omega) with q | q; exact Or.inr q.1; exact Or.inl q.1)
              | (rcases hN c.toNat (by omega) with q | q; exact Or.inr q.1; exact Or.inl q.1)) (by
              refine ⟨?_, hfr⟩
              first
              | (have e := hN (c + 1).toNat (by omega)
                 have hpt : pasM LF σ (finM σ m) w p (p - c) = true := by rcases hps with q | q; exact q.2; exact absurd q.1 (by omega)
                 have em : myP (pasM LF σ (finM σ m)) (σ 85) X p N c w = N (c + 1).toNat := by unfold myP; rw [if_pos hpt, decide_eq_true (show σ 85 w.toNat = min p 2 by omega), decide_eq_true (show c < X.length ∧ X.getD c.toNat 0 = w from ⟨by omega, by omega⟩), Bool.true_and, Bool.true_and]
                 rw [em]
                 exact e)
              | (have e := hN c.toNat (by omega)
                 have hpf : ¬ pasM LF σ (finM σ m) w p (p - c) = true := by rcases hps with q | q; exact absurd q.1 (by omega); rw [q.2]; exact Bool.false_ne_true
                 have em : myP (pasM LF σ (finM σ m)) (σ 85) X p N c w = N c.toNat := by unfold myP; rw [if_neg hpf, decide_eq_true (show σ 85 w.toNat = min p 2 by omega), Bool.true_and]
                 rw [em]
                 exact e))
      · skip
        refine z_iload_n dX9_maySay_39 rfl ?_
        refine z_aload_n dX9_maySay_40 rfl ?_
        refine z_getI dX9_maySay_41 gX9_315 rfl (Nat.le_of_ble_eq_true rfl) rfl (fun hr41 => ?_)
        refine z_icmp_eq (tgt := 57) dX9_maySay_44 (by decide) ⟨by omega, by omega⟩ ⟨by omega, by omega⟩ (fun h44 => ?_) (fun h44 => ?_)
        · skip
          refine z_iconst dX9_maySay_57 ?_
          exact z_zret dX9_maySay_58 (by omega) (by
            have hpt : pasM LF σ (finM σ m) w p (p - c) = true := by rcases hps with q | q; exact q.2; exact absurd q.1 (by omega)
            refine ⟨Or.inr ⟨rfl, fun v => ?_⟩, hfr⟩
            unfold myP at v
            rw [Bool.and_eq_true, if_pos hpt, Bool.and_eq_true, decide_eq_true_eq, decide_eq_true_eq] at v
            have := v.2.1
            omega)
        · skip
          refine z_aload_n dX9_maySay_47 rfl ?_
          refine z_getR dX9_maySay_48 gX9_94 rfl (Nat.le_of_ble_eq_true rfl) rfl ?_
          refine z_iload_n dX9_maySay_51 rfl ?_
          refine z_iald dX9_maySay_52 rfl (Nat.le_of_ble_eq_true rfl) (by omega) (fun hr52 => ?_)
          have ex := Seg.getD hX.2.1 (show c.toNat < X.length by omega)
          rw [Nat.zero_add] at ex
          have rx := wok.getD hX.2.2.1 (show c.toNat < X.length by omega)
          rw [f107, ex]
          refine z_iload_n dX9_maySay_53 rfl ?_
          refine z_icmp_eq (tgt := 59) dX9_maySay_54 (by decide) ⟨by omega, by omega⟩ ⟨by omega, by omega⟩ (fun h54 => ?_) (fun h54 => ?_)
          · skip
            refine z_aload_n dX9_maySay_59 rfl ?_
            refine z_getR dX9_maySay_60 gX9_90 rfl (Nat.le_of_ble_eq_true rfl) rfl ?_
            refine z_bipush (v := 13) dX9_maySay_63 (by decide +kernel) ?_
            refine z_iload_n dX9_maySay_65 rfl ?_
            refine z_iconst dX9_maySay_66 ?_
            refine z_iadd dX9_maySay_67 ?_
            refine z_imul dX9_maySay_68 ?_
            refine z_iload dX9_maySay_69 rfl ?_
            refine z_if_eq (tgt := 80) dX9_maySay_71 (by decide) ⟨by omega, by omega⟩ (fun h71 => ?_) (fun h71 => ?_)
            · first
              | exfalso; omega
              | skip
                refine z_iload_n dX9_maySay_80 rfl ?_
                refine z_iadd dX9_maySay_81 ?_
                refine z_zald dX9_maySay_82 rfl (Nat.le_of_ble_eq_true rfl) (by omega) (fun hr82 => ?_)
                first
                  | rw [show (13 * (p + 1) + (c + 1)).toNat = 13 * (p + 1).toNat + (c + 1).toNat by omega, f106]
                  | rw [show (13 * (p + 1) + c).toNat = 13 * (p + 1).toNat + c.toNat by omega, f106]
                exact z_zret dX9_maySay_83 (by
                  first
                  | (rcases hN (c + 1).toNat (by omega) with q | q; exact Or.inr q.1; exact Or.inl q.1)
                  | (rcases hN c.toNat (by omega) with q | q; exact Or.inr q.1; exact Or.inl q.1)) (by
                  refine ⟨?_, hfr⟩
                  first
                  | (have e := hN (c + 1).toNat (by omega)
                     have hpt : pasM LF σ (finM σ m) w p (p - c) = true := by rcases hps with q | q; exact q.2; exact absurd q.1 (by omega)
                     have em : myP (pasM LF σ (finM σ m)) (σ 85) X p N c w = N (c + 1).toNat := by unfold myP; rw [if_pos hpt, decide_eq_true (show σ 85 w.toNat = min p 2 by omega), decide_eq_true (show c < X.length ∧ X.getD c.toNat 0 = w from ⟨by omega, by omega⟩), Bool.true_and, Bool.true_and]
                     rw [em]
                     exact e)
                  | (have e := hN c.toNat (by omega)
                     have hpf : ¬ pasM LF σ (finM σ m) w p (p - c) = true := by rcases hps with q | q; exact absurd q.1 (by omega); rw [q.2]; exact Bool.false_ne_true
                     have em : myP (pasM LF σ (finM σ m)) (σ 85) X p N c w = N c.toNat := by unfold myP; rw [if_neg hpf, decide_eq_true (show σ 85 w.toNat = min p 2 by omega), Bool.true_and]
                     rw [em]
                     exact e))
            · first
              | exfalso; omega
              | skip
                refine z_iload_n dX9_maySay_74 rfl ?_
                refine z_iconst dX9_maySay_75 ?_
                refine z_iadd dX9_maySay_76 ?_
                refine z_goto (tgt := 81) dX9_maySay_77 (by decide) ?_
                refine z_iadd dX9_maySay_81 ?_
                refine z_zald dX9_maySay_82 rfl (Nat.le_of_ble_eq_true rfl) (by omega) (fun hr82 => ?_)
                first
                  | rw [show (13 * (p + 1) + (c + 1)).toNat = 13 * (p + 1).toNat + (c + 1).toNat by omega, f106]
                  | rw [show (13 * (p + 1) + c).toNat = 13 * (p + 1).toNat + c.toNat by omega, f106]
                exact z_zret dX9_maySay_83 (by
                  first
                  | (rcases hN (c + 1).toNat (by omega) with q | q; exact Or.inr q.1; exact Or.inl q.1)
                  | (rcases hN c.toNat (by omega) with q | q; exact Or.inr q.1; exact Or.inl q.1)) (by
                  refine ⟨?_, hfr⟩
                  first
                  | (have e := hN (c + 1).toNat (by omega)
                     have hpt : pasM LF σ (finM σ m) w p (p - c) = true := by rcases hps with q | q; exact q.2; exact absurd q.1 (by omega)
                     have em : myP (pasM LF σ (finM σ m)) (σ 85) X p N c w = N (c + 1).toNat := by unfold myP; rw [if_pos hpt, decide_eq_true (show σ 85 w.toNat = min p 2 by omega), decide_eq_true (show c < X.length ∧ X.getD c.toNat 0 = w from ⟨by omega, by omega⟩), Bool.true_and, Bool.true_and]
                     rw [em]
                     exact e)
                  | (have e := hN c.toNat (by omega)
                     have hpf : ¬ pasM LF σ (finM σ m) w p (p - c) = true := by rcases hps with q | q; exact absurd q.1 (by omega); rw [q.2]; exact Bool.false_ne_true
                     have em : myP (pasM LF σ (finM σ m)) (σ 85) X p N c w = N c.toNat := by unfold myP; rw [if_neg hpf, decide_eq_true (show σ 85 w.toNat = min p 2 by omega), Bool.true_and]
                     rw [em]
                     exact e))
          · skip
            refine z_iconst dX9_maySay_57 ?_
            exact z_zret dX9_maySay_58 (by omega) (by
              have hpt : pasM LF σ (finM σ m) w p (p - c) = true := by rcases hps with q | q; exact q.2; exact absurd q.1 (by omega)
              refine ⟨Or.inr ⟨rfl, fun v => ?_⟩, hfr⟩
              unfold myP at v
              rw [Bool.and_eq_true, if_pos hpt, Bool.and_eq_true, decide_eq_true_eq, decide_eq_true_eq] at v
              have := v.2.1
              omega)
    · skip
      refine z_iconst dX9_maySay_19 ?_
      exact z_zret dX9_maySay_20 (by omega) ⟨Or.inr ⟨rfl, fun v => by unfold myP at v; rw [Bool.and_eq_true, decide_eq_true_eq] at v; have := v.1; omega⟩, frM.rf _ _ σ⟩
  · skip
    refine z_iload_n dX9_maySay_11 rfl ?_
    refine z_goto (tgt := 16) dX9_maySay_12 (by decide) ?_
    refine z_icmp_eq (tgt := 21) dX9_maySay_16 (by decide) ⟨by omega, by omega⟩ ⟨by omega, by omega⟩ (fun h16 => ?_) (fun h16 => ?_)
    · skip
      refine z_aload_n dX9_maySay_21 rfl ?_
      refine z_iload_n dX9_maySay_22 rfl ?_
      refine z_iload dX9_maySay_23 rfl ?_
      refine z_iload_n dX9_maySay_25 rfl ?_
      refine z_iload_n dX9_maySay_26 rfl ?_
      refine z_iload_n dX9_maySay_27 rfl ?_
      refine z_isub dX9_maySay_28 ?_
      refine z_callVI (d := d + 4) (av := [_, _, _, _]) dX9_maySay_29 vX9_271 rfl (Nat.le_of_ble_eq_true rfl) rfl rfl rfl (Nat.le_of_ble_eq_true rfl) (Nat.le_refl _) (c_X9_passes (LF := LF) hW hw hm (by omega) (by omega)) (fun z29 σ29 h29 => ?_)
      obtain ⟨hps, hfr⟩ := h29
      have hr29 : inR z29 := by rcases hps with q | q; rw [q.1]; decide; rw [q.1]; decide
      have f43 : σ29 9 43 = X.length := by rw [hfr.2 43 (by decide)]; exact e43
      have f107 : σ29 107 = σ 107 := hfr.1 107 (by decide) (by decide)
      have f106 : σ29 106 = σ 106 := hfr.1 106 (by decide) (by decide)
      refine z_istore (L' := [_, _, _, _, _, _]) dX9_maySay_32 (Nat.le_of_ble_eq_true rfl) rfl rfl ?_
      refine z_iload dX9_maySay_34 rfl ?_
      refine z_if_eq (tgt := 59) dX9_maySay_36 (by decide) ⟨by omega, by omega⟩ (fun h36 => ?_) (fun h36 => ?_)
      · skip
        refine z_aload_n dX9_maySay_59 rfl ?_
        refine z_getR dX9_maySay_60 gX9_90 rfl (Nat.le_of_ble_eq_true rfl) rfl ?_
        refine z_bipush (v := 13) dX9_maySay_63 (by decide +kernel) ?_
        refine z_iload_n dX9_maySay_65 rfl ?_
        refine z_iconst dX9_maySay_66 ?_
        refine z_iadd dX9_maySay_67 ?_
        refine z_imul dX9_maySay_68 ?_
        refine z_iload dX9_maySay_69 rfl ?_
        refine z_if_eq (tgt := 80) dX9_maySay_71 (by decide) ⟨by omega, by omega⟩ (fun h71 => ?_) (fun h71 => ?_)
        · first
          | exfalso; omega
          | skip
            refine z_iload_n dX9_maySay_80 rfl ?_
            refine z_iadd dX9_maySay_81 ?_
            refine z_zald dX9_maySay_82 rfl (Nat.le_of_ble_eq_true rfl) (by omega) (fun hr82 => ?_)
            first
              | rw [show (13 * (p + 1) + (c + 1)).toNat = 13 * (p + 1).toNat + (c + 1).toNat by omega, f106]
              | rw [show (13 * (p + 1) + c).toNat = 13 * (p + 1).toNat + c.toNat by omega, f106]
            exact z_zret dX9_maySay_83 (by
              first
              | (rcases hN (c + 1).toNat (by omega) with q | q; exact Or.inr q.1; exact Or.inl q.1)
              | (rcases hN c.toNat (by omega) with q | q; exact Or.inr q.1; exact Or.inl q.1)) (by
              refine ⟨?_, hfr⟩
              first
              | (have e := hN (c + 1).toNat (by omega)
                 have hpt : pasM LF σ (finM σ m) w p (p - c) = true := by rcases hps with q | q; exact q.2; exact absurd q.1 (by omega)
                 have em : myP (pasM LF σ (finM σ m)) (σ 85) X p N c w = N (c + 1).toNat := by unfold myP; rw [if_pos hpt, decide_eq_true (show σ 85 w.toNat = min p 2 by omega), decide_eq_true (show c < X.length ∧ X.getD c.toNat 0 = w from ⟨by omega, by omega⟩), Bool.true_and, Bool.true_and]
                 rw [em]
                 exact e)
              | (have e := hN c.toNat (by omega)
                 have hpf : ¬ pasM LF σ (finM σ m) w p (p - c) = true := by rcases hps with q | q; exact absurd q.1 (by omega); rw [q.2]; exact Bool.false_ne_true
                 have em : myP (pasM LF σ (finM σ m)) (σ 85) X p N c w = N c.toNat := by unfold myP; rw [if_neg hpf, decide_eq_true (show σ 85 w.toNat = min p 2 by omega), Bool.true_and]
                 rw [em]
                 exact e))
        · first
          | exfalso; omega
          | skip
            refine z_iload_n dX9_maySay_74 rfl ?_
            refine z_iconst dX9_maySay_75 ?_
            refine z_iadd dX9_maySay_76 ?_
            refine z_goto (tgt := 81) dX9_maySay_77 (by decide) ?_
            refine z_iadd dX9_maySay_81 ?_
            refine z_zald dX9_maySay_82 rfl (Nat.le_of_ble_eq_true rfl) (by omega) (fun hr82 => ?_)
            first
              | rw [show (13 * (p + 1) + (c + 1)).toNat = 13 * (p + 1).toNat + (c + 1).toNat by omega, f106]
              | rw [show (13 * (p + 1) + c).toNat = 13 * (p + 1).toNat + c.toNat by omega, f106]
            exact z_zret dX9_maySay_83 (by
              first
              | (rcases hN (c + 1).toNat (by omega) with q | q; exact Or.inr q.1; exact Or.inl q.1)
              | (rcases hN c.toNat (by omega) with q | q; exact Or.inr q.1; exact Or.inl q.1)) (by
              refine ⟨?_, hfr⟩
              first
              | (have e := hN (c + 1).toNat (by omega)
                 have hpt : pasM LF σ (finM σ m) w p (p - c) = true := by rcases hps with q | q; exact q.2; exact absurd q.1 (by omega)
                 have em : myP (pasM LF σ (finM σ m)) (σ 85) X p N c w = N (c + 1).toNat := by unfold myP; rw [if_pos hpt, decide_eq_true (show σ 85 w.toNat = min p 2 by omega), decide_eq_true (show c < X.length ∧ X.getD c.toNat 0 = w from ⟨by omega, by omega⟩), Bool.true_and, Bool.true_and]
                 rw [em]
                 exact e)
              | (have e := hN c.toNat (by omega)
                 have hpf : ¬ pasM LF σ (finM σ m) w p (p - c) = true := by rcases hps with q | q; exact absurd q.1 (by omega); rw [q.2]; exact Bool.false_ne_true
                 have em : myP (pasM LF σ (finM σ m)) (σ 85) X p N c w = N c.toNat := by unfold myP; rw [if_neg hpf, decide_eq_true (show σ 85 w.toNat = min p 2 by omega), Bool.true_and]
                 rw [em]
                 exact e))
      · skip
        refine z_iload_n dX9_maySay_39 rfl ?_
        refine z_aload_n dX9_maySay_40 rfl ?_
        refine z_getI dX9_maySay_41 gX9_315 rfl (Nat.le_of_ble_eq_true rfl) rfl (fun hr41 => ?_)
        refine z_icmp_eq (tgt := 57) dX9_maySay_44 (by decide) ⟨by omega, by omega⟩ ⟨by omega, by omega⟩ (fun h44 => ?_) (fun h44 => ?_)
        · skip
          refine z_iconst dX9_maySay_57 ?_
          exact z_zret dX9_maySay_58 (by omega) (by
            have hpt : pasM LF σ (finM σ m) w p (p - c) = true := by rcases hps with q | q; exact q.2; exact absurd q.1 (by omega)
            refine ⟨Or.inr ⟨rfl, fun v => ?_⟩, hfr⟩
            unfold myP at v
            rw [Bool.and_eq_true, if_pos hpt, Bool.and_eq_true, decide_eq_true_eq, decide_eq_true_eq] at v
            have := v.2.1
            omega)
        · skip
          refine z_aload_n dX9_maySay_47 rfl ?_
          refine z_getR dX9_maySay_48 gX9_94 rfl (Nat.le_of_ble_eq_true rfl) rfl ?_
          refine z_iload_n dX9_maySay_51 rfl ?_
          refine z_iald dX9_maySay_52 rfl (Nat.le_of_ble_eq_true rfl) (by omega) (fun hr52 => ?_)
          have ex := Seg.getD hX.2.1 (show c.toNat < X.length by omega)
          rw [Nat.zero_add] at ex
          have rx := wok.getD hX.2.2.1 (show c.toNat < X.length by omega)
          rw [f107, ex]
          refine z_iload_n dX9_maySay_53 rfl ?_
          refine z_icmp_eq (tgt := 59) dX9_maySay_54 (by decide) ⟨by omega, by omega⟩ ⟨by omega, by omega⟩ (fun h54 => ?_) (fun h54 => ?_)
          · skip
            refine z_aload_n dX9_maySay_59 rfl ?_
            refine z_getR dX9_maySay_60 gX9_90 rfl (Nat.le_of_ble_eq_true rfl) rfl ?_
            refine z_bipush (v := 13) dX9_maySay_63 (by decide +kernel) ?_
            refine z_iload_n dX9_maySay_65 rfl ?_
            refine z_iconst dX9_maySay_66 ?_
            refine z_iadd dX9_maySay_67 ?_
            refine z_imul dX9_maySay_68 ?_
            refine z_iload dX9_maySay_69 rfl ?_
            refine z_if_eq (tgt := 80) dX9_maySay_71 (by decide) ⟨by omega, by omega⟩ (fun h71 => ?_) (fun h71 => ?_)
            · first
              | exfalso; omega
              | skip
                refine z_iload_n dX9_maySay_80 rfl ?_
                refine z_iadd dX9_maySay_81 ?_
                refine z_zald dX9_maySay_82 rfl (Nat.le_of_ble_eq_true rfl) (by omega) (fun hr82 => ?_)
                first
                  | rw [show (13 * (p + 1) + (c + 1)).toNat = 13 * (p + 1).toNat + (c + 1).toNat by omega, f106]
                  | rw [show (13 * (p + 1) + c).toNat = 13 * (p + 1).toNat + c.toNat by omega, f106]
                exact z_zret dX9_maySay_83 (by
                  first
                  | (rcases hN (c + 1).toNat (by omega) with q | q; exact Or.inr q.1; exact Or.inl q.1)
                  | (rcases hN c.toNat (by omega) with q | q; exact Or.inr q.1; exact Or.inl q.1)) (by
                  refine ⟨?_, hfr⟩
                  first
                  | (have e := hN (c + 1).toNat (by omega)
                     have hpt : pasM LF σ (finM σ m) w p (p - c) = true := by rcases hps with q | q; exact q.2; exact absurd q.1 (by omega)
                     have em : myP (pasM LF σ (finM σ m)) (σ 85) X p N c w = N (c + 1).toNat := by unfold myP; rw [if_pos hpt, decide_eq_true (show σ 85 w.toNat = min p 2 by omega), decide_eq_true (show c < X.length ∧ X.getD c.toNat 0 = w from ⟨by omega, by omega⟩), Bool.true_and, Bool.true_and]
                     rw [em]
                     exact e)
                  | (have e := hN c.toNat (by omega)
                     have hpf : ¬ pasM LF σ (finM σ m) w p (p - c) = true := by rcases hps with q | q; exact absurd q.1 (by omega); rw [q.2]; exact Bool.false_ne_true
                     have em : myP (pasM LF σ (finM σ m)) (σ 85) X p N c w = N c.toNat := by unfold myP; rw [if_neg hpf, decide_eq_true (show σ 85 w.toNat = min p 2 by omega), Bool.true_and]
                     rw [em]
                     exact e))
            · first
              | exfalso; omega
              | skip
                refine z_iload_n dX9_maySay_74 rfl ?_
                refine z_iconst dX9_maySay_75 ?_
                refine z_iadd dX9_maySay_76 ?_
                refine z_goto (tgt := 81) dX9_maySay_77 (by decide) ?_
                refine z_iadd dX9_maySay_81 ?_
                refine z_zald dX9_maySay_82 rfl (Nat.le_of_ble_eq_true rfl) (by omega) (fun hr82 => ?_)
                first
                  | rw [show (13 * (p + 1) + (c + 1)).toNat = 13 * (p + 1).toNat + (c + 1).toNat by omega, f106]
                  | rw [show (13 * (p + 1) + c).toNat = 13 * (p + 1).toNat + c.toNat by omega, f106]
                exact z_zret dX9_maySay_83 (by
                  first
                  | (rcases hN (c + 1).toNat (by omega) with q | q; exact Or.inr q.1; exact Or.inl q.1)
                  | (rcases hN c.toNat (by omega) with q | q; exact Or.inr q.1; exact Or.inl q.1)) (by
                  refine ⟨?_, hfr⟩
                  first
                  | (have e := hN (c + 1).toNat (by omega)
                     have hpt : pasM LF σ (finM σ m) w p (p - c) = true := by rcases hps with q | q; exact q.2; exact absurd q.1 (by omega)
                     have em : myP (pasM LF σ (finM σ m)) (σ 85) X p N c w = N (c + 1).toNat := by unfold myP; rw [if_pos hpt, decide_eq_true (show σ 85 w.toNat = min p 2 by omega), decide_eq_true (show c < X.length ∧ X.getD c.toNat 0 = w from ⟨by omega, by omega⟩), Bool.true_and, Bool.true_and]
                     rw [em]
                     exact e)
                  | (have e := hN c.toNat (by omega)
                     have hpf : ¬ pasM LF σ (finM σ m) w p (p - c) = true := by rcases hps with q | q; exact absurd q.1 (by omega); rw [q.2]; exact Bool.false_ne_true
                     have em : myP (pasM LF σ (finM σ m)) (σ 85) X p N c w = N c.toNat := by unfold myP; rw [if_neg hpf, decide_eq_true (show σ 85 w.toNat = min p 2 by omega), Bool.true_and]
                     rw [em]
                     exact e))
          · skip
            refine z_iconst dX9_maySay_57 ?_
            exact z_zret dX9_maySay_58 (by omega) (by
              have hpt : pasM LF σ (finM σ m) w p (p - c) = true := by rcases hps with q | q; exact q.2; exact absurd q.1 (by omega)
              refine ⟨Or.inr ⟨rfl, fun v => ?_⟩, hfr⟩
              unfold myP at v
              rw [Bool.and_eq_true, if_pos hpt, Bool.and_eq_true, decide_eq_true_eq, decide_eq_true_eq] at v
              have := v.2.1
              omega)
    · skip
      refine z_iconst dX9_maySay_19 ?_
      exact z_zret dX9_maySay_20 (by omega) ⟨Or.inr ⟨rfl, fun v => by unfold myP at v; rw [Bool.and_eq_true, decide_eq_true_eq] at v; have := v.1; omega⟩, frM.rf _ _ σ⟩
abbrev fyK : Sto → Sto → Prop := frM [101, 102, 106] [41]
def cbI (τ : Sto) (A : Nat → Nat → Bool) (X : List Int) (n : Nat) (p c : Int) : Prop := ∀ a b : Nat, a ≤ n → b ≤ X.length → (p < a ∨ (p = a ∧ b < c)) → yn (τ 106 (13 * a + b)) (A a b = true)
set_option maxRecDepth 20000 in
theorem l1_X9_findSay {d : Nat} {υ : Sto} {m : Int} {n : Nat} {X : List Int} {A : Nat → Nat → Bool} {Q : Option Value → Sto → Prop} (hn : 2 ≤ n ∧ n ≤ 10) (hX : r1M υ X) (hA : ∀ b, A n b = decide (b = X.length))
    (hk : ∀ τ c, fyK υ τ → cbI τ A X n ((n : Int) - 1) 0 → Z (z_me cX9_findSay RX9 7 (some .boolean) (d + 6) Q) 45 [some (zR 9), some (zI n), some (zI m), some (zI c), none, none, none] [] τ) :
    ∀ (k : Nat) (τ : Sto) (c : Int), 0 ≤ c → c + k = X.length + 1 → fyK υ τ → cbI τ A X n n c →
    Z (z_me cX9_findSay RX9 7 (some .boolean) (d + 6) Q) 7 [some (zR 9), some (zI n), some (zI m), some (zI c), none, none, none] [] τ
  | 0, τ, c, h0, hc, hK, hI => by
    have x4 := hX.2.2.2
    have e43 : τ 9 43 = X.length := by rw [hK.2 43 (by decide)]; exact hX.1
    refine z_iload_n dX9_findSay_7 rfl ?_
    refine z_aload_n dX9_findSay_8 rfl ?_
    refine z_getI dX9_findSay_9 gX9_315 rfl (Nat.le_of_ble_eq_true rfl) rfl (fun hr9 => ?_)
    refine z_icmp_gt (tgt := 45) dX9_findSay_12 (by decide) ⟨by omega, by omega⟩ ⟨by omega, by omega⟩ (fun h12 => ?_) (fun h12 => ?_)
    · skip
      exact hk τ c hK (fun a b g1 g2 g3 => hI a b g1 g2 (by omega))
    · exfalso; omega
  | k + 1, τ, c, h0, hc, hK, hI => by
    have x4 := hX.2.2.2
    have e43 : τ 9 43 = X.length := by rw [hK.2 43 (by decide)]; exact hX.1
    refine z_iload_n dX9_findSay_7 rfl ?_
    refine z_aload_n dX9_findSay_8 rfl ?_
    refine z_getI dX9_findSay_9 gX9_315 rfl (Nat.le_of_ble_eq_true rfl) rfl (fun hr9 => ?_)
    refine z_icmp_gt (tgt := 45) dX9_findSay_12 (by decide) ⟨by omega, by omega⟩ ⟨by omega, by omega⟩ (fun h12 => ?_) (fun h12 => ?_)
    · exfalso; omega
    · skip
      refine z_aload_n dX9_findSay_15 rfl ?_
      refine z_getR dX9_findSay_16 gX9_90 rfl (Nat.le_of_ble_eq_true rfl) rfl ?_
      refine z_bipush (v := 13) dX9_findSay_19 (by decide +kernel) ?_
      refine z_iload_n dX9_findSay_21 rfl ?_
      refine z_imul dX9_findSay_22 ?_
      refine z_iload_n dX9_findSay_23 rfl ?_
      refine z_iadd dX9_findSay_24 ?_
      refine z_iload_n dX9_findSay_25 rfl ?_
      refine z_aload_n dX9_findSay_26 rfl ?_
      refine z_getI dX9_findSay_27 gX9_315 rfl (Nat.le_of_ble_eq_true rfl) rfl (fun hr27 => ?_)
      refine z_icmp_ne (tgt := 37) dX9_findSay_30 (by decide) ⟨by omega, by omega⟩ ⟨by omega, by omega⟩ (fun h30 => ?_) (fun h30 => ?_)
      · skip
        refine z_iconst dX9_findSay_37 ?_
        refine z_zast dX9_findSay_38 rfl (Nat.le_of_ble_eq_true rfl) (by omega) (by omega) ?_
        refine z_iinc (L' := [_, _, _, _, _, _, _]) dX9_findSay_39 (Nat.le_of_ble_eq_true rfl) rfl rfl rfl ?_
        refine z_goto (tgt := 7) dX9_findSay_42 (by decide) ?_
        refine l1_X9_findSay hn hX hA hk k _ (c + 1) (by omega) (by omega) (frM.putA hK (by decide) (by decide)) (fun a b g1 g2 g3 => ?_)
        rw [z_rd, if_pos rfl]
        by_cases h1 : 13 * a + b = (13 * n + c).toNat
        · rw [if_pos h1, show a = n by omega, hA]
          first
          | exact Or.inl ⟨rfl, decide_eq_true (by omega)⟩
          | exact Or.inr ⟨rfl, fun v => absurd (of_decide_eq_true v) (by omega)⟩
        · rw [if_neg h1]
          exact hI a b g1 g2 (by omega)
      · skip
        refine z_iconst dX9_findSay_33 ?_
        refine z_goto (tgt := 38) dX9_findSay_34 (by decide) ?_
        refine z_zast dX9_findSay_38 rfl (Nat.le_of_ble_eq_true rfl) (by omega) (by omega) ?_
        refine z_iinc (L' := [_, _, _, _, _, _, _]) dX9_findSay_39 (Nat.le_of_ble_eq_true rfl) rfl rfl rfl ?_
        refine z_goto (tgt := 7) dX9_findSay_42 (by decide) ?_
        refine l1_X9_findSay hn hX hA hk k _ (c + 1) (by omega) (by omega) (frM.putA hK (by decide) (by decide)) (fun a b g1 g2 g3 => ?_)
        rw [z_rd, if_pos rfl]
        by_cases h1 : 13 * a + b = (13 * n + c).toNat
        · rw [if_pos h1, show a = n by omega, hA]
          first
          | exact Or.inl ⟨rfl, decide_eq_true (by omega)⟩
          | exact Or.inr ⟨rfl, fun v => absurd (of_decide_eq_true v) (by omega)⟩
        · rw [if_neg h1]
          exact hI a b g1 g2 (by omega)
set_option maxRecDepth 20000 in
theorem l4_X9_findSay {d : Nat} {σ υ : Sto} {LF : LFT} {m p c : Int} {n : Nat} {X : List Int} {N : Nat → Bool} {B : Prop} {Q : Option Value → Sto → Prop} (hW : WM LF σ) (hm : -1 ≤ m ∧ m < 5) (hX : r1M σ X) (hp : 0 ≤ p ∧ p < n) (hn : n ≤ 10) (hc : 0 ≤ c ∧ c ≤ X.length) (hf : fyK σ υ) (hN : ∀ b : Nat, b ≤ X.length → yn (υ 106 (13 * (p + 1).toNat + b)) (N b = true))
    (hk : ∀ τ v w, pMK υ τ → yn v B → Z (z_me cX9_findSay RX9 7 (some .boolean) (d + 6) Q) 117 [some (zR 9), some (zI n), some (zI m), some (zI p), some (zI c), some (zI v), some (zI w)] [] τ) :
    ∀ (k : Nat) (τ : Sto) (b w : Int), 0 ≤ w → w + k = σ 9 1 → pMK υ τ → ((b = 1 ∧ B) ∨ (b = 0 ∧ (B ↔ (c ≤ p ∧ anF (fun w => myP (pasM LF σ (finM σ m)) (σ 85) X p N c w) k w = true)))) →
    Z (z_me cX9_findSay RX9 7 (some .boolean) (d + 6) Q) 71 [some (zR 9), some (zI n), some (zI m), some (zI p), some (zI c), some (zI b), some (zI w)] [] τ
  | 0, τ, b, w, h0, hw, hK, hb => by
    have w1 := hW.1
    have e1 : τ 9 1 = σ 9 1 := by rw [hK.2 1 (by decide), hf.2 1 (by decide)]
    refine z_iload dX9_findSay_71 rfl ?_
    refine z_aload_n dX9_findSay_73 rfl ?_
    refine z_getI dX9_findSay_74 gX9_140 rfl (Nat.le_of_ble_eq_true rfl) rfl (fun hr74 => ?_)
    refine z_icmp_ge (tgt := 117) dX9_findSay_77 (by decide) ⟨by omega, by omega⟩ ⟨by omega, by omega⟩ (fun h77 => ?_) (fun h77 => ?_)
    · skip
      exact hk τ b w hK (by rcases hb with q | q; exact Or.inl q; exact Or.inr ⟨q.1, fun v => absurd (q.2.mp v).2 (by rw [anF]; decide)⟩)
    · exfalso; omega
  | k + 1, τ, b, w, h0, hw, hK, hb => by
    have w1 := hW.1
    have e1 : τ 9 1 = σ 9 1 := by rw [hK.2 1 (by decide), hf.2 1 (by decide)]
    have hfA : fyK σ τ := hf.tr (hK.mono (by decide) (by decide))
    have hb01 : b = 0 ∨ b = 1 := by rcases hb with q | q; exact Or.inr q.1; exact Or.inl q.1
    have x4 := hX.2.2.2
    refine z_iload dX9_findSay_71 rfl ?_
    refine z_aload_n dX9_findSay_73 rfl ?_
    refine z_getI dX9_findSay_74 gX9_140 rfl (Nat.le_of_ble_eq_true rfl) rfl (fun hr74 => ?_)
    refine z_icmp_ge (tgt := 117) dX9_findSay_77 (by decide) ⟨by omega, by omega⟩ ⟨by omega, by omega⟩ (fun h77 => ?_) (fun h77 => ?_)
    · exfalso; omega
    · skip
      refine z_iload dX9_findSay_80 rfl ?_
      refine z_iload_n dX9_findSay_82 rfl ?_
      refine z_icmp_gt (tgt := 117) dX9_findSay_83 (by decide) ⟨by omega, by omega⟩ ⟨by omega, by omega⟩ (fun h83 => ?_) (fun h83 => ?_)
      · skip
        exact hk τ b w hK (by rcases hb with q | q; exact Or.inl q; exact Or.inr ⟨q.1, fun v => absurd (q.2.mp v).1 (by omega)⟩)
      · skip
        refine z_iload dX9_findSay_86 rfl ?_
        refine z_if_ne (tgt := 104) dX9_findSay_88 (by decide) ⟨by omega, by omega⟩ (fun h88 => ?_) (fun h88 => ?_)
        · skip
          refine z_iconst dX9_findSay_104 ?_
          refine z_goto (tgt := 109) dX9_findSay_105 (by decide) ?_
          refine z_istore (L' := [_, _, _, _, _, _, _]) dX9_findSay_109 (Nat.le_of_ble_eq_true rfl) rfl rfl ?_
          refine z_iinc (L' := [_, _, _, _, _, _, _]) dX9_findSay_111 (Nat.le_of_ble_eq_true rfl) rfl rfl rfl ?_
          refine z_goto (tgt := 71) dX9_findSay_114 (by decide) ?_
          first
            | exact l4_X9_findSay hW hm hX hp hn hc hf hN hk k τ 1 (w + 1) (by omega) (by omega) hK (Or.inl ⟨rfl, by rcases hb with q | q; exact q.2; exact absurd q.1 (by omega)⟩)
            | exact l4_X9_findSay hW hm hX hp hn hc hf hN hk k σ98 1 (w + 1) (by omega) (by omega) (hK.tr hfr) (Or.inl ⟨rfl, by rcases hb with q | q; exact q.2; exact q.2.mpr ⟨by omega, by rw [anF, Bool.or_eq_true]; exact Or.inl (by rcases hz with u | u; exact u.2; exact absurd u.1 (by omega))⟩⟩)
            | exact l4_X9_findSay hW hm hX hp hn hc hf hN hk k σ98 0 (w + 1) (by omega) (by omega) (hK.tr hfr) (Or.inr ⟨rfl, by
                rcases hb with q | q
                · exact absurd q.1 (by omega)
                · have hz0 : myP (pasM LF σ (finM σ m)) (σ 85) X p N c w = false := by rcases hz with u | u; exact absurd u.1 (by omega); exact Bool.eq_false_iff.mpr u.2
                  rw [q.2, anF]
                  show (_ ∧ (myP (pasM LF σ (finM σ m)) (σ 85) X p N c w || _) = true) ↔ _
                  rw [hz0, Bool.false_or]⟩)
        · skip
          refine z_aload_n dX9_findSay_91 rfl ?_
          refine z_iload dX9_findSay_92 rfl ?_
          refine z_iload_n dX9_findSay_94 rfl ?_
          refine z_iload dX9_findSay_95 rfl ?_
          refine z_iload_n dX9_findSay_97 rfl ?_
          refine z_callVI (d := d + 5) (av := [_, _, _, _]) dX9_findSay_98 vX9_321 rfl (Nat.le_of_ble_eq_true rfl) rfl rfl rfl (Nat.le_of_ble_eq_true rfl) (Nat.le_refl _) (c_X9_maySay (LF := LF) (X := X) (N := N) (hfA.wm hW rfl) (by omega) (by omega) hc (hX.fr hfA (by decide) (by decide)) hm (fun b hb => by rw [hK.1 106 (by decide) (by decide)]; exact hN b hb)) (fun z98 σ98 h98 => ?_)
          obtain ⟨hz, hfr⟩ := h98
          rw [hfA.fi rfl, hfA.pm rfl, hfA.1 85 (by decide) (by decide)] at hz
          have hr98 : inR z98 := by rcases hz with q | q; rw [q.1]; decide; rw [q.1]; decide
          refine z_if_eq (tgt := 108) dX9_findSay_101 (by decide) ⟨by omega, by omega⟩ (fun h101 => ?_) (fun h101 => ?_)
          · skip
            refine z_iconst dX9_findSay_108 ?_
            refine z_istore (L' := [_, _, _, _, _, _, _]) dX9_findSay_109 (Nat.le_of_ble_eq_true rfl) rfl rfl ?_
            refine z_iinc (L' := [_, _, _, _, _, _, _]) dX9_findSay_111 (Nat.le_of_ble_eq_true rfl) rfl rfl rfl ?_
            refine z_goto (tgt := 71) dX9_findSay_114 (by decide) ?_
            first
              | exact l4_X9_findSay hW hm hX hp hn hc hf hN hk k τ 1 (w + 1) (by omega) (by omega) hK (Or.inl ⟨rfl, by rcases hb with q | q; exact q.2; exact absurd q.1 (by omega)⟩)
              | exact l4_X9_findSay hW hm hX hp hn hc hf hN hk k σ98 1 (w + 1) (by omega) (by omega) (hK.tr hfr) (Or.inl ⟨rfl, by rcases hb with q | q; exact q.2; exact q.2.mpr ⟨by omega, by rw [anF, Bool.or_eq_true]; exact Or.inl (by rcases hz with u | u; exact u.2; exact absurd u.1 (by omega))⟩⟩)
              | exact l4_X9_findSay hW hm hX hp hn hc hf hN hk k σ98 0 (w + 1) (by omega) (by omega) (hK.tr hfr) (Or.inr ⟨rfl, by
                  rcases hb with q | q
                  · exact absurd q.1 (by omega)
                  · have hz0 : myP (pasM LF σ (finM σ m)) (σ 85) X p N c w = false := by rcases hz with u | u; exact absurd u.1 (by omega); exact Bool.eq_false_iff.mpr u.2
                    rw [q.2, anF]
                    show (_ ∧ (myP (pasM LF σ (finM σ m)) (σ 85) X p N c w || _) = true) ↔ _
                    rw [hz0, Bool.false_or]⟩)
          · skip
            refine z_iconst dX9_findSay_104 ?_
            refine z_goto (tgt := 109) dX9_findSay_105 (by decide) ?_
            refine z_istore (L' := [_, _, _, _, _, _, _]) dX9_findSay_109 (Nat.le_of_ble_eq_true rfl) rfl rfl ?_
            refine z_iinc (L' := [_, _, _, _, _, _, _]) dX9_findSay_111 (Nat.le_of_ble_eq_true rfl) rfl rfl rfl ?_
            refine z_goto (tgt := 71) dX9_findSay_114 (by decide) ?_
            first
              | exact l4_X9_findSay hW hm hX hp hn hc hf hN hk k τ 1 (w + 1) (by omega) (by omega) hK (Or.inl ⟨rfl, by rcases hb with q | q; exact q.2; exact absurd q.1 (by omega)⟩)
              | exact l4_X9_findSay hW hm hX hp hn hc hf hN hk k σ98 1 (w + 1) (by omega) (by omega) (hK.tr hfr) (Or.inl ⟨rfl, by rcases hb with q | q; exact q.2; exact q.2.mpr ⟨by omega, by rw [anF, Bool.or_eq_true]; exact Or.inl (by rcases hz with u | u; exact u.2; exact absurd u.1 (by omega))⟩⟩)
              | exact l4_X9_findSay hW hm hX hp hn hc hf hN hk k σ98 0 (w + 1) (by omega) (by omega) (hK.tr hfr) (Or.inr ⟨rfl, by
                  rcases hb with q | q
                  · exact absurd q.1 (by omega)
                  · have hz0 : myP (pasM LF σ (finM σ m)) (σ 85) X p N c w = false := by rcases hz with u | u; exact absurd u.1 (by omega); exact Bool.eq_false_iff.mpr u.2
                    rw [q.2, anF]
                    show (_ ∧ (myP (pasM LF σ (finM σ m)) (σ 85) X p N c w || _) = true) ↔ _
                    rw [hz0, Bool.false_or]⟩)
set_option maxRecDepth 20000 in
theorem t3_X9_findSay {d : Nat} {σ τ τ1 : Sto} {m p c v w : Int} {n : Nat} {X : List Int} {A : Nat → Nat → Bool} {Q : Option Value → Sto → Prop} (hX : r1M σ X) (hp : 0 ≤ p ∧ p < n) (hn : n ≤ 10) (hc : 0 ≤ c ∧ c ≤ X.length) (hK : fyK σ τ) (hf : pMK τ τ1) (hI : cbI τ A X n p c) (hv : yn v (A p.toNat c.toNat = true))
    (hk : ∀ τ2, fyK σ τ2 → cbI τ2 A X n p (c + 1) → Z (z_me cX9_findSay RX9 7 (some .boolean) (d + 6) Q) 56 [some (zR 9), some (zI n), some (zI m), some (zI p), some (zI (c + 1)), none, none] [] τ2) :
    Z (z_me cX9_findSay RX9 7 (some .boolean) (d + 6) Q) 117 [some (zR 9), some (zI n), some (zI m), some (zI p), some (zI c), some (zI v), some (zI w)] [] τ1 := by
  have x4 := hX.2.2.2
  have hv01 : v = 0 ∨ v = 1 := by rcases hv with q | q; exact Or.inr q.1; exact Or.inl q.1
  refine z_aload_n dX9_findSay_117 rfl ?_
  refine z_getR dX9_findSay_118 gX9_90 rfl (Nat.le_of_ble_eq_true rfl) rfl ?_
  refine z_bipush (v := 13) dX9_findSay_121 (by decide +kernel) ?_
  refine z_iload_n dX9_findSay_123 rfl ?_
  refine z_imul dX9_findSay_124 ?_
  refine z_iload dX9_findSay_125 rfl ?_
  refine z_iadd dX9_findSay_127 ?_
  refine z_iload dX9_findSay_128 rfl ?_
  refine z_zast dX9_findSay_130 rfl (Nat.le_of_ble_eq_true rfl) (by omega) hv01 ?_
  refine z_iinc (L' := [_, _, _, _, _, _, _]) dX9_findSay_131 (Nat.le_of_ble_eq_true rfl) rfl rfl rfl ?_
  refine z_goto (tgt := 56) dX9_findSay_134 (by decide) ?_
  refine z_forget [true, true, true, true, true, false, false] (L' := [_, _, _, _, _, _, _]) rfl ?_
  refine hk _ (frM.putA (hK.tr (hf.mono (by decide) (by decide))) (by decide) (by decide)) (fun a b g1 g2 g3 => ?_)
  rw [z_rd, if_pos rfl]
  by_cases h1 : 13 * a + b = (13 * p + c).toNat
  · rw [if_pos h1, show a = p.toNat by omega, show b = c.toNat by omega]
    exact hv
  · rw [if_neg h1, hf.1 106 (by decide) (by decide)]
    exact hI a b g1 g2 (by omega)
set_option maxRecDepth 20000 in
theorem l3_X9_findSay {d : Nat} {σ : Sto} {LF : LFT} {m p : Int} {n : Nat} {X : List Int} {Q : Option Value → Sto → Prop} (hW : WM LF σ) (hm : -1 ≤ m ∧ m < 5) (hX : r1M σ X) (hp : 0 ≤ p ∧ p < n) (hn : n ≤ 10)
    (hk : ∀ τ, fyK σ τ → cbI τ (cbA (pasM LF σ (finM σ m)) (σ 85) X (σ 9 1).toNat n) X n (p - 1) 0 → Z (z_me cX9_findSay RX9 7 (some .boolean) (d + 6) Q) 137 [some (zR 9), some (zI n), some (zI m), some (zI p), none, none, none] [] τ) :
    ∀ (k : Nat) (τ : Sto) (c : Int), 0 ≤ c → c + k = X.length + 1 → fyK σ τ → cbI τ (cbA (pasM LF σ (finM σ m)) (σ 85) X (σ 9 1).toNat n) X n p c →
    Z (z_me cX9_findSay RX9 7 (some .boolean) (d + 6) Q) 56 [some (zR 9), some (zI n), some (zI m), some (zI p), some (zI c), none, none] [] τ
  | 0, τ, c, h0, hc, hK, hI => by
    have x4 := hX.2.2.2
    have e43 : τ 9 43 = X.length := by rw [hK.2 43 (by decide)]; exact hX.1
    refine z_iload dX9_findSay_56 rfl ?_
    refine z_aload_n dX9_findSay_58 rfl ?_
    refine z_getI dX9_findSay_59 gX9_315 rfl (Nat.le_of_ble_eq_true rfl) rfl (fun hr59 => ?_)
    refine z_icmp_gt (tgt := 137) dX9_findSay_62 (by decide) ⟨by omega, by omega⟩ ⟨by omega, by omega⟩ (fun h62 => ?_) (fun h62 => ?_)
    · skip
      refine z_forget [true, true, true, true, false, false, false] (L' := [_, _, _, _, _, _, _]) rfl ?_
      exact hk τ hK (fun a b g1 g2 g3 => hI a b g1 g2 (by omega))
    · exfalso; omega
  | k + 1, τ, c, h0, hc, hK, hI => by
    have x4 := hX.2.2.2
    have w1 := hW.1
    have e43 : τ 9 43 = X.length := by rw [hK.2 43 (by decide)]; exact hX.1
    have eA := cbA_eq (ps := pasM LF σ (finM σ m)) (S := σ 85) (X := X) (wn := (σ 9 1).toNat) (n := n) hp h0
    refine z_iload dX9_findSay_56 rfl ?_
    refine z_aload_n dX9_findSay_58 rfl ?_
    refine z_getI dX9_findSay_59 gX9_315 rfl (Nat.le_of_ble_eq_true rfl) rfl (fun hr59 => ?_)
    refine z_icmp_gt (tgt := 137) dX9_findSay_62 (by decide) ⟨by omega, by omega⟩ ⟨by omega, by omega⟩ (fun h62 => ?_) (fun h62 => ?_)
    · exfalso; omega
    · skip
      refine z_iconst dX9_findSay_65 ?_
      refine z_istore (L' := [_, _, _, _, _, _, _]) dX9_findSay_66 (Nat.le_of_ble_eq_true rfl) rfl rfl ?_
      refine z_iconst dX9_findSay_68 ?_
      refine z_istore (L' := [_, _, _, _, _, _, _]) dX9_findSay_69 (Nat.le_of_ble_eq_true rfl) rfl rfl ?_
      refine l4_X9_findSay (υ := τ) (N := cbA (pasM LF σ (finM σ m)) (σ 85) X (σ 9 1).toNat n (p + 1).toNat) (B := cbA (pasM LF σ (finM σ m)) (σ 85) X (σ 9 1).toNat n p.toNat c.toNat = true) hW hm hX hp hn (by omega) hK (fun b hb => hI _ _ (by omega) hb (by omega)) (fun τ1 v w g1 g2 => ?_) (σ 9 1).toNat τ 0 0 (by omega) (by omega) (frM.rf _ _ _) (Or.inr ⟨rfl, by rw [eA, Bool.and_eq_true, decide_eq_true_eq]⟩)
      exact t3_X9_findSay hX hp hn (by omega) hK g1 hI g2 (fun τ2 g3 g4 => l3_X9_findSay hW hm hX hp hn hk k τ2 (c + 1) (by omega) (by omega) g3 g4)
set_option maxRecDepth 20000 in
theorem l2_X9_findSay {d : Nat} {σ : Sto} {LF : LFT} {m : Int} {n : Nat} {X : List Int} (hW : WM LF σ) (hm : -1 ≤ m ∧ m < 5) (hX : r1M σ X) (hn : 2 ≤ n ∧ n ≤ 10) :
    ∀ (k : Nat) (τ : Sto) (p : Int), p + 1 = k → p < n → fyK σ τ → cbI τ (cbA (pasM LF σ (finM σ m)) (σ 85) X (σ 9 1).toNat n) X n p 0 →
    Z (z_me cX9_findSay RX9 7 (some .boolean) (d + 6) (qI fun z σ' => yn z (cbA (pasM LF σ (finM σ m)) (σ 85) X (σ 9 1).toNat n 0 0 = true) ∧ fyK σ σ' ∧ cbI σ' (cbA (pasM LF σ (finM σ m)) (σ 85) X (σ 9 1).toNat n) X n (-1) 0)) 49 [some (zR 9), some (zI n), some (zI m), some (zI p), none, none, none] [] τ
  | 0, τ, p, hk, hp, hK, hI => by
    obtain rfl : p = -1 := by omega
    have e0 := hI 0 0 (by omega) (by omega) (by omega)
    refine z_iload_n dX9_findSay_49 rfl ?_
    refine z_if_lt (tgt := 143) dX9_findSay_50 (by decide) ⟨by omega, by omega⟩ (fun h50 => ?_) (fun h50 => ?_)
    · skip
      refine z_aload_n dX9_findSay_143 rfl ?_
      refine z_getR dX9_findSay_144 gX9_90 rfl (Nat.le_of_ble_eq_true rfl) rfl ?_
      refine z_iconst dX9_findSay_147 ?_
      refine z_zald dX9_findSay_148 rfl (Nat.le_of_ble_eq_true rfl) (by omega) (fun hr148 => ?_)
      rw [show τ 106 (0 : Int).toNat = τ 106 (13 * 0 + 0) from rfl]
      exact z_zret dX9_findSay_149 (by rcases e0 with q | q; exact Or.inr q.1; exact Or.inl q.1) ⟨e0, hK, hI⟩
    · exfalso; omega
  | k + 1, τ, p, hk, hp, hK, hI => by
    refine z_iload_n dX9_findSay_49 rfl ?_
    refine z_if_lt (tgt := 143) dX9_findSay_50 (by decide) ⟨by omega, by omega⟩ (fun h50 => ?_) (fun h50 => ?_)
    · exfalso; omega
    · skip
      refine z_iconst dX9_findSay_53 ?_
      refine z_istore (L' := [_, _, _, _, _, _, _]) dX9_findSay_54 (Nat.le_of_ble_eq_true rfl) rfl rfl ?_
      refine l3_X9_findSay hW hm hX (by omega) hn.2 (fun τ1 g1 g2 => ?_) (X.length + 1) τ 0 (by omega) (by omega) hK hI
      refine z_iinc (L' := [_, _, _, _, _, _, _]) dX9_findSay_137 (Nat.le_of_ble_eq_true rfl) rfl rfl rfl ?_
      refine z_goto (tgt := 49) dX9_findSay_140 (by decide) ?_
      exact l2_X9_findSay hW hm hX hn k τ1 (p + -1) (by omega) (by omega) g1 (by rw [show p + -1 = p - 1 from rfl]; exact g2)
set_option maxRecDepth 20000 in
theorem c_X9_findSay {d : Nat} {σ : Sto} {LF : LFT} {m : Int} {n : Nat} {X : List Int} (hW : WM LF σ) (hm : -1 ≤ m ∧ m < 5) (hX : r1M σ X) (hn : 2 ≤ n ∧ n ≤ 10) : m_X9_findSay d [zR 9, zI n, zI m] σ (qI fun z σ' => yn z (cbA (pasM LF σ (finM σ m)) (σ 85) X (σ 9 1).toNat n 0 0 = true) ∧ fyK σ σ' ∧ cbI σ' (cbA (pasM LF σ (finM σ m)) (σ 85) X (σ 9 1).toNat n) X n (-1) 0) := by
  have hf : fyK σ (z_put σ 9 41 n) := frM.putF (frM.rf _ _ σ) (by decide)
  refine z_does (L := [some (zR 9), some (zI n), some (zI m), none, none, none, none]) rfl (by decide +kernel) (Nat.le_of_ble_eq_true rfl) rfl ?_
  refine z_aload_n dX9_findSay_0 rfl ?_
  refine z_iload_n dX9_findSay_1 rfl ?_
  refine z_putI dX9_findSay_2 pX9_318 rfl (Nat.le_of_ble_eq_true rfl) rfl ⟨by omega, by omega⟩ ?_
  refine z_iconst dX9_findSay_5 ?_
  refine z_istore_n (L' := [_, _, _, _, _, _, _]) dX9_findSay_6 (Nat.le_of_ble_eq_true rfl) rfl rfl ?_
  refine l1_X9_findSay (A := cbA (pasM LF σ (finM σ m)) (σ 85) X (σ 9 1).toNat n) hn (hX.fr hf (by decide) (by decide)) (fun b => cbA_n) (fun τ1 c1 g1 g2 => ?_) (X.length + 1) _ 0 (by omega) (by omega) (frM.rf _ _ _) (fun a b g1 g2 g3 => absurd g3 (by omega))
  refine z_iload_n dX9_findSay_45 rfl ?_
  refine z_iconst dX9_findSay_46 ?_
  refine z_isub dX9_findSay_47 ?_
  refine z_istore_n (L' := [_, _, _, _, _, _, _]) dX9_findSay_48 (Nat.le_of_ble_eq_true rfl) rfl rfl ?_
  exact l2_X9_findSay hW hm hX hn n τ1 ((n : Int) - 1) (by omega) (by omega) (hf.tr g1) g2
