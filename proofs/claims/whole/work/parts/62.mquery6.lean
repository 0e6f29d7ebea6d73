/-! ===== The reference's questions: likely ===== -/
theorem hlL_le {A4 A1 : Nat → Int} (hf : ∀ j, 0 ≤ A1 j ∧ A1 j ≤ 9) {p : Int} : ∀ xs : List Int, hlL A4 A1 p xs ≤ sumL A1 xs
  | [] => by rw [hlL, sumL]; decide
  | w :: r => by
    have h := hlL_le hf (A4 := A4) (p := p) r
    have h2 := hf w.toNat
    rw [hlL, sumL]
    split <;> omega
set_option maxRecDepth 20000 in
theorem l_X9_lowest {d : Nat} {σ : Sto} {a b part : Int} (ha : 0 ≤ a ∧ a ≤ 117) (hb : 1 ≤ b ∧ b ≤ 117) (hp : 0 ≤ part ∧ part ≤ 1) (x y : Int) (hx : 0 ≤ x ∧ x ≤ 1000) (hy : 0 ≤ y ∧ y ≤ 1000) (hxy : 1 ≤ x + y) (hg : (Int.gcd x y : Int) = Int.gcd a b) :
    Z (z_me cX9_lowest RX9 11 (some .long) (d + 0) (qJ fun z σ' => z = (if part = 0 then a.tdiv (Int.gcd a b) else b.tdiv (Int.gcd a b)) ∧ σ' = σ)) 6 [some (zJ a), none, some (zJ b), none, some (zI part), some (zJ x), none, some (zJ y), none, none, none] [] σ := by
  have hm : y ≠ 0 → (0 ≤ x.tmod y ∧ x.tmod y < y) ∧ x.tmod y = x % y := fun h => by
    have e : x.tmod y = x % y := Int.tmod_eq_emod_of_nonneg hx.1
    have h3 := Int.emod_lt_of_pos x (show 0 < y by omega)
    have h4 := Int.emod_nonneg x h
    omega
  have hg0 : y = 0 → x = Int.gcd a b := fun h => by
    rw [h, Int.gcd_zero_right] at hg
    omega
  refine z_lload dX9_lowest_6 rfl ?_
  refine z_lconst (v := 0) dX9_lowest_8 (by decide +kernel) ?_
  refine z_lc_eq (tgt := 31) dX9_lowest_9 dX9_lowest_10 (by decide) ⟨by omega, by omega⟩ ⟨by omega, by omega⟩ (fun h9 => ?_) (fun h9 => ?_)
  · skip
    refine z_iload dX9_lowest_31 rfl ?_
    refine z_if_ne (tgt := 43) dX9_lowest_33 (by decide) ⟨by omega, by omega⟩ (fun h33 => ?_) (fun h33 => ?_)
    · skip
      refine z_lload_n dX9_lowest_43 rfl ?_
      refine z_lload dX9_lowest_44 rfl ?_
      refine z_ldiv dX9_lowest_46 ⟨by omega, by omega⟩ ⟨by omega, by omega⟩ (by omega) ?_
      exact z_lret dX9_lowest_47 (by
        have e := hg0 (by omega)
        refine ⟨?_, rfl⟩
        first
        | (rw [if_pos (by omega), e]; done)
        | (rw [if_neg (by omega), e]; done))
    · skip
      refine z_lload_n dX9_lowest_36 rfl ?_
      refine z_lload dX9_lowest_37 rfl ?_
      refine z_ldiv dX9_lowest_39 ⟨by omega, by omega⟩ ⟨by omega, by omega⟩ (by omega) ?_
      refine z_goto (tgt := 47) dX9_lowest_40 (by decide) ?_
      exact z_lret dX9_lowest_47 (by
        have e := hg0 (by omega)
        refine ⟨?_, rfl⟩
        first
        | (rw [if_pos (by omega), e]; done)
        | (rw [if_neg (by omega), e]; done))
  · skip
    refine z_lload dX9_lowest_13 rfl ?_
    refine z_lload dX9_lowest_15 rfl ?_
    refine z_lrem dX9_lowest_17 ⟨by omega, by omega⟩ ⟨by omega, by omega⟩ (by omega) ?_
    refine z_lstore (L' := [_, _, _, _, _, _, _, _, _, _, _]) dX9_lowest_18 (Nat.le_of_ble_eq_true rfl) rfl rfl ?_
    refine z_lload dX9_lowest_20 rfl ?_
    refine z_lstore (L' := [_, _, _, _, _, _, _, _, _, _, _]) dX9_lowest_22 (Nat.le_of_ble_eq_true rfl) rfl rfl ?_
    refine z_lload dX9_lowest_24 rfl ?_
    refine z_lstore (L' := [_, _, _, _, _, _, _, _, _, _, _]) dX9_lowest_26 (Nat.le_of_ble_eq_true rfl) rfl rfl ?_
    refine z_goto (tgt := 6) dX9_lowest_28 (by decide) ?_
    refine z_forget [true, true, true, true, true, true, true, true, true, false, false] (L' := [_, _, _, _, _, _, _, _, _, _, _]) rfl ?_
    have hm := hm (by omega)
    exact l_X9_lowest ha hb hp y _ (by omega) (by omega) (by omega) (by rw [hm.2, Int.gcd_comm, gcd_em hx.1 hy.1]; exact hg)
termination_by y.toNat
decreasing_by all_goals omega
set_option maxRecDepth 20000 in
theorem c_X9_lowest {d : Nat} {σ : Sto} {a b part : Int} (ha : 0 ≤ a ∧ a ≤ 117) (hb : 1 ≤ b ∧ b ≤ 117) (hp : 0 ≤ part ∧ part ≤ 1) : m_X9_lowest d [zJ a, zJ b, zI part] σ (qJ fun z σ' => z = (if part = 0 then a.tdiv (Int.gcd a b) else b.tdiv (Int.gcd a b)) ∧ σ' = σ) := by
  refine z_does (L := [some (zJ a), none, some (zJ b), none, some (zI part), none, none, none, none, none, none]) rfl (by decide +kernel) (Nat.le_of_ble_eq_true rfl) rfl ?_
  refine z_lload_n dX9_lowest_0 rfl ?_
  refine z_lstore (L' := [_, _, _, _, _, _, _, _, _, _, _]) dX9_lowest_1 (Nat.le_of_ble_eq_true rfl) rfl rfl ?_
  refine z_lload_n dX9_lowest_3 rfl ?_
  refine z_lstore (L' := [_, _, _, _, _, _, _, _, _, _, _]) dX9_lowest_4 (Nat.le_of_ble_eq_true rfl) rfl rfl ?_
  exact l_X9_lowest ha hb hp a b (by omega) (by omega) (by omega) rfl
set_option maxRecDepth 20000 in
set_option maxHeartbeats 1000000 in
theorem c_X9_likely {d : Nat} {σ : Sto} {LF : LFT} {s m one part : Int} (hW : WM LF σ) (hS : SM σ) (hs : inR s) (hm : inR m) (h1 : inR one) (h2 : inR part) : m_X9_likely d [zR 9, zI s, zI m, zI one, zI part] σ (qJ fun z σ' => z = lkG (hrM σ s m) (pasM LF σ (finM σ m)) (σ 83) (σ 86) (SYM σ s) one part ∧ KM σ σ') := by
  have w1 := hW.1
  have w7 := hW.2.1
  refine z_does (L := [some (zR 9), some (zI s), some (zI m), some (zI one), some (zI part), none]) rfl (by decide +kernel) (Nat.le_of_ble_eq_true rfl) rfl ?_
  refine z_iload_n dX9_likely_0 rfl ?_
  refine z_callSI (d := d + 5) (av := [_]) dX9_likely_1 sX9_154 rfl rfl (Nat.le_of_ble_eq_true rfl) (Nat.le_refl _) (c_X9_isShelf (by omega)) (fun z1 σ1 h1 => ?_)
  obtain ⟨hs1, h1⟩ := h1
  subst σ1
  refine z_if_eq (tgt := 42) dX9_likely_4 (by decide) ⟨by omega, by omega⟩ (fun h4 => ?_) (fun h4 => ?_)
  · skip
    refine z_ldc2 dX9_likely_42 kX9_358 ?_
    exact z_lret dX9_likely_45 (by
      refine ⟨?_, frM.rf _ _ σ⟩
      unfold lkG
      by_cases q : one < 0 ∨ 5 < one ∨ part < 0 ∨ 1 < part
      · rw [if_pos q]; rfl
      · have e : hrM σ s m ≠ 0 := by first | omega | (unfold hrM; rw [if_pos (by omega)]; decide)
        rw [if_neg q, if_pos e]; rfl)
  · skip
    refine z_aload_n dX9_likely_7 rfl ?_
    refine z_iload_n dX9_likely_8 rfl ?_
    refine z_callVI (d := d + 5) (av := [_]) dX9_likely_9 vX9_286 rfl (Nat.le_of_ble_eq_true rfl) rfl rfl rfl (Nat.le_of_ble_eq_true rfl) (Nat.le_refl _) (c_X9_isMeshOrNone (by omega) (by omega)) (fun z9 σ9 h9 => ?_)
    obtain ⟨hs9, h9⟩ := h9
    subst σ9
    refine z_if_eq (tgt := 42) dX9_likely_12 (by decide) ⟨by omega, by omega⟩ (fun h12 => ?_) (fun h12 => ?_)
    · skip
      refine z_ldc2 dX9_likely_42 kX9_358 ?_
      exact z_lret dX9_likely_45 (by
        refine ⟨?_, frM.rf _ _ σ⟩
        unfold lkG
        by_cases q : one < 0 ∨ 5 < one ∨ part < 0 ∨ 1 < part
        · rw [if_pos q]; rfl
        · have e : hrM σ s m ≠ 0 := by first | omega | (unfold hrM; rw [if_pos (by omega)]; decide)
          rw [if_neg q, if_pos e]; rfl)
    · skip
      refine z_iload_n dX9_likely_15 rfl ?_
      refine z_iconst dX9_likely_16 ?_
      refine z_iconst dX9_likely_17 ?_
      refine z_callSI (d := d + 5) (av := [_, _, _]) dX9_likely_18 sX9_143 rfl rfl (Nat.le_of_ble_eq_true rfl) (Nat.le_refl _) (c_X9_in (by omega) (by omega) (by omega)) (fun z18 σ18 h18 => ?_)
      obtain ⟨hs18, h18⟩ := h18
      subst σ18
      refine z_if_eq (tgt := 42) dX9_likely_21 (by decide) ⟨by omega, by omega⟩ (fun h21 => ?_) (fun h21 => ?_)
      · skip
        refine z_ldc2 dX9_likely_42 kX9_358 ?_
        exact z_lret dX9_likely_45 (by
          refine ⟨?_, frM.rf _ _ σ⟩
          unfold lkG
          by_cases q : one < 0 ∨ 5 < one ∨ part < 0 ∨ 1 < part
          · rw [if_pos q]; rfl
          · have e : hrM σ s m ≠ 0 := by first | omega | (unfold hrM; rw [if_pos (by omega)]; decide)
            rw [if_neg q, if_pos e]; rfl)
      · skip
        refine z_iload dX9_likely_24 rfl ?_
        refine z_iconst dX9_likely_26 ?_
        refine z_iconst dX9_likely_27 ?_
        refine z_callSI (d := d + 5) (av := [_, _, _]) dX9_likely_28 sX9_143 rfl rfl (Nat.le_of_ble_eq_true rfl) (Nat.le_refl _) (c_X9_in (by omega) (by omega) (by omega)) (fun z28 σ28 h28 => ?_)
        obtain ⟨hs28, h28⟩ := h28
        subst σ28
        refine z_if_eq (tgt := 42) dX9_likely_31 (by decide) ⟨by omega, by omega⟩ (fun h31 => ?_) (fun h31 => ?_)
        · skip
          refine z_ldc2 dX9_likely_42 kX9_358 ?_
          exact z_lret dX9_likely_45 (by
            refine ⟨?_, frM.rf _ _ σ⟩
            unfold lkG
            by_cases q : one < 0 ∨ 5 < one ∨ part < 0 ∨ 1 < part
            · rw [if_pos q]; rfl
            · have e : hrM σ s m ≠ 0 := by first | omega | (unfold hrM; rw [if_pos (by omega)]; decide)
              rw [if_neg q, if_pos e]; rfl)
        · skip
          refine z_aload_n dX9_likely_34 rfl ?_
          refine z_iload_n dX9_likely_35 rfl ?_
          refine z_callVI (d := d + 5) (av := [_]) dX9_likely_36 vX9_289 rfl (Nat.le_of_ble_eq_true rfl) rfl rfl rfl (Nat.le_of_ble_eq_true rfl) (Nat.le_refl _) (c_X9_rowFault hS (by omega)) (fun z36 σ36 h36 => ?_)
          obtain ⟨hz, hs36⟩ := h36
          subst σ36
          obtain ⟨ehr, hz3⟩ := rf_M (m := m) (by omega) (by omega) hz
          refine z_if_ge (tgt := 46) dX9_likely_39 (by decide) ⟨by omega, by omega⟩ (fun h39 => ?_) (fun h39 => ?_)
          · skip
            refine z_aload_n dX9_likely_46 rfl ?_
            refine z_iload_n dX9_likely_47 rfl ?_
            refine z_callVV (d := d + 5) (av := [_]) dX9_likely_48 vX9_292 rfl (Nat.le_of_ble_eq_true rfl) rfl rfl rfl (Nat.le_of_ble_eq_true rfl) (Nat.le_refl _) (c_X9_laySaying w1 hS (by omega) (by omega)) (fun σ48 h48 => ?_)
            obtain ⟨hk1, hsd⟩ := h48
            refine z_aload_n dX9_likely_51 rfl ?_
            refine z_iload_n dX9_likely_52 rfl ?_
            refine z_iconst dX9_likely_53 ?_
            refine z_callVV (d := d + 5) (av := [_, _]) dX9_likely_54 vX9_296 rfl (Nat.le_of_ble_eq_true rfl) rfl rfl rfl (Nat.le_of_ble_eq_true rfl) (Nat.le_refl _) (c_X9_goThrough (LF := LF) (X := SYM σ s) (hk1.wm hW rfl) (by omega) (by decide) hsd) (fun σ54 h54 => ?_)
            obtain ⟨hk2, t2, t3, t4, t5⟩ := h54
            obtain ⟨hkA, hca, hlf, hsd2, hW2⟩ := thr_M hW hk1 hsd hk2 t2 t3 t4 t5
            have e83 : σ54 83 = σ 83 := hkA.1 83 (by decide) (by decide)
            have e86 : σ54 86 = σ 86 := hkA.1 86 (by decide) (by decide)
            have rs := sumL_R (f := σ 83) hW.2.2.2.2.1 (SYMx LF σ s m 0).2
            have rh := hlL_R (A4 := σ 86) (A1 := σ 83) (p := one) hW.2.2.2.2.1 (SYMx LF σ s m 0).2
            have rl := hlL_le (A4 := σ 86) (A1 := σ 83) (p := one) hW.2.2.2.2.1 (SYMx LF σ s m 0).2
            have rn : (SYMx LF σ s m 0).2.length ≤ 13 := hlf.2.2.2
            have hlk : 0 ≤ one ∧ one ≤ 5 ∧ 0 ≤ part ∧ part ≤ 1 → hrM σ s m = 0 → lkG (hrM σ s m) (pasM LF σ (finM σ m)) (σ 83) (σ 86) (SYM σ s) one part = (if (Int.gcd (hlL (σ 86) (σ 83) one (SYMx LF σ s m 0).2) (sumL (σ 83) (SYMx LF σ s m 0).2) : Int) = 0 then part else if part = 0 then (hlL (σ 86) (σ 83) one (SYMx LF σ s m 0).2).tdiv (Int.gcd (hlL (σ 86) (σ 83) one (SYMx LF σ s m 0).2) (sumL (σ 83) (SYMx LF σ s m 0).2)) else (sumL (σ 83) (SYMx LF σ s m 0).2).tdiv (Int.gcd (hlL (σ 86) (σ 83) one (SYMx LF σ s m 0).2) (sumL (σ 83) (SYMx LF σ s m 0).2))) := fun q1 q2 => by
              unfold lkG
              rw [if_neg (by omega), if_neg (by omega)]
            have hgn : sumL (σ 83) (SYMx LF σ s m 0).2 ≠ 0 → ¬ (Int.gcd (hlL (σ 86) (σ 83) one (SYMx LF σ s m 0).2) (sumL (σ 83) (SYMx LF σ s m 0).2) : Int) = 0 := fun q v => q (Int.eq_zero_of_gcd_eq_zero_right (a := hlL (σ 86) (σ 83) one (SYMx LF σ s m 0).2) (Int.ofNat_eq_zero.mp v))
            generalize hC : (SYMx LF σ s m 0).2 = C at *
            refine z_aload_n dX9_likely_57 rfl ?_
            refine z_callVI (d := d + 5) (av := []) dX9_likely_58 vX9_306 rfl (Nat.le_of_ble_eq_true rfl) rfl rfl rfl (Nat.le_of_ble_eq_true rfl) (Nat.le_refl _) (c_X9_harmLeft hW2.2.2.2.2.1 hlf) (fun z58 σ58 h58 => ?_)
            obtain ⟨rfl, hs58⟩ := h58
            subst σ58
            rw [e83]
            refine z_istore (L' := [_, _, _, _, _, _]) dX9_likely_61 (Nat.le_of_ble_eq_true rfl) rfl rfl ?_
            refine z_iload dX9_likely_63 rfl ?_
            refine z_if_ne (tgt := 74) dX9_likely_65 (by decide) ⟨by omega, by omega⟩ (fun h65 => ?_) (fun h65 => ?_)
            · skip
              refine z_aload_n dX9_likely_74 rfl ?_
              refine z_iload_n dX9_likely_75 rfl ?_
              refine z_callVI (d := d + 5) (av := [_]) dX9_likely_76 vX9_381 rfl (Nat.le_of_ble_eq_true rfl) rfl rfl rfl (Nat.le_of_ble_eq_true rfl) (Nat.le_refl _) (c_X9_harmOf (by omega) hW2.2.2.2.2.1 hW2.2.2.2.2.2.2.2.1 hlf) (fun z76 σ76 h76 => ?_)
              obtain ⟨rfl, hs76⟩ := h76
              subst σ76
              rw [e83, e86]
              refine z_i2l dX9_likely_79 ⟨by omega, by omega⟩ ?_
              refine z_iload dX9_likely_80 rfl ?_
              refine z_i2l dX9_likely_82 ⟨by omega, by omega⟩ ?_
              refine z_iload dX9_likely_83 rfl ?_
              refine z_callSJ (d := d + 5) (av := [_, _, _]) dX9_likely_85 sX9_387 rfl rfl (Nat.le_of_ble_eq_true rfl) (Nat.le_refl _) (c_X9_lowest (by omega) (by omega) (by omega)) (fun z85 σ85 h85 => ?_)
              obtain ⟨rfl, hs85⟩ := h85
              subst σ85
              exact z_lret dX9_likely_88 (by
                refine ⟨?_, hkA⟩
                rw [hlk (by omega) (by omega)]
                first
                | (rw [if_neg (hgn (by omega))]; done)
                | (rw [if_pos (by rw [show sumL (σ 83) C = 0 by omega, show hlL (σ 86) (σ 83) one C = 0 by omega]; rfl)]; done))
            · skip
              refine z_iload dX9_likely_68 rfl ?_
              refine z_i2l dX9_likely_70 ⟨by omega, by omega⟩ ?_
              refine z_goto (tgt := 88) dX9_likely_71 (by decide) ?_
              exact z_lret dX9_likely_88 (by
                refine ⟨?_, hkA⟩
                rw [hlk (by omega) (by omega)]
                first
                | (rw [if_neg (hgn (by omega))]; done)
                | (rw [if_pos (by rw [show sumL (σ 83) C = 0 by omega, show hlL (σ 86) (σ 83) one C = 0 by omega]; rfl)]; done))
          · skip
            refine z_ldc2 dX9_likely_42 kX9_358 ?_
            exact z_lret dX9_likely_45 (by
              refine ⟨?_, frM.rf _ _ σ⟩
              unfold lkG
              by_cases q : one < 0 ∨ 5 < one ∨ part < 0 ∨ 1 < part
              · rw [if_pos q]; rfl
              · have e : hrM σ s m ≠ 0 := by first | omega | (unfold hrM; rw [if_pos (by omega)]; decide)
                rw [if_neg q, if_pos e]; rfl)
