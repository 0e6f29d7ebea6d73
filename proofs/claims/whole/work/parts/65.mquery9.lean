/-! ===== The reference's questions: several, its loop ===== -/
set_option maxRecDepth 20000 in
theorem t_X9_sv139 {d : Nat} {υ : Sto} {t w e0 lost s2 i j : Int} {P : Option Value → Sto → Prop} (hi : 0 ≤ i ∧ i ≤ 100)
    (ih : Z (z_me cX9_several RX9 8 (some .int) (d + 6) P) 50 [some (zR 9), some (zI t), some (zI w), some (zI e0), some (zI lost), some (zI s2), some (zI (i + 1)), none] [] υ) :
    Z (z_me cX9_several RX9 8 (some .int) (d + 6) P) 139 [some (zR 9), some (zI t), some (zI w), some (zI e0), some (zI lost), some (zI s2), some (zI i), some (zI j)] [] υ := by
  refine z_iinc (L' := [_, _, _, _, _, _, _, _]) dX9_several_139 (Nat.le_of_ble_eq_true rfl) rfl rfl rfl ?_
  refine z_goto (tgt := 50) dX9_several_142 (by decide) ?_
  refine z_forget [true, true, true, true, true, true, true, false] (L' := [_, _, _, _, _, _, _, _]) rfl ?_
  exact ih
abbrev MLM (σ : Sto) (s : Int) : List Int := sayL (rwM σ s) (σ 9 7) (σ 118 s.toNat).toNat 0
set_option maxRecDepth 20000 in
set_option maxHeartbeats 1000000 in
theorem l_X9_several {d : Nat} {σ : Sto} {LF : LFT} {t w e0 s2 : Int} (hW : WM LF σ) (hS : SM σ) (hs2 : 0 ≤ s2 ∧ s2 < 6) (h17 : σ 117 s2.toNat = -2) (hw : 0 ≤ w ∧ w ≤ 1) :
    ∀ (k : Nat) (τ : Sto) (X : List Int) (i lost : Int), 0 ≤ i → i + k = σ 118 s2.toNat → KM σ τ → sdM τ X →
    Z (z_me cX9_several RX9 8 (some .int) (d + 6) (qI fun z σ' => z = (if w = 0 then ((svL (pasM LF σ) (finM σ) (σ 83) (sayL (rwM σ s2) (σ 9 7) k i.toNat) X lost).1.length : Int) else (svL (pasM LF σ) (finM σ) (σ 83) (sayL (rwM σ s2) (σ 9 7) k i.toNat) X lost).2) ∧ KM σ σ')) 50 [some (zR 9), some (zI t), some (zI w), some (zI e0), some (zI lost), some (zI s2), some (zI i), none] [] τ
  | 0, τ, X, i, lost, h0, hk, hK, hX => by
    have e118 : τ 118 = σ 118 := hK.1 118 (by decide) (by decide)
    have q8 := (hS s2 hs2.1 hs2.2).2.1
    refine z_iload dX9_several_50 rfl ?_
    refine z_aload_n dX9_several_52 rfl ?_
    refine z_getR dX9_several_53 gX9_128 rfl (Nat.le_of_ble_eq_true rfl) rfl ?_
    refine z_iload dX9_several_56 rfl ?_
    refine z_iald dX9_several_58 rfl (Nat.le_of_ble_eq_true rfl) (by omega) (fun hr58 => ?_)
    refine z_icmp_ge (tgt := 145) dX9_several_59 (by decide) ⟨by omega, by omega⟩ ⟨by omega, by omega⟩ (fun h59 => ?_) (fun h59 => ?_)
    · skip
      refine z_iload_n dX9_several_145 rfl ?_
      refine z_if_ne (tgt := 156) dX9_several_146 (by decide) ⟨by omega, by omega⟩ (fun h146 => ?_) (fun h146 => ?_)
      · skip
        refine z_iload dX9_several_156 rfl ?_
        exact z_iret dX9_several_158 ⟨by first | (rw [if_pos (by omega)]; exact hX.1) | (rw [if_neg (by omega)]; rfl), hK⟩
      · skip
        refine z_aload_n dX9_several_149 rfl ?_
        refine z_getI dX9_several_150 gX9_274 rfl (Nat.le_of_ble_eq_true rfl) rfl (fun hr150 => ?_)
        refine z_goto (tgt := 158) dX9_several_153 (by decide) ?_
        exact z_iret dX9_several_158 ⟨by first | (rw [if_pos (by omega)]; exact hX.1) | (rw [if_neg (by omega)]; rfl), hK⟩
    · exfalso; rw [e118] at h59; omega
  | k + 1, τ, X, i, lost, h0, hk, hK, hX => by
    have e118 : τ 118 = σ 118 := hK.1 118 (by decide) (by decide)
    have e117 : τ 117 = σ 117 := hK.1 117 (by decide) (by decide)
    have e119 : τ 119 = σ 119 := hK.1 119 (by decide) (by decide)
    have e7 : τ 9 7 = σ 9 7 := hK.2 7 (by decide)
    have w7 := hW.2.1
    have q8 := (hS s2 hs2.1 hs2.2).2.1
    have hSt : SM τ := hS.fr hK (by decide) (by decide) (by decide)
    have er : rwM σ s2 i.toNat = τ 119 (60 * s2 + i).toNat := by show σ 119 (60 * s2 + ((i.toNat : Nat) : Int)).toNat = _; rw [show ((i.toNat : Nat) : Int) = i by omega, e119]
    refine z_iload dX9_several_50 rfl ?_
    refine z_aload_n dX9_several_52 rfl ?_
    refine z_getR dX9_several_53 gX9_128 rfl (Nat.le_of_ble_eq_true rfl) rfl ?_
    refine z_iload dX9_several_56 rfl ?_
    refine z_iald dX9_several_58 rfl (Nat.le_of_ble_eq_true rfl) (by omega) (fun hr58 => ?_)
    refine z_icmp_ge (tgt := 145) dX9_several_59 (by decide) ⟨by omega, by omega⟩ ⟨by omega, by omega⟩ (fun h59 => ?_) (fun h59 => ?_)
    · exfalso; rw [e118] at h59; omega
    · skip
      refine z_aload_n dX9_several_62 rfl ?_
      refine z_aload_n dX9_several_63 rfl ?_
      refine z_iload dX9_several_64 rfl ?_
      refine z_iload dX9_several_66 rfl ?_
      refine z_callVI (d := d + 5) (av := [_, _]) dX9_several_68 vX9_277 rfl (Nat.le_of_ble_eq_true rfl) rfl rfl rfl (Nat.le_of_ble_eq_true rfl) (Nat.le_refl _) (c_X9_at hSt hs2 (by rw [e117]; exact h17) (by omega)) (fun z68 σ68 h68 => ?_)
      obtain ⟨rfl, hat, hs68⟩ := h68
      subst σ68
      refine z_callVI (d := d + 5) (av := [_]) dX9_several_71 vX9_180 rfl (Nat.le_of_ble_eq_true rfl) rfl rfl rfl (Nat.le_of_ble_eq_true rfl) (Nat.le_refl _) (c_X9_isMesh (by rw [e7]; exact w7) (by omega)) (fun z71 σ71 h71 => ?_)
      obtain ⟨hs71, h71⟩ := h71
      subst σ71
      rw [e7, ← er] at h71
      refine z_if_eq (tgt := 145) dX9_several_74 (by decide) ⟨by omega, by omega⟩ (fun h74 => ?_) (fun h74 => ?_)
      · skip
        refine z_iload_n dX9_several_145 rfl ?_
        refine z_if_ne (tgt := 156) dX9_several_146 (by decide) ⟨by omega, by omega⟩ (fun h146 => ?_) (fun h146 => ?_)
        · skip
          refine z_iload dX9_several_156 rfl ?_
          exact z_iret dX9_several_158 (by
            have e : sayL (rwM σ s2) (σ 9 7) (k + 1) i.toNat = [] := by rw [sayL, if_neg (by omega)]
            rw [e, svL]
            exact ⟨by first | (rw [if_pos (by omega)]; exact hX.1) | (rw [if_neg (by omega)]), hK⟩)
        · skip
          refine z_aload_n dX9_several_149 rfl ?_
          refine z_getI dX9_several_150 gX9_274 rfl (Nat.le_of_ble_eq_true rfl) rfl (fun hr150 => ?_)
          refine z_goto (tgt := 158) dX9_several_153 (by decide) ?_
          exact z_iret dX9_several_158 (by
            have e : sayL (rwM σ s2) (σ 9 7) (k + 1) i.toNat = [] := by rw [sayL, if_neg (by omega)]
            rw [e, svL]
            exact ⟨by first | (rw [if_pos (by omega)]; exact hX.1) | (rw [if_neg (by omega)]), hK⟩)
      · skip
        refine z_aload_n dX9_several_77 rfl ?_
        refine z_aload_n dX9_several_78 rfl ?_
        refine z_iload dX9_several_79 rfl ?_
        refine z_iload dX9_several_81 rfl ?_
        refine z_callVI (d := d + 5) (av := [_, _]) dX9_several_83 vX9_277 rfl (Nat.le_of_ble_eq_true rfl) rfl rfl rfl (Nat.le_of_ble_eq_true rfl) (Nat.le_refl _) (c_X9_at hSt hs2 (by rw [e117]; exact h17) (by omega)) (fun z83 σ83 h83 => ?_)
        obtain ⟨rfl, hat2, hs83⟩ := h83
        subst σ83
        refine z_iconst dX9_several_86 ?_
        refine z_callVV (d := d + 5) (av := [_, _]) dX9_several_87 vX9_296 rfl (Nat.le_of_ble_eq_true rfl) rfl rfl rfl (Nat.le_of_ble_eq_true rfl) (Nat.le_refl _) (c_X9_goThrough (LF := LF) (X := X) (hK.wm hW rfl) (by rw [← er]; omega) (by decide) hX) (fun σ87 h87 => ?_)
        rw [← er] at h87
        obtain ⟨hk2, t2, t3, t4, t5⟩ := h87
        obtain ⟨hkA, hca, hlf, hsd2, hW2⟩ := thr2_M hW hK hX hk2 t2 t3 t4 t5
        have e83 : σ87 83 = σ 83 := hkA.1 83 (by decide) (by decide)
        refine z_iload dX9_several_90 rfl ?_
        refine z_aload_n dX9_several_92 rfl ?_
        refine z_callVI (d := d + 5) (av := []) dX9_several_93 vX9_306 rfl (Nat.le_of_ble_eq_true rfl) rfl rfl rfl (Nat.le_of_ble_eq_true rfl) (Nat.le_refl _) (c_X9_harmLeft hW2.2.2.2.2.1 hlf) (fun z93 σ93 h93 => ?_)
        obtain ⟨rfl, hs93⟩ := h93
        subst σ93
        rw [e83]
        refine z_iadd dX9_several_96 ?_
        refine z_istore (L' := [_, _, _, _, _, _, _, _]) dX9_several_97 (Nat.le_of_ble_eq_true rfl) rfl rfl ?_
        refine z_aload_n dX9_several_99 rfl ?_
        refine z_aload_n dX9_several_100 rfl ?_
        refine z_getI dX9_several_101 gX9_280 rfl (Nat.le_of_ble_eq_true rfl) rfl (fun hr101 => ?_)
        refine z_putI dX9_several_104 pX9_274 rfl (Nat.le_of_ble_eq_true rfl) rfl ⟨by omega, by omega⟩ ?_
        refine z_iconst dX9_several_107 ?_
        refine z_istore (L' := [_, _, _, _, _, _, _, _]) dX9_several_108 (Nat.le_of_ble_eq_true rfl) rfl rfl ?_
        refine l_X9_svCopy (υ := z_put σ87 9 35 (σ87 9 37)) (C := (cmM LF σ (rwM σ s2 i.toNat) X 0).1) ⟨hca.1, Seg.row (z_put_ne (by decide)) hca.2.1, hca.2.2⟩ (fun υ j hf sC => ?_) (cmM LF σ (rwM σ s2 i.toNat) X 0).1 _ [] 0 rfl rfl (frM.rf _ _ _) trivial (Seg.row (z_put_ne (by decide)) hca.2.1)
        have eL : sayL (rwM σ s2) (σ 9 7) (k + 1) i.toNat = rwM σ s2 i.toNat :: sayL (rwM σ s2) (σ 9 7) k (i.toNat + 1) := by rw [sayL, if_pos (by omega)]
        rw [eL, svL]
        have hkB : KM σ υ := (frM.putF hkA (by decide)).tr (hf.mono (by decide) (by decide))
        have hXB : sdM υ (cmM LF σ (rwM σ s2 i.toNat) X 0).1 := ⟨by rw [hf.2 35 (by decide)]; exact hca.1, sC, hca.2.2⟩
        refine t_X9_sv139 (by omega) ?_
        have h := l_X9_several hW hS hs2 h17 hw k υ _ (i + 1) (lost + sumL (σ 83) (cmM LF σ (rwM σ s2 i.toNat) X 0).2) (by omega) (by omega) hkB hXB (t := t) (e0 := e0) (d := d)
        rw [toN_s h0] at h
        exact h
set_option maxRecDepth 20000 in
theorem c_X9_several {d : Nat} {σ : Sto} {LF : LFT} {sm w : Int} (hW : WM LF σ) (hS : SM σ) (hsR : inR sm) (h2 : inR w) : m_X9_several d [zR 9, zI sm, zI w] σ (qI fun z σ' => z = svG (prM σ sm) (pasM LF σ) (finM σ) (σ 83) (SYM σ (sm.tdiv 10)) (MLM σ (sm.tmod 10)) w ∧ KM σ σ') := by
  have w1 := hW.1
  have hprR := prM_R (σ := σ) (t := sm)
  refine z_does (L := [some (zR 9), some (zI sm), some (zI w), none, none, none, none, none]) rfl (by decide +kernel) (Nat.le_of_ble_eq_true rfl) rfl ?_
  refine z_iload_n dX9_several_0 rfl ?_
  refine z_callSI (d := d + 5) (av := [_]) dX9_several_1 sX9_309 rfl rfl (Nat.le_of_ble_eq_true rfl) (Nat.le_refl _) (c_X9_areShelves (by omega)) (fun z1 σ1 h1 => ?_)
  obtain ⟨hs1, h1⟩ := h1
  subst σ1
  refine z_if_eq (tgt := 16) dX9_several_4 (by decide) ⟨by omega, by omega⟩ (fun h4 => ?_) (fun h4 => ?_)
  · skip
    refine z_iconst dX9_several_16 ?_
    exact z_iret dX9_several_17 (by
      refine ⟨?_, frM.rf _ _ σ⟩
      unfold svG
      by_cases q : w < 0 ∨ 1 < w
      · rw [if_pos q]
      · have e : prM σ sm = -1 := by unfold prM; rw [if_pos (by omega)]
        rw [if_neg q, e]; rfl)
  · skip
    refine z_iload_n dX9_several_7 rfl ?_
    refine z_iconst dX9_several_8 ?_
    refine z_iconst dX9_several_9 ?_
    refine z_callSI (d := d + 5) (av := [_, _, _]) dX9_several_10 sX9_143 rfl rfl (Nat.le_of_ble_eq_true rfl) (Nat.le_refl _) (c_X9_in (by omega) (by omega) (by omega)) (fun z10 σ10 h10 => ?_)
    obtain ⟨hs10, h10⟩ := h10
    subst σ10
    refine z_if_ne (tgt := 18) dX9_several_13 (by decide) ⟨by omega, by omega⟩ (fun h13 => ?_) (fun h13 => ?_)
    · skip
      refine z_aload_n dX9_several_18 rfl ?_
      refine z_iload_n dX9_several_19 rfl ?_
      refine z_callVI (d := d + 5) (av := [_]) dX9_several_20 vX9_312 rfl (Nat.le_of_ble_eq_true rfl) rfl rfl rfl (Nat.le_of_ble_eq_true rfl) (Nat.le_refl _) (c_X9_bothFault hS (by omega) hsR) (fun z20 σ20 h20 => ?_)
      obtain ⟨rfl, hs20⟩ := h20
      subst σ20
      refine z_istore_n (L' := [_, _, _, _, _, _, _, _]) dX9_several_23 (Nat.le_of_ble_eq_true rfl) rfl rfl ?_
      refine z_iload_n dX9_several_24 rfl ?_
      refine z_if_ge (tgt := 30) dX9_several_25 (by decide) ⟨by omega, by omega⟩ (fun h25 => ?_) (fun h25 => ?_)
      · skip
        obtain ⟨p1, p2, p3, p4, p5⟩ := prM_0 (σ := σ) (t := sm) (by omega)
        have q8 := (hS (sm.tmod 10) p2.1 p2.2).2.1
        refine z_aload_n dX9_several_30 rfl ?_
        refine z_iload_n dX9_several_31 rfl ?_
        refine z_bipush (v := 10) dX9_several_32 (by decide +kernel) ?_
        refine z_idiv dX9_several_34 ⟨by omega, by omega⟩ ⟨by omega, by omega⟩ (by omega) ?_
        refine z_callVV (d := d + 5) (av := [_]) dX9_several_35 vX9_292 rfl (Nat.le_of_ble_eq_true rfl) rfl rfl rfl (Nat.le_of_ble_eq_true rfl) (Nat.le_refl _) (c_X9_laySaying w1 hS p1 p3) (fun σ35 h35 => ?_)
        obtain ⟨hk1, hsd⟩ := h35
        refine z_iconst dX9_several_38 ?_
        refine z_istore (L' := [_, _, _, _, _, _, _, _]) dX9_several_39 (Nat.le_of_ble_eq_true rfl) rfl rfl ?_
        refine z_iload_n dX9_several_41 rfl ?_
        refine z_bipush (v := 10) dX9_several_42 (by decide +kernel) ?_
        refine z_irem dX9_several_44 ⟨by omega, by omega⟩ ⟨by omega, by omega⟩ (by omega) ?_
        refine z_istore (L' := [_, _, _, _, _, _, _, _]) dX9_several_45 (Nat.le_of_ble_eq_true rfl) rfl rfl ?_
        refine z_iconst dX9_several_47 ?_
        refine z_istore (L' := [_, _, _, _, _, _, _, _]) dX9_several_48 (Nat.le_of_ble_eq_true rfl) rfl rfl ?_
        have h := l_X9_several (d := d) (t := sm) (w := w) (e0 := prM σ sm) hW hS p2 p4 (by omega) (σ 118 (sm.tmod 10).toNat).toNat σ35 (SYM σ (sm.tdiv 10)) 0 0 (by omega) (by omega) (hk1.mono (by decide) (by decide)) hsd
        unfold svG
        rw [if_neg (by omega), if_neg (by omega)]
        exact h
      · skip
        refine z_iload_n dX9_several_28 rfl ?_
        exact z_iret dX9_several_29 (⟨by unfold svG; rw [if_neg (by omega), if_pos (by omega)], frM.rf _ _ σ⟩)
    · skip
      refine z_iconst dX9_several_16 ?_
      exact z_iret dX9_several_17 (by
        refine ⟨?_, frM.rf _ _ σ⟩
        unfold svG
        by_cases q : w < 0 ∨ 1 < w
        · rw [if_pos q]
        · have e : prM σ sm = -1 := by unfold prM; rw [if_pos (by omega)]
          rw [if_neg q, e]; rfl)
