/-! ===== The reference's questions: finest, leastLost ===== -/
theorem thr2_M {LF : LFT} {σ τ υ : Sto} {m q : Int} {X : List Int} (hW : WM LF σ) (hK : KM σ τ) (hsd : sdM τ X) (hk2 : gtK τ υ) (t2 : υ 9 37 = ((cmM LF τ m X q).1.length : Int)) (t3 : υ 9 39 = ((cmM LF τ m X q).2.length : Int)) (t4 : Seg υ 104 0 (cmM LF τ m X q).1) (t5 : Seg υ 105 0 (cmM LF τ m X q).2) :
    KM σ υ ∧ caM υ (cmM LF σ m X q).1 ∧ lfM υ (cmM LF σ m X q).2 ∧ sdM υ X ∧ WM LF υ := by
  have ecm : cmM LF τ m X q = cmM LF σ m X q := by show cmL (pasM LF τ (finM τ m)) _ _ _ = _; rw [hK.fi rfl, hK.pm rfl]
  rw [ecm] at t2 t3 t4 t5
  have hkA : KM σ υ := hK.tr (hk2.mono (by decide) (by decide))
  have hlen := cmL_len (ps := pasM LF σ (finM σ m)) X 0 q
  have hwk := cmL_wok (ps := pasM LF σ (finM σ m)) X 0 q hsd.2.2.1
  have hl13 := hsd.2.2.2
  refine ⟨hkA, ⟨t2, t4, hwk.1, ?_⟩, ⟨t3, t5, hwk.2, ?_⟩, ⟨?_, ?_, hsd.2.2⟩, hkA.wm hW rfl⟩
  · show (cmL (pasM LF σ (finM σ m)) X 0 q).1.length ≤ 13; omega
  · show (cmL (pasM LF σ (finM σ m)) X 0 q).2.length ≤ 13; omega
  · rw [hk2.2 35 (by decide)]; exact hsd.1
  · exact Seg.row (hk2.1 103 (by decide) (by decide)) hsd.2.1
set_option maxRecDepth 20000 in
theorem l_X9_allPass {d : Nat} {σ : Sto} {LF : LFT} {f : Int} (hW : WM LF σ) (hf : 0 ≤ f ∧ f ≤ 9) (n : Int) (hn : n ≤ 13) (h35 : σ 9 35 = n) :
    ∀ (X : List Int) (τ : Sto) (i : Int), 0 ≤ i → i + X.length = n → wok X → Seg σ 103 i.toNat X → pMK σ τ →
    Z (z_me cX9_allPass RX9 3 (some .boolean) (d + 4) (qI fun z σ' => z = (if (cmL (pasM LF σ f) X i 0).2 = [] then 1 else 0) ∧ pMK σ σ')) 2 [some (zR 9), some (zI f), some (zI i)] [] τ
  | [], τ, i, h0, hl, hx, hs, hK => by
    have e35 : τ 9 35 = σ 9 35 := hK.2 35 (by decide)
    rw [List.length_nil] at hl
    refine z_iload_n dX9_allPass_2 rfl ?_
    refine z_aload_n dX9_allPass_3 rfl ?_
    refine z_getI dX9_allPass_4 gX9_274 rfl (Nat.le_of_ble_eq_true rfl) rfl (fun hr4 => ?_)
    refine z_icmp_ge (tgt := 34) dX9_allPass_7 (by decide) ⟨by omega, by omega⟩ ⟨by omega, by omega⟩ (fun h7 => ?_) (fun h7 => ?_)
    · skip
      refine z_iconst dX9_allPass_34 ?_
      exact z_zret dX9_allPass_35 (by omega) ⟨rfl, hK⟩
    · exfalso; omega
  | w :: r, τ, i, h0, hl, hx, hs, hK => by
    have e35 : τ 9 35 = σ 9 35 := hK.2 35 (by decide)
    rw [List.length_cons] at hl
    obtain ⟨e1, hs⟩ := hs
    obtain ⟨hw, hx⟩ := wok_c hx
    have e103 : τ 103 i.toNat = w := by rw [hK.1 103 (by decide) (by decide)]; exact e1
    refine z_iload_n dX9_allPass_2 rfl ?_
    refine z_aload_n dX9_allPass_3 rfl ?_
    refine z_getI dX9_allPass_4 gX9_274 rfl (Nat.le_of_ble_eq_true rfl) rfl (fun hr4 => ?_)
    refine z_icmp_ge (tgt := 34) dX9_allPass_7 (by decide) ⟨by omega, by omega⟩ ⟨by omega, by omega⟩ (fun h7 => ?_) (fun h7 => ?_)
    · exfalso; omega
    · skip
      refine z_aload_n dX9_allPass_10 rfl ?_
      refine z_aload_n dX9_allPass_11 rfl ?_
      refine z_getR dX9_allPass_12 gX9_81 rfl (Nat.le_of_ble_eq_true rfl) rfl ?_
      refine z_iload_n dX9_allPass_15 rfl ?_
      refine z_iald dX9_allPass_16 rfl (Nat.le_of_ble_eq_true rfl) (by omega) (fun hr16 => ?_)
      rw [e103]
      refine z_iload_n dX9_allPass_17 rfl ?_
      refine z_iload_n dX9_allPass_18 rfl ?_
      refine z_iconst dX9_allPass_19 ?_
      refine z_callVI (d := d + 3) (av := [_, _, _, _]) dX9_allPass_20 vX9_267 rfl (Nat.le_of_ble_eq_true rfl) rfl rfl rfl (Nat.le_of_ble_eq_true rfl) (Nat.le_refl _) (c_X9_passesBy (LF := LF) (hK.wm hW rfl) hw hf (by omega) (by omega)) (fun z20 σ20 h20 => ?_)
      obtain ⟨hps, hfr⟩ := h20
      rw [hK.pm rfl] at hps
      refine z_if_ne (tgt := 28) dX9_allPass_23 (by decide) ⟨by omega, by omega⟩ (fun h23 => ?_) (fun h23 => ?_)
      · skip
        refine z_iinc (L' := [_, _, _]) dX9_allPass_28 (Nat.le_of_ble_eq_true rfl) rfl rfl rfl ?_
        refine z_goto (tgt := 2) dX9_allPass_31 (by decide) ?_
        have hp : pasM LF σ f w i 0 = true := by rcases hps with q | q; exact q.2; exfalso; omega
        rw [show (cmL (pasM LF σ f) (w :: r) i 0).2 = (cmL (pasM LF σ f) r (i + 1) 0).2 by rw [cmL, if_pos hp]]
        exact l_X9_allPass hW hf n hn h35 r _ (i + 1) (by omega) (by omega) hx (by rw [toN_s h0]; exact hs) (hK.tr hfr)
      · skip
        refine z_iconst dX9_allPass_26 ?_
        exact z_zret dX9_allPass_27 (by omega) (by
          have hp : ¬ pasM LF σ f w i 0 = true := by rcases hps with q | q; (exfalso; omega); rw [q.2]; exact Bool.false_ne_true
          exact ⟨by rw [show (cmL (pasM LF σ f) (w :: r) i 0).2 = w :: (cmL (pasM LF σ f) r (i + 1) (0 + 1)).2 by rw [cmL, if_neg hp]]; rfl, hK.tr hfr⟩)
set_option maxRecDepth 20000 in
theorem c_X9_allPass {d : Nat} {σ : Sto} {LF : LFT} {f : Int} {X : List Int} (hW : WM LF σ) (hf : 0 ≤ f ∧ f ≤ 9) (hX : sdM σ X) : m_X9_allPass d [zR 9, zI f] σ (qI fun z σ' => z = (if (cmL (pasM LF σ f) X 0 0).2 = [] then 1 else 0) ∧ pMK σ σ') := by
  obtain ⟨x1, x2, x3, x4⟩ := hX
  refine z_does (L := [some (zR 9), some (zI f), none]) rfl (by decide +kernel) (Nat.le_of_ble_eq_true rfl) rfl ?_
  refine z_iconst dX9_allPass_0 ?_
  refine z_istore_n (L' := [_, _, _]) dX9_allPass_1 (Nat.le_of_ble_eq_true rfl) rfl rfl ?_
  exact l_X9_allPass hW hf (X.length : Int) (by omega) x1 X σ 0 (by omega) (by omega) x3 x2 (frM.rf _ _ σ)
set_option maxRecDepth 20000 in
theorem l_X9_finest {d : Nat} {σ : Sto} {LF : LFT} {s e0 : Int} (hW : WM LF σ) :
    ∀ (m : Nat) (τ : Sto) (f : Int), f + 1 = m → f ≤ 9 → KM σ τ → sdM τ (SYM σ s) →
    Z (z_me cX9_finest RX9 4 (some .int) (d + 5) (qI fun z σ' => z = fnL (fun f => decide ((cmL (pasM LF σ f) (SYM σ s) 0 0).2 = [])) m ∧ KM σ σ')) 29 [some (zR 9), some (zI s), some (zI e0), some (zI f)] [] τ
  | 0, τ, f, hf, h9, hk, hX => by
    refine z_iload_n dX9_finest_29 rfl ?_
    refine z_if_lt (tgt := 49) dX9_finest_30 (by decide) ⟨by omega, by omega⟩ (fun h30 => ?_) (fun h30 => ?_)
    · skip
      refine z_bipush (v := -2) dX9_finest_49 (by decide +kernel) ?_
      exact z_iret dX9_finest_51 ⟨rfl, hk⟩
    · exfalso; omega
  | m + 1, τ, f, hf, h9, hk, hX => by
    have ef : f = m := by omega
    refine z_iload_n dX9_finest_29 rfl ?_
    refine z_if_lt (tgt := 49) dX9_finest_30 (by decide) ⟨by omega, by omega⟩ (fun h30 => ?_) (fun h30 => ?_)
    · exfalso; omega
    · skip
      refine z_aload_n dX9_finest_33 rfl ?_
      refine z_iload_n dX9_finest_34 rfl ?_
      refine z_callVI (d := d + 4) (av := [_]) dX9_finest_35 vX9_333 rfl (Nat.le_of_ble_eq_true rfl) rfl rfl rfl (Nat.le_of_ble_eq_true rfl) (Nat.le_refl _) (c_X9_allPass (LF := LF) (hk.wm hW rfl) (by omega) hX) (fun z35 σ35 h35 => ?_)
      obtain ⟨hz, hfr⟩ := h35
      rw [hk.pm rfl] at hz
      have hk2 : KM σ σ35 := hk.tr (hfr.mono (by decide) (by decide))
      have hX2 : sdM σ35 (SYM σ s) := ⟨by rw [hfr.2 35 (by decide)]; exact hX.1, Seg.row (hfr.1 103 (by decide) (by decide)) hX.2.1, hX.2.2⟩
      refine z_if_eq (tgt := 43) dX9_finest_38 (by decide) (by rw [hz]; split <;> exact ⟨by decide, by decide⟩) (fun h38 => ?_) (fun h38 => ?_)
      · skip
        refine z_iinc (L' := [_, _, _, _]) dX9_finest_43 (Nat.le_of_ble_eq_true rfl) rfl rfl rfl ?_
        refine z_goto (tgt := 29) dX9_finest_46 (by decide) ?_
        have hne : ¬ (cmL (pasM LF σ f) (SYM σ s) 0 0).2 = [] := fun q => by rw [if_pos q] at hz; omega
        rw [fnL, if_neg (by rw [decide_eq_true_eq, ← ef]; exact hne)]
        exact l_X9_finest hW m _ (f + -1) (by omega) (by omega) hk2 hX2
      · skip
        refine z_iload_n dX9_finest_41 rfl ?_
        exact z_iret dX9_finest_42 (by
          have he : (cmL (pasM LF σ f) (SYM σ s) 0 0).2 = [] := by
            by_cases q : (cmL (pasM LF σ f) (SYM σ s) 0 0).2 = []
            · exact q
            · rw [if_neg q] at hz; exfalso; omega
          exact ⟨by rw [fnL, if_pos (by rw [decide_eq_true_eq, ← ef]; exact he)]; exact ef, hk2⟩)
set_option maxRecDepth 20000 in
theorem c_X9_finest {d : Nat} {σ : Sto} {LF : LFT} {s : Int} (hW : WM LF σ) (hS : SM σ) (hs : inR s) : m_X9_finest d [zR 9, zI s] σ (qI fun z σ' => z = fnG (hrM σ s (-1)) (pasM LF σ) (SYM σ s) ∧ KM σ σ') := by
  have w1 := hW.1
  have w7 := hW.2.1
  refine z_does (L := [some (zR 9), some (zI s), none, none]) rfl (by decide +kernel) (Nat.le_of_ble_eq_true rfl) rfl ?_
  refine z_iload_n dX9_finest_0 rfl ?_
  refine z_callSI (d := d + 4) (av := [_]) dX9_finest_1 sX9_154 rfl rfl (Nat.le_of_ble_eq_true rfl) (Nat.le_refl _) (c_X9_isShelf (by omega)) (fun z1 σ1 h1 => ?_)
  obtain ⟨hs1, h1⟩ := h1
  subst σ1
  refine z_if_ne (tgt := 9) dX9_finest_4 (by decide) ⟨by omega, by omega⟩ (fun h4 => ?_) (fun h4 => ?_)
  · skip
    refine z_aload_n dX9_finest_9 rfl ?_
    refine z_iload_n dX9_finest_10 rfl ?_
    refine z_callVI (d := d + 4) (av := [_]) dX9_finest_11 vX9_289 rfl (Nat.le_of_ble_eq_true rfl) rfl rfl rfl (Nat.le_of_ble_eq_true rfl) (Nat.le_refl _) (c_X9_rowFault hS (by omega)) (fun z11 σ11 h11 => ?_)
    obtain ⟨hz, hs11⟩ := h11
    subst σ11
    obtain ⟨ehr, hz3⟩ := rf_M (m := -1) (by omega) (by omega) hz
    refine z_istore_n (L' := [_, _, _, _]) dX9_finest_14 (Nat.le_of_ble_eq_true rfl) rfl rfl ?_
    refine z_iload_n dX9_finest_15 rfl ?_
    refine z_if_ge (tgt := 21) dX9_finest_16 (by decide) ⟨by omega, by omega⟩ (fun h16 => ?_) (fun h16 => ?_)
    · skip
      refine z_aload_n dX9_finest_21 rfl ?_
      refine z_iload_n dX9_finest_22 rfl ?_
      refine z_callVV (d := d + 4) (av := [_]) dX9_finest_23 vX9_292 rfl (Nat.le_of_ble_eq_true rfl) rfl rfl rfl (Nat.le_of_ble_eq_true rfl) (Nat.le_refl _) (c_X9_laySaying w1 hS (by omega) (by omega)) (fun σ23 h23 => ?_)
      obtain ⟨hk1, hsd⟩ := h23
      refine z_bipush (v := 9) dX9_finest_26 (by decide +kernel) ?_
      refine z_istore_n (L' := [_, _, _, _]) dX9_finest_28 (Nat.le_of_ble_eq_true rfl) rfl rfl ?_
      unfold fnG
      rw [if_neg (by omega)]
      exact l_X9_finest hW 10 σ23 9 (by omega) (by omega) (hk1.mono (by decide) (by decide)) hsd
    · skip
      refine z_iload_n dX9_finest_19 rfl ?_
      exact z_iret dX9_finest_20 (⟨by unfold fnG; rw [if_pos (by omega)]; exact ehr.symm, frM.rf _ _ σ⟩)
  · skip
    refine z_iconst dX9_finest_7 ?_
    exact z_iret dX9_finest_8 (by
      have e : hrM σ s (-1) = -1 := by unfold hrM; rw [if_pos (by omega)]
      exact ⟨by unfold fnG; rw [e]; rfl, frM.rf _ _ σ⟩)
