/-! ===== The reference's questions: leastLost ===== -/
set_option maxRecDepth 20000 in
theorem l_X9_llIn {d : Nat} {τ : Sto} {s0 e0 best least m : Int} {P : Option Value → Sto → Prop} (h84 : ∀ j, 0 ≤ τ 84 j ∧ τ 84 j ≤ 9) (n : Int) (hn : n ≤ 13) (h39 : τ 9 39 = n) :
    ∀ (X : List Int) (i acc : Int), 0 ≤ i → i + X.length = n → wok X → Seg τ 105 i.toNat X → 0 ≤ acc ∧ acc ≤ 9 * i →
    (∀ acc' i', acc' = acc + sumL (τ 84) X → Z (z_me cX9_leastLost RX9 8 (some .int) (d + 6) P) 89 [some (zR 9), some (zI s0), some (zI e0), some (zI best), some (zI least), some (zI m), some (zI acc'), some (zI i')] [] τ) →
    Z (z_me cX9_leastLost RX9 8 (some .int) (d + 6) P) 57 [some (zR 9), some (zI s0), some (zI e0), some (zI best), some (zI least), some (zI m), some (zI acc), some (zI i)] [] τ
  | [], i, acc, h0, hl, hx, hs, ha, hk => by
    rw [List.length_nil] at hl
    refine z_iload dX9_leastLost_57 rfl ?_
    refine z_aload_n dX9_leastLost_59 rfl ?_
    refine z_getI dX9_leastLost_60 gX9_283 rfl (Nat.le_of_ble_eq_true rfl) rfl (fun hr60 => ?_)
    refine z_icmp_ge (tgt := 89) dX9_leastLost_63 (by decide) ⟨by omega, by omega⟩ ⟨by omega, by omega⟩ (fun h63 => ?_) (fun h63 => ?_)
    · skip
      exact hk acc i (by rw [sumL]; omega)
    · exfalso; omega
  | w :: r, i, acc, h0, hl, hx, hs, ha, hk => by
    rw [List.length_cons] at hl
    obtain ⟨e1, hs⟩ := hs
    obtain ⟨hw, hx⟩ := wok_c hx
    have w84 := h84 w.toNat
    refine z_iload dX9_leastLost_57 rfl ?_
    refine z_aload_n dX9_leastLost_59 rfl ?_
    refine z_getI dX9_leastLost_60 gX9_283 rfl (Nat.le_of_ble_eq_true rfl) rfl (fun hr60 => ?_)
    refine z_icmp_ge (tgt := 89) dX9_leastLost_63 (by decide) ⟨by omega, by omega⟩ ⟨by omega, by omega⟩ (fun h63 => ?_) (fun h63 => ?_)
    · exfalso; omega
    · skip
      refine z_iload dX9_leastLost_66 rfl ?_
      refine z_aload_n dX9_leastLost_68 rfl ?_
      refine z_getR dX9_leastLost_69 gX9_18 rfl (Nat.le_of_ble_eq_true rfl) rfl ?_
      refine z_aload_n dX9_leastLost_72 rfl ?_
      refine z_getR dX9_leastLost_73 gX9_87 rfl (Nat.le_of_ble_eq_true rfl) rfl ?_
      refine z_iload dX9_leastLost_76 rfl ?_
      refine z_iald dX9_leastLost_78 rfl (Nat.le_of_ble_eq_true rfl) (by omega) (fun hr78 => ?_)
      rw [e1]
      refine z_iald dX9_leastLost_79 rfl (Nat.le_of_ble_eq_true rfl) (by omega) (fun hr79 => ?_)
      refine z_iadd dX9_leastLost_80 ?_
      refine z_istore (L' := [_, _, _, _, _, _, _, _]) dX9_leastLost_81 (Nat.le_of_ble_eq_true rfl) rfl rfl ?_
      refine z_iinc (L' := [_, _, _, _, _, _, _, _]) dX9_leastLost_83 (Nat.le_of_ble_eq_true rfl) rfl rfl rfl ?_
      refine z_goto (tgt := 57) dX9_leastLost_86 (by decide) ?_
      exact l_X9_llIn h84 n hn h39 r (i + 1) _ (by omega) (by omega) hx (by rw [toN_s h0]; exact hs) (by omega) (fun acc' i' q => hk acc' i' (by rw [sumL]; omega))
set_option maxRecDepth 20000 in
set_option maxHeartbeats 1000000 in
theorem t_X9_leastLost {d : Nat} {τ : Sto} {LF : LFT} {s0 e0 best least m acc : Int} {x : Int} {A : List Int} {P : Option Value → Sto → Prop} (hW : WM LF τ) (hA : caM τ A) (hm : 0 ≤ m ∧ m < 5) (hb : best = -2 ∨ (0 ≤ best ∧ best < 5)) (r1 : inR acc) (r2 : inR least)
    (ih1 : (best = -2 ∨ acc < least) ∧ hurtM τ A = 0 → Z (z_me cX9_leastLost RX9 8 (some .int) (d + 6) P) 35 [some (zR 9), some (zI s0), some (zI e0), some (zI m), some (zI acc), some (zI (m + 1)), none, none] [] τ)
    (ih2 : ¬ ((best = -2 ∨ acc < least) ∧ hurtM τ A = 0) → Z (z_me cX9_leastLost RX9 8 (some .int) (d + 6) P) 35 [some (zR 9), some (zI s0), some (zI e0), some (zI best), some (zI least), some (zI (m + 1)), none, none] [] τ) :
    Z (z_me cX9_leastLost RX9 8 (some .int) (d + 6) P) 89 [some (zR 9), some (zI s0), some (zI e0), some (zI best), some (zI least), some (zI m), some (zI acc), some (zI x)] [] τ := by
  have hu := hurtL_R6 (A4 := τ 86) (A1 := τ 83) (A2 := τ 84) (th := τ 90) (p := τ 9 11) (X := A) hW.2.2.1
  have hu : 0 ≤ hurtM τ A ∧ hurtM τ A < 64 := hu
  refine z_aload_n dX9_leastLost_89 rfl ?_
  refine z_iconst dX9_leastLost_90 ?_
  refine z_callVI (d := d + 5) (av := [_]) dX9_leastLost_91 vX9_302 rfl (Nat.le_of_ble_eq_true rfl) rfl rfl rfl (Nat.le_of_ble_eq_true rfl) (Nat.le_refl _) (c_X9_hurtBy (LF := LF) hW hA.2.2.2 hA.2.2.1 hA.hu) (fun z91 σ91 h91 => ?_)
  obtain ⟨rfl, hs91⟩ := h91
  subst σ91
  refine z_if_ne (tgt := 118) dX9_leastLost_94 (by decide) ⟨by omega, by omega⟩ (fun h94 => ?_) (fun h94 => ?_)
  · skip
    refine z_iinc (L' := [_, _, _, _, _, _, _, _]) dX9_leastLost_118 (Nat.le_of_ble_eq_true rfl) rfl rfl rfl ?_
    refine z_goto (tgt := 35) dX9_leastLost_121 (by decide) ?_
    refine z_forget [true, true, true, true, true, true, false, false] (L' := [_, _, _, _, _, _, _, _]) rfl ?_
    first
      | exact ih1 ⟨by omega, by omega⟩
      | exact ih2 (fun q => by omega)
  · skip
    refine z_iload_n dX9_leastLost_97 rfl ?_
    refine z_if_lt (tgt := 111) dX9_leastLost_98 (by decide) ⟨by omega, by omega⟩ (fun h98 => ?_) (fun h98 => ?_)
    · skip
      refine z_iload dX9_leastLost_111 rfl ?_
      refine z_istore_n (L' := [_, _, _, _, _, _, _, _]) dX9_leastLost_113 (Nat.le_of_ble_eq_true rfl) rfl rfl ?_
      refine z_iload dX9_leastLost_114 rfl ?_
      refine z_istore (L' := [_, _, _, _, _, _, _, _]) dX9_leastLost_116 (Nat.le_of_ble_eq_true rfl) rfl rfl ?_
      refine z_iinc (L' := [_, _, _, _, _, _, _, _]) dX9_leastLost_118 (Nat.le_of_ble_eq_true rfl) rfl rfl rfl ?_
      refine z_goto (tgt := 35) dX9_leastLost_121 (by decide) ?_
      refine z_forget [true, true, true, true, true, true, false, false] (L' := [_, _, _, _, _, _, _, _]) rfl ?_
      first
        | exact ih1 ⟨by omega, by omega⟩
        | exact ih2 (fun q => by omega)
    · skip
      refine z_iload dX9_leastLost_101 rfl ?_
      refine z_iload dX9_leastLost_103 rfl ?_
      refine z_icmp_lt (tgt := 111) dX9_leastLost_105 (by decide) ⟨by omega, by omega⟩ ⟨by omega, by omega⟩ (fun h105 => ?_) (fun h105 => ?_)
      · skip
        refine z_iload dX9_leastLost_111 rfl ?_
        refine z_istore_n (L' := [_, _, _, _, _, _, _, _]) dX9_leastLost_113 (Nat.le_of_ble_eq_true rfl) rfl rfl ?_
        refine z_iload dX9_leastLost_114 rfl ?_
        refine z_istore (L' := [_, _, _, _, _, _, _, _]) dX9_leastLost_116 (Nat.le_of_ble_eq_true rfl) rfl rfl ?_
        refine z_iinc (L' := [_, _, _, _, _, _, _, _]) dX9_leastLost_118 (Nat.le_of_ble_eq_true rfl) rfl rfl rfl ?_
        refine z_goto (tgt := 35) dX9_leastLost_121 (by decide) ?_
        refine z_forget [true, true, true, true, true, true, false, false] (L' := [_, _, _, _, _, _, _, _]) rfl ?_
        first
          | exact ih1 ⟨by omega, by omega⟩
          | exact ih2 (fun q => by omega)
      · skip
        refine z_goto (tgt := 118) dX9_leastLost_108 (by decide) ?_
        refine z_iinc (L' := [_, _, _, _, _, _, _, _]) dX9_leastLost_118 (Nat.le_of_ble_eq_true rfl) rfl rfl rfl ?_
        refine z_goto (tgt := 35) dX9_leastLost_121 (by decide) ?_
        refine z_forget [true, true, true, true, true, true, false, false] (L' := [_, _, _, _, _, _, _, _]) rfl ?_
        first
          | exact ih1 ⟨by omega, by omega⟩
          | exact ih2 (fun q => by omega)
set_option maxRecDepth 20000 in
set_option maxHeartbeats 1000000 in
theorem l_X9_leastLost {d : Nat} {σ : Sto} {LF : LFT} {s e0 : Int} (hW : WM LF σ) :
    ∀ (k : Nat) (τ : Sto) (m best least : Int), 0 ≤ m → m + k = σ 9 7 → (best = -2 ∨ (0 ≤ best ∧ best < 5)) → (0 ≤ least ∧ least ≤ 1000) → KM σ τ → sdM τ (SYM σ s) →
    Z (z_me cX9_leastLost RX9 8 (some .int) (d + 6) (qI fun z σ' => z = llL (pasM LF σ) (finM σ) (σ 84) (hurtM σ) (SYM σ s) k m best least ∧ KM σ σ')) 35 [some (zR 9), some (zI s), some (zI e0), some (zI best), some (zI least), some (zI m), none, none] [] τ
  | 0, τ, m, best, least, h0, hm, hb, hl, hk, hX => by
    have e7 : τ 9 7 = σ 9 7 := hk.2 7 (by decide)
    have w2 := hW.2.1
    refine z_iload dX9_leastLost_35 rfl ?_
    refine z_aload_n dX9_leastLost_37 rfl ?_
    refine z_getI dX9_leastLost_38 gX9_147 rfl (Nat.le_of_ble_eq_true rfl) rfl (fun hr38 => ?_)
    refine z_icmp_ge (tgt := 124) dX9_leastLost_41 (by decide) ⟨by omega, by omega⟩ ⟨by omega, by omega⟩ (fun h41 => ?_) (fun h41 => ?_)
    · skip
      refine z_iload_n dX9_leastLost_124 rfl ?_
      exact z_iret dX9_leastLost_125 ⟨rfl, hk⟩
    · exfalso; omega
  | k + 1, τ, m, best, least, h0, hm, hb, hl, hk, hX => by
    have e7 : τ 9 7 = σ 9 7 := hk.2 7 (by decide)
    have w2 := hW.2.1
    refine z_iload dX9_leastLost_35 rfl ?_
    refine z_aload_n dX9_leastLost_37 rfl ?_
    refine z_getI dX9_leastLost_38 gX9_147 rfl (Nat.le_of_ble_eq_true rfl) rfl (fun hr38 => ?_)
    refine z_icmp_ge (tgt := 124) dX9_leastLost_41 (by decide) ⟨by omega, by omega⟩ ⟨by omega, by omega⟩ (fun h41 => ?_) (fun h41 => ?_)
    · exfalso; omega
    · skip
      refine z_aload_n dX9_leastLost_44 rfl ?_
      refine z_iload dX9_leastLost_45 rfl ?_
      refine z_iconst dX9_leastLost_47 ?_
      refine z_callVV (d := d + 5) (av := [_, _]) dX9_leastLost_48 vX9_296 rfl (Nat.le_of_ble_eq_true rfl) rfl rfl rfl (Nat.le_of_ble_eq_true rfl) (Nat.le_refl _) (c_X9_goThrough (LF := LF) (X := SYM σ s) (hk.wm hW rfl) (by omega) (by decide) hX) (fun σ48 h48 => ?_)
      obtain ⟨hk2, t2, t3, t4, t5⟩ := h48
      obtain ⟨hkA, hca, hlf, hsd2, hW2⟩ := thr2_M hW hk hX hk2 t2 t3 t4 t5
      have e84 : σ48 84 = σ 84 := hkA.1 84 (by decide) (by decide)
      have eh := hkA.hu rfl (cmM LF σ m (SYM σ s) 0).1
      have hsR := sumL_R (f := σ 84) hW.2.2.2.2.2.1 (cmM LF σ m (SYM σ s) 0).2
      have hl13 := hlf.2.2.2
      refine z_iconst dX9_leastLost_51 ?_
      refine z_istore (L' := [_, _, _, _, _, _, _, _]) dX9_leastLost_52 (Nat.le_of_ble_eq_true rfl) rfl rfl ?_
      refine z_iconst dX9_leastLost_54 ?_
      refine z_istore (L' := [_, _, _, _, _, _, _, _]) dX9_leastLost_55 (Nat.le_of_ble_eq_true rfl) rfl rfl ?_
      refine l_X9_llIn hW2.2.2.2.2.2.1 _ (by omega) hlf.1 (cmM LF σ m (SYM σ s) 0).2 0 0 (by omega) (by omega) hlf.2.2.1 hlf.2.1 (by omega) (fun acc' i' q => ?_)
      rw [Int.zero_add, e84] at q
      refine t_X9_leastLost hW2 hca (by omega) hb (by omega) (by omega) (fun c => ?_) (fun c => ?_)
      · rw [eh, q] at c
        rw [llL, if_pos c, q]
        exact l_X9_leastLost hW k _ (m + 1) m _ (by omega) (by omega) (by omega) ⟨hsR.1, Int.le_trans hsR.2 (by omega)⟩ hkA hsd2
      · rw [eh, q] at c
        rw [llL, if_neg c]
        exact l_X9_leastLost hW k _ (m + 1) best least (by omega) (by omega) hb hl hkA hsd2
set_option maxRecDepth 20000 in
theorem c_X9_leastLost {d : Nat} {σ : Sto} {LF : LFT} {s : Int} (hW : WM LF σ) (hS : SM σ) (hs : inR s) : m_X9_leastLost d [zR 9, zI s] σ (qI fun z σ' => z = llG (hrM σ s (-1)) (σ 9 7).toNat (pasM LF σ) (finM σ) (σ 84) (hurtM σ) (SYM σ s) ∧ KM σ σ') := by
  have w1 := hW.1
  have w7 := hW.2.1
  refine z_does (L := [some (zR 9), some (zI s), none, none, none, none, none, none]) rfl (by decide +kernel) (Nat.le_of_ble_eq_true rfl) rfl ?_
  refine z_iload_n dX9_leastLost_0 rfl ?_
  refine z_callSI (d := d + 5) (av := [_]) dX9_leastLost_1 sX9_154 rfl rfl (Nat.le_of_ble_eq_true rfl) (Nat.le_refl _) (c_X9_isShelf (by omega)) (fun z1 σ1 h1 => ?_)
  obtain ⟨hs1, h1⟩ := h1
  subst σ1
  refine z_if_ne (tgt := 9) dX9_leastLost_4 (by decide) ⟨by omega, by omega⟩ (fun h4 => ?_) (fun h4 => ?_)
  · skip
    refine z_aload_n dX9_leastLost_9 rfl ?_
    refine z_iload_n dX9_leastLost_10 rfl ?_
    refine z_callVI (d := d + 5) (av := [_]) dX9_leastLost_11 vX9_289 rfl (Nat.le_of_ble_eq_true rfl) rfl rfl rfl (Nat.le_of_ble_eq_true rfl) (Nat.le_refl _) (c_X9_rowFault hS (by omega)) (fun z11 σ11 h11 => ?_)
    obtain ⟨hz, hs11⟩ := h11
    subst σ11
    obtain ⟨ehr, hz3⟩ := rf_M (m := -1) (by omega) (by omega) hz
    refine z_istore_n (L' := [_, _, _, _, _, _, _, _]) dX9_leastLost_14 (Nat.le_of_ble_eq_true rfl) rfl rfl ?_
    refine z_iload_n dX9_leastLost_15 rfl ?_
    refine z_if_ge (tgt := 21) dX9_leastLost_16 (by decide) ⟨by omega, by omega⟩ (fun h16 => ?_) (fun h16 => ?_)
    · skip
      refine z_aload_n dX9_leastLost_21 rfl ?_
      refine z_iload_n dX9_leastLost_22 rfl ?_
      refine z_callVV (d := d + 5) (av := [_]) dX9_leastLost_23 vX9_292 rfl (Nat.le_of_ble_eq_true rfl) rfl rfl rfl (Nat.le_of_ble_eq_true rfl) (Nat.le_refl _) (c_X9_laySaying w1 hS (by omega) (by omega)) (fun σ23 h23 => ?_)
      obtain ⟨hk1, hsd⟩ := h23
      refine z_bipush (v := -2) dX9_leastLost_26 (by decide +kernel) ?_
      refine z_istore_n (L' := [_, _, _, _, _, _, _, _]) dX9_leastLost_28 (Nat.le_of_ble_eq_true rfl) rfl rfl ?_
      refine z_iconst dX9_leastLost_29 ?_
      refine z_istore (L' := [_, _, _, _, _, _, _, _]) dX9_leastLost_30 (Nat.le_of_ble_eq_true rfl) rfl rfl ?_
      refine z_iconst dX9_leastLost_32 ?_
      refine z_istore (L' := [_, _, _, _, _, _, _, _]) dX9_leastLost_33 (Nat.le_of_ble_eq_true rfl) rfl rfl ?_
      unfold llG
      rw [if_neg (by omega)]
      exact l_X9_leastLost hW (σ 9 7).toNat σ23 0 (-2) 0 (by omega) (by omega) (by omega) (by omega) (hk1.mono (by decide) (by decide)) hsd
    · skip
      refine z_iload_n dX9_leastLost_19 rfl ?_
      exact z_iret dX9_leastLost_20 (⟨by unfold llG; rw [if_pos (by omega)]; exact ehr.symm, frM.rf _ _ σ⟩)
  · skip
    refine z_iconst dX9_leastLost_7 ?_
    exact z_iret dX9_leastLost_8 (by
      have e : hrM σ s (-1) = -1 := by unfold hrM; rw [if_pos (by omega)]
      exact ⟨by unfold llG; rw [e]; rfl, frM.rf _ _ σ⟩)
