/-! ===== TalkStrainer: the calls in thought, on ===== -/
def ltG (W M : Int) (ps : Int → Int → Int → Int → Bool) (fin : Int → Int) (wm pl : Int) : Int :=
  if ¬ (0 ≤ wm ∧ 0 ≤ pl ∧ pl ≤ 9999 ∧ wm.tdiv 10 < W ∧ wm.tmod 10 < M) then -1 else if ps (fin (wm.tmod 10)) (wm.tdiv 10) (pl.tdiv 100) (pl.tmod 100) = true then 1 else 0
theorem dm100 {t : Int} (h : 0 ≤ t) : 0 ≤ t.tdiv 100 ∧ 0 ≤ t.tmod 100 ∧ t.tmod 100 < 100 ∧ t.tdiv 100 ≤ t := by
  rw [Int.tdiv_eq_ediv_of_nonneg h, Int.tmod_eq_emod_of_nonneg h]
  omega
set_option maxRecDepth 20000 in
theorem c_X8_lets {d : Nat} {σ : Sto} {LF : LFT} {wm pl : Int} (hW : WC LF σ) (h1 : inR wm) (h2 : inR pl) : m_X8_lets d [zR 0, zI wm, zI pl] σ (qI fun z σ' => z = ltG (σ 1 1) (σ 1 2) (pasC LF σ) (finC σ) wm pl ∧ KC σ σ') := by
  have w1 := hW.1
  have w2 := hW.2.1
  have hd := dm10 (t := wm)
  have he := dm100 (t := pl)
  have hfR := finC_R (m := wm.tmod 10) hW
  refine z_does (L := [some (zR 0), some (zI wm), some (zI pl), none, none]) rfl (by decide +kernel) (Nat.le_of_ble_eq_true rfl) rfl ?_
  refine z_iload_n dX8_lets_0 rfl ?_
  refine z_if_lt (tgt := 15) dX8_lets_1 (by decide) ⟨by omega, by omega⟩ (fun h1 => ?_) (fun h1 => ?_)
  · first
    | exfalso; omega
    | skip
      refine z_iconst dX8_lets_15 ?_
      exact z_iret dX8_lets_16 ⟨by unfold ltG; rw [if_pos (by omega)], KC.rf σ⟩
  · first
    | exfalso; omega
    | skip
      refine z_iload_n dX8_lets_4 rfl ?_
      refine z_if_lt (tgt := 15) dX8_lets_5 (by decide) ⟨by omega, by omega⟩ (fun h5 => ?_) (fun h5 => ?_)
      · first
        | exfalso; omega
        | skip
          refine z_iconst dX8_lets_15 ?_
          exact z_iret dX8_lets_16 ⟨by unfold ltG; rw [if_pos (by omega)], KC.rf σ⟩
      · first
        | exfalso; omega
        | skip
          refine z_iload_n dX8_lets_8 rfl ?_
          refine z_sipush (v := 9999) dX8_lets_9 (by decide +kernel) ?_
          refine z_icmp_le (tgt := 17) dX8_lets_12 (by decide) ⟨by omega, by omega⟩ ⟨by omega, by omega⟩ (fun h12 => ?_) (fun h12 => ?_)
          · first
            | exfalso; omega
            | skip
              have hd := hd (by omega)
              have he := he (by omega)
              refine z_iload_n dX8_lets_17 rfl ?_
              refine z_bipush (v := 10) dX8_lets_18 (by decide +kernel) ?_
              refine z_idiv dX8_lets_20 ⟨by omega, by omega⟩ ⟨by omega, by omega⟩ (by omega) ?_
              refine z_istore_n (L' := [_, _, _, _, _]) dX8_lets_21 (Nat.le_of_ble_eq_true rfl) rfl rfl ?_
              refine z_iload_n dX8_lets_22 rfl ?_
              refine z_bipush (v := 10) dX8_lets_23 (by decide +kernel) ?_
              refine z_irem dX8_lets_25 ⟨by omega, by omega⟩ ⟨by omega, by omega⟩ (by omega) ?_
              refine z_istore (L' := [_, _, _, _, _]) dX8_lets_26 (Nat.le_of_ble_eq_true rfl) rfl rfl ?_
              refine z_iload_n dX8_lets_28 rfl ?_
              refine z_aload_n dX8_lets_29 rfl ?_
              refine z_getR dX8_lets_30 gX8_10 rfl (Nat.le_of_ble_eq_true rfl) rfl ?_
              refine z_getI dX8_lets_33 gX8_135 rfl (Nat.le_of_ble_eq_true rfl) rfl (fun hr33 => ?_)
              refine z_icmp_ge (tgt := 48) dX8_lets_36 (by decide) ⟨by omega, by omega⟩ ⟨by omega, by omega⟩ (fun h36 => ?_) (fun h36 => ?_)
              · first
                | exfalso; omega
                | skip
                  refine z_iconst dX8_lets_48 ?_
                  exact z_iret dX8_lets_49 ⟨by unfold ltG; rw [if_pos (by omega)], KC.rf σ⟩
              · first
                | exfalso; omega
                | skip
                  refine z_aload_n dX8_lets_39 rfl ?_
                  refine z_iload dX8_lets_40 rfl ?_
                  refine z_callVI (d := d + 2) (av := [_]) dX8_lets_42 vX8_119 rfl (Nat.le_of_ble_eq_true rfl) rfl rfl rfl (Nat.le_of_ble_eq_true rfl) (Nat.le_refl _) (c_X8_isMesh (by omega)) (fun z42 σ42 h42 => ?_)
                  obtain ⟨hs42, h42⟩ := h42
                  subst σ42
                  refine z_if_ne (tgt := 50) dX8_lets_45 (by decide) ⟨by omega, by omega⟩ (fun h45 => ?_) (fun h45 => ?_)
                  · first
                    | exfalso; omega
                    | skip
                      refine z_aload_n dX8_lets_50 rfl ?_
                      refine z_getR dX8_lets_51 gX8_42 rfl (Nat.le_of_ble_eq_true rfl) rfl ?_
                      refine z_iload_n dX8_lets_54 rfl ?_
                      refine z_aload_n dX8_lets_55 rfl ?_
                      refine z_iload dX8_lets_56 rfl ?_
                      refine z_callVI (d := d + 2) (av := [_]) dX8_lets_58 vX8_139 rfl (Nat.le_of_ble_eq_true rfl) rfl rfl rfl (Nat.le_of_ble_eq_true rfl) (Nat.le_refl _) (c_X8_fineOf (by omega)) (fun z58 σ58 h58 => ?_)
                      obtain ⟨rfl, hs58⟩ := h58
                      subst σ58
                      refine z_iload_n dX8_lets_61 rfl ?_
                      refine z_bipush (v := 100) dX8_lets_62 (by decide +kernel) ?_
                      refine z_idiv dX8_lets_64 ⟨by omega, by omega⟩ ⟨by omega, by omega⟩ (by omega) ?_
                      refine z_iload_n dX8_lets_65 rfl ?_
                      refine z_bipush (v := 100) dX8_lets_66 (by decide +kernel) ?_
                      refine z_irem dX8_lets_68 ⟨by omega, by omega⟩ ⟨by omega, by omega⟩ (by omega) ?_
                      refine z_callVI (d := d + 2) (av := [_, _, _, _]) dX8_lets_69 vX8_142 rfl (Nat.le_of_ble_eq_true rfl) rfl rfl rfl (Nat.le_of_ble_eq_true rfl) (Nat.le_refl _) (c_X6_passes (LF := LF) hW (by omega) (by omega) (by omega) (by omega)) (fun z69 σ69 h69 => ?_)
                      obtain ⟨hps, hfr⟩ := h69
                      refine z_if_eq (tgt := 79) dX8_lets_72 (by decide) ⟨by omega, by omega⟩ (fun h72 => ?_) (fun h72 => ?_)
                      · first
                        | exfalso; omega
                        | skip
                          refine z_iconst dX8_lets_79 ?_
                          exact z_iret dX8_lets_80 ⟨by unfold ltG; rw [if_neg (by omega)]; first | (rw [if_pos (by rcases hps with v | v; exact v.2; exact absurd v.1 (by omega))]) | (rw [if_neg (by rcases hps with v | v; exact absurd v.1 (by omega); rw [v.2]; exact Bool.false_ne_true)]), k2.kc hfr⟩
                      · first
                        | exfalso; omega
                        | skip
                          refine z_iconst dX8_lets_75 ?_
                          refine z_goto (tgt := 80) dX8_lets_76 (by decide) ?_
                          exact z_iret dX8_lets_80 ⟨by unfold ltG; rw [if_neg (by omega)]; first | (rw [if_pos (by rcases hps with v | v; exact v.2; exact absurd v.1 (by omega))]) | (rw [if_neg (by rcases hps with v | v; exact absurd v.1 (by omega); rw [v.2]; exact Bool.false_ne_true)]), k2.kc hfr⟩
                  · first
                    | exfalso; omega
                    | skip
                      refine z_iconst dX8_lets_48 ?_
                      exact z_iret dX8_lets_49 ⟨by unfold ltG; rw [if_pos (by omega)], KC.rf σ⟩
          · first
            | exfalso; omega
            | skip
              refine z_iconst dX8_lets_15 ?_
              exact z_iret dX8_lets_16 ⟨by unfold ltG; rw [if_pos (by omega)], KC.rf σ⟩
/-! several -/
theorem prC_R {σ : Sto} {t : Int} : -12 ≤ prC σ t ∧ prC σ t ≤ 0 := by
  unfold prC
  repeat' split
  all_goals decide
def svL (ps : Int → Int → Int → Int → Bool) (fin : Int → Int) (A1 : Nat → Int) : List Int → List Int → Int → List Int × Int
  | [], X, h => (X, h)
  | m :: r, X, h => svL ps fin A1 r (cmL (ps (fin m)) X 0 0).1 (h + sumL A1 (cmL (ps (fin m)) X 0 0).2)
def svG (pr : Int) (ps : Int → Int → Int → Int → Bool) (fin : Int → Int) (A1 : Nat → Int) (X ML : List Int) (w : Int) : Int :=
  if w < 0 ∨ 1 < w then -1 else if pr ≠ 0 then pr else if w = 0 then ((svL ps fin A1 ML X 0).1.length : Int) else (svL ps fin A1 ML X 0).2
abbrev MLC (σ : Sto) (s : Int) : List Int := sayL (σ (34 + s.toNat)) (σ 1 2) (σ 32 s.toNat).toNat 0
set_option maxRecDepth 20000 in
theorem k_X8_several {d : Nat} {σ τ : Sto} {LF : LFT} {sm w pr s2 n i hm : Int} {X : List Int} (hX : X.length ≤ 12) (hm0 : inR hm) (hw : 0 ≤ w ∧ w ≤ 1) (hk : KC σ τ) {R : Int} (hR : R = if w = 0 then (X.length : Int) else hm) :
    Z (z_me cX8_several RX8 11 (some .int) (d + 5) (qI fun z σ' => z = R ∧ KC σ σ')) 171 [some (zR 0), some (zI sm), some (zI w), some (zI pr), some (zI X.length), some (zI hm), some (zI s2), some (zI n), some (zI i), none, none] [] τ := by
  refine z_iload_n dX8_several_171 rfl ?_
  refine z_if_ne (tgt := 180) dX8_several_172 (by decide) ⟨by omega, by omega⟩ (fun h172 => ?_) (fun h172 => ?_)
  · skip
    refine z_iload dX8_several_180 rfl ?_
    exact z_iret dX8_several_182 ⟨by rw [hR]; first | rw [if_pos (by omega)] | rw [if_neg (by omega)], hk⟩
  · skip
    refine z_iload dX8_several_175 rfl ?_
    refine z_goto (tgt := 182) dX8_several_177 (by decide) ?_
    exact z_iret dX8_several_182 ⟨by rw [hR]; first | rw [if_pos (by omega)] | rw [if_neg (by omega)], hk⟩
set_option maxRecDepth 20000 in
set_option maxHeartbeats 1000000 in
theorem l_X8_several {d : Nat} {σ : Sto} {LF : LFT} {sm w pr s2 n : Int} (hW : WC LF σ) (hS : SH σ) (hs2 : 0 ≤ s2 ∧ s2 < 6) (h30 : σ 30 s2.toNat = 0) (hn : n = σ 32 s2.toNat) (hw : 0 ≤ w ∧ w ≤ 1) {R : Int} :
    ∀ (m : Nat) (τ : Sto) (X : List Int) (i hm : Int), 0 ≤ i → i + m = n → wok X → X.length ≤ 12 → (0 ≤ hm ∧ hm ≤ 200 * i) → KC σ τ → Seg τ 10 0 X →
    R = (if w = 0 then ((svL (pasC LF σ) (finC σ) (σ 14) (sayL (σ (34 + s2.toNat)) (σ 1 2) m i.toNat) X hm).1.length : Int) else (svL (pasC LF σ) (finC σ) (σ 14) (sayL (σ (34 + s2.toNat)) (σ 1 2) m i.toNat) X hm).2) →
    Z (z_me cX8_several RX8 11 (some .int) (d + 5) (qI fun z σ' => z = R ∧ KC σ σ')) 60 [some (zR 0), some (zI sm), some (zI w), some (zI pr), some (zI X.length), some (zI hm), some (zI s2), some (zI n), some (zI i), none, none] [] τ
  | 0, τ, X, i, hm, h0, hi, hxw, hx12, hh, hk, hh4, hR => by
    obtain ⟨-, h32, -⟩ := hS s2 hs2.1 hs2.2
    refine z_iload dX8_several_60 rfl ?_
    refine z_iload dX8_several_62 rfl ?_
    refine z_icmp_ge (tgt := 171) dX8_several_64 (by decide) ⟨by omega, by omega⟩ ⟨by omega, by omega⟩ (fun h64 => ?_) (fun h64 => ?_)
    · skip
      exact k_X8_several (LF := LF) hx12 ⟨by omega, by omega⟩ hw hk hR
    · exfalso; omega
  | m + 1, τ, X, i, hm, h0, hi, hxw, hx12, hh, hk, hh4, hR => by
    obtain ⟨-, h32, hb⟩ := hS s2 hs2.1 hs2.2
    have hb := hb h30 i.toNat
    have w2 := hW.2.1
    have hWt := hk.wc hW
    have e1 : τ 1 = σ 1 := hk 1 (by omega)
    have e34 : τ (34 + s2.toNat) = σ (34 + s2.toNat) := hk _ (by omega)
    have hlr : lenR τ s2 (σ 32 s2.toNat) := by unfold lenR; rw [hk 32 (by omega)]
    have hfR := finC_R (m := σ (34 + s2.toNat) i.toNat) hW
    refine z_iload dX8_several_60 rfl ?_
    refine z_iload dX8_several_62 rfl ?_
    refine z_icmp_ge (tgt := 171) dX8_several_64 (by decide) ⟨by omega, by omega⟩ ⟨by omega, by omega⟩ (fun h64 => ?_) (fun h64 => ?_)
    · exfalso; omega
    · skip
      refine z_aload_n dX8_several_67 rfl ?_
      refine z_getR dX8_several_68 gX8_33 rfl (Nat.le_of_ble_eq_true rfl) rfl ?_
      refine z_iload dX8_several_71 rfl ?_
      refine z_iload dX8_several_73 rfl ?_
      refine z_callVJ (d := d + 4) (av := [_, _]) dX8_several_75 vX8_184 rfl (Nat.le_of_ble_eq_true rfl) rfl rfl rfl (Nat.le_of_ble_eq_true rfl) (Nat.le_refl _) (c_X5_valueAt hs2 hlr (by omega) (by omega)) (fun z75 σ75 h75 => ?_)
      obtain ⟨hs75, hz, hzr⟩ := h75
      subst σ75
      have hz : z75 = σ (34 + s2.toNat) i.toNat := by rcases hz with q | q; rw [q.2.2, e34]; exfalso; omega
      subst hz
      refine z_lstore (L' := [_, _, _, _, _, _, _, _, _, _, _]) dX8_several_78 (Nat.le_of_ble_eq_true rfl) rfl rfl ?_
      refine z_lload dX8_several_80 rfl ?_
      refine z_lconst (v := 0) dX8_several_82 (by decide +kernel) ?_
      refine z_lc_lt (tgt := 171) dX8_several_83 dX8_several_84 (by decide) ⟨by omega, by omega⟩ ⟨by omega, by omega⟩ (fun h83 => ?_) (fun h83 => ?_)
      · skip
        refine z_forget [true, true, true, true, true, true, true, true, true, false, false] (L' := [_, _, _, _, _, _, _, _, _, _, _]) rfl ?_
        refine k_X8_several (LF := LF) hx12 ⟨by omega, by omega⟩ hw hk ?_
        rw [hR, show sayL (σ (34 + s2.toNat)) (σ 1 2) (m + 1) i.toNat = [] by rw [sayL, if_neg (by omega)]]
        rfl
      · skip
        refine z_lload dX8_several_87 rfl ?_
        refine z_aload_n dX8_several_89 rfl ?_
        refine z_getR dX8_several_90 gX8_10 rfl (Nat.le_of_ble_eq_true rfl) rfl ?_
        refine z_getI dX8_several_93 gX8_188 rfl (Nat.le_of_ble_eq_true rfl) rfl (fun hr93 => ?_)
        try simp only [e1, z_rd, Nat.reduceEqDiff, ↓reduceIte, eq_self] at hr93 ⊢
        refine z_i2l dX8_several_96 ⟨by omega, by omega⟩ ?_
        refine z_lc_lt (tgt := 104) dX8_several_97 dX8_several_98 (by decide) ⟨by omega, by omega⟩ ⟨by omega, by omega⟩ (fun h97 => ?_) (fun h97 => ?_)
        · skip
          refine z_aload_n dX8_several_104 rfl ?_
          refine z_getR dX8_several_105 gX8_42 rfl (Nat.le_of_ble_eq_true rfl) rfl ?_
          refine z_aload_n dX8_several_108 rfl ?_
          refine z_getR dX8_several_109 gX8_69 rfl (Nat.le_of_ble_eq_true rfl) rfl ?_
          refine z_iload dX8_several_112 rfl ?_
          refine z_aload_n dX8_several_114 rfl ?_
          refine z_lload dX8_several_115 rfl ?_
          refine z_l2i dX8_several_117 ?_
          refine z_callVI (d := d + 4) (av := [_]) dX8_several_118 vX8_139 rfl (Nat.le_of_ble_eq_true rfl) rfl rfl rfl (Nat.le_of_ble_eq_true rfl) (Nat.le_refl _) (c_X8_fineOf (by omega)) (fun z118 σ118 h118 => ?_)
          obtain ⟨rfl, hs118⟩ := h118
          subst σ118
          rw [hk.fin]
          refine z_iconst dX8_several_121 ?_
          refine z_callVV (d := d + 4) (av := [_, _, _, _]) dX8_several_122 vX8_149 rfl (Nat.le_of_ble_eq_true rfl) rfl rfl rfl (Nat.le_of_ble_eq_true rfl) (Nat.le_refl _) (c_X6_strain (LF := LF) (xs := X) hWt rfl (Nat.le_of_ble_eq_true rfl) (by decide) (by decide) (by omega) (by omega) rfl hxw hh4 (by omega)) (fun σ122 h122 => ?_)
          obtain ⟨t1, t2, t3, t4, t5⟩ := h122
          rw [hk.ps] at t2 t3 t4 t5
          have hk2 := hk.tr t1.kc
          have hcl := cmL_len (ps := pasC LF σ (finC σ (σ (34 + s2.toNat) i.toNat))) X 0 0
          have hcw := cmL_wok (ps := pasC LF σ (finC σ (σ (34 + s2.toNat) i.toNat))) X 0 0 hxw
          have hWu := hk2.wc hW
          refine z_iload dX8_several_125 rfl ?_
          refine z_aload_n dX8_several_127 rfl ?_
          refine z_getR dX8_several_128 gX8_42 rfl (Nat.le_of_ble_eq_true rfl) rfl ?_
          refine z_aload_n dX8_several_131 rfl ?_
          refine z_getR dX8_several_132 gX8_42 rfl (Nat.le_of_ble_eq_true rfl) rfl ?_
          refine z_getR dX8_several_135 gX8_170 rfl (Nat.le_of_ble_eq_true rfl) rfl ?_
          refine z_aload_n dX8_several_138 rfl ?_
          refine z_getR dX8_several_139 gX8_42 rfl (Nat.le_of_ble_eq_true rfl) rfl ?_
          refine z_getI dX8_several_142 gX8_156 rfl (Nat.le_of_ble_eq_true rfl) rfl (fun hr142 => ?_)
          try simp only [e1, z_rd, Nat.reduceEqDiff, ↓reduceIte, eq_self] at hr142 ⊢
          refine z_iconst dX8_several_145 ?_
          rw [t3]
          refine z_callVI (d := d + 4) (av := [_, _, _]) dX8_several_146 vX8_173 rfl (Nat.le_of_ble_eq_true rfl) rfl rfl rfl (Nat.le_of_ble_eq_true rfl) (Nat.le_refl _) (c_X6_sumOf (X := (cmL (pasC LF σ (finC σ (σ (34 + s2.toNat) i.toNat))) X 0 0).2) rfl (Nat.le_of_ble_eq_true rfl) (by decide) hWu.2.2.2.2.1 rfl (by omega) (by decide) t5 hcw.2) (fun z146 σ146 h146 => ?_)
          obtain ⟨rfl, hs146⟩ := h146
          subst σ146
          rw [show σ122 (13 + (1 : Int).toNat) = σ 14 from hk2 14 (by omega)]
          have hsR := sumL_R hW.2.2.2.2.1 (cmL (pasC LF σ (finC σ (σ (34 + s2.toNat) i.toNat))) X 0 0).2
          refine z_iadd dX8_several_149 ?_
          refine z_istore (L' := [_, _, _, _, _, _, _, _, _, _, _]) dX8_several_150 (Nat.le_of_ble_eq_true rfl) rfl rfl ?_
          refine z_aload_n dX8_several_152 rfl ?_
          refine z_getR dX8_several_153 gX8_42 rfl (Nat.le_of_ble_eq_true rfl) rfl ?_
          refine z_aload_n dX8_several_156 rfl ?_
          refine z_getR dX8_several_157 gX8_69 rfl (Nat.le_of_ble_eq_true rfl) rfl ?_
          refine z_callVI (d := d + 4) (av := [_]) dX8_several_160 vX8_191 rfl (Nat.le_of_ble_eq_true rfl) rfl rfl rfl (Nat.le_of_ble_eq_true rfl) (Nat.le_refl _) (c_X6_copyCame (A := (cmL (pasC LF σ (finC σ (σ (34 + s2.toNat) i.toNat))) X 0 0).1) rfl (Nat.le_of_ble_eq_true rfl) (by decide) t2 (by omega) (by decide) t4) (fun z160 σ160 h160 => ?_)
          obtain ⟨rfl, u1, u2⟩ := h160
          refine z_istore (L' := [_, _, _, _, _, _, _, _, _, _, _]) dX8_several_163 (Nat.le_of_ble_eq_true rfl) rfl rfl ?_
          refine z_iinc (L' := [_, _, _, _, _, _, _, _, _, _, _]) dX8_several_165 (Nat.le_of_ble_eq_true rfl) rfl rfl rfl ?_
          refine z_goto (tgt := 60) dX8_several_168 (by decide) ?_
          refine z_forget [true, true, true, true, true, true, true, true, true, false, false] (L' := [_, _, _, _, _, _, _, _, _, _, _]) rfl ?_
          refine l_X8_several hW hS hs2 h30 hn hw m _ _ (i + 1) _ (by omega) (by omega) hcw.1 (by omega) (by omega) (hk2.tr (k1.kc u1 (by decide))) u2 ?_
          rw [hR, toN_s h0, show sayL (σ (34 + s2.toNat)) (σ 1 2) (m + 1) i.toNat = σ (34 + s2.toNat) i.toNat :: sayL (σ (34 + s2.toNat)) (σ 1 2) m (i.toNat + 1) by rw [sayL, if_pos ⟨by omega, by omega⟩]]
          rfl
        · skip
          refine z_goto (tgt := 171) dX8_several_101 (by decide) ?_
          refine z_forget [true, true, true, true, true, true, true, true, true, false, false] (L' := [_, _, _, _, _, _, _, _, _, _, _]) rfl ?_
          refine k_X8_several (LF := LF) hx12 ⟨by omega, by omega⟩ hw hk ?_
          rw [hR, show sayL (σ (34 + s2.toNat)) (σ 1 2) (m + 1) i.toNat = [] by rw [sayL, if_neg (by omega)]]
          rfl
set_option maxRecDepth 20000 in
theorem c_X8_several {d : Nat} {σ : Sto} {LF : LFT} {sm w : Int} (hW : WC LF σ) (hS : SH σ) (h1 : inR sm) (h2 : inR w) : m_X8_several d [zR 0, zI sm, zI w] σ (qI fun z σ' => z = svG (prC σ sm) (pasC LF σ) (finC σ) (σ 14) (SYC σ (sm.tdiv 10)) (MLC σ (sm.tmod 10)) w ∧ KC σ σ') := by
  have hprR := prC_R (σ := σ) (t := sm)
  refine z_does (L := [some (zR 0), some (zI sm), some (zI w), none, none, none, none, none, none, none, none]) rfl (by decide +kernel) (Nat.le_of_ble_eq_true rfl) rfl ?_
  refine z_iload_n dX8_several_0 rfl ?_
  refine z_if_lt (tgt := 9) dX8_several_1 (by decide) ⟨by omega, by omega⟩ (fun h1 => ?_) (fun h1 => ?_)
  · first
    | exfalso; omega
    | skip
      refine z_iconst dX8_several_9 ?_
      exact z_iret dX8_several_10 ⟨by unfold svG; rw [if_pos (by omega)], KC.rf σ⟩
  · first
    | exfalso; omega
    | skip
      refine z_iload_n dX8_several_4 rfl ?_
      refine z_iconst dX8_several_5 ?_
      refine z_icmp_le (tgt := 11) dX8_several_6 (by decide) ⟨by omega, by omega⟩ ⟨by omega, by omega⟩ (fun h6 => ?_) (fun h6 => ?_)
      · first
        | exfalso; omega
        | skip
          refine z_aload_n dX8_several_11 rfl ?_
          refine z_iload_n dX8_several_12 rfl ?_
          refine z_callVI (d := d + 4) (av := [_]) dX8_several_13 vX8_177 rfl (Nat.le_of_ble_eq_true rfl) rfl rfl rfl (Nat.le_of_ble_eq_true rfl) (Nat.le_refl _) (c_X8_pairRefusal (by omega)) (fun z13 σ13 h13 => ?_)
          obtain ⟨rfl, hs13⟩ := h13
          subst σ13
          refine z_istore_n (L' := [_, _, _, _, _, _, _, _, _, _, _]) dX8_several_16 (Nat.le_of_ble_eq_true rfl) rfl rfl ?_
          refine z_iload_n dX8_several_17 rfl ?_
          refine z_if_eq (tgt := 23) dX8_several_18 (by decide) ⟨by omega, by omega⟩ (fun h18 => ?_) (fun h18 => ?_)
          · skip
            obtain ⟨p1, p2, p3, p4, p5⟩ := prC_0 h18
            obtain ⟨-, h32, -⟩ := hS (sm.tmod 10) p2.1 p2.2
            refine z_aload_n dX8_several_23 rfl ?_
            refine z_iload_n dX8_several_24 rfl ?_
            refine z_bipush (v := 10) dX8_several_25 (by decide +kernel) ?_
            refine z_idiv dX8_several_27 ⟨by omega, by omega⟩ ⟨by omega, by omega⟩ (by omega) ?_
            refine z_aload_n dX8_several_28 rfl ?_
            refine z_getR dX8_several_29 gX8_69 rfl (Nat.le_of_ble_eq_true rfl) rfl ?_
            refine z_callVI (d := d + 4) (av := [_, _]) dX8_several_32 vX8_180 rfl (Nat.le_of_ble_eq_true rfl) rfl rfl rfl (Nat.le_of_ble_eq_true rfl) (Nat.le_refl _) (c_X8_readSaying hW.1 hS p1 p3 rfl (Nat.le_of_ble_eq_true rfl) (by decide)) (fun z32 σ32 h32 => ?_)
            obtain ⟨rfl, u1, u2⟩ := h32
            have hk := k1.kc u1 (by decide)
            refine z_istore (L' := [_, _, _, _, _, _, _, _, _, _, _]) dX8_several_35 (Nat.le_of_ble_eq_true rfl) rfl rfl ?_
            refine z_iconst dX8_several_37 ?_
            refine z_istore (L' := [_, _, _, _, _, _, _, _, _, _, _]) dX8_several_38 (Nat.le_of_ble_eq_true rfl) rfl rfl ?_
            refine z_iload_n dX8_several_40 rfl ?_
            refine z_bipush (v := 10) dX8_several_41 (by decide +kernel) ?_
            refine z_irem dX8_several_43 ⟨by omega, by omega⟩ ⟨by omega, by omega⟩ (by omega) ?_
            refine z_istore (L' := [_, _, _, _, _, _, _, _, _, _, _]) dX8_several_44 (Nat.le_of_ble_eq_true rfl) rfl rfl ?_
            refine z_aload_n dX8_several_46 rfl ?_
            refine z_getR dX8_several_47 gX8_33 rfl (Nat.le_of_ble_eq_true rfl) rfl ?_
            refine z_iload dX8_several_50 rfl ?_
            refine z_callVI (d := d + 4) (av := [_]) dX8_several_52 vX8_92 rfl (Nat.le_of_ble_eq_true rfl) rfl rfl rfl (Nat.le_of_ble_eq_true rfl) (Nat.le_refl _) (c_X5_lengthOf p2) (fun z52 σ52 h52 => ?_)
            obtain ⟨hs52, hl, hlr⟩ := h52
            subst σ52
            have e30 : σ32 30 = σ 30 := hk 30 (by omega)
            have e32 : σ32 32 = σ 32 := hk 32 (by omega)
            have hl : z52 = σ 32 (sm.tmod 10).toNat := by rw [hl, e32]
            subst hl
            refine z_istore (L' := [_, _, _, _, _, _, _, _, _, _, _]) dX8_several_55 (Nat.le_of_ble_eq_true rfl) rfl rfl ?_
            refine z_iconst dX8_several_57 ?_
            refine z_istore (L' := [_, _, _, _, _, _, _, _, _, _, _]) dX8_several_58 (Nat.le_of_ble_eq_true rfl) rfl rfl ?_
            exact l_X8_several (pr := prC σ sm) hW hS p2 p4 rfl (by omega) (σ 32 (sm.tmod 10).toNat).toNat σ32 (SYC σ (sm.tdiv 10)) 0 0 (by omega) (by omega) (SYC_wok hW) SYC_len (by omega) hk u2 (by unfold svG; rw [if_neg (by omega), if_neg (by omega)]; rfl)
          · skip
            refine z_iload_n dX8_several_21 rfl ?_
            exact z_iret dX8_several_22 ⟨by unfold svG; rw [if_neg (by omega), if_pos h18], KC.rf σ⟩
      · first
        | exfalso; omega
        | skip
          refine z_iconst dX8_several_9 ?_
          exact z_iret dX8_several_10 ⟨by unfold svG; rw [if_pos (by omega)], KC.rf σ⟩
def kpG (M : Nat) (W : Nat) (ps : Int → Int → Int → Int → Bool) (fin : Int → Int) (set : Int) : Int := if set < 0 ∨ 4095 < set then -1 else bitL (fun m => keepL (fun w => ps (fin m) w 0 0) set W 0) M 0 0
set_option maxRecDepth 20000 in
theorem l_X8_keeps {d : Nat} {σ : Sto} {LF : LFT} {set : Int} (hW : WC LF σ) :
    ∀ (k : Nat) (τ : Sto) (m bits : Int), 0 ≤ m → m + k = σ 1 2 → inR bits → KC σ τ →
    Z (z_me cX8_keeps RX8 4 (some .int) (d + 4) (qI fun z σ' => z = bitL (fun m => keepL (fun w => pasC LF σ (finC σ m) w 0 0) set (σ 1 1).toNat 0) k m bits ∧ KC σ σ')) 17 [some (zR 0), some (zI set), some (zI bits), some (zI m)] [] τ
  | 0, τ, m, bits, h0, hm, hb, hk => by
    have e1 : τ 1 = σ 1 := hk 1 (by omega)
    have w2 := hW.2.1
    refine z_iload_n dX8_keeps_17 rfl ?_
    refine z_aload_n dX8_keeps_18 rfl ?_
    refine z_getR dX8_keeps_19 gX8_10 rfl (Nat.le_of_ble_eq_true rfl) rfl ?_
    refine z_getI dX8_keeps_22 gX8_188 rfl (Nat.le_of_ble_eq_true rfl) rfl (fun hr22 => ?_)
    try simp only [e1, z_rd, Nat.reduceEqDiff, ↓reduceIte, eq_self] at hr22 ⊢
    refine z_icmp_ge (tgt := 56) dX8_keeps_25 (by decide) ⟨by omega, by omega⟩ ⟨by omega, by omega⟩ (fun h25 => ?_) (fun h25 => ?_)
    · skip
      refine z_iload_n dX8_keeps_56 rfl ?_
      exact z_iret dX8_keeps_57 ⟨rfl, hk⟩
    · exfalso; omega
  | k + 1, τ, m, bits, h0, hm, hb, hk => by
    have e1 : τ 1 = σ 1 := hk 1 (by omega)
    have w2 := hW.2.1
    have hfR := finC_R (m := m) hW
    refine z_iload_n dX8_keeps_17 rfl ?_
    refine z_aload_n dX8_keeps_18 rfl ?_
    refine z_getR dX8_keeps_19 gX8_10 rfl (Nat.le_of_ble_eq_true rfl) rfl ?_
    refine z_getI dX8_keeps_22 gX8_188 rfl (Nat.le_of_ble_eq_true rfl) rfl (fun hr22 => ?_)
    try simp only [e1, z_rd, Nat.reduceEqDiff, ↓reduceIte, eq_self] at hr22 ⊢
    refine z_icmp_ge (tgt := 56) dX8_keeps_25 (by decide) ⟨by omega, by omega⟩ ⟨by omega, by omega⟩ (fun h25 => ?_) (fun h25 => ?_)
    · exfalso; omega
    · skip
      refine z_aload_n dX8_keeps_28 rfl ?_
      refine z_getR dX8_keeps_29 gX8_42 rfl (Nat.le_of_ble_eq_true rfl) rfl ?_
      refine z_iload_n dX8_keeps_32 rfl ?_
      refine z_aload_n dX8_keeps_33 rfl ?_
      refine z_iload_n dX8_keeps_34 rfl ?_
      refine z_callVI (d := d + 3) (av := [_]) dX8_keeps_35 vX8_139 rfl (Nat.le_of_ble_eq_true rfl) rfl rfl rfl (Nat.le_of_ble_eq_true rfl) (Nat.le_refl _) (c_X8_fineOf (by omega)) (fun z35 σ35 h35 => ?_)
      obtain ⟨rfl, hs35⟩ := h35
      subst σ35
      rw [hk.fin]
      refine z_callVI (d := d + 3) (av := [_, _]) dX8_keeps_38 vX8_201 rfl (Nat.le_of_ble_eq_true rfl) rfl rfl rfl (Nat.le_of_ble_eq_true rfl) (Nat.le_refl _) (c_X6_keepsJust (LF := LF) (hk.wc hW) (by omega)) (fun z38 σ38 h38 => ?_)
      obtain ⟨hz, hfr⟩ := h38
      rw [hk.ps, e1] at hz
      refine z_if_eq (tgt := 50) dX8_keeps_41 (by decide) (by rw [hz]; split <;> exact ⟨by decide, by decide⟩) (fun h41 => ?_) (fun h41 => ?_)
      · skip
        refine z_iinc (L' := [_, _, _, _]) dX8_keeps_50 (Nat.le_of_ble_eq_true rfl) rfl rfl rfl ?_
        refine z_goto (tgt := 17) dX8_keeps_53 (by decide) ?_
        rw [bitL]
        cases hq : keepL (fun w => pasC LF σ (finC σ m) w 0 0) set (σ 1 1).toNat 0
        · rw [hq] at hz
          first
            | exact absurd hz h41
            | exact l_X8_keeps hW k _ (m + 1) _ (by omega) (by omega) hb (hk.tr (k2.kc hfr))
        · rw [hq] at hz
          first
            | exact l_X8_keeps hW k _ (m + 1) _ (by omega) (by omega) ior_R (hk.tr (k2.kc hfr))
            | exact absurd (hz.symm.trans h41) (by decide)
      · skip
        refine z_iload_n dX8_keeps_44 rfl ?_
        refine z_iconst dX8_keeps_45 ?_
        refine z_iload_n dX8_keeps_46 rfl ?_
        refine z_ishl dX8_keeps_47 ?_
        refine z_ior dX8_keeps_48 ?_
        refine z_istore_n (L' := [_, _, _, _]) dX8_keeps_49 (Nat.le_of_ble_eq_true rfl) rfl rfl ?_
        refine z_iinc (L' := [_, _, _, _]) dX8_keeps_50 (Nat.le_of_ble_eq_true rfl) rfl rfl rfl ?_
        refine z_goto (tgt := 17) dX8_keeps_53 (by decide) ?_
        rw [bitL]
        cases hq : keepL (fun w => pasC LF σ (finC σ m) w 0 0) set (σ 1 1).toNat 0
        · rw [hq] at hz
          first
            | exact absurd hz h41
            | exact l_X8_keeps hW k _ (m + 1) _ (by omega) (by omega) hb (hk.tr (k2.kc hfr))
        · rw [hq] at hz
          first
            | exact l_X8_keeps hW k _ (m + 1) _ (by omega) (by omega) ior_R (hk.tr (k2.kc hfr))
            | exact absurd (hz.symm.trans h41) (by decide)
set_option maxRecDepth 20000 in
theorem c_X8_keeps {d : Nat} {σ : Sto} {LF : LFT} {set : Int} (hW : WC LF σ) (h1 : inR set) : m_X8_keeps d [zR 0, zI set] σ (qI fun z σ' => z = kpG (σ 1 2).toNat (σ 1 1).toNat (pasC LF σ) (finC σ) set ∧ KC σ σ') := by
  have w2 := hW.2.1
  refine z_does (L := [some (zR 0), some (zI set), none, none]) rfl (by decide +kernel) (Nat.le_of_ble_eq_true rfl) rfl ?_
  refine z_iload_n dX8_keeps_0 rfl ?_
  refine z_if_lt (tgt := 11) dX8_keeps_1 (by decide) ⟨by omega, by omega⟩ (fun h1 => ?_) (fun h1 => ?_)
  · first
    | exfalso; omega
    | skip
      refine z_iconst dX8_keeps_11 ?_
      exact z_iret dX8_keeps_12 ⟨by unfold kpG; rw [if_pos (by omega)], KC.rf σ⟩
  · first
    | exfalso; omega
    | skip
      refine z_iload_n dX8_keeps_4 rfl ?_
      refine z_sipush (v := 4095) dX8_keeps_5 (by decide +kernel) ?_
      refine z_icmp_le (tgt := 13) dX8_keeps_8 (by decide) ⟨by omega, by omega⟩ ⟨by omega, by omega⟩ (fun h8 => ?_) (fun h8 => ?_)
      · first
        | exfalso; omega
        | skip
          refine z_iconst dX8_keeps_13 ?_
          refine z_istore_n (L' := [_, _, _, _]) dX8_keeps_14 (Nat.le_of_ble_eq_true rfl) rfl rfl ?_
          refine z_iconst dX8_keeps_15 ?_
          refine z_istore_n (L' := [_, _, _, _]) dX8_keeps_16 (Nat.le_of_ble_eq_true rfl) rfl rfl ?_
          unfold kpG
          rw [if_neg (by omega)]
          exact l_X8_keeps hW (σ 1 2).toNat σ 0 0 (by omega) (by omega) ⟨by decide, by decide⟩ (KC.rf σ)
      · first
        | exfalso; omega
        | skip
          refine z_iconst dX8_keeps_11 ?_
          exact z_iret dX8_keeps_12 ⟨by unfold kpG; rw [if_pos (by omega)], KC.rf σ⟩
def llL (ps : Int → Int → Int → Int → Bool) (fin : Int → Int) (A2 : Nat → Int) (hu : List Int → Int) (X : List Int) : Nat → Int → Int → Int → Int
  | 0, _, best, _ => best
  | k + 1, m, best, least => if (best = -2 ∨ sumL A2 (cmL (ps (fin m)) X 0 0).2 < least) ∧ hu (cmL (ps (fin m)) X 0 0).1 = 0 then llL ps fin A2 hu X k (m + 1) m (sumL A2 (cmL (ps (fin m)) X 0 0).2) else llL ps fin A2 hu X k (m + 1) best least
set_option maxRecDepth 20000 in
set_option maxHeartbeats 1000000 in
theorem l_X8_leastLost {d : Nat} {σ : Sto} {LF : LFT} {s : Int} (hW : WC LF σ) (hs6 : 0 ≤ s ∧ s < 6) :
    ∀ (k : Nat) (τ : Sto) (m best least : Int), 0 ≤ m → m + k = σ 1 2 → inR best → inR least → KC σ τ → Seg τ 10 0 (SYC σ s) →
    Z (z_me cX8_leastLost RX8 7 (some .int) (d + 6) (qI fun z σ' => z = llL (pasC LF σ) (finC σ) (σ 15) (hurtC σ) (SYC σ s) k m best least ∧ KC σ σ')) 22 [some (zR 0), some (zI s), some (zI (SYC σ s).length), some (zI best), some (zI least), some (zI m), none] [] τ
  | 0, τ, m, best, least, h0, hm, hb, hl, hk, hh4 => by
    have e1 : τ 1 = σ 1 := hk 1 (by omega)
    have w2 := hW.2.1
    refine z_iload dX8_leastLost_22 rfl ?_
    refine z_aload_n dX8_leastLost_24 rfl ?_
    refine z_getR dX8_leastLost_25 gX8_10 rfl (Nat.le_of_ble_eq_true rfl) rfl ?_
    refine z_getI dX8_leastLost_28 gX8_188 rfl (Nat.le_of_ble_eq_true rfl) rfl (fun hr28 => ?_)
    try simp only [e1, z_rd, Nat.reduceEqDiff, ↓reduceIte, eq_self] at hr28 ⊢
    refine z_icmp_ge (tgt := 127) dX8_leastLost_31 (by decide) ⟨by omega, by omega⟩ ⟨by omega, by omega⟩ (fun h31 => ?_) (fun h31 => ?_)
    · skip
      refine z_iload_n dX8_leastLost_127 rfl ?_
      exact z_iret dX8_leastLost_128 ⟨rfl, hk⟩
    · exfalso; omega
  | k + 1, τ, m, best, least, h0, hm, hb, hl, hk, hh4 => by
    have e1 : τ 1 = σ 1 := hk 1 (by omega)
    have w2 := hW.2.1
    have hfR := finC_R (m := m) hW
    have hx12 := SYC_len (σ := σ) (s := s)
    have hxw := SYC_wok (s := s) hW
    have hWt := hk.wc hW
    have hsR := sumL_R hW.2.2.2.2.2.1 (cmL (pasC LF σ (finC σ m)) (SYC σ s) 0 0).2
    have hhR : inR (hurtC σ (cmL (pasC LF σ (finC σ m)) (SYC σ s) 0 0).1) := hurt_R
    refine z_iload dX8_leastLost_22 rfl ?_
    refine z_aload_n dX8_leastLost_24 rfl ?_
    refine z_getR dX8_leastLost_25 gX8_10 rfl (Nat.le_of_ble_eq_true rfl) rfl ?_
    refine z_getI dX8_leastLost_28 gX8_188 rfl (Nat.le_of_ble_eq_true rfl) rfl (fun hr28 => ?_)
    try simp only [e1, z_rd, Nat.reduceEqDiff, ↓reduceIte, eq_self] at hr28 ⊢
    refine z_icmp_ge (tgt := 127) dX8_leastLost_31 (by decide) ⟨by omega, by omega⟩ ⟨by omega, by omega⟩ (fun h31 => ?_) (fun h31 => ?_)
    · exfalso; omega
    · skip
      refine z_aload_n dX8_leastLost_34 rfl ?_
      refine z_getR dX8_leastLost_35 gX8_42 rfl (Nat.le_of_ble_eq_true rfl) rfl ?_
      refine z_aload_n dX8_leastLost_38 rfl ?_
      refine z_getR dX8_leastLost_39 gX8_69 rfl (Nat.le_of_ble_eq_true rfl) rfl ?_
      refine z_iload_n dX8_leastLost_42 rfl ?_
      refine z_aload_n dX8_leastLost_43 rfl ?_
      refine z_iload dX8_leastLost_44 rfl ?_
      refine z_callVI (d := d + 5) (av := [_]) dX8_leastLost_46 vX8_139 rfl (Nat.le_of_ble_eq_true rfl) rfl rfl rfl (Nat.le_of_ble_eq_true rfl) (Nat.le_refl _) (c_X8_fineOf (by omega)) (fun z46 σ46 h46 => ?_)
      obtain ⟨rfl, hs46⟩ := h46
      subst σ46
      rw [hk.fin]
      refine z_iconst dX8_leastLost_49 ?_
      refine z_callVV (d := d + 5) (av := [_, _, _, _]) dX8_leastLost_50 vX8_149 rfl (Nat.le_of_ble_eq_true rfl) rfl rfl rfl (Nat.le_of_ble_eq_true rfl) (Nat.le_refl _) (c_X6_strain (LF := LF) (xs := (SYC σ s)) hWt rfl (Nat.le_of_ble_eq_true rfl) (by decide) (by decide) (by omega) (by omega) rfl hxw hh4 (by omega)) (fun σ50 h50 => ?_)
      obtain ⟨t1, t2, t3, t4, t5⟩ := h50
      rw [hk.ps] at t2 t3 t4 t5
      have hk2 := hk.tr t1.kc
      have hcl := cmL_len (ps := pasC LF σ (finC σ m)) (SYC σ s) 0 0
      have hcw := cmL_wok (ps := pasC LF σ (finC σ m)) (SYC σ s) 0 0 hxw
      have hWu := hk2.wc hW
      refine z_aload_n dX8_leastLost_53 rfl ?_
      refine z_getR dX8_leastLost_54 gX8_42 rfl (Nat.le_of_ble_eq_true rfl) rfl ?_
      refine z_aload_n dX8_leastLost_57 rfl ?_
      refine z_getR dX8_leastLost_58 gX8_42 rfl (Nat.le_of_ble_eq_true rfl) rfl ?_
      refine z_getR dX8_leastLost_61 gX8_170 rfl (Nat.le_of_ble_eq_true rfl) rfl ?_
      refine z_aload_n dX8_leastLost_64 rfl ?_
      refine z_getR dX8_leastLost_65 gX8_42 rfl (Nat.le_of_ble_eq_true rfl) rfl ?_
      refine z_getI dX8_leastLost_68 gX8_156 rfl (Nat.le_of_ble_eq_true rfl) rfl (fun hr68 => ?_)
      try simp only [e1, z_rd, Nat.reduceEqDiff, ↓reduceIte, eq_self] at hr68 ⊢
      refine z_iconst dX8_leastLost_71 ?_
      rw [t3]
      refine z_callVI (d := d + 5) (av := [_, _, _]) dX8_leastLost_72 vX8_173 rfl (Nat.le_of_ble_eq_true rfl) rfl rfl rfl (Nat.le_of_ble_eq_true rfl) (Nat.le_refl _) (c_X6_sumOf (X := (cmL (pasC LF σ (finC σ m)) (SYC σ s) 0 0).2) rfl (Nat.le_of_ble_eq_true rfl) (by decide) hWu.2.2.2.2.2.1 rfl (by omega) (by decide) t5 hcw.2) (fun z72 σ72 h72 => ?_)
      obtain ⟨rfl, hs72⟩ := h72
      subst σ72
      rw [show σ50 (13 + (2 : Int).toNat) = σ 15 from hk2 15 (by omega)]
      refine z_istore (L' := [_, _, _, _, _, _, _]) dX8_leastLost_75 (Nat.le_of_ble_eq_true rfl) rfl rfl ?_
      refine z_iload_n dX8_leastLost_77 rfl ?_
      refine z_bipush (v := -2) dX8_leastLost_78 (by decide +kernel) ?_
      refine z_icmp_eq (tgt := 90) dX8_leastLost_80 (by decide) ⟨by omega, by omega⟩ ⟨by omega, by omega⟩ (fun h80 => ?_) (fun h80 => ?_)
      · skip
        refine z_aload_n dX8_leastLost_90 rfl ?_
        refine z_getR dX8_leastLost_91 gX8_42 rfl (Nat.le_of_ble_eq_true rfl) rfl ?_
        refine z_aload_n dX8_leastLost_94 rfl ?_
        refine z_getR dX8_leastLost_95 gX8_42 rfl (Nat.le_of_ble_eq_true rfl) rfl ?_
        refine z_getR dX8_leastLost_98 gX8_159 rfl (Nat.le_of_ble_eq_true rfl) rfl ?_
        refine z_aload_n dX8_leastLost_101 rfl ?_
        refine z_getR dX8_leastLost_102 gX8_42 rfl (Nat.le_of_ble_eq_true rfl) rfl ?_
        refine z_getI dX8_leastLost_105 gX8_153 rfl (Nat.le_of_ble_eq_true rfl) rfl (fun hr105 => ?_)
        try simp only [e1, z_rd, Nat.reduceEqDiff, ↓reduceIte, eq_self] at hr105 ⊢
        rw [t2]
        refine z_callVI (d := d + 5) (av := [_, _]) dX8_leastLost_108 vX8_166 rfl (Nat.le_of_ble_eq_true rfl) rfl rfl rfl (Nat.le_of_ble_eq_true rfl) (Nat.le_refl _) (c_X6_hurtBy (LF := LF) (X := (cmL (pasC LF σ (finC σ m)) (SYC σ s) 0 0).1) hWu rfl (Nat.le_of_ble_eq_true rfl) (by decide) rfl (by omega) (by decide) t4 hcw.1) (fun z108 σ108 h108 => ?_)
        obtain ⟨rfl, hf2⟩ := h108
        rw [hk2.hurt]
        refine z_if_ne (tgt := 121) dX8_leastLost_111 (by decide) hhR (fun h111 => ?_) (fun h111 => ?_)
        · skip
          refine z_iinc (L' := [_, _, _, _, _, _, _]) dX8_leastLost_121 (Nat.le_of_ble_eq_true rfl) rfl rfl rfl ?_
          refine z_goto (tgt := 22) dX8_leastLost_124 (by decide) ?_
          refine z_forget [true, true, true, true, true, true, false] (L' := [_, _, _, _, _, _, _]) rfl ?_
          rw [llL]
          first
            | (rw [if_pos ⟨by omega, h111⟩]; exact l_X8_leastLost hW hs6 k _ (m + 1) _ _ (by omega) (by omega) (by omega) (by omega) (hk2.tr (k1.kc hf2 (by decide))) (Seg.row (by rw [hf2 10 (by decide)]; exact t1 10 (by decide) (by decide) (by decide) (by decide) (by decide)) hh4))
            | (rw [if_neg (fun q => h111 q.2)]; exact l_X8_leastLost hW hs6 k _ (m + 1) _ _ (by omega) (by omega) (by omega) (by omega) (hk2.tr (k1.kc hf2 (by decide))) (Seg.row (by rw [hf2 10 (by decide)]; exact t1 10 (by decide) (by decide) (by decide) (by decide) (by decide)) hh4))
            | (rw [if_neg (by omega)]; exact l_X8_leastLost hW hs6 k _ (m + 1) _ _ (by omega) (by omega) (by omega) (by omega) hk2 (Seg.row (t1 10 (by decide) (by decide) (by decide) (by decide) (by decide)) hh4))
        · skip
          refine z_iload dX8_leastLost_114 rfl ?_
          refine z_istore_n (L' := [_, _, _, _, _, _, _]) dX8_leastLost_116 (Nat.le_of_ble_eq_true rfl) rfl rfl ?_
          refine z_iload dX8_leastLost_117 rfl ?_
          refine z_istore (L' := [_, _, _, _, _, _, _]) dX8_leastLost_119 (Nat.le_of_ble_eq_true rfl) rfl rfl ?_
          refine z_iinc (L' := [_, _, _, _, _, _, _]) dX8_leastLost_121 (Nat.le_of_ble_eq_true rfl) rfl rfl rfl ?_
          refine z_goto (tgt := 22) dX8_leastLost_124 (by decide) ?_
          refine z_forget [true, true, true, true, true, true, false] (L' := [_, _, _, _, _, _, _]) rfl ?_
          rw [llL]
          first
            | (rw [if_pos ⟨by omega, h111⟩]; exact l_X8_leastLost hW hs6 k _ (m + 1) _ _ (by omega) (by omega) (by omega) (by omega) (hk2.tr (k1.kc hf2 (by decide))) (Seg.row (by rw [hf2 10 (by decide)]; exact t1 10 (by decide) (by decide) (by decide) (by decide) (by decide)) hh4))
            | (rw [if_neg (fun q => h111 q.2)]; exact l_X8_leastLost hW hs6 k _ (m + 1) _ _ (by omega) (by omega) (by omega) (by omega) (hk2.tr (k1.kc hf2 (by decide))) (Seg.row (by rw [hf2 10 (by decide)]; exact t1 10 (by decide) (by decide) (by decide) (by decide) (by decide)) hh4))
            | (rw [if_neg (by omega)]; exact l_X8_leastLost hW hs6 k _ (m + 1) _ _ (by omega) (by omega) (by omega) (by omega) hk2 (Seg.row (t1 10 (by decide) (by decide) (by decide) (by decide) (by decide)) hh4))
      · skip
        refine z_iload dX8_leastLost_83 rfl ?_
        refine z_iload dX8_leastLost_85 rfl ?_
        refine z_icmp_ge (tgt := 121) dX8_leastLost_87 (by decide) ⟨by omega, by omega⟩ ⟨by omega, by omega⟩ (fun h87 => ?_) (fun h87 => ?_)
        · skip
          refine z_iinc (L' := [_, _, _, _, _, _, _]) dX8_leastLost_121 (Nat.le_of_ble_eq_true rfl) rfl rfl rfl ?_
          refine z_goto (tgt := 22) dX8_leastLost_124 (by decide) ?_
          refine z_forget [true, true, true, true, true, true, false] (L' := [_, _, _, _, _, _, _]) rfl ?_
          rw [llL]
          first
            | (rw [if_pos ⟨by omega, h111⟩]; exact l_X8_leastLost hW hs6 k _ (m + 1) _ _ (by omega) (by omega) (by omega) (by omega) (hk2.tr (k1.kc hf2 (by decide))) (Seg.row (by rw [hf2 10 (by decide)]; exact t1 10 (by decide) (by decide) (by decide) (by decide) (by decide)) hh4))
            | (rw [if_neg (fun q => h111 q.2)]; exact l_X8_leastLost hW hs6 k _ (m + 1) _ _ (by omega) (by omega) (by omega) (by omega) (hk2.tr (k1.kc hf2 (by decide))) (Seg.row (by rw [hf2 10 (by decide)]; exact t1 10 (by decide) (by decide) (by decide) (by decide) (by decide)) hh4))
            | (rw [if_neg (by omega)]; exact l_X8_leastLost hW hs6 k _ (m + 1) _ _ (by omega) (by omega) (by omega) (by omega) hk2 (Seg.row (t1 10 (by decide) (by decide) (by decide) (by decide) (by decide)) hh4))
        · skip
          refine z_aload_n dX8_leastLost_90 rfl ?_
          refine z_getR dX8_leastLost_91 gX8_42 rfl (Nat.le_of_ble_eq_true rfl) rfl ?_
          refine z_aload_n dX8_leastLost_94 rfl ?_
          refine z_getR dX8_leastLost_95 gX8_42 rfl (Nat.le_of_ble_eq_true rfl) rfl ?_
          refine z_getR dX8_leastLost_98 gX8_159 rfl (Nat.le_of_ble_eq_true rfl) rfl ?_
          refine z_aload_n dX8_leastLost_101 rfl ?_
          refine z_getR dX8_leastLost_102 gX8_42 rfl (Nat.le_of_ble_eq_true rfl) rfl ?_
          refine z_getI dX8_leastLost_105 gX8_153 rfl (Nat.le_of_ble_eq_true rfl) rfl (fun hr105 => ?_)
          try simp only [e1, z_rd, Nat.reduceEqDiff, ↓reduceIte, eq_self] at hr105 ⊢
          rw [t2]
          refine z_callVI (d := d + 5) (av := [_, _]) dX8_leastLost_108 vX8_166 rfl (Nat.le_of_ble_eq_true rfl) rfl rfl rfl (Nat.le_of_ble_eq_true rfl) (Nat.le_refl _) (c_X6_hurtBy (LF := LF) (X := (cmL (pasC LF σ (finC σ m)) (SYC σ s) 0 0).1) hWu rfl (Nat.le_of_ble_eq_true rfl) (by decide) rfl (by omega) (by decide) t4 hcw.1) (fun z108 σ108 h108 => ?_)
          obtain ⟨rfl, hf2⟩ := h108
          rw [hk2.hurt]
          refine z_if_ne (tgt := 121) dX8_leastLost_111 (by decide) hhR (fun h111 => ?_) (fun h111 => ?_)
          · skip
            refine z_iinc (L' := [_, _, _, _, _, _, _]) dX8_leastLost_121 (Nat.le_of_ble_eq_true rfl) rfl rfl rfl ?_
            refine z_goto (tgt := 22) dX8_leastLost_124 (by decide) ?_
            refine z_forget [true, true, true, true, true, true, false] (L' := [_, _, _, _, _, _, _]) rfl ?_
            rw [llL]
            first
              | (rw [if_pos ⟨by omega, h111⟩]; exact l_X8_leastLost hW hs6 k _ (m + 1) _ _ (by omega) (by omega) (by omega) (by omega) (hk2.tr (k1.kc hf2 (by decide))) (Seg.row (by rw [hf2 10 (by decide)]; exact t1 10 (by decide) (by decide) (by decide) (by decide) (by decide)) hh4))
              | (rw [if_neg (fun q => h111 q.2)]; exact l_X8_leastLost hW hs6 k _ (m + 1) _ _ (by omega) (by omega) (by omega) (by omega) (hk2.tr (k1.kc hf2 (by decide))) (Seg.row (by rw [hf2 10 (by decide)]; exact t1 10 (by decide) (by decide) (by decide) (by decide) (by decide)) hh4))
              | (rw [if_neg (by omega)]; exact l_X8_leastLost hW hs6 k _ (m + 1) _ _ (by omega) (by omega) (by omega) (by omega) hk2 (Seg.row (t1 10 (by decide) (by decide) (by decide) (by decide) (by decide)) hh4))
          · skip
            refine z_iload dX8_leastLost_114 rfl ?_
            refine z_istore_n (L' := [_, _, _, _, _, _, _]) dX8_leastLost_116 (Nat.le_of_ble_eq_true rfl) rfl rfl ?_
            refine z_iload dX8_leastLost_117 rfl ?_
            refine z_istore (L' := [_, _, _, _, _, _, _]) dX8_leastLost_119 (Nat.le_of_ble_eq_true rfl) rfl rfl ?_
            refine z_iinc (L' := [_, _, _, _, _, _, _]) dX8_leastLost_121 (Nat.le_of_ble_eq_true rfl) rfl rfl rfl ?_
            refine z_goto (tgt := 22) dX8_leastLost_124 (by decide) ?_
            refine z_forget [true, true, true, true, true, true, false] (L' := [_, _, _, _, _, _, _]) rfl ?_
            rw [llL]
            first
              | (rw [if_pos ⟨by omega, h111⟩]; exact l_X8_leastLost hW hs6 k _ (m + 1) _ _ (by omega) (by omega) (by omega) (by omega) (hk2.tr (k1.kc hf2 (by decide))) (Seg.row (by rw [hf2 10 (by decide)]; exact t1 10 (by decide) (by decide) (by decide) (by decide) (by decide)) hh4))
              | (rw [if_neg (fun q => h111 q.2)]; exact l_X8_leastLost hW hs6 k _ (m + 1) _ _ (by omega) (by omega) (by omega) (by omega) (hk2.tr (k1.kc hf2 (by decide))) (Seg.row (by rw [hf2 10 (by decide)]; exact t1 10 (by decide) (by decide) (by decide) (by decide) (by decide)) hh4))
              | (rw [if_neg (by omega)]; exact l_X8_leastLost hW hs6 k _ (m + 1) _ _ (by omega) (by omega) (by omega) (by omega) hk2 (Seg.row (t1 10 (by decide) (by decide) (by decide) (by decide) (by decide)) hh4))
def llG (hr : Int) (M : Nat) (ps : Int → Int → Int → Int → Bool) (fin : Int → Int) (A2 : Nat → Int) (hu : List Int → Int) (X : List Int) : Int := if hr ≠ 0 then hr else llL ps fin A2 hu X M 0 (-2) 0
set_option maxRecDepth 20000 in
theorem c_X8_leastLost {d : Nat} {σ : Sto} {LF : LFT} {s : Int} (hW : WC LF σ) (hS : SH σ) (hs : inR s) : m_X8_leastLost d [zR 0, zI s] σ (qI fun z σ' => z = llG (hrC σ s (-1)) (σ 1 2).toNat (pasC LF σ) (finC σ) (σ 15) (hurtC σ) (SYC σ s) ∧ KC σ σ') := by
  have w2 := hW.2.1
  refine z_does (L := [some (zR 0), some (zI s), none, none, none, none, none]) rfl (by decide +kernel) (Nat.le_of_ble_eq_true rfl) rfl ?_
  refine z_aload_n dX8_leastLost_0 rfl ?_
  refine z_iload_n dX8_leastLost_1 rfl ?_
  refine z_iconst dX8_leastLost_2 ?_
  refine z_callVI (d := d + 5) (av := [_, _]) dX8_leastLost_3 vX8_146 rfl (Nat.le_of_ble_eq_true rfl) rfl rfl rfl (Nat.le_of_ble_eq_true rfl) (Nat.le_refl _) (c_X8_hear (LF := LF) hW hS (by omega) (by omega)) (fun z3 σ3 h3 => ?_)
  have hzr : -12 ≤ z3 ∧ z3 ≤ 12 := by rcases h3 with q | q; have := hrC_n q.1; have := q.2.1; omega; have := q.2.1; have := SYC_len (σ := σ) (s := s); omega
  refine z_istore_n (L' := [_, _, _, _, _, _, _]) dX8_leastLost_6 (Nat.le_of_ble_eq_true rfl) rfl rfl ?_
  refine z_iload_n dX8_leastLost_7 rfl ?_
  refine z_if_ge (tgt := 13) dX8_leastLost_8 (by decide) ⟨by omega, by omega⟩ (fun h8 => ?_) (fun h8 => ?_)
  · first
    | exfalso; omega
    | skip
      have hh : hrC σ s (-1) = 0 ∧ z3 = (SYC σ s).length ∧ (∀ a, a ≠ 10 → σ3 a = σ a) ∧ Seg σ3 10 0 (SYC σ s) := by rcases h3 with q | q; exfalso; have := q.2.2.1; omega; exact q
      obtain ⟨hh1, hh2, hh3, hh4⟩ := hh
      subst hh2
      obtain ⟨hs6, hm5, h30⟩ := hrC_0 hh1
      have hk := k1.kc hh3 (by decide)
      have hWt := hk.wc hW
      have hx12 := SYC_len (σ := σ) (s := s)
      have hxw := SYC_wok (s := s) hW
      refine z_bipush (v := -2) dX8_leastLost_13 (by decide +kernel) ?_
      refine z_istore_n (L' := [_, _, _, _, _, _, _]) dX8_leastLost_15 (Nat.le_of_ble_eq_true rfl) rfl rfl ?_
      refine z_iconst dX8_leastLost_16 ?_
      refine z_istore (L' := [_, _, _, _, _, _, _]) dX8_leastLost_17 (Nat.le_of_ble_eq_true rfl) rfl rfl ?_
      refine z_iconst dX8_leastLost_19 ?_
      refine z_istore (L' := [_, _, _, _, _, _, _]) dX8_leastLost_20 (Nat.le_of_ble_eq_true rfl) rfl rfl ?_
      unfold llG
      rw [if_neg (by omega)]
      exact l_X8_leastLost hW hs6 (σ 1 2).toNat σ3 0 (-2) 0 (by omega) (by omega) (by omega) (by omega) hk hh4
  · first
    | exfalso; omega
    | skip
      have hh : hrC σ s (-1) ≠ 0 ∧ z3 = hrC σ s (-1) ∧ σ3 = σ := by rcases h3 with q | q; exact ⟨q.1, q.2.1, q.2.2.2⟩; exfalso; have := q.2.1; omega
      obtain ⟨hh1, hh2, hs⟩ := hh
      subst σ3
      refine z_iload_n dX8_leastLost_11 rfl ?_
      exact z_iret dX8_leastLost_12 ⟨by unfold llG; rw [if_pos hh1, hh2], KC.rf σ⟩
def msG (W : Nat) (hu : Int → Int) (w : Int) : Int := if w < 0 ∨ 1 < w then -1 else if w = 0 then pcF 12 (ghF hu (2 ^ W - 1) 1 0 0).toNat else ghF hu (2 ^ W - 1) 1 0 0
theorem ghF_R {hu : Int → Int} : ∀ (m : Nat) (s best most : Int), 0 ≤ s → s + m ≤ 4096 → (0 ≤ best ∧ best < 4096) → 0 ≤ ghF hu m s best most ∧ ghF hu m s best most < 4096
  | 0, _, _, _, _, _, h => h
  | m + 1, s, best, most, h0, hs, h => by
    rw [ghF]
    split
    · exact ghF_R m (s + 1) _ _ (by omega) (by omega) (by omega)
    · exact ghF_R m (s + 1) _ _ (by omega) (by omega) h
set_option maxRecDepth 20000 in
theorem c_X8_most {d : Nat} {σ : Sto} {LF : LFT} {w : Int} (hW : WC LF σ) (h1 : inR w) : m_X8_most d [zR 0, zI w] σ (qI fun z σ' => z = msG (σ 1 1).toNat (huS σ) w ∧ KC σ σ') := by
  have w1 := hW.1
  have p12 := pow12 (show (σ 1 1).toNat ≤ 12 by omega)
  have hg := ghF_R (hu := huS σ) (2 ^ (σ 1 1).toNat - 1) 1 0 0 (by omega) (by omega) (by omega)
  refine z_does (L := [some (zR 0), some (zI w), none]) rfl (by decide +kernel) (Nat.le_of_ble_eq_true rfl) rfl ?_
  refine z_iload_n dX8_most_0 rfl ?_
  refine z_if_lt (tgt := 9) dX8_most_1 (by decide) ⟨by omega, by omega⟩ (fun h1 => ?_) (fun h1 => ?_)
  · first
    | exfalso; omega
    | skip
      refine z_iconst dX8_most_9 ?_
      exact z_iret dX8_most_10 ⟨by unfold msG; rw [if_pos (by omega)], KC.rf σ⟩
  · first
    | exfalso; omega
    | skip
      refine z_iload_n dX8_most_4 rfl ?_
      refine z_iconst dX8_most_5 ?_
      refine z_icmp_le (tgt := 11) dX8_most_6 (by decide) ⟨by omega, by omega⟩ ⟨by omega, by omega⟩ (fun h6 => ?_) (fun h6 => ?_)
      · first
        | exfalso; omega
        | skip
          refine z_aload_n dX8_most_11 rfl ?_
          refine z_getR dX8_most_12 gX8_51 rfl (Nat.le_of_ble_eq_true rfl) rfl ?_
          refine z_callVI (d := d + 3) (av := []) dX8_most_15 vX8_204 rfl (Nat.le_of_ble_eq_true rfl) rfl rfl rfl (Nat.le_of_ble_eq_true rfl) (Nat.le_refl _) (c_X4_greatestHarmlessSet (LF := LF) hW) (fun z15 σ15 h15 => ?_)
          obtain ⟨rfl, hfr⟩ := h15
          refine z_istore_n (L' := [_, _, _]) dX8_most_18 (Nat.le_of_ble_eq_true rfl) rfl rfl ?_
          refine z_iload_n dX8_most_19 rfl ?_
          refine z_if_ne (tgt := 30) dX8_most_20 (by decide) ⟨by omega, by omega⟩ (fun h20 => ?_) (fun h20 => ?_)
          · first
            | exfalso; omega
            | skip
              refine z_iload_n dX8_most_30 rfl ?_
              exact z_iret dX8_most_31 ⟨by unfold msG; rw [if_neg (by omega)]; first | rw [if_pos (by omega)] | rw [if_neg (by omega)], k1.kc hfr (by decide)⟩
          · first
            | exfalso; omega
            | skip
              refine z_iload_n dX8_most_23 rfl ?_
              refine z_callSI (d := d + 3) (av := [_]) dX8_most_24 sX8_207 rfl rfl (Nat.le_of_ble_eq_true rfl) (Nat.le_refl _) (c_J6_bitCount_0f7a4) (fun z24 σ24 h24 => ?_)
              obtain ⟨rfl, hs24⟩ := h24
              subst σ24
              rw [bcF_pcI hg]
              refine z_goto (tgt := 31) dX8_most_27 (by decide) ?_
              exact z_iret dX8_most_31 ⟨by unfold msG; rw [if_neg (by omega)]; first | rw [if_pos (by omega)] | rw [if_neg (by omega)], k1.kc hfr (by decide)⟩
      · first
        | exfalso; omega
        | skip
          refine z_iconst dX8_most_9 ?_
          exact z_iret dX8_most_10 ⟨by unfold msG; rw [if_pos (by omega)], KC.rf σ⟩
