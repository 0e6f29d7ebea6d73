/-! ===== TalkStrainer: the calls in thought ===== -/
def gtL (L : List Int) (k : Int) : Int := if k < L.length then L.getD k.toNat 0 else -2
def thG (hr : Int) (ps : Int → Int → Int → Bool) (A1 A2 A3 A4 th : Nat → Int) (ppl : Int) (X : List Int) (w : Int) : Int :=
  if w < 0 ∨ 5 < w then -1 else if hr ≠ 0 then hr
  else if w = 0 then ((cmL ps X 0 0).1.length : Int) else if w = 1 then ((cmL ps X 0 0).2.length : Int)
  else if w = 2 then (if 2 ≤ (cmL ps X 0 0).1.length ∧ snsL A3 0 (cmL ps X 0 0).1 = true then 1 else 0)
  else if w = 3 then hurtL A4 A1 A2 th ppl (cmL ps X 0 0).1 else if w = 4 then hurtL A4 A1 A2 th ppl X
  else sumL A1 (cmL ps X 0 0).2
set_option maxRecDepth 20000 in
theorem c_X8_through {d : Nat} {σ : Sto} {LF : LFT} {s m w : Int} (hW : WC LF σ) (hS : SH σ) (hs : inR s) (hm : inR m) (hw : inR w) : m_X8_through d [zR 0, zI s, zI m, zI w] σ (qI fun z σ' => z = thG (hrC σ s m) (pasC LF σ (finC σ m)) (σ 14) (σ 15) (σ 16) (σ 17) (σ 19) (σ 1 3) (SYC σ s) w ∧ KC σ σ') := by
  have hfR := finC_R (m := m) hW
  have w2 := hW.2.1
  refine z_does (L := [some (zR 0), some (zI s), some (zI m), some (zI w), none]) rfl (by decide +kernel) (Nat.le_of_ble_eq_true rfl) rfl ?_
  refine z_iload_n dX8_through_0 rfl ?_
  refine z_if_lt (tgt := 9) dX8_through_1 (by decide) ⟨by omega, by omega⟩ (fun h1 => ?_) (fun h1 => ?_)
  · first
    | exfalso; omega
    | skip
      refine z_iconst dX8_through_9 ?_
      exact z_iret dX8_through_10 ⟨by unfold thG; rw [if_pos (by omega)], KC.rf σ⟩
  · first
    | exfalso; omega
    | skip
      refine z_iload_n dX8_through_4 rfl ?_
      refine z_iconst dX8_through_5 ?_
      refine z_icmp_le (tgt := 11) dX8_through_6 (by decide) ⟨by omega, by omega⟩ ⟨by omega, by omega⟩ (fun h6 => ?_) (fun h6 => ?_)
      · first
        | exfalso; omega
        | skip
          refine z_aload_n dX8_through_11 rfl ?_
          refine z_iload_n dX8_through_12 rfl ?_
          refine z_iload_n dX8_through_13 rfl ?_
          refine z_callVI (d := d + 5) (av := [_, _]) dX8_through_14 vX8_146 rfl (Nat.le_of_ble_eq_true rfl) rfl rfl rfl (Nat.le_of_ble_eq_true rfl) (Nat.le_refl _) (c_X8_hear (LF := LF) hW hS (by omega) (by omega)) (fun z14 σ14 h14 => ?_)
          have hzr : -12 ≤ z14 ∧ z14 ≤ 12 := by rcases h14 with q | q; have := hrC_n q.1; have := q.2.1; omega; have := q.2.1; have := SYC_len (σ := σ) (s := s); omega
          refine z_istore (L' := [_, _, _, _, _]) dX8_through_17 (Nat.le_of_ble_eq_true rfl) rfl rfl ?_
          refine z_iload dX8_through_19 rfl ?_
          refine z_if_ge (tgt := 27) dX8_through_21 (by decide) ⟨by omega, by omega⟩ (fun h21 => ?_) (fun h21 => ?_)
          · first
            | exfalso; omega
            | skip
              have hh : hrC σ s m = 0 ∧ z14 = (SYC σ s).length ∧ (∀ a, a ≠ 10 → σ14 a = σ a) ∧ Seg σ14 10 0 (SYC σ s) := by rcases h14 with q | q; exfalso; have := q.2.2.1; omega; exact q
              obtain ⟨hh1, hh2, hh3, hh4⟩ := hh
              subst hh2
              obtain ⟨hs6, hm5, h30⟩ := hrC_0 hh1
              have hk := k1.kc hh3 (by decide)
              have hWt := hk.wc hW
              have hx12 := SYC_len (σ := σ) (s := s)
              have hxw := SYC_wok (s := s) hW
              refine z_aload_n dX8_through_27 rfl ?_
              refine z_getR dX8_through_28 gX8_42 rfl (Nat.le_of_ble_eq_true rfl) rfl ?_
              refine z_aload_n dX8_through_31 rfl ?_
              refine z_getR dX8_through_32 gX8_69 rfl (Nat.le_of_ble_eq_true rfl) rfl ?_
              refine z_iload dX8_through_35 rfl ?_
              refine z_aload_n dX8_through_37 rfl ?_
              refine z_iload_n dX8_through_38 rfl ?_
              refine z_callVI (d := d + 5) (av := [_]) dX8_through_39 vX8_139 rfl (Nat.le_of_ble_eq_true rfl) rfl rfl rfl (Nat.le_of_ble_eq_true rfl) (Nat.le_refl _) (c_X8_fineOf (by omega)) (fun z39 σ39 h39 => ?_)
              obtain ⟨rfl, hs39⟩ := h39
              subst σ39
              rw [hk.fin]
              refine z_iconst dX8_through_42 ?_
              refine z_callVV (d := d + 5) (av := [_, _, _, _]) dX8_through_43 vX8_149 rfl (Nat.le_of_ble_eq_true rfl) rfl rfl rfl (Nat.le_of_ble_eq_true rfl) (Nat.le_refl _) (c_X6_strain (LF := LF) (xs := (SYC σ s)) hWt rfl (Nat.le_of_ble_eq_true rfl) (by decide) (by decide) (by omega) (by omega) rfl hxw hh4 (by omega)) (fun σ43 h43 => ?_)
              obtain ⟨t1, t2, t3, t4, t5⟩ := h43
              rw [hk.ps] at t2 t3 t4 t5
              have hk2 := hk.tr t1.kc
              have hcl := cmL_len (ps := pasC LF σ (finC σ m)) (SYC σ s) 0 0
              have hcw := cmL_wok (ps := pasC LF σ (finC σ m)) (SYC σ s) 0 0 hxw
              have hWu := hk2.wc hW
              refine z_iload_n dX8_through_46 rfl ?_
              refine sw_X8_through_47 ⟨by omega, by omega⟩ (fun h47 => ?_) (fun h47 => ?_) (fun h47 => ?_) (fun h47 => ?_) (fun h47 => ?_) (fun h47 => ?_)
              · first
                | exfalso; omega
                | skip
                  refine z_aload_n dX8_through_80 rfl ?_
                  refine z_getR dX8_through_81 gX8_42 rfl (Nat.le_of_ble_eq_true rfl) rfl ?_
                  refine z_getI dX8_through_84 gX8_153 rfl (Nat.le_of_ble_eq_true rfl) rfl (fun hr84 => ?_)
                  rw [t2]
                  exact z_iret dX8_through_87 ⟨by unfold thG; rw [if_neg (by omega), if_neg (by omega), if_pos (by omega)], hk2⟩
              · first
                | exfalso; omega
                | skip
                  refine z_aload_n dX8_through_88 rfl ?_
                  refine z_getR dX8_through_89 gX8_42 rfl (Nat.le_of_ble_eq_true rfl) rfl ?_
                  refine z_getI dX8_through_92 gX8_156 rfl (Nat.le_of_ble_eq_true rfl) rfl (fun hr92 => ?_)
                  rw [t3]
                  exact z_iret dX8_through_95 ⟨by unfold thG; rw [if_neg (by omega), if_neg (by omega), if_neg (by omega), if_pos (by omega)], hk2⟩
              · first
                | exfalso; omega
                | skip
                  refine z_aload_n dX8_through_96 rfl ?_
                  refine z_getR dX8_through_97 gX8_42 rfl (Nat.le_of_ble_eq_true rfl) rfl ?_
                  refine z_aload_n dX8_through_100 rfl ?_
                  refine z_getR dX8_through_101 gX8_42 rfl (Nat.le_of_ble_eq_true rfl) rfl ?_
                  refine z_getR dX8_through_104 gX8_159 rfl (Nat.le_of_ble_eq_true rfl) rfl ?_
                  refine z_aload_n dX8_through_107 rfl ?_
                  refine z_getR dX8_through_108 gX8_42 rfl (Nat.le_of_ble_eq_true rfl) rfl ?_
                  refine z_getI dX8_through_111 gX8_153 rfl (Nat.le_of_ble_eq_true rfl) rfl (fun hr111 => ?_)
                  rw [t2]
                  refine z_callVI (d := d + 5) (av := [_, _]) dX8_through_114 vX8_162 rfl (Nat.le_of_ble_eq_true rfl) rfl rfl rfl (Nat.le_of_ble_eq_true rfl) (Nat.le_refl _) (c_X6_makesSense (X := (cmL (pasC LF σ (finC σ m)) (SYC σ s) 0 0).1) rfl (Nat.le_of_ble_eq_true rfl) hWu.2.2.2.2.2.2.1 rfl (by omega) (by decide) t4 hcw.1) (fun z114 σ114 h114 => ?_)
                  obtain ⟨hs114, hms⟩ := h114
                  subst σ114
                  rw [hk2 16 (by omega)] at hms
                  refine z_if_eq (tgt := 124) dX8_through_117 (by decide) ⟨by omega, by omega⟩ (fun h117 => ?_) (fun h117 => ?_)
                  · skip
                    refine z_iconst dX8_through_124 ?_
                    exact z_iret dX8_through_125 ⟨by unfold thG; rw [if_neg (by omega), if_neg (by omega), if_neg (by omega), if_neg (by omega), if_pos (by omega)]; first | (rw [if_pos (by rcases hms with v | v; exact v.2; exact absurd v.1 (by omega))]) | (rw [if_neg (by rcases hms with v | v; exact absurd v.1 (by omega); exact v.2)]), hk2⟩
                  · skip
                    refine z_iconst dX8_through_120 ?_
                    refine z_goto (tgt := 125) dX8_through_121 (by decide) ?_
                    exact z_iret dX8_through_125 ⟨by unfold thG; rw [if_neg (by omega), if_neg (by omega), if_neg (by omega), if_neg (by omega), if_pos (by omega)]; first | (rw [if_pos (by rcases hms with v | v; exact v.2; exact absurd v.1 (by omega))]) | (rw [if_neg (by rcases hms with v | v; exact absurd v.1 (by omega); exact v.2)]), hk2⟩
              · first
                | exfalso; omega
                | skip
                  refine z_aload_n dX8_through_126 rfl ?_
                  refine z_getR dX8_through_127 gX8_42 rfl (Nat.le_of_ble_eq_true rfl) rfl ?_
                  refine z_aload_n dX8_through_130 rfl ?_
                  refine z_getR dX8_through_131 gX8_42 rfl (Nat.le_of_ble_eq_true rfl) rfl ?_
                  refine z_getR dX8_through_134 gX8_159 rfl (Nat.le_of_ble_eq_true rfl) rfl ?_
                  refine z_aload_n dX8_through_137 rfl ?_
                  refine z_getR dX8_through_138 gX8_42 rfl (Nat.le_of_ble_eq_true rfl) rfl ?_
                  refine z_getI dX8_through_141 gX8_153 rfl (Nat.le_of_ble_eq_true rfl) rfl (fun hr141 => ?_)
                  rw [t2]
                  refine z_callVI (d := d + 5) (av := [_, _]) dX8_through_144 vX8_166 rfl (Nat.le_of_ble_eq_true rfl) rfl rfl rfl (Nat.le_of_ble_eq_true rfl) (Nat.le_refl _) (c_X6_hurtBy (LF := LF) (X := (cmL (pasC LF σ (finC σ m)) (SYC σ s) 0 0).1) hWu rfl (Nat.le_of_ble_eq_true rfl) (by decide) rfl (by omega) (by decide) t4 hcw.1) (fun z144 σ144 h144 => ?_)
                  obtain ⟨rfl, hf2⟩ := h144
                  rw [hk2.hurt]
                  exact z_iret dX8_through_147 ⟨by unfold thG; rw [if_neg (by omega), if_neg (by omega), if_neg (by omega), if_neg (by omega), if_neg (by omega), if_pos (by omega)], hk2.tr (k1.kc hf2 (by decide))⟩
              · first
                | exfalso; omega
                | skip
                  refine z_aload_n dX8_through_148 rfl ?_
                  refine z_getR dX8_through_149 gX8_42 rfl (Nat.le_of_ble_eq_true rfl) rfl ?_
                  refine z_aload_n dX8_through_152 rfl ?_
                  refine z_getR dX8_through_153 gX8_69 rfl (Nat.le_of_ble_eq_true rfl) rfl ?_
                  refine z_iload dX8_through_156 rfl ?_
                  refine z_callVI (d := d + 5) (av := [_, _]) dX8_through_158 vX8_166 rfl (Nat.le_of_ble_eq_true rfl) rfl rfl rfl (Nat.le_of_ble_eq_true rfl) (Nat.le_refl _) (c_X6_hurtBy (LF := LF) (X := SYC σ s) hWu rfl (Nat.le_of_ble_eq_true rfl) (by decide) rfl (by omega) (by decide) (Seg.row (t1 10 (by decide) (by decide) (by decide) (by decide) (by decide)) hh4) hxw) (fun z158 σ158 h158 => ?_)
                  obtain ⟨rfl, hf2⟩ := h158
                  rw [hk2.hurt]
                  exact z_iret dX8_through_161 ⟨by unfold thG; rw [if_neg (by omega), if_neg (by omega), if_neg (by omega), if_neg (by omega), if_neg (by omega), if_neg (by omega), if_pos (by omega)], hk2.tr (k1.kc hf2 (by decide))⟩
              · first
                | exfalso; omega
                | skip
                  refine z_aload_n dX8_through_162 rfl ?_
                  refine z_getR dX8_through_163 gX8_42 rfl (Nat.le_of_ble_eq_true rfl) rfl ?_
                  refine z_aload_n dX8_through_166 rfl ?_
                  refine z_getR dX8_through_167 gX8_42 rfl (Nat.le_of_ble_eq_true rfl) rfl ?_
                  refine z_getR dX8_through_170 gX8_170 rfl (Nat.le_of_ble_eq_true rfl) rfl ?_
                  refine z_aload_n dX8_through_173 rfl ?_
                  refine z_getR dX8_through_174 gX8_42 rfl (Nat.le_of_ble_eq_true rfl) rfl ?_
                  refine z_getI dX8_through_177 gX8_156 rfl (Nat.le_of_ble_eq_true rfl) rfl (fun hr177 => ?_)
                  refine z_iconst dX8_through_180 ?_
                  rw [t3]
                  refine z_callVI (d := d + 5) (av := [_, _, _]) dX8_through_181 vX8_173 rfl (Nat.le_of_ble_eq_true rfl) rfl rfl rfl (Nat.le_of_ble_eq_true rfl) (Nat.le_refl _) (c_X6_sumOf (X := (cmL (pasC LF σ (finC σ m)) (SYC σ s) 0 0).2) rfl (Nat.le_of_ble_eq_true rfl) (by decide) hWu.2.2.2.2.1 rfl (by omega) (by decide) t5 hcw.2) (fun z181 σ181 h181 => ?_)
                  obtain ⟨rfl, hs181⟩ := h181
                  subst σ181
                  rw [show σ43 (13 + (1 : Int).toNat) = σ 14 from hk2 14 (by omega)]
                  exact z_iret dX8_through_184 ⟨by unfold thG; rw [if_neg (by omega), if_neg (by omega), if_neg (by omega), if_neg (by omega), if_neg (by omega), if_neg (by omega), if_neg (by omega)], hk2⟩
          · first
            | exfalso; omega
            | skip
              have hh : hrC σ s m ≠ 0 ∧ z14 = hrC σ s m ∧ σ14 = σ := by rcases h14 with q | q; exact ⟨q.1, q.2.1, q.2.2.2⟩; exfalso; have := q.2.1; omega
              obtain ⟨hh1, hh2, hs⟩ := hh
              subst σ14
              refine z_iload dX8_through_24 rfl ?_
              exact z_iret dX8_through_26 ⟨by unfold thG; rw [if_neg (by omega), if_pos hh1, hh2], KC.rf σ⟩
      · first
        | exfalso; omega
        | skip
          refine z_iconst dX8_through_9 ?_
          exact z_iret dX8_through_10 ⟨by unfold thG; rw [if_pos (by omega)], KC.rf σ⟩
def ntG (hr : Int) (ps : Int → Int → Int → Bool) (X : List Int) (k w : Int) : Int := if k < 0 ∨ w < 0 ∨ 1 < w then -1 else if hr ≠ 0 then hr else gtL (if w = 0 then (cmL ps X 0 0).1 else (cmL ps X 0 0).2) k
set_option maxRecDepth 20000 in
theorem c_X8_nth {d : Nat} {σ : Sto} {LF : LFT} {s m k w : Int} (hW : WC LF σ) (hS : SH σ) (hs : inR s) (hm : inR m) (hkk : inR k) (hw : inR w) : m_X8_nth d [zR 0, zI s, zI m, zI k, zI w] σ (qI fun z σ' => z = ntG (hrC σ s m) (pasC LF σ (finC σ m)) (SYC σ s) k w ∧ KC σ σ') := by
  have hfR := finC_R (m := m) hW
  have w2 := hW.2.1
  refine z_does (L := [some (zR 0), some (zI s), some (zI m), some (zI k), some (zI w), none, none]) rfl (by decide +kernel) (Nat.le_of_ble_eq_true rfl) rfl ?_
  refine z_iload_n dX8_nth_0 rfl ?_
  refine z_if_lt (tgt := 15) dX8_nth_1 (by decide) ⟨by omega, by omega⟩ (fun h1 => ?_) (fun h1 => ?_)
  · first
    | exfalso; omega
    | skip
      refine z_iconst dX8_nth_15 ?_
      exact z_iret dX8_nth_16 ⟨by unfold ntG; rw [if_pos (by omega)], KC.rf σ⟩
  · first
    | exfalso; omega
    | skip
      refine z_iload dX8_nth_4 rfl ?_
      refine z_if_lt (tgt := 15) dX8_nth_6 (by decide) ⟨by omega, by omega⟩ (fun h6 => ?_) (fun h6 => ?_)
      · first
        | exfalso; omega
        | skip
          refine z_iconst dX8_nth_15 ?_
          exact z_iret dX8_nth_16 ⟨by unfold ntG; rw [if_pos (by omega)], KC.rf σ⟩
      · first
        | exfalso; omega
        | skip
          refine z_iload dX8_nth_9 rfl ?_
          refine z_iconst dX8_nth_11 ?_
          refine z_icmp_le (tgt := 17) dX8_nth_12 (by decide) ⟨by omega, by omega⟩ ⟨by omega, by omega⟩ (fun h12 => ?_) (fun h12 => ?_)
          · first
            | exfalso; omega
            | skip
              refine z_aload_n dX8_nth_17 rfl ?_
              refine z_iload_n dX8_nth_18 rfl ?_
              refine z_iload_n dX8_nth_19 rfl ?_
              refine z_callVI (d := d + 5) (av := [_, _]) dX8_nth_20 vX8_146 rfl (Nat.le_of_ble_eq_true rfl) rfl rfl rfl (Nat.le_of_ble_eq_true rfl) (Nat.le_refl _) (c_X8_hear (LF := LF) hW hS (by omega) (by omega)) (fun z20 σ20 h20 => ?_)
              have hzr : -12 ≤ z20 ∧ z20 ≤ 12 := by rcases h20 with q | q; have := hrC_n q.1; have := q.2.1; omega; have := q.2.1; have := SYC_len (σ := σ) (s := s); omega
              refine z_istore (L' := [_, _, _, _, _, _, _]) dX8_nth_23 (Nat.le_of_ble_eq_true rfl) rfl rfl ?_
              refine z_iload dX8_nth_25 rfl ?_
              refine z_if_ge (tgt := 33) dX8_nth_27 (by decide) ⟨by omega, by omega⟩ (fun h27 => ?_) (fun h27 => ?_)
              · first
                | exfalso; omega
                | skip
                  have hh : hrC σ s m = 0 ∧ z20 = (SYC σ s).length ∧ (∀ a, a ≠ 10 → σ20 a = σ a) ∧ Seg σ20 10 0 (SYC σ s) := by rcases h20 with q | q; exfalso; have := q.2.2.1; omega; exact q
                  obtain ⟨hh1, hh2, hh3, hh4⟩ := hh
                  subst hh2
                  obtain ⟨hs6, hm5, h30⟩ := hrC_0 hh1
                  have hk := k1.kc hh3 (by decide)
                  have hWt := hk.wc hW
                  have hx12 := SYC_len (σ := σ) (s := s)
                  have hxw := SYC_wok (s := s) hW
                  refine z_aload_n dX8_nth_33 rfl ?_
                  refine z_getR dX8_nth_34 gX8_42 rfl (Nat.le_of_ble_eq_true rfl) rfl ?_
                  refine z_aload_n dX8_nth_37 rfl ?_
                  refine z_getR dX8_nth_38 gX8_69 rfl (Nat.le_of_ble_eq_true rfl) rfl ?_
                  refine z_iload dX8_nth_41 rfl ?_
                  refine z_aload_n dX8_nth_43 rfl ?_
                  refine z_iload_n dX8_nth_44 rfl ?_
                  refine z_callVI (d := d + 5) (av := [_]) dX8_nth_45 vX8_139 rfl (Nat.le_of_ble_eq_true rfl) rfl rfl rfl (Nat.le_of_ble_eq_true rfl) (Nat.le_refl _) (c_X8_fineOf (by omega)) (fun z45 σ45 h45 => ?_)
                  obtain ⟨rfl, hs45⟩ := h45
                  subst σ45
                  rw [hk.fin]
                  refine z_iconst dX8_nth_48 ?_
                  refine z_callVV (d := d + 5) (av := [_, _, _, _]) dX8_nth_49 vX8_149 rfl (Nat.le_of_ble_eq_true rfl) rfl rfl rfl (Nat.le_of_ble_eq_true rfl) (Nat.le_refl _) (c_X6_strain (LF := LF) (xs := (SYC σ s)) hWt rfl (Nat.le_of_ble_eq_true rfl) (by decide) (by decide) (by omega) (by omega) rfl hxw hh4 (by omega)) (fun σ49 h49 => ?_)
                  obtain ⟨t1, t2, t3, t4, t5⟩ := h49
                  rw [hk.ps] at t2 t3 t4 t5
                  have hk2 := hk.tr t1.kc
                  have hcl := cmL_len (ps := pasC LF σ (finC σ m)) (SYC σ s) 0 0
                  have hcw := cmL_wok (ps := pasC LF σ (finC σ m)) (SYC σ s) 0 0 hxw
                  have hWu := hk2.wc hW
                  refine z_iload dX8_nth_52 rfl ?_
                  refine z_if_ne (tgt := 67) dX8_nth_54 (by decide) ⟨by omega, by omega⟩ (fun h54 => ?_) (fun h54 => ?_)
                  · first
                    | exfalso; omega
                    | skip
                      refine z_aload_n dX8_nth_67 rfl ?_
                      refine z_getR dX8_nth_68 gX8_42 rfl (Nat.le_of_ble_eq_true rfl) rfl ?_
                      refine z_getI dX8_nth_71 gX8_156 rfl (Nat.le_of_ble_eq_true rfl) rfl (fun hr71 => ?_)
                      try rw [t3]
                      refine z_istore (L' := [_, _, _, _, _, _, _]) dX8_nth_74 (Nat.le_of_ble_eq_true rfl) rfl rfl ?_
                      refine z_iload_n dX8_nth_76 rfl ?_
                      refine z_iload dX8_nth_77 rfl ?_
                      refine z_icmp_ge (tgt := 88) dX8_nth_79 (by decide) ⟨by omega, by omega⟩ ⟨by omega, by omega⟩ (fun h79 => ?_) (fun h79 => ?_)
                      · first
                        | exfalso; omega
                        | skip
                          refine z_bipush (v := -2) dX8_nth_88 (by decide +kernel) ?_
                          exact z_iret dX8_nth_90 ⟨by unfold ntG gtL; rw [if_neg (by omega), if_neg (by omega)]; first | (rw [if_pos (by omega : w = 0), if_neg (by omega)]) | (rw [if_neg (by omega : ¬ w = 0), if_neg (by omega)]), hk2⟩
                      · first
                        | exfalso; omega
                        | skip
                          refine z_iload_n dX8_nth_82 rfl ?_
                          refine z_bipush (v := 12) dX8_nth_83 (by decide +kernel) ?_
                          refine z_icmp_lt (tgt := 91) dX8_nth_85 (by decide) ⟨by omega, by omega⟩ ⟨by omega, by omega⟩ (fun h85 => ?_) (fun h85 => ?_)
                          · first
                            | exfalso; omega
                            | skip
                              refine z_iload dX8_nth_91 rfl ?_
                              refine z_if_ne (tgt := 108) dX8_nth_93 (by decide) ⟨by omega, by omega⟩ (fun h93 => ?_) (fun h93 => ?_)
                              · first
                                | exfalso; omega
                                | skip
                                  refine z_aload_n dX8_nth_108 rfl ?_
                                  refine z_getR dX8_nth_109 gX8_42 rfl (Nat.le_of_ble_eq_true rfl) rfl ?_
                                  refine z_getR dX8_nth_112 gX8_170 rfl (Nat.le_of_ble_eq_true rfl) rfl ?_
                                  refine z_iload_n dX8_nth_115 rfl ?_
                                  have e5 := Seg.getD t5 (show k.toNat < (cmL (pasC LF σ (finC σ m)) (SYC σ s) 0 0).2.length by omega)
                                  rw [Nat.zero_add] at e5
                                  refine z_iald dX8_nth_116 rfl (Nat.le_of_ble_eq_true rfl) (by omega) (fun hr116 => ?_)
                                  exact z_iret dX8_nth_117 ⟨by unfold ntG gtL; rw [if_neg (by omega), if_neg (by omega)]; first | (rw [if_pos (by omega : w = 0), if_pos (by omega), e4]) | (rw [if_neg (by omega : ¬ w = 0), if_pos (by omega), e5]), hk2⟩
                              · first
                                | exfalso; omega
                                | skip
                                  refine z_aload_n dX8_nth_96 rfl ?_
                                  refine z_getR dX8_nth_97 gX8_42 rfl (Nat.le_of_ble_eq_true rfl) rfl ?_
                                  refine z_getR dX8_nth_100 gX8_159 rfl (Nat.le_of_ble_eq_true rfl) rfl ?_
                                  refine z_iload_n dX8_nth_103 rfl ?_
                                  have e4 := Seg.getD t4 (show k.toNat < (cmL (pasC LF σ (finC σ m)) (SYC σ s) 0 0).1.length by omega)
                                  rw [Nat.zero_add] at e4
                                  refine z_iald dX8_nth_104 rfl (Nat.le_of_ble_eq_true rfl) (by omega) (fun hr104 => ?_)
                                  refine z_goto (tgt := 117) dX8_nth_105 (by decide) ?_
                                  exact z_iret dX8_nth_117 ⟨by unfold ntG gtL; rw [if_neg (by omega), if_neg (by omega)]; first | (rw [if_pos (by omega : w = 0), if_pos (by omega), e4]) | (rw [if_neg (by omega : ¬ w = 0), if_pos (by omega), e5]), hk2⟩
                          · first
                            | exfalso; omega
                            | skip
                              refine z_bipush (v := -2) dX8_nth_88 (by decide +kernel) ?_
                              exact z_iret dX8_nth_90 ⟨by unfold ntG gtL; rw [if_neg (by omega), if_neg (by omega)]; first | (rw [if_pos (by omega : w = 0), if_neg (by omega)]) | (rw [if_neg (by omega : ¬ w = 0), if_neg (by omega)]), hk2⟩
                  · first
                    | exfalso; omega
                    | skip
                      refine z_aload_n dX8_nth_57 rfl ?_
                      refine z_getR dX8_nth_58 gX8_42 rfl (Nat.le_of_ble_eq_true rfl) rfl ?_
                      refine z_getI dX8_nth_61 gX8_153 rfl (Nat.le_of_ble_eq_true rfl) rfl (fun hr61 => ?_)
                      rw [t2]
                      refine z_goto (tgt := 74) dX8_nth_64 (by decide) ?_
                      try rw [t3]
                      refine z_istore (L' := [_, _, _, _, _, _, _]) dX8_nth_74 (Nat.le_of_ble_eq_true rfl) rfl rfl ?_
                      refine z_iload_n dX8_nth_76 rfl ?_
                      refine z_iload dX8_nth_77 rfl ?_
                      refine z_icmp_ge (tgt := 88) dX8_nth_79 (by decide) ⟨by omega, by omega⟩ ⟨by omega, by omega⟩ (fun h79 => ?_) (fun h79 => ?_)
                      · first
                        | exfalso; omega
                        | skip
                          refine z_bipush (v := -2) dX8_nth_88 (by decide +kernel) ?_
                          exact z_iret dX8_nth_90 ⟨by unfold ntG gtL; rw [if_neg (by omega), if_neg (by omega)]; first | (rw [if_pos (by omega : w = 0), if_neg (by omega)]) | (rw [if_neg (by omega : ¬ w = 0), if_neg (by omega)]), hk2⟩
                      · first
                        | exfalso; omega
                        | skip
                          refine z_iload_n dX8_nth_82 rfl ?_
                          refine z_bipush (v := 12) dX8_nth_83 (by decide +kernel) ?_
                          refine z_icmp_lt (tgt := 91) dX8_nth_85 (by decide) ⟨by omega, by omega⟩ ⟨by omega, by omega⟩ (fun h85 => ?_) (fun h85 => ?_)
                          · first
                            | exfalso; omega
                            | skip
                              refine z_iload dX8_nth_91 rfl ?_
                              refine z_if_ne (tgt := 108) dX8_nth_93 (by decide) ⟨by omega, by omega⟩ (fun h93 => ?_) (fun h93 => ?_)
                              · first
                                | exfalso; omega
                                | skip
                                  refine z_aload_n dX8_nth_108 rfl ?_
                                  refine z_getR dX8_nth_109 gX8_42 rfl (Nat.le_of_ble_eq_true rfl) rfl ?_
                                  refine z_getR dX8_nth_112 gX8_170 rfl (Nat.le_of_ble_eq_true rfl) rfl ?_
                                  refine z_iload_n dX8_nth_115 rfl ?_
                                  have e5 := Seg.getD t5 (show k.toNat < (cmL (pasC LF σ (finC σ m)) (SYC σ s) 0 0).2.length by omega)
                                  rw [Nat.zero_add] at e5
                                  refine z_iald dX8_nth_116 rfl (Nat.le_of_ble_eq_true rfl) (by omega) (fun hr116 => ?_)
                                  exact z_iret dX8_nth_117 ⟨by unfold ntG gtL; rw [if_neg (by omega), if_neg (by omega)]; first | (rw [if_pos (by omega : w = 0), if_pos (by omega), e4]) | (rw [if_neg (by omega : ¬ w = 0), if_pos (by omega), e5]), hk2⟩
                              · first
                                | exfalso; omega
                                | skip
                                  refine z_aload_n dX8_nth_96 rfl ?_
                                  refine z_getR dX8_nth_97 gX8_42 rfl (Nat.le_of_ble_eq_true rfl) rfl ?_
                                  refine z_getR dX8_nth_100 gX8_159 rfl (Nat.le_of_ble_eq_true rfl) rfl ?_
                                  refine z_iload_n dX8_nth_103 rfl ?_
                                  have e4 := Seg.getD t4 (show k.toNat < (cmL (pasC LF σ (finC σ m)) (SYC σ s) 0 0).1.length by omega)
                                  rw [Nat.zero_add] at e4
                                  refine z_iald dX8_nth_104 rfl (Nat.le_of_ble_eq_true rfl) (by omega) (fun hr104 => ?_)
                                  refine z_goto (tgt := 117) dX8_nth_105 (by decide) ?_
                                  exact z_iret dX8_nth_117 ⟨by unfold ntG gtL; rw [if_neg (by omega), if_neg (by omega)]; first | (rw [if_pos (by omega : w = 0), if_pos (by omega), e4]) | (rw [if_neg (by omega : ¬ w = 0), if_pos (by omega), e5]), hk2⟩
                          · first
                            | exfalso; omega
                            | skip
                              refine z_bipush (v := -2) dX8_nth_88 (by decide +kernel) ?_
                              exact z_iret dX8_nth_90 ⟨by unfold ntG gtL; rw [if_neg (by omega), if_neg (by omega)]; first | (rw [if_pos (by omega : w = 0), if_neg (by omega)]) | (rw [if_neg (by omega : ¬ w = 0), if_neg (by omega)]), hk2⟩
              · first
                | exfalso; omega
                | skip
                  have hh : hrC σ s m ≠ 0 ∧ z20 = hrC σ s m ∧ σ20 = σ := by rcases h20 with q | q; exact ⟨q.1, q.2.1, q.2.2.2⟩; exfalso; have := q.2.1; omega
                  obtain ⟨hh1, hh2, hs⟩ := hh
                  subst σ20
                  refine z_iload dX8_nth_30 rfl ?_
                  exact z_iret dX8_nth_32 ⟨by unfold ntG; rw [if_neg (by omega), if_pos hh1, hh2], KC.rf σ⟩
          · first
            | exfalso; omega
            | skip
              refine z_iconst dX8_nth_15 ?_
              exact z_iret dX8_nth_16 ⟨by unfold ntG; rw [if_pos (by omega)], KC.rf σ⟩
def syG (hr : Int) (ps : Int → Int → Int → Bool) (S : Nat → Int) (X : List Int) (wn : Nat) (k : Int) : Int :=
  if k < -1 then -1 else if hr ≠ 0 then hr
  else if X.length ≤ 10 ∧ ndA ps S X wn 0 0 < 100 ∧ k < ndA ps S X wn 0 0 then (if k = -1 then ndA ps S X wn 0 0 else (spL ps S X wn (ndA ps S X wn 0 0).toNat 0 0).getD k.toNat 0) else -2
theorem spL_len {ps : Int → Int → Int → Bool} {S : Nat → Int} {X : List Int} {wn : Nat} : ∀ (r : Nat) (p c : Int), (spL ps S X wn r p c).length = r
  | 0, _, _ => rfl
  | r + 1, p, c => by rw [spL]; simp only [List.length_cons]; rw [spL_len r]
theorem ndA_le {ps : Int → Int → Int → Bool} {S : Nat → Int} {X : List Int} {wn : Nat} : ∀ (k : Nat) (p c : Int), p + k = 10 → 0 ≤ p → (0 ≤ c ∧ c ≤ p ∧ c ≤ X.length) → ndA ps S X wn p c < 100 → ndA ps S X wn p c ≤ k
  | 0, p, c, hp, h0, hc, h => by
    have hr := ndF_R (ps := ps) (S := S) (X := X) (wn := wn) (10 - p).toNat c.toNat
    have hr : 0 ≤ ndA ps S X wn p c := hr.1
    by_cases g : ndA ps S X wn p c = 0
    · omega
    · have := (nd_step (ps := ps) (S := S) (X := X) (wn := wn) (p := p) (c := c) (by omega) hc (by omega) h rfl).2.1
      omega
  | k + 1, p, c, hp, h0, hc, h => by
    have hr := ndF_R (ps := ps) (S := S) (X := X) (wn := wn) (10 - p).toNat c.toNat
    have hr : 0 ≤ ndA ps S X wn p c := hr.1
    by_cases g : ndA ps S X wn p c = 0
    · omega
    · obtain ⟨-, -, s1, s2⟩ := nd_step (ps := ps) (S := S) (X := X) (wn := wn) (p := p) (c := c) (by omega) hc (by omega) h rfl
      cases hb : ps (fsF (fun w => nwP ps S X p (fun b => ndA ps S X wn (p + 1) b) c w) (ndA ps S X wn p c) wn 0) p (p - c)
      · have e := s2 hb
        have := ndA_le (ps := ps) (S := S) (X := X) (wn := wn) k (p + 1) c (by omega) (by omega) (by omega) (by omega)
        omega
      · obtain ⟨e1, e⟩ := s1 hb
        have := ndA_le (ps := ps) (S := S) (X := X) (wn := wn) k (p + 1) (c + 1) (by omega) (by omega) (by omega) (by omega)
        omega
set_option maxRecDepth 20000 in
theorem c_X8_say {d : Nat} {σ : Sto} {LF : LFT} {s m k : Int} (hW : WC LF σ) (hS : SH σ) (hs : inR s) (hm : inR m) (hkk : inR k) : m_X8_say d [zR 0, zI s, zI m, zI k] σ (qI fun z σ' => z = syG (hrC σ s m) (pasC LF σ (finC σ m)) (σ 16) (SYC σ s) (σ 1 1).toNat k ∧ KC σ σ') := by
  have hfR := finC_R (m := m) hW
  have w2 := hW.2.1
  have hr := ndF_R (ps := pasC LF σ (finC σ m)) (S := σ 16) (X := SYC σ s) (wn := (σ 1 1).toNat) 10 0
  have hr : 0 ≤ ndA (pasC LF σ (finC σ m)) (σ 16) (SYC σ s) (σ 1 1).toNat 0 0 ∧ ndA (pasC LF σ (finC σ m)) (σ 16) (SYC σ s) (σ 1 1).toNat 0 0 ≤ 100 := hr
  have hN10 : ndA (pasC LF σ (finC σ m)) (σ 16) (SYC σ s) (σ 1 1).toNat 0 0 < 100 → ndA (pasC LF σ (finC σ m)) (σ 16) (SYC σ s) (σ 1 1).toNat 0 0 ≤ ((10 : Nat) : Int) := ndA_le 10 0 0 (by decide) (by decide) (by omega)
  generalize hN : ndA (pasC LF σ (finC σ m)) (σ 16) (SYC σ s) (σ 1 1).toNat 0 0 = N at hr hN10
  refine z_does (L := [some (zR 0), some (zI s), some (zI m), some (zI k), none, none]) rfl (by decide +kernel) (Nat.le_of_ble_eq_true rfl) rfl ?_
  refine z_iload_n dX8_say_0 rfl ?_
  refine z_iconst dX8_say_1 ?_
  refine z_icmp_ge (tgt := 7) dX8_say_2 (by decide) ⟨by omega, by omega⟩ ⟨by omega, by omega⟩ (fun h2 => ?_) (fun h2 => ?_)
  · first
    | exfalso; omega
    | skip
      refine z_aload_n dX8_say_7 rfl ?_
      refine z_iload_n dX8_say_8 rfl ?_
      refine z_iload_n dX8_say_9 rfl ?_
      refine z_callVI (d := d + 5) (av := [_, _]) dX8_say_10 vX8_146 rfl (Nat.le_of_ble_eq_true rfl) rfl rfl rfl (Nat.le_of_ble_eq_true rfl) (Nat.le_refl _) (c_X8_hear (LF := LF) hW hS (by omega) (by omega)) (fun z10 σ10 h10 => ?_)
      have hzr : -12 ≤ z10 ∧ z10 ≤ 12 := by rcases h10 with q | q; have := hrC_n q.1; have := q.2.1; omega; have := q.2.1; have := SYC_len (σ := σ) (s := s); omega
      refine z_istore (L' := [_, _, _, _, _, _]) dX8_say_13 (Nat.le_of_ble_eq_true rfl) rfl rfl ?_
      refine z_iload dX8_say_15 rfl ?_
      refine z_if_ge (tgt := 23) dX8_say_17 (by decide) ⟨by omega, by omega⟩ (fun h17 => ?_) (fun h17 => ?_)
      · first
        | exfalso; omega
        | skip
          have hh : hrC σ s m = 0 ∧ z10 = (SYC σ s).length ∧ (∀ a, a ≠ 10 → σ10 a = σ a) ∧ Seg σ10 10 0 (SYC σ s) := by rcases h10 with q | q; exfalso; have := q.2.2.1; omega; exact q
          obtain ⟨hh1, hh2, hh3, hh4⟩ := hh
          subst hh2
          obtain ⟨hs6, hm5, h30⟩ := hrC_0 hh1
          have hk := k1.kc hh3 (by decide)
          have hWt := hk.wc hW
          have hx12 := SYC_len (σ := σ) (s := s)
          have hxw := SYC_wok (s := s) hW
          refine z_aload_n dX8_say_23 rfl ?_
          refine z_getR dX8_say_24 gX8_51 rfl (Nat.le_of_ble_eq_true rfl) rfl ?_
          refine z_aload_n dX8_say_27 rfl ?_
          refine z_getR dX8_say_28 gX8_69 rfl (Nat.le_of_ble_eq_true rfl) rfl ?_
          refine z_iload dX8_say_31 rfl ?_
          refine z_aload_n dX8_say_33 rfl ?_
          refine z_iload_n dX8_say_34 rfl ?_
          refine z_callVI (d := d + 5) (av := [_]) dX8_say_35 vX8_139 rfl (Nat.le_of_ble_eq_true rfl) rfl rfl rfl (Nat.le_of_ble_eq_true rfl) (Nat.le_refl _) (c_X8_fineOf (by omega)) (fun z35 σ35 h35 => ?_)
          obtain ⟨rfl, hs35⟩ := h35
          subst σ35
          rw [hk.fin]
          refine z_callVI (d := d + 5) (av := [_, _, _]) dX8_say_38 vX8_195 rfl (Nat.le_of_ble_eq_true rfl) rfl rfl rfl (Nat.le_of_ble_eq_true rfl) (Nat.le_refl _) (c_X4_shortestSaying (LF := LF) (X := SYC σ s) hWt (by omega) hxw hh4 (by omega)) (fun z38 σ38 h38 => ?_)
          obtain ⟨g1, g2, g3⟩ := h38
          rw [hk.ps, hk 16 (by omega), hk 1 (by omega), hN] at g2 g3
          have hk2 := hk.tr g1.kc
          have g2 : ((SYC σ s).length ≤ 10 ∧ N < 100 ∧ z38 = N) ∨ (¬ ((SYC σ s).length ≤ 10 ∧ N < 100) ∧ z38 = -2) := by
            by_cases c : (SYC σ s).length ≤ 10 ∧ N < 100
            · rw [if_pos c] at g2; exact Or.inl ⟨c.1, c.2, g2⟩
            · rw [if_neg c] at g2; exact Or.inr ⟨c, g2⟩
          refine z_istore (L' := [_, _, _, _, _, _]) dX8_say_41 (Nat.le_of_ble_eq_true rfl) rfl rfl ?_
          refine z_iload dX8_say_43 rfl ?_
          refine z_if_lt (tgt := 54) dX8_say_45 (by decide) (by rcases g2 with v | v <;> exact ⟨by omega, by omega⟩) (fun h45 => ?_) (fun h45 => ?_)
          · skip
            refine z_bipush (v := -2) dX8_say_54 (by decide +kernel) ?_
            exact z_iret dX8_say_56 ⟨by unfold syG; rw [if_neg (by omega), if_neg (by omega), hN, if_neg (by rintro ⟨q1, q2, q3⟩; rcases g2 with v | v; omega; exact v.1 ⟨q1, q2⟩)], hk2⟩
          · skip
            refine z_iload_n dX8_say_48 rfl ?_
            refine z_iload dX8_say_49 rfl ?_
            refine z_icmp_lt (tgt := 57) dX8_say_51 (by decide) (by rcases g2 with v | v <;> exact ⟨by omega, by omega⟩) (by rcases g2 with v | v <;> exact ⟨by omega, by omega⟩) (fun h51 => ?_) (fun h51 => ?_)
            · skip
              refine z_iload_n dX8_say_57 rfl ?_
              refine z_iconst dX8_say_58 ?_
              refine z_icmp_ne (tgt := 67) dX8_say_59 (by decide) ⟨by omega, by omega⟩ ⟨by omega, by omega⟩ (fun h59 => ?_) (fun h59 => ?_)
              · skip
                have hg := g3 (by rcases g2 with v | v; exact ⟨v.1, v.2.1⟩; exfalso; omega)
                have hkN : k < N ∧ N ≤ 10 := by rcases g2 with v | v <;> omega
                refine z_aload_n dX8_say_67 rfl ?_
                refine z_getR dX8_say_68 gX8_51 rfl (Nat.le_of_ble_eq_true rfl) rfl ?_
                refine z_iload_n dX8_say_71 rfl ?_
                refine z_callVI (d := d + 5) (av := [_]) dX8_say_72 vX8_198 rfl (Nat.le_of_ble_eq_true rfl) rfl rfl rfl (Nat.le_of_ble_eq_true rfl) (Nat.le_refl _) (c_X4_foundAt (by omega)) (fun z72 σ72 h72 => ?_)
                obtain ⟨rfl, hs72⟩ := h72
                subst σ72
                exact z_iret dX8_say_75 (by
                  refine ⟨?_, hk2⟩
                  unfold syG
                  rw [if_neg (by omega), if_neg (by omega), hN, if_pos (by rcases g2 with v | v; exact ⟨v.1, v.2.1, by omega⟩; exfalso; omega)]
                  first
                    | (rw [if_pos (by omega)]; rcases g2 with v | v; exact v.2.2; exfalso; omega)
                    | (rw [if_neg (by omega)]
                       have := Seg.getD hg (show k.toNat < (spL (pasC LF σ (finC σ m)) (σ 16) (SYC σ s) (σ 1 1).toNat N.toNat 0 0).length by rw [spL_len]; omega)
                       rw [Nat.zero_add] at this
                       exact this))
              · skip
                refine z_iload dX8_say_62 rfl ?_
                refine z_goto (tgt := 75) dX8_say_64 (by decide) ?_
                exact z_iret dX8_say_75 (by
                  refine ⟨?_, hk2⟩
                  unfold syG
                  rw [if_neg (by omega), if_neg (by omega), hN, if_pos (by rcases g2 with v | v; exact ⟨v.1, v.2.1, by omega⟩; exfalso; omega)]
                  first
                    | (rw [if_pos (by omega)]; rcases g2 with v | v; exact v.2.2; exfalso; omega)
                    | (rw [if_neg (by omega)]
                       have := Seg.getD hg (show k.toNat < (spL (pasC LF σ (finC σ m)) (σ 16) (SYC σ s) (σ 1 1).toNat N.toNat 0 0).length by rw [spL_len]; omega)
                       rw [Nat.zero_add] at this
                       exact this))
            · skip
              refine z_bipush (v := -2) dX8_say_54 (by decide +kernel) ?_
              exact z_iret dX8_say_56 ⟨by unfold syG; rw [if_neg (by omega), if_neg (by omega), hN, if_neg (by rintro ⟨q1, q2, q3⟩; rcases g2 with v | v; omega; exact v.1 ⟨q1, q2⟩)], hk2⟩
      · first
        | exfalso; omega
        | skip
          have hh : hrC σ s m ≠ 0 ∧ z10 = hrC σ s m ∧ σ10 = σ := by rcases h10 with q | q; exact ⟨q.1, q.2.1, q.2.2.2⟩; exfalso; have := q.2.1; omega
          obtain ⟨hh1, hh2, hs⟩ := hh
          subst σ10
          refine z_iload dX8_say_20 rfl ?_
          exact z_iret dX8_say_22 ⟨by unfold syG; rw [if_neg (by omega), if_pos hh1, hh2], KC.rf σ⟩
  · first
    | exfalso; omega
    | skip
      refine z_iconst dX8_say_5 ?_
      exact z_iret dX8_say_6 ⟨by unfold syG; rw [if_pos (by omega)], KC.rf σ⟩
/-- the greatest fineness below m by which all pass -/
def fnL (b : Int → Bool) : Nat → Int
  | 0 => -2
  | m + 1 => if b m = true then m else fnL b m
set_option maxRecDepth 20000 in
theorem l_X8_finest {d : Nat} {σ : Sto} {LF : LFT} {s : Int} (hW : WC LF σ) (hs6 : 0 ≤ s ∧ s < 6) :
    ∀ (m : Nat) (τ : Sto) (f : Int), f + 1 = m → f ≤ 9 → KC σ τ → Seg τ 10 0 (SYC σ s) →
    Z (z_me cX8_finest RX8 4 (some .int) (d + 6) (qI fun z σ' => z = fnL (fun f => decide ((cmL (pasC LF σ f) (SYC σ s) 0 0).2 = [])) m ∧ KC σ σ')) 16 [some (zR 0), some (zI s), some (zI (SYC σ s).length), some (zI f)] [] τ
  | 0, τ, f, hf, h9, hk, hh4 => by
    refine z_iload_n dX8_finest_16 rfl ?_
    refine z_if_lt (tgt := 52) dX8_finest_17 (by decide) ⟨by omega, by omega⟩ (fun h17 => ?_) (fun h17 => ?_)
    · skip
      refine z_bipush (v := -2) dX8_finest_52 (by decide +kernel) ?_
      exact z_iret dX8_finest_54 ⟨rfl, hk⟩
    · exfalso; omega
  | m + 1, τ, f, hf, h9, hk, hh4 => by
    have hx12 := SYC_len (σ := σ) (s := s)
    have hxw := SYC_wok (s := s) hW
    have hWt := hk.wc hW
    have ef : f = m := by omega
    refine z_iload_n dX8_finest_16 rfl ?_
    refine z_if_lt (tgt := 52) dX8_finest_17 (by decide) ⟨by omega, by omega⟩ (fun h17 => ?_) (fun h17 => ?_)
    · exfalso; omega
    · skip
      refine z_aload_n dX8_finest_20 rfl ?_
      refine z_getR dX8_finest_21 gX8_42 rfl (Nat.le_of_ble_eq_true rfl) rfl ?_
      refine z_aload_n dX8_finest_24 rfl ?_
      refine z_getR dX8_finest_25 gX8_69 rfl (Nat.le_of_ble_eq_true rfl) rfl ?_
      refine z_iload_n dX8_finest_28 rfl ?_
      refine z_iload_n dX8_finest_29 rfl ?_
      refine z_iconst dX8_finest_30 ?_
      refine z_callVV (d := d + 5) (av := [_, _, _, _]) dX8_finest_31 vX8_149 rfl (Nat.le_of_ble_eq_true rfl) rfl rfl rfl (Nat.le_of_ble_eq_true rfl) (Nat.le_refl _) (c_X6_strain (LF := LF) (xs := (SYC σ s)) hWt rfl (Nat.le_of_ble_eq_true rfl) (by decide) (by decide) (by omega) (by omega) rfl hxw hh4 (by omega)) (fun σ31 h31 => ?_)
      obtain ⟨t1, t2, t3, t4, t5⟩ := h31
      rw [hk.ps] at t2 t3 t4 t5
      have hk2 := hk.tr t1.kc
      have hcl := cmL_len (ps := pasC LF σ f) (SYC σ s) 0 0
      have hcw := cmL_wok (ps := pasC LF σ f) (SYC σ s) 0 0 hxw
      have hWu := hk2.wc hW
      refine z_aload_n dX8_finest_34 rfl ?_
      refine z_getR dX8_finest_35 gX8_42 rfl (Nat.le_of_ble_eq_true rfl) rfl ?_
      refine z_getI dX8_finest_38 gX8_156 rfl (Nat.le_of_ble_eq_true rfl) rfl (fun hr38 => ?_)
      rw [t3]
      refine z_if_ne (tgt := 46) dX8_finest_41 (by decide) ⟨by omega, by omega⟩ (fun h41 => ?_) (fun h41 => ?_)
      · skip
        refine z_iinc (L' := [_, _, _, _]) dX8_finest_46 (Nat.le_of_ble_eq_true rfl) rfl rfl rfl ?_
        refine z_goto (tgt := 16) dX8_finest_49 (by decide) ?_
        rw [fnL, if_neg (by rw [decide_eq_true_eq, ← ef]; intro q; rw [q] at h41; exact h41 rfl)]
        exact l_X8_finest hW hs6 m _ (f + -1) (by omega) (by omega) hk2 (Seg.row (t1 10 (by decide) (by decide) (by decide) (by decide) (by decide)) hh4)
      · skip
        refine z_iload_n dX8_finest_44 rfl ?_
        exact z_iret dX8_finest_45 ⟨by rw [fnL, if_pos (by rw [decide_eq_true_eq, ← ef]; exact List.length_eq_zero_iff.mp (by omega))]; exact ef, hk2⟩
def fnG (hr : Int) (ps : Int → Int → Int → Int → Bool) (X : List Int) : Int := if hr ≠ 0 then hr else fnL (fun f => decide ((cmL (ps f) X 0 0).2 = [])) 10
set_option maxRecDepth 20000 in
theorem c_X8_finest {d : Nat} {σ : Sto} {LF : LFT} {s : Int} (hW : WC LF σ) (hS : SH σ) (hs : inR s) : m_X8_finest d [zR 0, zI s] σ (qI fun z σ' => z = fnG (hrC σ s (-1)) (pasC LF σ) (SYC σ s) ∧ KC σ σ') := by
  refine z_does (L := [some (zR 0), some (zI s), none, none]) rfl (by decide +kernel) (Nat.le_of_ble_eq_true rfl) rfl ?_
  refine z_aload_n dX8_finest_0 rfl ?_
  refine z_iload_n dX8_finest_1 rfl ?_
  refine z_iconst dX8_finest_2 ?_
  refine z_callVI (d := d + 5) (av := [_, _]) dX8_finest_3 vX8_146 rfl (Nat.le_of_ble_eq_true rfl) rfl rfl rfl (Nat.le_of_ble_eq_true rfl) (Nat.le_refl _) (c_X8_hear (LF := LF) hW hS (by omega) (by omega)) (fun z3 σ3 h3 => ?_)
  have hzr : -12 ≤ z3 ∧ z3 ≤ 12 := by rcases h3 with q | q; have := hrC_n q.1; have := q.2.1; omega; have := q.2.1; have := SYC_len (σ := σ) (s := s); omega
  refine z_istore_n (L' := [_, _, _, _]) dX8_finest_6 (Nat.le_of_ble_eq_true rfl) rfl rfl ?_
  refine z_iload_n dX8_finest_7 rfl ?_
  refine z_if_ge (tgt := 13) dX8_finest_8 (by decide) ⟨by omega, by omega⟩ (fun h8 => ?_) (fun h8 => ?_)
  · first
    | exfalso; omega
    | skip
      have hh : hrC σ s (-1) = 0 ∧ z3 = (SYC σ s).length ∧ (∀ a, a ≠ 10 → σ3 a = σ a) ∧ Seg σ3 10 0 (SYC σ s) := by rcases h3 with q | q; exfalso; have := q.2.2.1; omega; exact q
      obtain ⟨hh1, hh2, hh3, hh4⟩ := hh
      subst hh2
      obtain ⟨hs6, hm5, h30⟩ := hrC_0 hh1
      have hk := k1.kc hh3 (by decide)
      have hWt := hk.wc hW
      have hx12 := SYC_len (σ := σ) (s := s)
      have hxw := SYC_wok (s := s) hW
      refine z_bipush (v := 9) dX8_finest_13 (by decide +kernel) ?_
      refine z_istore_n (L' := [_, _, _, _]) dX8_finest_15 (Nat.le_of_ble_eq_true rfl) rfl rfl ?_
      unfold fnG
      rw [if_neg (by omega)]
      exact l_X8_finest hW hs6 10 σ3 9 (by omega) (by omega) hk hh4
  · first
    | exfalso; omega
    | skip
      have hh : hrC σ s (-1) ≠ 0 ∧ z3 = hrC σ s (-1) ∧ σ3 = σ := by rcases h3 with q | q; exact ⟨q.1, q.2.1, q.2.2.2⟩; exfalso; have := q.2.1; omega
      obtain ⟨hh1, hh2, hs⟩ := hh
      subst σ3
      refine z_iload_n dX8_finest_11 rfl ?_
      exact z_iret dX8_finest_12 ⟨by unfold fnG; rw [if_pos hh1, hh2], KC.rf σ⟩
