/-! ===== TalkStrainer: what was said ===== -/
def minJ : Int := -9223372036854775808
def sdG (pr M m : Int) (ps : Int → Int → Int → Bool) (X Y : List Int) : Int := if pr ≠ 0 ∨ ¬ (-1 ≤ m ∧ m < M) then minJ else if 12 < X.length + Y.length then 0 else wyW ps X Y 0 0
set_option maxRecDepth 20000 in
theorem c_X8_said {d : Nat} {σ : Sto} {LF : LFT} {cl m : Int} (hW : WC LF σ) (hS : SH σ) (h1 : inR cl) (h2 : inR m) : m_X8_said d [zR 0, zI cl, zI m] σ (qJ fun z σ' => z = sdG (prC σ cl) (σ 1 2) m (pasC LF σ (finC σ m)) (SYC σ (cl.tdiv 10)) (SYC σ (cl.tmod 10)) ∧ KC σ σ') := by
  have hprR := prC_R (σ := σ) (t := cl)
  have w2 := hW.2.1
  have hfR := finC_R (m := m) hW
  refine z_does (L := [some (zR 0), some (zI cl), some (zI m), none, none, none]) rfl (by decide +kernel) (Nat.le_of_ble_eq_true rfl) rfl ?_
  refine z_aload_n dX8_said_0 rfl ?_
  refine z_iload_n dX8_said_1 rfl ?_
  refine z_callVI (d := d + 4) (av := [_]) dX8_said_2 vX8_177 rfl (Nat.le_of_ble_eq_true rfl) rfl rfl rfl (Nat.le_of_ble_eq_true rfl) (Nat.le_refl _) (c_X8_pairRefusal (by omega)) (fun z2 σ2 h2 => ?_)
  obtain ⟨rfl, hs2⟩ := h2
  subst σ2
  refine z_istore_n (L' := [_, _, _, _, _, _]) dX8_said_5 (Nat.le_of_ble_eq_true rfl) rfl rfl ?_
  refine z_iload_n dX8_said_6 rfl ?_
  refine z_if_ne (tgt := 18) dX8_said_7 (by decide) ⟨by omega, by omega⟩ (fun h7 => ?_) (fun h7 => ?_)
  · skip
    refine z_ldc2 dX8_said_18 kX8_215 ?_
    exact z_lret dX8_said_21 ⟨by unfold sdG; rw [if_pos (by omega)]; rfl, KC.rf σ⟩
  · skip
    refine z_aload_n dX8_said_10 rfl ?_
    refine z_iload_n dX8_said_11 rfl ?_
    refine z_callVI (d := d + 4) (av := [_]) dX8_said_12 vX8_212 rfl (Nat.le_of_ble_eq_true rfl) rfl rfl rfl (Nat.le_of_ble_eq_true rfl) (Nat.le_refl _) (c_X8_isMeshOrNone (by omega) (by omega)) (fun z12 σ12 h12 => ?_)
    obtain ⟨hs12, h12⟩ := h12
    subst σ12
    refine z_if_ne (tgt := 22) dX8_said_15 (by decide) ⟨by omega, by omega⟩ (fun h15 => ?_) (fun h15 => ?_)
    · first
      | exfalso; omega
      | skip
        obtain ⟨p1, p2, p3, p4, p5⟩ := prC_0 h7
        refine z_aload_n dX8_said_22 rfl ?_
        refine z_iload_n dX8_said_23 rfl ?_
        refine z_bipush (v := 10) dX8_said_24 (by decide +kernel) ?_
        refine z_idiv dX8_said_26 ⟨by omega, by omega⟩ ⟨by omega, by omega⟩ (by omega) ?_
        refine z_aload_n dX8_said_27 rfl ?_
        refine z_getR dX8_said_28 gX8_69 rfl (Nat.le_of_ble_eq_true rfl) rfl ?_
        refine z_callVI (d := d + 4) (av := [_, _]) dX8_said_31 vX8_180 rfl (Nat.le_of_ble_eq_true rfl) rfl rfl rfl (Nat.le_of_ble_eq_true rfl) (Nat.le_refl _) (c_X8_readSaying hW.1 hS p1 p3 rfl (Nat.le_of_ble_eq_true rfl) (by decide)) (fun z31 σ31 h31 => ?_)
        obtain ⟨rfl, u1, u2⟩ := h31
        have hk := k1.kc u1 (by decide)
        refine z_istore (L' := [_, _, _, _, _, _]) dX8_said_34 (Nat.le_of_ble_eq_true rfl) rfl rfl ?_
        refine z_aload_n dX8_said_36 rfl ?_
        refine z_iload_n dX8_said_37 rfl ?_
        refine z_bipush (v := 10) dX8_said_38 (by decide +kernel) ?_
        refine z_irem dX8_said_40 ⟨by omega, by omega⟩ ⟨by omega, by omega⟩ (by omega) ?_
        refine z_aload_n dX8_said_41 rfl ?_
        refine z_getR dX8_said_42 gX8_73 rfl (Nat.le_of_ble_eq_true rfl) rfl ?_
        refine z_callVI (d := d + 4) (av := [_, _]) dX8_said_45 vX8_180 rfl (Nat.le_of_ble_eq_true rfl) rfl rfl rfl (Nat.le_of_ble_eq_true rfl) (Nat.le_refl _) (c_X8_readSaying (hk.wc hW).1 (hk.sh hS) p2 (by rw [hk 30 (by omega)]; exact p4) rfl (Nat.le_of_ble_eq_true rfl) (by decide)) (fun z45 σ45 h45 => ?_)
        obtain ⟨rfl, v1, v2⟩ := h45
        rw [hk.sy p2] at v2 ⊢
        have hk2 := hk.tr (k1.kc v1 (by decide))
        refine z_istore (L' := [_, _, _, _, _, _]) dX8_said_48 (Nat.le_of_ble_eq_true rfl) rfl rfl ?_
        refine z_aload_n dX8_said_50 rfl ?_
        refine z_getR dX8_said_51 gX8_51 rfl (Nat.le_of_ble_eq_true rfl) rfl ?_
        refine z_aload_n dX8_said_54 rfl ?_
        refine z_getR dX8_said_55 gX8_69 rfl (Nat.le_of_ble_eq_true rfl) rfl ?_
        refine z_iload dX8_said_58 rfl ?_
        refine z_aload_n dX8_said_60 rfl ?_
        refine z_getR dX8_said_61 gX8_73 rfl (Nat.le_of_ble_eq_true rfl) rfl ?_
        refine z_iload dX8_said_64 rfl ?_
        refine z_aload_n dX8_said_66 rfl ?_
        refine z_iload_n dX8_said_67 rfl ?_
        refine z_callVI (d := d + 4) (av := [_]) dX8_said_68 vX8_139 rfl (Nat.le_of_ble_eq_true rfl) rfl rfl rfl (Nat.le_of_ble_eq_true rfl) (Nat.le_refl _) (c_X8_fineOf (by omega)) (fun z68 σ68 h68 => ?_)
        obtain ⟨rfl, hs68⟩ := h68
        subst σ68
        rw [hk2.fin]
        refine z_callVJ (d := d + 4) (av := [_, _, _, _, _]) dX8_said_71 vX8_217 rfl (Nat.le_of_ble_eq_true rfl) rfl rfl rfl (Nat.le_of_ble_eq_true rfl) (Nat.le_refl _) (c_X4_mergings (LF := LF) (hk2.wc hW) (by omega) (SYC_wok hW) (SYC_wok hW) SYC_len SYC_len (Seg.row (v1 10 (by decide)) u2) v2) (fun z71 σ71 h71 => ?_)
        rw [hk2.ps] at h71
        exact z_lret dX8_said_74 (by
          unfold sdG
          rw [if_neg (by omega)]
          rcases h71 with ⟨q1, q2, q3⟩ | ⟨q1, q2, q3, q4⟩
          · exact ⟨by rw [if_pos q1, q2], by rw [q3]; exact hk2⟩
          · exact ⟨by rw [if_neg (by omega), q2], hk2.tr q3.kc⟩)
    · first
      | exfalso; omega
      | skip
        refine z_ldc2 dX8_said_18 kX8_215 ?_
        exact z_lret dX8_said_21 ⟨by unfold sdG; rw [if_pos (by omega)]; rfl, KC.rf σ⟩
def saG (pr M m : Int) (ps : Int → Int → Int → Bool) (X Y : List Int) (k : Int) : Int :=
  if k < 0 ∨ ¬ (-1 ≤ m ∧ m < M) then -1 else if pr ≠ 0 then pr else if 12 < X.length + Y.length ∨ (X.length + Y.length : Int) ≤ k then -2 else if wyW ps X Y 0 0 = 0 then -2 else (fmL ps X Y (X.length + Y.length) 0 0).getD k.toNat 0
theorem fmL_len {ps : Int → Int → Int → Bool} {X Y : List Int} : ∀ (n c l : Nat), c ≤ X.length → l ≤ Y.length → n + (c + l) = X.length + Y.length → 0 < wyW ps X Y c l → (fmL ps X Y n c l).length = n
  | 0, _, _, _, _, _, _ => rfl
  | n + 1, c, l, hc, hl, hn, hw => by
    have e := wyW_eq (ps := ps) hc hl
    rw [if_neg (by omega)] at e
    have key : cmP ps X Y c l ∨ stP ps X Y c l := by
      by_cases g1 : c < X.length ∧ ps (X.getD c 0) (c + l : Nat) l = true
      · by_cases g2 : 0 < wyW ps X Y (c + 1) l
        · exact Or.inl ⟨g1.1, g2, g1.2⟩
        · rw [if_pos g1] at e
          by_cases g3 : l < Y.length ∧ ps (Y.getD l 0) (c + l : Nat) l = false
          · rw [if_pos g3] at e
            exact Or.inr ⟨g3.1, by omega, g3.2⟩
          · rw [if_neg g3] at e
            omega
      · rw [if_neg g1] at e
        by_cases g3 : l < Y.length ∧ ps (Y.getD l 0) (c + l : Nat) l = false
        · rw [if_pos g3] at e
          exact Or.inr ⟨g3.1, by omega, g3.2⟩
        · rw [if_neg g3] at e
          omega
    rw [fmL]
    by_cases g : cmP ps X Y c l ∧ (¬ stP ps X Y c l ∨ X.getD c 0 < Y.getD l 0)
    · rw [if_pos g, List.length_cons, fmL_len n (c + 1) l g.1.1 hl (by omega) g.1.2.1]
    · rw [if_neg g]
      have g2 : stP ps X Y c l := by
        rcases key with q | q
        · by_cases g3 : stP ps X Y c l
          · exact g3
          · exact absurd ⟨q, Or.inl g3⟩ g
        · exact q
      rw [if_pos g2, List.length_cons, fmL_len n c (l + 1) hc g2.1 (by omega) g2.2.1]
set_option maxRecDepth 20000 in
set_option maxHeartbeats 1000000 in
theorem c_X8_saidAt {d : Nat} {σ : Sto} {LF : LFT} {cl m k : Int} (hW : WC LF σ) (hS : SH σ) (h1 : inR cl) (h2 : inR m) (h3 : inR k) : m_X8_saidAt d [zR 0, zI cl, zI m, zI k] σ (qI fun z σ' => z = saG (prC σ cl) (σ 1 2) m (pasC LF σ (finC σ m)) (SYC σ (cl.tdiv 10)) (SYC σ (cl.tmod 10)) k ∧ KC σ σ') := by
  have hprR := prC_R (σ := σ) (t := cl)
  have w2 := hW.2.1
  have hfR := finC_R (m := m) hW
  have lx := SYC_len (σ := σ) (s := cl.tdiv 10)
  have ly := SYC_len (σ := σ) (s := cl.tmod 10)
  have hxw := SYC_wok (s := cl.tdiv 10) hW
  have hyw := SYC_wok (s := cl.tmod 10) hW
  refine z_does (L := [some (zR 0), some (zI cl), some (zI m), some (zI k), none, none, none, none, none]) rfl (by decide +kernel) (Nat.le_of_ble_eq_true rfl) rfl ?_
  refine z_iload_n dX8_saidAt_0 rfl ?_
  refine z_if_lt (tgt := 12) dX8_saidAt_1 (by decide) ⟨by omega, by omega⟩ (fun h1 => ?_) (fun h1 => ?_)
  · first
    | exfalso; omega
    | skip
      refine z_iconst dX8_saidAt_12 ?_
      exact z_iret dX8_saidAt_13 ⟨by unfold saG; rw [if_pos (by omega)], KC.rf σ⟩
  · first
    | exfalso; omega
    | skip
      refine z_aload_n dX8_saidAt_4 rfl ?_
      refine z_iload_n dX8_saidAt_5 rfl ?_
      refine z_callVI (d := d + 4) (av := [_]) dX8_saidAt_6 vX8_212 rfl (Nat.le_of_ble_eq_true rfl) rfl rfl rfl (Nat.le_of_ble_eq_true rfl) (Nat.le_refl _) (c_X8_isMeshOrNone (by omega) (by omega)) (fun z6 σ6 h6 => ?_)
      obtain ⟨hs6, h6⟩ := h6
      subst σ6
      refine z_if_ne (tgt := 14) dX8_saidAt_9 (by decide) ⟨by omega, by omega⟩ (fun h9 => ?_) (fun h9 => ?_)
      · first
        | exfalso; omega
        | skip
          refine z_aload_n dX8_saidAt_14 rfl ?_
          refine z_iload_n dX8_saidAt_15 rfl ?_
          refine z_callVI (d := d + 4) (av := [_]) dX8_saidAt_16 vX8_177 rfl (Nat.le_of_ble_eq_true rfl) rfl rfl rfl (Nat.le_of_ble_eq_true rfl) (Nat.le_refl _) (c_X8_pairRefusal (by omega)) (fun z16 σ16 h16 => ?_)
          obtain ⟨rfl, hs16⟩ := h16
          subst σ16
          refine z_istore (L' := [_, _, _, _, _, _, _, _, _]) dX8_saidAt_19 (Nat.le_of_ble_eq_true rfl) rfl rfl ?_
          refine z_iload dX8_saidAt_21 rfl ?_
          refine z_if_eq (tgt := 29) dX8_saidAt_23 (by decide) ⟨by omega, by omega⟩ (fun h23 => ?_) (fun h23 => ?_)
          · skip
            obtain ⟨p1, p2, p3, p4, p5⟩ := prC_0 h23
            refine z_aload_n dX8_saidAt_29 rfl ?_
            refine z_iload_n dX8_saidAt_30 rfl ?_
            refine z_bipush (v := 10) dX8_saidAt_31 (by decide +kernel) ?_
            refine z_idiv dX8_saidAt_33 ⟨by omega, by omega⟩ ⟨by omega, by omega⟩ (by omega) ?_
            refine z_aload_n dX8_saidAt_34 rfl ?_
            refine z_getR dX8_saidAt_35 gX8_69 rfl (Nat.le_of_ble_eq_true rfl) rfl ?_
            refine z_callVI (d := d + 4) (av := [_, _]) dX8_saidAt_38 vX8_180 rfl (Nat.le_of_ble_eq_true rfl) rfl rfl rfl (Nat.le_of_ble_eq_true rfl) (Nat.le_refl _) (c_X8_readSaying hW.1 hS p1 p3 rfl (Nat.le_of_ble_eq_true rfl) (by decide)) (fun z38 σ38 h38 => ?_)
            obtain ⟨rfl, u1, u2⟩ := h38
            have hk := k1.kc u1 (by decide)
            refine z_istore (L' := [_, _, _, _, _, _, _, _, _]) dX8_saidAt_41 (Nat.le_of_ble_eq_true rfl) rfl rfl ?_
            refine z_aload_n dX8_saidAt_43 rfl ?_
            refine z_iload_n dX8_saidAt_44 rfl ?_
            refine z_bipush (v := 10) dX8_saidAt_45 (by decide +kernel) ?_
            refine z_irem dX8_saidAt_47 ⟨by omega, by omega⟩ ⟨by omega, by omega⟩ (by omega) ?_
            refine z_aload_n dX8_saidAt_48 rfl ?_
            refine z_getR dX8_saidAt_49 gX8_73 rfl (Nat.le_of_ble_eq_true rfl) rfl ?_
            refine z_callVI (d := d + 4) (av := [_, _]) dX8_saidAt_52 vX8_180 rfl (Nat.le_of_ble_eq_true rfl) rfl rfl rfl (Nat.le_of_ble_eq_true rfl) (Nat.le_refl _) (c_X8_readSaying (hk.wc hW).1 (hk.sh hS) p2 (by rw [hk 30 (by omega)]; exact p4) rfl (Nat.le_of_ble_eq_true rfl) (by decide)) (fun z52 σ52 h52 => ?_)
            obtain ⟨rfl, v1, v2⟩ := h52
            rw [hk.sy p2] at v2 ⊢
            have hk2 := hk.tr (k1.kc v1 (by decide))
            have s10 : Seg σ52 10 0 (SYC σ (cl.tdiv 10)) := Seg.row (v1 10 (by decide)) u2
            refine z_istore (L' := [_, _, _, _, _, _, _, _, _]) dX8_saidAt_55 (Nat.le_of_ble_eq_true rfl) rfl rfl ?_
            refine z_aload_n dX8_saidAt_57 rfl ?_
            refine z_getR dX8_saidAt_58 gX8_51 rfl (Nat.le_of_ble_eq_true rfl) rfl ?_
            refine z_aload_n dX8_saidAt_61 rfl ?_
            refine z_getR dX8_saidAt_62 gX8_69 rfl (Nat.le_of_ble_eq_true rfl) rfl ?_
            refine z_iload dX8_saidAt_65 rfl ?_
            refine z_aload_n dX8_saidAt_67 rfl ?_
            refine z_getR dX8_saidAt_68 gX8_73 rfl (Nat.le_of_ble_eq_true rfl) rfl ?_
            refine z_iload dX8_saidAt_71 rfl ?_
            refine z_aload_n dX8_saidAt_73 rfl ?_
            refine z_iload_n dX8_saidAt_74 rfl ?_
            refine z_callVI (d := d + 4) (av := [_]) dX8_saidAt_75 vX8_139 rfl (Nat.le_of_ble_eq_true rfl) rfl rfl rfl (Nat.le_of_ble_eq_true rfl) (Nat.le_refl _) (c_X8_fineOf (by omega)) (fun z75 σ75 h75 => ?_)
            obtain ⟨rfl, hs75⟩ := h75
            subst σ75
            rw [hk2.fin]
            refine z_callVJ (d := d + 4) (av := [_, _, _, _, _]) dX8_saidAt_78 vX8_217 rfl (Nat.le_of_ble_eq_true rfl) rfl rfl rfl (Nat.le_of_ble_eq_true rfl) (Nat.le_refl _) (c_X4_mergings (LF := LF) (hk2.wc hW) (by omega) hxw hyw lx ly s10 v2) (fun z78 σ78 h78 => ?_)
            rw [hk2.ps] at h78
            have hwr : (12 < (SYC σ (cl.tdiv 10)).length + (SYC σ (cl.tmod 10)).length ∧ z78 = 0 ∧ KC σ σ78) ∨ ((SYC σ (cl.tdiv 10)).length + (SYC σ (cl.tmod 10)).length ≤ 12 ∧ z78 = wyW (pasC LF σ (finC σ m)) (SYC σ (cl.tdiv 10)) (SYC σ (cl.tmod 10)) 0 0 ∧ (0 ≤ z78 ∧ z78 ≤ 3000000) ∧ KC σ σ78) := by
              rcases h78 with ⟨q1, q2, q3⟩ | ⟨q1, q2, q3, q4⟩
              · exact Or.inl ⟨q1, q2, by rw [q3]; exact hk2⟩
              · exact Or.inr ⟨q1, q2, by rw [q2]; exact wyW_R q1, hk2.tr q3.kc⟩
            refine z_lstore (L' := [_, _, _, _, _, _, _, _, _]) dX8_saidAt_81 (Nat.le_of_ble_eq_true rfl) rfl rfl ?_
            refine z_lload dX8_saidAt_83 rfl ?_
            refine z_lconst (v := 0) dX8_saidAt_85 (by decide +kernel) ?_
            refine z_lc_eq (tgt := 99) dX8_saidAt_86 dX8_saidAt_87 (by decide) (by first | exact ⟨by decide, by decide⟩ | (rcases hwr with q | q; rw [q.2.1]; exact ⟨by decide, by decide⟩; have := q.2.2.1; exact ⟨by omega, by omega⟩)) (by first | exact ⟨by decide, by decide⟩ | (rcases hwr with q | q; rw [q.2.1]; exact ⟨by decide, by decide⟩; have := q.2.2.1; exact ⟨by omega, by omega⟩)) (fun h86 => ?_) (fun h86 => ?_)
            · skip
              refine z_bipush (v := -2) dX8_saidAt_99 (by decide +kernel) ?_
              exact z_iret dX8_saidAt_101 (by
                refine ⟨?_, by rcases hwr with q | q; exact q.2.2; exact q.2.2.2⟩
                unfold saG
                rw [if_neg (by omega), if_neg (by omega)]
                by_cases c1 : 12 < (SYC σ (cl.tdiv 10)).length + (SYC σ (cl.tmod 10)).length ∨ ((SYC σ (cl.tdiv 10)).length + (SYC σ (cl.tmod 10)).length : Int) ≤ k
                · rw [if_pos c1]
                · rw [if_neg c1]
                  first
                    | (exfalso; omega)
                    | (rw [if_pos (by rcases hwr with q | q; exact absurd (Or.inl q.1) c1; rw [← q.2.1]; exact h86)])
                    | (exfalso; exact c1 (Or.inr (by omega))))
            · skip
              refine z_iload_n dX8_saidAt_90 rfl ?_
              refine z_iload dX8_saidAt_91 rfl ?_
              refine z_iload dX8_saidAt_93 rfl ?_
              refine z_iadd dX8_saidAt_95 ?_
              refine z_icmp_lt (tgt := 102) dX8_saidAt_96 (by decide) ⟨by omega, by omega⟩ ⟨by omega, by omega⟩ (fun h96 => ?_) (fun h96 => ?_)
              · skip
                have hq : (SYC σ (cl.tdiv 10)).length + (SYC σ (cl.tmod 10)).length ≤ 12 ∧ z78 = wyW (pasC LF σ (finC σ m)) (SYC σ (cl.tdiv 10)) (SYC σ (cl.tmod 10)) 0 0 ∧ wyK σ52 σ78 ∧ wyI σ78 (pasC LF σ (finC σ m)) (SYC σ (cl.tdiv 10)) (SYC σ (cl.tmod 10)) (-1) (SYC σ (cl.tmod 10)).length := by rcases h78 with q | q; exact absurd q.2.1 h86; exact q
                obtain ⟨q1, q2, q3, q4⟩ := hq
                have hk3 := hk2.tr q3.kc
                have hwpos : 0 < wyW (pasC LF σ (finC σ m)) (SYC σ (cl.tdiv 10)) (SYC σ (cl.tmod 10)) 0 0 := by have := wyW_R (ps := pasC LF σ (finC σ m)) (c := 0) (l := 0) q1; rw [q2] at h86; omega
                refine z_aload_n dX8_saidAt_102 rfl ?_
                refine z_getR dX8_saidAt_103 gX8_51 rfl (Nat.le_of_ble_eq_true rfl) rfl ?_
                refine z_aload_n dX8_saidAt_106 rfl ?_
                refine z_getR dX8_saidAt_107 gX8_69 rfl (Nat.le_of_ble_eq_true rfl) rfl ?_
                refine z_iload dX8_saidAt_110 rfl ?_
                refine z_aload_n dX8_saidAt_112 rfl ?_
                refine z_getR dX8_saidAt_113 gX8_73 rfl (Nat.le_of_ble_eq_true rfl) rfl ?_
                refine z_iload dX8_saidAt_116 rfl ?_
                refine z_aload_n dX8_saidAt_118 rfl ?_
                refine z_iload_n dX8_saidAt_119 rfl ?_
                refine z_callVI (d := d + 4) (av := [_]) dX8_saidAt_120 vX8_139 rfl (Nat.le_of_ble_eq_true rfl) rfl rfl rfl (Nat.le_of_ble_eq_true rfl) (Nat.le_refl _) (c_X8_fineOf (by omega)) (fun z120 σ120 h120 => ?_)
                obtain ⟨rfl, hs120⟩ := h120
                subst σ120
                rw [hk3.fin]
                refine z_callVV (d := d + 4) (av := [_, _, _, _, _]) dX8_saidAt_123 vX8_221 rfl (Nat.le_of_ble_eq_true rfl) rfl rfl rfl (Nat.le_of_ble_eq_true rfl) (Nat.le_refl _) (c_X4_firstMerging (LF := LF) (hk3.wc hW) (by omega) hxw hyw q1 (Seg.row (q3 10 (by decide) (by decide) (by decide)) s10) (Seg.row (q3 11 (by decide) (by decide) (by decide)) v2) (by rw [hk3.ps]; exact q4)) (fun σ123 h123 => ?_)
                obtain ⟨x1, x2⟩ := h123
                rw [hk3.ps] at x2
                refine z_aload_n dX8_saidAt_126 rfl ?_
                refine z_getR dX8_saidAt_127 gX8_51 rfl (Nat.le_of_ble_eq_true rfl) rfl ?_
                refine z_iload_n dX8_saidAt_130 rfl ?_
                refine z_callVI (d := d + 4) (av := [_]) dX8_saidAt_131 vX8_198 rfl (Nat.le_of_ble_eq_true rfl) rfl rfl rfl (Nat.le_of_ble_eq_true rfl) (Nat.le_refl _) (c_X4_foundAt (by omega)) (fun z131 σ131 h131 => ?_)
                obtain ⟨rfl, hs131⟩ := h131
                subst σ131
                exact z_iret dX8_saidAt_134 (by
                  refine ⟨?_, hk3.tr x1.kc⟩
                  unfold saG
                  rw [if_neg (by omega), if_neg (by omega), if_neg (by omega), if_neg (by omega)]
                  have hl := fmL_len (ps := pasC LF σ (finC σ m)) (X := SYC σ (cl.tdiv 10)) (Y := SYC σ (cl.tmod 10)) ((SYC σ (cl.tdiv 10)).length + (SYC σ (cl.tmod 10)).length) 0 0 (by omega) (by omega) (by omega) hwpos
                  have := Seg.getD x2 (show k.toNat < _ by rw [hl]; omega)
                  rw [Nat.zero_add] at this
                  exact this)
              · skip
                refine z_bipush (v := -2) dX8_saidAt_99 (by decide +kernel) ?_
                exact z_iret dX8_saidAt_101 (by
                  refine ⟨?_, by rcases hwr with q | q; exact q.2.2; exact q.2.2.2⟩
                  unfold saG
                  rw [if_neg (by omega), if_neg (by omega)]
                  by_cases c1 : 12 < (SYC σ (cl.tdiv 10)).length + (SYC σ (cl.tmod 10)).length ∨ ((SYC σ (cl.tdiv 10)).length + (SYC σ (cl.tmod 10)).length : Int) ≤ k
                  · rw [if_pos c1]
                  · rw [if_neg c1]
                    first
                      | (exfalso; omega)
                      | (rw [if_pos (by rcases hwr with q | q; exact absurd (Or.inl q.1) c1; rw [← q.2.1]; exact h86)])
                      | (exfalso; exact c1 (Or.inr (by omega))))
          · skip
            refine z_iload dX8_saidAt_26 rfl ?_
            exact z_iret dX8_saidAt_28 ⟨by unfold saG; rw [if_neg (by omega), if_pos h23], KC.rf σ⟩
      · first
        | exfalso; omega
        | skip
          refine z_iconst dX8_saidAt_12 ?_
          exact z_iret dX8_saidAt_13 ⟨by unfold saG; rw [if_pos (by omega)], KC.rf σ⟩
def alG (hr : Int) (ps : Int → Int → Int → Bool) (wn : Nat) (X : List Int) (n : Int) : Int := if n < 0 ∨ 4 < n then minJ else if hr ≠ 0 then minJ else if 12 < X.length + n then 0 else alW ps wn X n.toNat 0 0
set_option maxRecDepth 20000 in
theorem c_X8_alone {d : Nat} {σ : Sto} {LF : LFT} {s m n : Int} (hW : WC LF σ) (hS : SH σ) (hs : inR s) (hm : inR m) (hn : inR n) : m_X8_alone d [zR 0, zI s, zI m, zI n] σ (qJ fun z σ' => z = alG (hrC σ s m) (pasC LF σ (finC σ m)) (σ 1 1).toNat (SYC σ s) n ∧ KC σ σ') := by
  have hfR := finC_R (m := m) hW
  have w2 := hW.2.1
  refine z_does (L := [some (zR 0), some (zI s), some (zI m), some (zI n), none]) rfl (by decide +kernel) (Nat.le_of_ble_eq_true rfl) rfl ?_
  refine z_iload_n dX8_alone_0 rfl ?_
  refine z_if_lt (tgt := 9) dX8_alone_1 (by decide) ⟨by omega, by omega⟩ (fun h1 => ?_) (fun h1 => ?_)
  · first
    | exfalso; omega
    | skip
      refine z_ldc2 dX8_alone_9 kX8_215 ?_
      exact z_lret dX8_alone_12 ⟨by unfold alG; rw [if_pos (by omega)]; rfl, KC.rf σ⟩
  · first
    | exfalso; omega
    | skip
      refine z_iload_n dX8_alone_4 rfl ?_
      refine z_iconst dX8_alone_5 ?_
      refine z_icmp_le (tgt := 13) dX8_alone_6 (by decide) ⟨by omega, by omega⟩ ⟨by omega, by omega⟩ (fun h6 => ?_) (fun h6 => ?_)
      · first
        | exfalso; omega
        | skip
          refine z_aload_n dX8_alone_13 rfl ?_
          refine z_iload_n dX8_alone_14 rfl ?_
          refine z_iload_n dX8_alone_15 rfl ?_
          refine z_callVI (d := d + 5) (av := [_, _]) dX8_alone_16 vX8_146 rfl (Nat.le_of_ble_eq_true rfl) rfl rfl rfl (Nat.le_of_ble_eq_true rfl) (Nat.le_refl _) (c_X8_hear (LF := LF) hW hS (by omega) (by omega)) (fun z16 σ16 h16 => ?_)
          have hzr : -12 ≤ z16 ∧ z16 ≤ 12 := by rcases h16 with q | q; have := hrC_n q.1; have := q.2.1; omega; have := q.2.1; have := SYC_len (σ := σ) (s := s); omega
          refine z_istore (L' := [_, _, _, _, _]) dX8_alone_19 (Nat.le_of_ble_eq_true rfl) rfl rfl ?_
          refine z_iload dX8_alone_21 rfl ?_
          refine z_if_ge (tgt := 32) dX8_alone_23 (by decide) ⟨by omega, by omega⟩ (fun h23 => ?_) (fun h23 => ?_)
          · first
            | exfalso; omega
            | skip
              have hh : hrC σ s m = 0 ∧ z16 = (SYC σ s).length ∧ (∀ a, a ≠ 10 → σ16 a = σ a) ∧ Seg σ16 10 0 (SYC σ s) := by rcases h16 with q | q; exfalso; have := q.2.2.1; omega; exact q
              obtain ⟨hh1, hh2, hh3, hh4⟩ := hh
              subst hh2
              obtain ⟨hs6, hm5, h30⟩ := hrC_0 hh1
              have hk := k1.kc hh3 (by decide)
              have hWt := hk.wc hW
              have hx12 := SYC_len (σ := σ) (s := s)
              have hxw := SYC_wok (s := s) hW
              refine z_aload_n dX8_alone_32 rfl ?_
              refine z_getR dX8_alone_33 gX8_51 rfl (Nat.le_of_ble_eq_true rfl) rfl ?_
              refine z_aload_n dX8_alone_36 rfl ?_
              refine z_getR dX8_alone_37 gX8_69 rfl (Nat.le_of_ble_eq_true rfl) rfl ?_
              refine z_iload dX8_alone_40 rfl ?_
              refine z_iload_n dX8_alone_42 rfl ?_
              refine z_aload_n dX8_alone_43 rfl ?_
              refine z_iload_n dX8_alone_44 rfl ?_
              refine z_callVI (d := d + 5) (av := [_]) dX8_alone_45 vX8_139 rfl (Nat.le_of_ble_eq_true rfl) rfl rfl rfl (Nat.le_of_ble_eq_true rfl) (Nat.le_refl _) (c_X8_fineOf (by omega)) (fun z45 σ45 h45 => ?_)
              obtain ⟨rfl, hs45⟩ := h45
              subst σ45
              rw [hk.fin]
              refine z_callVJ (d := d + 5) (av := [_, _, _, _]) dX8_alone_48 vX8_225 rfl (Nat.le_of_ble_eq_true rfl) rfl rfl rfl (Nat.le_of_ble_eq_true rfl) (Nat.le_refl _) (c_X4_sayingsWithLeft (LF := LF) hWt (by omega) hxw (by omega) (by omega) hh4) (fun z48 σ48 h48 => ?_)
              obtain ⟨g1, g2⟩ := h48
              rw [hk.ps, hk 1 (by omega)] at g2
              exact z_lret dX8_alone_51 (by
                unfold alG
                rw [if_neg (by omega)]
                first
                  | (rw [if_neg (by omega)]
                     refine ⟨?_, hk.tr g1.kc⟩
                     rcases g2 with q | q
                     · rw [if_pos q.1]; exact q.2
                     · rw [if_neg (by omega)]; exact q.2)
                  | (rw [if_pos hh1]; exact ⟨rfl, KC.rf σ⟩))
          · first
            | exfalso; omega
            | skip
              have hh : hrC σ s m ≠ 0 ∧ z16 = hrC σ s m ∧ σ16 = σ := by rcases h16 with q | q; exact ⟨q.1, q.2.1, q.2.2.2⟩; exfalso; have := q.2.1; omega
              obtain ⟨hh1, hh2, hs⟩ := hh
              subst σ16
              refine z_ldc2 dX8_alone_26 kX8_215 ?_
              refine z_goto (tgt := 51) dX8_alone_29 (by decide) ?_
              exact z_lret dX8_alone_51 (by
                unfold alG
                rw [if_neg (by omega)]
                first
                  | (rw [if_neg (by omega)]
                     refine ⟨?_, hk.tr g1.kc⟩
                     rcases g2 with q | q
                     · rw [if_pos q.1]; exact q.2
                     · rw [if_neg (by omega)]; exact q.2)
                  | (rw [if_pos hh1]; exact ⟨rfl, KC.rf σ⟩))
      · first
        | exfalso; omega
        | skip
          refine z_ldc2 dX8_alone_9 kX8_215 ?_
          exact z_lret dX8_alone_12 ⟨by unfold alG; rw [if_pos (by omega)]; rfl, KC.rf σ⟩
def cntF (b : Int → Bool) : Nat → Int → Int
  | 0, _ => 0
  | m + 1, f => (if b f = true then 1 else 0) + cntF b m (f + 1)
def lstF (b : Int → Bool) : Nat → Int → Int
  | 0, _ => -2
  | m + 1, f => if b f = true then f else lstF b m (f + 1)
theorem cntF_R {b : Int → Bool} : ∀ (m : Nat) (f : Int), 0 ≤ cntF b m f ∧ cntF b m f ≤ m
  | 0, _ => by simp [cntF]
  | m + 1, f => by
    have := cntF_R m (f + 1) (b := b)
    rw [cntF]
    split <;> omega
theorem lstF_R {b : Int → Bool} : ∀ (m : Nat) (f : Int), 0 ≤ f → lstF b m f = -2 ∨ (f ≤ lstF b m f ∧ lstF b m f < f + m)
  | 0, _, _ => Or.inl rfl
  | m + 1, f, h => by
    rw [lstF]
    split
    · exact Or.inr ⟨by omega, by omega⟩
    · rcases lstF_R m (f + 1) (by omega) (b := b) with q | q
      · exact Or.inl q
      · exact Or.inr ⟨by omega, by omega⟩
def hfB (ps : Int → Int → Int → Int → Bool) (X Y : List Int) (f : Int) : Bool := decide (Y = (cmL (ps f) X 0 0).1)
def hfG (pr : Int) (ps : Int → Int → Int → Int → Bool) (X Y : List Int) (w : Int) : Int := if w < 0 ∨ 1 < w then -1 else if pr ≠ 0 then pr else if w = 0 then cntF (hfB ps X Y) 10 0 else lstF (hfB ps X Y) 10 0
set_option maxRecDepth 20000 in
set_option maxHeartbeats 1000000 in
theorem l_X8_howFine {d : Nat} {σ : Sto} {LF : LFT} {sc w pr : Int} {X Y : List Int} (hW : WC LF σ) (hw : 0 ≤ w ∧ w ≤ 1) (hxw : wok X) (hx12 : X.length ≤ 12) (hy12 : Y.length ≤ 12) :
    ∀ (m : Nat) (τ : Sto) (f : Int), f + 1 = m → f ≤ 9 → KC σ τ → Seg τ 10 0 X → Seg τ 11 0 Y →
    Z (z_me cX8_howFine RX8 9 (some .int) (d + 5) (qI fun z σ' => z = (if w = 0 then cntF (hfB (pasC LF σ) X Y) 10 0 else lstF (hfB (pasC LF σ) X Y) 10 0) ∧ KC σ σ')) 62 [some (zR 0), some (zI sc), some (zI w), some (zI pr), some (zI X.length), some (zI Y.length), some (zI (cntF (hfB (pasC LF σ) X Y) (9 - f).toNat (f + 1))), some (zI (lstF (hfB (pasC LF σ) X Y) (9 - f).toNat (f + 1))), some (zI f)] [] τ
  | 0, τ, f, hf, h9, hk, hh4, hh5 => by
    obtain rfl : f = -1 := by omega
    refine z_iload dX8_howFine_62 rfl ?_
    refine z_if_lt (tgt := 112) dX8_howFine_64 (by decide) ⟨by omega, by omega⟩ (fun h64 => ?_) (fun h64 => ?_)
    · skip
      refine z_iload_n dX8_howFine_112 rfl ?_
      refine z_if_ne (tgt := 121) dX8_howFine_113 (by decide) ⟨by omega, by omega⟩ (fun h113 => ?_) (fun h113 => ?_)
      · skip
        refine z_iload dX8_howFine_121 rfl ?_
        exact z_iret dX8_howFine_123 (by first | (rw [if_pos (by omega)]; exact ⟨rfl, hk⟩) | (rw [if_neg (by omega)]; exact ⟨rfl, hk⟩))
      · skip
        refine z_iload dX8_howFine_116 rfl ?_
        refine z_goto (tgt := 123) dX8_howFine_118 (by decide) ?_
        exact z_iret dX8_howFine_123 (by first | (rw [if_pos (by omega)]; exact ⟨rfl, hk⟩) | (rw [if_neg (by omega)]; exact ⟨rfl, hk⟩))
    · exfalso; omega
  | m + 1, τ, f, hf, h9, hk, hh4, hh5 => by
    have hWt := hk.wc hW
    have e1 : (9 - (f + -1)).toNat = (9 - f).toNat + 1 := by omega
    have r1 := cntF_R (b := hfB (pasC LF σ) X Y) (9 - f).toNat (f + 1)
    have r2 := lstF_R (b := hfB (pasC LF σ) X Y) (9 - f).toNat (f + 1) (by omega)
    refine z_iload dX8_howFine_62 rfl ?_
    refine z_if_lt (tgt := 112) dX8_howFine_64 (by decide) ⟨by omega, by omega⟩ (fun h64 => ?_) (fun h64 => ?_)
    · exfalso; omega
    · skip
      refine z_aload_n dX8_howFine_67 rfl ?_
      refine z_getR dX8_howFine_68 gX8_42 rfl (Nat.le_of_ble_eq_true rfl) rfl ?_
      refine z_aload_n dX8_howFine_71 rfl ?_
      refine z_getR dX8_howFine_72 gX8_69 rfl (Nat.le_of_ble_eq_true rfl) rfl ?_
      refine z_iload dX8_howFine_75 rfl ?_
      refine z_iload dX8_howFine_77 rfl ?_
      refine z_iconst dX8_howFine_79 ?_
      refine z_callVV (d := d + 4) (av := [_, _, _, _]) dX8_howFine_80 vX8_149 rfl (Nat.le_of_ble_eq_true rfl) rfl rfl rfl (Nat.le_of_ble_eq_true rfl) (Nat.le_refl _) (c_X6_strain (LF := LF) (xs := X) hWt rfl (Nat.le_of_ble_eq_true rfl) (by decide) (by decide) (by omega) (by omega) rfl hxw hh4 (by omega)) (fun σ80 h80 => ?_)
      obtain ⟨t1, t2, t3, t4, t5⟩ := h80
      rw [hk.ps] at t2 t3 t4 t5
      have hk2 := hk.tr t1.kc
      have hcl := cmL_len (ps := pasC LF σ f) X 0 0
      have hcw := cmL_wok (ps := pasC LF σ f) X 0 0 hxw
      have hWu := hk2.wc hW
      refine z_aload_n dX8_howFine_83 rfl ?_
      refine z_getR dX8_howFine_84 gX8_42 rfl (Nat.le_of_ble_eq_true rfl) rfl ?_
      refine z_aload_n dX8_howFine_87 rfl ?_
      refine z_getR dX8_howFine_88 gX8_73 rfl (Nat.le_of_ble_eq_true rfl) rfl ?_
      refine z_iload dX8_howFine_91 rfl ?_
      refine z_callVI (d := d + 4) (av := [_, _]) dX8_howFine_93 vX8_229 rfl (Nat.le_of_ble_eq_true rfl) rfl rfl rfl (Nat.le_of_ble_eq_true rfl) (Nat.le_refl _) (c_X6_cameJust (X := Y) (A := (cmL (pasC LF σ f) X 0 0).1) rfl (Nat.le_of_ble_eq_true rfl) rfl (by omega) (by decide) (Seg.row (t1 11 (by decide) (by decide) (by decide) (by decide) (by decide)) hh5) t2 t4) (fun z93 σ93 h93 => ?_)
      obtain ⟨hs93, hcj⟩ := h93
      subst σ93
      refine z_if_eq (tgt := 106) dX8_howFine_96 (by decide) ⟨by omega, by omega⟩ (fun h96 => ?_) (fun h96 => ?_)
      · skip
        refine z_iinc (L' := [_, _, _, _, _, _, _, _, _]) dX8_howFine_106 (Nat.le_of_ble_eq_true rfl) rfl rfl rfl ?_
        refine z_goto (tgt := 62) dX8_howFine_109 (by decide) ?_
        have ih := l_X8_howFine (d := d) (sc := sc) (pr := pr) hW hw hxw hx12 hy12 m σ80 (f + -1) (by omega) (by omega) hk2 (Seg.row (t1 10 (by decide) (by decide) (by decide) (by decide) (by decide)) hh4) (Seg.row (t1 11 (by decide) (by decide) (by decide) (by decide) (by decide)) hh5)
        have ec : cntF (hfB (pasC LF σ) X Y) (9 - (f + -1)).toNat (f + -1 + 1) = (if hfB (pasC LF σ) X Y f = true then 1 else 0) + cntF (hfB (pasC LF σ) X Y) (9 - f).toNat (f + 1) := by rw [e1, cntF, show f + -1 + 1 = f by omega]
        have el : lstF (hfB (pasC LF σ) X Y) (9 - (f + -1)).toNat (f + -1 + 1) = if hfB (pasC LF σ) X Y f = true then f else lstF (hfB (pasC LF σ) X Y) (9 - f).toNat (f + 1) := by rw [e1, lstF, show f + -1 + 1 = f by omega]
        rw [ec, el] at ih
        rcases hcj with ⟨q1, q2⟩ | ⟨q1, q2⟩
        · first
            | (exfalso; omega)
            | (rw [if_pos (show hfB (pasC LF σ) X Y f = true from decide_eq_true q2), if_pos (show hfB (pasC LF σ) X Y f = true from decide_eq_true q2), Int.add_comm 1] at ih; exact ih)
        · first
            | (exfalso; omega)
            | (rw [if_neg (show ¬ hfB (pasC LF σ) X Y f = true by rw [hfB, decide_eq_true_eq]; exact q2), if_neg (show ¬ hfB (pasC LF σ) X Y f = true by rw [hfB, decide_eq_true_eq]; exact q2), Int.zero_add] at ih; exact ih)
      · skip
        refine z_iinc (L' := [_, _, _, _, _, _, _, _, _]) dX8_howFine_99 (Nat.le_of_ble_eq_true rfl) rfl rfl rfl ?_
        refine z_iload dX8_howFine_102 rfl ?_
        refine z_istore (L' := [_, _, _, _, _, _, _, _, _]) dX8_howFine_104 (Nat.le_of_ble_eq_true rfl) rfl rfl ?_
        refine z_iinc (L' := [_, _, _, _, _, _, _, _, _]) dX8_howFine_106 (Nat.le_of_ble_eq_true rfl) rfl rfl rfl ?_
        refine z_goto (tgt := 62) dX8_howFine_109 (by decide) ?_
        have ih := l_X8_howFine (d := d) (sc := sc) (pr := pr) hW hw hxw hx12 hy12 m σ80 (f + -1) (by omega) (by omega) hk2 (Seg.row (t1 10 (by decide) (by decide) (by decide) (by decide) (by decide)) hh4) (Seg.row (t1 11 (by decide) (by decide) (by decide) (by decide) (by decide)) hh5)
        have ec : cntF (hfB (pasC LF σ) X Y) (9 - (f + -1)).toNat (f + -1 + 1) = (if hfB (pasC LF σ) X Y f = true then 1 else 0) + cntF (hfB (pasC LF σ) X Y) (9 - f).toNat (f + 1) := by rw [e1, cntF, show f + -1 + 1 = f by omega]
        have el : lstF (hfB (pasC LF σ) X Y) (9 - (f + -1)).toNat (f + -1 + 1) = if hfB (pasC LF σ) X Y f = true then f else lstF (hfB (pasC LF σ) X Y) (9 - f).toNat (f + 1) := by rw [e1, lstF, show f + -1 + 1 = f by omega]
        rw [ec, el] at ih
        rcases hcj with ⟨q1, q2⟩ | ⟨q1, q2⟩
        · first
            | (exfalso; omega)
            | (rw [if_pos (show hfB (pasC LF σ) X Y f = true from decide_eq_true q2), if_pos (show hfB (pasC LF σ) X Y f = true from decide_eq_true q2), Int.add_comm 1] at ih; exact ih)
        · first
            | (exfalso; omega)
            | (rw [if_neg (show ¬ hfB (pasC LF σ) X Y f = true by rw [hfB, decide_eq_true_eq]; exact q2), if_neg (show ¬ hfB (pasC LF σ) X Y f = true by rw [hfB, decide_eq_true_eq]; exact q2), Int.zero_add] at ih; exact ih)
set_option maxRecDepth 20000 in
theorem c_X8_howFine {d : Nat} {σ : Sto} {LF : LFT} {sc w : Int} (hW : WC LF σ) (hS : SH σ) (h1 : inR sc) (h2 : inR w) : m_X8_howFine d [zR 0, zI sc, zI w] σ (qI fun z σ' => z = hfG (prC σ sc) (pasC LF σ) (SYC σ (sc.tdiv 10)) (SYC σ (sc.tmod 10)) w ∧ KC σ σ') := by
  have hprR := prC_R (σ := σ) (t := sc)
  refine z_does (L := [some (zR 0), some (zI sc), some (zI w), none, none, none, none, none, none]) rfl (by decide +kernel) (Nat.le_of_ble_eq_true rfl) rfl ?_
  refine z_iload_n dX8_howFine_0 rfl ?_
  refine z_if_lt (tgt := 9) dX8_howFine_1 (by decide) ⟨by omega, by omega⟩ (fun h1 => ?_) (fun h1 => ?_)
  · first
    | exfalso; omega
    | skip
      refine z_iconst dX8_howFine_9 ?_
      exact z_iret dX8_howFine_10 ⟨by unfold hfG; rw [if_pos (by omega)], KC.rf σ⟩
  · first
    | exfalso; omega
    | skip
      refine z_iload_n dX8_howFine_4 rfl ?_
      refine z_iconst dX8_howFine_5 ?_
      refine z_icmp_le (tgt := 11) dX8_howFine_6 (by decide) ⟨by omega, by omega⟩ ⟨by omega, by omega⟩ (fun h6 => ?_) (fun h6 => ?_)
      · first
        | exfalso; omega
        | skip
          refine z_aload_n dX8_howFine_11 rfl ?_
          refine z_iload_n dX8_howFine_12 rfl ?_
          refine z_callVI (d := d + 4) (av := [_]) dX8_howFine_13 vX8_177 rfl (Nat.le_of_ble_eq_true rfl) rfl rfl rfl (Nat.le_of_ble_eq_true rfl) (Nat.le_refl _) (c_X8_pairRefusal (by omega)) (fun z13 σ13 h13 => ?_)
          obtain ⟨rfl, hs13⟩ := h13
          subst σ13
          refine z_istore_n (L' := [_, _, _, _, _, _, _, _, _]) dX8_howFine_16 (Nat.le_of_ble_eq_true rfl) rfl rfl ?_
          refine z_iload_n dX8_howFine_17 rfl ?_
          refine z_if_eq (tgt := 23) dX8_howFine_18 (by decide) ⟨by omega, by omega⟩ (fun h18 => ?_) (fun h18 => ?_)
          · skip
            obtain ⟨p1, p2, p3, p4, p5⟩ := prC_0 h18
            refine z_aload_n dX8_howFine_23 rfl ?_
            refine z_iload_n dX8_howFine_24 rfl ?_
            refine z_bipush (v := 10) dX8_howFine_25 (by decide +kernel) ?_
            refine z_idiv dX8_howFine_27 ⟨by omega, by omega⟩ ⟨by omega, by omega⟩ (by omega) ?_
            refine z_aload_n dX8_howFine_28 rfl ?_
            refine z_getR dX8_howFine_29 gX8_69 rfl (Nat.le_of_ble_eq_true rfl) rfl ?_
            refine z_callVI (d := d + 4) (av := [_, _]) dX8_howFine_32 vX8_180 rfl (Nat.le_of_ble_eq_true rfl) rfl rfl rfl (Nat.le_of_ble_eq_true rfl) (Nat.le_refl _) (c_X8_readSaying hW.1 hS p1 p3 rfl (Nat.le_of_ble_eq_true rfl) (by decide)) (fun z32 σ32 h32 => ?_)
            obtain ⟨rfl, u1, u2⟩ := h32
            have hk := k1.kc u1 (by decide)
            refine z_istore (L' := [_, _, _, _, _, _, _, _, _]) dX8_howFine_35 (Nat.le_of_ble_eq_true rfl) rfl rfl ?_
            refine z_aload_n dX8_howFine_37 rfl ?_
            refine z_iload_n dX8_howFine_38 rfl ?_
            refine z_bipush (v := 10) dX8_howFine_39 (by decide +kernel) ?_
            refine z_irem dX8_howFine_41 ⟨by omega, by omega⟩ ⟨by omega, by omega⟩ (by omega) ?_
            refine z_aload_n dX8_howFine_42 rfl ?_
            refine z_getR dX8_howFine_43 gX8_73 rfl (Nat.le_of_ble_eq_true rfl) rfl ?_
            refine z_callVI (d := d + 4) (av := [_, _]) dX8_howFine_46 vX8_180 rfl (Nat.le_of_ble_eq_true rfl) rfl rfl rfl (Nat.le_of_ble_eq_true rfl) (Nat.le_refl _) (c_X8_readSaying (hk.wc hW).1 (hk.sh hS) p2 (by rw [hk 30 (by omega)]; exact p4) rfl (Nat.le_of_ble_eq_true rfl) (by decide)) (fun z46 σ46 h46 => ?_)
            obtain ⟨rfl, v1, v2⟩ := h46
            rw [hk.sy p2] at v2 ⊢
            have hk2 := hk.tr (k1.kc v1 (by decide))
            refine z_istore (L' := [_, _, _, _, _, _, _, _, _]) dX8_howFine_49 (Nat.le_of_ble_eq_true rfl) rfl rfl ?_
            refine z_iconst dX8_howFine_51 ?_
            refine z_istore (L' := [_, _, _, _, _, _, _, _, _]) dX8_howFine_52 (Nat.le_of_ble_eq_true rfl) rfl rfl ?_
            refine z_bipush (v := -2) dX8_howFine_54 (by decide +kernel) ?_
            refine z_istore (L' := [_, _, _, _, _, _, _, _, _]) dX8_howFine_56 (Nat.le_of_ble_eq_true rfl) rfl rfl ?_
            refine z_bipush (v := 9) dX8_howFine_58 (by decide +kernel) ?_
            refine z_istore (L' := [_, _, _, _, _, _, _, _, _]) dX8_howFine_60 (Nat.le_of_ble_eq_true rfl) rfl rfl ?_
            unfold hfG
            rw [if_neg (by omega), if_neg (by omega)]
            exact l_X8_howFine (pr := prC σ sc) (X := SYC σ (sc.tdiv 10)) (Y := SYC σ (sc.tmod 10)) hW (by omega) (SYC_wok hW) SYC_len SYC_len 10 σ46 9 (by omega) (by omega) hk2 (Seg.row (v1 10 (by decide)) u2) v2
          · skip
            refine z_iload_n dX8_howFine_21 rfl ?_
            exact z_iret dX8_howFine_22 ⟨by unfold hfG; rw [if_neg (by omega), if_pos h18], KC.rf σ⟩
      · first
        | exfalso; omega
        | skip
          refine z_iconst dX8_howFine_9 ?_
          exact z_iret dX8_howFine_10 ⟨by unfold hfG; rw [if_pos (by omega)], KC.rf σ⟩
def btG (hr : Int) (ps : Int → Int → Int → Bool) (wn : Nat) (X : List Int) (k : Int) : Int := if k < 0 then -1 else if hr ≠ 0 then hr else if X.length < k then -2 else bitL (ubC ps X k.toNat) wn 0 0
set_option maxRecDepth 20000 in
theorem c_X8_between {d : Nat} {σ : Sto} {LF : LFT} {s m k : Int} (hW : WC LF σ) (hS : SH σ) (hs : inR s) (hm : inR m) (hkk : inR k) : m_X8_between d [zR 0, zI s, zI m, zI k] σ (qI fun z σ' => z = btG (hrC σ s m) (pasC LF σ (finC σ m)) (σ 1 1).toNat (SYC σ s) k ∧ KC σ σ') := by
  have hfR := finC_R (m := m) hW
  have w2 := hW.2.1
  refine z_does (L := [some (zR 0), some (zI s), some (zI m), some (zI k), none]) rfl (by decide +kernel) (Nat.le_of_ble_eq_true rfl) rfl ?_
  refine z_iload_n dX8_between_0 rfl ?_
  refine z_if_ge (tgt := 6) dX8_between_1 (by decide) ⟨by omega, by omega⟩ (fun h1 => ?_) (fun h1 => ?_)
  · first
    | exfalso; omega
    | skip
      refine z_aload_n dX8_between_6 rfl ?_
      refine z_iload_n dX8_between_7 rfl ?_
      refine z_iload_n dX8_between_8 rfl ?_
      refine z_callVI (d := d + 5) (av := [_, _]) dX8_between_9 vX8_146 rfl (Nat.le_of_ble_eq_true rfl) rfl rfl rfl (Nat.le_of_ble_eq_true rfl) (Nat.le_refl _) (c_X8_hear (LF := LF) hW hS (by omega) (by omega)) (fun z9 σ9 h9 => ?_)
      have hzr : -12 ≤ z9 ∧ z9 ≤ 12 := by rcases h9 with q | q; have := hrC_n q.1; have := q.2.1; omega; have := q.2.1; have := SYC_len (σ := σ) (s := s); omega
      refine z_istore (L' := [_, _, _, _, _]) dX8_between_12 (Nat.le_of_ble_eq_true rfl) rfl rfl ?_
      refine z_iload dX8_between_14 rfl ?_
      refine z_if_ge (tgt := 22) dX8_between_16 (by decide) ⟨by omega, by omega⟩ (fun h16 => ?_) (fun h16 => ?_)
      · first
        | exfalso; omega
        | skip
          have hh : hrC σ s m = 0 ∧ z9 = (SYC σ s).length ∧ (∀ a, a ≠ 10 → σ9 a = σ a) ∧ Seg σ9 10 0 (SYC σ s) := by rcases h9 with q | q; exfalso; have := q.2.2.1; omega; exact q
          obtain ⟨hh1, hh2, hh3, hh4⟩ := hh
          subst hh2
          obtain ⟨hs6, hm5, h30⟩ := hrC_0 hh1
          have hk := k1.kc hh3 (by decide)
          have hWt := hk.wc hW
          have hx12 := SYC_len (σ := σ) (s := s)
          have hxw := SYC_wok (s := s) hW
          refine z_iload_n dX8_between_22 rfl ?_
          refine z_iload dX8_between_23 rfl ?_
          refine z_icmp_le (tgt := 33) dX8_between_25 (by decide) ⟨by omega, by omega⟩ ⟨by omega, by omega⟩ (fun h25 => ?_) (fun h25 => ?_)
          · skip
            refine z_aload_n dX8_between_33 rfl ?_
            refine z_getR dX8_between_34 gX8_51 rfl (Nat.le_of_ble_eq_true rfl) rfl ?_
            refine z_aload_n dX8_between_37 rfl ?_
            refine z_getR dX8_between_38 gX8_69 rfl (Nat.le_of_ble_eq_true rfl) rfl ?_
            refine z_iload dX8_between_41 rfl ?_
            refine z_iload_n dX8_between_43 rfl ?_
            refine z_aload_n dX8_between_44 rfl ?_
            refine z_iload_n dX8_between_45 rfl ?_
            refine z_callVI (d := d + 5) (av := [_]) dX8_between_46 vX8_139 rfl (Nat.le_of_ble_eq_true rfl) rfl rfl rfl (Nat.le_of_ble_eq_true rfl) (Nat.le_refl _) (c_X8_fineOf (by omega)) (fun z46 σ46 h46 => ?_)
            obtain ⟨rfl, hs46⟩ := h46
            subst σ46
            rw [hk.fin]
            rw [show k = ((k.toNat : Nat) : Int) by omega]
            refine z_callVI (d := d + 5) (av := [_, _, _, _]) dX8_between_49 vX8_232 rfl (Nat.le_of_ble_eq_true rfl) rfl rfl rfl (Nat.le_of_ble_eq_true rfl) (Nat.le_refl _) (c_X4_unheardBehind (LF := LF) (k := k.toNat) hWt (by omega) hxw hx12 (by omega) hh4) (fun z49 σ49 h49 => ?_)
            obtain ⟨g1, g2⟩ := h49
            rw [hk.ps, hk 1 (by omega)] at g1
            exact z_iret dX8_between_52 (by
              unfold btG
              first
                | (refine ⟨?_, hk.tr g2.kc⟩
                   rw [if_neg (by omega), if_neg (by omega), if_neg (by omega), g1, Int.toNat_natCast])
                | (refine ⟨?_, hk⟩
                   rw [if_neg (by omega), if_neg (by omega), if_pos (by omega)]))
          · skip
            refine z_bipush (v := -2) dX8_between_28 (by decide +kernel) ?_
            refine z_goto (tgt := 52) dX8_between_30 (by decide) ?_
            exact z_iret dX8_between_52 (by
              unfold btG
              first
                | (refine ⟨?_, hk.tr g2.kc⟩
                   rw [if_neg (by omega), if_neg (by omega), if_neg (by omega), g1, Int.toNat_natCast])
                | (refine ⟨?_, hk⟩
                   rw [if_neg (by omega), if_neg (by omega), if_pos (by omega)]))
      · first
        | exfalso; omega
        | skip
          have hh : hrC σ s m ≠ 0 ∧ z9 = hrC σ s m ∧ σ9 = σ := by rcases h9 with q | q; exact ⟨q.1, q.2.1, q.2.2.2⟩; exfalso; have := q.2.1; omega
          obtain ⟨hh1, hh2, hs⟩ := hh
          subst σ9
          refine z_iload dX8_between_19 rfl ?_
          exact z_iret dX8_between_21 ⟨by unfold btG; rw [if_neg (by omega), if_pos hh1, hh2], KC.rf σ⟩
  · first
    | exfalso; omega
    | skip
      refine z_iconst dX8_between_4 ?_
      exact z_iret dX8_between_5 ⟨by unfold btG; rw [if_pos (by omega)], KC.rf σ⟩
