/-! ===== The reference's questions: through, keeps, finest ===== -/
set_option maxRecDepth 20000 in
set_option maxHeartbeats 1000000 in
theorem c_X9_through {d : Nat} {σ : Sto} {LF : LFT} {s m w : Int} (hW : WM LF σ) (hS : SM σ) (hs : inR s) (hm : inR m) (hw : inR w) : m_X9_through d [zR 9, zI s, zI m, zI w] σ (qI fun z σ' => z = thG (hrM σ s m) (pasM LF σ (finM σ m)) (σ 83) (σ 84) (σ 85) (σ 86) (σ 90) (σ 9 11) (SYM σ s) w ∧ KM σ σ') := by
  have w1 := hW.1
  have w7 := hW.2.1
  refine z_does (L := [some (zR 9), some (zI s), some (zI m), some (zI w), none]) rfl (by decide +kernel) (Nat.le_of_ble_eq_true rfl) rfl ?_
  refine z_iload_n dX9_through_0 rfl ?_
  refine z_callSI (d := d + 5) (av := [_]) dX9_through_1 sX9_154 rfl rfl (Nat.le_of_ble_eq_true rfl) (Nat.le_refl _) (c_X9_isShelf (by omega)) (fun z1 σ1 h1 => ?_)
  obtain ⟨hs1, h1⟩ := h1
  subst σ1
  refine z_if_eq (tgt := 24) dX9_through_4 (by decide) ⟨by omega, by omega⟩ (fun h4 => ?_) (fun h4 => ?_)
  · skip
    refine z_iconst dX9_through_24 ?_
    exact z_iret dX9_through_25 (by
      refine ⟨?_, frM.rf _ _ σ⟩
      unfold thG
      by_cases q : w < 0 ∨ 5 < w
      · rw [if_pos q]
      · have e : hrM σ s m = -1 := by unfold hrM; rw [if_pos (by omega)]
        rw [if_neg q, e]; rfl)
  · skip
    refine z_aload_n dX9_through_7 rfl ?_
    refine z_iload_n dX9_through_8 rfl ?_
    refine z_callVI (d := d + 5) (av := [_]) dX9_through_9 vX9_286 rfl (Nat.le_of_ble_eq_true rfl) rfl rfl rfl (Nat.le_of_ble_eq_true rfl) (Nat.le_refl _) (c_X9_isMeshOrNone (by omega) (by omega)) (fun z9 σ9 h9 => ?_)
    obtain ⟨hs9, h9⟩ := h9
    subst σ9
    refine z_if_eq (tgt := 24) dX9_through_12 (by decide) ⟨by omega, by omega⟩ (fun h12 => ?_) (fun h12 => ?_)
    · skip
      refine z_iconst dX9_through_24 ?_
      exact z_iret dX9_through_25 (by
        refine ⟨?_, frM.rf _ _ σ⟩
        unfold thG
        by_cases q : w < 0 ∨ 5 < w
        · rw [if_pos q]
        · have e : hrM σ s m = -1 := by unfold hrM; rw [if_pos (by omega)]
          rw [if_neg q, e]; rfl)
    · skip
      refine z_iload_n dX9_through_15 rfl ?_
      refine z_iconst dX9_through_16 ?_
      refine z_iconst dX9_through_17 ?_
      refine z_callSI (d := d + 5) (av := [_, _, _]) dX9_through_18 sX9_143 rfl rfl (Nat.le_of_ble_eq_true rfl) (Nat.le_refl _) (c_X9_in (by omega) (by omega) (by omega)) (fun z18 σ18 h18 => ?_)
      obtain ⟨hs18, h18⟩ := h18
      subst σ18
      refine z_if_ne (tgt := 26) dX9_through_21 (by decide) ⟨by omega, by omega⟩ (fun h21 => ?_) (fun h21 => ?_)
      · skip
        refine z_aload_n dX9_through_26 rfl ?_
        refine z_iload_n dX9_through_27 rfl ?_
        refine z_callVI (d := d + 5) (av := [_]) dX9_through_28 vX9_289 rfl (Nat.le_of_ble_eq_true rfl) rfl rfl rfl (Nat.le_of_ble_eq_true rfl) (Nat.le_refl _) (c_X9_rowFault hS (by omega)) (fun z28 σ28 h28 => ?_)
        obtain ⟨hz, hs28⟩ := h28
        subst σ28
        obtain ⟨ehr, hz3⟩ := rf_M (m := m) (by omega) (by omega) hz
        refine z_istore (L' := [_, _, _, _, _]) dX9_through_31 (Nat.le_of_ble_eq_true rfl) rfl rfl ?_
        refine z_iload dX9_through_33 rfl ?_
        refine z_if_ge (tgt := 41) dX9_through_35 (by decide) ⟨by omega, by omega⟩ (fun h35 => ?_) (fun h35 => ?_)
        · skip
          refine z_aload_n dX9_through_41 rfl ?_
          refine z_iload_n dX9_through_42 rfl ?_
          refine z_callVV (d := d + 5) (av := [_]) dX9_through_43 vX9_292 rfl (Nat.le_of_ble_eq_true rfl) rfl rfl rfl (Nat.le_of_ble_eq_true rfl) (Nat.le_refl _) (c_X9_laySaying w1 hS (by omega) (by omega)) (fun σ43 h43 => ?_)
          obtain ⟨hk1, hsd⟩ := h43
          refine z_aload_n dX9_through_46 rfl ?_
          refine z_iload_n dX9_through_47 rfl ?_
          refine z_iconst dX9_through_48 ?_
          refine z_callVV (d := d + 5) (av := [_, _]) dX9_through_49 vX9_296 rfl (Nat.le_of_ble_eq_true rfl) rfl rfl rfl (Nat.le_of_ble_eq_true rfl) (Nat.le_refl _) (c_X9_goThrough (LF := LF) (X := SYM σ s) (hk1.wm hW rfl) (by omega) (by decide) hsd) (fun σ49 h49 => ?_)
          obtain ⟨hk2, t2, t3, t4, t5⟩ := h49
          obtain ⟨hkA, hca, hlf, hsd2, hW2⟩ := thr_M hW hk1 hsd hk2 t2 t3 t4 t5
          have e83 : σ49 83 = σ 83 := hkA.1 83 (by decide) (by decide)
          have e85 : σ49 85 = σ 85 := hkA.1 85 (by decide) (by decide)
          have eh1 := hkA.hu rfl (SYMx LF σ s m 0).1
          have eh2 := hkA.hu rfl (SYM σ s)
          refine z_iload_n dX9_through_52 rfl ?_
          refine sw_X9_through_53 ⟨by omega, by omega⟩ (fun h53 => ?_) (fun h53 => ?_) (fun h53 => ?_) (fun h53 => ?_) (fun h53 => ?_) (fun h53 => ?_)
          · first
            | exfalso; omega
            | skip
              refine z_aload_n dX9_through_88 rfl ?_
              refine z_getI dX9_through_89 gX9_280 rfl (Nat.le_of_ble_eq_true rfl) rfl (fun hr89 => ?_)
              rw [hca.1]
              exact z_iret dX9_through_92 (⟨by unfold thG; rw [if_neg (by omega), if_neg (by omega), if_pos (by omega)], hkA⟩)
          · first
            | exfalso; omega
            | skip
              refine z_aload_n dX9_through_93 rfl ?_
              refine z_getI dX9_through_94 gX9_283 rfl (Nat.le_of_ble_eq_true rfl) rfl (fun hr94 => ?_)
              rw [hlf.1]
              exact z_iret dX9_through_97 (⟨by unfold thG; rw [if_neg (by omega), if_neg (by omega), if_neg (by omega), if_pos (by omega)], hkA⟩)
          · first
            | exfalso; omega
            | skip
              refine z_aload_n dX9_through_98 rfl ?_
              refine z_callVI (d := d + 5) (av := []) dX9_through_99 vX9_299 rfl (Nat.le_of_ble_eq_true rfl) rfl rfl rfl (Nat.le_of_ble_eq_true rfl) (Nat.le_refl _) (c_X9_makesSense hW2.2.2.2.2.2.2.1 hca) (fun z99 σ99 h99 => ?_)
              obtain ⟨hs99, hms⟩ := h99
              subst σ99
              rw [e85] at hms
              refine z_if_eq (tgt := 109) dX9_through_102 (by decide) ⟨by omega, by omega⟩ (fun h102 => ?_) (fun h102 => ?_)
              · skip
                refine z_iconst dX9_through_109 ?_
                exact z_iret dX9_through_110 (by
                  refine ⟨?_, hkA⟩
                  unfold thG
                  rw [if_neg (by omega), if_neg (by omega), if_neg (by omega), if_neg (by omega), if_pos (by omega)]
                  rcases hms with q | q
                  · first | exact (if_pos q.2).symm | (exfalso; omega)
                  · first | exact (if_neg q.2).symm | (exfalso; omega))
              · skip
                refine z_iconst dX9_through_105 ?_
                refine z_goto (tgt := 110) dX9_through_106 (by decide) ?_
                exact z_iret dX9_through_110 (by
                  refine ⟨?_, hkA⟩
                  unfold thG
                  rw [if_neg (by omega), if_neg (by omega), if_neg (by omega), if_neg (by omega), if_pos (by omega)]
                  rcases hms with q | q
                  · first | exact (if_pos q.2).symm | (exfalso; omega)
                  · first | exact (if_neg q.2).symm | (exfalso; omega))
          · first
            | exfalso; omega
            | skip
              refine z_aload_n dX9_through_111 rfl ?_
              refine z_iconst dX9_through_112 ?_
              refine z_callVI (d := d + 5) (av := [_]) dX9_through_113 vX9_302 rfl (Nat.le_of_ble_eq_true rfl) rfl rfl rfl (Nat.le_of_ble_eq_true rfl) (Nat.le_refl _) (c_X9_hurtBy (LF := LF) hW2 hca.2.2.2 hca.2.2.1 hca.hu) (fun z113 σ113 h113 => ?_)
              obtain ⟨rfl, hs113⟩ := h113
              subst σ113
              exact z_iret dX9_through_116 (⟨by unfold thG; rw [if_neg (by omega), if_neg (by omega), if_neg (by omega), if_neg (by omega), if_neg (by omega), if_pos (by omega)]; exact eh1, hkA⟩)
          · first
            | exfalso; omega
            | skip
              refine z_aload_n dX9_through_117 rfl ?_
              refine z_iconst dX9_through_118 ?_
              refine z_callVI (d := d + 5) (av := [_]) dX9_through_119 vX9_302 rfl (Nat.le_of_ble_eq_true rfl) rfl rfl rfl (Nat.le_of_ble_eq_true rfl) (Nat.le_refl _) (c_X9_hurtBy (LF := LF) hW2 hsd2.2.2.2 hsd2.2.2.1 hsd2.hu) (fun z119 σ119 h119 => ?_)
              obtain ⟨rfl, hs119⟩ := h119
              subst σ119
              exact z_iret dX9_through_122 (⟨by unfold thG; rw [if_neg (by omega), if_neg (by omega), if_neg (by omega), if_neg (by omega), if_neg (by omega), if_neg (by omega), if_pos (by omega)]; exact eh2, hkA⟩)
          · first
            | exfalso; omega
            | skip
              refine z_aload_n dX9_through_123 rfl ?_
              refine z_callVI (d := d + 5) (av := []) dX9_through_124 vX9_306 rfl (Nat.le_of_ble_eq_true rfl) rfl rfl rfl (Nat.le_of_ble_eq_true rfl) (Nat.le_refl _) (c_X9_harmLeft hW2.2.2.2.2.1 hlf) (fun z124 σ124 h124 => ?_)
              obtain ⟨rfl, hs124⟩ := h124
              subst σ124
              exact z_iret dX9_through_127 (⟨by unfold thG; rw [if_neg (by omega), if_neg (by omega), if_neg (by omega), if_neg (by omega), if_neg (by omega), if_neg (by omega), if_neg (by omega), e83], hkA⟩)
        · skip
          refine z_iload dX9_through_38 rfl ?_
          exact z_iret dX9_through_40 (⟨by unfold thG; rw [if_neg (by omega), if_pos (by omega)]; exact ehr.symm, frM.rf _ _ σ⟩)
      · skip
        refine z_iconst dX9_through_24 ?_
        exact z_iret dX9_through_25 (by
          refine ⟨?_, frM.rf _ _ σ⟩
          unfold thG
          by_cases q : w < 0 ∨ 5 < w
          · rw [if_pos q]
          · have e : hrM σ s m = -1 := by unfold hrM; rw [if_pos (by omega)]
            rw [if_neg q, e]; rfl)
set_option maxRecDepth 20000 in
theorem l_X9_keepsBy {d : Nat} {σ : Sto} {LF : LFT} {m set : Int} (hW : WM LF σ) (hm : 0 ≤ m ∧ m < 5) (hset : 0 ≤ set ∧ set < 4096) :
    ∀ (k : Nat) (τ : Sto) (w : Int), 0 ≤ w → w + k = σ 9 1 → KM σ τ →
    Z (z_me cX9_keepsBy RX9 4 (some .boolean) (d + 5) (qI fun z σ' => z = (if keepL (fun w => pasM LF σ (finM σ m) w 0 0) set k w then 1 else 0) ∧ KM σ σ')) 2 [some (zR 9), some (zI m), some (zI set), some (zI w)] [] τ
  | 0, τ, w, h0, hk, hK => by
    have e91 : τ 9 1 = σ 9 1 := hK.2 1 (by decide)
    have w1 := hW.1
    refine z_iload_n dX9_keepsBy_2 rfl ?_
    refine z_aload_n dX9_keepsBy_3 rfl ?_
    refine z_getI dX9_keepsBy_4 gX9_140 rfl (Nat.le_of_ble_eq_true rfl) rfl (fun hr4 => ?_)
    refine z_icmp_ge (tgt := 43) dX9_keepsBy_7 (by decide) ⟨by omega, by omega⟩ ⟨by omega, by omega⟩ (fun h7 => ?_) (fun h7 => ?_)
    · skip
      refine z_iconst dX9_keepsBy_43 ?_
      exact z_zret dX9_keepsBy_44 (by omega) ⟨rfl, hK⟩
    · exfalso; omega
  | k + 1, τ, w, h0, hk, hK => by
    have e91 : τ 9 1 = σ 9 1 := hK.2 1 (by decide)
    have w1 := hW.1
    have hWt : WM LF τ := hK.wm hW rfl
    have hb := bt_tb (s := set) (w := w) (by omega) (by omega)
    have hb01 : bt set w = 0 ∨ bt set w = 1 := by rw [hb]; split; exact Or.inr rfl; exact Or.inl rfl
    have hbu : z_iandF (z_ishrF set w) 1 = bt set w := rfl
    refine z_iload_n dX9_keepsBy_2 rfl ?_
    refine z_aload_n dX9_keepsBy_3 rfl ?_
    refine z_getI dX9_keepsBy_4 gX9_140 rfl (Nat.le_of_ble_eq_true rfl) rfl (fun hr4 => ?_)
    refine z_icmp_ge (tgt := 43) dX9_keepsBy_7 (by decide) ⟨by omega, by omega⟩ ⟨by omega, by omega⟩ (fun h7 => ?_) (fun h7 => ?_)
    · exfalso; omega
    · skip
      refine z_aload_n dX9_keepsBy_10 rfl ?_
      refine z_iload_n dX9_keepsBy_11 rfl ?_
      refine z_iload_n dX9_keepsBy_12 rfl ?_
      refine z_iconst dX9_keepsBy_13 ?_
      refine z_iconst dX9_keepsBy_14 ?_
      refine z_callVI (d := d + 4) (av := [_, _, _, _]) dX9_keepsBy_15 vX9_271 rfl (Nat.le_of_ble_eq_true rfl) rfl rfl rfl (Nat.le_of_ble_eq_true rfl) (Nat.le_refl _) (c_X9_passes (LF := LF) hWt (by omega) (by omega) (by decide) (by decide)) (fun z15 σ15 h15 => ?_)
      obtain ⟨hps, hfr⟩ := h15
      rw [hK.fi rfl, hK.pm rfl] at hps
      have hr15 : inR z15 := by rcases hps with q | q; rw [q.1]; decide; rw [q.1]; decide
      refine z_iload_n dX9_keepsBy_18 rfl ?_
      refine z_iload_n dX9_keepsBy_19 rfl ?_
      refine z_ishr dX9_keepsBy_20 ?_
      refine z_iconst dX9_keepsBy_21 ?_
      refine z_iand dX9_keepsBy_22 ?_
      refine z_iconst dX9_keepsBy_23 ?_
      refine z_icmp_ne (tgt := 31) dX9_keepsBy_24 (by decide) ⟨by omega, by omega⟩ ⟨by omega, by omega⟩ (fun h24 => ?_) (fun h24 => ?_)
      · skip
        refine z_iconst dX9_keepsBy_31 ?_
        refine z_icmp_ne (tgt := 37) dX9_keepsBy_32 (by decide) ⟨by omega, by omega⟩ ⟨by omega, by omega⟩ (fun h32 => ?_) (fun h32 => ?_)
        · skip
          refine z_iinc (L' := [_, _, _, _]) dX9_keepsBy_37 (Nat.le_of_ble_eq_true rfl) rfl rfl rfl ?_
          refine z_goto (tgt := 2) dX9_keepsBy_40 (by decide) ?_
          have hne : ¬ (pasM LF σ (finM σ m) w 0 0 = decide (bt set w ≠ 0)) := by
            rcases hps with q | q
            · rw [q.2]; intro v; have := of_decide_eq_true v.symm; omega
            · rw [q.2]; intro v; have := of_decide_eq_false v.symm; omega
          rw [show keepL (fun w => pasM LF σ (finM σ m) w 0 0) set (k + 1) w = keepL (fun w => pasM LF σ (finM σ m) w 0 0) set k (w + 1) by rw [keepL, if_neg hne]]
          exact l_X9_keepsBy hW hm hset k _ (w + 1) (by omega) (by omega) (hK.tr (hfr.mono (by decide) (by decide)))
        · skip
          refine z_iconst dX9_keepsBy_35 ?_
          exact z_zret dX9_keepsBy_36 (by omega) (by
            have he : pasM LF σ (finM σ m) w 0 0 = decide (bt set w ≠ 0) := by
              rcases hps with q | q
              · rw [q.2]; exact (decide_eq_true (by omega)).symm
              · rw [q.2]; exact (decide_eq_false (by omega)).symm
            exact ⟨by rw [show keepL (fun w => pasM LF σ (finM σ m) w 0 0) set (k + 1) w = false by rw [keepL, if_pos he]]; rfl, hK.tr (hfr.mono (by decide) (by decide))⟩)
      · skip
        refine z_iconst dX9_keepsBy_27 ?_
        refine z_goto (tgt := 32) dX9_keepsBy_28 (by decide) ?_
        refine z_icmp_ne (tgt := 37) dX9_keepsBy_32 (by decide) ⟨by omega, by omega⟩ ⟨by omega, by omega⟩ (fun h32 => ?_) (fun h32 => ?_)
        · skip
          refine z_iinc (L' := [_, _, _, _]) dX9_keepsBy_37 (Nat.le_of_ble_eq_true rfl) rfl rfl rfl ?_
          refine z_goto (tgt := 2) dX9_keepsBy_40 (by decide) ?_
          have hne : ¬ (pasM LF σ (finM σ m) w 0 0 = decide (bt set w ≠ 0)) := by
            rcases hps with q | q
            · rw [q.2]; intro v; have := of_decide_eq_true v.symm; omega
            · rw [q.2]; intro v; have := of_decide_eq_false v.symm; omega
          rw [show keepL (fun w => pasM LF σ (finM σ m) w 0 0) set (k + 1) w = keepL (fun w => pasM LF σ (finM σ m) w 0 0) set k (w + 1) by rw [keepL, if_neg hne]]
          exact l_X9_keepsBy hW hm hset k _ (w + 1) (by omega) (by omega) (hK.tr (hfr.mono (by decide) (by decide)))
        · skip
          refine z_iconst dX9_keepsBy_35 ?_
          exact z_zret dX9_keepsBy_36 (by omega) (by
            have he : pasM LF σ (finM σ m) w 0 0 = decide (bt set w ≠ 0) := by
              rcases hps with q | q
              · rw [q.2]; exact (decide_eq_true (by omega)).symm
              · rw [q.2]; exact (decide_eq_false (by omega)).symm
            exact ⟨by rw [show keepL (fun w => pasM LF σ (finM σ m) w 0 0) set (k + 1) w = false by rw [keepL, if_pos he]]; rfl, hK.tr (hfr.mono (by decide) (by decide))⟩)
set_option maxRecDepth 20000 in
theorem c_X9_keepsBy {d : Nat} {σ : Sto} {LF : LFT} {m set : Int} (hW : WM LF σ) (hm : 0 ≤ m ∧ m < 5) (hset : 0 ≤ set ∧ set < 4096) : m_X9_keepsBy d [zR 9, zI m, zI set] σ (qI fun z σ' => z = (if keepL (fun w => pasM LF σ (finM σ m) w 0 0) set (σ 9 1).toNat 0 then 1 else 0) ∧ KM σ σ') := by
  have w1 := hW.1
  refine z_does (L := [some (zR 9), some (zI m), some (zI set), none]) rfl (by decide +kernel) (Nat.le_of_ble_eq_true rfl) rfl ?_
  refine z_iconst dX9_keepsBy_0 ?_
  refine z_istore_n (L' := [_, _, _, _]) dX9_keepsBy_1 (Nat.le_of_ble_eq_true rfl) rfl rfl ?_
  exact l_X9_keepsBy hW hm hset (σ 9 1).toNat σ 0 (by omega) (by omega) (frM.rf _ _ σ)
set_option maxRecDepth 20000 in
theorem l_X9_keeps {d : Nat} {σ : Sto} {LF : LFT} {set : Int} (hW : WM LF σ) (hset : 0 ≤ set ∧ set < 4096) :
    ∀ (k : Nat) (τ : Sto) (m bits : Int), 0 ≤ m → m + k = σ 9 7 → inR bits → KM σ τ →
    Z (z_me cX9_keeps RX9 4 (some .int) (d + 6) (qI fun z σ' => z = bitL (fun m => keepL (fun w => pasM LF σ (finM σ m) w 0 0) set (σ 9 1).toNat 0) k m bits ∧ KM σ σ')) 17 [some (zR 9), some (zI set), some (zI bits), some (zI m)] [] τ
  | 0, τ, m, bits, h0, hm, hb, hK => by
    have e7 : τ 9 7 = σ 9 7 := hK.2 7 (by decide)
    have w2 := hW.2.1
    refine z_iload_n dX9_keeps_17 rfl ?_
    refine z_aload_n dX9_keeps_18 rfl ?_
    refine z_getI dX9_keeps_19 gX9_147 rfl (Nat.le_of_ble_eq_true rfl) rfl (fun hr19 => ?_)
    refine z_icmp_ge (tgt := 46) dX9_keeps_22 (by decide) ⟨by omega, by omega⟩ ⟨by omega, by omega⟩ (fun h22 => ?_) (fun h22 => ?_)
    · skip
      refine z_iload_n dX9_keeps_46 rfl ?_
      exact z_iret dX9_keeps_47 ⟨rfl, hK⟩
    · exfalso; omega
  | k + 1, τ, m, bits, h0, hm, hb, hK => by
    have e7 : τ 9 7 = σ 9 7 := hK.2 7 (by decide)
    have e1 : τ 9 1 = σ 9 1 := hK.2 1 (by decide)
    have w2 := hW.2.1
    refine z_iload_n dX9_keeps_17 rfl ?_
    refine z_aload_n dX9_keeps_18 rfl ?_
    refine z_getI dX9_keeps_19 gX9_147 rfl (Nat.le_of_ble_eq_true rfl) rfl (fun hr19 => ?_)
    refine z_icmp_ge (tgt := 46) dX9_keeps_22 (by decide) ⟨by omega, by omega⟩ ⟨by omega, by omega⟩ (fun h22 => ?_) (fun h22 => ?_)
    · exfalso; omega
    · skip
      refine z_aload_n dX9_keeps_25 rfl ?_
      refine z_iload_n dX9_keeps_26 rfl ?_
      refine z_iload_n dX9_keeps_27 rfl ?_
      refine z_callVI (d := d + 5) (av := [_, _]) dX9_keeps_28 vX9_336 rfl (Nat.le_of_ble_eq_true rfl) rfl rfl rfl (Nat.le_of_ble_eq_true rfl) (Nat.le_refl _) (c_X9_keepsBy (LF := LF) (hK.wm hW rfl) (by omega) hset) (fun z28 σ28 h28 => ?_)
      obtain ⟨hz, hfr⟩ := h28
      rw [hK.pm rfl, hK.fi rfl, e1] at hz
      refine z_if_eq (tgt := 40) dX9_keeps_31 (by decide) (by rw [hz]; split <;> exact ⟨by decide, by decide⟩) (fun h31 => ?_) (fun h31 => ?_)
      · skip
        refine z_iinc (L' := [_, _, _, _]) dX9_keeps_40 (Nat.le_of_ble_eq_true rfl) rfl rfl rfl ?_
        refine z_goto (tgt := 17) dX9_keeps_43 (by decide) ?_
        rw [bitL]
        cases hq : keepL (fun w => pasM LF σ (finM σ m) w 0 0) set (σ 9 1).toNat 0
        · rw [hq] at hz
          first
            | exact absurd hz h31
            | exact l_X9_keeps hW hset k _ (m + 1) _ (by omega) (by omega) hb (hK.tr hfr)
        · rw [hq] at hz
          first
            | exact l_X9_keeps hW hset k _ (m + 1) _ (by omega) (by omega) ior_R (hK.tr hfr)
            | exact absurd (hz.symm.trans h31) (by decide)
      · skip
        refine z_iload_n dX9_keeps_34 rfl ?_
        refine z_iconst dX9_keeps_35 ?_
        refine z_iload_n dX9_keeps_36 rfl ?_
        refine z_ishl dX9_keeps_37 ?_
        refine z_ior dX9_keeps_38 ?_
        refine z_istore_n (L' := [_, _, _, _]) dX9_keeps_39 (Nat.le_of_ble_eq_true rfl) rfl rfl ?_
        refine z_iinc (L' := [_, _, _, _]) dX9_keeps_40 (Nat.le_of_ble_eq_true rfl) rfl rfl rfl ?_
        refine z_goto (tgt := 17) dX9_keeps_43 (by decide) ?_
        rw [bitL]
        cases hq : keepL (fun w => pasM LF σ (finM σ m) w 0 0) set (σ 9 1).toNat 0
        · rw [hq] at hz
          first
            | exact absurd hz h31
            | exact l_X9_keeps hW hset k _ (m + 1) _ (by omega) (by omega) hb (hK.tr hfr)
        · rw [hq] at hz
          first
            | exact l_X9_keeps hW hset k _ (m + 1) _ (by omega) (by omega) ior_R (hK.tr hfr)
            | exact absurd (hz.symm.trans h31) (by decide)
set_option maxRecDepth 20000 in
theorem c_X9_keeps {d : Nat} {σ : Sto} {LF : LFT} {set : Int} (hW : WM LF σ) (h1 : inR set) : m_X9_keeps d [zR 9, zI set] σ (qI fun z σ' => z = kpG (σ 9 7).toNat (σ 9 1).toNat (pasM LF σ) (finM σ) set ∧ KM σ σ') := by
  have w2 := hW.2.1
  refine z_does (L := [some (zR 9), some (zI set), none, none]) rfl (by decide +kernel) (Nat.le_of_ble_eq_true rfl) rfl ?_
  refine z_iload_n dX9_keeps_0 rfl ?_
  refine z_iconst dX9_keeps_1 ?_
  refine z_sipush (v := 4095) dX9_keeps_2 (by decide +kernel) ?_
  refine z_callSI (d := d + 5) (av := [_, _, _]) dX9_keeps_5 sX9_143 rfl rfl (Nat.le_of_ble_eq_true rfl) (Nat.le_refl _) (c_X9_in (by omega) (by omega) (by omega)) (fun z5 σ5 h5 => ?_)
  obtain ⟨hs5, h5⟩ := h5
  subst σ5
  refine z_if_ne (tgt := 13) dX9_keeps_8 (by decide) ⟨by omega, by omega⟩ (fun h8 => ?_) (fun h8 => ?_)
  · skip
    refine z_iconst dX9_keeps_13 ?_
    refine z_istore_n (L' := [_, _, _, _]) dX9_keeps_14 (Nat.le_of_ble_eq_true rfl) rfl rfl ?_
    refine z_iconst dX9_keeps_15 ?_
    refine z_istore_n (L' := [_, _, _, _]) dX9_keeps_16 (Nat.le_of_ble_eq_true rfl) rfl rfl ?_
    unfold kpG
    rw [if_neg (by omega)]
    exact l_X9_keeps hW (by omega) (σ 9 7).toNat σ 0 0 (by omega) (by omega) ⟨by decide, by decide⟩ (frM.rf _ _ σ)
  · skip
    refine z_iconst dX9_keeps_11 ?_
    exact z_iret dX9_keeps_12 (⟨by unfold kpG; rw [if_pos (by omega)], frM.rf _ _ σ⟩)
