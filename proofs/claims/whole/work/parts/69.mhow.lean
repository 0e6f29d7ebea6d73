/-! ===== The reference's questions: howFine, its loop ===== -/
theorem frM.sym {S J : List Nat} {σ τ : Sto} {s : Int} (h : frM S J σ τ) (h8 : 118 ∉ S) (h9 : 119 ∉ S) (h1 : 1 ∉ J) : SYM τ s = SYM σ s := by
  unfold SYM rwM
  rw [h.1 118 h8 (by decide), h.1 119 h9 (by decide), h.2 1 h1]
theorem sdM.fr {S J : List Nat} {σ τ : Sto} {X : List Int} (hX : sdM σ X) (h : frM S J σ τ) (h3 : 103 ∉ S) (h5 : 35 ∉ J) : sdM τ X := ⟨by rw [h.2 35 h5]; exact hX.1, Seg.row (h.1 103 h3 (by decide)) hX.2.1, hX.2.2⟩
theorem r1M.fr {S J : List Nat} {σ τ : Sto} {X : List Int} (hX : r1M σ X) (h : frM S J σ τ) (h3 : 107 ∉ S) (h5 : 43 ∉ J) : r1M τ X := ⟨by rw [h.2 43 h5]; exact hX.1, Seg.row (h.1 107 h3 (by decide)) hX.2.1, hX.2.2⟩
set_option maxRecDepth 20000 in
set_option maxHeartbeats 1000000 in
theorem l_X9_howFine {d : Nat} {σ : Sto} {LF : LFT} {t w e0 : Int} {X Y : List Int} (hW : WM LF σ) (hw : 0 ≤ w ∧ w ≤ 1) :
    ∀ (k : Nat) (τ : Sto) (f c l : Int), 0 ≤ f → f + k = 10 → (0 ≤ c ∧ c ≤ f) → (c = 0 → l = -2) → KM σ τ → sdM τ X → r1M τ Y →
    Z (z_me cX9_howFine RX9 7 (some .int) (d + 5) (qI fun z σ' => z = (if w = 0 then c + cntF (hfB (pasM LF σ) X Y) k f else if c = 0 then lstF (hfB (pasM LF σ) X Y) k f else l) ∧ KM σ σ')) 56 [some (zR 9), some (zI t), some (zI w), some (zI e0), some (zI c), some (zI l), some (zI f)] [] τ
  | 0, τ, f, c, l, h0, hk, hc, hl, hK, hX, hY => by
    refine z_iload dX9_howFine_56 rfl ?_
    refine z_bipush (v := 9) dX9_howFine_58 (by decide +kernel) ?_
    refine z_icmp_gt (tgt := 97) dX9_howFine_60 (by decide) ⟨by omega, by omega⟩ ⟨by omega, by omega⟩ (fun h60 => ?_) (fun h60 => ?_)
    · skip
      refine z_iload_n dX9_howFine_97 rfl ?_
      refine z_if_ne (tgt := 106) dX9_howFine_98 (by decide) ⟨by omega, by omega⟩ (fun h98 => ?_) (fun h98 => ?_)
      · skip
        refine z_iload dX9_howFine_106 rfl ?_
        exact z_iret dX9_howFine_108 (by
          refine ⟨?_, hK⟩
          rw [cntF, lstF]
          by_cases q : c = 0
          · have q2 := hl q
            rw [if_pos q]
            first | (rw [if_pos (by omega)]; omega) | (rw [if_neg (by omega)]; exact q2)
          · rw [if_neg q]
            first | (rw [if_pos (by omega)]; omega) | (rw [if_neg (by omega)]))
      · skip
        refine z_iload dX9_howFine_101 rfl ?_
        refine z_goto (tgt := 108) dX9_howFine_103 (by decide) ?_
        exact z_iret dX9_howFine_108 (by
          refine ⟨?_, hK⟩
          rw [cntF, lstF]
          by_cases q : c = 0
          · have q2 := hl q
            rw [if_pos q]
            first | (rw [if_pos (by omega)]; omega) | (rw [if_neg (by omega)]; exact q2)
          · rw [if_neg q]
            first | (rw [if_pos (by omega)]; omega) | (rw [if_neg (by omega)]))
    · exfalso; omega
  | k + 1, τ, f, c, l, h0, hk, hc, hl, hK, hX, hY => by
    refine z_iload dX9_howFine_56 rfl ?_
    refine z_bipush (v := 9) dX9_howFine_58 (by decide +kernel) ?_
    refine z_icmp_gt (tgt := 97) dX9_howFine_60 (by decide) ⟨by omega, by omega⟩ ⟨by omega, by omega⟩ (fun h60 => ?_) (fun h60 => ?_)
    · exfalso; omega
    · skip
      refine z_aload_n dX9_howFine_63 rfl ?_
      refine z_iload dX9_howFine_64 rfl ?_
      refine z_callVV (d := d + 4) (av := [_]) dX9_howFine_66 vX9_372 rfl (Nat.le_of_ble_eq_true rfl) rfl rfl rfl (Nat.le_of_ble_eq_true rfl) (Nat.le_refl _) (c_X9_goFine (LF := LF) (hK.wm hW rfl) (by omega) hX) (fun σ66 h66 => ?_)
      obtain ⟨hfr, hca⟩ := h66
      rw [hK.pm rfl] at hca
      have hK2 : KM σ σ66 := hK.tr (hfr.mono (by decide) (by decide))
      have hX2 := hX.fr hfr (by decide) (by decide)
      have hY2 := hY.fr hfr (by decide) (by decide)
      refine z_aload_n dX9_howFine_69 rfl ?_
      refine z_callVI (d := d + 4) (av := []) dX9_howFine_70 vX9_375 rfl (Nat.le_of_ble_eq_true rfl) rfl rfl rfl (Nat.le_of_ble_eq_true rfl) (Nat.le_refl _) (c_X9_justComes hca hY2) (fun z70 σ70 h70 => ?_)
      obtain ⟨hs70, hj⟩ := h70
      subst σ70
      have hr70 : inR z70 := by rcases hj with q | q; rw [q.1]; decide; rw [q.1]; decide
      refine z_if_ne (tgt := 79) dX9_howFine_73 (by decide) ⟨by omega, by omega⟩ (fun h73 => ?_) (fun h73 => ?_)
      · skip
        refine z_iload dX9_howFine_79 rfl ?_
        refine z_if_ne (tgt := 88) dX9_howFine_81 (by decide) ⟨by omega, by omega⟩ (fun h81 => ?_) (fun h81 => ?_)
        · skip
          refine z_iinc (L' := [_, _, _, _, _, _, _]) dX9_howFine_88 (Nat.le_of_ble_eq_true rfl) rfl rfl rfl ?_
          refine z_iinc (L' := [_, _, _, _, _, _, _]) dX9_howFine_91 (Nat.le_of_ble_eq_true rfl) rfl rfl rfl ?_
          refine z_goto (tgt := 56) dX9_howFine_94 (by decide) ?_
          have eb : hfB (pasM LF σ) X Y f = true ↔ (cmL (pasM LF σ f) X 0 0).1 = Y := by unfold hfB; rw [decide_eq_true_eq]; exact eq_comm
          have c1 : hfB (pasM LF σ) X Y f = true → cntF (hfB (pasM LF σ) X Y) (k + 1) f = 1 + cntF (hfB (pasM LF σ) X Y) k (f + 1) ∧ lstF (hfB (pasM LF σ) X Y) (k + 1) f = f := fun q => ⟨by rw [cntF, if_pos q], by rw [lstF, if_pos q]⟩
          have c0 : ¬ hfB (pasM LF σ) X Y f = true → cntF (hfB (pasM LF σ) X Y) (k + 1) f = 0 + cntF (hfB (pasM LF σ) X Y) k (f + 1) ∧ lstF (hfB (pasM LF σ) X Y) (k + 1) f = lstF (hfB (pasM LF σ) X Y) k (f + 1) := fun q => ⟨by rw [cntF, if_neg q], by rw [lstF, if_neg q]⟩
          rcases hj with q | q
          · first
            | (exfalso; omega)
            | (obtain ⟨u1, u2⟩ := c1 (eb.mpr q.2)
               rw [u1, u2]
               first
               | (have qc : c = 0 := by omega
                  have h := l_X9_howFine (d := d) (t := t) (e0 := e0) hW hw k σ66 (f + 1) (c + 1) f (by omega) (by omega) (by omega) (by omega) hK2 hX2 hY2
                  rw [if_neg (show ¬ c + 1 = 0 by omega), Int.add_assoc] at h
                  rw [if_pos qc]
                  exact h)
               | (have qc : ¬ c = 0 := by omega
                  have h := l_X9_howFine (d := d) (t := t) (e0 := e0) hW hw k σ66 (f + 1) (c + 1) l (by omega) (by omega) (by omega) (by omega) hK2 hX2 hY2
                  rw [if_neg (show ¬ c + 1 = 0 by omega), Int.add_assoc] at h
                  rw [if_neg qc]
                  exact h))
          · first
            | (exfalso; omega)
            | (obtain ⟨u1, u2⟩ := c0 (fun v => q.2 (eb.mp v))
               rw [u1, u2, Int.zero_add]
               exact l_X9_howFine (d := d) (t := t) (e0 := e0) hW hw k σ66 (f + 1) c l (by omega) (by omega) (by omega) hl hK2 hX2 hY2)
        · skip
          refine z_iload dX9_howFine_84 rfl ?_
          refine z_istore (L' := [_, _, _, _, _, _, _]) dX9_howFine_86 (Nat.le_of_ble_eq_true rfl) rfl rfl ?_
          refine z_iinc (L' := [_, _, _, _, _, _, _]) dX9_howFine_88 (Nat.le_of_ble_eq_true rfl) rfl rfl rfl ?_
          refine z_iinc (L' := [_, _, _, _, _, _, _]) dX9_howFine_91 (Nat.le_of_ble_eq_true rfl) rfl rfl rfl ?_
          refine z_goto (tgt := 56) dX9_howFine_94 (by decide) ?_
          have eb : hfB (pasM LF σ) X Y f = true ↔ (cmL (pasM LF σ f) X 0 0).1 = Y := by unfold hfB; rw [decide_eq_true_eq]; exact eq_comm
          have c1 : hfB (pasM LF σ) X Y f = true → cntF (hfB (pasM LF σ) X Y) (k + 1) f = 1 + cntF (hfB (pasM LF σ) X Y) k (f + 1) ∧ lstF (hfB (pasM LF σ) X Y) (k + 1) f = f := fun q => ⟨by rw [cntF, if_pos q], by rw [lstF, if_pos q]⟩
          have c0 : ¬ hfB (pasM LF σ) X Y f = true → cntF (hfB (pasM LF σ) X Y) (k + 1) f = 0 + cntF (hfB (pasM LF σ) X Y) k (f + 1) ∧ lstF (hfB (pasM LF σ) X Y) (k + 1) f = lstF (hfB (pasM LF σ) X Y) k (f + 1) := fun q => ⟨by rw [cntF, if_neg q], by rw [lstF, if_neg q]⟩
          rcases hj with q | q
          · first
            | (exfalso; omega)
            | (obtain ⟨u1, u2⟩ := c1 (eb.mpr q.2)
               rw [u1, u2]
               first
               | (have qc : c = 0 := by omega
                  have h := l_X9_howFine (d := d) (t := t) (e0 := e0) hW hw k σ66 (f + 1) (c + 1) f (by omega) (by omega) (by omega) (by omega) hK2 hX2 hY2
                  rw [if_neg (show ¬ c + 1 = 0 by omega), Int.add_assoc] at h
                  rw [if_pos qc]
                  exact h)
               | (have qc : ¬ c = 0 := by omega
                  have h := l_X9_howFine (d := d) (t := t) (e0 := e0) hW hw k σ66 (f + 1) (c + 1) l (by omega) (by omega) (by omega) (by omega) hK2 hX2 hY2
                  rw [if_neg (show ¬ c + 1 = 0 by omega), Int.add_assoc] at h
                  rw [if_neg qc]
                  exact h))
          · first
            | (exfalso; omega)
            | (obtain ⟨u1, u2⟩ := c0 (fun v => q.2 (eb.mp v))
               rw [u1, u2, Int.zero_add]
               exact l_X9_howFine (d := d) (t := t) (e0 := e0) hW hw k σ66 (f + 1) c l (by omega) (by omega) (by omega) hl hK2 hX2 hY2)
      · skip
        refine z_goto (tgt := 91) dX9_howFine_76 (by decide) ?_
        refine z_iinc (L' := [_, _, _, _, _, _, _]) dX9_howFine_91 (Nat.le_of_ble_eq_true rfl) rfl rfl rfl ?_
        refine z_goto (tgt := 56) dX9_howFine_94 (by decide) ?_
        have eb : hfB (pasM LF σ) X Y f = true ↔ (cmL (pasM LF σ f) X 0 0).1 = Y := by unfold hfB; rw [decide_eq_true_eq]; exact eq_comm
        have c1 : hfB (pasM LF σ) X Y f = true → cntF (hfB (pasM LF σ) X Y) (k + 1) f = 1 + cntF (hfB (pasM LF σ) X Y) k (f + 1) ∧ lstF (hfB (pasM LF σ) X Y) (k + 1) f = f := fun q => ⟨by rw [cntF, if_pos q], by rw [lstF, if_pos q]⟩
        have c0 : ¬ hfB (pasM LF σ) X Y f = true → cntF (hfB (pasM LF σ) X Y) (k + 1) f = 0 + cntF (hfB (pasM LF σ) X Y) k (f + 1) ∧ lstF (hfB (pasM LF σ) X Y) (k + 1) f = lstF (hfB (pasM LF σ) X Y) k (f + 1) := fun q => ⟨by rw [cntF, if_neg q], by rw [lstF, if_neg q]⟩
        rcases hj with q | q
        · first
          | (exfalso; omega)
          | (obtain ⟨u1, u2⟩ := c1 (eb.mpr q.2)
             rw [u1, u2]
             first
             | (have qc : c = 0 := by omega
                have h := l_X9_howFine (d := d) (t := t) (e0 := e0) hW hw k σ66 (f + 1) (c + 1) f (by omega) (by omega) (by omega) (by omega) hK2 hX2 hY2
                rw [if_neg (show ¬ c + 1 = 0 by omega), Int.add_assoc] at h
                rw [if_pos qc]
                exact h)
             | (have qc : ¬ c = 0 := by omega
                have h := l_X9_howFine (d := d) (t := t) (e0 := e0) hW hw k σ66 (f + 1) (c + 1) l (by omega) (by omega) (by omega) (by omega) hK2 hX2 hY2
                rw [if_neg (show ¬ c + 1 = 0 by omega), Int.add_assoc] at h
                rw [if_neg qc]
                exact h))
        · first
          | (exfalso; omega)
          | (obtain ⟨u1, u2⟩ := c0 (fun v => q.2 (eb.mp v))
             rw [u1, u2, Int.zero_add]
             exact l_X9_howFine (d := d) (t := t) (e0 := e0) hW hw k σ66 (f + 1) c l (by omega) (by omega) (by omega) hl hK2 hX2 hY2)
