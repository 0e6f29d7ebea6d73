/-! ===== The reference's questions: drawn ===== -/
set_option maxRecDepth 20000 in
set_option maxHeartbeats 2000000 in
theorem l_X9_drawn2 {d : Nat} {σ : Sto} {LF : LFT} {sd nm me w ev sy : Int} (hW : WM LF σ) (hme : -1 ≤ me ∧ me < 5) (hw : 1 ≤ σ 9 1) (hsy : nm.tmod 100 = sy) (hsy2 : 0 ≤ sy ∧ sy ≤ 20) (hnm : inR nm) {Q : Option Value → Sto → Prop} :
    ∀ (k : Nat) (τ : Sto) (z lf hv q s : Int), 0 ≤ s → s + k = sy → (0 ≤ q ∧ q ≤ 4 * s) → (0 ≤ hv ∧ hv + k ≤ 100000) → KM σ τ →
    (∀ τ' : Sto, KM σ τ' → Z (z_me cX9_drawn RX9 12 (some .int) (d + 6) Q) 184 [some (zR 9), some (zI sd), some (zI nm), some (zI me), some (zI w), some (zI (dsF (pasM LF σ (finM σ me)) (hurtM σ) (σ 9 1) k z q).1), some (zI (lf + (dsF (pasM LF σ (finM σ me)) (hurtM σ) (σ 9 1) k z q).2.1)), some (zI (hv + (dsF (pasM LF σ (finM σ me)) (hurtM σ) (σ 9 1) k z q).2.2)), some (zI ev), some (zI (q + (dsF (pasM LF σ (finM σ me)) (hurtM σ) (σ 9 1) k z q).2.1)), some (zI sy), none] [] τ') →
    Z (z_me cX9_drawn RX9 12 (some .int) (d + 6) Q) 84 [some (zR 9), some (zI sd), some (zI nm), some (zI me), some (zI w), some (zI z), some (zI lf), some (zI hv), some (zI ev), some (zI q), some (zI s), none] [] τ
  | 0, τ, z, lf, hv, q, s, h0, hs, hq, hh, hK, kk => by
    obtain rfl : s = sy := by omega
    refine z_iload dX9_drawn_84 rfl ?_
    refine z_iload_n dX9_drawn_86 rfl ?_
    refine z_bipush (v := 100) dX9_drawn_87 (by decide +kernel) ?_
    refine z_irem dX9_drawn_89 ⟨by omega, by omega⟩ ⟨by omega, by omega⟩ (by omega) ?_
    refine z_icmp_ge (tgt := 184) dX9_drawn_90 (by decide) ⟨by omega, by omega⟩ ⟨by omega, by omega⟩ (fun h90 => ?_) (fun h90 => ?_)
    · skip
      have h := kk τ hK
      simp only [dsF, Int.add_zero] at h
      exact h
    · exfalso; omega
  | k + 1, τ, z, lf, hv, q, s, h0, hs, hq, hh, hK, kk => by
    have w1 := hW.1
    have e1 : τ 9 1 = σ 9 1 := hK.2 1 (by decide)
    have r0 := ushr_R (nz z)
    have r1 := ushr_R (nz (nz z))
    have r2 := ushr_R (nz (nz (nz z)))
    have r3 := ushr_R (nz (nz (nz (nz z))))
    have d0 := dw_R (z := nz z) (n := σ 9 1) (by omega)
    have d1 := dw_R (z := nz (nz z)) (n := σ 9 1) (by omega)
    have d2 := dw_R (z := nz (nz (nz z))) (n := σ 9 1) (by omega)
    have d3 := dw_R (z := nz (nz (nz (nz z)))) (n := σ 9 1) (by omega)
    have hxw : wok (dws z (σ 9 1)) := by
      intro w hwm
      simp only [dws, List.mem_cons, List.not_mem_nil, or_false] at hwm
      omega
    have hcl := cmL_len (ps := pasM LF σ (finM σ me)) (dws z (σ 9 1)) 0 q
    have hl4 : (dws z (σ 9 1)).length = 4 := rfl
    have hyt : (cmM LF σ me (dws z (σ 9 1)) q).2.length = (cmL (pasM LF σ (finM σ me)) (dws z (σ 9 1)) 0 q).2.length := rfl
    have hhu : inR (hurtM σ (cmL (pasM LF σ (finM σ me)) (dws z (σ 9 1)) 0 q).1) := hurt_R
    refine z_iload dX9_drawn_84 rfl ?_
    refine z_iload_n dX9_drawn_86 rfl ?_
    refine z_bipush (v := 100) dX9_drawn_87 (by decide +kernel) ?_
    refine z_irem dX9_drawn_89 ⟨by omega, by omega⟩ ⟨by omega, by omega⟩ (by omega) ?_
    refine z_icmp_ge (tgt := 184) dX9_drawn_90 (by decide) ⟨by omega, by omega⟩ ⟨by omega, by omega⟩ (fun h90 => ?_) (fun h90 => ?_)
    · exfalso; omega
    · skip
      refine z_aload_n dX9_drawn_93 rfl ?_
      refine z_iconst dX9_drawn_94 ?_
      refine z_putI dX9_drawn_95 pX9_274 rfl (Nat.le_of_ble_eq_true rfl) rfl ⟨by omega, by omega⟩ ?_
      refine z_iconst dX9_drawn_98 ?_
      refine z_istore (L' := [_, _, _, _, _, _, _, _, _, _, _, _]) dX9_drawn_99 (Nat.le_of_ble_eq_true rfl) rfl rfl ?_
      refine z_iload dX9_drawn_101 rfl ?_
      refine z_iconst dX9_drawn_103 ?_
      refine z_icmp_ge (tgt := 142) dX9_drawn_104 (by decide) ⟨by omega, by omega⟩ ⟨by omega, by omega⟩ (fun h104 => ?_) (fun h104 => ?_)
      · exfalso; omega
      · skip
        refine z_iload dX9_drawn_107 rfl ?_
        refine z_ldcw dX9_drawn_109 kX9_400 ?_
        refine z_imul dX9_drawn_112 ?_
        refine z_sipush (v := 12345) dX9_drawn_113 (by decide +kernel) ?_
        refine z_iadd dX9_drawn_116 ?_
        try simp only [show ∀ x : Int, x * 1103515245 + 12345 = nz x from fun _ => rfl]
        refine z_istore (L' := [_, _, _, _, _, _, _, _, _, _, _, _]) dX9_drawn_117 (Nat.le_of_ble_eq_true rfl) rfl rfl ?_
        refine z_aload_n dX9_drawn_119 rfl ?_
        refine z_getR dX9_drawn_120 gX9_81 rfl (Nat.le_of_ble_eq_true rfl) rfl ?_
        refine z_iload dX9_drawn_123 rfl ?_
        refine z_iload dX9_drawn_125 rfl ?_
        refine z_bipush (v := 10) dX9_drawn_127 (by decide +kernel) ?_
        refine z_iushr dX9_drawn_129 ?_
        refine z_aload_n dX9_drawn_130 rfl ?_
        refine z_getI dX9_drawn_131 gX9_140 rfl (Nat.le_of_ble_eq_true rfl) rfl (fun hr131 => ?_)
        try simp only [e1, z_rd, Nat.reduceEqDiff, ↓reduceIte, eq_self] at hr131 ⊢
        refine z_irem dX9_drawn_134 ⟨by omega, by omega⟩ ⟨by omega, by omega⟩ (by omega) ?_
        try simp only [show ∀ x : Int, (z_iushrF x 10).tmod (σ 9 1) = dw x (σ 9 1) from fun _ => rfl]
        refine z_iast dX9_drawn_135 rfl (Nat.le_of_ble_eq_true rfl) (by omega) ⟨by omega, by omega⟩ ?_
        refine z_iinc (L' := [_, _, _, _, _, _, _, _, _, _, _, _]) dX9_drawn_136 (Nat.le_of_ble_eq_true rfl) rfl rfl rfl ?_
        refine z_goto (tgt := 101) dX9_drawn_139 (by decide) ?_
        refine z_iload dX9_drawn_101 rfl ?_
        refine z_iconst dX9_drawn_103 ?_
        refine z_icmp_ge (tgt := 142) dX9_drawn_104 (by decide) ⟨by omega, by omega⟩ ⟨by omega, by omega⟩ (fun h104 => ?_) (fun h104 => ?_)
        · exfalso; omega
        · skip
          refine z_iload dX9_drawn_107 rfl ?_
          refine z_ldcw dX9_drawn_109 kX9_400 ?_
          refine z_imul dX9_drawn_112 ?_
          refine z_sipush (v := 12345) dX9_drawn_113 (by decide +kernel) ?_
          refine z_iadd dX9_drawn_116 ?_
          try simp only [show ∀ x : Int, x * 1103515245 + 12345 = nz x from fun _ => rfl]
          refine z_istore (L' := [_, _, _, _, _, _, _, _, _, _, _, _]) dX9_drawn_117 (Nat.le_of_ble_eq_true rfl) rfl rfl ?_
          refine z_aload_n dX9_drawn_119 rfl ?_
          refine z_getR dX9_drawn_120 gX9_81 rfl (Nat.le_of_ble_eq_true rfl) rfl ?_
          refine z_iload dX9_drawn_123 rfl ?_
          refine z_iload dX9_drawn_125 rfl ?_
          refine z_bipush (v := 10) dX9_drawn_127 (by decide +kernel) ?_
          refine z_iushr dX9_drawn_129 ?_
          refine z_aload_n dX9_drawn_130 rfl ?_
          refine z_getI dX9_drawn_131 gX9_140 rfl (Nat.le_of_ble_eq_true rfl) rfl (fun hr131 => ?_)
          try simp only [e1, z_rd, Nat.reduceEqDiff, ↓reduceIte, eq_self] at hr131 ⊢
          refine z_irem dX9_drawn_134 ⟨by omega, by omega⟩ ⟨by omega, by omega⟩ (by omega) ?_
          try simp only [show ∀ x : Int, (z_iushrF x 10).tmod (σ 9 1) = dw x (σ 9 1) from fun _ => rfl]
          refine z_iast dX9_drawn_135 rfl (Nat.le_of_ble_eq_true rfl) (by omega) ⟨by omega, by omega⟩ ?_
          refine z_iinc (L' := [_, _, _, _, _, _, _, _, _, _, _, _]) dX9_drawn_136 (Nat.le_of_ble_eq_true rfl) rfl rfl rfl ?_
          refine z_goto (tgt := 101) dX9_drawn_139 (by decide) ?_
          refine z_iload dX9_drawn_101 rfl ?_
          refine z_iconst dX9_drawn_103 ?_
          refine z_icmp_ge (tgt := 142) dX9_drawn_104 (by decide) ⟨by omega, by omega⟩ ⟨by omega, by omega⟩ (fun h104 => ?_) (fun h104 => ?_)
          · exfalso; omega
          · skip
            refine z_iload dX9_drawn_107 rfl ?_
            refine z_ldcw dX9_drawn_109 kX9_400 ?_
            refine z_imul dX9_drawn_112 ?_
            refine z_sipush (v := 12345) dX9_drawn_113 (by decide +kernel) ?_
            refine z_iadd dX9_drawn_116 ?_
            try simp only [show ∀ x : Int, x * 1103515245 + 12345 = nz x from fun _ => rfl]
            refine z_istore (L' := [_, _, _, _, _, _, _, _, _, _, _, _]) dX9_drawn_117 (Nat.le_of_ble_eq_true rfl) rfl rfl ?_
            refine z_aload_n dX9_drawn_119 rfl ?_
            refine z_getR dX9_drawn_120 gX9_81 rfl (Nat.le_of_ble_eq_true rfl) rfl ?_
            refine z_iload dX9_drawn_123 rfl ?_
            refine z_iload dX9_drawn_125 rfl ?_
            refine z_bipush (v := 10) dX9_drawn_127 (by decide +kernel) ?_
            refine z_iushr dX9_drawn_129 ?_
            refine z_aload_n dX9_drawn_130 rfl ?_
            refine z_getI dX9_drawn_131 gX9_140 rfl (Nat.le_of_ble_eq_true rfl) rfl (fun hr131 => ?_)
            try simp only [e1, z_rd, Nat.reduceEqDiff, ↓reduceIte, eq_self] at hr131 ⊢
            refine z_irem dX9_drawn_134 ⟨by omega, by omega⟩ ⟨by omega, by omega⟩ (by omega) ?_
            try simp only [show ∀ x : Int, (z_iushrF x 10).tmod (σ 9 1) = dw x (σ 9 1) from fun _ => rfl]
            refine z_iast dX9_drawn_135 rfl (Nat.le_of_ble_eq_true rfl) (by omega) ⟨by omega, by omega⟩ ?_
            refine z_iinc (L' := [_, _, _, _, _, _, _, _, _, _, _, _]) dX9_drawn_136 (Nat.le_of_ble_eq_true rfl) rfl rfl rfl ?_
            refine z_goto (tgt := 101) dX9_drawn_139 (by decide) ?_
            refine z_iload dX9_drawn_101 rfl ?_
            refine z_iconst dX9_drawn_103 ?_
            refine z_icmp_ge (tgt := 142) dX9_drawn_104 (by decide) ⟨by omega, by omega⟩ ⟨by omega, by omega⟩ (fun h104 => ?_) (fun h104 => ?_)
            · exfalso; omega
            · skip
              refine z_iload dX9_drawn_107 rfl ?_
              refine z_ldcw dX9_drawn_109 kX9_400 ?_
              refine z_imul dX9_drawn_112 ?_
              refine z_sipush (v := 12345) dX9_drawn_113 (by decide +kernel) ?_
              refine z_iadd dX9_drawn_116 ?_
              try simp only [show ∀ x : Int, x * 1103515245 + 12345 = nz x from fun _ => rfl]
              refine z_istore (L' := [_, _, _, _, _, _, _, _, _, _, _, _]) dX9_drawn_117 (Nat.le_of_ble_eq_true rfl) rfl rfl ?_
              refine z_aload_n dX9_drawn_119 rfl ?_
              refine z_getR dX9_drawn_120 gX9_81 rfl (Nat.le_of_ble_eq_true rfl) rfl ?_
              refine z_iload dX9_drawn_123 rfl ?_
              refine z_iload dX9_drawn_125 rfl ?_
              refine z_bipush (v := 10) dX9_drawn_127 (by decide +kernel) ?_
              refine z_iushr dX9_drawn_129 ?_
              refine z_aload_n dX9_drawn_130 rfl ?_
              refine z_getI dX9_drawn_131 gX9_140 rfl (Nat.le_of_ble_eq_true rfl) rfl (fun hr131 => ?_)
              try simp only [e1, z_rd, Nat.reduceEqDiff, ↓reduceIte, eq_self] at hr131 ⊢
              refine z_irem dX9_drawn_134 ⟨by omega, by omega⟩ ⟨by omega, by omega⟩ (by omega) ?_
              try simp only [show ∀ x : Int, (z_iushrF x 10).tmod (σ 9 1) = dw x (σ 9 1) from fun _ => rfl]
              refine z_iast dX9_drawn_135 rfl (Nat.le_of_ble_eq_true rfl) (by omega) ⟨by omega, by omega⟩ ?_
              refine z_iinc (L' := [_, _, _, _, _, _, _, _, _, _, _, _]) dX9_drawn_136 (Nat.le_of_ble_eq_true rfl) rfl rfl rfl ?_
              refine z_goto (tgt := 101) dX9_drawn_139 (by decide) ?_
              refine z_iload dX9_drawn_101 rfl ?_
              refine z_iconst dX9_drawn_103 ?_
              refine z_icmp_ge (tgt := 142) dX9_drawn_104 (by decide) ⟨by omega, by omega⟩ ⟨by omega, by omega⟩ (fun h104 => ?_) (fun h104 => ?_)
              · skip
                generalize hτ4 : z_put (z_put (z_put (z_put (z_put τ 9 35 4) 103 _ _) 103 _ _) 103 _ _) 103 _ _ = τ4
                have hK4 : KM σ τ4 := by rw [← hτ4]; exact frM.putA (frM.putA (frM.putA (frM.putA (frM.putF hK (by decide)) (by decide) (by decide)) (by decide) (by decide)) (by decide) (by decide)) (by decide) (by decide)
                have s4 : sdM τ4 (dws z (σ 9 1)) := by rw [← hτ4]; exact ⟨rfl, ⟨rfl, rfl, rfl, rfl, trivial⟩, hxw, by rw [hl4]; decide⟩
                refine z_aload_n dX9_drawn_142 rfl ?_
                refine z_iload_n dX9_drawn_143 rfl ?_
                refine z_iload dX9_drawn_144 rfl ?_
                refine z_callVV (d := d + 5) (av := [_, _]) dX9_drawn_146 vX9_296 rfl (Nat.le_of_ble_eq_true rfl) rfl rfl rfl (Nat.le_of_ble_eq_true rfl) (Nat.le_refl _) (c_X9_goThrough (LF := LF) (X := dws z (σ 9 1)) (hK4.wm hW rfl) hme (by omega) s4) (fun σ146 h146 => ?_)
                obtain ⟨hk2, t2, t3, t4, t5⟩ := h146
                obtain ⟨hK5, hca, hlf, -, hW5⟩ := thr2_M hW hK4 s4 hk2 t2 t3 t4 t5
                refine z_iload dX9_drawn_149 rfl ?_
                refine z_aload_n dX9_drawn_151 rfl ?_
                refine z_getI dX9_drawn_152 gX9_283 rfl (Nat.le_of_ble_eq_true rfl) rfl (fun hr152 => ?_)
                try simp only [e1, z_rd, Nat.reduceEqDiff, ↓reduceIte, eq_self] at hr152 ⊢
                rw [hlf.1]
                refine z_iadd dX9_drawn_155 ?_
                refine z_istore (L' := [_, _, _, _, _, _, _, _, _, _, _, _]) dX9_drawn_156 (Nat.le_of_ble_eq_true rfl) rfl rfl ?_
                refine z_iload dX9_drawn_158 rfl ?_
                refine z_aload_n dX9_drawn_160 rfl ?_
                refine z_getI dX9_drawn_161 gX9_283 rfl (Nat.le_of_ble_eq_true rfl) rfl (fun hr161 => ?_)
                try simp only [e1, z_rd, Nat.reduceEqDiff, ↓reduceIte, eq_self] at hr161 ⊢
                rw [hlf.1]
                refine z_iadd dX9_drawn_164 ?_
                refine z_istore (L' := [_, _, _, _, _, _, _, _, _, _, _, _]) dX9_drawn_165 (Nat.le_of_ble_eq_true rfl) rfl rfl ?_
                refine z_aload_n dX9_drawn_167 rfl ?_
                refine z_iconst dX9_drawn_168 ?_
                refine z_callVI (d := d + 5) (av := [_]) dX9_drawn_169 vX9_302 rfl (Nat.le_of_ble_eq_true rfl) rfl rfl rfl (Nat.le_of_ble_eq_true rfl) (Nat.le_refl _) (c_X9_hurtBy (LF := LF) (X := (cmL (pasM LF σ (finM σ me)) (dws z (σ 9 1)) 0 q).1) hW5 hca.2.2.2 hca.2.2.1 hca.hu) (fun z169 σ169 h169 => ?_)
                obtain ⟨rfl, hs169⟩ := h169
                subst σ169
                rw [hK5.hu rfl]
                refine z_if_eq (tgt := 178) dX9_drawn_172 (by decide) hhu (fun h172 => ?_) (fun h172 => ?_)
                · skip
                  refine z_iinc (L' := [_, _, _, _, _, _, _, _, _, _, _, _]) dX9_drawn_178 (Nat.le_of_ble_eq_true rfl) rfl rfl rfl ?_
                  refine z_goto (tgt := 84) dX9_drawn_181 (by decide) ?_
                  refine z_forget [true, true, true, true, true, true, true, true, true, true, true, false] (L' := [_, _, _, _, _, _, _, _, _, _, _, _]) rfl ?_
                  refine l_X9_drawn2 hW hme hw hsy hsy2 hnm k σ146 (nz4 z) _ _ _ (s + 1) (by omega) (by omega) (by omega) (by omega) hK5 (fun τ' h1 => ?_)
                  have h := kk τ' h1
                  simp only [dsF] at h
                  simp only [← Int.add_assoc] at h ⊢
                  first
                    | (rw [if_pos h172] at h; exact h)
                    | (rw [if_neg (fun w => w h172), Int.add_zero] at h; exact h)
                · skip
                  refine z_iinc (L' := [_, _, _, _, _, _, _, _, _, _, _, _]) dX9_drawn_175 (Nat.le_of_ble_eq_true rfl) rfl rfl rfl ?_
                  refine z_iinc (L' := [_, _, _, _, _, _, _, _, _, _, _, _]) dX9_drawn_178 (Nat.le_of_ble_eq_true rfl) rfl rfl rfl ?_
                  refine z_goto (tgt := 84) dX9_drawn_181 (by decide) ?_
                  refine z_forget [true, true, true, true, true, true, true, true, true, true, true, false] (L' := [_, _, _, _, _, _, _, _, _, _, _, _]) rfl ?_
                  refine l_X9_drawn2 hW hme hw hsy hsy2 hnm k σ146 (nz4 z) _ _ _ (s + 1) (by omega) (by omega) (by omega) (by omega) hK5 (fun τ' h1 => ?_)
                  have h := kk τ' h1
                  simp only [dsF] at h
                  simp only [← Int.add_assoc] at h ⊢
                  first
                    | (rw [if_pos h172] at h; exact h)
                    | (rw [if_neg (fun w => w h172), Int.add_zero] at h; exact h)
              · exfalso; omega
set_option maxRecDepth 20000 in
theorem t_X9_drawn184 {d : Nat} {υ : Sto} {sd nm me w z lf hv ev q s : Int} {Q : Option Value → Sto → Prop} (hev : 0 ≤ ev ∧ ev ≤ 1000)
    (ih : Z (z_me cX9_drawn RX9 12 (some .int) (d + 6) Q) 62 [some (zR 9), some (zI sd), some (zI nm), some (zI me), some (zI w), some (zI z), some (zI lf), some (zI hv), some (zI (ev + 1)), none, none, none] [] υ) :
    Z (z_me cX9_drawn RX9 12 (some .int) (d + 6) Q) 184 [some (zR 9), some (zI sd), some (zI nm), some (zI me), some (zI w), some (zI z), some (zI lf), some (zI hv), some (zI ev), some (zI q), some (zI s), none] [] υ := by
  refine z_iinc (L' := [_, _, _, _, _, _, _, _, _, _, _, _]) dX9_drawn_184 (Nat.le_of_ble_eq_true rfl) rfl rfl rfl ?_
  refine z_goto (tgt := 62) dX9_drawn_187 (by decide) ?_
  refine z_forget [true, true, true, true, true, true, true, true, true, false, false, false] (L' := [_, _, _, _, _, _, _, _, _, _, _, _]) rfl ?_
  exact ih
set_option maxRecDepth 20000 in
theorem l_X9_drawn1 {d : Nat} {σ : Sto} {LF : LFT} {sd nm me w sy en : Int} (hW : WM LF σ) (hme : -1 ≤ me ∧ me < 5) (hsy : nm.tmod 100 = sy) (hsy2 : 0 ≤ sy ∧ sy ≤ 20) (hnm : inR nm) (hen : nm.tdiv 100 = en) (hen2 : en ≤ 30) (hw : 0 ≤ w ∧ w ≤ 1) :
    ∀ (k : Nat) (τ : Sto) (z lf hv ev : Int), 0 ≤ ev → ev + k = en → (0 ≤ hv ∧ hv ≤ 100 * ev) → KM σ τ →
    Z (z_me cX9_drawn RX9 12 (some .int) (d + 6) (qI fun r σ' => r = (if σ 9 1 < 1 then (if w = 0 then lf else hv) else if w = 0 then lf + (deF (pasM LF σ (finM σ me)) (hurtM σ) (σ 9 1) sy.toNat k z).1 else hv + (deF (pasM LF σ (finM σ me)) (hurtM σ) (σ 9 1) sy.toNat k z).2) ∧ KM σ σ')) 62 [some (zR 9), some (zI sd), some (zI nm), some (zI me), some (zI w), some (zI z), some (zI lf), some (zI hv), some (zI ev), none, none, none] [] τ
  | 0, τ, z, lf, hv, ev, h0, hs, hh, hK => by
    have e1 : τ 9 1 = σ 9 1 := hK.2 1 (by decide)
    refine z_iload dX9_drawn_62 rfl ?_
    refine z_iload_n dX9_drawn_64 rfl ?_
    refine z_bipush (v := 100) dX9_drawn_65 (by decide +kernel) ?_
    refine z_idiv dX9_drawn_67 ⟨by omega, by omega⟩ ⟨by omega, by omega⟩ (by omega) ?_
    refine z_icmp_ge (tgt := 190) dX9_drawn_68 (by decide) ⟨by omega, by omega⟩ ⟨by omega, by omega⟩ (fun h68 => ?_) (fun h68 => ?_)
    · skip
      refine z_iload dX9_drawn_190 rfl ?_
      refine z_if_ne (tgt := 200) dX9_drawn_192 (by decide) ⟨by omega, by omega⟩ (fun h192 => ?_) (fun h192 => ?_)
      · skip
        refine z_iload dX9_drawn_200 rfl ?_
        exact z_iret dX9_drawn_202 ⟨by simp only [deF, Int.add_zero, ite_self]; first | (rw [if_pos (by omega)]; done) | (rw [if_neg (by omega)]; done), hK⟩
      · skip
        refine z_iload dX9_drawn_195 rfl ?_
        refine z_goto (tgt := 202) dX9_drawn_197 (by decide) ?_
        exact z_iret dX9_drawn_202 ⟨by simp only [deF, Int.add_zero, ite_self]; first | (rw [if_pos (by omega)]; done) | (rw [if_neg (by omega)]; done), hK⟩
    · exfalso; omega
  | k + 1, τ, z, lf, hv, ev, h0, hs, hh, hK => by
    have w1 := hW.1
    have e1 : τ 9 1 = σ 9 1 := hK.2 1 (by decide)
    have hr := dsF_R (ps := pasM LF σ (finM σ me)) (hu := hurtM σ) (n := σ 9 1) sy.toNat z 0
    refine z_iload dX9_drawn_62 rfl ?_
    refine z_iload_n dX9_drawn_64 rfl ?_
    refine z_bipush (v := 100) dX9_drawn_65 (by decide +kernel) ?_
    refine z_idiv dX9_drawn_67 ⟨by omega, by omega⟩ ⟨by omega, by omega⟩ (by omega) ?_
    refine z_icmp_ge (tgt := 190) dX9_drawn_68 (by decide) ⟨by omega, by omega⟩ ⟨by omega, by omega⟩ (fun h68 => ?_) (fun h68 => ?_)
    · exfalso; omega
    · skip
      refine z_aload_n dX9_drawn_71 rfl ?_
      refine z_getI dX9_drawn_72 gX9_140 rfl (Nat.le_of_ble_eq_true rfl) rfl (fun hr72 => ?_)
      refine z_if_le (tgt := 190) dX9_drawn_75 (by decide) ⟨by omega, by omega⟩ (fun h75 => ?_) (fun h75 => ?_)
      · skip
        refine z_iload dX9_drawn_190 rfl ?_
        refine z_if_ne (tgt := 200) dX9_drawn_192 (by decide) ⟨by omega, by omega⟩ (fun h192 => ?_) (fun h192 => ?_)
        · skip
          refine z_iload dX9_drawn_200 rfl ?_
          exact z_iret dX9_drawn_202 ⟨by rw [if_pos (by omega)]; first | (rw [if_pos (by omega)]; done) | (rw [if_neg (by omega)]; done), hK⟩
        · skip
          refine z_iload dX9_drawn_195 rfl ?_
          refine z_goto (tgt := 202) dX9_drawn_197 (by decide) ?_
          exact z_iret dX9_drawn_202 ⟨by rw [if_pos (by omega)]; first | (rw [if_pos (by omega)]; done) | (rw [if_neg (by omega)]; done), hK⟩
      · skip
        refine z_iconst dX9_drawn_78 ?_
        refine z_istore (L' := [_, _, _, _, _, _, _, _, _, _, _, _]) dX9_drawn_79 (Nat.le_of_ble_eq_true rfl) rfl rfl ?_
        refine z_iconst dX9_drawn_81 ?_
        refine z_istore (L' := [_, _, _, _, _, _, _, _, _, _, _, _]) dX9_drawn_82 (Nat.le_of_ble_eq_true rfl) rfl rfl ?_
        refine l_X9_drawn2 hW hme (by omega) hsy hsy2 hnm sy.toNat τ z lf hv 0 0 (by omega) (by omega) (by omega) (by omega) hK (fun τ' h1 => ?_)
        refine t_X9_drawn184 (by omega) ?_
        have h := l_X9_drawn1 (d := d) (sd := sd) hW hme hsy hsy2 hnm hen hen2 hw k τ' (dsF (pasM LF σ (finM σ me)) (hurtM σ) (σ 9 1) sy.toNat z 0).1 (lf + (dsF (pasM LF σ (finM σ me)) (hurtM σ) (σ 9 1) sy.toNat z 0).2.1) (hv + (dsF (pasM LF σ (finM σ me)) (hurtM σ) (σ 9 1) sy.toNat z 0).2.2) (ev + 1) (by omega) (by omega) (by omega) h1
        rw [if_neg (by omega)] at h ⊢
        simp only [deF, ← Int.add_assoc]
        exact h
set_option maxRecDepth 20000 in
theorem c_X9_drawn {d : Nat} {σ : Sto} {LF : LFT} {sd nm m w : Int} (hW : WM LF σ) (hn : inR nm) (hm : inR m) (h1 : inR w) : m_X9_drawn d [zR 9, zI sd, zI nm, zI m, zI w] σ (qI fun z σ' => z = dnG (σ 9 1) (σ 9 7) (pasM LF σ) (finM σ) (hurtM σ) sd nm m w ∧ KM σ σ') := by
  have w7 := hW.2.1
  have he := dm100 (t := nm)
  refine z_does (L := [some (zR 9), some (zI sd), some (zI nm), some (zI m), some (zI w), none, none, none, none, none, none, none]) rfl (by decide +kernel) (Nat.le_of_ble_eq_true rfl) rfl ?_
  refine z_iload_n dX9_drawn_0 rfl ?_
  refine z_if_lt (tgt := 48) dX9_drawn_1 (by decide) ⟨by omega, by omega⟩ (fun h1 => ?_) (fun h1 => ?_)
  · skip
    refine z_iconst dX9_drawn_48 ?_
    exact z_iret dX9_drawn_49 (⟨by unfold dnG; rw [if_pos (by omega)], frM.rf _ _ σ⟩)
  · skip
    have he := he (by omega)
    refine z_iload_n dX9_drawn_4 rfl ?_
    refine z_bipush (v := 100) dX9_drawn_5 (by decide +kernel) ?_
    refine z_idiv dX9_drawn_7 ⟨by omega, by omega⟩ ⟨by omega, by omega⟩ (by omega) ?_
    refine z_iconst dX9_drawn_8 ?_
    refine z_bipush (v := 30) dX9_drawn_9 (by decide +kernel) ?_
    refine z_callSI (d := d + 5) (av := [_, _, _]) dX9_drawn_11 sX9_143 rfl rfl (Nat.le_of_ble_eq_true rfl) (Nat.le_refl _) (c_X9_in (by omega) (by omega) (by omega)) (fun z11 σ11 h11 => ?_)
    obtain ⟨hs11, h11⟩ := h11
    subst σ11
    refine z_if_eq (tgt := 48) dX9_drawn_14 (by decide) ⟨by omega, by omega⟩ (fun h14 => ?_) (fun h14 => ?_)
    · skip
      refine z_iconst dX9_drawn_48 ?_
      exact z_iret dX9_drawn_49 (⟨by unfold dnG; rw [if_pos (by omega)], frM.rf _ _ σ⟩)
    · skip
      refine z_iload_n dX9_drawn_17 rfl ?_
      refine z_bipush (v := 100) dX9_drawn_18 (by decide +kernel) ?_
      refine z_irem dX9_drawn_20 ⟨by omega, by omega⟩ ⟨by omega, by omega⟩ (by omega) ?_
      refine z_iconst dX9_drawn_21 ?_
      refine z_bipush (v := 20) dX9_drawn_22 (by decide +kernel) ?_
      refine z_callSI (d := d + 5) (av := [_, _, _]) dX9_drawn_24 sX9_143 rfl rfl (Nat.le_of_ble_eq_true rfl) (Nat.le_refl _) (c_X9_in (by omega) (by omega) (by omega)) (fun z24 σ24 h24 => ?_)
      obtain ⟨hs24, h24⟩ := h24
      subst σ24
      refine z_if_eq (tgt := 48) dX9_drawn_27 (by decide) ⟨by omega, by omega⟩ (fun h27 => ?_) (fun h27 => ?_)
      · skip
        refine z_iconst dX9_drawn_48 ?_
        exact z_iret dX9_drawn_49 (⟨by unfold dnG; rw [if_pos (by omega)], frM.rf _ _ σ⟩)
      · skip
        refine z_aload_n dX9_drawn_30 rfl ?_
        refine z_iload_n dX9_drawn_31 rfl ?_
        refine z_callVI (d := d + 5) (av := [_]) dX9_drawn_32 vX9_180 rfl (Nat.le_of_ble_eq_true rfl) rfl rfl rfl (Nat.le_of_ble_eq_true rfl) (Nat.le_refl _) (c_X9_isMesh (by omega) (by omega)) (fun z32 σ32 h32 => ?_)
        obtain ⟨hs32, h32⟩ := h32
        subst σ32
        refine z_if_eq (tgt := 48) dX9_drawn_35 (by decide) ⟨by omega, by omega⟩ (fun h35 => ?_) (fun h35 => ?_)
        · skip
          refine z_iconst dX9_drawn_48 ?_
          exact z_iret dX9_drawn_49 (⟨by unfold dnG; rw [if_pos (by omega)], frM.rf _ _ σ⟩)
        · skip
          refine z_iload dX9_drawn_38 rfl ?_
          refine z_iconst dX9_drawn_40 ?_
          refine z_iconst dX9_drawn_41 ?_
          refine z_callSI (d := d + 5) (av := [_, _, _]) dX9_drawn_42 sX9_143 rfl rfl (Nat.le_of_ble_eq_true rfl) (Nat.le_refl _) (c_X9_in (by omega) (by omega) (by omega)) (fun z42 σ42 h42 => ?_)
          obtain ⟨hs42, h42⟩ := h42
          subst σ42
          refine z_if_ne (tgt := 50) dX9_drawn_45 (by decide) ⟨by omega, by omega⟩ (fun h45 => ?_) (fun h45 => ?_)
          · skip
            refine z_iload_n dX9_drawn_50 rfl ?_
            refine z_istore (L' := [_, _, _, _, _, _, _, _, _, _, _, _]) dX9_drawn_51 (Nat.le_of_ble_eq_true rfl) rfl rfl ?_
            refine z_iconst dX9_drawn_53 ?_
            refine z_istore (L' := [_, _, _, _, _, _, _, _, _, _, _, _]) dX9_drawn_54 (Nat.le_of_ble_eq_true rfl) rfl rfl ?_
            refine z_iconst dX9_drawn_56 ?_
            refine z_istore (L' := [_, _, _, _, _, _, _, _, _, _, _, _]) dX9_drawn_57 (Nat.le_of_ble_eq_true rfl) rfl rfl ?_
            refine z_iconst dX9_drawn_59 ?_
            refine z_istore (L' := [_, _, _, _, _, _, _, _, _, _, _, _]) dX9_drawn_60 (Nat.le_of_ble_eq_true rfl) rfl rfl ?_
            have h := l_X9_drawn1 (d := d) (sd := sd) (nm := nm) (me := m) (w := w) hW (by omega) rfl (by omega) hn rfl (by omega) (by omega) (nm.tdiv 100).toNat σ sd 0 0 0 (by omega) (by omega) (by omega) (frM.rf _ _ σ)
            refine h.mono ?_
            rintro r σ' ⟨z, q1, q2, q3⟩
            refine ⟨z, q1, ?_, q3⟩
            rw [q2]
            unfold dnG
            rw [if_neg (show ¬ (nm < 0 ∨ ¬ (0 ≤ m ∧ m < σ 9 7) ∨ w < 0 ∨ 1 < w ∨ nm.tdiv 100 < 1 ∨ 30 < nm.tdiv 100 ∨ nm.tmod 100 < 1 ∨ 20 < nm.tmod 100) by omega)]
            by_cases c1 : σ 9 1 < 1
            · rw [if_pos c1, if_pos c1, ite_self]
            · rw [if_neg c1, if_neg c1]
              by_cases c2 : w = 0
              · rw [if_pos c2, if_neg (by omega), Int.zero_add]
              · rw [if_neg c2, if_pos (by omega), Int.zero_add]
          · skip
            refine z_iconst dX9_drawn_48 ?_
            exact z_iret dX9_drawn_49 (⟨by unfold dnG; rw [if_pos (by omega)], frM.rf _ _ σ⟩)
