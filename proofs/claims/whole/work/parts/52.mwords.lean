/-! ===== The reference's words ===== -/
def w3M (R : Nat → Int) (l : Int) : Nat → Int → Int → Sto → Int × Sto
  | 0, _, c, σ => (c, σ)
  | k + 1, i, c, σ => if w3B R i l (σ 9 1) then w3M R l k (i + 3) (c + 1) (nwM σ (R i.toNat) (R (i + 1).toNat) (R (i + 2).toNat)) else (c, σ)
theorem nwM_ne {σ : Sto} {s h w : Int} {a : Nat} (h1 : a ≠ 9) (h2 : a ≠ 82) (h3 : a ≠ 83) (h4 : a ≠ 84) (h5 : a ≠ 85) (h6 : a ≠ 86) : nwM σ s h w a = σ a := by
  unfold nwM
  rw [z_put_ne h1, z_put_ne h6, z_put_ne h5, z_put_ne h4, z_put_ne h3, z_put_ne h2]
theorem nwM_1 {σ : Sto} {s h w : Int} : nwM σ s h w 9 1 = σ 9 1 + 1 := rfl
abbrev rwM (σ : Sto) (s : Int) : Nat → Int := fun j => σ 119 (60 * s + (j : Int)).toNat
theorem SM.nw {σ : Sto} {s h w : Int} (hS : SM σ) : SM (nwM σ s h w) := fun t u v => by
  rw [nwM_ne (by decide) (by decide) (by decide) (by decide) (by decide) (by decide), nwM_ne (by decide) (by decide) (by decide) (by decide) (by decide) (by decide), nwM_ne (by decide) (by decide) (by decide) (by decide) (by decide) (by decide)]
  exact hS t u v
set_option maxRecDepth 20000 in
set_option maxHeartbeats 1000000 in
theorem l_X9_words {d : Nat} {s fr n l : Int} {R : Nat → Int} (hs : 0 ≤ s ∧ s < 6) (hn : 1 ≤ n ∧ n ≤ 12) (hf : 0 ≤ fr ∧ fr ≤ 2147483647) :
    ∀ (k : Nat) (τ : Sto) (c : Int), SM τ → (0 ≤ τ 9 1 ∧ τ 9 1 ≤ 12) → τ 117 s.toNat = -2 → τ 118 s.toNat = l → rwM τ s = R → 0 ≤ c → c + k = n →
    Z (z_me cX9_words RX9 8 (some .int) (d + 2) (qI fun z σ' => z = (w3M R l k (fr + 3 * c) c τ).1 ∧ σ' = (w3M R l k (fr + 3 * c) c τ).2)) 58 [some (zR 9), some (zI s), some (zI fr), some (zI n), some (zI c), none, none, none] [] τ
  | 0, τ, c, hS, hw, h17, hl, hR, hc, hk => by
    obtain rfl : c = n := by omega
    refine z_iload dX9_words_58 rfl ?_
    refine z_iload_n dX9_words_60 rfl ?_
    refine z_icmp_ge (tgt := 217) dX9_words_61 (by decide) ⟨by omega, by omega⟩ ⟨by omega, by omega⟩ (fun h61 => ?_) (fun h61 => ?_)
    · skip
      refine z_iload_n dX9_words_217 rfl ?_
      exact z_iret dX9_words_218 ⟨rfl, rfl⟩
    · exfalso; omega
  | k + 1, τ, c, hS, hw, h17, hl, hR, hc, hk => by
    obtain ⟨-, q18, hb⟩ := hS s hs.1 hs.2
    have hb := hb h17
    have hb0 : fr + 3 * c < 60 → -128 ≤ τ 119 (60 * s + (fr + 3 * c)).toNat ∧ τ 119 (60 * s + (fr + 3 * c)).toNat ≤ 127 := fun q => hb (fr + 3 * c) (by omega) q
    have hb1 : fr + 3 * c + 1 < 60 → -128 ≤ τ 119 (60 * s + (fr + 3 * c) + 1).toNat ∧ τ 119 (60 * s + (fr + 3 * c) + 1).toNat ≤ 127 := fun q => by rw [show 60 * s + (fr + 3 * c) + 1 = 60 * s + (fr + 3 * c + 1) by omega]; exact hb (fr + 3 * c + 1) (by omega) q
    have hb2 : fr + 3 * c + 2 < 60 → -128 ≤ τ 119 (60 * s + (fr + 3 * c) + 2).toNat ∧ τ 119 (60 * s + (fr + 3 * c) + 2).toNat ≤ 127 := fun q => by rw [show 60 * s + (fr + 3 * c) + 2 = 60 * s + (fr + 3 * c + 2) by omega]; exact hb (fr + 3 * c + 2) (by omega) q
    have e0 : R (fr + 3 * c).toNat = τ 119 (60 * s + (fr + 3 * c)).toNat := by rw [← hR]; show τ 119 (60 * s + (((fr + 3 * c).toNat : Nat) : Int)).toNat = _; rw [show (((fr + 3 * c).toNat : Nat) : Int) = fr + 3 * c by omega]
    have e1 : R (fr + 3 * c + 1).toNat = τ 119 (60 * s + (fr + 3 * c) + 1).toNat := by rw [← hR]; show τ 119 (60 * s + (((fr + 3 * c + 1).toNat : Nat) : Int)).toNat = _; rw [show 60 * s + (((fr + 3 * c + 1).toNat : Nat) : Int) = 60 * s + (fr + 3 * c) + 1 by omega]
    have e2 : R (fr + 3 * c + 2).toNat = τ 119 (60 * s + (fr + 3 * c) + 2).toNat := by rw [← hR]; show τ 119 (60 * s + (((fr + 3 * c + 2).toNat : Nat) : Int)).toNat = _; rw [show 60 * s + (((fr + 3 * c + 2).toNat : Nat) : Int) = 60 * s + (fr + 3 * c) + 2 by omega]
    have hB : w3B R (fr + 3 * c) l (τ 9 1) = true ↔ (fr + 3 * c ≤ l - 3 ∧ (0 ≤ R (fr + 3 * c).toNat ∧ R (fr + 3 * c).toNat ≤ 9) ∧ (0 ≤ R (fr + 3 * c + 1).toNat ∧ R (fr + 3 * c + 1).toNat ≤ 9) ∧ (0 ≤ R (fr + 3 * c + 2).toNat ∧ R (fr + 3 * c + 2).toNat ≤ 9) ∧ τ 9 1 < 12) := by unfold w3B; rw [decide_eq_true_eq]
    refine z_iload dX9_words_58 rfl ?_
    refine z_iload_n dX9_words_60 rfl ?_
    refine z_icmp_ge (tgt := 217) dX9_words_61 (by decide) ⟨by omega, by omega⟩ ⟨by omega, by omega⟩ (fun h61 => ?_) (fun h61 => ?_)
    · exfalso; omega
    · skip
      refine z_iload_n dX9_words_64 rfl ?_
      refine z_i2l dX9_words_65 ⟨by omega, by omega⟩ ?_
      refine z_iconst dX9_words_66 ?_
      refine z_iload dX9_words_67 rfl ?_
      refine z_imul dX9_words_69 ?_
      refine z_i2l dX9_words_70 ⟨by omega, by omega⟩ ?_
      refine z_ladd dX9_words_71 ?_
      refine z_lstore (L' := [_, _, _, _, _, _, _, _]) dX9_words_72 (Nat.le_of_ble_eq_true rfl) rfl rfl ?_
      refine z_lload dX9_words_74 rfl ?_
      refine z_lconst (v := 0) dX9_words_76 (by decide +kernel) ?_
      refine z_lc_lt (tgt := 107) dX9_words_77 dX9_words_78 (by decide) ⟨by omega, by omega⟩ ⟨by omega, by omega⟩ (fun h77 => ?_) (fun h77 => ?_)
      · skip
        refine z_iload dX9_words_107 rfl ?_
        exact z_iret dX9_words_109 (by rw [w3M, if_neg (fun q => by have := hB.mp q; omega)]; exact ⟨rfl, rfl⟩)
      · skip
        refine z_lload dX9_words_81 rfl ?_
        refine z_ldc2 dX9_words_83 kX9_158 ?_
        refine z_ladd dX9_words_86 ?_
        refine z_aload_n dX9_words_87 rfl ?_
        refine z_getR dX9_words_88 gX9_128 rfl (Nat.le_of_ble_eq_true rfl) rfl ?_
        refine z_iload_n dX9_words_91 rfl ?_
        refine z_iald dX9_words_92 rfl (Nat.le_of_ble_eq_true rfl) (by omega) (fun hr92 => ?_)
        refine z_i2l dX9_words_93 ⟨by omega, by omega⟩ ?_
        refine z_lc_ge (tgt := 107) dX9_words_94 dX9_words_95 (by decide) ⟨by omega, by omega⟩ ⟨by omega, by omega⟩ (fun h94 => ?_) (fun h94 => ?_)
        · skip
          refine z_iload dX9_words_107 rfl ?_
          exact z_iret dX9_words_109 (by rw [w3M, if_neg (fun q => by have := hB.mp q; omega)]; exact ⟨rfl, rfl⟩)
        · skip
          refine z_aload_n dX9_words_98 rfl ?_
          refine z_getI dX9_words_99 gX9_140 rfl (Nat.le_of_ble_eq_true rfl) rfl (fun hr99 => ?_)
          refine z_bipush (v := 12) dX9_words_102 (by decide +kernel) ?_
          refine z_icmp_ne (tgt := 110) dX9_words_104 (by decide) ⟨by omega, by omega⟩ ⟨by omega, by omega⟩ (fun h104 => ?_) (fun h104 => ?_)
          · skip
            have hb0 := hb0 (by omega)
            have hb1 := hb1 (by omega)
            have hb2 := hb2 (by omega)
            refine z_bipush (v := 60) dX9_words_110 (by decide +kernel) ?_
            refine z_iload_n dX9_words_112 rfl ?_
            refine z_imul dX9_words_113 ?_
            refine z_lload dX9_words_114 rfl ?_
            refine z_l2i dX9_words_116 ?_
            refine z_iadd dX9_words_117 ?_
            refine z_istore (L' := [_, _, _, _, _, _, _, _]) dX9_words_118 (Nat.le_of_ble_eq_true rfl) rfl rfl ?_
            refine z_aload_n dX9_words_120 rfl ?_
            refine z_getR dX9_words_121 gX9_131 rfl (Nat.le_of_ble_eq_true rfl) rfl ?_
            refine z_iload dX9_words_124 rfl ?_
            refine z_lald dX9_words_126 rfl (Nat.le_of_ble_eq_true rfl) (by omega) (fun hr126 => ?_)
            refine z_l2i dX9_words_127 ?_
            refine z_iconst dX9_words_128 ?_
            refine z_bipush (v := 9) dX9_words_129 (by decide +kernel) ?_
            refine z_callSI (d := d + 1) (av := [_, _, _]) dX9_words_131 sX9_143 rfl rfl (Nat.le_of_ble_eq_true rfl) (Nat.le_refl _) (c_X9_in (by omega) (by omega) (by omega)) (fun z131 σ131 h131 => ?_)
            obtain ⟨hs131, h131⟩ := h131
            subst σ131
            refine z_if_eq (tgt := 175) dX9_words_134 (by decide) ⟨by omega, by omega⟩ (fun h134 => ?_) (fun h134 => ?_)
            · skip
              refine z_iload dX9_words_175 rfl ?_
              exact z_iret dX9_words_177 (by rw [w3M, if_neg (fun q => by have := hB.mp q; omega)]; exact ⟨rfl, rfl⟩)
            · skip
              refine z_aload_n dX9_words_137 rfl ?_
              refine z_getR dX9_words_138 gX9_131 rfl (Nat.le_of_ble_eq_true rfl) rfl ?_
              refine z_iload dX9_words_141 rfl ?_
              refine z_iconst dX9_words_143 ?_
              refine z_iadd dX9_words_144 ?_
              refine z_lald dX9_words_145 rfl (Nat.le_of_ble_eq_true rfl) (by omega) (fun hr145 => ?_)
              refine z_l2i dX9_words_146 ?_
              refine z_iconst dX9_words_147 ?_
              refine z_bipush (v := 9) dX9_words_148 (by decide +kernel) ?_
              refine z_callSI (d := d + 1) (av := [_, _, _]) dX9_words_150 sX9_143 rfl rfl (Nat.le_of_ble_eq_true rfl) (Nat.le_refl _) (c_X9_in (by omega) (by omega) (by omega)) (fun z150 σ150 h150 => ?_)
              obtain ⟨hs150, h150⟩ := h150
              subst σ150
              refine z_if_eq (tgt := 175) dX9_words_153 (by decide) ⟨by omega, by omega⟩ (fun h153 => ?_) (fun h153 => ?_)
              · skip
                refine z_iload dX9_words_175 rfl ?_
                exact z_iret dX9_words_177 (by rw [w3M, if_neg (fun q => by have := hB.mp q; omega)]; exact ⟨rfl, rfl⟩)
              · skip
                refine z_aload_n dX9_words_156 rfl ?_
                refine z_getR dX9_words_157 gX9_131 rfl (Nat.le_of_ble_eq_true rfl) rfl ?_
                refine z_iload dX9_words_160 rfl ?_
                refine z_iconst dX9_words_162 ?_
                refine z_iadd dX9_words_163 ?_
                refine z_lald dX9_words_164 rfl (Nat.le_of_ble_eq_true rfl) (by omega) (fun hr164 => ?_)
                refine z_l2i dX9_words_165 ?_
                refine z_iconst dX9_words_166 ?_
                refine z_bipush (v := 9) dX9_words_167 (by decide +kernel) ?_
                refine z_callSI (d := d + 1) (av := [_, _, _]) dX9_words_169 sX9_143 rfl rfl (Nat.le_of_ble_eq_true rfl) (Nat.le_refl _) (c_X9_in (by omega) (by omega) (by omega)) (fun z169 σ169 h169 => ?_)
                obtain ⟨hs169, h169⟩ := h169
                subst σ169
                refine z_if_ne (tgt := 178) dX9_words_172 (by decide) ⟨by omega, by omega⟩ (fun h172 => ?_) (fun h172 => ?_)
                · skip
                  refine z_aload_n dX9_words_178 rfl ?_
                  refine z_aload_n dX9_words_179 rfl ?_
                  refine z_getR dX9_words_180 gX9_131 rfl (Nat.le_of_ble_eq_true rfl) rfl ?_
                  refine z_iload dX9_words_183 rfl ?_
                  refine z_lald dX9_words_185 rfl (Nat.le_of_ble_eq_true rfl) (by omega) (fun hr185 => ?_)
                  refine z_l2i dX9_words_186 ?_
                  refine z_aload_n dX9_words_187 rfl ?_
                  refine z_getR dX9_words_188 gX9_131 rfl (Nat.le_of_ble_eq_true rfl) rfl ?_
                  refine z_iload dX9_words_191 rfl ?_
                  refine z_iconst dX9_words_193 ?_
                  refine z_iadd dX9_words_194 ?_
                  refine z_lald dX9_words_195 rfl (Nat.le_of_ble_eq_true rfl) (by omega) (fun hr195 => ?_)
                  refine z_l2i dX9_words_196 ?_
                  refine z_aload_n dX9_words_197 rfl ?_
                  refine z_getR dX9_words_198 gX9_131 rfl (Nat.le_of_ble_eq_true rfl) rfl ?_
                  refine z_iload dX9_words_201 rfl ?_
                  refine z_iconst dX9_words_203 ?_
                  refine z_iadd dX9_words_204 ?_
                  refine z_lald dX9_words_205 rfl (Nat.le_of_ble_eq_true rfl) (by omega) (fun hr205 => ?_)
                  refine z_l2i dX9_words_206 ?_
                  refine z_callVI (d := d + 1) (av := [_, _, _]) dX9_words_207 vX9_150 rfl (Nat.le_of_ble_eq_true rfl) rfl rfl rfl (Nat.le_of_ble_eq_true rfl) (Nat.le_refl _) (c_X9_addWord (by omega) (by omega) (by omega) (by omega)) (fun z207 σ207 h207 => ?_)
                  obtain ⟨rfl, hs207⟩ := h207
                  subst σ207
                  refine z_pop dX9_words_210 rfl ?_
                  refine z_iinc (L' := [_, _, _, _, _, _, _, _]) dX9_words_211 (Nat.le_of_ble_eq_true rfl) rfl rfl rfl ?_
                  refine z_goto (tgt := 58) dX9_words_214 (by decide) ?_
                  rw [w3M, if_pos (hB.mpr (by omega)), e0, e1, e2, show fr + 3 * c + 3 = fr + 3 * (c + 1) by omega]
                  refine z_forget [true, true, true, true, true, false, false, false] (L' := [_, _, _, _, _, _, _, _]) rfl ?_
                  exact l_X9_words hs hn hf k _ (c + 1) hS.nw (by rw [nwM_1]; omega) (by rw [nwM_ne (by decide) (by decide) (by decide) (by decide) (by decide) (by decide)]; exact h17) (by rw [nwM_ne (by decide) (by decide) (by decide) (by decide) (by decide) (by decide)]; exact hl) (by rw [← hR]; unfold rwM; rw [nwM_ne (by decide) (by decide) (by decide) (by decide) (by decide) (by decide)]) (by omega) (by omega)
                · skip
                  refine z_iload dX9_words_175 rfl ?_
                  exact z_iret dX9_words_177 (by rw [w3M, if_neg (fun q => by have := hB.mp q; omega)]; exact ⟨rfl, rfl⟩)
          · skip
            refine z_iload dX9_words_107 rfl ?_
            exact z_iret dX9_words_109 (by rw [w3M, if_neg (fun q => by have := hB.mp q; omega)]; exact ⟨rfl, rfl⟩)
set_option maxRecDepth 20000 in
theorem l_X9_words0 {d : Nat} {s fr n : Int} (hn : 1 ≤ n ∧ n ≤ 12) (hf : -2147483648 ≤ fr ∧ fr < 0) {τ : Sto} : 
    Z (z_me cX9_words RX9 8 (some .int) (d + 2) (qI fun z σ' => z = 0 ∧ σ' = τ)) 58 [some (zR 9), some (zI s), some (zI fr), some (zI n), some (zI 0), none, none, none] [] τ := by
  refine z_iload dX9_words_58 rfl ?_
  refine z_iload_n dX9_words_60 rfl ?_
  refine z_icmp_ge (tgt := 217) dX9_words_61 (by decide) ⟨by omega, by omega⟩ ⟨by omega, by omega⟩ (fun h61 => ?_) (fun h61 => ?_)
  · exfalso; omega
  · skip
    refine z_iload_n dX9_words_64 rfl ?_
    refine z_i2l dX9_words_65 ⟨by omega, by omega⟩ ?_
    refine z_iconst dX9_words_66 ?_
    refine z_iload dX9_words_67 rfl ?_
    refine z_imul dX9_words_69 ?_
    refine z_i2l dX9_words_70 ⟨by omega, by omega⟩ ?_
    refine z_ladd dX9_words_71 ?_
    refine z_lstore (L' := [_, _, _, _, _, _, _, _]) dX9_words_72 (Nat.le_of_ble_eq_true rfl) rfl rfl ?_
    refine z_lload dX9_words_74 rfl ?_
    refine z_lconst (v := 0) dX9_words_76 (by decide +kernel) ?_
    refine z_lc_lt (tgt := 107) dX9_words_77 dX9_words_78 (by decide) ⟨by omega, by omega⟩ ⟨by omega, by omega⟩ (fun h77 => ?_) (fun h77 => ?_)
    · skip
      refine z_iload dX9_words_107 rfl ?_
      exact z_iret dX9_words_109 ⟨rfl, rfl⟩
    · exfalso; omega
def wdM (h len : Int) (R : Nat → Int) (sh : Bool) (fr n : Int) (σ : Sto) : Int × Sto :=
  if sh = false ∨ n < 1 ∨ 12 < n then (-1, σ) else if h ≠ -2 ∧ h ≠ -1 then (-12, σ) else if h = -1 ∨ fr < 0 then (0, σ) else w3M R len n.toNat fr 0 σ
set_option maxRecDepth 20000 in
theorem c_X9_words {d : Nat} {σ : Sto} {s fr n : Int} (hS : SM σ) (hc : 0 ≤ σ 9 1 ∧ σ 9 1 ≤ 12) (hs : inR s) (hf : inR fr) (hn : inR n) : m_X9_words d [zR 9, zI s, zI fr, zI n] σ (qI fun z σ' => z = (wdM (σ 117 s.toNat) (σ 118 s.toNat) (rwM σ s) (decide (0 ≤ s ∧ s < 6)) fr n σ).1 ∧ σ' = (wdM (σ 117 s.toNat) (σ 118 s.toNat) (rwM σ s) (decide (0 ≤ s ∧ s < 6)) fr n σ).2) := by
  refine z_does (L := [some (zR 9), some (zI s), some (zI fr), some (zI n), none, none, none, none]) rfl (by decide +kernel) (Nat.le_of_ble_eq_true rfl) rfl ?_
  refine z_iload_n dX9_words_0 rfl ?_
  refine z_callSI (d := d + 1) (av := [_]) dX9_words_1 sX9_154 rfl rfl (Nat.le_of_ble_eq_true rfl) (Nat.le_refl _) (c_X9_isShelf (by omega)) (fun z1 σ1 h1 => ?_)
  obtain ⟨hs1, h1⟩ := h1
  subst σ1
  refine z_if_eq (tgt := 17) dX9_words_4 (by decide) ⟨by omega, by omega⟩ (fun h4 => ?_) (fun h4 => ?_)
  · skip
    refine z_iconst dX9_words_17 ?_
    exact z_iret dX9_words_18 (by
      have e : wdM (σ 117 s.toNat) (σ 118 s.toNat) (rwM σ s) (decide (0 ≤ s ∧ s < 6)) fr n σ = (-1, σ) := by unfold wdM; rw [if_pos (by rw [decide_eq_false_iff_not]; omega)]
      rw [e]; exact ⟨rfl, rfl⟩)
  · skip
    refine z_iload_n dX9_words_7 rfl ?_
    refine z_iconst dX9_words_8 ?_
    refine z_bipush (v := 12) dX9_words_9 (by decide +kernel) ?_
    refine z_callSI (d := d + 1) (av := [_, _, _]) dX9_words_11 sX9_143 rfl rfl (Nat.le_of_ble_eq_true rfl) (Nat.le_refl _) (c_X9_in (by omega) (by omega) (by omega)) (fun z11 σ11 h11 => ?_)
    obtain ⟨hs11, h11⟩ := h11
    subst σ11
    refine z_if_ne (tgt := 19) dX9_words_14 (by decide) ⟨by omega, by omega⟩ (fun h14 => ?_) (fun h14 => ?_)
    · skip
      have hs6 : 0 ≤ s ∧ s < 6 := by omega
      obtain ⟨qa, qb, -⟩ := hS s hs6.1 hs6.2
      have hd : ¬ (decide (0 ≤ s ∧ s < 6) = false ∨ n < 1 ∨ 12 < n) := by rw [decide_eq_false_iff_not]; omega
      refine z_aload_n dX9_words_19 rfl ?_
      refine z_getR dX9_words_20 gX9_125 rfl (Nat.le_of_ble_eq_true rfl) rfl ?_
      refine z_iload_n dX9_words_23 rfl ?_
      refine z_iald dX9_words_24 rfl (Nat.le_of_ble_eq_true rfl) (by omega) (fun hr24 => ?_)
      refine z_iconst dX9_words_25 ?_
      refine z_icmp_eq (tgt := 43) dX9_words_26 (by decide) ⟨by omega, by omega⟩ ⟨by omega, by omega⟩ (fun h26 => ?_) (fun h26 => ?_)
      · skip
        refine z_aload_n dX9_words_43 rfl ?_
        refine z_getR dX9_words_44 gX9_125 rfl (Nat.le_of_ble_eq_true rfl) rfl ?_
        refine z_iload_n dX9_words_47 rfl ?_
        refine z_iald dX9_words_48 rfl (Nat.le_of_ble_eq_true rfl) (by omega) (fun hr48 => ?_)
        refine z_iconst dX9_words_49 ?_
        refine z_icmp_ne (tgt := 55) dX9_words_50 (by decide) ⟨by omega, by omega⟩ ⟨by omega, by omega⟩ (fun h50 => ?_) (fun h50 => ?_)
        · skip
          refine z_iconst dX9_words_55 ?_
          refine z_istore (L' := [_, _, _, _, _, _, _, _]) dX9_words_56 (Nat.le_of_ble_eq_true rfl) rfl rfl ?_
          by_cases hf0 : fr < 0
          · have e : wdM (σ 117 s.toNat) (σ 118 s.toNat) (rwM σ s) (decide (0 ≤ s ∧ s < 6)) fr n σ = (0, σ) := by unfold wdM; rw [if_neg hd, if_neg (by omega), if_pos (by omega)]
            rw [e]
            exact l_X9_words0 (by omega) (by omega)
          · have h := l_X9_words (d := d) (s := s) (fr := fr) (n := n) (l := σ 118 s.toNat) (R := rwM σ s) hs6 (by omega) (by omega) n.toNat σ 0 hS hc (by omega) rfl rfl (by omega) (by omega)
            have e : wdM (σ 117 s.toNat) (σ 118 s.toNat) (rwM σ s) (decide (0 ≤ s ∧ s < 6)) fr n σ = w3M (rwM σ s) (σ 118 s.toNat) n.toNat fr 0 σ := by unfold wdM; rw [if_neg hd, if_neg (by omega), if_neg (by omega)]
            rw [e]
            rw [show fr + 3 * 0 = fr by omega] at h
            exact h
        · skip
          refine z_iconst dX9_words_53 ?_
          exact z_iret dX9_words_54 (by
            have e : wdM (σ 117 s.toNat) (σ 118 s.toNat) (rwM σ s) (decide (0 ≤ s ∧ s < 6)) fr n σ = (0, σ) := by unfold wdM; rw [if_neg hd, if_neg (by omega), if_pos (by omega)]
            rw [e]; exact ⟨rfl, rfl⟩)
      · skip
        refine z_aload_n dX9_words_29 rfl ?_
        refine z_getR dX9_words_30 gX9_125 rfl (Nat.le_of_ble_eq_true rfl) rfl ?_
        refine z_iload_n dX9_words_33 rfl ?_
        refine z_iald dX9_words_34 rfl (Nat.le_of_ble_eq_true rfl) (by omega) (fun hr34 => ?_)
        refine z_bipush (v := -2) dX9_words_35 (by decide +kernel) ?_
        refine z_icmp_eq (tgt := 43) dX9_words_37 (by decide) ⟨by omega, by omega⟩ ⟨by omega, by omega⟩ (fun h37 => ?_) (fun h37 => ?_)
        · skip
          refine z_aload_n dX9_words_43 rfl ?_
          refine z_getR dX9_words_44 gX9_125 rfl (Nat.le_of_ble_eq_true rfl) rfl ?_
          refine z_iload_n dX9_words_47 rfl ?_
          refine z_iald dX9_words_48 rfl (Nat.le_of_ble_eq_true rfl) (by omega) (fun hr48 => ?_)
          refine z_iconst dX9_words_49 ?_
          refine z_icmp_ne (tgt := 55) dX9_words_50 (by decide) ⟨by omega, by omega⟩ ⟨by omega, by omega⟩ (fun h50 => ?_) (fun h50 => ?_)
          · skip
            refine z_iconst dX9_words_55 ?_
            refine z_istore (L' := [_, _, _, _, _, _, _, _]) dX9_words_56 (Nat.le_of_ble_eq_true rfl) rfl rfl ?_
            by_cases hf0 : fr < 0
            · have e : wdM (σ 117 s.toNat) (σ 118 s.toNat) (rwM σ s) (decide (0 ≤ s ∧ s < 6)) fr n σ = (0, σ) := by unfold wdM; rw [if_neg hd, if_neg (by omega), if_pos (by omega)]
              rw [e]
              exact l_X9_words0 (by omega) (by omega)
            · have h := l_X9_words (d := d) (s := s) (fr := fr) (n := n) (l := σ 118 s.toNat) (R := rwM σ s) hs6 (by omega) (by omega) n.toNat σ 0 hS hc (by omega) rfl rfl (by omega) (by omega)
              have e : wdM (σ 117 s.toNat) (σ 118 s.toNat) (rwM σ s) (decide (0 ≤ s ∧ s < 6)) fr n σ = w3M (rwM σ s) (σ 118 s.toNat) n.toNat fr 0 σ := by unfold wdM; rw [if_neg hd, if_neg (by omega), if_neg (by omega)]
              rw [e]
              rw [show fr + 3 * 0 = fr by omega] at h
              exact h
          · skip
            refine z_iconst dX9_words_53 ?_
            exact z_iret dX9_words_54 (by
              have e : wdM (σ 117 s.toNat) (σ 118 s.toNat) (rwM σ s) (decide (0 ≤ s ∧ s < 6)) fr n σ = (0, σ) := by unfold wdM; rw [if_neg hd, if_neg (by omega), if_pos (by omega)]
              rw [e]; exact ⟨rfl, rfl⟩)
        · skip
          refine z_bipush (v := -12) dX9_words_40 (by decide +kernel) ?_
          exact z_iret dX9_words_42 (by
            have e : wdM (σ 117 s.toNat) (σ 118 s.toNat) (rwM σ s) (decide (0 ≤ s ∧ s < 6)) fr n σ = (-12, σ) := by unfold wdM; rw [if_neg hd, if_pos (by omega)]
            rw [e]; exact ⟨rfl, rfl⟩)
    · skip
      refine z_iconst dX9_words_17 ?_
      exact z_iret dX9_words_18 (by
        have e : wdM (σ 117 s.toNat) (σ 118 s.toNat) (rwM σ s) (decide (0 ≤ s ∧ s < 6)) fr n σ = (-1, σ) := by unfold wdM; rw [if_pos (by rw [decide_eq_false_iff_not]; omega)]
        rw [e]; exact ⟨rfl, rfl⟩)
