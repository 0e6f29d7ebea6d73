/-! ===== The reference: shift, taken, words ===== -/
def sfA (σ : Sto) (lo i : Int) : Sto := fun a b => if a = 120 ∧ (b : Int) < i then σ 119 (lo + b).toNat else σ a b
def sfB (σ : Sto) (lo i : Int) : Sto := fun a b => if a = 119 ∧ lo ≤ (b : Int) ∧ (b : Int) < lo + i then σ 120 ((b : Int) - lo).toNat else σ a b
theorem sfA_rd (σ : Sto) (lo i : Int) (a b : Nat) : sfA σ lo i a b = if a = 120 ∧ (b : Int) < i then σ 119 (lo + b).toNat else σ a b := rfl
theorem sfB_rd (σ : Sto) (lo i : Int) (a b : Nat) : sfB σ lo i a b = if a = 119 ∧ lo ≤ (b : Int) ∧ (b : Int) < lo + i then σ 120 ((b : Int) - lo).toNat else σ a b := rfl
theorem sf_0 (σ : Sto) (lo : Int) : sfA σ lo 0 = σ ∧ sfB σ lo 0 = σ := by
  constructor <;> funext a b
  · rw [sfA_rd, if_neg (by omega)]
  · rw [sfB_rd, if_neg (by omega)]
theorem sfA_s {σ : Sto} {lo i : Int} (hi : 0 ≤ i) : z_put (sfA σ lo i) 120 i.toNat (sfA σ lo i 119 (lo + i).toNat) = sfA σ lo (i + 1) := by
  funext a b
  simp only [z_rd, sfA_rd]
  by_cases ha : a = 120
  · by_cases hb : b = i.toNat
    · subst ha hb
      rw [if_pos rfl, if_pos rfl, if_neg (by omega), if_pos (by omega), show ((i.toNat : Nat) : Int) = i by omega]
    · subst ha
      rw [if_pos rfl, if_neg hb]
      by_cases hc : (b : Int) < i
      · rw [if_pos ⟨rfl, hc⟩, if_pos ⟨rfl, by omega⟩]
      · rw [if_neg (by omega), if_neg (by omega)]
  · rw [if_neg ha, if_neg (by omega), if_neg (by omega)]
theorem sfB_s {σ : Sto} {lo i : Int} (h0 : 0 ≤ lo) (hi : 0 ≤ i) : z_put (sfB σ lo i) 119 (lo + i).toNat (sfB σ lo i 120 i.toNat) = sfB σ lo (i + 1) := by
  funext a b
  simp only [z_rd, sfB_rd]
  by_cases ha : a = 119
  · by_cases hb : b = (lo + i).toNat
    · subst ha hb
      rw [if_pos rfl, if_pos rfl, if_neg (by omega), if_pos (by omega), show ((((lo + i).toNat : Nat) : Int) - lo).toNat = i.toNat by omega]
    · subst ha
      rw [if_pos rfl, if_neg hb]
      by_cases hc : lo ≤ (b : Int) ∧ (b : Int) < lo + i
      · rw [if_pos ⟨rfl, hc⟩, if_pos ⟨rfl, by omega⟩]
      · rw [if_neg (by omega), if_neg (by omega)]
  · rw [if_neg ha, if_neg (by omega), if_neg (by omega)]
set_option maxRecDepth 20000 in
theorem l_X9_shift2 {d : Nat} {τ : Sto} {s fr o to n : Int} (hn : 0 ≤ n ∧ n ≤ 60) (h2 : 0 ≤ 60 * o + to ∧ 60 * o + to + n ≤ 360 ∧ (0 ≤ to ∧ to ≤ 60) ∧ (0 ≤ o ∧ o < 6)) (i : Int) (hi : 0 ≤ i ∧ i ≤ n) : Z (z_me cX9_shift RX9 7 (some .int) (d + 2) (qI fun z σ' => z = n ∧ σ' = sfB τ (60 * o + to) n)) 150 [some (zR 9), some (zI s), some (zI fr), some (zI o), some (zI to), some (zI n), some (zI i)] [] (sfB τ (60 * o + to) i) := by
  refine z_iload dX9_shift_150 rfl ?_
  refine z_iload dX9_shift_152 rfl ?_
  refine z_icmp_ge (tgt := 185) dX9_shift_154 (by decide) ⟨by omega, by omega⟩ ⟨by omega, by omega⟩ (fun h154 => ?_) (fun h154 => ?_)
  · first
    | exfalso; omega
    | skip
      refine z_iload dX9_shift_185 rfl ?_
      exact z_iret dX9_shift_187 ⟨rfl, by rw [show i = n by omega]⟩
  · first
    | exfalso; omega
    | skip
      refine z_aload_n dX9_shift_157 rfl ?_
      refine z_getR dX9_shift_158 gX9_131 rfl (Nat.le_of_ble_eq_true rfl) rfl ?_
      refine z_bipush (v := 60) dX9_shift_161 (by decide +kernel) ?_
      refine z_iload_n dX9_shift_163 rfl ?_
      refine z_imul dX9_shift_164 ?_
      refine z_iload dX9_shift_165 rfl ?_
      refine z_iadd dX9_shift_167 ?_
      refine z_iload dX9_shift_168 rfl ?_
      refine z_iadd dX9_shift_170 ?_
      refine z_aload_n dX9_shift_171 rfl ?_
      refine z_getR dX9_shift_172 gX9_134 rfl (Nat.le_of_ble_eq_true rfl) rfl ?_
      refine z_iload dX9_shift_175 rfl ?_
      refine z_lald dX9_shift_177 rfl (Nat.le_of_ble_eq_true rfl) (by omega) (fun hr177 => ?_)
      refine z_last dX9_shift_178 rfl (Nat.le_of_ble_eq_true rfl) (by omega) ⟨by omega, by omega⟩ ?_
      rw [sfB_s (by omega) hi.1]
      refine z_iinc (L' := [_, _, _, _, _, _, _]) dX9_shift_179 (Nat.le_of_ble_eq_true rfl) rfl rfl rfl ?_
      refine z_goto (tgt := 150) dX9_shift_182 (by decide) ?_
      exact l_X9_shift2 hn h2 (i + 1) (by omega)
termination_by (n - i).toNat
decreasing_by omega
set_option maxRecDepth 20000 in
theorem l_X9_shift {d : Nat} {τ : Sto} {s fr o to n : Int} (hn : 0 ≤ n ∧ n ≤ 60) (h1 : 0 ≤ 60 * s + fr ∧ 60 * s + fr + n ≤ 360 ∧ (0 ≤ fr ∧ fr ≤ 60) ∧ (0 ≤ s ∧ s < 6)) (h2 : 0 ≤ 60 * o + to ∧ 60 * o + to + n ≤ 360 ∧ (0 ≤ to ∧ to ≤ 60) ∧ (0 ≤ o ∧ o < 6)) (i : Int) (hi : 0 ≤ i ∧ i ≤ n) : Z (z_me cX9_shift RX9 7 (some .int) (d + 2) (qI fun z σ' => z = n ∧ σ' = sfB (sfA τ (60 * s + fr) n) (60 * o + to) n)) 113 [some (zR 9), some (zI s), some (zI fr), some (zI o), some (zI to), some (zI n), some (zI i)] [] (sfA τ (60 * s + fr) i) := by
  refine z_iload dX9_shift_113 rfl ?_
  refine z_iload dX9_shift_115 rfl ?_
  refine z_icmp_ge (tgt := 147) dX9_shift_117 (by decide) ⟨by omega, by omega⟩ ⟨by omega, by omega⟩ (fun h117 => ?_) (fun h117 => ?_)
  · first
    | exfalso; omega
    | skip
      refine z_iconst dX9_shift_147 ?_
      refine z_istore (L' := [_, _, _, _, _, _, _]) dX9_shift_148 (Nat.le_of_ble_eq_true rfl) rfl rfl ?_
      obtain rfl : i = n := by omega
      have h := l_X9_shift2 (d := d) (τ := sfA τ (60 * s + fr) i) (s := s) (fr := fr) hn h2 0 (by omega)
      rw [(sf_0 _ _).2] at h
      exact h
  · first
    | exfalso; omega
    | skip
      refine z_aload_n dX9_shift_120 rfl ?_
      refine z_getR dX9_shift_121 gX9_134 rfl (Nat.le_of_ble_eq_true rfl) rfl ?_
      refine z_iload dX9_shift_124 rfl ?_
      refine z_aload_n dX9_shift_126 rfl ?_
      refine z_getR dX9_shift_127 gX9_131 rfl (Nat.le_of_ble_eq_true rfl) rfl ?_
      refine z_bipush (v := 60) dX9_shift_130 (by decide +kernel) ?_
      refine z_iload_n dX9_shift_132 rfl ?_
      refine z_imul dX9_shift_133 ?_
      refine z_iload_n dX9_shift_134 rfl ?_
      refine z_iadd dX9_shift_135 ?_
      refine z_iload dX9_shift_136 rfl ?_
      refine z_iadd dX9_shift_138 ?_
      refine z_lald dX9_shift_139 rfl (Nat.le_of_ble_eq_true rfl) (by omega) (fun hr139 => ?_)
      refine z_last dX9_shift_140 rfl (Nat.le_of_ble_eq_true rfl) (by omega) ⟨by omega, by omega⟩ ?_
      rw [sfA_s hi.1]
      refine z_iinc (L' := [_, _, _, _, _, _, _]) dX9_shift_141 (Nat.le_of_ble_eq_true rfl) rfl rfl rfl ?_
      refine z_goto (tgt := 113) dX9_shift_144 (by decide) ?_
      exact l_X9_shift hn h1 h2 (i + 1) (by omega)
termination_by (n - i).toNat
decreasing_by omega
def shM (σ : Sto) (s fr o to n : Int) : Int :=
  if ¬ (0 ≤ s ∧ s < 6) ∨ ¬ (0 ≤ o ∧ o < 6) then -1 else if σ 117 s.toNat = -1 ∨ σ 117 o.toNat = -1 then -11 else if 0 ≤ σ 117 s.toNat ∨ σ 117 s.toNat ≠ σ 117 o.toNat then -12
  else if (0 ≤ fr ∧ 0 ≤ n ∧ n ≤ σ 118 s.toNat ∧ fr ≤ σ 118 s.toNat - n) ∧ (0 ≤ to ∧ 0 ≤ n ∧ n ≤ σ 118 o.toNat ∧ to ≤ σ 118 o.toNat - n) then 0 else -13
set_option maxRecDepth 20000 in
theorem c_X9_shift {d : Nat} {σ : Sto} {s fr o to n : Int} (hS : SM σ) (hs : inR s) (hf : inR fr) (ho : inR o) (ht : inR to) (hn : inR n) : m_X9_shift d [zR 9, zI s, zI fr, zI o, zI to, zI n] σ (qI fun z σ' => (shM σ s fr o to n ≠ 0 ∧ z = shM σ s fr o to n ∧ σ' = σ) ∨ (shM σ s fr o to n = 0 ∧ z = n ∧ σ' = sfB (sfA σ (60 * s + fr) n) (60 * o + to) n)) := by
  refine z_does (L := [some (zR 9), some (zI s), some (zI fr), some (zI o), some (zI to), some (zI n), none]) rfl (by decide +kernel) (Nat.le_of_ble_eq_true rfl) rfl ?_
  refine z_iload_n dX9_shift_0 rfl ?_
  refine z_callSI (d := d + 1) (av := [_]) dX9_shift_1 sX9_154 rfl rfl (Nat.le_of_ble_eq_true rfl) (Nat.le_refl _) (c_X9_isShelf (by omega)) (fun z1 σ1 h1 => ?_)
  obtain ⟨hs1, h1⟩ := h1
  subst σ1
  refine z_if_eq (tgt := 14) dX9_shift_4 (by decide) ⟨by omega, by omega⟩ (fun h4 => ?_) (fun h4 => ?_)
  · skip
    refine z_iconst dX9_shift_14 ?_
    exact z_iret dX9_shift_15 (by
      have e : shM σ s fr o to n = -1 := by unfold shM; rw [if_pos (by omega)]
      exact Or.inl ⟨by omega, e.symm, rfl⟩)
  · skip
    refine z_iload_n dX9_shift_7 rfl ?_
    refine z_callSI (d := d + 1) (av := [_]) dX9_shift_8 sX9_154 rfl rfl (Nat.le_of_ble_eq_true rfl) (Nat.le_refl _) (c_X9_isShelf (by omega)) (fun z8 σ8 h8 => ?_)
    obtain ⟨hs8, h8⟩ := h8
    subst σ8
    refine z_if_ne (tgt := 16) dX9_shift_11 (by decide) ⟨by omega, by omega⟩ (fun h11 => ?_) (fun h11 => ?_)
    · skip
      obtain ⟨a1, a2, -⟩ := hS s (by omega) (by omega)
      obtain ⟨b1, b2, -⟩ := hS o (by omega) (by omega)
      refine z_aload_n dX9_shift_16 rfl ?_
      refine z_getR dX9_shift_17 gX9_125 rfl (Nat.le_of_ble_eq_true rfl) rfl ?_
      refine z_iload_n dX9_shift_20 rfl ?_
      refine z_iald dX9_shift_21 rfl (Nat.le_of_ble_eq_true rfl) (by omega) (fun hr21 => ?_)
      refine z_iconst dX9_shift_22 ?_
      refine z_icmp_eq (tgt := 36) dX9_shift_23 (by decide) ⟨by omega, by omega⟩ ⟨by omega, by omega⟩ (fun h23 => ?_) (fun h23 => ?_)
      · skip
        refine z_bipush (v := -11) dX9_shift_36 (by decide +kernel) ?_
        exact z_iret dX9_shift_38 (by
          have e : shM σ s fr o to n = -11 := by unfold shM; rw [if_neg (by omega), if_pos (by omega)]
          exact Or.inl ⟨by omega, e.symm, rfl⟩)
      · skip
        refine z_aload_n dX9_shift_26 rfl ?_
        refine z_getR dX9_shift_27 gX9_125 rfl (Nat.le_of_ble_eq_true rfl) rfl ?_
        refine z_iload_n dX9_shift_30 rfl ?_
        refine z_iald dX9_shift_31 rfl (Nat.le_of_ble_eq_true rfl) (by omega) (fun hr31 => ?_)
        refine z_iconst dX9_shift_32 ?_
        refine z_icmp_ne (tgt := 39) dX9_shift_33 (by decide) ⟨by omega, by omega⟩ ⟨by omega, by omega⟩ (fun h33 => ?_) (fun h33 => ?_)
        · skip
          refine z_aload_n dX9_shift_39 rfl ?_
          refine z_getR dX9_shift_40 gX9_125 rfl (Nat.le_of_ble_eq_true rfl) rfl ?_
          refine z_iload_n dX9_shift_43 rfl ?_
          refine z_iald dX9_shift_44 rfl (Nat.le_of_ble_eq_true rfl) (by omega) (fun hr44 => ?_)
          refine z_if_ge (tgt := 63) dX9_shift_45 (by decide) ⟨by omega, by omega⟩ (fun h45 => ?_) (fun h45 => ?_)
          · skip
            refine z_bipush (v := -12) dX9_shift_63 (by decide +kernel) ?_
            exact z_iret dX9_shift_65 (by
              have e : shM σ s fr o to n = -12 := by unfold shM; rw [if_neg (by omega), if_neg (by omega), if_pos (by omega)]
              exact Or.inl ⟨by omega, e.symm, rfl⟩)
          · skip
            refine z_aload_n dX9_shift_48 rfl ?_
            refine z_getR dX9_shift_49 gX9_125 rfl (Nat.le_of_ble_eq_true rfl) rfl ?_
            refine z_iload_n dX9_shift_52 rfl ?_
            refine z_iald dX9_shift_53 rfl (Nat.le_of_ble_eq_true rfl) (by omega) (fun hr53 => ?_)
            refine z_aload_n dX9_shift_54 rfl ?_
            refine z_getR dX9_shift_55 gX9_125 rfl (Nat.le_of_ble_eq_true rfl) rfl ?_
            refine z_iload_n dX9_shift_58 rfl ?_
            refine z_iald dX9_shift_59 rfl (Nat.le_of_ble_eq_true rfl) (by omega) (fun hr59 => ?_)
            refine z_icmp_eq (tgt := 66) dX9_shift_60 (by decide) ⟨by omega, by omega⟩ ⟨by omega, by omega⟩ (fun h60 => ?_) (fun h60 => ?_)
            · skip
              refine z_iload dX9_shift_66 rfl ?_
              refine z_if_lt (tgt := 107) dX9_shift_68 (by decide) ⟨by omega, by omega⟩ (fun h68 => ?_) (fun h68 => ?_)
              · skip
                refine z_bipush (v := -13) dX9_shift_107 (by decide +kernel) ?_
                exact z_iret dX9_shift_109 (by
                  have e : shM σ s fr o to n = -13 := by unfold shM; rw [if_neg (by omega), if_neg (by omega), if_neg (by omega), if_neg (by omega)]
                  exact Or.inl ⟨by omega, e.symm, rfl⟩)
              · skip
                refine z_iload_n dX9_shift_71 rfl ?_
                refine z_if_lt (tgt := 107) dX9_shift_72 (by decide) ⟨by omega, by omega⟩ (fun h72 => ?_) (fun h72 => ?_)
                · skip
                  refine z_bipush (v := -13) dX9_shift_107 (by decide +kernel) ?_
                  exact z_iret dX9_shift_109 (by
                    have e : shM σ s fr o to n = -13 := by unfold shM; rw [if_neg (by omega), if_neg (by omega), if_neg (by omega), if_neg (by omega)]
                    exact Or.inl ⟨by omega, e.symm, rfl⟩)
                · skip
                  refine z_iload dX9_shift_75 rfl ?_
                  refine z_if_lt (tgt := 107) dX9_shift_77 (by decide) ⟨by omega, by omega⟩ (fun h77 => ?_) (fun h77 => ?_)
                  · skip
                    refine z_bipush (v := -13) dX9_shift_107 (by decide +kernel) ?_
                    exact z_iret dX9_shift_109 (by
                      have e : shM σ s fr o to n = -13 := by unfold shM; rw [if_neg (by omega), if_neg (by omega), if_neg (by omega), if_neg (by omega)]
                      exact Or.inl ⟨by omega, e.symm, rfl⟩)
                  · skip
                    refine z_iload_n dX9_shift_80 rfl ?_
                    refine z_aload_n dX9_shift_81 rfl ?_
                    refine z_getR dX9_shift_82 gX9_128 rfl (Nat.le_of_ble_eq_true rfl) rfl ?_
                    refine z_iload_n dX9_shift_85 rfl ?_
                    refine z_iald dX9_shift_86 rfl (Nat.le_of_ble_eq_true rfl) (by omega) (fun hr86 => ?_)
                    refine z_iload dX9_shift_87 rfl ?_
                    refine z_isub dX9_shift_89 ?_
                    refine z_icmp_gt (tgt := 107) dX9_shift_90 (by decide) ⟨by omega, by omega⟩ ⟨by omega, by omega⟩ (fun h90 => ?_) (fun h90 => ?_)
                    · skip
                      refine z_bipush (v := -13) dX9_shift_107 (by decide +kernel) ?_
                      exact z_iret dX9_shift_109 (by
                        have e : shM σ s fr o to n = -13 := by unfold shM; rw [if_neg (by omega), if_neg (by omega), if_neg (by omega), if_neg (by omega)]
                        exact Or.inl ⟨by omega, e.symm, rfl⟩)
                    · skip
                      refine z_iload dX9_shift_93 rfl ?_
                      refine z_aload_n dX9_shift_95 rfl ?_
                      refine z_getR dX9_shift_96 gX9_128 rfl (Nat.le_of_ble_eq_true rfl) rfl ?_
                      refine z_iload_n dX9_shift_99 rfl ?_
                      refine z_iald dX9_shift_100 rfl (Nat.le_of_ble_eq_true rfl) (by omega) (fun hr100 => ?_)
                      refine z_iload dX9_shift_101 rfl ?_
                      refine z_isub dX9_shift_103 ?_
                      refine z_icmp_le (tgt := 110) dX9_shift_104 (by decide) ⟨by omega, by omega⟩ ⟨by omega, by omega⟩ (fun h104 => ?_) (fun h104 => ?_)
                      · skip
                        refine z_iconst dX9_shift_110 ?_
                        refine z_istore (L' := [_, _, _, _, _, _, _]) dX9_shift_111 (Nat.le_of_ble_eq_true rfl) rfl rfl ?_
                        have h := l_X9_shift (d := d) (τ := σ) (s := s) (fr := fr) (o := o) (to := to) (n := n) (by omega) (by omega) (by omega) 0 (by omega)
                        rw [(sf_0 _ _).1] at h
                        have e : shM σ s fr o to n = 0 := by unfold shM; rw [if_neg (by omega), if_neg (by omega), if_neg (by omega), if_pos (by omega)]
                        exact h.mono (fun r σ' ⟨z, q1, q⟩ => ⟨z, q1, Or.inr ⟨e, q⟩⟩)
                      · skip
                        refine z_bipush (v := -13) dX9_shift_107 (by decide +kernel) ?_
                        exact z_iret dX9_shift_109 (by
                          have e : shM σ s fr o to n = -13 := by unfold shM; rw [if_neg (by omega), if_neg (by omega), if_neg (by omega), if_neg (by omega)]
                          exact Or.inl ⟨by omega, e.symm, rfl⟩)
            · skip
              refine z_bipush (v := -12) dX9_shift_63 (by decide +kernel) ?_
              exact z_iret dX9_shift_65 (by
                have e : shM σ s fr o to n = -12 := by unfold shM; rw [if_neg (by omega), if_neg (by omega), if_pos (by omega)]
                exact Or.inl ⟨by omega, e.symm, rfl⟩)
        · skip
          refine z_bipush (v := -11) dX9_shift_36 (by decide +kernel) ?_
          exact z_iret dX9_shift_38 (by
            have e : shM σ s fr o to n = -11 := by unfold shM; rw [if_neg (by omega), if_pos (by omega)]
            exact Or.inl ⟨by omega, e.symm, rfl⟩)
    · skip
      refine z_iconst dX9_shift_14 ?_
      exact z_iret dX9_shift_15 (by
        have e : shM σ s fr o to n = -1 := by unfold shM; rw [if_pos (by omega)]
        exact Or.inl ⟨by omega, e.symm, rfl⟩)
theorem undN_d : ∀ k : Nat, k < 8 → ∀ u : Nat, u < 8 → undN 8 k u = decide (u = 0 ∨ k = u ∨ (u = 1 ∧ k = 4) ∨ (u = 2 ∧ (k = 3 ∨ k = 5)) ∨ (u = 3 ∧ k = 5) ∨ (u = 6 ∧ k = 7)) := by decide
theorem undN_I {k u : Int} (hk : 0 ≤ k ∧ k < 8) (hu : 0 ≤ u ∧ u < 8) : (undN 8 k u = true) ↔ (u = 0 ∨ k = u ∨ (u = 1 ∧ k = 4) ∨ (u = 2 ∧ (k = 3 ∨ k = 5)) ∨ (u = 3 ∧ k = 5) ∨ (u = 6 ∧ k = 7)) := by
  have h := undN_d k.toNat (by omega) u.toNat (by omega)
  rw [show ((k.toNat : Nat) : Int) = k by omega, show ((u.toNat : Nat) : Int) = u by omega] at h
  rw [h, decide_eq_true_eq]
  omega
set_option maxRecDepth 20000 in
theorem c_X9_isUnder {d : Nat} {σ : Sto} {k u : Int} (hk : 0 ≤ k ∧ k < 8) (hu : 0 ≤ u ∧ u < 8) : m_X9_isUnder d [zI k, zI u] σ (qI fun z σ' => σ' = σ ∧ yn z (undN 8 k u = true)) := by
  have hd := undN_I hk hu
  refine z_does (L := [some (zI k), some (zI u)]) rfl (by decide +kernel) (Nat.le_of_ble_eq_true rfl) rfl ?_
  refine z_iload_n dX9_isUnder_0 rfl ?_
  refine z_if_eq (tgt := 56) dX9_isUnder_1 (by decide) ⟨by omega, by omega⟩ (fun h1 => ?_) (fun h1 => ?_)
  · skip
    refine z_iconst dX9_isUnder_56 ?_
    refine z_goto (tgt := 61) dX9_isUnder_57 (by decide) ?_
    exact z_zret dX9_isUnder_61 (by omega) ⟨rfl, by first | exact Or.inl ⟨rfl, hd.mpr (by omega)⟩ | exact Or.inr ⟨rfl, fun q => by have := hd.mp q; omega⟩⟩
  · skip
    refine z_iload_n dX9_isUnder_4 rfl ?_
    refine z_iload_n dX9_isUnder_5 rfl ?_
    refine z_icmp_eq (tgt := 56) dX9_isUnder_6 (by decide) ⟨by omega, by omega⟩ ⟨by omega, by omega⟩ (fun h6 => ?_) (fun h6 => ?_)
    · skip
      refine z_iconst dX9_isUnder_56 ?_
      refine z_goto (tgt := 61) dX9_isUnder_57 (by decide) ?_
      exact z_zret dX9_isUnder_61 (by omega) ⟨rfl, by first | exact Or.inl ⟨rfl, hd.mpr (by omega)⟩ | exact Or.inr ⟨rfl, fun q => by have := hd.mp q; omega⟩⟩
    · skip
      refine z_iload_n dX9_isUnder_9 rfl ?_
      refine z_iconst dX9_isUnder_10 ?_
      refine z_icmp_ne (tgt := 19) dX9_isUnder_11 (by decide) ⟨by omega, by omega⟩ ⟨by omega, by omega⟩ (fun h11 => ?_) (fun h11 => ?_)
      · skip
        refine z_iload_n dX9_isUnder_19 rfl ?_
        refine z_iconst dX9_isUnder_20 ?_
        refine z_icmp_ne (tgt := 34) dX9_isUnder_21 (by decide) ⟨by omega, by omega⟩ ⟨by omega, by omega⟩ (fun h21 => ?_) (fun h21 => ?_)
        · skip
          refine z_iload_n dX9_isUnder_34 rfl ?_
          refine z_iconst dX9_isUnder_35 ?_
          refine z_icmp_ne (tgt := 44) dX9_isUnder_36 (by decide) ⟨by omega, by omega⟩ ⟨by omega, by omega⟩ (fun h36 => ?_) (fun h36 => ?_)
          · skip
            refine z_iload_n dX9_isUnder_44 rfl ?_
            refine z_bipush (v := 6) dX9_isUnder_45 (by decide +kernel) ?_
            refine z_icmp_ne (tgt := 60) dX9_isUnder_47 (by decide) ⟨by omega, by omega⟩ ⟨by omega, by omega⟩ (fun h47 => ?_) (fun h47 => ?_)
            · skip
              refine z_iconst dX9_isUnder_60 ?_
              exact z_zret dX9_isUnder_61 (by omega) ⟨rfl, by first | exact Or.inl ⟨rfl, hd.mpr (by omega)⟩ | exact Or.inr ⟨rfl, fun q => by have := hd.mp q; omega⟩⟩
            · skip
              refine z_iload_n dX9_isUnder_50 rfl ?_
              refine z_bipush (v := 7) dX9_isUnder_51 (by decide +kernel) ?_
              refine z_icmp_ne (tgt := 60) dX9_isUnder_53 (by decide) ⟨by omega, by omega⟩ ⟨by omega, by omega⟩ (fun h53 => ?_) (fun h53 => ?_)
              · skip
                refine z_iconst dX9_isUnder_60 ?_
                exact z_zret dX9_isUnder_61 (by omega) ⟨rfl, by first | exact Or.inl ⟨rfl, hd.mpr (by omega)⟩ | exact Or.inr ⟨rfl, fun q => by have := hd.mp q; omega⟩⟩
              · skip
                refine z_iconst dX9_isUnder_56 ?_
                refine z_goto (tgt := 61) dX9_isUnder_57 (by decide) ?_
                exact z_zret dX9_isUnder_61 (by omega) ⟨rfl, by first | exact Or.inl ⟨rfl, hd.mpr (by omega)⟩ | exact Or.inr ⟨rfl, fun q => by have := hd.mp q; omega⟩⟩
          · skip
            refine z_iload_n dX9_isUnder_39 rfl ?_
            refine z_iconst dX9_isUnder_40 ?_
            refine z_icmp_eq (tgt := 56) dX9_isUnder_41 (by decide) ⟨by omega, by omega⟩ ⟨by omega, by omega⟩ (fun h41 => ?_) (fun h41 => ?_)
            · skip
              refine z_iconst dX9_isUnder_56 ?_
              refine z_goto (tgt := 61) dX9_isUnder_57 (by decide) ?_
              exact z_zret dX9_isUnder_61 (by omega) ⟨rfl, by first | exact Or.inl ⟨rfl, hd.mpr (by omega)⟩ | exact Or.inr ⟨rfl, fun q => by have := hd.mp q; omega⟩⟩
            · skip
              refine z_iload_n dX9_isUnder_44 rfl ?_
              refine z_bipush (v := 6) dX9_isUnder_45 (by decide +kernel) ?_
              refine z_icmp_ne (tgt := 60) dX9_isUnder_47 (by decide) ⟨by omega, by omega⟩ ⟨by omega, by omega⟩ (fun h47 => ?_) (fun h47 => ?_)
              · skip
                refine z_iconst dX9_isUnder_60 ?_
                exact z_zret dX9_isUnder_61 (by omega) ⟨rfl, by first | exact Or.inl ⟨rfl, hd.mpr (by omega)⟩ | exact Or.inr ⟨rfl, fun q => by have := hd.mp q; omega⟩⟩
              · skip
                refine z_iload_n dX9_isUnder_50 rfl ?_
                refine z_bipush (v := 7) dX9_isUnder_51 (by decide +kernel) ?_
                refine z_icmp_ne (tgt := 60) dX9_isUnder_53 (by decide) ⟨by omega, by omega⟩ ⟨by omega, by omega⟩ (fun h53 => ?_) (fun h53 => ?_)
                · skip
                  refine z_iconst dX9_isUnder_60 ?_
                  exact z_zret dX9_isUnder_61 (by omega) ⟨rfl, by first | exact Or.inl ⟨rfl, hd.mpr (by omega)⟩ | exact Or.inr ⟨rfl, fun q => by have := hd.mp q; omega⟩⟩
                · skip
                  refine z_iconst dX9_isUnder_56 ?_
                  refine z_goto (tgt := 61) dX9_isUnder_57 (by decide) ?_
                  exact z_zret dX9_isUnder_61 (by omega) ⟨rfl, by first | exact Or.inl ⟨rfl, hd.mpr (by omega)⟩ | exact Or.inr ⟨rfl, fun q => by have := hd.mp q; omega⟩⟩
        · skip
          refine z_iload_n dX9_isUnder_24 rfl ?_
          refine z_iconst dX9_isUnder_25 ?_
          refine z_icmp_eq (tgt := 56) dX9_isUnder_26 (by decide) ⟨by omega, by omega⟩ ⟨by omega, by omega⟩ (fun h26 => ?_) (fun h26 => ?_)
          · skip
            refine z_iconst dX9_isUnder_56 ?_
            refine z_goto (tgt := 61) dX9_isUnder_57 (by decide) ?_
            exact z_zret dX9_isUnder_61 (by omega) ⟨rfl, by first | exact Or.inl ⟨rfl, hd.mpr (by omega)⟩ | exact Or.inr ⟨rfl, fun q => by have := hd.mp q; omega⟩⟩
          · skip
            refine z_iload_n dX9_isUnder_29 rfl ?_
            refine z_iconst dX9_isUnder_30 ?_
            refine z_icmp_eq (tgt := 56) dX9_isUnder_31 (by decide) ⟨by omega, by omega⟩ ⟨by omega, by omega⟩ (fun h31 => ?_) (fun h31 => ?_)
            · skip
              refine z_iconst dX9_isUnder_56 ?_
              refine z_goto (tgt := 61) dX9_isUnder_57 (by decide) ?_
              exact z_zret dX9_isUnder_61 (by omega) ⟨rfl, by first | exact Or.inl ⟨rfl, hd.mpr (by omega)⟩ | exact Or.inr ⟨rfl, fun q => by have := hd.mp q; omega⟩⟩
            · skip
              refine z_iload_n dX9_isUnder_34 rfl ?_
              refine z_iconst dX9_isUnder_35 ?_
              refine z_icmp_ne (tgt := 44) dX9_isUnder_36 (by decide) ⟨by omega, by omega⟩ ⟨by omega, by omega⟩ (fun h36 => ?_) (fun h36 => ?_)
              · skip
                refine z_iload_n dX9_isUnder_44 rfl ?_
                refine z_bipush (v := 6) dX9_isUnder_45 (by decide +kernel) ?_
                refine z_icmp_ne (tgt := 60) dX9_isUnder_47 (by decide) ⟨by omega, by omega⟩ ⟨by omega, by omega⟩ (fun h47 => ?_) (fun h47 => ?_)
                · skip
                  refine z_iconst dX9_isUnder_60 ?_
                  exact z_zret dX9_isUnder_61 (by omega) ⟨rfl, by first | exact Or.inl ⟨rfl, hd.mpr (by omega)⟩ | exact Or.inr ⟨rfl, fun q => by have := hd.mp q; omega⟩⟩
                · skip
                  refine z_iload_n dX9_isUnder_50 rfl ?_
                  refine z_bipush (v := 7) dX9_isUnder_51 (by decide +kernel) ?_
                  refine z_icmp_ne (tgt := 60) dX9_isUnder_53 (by decide) ⟨by omega, by omega⟩ ⟨by omega, by omega⟩ (fun h53 => ?_) (fun h53 => ?_)
                  · skip
                    refine z_iconst dX9_isUnder_60 ?_
                    exact z_zret dX9_isUnder_61 (by omega) ⟨rfl, by first | exact Or.inl ⟨rfl, hd.mpr (by omega)⟩ | exact Or.inr ⟨rfl, fun q => by have := hd.mp q; omega⟩⟩
                  · skip
                    refine z_iconst dX9_isUnder_56 ?_
                    refine z_goto (tgt := 61) dX9_isUnder_57 (by decide) ?_
                    exact z_zret dX9_isUnder_61 (by omega) ⟨rfl, by first | exact Or.inl ⟨rfl, hd.mpr (by omega)⟩ | exact Or.inr ⟨rfl, fun q => by have := hd.mp q; omega⟩⟩
              · skip
                refine z_iload_n dX9_isUnder_39 rfl ?_
                refine z_iconst dX9_isUnder_40 ?_
                refine z_icmp_eq (tgt := 56) dX9_isUnder_41 (by decide) ⟨by omega, by omega⟩ ⟨by omega, by omega⟩ (fun h41 => ?_) (fun h41 => ?_)
                · skip
                  refine z_iconst dX9_isUnder_56 ?_
                  refine z_goto (tgt := 61) dX9_isUnder_57 (by decide) ?_
                  exact z_zret dX9_isUnder_61 (by omega) ⟨rfl, by first | exact Or.inl ⟨rfl, hd.mpr (by omega)⟩ | exact Or.inr ⟨rfl, fun q => by have := hd.mp q; omega⟩⟩
                · skip
                  refine z_iload_n dX9_isUnder_44 rfl ?_
                  refine z_bipush (v := 6) dX9_isUnder_45 (by decide +kernel) ?_
                  refine z_icmp_ne (tgt := 60) dX9_isUnder_47 (by decide) ⟨by omega, by omega⟩ ⟨by omega, by omega⟩ (fun h47 => ?_) (fun h47 => ?_)
                  · skip
                    refine z_iconst dX9_isUnder_60 ?_
                    exact z_zret dX9_isUnder_61 (by omega) ⟨rfl, by first | exact Or.inl ⟨rfl, hd.mpr (by omega)⟩ | exact Or.inr ⟨rfl, fun q => by have := hd.mp q; omega⟩⟩
                  · skip
                    refine z_iload_n dX9_isUnder_50 rfl ?_
                    refine z_bipush (v := 7) dX9_isUnder_51 (by decide +kernel) ?_
                    refine z_icmp_ne (tgt := 60) dX9_isUnder_53 (by decide) ⟨by omega, by omega⟩ ⟨by omega, by omega⟩ (fun h53 => ?_) (fun h53 => ?_)
                    · skip
                      refine z_iconst dX9_isUnder_60 ?_
                      exact z_zret dX9_isUnder_61 (by omega) ⟨rfl, by first | exact Or.inl ⟨rfl, hd.mpr (by omega)⟩ | exact Or.inr ⟨rfl, fun q => by have := hd.mp q; omega⟩⟩
                    · skip
                      refine z_iconst dX9_isUnder_56 ?_
                      refine z_goto (tgt := 61) dX9_isUnder_57 (by decide) ?_
                      exact z_zret dX9_isUnder_61 (by omega) ⟨rfl, by first | exact Or.inl ⟨rfl, hd.mpr (by omega)⟩ | exact Or.inr ⟨rfl, fun q => by have := hd.mp q; omega⟩⟩
      · skip
        refine z_iload_n dX9_isUnder_14 rfl ?_
        refine z_iconst dX9_isUnder_15 ?_
        refine z_icmp_eq (tgt := 56) dX9_isUnder_16 (by decide) ⟨by omega, by omega⟩ ⟨by omega, by omega⟩ (fun h16 => ?_) (fun h16 => ?_)
        · skip
          refine z_iconst dX9_isUnder_56 ?_
          refine z_goto (tgt := 61) dX9_isUnder_57 (by decide) ?_
          exact z_zret dX9_isUnder_61 (by omega) ⟨rfl, by first | exact Or.inl ⟨rfl, hd.mpr (by omega)⟩ | exact Or.inr ⟨rfl, fun q => by have := hd.mp q; omega⟩⟩
        · skip
          refine z_iload_n dX9_isUnder_19 rfl ?_
          refine z_iconst dX9_isUnder_20 ?_
          refine z_icmp_ne (tgt := 34) dX9_isUnder_21 (by decide) ⟨by omega, by omega⟩ ⟨by omega, by omega⟩ (fun h21 => ?_) (fun h21 => ?_)
          · skip
            refine z_iload_n dX9_isUnder_34 rfl ?_
            refine z_iconst dX9_isUnder_35 ?_
            refine z_icmp_ne (tgt := 44) dX9_isUnder_36 (by decide) ⟨by omega, by omega⟩ ⟨by omega, by omega⟩ (fun h36 => ?_) (fun h36 => ?_)
            · skip
              refine z_iload_n dX9_isUnder_44 rfl ?_
              refine z_bipush (v := 6) dX9_isUnder_45 (by decide +kernel) ?_
              refine z_icmp_ne (tgt := 60) dX9_isUnder_47 (by decide) ⟨by omega, by omega⟩ ⟨by omega, by omega⟩ (fun h47 => ?_) (fun h47 => ?_)
              · skip
                refine z_iconst dX9_isUnder_60 ?_
                exact z_zret dX9_isUnder_61 (by omega) ⟨rfl, by first | exact Or.inl ⟨rfl, hd.mpr (by omega)⟩ | exact Or.inr ⟨rfl, fun q => by have := hd.mp q; omega⟩⟩
              · skip
                refine z_iload_n dX9_isUnder_50 rfl ?_
                refine z_bipush (v := 7) dX9_isUnder_51 (by decide +kernel) ?_
                refine z_icmp_ne (tgt := 60) dX9_isUnder_53 (by decide) ⟨by omega, by omega⟩ ⟨by omega, by omega⟩ (fun h53 => ?_) (fun h53 => ?_)
                · skip
                  refine z_iconst dX9_isUnder_60 ?_
                  exact z_zret dX9_isUnder_61 (by omega) ⟨rfl, by first | exact Or.inl ⟨rfl, hd.mpr (by omega)⟩ | exact Or.inr ⟨rfl, fun q => by have := hd.mp q; omega⟩⟩
                · skip
                  refine z_iconst dX9_isUnder_56 ?_
                  refine z_goto (tgt := 61) dX9_isUnder_57 (by decide) ?_
                  exact z_zret dX9_isUnder_61 (by omega) ⟨rfl, by first | exact Or.inl ⟨rfl, hd.mpr (by omega)⟩ | exact Or.inr ⟨rfl, fun q => by have := hd.mp q; omega⟩⟩
            · skip
              refine z_iload_n dX9_isUnder_39 rfl ?_
              refine z_iconst dX9_isUnder_40 ?_
              refine z_icmp_eq (tgt := 56) dX9_isUnder_41 (by decide) ⟨by omega, by omega⟩ ⟨by omega, by omega⟩ (fun h41 => ?_) (fun h41 => ?_)
              · skip
                refine z_iconst dX9_isUnder_56 ?_
                refine z_goto (tgt := 61) dX9_isUnder_57 (by decide) ?_
                exact z_zret dX9_isUnder_61 (by omega) ⟨rfl, by first | exact Or.inl ⟨rfl, hd.mpr (by omega)⟩ | exact Or.inr ⟨rfl, fun q => by have := hd.mp q; omega⟩⟩
              · skip
                refine z_iload_n dX9_isUnder_44 rfl ?_
                refine z_bipush (v := 6) dX9_isUnder_45 (by decide +kernel) ?_
                refine z_icmp_ne (tgt := 60) dX9_isUnder_47 (by decide) ⟨by omega, by omega⟩ ⟨by omega, by omega⟩ (fun h47 => ?_) (fun h47 => ?_)
                · skip
                  refine z_iconst dX9_isUnder_60 ?_
                  exact z_zret dX9_isUnder_61 (by omega) ⟨rfl, by first | exact Or.inl ⟨rfl, hd.mpr (by omega)⟩ | exact Or.inr ⟨rfl, fun q => by have := hd.mp q; omega⟩⟩
                · skip
                  refine z_iload_n dX9_isUnder_50 rfl ?_
                  refine z_bipush (v := 7) dX9_isUnder_51 (by decide +kernel) ?_
                  refine z_icmp_ne (tgt := 60) dX9_isUnder_53 (by decide) ⟨by omega, by omega⟩ ⟨by omega, by omega⟩ (fun h53 => ?_) (fun h53 => ?_)
                  · skip
                    refine z_iconst dX9_isUnder_60 ?_
                    exact z_zret dX9_isUnder_61 (by omega) ⟨rfl, by first | exact Or.inl ⟨rfl, hd.mpr (by omega)⟩ | exact Or.inr ⟨rfl, fun q => by have := hd.mp q; omega⟩⟩
                  · skip
                    refine z_iconst dX9_isUnder_56 ?_
                    refine z_goto (tgt := 61) dX9_isUnder_57 (by decide) ?_
                    exact z_zret dX9_isUnder_61 (by omega) ⟨rfl, by first | exact Or.inl ⟨rfl, hd.mpr (by omega)⟩ | exact Or.inr ⟨rfl, fun q => by have := hd.mp q; omega⟩⟩
          · skip
            refine z_iload_n dX9_isUnder_24 rfl ?_
            refine z_iconst dX9_isUnder_25 ?_
            refine z_icmp_eq (tgt := 56) dX9_isUnder_26 (by decide) ⟨by omega, by omega⟩ ⟨by omega, by omega⟩ (fun h26 => ?_) (fun h26 => ?_)
            · skip
              refine z_iconst dX9_isUnder_56 ?_
              refine z_goto (tgt := 61) dX9_isUnder_57 (by decide) ?_
              exact z_zret dX9_isUnder_61 (by omega) ⟨rfl, by first | exact Or.inl ⟨rfl, hd.mpr (by omega)⟩ | exact Or.inr ⟨rfl, fun q => by have := hd.mp q; omega⟩⟩
            · skip
              refine z_iload_n dX9_isUnder_29 rfl ?_
              refine z_iconst dX9_isUnder_30 ?_
              refine z_icmp_eq (tgt := 56) dX9_isUnder_31 (by decide) ⟨by omega, by omega⟩ ⟨by omega, by omega⟩ (fun h31 => ?_) (fun h31 => ?_)
              · skip
                refine z_iconst dX9_isUnder_56 ?_
                refine z_goto (tgt := 61) dX9_isUnder_57 (by decide) ?_
                exact z_zret dX9_isUnder_61 (by omega) ⟨rfl, by first | exact Or.inl ⟨rfl, hd.mpr (by omega)⟩ | exact Or.inr ⟨rfl, fun q => by have := hd.mp q; omega⟩⟩
              · skip
                refine z_iload_n dX9_isUnder_34 rfl ?_
                refine z_iconst dX9_isUnder_35 ?_
                refine z_icmp_ne (tgt := 44) dX9_isUnder_36 (by decide) ⟨by omega, by omega⟩ ⟨by omega, by omega⟩ (fun h36 => ?_) (fun h36 => ?_)
                · skip
                  refine z_iload_n dX9_isUnder_44 rfl ?_
                  refine z_bipush (v := 6) dX9_isUnder_45 (by decide +kernel) ?_
                  refine z_icmp_ne (tgt := 60) dX9_isUnder_47 (by decide) ⟨by omega, by omega⟩ ⟨by omega, by omega⟩ (fun h47 => ?_) (fun h47 => ?_)
                  · skip
                    refine z_iconst dX9_isUnder_60 ?_
                    exact z_zret dX9_isUnder_61 (by omega) ⟨rfl, by first | exact Or.inl ⟨rfl, hd.mpr (by omega)⟩ | exact Or.inr ⟨rfl, fun q => by have := hd.mp q; omega⟩⟩
                  · skip
                    refine z_iload_n dX9_isUnder_50 rfl ?_
                    refine z_bipush (v := 7) dX9_isUnder_51 (by decide +kernel) ?_
                    refine z_icmp_ne (tgt := 60) dX9_isUnder_53 (by decide) ⟨by omega, by omega⟩ ⟨by omega, by omega⟩ (fun h53 => ?_) (fun h53 => ?_)
                    · skip
                      refine z_iconst dX9_isUnder_60 ?_
                      exact z_zret dX9_isUnder_61 (by omega) ⟨rfl, by first | exact Or.inl ⟨rfl, hd.mpr (by omega)⟩ | exact Or.inr ⟨rfl, fun q => by have := hd.mp q; omega⟩⟩
                    · skip
                      refine z_iconst dX9_isUnder_56 ?_
                      refine z_goto (tgt := 61) dX9_isUnder_57 (by decide) ?_
                      exact z_zret dX9_isUnder_61 (by omega) ⟨rfl, by first | exact Or.inl ⟨rfl, hd.mpr (by omega)⟩ | exact Or.inr ⟨rfl, fun q => by have := hd.mp q; omega⟩⟩
                · skip
                  refine z_iload_n dX9_isUnder_39 rfl ?_
                  refine z_iconst dX9_isUnder_40 ?_
                  refine z_icmp_eq (tgt := 56) dX9_isUnder_41 (by decide) ⟨by omega, by omega⟩ ⟨by omega, by omega⟩ (fun h41 => ?_) (fun h41 => ?_)
                  · skip
                    refine z_iconst dX9_isUnder_56 ?_
                    refine z_goto (tgt := 61) dX9_isUnder_57 (by decide) ?_
                    exact z_zret dX9_isUnder_61 (by omega) ⟨rfl, by first | exact Or.inl ⟨rfl, hd.mpr (by omega)⟩ | exact Or.inr ⟨rfl, fun q => by have := hd.mp q; omega⟩⟩
                  · skip
                    refine z_iload_n dX9_isUnder_44 rfl ?_
                    refine z_bipush (v := 6) dX9_isUnder_45 (by decide +kernel) ?_
                    refine z_icmp_ne (tgt := 60) dX9_isUnder_47 (by decide) ⟨by omega, by omega⟩ ⟨by omega, by omega⟩ (fun h47 => ?_) (fun h47 => ?_)
                    · skip
                      refine z_iconst dX9_isUnder_60 ?_
                      exact z_zret dX9_isUnder_61 (by omega) ⟨rfl, by first | exact Or.inl ⟨rfl, hd.mpr (by omega)⟩ | exact Or.inr ⟨rfl, fun q => by have := hd.mp q; omega⟩⟩
                    · skip
                      refine z_iload_n dX9_isUnder_50 rfl ?_
                      refine z_bipush (v := 7) dX9_isUnder_51 (by decide +kernel) ?_
                      refine z_icmp_ne (tgt := 60) dX9_isUnder_53 (by decide) ⟨by omega, by omega⟩ ⟨by omega, by omega⟩ (fun h53 => ?_) (fun h53 => ?_)
                      · skip
                        refine z_iconst dX9_isUnder_60 ?_
                        exact z_zret dX9_isUnder_61 (by omega) ⟨rfl, by first | exact Or.inl ⟨rfl, hd.mpr (by omega)⟩ | exact Or.inr ⟨rfl, fun q => by have := hd.mp q; omega⟩⟩
                      · skip
                        refine z_iconst dX9_isUnder_56 ?_
                        refine z_goto (tgt := 61) dX9_isUnder_57 (by decide) ?_
                        exact z_zret dX9_isUnder_61 (by omega) ⟨rfl, by first | exact Or.inl ⟨rfl, hd.mpr (by omega)⟩ | exact Or.inr ⟨rfl, fun q => by have := hd.mp q; omega⟩⟩
def tkM (σ : Sto) (s u : Int) : Int :=
  if ¬ (0 ≤ s ∧ s < 6) ∨ ¬ (0 ≤ u ∧ u < 8) then -1 else if σ 117 s.toNat = -1 then -11 else if 0 ≤ σ 117 s.toNat ∧ undN 8 (σ 115 (σ 117 s.toNat).toNat) u = true then σ 115 (σ 117 s.toNat).toNat else -12
set_option maxRecDepth 20000 in
theorem c_X9_taken {d : Nat} {σ : Sto} {s u : Int} (hS : SM σ) (hk : ∀ j, 0 ≤ σ 115 j ∧ σ 115 j < 8) (hs : inR s) (hu : inR u) : m_X9_taken d [zR 9, zI s, zI u] σ (qI fun z σ' => z = tkM σ s u ∧ σ' = σ) := by
  have hkk := hk (σ 117 s.toNat).toNat
  refine z_does (L := [some (zR 9), some (zI s), some (zI u)]) rfl (by decide +kernel) (Nat.le_of_ble_eq_true rfl) rfl ?_
  refine z_iload_n dX9_taken_0 rfl ?_
  refine z_callSI (d := d + 1) (av := [_]) dX9_taken_1 sX9_154 rfl rfl (Nat.le_of_ble_eq_true rfl) (Nat.le_refl _) (c_X9_isShelf (by omega)) (fun z1 σ1 h1 => ?_)
  obtain ⟨hs1, h1⟩ := h1
  subst σ1
  refine z_if_eq (tgt := 17) dX9_taken_4 (by decide) ⟨by omega, by omega⟩ (fun h4 => ?_) (fun h4 => ?_)
  · skip
    refine z_iconst dX9_taken_17 ?_
    exact z_iret dX9_taken_18 (⟨by unfold tkM; rw [if_pos (by omega)], rfl⟩)
  · skip
    refine z_iload_n dX9_taken_7 rfl ?_
    refine z_iconst dX9_taken_8 ?_
    refine z_bipush (v := 7) dX9_taken_9 (by decide +kernel) ?_
    refine z_callSI (d := d + 1) (av := [_, _, _]) dX9_taken_11 sX9_143 rfl rfl (Nat.le_of_ble_eq_true rfl) (Nat.le_refl _) (c_X9_in (by omega) (by omega) (by omega)) (fun z11 σ11 h11 => ?_)
    obtain ⟨hs11, h11⟩ := h11
    subst σ11
    refine z_if_ne (tgt := 19) dX9_taken_14 (by decide) ⟨by omega, by omega⟩ (fun h14 => ?_) (fun h14 => ?_)
    · skip
      obtain ⟨a1, a2, -⟩ := hS s (by omega) (by omega)
      refine z_aload_n dX9_taken_19 rfl ?_
      refine z_getR dX9_taken_20 gX9_125 rfl (Nat.le_of_ble_eq_true rfl) rfl ?_
      refine z_iload_n dX9_taken_23 rfl ?_
      refine z_iald dX9_taken_24 rfl (Nat.le_of_ble_eq_true rfl) (by omega) (fun hr24 => ?_)
      refine z_iconst dX9_taken_25 ?_
      refine z_icmp_ne (tgt := 32) dX9_taken_26 (by decide) ⟨by omega, by omega⟩ ⟨by omega, by omega⟩ (fun h26 => ?_) (fun h26 => ?_)
      · skip
        refine z_aload_n dX9_taken_32 rfl ?_
        refine z_getR dX9_taken_33 gX9_125 rfl (Nat.le_of_ble_eq_true rfl) rfl ?_
        refine z_iload_n dX9_taken_36 rfl ?_
        refine z_iald dX9_taken_37 rfl (Nat.le_of_ble_eq_true rfl) (by omega) (fun hr37 => ?_)
        refine z_if_lt (tgt := 73) dX9_taken_38 (by decide) ⟨by omega, by omega⟩ (fun h38 => ?_) (fun h38 => ?_)
        · skip
          refine z_bipush (v := -12) dX9_taken_73 (by decide +kernel) ?_
          exact z_iret dX9_taken_75 (by
            refine ⟨?_, rfl⟩
            unfold tkM; rw [if_neg (by omega), if_neg (by omega)]
            first
            | (rcases h53 with q | q
               · exact (if_pos ⟨by omega, q.2⟩).symm
               · exfalso; omega)
            | (rcases h53 with q | q
               · exfalso; omega
               · exact (if_neg (fun x => q.2 x.2)).symm)
            | exact (if_neg (fun x => by omega)).symm)
        · skip
          refine z_aload_n dX9_taken_41 rfl ?_
          refine z_getR dX9_taken_42 gX9_119 rfl (Nat.le_of_ble_eq_true rfl) rfl ?_
          refine z_aload_n dX9_taken_45 rfl ?_
          refine z_getR dX9_taken_46 gX9_125 rfl (Nat.le_of_ble_eq_true rfl) rfl ?_
          refine z_iload_n dX9_taken_49 rfl ?_
          refine z_iald dX9_taken_50 rfl (Nat.le_of_ble_eq_true rfl) (by omega) (fun hr50 => ?_)
          refine z_iald dX9_taken_51 rfl (Nat.le_of_ble_eq_true rfl) (by omega) (fun hr51 => ?_)
          refine z_iload_n dX9_taken_52 rfl ?_
          refine z_callSI (d := d + 1) (av := [_, _]) dX9_taken_53 sX9_419 rfl rfl (Nat.le_of_ble_eq_true rfl) (Nat.le_refl _) (c_X9_isUnder hkk (by omega)) (fun z53 σ53 h53 => ?_)
          obtain ⟨hs53, h53⟩ := h53
          subst σ53
          refine z_if_eq (tgt := 73) dX9_taken_56 (by decide) ⟨by omega, by omega⟩ (fun h56 => ?_) (fun h56 => ?_)
          · skip
            refine z_bipush (v := -12) dX9_taken_73 (by decide +kernel) ?_
            exact z_iret dX9_taken_75 (by
              refine ⟨?_, rfl⟩
              unfold tkM; rw [if_neg (by omega), if_neg (by omega)]
              first
              | (rcases h53 with q | q
                 · exact (if_pos ⟨by omega, q.2⟩).symm
                 · exfalso; omega)
              | (rcases h53 with q | q
                 · exfalso; omega
                 · exact (if_neg (fun x => q.2 x.2)).symm)
              | exact (if_neg (fun x => by omega)).symm)
          · skip
            refine z_aload_n dX9_taken_59 rfl ?_
            refine z_getR dX9_taken_60 gX9_119 rfl (Nat.le_of_ble_eq_true rfl) rfl ?_
            refine z_aload_n dX9_taken_63 rfl ?_
            refine z_getR dX9_taken_64 gX9_125 rfl (Nat.le_of_ble_eq_true rfl) rfl ?_
            refine z_iload_n dX9_taken_67 rfl ?_
            refine z_iald dX9_taken_68 rfl (Nat.le_of_ble_eq_true rfl) (by omega) (fun hr68 => ?_)
            refine z_iald dX9_taken_69 rfl (Nat.le_of_ble_eq_true rfl) (by omega) (fun hr69 => ?_)
            refine z_goto (tgt := 75) dX9_taken_70 (by decide) ?_
            exact z_iret dX9_taken_75 (by
              refine ⟨?_, rfl⟩
              unfold tkM; rw [if_neg (by omega), if_neg (by omega)]
              first
              | (rcases h53 with q | q
                 · exact (if_pos ⟨by omega, q.2⟩).symm
                 · exfalso; omega)
              | (rcases h53 with q | q
                 · exfalso; omega
                 · exact (if_neg (fun x => q.2 x.2)).symm)
              | exact (if_neg (fun x => by omega)).symm)
      · skip
        refine z_bipush (v := -11) dX9_taken_29 (by decide +kernel) ?_
        exact z_iret dX9_taken_31 (⟨by unfold tkM; rw [if_neg (by omega), if_pos (by omega)], rfl⟩)
    · skip
      refine z_iconst dX9_taken_17 ?_
      exact z_iret dX9_taken_18 (⟨by unfold tkM; rw [if_pos (by omega)], rfl⟩)
