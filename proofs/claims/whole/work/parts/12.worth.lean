/-! ===== Law: the worth ===== -/
def up (f : Nat → Int) (i : Nat) (x : Int) : Nat → Int := fun b => if b = i then x else f b
theorem z_put_up {σ : Sto} {k j : Nat} {x : Int} : z_put σ k j x k = up (σ k) j x := z_put_self
def joinF (s a b : Int) : Int :=
  if s = 124 then (if a ≠ 0 ∨ b ≠ 0 then 1 else 0)
  else if s = 38 then (if a ≠ 0 ∧ b ≠ 0 then 1 else 0)
  else if s = 60 then (if a < b then 1 else 0)
  else if s = 61 then (if a = b then 1 else 0)
  else if s = 62 then (if b < a then 1 else 0)
  else if s = 43 then wr (a + b)
  else if s = 45 then wr (a - b)
  else if s = 42 then wr (a * b)
  else if s = 47 then (if b = 0 then 0 else wr (a.tdiv b))
  else (if b = 0 then 0 else wr (a.tmod b))
theorem wr_0 : wr 0 = 0 := by decide
theorem joinF_R (s a b : Int) : inR (joinF s a b) := by
  unfold joinF
  repeat' split
  all_goals first | exact wr_R _ | exact ⟨by decide, by decide⟩
set_option maxRecDepth 20000 in
theorem c_X2_joined {d : Nat} {σ : Sto} {s a b : Int} (hs : inR s) (ha : inR a) (hb : inR b) : m_X2_joined d [zI s, zI a, zI b] σ (qI fun z σ' => z = joinF s a b ∧ σ' = σ) := by
  refine z_does (L := [some (zI s), some (zI a), some (zI b)]) rfl (by decide +kernel) (Nat.le_of_ble_eq_true rfl) rfl ?_
  refine z_iload_n dX2_joined_0 rfl ?_
  refine sw_X2_joined_1 ⟨by omega, by omega⟩ (fun h1 => ?_) (fun h1 => ?_) (fun h1 => ?_) (fun h1 => ?_) (fun h1 => ?_) (fun h1 => ?_) (fun h1 => ?_) (fun h1 => ?_) (fun h1 => ?_) (fun h1 => ?_)
  · first
    | exfalso; omega
    | skip
      refine z_iload_n dX2_joined_98 rfl ?_
      refine z_if_eq (tgt := 110) dX2_joined_99 (by decide) ⟨by omega, by omega⟩ (fun h99 => ?_) (fun h99 => ?_)
      · first
        | exfalso; omega
        | skip
          refine z_iconst dX2_joined_110 ?_
          exact z_iret dX2_joined_111 ⟨by unfold joinF; grind [wr_0], rfl⟩
      · first
        | exfalso; omega
        | skip
          refine z_iload_n dX2_joined_102 rfl ?_
          refine z_if_eq (tgt := 110) dX2_joined_103 (by decide) ⟨by omega, by omega⟩ (fun h103 => ?_) (fun h103 => ?_)
          · first
            | exfalso; omega
            | skip
              refine z_iconst dX2_joined_110 ?_
              exact z_iret dX2_joined_111 ⟨by unfold joinF; grind [wr_0], rfl⟩
          · first
            | exfalso; omega
            | skip
              refine z_iconst dX2_joined_106 ?_
              refine z_goto (tgt := 111) dX2_joined_107 (by decide) ?_
              exact z_iret dX2_joined_111 ⟨by unfold joinF; grind [wr_0], rfl⟩
  · first
    | exfalso; omega
    | skip
      refine z_iload_n dX2_joined_153 rfl ?_
      refine z_iload_n dX2_joined_154 rfl ?_
      refine z_imul dX2_joined_155 ?_
      refine z_wr ?_
      exact z_iret dX2_joined_156 ⟨by unfold joinF; grind [wr_0], rfl⟩
  · first
    | exfalso; omega
    | skip
      refine z_iload_n dX2_joined_145 rfl ?_
      refine z_iload_n dX2_joined_146 rfl ?_
      refine z_iadd dX2_joined_147 ?_
      refine z_wr ?_
      exact z_iret dX2_joined_148 ⟨by unfold joinF; grind [wr_0], rfl⟩
  · first
    | exfalso; omega
    | skip
      refine z_iload_n dX2_joined_149 rfl ?_
      refine z_iload_n dX2_joined_150 rfl ?_
      refine z_isub dX2_joined_151 ?_
      refine z_wr ?_
      exact z_iret dX2_joined_152 ⟨by unfold joinF; grind [wr_0], rfl⟩
  · first
    | exfalso; omega
    | skip
      refine z_iload_n dX2_joined_157 rfl ?_
      refine z_if_ne (tgt := 165) dX2_joined_158 (by decide) ⟨by omega, by omega⟩ (fun h158 => ?_) (fun h158 => ?_)
      · first
        | exfalso; omega
        | skip
          refine z_iload_n dX2_joined_165 rfl ?_
          refine z_iload_n dX2_joined_166 rfl ?_
          refine z_idiv dX2_joined_167 ⟨by omega, by omega⟩ ⟨by omega, by omega⟩ (by omega) ?_
          try refine z_wr ?_
          exact z_iret dX2_joined_168 ⟨by unfold joinF; grind [wr_0], rfl⟩
      · first
        | exfalso; omega
        | skip
          refine z_iconst dX2_joined_161 ?_
          refine z_goto (tgt := 168) dX2_joined_162 (by decide) ?_
          try refine z_wr ?_
          exact z_iret dX2_joined_168 ⟨by unfold joinF; grind [wr_0], rfl⟩
  · first
    | exfalso; omega
    | skip
      refine z_iload_n dX2_joined_112 rfl ?_
      refine z_iload_n dX2_joined_113 rfl ?_
      refine z_icmp_ge (tgt := 121) dX2_joined_114 (by decide) ⟨by omega, by omega⟩ ⟨by omega, by omega⟩ (fun h114 => ?_) (fun h114 => ?_)
      · first
        | exfalso; omega
        | skip
          refine z_iconst dX2_joined_121 ?_
          exact z_iret dX2_joined_122 ⟨by unfold joinF; grind [wr_0], rfl⟩
      · first
        | exfalso; omega
        | skip
          refine z_iconst dX2_joined_117 ?_
          refine z_goto (tgt := 122) dX2_joined_118 (by decide) ?_
          exact z_iret dX2_joined_122 ⟨by unfold joinF; grind [wr_0], rfl⟩
  · first
    | exfalso; omega
    | skip
      refine z_iload_n dX2_joined_123 rfl ?_
      refine z_iload_n dX2_joined_124 rfl ?_
      refine z_icmp_ne (tgt := 132) dX2_joined_125 (by decide) ⟨by omega, by omega⟩ ⟨by omega, by omega⟩ (fun h125 => ?_) (fun h125 => ?_)
      · first
        | exfalso; omega
        | skip
          refine z_iconst dX2_joined_132 ?_
          exact z_iret dX2_joined_133 ⟨by unfold joinF; grind [wr_0], rfl⟩
      · first
        | exfalso; omega
        | skip
          refine z_iconst dX2_joined_128 ?_
          refine z_goto (tgt := 133) dX2_joined_129 (by decide) ?_
          exact z_iret dX2_joined_133 ⟨by unfold joinF; grind [wr_0], rfl⟩
  · first
    | exfalso; omega
    | skip
      refine z_iload_n dX2_joined_134 rfl ?_
      refine z_iload_n dX2_joined_135 rfl ?_
      refine z_icmp_le (tgt := 143) dX2_joined_136 (by decide) ⟨by omega, by omega⟩ ⟨by omega, by omega⟩ (fun h136 => ?_) (fun h136 => ?_)
      · first
        | exfalso; omega
        | skip
          refine z_iconst dX2_joined_143 ?_
          exact z_iret dX2_joined_144 ⟨by unfold joinF; grind [wr_0], rfl⟩
      · first
        | exfalso; omega
        | skip
          refine z_iconst dX2_joined_139 ?_
          refine z_goto (tgt := 144) dX2_joined_140 (by decide) ?_
          exact z_iret dX2_joined_144 ⟨by unfold joinF; grind [wr_0], rfl⟩
  · first
    | exfalso; omega
    | skip
      refine z_iload_n dX2_joined_84 rfl ?_
      refine z_if_ne (tgt := 92) dX2_joined_85 (by decide) ⟨by omega, by omega⟩ (fun h85 => ?_) (fun h85 => ?_)
      · first
        | exfalso; omega
        | skip
          refine z_iconst dX2_joined_92 ?_
          refine z_goto (tgt := 97) dX2_joined_93 (by decide) ?_
          exact z_iret dX2_joined_97 ⟨by unfold joinF; grind [wr_0], rfl⟩
      · first
        | exfalso; omega
        | skip
          refine z_iload_n dX2_joined_88 rfl ?_
          refine z_if_eq (tgt := 96) dX2_joined_89 (by decide) ⟨by omega, by omega⟩ (fun h89 => ?_) (fun h89 => ?_)
          · first
            | exfalso; omega
            | skip
              refine z_iconst dX2_joined_96 ?_
              exact z_iret dX2_joined_97 ⟨by unfold joinF; grind [wr_0], rfl⟩
          · first
            | exfalso; omega
            | skip
              refine z_iconst dX2_joined_92 ?_
              refine z_goto (tgt := 97) dX2_joined_93 (by decide) ?_
              exact z_iret dX2_joined_97 ⟨by unfold joinF; grind [wr_0], rfl⟩
  · first
    | exfalso; omega
    | skip
      refine z_iload_n dX2_joined_169 rfl ?_
      refine z_if_ne (tgt := 177) dX2_joined_170 (by decide) ⟨by omega, by omega⟩ (fun h170 => ?_) (fun h170 => ?_)
      · first
        | exfalso; omega
        | skip
          refine z_iload_n dX2_joined_177 rfl ?_
          refine z_iload_n dX2_joined_178 rfl ?_
          refine z_irem dX2_joined_179 ⟨by omega, by omega⟩ ⟨by omega, by omega⟩ (by omega) ?_
          try refine z_wr ?_
          exact z_iret dX2_joined_180 ⟨by unfold joinF; grind [wr_0], rfl⟩
      · first
        | exfalso; omega
        | skip
          refine z_iconst dX2_joined_173 ?_
          refine z_goto (tgt := 180) dX2_joined_174 (by decide) ?_
          try refine z_wr ?_
          exact z_iret dX2_joined_180 ⟨by unfold joinF; grind [wr_0], rfl⟩
/-- the steps' machine: turns left, steps, how many, names, the pile, its height, the next step -/
def evF : Nat → (Nat → Int) → Int → (Nat → Int) → (Nat → Int) → Int → Int → Int
  | 0, _, _, _, _, _, _ => 0
  | t + 1, S, C, N, sk, top, nx =>
    if 0 ≤ nx ∧ nx < C ∧ nx < 256 then
      if -6 ≤ S nx.toNat then
        if 64 ≤ top then 0
        else evF t S C N (up sk top.toNat (if 0 ≤ S nx.toNat then S nx.toNat else N (-1 - S nx.toNat).toNat)) (top + 1) (nx + 1)
      else if top < 1 ∨ 64 < top then 0
      else if S nx.toNat = -59 then sk (top - 1).toNat
      else if S nx.toNat = -63 then evF t S C N sk (top + -1) (if sk (top + -1).toNat ≠ 0 ∨ 256 ≤ nx + 1 then nx + 1 + 1 else S (nx + 1).toNat)
      else if S nx.toNat = -33 then evF t S C N (up sk (top - 1).toNat (if sk (top - 1).toNat = 0 then 1 else 0)) top (nx + 1)
      else if S nx.toNat = -126 then evF t S C N (up sk (top - 1).toNat (wr (-(sk (top - 1).toNat)))) top (nx + 1)
      else if 2 ≤ top then evF t S C N (up sk (top + -1 - 1).toNat (joinF (wr (-(S nx.toNat))) (sk (top + -1 - 1).toNat) (sk (top + -1).toNat))) (top + -1) (nx + 1)
      else evF t S C N sk top (nx + 1)
    else 0
set_option maxRecDepth 20000 in
set_option maxHeartbeats 1000000 in
theorem l_X2_worth {d : Nat} {σ : Sto} {a1 a2 a3 a4 a5 a6 : Int} (τ : Sto) (top nx u : Int) (hu : 0 ≤ u ∧ u ≤ 256) (ht : 0 ≤ top ∧ top ≤ 64) (hn : inR nx) (hτ : ∀ a, a ≠ 28 → τ a = σ a) :
    Z (z_me cX2_worth RX2 11 (some .int) (d + 1) (qI fun z σ' => z = evF (256 - u).toNat (σ 27) (σ 3 7) (σ 29) (τ 28) top nx ∧ inR z ∧ ∀ a, a ≠ 28 → σ' a = σ a)) 54 [some (zR 3), some (zI a1), some (zI a2), some (zI a3), some (zI a4), some (zI a5), some (zI a6), some (zI top), some (zI nx), some (zI u), none] [] τ := by
  have h27 : τ 27 = σ 27 := hτ 27 (by decide)
  have h29 : τ 29 = σ 29 := hτ 29 (by decide)
  have h3 : τ 3 = σ 3 := hτ 3 (by decide)
  have hfr : ∀ (i : Nat) (x : Int) (a : Nat), a ≠ 28 → z_put τ 28 i x a = σ a := fun i x a ha => by rw [z_put_ne ha]; exact hτ a ha
  by_cases h8 : u = 256
  · subst h8
    refine z_iload dX2_worth_54 rfl ?_
    refine z_sipush (v := 256) dX2_worth_56 (by decide +kernel) ?_
    refine z_icmp_ge (tgt := 334) dX2_worth_59 (by decide) ⟨by omega, by omega⟩ ⟨by omega, by omega⟩ (fun h59 => ?_) (fun h59 => ?_)
    · skip
      refine z_iconst dX2_worth_334 ?_
      exact z_iret dX2_worth_335 ⟨rfl, ⟨by decide, by decide⟩, hτ⟩
    · exfalso; omega
  · have e : (256 - u).toNat = (256 - (u + 1)).toNat + 1 := by omega
    rw [e]
    refine z_iload dX2_worth_54 rfl ?_
    refine z_sipush (v := 256) dX2_worth_56 (by decide +kernel) ?_
    refine z_icmp_ge (tgt := 334) dX2_worth_59 (by decide) ⟨by omega, by omega⟩ ⟨by omega, by omega⟩ (fun h59 => ?_) (fun h59 => ?_)
    · first
      | exfalso; omega
      | skip
        refine z_iconst dX2_worth_334 ?_
        exact z_iret dX2_worth_335 ⟨by rw [evF]; simp (disch := omega) only [if_pos, if_neg], by omega, hτ⟩
    · first
      | exfalso; omega
      | skip
        refine z_iload dX2_worth_62 rfl ?_
        refine z_if_lt (tgt := 334) dX2_worth_64 (by decide) ⟨by omega, by omega⟩ (fun h64 => ?_) (fun h64 => ?_)
        · first
          | exfalso; omega
          | skip
            refine z_iconst dX2_worth_334 ?_
            exact z_iret dX2_worth_335 ⟨by rw [evF]; simp (disch := omega) only [if_pos, if_neg], by omega, hτ⟩
        · first
          | exfalso; omega
          | skip
            refine z_iload dX2_worth_67 rfl ?_
            refine z_aload_n dX2_worth_69 rfl ?_
            refine z_getI dX2_worth_70 gX2_44 rfl (Nat.le_of_ble_eq_true rfl) rfl (fun hr70 => ?_)
            try simp only [h27, h29, h3, z_rd, Nat.reduceEqDiff, ↓reduceIte, eq_self] at hr70 ⊢
            refine z_icmp_ge (tgt := 334) dX2_worth_73 (by decide) ⟨by omega, by omega⟩ ⟨by omega, by omega⟩ (fun h73 => ?_) (fun h73 => ?_)
            · first
              | exfalso; omega
              | skip
                refine z_iconst dX2_worth_334 ?_
                exact z_iret dX2_worth_335 ⟨by rw [evF]; simp (disch := omega) only [if_pos, if_neg], by omega, hτ⟩
            · first
              | exfalso; omega
              | skip
                refine z_iload dX2_worth_76 rfl ?_
                refine z_sipush (v := 256) dX2_worth_78 (by decide +kernel) ?_
                refine z_icmp_ge (tgt := 334) dX2_worth_81 (by decide) ⟨by omega, by omega⟩ ⟨by omega, by omega⟩ (fun h81 => ?_) (fun h81 => ?_)
                · first
                  | exfalso; omega
                  | skip
                    refine z_iconst dX2_worth_334 ?_
                    exact z_iret dX2_worth_335 ⟨by rw [evF]; simp (disch := omega) only [if_pos, if_neg], by omega, hτ⟩
                · first
                  | exfalso; omega
                  | skip
                    refine z_aload_n dX2_worth_84 rfl ?_
                    refine z_getR dX2_worth_85 gX2_18 rfl (Nat.le_of_ble_eq_true rfl) rfl ?_
                    refine z_iload dX2_worth_88 rfl ?_
                    refine z_iald dX2_worth_90 rfl (Nat.le_of_ble_eq_true rfl) (by omega) (fun hr90 => ?_)
                    try simp only [h27, h29, h3, z_rd, Nat.reduceEqDiff, ↓reduceIte, eq_self] at hr90 ⊢
                    refine z_istore (L' := [_, _, _, _, _, _, _, _, _, _, _]) dX2_worth_91 (Nat.le_of_ble_eq_true rfl) rfl rfl ?_
                    refine z_iinc (L' := [_, _, _, _, _, _, _, _, _, _, _]) dX2_worth_93 (Nat.le_of_ble_eq_true rfl) rfl rfl rfl ?_
                    refine z_iload dX2_worth_96 rfl ?_
                    refine z_bipush (v := -6) dX2_worth_98 (by decide +kernel) ?_
                    refine z_icmp_lt (tgt := 144) dX2_worth_100 (by decide) ⟨by omega, by omega⟩ ⟨by omega, by omega⟩ (fun h100 => ?_) (fun h100 => ?_)
                    · first
                      | exfalso; omega
                      | skip
                        refine z_iload dX2_worth_144 rfl ?_
                        refine z_iconst dX2_worth_146 ?_
                        refine z_icmp_lt (tgt := 157) dX2_worth_147 (by decide) ⟨by omega, by omega⟩ ⟨by omega, by omega⟩ (fun h147 => ?_) (fun h147 => ?_)
                        · first
                          | exfalso; omega
                          | skip
                            refine z_iconst dX2_worth_157 ?_
                            exact z_iret dX2_worth_158 ⟨by rw [evF]; simp (disch := omega) only [if_pos, if_neg], by omega, hτ⟩
                        · first
                          | exfalso; omega
                          | skip
                            refine z_iload dX2_worth_150 rfl ?_
                            refine z_bipush (v := 64) dX2_worth_152 (by decide +kernel) ?_
                            refine z_icmp_le (tgt := 159) dX2_worth_154 (by decide) ⟨by omega, by omega⟩ ⟨by omega, by omega⟩ (fun h154 => ?_) (fun h154 => ?_)
                            · first
                              | exfalso; omega
                              | skip
                                refine z_iload dX2_worth_159 rfl ?_
                                refine z_bipush (v := -59) dX2_worth_161 (by decide +kernel) ?_
                                refine z_icmp_ne (tgt := 176) dX2_worth_163 (by decide) ⟨by omega, by omega⟩ ⟨by omega, by omega⟩ (fun h163 => ?_) (fun h163 => ?_)
                                · first
                                  | exfalso; omega
                                  | skip
                                    refine z_iload dX2_worth_176 rfl ?_
                                    refine z_bipush (v := -63) dX2_worth_178 (by decide +kernel) ?_
                                    refine z_icmp_ne (tgt := 223) dX2_worth_180 (by decide) ⟨by omega, by omega⟩ ⟨by omega, by omega⟩ (fun h180 => ?_) (fun h180 => ?_)
                                    · first
                                      | exfalso; omega
                                      | skip
                                        refine z_iload dX2_worth_223 rfl ?_
                                        refine z_bipush (v := -33) dX2_worth_225 (by decide +kernel) ?_
                                        refine z_icmp_ne (tgt := 259) dX2_worth_227 (by decide) ⟨by omega, by omega⟩ ⟨by omega, by omega⟩ (fun h227 => ?_) (fun h227 => ?_)
                                        · first
                                          | exfalso; omega
                                          | skip
                                            refine z_iload dX2_worth_259 rfl ?_
                                            refine z_bipush (v := -126) dX2_worth_261 (by decide +kernel) ?_
                                            refine z_icmp_ne (tgt := 288) dX2_worth_263 (by decide) ⟨by omega, by omega⟩ ⟨by omega, by omega⟩ (fun h263 => ?_) (fun h263 => ?_)
                                            · first
                                              | exfalso; omega
                                              | skip
                                                refine z_iload dX2_worth_288 rfl ?_
                                                refine z_iconst dX2_worth_290 ?_
                                                refine z_icmp_lt (tgt := 328) dX2_worth_291 (by decide) ⟨by omega, by omega⟩ ⟨by omega, by omega⟩ (fun h291 => ?_) (fun h291 => ?_)
                                                · first
                                                  | exfalso; omega
                                                  | skip
                                                    refine z_iinc (L' := [_, _, _, _, _, _, _, _, _, _, _]) dX2_worth_328 (Nat.le_of_ble_eq_true rfl) rfl rfl rfl ?_
                                                    refine z_goto (tgt := 54) dX2_worth_331 (by decide) ?_
                                                    refine z_forget [true, true, true, true, true, true, true, true, true, true, false] (L' := [_, _, _, _, _, _, _, _, _, _, _]) rfl ?_
                                                    rw [evF]
                                                    simp (disch := omega) only [if_pos, if_neg]
                                                    first
                                                      | exact l_X2_worth τ _ _ _ (by omega) (by omega) (by omega) hτ
                                                      | (rw [← z_put_up]; exact l_X2_worth (z_put τ 28 _ _) _ _ _ (by omega) (by omega) (by omega) (hfr _ _))
                                                · first
                                                  | exfalso; omega
                                                  | skip
                                                    refine z_iinc (L' := [_, _, _, _, _, _, _, _, _, _, _]) dX2_worth_294 (Nat.le_of_ble_eq_true rfl) rfl rfl rfl ?_
                                                    refine z_aload_n dX2_worth_297 rfl ?_
                                                    refine z_getR dX2_worth_298 gX2_21 rfl (Nat.le_of_ble_eq_true rfl) rfl ?_
                                                    refine z_iload dX2_worth_301 rfl ?_
                                                    refine z_iconst dX2_worth_303 ?_
                                                    refine z_isub dX2_worth_304 ?_
                                                    refine z_iload dX2_worth_305 rfl ?_
                                                    refine z_ineg dX2_worth_307 ?_
                                                    refine z_wr ?_
                                                    refine z_aload_n dX2_worth_308 rfl ?_
                                                    refine z_getR dX2_worth_309 gX2_21 rfl (Nat.le_of_ble_eq_true rfl) rfl ?_
                                                    refine z_iload dX2_worth_312 rfl ?_
                                                    refine z_iconst dX2_worth_314 ?_
                                                    refine z_isub dX2_worth_315 ?_
                                                    refine z_iald dX2_worth_316 rfl (Nat.le_of_ble_eq_true rfl) (by omega) (fun hr316 => ?_)
                                                    try simp only [h27, h29, h3, z_rd, Nat.reduceEqDiff, ↓reduceIte, eq_self] at hr316 ⊢
                                                    refine z_aload_n dX2_worth_317 rfl ?_
                                                    refine z_getR dX2_worth_318 gX2_21 rfl (Nat.le_of_ble_eq_true rfl) rfl ?_
                                                    refine z_iload dX2_worth_321 rfl ?_
                                                    refine z_iald dX2_worth_323 rfl (Nat.le_of_ble_eq_true rfl) (by omega) (fun hr323 => ?_)
                                                    try simp only [h27, h29, h3, z_rd, Nat.reduceEqDiff, ↓reduceIte, eq_self] at hr323 ⊢
                                                    refine z_callSI (d := d + 0) (av := [_, _, _]) dX2_worth_324 sX2_82 rfl rfl (Nat.le_of_ble_eq_true rfl) (Nat.le_refl _) (c_X2_joined (wr_R _) (by omega) (by omega)) (fun z324 σ324 h324 => ?_)
                                                    obtain ⟨rfl, hs324⟩ := h324
                                                    subst σ324
                                                    refine z_iast dX2_worth_327 rfl (Nat.le_of_ble_eq_true rfl) (by omega) (joinF_R _ _ _) ?_
                                                    refine z_iinc (L' := [_, _, _, _, _, _, _, _, _, _, _]) dX2_worth_328 (Nat.le_of_ble_eq_true rfl) rfl rfl rfl ?_
                                                    refine z_goto (tgt := 54) dX2_worth_331 (by decide) ?_
                                                    refine z_forget [true, true, true, true, true, true, true, true, true, true, false] (L' := [_, _, _, _, _, _, _, _, _, _, _]) rfl ?_
                                                    rw [evF]
                                                    simp (disch := omega) only [if_pos, if_neg]
                                                    first
                                                      | exact l_X2_worth τ _ _ _ (by omega) (by omega) (by omega) hτ
                                                      | (rw [← z_put_up]; exact l_X2_worth (z_put τ 28 _ _) _ _ _ (by omega) (by omega) (by omega) (hfr _ _))
                                            · first
                                              | exfalso; omega
                                              | skip
                                                refine z_aload_n dX2_worth_266 rfl ?_
                                                refine z_getR dX2_worth_267 gX2_21 rfl (Nat.le_of_ble_eq_true rfl) rfl ?_
                                                refine z_iload dX2_worth_270 rfl ?_
                                                refine z_iconst dX2_worth_272 ?_
                                                refine z_isub dX2_worth_273 ?_
                                                refine z_aload_n dX2_worth_274 rfl ?_
                                                refine z_getR dX2_worth_275 gX2_21 rfl (Nat.le_of_ble_eq_true rfl) rfl ?_
                                                refine z_iload dX2_worth_278 rfl ?_
                                                refine z_iconst dX2_worth_280 ?_
                                                refine z_isub dX2_worth_281 ?_
                                                refine z_iald dX2_worth_282 rfl (Nat.le_of_ble_eq_true rfl) (by omega) (fun hr282 => ?_)
                                                try simp only [h27, h29, h3, z_rd, Nat.reduceEqDiff, ↓reduceIte, eq_self] at hr282 ⊢
                                                refine z_ineg dX2_worth_283 ?_
                                                refine z_wr ?_
                                                refine z_iast dX2_worth_284 rfl (Nat.le_of_ble_eq_true rfl) (by omega) (wr_R _) ?_
                                                refine z_goto (tgt := 328) dX2_worth_285 (by decide) ?_
                                                refine z_iinc (L' := [_, _, _, _, _, _, _, _, _, _, _]) dX2_worth_328 (Nat.le_of_ble_eq_true rfl) rfl rfl rfl ?_
                                                refine z_goto (tgt := 54) dX2_worth_331 (by decide) ?_
                                                refine z_forget [true, true, true, true, true, true, true, true, true, true, false] (L' := [_, _, _, _, _, _, _, _, _, _, _]) rfl ?_
                                                rw [evF]
                                                simp (disch := omega) only [if_pos, if_neg]
                                                first
                                                  | exact l_X2_worth τ _ _ _ (by omega) (by omega) (by omega) hτ
                                                  | (rw [← z_put_up]; exact l_X2_worth (z_put τ 28 _ _) _ _ _ (by omega) (by omega) (by omega) (hfr _ _))
                                        · first
                                          | exfalso; omega
                                          | skip
                                            refine z_aload_n dX2_worth_230 rfl ?_
                                            refine z_getR dX2_worth_231 gX2_21 rfl (Nat.le_of_ble_eq_true rfl) rfl ?_
                                            refine z_iload dX2_worth_234 rfl ?_
                                            refine z_iconst dX2_worth_236 ?_
                                            refine z_isub dX2_worth_237 ?_
                                            refine z_aload_n dX2_worth_238 rfl ?_
                                            refine z_getR dX2_worth_239 gX2_21 rfl (Nat.le_of_ble_eq_true rfl) rfl ?_
                                            refine z_iload dX2_worth_242 rfl ?_
                                            refine z_iconst dX2_worth_244 ?_
                                            refine z_isub dX2_worth_245 ?_
                                            refine z_iald dX2_worth_246 rfl (Nat.le_of_ble_eq_true rfl) (by omega) (fun hr246 => ?_)
                                            try simp only [h27, h29, h3, z_rd, Nat.reduceEqDiff, ↓reduceIte, eq_self] at hr246 ⊢
                                            refine z_if_ne (tgt := 254) dX2_worth_247 (by decide) ⟨by omega, by omega⟩ (fun h247 => ?_) (fun h247 => ?_)
                                            · first
                                              | exfalso; omega
                                              | skip
                                                refine z_iconst dX2_worth_254 ?_
                                                refine z_iast dX2_worth_255 rfl (Nat.le_of_ble_eq_true rfl) (by omega) ⟨by omega, by omega⟩ ?_
                                                refine z_goto (tgt := 328) dX2_worth_256 (by decide) ?_
                                                refine z_iinc (L' := [_, _, _, _, _, _, _, _, _, _, _]) dX2_worth_328 (Nat.le_of_ble_eq_true rfl) rfl rfl rfl ?_
                                                refine z_goto (tgt := 54) dX2_worth_331 (by decide) ?_
                                                refine z_forget [true, true, true, true, true, true, true, true, true, true, false] (L' := [_, _, _, _, _, _, _, _, _, _, _]) rfl ?_
                                                rw [evF]
                                                simp (disch := omega) only [if_pos, if_neg]
                                                first
                                                  | exact l_X2_worth τ _ _ _ (by omega) (by omega) (by omega) hτ
                                                  | (rw [← z_put_up]; exact l_X2_worth (z_put τ 28 _ _) _ _ _ (by omega) (by omega) (by omega) (hfr _ _))
                                            · first
                                              | exfalso; omega
                                              | skip
                                                refine z_iconst dX2_worth_250 ?_
                                                refine z_goto (tgt := 255) dX2_worth_251 (by decide) ?_
                                                refine z_iast dX2_worth_255 rfl (Nat.le_of_ble_eq_true rfl) (by omega) ⟨by omega, by omega⟩ ?_
                                                refine z_goto (tgt := 328) dX2_worth_256 (by decide) ?_
                                                refine z_iinc (L' := [_, _, _, _, _, _, _, _, _, _, _]) dX2_worth_328 (Nat.le_of_ble_eq_true rfl) rfl rfl rfl ?_
                                                refine z_goto (tgt := 54) dX2_worth_331 (by decide) ?_
                                                refine z_forget [true, true, true, true, true, true, true, true, true, true, false] (L' := [_, _, _, _, _, _, _, _, _, _, _]) rfl ?_
                                                rw [evF]
                                                simp (disch := omega) only [if_pos, if_neg]
                                                first
                                                  | exact l_X2_worth τ _ _ _ (by omega) (by omega) (by omega) hτ
                                                  | (rw [← z_put_up]; exact l_X2_worth (z_put τ 28 _ _) _ _ _ (by omega) (by omega) (by omega) (hfr _ _))
                                    · first
                                      | exfalso; omega
                                      | skip
                                        refine z_iinc (L' := [_, _, _, _, _, _, _, _, _, _, _]) dX2_worth_183 (Nat.le_of_ble_eq_true rfl) rfl rfl rfl ?_
                                        refine z_aload_n dX2_worth_186 rfl ?_
                                        refine z_getR dX2_worth_187 gX2_21 rfl (Nat.le_of_ble_eq_true rfl) rfl ?_
                                        refine z_iload dX2_worth_190 rfl ?_
                                        refine z_iald dX2_worth_192 rfl (Nat.le_of_ble_eq_true rfl) (by omega) (fun hr192 => ?_)
                                        try simp only [h27, h29, h3, z_rd, Nat.reduceEqDiff, ↓reduceIte, eq_self] at hr192 ⊢
                                        refine z_if_ne (tgt := 204) dX2_worth_193 (by decide) ⟨by omega, by omega⟩ (fun h193 => ?_) (fun h193 => ?_)
                                        · first
                                          | exfalso; omega
                                          | skip
                                            refine z_iload dX2_worth_204 rfl ?_
                                            refine z_iconst dX2_worth_206 ?_
                                            refine z_iadd dX2_worth_207 ?_
                                            refine z_goto (tgt := 218) dX2_worth_208 (by decide) ?_
                                            refine z_istore (L' := [_, _, _, _, _, _, _, _, _, _, _]) dX2_worth_218 (Nat.le_of_ble_eq_true rfl) rfl rfl ?_
                                            refine z_goto (tgt := 328) dX2_worth_220 (by decide) ?_
                                            refine z_iinc (L' := [_, _, _, _, _, _, _, _, _, _, _]) dX2_worth_328 (Nat.le_of_ble_eq_true rfl) rfl rfl rfl ?_
                                            refine z_goto (tgt := 54) dX2_worth_331 (by decide) ?_
                                            refine z_forget [true, true, true, true, true, true, true, true, true, true, false] (L' := [_, _, _, _, _, _, _, _, _, _, _]) rfl ?_
                                            rw [evF]
                                            simp (disch := omega) only [if_pos, if_neg]
                                            first
                                              | exact l_X2_worth τ _ _ _ (by omega) (by omega) (by omega) hτ
                                              | (rw [← z_put_up]; exact l_X2_worth (z_put τ 28 _ _) _ _ _ (by omega) (by omega) (by omega) (hfr _ _))
                                        · first
                                          | exfalso; omega
                                          | skip
                                            refine z_iload dX2_worth_196 rfl ?_
                                            refine z_sipush (v := 256) dX2_worth_198 (by decide +kernel) ?_
                                            refine z_icmp_lt (tgt := 211) dX2_worth_201 (by decide) ⟨by omega, by omega⟩ ⟨by omega, by omega⟩ (fun h201 => ?_) (fun h201 => ?_)
                                            · first
                                              | exfalso; omega
                                              | skip
                                                refine z_aload_n dX2_worth_211 rfl ?_
                                                refine z_getR dX2_worth_212 gX2_18 rfl (Nat.le_of_ble_eq_true rfl) rfl ?_
                                                refine z_iload dX2_worth_215 rfl ?_
                                                refine z_iald dX2_worth_217 rfl (Nat.le_of_ble_eq_true rfl) (by omega) (fun hr217 => ?_)
                                                try simp only [h27, h29, h3, z_rd, Nat.reduceEqDiff, ↓reduceIte, eq_self] at hr217 ⊢
                                                refine z_istore (L' := [_, _, _, _, _, _, _, _, _, _, _]) dX2_worth_218 (Nat.le_of_ble_eq_true rfl) rfl rfl ?_
                                                refine z_goto (tgt := 328) dX2_worth_220 (by decide) ?_
                                                refine z_iinc (L' := [_, _, _, _, _, _, _, _, _, _, _]) dX2_worth_328 (Nat.le_of_ble_eq_true rfl) rfl rfl rfl ?_
                                                refine z_goto (tgt := 54) dX2_worth_331 (by decide) ?_
                                                refine z_forget [true, true, true, true, true, true, true, true, true, true, false] (L' := [_, _, _, _, _, _, _, _, _, _, _]) rfl ?_
                                                rw [evF]
                                                simp (disch := omega) only [if_pos, if_neg]
                                                first
                                                  | exact l_X2_worth τ _ _ _ (by omega) (by omega) (by omega) hτ
                                                  | (rw [← z_put_up]; exact l_X2_worth (z_put τ 28 _ _) _ _ _ (by omega) (by omega) (by omega) (hfr _ _))
                                            · first
                                              | exfalso; omega
                                              | skip
                                                refine z_iload dX2_worth_204 rfl ?_
                                                refine z_iconst dX2_worth_206 ?_
                                                refine z_iadd dX2_worth_207 ?_
                                                refine z_goto (tgt := 218) dX2_worth_208 (by decide) ?_
                                                refine z_istore (L' := [_, _, _, _, _, _, _, _, _, _, _]) dX2_worth_218 (Nat.le_of_ble_eq_true rfl) rfl rfl ?_
                                                refine z_goto (tgt := 328) dX2_worth_220 (by decide) ?_
                                                refine z_iinc (L' := [_, _, _, _, _, _, _, _, _, _, _]) dX2_worth_328 (Nat.le_of_ble_eq_true rfl) rfl rfl rfl ?_
                                                refine z_goto (tgt := 54) dX2_worth_331 (by decide) ?_
                                                refine z_forget [true, true, true, true, true, true, true, true, true, true, false] (L' := [_, _, _, _, _, _, _, _, _, _, _]) rfl ?_
                                                rw [evF]
                                                simp (disch := omega) only [if_pos, if_neg]
                                                first
                                                  | exact l_X2_worth τ _ _ _ (by omega) (by omega) (by omega) hτ
                                                  | (rw [← z_put_up]; exact l_X2_worth (z_put τ 28 _ _) _ _ _ (by omega) (by omega) (by omega) (hfr _ _))
                                · first
                                  | exfalso; omega
                                  | skip
                                    refine z_aload_n dX2_worth_166 rfl ?_
                                    refine z_getR dX2_worth_167 gX2_21 rfl (Nat.le_of_ble_eq_true rfl) rfl ?_
                                    refine z_iload dX2_worth_170 rfl ?_
                                    refine z_iconst dX2_worth_172 ?_
                                    refine z_isub dX2_worth_173 ?_
                                    refine z_iald dX2_worth_174 rfl (Nat.le_of_ble_eq_true rfl) (by omega) (fun hr174 => ?_)
                                    try simp only [h27, h29, h3, z_rd, Nat.reduceEqDiff, ↓reduceIte, eq_self] at hr174 ⊢
                                    exact z_iret dX2_worth_175 ⟨by rw [evF]; simp (disch := omega) only [if_pos, if_neg], by omega, hτ⟩
                            · first
                              | exfalso; omega
                              | skip
                                refine z_iconst dX2_worth_157 ?_
                                exact z_iret dX2_worth_158 ⟨by rw [evF]; simp (disch := omega) only [if_pos, if_neg], by omega, hτ⟩
                    · first
                      | exfalso; omega
                      | skip
                        refine z_iload dX2_worth_103 rfl ?_
                        refine z_bipush (v := 64) dX2_worth_105 (by decide +kernel) ?_
                        refine z_icmp_lt (tgt := 112) dX2_worth_107 (by decide) ⟨by omega, by omega⟩ ⟨by omega, by omega⟩ (fun h107 => ?_) (fun h107 => ?_)
                        · first
                          | exfalso; omega
                          | skip
                            refine z_aload_n dX2_worth_112 rfl ?_
                            refine z_getR dX2_worth_113 gX2_21 rfl (Nat.le_of_ble_eq_true rfl) rfl ?_
                            refine z_iload dX2_worth_116 rfl ?_
                            refine z_iload dX2_worth_118 rfl ?_
                            refine z_if_lt (tgt := 128) dX2_worth_120 (by decide) ⟨by omega, by omega⟩ (fun h120 => ?_) (fun h120 => ?_)
                            · first
                              | exfalso; omega
                              | skip
                                refine z_aload_n dX2_worth_128 rfl ?_
                                refine z_getR dX2_worth_129 gX2_24 rfl (Nat.le_of_ble_eq_true rfl) rfl ?_
                                refine z_iconst dX2_worth_132 ?_
                                refine z_iload dX2_worth_133 rfl ?_
                                refine z_isub dX2_worth_135 ?_
                                refine z_iald dX2_worth_136 rfl (Nat.le_of_ble_eq_true rfl) (by omega) (fun hr136 => ?_)
                                try simp only [h27, h29, h3, z_rd, Nat.reduceEqDiff, ↓reduceIte, eq_self] at hr136 ⊢
                                refine z_iast dX2_worth_137 rfl (Nat.le_of_ble_eq_true rfl) (by omega) ⟨by omega, by omega⟩ ?_
                                refine z_iinc (L' := [_, _, _, _, _, _, _, _, _, _, _]) dX2_worth_138 (Nat.le_of_ble_eq_true rfl) rfl rfl rfl ?_
                                refine z_goto (tgt := 328) dX2_worth_141 (by decide) ?_
                                refine z_iinc (L' := [_, _, _, _, _, _, _, _, _, _, _]) dX2_worth_328 (Nat.le_of_ble_eq_true rfl) rfl rfl rfl ?_
                                refine z_goto (tgt := 54) dX2_worth_331 (by decide) ?_
                                refine z_forget [true, true, true, true, true, true, true, true, true, true, false] (L' := [_, _, _, _, _, _, _, _, _, _, _]) rfl ?_
                                rw [evF]
                                simp (disch := omega) only [if_pos, if_neg]
                                first
                                  | exact l_X2_worth τ _ _ _ (by omega) (by omega) (by omega) hτ
                                  | (rw [← z_put_up]; exact l_X2_worth (z_put τ 28 _ _) _ _ _ (by omega) (by omega) (by omega) (hfr _ _))
                            · first
                              | exfalso; omega
                              | skip
                                refine z_iload dX2_worth_123 rfl ?_
                                refine z_goto (tgt := 137) dX2_worth_125 (by decide) ?_
                                refine z_iast dX2_worth_137 rfl (Nat.le_of_ble_eq_true rfl) (by omega) ⟨by omega, by omega⟩ ?_
                                refine z_iinc (L' := [_, _, _, _, _, _, _, _, _, _, _]) dX2_worth_138 (Nat.le_of_ble_eq_true rfl) rfl rfl rfl ?_
                                refine z_goto (tgt := 328) dX2_worth_141 (by decide) ?_
                                refine z_iinc (L' := [_, _, _, _, _, _, _, _, _, _, _]) dX2_worth_328 (Nat.le_of_ble_eq_true rfl) rfl rfl rfl ?_
                                refine z_goto (tgt := 54) dX2_worth_331 (by decide) ?_
                                refine z_forget [true, true, true, true, true, true, true, true, true, true, false] (L' := [_, _, _, _, _, _, _, _, _, _, _]) rfl ?_
                                rw [evF]
                                simp (disch := omega) only [if_pos, if_neg]
                                first
                                  | exact l_X2_worth τ _ _ _ (by omega) (by omega) (by omega) hτ
                                  | (rw [← z_put_up]; exact l_X2_worth (z_put τ 28 _ _) _ _ _ (by omega) (by omega) (by omega) (hfr _ _))
                        · first
                          | exfalso; omega
                          | skip
                            refine z_iconst dX2_worth_110 ?_
                            exact z_iret dX2_worth_111 ⟨by rw [evF]; simp (disch := omega) only [if_pos, if_neg], by omega, hτ⟩
termination_by (256 - u).toNat
decreasing_by all_goals omega
