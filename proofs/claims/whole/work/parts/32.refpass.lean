/-! ===== the reference: whether a word passes ===== -/
theorem Seg.split {σ : Sto} {k : Nat} : ∀ {a b : List Int} {i : Nat}, Seg σ k i (a ++ b) → Seg σ k i a ∧ Seg σ k (i + a.length) b
  | [], b, i, h => ⟨trivial, h⟩
  | x :: r, b, i, h => by
    have := Seg.split (a := r) (b := b) h.2
    exact ⟨⟨h.1, this.1⟩, by rw [show i + (x :: r).length = i + 1 + r.length by rw [List.length_cons]; omega]; exact this.2⟩
theorem tdiv_m1 (a : Int) : a.tdiv (-1) = -a := by rw [Int.tdiv_neg, Int.tdiv_one]
theorem tmod_m1 (a : Int) : a.tmod (-1) = 0 := by rw [Int.tmod_neg, Int.tmod_one]
set_option maxRecDepth 20000 in
theorem c_X9_twoOf {d : Nat} {σ : Sto} {s a b : Int} (hs : s = 37 ∨ s = 38 ∨ s = 42 ∨ s = 43 ∨ s = 45 ∨ s = 47 ∨ s = 60 ∨ s = 61 ∨ s = 62 ∨ s = 124) (ha : inR a) (hb : inR b) : m_X9_twoOf d [zI s, zI a, zI b] σ (qI fun z σ' => z = joinF s a b ∧ σ' = σ) := by
  refine z_does (L := [some (zI s), some (zI a), some (zI b)]) rfl (by decide +kernel) (Nat.le_of_ble_eq_true rfl) rfl ?_
  refine z_iload_n dX9_twoOf_0 rfl ?_
  refine sw_X9_twoOf_1 ⟨by omega, by omega⟩ (fun h1 => ?_) (fun h1 => ?_) (fun h1 => ?_) (fun h1 => ?_) (fun h1 => ?_) (fun h1 => ?_) (fun h1 => ?_) (fun h1 => ?_) (fun h1 => ?_) (fun h1 => ?_)
  · first
    | exfalso; omega
    | skip
      refine z_iload_n dX9_twoOf_154 rfl ?_
      refine z_if_eq (tgt := 163) dX9_twoOf_155 (by decide) ⟨by omega, by omega⟩ (fun h155 => ?_) (fun h155 => ?_)
      · first
        | exfalso; omega
        | skip
          refine z_iconst dX9_twoOf_163 ?_
          refine z_goto (tgt := 170) dX9_twoOf_164 (by decide) ?_
          try refine z_wr ?_
          exact z_iret dX9_twoOf_170 ⟨by rw [show s = 37 by omega]; first | (rw [show b = -1 by omega]; simp [joinF, tmod_m1, wr_0]; done) | (unfold joinF; grind [wr_0]), rfl⟩
      · first
        | exfalso; omega
        | skip
          refine z_iload_n dX9_twoOf_158 rfl ?_
          refine z_iconst dX9_twoOf_159 ?_
          refine z_icmp_ne (tgt := 167) dX9_twoOf_160 (by decide) ⟨by omega, by omega⟩ ⟨by omega, by omega⟩ (fun h160 => ?_) (fun h160 => ?_)
          · first
            | exfalso; omega
            | skip
              refine z_iload_n dX9_twoOf_167 rfl ?_
              refine z_iload_n dX9_twoOf_168 rfl ?_
              refine z_irem dX9_twoOf_169 ⟨by omega, by omega⟩ ⟨by omega, by omega⟩ (by omega) ?_
              try refine z_wr ?_
              exact z_iret dX9_twoOf_170 ⟨by rw [show s = 37 by omega]; first | (rw [show b = -1 by omega]; simp [joinF, tmod_m1, wr_0]; done) | (unfold joinF; grind [wr_0]), rfl⟩
          · first
            | exfalso; omega
            | skip
              refine z_iconst dX9_twoOf_163 ?_
              refine z_goto (tgt := 170) dX9_twoOf_164 (by decide) ?_
              try refine z_wr ?_
              exact z_iret dX9_twoOf_170 ⟨by rw [show s = 37 by omega]; first | (rw [show b = -1 by omega]; simp [joinF, tmod_m1, wr_0]; done) | (unfold joinF; grind [wr_0]), rfl⟩
  · first
    | exfalso; omega
    | skip
      refine z_iload_n dX9_twoOf_204 rfl ?_
      refine z_if_eq (tgt := 216) dX9_twoOf_205 (by decide) ⟨by omega, by omega⟩ (fun h205 => ?_) (fun h205 => ?_)
      · first
        | exfalso; omega
        | skip
          refine z_iconst dX9_twoOf_216 ?_
          exact z_iret dX9_twoOf_217 ⟨by unfold joinF; grind [wr_0, tdiv_m1], rfl⟩
      · first
        | exfalso; omega
        | skip
          refine z_iload_n dX9_twoOf_208 rfl ?_
          refine z_if_eq (tgt := 216) dX9_twoOf_209 (by decide) ⟨by omega, by omega⟩ (fun h209 => ?_) (fun h209 => ?_)
          · first
            | exfalso; omega
            | skip
              refine z_iconst dX9_twoOf_216 ?_
              exact z_iret dX9_twoOf_217 ⟨by unfold joinF; grind [wr_0, tdiv_m1], rfl⟩
          · first
            | exfalso; omega
            | skip
              refine z_iconst dX9_twoOf_212 ?_
              refine z_goto (tgt := 217) dX9_twoOf_213 (by decide) ?_
              exact z_iret dX9_twoOf_217 ⟨by unfold joinF; grind [wr_0, tdiv_m1], rfl⟩
  · first
    | exfalso; omega
    | skip
      refine z_iload_n dX9_twoOf_128 rfl ?_
      refine z_iload_n dX9_twoOf_129 rfl ?_
      refine z_imul dX9_twoOf_130 ?_
      try refine z_wr ?_
      exact z_iret dX9_twoOf_131 ⟨by unfold joinF; grind [wr_0, tdiv_m1], rfl⟩
  · first
    | exfalso; omega
    | skip
      refine z_iload_n dX9_twoOf_120 rfl ?_
      refine z_iload_n dX9_twoOf_121 rfl ?_
      refine z_iadd dX9_twoOf_122 ?_
      try refine z_wr ?_
      exact z_iret dX9_twoOf_123 ⟨by unfold joinF; grind [wr_0, tdiv_m1], rfl⟩
  · first
    | exfalso; omega
    | skip
      refine z_iload_n dX9_twoOf_124 rfl ?_
      refine z_iload_n dX9_twoOf_125 rfl ?_
      refine z_isub dX9_twoOf_126 ?_
      try refine z_wr ?_
      exact z_iret dX9_twoOf_127 ⟨by unfold joinF; grind [wr_0, tdiv_m1], rfl⟩
  · first
    | exfalso; omega
    | skip
      refine z_iload_n dX9_twoOf_132 rfl ?_
      refine z_if_ne (tgt := 140) dX9_twoOf_133 (by decide) ⟨by omega, by omega⟩ (fun h133 => ?_) (fun h133 => ?_)
      · first
        | exfalso; omega
        | skip
          refine z_iload_n dX9_twoOf_140 rfl ?_
          refine z_iconst dX9_twoOf_141 ?_
          refine z_icmp_ne (tgt := 150) dX9_twoOf_142 (by decide) ⟨by omega, by omega⟩ ⟨by omega, by omega⟩ (fun h142 => ?_) (fun h142 => ?_)
          · first
            | exfalso; omega
            | skip
              refine z_iload_n dX9_twoOf_150 rfl ?_
              refine z_iload_n dX9_twoOf_151 rfl ?_
              refine z_idiv dX9_twoOf_152 ⟨by omega, by omega⟩ ⟨by omega, by omega⟩ (by omega) ?_
              try refine z_wr ?_
              exact z_iret dX9_twoOf_153 ⟨by unfold joinF; grind [wr_0, tdiv_m1], rfl⟩
          · first
            | exfalso; omega
            | skip
              refine z_iload_n dX9_twoOf_145 rfl ?_
              refine z_ineg dX9_twoOf_146 ?_
              refine z_goto (tgt := 153) dX9_twoOf_147 (by decide) ?_
              try refine z_wr ?_
              exact z_iret dX9_twoOf_153 ⟨by unfold joinF; grind [wr_0, tdiv_m1], rfl⟩
      · first
        | exfalso; omega
        | skip
          refine z_iconst dX9_twoOf_136 ?_
          refine z_goto (tgt := 153) dX9_twoOf_137 (by decide) ?_
          try refine z_wr ?_
          exact z_iret dX9_twoOf_153 ⟨by unfold joinF; grind [wr_0, tdiv_m1], rfl⟩
  · first
    | exfalso; omega
    | skip
      refine z_iload_n dX9_twoOf_171 rfl ?_
      refine z_iload_n dX9_twoOf_172 rfl ?_
      refine z_icmp_ge (tgt := 180) dX9_twoOf_173 (by decide) ⟨by omega, by omega⟩ ⟨by omega, by omega⟩ (fun h173 => ?_) (fun h173 => ?_)
      · first
        | exfalso; omega
        | skip
          refine z_iconst dX9_twoOf_180 ?_
          exact z_iret dX9_twoOf_181 ⟨by unfold joinF; grind [wr_0, tdiv_m1], rfl⟩
      · first
        | exfalso; omega
        | skip
          refine z_iconst dX9_twoOf_176 ?_
          refine z_goto (tgt := 181) dX9_twoOf_177 (by decide) ?_
          exact z_iret dX9_twoOf_181 ⟨by unfold joinF; grind [wr_0, tdiv_m1], rfl⟩
  · first
    | exfalso; omega
    | skip
      refine z_iload_n dX9_twoOf_182 rfl ?_
      refine z_iload_n dX9_twoOf_183 rfl ?_
      refine z_icmp_ne (tgt := 191) dX9_twoOf_184 (by decide) ⟨by omega, by omega⟩ ⟨by omega, by omega⟩ (fun h184 => ?_) (fun h184 => ?_)
      · first
        | exfalso; omega
        | skip
          refine z_iconst dX9_twoOf_191 ?_
          exact z_iret dX9_twoOf_192 ⟨by unfold joinF; grind [wr_0, tdiv_m1], rfl⟩
      · first
        | exfalso; omega
        | skip
          refine z_iconst dX9_twoOf_187 ?_
          refine z_goto (tgt := 192) dX9_twoOf_188 (by decide) ?_
          exact z_iret dX9_twoOf_192 ⟨by unfold joinF; grind [wr_0, tdiv_m1], rfl⟩
  · first
    | exfalso; omega
    | skip
      refine z_iload_n dX9_twoOf_193 rfl ?_
      refine z_iload_n dX9_twoOf_194 rfl ?_
      refine z_icmp_le (tgt := 202) dX9_twoOf_195 (by decide) ⟨by omega, by omega⟩ ⟨by omega, by omega⟩ (fun h195 => ?_) (fun h195 => ?_)
      · first
        | exfalso; omega
        | skip
          refine z_iconst dX9_twoOf_202 ?_
          exact z_iret dX9_twoOf_203 ⟨by unfold joinF; grind [wr_0, tdiv_m1], rfl⟩
      · first
        | exfalso; omega
        | skip
          refine z_iconst dX9_twoOf_198 ?_
          refine z_goto (tgt := 203) dX9_twoOf_199 (by decide) ?_
          exact z_iret dX9_twoOf_203 ⟨by unfold joinF; grind [wr_0, tdiv_m1], rfl⟩
  · first
    | exfalso; omega
    | skip
      refine z_iload_n dX9_twoOf_218 rfl ?_
      refine z_if_ne (tgt := 226) dX9_twoOf_219 (by decide) ⟨by omega, by omega⟩ (fun h219 => ?_) (fun h219 => ?_)
      · first
        | exfalso; omega
        | skip
          refine z_iconst dX9_twoOf_226 ?_
          refine z_goto (tgt := 231) dX9_twoOf_227 (by decide) ?_
          exact z_iret dX9_twoOf_231 ⟨by unfold joinF; grind [wr_0, tdiv_m1], rfl⟩
      · first
        | exfalso; omega
        | skip
          refine z_iload_n dX9_twoOf_222 rfl ?_
          refine z_if_eq (tgt := 230) dX9_twoOf_223 (by decide) ⟨by omega, by omega⟩ (fun h223 => ?_) (fun h223 => ?_)
          · first
            | exfalso; omega
            | skip
              refine z_iconst dX9_twoOf_230 ?_
              exact z_iret dX9_twoOf_231 ⟨by unfold joinF; grind [wr_0, tdiv_m1], rfl⟩
          · first
            | exfalso; omega
            | skip
              refine z_iconst dX9_twoOf_226 ?_
              refine z_goto (tgt := 231) dX9_twoOf_227 (by decide) ?_
              exact z_iret dX9_twoOf_231 ⟨by unfold joinF; grind [wr_0, tdiv_m1], rfl⟩
set_option maxRecDepth 20000 in
set_option maxHeartbeats 2000000 in
theorem l_X9_worked {d : Nat} {σ : Sto} {fi en : Int} (hR : 0 ≤ en ∧ en ≤ 130) :
    ∀ (r : Nat) (τ : Sto) (k n : Int), 0 ≤ k → k + r = en → inR n → wkS (σ 96) (σ 97) r k.toNat n → (∀ a, a ≠ 102 → τ a = σ a) →
    Z (z_me cX9_worked RX9 7 (some .int) (d + 1) (qI fun z σ' => z = wkF (σ 96) (σ 97) (σ 101) r k.toNat (τ 102) n 0 ∧ inR z ∧ ∀ a, a ≠ 102 → σ' a = σ a)) 12 [some (zR 9), some (zI 0), some (zI fi), some (zI en), some (zI n), some (zI k), none] [] τ
  | 0, τ, k, n, h0, hk, hn, hS, hK => by
    refine z_iload dX9_worked_12 rfl ?_
    refine z_sipush (v := 130) dX9_worked_14 (by decide +kernel) ?_
    refine z_iload_n dX9_worked_17 rfl ?_
    refine z_imul dX9_worked_18 ?_
    refine z_iload_n dX9_worked_19 rfl ?_
    refine z_iadd dX9_worked_20 ?_
    refine z_icmp_ge (tgt := 188) dX9_worked_21 (by decide) ⟨by omega, by omega⟩ ⟨by omega, by omega⟩ (fun h21 => ?_) (fun h21 => ?_)
    · skip
      refine z_aload_n dX9_worked_188 rfl ?_
      refine z_getR dX9_worked_189 gX9_78 rfl (Nat.le_of_ble_eq_true rfl) rfl ?_
      refine z_iconst dX9_worked_192 ?_
      refine z_iald dX9_worked_193 rfl (Nat.le_of_ble_eq_true rfl) (by omega) (fun hr193 => ?_)
      exact z_iret dX9_worked_194 ⟨rfl, by omega, hK⟩
    · exfalso; omega
  | r + 1, τ, k, n, h0, hk, hn, hS, hK => by
    have e96 : τ 96 = σ 96 := hK 96 (by decide)
    have e97 : τ 97 = σ 97 := hK 97 (by decide)
    have e101 : τ 101 = σ 101 := hK 101 (by decide)
    have ek : (k + 1).toNat = k.toNat + 1 := toN_s h0
    have hA : (σ 96 k.toNat = 1 ∧ (0 ≤ n ∧ n < 130)) ∨ (σ 96 k.toNat = 2 ∧ (0 ≤ σ 97 k.toNat ∧ σ 97 k.toNat < 6) ∧ (0 ≤ n ∧ n < 130)) ∨ ((σ 96 k.toNat = 3 ∨ σ 96 k.toNat = 4) ∧ (1 ≤ n ∧ n ≤ 130)) ∨ ((σ 96 k.toNat = 37 ∨ σ 96 k.toNat = 38 ∨ σ 96 k.toNat = 42 ∨ σ 96 k.toNat = 43 ∨ σ 96 k.toNat = 45 ∨ σ 96 k.toNat = 47 ∨ σ 96 k.toNat = 60 ∨ σ 96 k.toNat = 61 ∨ σ 96 k.toNat = 62 ∨ σ 96 k.toNat = 124) ∧ (2 ≤ n ∧ n < 130)) := by
      rcases hS with ⟨q1, q2, -⟩ | ⟨q1, q2, q3, -⟩ | ⟨q1, q2, -⟩ | ⟨q1, q2, -⟩
      · exact Or.inl ⟨q1, q2⟩
      · exact Or.inr (Or.inl ⟨q1, q2, q3⟩)
      · exact Or.inr (Or.inr (Or.inl ⟨q1, q2⟩))
      · exact Or.inr (Or.inr (Or.inr ⟨q1, q2⟩))
    have hS1 : σ 96 k.toNat = 1 → wkS (σ 96) (σ 97) r (k.toNat + 1) (n + 1) := fun q => by
      rcases hS with ⟨q1, q2, q3⟩ | ⟨q1, q2, q3, q4⟩ | ⟨q1, q2, q3⟩ | ⟨q1, q2, q3⟩
      · exact q3
      · exact q4
      · exfalso; omega
      · exfalso; omega
    have hS2 : σ 96 k.toNat = 2 → wkS (σ 96) (σ 97) r (k.toNat + 1) (n + 1) := fun q => by
      rcases hS with ⟨q1, q2, q3⟩ | ⟨q1, q2, q3, q4⟩ | ⟨q1, q2, q3⟩ | ⟨q1, q2, q3⟩
      · exact q3
      · exact q4
      · exfalso; omega
      · exfalso; omega
    have hS3 : σ 96 k.toNat = 3 ∨ σ 96 k.toNat = 4 → wkS (σ 96) (σ 97) r (k.toNat + 1) n := fun q => by
      rcases hS with ⟨q1, q2, q3⟩ | ⟨q1, q2, q3, q4⟩ | ⟨q1, q2, q3⟩ | ⟨q1, q2, q3⟩
      · exfalso; omega
      · exfalso; omega
      · exact q3
      · exfalso; omega
    have hS4 : 5 ≤ σ 96 k.toNat → wkS (σ 96) (σ 97) r (k.toNat + 1) (n - 1) := fun q => by
      rcases hS with ⟨q1, q2, q3⟩ | ⟨q1, q2, q3, q4⟩ | ⟨q1, q2, q3⟩ | ⟨q1, q2, q3⟩
      · exfalso; omega
      · exfalso; omega
      · exfalso; omega
      · exact q3
    have hF : ∀ (i : Nat) (x : Int) (a : Nat), a ≠ 102 → z_put τ 102 i x a = σ a := fun i x a ha => by rw [z_put_ne ha]; exact hK a ha
    refine z_iload dX9_worked_12 rfl ?_
    refine z_sipush (v := 130) dX9_worked_14 (by decide +kernel) ?_
    refine z_iload_n dX9_worked_17 rfl ?_
    refine z_imul dX9_worked_18 ?_
    refine z_iload_n dX9_worked_19 rfl ?_
    refine z_iadd dX9_worked_20 ?_
    refine z_icmp_ge (tgt := 188) dX9_worked_21 (by decide) ⟨by omega, by omega⟩ ⟨by omega, by omega⟩ (fun h21 => ?_) (fun h21 => ?_)
    · exfalso; omega
    · skip
      refine z_aload_n dX9_worked_24 rfl ?_
      refine z_getR dX9_worked_25 gX9_59 rfl (Nat.le_of_ble_eq_true rfl) rfl ?_
      refine z_iload dX9_worked_28 rfl ?_
      refine z_bald dX9_worked_30 rfl (Nat.le_of_ble_eq_true rfl) (by omega) (fun hr30 => ?_)
      try simp only [e96, e97, e101, z_rd, Nat.reduceEqDiff, ↓reduceIte, eq_self] at hr30 ⊢
      refine z_istore (L' := [_, _, _, _, _, _, _]) dX9_worked_31 (Nat.le_of_ble_eq_true rfl) rfl rfl ?_
      refine z_iload dX9_worked_33 rfl ?_
      refine z_iconst dX9_worked_35 ?_
      refine z_icmp_eq (tgt := 45) dX9_worked_36 (by decide) ⟨by omega, by omega⟩ ⟨by omega, by omega⟩ (fun h36 => ?_) (fun h36 => ?_)
      · first
        | exfalso; omega
        | skip
          refine z_aload_n dX9_worked_45 rfl ?_
          refine z_getR dX9_worked_46 gX9_78 rfl (Nat.le_of_ble_eq_true rfl) rfl ?_
          refine z_iload dX9_worked_49 rfl ?_
          refine z_iload dX9_worked_51 rfl ?_
          refine z_iconst dX9_worked_53 ?_
          refine z_icmp_ne (tgt := 67) dX9_worked_54 (by decide) ⟨by omega, by omega⟩ ⟨by omega, by omega⟩ (fun h54 => ?_) (fun h54 => ?_)
          · first
            | exfalso; omega
            | skip
              refine z_aload_n dX9_worked_67 rfl ?_
              refine z_getR dX9_worked_68 gX9_75 rfl (Nat.le_of_ble_eq_true rfl) rfl ?_
              refine z_aload_n dX9_worked_71 rfl ?_
              refine z_getR dX9_worked_72 gX9_62 rfl (Nat.le_of_ble_eq_true rfl) rfl ?_
              refine z_iload dX9_worked_75 rfl ?_
              refine z_iald dX9_worked_77 rfl (Nat.le_of_ble_eq_true rfl) (by omega) (fun hr77 => ?_)
              try simp only [e96, e97, e101, z_rd, Nat.reduceEqDiff, ↓reduceIte, eq_self] at hr77 ⊢
              refine z_iald dX9_worked_78 rfl (Nat.le_of_ble_eq_true rfl) (by omega) (fun hr78 => ?_)
              try simp only [e96, e97, e101, z_rd, Nat.reduceEqDiff, ↓reduceIte, eq_self] at hr78 ⊢
              refine z_iast dX9_worked_79 rfl (Nat.le_of_ble_eq_true rfl) (by omega) ⟨by omega, by omega⟩ ?_
              refine z_iinc (L' := [_, _, _, _, _, _, _]) dX9_worked_80 (Nat.le_of_ble_eq_true rfl) rfl rfl rfl ?_
              refine z_goto (tgt := 182) dX9_worked_83 (by decide) ?_
              refine z_iinc (L' := [_, _, _, _, _, _, _]) dX9_worked_182 (Nat.le_of_ble_eq_true rfl) rfl rfl rfl ?_
              refine z_goto (tgt := 12) dX9_worked_185 (by decide) ?_
              refine z_forget [true, true, true, true, true, true, false] (L' := [_, _, _, _, _, _, _]) rfl ?_
              rw [wkF]
              first
                | (rw [if_pos (by omega), ← ek, ← z_put_up]; exact l_X9_worked hR r _ (k + 1) (n + 1) (by omega) (by omega) (by omega) (by rw [ek]; exact hS1 (by omega)) (hF _ _))
                | (rw [if_neg (by omega), if_pos (by omega), ← ek, ← z_put_up]; exact l_X9_worked hR r _ (k + 1) (n + 1) (by omega) (by omega) (by omega) (by rw [ek]; exact hS2 (by omega)) (hF _ _))
                | (rw [if_neg (by omega), if_neg (by omega), if_pos (by omega), ← ek, ← z_put_up]; first | rw [if_pos (by omega)] | rw [if_neg (by omega)]
                   exact l_X9_worked hR r _ (k + 1) n (by omega) (by omega) (by omega) (by rw [ek]; exact hS3 (by omega)) (hF _ _))
                | (rw [if_neg (by omega), if_neg (by omega), if_neg (by omega), if_pos (by omega), ← ek, ← z_put_up]
                   exact l_X9_worked hR r _ (k + 1) n (by omega) (by omega) (by omega) (by rw [ek]; exact hS3 (by omega)) (hF _ _))
                | (rw [if_neg (by omega), if_neg (by omega), if_neg (by omega), if_neg (by omega), ← ek, ← z_put_up]
                   exact l_X9_worked hR r _ (k + 1) (n + -1) (by omega) (by omega) (by omega) (by rw [ek]; exact hS4 (by omega)) (hF _ _))
          · first
            | exfalso; omega
            | skip
              refine z_aload_n dX9_worked_57 rfl ?_
              refine z_getR dX9_worked_58 gX9_62 rfl (Nat.le_of_ble_eq_true rfl) rfl ?_
              refine z_iload dX9_worked_61 rfl ?_
              refine z_iald dX9_worked_63 rfl (Nat.le_of_ble_eq_true rfl) (by omega) (fun hr63 => ?_)
              try simp only [e96, e97, e101, z_rd, Nat.reduceEqDiff, ↓reduceIte, eq_self] at hr63 ⊢
              refine z_goto (tgt := 79) dX9_worked_64 (by decide) ?_
              refine z_iast dX9_worked_79 rfl (Nat.le_of_ble_eq_true rfl) (by omega) ⟨by omega, by omega⟩ ?_
              refine z_iinc (L' := [_, _, _, _, _, _, _]) dX9_worked_80 (Nat.le_of_ble_eq_true rfl) rfl rfl rfl ?_
              refine z_goto (tgt := 182) dX9_worked_83 (by decide) ?_
              refine z_iinc (L' := [_, _, _, _, _, _, _]) dX9_worked_182 (Nat.le_of_ble_eq_true rfl) rfl rfl rfl ?_
              refine z_goto (tgt := 12) dX9_worked_185 (by decide) ?_
              refine z_forget [true, true, true, true, true, true, false] (L' := [_, _, _, _, _, _, _]) rfl ?_
              rw [wkF]
              first
                | (rw [if_pos (by omega), ← ek, ← z_put_up]; exact l_X9_worked hR r _ (k + 1) (n + 1) (by omega) (by omega) (by omega) (by rw [ek]; exact hS1 (by omega)) (hF _ _))
                | (rw [if_neg (by omega), if_pos (by omega), ← ek, ← z_put_up]; exact l_X9_worked hR r _ (k + 1) (n + 1) (by omega) (by omega) (by omega) (by rw [ek]; exact hS2 (by omega)) (hF _ _))
                | (rw [if_neg (by omega), if_neg (by omega), if_pos (by omega), ← ek, ← z_put_up]; first | rw [if_pos (by omega)] | rw [if_neg (by omega)]
                   exact l_X9_worked hR r _ (k + 1) n (by omega) (by omega) (by omega) (by rw [ek]; exact hS3 (by omega)) (hF _ _))
                | (rw [if_neg (by omega), if_neg (by omega), if_neg (by omega), if_pos (by omega), ← ek, ← z_put_up]
                   exact l_X9_worked hR r _ (k + 1) n (by omega) (by omega) (by omega) (by rw [ek]; exact hS3 (by omega)) (hF _ _))
                | (rw [if_neg (by omega), if_neg (by omega), if_neg (by omega), if_neg (by omega), ← ek, ← z_put_up]
                   exact l_X9_worked hR r _ (k + 1) (n + -1) (by omega) (by omega) (by omega) (by rw [ek]; exact hS4 (by omega)) (hF _ _))
      · first
        | exfalso; omega
        | skip
          refine z_iload dX9_worked_39 rfl ?_
          refine z_iconst dX9_worked_41 ?_
          refine z_icmp_ne (tgt := 86) dX9_worked_42 (by decide) ⟨by omega, by omega⟩ ⟨by omega, by omega⟩ (fun h42 => ?_) (fun h42 => ?_)
          · first
            | exfalso; omega
            | skip
              refine z_iload dX9_worked_86 rfl ?_
              refine z_iconst dX9_worked_88 ?_
              refine z_icmp_ne (tgt := 121) dX9_worked_89 (by decide) ⟨by omega, by omega⟩ ⟨by omega, by omega⟩ (fun h89 => ?_) (fun h89 => ?_)
              · first
                | exfalso; omega
                | skip
                  refine z_iload dX9_worked_121 rfl ?_
                  refine z_iconst dX9_worked_123 ?_
                  refine z_icmp_ne (tgt := 149) dX9_worked_124 (by decide) ⟨by omega, by omega⟩ ⟨by omega, by omega⟩ (fun h124 => ?_) (fun h124 => ?_)
                  · first
                    | exfalso; omega
                    | skip
                      refine z_iinc (L' := [_, _, _, _, _, _, _]) dX9_worked_149 (Nat.le_of_ble_eq_true rfl) rfl rfl rfl ?_
                      refine z_aload_n dX9_worked_152 rfl ?_
                      refine z_getR dX9_worked_153 gX9_78 rfl (Nat.le_of_ble_eq_true rfl) rfl ?_
                      refine z_iload dX9_worked_156 rfl ?_
                      refine z_iconst dX9_worked_158 ?_
                      refine z_isub dX9_worked_159 ?_
                      refine z_iload dX9_worked_160 rfl ?_
                      refine z_aload_n dX9_worked_162 rfl ?_
                      refine z_getR dX9_worked_163 gX9_78 rfl (Nat.le_of_ble_eq_true rfl) rfl ?_
                      refine z_iload dX9_worked_166 rfl ?_
                      refine z_iconst dX9_worked_168 ?_
                      refine z_isub dX9_worked_169 ?_
                      refine z_iald dX9_worked_170 rfl (Nat.le_of_ble_eq_true rfl) (by omega) (fun hr170 => ?_)
                      try simp only [e96, e97, e101, z_rd, Nat.reduceEqDiff, ↓reduceIte, eq_self] at hr170 ⊢
                      refine z_aload_n dX9_worked_171 rfl ?_
                      refine z_getR dX9_worked_172 gX9_78 rfl (Nat.le_of_ble_eq_true rfl) rfl ?_
                      refine z_iload dX9_worked_175 rfl ?_
                      refine z_iald dX9_worked_177 rfl (Nat.le_of_ble_eq_true rfl) (by omega) (fun hr177 => ?_)
                      try simp only [e96, e97, e101, z_rd, Nat.reduceEqDiff, ↓reduceIte, eq_self] at hr177 ⊢
                      refine z_callSI (d := d + 0) (av := [_, _, _]) dX9_worked_178 sX9_251 rfl rfl (Nat.le_of_ble_eq_true rfl) (Nat.le_refl _) (c_X9_twoOf (by omega) (by omega) (by omega)) (fun z178 σ178 h178 => ?_)
                      obtain ⟨rfl, hs178⟩ := h178
                      subst σ178
                      refine z_iast dX9_worked_181 rfl (Nat.le_of_ble_eq_true rfl) (by omega) (joinF_R _ _ _) ?_
                      refine z_iinc (L' := [_, _, _, _, _, _, _]) dX9_worked_182 (Nat.le_of_ble_eq_true rfl) rfl rfl rfl ?_
                      refine z_goto (tgt := 12) dX9_worked_185 (by decide) ?_
                      refine z_forget [true, true, true, true, true, true, false] (L' := [_, _, _, _, _, _, _]) rfl ?_
                      rw [wkF]
                      first
                        | (rw [if_pos (by omega), ← ek, ← z_put_up]; exact l_X9_worked hR r _ (k + 1) (n + 1) (by omega) (by omega) (by omega) (by rw [ek]; exact hS1 (by omega)) (hF _ _))
                        | (rw [if_neg (by omega), if_pos (by omega), ← ek, ← z_put_up]; exact l_X9_worked hR r _ (k + 1) (n + 1) (by omega) (by omega) (by omega) (by rw [ek]; exact hS2 (by omega)) (hF _ _))
                        | (rw [if_neg (by omega), if_neg (by omega), if_pos (by omega), ← ek, ← z_put_up]; first | rw [if_pos (by omega)] | rw [if_neg (by omega)]
                           exact l_X9_worked hR r _ (k + 1) n (by omega) (by omega) (by omega) (by rw [ek]; exact hS3 (by omega)) (hF _ _))
                        | (rw [if_neg (by omega), if_neg (by omega), if_neg (by omega), if_pos (by omega), ← ek, ← z_put_up]
                           exact l_X9_worked hR r _ (k + 1) n (by omega) (by omega) (by omega) (by rw [ek]; exact hS3 (by omega)) (hF _ _))
                        | (rw [if_neg (by omega), if_neg (by omega), if_neg (by omega), if_neg (by omega), ← ek, ← z_put_up]
                           exact l_X9_worked hR r _ (k + 1) (n + -1) (by omega) (by omega) (by omega) (by rw [ek]; exact hS4 (by omega)) (hF _ _))
                  · first
                    | exfalso; omega
                    | skip
                      refine z_aload_n dX9_worked_127 rfl ?_
                      refine z_getR dX9_worked_128 gX9_78 rfl (Nat.le_of_ble_eq_true rfl) rfl ?_
                      refine z_iload dX9_worked_131 rfl ?_
                      refine z_iconst dX9_worked_133 ?_
                      refine z_isub dX9_worked_134 ?_
                      refine z_aload_n dX9_worked_135 rfl ?_
                      refine z_getR dX9_worked_136 gX9_78 rfl (Nat.le_of_ble_eq_true rfl) rfl ?_
                      refine z_iload dX9_worked_139 rfl ?_
                      refine z_iconst dX9_worked_141 ?_
                      refine z_isub dX9_worked_142 ?_
                      refine z_iald dX9_worked_143 rfl (Nat.le_of_ble_eq_true rfl) (by omega) (fun hr143 => ?_)
                      try simp only [e96, e97, e101, z_rd, Nat.reduceEqDiff, ↓reduceIte, eq_self] at hr143 ⊢
                      refine z_ineg dX9_worked_144 ?_
                      refine z_wr ?_
                      refine z_iast dX9_worked_145 rfl (Nat.le_of_ble_eq_true rfl) (by omega) (wr_R _) ?_
                      refine z_goto (tgt := 182) dX9_worked_146 (by decide) ?_
                      refine z_iinc (L' := [_, _, _, _, _, _, _]) dX9_worked_182 (Nat.le_of_ble_eq_true rfl) rfl rfl rfl ?_
                      refine z_goto (tgt := 12) dX9_worked_185 (by decide) ?_
                      refine z_forget [true, true, true, true, true, true, false] (L' := [_, _, _, _, _, _, _]) rfl ?_
                      rw [wkF]
                      first
                        | (rw [if_pos (by omega), ← ek, ← z_put_up]; exact l_X9_worked hR r _ (k + 1) (n + 1) (by omega) (by omega) (by omega) (by rw [ek]; exact hS1 (by omega)) (hF _ _))
                        | (rw [if_neg (by omega), if_pos (by omega), ← ek, ← z_put_up]; exact l_X9_worked hR r _ (k + 1) (n + 1) (by omega) (by omega) (by omega) (by rw [ek]; exact hS2 (by omega)) (hF _ _))
                        | (rw [if_neg (by omega), if_neg (by omega), if_pos (by omega), ← ek, ← z_put_up]; first | rw [if_pos (by omega)] | rw [if_neg (by omega)]
                           exact l_X9_worked hR r _ (k + 1) n (by omega) (by omega) (by omega) (by rw [ek]; exact hS3 (by omega)) (hF _ _))
                        | (rw [if_neg (by omega), if_neg (by omega), if_neg (by omega), if_pos (by omega), ← ek, ← z_put_up]
                           exact l_X9_worked hR r _ (k + 1) n (by omega) (by omega) (by omega) (by rw [ek]; exact hS3 (by omega)) (hF _ _))
                        | (rw [if_neg (by omega), if_neg (by omega), if_neg (by omega), if_neg (by omega), ← ek, ← z_put_up]
                           exact l_X9_worked hR r _ (k + 1) (n + -1) (by omega) (by omega) (by omega) (by rw [ek]; exact hS4 (by omega)) (hF _ _))
              · first
                | exfalso; omega
                | skip
                  refine z_aload_n dX9_worked_92 rfl ?_
                  refine z_getR dX9_worked_93 gX9_78 rfl (Nat.le_of_ble_eq_true rfl) rfl ?_
                  refine z_iload dX9_worked_96 rfl ?_
                  refine z_iconst dX9_worked_98 ?_
                  refine z_isub dX9_worked_99 ?_
                  refine z_aload_n dX9_worked_100 rfl ?_
                  refine z_getR dX9_worked_101 gX9_78 rfl (Nat.le_of_ble_eq_true rfl) rfl ?_
                  refine z_iload dX9_worked_104 rfl ?_
                  refine z_iconst dX9_worked_106 ?_
                  refine z_isub dX9_worked_107 ?_
                  refine z_iald dX9_worked_108 rfl (Nat.le_of_ble_eq_true rfl) (by omega) (fun hr108 => ?_)
                  try simp only [e96, e97, e101, z_rd, Nat.reduceEqDiff, ↓reduceIte, eq_self] at hr108 ⊢
                  refine z_if_ne (tgt := 116) dX9_worked_109 (by decide) ⟨by omega, by omega⟩ (fun h109 => ?_) (fun h109 => ?_)
                  · first
                    | exfalso; omega
                    | skip
                      refine z_iconst dX9_worked_116 ?_
                      refine z_iast dX9_worked_117 rfl (Nat.le_of_ble_eq_true rfl) (by omega) (by omega) ?_
                      refine z_goto (tgt := 182) dX9_worked_118 (by decide) ?_
                      refine z_iinc (L' := [_, _, _, _, _, _, _]) dX9_worked_182 (Nat.le_of_ble_eq_true rfl) rfl rfl rfl ?_
                      refine z_goto (tgt := 12) dX9_worked_185 (by decide) ?_
                      refine z_forget [true, true, true, true, true, true, false] (L' := [_, _, _, _, _, _, _]) rfl ?_
                      rw [wkF]
                      first
                        | (rw [if_pos (by omega), ← ek, ← z_put_up]; exact l_X9_worked hR r _ (k + 1) (n + 1) (by omega) (by omega) (by omega) (by rw [ek]; exact hS1 (by omega)) (hF _ _))
                        | (rw [if_neg (by omega), if_pos (by omega), ← ek, ← z_put_up]; exact l_X9_worked hR r _ (k + 1) (n + 1) (by omega) (by omega) (by omega) (by rw [ek]; exact hS2 (by omega)) (hF _ _))
                        | (rw [if_neg (by omega), if_neg (by omega), if_pos (by omega), ← ek, ← z_put_up]; first | rw [if_pos (by omega)] | rw [if_neg (by omega)]
                           exact l_X9_worked hR r _ (k + 1) n (by omega) (by omega) (by omega) (by rw [ek]; exact hS3 (by omega)) (hF _ _))
                        | (rw [if_neg (by omega), if_neg (by omega), if_neg (by omega), if_pos (by omega), ← ek, ← z_put_up]
                           exact l_X9_worked hR r _ (k + 1) n (by omega) (by omega) (by omega) (by rw [ek]; exact hS3 (by omega)) (hF _ _))
                        | (rw [if_neg (by omega), if_neg (by omega), if_neg (by omega), if_neg (by omega), ← ek, ← z_put_up]
                           exact l_X9_worked hR r _ (k + 1) (n + -1) (by omega) (by omega) (by omega) (by rw [ek]; exact hS4 (by omega)) (hF _ _))
                  · first
                    | exfalso; omega
                    | skip
                      refine z_iconst dX9_worked_112 ?_
                      refine z_goto (tgt := 117) dX9_worked_113 (by decide) ?_
                      refine z_iast dX9_worked_117 rfl (Nat.le_of_ble_eq_true rfl) (by omega) (by omega) ?_
                      refine z_goto (tgt := 182) dX9_worked_118 (by decide) ?_
                      refine z_iinc (L' := [_, _, _, _, _, _, _]) dX9_worked_182 (Nat.le_of_ble_eq_true rfl) rfl rfl rfl ?_
                      refine z_goto (tgt := 12) dX9_worked_185 (by decide) ?_
                      refine z_forget [true, true, true, true, true, true, false] (L' := [_, _, _, _, _, _, _]) rfl ?_
                      rw [wkF]
                      first
                        | (rw [if_pos (by omega), ← ek, ← z_put_up]; exact l_X9_worked hR r _ (k + 1) (n + 1) (by omega) (by omega) (by omega) (by rw [ek]; exact hS1 (by omega)) (hF _ _))
                        | (rw [if_neg (by omega), if_pos (by omega), ← ek, ← z_put_up]; exact l_X9_worked hR r _ (k + 1) (n + 1) (by omega) (by omega) (by omega) (by rw [ek]; exact hS2 (by omega)) (hF _ _))
                        | (rw [if_neg (by omega), if_neg (by omega), if_pos (by omega), ← ek, ← z_put_up]; first | rw [if_pos (by omega)] | rw [if_neg (by omega)]
                           exact l_X9_worked hR r _ (k + 1) n (by omega) (by omega) (by omega) (by rw [ek]; exact hS3 (by omega)) (hF _ _))
                        | (rw [if_neg (by omega), if_neg (by omega), if_neg (by omega), if_pos (by omega), ← ek, ← z_put_up]
                           exact l_X9_worked hR r _ (k + 1) n (by omega) (by omega) (by omega) (by rw [ek]; exact hS3 (by omega)) (hF _ _))
                        | (rw [if_neg (by omega), if_neg (by omega), if_neg (by omega), if_neg (by omega), ← ek, ← z_put_up]
                           exact l_X9_worked hR r _ (k + 1) (n + -1) (by omega) (by omega) (by omega) (by rw [ek]; exact hS4 (by omega)) (hF _ _))
          · first
            | exfalso; omega
            | skip
              refine z_aload_n dX9_worked_45 rfl ?_
              refine z_getR dX9_worked_46 gX9_78 rfl (Nat.le_of_ble_eq_true rfl) rfl ?_
              refine z_iload dX9_worked_49 rfl ?_
              refine z_iload dX9_worked_51 rfl ?_
              refine z_iconst dX9_worked_53 ?_
              refine z_icmp_ne (tgt := 67) dX9_worked_54 (by decide) ⟨by omega, by omega⟩ ⟨by omega, by omega⟩ (fun h54 => ?_) (fun h54 => ?_)
              · first
                | exfalso; omega
                | skip
                  refine z_aload_n dX9_worked_67 rfl ?_
                  refine z_getR dX9_worked_68 gX9_75 rfl (Nat.le_of_ble_eq_true rfl) rfl ?_
                  refine z_aload_n dX9_worked_71 rfl ?_
                  refine z_getR dX9_worked_72 gX9_62 rfl (Nat.le_of_ble_eq_true rfl) rfl ?_
                  refine z_iload dX9_worked_75 rfl ?_
                  refine z_iald dX9_worked_77 rfl (Nat.le_of_ble_eq_true rfl) (by omega) (fun hr77 => ?_)
                  try simp only [e96, e97, e101, z_rd, Nat.reduceEqDiff, ↓reduceIte, eq_self] at hr77 ⊢
                  refine z_iald dX9_worked_78 rfl (Nat.le_of_ble_eq_true rfl) (by omega) (fun hr78 => ?_)
                  try simp only [e96, e97, e101, z_rd, Nat.reduceEqDiff, ↓reduceIte, eq_self] at hr78 ⊢
                  refine z_iast dX9_worked_79 rfl (Nat.le_of_ble_eq_true rfl) (by omega) ⟨by omega, by omega⟩ ?_
                  refine z_iinc (L' := [_, _, _, _, _, _, _]) dX9_worked_80 (Nat.le_of_ble_eq_true rfl) rfl rfl rfl ?_
                  refine z_goto (tgt := 182) dX9_worked_83 (by decide) ?_
                  refine z_iinc (L' := [_, _, _, _, _, _, _]) dX9_worked_182 (Nat.le_of_ble_eq_true rfl) rfl rfl rfl ?_
                  refine z_goto (tgt := 12) dX9_worked_185 (by decide) ?_
                  refine z_forget [true, true, true, true, true, true, false] (L' := [_, _, _, _, _, _, _]) rfl ?_
                  rw [wkF]
                  first
                    | (rw [if_pos (by omega), ← ek, ← z_put_up]; exact l_X9_worked hR r _ (k + 1) (n + 1) (by omega) (by omega) (by omega) (by rw [ek]; exact hS1 (by omega)) (hF _ _))
                    | (rw [if_neg (by omega), if_pos (by omega), ← ek, ← z_put_up]; exact l_X9_worked hR r _ (k + 1) (n + 1) (by omega) (by omega) (by omega) (by rw [ek]; exact hS2 (by omega)) (hF _ _))
                    | (rw [if_neg (by omega), if_neg (by omega), if_pos (by omega), ← ek, ← z_put_up]; first | rw [if_pos (by omega)] | rw [if_neg (by omega)]
                       exact l_X9_worked hR r _ (k + 1) n (by omega) (by omega) (by omega) (by rw [ek]; exact hS3 (by omega)) (hF _ _))
                    | (rw [if_neg (by omega), if_neg (by omega), if_neg (by omega), if_pos (by omega), ← ek, ← z_put_up]
                       exact l_X9_worked hR r _ (k + 1) n (by omega) (by omega) (by omega) (by rw [ek]; exact hS3 (by omega)) (hF _ _))
                    | (rw [if_neg (by omega), if_neg (by omega), if_neg (by omega), if_neg (by omega), ← ek, ← z_put_up]
                       exact l_X9_worked hR r _ (k + 1) (n + -1) (by omega) (by omega) (by omega) (by rw [ek]; exact hS4 (by omega)) (hF _ _))
              · first
                | exfalso; omega
                | skip
                  refine z_aload_n dX9_worked_57 rfl ?_
                  refine z_getR dX9_worked_58 gX9_62 rfl (Nat.le_of_ble_eq_true rfl) rfl ?_
                  refine z_iload dX9_worked_61 rfl ?_
                  refine z_iald dX9_worked_63 rfl (Nat.le_of_ble_eq_true rfl) (by omega) (fun hr63 => ?_)
                  try simp only [e96, e97, e101, z_rd, Nat.reduceEqDiff, ↓reduceIte, eq_self] at hr63 ⊢
                  refine z_goto (tgt := 79) dX9_worked_64 (by decide) ?_
                  refine z_iast dX9_worked_79 rfl (Nat.le_of_ble_eq_true rfl) (by omega) ⟨by omega, by omega⟩ ?_
                  refine z_iinc (L' := [_, _, _, _, _, _, _]) dX9_worked_80 (Nat.le_of_ble_eq_true rfl) rfl rfl rfl ?_
                  refine z_goto (tgt := 182) dX9_worked_83 (by decide) ?_
                  refine z_iinc (L' := [_, _, _, _, _, _, _]) dX9_worked_182 (Nat.le_of_ble_eq_true rfl) rfl rfl rfl ?_
                  refine z_goto (tgt := 12) dX9_worked_185 (by decide) ?_
                  refine z_forget [true, true, true, true, true, true, false] (L' := [_, _, _, _, _, _, _]) rfl ?_
                  rw [wkF]
                  first
                    | (rw [if_pos (by omega), ← ek, ← z_put_up]; exact l_X9_worked hR r _ (k + 1) (n + 1) (by omega) (by omega) (by omega) (by rw [ek]; exact hS1 (by omega)) (hF _ _))
                    | (rw [if_neg (by omega), if_pos (by omega), ← ek, ← z_put_up]; exact l_X9_worked hR r _ (k + 1) (n + 1) (by omega) (by omega) (by omega) (by rw [ek]; exact hS2 (by omega)) (hF _ _))
                    | (rw [if_neg (by omega), if_neg (by omega), if_pos (by omega), ← ek, ← z_put_up]; first | rw [if_pos (by omega)] | rw [if_neg (by omega)]
                       exact l_X9_worked hR r _ (k + 1) n (by omega) (by omega) (by omega) (by rw [ek]; exact hS3 (by omega)) (hF _ _))
                    | (rw [if_neg (by omega), if_neg (by omega), if_neg (by omega), if_pos (by omega), ← ek, ← z_put_up]
                       exact l_X9_worked hR r _ (k + 1) n (by omega) (by omega) (by omega) (by rw [ek]; exact hS3 (by omega)) (hF _ _))
                    | (rw [if_neg (by omega), if_neg (by omega), if_neg (by omega), if_neg (by omega), ← ek, ← z_put_up]
                       exact l_X9_worked hR r _ (k + 1) (n + -1) (by omega) (by omega) (by omega) (by rw [ek]; exact hS4 (by omega)) (hF _ _))
set_option maxRecDepth 20000 in
theorem c_X9_worked {d : Nat} {σ : Sto} {D s : Int} {out : List Int} {V : VT} (hG : Gd D out V) (hD : D ≤ 100) (hs : 0 ≤ s ∧ s + out.length ≤ 130) (sA : Seg σ 96 s.toNat (out.map aOf)) (sW : Seg σ 97 s.toNat (out.map wOf)) : m_X9_worked d [zR 9, zI 0, zI s, zI (s + out.length)] σ (qI fun z σ' => z = V (σ 101) ∧ inR z ∧ ∀ a, a ≠ 102 → σ' a = σ a) := by
  have hm : ∀ i : Nat, i < out.length → σ 96 (s.toNat + i) = aOf (out.getD i 0) ∧ σ 97 (s.toNat + i) = wOf (out.getD i 0) := fun i hi => by
    have h1 := Seg.getD sA (show i < (out.map aOf).length by rw [List.length_map]; exact hi)
    have h2 := Seg.getD sW (show i < (out.map wOf).length by rw [List.length_map]; exact hi)
    simp only [List.getD_eq_getElem?_getD, List.getElem?_map, List.getElem?_eq_getElem hi, Option.map_some, Option.getD_some] at h1 h2 ⊢
    exact ⟨h1, h2⟩
  obtain ⟨g1, P', g2, g3, -⟩ := hG.2.1 (σ 96) (σ 97) (σ 101) (σ 102) 0 s.toNat 0 hm (by decide) (by omega)
  rw [Nat.zero_add] at g1 g2
  refine z_does (L := [some (zR 9), some (zI 0), some (zI s), some (zI (s + out.length)), none, none, none]) rfl (by decide +kernel) (Nat.le_of_ble_eq_true rfl) rfl ?_
  refine z_iconst dX9_worked_0 ?_
  refine z_istore (L' := [_, _, _, _, _, _, _]) dX9_worked_1 (Nat.le_of_ble_eq_true rfl) rfl rfl ?_
  refine z_sipush (v := 130) dX9_worked_3 (by decide +kernel) ?_
  refine z_iload_n dX9_worked_6 rfl ?_
  refine z_imul dX9_worked_7 ?_
  refine z_iload_n dX9_worked_8 rfl ?_
  refine z_iadd dX9_worked_9 ?_
  refine z_istore (L' := [_, _, _, _, _, _, _]) dX9_worked_10 (Nat.le_of_ble_eq_true rfl) rfl rfl ?_
  have h := l_X9_worked (d := d) (σ := σ) (fi := s) (en := s + out.length) (by omega) out.length σ s 0 (by omega) (by omega) (by omega) (g1 trivial) (fun _ _ => rfl)
  rw [g2] at h
  rw [show 130 * 0 + s = s by omega]
  refine Z.mono h ?_
  rintro r2 σ' ⟨z, q1, q2, q3⟩
  exact ⟨z, q1, by rw [q2]; exact g3, q3⟩
def wk2K (σ τ : Sto) : Prop := ∀ a, a ≠ 102 → τ a = σ a
set_option maxRecDepth 20000 in
set_option maxHeartbeats 1000000 in
theorem l_X9_gives {d : Nat} {σ : Sto} {LM : Int} (hLM : σ 98 0 = LM) (h61 : LM ≤ 61) :
    ∀ (ls : List LN) (F : VT) (τ : Sto) (i s : Int), LvG ls F → 0 ≤ i → i + ls.length = LM → (0 ≤ s ∧ s + (mcS ls).length ≤ 130) → mlP (σ 99) (σ 100) i.toNat s ls → Seg σ 96 s.toNat ((mcS ls).map aOf) → Seg σ 97 s.toNat ((mcS ls).map wOf) → wk2K σ τ →
    Z (z_me cX9_gives RX9 4 (some .int) (d + 2) (qI fun z σ' => z = F (σ 101) ∧ inR z ∧ wk2K σ σ')) 7 [some (zR 9), some (zI 0), some (zI s), some (zI i)] [] τ
  | [], F, τ, i, s, hF, h0, hi, hs, hp, sA, sW, hK => by
    have e98 : τ 98 (0 : Int).toNat = LM := by rw [hK 98 (by decide)]; exact hLM
    rw [List.length_nil] at hi
    refine z_iload_n dX9_gives_7 rfl ?_
    refine z_bipush (v := 61) dX9_gives_8 (by decide +kernel) ?_
    refine z_iload_n dX9_gives_10 rfl ?_
    refine z_imul dX9_gives_11 ?_
    refine z_aload_n dX9_gives_12 rfl ?_
    refine z_getR dX9_gives_13 gX9_65 rfl (Nat.le_of_ble_eq_true rfl) rfl ?_
    refine z_iload_n dX9_gives_16 rfl ?_
    refine z_iald dX9_gives_17 rfl (Nat.le_of_ble_eq_true rfl) (by omega) (fun hr17 => ?_)
    rw [e98]
    refine z_iadd dX9_gives_18 ?_
    refine z_icmp_ge (tgt := 78) dX9_gives_19 (by decide) ⟨by omega, by omega⟩ ⟨by omega, by omega⟩ (fun h19 => ?_) (fun h19 => ?_)
    · skip
      refine z_iconst dX9_gives_78 ?_
      exact z_iret dX9_gives_79 ⟨by rw [hF], ⟨by decide, by decide⟩, hK⟩
    · exfalso; omega
  | l :: r, F, τ, i, s, ⟨Vt, Ve, F', h1, h2, h3, h4⟩, h0, hi, hs, hp, sA, sW, hK => by
    have e98 : τ 98 (0 : Int).toNat = LM := by rw [hK 98 (by decide)]; exact hLM
    have ecs : (mcS (l :: r)).length = l.1.length + l.2.length + (mcS r).length := by simp only [mcS, List.length_append]
    rw [List.length_cons] at hi
    have eT : σ 99 i.toNat = s + l.1.length := hp.1
    have eE : σ 100 i.toNat = s + l.1.length + l.2.length := hp.2.1
    have eT1 : τ 99 i.toNat = s + l.1.length := by rw [hK 99 (by decide)]; exact eT
    have eE1 : τ 100 i.toNat = s + l.1.length + l.2.length := by rw [hK 100 (by decide)]; exact eE
    simp only [mcS, List.map_append] at sA sW
    obtain ⟨sA1, sA2⟩ := Seg.split sA
    obtain ⟨sW1, sW2⟩ := Seg.split sW
    obtain ⟨sA0, sA1⟩ := Seg.split sA1
    obtain ⟨sW0, sW1⟩ := Seg.split sW1
    simp only [List.length_append, List.length_map] at sA1 sW1 sA2 sW2
    have en1 : (s + (l.1.length : Int)).toNat = s.toNat + l.1.length := by omega
    have en2 : (s + (l.1.length : Int) + (l.2.length : Int)).toNat = s.toNat + (l.1.length + l.2.length) := by omega
    refine z_iload_n dX9_gives_7 rfl ?_
    refine z_bipush (v := 61) dX9_gives_8 (by decide +kernel) ?_
    refine z_iload_n dX9_gives_10 rfl ?_
    refine z_imul dX9_gives_11 ?_
    refine z_aload_n dX9_gives_12 rfl ?_
    refine z_getR dX9_gives_13 gX9_65 rfl (Nat.le_of_ble_eq_true rfl) rfl ?_
    refine z_iload_n dX9_gives_16 rfl ?_
    refine z_iald dX9_gives_17 rfl (Nat.le_of_ble_eq_true rfl) (by omega) (fun hr17 => ?_)
    rw [e98]
    refine z_iadd dX9_gives_18 ?_
    refine z_icmp_ge (tgt := 78) dX9_gives_19 (by decide) ⟨by omega, by omega⟩ ⟨by omega, by omega⟩ (fun h19 => ?_) (fun h19 => ?_)
    · exfalso; omega
    · skip
      refine z_aload_n dX9_gives_22 rfl ?_
      refine z_getR dX9_gives_23 gX9_68 rfl (Nat.le_of_ble_eq_true rfl) rfl ?_
      refine z_iload_n dX9_gives_26 rfl ?_
      refine z_sald dX9_gives_27 rfl (Nat.le_of_ble_eq_true rfl) (by omega) (fun hr27 => ?_)
      rw [eT1]
      refine z_iload_n dX9_gives_28 rfl ?_
      refine z_icmp_eq (tgt := 47) dX9_gives_29 (by decide) ⟨by omega, by omega⟩ ⟨by omega, by omega⟩ (fun h29 => ?_) (fun h29 => ?_)
      · skip
        refine z_aload_n dX9_gives_47 rfl ?_
        refine z_iload_n dX9_gives_48 rfl ?_
        refine z_aload_n dX9_gives_49 rfl ?_
        refine z_getR dX9_gives_50 gX9_68 rfl (Nat.le_of_ble_eq_true rfl) rfl ?_
        refine z_iload_n dX9_gives_53 rfl ?_
        refine z_sald dX9_gives_54 rfl (Nat.le_of_ble_eq_true rfl) (by omega) (fun hr54 => ?_)
        first | rw [eT2] | rw [eT1]
        refine z_aload_n dX9_gives_55 rfl ?_
        refine z_getR dX9_gives_56 gX9_72 rfl (Nat.le_of_ble_eq_true rfl) rfl ?_
        refine z_iload_n dX9_gives_59 rfl ?_
        refine z_sald dX9_gives_60 rfl (Nat.le_of_ble_eq_true rfl) (by omega) (fun hr60 => ?_)
        first | rw [eE2] | rw [eE1]
        refine z_callVI (d := d + 1) (av := [_, _, _]) dX9_gives_61 vX9_254 rfl (Nat.le_of_ble_eq_true rfl) rfl rfl rfl (Nat.le_of_ble_eq_true rfl) (Nat.le_refl _) ((by first | exact c_X9_worked h2 (by decide) (by omega) (Seg.row (hK2 96 (by decide)) (by rw [en1]; exact sA1)) (Seg.row (hK2 97 (by decide)) (by rw [en1]; exact sW1)) | exact c_X9_worked h2 (by decide) (by omega) (Seg.row (hK 96 (by decide)) (by rw [en1]; exact sA1)) (Seg.row (hK 97 (by decide)) (by rw [en1]; exact sW1)))) (fun z61 σ61 h61 => ?_)
        obtain ⟨hz2, hz2r, hfr2⟩ := h61
        exact z_iret dX9_gives_64 (by
          refine ⟨?_, hz2r, fun a ha => ?_⟩
          · rw [h4 (σ 101)]
            first
              | (rw [if_pos (Or.inr (by rw [← hz]; exact h44)), hz2, hK2 101 (by decide)])
              | (rw [if_pos (Or.inl (List.length_eq_zero_iff.mp (by omega))), hz2, hK 101 (by decide)])
          · rw [hfr2 a ha]
            first | exact hK2 a ha | exact hK a ha)
      · skip
        refine z_aload_n dX9_gives_32 rfl ?_
        refine z_iload_n dX9_gives_33 rfl ?_
        refine z_iload_n dX9_gives_34 rfl ?_
        refine z_aload_n dX9_gives_35 rfl ?_
        refine z_getR dX9_gives_36 gX9_68 rfl (Nat.le_of_ble_eq_true rfl) rfl ?_
        refine z_iload_n dX9_gives_39 rfl ?_
        refine z_sald dX9_gives_40 rfl (Nat.le_of_ble_eq_true rfl) (by omega) (fun hr40 => ?_)
        rw [eT1]
        refine z_callVI (d := d + 1) (av := [_, _, _]) dX9_gives_41 vX9_254 rfl (Nat.le_of_ble_eq_true rfl) rfl rfl rfl (Nat.le_of_ble_eq_true rfl) (Nat.le_refl _) (c_X9_worked (h1 (fun q => h29 (by rw [q]; simp))) (by decide) (by omega) (Seg.row (hK 96 (by decide)) sA0) (Seg.row (hK 97 (by decide)) sW0)) (fun z41 σ41 h41 => ?_)
        obtain ⟨hz, hzr, hfr⟩ := h41
        rw [hK 101 (by decide)] at hz
        have hK2 : wk2K σ σ41 := fun a ha => by rw [hfr a ha]; exact hK a ha
        have eT2 : σ41 99 i.toNat = s + l.1.length := by rw [hK2 99 (by decide)]; exact eT
        have eE2 : σ41 100 i.toNat = s + l.1.length + l.2.length := by rw [hK2 100 (by decide)]; exact eE
        refine z_if_eq (tgt := 65) dX9_gives_44 (by decide) hzr (fun h44 => ?_) (fun h44 => ?_)
        · skip
          refine z_aload_n dX9_gives_65 rfl ?_
          refine z_getR dX9_gives_66 gX9_72 rfl (Nat.le_of_ble_eq_true rfl) rfl ?_
          refine z_iload_n dX9_gives_69 rfl ?_
          refine z_sald dX9_gives_70 rfl (Nat.le_of_ble_eq_true rfl) (by omega) (fun hr70 => ?_)
          rw [eE2]
          refine z_istore_n (L' := [_, _, _, _]) dX9_gives_71 (Nat.le_of_ble_eq_true rfl) rfl rfl ?_
          refine z_iinc (L' := [_, _, _, _]) dX9_gives_72 (Nat.le_of_ble_eq_true rfl) rfl rfl rfl ?_
          refine z_goto (tgt := 7) dX9_gives_75 (by decide) ?_
          rw [h4 (σ 101), if_neg (by rw [← hz, h44]; rintro (q | q); exact h29 (by rw [q]; simp); exact q rfl)]
          exact l_X9_gives hLM h61 r F' σ41 (i + 1) (s + l.1.length + l.2.length) h3 (by omega) (by omega) (by omega) (by rw [toN_s h0]; exact hp.2.2) (by rw [en2]; exact sA2) (by rw [en2]; exact sW2) hK2
        · skip
          refine z_aload_n dX9_gives_47 rfl ?_
          refine z_iload_n dX9_gives_48 rfl ?_
          refine z_aload_n dX9_gives_49 rfl ?_
          refine z_getR dX9_gives_50 gX9_68 rfl (Nat.le_of_ble_eq_true rfl) rfl ?_
          refine z_iload_n dX9_gives_53 rfl ?_
          refine z_sald dX9_gives_54 rfl (Nat.le_of_ble_eq_true rfl) (by omega) (fun hr54 => ?_)
          first | rw [eT2] | rw [eT1]
          refine z_aload_n dX9_gives_55 rfl ?_
          refine z_getR dX9_gives_56 gX9_72 rfl (Nat.le_of_ble_eq_true rfl) rfl ?_
          refine z_iload_n dX9_gives_59 rfl ?_
          refine z_sald dX9_gives_60 rfl (Nat.le_of_ble_eq_true rfl) (by omega) (fun hr60 => ?_)
          first | rw [eE2] | rw [eE1]
          refine z_callVI (d := d + 1) (av := [_, _, _]) dX9_gives_61 vX9_254 rfl (Nat.le_of_ble_eq_true rfl) rfl rfl rfl (Nat.le_of_ble_eq_true rfl) (Nat.le_refl _) ((by first | exact c_X9_worked h2 (by decide) (by omega) (Seg.row (hK2 96 (by decide)) (by rw [en1]; exact sA1)) (Seg.row (hK2 97 (by decide)) (by rw [en1]; exact sW1)) | exact c_X9_worked h2 (by decide) (by omega) (Seg.row (hK 96 (by decide)) (by rw [en1]; exact sA1)) (Seg.row (hK 97 (by decide)) (by rw [en1]; exact sW1)))) (fun z61 σ61 h61 => ?_)
          obtain ⟨hz2, hz2r, hfr2⟩ := h61
          exact z_iret dX9_gives_64 (by
            refine ⟨?_, hz2r, fun a ha => ?_⟩
            · rw [h4 (σ 101)]
              first
                | (rw [if_pos (Or.inr (by rw [← hz]; exact h44)), hz2, hK2 101 (by decide)])
                | (rw [if_pos (Or.inl (List.length_eq_zero_iff.mp (by omega))), hz2, hK 101 (by decide)])
            · rw [hfr2 a ha]
              first | exact hK2 a ha | exact hK a ha)
/-- what the reference's words, meshes, people and law are -/
def WM (LF : LFT) (σ : Sto) : Prop := (0 ≤ σ 9 1 ∧ σ 9 1 ≤ 12) ∧ (0 ≤ σ 9 7 ∧ σ 9 7 ≤ 5) ∧ (0 ≤ σ 9 11 ∧ σ 9 11 ≤ 6) ∧ (∀ j, 0 ≤ σ 82 j ∧ σ 82 j ≤ 9) ∧ (∀ j, 0 ≤ σ 83 j ∧ σ 83 j ≤ 9) ∧ (∀ j, 0 ≤ σ 84 j ∧ σ 84 j ≤ 9) ∧ (∀ j, 0 ≤ σ 85 j ∧ σ 85 j ≤ 2) ∧ (∀ j, 0 ≤ σ 86 j ∧ σ 86 j ≤ 5) ∧ (∀ j, 0 ≤ σ 87 j ∧ σ 87 j ≤ 9) ∧ (∀ j, 0 ≤ σ 90 j ∧ σ 90 j ≤ 9) ∧ (0 ≤ σ 9 13 ∧ σ 9 13 ≤ 20) ∧ (σ 9 33 = 0 ∨ σ 9 33 = 1) ∧
  (σ 9 33 = 1 → ∃ (ls : List LN) (F : VT), LvG ls F ∧ Seg σ 96 0 ((mcS ls).map aOf) ∧ Seg σ 97 0 ((mcS ls).map wOf) ∧ σ 98 0 = ls.length ∧ mlP (σ 99) (σ 100) 0 0 ls ∧ ((mcS ls).length ≤ 122 ∧ ls.length ≤ 61) ∧ ∀ N, F N = LF (N 0) (N 1) (N 2) (N 3) (N 4) (N 5))
/-- of the reference's cells those of S alone are written, of its numbers those of J alone -/
def frM (S J : List Nat) (σ τ : Sto) : Prop := (∀ a, a ∉ S → a ≠ 9 → τ a = σ a) ∧ ∀ j, j ∉ J → τ 9 j = σ 9 j
theorem frM.rf (S J : List Nat) (σ : Sto) : frM S J σ σ := ⟨fun _ _ _ => rfl, fun _ _ => rfl⟩
theorem frM.tr {S J : List Nat} {σ τ υ : Sto} (h : frM S J σ τ) (g : frM S J τ υ) : frM S J σ υ := ⟨fun a b c => by rw [g.1 a b c, h.1 a b c], fun j b => by rw [g.2 j b, h.2 j b]⟩
theorem frM.mono {S J S' J' : List Nat} {σ τ : Sto} (h : frM S J σ τ) (hS : ∀ a ∈ S, a ∈ S') (hJ : ∀ a ∈ J, a ∈ J') : frM S' J' σ τ := ⟨fun a b c => h.1 a (fun q => b (hS a q)) c, fun j b => h.2 j (fun q => b (hJ j q))⟩
theorem frM.putA {S J : List Nat} {σ τ : Sto} {k i : Nat} {x : Int} (h : frM S J σ τ) (hk : k ∈ S) (h9 : k ≠ 9) : frM S J σ (z_put τ k i x) := by
  refine ⟨fun a b c => ?_, fun j b => ?_⟩
  · have hne : a ≠ k := fun q => b (by rw [q]; exact hk)
    rw [z_put_ne hne]
    exact h.1 a b c
  · rw [z_put_ne (Ne.symm h9)]
    exact h.2 j b
theorem frM.putF {S J : List Nat} {σ τ : Sto} {i : Nat} {x : Int} (h : frM S J σ τ) (hi : i ∈ J) : frM S J σ (z_put τ 9 i x) := by
  refine ⟨fun a b c => ?_, fun j b => ?_⟩
  · rw [z_put_ne c]
    exact h.1 a b c
  · have hne : j ≠ i := fun q => b (by rw [q]; exact hi)
    rw [z_rd, if_pos rfl, if_neg hne]
    exact h.2 j b
abbrev pMK : Sto → Sto → Prop := frM [101, 102] []
theorem WM.keep {LF : LFT} {σ τ : Sto} (h : WM LF σ) (h9 : ∀ j, j = 1 ∨ j = 7 ∨ j = 11 ∨ j = 13 ∨ j = 33 → τ 9 j = σ 9 j) (ha : ∀ a, (82 ≤ a ∧ a ≤ 87) ∨ a = 90 ∨ (96 ≤ a ∧ a ≤ 100) → τ a = σ a) : WM LF τ := by
  unfold WM at h ⊢
  rw [h9 1 (by decide), h9 7 (by decide), h9 11 (by decide), h9 13 (by decide), h9 33 (by decide), ha 82 (by decide), ha 83 (by decide), ha 84 (by decide), ha 85 (by decide), ha 86 (by decide), ha 87 (by decide), ha 90 (by decide), ha 98 (by decide), ha 99 (by decide), ha 100 (by decide)]
  obtain ⟨a1, a2, a3, a4, a5, a6, a7, a8, a9, a10, a11, a12, hL⟩ := h
  refine ⟨a1, a2, a3, a4, a5, a6, a7, a8, a9, a10, a11, a12, fun q => ?_⟩
  obtain ⟨ls, F, h1, h2, h3, h4⟩ := hL q
  exact ⟨ls, F, h1, Seg.row (ha 96 (by decide)) h2, Seg.row (ha 97 (by decide)) h3, h4⟩
/-- a list of cells, of numbers, that leaves words, meshes, people and law alone -/
def frOk (S J : List Nat) : Bool := S.all (fun a => decide (¬ ((82 ≤ a ∧ a ≤ 87) ∨ a = 90 ∨ (96 ≤ a ∧ a ≤ 100)))) && J.all (fun j => decide (¬ (j = 1 ∨ j = 7 ∨ j = 11 ∨ j = 13 ∨ j = 33)))
theorem frM.wm {LF : LFT} {S J : List Nat} {σ τ : Sto} (h : frM S J σ τ) (hW : WM LF σ) (ho : frOk S J = true) : WM LF τ := by
  rw [frOk, Bool.and_eq_true, List.all_eq_true, List.all_eq_true] at ho
  exact hW.keep (fun j hj => h.2 j (fun q => of_decide_eq_true (ho.2 j q) hj)) (fun a ha => h.1 a (fun q => of_decide_eq_true (ho.1 a q) ha) (by omega))
abbrev pasM (LF : LFT) (σ : Sto) (f : Int) : Int → Int → Int → Bool := pasP LF (decide (0 < σ 9 33)) (σ 82) (σ 83) (σ 84) (σ 9 13) f
theorem frM.pm {LF : LFT} {S J : List Nat} {σ τ : Sto} (h : frM S J σ τ) (ho : frOk S J = true) {f : Int} : pasM LF τ f = pasM LF σ f := by
  rw [frOk, Bool.and_eq_true, List.all_eq_true, List.all_eq_true] at ho
  have hj : ∀ j, j = 13 ∨ j = 33 → τ 9 j = σ 9 j := fun j hj => h.2 j (fun q => of_decide_eq_true (ho.2 j q) (by omega))
  have ha : ∀ a, a = 82 ∨ a = 83 ∨ a = 84 → τ a = σ a := fun a ha => h.1 a (fun q => of_decide_eq_true (ho.1 a q) (by omega)) (by omega)
  unfold pasM
  rw [hj 13 (by decide), hj 33 (by decide), ha 82 (by decide), ha 83 (by decide), ha 84 (by decide)]
theorem pasM_n {LF : LFT} {σ : Sto} {f w p q : Int} (h : f = -1) : pasM LF σ f w p q = true := by simp [pasP, h]
theorem pasM_t {LF : LFT} {σ : Sto} {f w p q : Int} (h : f ≠ -1) (h2 : 0 < σ 9 33) : pasM LF σ f w p q = decide (0 < LF (σ 82 w.toNat) (σ 83 w.toNat) (σ 84 w.toNat) f p q) := by simp [pasP, h, h2]
theorem pasM_f {LF : LFT} {σ : Sto} {f w p q : Int} (h : f ≠ -1) (h2 : ¬ 0 < σ 9 33) : pasM LF σ f w p q = decide (σ 82 w.toNat + σ 83 w.toNat ≤ σ 9 13 - f) := by simp [pasP, h, h2]
set_option maxRecDepth 20000 in
theorem c_X9_gives {d : Nat} {σ : Sto} {LF : LFT} (hW : WM LF σ) (h33 : σ 9 33 = 1) : m_X9_gives d [zR 9, zI 0] σ (qI fun z σ' => z = LF (σ 101 0) (σ 101 1) (σ 101 2) (σ 101 3) (σ 101 4) (σ 101 5) ∧ inR z ∧ wk2K σ σ') := by
  obtain ⟨-, -, -, -, -, -, -, -, -, -, -, -, hL⟩ := hW
  obtain ⟨ls, F, h1, h2, h3, h4, h5, h6, h7⟩ := hL h33
  refine z_does (L := [some (zR 9), some (zI 0), none, none]) rfl (by decide +kernel) (Nat.le_of_ble_eq_true rfl) rfl ?_
  refine z_iconst dX9_gives_0 ?_
  refine z_istore_n (L' := [_, _, _, _]) dX9_gives_1 (Nat.le_of_ble_eq_true rfl) rfl rfl ?_
  refine z_bipush (v := 61) dX9_gives_2 (by decide +kernel) ?_
  refine z_iload_n dX9_gives_4 rfl ?_
  refine z_imul dX9_gives_5 ?_
  refine z_istore_n (L' := [_, _, _, _]) dX9_gives_6 (Nat.le_of_ble_eq_true rfl) rfl rfl ?_
  have h := l_X9_gives (d := d) (σ := σ) (LM := ls.length) h4 (by omega) ls F σ 0 0 h1 (by omega) (by omega) (by omega) h5 h2 h3 (fun _ _ => rfl)
  rw [show (61 : Int) * 0 = 0 from rfl]
  refine Z.mono h ?_
  rintro r2 σ' ⟨z, q1, q2, q3, q4⟩
  exact ⟨z, q1, by rw [q2, h7], q3, q4⟩
set_option maxRecDepth 20000 in
theorem c_X9_passesBy {d : Nat} {σ : Sto} {LF : LFT} {w f p q : Int} (hW : WM LF σ) (hw : 0 ≤ w ∧ w < 12) (hf : 0 ≤ f ∧ f ≤ 9) (hp : inR p) (hq : inR q) : m_X9_passesBy d [zR 9, zI w, zI f, zI p, zI q] σ (qI fun z σ' => ((z = 1 ∧ pasM LF σ f w p q = true) ∨ (z = 0 ∧ pasM LF σ f w p q = false)) ∧ pMK σ σ') := by
  have hW0 := hW
  obtain ⟨-, -, -, w0, w1, w2, -, -, -, -, wb, w33, -⟩ := hW
  have w0 := w0 w.toNat
  have w1 := w1 w.toNat
  have w2 := w2 w.toNat
  refine z_does (L := [some (zR 9), some (zI w), some (zI f), some (zI p), some (zI q)]) rfl (by decide +kernel) (Nat.le_of_ble_eq_true rfl) rfl ?_
  refine z_aload_n dX9_passesBy_0 rfl ?_
  refine z_getI dX9_passesBy_1 gX9_260 rfl (Nat.le_of_ble_eq_true rfl) rfl (fun hr1 => ?_)
  refine z_if_ne (tgt := 35) dX9_passesBy_4 (by decide) ⟨by omega, by omega⟩ (fun h4 => ?_) (fun h4 => ?_)
  · first
    | exfalso; omega
    | skip
      refine z_aload_n dX9_passesBy_35 rfl ?_
      refine z_getR dX9_passesBy_36 gX9_75 rfl (Nat.le_of_ble_eq_true rfl) rfl ?_
      refine z_iconst dX9_passesBy_39 ?_
      refine z_aload_n dX9_passesBy_40 rfl ?_
      refine z_getR dX9_passesBy_41 gX9_9 rfl (Nat.le_of_ble_eq_true rfl) rfl ?_
      refine z_iload_n dX9_passesBy_44 rfl ?_
      refine z_iald dX9_passesBy_45 rfl (Nat.le_of_ble_eq_true rfl) (by omega) (fun hr45 => ?_)
      refine z_iast dX9_passesBy_46 rfl (Nat.le_of_ble_eq_true rfl) (by omega) ⟨by omega, by omega⟩ ?_
      refine z_aload_n dX9_passesBy_47 rfl ?_
      refine z_getR dX9_passesBy_48 gX9_75 rfl (Nat.le_of_ble_eq_true rfl) rfl ?_
      refine z_iconst dX9_passesBy_51 ?_
      refine z_aload_n dX9_passesBy_52 rfl ?_
      refine z_getR dX9_passesBy_53 gX9_15 rfl (Nat.le_of_ble_eq_true rfl) rfl ?_
      refine z_iload_n dX9_passesBy_56 rfl ?_
      refine z_iald dX9_passesBy_57 rfl (Nat.le_of_ble_eq_true rfl) (by omega) (fun hr57 => ?_)
      try simp only [z_rd, Nat.reduceEqDiff, ↓reduceIte, eq_self] at hr57 ⊢
      refine z_iast dX9_passesBy_58 rfl (Nat.le_of_ble_eq_true rfl) (by omega) ⟨by omega, by omega⟩ ?_
      refine z_aload_n dX9_passesBy_59 rfl ?_
      refine z_getR dX9_passesBy_60 gX9_75 rfl (Nat.le_of_ble_eq_true rfl) rfl ?_
      refine z_iconst dX9_passesBy_63 ?_
      refine z_aload_n dX9_passesBy_64 rfl ?_
      refine z_getR dX9_passesBy_65 gX9_18 rfl (Nat.le_of_ble_eq_true rfl) rfl ?_
      refine z_iload_n dX9_passesBy_68 rfl ?_
      refine z_iald dX9_passesBy_69 rfl (Nat.le_of_ble_eq_true rfl) (by omega) (fun hr69 => ?_)
      try simp only [z_rd, Nat.reduceEqDiff, ↓reduceIte, eq_self] at hr69 ⊢
      refine z_iast dX9_passesBy_70 rfl (Nat.le_of_ble_eq_true rfl) (by omega) ⟨by omega, by omega⟩ ?_
      refine z_aload_n dX9_passesBy_71 rfl ?_
      refine z_getR dX9_passesBy_72 gX9_75 rfl (Nat.le_of_ble_eq_true rfl) rfl ?_
      refine z_iconst dX9_passesBy_75 ?_
      refine z_iload_n dX9_passesBy_76 rfl ?_
      refine z_iast dX9_passesBy_77 rfl (Nat.le_of_ble_eq_true rfl) (by omega) ⟨by omega, by omega⟩ ?_
      refine z_aload_n dX9_passesBy_78 rfl ?_
      refine z_getR dX9_passesBy_79 gX9_75 rfl (Nat.le_of_ble_eq_true rfl) rfl ?_
      refine z_iconst dX9_passesBy_82 ?_
      refine z_iload_n dX9_passesBy_83 rfl ?_
      refine z_iast dX9_passesBy_84 rfl (Nat.le_of_ble_eq_true rfl) (by omega) ⟨by omega, by omega⟩ ?_
      refine z_aload_n dX9_passesBy_85 rfl ?_
      refine z_getR dX9_passesBy_86 gX9_75 rfl (Nat.le_of_ble_eq_true rfl) rfl ?_
      refine z_iconst dX9_passesBy_89 ?_
      refine z_iload dX9_passesBy_90 rfl ?_
      refine z_iast dX9_passesBy_92 rfl (Nat.le_of_ble_eq_true rfl) (by omega) ⟨by omega, by omega⟩ ?_
      generalize hτ : z_put (z_put (z_put (z_put (z_put (z_put σ 101 _ _) 101 _ _) 101 _ _) 101 _ f) 101 _ p) 101 _ q = τ
      have hK : frM [101, 102] [] σ τ := by rw [← hτ]; exact ((((((frM.rf _ _ σ).putA (by decide) (by decide)).putA (by decide) (by decide)).putA (by decide) (by decide)).putA (by decide) (by decide)).putA (by decide) (by decide)).putA (by decide) (by decide)
      have f0 : τ 101 0 = σ 82 w.toNat := by rw [← hτ]; rfl
      have f1 : τ 101 1 = σ 83 w.toNat := by rw [← hτ]; rfl
      have f2 : τ 101 2 = σ 84 w.toNat := by rw [← hτ]; rfl
      have f3 : τ 101 3 = f := by rw [← hτ]; rfl
      have f4 : τ 101 4 = p := by rw [← hτ]; rfl
      have f5 : τ 101 5 = q := by rw [← hτ]; rfl
      refine z_aload_n dX9_passesBy_93 rfl ?_
      refine z_iconst dX9_passesBy_94 ?_
      refine z_callVI (d := d + 2) (av := [_]) dX9_passesBy_95 vX9_264 rfl (Nat.le_of_ble_eq_true rfl) rfl rfl rfl (Nat.le_of_ble_eq_true rfl) (Nat.le_refl _) (c_X9_gives (LF := LF) (hK.wm hW0 rfl) (by rw [hK.2 33 (by decide)]; omega)) (fun z95 σ95 h95 => ?_)
      obtain ⟨hz, hzr, hfr⟩ := h95
      rw [f0, f1, f2, f3, f4, f5] at hz
      have hK2 : frM [101, 102] [] σ σ95 := ⟨fun a b c => by rw [hfr a (fun q => b (by rw [q]; decide))]; exact hK.1 a b c, fun j b => by rw [hfr 9 (by decide)]; exact hK.2 j b⟩
      refine z_if_le (tgt := 105) dX9_passesBy_98 (by decide) hzr (fun h98 => ?_) (fun h98 => ?_)
      · skip
        refine z_iconst dX9_passesBy_105 ?_
        exact z_zret dX9_passesBy_106 (by omega) ⟨by rw [pasM_t (by omega) (by omega), ← hz]; first | exact Or.inl ⟨rfl, decide_eq_true (by omega)⟩ | exact Or.inr ⟨rfl, decide_eq_false (by omega)⟩, hK2⟩
      · skip
        refine z_iconst dX9_passesBy_101 ?_
        refine z_goto (tgt := 106) dX9_passesBy_102 (by decide) ?_
        exact z_zret dX9_passesBy_106 (by omega) ⟨by rw [pasM_t (by omega) (by omega), ← hz]; first | exact Or.inl ⟨rfl, decide_eq_true (by omega)⟩ | exact Or.inr ⟨rfl, decide_eq_false (by omega)⟩, hK2⟩
  · first
    | exfalso; omega
    | skip
      refine z_aload_n dX9_passesBy_7 rfl ?_
      refine z_getR dX9_passesBy_8 gX9_9 rfl (Nat.le_of_ble_eq_true rfl) rfl ?_
      refine z_iload_n dX9_passesBy_11 rfl ?_
      refine z_iald dX9_passesBy_12 rfl (Nat.le_of_ble_eq_true rfl) (by omega) (fun hr12 => ?_)
      refine z_aload_n dX9_passesBy_13 rfl ?_
      refine z_getR dX9_passesBy_14 gX9_15 rfl (Nat.le_of_ble_eq_true rfl) rfl ?_
      refine z_iload_n dX9_passesBy_17 rfl ?_
      refine z_iald dX9_passesBy_18 rfl (Nat.le_of_ble_eq_true rfl) (by omega) (fun hr18 => ?_)
      refine z_iadd dX9_passesBy_19 ?_
      refine z_aload_n dX9_passesBy_20 rfl ?_
      refine z_getI dX9_passesBy_21 gX9_39 rfl (Nat.le_of_ble_eq_true rfl) rfl (fun hr21 => ?_)
      refine z_iload_n dX9_passesBy_24 rfl ?_
      refine z_isub dX9_passesBy_25 ?_
      refine z_icmp_gt (tgt := 33) dX9_passesBy_26 (by decide) ⟨by omega, by omega⟩ ⟨by omega, by omega⟩ (fun h26 => ?_) (fun h26 => ?_)
      · first
        | exfalso; omega
        | skip
          refine z_iconst dX9_passesBy_33 ?_
          exact z_zret dX9_passesBy_34 (by omega) ⟨by rw [pasM_f (by omega) (by omega)]; first | exact Or.inl ⟨rfl, decide_eq_true (by omega)⟩ | exact Or.inr ⟨rfl, decide_eq_false (by omega)⟩, frM.rf _ _ σ⟩
      · first
        | exfalso; omega
        | skip
          refine z_iconst dX9_passesBy_29 ?_
          refine z_goto (tgt := 34) dX9_passesBy_30 (by decide) ?_
          exact z_zret dX9_passesBy_34 (by omega) ⟨by rw [pasM_f (by omega) (by omega)]; first | exact Or.inl ⟨rfl, decide_eq_true (by omega)⟩ | exact Or.inr ⟨rfl, decide_eq_false (by omega)⟩, frM.rf _ _ σ⟩
/-- how fine a mesh is, or -1 for none -/
abbrev finM (σ : Sto) (m : Int) : Int := if m < 0 then -1 else σ 87 m.toNat
set_option maxRecDepth 20000 in
theorem c_X9_passes {d : Nat} {σ : Sto} {LF : LFT} {w m p q : Int} (hW : WM LF σ) (hw : 0 ≤ w ∧ w < 12) (hm : -1 ≤ m ∧ m < 5) (hp : inR p) (hq : inR q) : m_X9_passes d [zR 9, zI w, zI m, zI p, zI q] σ (qI fun z σ' => ((z = 1 ∧ pasM LF σ (finM σ m) w p q = true) ∨ (z = 0 ∧ pasM LF σ (finM σ m) w p q = false)) ∧ pMK σ σ') := by
  have w87 := hW.2.2.2.2.2.2.2.2.1 m.toNat
  refine z_does (L := [some (zR 9), some (zI w), some (zI m), some (zI p), some (zI q)]) rfl (by decide +kernel) (Nat.le_of_ble_eq_true rfl) rfl ?_
  refine z_iload_n dX9_passes_0 rfl ?_
  refine z_if_lt (tgt := 21) dX9_passes_1 (by decide) ⟨by omega, by omega⟩ (fun h1 => ?_) (fun h1 => ?_)
  · first
    | exfalso; omega
    | skip
      refine z_iconst dX9_passes_21 ?_
      refine z_goto (tgt := 26) dX9_passes_22 (by decide) ?_
      exact z_zret dX9_passes_26 (by omega) (by
        first
          | exact ⟨Or.inl ⟨rfl, pasM_n (if_pos (by omega))⟩, frM.rf _ _ σ⟩
          | (refine ⟨?_, hfr⟩
             rw [show finM σ m = σ 87 m.toNat from if_neg (by omega)]
             rcases hz with ⟨q1, q2⟩ | ⟨q1, q2⟩
             · first | (exfalso; omega) | exact Or.inl ⟨rfl, q2⟩
             · first | (exfalso; omega) | exact Or.inr ⟨rfl, q2⟩))
  · first
    | exfalso; omega
    | skip
      refine z_aload_n dX9_passes_4 rfl ?_
      refine z_iload_n dX9_passes_5 rfl ?_
      refine z_aload_n dX9_passes_6 rfl ?_
      refine z_getR dX9_passes_7 gX9_27 rfl (Nat.le_of_ble_eq_true rfl) rfl ?_
      refine z_iload_n dX9_passes_10 rfl ?_
      refine z_iald dX9_passes_11 rfl (Nat.le_of_ble_eq_true rfl) (by omega) (fun hr11 => ?_)
      refine z_iload_n dX9_passes_12 rfl ?_
      refine z_iload dX9_passes_13 rfl ?_
      refine z_callVI (d := d + 3) (av := [_, _, _, _]) dX9_passes_15 vX9_267 rfl (Nat.le_of_ble_eq_true rfl) rfl rfl rfl (Nat.le_of_ble_eq_true rfl) (Nat.le_refl _) (c_X9_passesBy (LF := LF) hW hw w87 hp hq) (fun z15 σ15 h15 => ?_)
      obtain ⟨hz, hfr⟩ := h15
      refine z_if_eq (tgt := 25) dX9_passes_18 (by decide) ⟨by omega, by omega⟩ (fun h18 => ?_) (fun h18 => ?_)
      · skip
        refine z_iconst dX9_passes_25 ?_
        exact z_zret dX9_passes_26 (by omega) (by
          first
            | exact ⟨Or.inl ⟨rfl, pasM_n (if_pos (by omega))⟩, frM.rf _ _ σ⟩
            | (refine ⟨?_, hfr⟩
               rw [show finM σ m = σ 87 m.toNat from if_neg (by omega)]
               rcases hz with ⟨q1, q2⟩ | ⟨q1, q2⟩
               · first | (exfalso; omega) | exact Or.inl ⟨rfl, q2⟩
               · first | (exfalso; omega) | exact Or.inr ⟨rfl, q2⟩))
      · skip
        refine z_iconst dX9_passes_21 ?_
        refine z_goto (tgt := 26) dX9_passes_22 (by decide) ?_
        exact z_zret dX9_passes_26 (by omega) (by
          first
            | exact ⟨Or.inl ⟨rfl, pasM_n (if_pos (by omega))⟩, frM.rf _ _ σ⟩
            | (refine ⟨?_, hfr⟩
               rw [show finM σ m = σ 87 m.toNat from if_neg (by omega)]
               rcases hz with ⟨q1, q2⟩ | ⟨q1, q2⟩
               · first | (exfalso; omega) | exact Or.inl ⟨rfl, q2⟩
               · first | (exfalso; omega) | exact Or.inr ⟨rfl, q2⟩))
