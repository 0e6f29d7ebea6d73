/-! ===== Search: the first order ===== -/
abbrev cmP (ps : Int → Int → Int → Bool) (X Y : List Int) (c l : Nat) : Prop := c < X.length ∧ 0 < wyW ps X Y (c + 1) l ∧ ps (X.getD c 0) (c + l : Nat) l = true
abbrev stP (ps : Int → Int → Int → Bool) (X Y : List Int) (c l : Nat) : Prop := l < Y.length ∧ 0 < wyW ps X Y c (l + 1) ∧ ps (Y.getD l 0) (c + l : Nat) l = false
def fmL (ps : Int → Int → Int → Bool) (X Y : List Int) : Nat → Nat → Nat → List Int
  | 0, _, _ => []
  | n + 1, c, l => if cmP ps X Y c l ∧ (¬ stP ps X Y c l ∨ X.getD c 0 < Y.getD l 0) then X.getD c 0 :: fmL ps X Y n (c + 1) l else if stP ps X Y c l then Y.getD l 0 :: fmL ps X Y n c (l + 1) else []
def fmK (σ τ : Sto) : Prop := ∀ a, a ≠ 28 → a ≠ 29 → a ≠ 43 → τ a = σ a
theorem fmK.rf (σ : Sto) : fmK σ σ := fun _ _ _ _ => rfl
theorem fmK.wc {LF : LFT} {σ τ : Sto} (h : fmK σ τ) (hW : WC LF σ) : WC LF τ := hW.keep (h 1 (by decide) (by decide) (by decide)) (h 3 (by decide) (by decide) (by decide)) (h 27 (by decide) (by decide) (by decide)) (fun a h1 h2 => h a (by omega) (by omega) (by omega))
theorem fmK.ps {LF : LFT} {σ τ : Sto} {f : Int} (h : fmK σ τ) : pasC LF τ f = pasC LF σ f := pas_cong (h 3 (by decide) (by decide) (by decide)) (h 13 (by decide) (by decide) (by decide)) (h 14 (by decide) (by decide) (by decide)) (h 15 (by decide) (by decide) (by decide)) (h 20 (by decide) (by decide) (by decide))
theorem fmK.trp {σ τ υ : Sto} (h : fmK σ τ) (h2 : pK τ υ) : fmK σ υ := fun a h3 h4 h5 => by rw [h2 a h3 h4]; exact h a h3 h4 h5
set_option maxRecDepth 20000 in
theorem j140_first {d : Nat} {σ : Sto} {LF : LFT} {f : Int} {X Y : List Int} (hW : WC LF σ) (hf : -1 ≤ f ∧ f ≤ 9) (hX : wok X) (hY : wok Y) (hl : X.length + Y.length ≤ 12) (sX : Seg σ 10 0 X) (sY : Seg σ 11 0 Y) (hV : wyI σ (pasC LF σ f) X Y (-1) Y.length) (n : Nat) (c l : Int) (P : List Int) (hc : 0 ≤ c ∧ c ≤ X.length) (h0 : 0 ≤ l ∧ l ≤ Y.length) (hlt : c + l < X.length + Y.length) (hP : (P.length : Int) = c + l) (ih : ∀ (τ' : Sto) (P' : List Int) (c' l' : Int), 0 ≤ c' → c' ≤ X.length → 0 ≤ l' → l' ≤ Y.length → c' + l' = c + l + 1 → fmK σ τ' → Seg τ' 43 0 P' → (P'.length : Int) = c' + l' → Z (z_me cX4_firstMerging RX4 11 none (d + 3) (qV fun σ' => fmK σ σ' ∧ Seg σ' 43 0 (P' ++ fmL (pasC LF σ f) X Y n c'.toNat l'.toNat))) 9 [some (zR 6), some (zR 10), some (zI X.length), some (zR 11), some (zI Y.length), some (zI f), some (zI c'), some (zI l'), some (zI (c' + l')), none, none] [] τ') (τ : Sto) (a b : Int) (ha : yn a (cmP (pasC LF σ f) X Y c.toNat l.toNat)) (hb : yn b (stP (pasC LF σ f) X Y c.toNat l.toNat)) (hK : fmK σ τ) (sP : Seg τ 43 0 P) : Z (z_me cX4_firstMerging RX4 11 none (d + 3) (qV fun σ' => fmK σ σ' ∧ Seg σ' 43 0 (P ++ fmL (pasC LF σ f) X Y (n + 1) c.toNat l.toNat))) 140 [some (zR 6), some (zR 10), some (zI X.length), some (zR 11), some (zI Y.length), some (zI f), some (zI c), some (zI l), some (zI (c + l)), some (zI a), some (zI b)] [] τ := by
  have rX := fun h : c.toNat < X.length => wok.getD hX h
  have rY := fun h : l.toNat < Y.length => wok.getD hY h
  have hca : a = 1 → c.toNat < X.length := fun q => by rcases ha with w | w; exact w.2.1; exact absurd w.1 (by omega)
  have hcb : b = 1 → l.toNat < Y.length := fun q => by rcases hb with w | w; exact w.2.1; exact absurd w.1 (by omega)
  have pa : a ≠ 0 → cmP (pasC LF σ f) X Y c.toNat l.toNat := fun q => by rcases ha with w | w; exact w.2; exact absurd w.1 q
  have na : a = 0 → ¬ cmP (pasC LF σ f) X Y c.toNat l.toNat := fun q => by rcases ha with w | w; exact absurd w.1 (by omega); exact w.2
  have pb : b ≠ 0 → stP (pasC LF σ f) X Y c.toNat l.toNat := fun q => by rcases hb with w | w; exact w.2; exact absurd w.1 q
  have nb : b = 0 → ¬ stP (pasC LF σ f) X Y c.toNat l.toNat := fun q => by rcases hb with w | w; exact absurd w.1 (by omega); exact w.2
  have a01 : a = 0 ∨ a = 1 := by rcases ha with w | w; exact Or.inr w.1; exact Or.inl w.1
  have b01 : b = 0 ∨ b = 1 := by rcases hb with w | w; exact Or.inr w.1; exact Or.inl w.1
  clear ha hb
  refine z_iload dX4_firstMerging_140 rfl ?_
  refine z_if_eq (tgt := 178) dX4_firstMerging_142 (by decide) ⟨by omega, by omega⟩ (fun h142 => ?_) (fun h142 => ?_)
  · skip
    refine z_iload dX4_firstMerging_178 rfl ?_
    refine z_if_eq (tgt := 200) dX4_firstMerging_180 (by decide) ⟨by omega, by omega⟩ (fun h180 => ?_) (fun h180 => ?_)
    · skip
      exact z_vret dX4_firstMerging_200 ⟨hK, by rw [show fmL (pasC LF σ f) X Y (n + 1) c.toNat l.toNat = [] by rw [fmL, if_neg (by first | exact fun w => na (by omega) w.1 | exact fun w => w.2.elim (fun v => absurd (by omega : b = 1) (by omega)) (fun v => by omega)), if_neg (nb (by omega))], List.append_nil]; exact sP⟩
    · skip
      have cY := hcb (by omega)
      refine z_aload_n dX4_firstMerging_183 rfl ?_
      refine z_getR dX4_firstMerging_184 gX4_19 rfl (Nat.le_of_ble_eq_true rfl) rfl ?_
      refine z_iload dX4_firstMerging_187 rfl ?_
      refine z_aload_n dX4_firstMerging_189 rfl ?_
      refine z_iload dX4_firstMerging_190 rfl ?_
      refine z_iald dX4_firstMerging_192 rfl (Nat.le_of_ble_eq_true rfl) (by omega) (fun hr192 => ?_)
      rw [show τ 11 l.toNat = Y.getD l.toNat 0 by rw [hK 11 (by decide) (by decide) (by decide)]; have := Seg.getD sY (show l.toNat < Y.length by omega); rwa [Nat.zero_add] at this]
      have rY2 := wok.getD hY cY
      refine z_iast dX4_firstMerging_193 rfl (Nat.le_of_ble_eq_true rfl) (by omega) ⟨by omega, by omega⟩ ?_
      refine z_iinc (L' := [_, _, _, _, _, _, _, _, _, _, _]) dX4_firstMerging_194 (Nat.le_of_ble_eq_true rfl) rfl rfl rfl ?_
      refine z_goto (tgt := 201) dX4_firstMerging_197 (by decide) ?_
      refine z_iinc (L' := [_, _, _, _, _, _, _, _, _, _, _]) dX4_firstMerging_201 (Nat.le_of_ble_eq_true rfl) rfl rfl rfl ?_
      refine z_goto (tgt := 9) dX4_firstMerging_204 (by decide) ?_
      refine z_forget [true, true, true, true, true, true, true, true, true, false, false] (L' := [_, _, _, _, _, _, _, _, _, _, _]) rfl ?_
      first
        | (have cX : c.toNat < X.length := cX
           have e := ih (z_put τ 43 (c + l).toNat (X.getD c.toNat 0)) (P ++ [X.getD c.toNat 0]) (c + 1) l (by omega) (by omega) (by omega) (by omega) (by omega) (fun q w1 w2 w3 => by rw [z_put_ne w3]; exact hK q w1 w2 w3) (by rw [show (c + l).toNat = P.length by omega]; exact Seg.put sP) (by simp; omega)
           rw [show c + 1 + l = c + l + 1 by omega, toN_s hc.1, List.append_assoc] at e
           rw [show fmL (pasC LF σ f) X Y (n + 1) c.toNat l.toNat = X.getD c.toNat 0 :: fmL (pasC LF σ f) X Y n (c.toNat + 1) l.toNat by rw [fmL, if_pos ⟨pa (by omega), by first | exact Or.inl (nb (by omega)) | exact Or.inr (by omega)⟩]]
           exact e)
        | (have cY : l.toNat < Y.length := cY
           have e := ih (z_put τ 43 (c + l).toNat (Y.getD l.toNat 0)) (P ++ [Y.getD l.toNat 0]) c (l + 1) (by omega) (by omega) (by omega) (by omega) (by omega) (fun q w1 w2 w3 => by rw [z_put_ne w3]; exact hK q w1 w2 w3) (by rw [show (c + l).toNat = P.length by omega]; exact Seg.put sP) (by simp; omega)
           rw [show c + (l + 1) = c + l + 1 by omega, toN_s h0.1, List.append_assoc] at e
           rw [show fmL (pasC LF σ f) X Y (n + 1) c.toNat l.toNat = Y.getD l.toNat 0 :: fmL (pasC LF σ f) X Y n c.toNat (l.toNat + 1) by rw [fmL, if_neg (by first | exact fun w => na (by omega) w.1 | exact fun w => w.2.elim (fun v => v (pb (by omega))) (fun v => by omega)), if_pos (pb (by omega))]]
           exact e)
  · skip
    refine z_iload dX4_firstMerging_145 rfl ?_
    refine z_if_eq (tgt := 161) dX4_firstMerging_147 (by decide) ⟨by omega, by omega⟩ (fun h147 => ?_) (fun h147 => ?_)
    · skip
      have cX := hca (by omega)
      refine z_aload_n dX4_firstMerging_161 rfl ?_
      refine z_getR dX4_firstMerging_162 gX4_19 rfl (Nat.le_of_ble_eq_true rfl) rfl ?_
      refine z_iload dX4_firstMerging_165 rfl ?_
      refine z_aload_n dX4_firstMerging_167 rfl ?_
      refine z_iload dX4_firstMerging_168 rfl ?_
      refine z_iald dX4_firstMerging_170 rfl (Nat.le_of_ble_eq_true rfl) (by omega) (fun hr170 => ?_)
      rw [show τ 10 c.toNat = X.getD c.toNat 0 by rw [hK 10 (by decide) (by decide) (by decide)]; have := Seg.getD sX (show c.toNat < X.length by omega); rwa [Nat.zero_add] at this]
      have rX2 := wok.getD hX cX
      refine z_iast dX4_firstMerging_171 rfl (Nat.le_of_ble_eq_true rfl) (by omega) ⟨by omega, by omega⟩ ?_
      refine z_iinc (L' := [_, _, _, _, _, _, _, _, _, _, _]) dX4_firstMerging_172 (Nat.le_of_ble_eq_true rfl) rfl rfl rfl ?_
      refine z_goto (tgt := 201) dX4_firstMerging_175 (by decide) ?_
      refine z_iinc (L' := [_, _, _, _, _, _, _, _, _, _, _]) dX4_firstMerging_201 (Nat.le_of_ble_eq_true rfl) rfl rfl rfl ?_
      refine z_goto (tgt := 9) dX4_firstMerging_204 (by decide) ?_
      refine z_forget [true, true, true, true, true, true, true, true, true, false, false] (L' := [_, _, _, _, _, _, _, _, _, _, _]) rfl ?_
      first
        | (have cX : c.toNat < X.length := cX
           have e := ih (z_put τ 43 (c + l).toNat (X.getD c.toNat 0)) (P ++ [X.getD c.toNat 0]) (c + 1) l (by omega) (by omega) (by omega) (by omega) (by omega) (fun q w1 w2 w3 => by rw [z_put_ne w3]; exact hK q w1 w2 w3) (by rw [show (c + l).toNat = P.length by omega]; exact Seg.put sP) (by simp; omega)
           rw [show c + 1 + l = c + l + 1 by omega, toN_s hc.1, List.append_assoc] at e
           rw [show fmL (pasC LF σ f) X Y (n + 1) c.toNat l.toNat = X.getD c.toNat 0 :: fmL (pasC LF σ f) X Y n (c.toNat + 1) l.toNat by rw [fmL, if_pos ⟨pa (by omega), by first | exact Or.inl (nb (by omega)) | exact Or.inr (by omega)⟩]]
           exact e)
        | (have cY : l.toNat < Y.length := cY
           have e := ih (z_put τ 43 (c + l).toNat (Y.getD l.toNat 0)) (P ++ [Y.getD l.toNat 0]) c (l + 1) (by omega) (by omega) (by omega) (by omega) (by omega) (fun q w1 w2 w3 => by rw [z_put_ne w3]; exact hK q w1 w2 w3) (by rw [show (c + l).toNat = P.length by omega]; exact Seg.put sP) (by simp; omega)
           rw [show c + (l + 1) = c + l + 1 by omega, toN_s h0.1, List.append_assoc] at e
           rw [show fmL (pasC LF σ f) X Y (n + 1) c.toNat l.toNat = Y.getD l.toNat 0 :: fmL (pasC LF σ f) X Y n c.toNat (l.toNat + 1) by rw [fmL, if_neg (by first | exact fun w => na (by omega) w.1 | exact fun w => w.2.elim (fun v => v (pb (by omega))) (fun v => by omega)), if_pos (pb (by omega))]]
           exact e)
    · skip
      refine z_aload_n dX4_firstMerging_150 rfl ?_
      refine z_iload dX4_firstMerging_151 rfl ?_
      have cX := hca (by omega)
      refine z_iald dX4_firstMerging_153 rfl (Nat.le_of_ble_eq_true rfl) (by omega) (fun hr153 => ?_)
      rw [show τ 10 c.toNat = X.getD c.toNat 0 by rw [hK 10 (by decide) (by decide) (by decide)]; have := Seg.getD sX (show c.toNat < X.length by omega); rwa [Nat.zero_add] at this]
      refine z_aload_n dX4_firstMerging_154 rfl ?_
      refine z_iload dX4_firstMerging_155 rfl ?_
      have cY := hcb (by omega)
      refine z_iald dX4_firstMerging_157 rfl (Nat.le_of_ble_eq_true rfl) (by omega) (fun hr157 => ?_)
      rw [show τ 11 l.toNat = Y.getD l.toNat 0 by rw [hK 11 (by decide) (by decide) (by decide)]; have := Seg.getD sY (show l.toNat < Y.length by omega); rwa [Nat.zero_add] at this]
      have rX := rX (by omega)
      have rY := rY (by omega)
      refine z_icmp_ge (tgt := 178) dX4_firstMerging_158 (by decide) ⟨by omega, by omega⟩ ⟨by omega, by omega⟩ (fun h158 => ?_) (fun h158 => ?_)
      · skip
        refine z_iload dX4_firstMerging_178 rfl ?_
        refine z_if_eq (tgt := 200) dX4_firstMerging_180 (by decide) ⟨by omega, by omega⟩ (fun h180 => ?_) (fun h180 => ?_)
        · skip
          exact z_vret dX4_firstMerging_200 ⟨hK, by rw [show fmL (pasC LF σ f) X Y (n + 1) c.toNat l.toNat = [] by rw [fmL, if_neg (by first | exact fun w => na (by omega) w.1 | exact fun w => w.2.elim (fun v => absurd (by omega : b = 1) (by omega)) (fun v => by omega)), if_neg (nb (by omega))], List.append_nil]; exact sP⟩
        · skip
          have cY := hcb (by omega)
          refine z_aload_n dX4_firstMerging_183 rfl ?_
          refine z_getR dX4_firstMerging_184 gX4_19 rfl (Nat.le_of_ble_eq_true rfl) rfl ?_
          refine z_iload dX4_firstMerging_187 rfl ?_
          refine z_aload_n dX4_firstMerging_189 rfl ?_
          refine z_iload dX4_firstMerging_190 rfl ?_
          refine z_iald dX4_firstMerging_192 rfl (Nat.le_of_ble_eq_true rfl) (by omega) (fun hr192 => ?_)
          rw [show τ 11 l.toNat = Y.getD l.toNat 0 by rw [hK 11 (by decide) (by decide) (by decide)]; have := Seg.getD sY (show l.toNat < Y.length by omega); rwa [Nat.zero_add] at this]
          have rY2 := wok.getD hY cY
          refine z_iast dX4_firstMerging_193 rfl (Nat.le_of_ble_eq_true rfl) (by omega) ⟨by omega, by omega⟩ ?_
          refine z_iinc (L' := [_, _, _, _, _, _, _, _, _, _, _]) dX4_firstMerging_194 (Nat.le_of_ble_eq_true rfl) rfl rfl rfl ?_
          refine z_goto (tgt := 201) dX4_firstMerging_197 (by decide) ?_
          refine z_iinc (L' := [_, _, _, _, _, _, _, _, _, _, _]) dX4_firstMerging_201 (Nat.le_of_ble_eq_true rfl) rfl rfl rfl ?_
          refine z_goto (tgt := 9) dX4_firstMerging_204 (by decide) ?_
          refine z_forget [true, true, true, true, true, true, true, true, true, false, false] (L' := [_, _, _, _, _, _, _, _, _, _, _]) rfl ?_
          first
            | (have cX : c.toNat < X.length := cX
               have e := ih (z_put τ 43 (c + l).toNat (X.getD c.toNat 0)) (P ++ [X.getD c.toNat 0]) (c + 1) l (by omega) (by omega) (by omega) (by omega) (by omega) (fun q w1 w2 w3 => by rw [z_put_ne w3]; exact hK q w1 w2 w3) (by rw [show (c + l).toNat = P.length by omega]; exact Seg.put sP) (by simp; omega)
               rw [show c + 1 + l = c + l + 1 by omega, toN_s hc.1, List.append_assoc] at e
               rw [show fmL (pasC LF σ f) X Y (n + 1) c.toNat l.toNat = X.getD c.toNat 0 :: fmL (pasC LF σ f) X Y n (c.toNat + 1) l.toNat by rw [fmL, if_pos ⟨pa (by omega), by first | exact Or.inl (nb (by omega)) | exact Or.inr (by omega)⟩]]
               exact e)
            | (have cY : l.toNat < Y.length := cY
               have e := ih (z_put τ 43 (c + l).toNat (Y.getD l.toNat 0)) (P ++ [Y.getD l.toNat 0]) c (l + 1) (by omega) (by omega) (by omega) (by omega) (by omega) (fun q w1 w2 w3 => by rw [z_put_ne w3]; exact hK q w1 w2 w3) (by rw [show (c + l).toNat = P.length by omega]; exact Seg.put sP) (by simp; omega)
               rw [show c + (l + 1) = c + l + 1 by omega, toN_s h0.1, List.append_assoc] at e
               rw [show fmL (pasC LF σ f) X Y (n + 1) c.toNat l.toNat = Y.getD l.toNat 0 :: fmL (pasC LF σ f) X Y n c.toNat (l.toNat + 1) by rw [fmL, if_neg (by first | exact fun w => na (by omega) w.1 | exact fun w => w.2.elim (fun v => v (pb (by omega))) (fun v => by omega)), if_pos (pb (by omega))]]
               exact e)
      · skip
        have cX := hca (by omega)
        refine z_aload_n dX4_firstMerging_161 rfl ?_
        refine z_getR dX4_firstMerging_162 gX4_19 rfl (Nat.le_of_ble_eq_true rfl) rfl ?_
        refine z_iload dX4_firstMerging_165 rfl ?_
        refine z_aload_n dX4_firstMerging_167 rfl ?_
        refine z_iload dX4_firstMerging_168 rfl ?_
        refine z_iald dX4_firstMerging_170 rfl (Nat.le_of_ble_eq_true rfl) (by omega) (fun hr170 => ?_)
        rw [show τ 10 c.toNat = X.getD c.toNat 0 by rw [hK 10 (by decide) (by decide) (by decide)]; have := Seg.getD sX (show c.toNat < X.length by omega); rwa [Nat.zero_add] at this]
        have rX2 := wok.getD hX cX
        refine z_iast dX4_firstMerging_171 rfl (Nat.le_of_ble_eq_true rfl) (by omega) ⟨by omega, by omega⟩ ?_
        refine z_iinc (L' := [_, _, _, _, _, _, _, _, _, _, _]) dX4_firstMerging_172 (Nat.le_of_ble_eq_true rfl) rfl rfl rfl ?_
        refine z_goto (tgt := 201) dX4_firstMerging_175 (by decide) ?_
        refine z_iinc (L' := [_, _, _, _, _, _, _, _, _, _, _]) dX4_firstMerging_201 (Nat.le_of_ble_eq_true rfl) rfl rfl rfl ?_
        refine z_goto (tgt := 9) dX4_firstMerging_204 (by decide) ?_
        refine z_forget [true, true, true, true, true, true, true, true, true, false, false] (L' := [_, _, _, _, _, _, _, _, _, _, _]) rfl ?_
        first
          | (have cX : c.toNat < X.length := cX
             have e := ih (z_put τ 43 (c + l).toNat (X.getD c.toNat 0)) (P ++ [X.getD c.toNat 0]) (c + 1) l (by omega) (by omega) (by omega) (by omega) (by omega) (fun q w1 w2 w3 => by rw [z_put_ne w3]; exact hK q w1 w2 w3) (by rw [show (c + l).toNat = P.length by omega]; exact Seg.put sP) (by simp; omega)
             rw [show c + 1 + l = c + l + 1 by omega, toN_s hc.1, List.append_assoc] at e
             rw [show fmL (pasC LF σ f) X Y (n + 1) c.toNat l.toNat = X.getD c.toNat 0 :: fmL (pasC LF σ f) X Y n (c.toNat + 1) l.toNat by rw [fmL, if_pos ⟨pa (by omega), by first | exact Or.inl (nb (by omega)) | exact Or.inr (by omega)⟩]]
             exact e)
          | (have cY : l.toNat < Y.length := cY
             have e := ih (z_put τ 43 (c + l).toNat (Y.getD l.toNat 0)) (P ++ [Y.getD l.toNat 0]) c (l + 1) (by omega) (by omega) (by omega) (by omega) (by omega) (fun q w1 w2 w3 => by rw [z_put_ne w3]; exact hK q w1 w2 w3) (by rw [show (c + l).toNat = P.length by omega]; exact Seg.put sP) (by simp; omega)
             rw [show c + (l + 1) = c + l + 1 by omega, toN_s h0.1, List.append_assoc] at e
             rw [show fmL (pasC LF σ f) X Y (n + 1) c.toNat l.toNat = Y.getD l.toNat 0 :: fmL (pasC LF σ f) X Y n c.toNat (l.toNat + 1) by rw [fmL, if_neg (by first | exact fun w => na (by omega) w.1 | exact fun w => w.2.elim (fun v => v (pb (by omega))) (fun v => by omega)), if_pos (pb (by omega))]]
             exact e)
set_option maxRecDepth 20000 in
theorem j82_first {d : Nat} {σ : Sto} {LF : LFT} {f : Int} {X Y : List Int} (hW : WC LF σ) (hf : -1 ≤ f ∧ f ≤ 9) (hX : wok X) (hY : wok Y) (hl : X.length + Y.length ≤ 12) (sX : Seg σ 10 0 X) (sY : Seg σ 11 0 Y) (hV : wyI σ (pasC LF σ f) X Y (-1) Y.length) (n : Nat) (c l : Int) (P : List Int) (hc : 0 ≤ c ∧ c ≤ X.length) (h0 : 0 ≤ l ∧ l ≤ Y.length) (hlt : c + l < X.length + Y.length) (hP : (P.length : Int) = c + l) (ih : ∀ (τ' : Sto) (P' : List Int) (c' l' : Int), 0 ≤ c' → c' ≤ X.length → 0 ≤ l' → l' ≤ Y.length → c' + l' = c + l + 1 → fmK σ τ' → Seg τ' 43 0 P' → (P'.length : Int) = c' + l' → Z (z_me cX4_firstMerging RX4 11 none (d + 3) (qV fun σ' => fmK σ σ' ∧ Seg σ' 43 0 (P' ++ fmL (pasC LF σ f) X Y n c'.toNat l'.toNat))) 9 [some (zR 6), some (zR 10), some (zI X.length), some (zR 11), some (zI Y.length), some (zI f), some (zI c'), some (zI l'), some (zI (c' + l')), none, none] [] τ') (τ : Sto) (a : Int) (ha : yn a (cmP (pasC LF σ f) X Y c.toNat l.toNat)) (hK : fmK σ τ) (sP : Seg τ 43 0 P) : Z (z_me cX4_firstMerging RX4 11 none (d + 3) (qV fun σ' => fmK σ σ' ∧ Seg σ' 43 0 (P ++ fmL (pasC LF σ f) X Y (n + 1) c.toNat l.toNat))) 82 [some (zR 6), some (zR 10), some (zI X.length), some (zR 11), some (zI Y.length), some (zI f), some (zI c), some (zI l), some (zI (c + l)), some (zI a), none] [] τ := by
  have ecl : ((c.toNat + l.toNat : Nat) : Int) = c + l := by omega
  have el : ((l.toNat : Nat) : Int) = l := by omega
  have v2 : l.toNat < Y.length → τ (59 + c.toNat) (l + 1).toNat = wyW (pasC LF σ f) X Y c.toNat (l.toNat + 1) := fun h => by rw [hK _ (by omega) (by omega) (by omega), toN_s h0.1]; exact hV _ _ (by omega) (by omega) (by omega)
  have n2 := wyW_R (ps := pasC LF σ f) (c := c.toNat) (l := l.toNat + 1) hl
  refine z_iload dX4_firstMerging_82 rfl ?_
  refine z_iload dX4_firstMerging_84 rfl ?_
  refine z_icmp_ge (tgt := 137) dX4_firstMerging_86 (by decide) ⟨by omega, by omega⟩ ⟨by omega, by omega⟩ (fun h86 => ?_) (fun h86 => ?_)
  · skip
    refine z_iconst dX4_firstMerging_137 ?_
    refine z_istore (L' := [_, _, _, _, _, _, _, _, _, _, _]) dX4_firstMerging_138 (Nat.le_of_ble_eq_true rfl) rfl rfl ?_
    first
      | exact j140_first hW hf hX hY hl sX sY hV n c l P hc h0 hlt hP ih τ a _ ha (Or.inr ⟨rfl, fun w => absurd w.1 (by omega)⟩) hK sP
      | exact j140_first hW hf hX hY hl sX sY hV n c l P hc h0 hlt hP ih τ a _ ha (Or.inr ⟨rfl, fun w => absurd w.2.1 (by omega)⟩) hK sP
      | exact j140_first hW hf hX hY hl sX sY hV n c l P hc h0 hlt hP ih σ127 a _ ha (Or.inr ⟨rfl, fun w => by have q := w.2.2; rw [ecl, el] at q; rcases hps with v | v; exact absurd (q.symm.trans v.2) (by decide); exact absurd v.1 (by omega)⟩) (hK.trp hfr) (Seg.row (hfr 43 (by decide) (by decide)) sP)
      | exact j140_first hW hf hX hY hl sX sY hV n c l P hc h0 hlt hP ih σ127 a _ ha (Or.inl ⟨rfl, by omega, by omega, by rw [ecl, el]; rcases hps with v | v; exact absurd v.1 (by omega); exact v.2⟩) (hK.trp hfr) (Seg.row (hfr 43 (by decide) (by decide)) sP)
  · skip
    refine z_iload dX4_firstMerging_89 rfl ?_
    refine z_aload_n dX4_firstMerging_91 rfl ?_
    refine z_alen dX4_firstMerging_92 rfl (Nat.le_of_ble_eq_true rfl) (Nat.le_of_ble_eq_true rfl) ?_
    refine z_icmp_ge (tgt := 137) dX4_firstMerging_93 (by decide) ⟨by omega, by omega⟩ ⟨by omega, by omega⟩ (fun h93 => ?_) (fun h93 => ?_)
    · skip
      refine z_iconst dX4_firstMerging_137 ?_
      refine z_istore (L' := [_, _, _, _, _, _, _, _, _, _, _]) dX4_firstMerging_138 (Nat.le_of_ble_eq_true rfl) rfl rfl ?_
      first
        | exact j140_first hW hf hX hY hl sX sY hV n c l P hc h0 hlt hP ih τ a _ ha (Or.inr ⟨rfl, fun w => absurd w.1 (by omega)⟩) hK sP
        | exact j140_first hW hf hX hY hl sX sY hV n c l P hc h0 hlt hP ih τ a _ ha (Or.inr ⟨rfl, fun w => absurd w.2.1 (by omega)⟩) hK sP
        | exact j140_first hW hf hX hY hl sX sY hV n c l P hc h0 hlt hP ih σ127 a _ ha (Or.inr ⟨rfl, fun w => by have q := w.2.2; rw [ecl, el] at q; rcases hps with v | v; exact absurd (q.symm.trans v.2) (by decide); exact absurd v.1 (by omega)⟩) (hK.trp hfr) (Seg.row (hfr 43 (by decide) (by decide)) sP)
        | exact j140_first hW hf hX hY hl sX sY hV n c l P hc h0 hlt hP ih σ127 a _ ha (Or.inl ⟨rfl, by omega, by omega, by rw [ecl, el]; rcases hps with v | v; exact absurd v.1 (by omega); exact v.2⟩) (hK.trp hfr) (Seg.row (hfr 43 (by decide) (by decide)) sP)
    · skip
      refine z_aload_n dX4_firstMerging_96 rfl ?_
      refine z_getR dX4_firstMerging_97 gX4_36 rfl (Nat.le_of_ble_eq_true rfl) rfl ?_
      refine z_iload dX4_firstMerging_100 rfl ?_
      refine z_aald dX4_firstMerging_102 rfl (Or.inr rfl) (Nat.le_of_ble_eq_true rfl) (by omega) ?_
      refine z_iload dX4_firstMerging_103 rfl ?_
      refine z_iconst dX4_firstMerging_105 ?_
      refine z_iadd dX4_firstMerging_106 ?_
      refine z_lald dX4_firstMerging_107 (lay_ways _ (by omega)) (show 59 + c.toNat < 121 by omega) (by omega) (fun hr107 => ?_)
      rw [v2 (by omega)]
      refine z_lconst (v := 0) dX4_firstMerging_108 (by decide +kernel) ?_
      refine z_lc_le (tgt := 137) dX4_firstMerging_109 dX4_firstMerging_110 (by decide) ⟨by omega, by omega⟩ ⟨by omega, by omega⟩ (fun h109 => ?_) (fun h109 => ?_)
      · skip
        refine z_iconst dX4_firstMerging_137 ?_
        refine z_istore (L' := [_, _, _, _, _, _, _, _, _, _, _]) dX4_firstMerging_138 (Nat.le_of_ble_eq_true rfl) rfl rfl ?_
        first
          | exact j140_first hW hf hX hY hl sX sY hV n c l P hc h0 hlt hP ih τ a _ ha (Or.inr ⟨rfl, fun w => absurd w.1 (by omega)⟩) hK sP
          | exact j140_first hW hf hX hY hl sX sY hV n c l P hc h0 hlt hP ih τ a _ ha (Or.inr ⟨rfl, fun w => absurd w.2.1 (by omega)⟩) hK sP
          | exact j140_first hW hf hX hY hl sX sY hV n c l P hc h0 hlt hP ih σ127 a _ ha (Or.inr ⟨rfl, fun w => by have q := w.2.2; rw [ecl, el] at q; rcases hps with v | v; exact absurd (q.symm.trans v.2) (by decide); exact absurd v.1 (by omega)⟩) (hK.trp hfr) (Seg.row (hfr 43 (by decide) (by decide)) sP)
          | exact j140_first hW hf hX hY hl sX sY hV n c l P hc h0 hlt hP ih σ127 a _ ha (Or.inl ⟨rfl, by omega, by omega, by rw [ecl, el]; rcases hps with v | v; exact absurd v.1 (by omega); exact v.2⟩) (hK.trp hfr) (Seg.row (hfr 43 (by decide) (by decide)) sP)
      · skip
        refine z_aload_n dX4_firstMerging_113 rfl ?_
        refine z_getR dX4_firstMerging_114 gX4_15 rfl (Nat.le_of_ble_eq_true rfl) rfl ?_
        refine z_aload_n dX4_firstMerging_117 rfl ?_
        refine z_iload dX4_firstMerging_118 rfl ?_
        refine z_iald dX4_firstMerging_120 rfl (Nat.le_of_ble_eq_true rfl) (by omega) (fun hr120 => ?_)
        rw [show τ 11 l.toNat = Y.getD l.toNat 0 by rw [hK 11 (by decide) (by decide) (by decide)]; have := Seg.getD sY (show l.toNat < Y.length by omega); rwa [Nat.zero_add] at this]
        refine z_iload dX4_firstMerging_121 rfl ?_
        refine z_iload dX4_firstMerging_123 rfl ?_
        refine z_iload dX4_firstMerging_125 rfl ?_
        refine z_callVI (d := d + 2) (av := [_, _, _, _]) dX4_firstMerging_127 vX4_59 rfl (Nat.le_of_ble_eq_true rfl) rfl rfl rfl (Nat.le_of_ble_eq_true rfl) (Nat.le_refl _) (c_X6_passes (LF := LF) (hK.wc hW) (wok.getD hY (by omega)) hf (by omega) (by omega)) (fun z127 σ127 h127 => ?_)
        obtain ⟨hps, hfr⟩ := h127
        rw [hK.ps] at hps
        refine z_if_ne (tgt := 137) dX4_firstMerging_130 (by decide) ⟨by omega, by omega⟩ (fun h130 => ?_) (fun h130 => ?_)
        · skip
          refine z_iconst dX4_firstMerging_137 ?_
          refine z_istore (L' := [_, _, _, _, _, _, _, _, _, _, _]) dX4_firstMerging_138 (Nat.le_of_ble_eq_true rfl) rfl rfl ?_
          first
            | exact j140_first hW hf hX hY hl sX sY hV n c l P hc h0 hlt hP ih τ a _ ha (Or.inr ⟨rfl, fun w => absurd w.1 (by omega)⟩) hK sP
            | exact j140_first hW hf hX hY hl sX sY hV n c l P hc h0 hlt hP ih τ a _ ha (Or.inr ⟨rfl, fun w => absurd w.2.1 (by omega)⟩) hK sP
            | exact j140_first hW hf hX hY hl sX sY hV n c l P hc h0 hlt hP ih σ127 a _ ha (Or.inr ⟨rfl, fun w => by have q := w.2.2; rw [ecl, el] at q; rcases hps with v | v; exact absurd (q.symm.trans v.2) (by decide); exact absurd v.1 (by omega)⟩) (hK.trp hfr) (Seg.row (hfr 43 (by decide) (by decide)) sP)
            | exact j140_first hW hf hX hY hl sX sY hV n c l P hc h0 hlt hP ih σ127 a _ ha (Or.inl ⟨rfl, by omega, by omega, by rw [ecl, el]; rcases hps with v | v; exact absurd v.1 (by omega); exact v.2⟩) (hK.trp hfr) (Seg.row (hfr 43 (by decide) (by decide)) sP)
        · skip
          refine z_iconst dX4_firstMerging_133 ?_
          refine z_goto (tgt := 138) dX4_firstMerging_134 (by decide) ?_
          refine z_istore (L' := [_, _, _, _, _, _, _, _, _, _, _]) dX4_firstMerging_138 (Nat.le_of_ble_eq_true rfl) rfl rfl ?_
          first
            | exact j140_first hW hf hX hY hl sX sY hV n c l P hc h0 hlt hP ih τ a _ ha (Or.inr ⟨rfl, fun w => absurd w.1 (by omega)⟩) hK sP
            | exact j140_first hW hf hX hY hl sX sY hV n c l P hc h0 hlt hP ih τ a _ ha (Or.inr ⟨rfl, fun w => absurd w.2.1 (by omega)⟩) hK sP
            | exact j140_first hW hf hX hY hl sX sY hV n c l P hc h0 hlt hP ih σ127 a _ ha (Or.inr ⟨rfl, fun w => by have q := w.2.2; rw [ecl, el] at q; rcases hps with v | v; exact absurd (q.symm.trans v.2) (by decide); exact absurd v.1 (by omega)⟩) (hK.trp hfr) (Seg.row (hfr 43 (by decide) (by decide)) sP)
            | exact j140_first hW hf hX hY hl sX sY hV n c l P hc h0 hlt hP ih σ127 a _ ha (Or.inl ⟨rfl, by omega, by omega, by rw [ecl, el]; rcases hps with v | v; exact absurd v.1 (by omega); exact v.2⟩) (hK.trp hfr) (Seg.row (hfr 43 (by decide) (by decide)) sP)
set_option maxRecDepth 20000 in
theorem l_X4_firstMerging {d : Nat} {σ : Sto} {LF : LFT} {f : Int} {X Y : List Int} (hW : WC LF σ) (hf : -1 ≤ f ∧ f ≤ 9) (hX : wok X) (hY : wok Y) (hl : X.length + Y.length ≤ 12) (sX : Seg σ 10 0 X) (sY : Seg σ 11 0 Y) (hV : wyI σ (pasC LF σ f) X Y (-1) Y.length) : ∀ (n : Nat) (τ : Sto) (P : List Int) (c l : Int), c + l + n = X.length + Y.length → 0 ≤ c → c ≤ X.length → 0 ≤ l → l ≤ Y.length → fmK σ τ → Seg τ 43 0 P → (P.length : Int) = c + l → Z (z_me cX4_firstMerging RX4 11 none (d + 3) (qV fun σ' => fmK σ σ' ∧ Seg σ' 43 0 (P ++ fmL (pasC LF σ f) X Y n c.toNat l.toNat))) 9 [some (zR 6), some (zR 10), some (zI X.length), some (zR 11), some (zI Y.length), some (zI f), some (zI c), some (zI l), some (zI (c + l)), none, none] [] τ
  | 0, τ, P, c, l, hn, h1, h2, h3, h4, hK, sP, hP => by
    refine z_iload dX4_firstMerging_9 rfl ?_
    refine z_bipush (v := 12) dX4_firstMerging_11 (by decide +kernel) ?_
    refine z_icmp_ge (tgt := 207) dX4_firstMerging_13 (by decide) ⟨by omega, by omega⟩ ⟨by omega, by omega⟩ (fun h13 => ?_) (fun h13 => ?_)
    · first
      | exfalso; omega
      | skip
        exact z_vret dX4_firstMerging_207 ⟨hK, by rw [fmL, List.append_nil]; exact sP⟩
    · first
      | exfalso; omega
      | skip
        refine z_iload dX4_firstMerging_16 rfl ?_
        refine z_iload_n dX4_firstMerging_18 rfl ?_
        refine z_iload dX4_firstMerging_19 rfl ?_
        refine z_iadd dX4_firstMerging_21 ?_
        refine z_icmp_ge (tgt := 207) dX4_firstMerging_22 (by decide) ⟨by omega, by omega⟩ ⟨by omega, by omega⟩ (fun h22 => ?_) (fun h22 => ?_)
        · skip
          exact z_vret dX4_firstMerging_207 ⟨hK, by rw [fmL, List.append_nil]; exact sP⟩
        · exfalso; omega
  | n + 1, τ, P, c, l, hn, h1, h2, h3, h4, hK, sP, hP => by
    have ecl : ((c.toNat + l.toNat : Nat) : Int) = c + l := by omega
    have el : ((l.toNat : Nat) : Int) = l := by omega
    have v1 : c.toNat < X.length → τ (59 + (c + 1).toNat) l.toNat = wyW (pasC LF σ f) X Y (c.toNat + 1) l.toNat := fun h => by rw [hK _ (by omega) (by omega) (by omega), toN_s h1]; exact hV _ _ (by omega) (by omega) (by omega)
    have n1 := wyW_R (ps := pasC LF σ f) (c := c.toNat + 1) (l := l.toNat) hl
    have ih : ∀ (τ' : Sto) (P' : List Int) (c' l' : Int), 0 ≤ c' → c' ≤ X.length → 0 ≤ l' → l' ≤ Y.length → c' + l' = c + l + 1 → fmK σ τ' → Seg τ' 43 0 P' → (P'.length : Int) = c' + l' → Z (z_me cX4_firstMerging RX4 11 none (d + 3) (qV fun σ' => fmK σ σ' ∧ Seg σ' 43 0 (P' ++ fmL (pasC LF σ f) X Y n c'.toNat l'.toNat))) 9 [some (zR 6), some (zR 10), some (zI X.length), some (zR 11), some (zI Y.length), some (zI f), some (zI c'), some (zI l'), some (zI (c' + l')), none, none] [] τ' := fun τ' P' c' l' q1 q2 q3 q4 q5 q6 q7 q8 => l_X4_firstMerging hW hf hX hY hl sX sY hV n τ' P' c' l' (by omega) q1 q2 q3 q4 q6 q7 q8
    refine z_iload dX4_firstMerging_9 rfl ?_
    refine z_bipush (v := 12) dX4_firstMerging_11 (by decide +kernel) ?_
    refine z_icmp_ge (tgt := 207) dX4_firstMerging_13 (by decide) ⟨by omega, by omega⟩ ⟨by omega, by omega⟩ (fun h13 => ?_) (fun h13 => ?_)
    · exfalso; omega
    · skip
      refine z_iload dX4_firstMerging_16 rfl ?_
      refine z_iload_n dX4_firstMerging_18 rfl ?_
      refine z_iload dX4_firstMerging_19 rfl ?_
      refine z_iadd dX4_firstMerging_21 ?_
      refine z_icmp_ge (tgt := 207) dX4_firstMerging_22 (by decide) ⟨by omega, by omega⟩ ⟨by omega, by omega⟩ (fun h22 => ?_) (fun h22 => ?_)
      · exfalso; omega
      · skip
        refine z_iload dX4_firstMerging_25 rfl ?_
        refine z_iload_n dX4_firstMerging_27 rfl ?_
        refine z_icmp_ge (tgt := 79) dX4_firstMerging_28 (by decide) ⟨by omega, by omega⟩ ⟨by omega, by omega⟩ (fun h28 => ?_) (fun h28 => ?_)
        · skip
          refine z_iconst dX4_firstMerging_79 ?_
          refine z_istore (L' := [_, _, _, _, _, _, _, _, _, _, _]) dX4_firstMerging_80 (Nat.le_of_ble_eq_true rfl) rfl rfl ?_
          first
            | exact j82_first hW hf hX hY hl sX sY hV n c l P ⟨h1, h2⟩ ⟨h3, h4⟩ (by omega) hP ih τ _ (Or.inr ⟨rfl, fun w => absurd w.1 (by omega)⟩) hK sP
            | exact j82_first hW hf hX hY hl sX sY hV n c l P ⟨h1, h2⟩ ⟨h3, h4⟩ (by omega) hP ih τ _ (Or.inr ⟨rfl, fun w => absurd w.2.1 (by omega)⟩) hK sP
            | exact j82_first hW hf hX hY hl sX sY hV n c l P ⟨h1, h2⟩ ⟨h3, h4⟩ (by omega) hP ih σ69 _ (Or.inr ⟨rfl, fun w => by have q := w.2.2; rw [ecl, el] at q; rcases hps with v | v; exact absurd v.1 (by omega); exact absurd (q.symm.trans v.2) (by decide)⟩) (hK.trp hfr) (Seg.row (hfr 43 (by decide) (by decide)) sP)
            | exact j82_first hW hf hX hY hl sX sY hV n c l P ⟨h1, h2⟩ ⟨h3, h4⟩ (by omega) hP ih σ69 _ (Or.inl ⟨rfl, by omega, by omega, by rw [ecl, el]; rcases hps with v | v; exact v.2; exact absurd v.1 (by omega)⟩) (hK.trp hfr) (Seg.row (hfr 43 (by decide) (by decide)) sP)
        · skip
          refine z_iload dX4_firstMerging_31 rfl ?_
          refine z_aload_n dX4_firstMerging_33 rfl ?_
          refine z_alen dX4_firstMerging_34 rfl (Nat.le_of_ble_eq_true rfl) (Nat.le_of_ble_eq_true rfl) ?_
          refine z_icmp_ge (tgt := 79) dX4_firstMerging_35 (by decide) ⟨by omega, by omega⟩ ⟨by omega, by omega⟩ (fun h35 => ?_) (fun h35 => ?_)
          · skip
            refine z_iconst dX4_firstMerging_79 ?_
            refine z_istore (L' := [_, _, _, _, _, _, _, _, _, _, _]) dX4_firstMerging_80 (Nat.le_of_ble_eq_true rfl) rfl rfl ?_
            first
              | exact j82_first hW hf hX hY hl sX sY hV n c l P ⟨h1, h2⟩ ⟨h3, h4⟩ (by omega) hP ih τ _ (Or.inr ⟨rfl, fun w => absurd w.1 (by omega)⟩) hK sP
              | exact j82_first hW hf hX hY hl sX sY hV n c l P ⟨h1, h2⟩ ⟨h3, h4⟩ (by omega) hP ih τ _ (Or.inr ⟨rfl, fun w => absurd w.2.1 (by omega)⟩) hK sP
              | exact j82_first hW hf hX hY hl sX sY hV n c l P ⟨h1, h2⟩ ⟨h3, h4⟩ (by omega) hP ih σ69 _ (Or.inr ⟨rfl, fun w => by have q := w.2.2; rw [ecl, el] at q; rcases hps with v | v; exact absurd v.1 (by omega); exact absurd (q.symm.trans v.2) (by decide)⟩) (hK.trp hfr) (Seg.row (hfr 43 (by decide) (by decide)) sP)
              | exact j82_first hW hf hX hY hl sX sY hV n c l P ⟨h1, h2⟩ ⟨h3, h4⟩ (by omega) hP ih σ69 _ (Or.inl ⟨rfl, by omega, by omega, by rw [ecl, el]; rcases hps with v | v; exact v.2; exact absurd v.1 (by omega)⟩) (hK.trp hfr) (Seg.row (hfr 43 (by decide) (by decide)) sP)
          · skip
            refine z_aload_n dX4_firstMerging_38 rfl ?_
            refine z_getR dX4_firstMerging_39 gX4_36 rfl (Nat.le_of_ble_eq_true rfl) rfl ?_
            refine z_iload dX4_firstMerging_42 rfl ?_
            refine z_iconst dX4_firstMerging_44 ?_
            refine z_iadd dX4_firstMerging_45 ?_
            refine z_aald dX4_firstMerging_46 rfl (Or.inr rfl) (Nat.le_of_ble_eq_true rfl) (by omega) ?_
            refine z_iload dX4_firstMerging_47 rfl ?_
            refine z_lald dX4_firstMerging_49 (lay_ways _ (by omega)) (show 59 + (c + 1).toNat < 121 by omega) (by omega) (fun hr49 => ?_)
            rw [v1 (by omega)]
            refine z_lconst (v := 0) dX4_firstMerging_50 (by decide +kernel) ?_
            refine z_lc_le (tgt := 79) dX4_firstMerging_51 dX4_firstMerging_52 (by decide) ⟨by omega, by omega⟩ ⟨by omega, by omega⟩ (fun h51 => ?_) (fun h51 => ?_)
            · skip
              refine z_iconst dX4_firstMerging_79 ?_
              refine z_istore (L' := [_, _, _, _, _, _, _, _, _, _, _]) dX4_firstMerging_80 (Nat.le_of_ble_eq_true rfl) rfl rfl ?_
              first
                | exact j82_first hW hf hX hY hl sX sY hV n c l P ⟨h1, h2⟩ ⟨h3, h4⟩ (by omega) hP ih τ _ (Or.inr ⟨rfl, fun w => absurd w.1 (by omega)⟩) hK sP
                | exact j82_first hW hf hX hY hl sX sY hV n c l P ⟨h1, h2⟩ ⟨h3, h4⟩ (by omega) hP ih τ _ (Or.inr ⟨rfl, fun w => absurd w.2.1 (by omega)⟩) hK sP
                | exact j82_first hW hf hX hY hl sX sY hV n c l P ⟨h1, h2⟩ ⟨h3, h4⟩ (by omega) hP ih σ69 _ (Or.inr ⟨rfl, fun w => by have q := w.2.2; rw [ecl, el] at q; rcases hps with v | v; exact absurd v.1 (by omega); exact absurd (q.symm.trans v.2) (by decide)⟩) (hK.trp hfr) (Seg.row (hfr 43 (by decide) (by decide)) sP)
                | exact j82_first hW hf hX hY hl sX sY hV n c l P ⟨h1, h2⟩ ⟨h3, h4⟩ (by omega) hP ih σ69 _ (Or.inl ⟨rfl, by omega, by omega, by rw [ecl, el]; rcases hps with v | v; exact v.2; exact absurd v.1 (by omega)⟩) (hK.trp hfr) (Seg.row (hfr 43 (by decide) (by decide)) sP)
            · skip
              refine z_aload_n dX4_firstMerging_55 rfl ?_
              refine z_getR dX4_firstMerging_56 gX4_15 rfl (Nat.le_of_ble_eq_true rfl) rfl ?_
              refine z_aload_n dX4_firstMerging_59 rfl ?_
              refine z_iload dX4_firstMerging_60 rfl ?_
              refine z_iald dX4_firstMerging_62 rfl (Nat.le_of_ble_eq_true rfl) (by omega) (fun hr62 => ?_)
              rw [show τ 10 c.toNat = X.getD c.toNat 0 by rw [hK 10 (by decide) (by decide) (by decide)]; have := Seg.getD sX (show c.toNat < X.length by omega); rwa [Nat.zero_add] at this]
              refine z_iload dX4_firstMerging_63 rfl ?_
              refine z_iload dX4_firstMerging_65 rfl ?_
              refine z_iload dX4_firstMerging_67 rfl ?_
              refine z_callVI (d := d + 2) (av := [_, _, _, _]) dX4_firstMerging_69 vX4_59 rfl (Nat.le_of_ble_eq_true rfl) rfl rfl rfl (Nat.le_of_ble_eq_true rfl) (Nat.le_refl _) (c_X6_passes (LF := LF) (hK.wc hW) (wok.getD hX (by omega)) hf (by omega) (by omega)) (fun z69 σ69 h69 => ?_)
              obtain ⟨hps, hfr⟩ := h69
              rw [hK.ps] at hps
              refine z_if_eq (tgt := 79) dX4_firstMerging_72 (by decide) ⟨by omega, by omega⟩ (fun h72 => ?_) (fun h72 => ?_)
              · skip
                refine z_iconst dX4_firstMerging_79 ?_
                refine z_istore (L' := [_, _, _, _, _, _, _, _, _, _, _]) dX4_firstMerging_80 (Nat.le_of_ble_eq_true rfl) rfl rfl ?_
                first
                  | exact j82_first hW hf hX hY hl sX sY hV n c l P ⟨h1, h2⟩ ⟨h3, h4⟩ (by omega) hP ih τ _ (Or.inr ⟨rfl, fun w => absurd w.1 (by omega)⟩) hK sP
                  | exact j82_first hW hf hX hY hl sX sY hV n c l P ⟨h1, h2⟩ ⟨h3, h4⟩ (by omega) hP ih τ _ (Or.inr ⟨rfl, fun w => absurd w.2.1 (by omega)⟩) hK sP
                  | exact j82_first hW hf hX hY hl sX sY hV n c l P ⟨h1, h2⟩ ⟨h3, h4⟩ (by omega) hP ih σ69 _ (Or.inr ⟨rfl, fun w => by have q := w.2.2; rw [ecl, el] at q; rcases hps with v | v; exact absurd v.1 (by omega); exact absurd (q.symm.trans v.2) (by decide)⟩) (hK.trp hfr) (Seg.row (hfr 43 (by decide) (by decide)) sP)
                  | exact j82_first hW hf hX hY hl sX sY hV n c l P ⟨h1, h2⟩ ⟨h3, h4⟩ (by omega) hP ih σ69 _ (Or.inl ⟨rfl, by omega, by omega, by rw [ecl, el]; rcases hps with v | v; exact v.2; exact absurd v.1 (by omega)⟩) (hK.trp hfr) (Seg.row (hfr 43 (by decide) (by decide)) sP)
              · skip
                refine z_iconst dX4_firstMerging_75 ?_
                refine z_goto (tgt := 80) dX4_firstMerging_76 (by decide) ?_
                refine z_istore (L' := [_, _, _, _, _, _, _, _, _, _, _]) dX4_firstMerging_80 (Nat.le_of_ble_eq_true rfl) rfl rfl ?_
                first
                  | exact j82_first hW hf hX hY hl sX sY hV n c l P ⟨h1, h2⟩ ⟨h3, h4⟩ (by omega) hP ih τ _ (Or.inr ⟨rfl, fun w => absurd w.1 (by omega)⟩) hK sP
                  | exact j82_first hW hf hX hY hl sX sY hV n c l P ⟨h1, h2⟩ ⟨h3, h4⟩ (by omega) hP ih τ _ (Or.inr ⟨rfl, fun w => absurd w.2.1 (by omega)⟩) hK sP
                  | exact j82_first hW hf hX hY hl sX sY hV n c l P ⟨h1, h2⟩ ⟨h3, h4⟩ (by omega) hP ih σ69 _ (Or.inr ⟨rfl, fun w => by have q := w.2.2; rw [ecl, el] at q; rcases hps with v | v; exact absurd v.1 (by omega); exact absurd (q.symm.trans v.2) (by decide)⟩) (hK.trp hfr) (Seg.row (hfr 43 (by decide) (by decide)) sP)
                  | exact j82_first hW hf hX hY hl sX sY hV n c l P ⟨h1, h2⟩ ⟨h3, h4⟩ (by omega) hP ih σ69 _ (Or.inl ⟨rfl, by omega, by omega, by rw [ecl, el]; rcases hps with v | v; exact v.2; exact absurd v.1 (by omega)⟩) (hK.trp hfr) (Seg.row (hfr 43 (by decide) (by decide)) sP)
set_option maxRecDepth 20000 in
theorem c_X4_firstMerging {d : Nat} {σ : Sto} {LF : LFT} {f : Int} {X Y : List Int} (hW : WC LF σ) (hf : -1 ≤ f ∧ f ≤ 9) (hX : wok X) (hY : wok Y) (hl : X.length + Y.length ≤ 12) (sX : Seg σ 10 0 X) (sY : Seg σ 11 0 Y) (hV : wyI σ (pasC LF σ f) X Y (-1) Y.length) : m_X4_firstMerging d [zR 6, zR 10, zI X.length, zR 11, zI Y.length, zI f] σ (qV fun σ' => fmK σ σ' ∧ Seg σ' 43 0 (fmL (pasC LF σ f) X Y (X.length + Y.length) 0 0)) := by
  refine z_does (L := [some (zR 6), some (zR 10), some (zI X.length), some (zR 11), some (zI Y.length), some (zI f), none, none, none, none, none]) rfl (by decide +kernel) (Nat.le_of_ble_eq_true rfl) rfl ?_
  refine z_iconst dX4_firstMerging_0 ?_
  refine z_istore (L' := [_, _, _, _, _, _, _, _, _, _, _]) dX4_firstMerging_1 (Nat.le_of_ble_eq_true rfl) rfl rfl ?_
  refine z_iconst dX4_firstMerging_3 ?_
  refine z_istore (L' := [_, _, _, _, _, _, _, _, _, _, _]) dX4_firstMerging_4 (Nat.le_of_ble_eq_true rfl) rfl rfl ?_
  refine z_iconst dX4_firstMerging_6 ?_
  refine z_istore (L' := [_, _, _, _, _, _, _, _, _, _, _]) dX4_firstMerging_7 (Nat.le_of_ble_eq_true rfl) rfl rfl ?_
  exact l_X4_firstMerging hW hf hX hY hl sX sY hV (X.length + Y.length) σ [] 0 0 (by omega) (by omega) (by omega) (by omega) (by omega) (fmK.rf σ) trivial rfl
