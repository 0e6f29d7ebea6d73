/-! ===== The reference's questions: said, saidAt ===== -/
set_option maxRecDepth 20000 in
theorem c_X9_said {d : Nat} {σ : Sto} {LF : LFT} {cl m : Int} (hW : WM LF σ) (hS : SM σ) (hcl : inR cl) (h2 : inR m) : m_X9_said d [zR 9, zI cl, zI m] σ (qJ fun z σ' => z = sdG (prM σ cl) (σ 9 7) m (pasM LF σ (finM σ m)) (SYM σ (cl.tdiv 10)) (SYM σ (cl.tmod 10)) ∧ KM σ σ') := by
  have w1 := hW.1
  have w7 := hW.2.1
  have hprR := prM_R (σ := σ) (t := cl)
  refine z_does (L := [some (zR 9), some (zI cl), some (zI m)]) rfl (by decide +kernel) (Nat.le_of_ble_eq_true rfl) rfl ?_
  refine z_iload_n dX9_said_0 rfl ?_
  refine z_callSI (d := d + 6) (av := [_]) dX9_said_1 sX9_309 rfl rfl (Nat.le_of_ble_eq_true rfl) (Nat.le_refl _) (c_X9_areShelves (by omega)) (fun z1 σ1 h1 => ?_)
  obtain ⟨hs1, h1⟩ := h1
  subst σ1
  refine z_if_eq (tgt := 23) dX9_said_4 (by decide) ⟨by omega, by omega⟩ (fun h4 => ?_) (fun h4 => ?_)
  · skip
    refine z_ldc2 dX9_said_23 kX9_358 ?_
    exact z_lret dX9_said_26 (by
      refine ⟨?_, frM.rf _ _ σ⟩
      unfold sdG
      first
      | (rw [if_pos (by omega)]; rfl)
      | (have e : prM σ cl = -1 := by unfold prM; rw [if_pos (by omega)]
         rw [if_pos (by omega)]; rfl))
  · skip
    refine z_aload_n dX9_said_7 rfl ?_
    refine z_iload_n dX9_said_8 rfl ?_
    refine z_callVI (d := d + 6) (av := [_]) dX9_said_9 vX9_286 rfl (Nat.le_of_ble_eq_true rfl) rfl rfl rfl (Nat.le_of_ble_eq_true rfl) (Nat.le_refl _) (c_X9_isMeshOrNone (by omega) (by omega)) (fun z9 σ9 h9 => ?_)
    obtain ⟨hs9, h9⟩ := h9
    subst σ9
    refine z_if_eq (tgt := 23) dX9_said_12 (by decide) ⟨by omega, by omega⟩ (fun h12 => ?_) (fun h12 => ?_)
    · skip
      refine z_ldc2 dX9_said_23 kX9_358 ?_
      exact z_lret dX9_said_26 (by
        refine ⟨?_, frM.rf _ _ σ⟩
        unfold sdG
        first
        | (rw [if_pos (by omega)]; rfl)
        | (have e : prM σ cl = -1 := by unfold prM; rw [if_pos (by omega)]
           rw [if_pos (by omega)]; rfl))
    · skip
      refine z_aload_n dX9_said_15 rfl ?_
      refine z_iload_n dX9_said_16 rfl ?_
      refine z_callVI (d := d + 6) (av := [_]) dX9_said_17 vX9_312 rfl (Nat.le_of_ble_eq_true rfl) rfl rfl rfl (Nat.le_of_ble_eq_true rfl) (Nat.le_refl _) (c_X9_bothFault hS (by omega) hcl) (fun z17 σ17 h17 => ?_)
      obtain ⟨rfl, hs17⟩ := h17
      subst σ17
      refine z_if_ge (tgt := 27) dX9_said_20 (by decide) ⟨by omega, by omega⟩ (fun h20 => ?_) (fun h20 => ?_)
      · skip
        have hp0 : prM σ cl = 0 := by omega
        refine z_aload_n dX9_said_27 rfl ?_
        refine z_iload_n dX9_said_28 rfl ?_
        refine z_callVV (d := d + 6) (av := [_]) dX9_said_29 vX9_360 rfl (Nat.le_of_ble_eq_true rfl) rfl rfl rfl (Nat.le_of_ble_eq_true rfl) (Nat.le_refl _) (c_X9_layBoth w1 hS hp0 hcl) (fun σ29 h29 => ?_)
        obtain ⟨hk1, hX, hY⟩ := h29
        have hW1 := hk1.wm hW rfl
        refine z_aload_n dX9_said_32 rfl ?_
        refine z_callVI (d := d + 6) (av := []) dX9_said_33 vX9_363 rfl (Nat.le_of_ble_eq_true rfl) rfl rfl rfl (Nat.le_of_ble_eq_true rfl) (Nat.le_refl _) (c_X9_isMuch hX hY) (fun z33 σ33 h33 => ?_)
        obtain ⟨hs33, hmu⟩ := h33
        subst σ33
        refine z_if_eq (tgt := 41) dX9_said_36 (by decide) ⟨by omega, by omega⟩ (fun h36 => ?_) (fun h36 => ?_)
        · skip
          refine z_aload_n dX9_said_41 rfl ?_
          refine z_iload_n dX9_said_42 rfl ?_
          refine z_callVV (d := d + 6) (av := [_]) dX9_said_43 vX9_366 rfl (Nat.le_of_ble_eq_true rfl) rfl rfl rfl (Nat.le_of_ble_eq_true rfl) (Nat.le_refl _) (c_X9_findSaid (LF := LF) hW1 hX hY (by omega) (by omega)) (fun σ43 h43 => ?_)
          obtain ⟨hk2, hI⟩ := h43
          rw [hk1.fi rfl, hk1.pm rfl] at hI
          have hkA : KM σ σ43 := (hk1.mono (by decide) (by decide)).tr (hk2.mono (by decide) (by decide))
          refine z_aload_n dX9_said_46 rfl ?_
          refine z_iconst dX9_said_47 ?_
          refine z_iconst dX9_said_48 ?_
          refine z_callVJ (d := d + 6) (av := [_, _]) dX9_said_49 vX9_351 rfl (Nat.le_of_ble_eq_true rfl) rfl rfl rfl (Nat.le_of_ble_eq_true rfl) (Nat.le_refl _) (c_X9_wayAt (by omega) (by omega)) (fun z49 σ49 h49 => ?_)
          obtain ⟨hz, hzr, hs49⟩ := h49
          subst σ49
          have e49 : z49 = wyW (pasM LF σ (finM σ m)) (SYM σ (cl.tdiv 10)) (SYM σ (cl.tmod 10)) 0 0 := by rw [hz]; exact hI 0 0 (by omega) (by omega) (by omega)
          exact z_lret dX9_said_52 (⟨by unfold sdG; rw [if_neg (by omega), if_neg (by omega)]; exact e49, hkA⟩)
        · skip
          refine z_lconst (v := 0) dX9_said_39 (by decide +kernel) ?_
          exact z_lret dX9_said_40 (⟨by unfold sdG; rw [if_neg (by omega), if_pos (by omega)], hk1.mono (by decide) (by decide)⟩)
      · skip
        refine z_ldc2 dX9_said_23 kX9_358 ?_
        exact z_lret dX9_said_26 (by
          refine ⟨?_, frM.rf _ _ σ⟩
          unfold sdG
          first
          | (rw [if_pos (by omega)]; rfl)
          | (have e : prM σ cl = -1 := by unfold prM; rw [if_pos (by omega)]
             rw [if_pos (by omega)]; rfl))
theorem wy_key {ps : Int → Int → Int → Bool} {X Y : List Int} {c l : Nat} (hc : c ≤ X.length) (hl : l ≤ Y.length) (hn : c + l < X.length + Y.length) (hw : 0 < wyW ps X Y c l) : cmP ps X Y c l ∨ stP ps X Y c l := by
  have e := wyW_eq (ps := ps) hc hl
  rw [if_neg (by omega)] at e
  by_cases g1 : c < X.length ∧ ps (X.getD c 0) (c + l : Nat) l = true
  · by_cases g2 : 0 < wyW ps X Y (c + 1) l
    · exact Or.inl ⟨g1.1, g2, g1.2⟩
    · rw [if_pos g1] at e
      by_cases g3 : l < Y.length ∧ ps (Y.getD l 0) (c + l : Nat) l = false
      · rw [if_pos g3] at e
        exact Or.inr ⟨g3.1, by omega, g3.2⟩
      · rw [if_neg g3] at e
        omega
  · rw [if_neg g1] at e
    by_cases g3 : l < Y.length ∧ ps (Y.getD l 0) (c + l : Nat) l = false
    · rw [if_pos g3] at e
      exact Or.inr ⟨g3.1, by omega, g3.2⟩
    · rw [if_neg g3] at e
      omega
/-- one step of the first order -/
def fmS (ps : Int → Int → Int → Bool) (X Y : List Int) (c l c' l' w' : Int) : Prop :=
  ((cmP ps X Y c.toNat l.toNat ∧ (¬ stP ps X Y c.toNat l.toNat ∨ X.getD c.toNat 0 < Y.getD l.toNat 0)) ∧ c' = c + 1 ∧ l' = l ∧ w' = X.getD c.toNat 0) ∨
  (¬ (cmP ps X Y c.toNat l.toNat ∧ (¬ stP ps X Y c.toNat l.toNat ∨ X.getD c.toNat 0 < Y.getD l.toNat 0)) ∧ stP ps X Y c.toNat l.toNat ∧ c' = c ∧ l' = l + 1 ∧ w' = Y.getD l.toNat 0)
theorem getD_c (w : Int) (F : List Int) : ∀ r : Nat, (w :: F).getD r 0 = if r = 0 then w else F.getD (r - 1) 0
  | 0 => rfl
  | _ + 1 => rfl
theorem fmS_step {ps : Int → Int → Int → Bool} {X Y : List Int} {c l c' l' w' w : Int} (h : fmS ps X Y c l c' l' w') (hc : 0 ≤ c) (hl : 0 ≤ l) (hn : c + l < X.length + Y.length) (r : Nat) :
    (if r = 0 then w' else (fmL ps X Y (X.length + Y.length - (c'.toNat + l'.toNat)) c'.toNat l'.toNat).getD (r - 1) 0) = (if r + 1 = 0 then w else (fmL ps X Y (X.length + Y.length - (c.toNat + l.toNat)) c.toNat l.toNat).getD (r + 1 - 1) 0) := by
  rw [if_neg (Nat.succ_ne_zero r), Nat.add_sub_cancel, show X.length + Y.length - (c.toNat + l.toNat) = (X.length + Y.length - (c.toNat + l.toNat + 1)) + 1 by omega, fmL]
  rcases h with ⟨g1, rfl, rfl, rfl⟩ | ⟨g1, g2, rfl, rfl, rfl⟩
  · rw [if_pos g1, getD_c, show (c + 1).toNat = c.toNat + 1 by omega, show c.toNat + 1 + l'.toNat = c.toNat + l'.toNat + 1 by omega]
  · rw [if_neg g1, if_pos g2, getD_c, show (l + 1).toNat = l.toNat + 1 by omega, show c'.toNat + (l.toNat + 1) = c'.toNat + l.toNat + 1 by omega]
set_option maxRecDepth 20000 in
theorem j170_saidAt {d : Nat} {τ : Sto} {cl m k e0 : Int} {ps : Int → Int → Int → Bool} {X Y : List Int} (hX : r1M τ X) (hY : reM τ Y) {Q : Option Value → Sto → Prop} (c l w n a b : Int) (hc : 0 ≤ c ∧ c ≤ X.length) (h0 : 0 ≤ l ∧ l ≤ Y.length)
    (ha : yn a (cmP ps X Y c.toNat l.toNat)) (hb : yn b (stP ps X Y c.toNat l.toNat)) (hab : cmP ps X Y c.toNat l.toNat ∨ stP ps X Y c.toNat l.toNat)
    (ih : ∀ c' l' w' : Int, fmS ps X Y c l c' l' w' → Z (z_me cX9_saidAt RX9 11 (some .int) (d + 7) Q) 96 [some (zR 9), some (zI cl), some (zI m), some (zI k), some (zI e0), some (zI c'), some (zI l'), some (zI w'), some (zI (n + 1)), none, none] [] τ) :
    Z (z_me cX9_saidAt RX9 11 (some .int) (d + 7) Q) 170 [some (zR 9), some (zI cl), some (zI m), some (zI k), some (zI e0), some (zI c), some (zI l), some (zI w), some (zI n), some (zI a), some (zI b)] [] τ := by
  have x4 := hX.2.2.2
  have y4 := hY.2.2.2
  have ra : inR a := by rcases ha with v | v; rw [v.1]; decide; rw [v.1]; decide
  have rb : inR b := by rcases hb with v | v; rw [v.1]; decide; rw [v.1]; decide
  have pa : a ≠ 0 → cmP ps X Y c.toNat l.toNat := fun q => by rcases ha with v | v; exact v.2; exact absurd v.1 q
  have na : a = 0 → ¬ cmP ps X Y c.toNat l.toNat := fun q => by rcases ha with v | v; exact absurd v.1 (by omega); exact v.2
  have pb : b ≠ 0 → stP ps X Y c.toNat l.toNat := fun q => by rcases hb with v | v; exact v.2; exact absurd v.1 q
  have nb : b = 0 → ¬ stP ps X Y c.toNat l.toNat := fun q => by rcases hb with v | v; exact absurd v.1 (by omega); exact v.2
  have eX : c.toNat < X.length → τ 107 c.toNat = X.getD c.toNat 0 := fun h => by have := Seg.getD hX.2.1 h; rwa [Nat.zero_add] at this
  have eY : l.toNat < Y.length → τ 109 l.toNat = Y.getD l.toNat 0 := fun h => by have := Seg.getD hY.2.1 h; rwa [Nat.zero_add] at this
  have rX := fun h : c.toNat < X.length => wok.getD hX.2.2.1 h
  have rY := fun h : l.toNat < Y.length => wok.getD hY.2.2.1 h
  refine z_iload dX9_saidAt_170 rfl ?_
  refine z_if_eq (tgt := 212) dX9_saidAt_172 (by decide) ⟨by omega, by omega⟩ (fun h172 => ?_) (fun h172 => ?_)
  · skip
    have qc : stP ps X Y c.toNat l.toNat := by first | exact qb | (rcases hab with v | v; exact absurd v (na (by omega)); exact v)
    have qc1 := qc.1
    have ey2 := eY qc1
    refine z_aload_n dX9_saidAt_212 rfl ?_
    refine z_getR dX9_saidAt_213 gX9_101 rfl (Nat.le_of_ble_eq_true rfl) rfl ?_
    refine z_iload dX9_saidAt_216 rfl ?_
    refine z_iald dX9_saidAt_218 rfl (Nat.le_of_ble_eq_true rfl) (by omega) (fun hr218 => ?_)
    rw [ey2]
    refine z_istore (L' := [_, _, _, _, _, _, _, _, _, _, _]) dX9_saidAt_219 (Nat.le_of_ble_eq_true rfl) rfl rfl ?_
    refine z_iinc (L' := [_, _, _, _, _, _, _, _, _, _, _]) dX9_saidAt_221 (Nat.le_of_ble_eq_true rfl) rfl rfl rfl ?_
    refine z_iinc (L' := [_, _, _, _, _, _, _, _, _, _, _]) dX9_saidAt_224 (Nat.le_of_ble_eq_true rfl) rfl rfl rfl ?_
    refine z_goto (tgt := 96) dX9_saidAt_227 (by decide) ?_
    refine z_forget [true, true, true, true, true, true, true, true, true, false, false] (L' := [_, _, _, _, _, _, _, _, _, _, _]) rfl ?_
    first
      | exact ih _ _ _ (Or.inl ⟨⟨qa, Or.inl (nb (by omega))⟩, rfl, rfl, rfl⟩)
      | exact ih _ _ _ (Or.inl ⟨⟨qa, Or.inr (by omega)⟩, rfl, rfl, rfl⟩)
      | exact ih _ _ _ (Or.inr ⟨fun v => na (by omega) v.1, qc, rfl, rfl, rfl⟩)
      | exact ih _ _ _ (Or.inr ⟨fun v => by rcases v.2 with u | u; exact u qc; omega, qc, rfl, rfl, rfl⟩)
  · skip
    have qa := pa (by omega)
    have qa1 := qa.1
    have ex := eX qa1
    have rx := rX qa1
    refine z_iload dX9_saidAt_175 rfl ?_
    refine z_if_eq (tgt := 197) dX9_saidAt_177 (by decide) ⟨by omega, by omega⟩ (fun h177 => ?_) (fun h177 => ?_)
    · skip
      refine z_aload_n dX9_saidAt_197 rfl ?_
      refine z_getR dX9_saidAt_198 gX9_94 rfl (Nat.le_of_ble_eq_true rfl) rfl ?_
      refine z_iload dX9_saidAt_201 rfl ?_
      refine z_iald dX9_saidAt_203 rfl (Nat.le_of_ble_eq_true rfl) (by omega) (fun hr203 => ?_)
      rw [ex]
      refine z_istore (L' := [_, _, _, _, _, _, _, _, _, _, _]) dX9_saidAt_204 (Nat.le_of_ble_eq_true rfl) rfl rfl ?_
      refine z_iinc (L' := [_, _, _, _, _, _, _, _, _, _, _]) dX9_saidAt_206 (Nat.le_of_ble_eq_true rfl) rfl rfl rfl ?_
      refine z_goto (tgt := 224) dX9_saidAt_209 (by decide) ?_
      refine z_iinc (L' := [_, _, _, _, _, _, _, _, _, _, _]) dX9_saidAt_224 (Nat.le_of_ble_eq_true rfl) rfl rfl rfl ?_
      refine z_goto (tgt := 96) dX9_saidAt_227 (by decide) ?_
      refine z_forget [true, true, true, true, true, true, true, true, true, false, false] (L' := [_, _, _, _, _, _, _, _, _, _, _]) rfl ?_
      first
        | exact ih _ _ _ (Or.inl ⟨⟨qa, Or.inl (nb (by omega))⟩, rfl, rfl, rfl⟩)
        | exact ih _ _ _ (Or.inl ⟨⟨qa, Or.inr (by omega)⟩, rfl, rfl, rfl⟩)
        | exact ih _ _ _ (Or.inr ⟨fun v => na (by omega) v.1, qc, rfl, rfl, rfl⟩)
        | exact ih _ _ _ (Or.inr ⟨fun v => by rcases v.2 with u | u; exact u qc; omega, qc, rfl, rfl, rfl⟩)
    · skip
      have qb := pb (by omega)
      have qb1 := qb.1
      have ey := eY qb1
      have ry := rY qb1
      refine z_aload_n dX9_saidAt_180 rfl ?_
      refine z_getR dX9_saidAt_181 gX9_94 rfl (Nat.le_of_ble_eq_true rfl) rfl ?_
      refine z_iload dX9_saidAt_184 rfl ?_
      refine z_iald dX9_saidAt_186 rfl (Nat.le_of_ble_eq_true rfl) (by omega) (fun hr186 => ?_)
      rw [ex]
      refine z_aload_n dX9_saidAt_187 rfl ?_
      refine z_getR dX9_saidAt_188 gX9_101 rfl (Nat.le_of_ble_eq_true rfl) rfl ?_
      refine z_iload dX9_saidAt_191 rfl ?_
      refine z_iald dX9_saidAt_193 rfl (Nat.le_of_ble_eq_true rfl) (by omega) (fun hr193 => ?_)
      rw [ey]
      refine z_icmp_ge (tgt := 212) dX9_saidAt_194 (by decide) ⟨by omega, by omega⟩ ⟨by omega, by omega⟩ (fun h194 => ?_) (fun h194 => ?_)
      · skip
        have qc : stP ps X Y c.toNat l.toNat := by first | exact qb | (rcases hab with v | v; exact absurd v (na (by omega)); exact v)
        have qc1 := qc.1
        have ey2 := eY qc1
        refine z_aload_n dX9_saidAt_212 rfl ?_
        refine z_getR dX9_saidAt_213 gX9_101 rfl (Nat.le_of_ble_eq_true rfl) rfl ?_
        refine z_iload dX9_saidAt_216 rfl ?_
        refine z_iald dX9_saidAt_218 rfl (Nat.le_of_ble_eq_true rfl) (by omega) (fun hr218 => ?_)
        rw [ey2]
        refine z_istore (L' := [_, _, _, _, _, _, _, _, _, _, _]) dX9_saidAt_219 (Nat.le_of_ble_eq_true rfl) rfl rfl ?_
        refine z_iinc (L' := [_, _, _, _, _, _, _, _, _, _, _]) dX9_saidAt_221 (Nat.le_of_ble_eq_true rfl) rfl rfl rfl ?_
        refine z_iinc (L' := [_, _, _, _, _, _, _, _, _, _, _]) dX9_saidAt_224 (Nat.le_of_ble_eq_true rfl) rfl rfl rfl ?_
        refine z_goto (tgt := 96) dX9_saidAt_227 (by decide) ?_
        refine z_forget [true, true, true, true, true, true, true, true, true, false, false] (L' := [_, _, _, _, _, _, _, _, _, _, _]) rfl ?_
        first
          | exact ih _ _ _ (Or.inl ⟨⟨qa, Or.inl (nb (by omega))⟩, rfl, rfl, rfl⟩)
          | exact ih _ _ _ (Or.inl ⟨⟨qa, Or.inr (by omega)⟩, rfl, rfl, rfl⟩)
          | exact ih _ _ _ (Or.inr ⟨fun v => na (by omega) v.1, qc, rfl, rfl, rfl⟩)
          | exact ih _ _ _ (Or.inr ⟨fun v => by rcases v.2 with u | u; exact u qc; omega, qc, rfl, rfl, rfl⟩)
      · skip
        refine z_aload_n dX9_saidAt_197 rfl ?_
        refine z_getR dX9_saidAt_198 gX9_94 rfl (Nat.le_of_ble_eq_true rfl) rfl ?_
        refine z_iload dX9_saidAt_201 rfl ?_
        refine z_iald dX9_saidAt_203 rfl (Nat.le_of_ble_eq_true rfl) (by omega) (fun hr203 => ?_)
        rw [ex]
        refine z_istore (L' := [_, _, _, _, _, _, _, _, _, _, _]) dX9_saidAt_204 (Nat.le_of_ble_eq_true rfl) rfl rfl ?_
        refine z_iinc (L' := [_, _, _, _, _, _, _, _, _, _, _]) dX9_saidAt_206 (Nat.le_of_ble_eq_true rfl) rfl rfl rfl ?_
        refine z_goto (tgt := 224) dX9_saidAt_209 (by decide) ?_
        refine z_iinc (L' := [_, _, _, _, _, _, _, _, _, _, _]) dX9_saidAt_224 (Nat.le_of_ble_eq_true rfl) rfl rfl rfl ?_
        refine z_goto (tgt := 96) dX9_saidAt_227 (by decide) ?_
        refine z_forget [true, true, true, true, true, true, true, true, true, false, false] (L' := [_, _, _, _, _, _, _, _, _, _, _]) rfl ?_
        first
          | exact ih _ _ _ (Or.inl ⟨⟨qa, Or.inl (nb (by omega))⟩, rfl, rfl, rfl⟩)
          | exact ih _ _ _ (Or.inl ⟨⟨qa, Or.inr (by omega)⟩, rfl, rfl, rfl⟩)
          | exact ih _ _ _ (Or.inr ⟨fun v => na (by omega) v.1, qc, rfl, rfl, rfl⟩)
          | exact ih _ _ _ (Or.inr ⟨fun v => by rcases v.2 with u | u; exact u qc; omega, qc, rfl, rfl, rfl⟩)
set_option maxRecDepth 20000 in
theorem j136_saidAt {d : Nat} {σ : Sto} {LF : LFT} {cl m k e0 : Int} {X Y : List Int} (hW : WM LF σ) (hX : r1M σ X) (hY : reM σ Y) (hm : -1 ≤ m ∧ m < 5) (hl : X.length + Y.length ≤ 12) {Q : Option Value → Sto → Prop} (c l w n a : Int) (hc : 0 ≤ c ∧ c ≤ X.length) (h0 : 0 ≤ l ∧ l ≤ Y.length)
    (ha : yn a (cmP (pasM LF σ (finM σ m)) X Y c.toNat l.toNat)) (hab : cmP (pasM LF σ (finM σ m)) X Y c.toNat l.toNat ∨ stP (pasM LF σ (finM σ m)) X Y c.toNat l.toNat) (τ : Sto) (hK : fsK σ τ) (hI : wyIM τ (pasM LF σ (finM σ m)) X Y (-1) Y.length)
    (ih : ∀ (τ' : Sto) (c' l' w' : Int), fsK σ τ' → wyIM τ' (pasM LF σ (finM σ m)) X Y (-1) Y.length → fmS (pasM LF σ (finM σ m)) X Y c l c' l' w' → Z (z_me cX9_saidAt RX9 11 (some .int) (d + 7) Q) 96 [some (zR 9), some (zI cl), some (zI m), some (zI k), some (zI e0), some (zI c'), some (zI l'), some (zI w'), some (zI (n + 1)), none, none] [] τ') :
    Z (z_me cX9_saidAt RX9 11 (some .int) (d + 7) Q) 136 [some (zR 9), some (zI cl), some (zI m), some (zI k), some (zI e0), some (zI c), some (zI l), some (zI w), some (zI n), some (zI a), none] [] τ := by
  have n2 := wyW_R (ps := pasM LF σ (finM σ m)) (c := c.toNat) (l := l.toNat + 1) hl
  have ecl : ((c.toNat + l.toNat : Nat) : Int) = c + l := by omega
  have el : ((l.toNat : Nat) : Int) = l := by omega
  refine z_aload_n dX9_saidAt_136 rfl ?_
  refine z_iload dX9_saidAt_137 rfl ?_
  refine z_iload dX9_saidAt_139 rfl ?_
  refine z_iload_n dX9_saidAt_141 rfl ?_
  refine z_callVI (d := d + 6) (av := [_, _, _]) dX9_saidAt_142 vX9_355 rfl (Nat.le_of_ble_eq_true rfl) rfl rfl rfl (Nat.le_of_ble_eq_true rfl) (Nat.le_refl _) (c_X9_stays (LF := LF) (hK.wm hW rfl) (hY.fr hK (by decide) (by decide)) (by omega) h0 hm) (fun z142 σ142 h142 => ?_)
  obtain ⟨hst, hfr⟩ := h142
  rw [hK.fi rfl, hK.pm rfl] at hst
  have hr142 : inR z142 := by rcases hst with q | q; rw [q.1]; decide; rw [q.1]; decide
  have hK2 : fsK σ σ142 := hK.tr (hfr.mono (by decide) (by decide))
  have hI2 : wyIM σ142 (pasM LF σ (finM σ m)) X Y (-1) Y.length := fun a b ha hb h => by rw [hfr.1 108 (by decide) (by decide)]; exact hI a b ha hb h
  refine z_if_eq (tgt := 167) dX9_saidAt_145 (by decide) ⟨by omega, by omega⟩ (fun h145 => ?_) (fun h145 => ?_)
  · skip
    refine z_iconst dX9_saidAt_167 ?_
    refine z_istore (L' := [_, _, _, _, _, _, _, _, _, _, _]) dX9_saidAt_168 (Nat.le_of_ble_eq_true rfl) rfl rfl ?_
    first
      | exact j170_saidAt (hX.fr hK2 (by decide) (by decide)) (hY.fr hK2 (by decide) (by decide)) c l w n a _ hc h0 ha (Or.inl ⟨rfl, by omega, by omega, by rw [ecl, el]; exact hst2.2⟩) hab (fun c' l' w' g => ih _ c' l' w' hK2 hI2 g)
      | exact j170_saidAt (hX.fr hK2 (by decide) (by decide)) (hY.fr hK2 (by decide) (by decide)) c l w n a _ hc h0 ha (Or.inr ⟨rfl, fun v => by have := v.2.1; omega⟩) hab (fun c' l' w' g => ih _ c' l' w' hK2 hI2 g)
      | exact j170_saidAt (hX.fr hK2 (by decide) (by decide)) (hY.fr hK2 (by decide) (by decide)) c l w n a _ hc h0 ha (Or.inr ⟨rfl, fun v => by have v1 := v.1; have v2 := v.2.2; rw [ecl, el] at v2; rcases hst with q | q; exact absurd q.1 (by omega); exact q.2 ⟨by omega, v2⟩⟩) hab (fun c' l' w' g => ih _ c' l' w' hK2 hI2 g)
  · skip
    have hst2 : l < Y.length ∧ pasM LF σ (finM σ m) (Y.getD l.toNat 0) (c + l) l = false := by rcases hst with q | q; exact q.2; exact absurd q.1 (by omega)
    have hst3 := hst2.1
    refine z_aload_n dX9_saidAt_148 rfl ?_
    refine z_iload dX9_saidAt_149 rfl ?_
    refine z_iload dX9_saidAt_151 rfl ?_
    refine z_iconst dX9_saidAt_153 ?_
    refine z_iadd dX9_saidAt_154 ?_
    refine z_callVJ (d := d + 6) (av := [_, _]) dX9_saidAt_155 vX9_351 rfl (Nat.le_of_ble_eq_true rfl) rfl rfl rfl (Nat.le_of_ble_eq_true rfl) (Nat.le_refl _) (c_X9_wayAt (by omega) (by omega)) (fun z155 σ155 h155 => ?_)
    obtain ⟨hz, hzr, hs155⟩ := h155
    subst σ155
    have e155 : z155 = wyW (pasM LF σ (finM σ m)) X Y c.toNat (l.toNat + 1) := by rw [hz, show (13 * c + (l + 1)).toNat = 13 * c.toNat + (l.toNat + 1) by omega]; exact hI2 _ _ (by omega) (by omega) (by omega)
    refine z_lconst (v := 0) dX9_saidAt_158 (by decide +kernel) ?_
    refine z_lc_le (tgt := 167) dX9_saidAt_159 dX9_saidAt_160 (by decide) ⟨by omega, by omega⟩ ⟨by omega, by omega⟩ (fun h159 => ?_) (fun h159 => ?_)
    · skip
      refine z_iconst dX9_saidAt_167 ?_
      refine z_istore (L' := [_, _, _, _, _, _, _, _, _, _, _]) dX9_saidAt_168 (Nat.le_of_ble_eq_true rfl) rfl rfl ?_
      first
        | exact j170_saidAt (hX.fr hK2 (by decide) (by decide)) (hY.fr hK2 (by decide) (by decide)) c l w n a _ hc h0 ha (Or.inl ⟨rfl, by omega, by omega, by rw [ecl, el]; exact hst2.2⟩) hab (fun c' l' w' g => ih _ c' l' w' hK2 hI2 g)
        | exact j170_saidAt (hX.fr hK2 (by decide) (by decide)) (hY.fr hK2 (by decide) (by decide)) c l w n a _ hc h0 ha (Or.inr ⟨rfl, fun v => by have := v.2.1; omega⟩) hab (fun c' l' w' g => ih _ c' l' w' hK2 hI2 g)
        | exact j170_saidAt (hX.fr hK2 (by decide) (by decide)) (hY.fr hK2 (by decide) (by decide)) c l w n a _ hc h0 ha (Or.inr ⟨rfl, fun v => by have v1 := v.1; have v2 := v.2.2; rw [ecl, el] at v2; rcases hst with q | q; exact absurd q.1 (by omega); exact q.2 ⟨by omega, v2⟩⟩) hab (fun c' l' w' g => ih _ c' l' w' hK2 hI2 g)
    · skip
      refine z_iconst dX9_saidAt_163 ?_
      refine z_goto (tgt := 168) dX9_saidAt_164 (by decide) ?_
      refine z_istore (L' := [_, _, _, _, _, _, _, _, _, _, _]) dX9_saidAt_168 (Nat.le_of_ble_eq_true rfl) rfl rfl ?_
      first
        | exact j170_saidAt (hX.fr hK2 (by decide) (by decide)) (hY.fr hK2 (by decide) (by decide)) c l w n a _ hc h0 ha (Or.inl ⟨rfl, by omega, by omega, by rw [ecl, el]; exact hst2.2⟩) hab (fun c' l' w' g => ih _ c' l' w' hK2 hI2 g)
        | exact j170_saidAt (hX.fr hK2 (by decide) (by decide)) (hY.fr hK2 (by decide) (by decide)) c l w n a _ hc h0 ha (Or.inr ⟨rfl, fun v => by have := v.2.1; omega⟩) hab (fun c' l' w' g => ih _ c' l' w' hK2 hI2 g)
        | exact j170_saidAt (hX.fr hK2 (by decide) (by decide)) (hY.fr hK2 (by decide) (by decide)) c l w n a _ hc h0 ha (Or.inr ⟨rfl, fun v => by have v1 := v.1; have v2 := v.2.2; rw [ecl, el] at v2; rcases hst with q | q; exact absurd q.1 (by omega); exact q.2 ⟨by omega, v2⟩⟩) hab (fun c' l' w' g => ih _ c' l' w' hK2 hI2 g)
set_option maxRecDepth 20000 in
theorem l_X9_saidAt {d : Nat} {σ : Sto} {LF : LFT} {cl m k e0 : Int} {X Y : List Int} (hW : WM LF σ) (hX : r1M σ X) (hY : reM σ Y) (hm : -1 ≤ m ∧ m < 5) (hl : X.length + Y.length ≤ 12) (hk : 0 ≤ k ∧ k < X.length + Y.length) :
    ∀ (r : Nat) (τ : Sto) (c l n w : Int), n + r = k + 1 → (0 ≤ c ∧ c ≤ X.length) → (0 ≤ l ∧ l ≤ Y.length) → n = c + l → 0 < wyW (pasM LF σ (finM σ m)) X Y c.toNat l.toNat → inR w → fsK σ τ → wyIM τ (pasM LF σ (finM σ m)) X Y (-1) Y.length →
    Z (z_me cX9_saidAt RX9 11 (some .int) (d + 7) (qI fun z σ' => z = (if r = 0 then w else (fmL (pasM LF σ (finM σ m)) X Y (X.length + Y.length - (c.toNat + l.toNat)) c.toNat l.toNat).getD (r - 1) 0) ∧ fsK σ σ')) 96 [some (zR 9), some (zI cl), some (zI m), some (zI k), some (zI e0), some (zI c), some (zI l), some (zI w), some (zI n), none, none] [] τ
  | 0, τ, c, l, n, w, hn, hc, h0, hnl, hwy, hw, hK, hI => by
    refine z_iload dX9_saidAt_96 rfl ?_
    refine z_iload_n dX9_saidAt_98 rfl ?_
    refine z_icmp_gt (tgt := 230) dX9_saidAt_99 (by decide) ⟨by omega, by omega⟩ ⟨by omega, by omega⟩ (fun h99 => ?_) (fun h99 => ?_)
    · skip
      refine z_iload dX9_saidAt_230 rfl ?_
      exact z_iret dX9_saidAt_232 ⟨by rw [if_pos rfl], hK⟩
    · exfalso; omega
  | r + 1, τ, c, l, n, w, hn, hc, h0, hnl, hwy, hw, hK, hI => by
    have n1 := wyW_R (ps := pasM LF σ (finM σ m)) (c := c.toNat + 1) (l := l.toNat) hl
    have ecl : ((c.toNat + l.toNat : Nat) : Int) = c + l := by omega
    have el : ((l.toNat : Nat) : Int) = l := by omega
    have hab := wy_key (ps := pasM LF σ (finM σ m)) (X := X) (Y := Y) (c := c.toNat) (l := l.toNat) (by omega) (by omega) (by omega) hwy
    have nxt : ∀ (τ' : Sto) (c' l' w' : Int), fsK σ τ' → wyIM τ' (pasM LF σ (finM σ m)) X Y (-1) Y.length → fmS (pasM LF σ (finM σ m)) X Y c l c' l' w' → Z (z_me cX9_saidAt RX9 11 (some .int) (d + 7) (qI fun z σ' => z = (if r + 1 = 0 then w else (fmL (pasM LF σ (finM σ m)) X Y (X.length + Y.length - (c.toNat + l.toNat)) c.toNat l.toNat).getD (r + 1 - 1) 0) ∧ fsK σ σ')) 96 [some (zR 9), some (zI cl), some (zI m), some (zI k), some (zI e0), some (zI c'), some (zI l'), some (zI w'), some (zI (n + 1)), none, none] [] τ' := fun τ' c' l' w' g1 g2 g3 => by
      have es := fmS_step (w := w) g3 hc.1 h0.1 (by omega) r
      rw [← es]
      rcases g3 with ⟨q1, rfl, rfl, rfl⟩ | ⟨q1, q2, rfl, rfl, rfl⟩
      · have b1 := q1.1.1
        have b2 := wok.getD hX.2.2.1 b1
        exact l_X9_saidAt hW hX hY hm hl hk r τ' _ _ (n + 1) _ (by omega) (by omega) h0 (by omega) (by rw [show (c + 1).toNat = c.toNat + 1 by omega]; exact q1.1.2.1) (by omega) g1 g2
      · have b1 := q2.1
        have b2 := wok.getD hY.2.2.1 b1
        exact l_X9_saidAt hW hX hY hm hl hk r τ' _ _ (n + 1) _ (by omega) hc (by omega) (by omega) (by rw [show (l + 1).toNat = l.toNat + 1 by omega]; exact q2.2.1) (by omega) g1 g2
    refine z_iload dX9_saidAt_96 rfl ?_
    refine z_iload_n dX9_saidAt_98 rfl ?_
    refine z_icmp_gt (tgt := 230) dX9_saidAt_99 (by decide) ⟨by omega, by omega⟩ ⟨by omega, by omega⟩ (fun h99 => ?_) (fun h99 => ?_)
    · exfalso; omega
    · skip
      refine z_aload_n dX9_saidAt_102 rfl ?_
      refine z_iload dX9_saidAt_103 rfl ?_
      refine z_iload dX9_saidAt_105 rfl ?_
      refine z_iload_n dX9_saidAt_107 rfl ?_
      refine z_callVI (d := d + 6) (av := [_, _, _]) dX9_saidAt_108 vX9_348 rfl (Nat.le_of_ble_eq_true rfl) rfl rfl rfl (Nat.le_of_ble_eq_true rfl) (Nat.le_refl _) (c_X9_comes (LF := LF) (hK.wm hW rfl) (hX.fr hK (by decide) (by decide)) hc (by omega) hm) (fun z108 σ108 h108 => ?_)
      obtain ⟨hst, hfr⟩ := h108
      rw [hK.fi rfl, hK.pm rfl] at hst
      have hr108 : inR z108 := by rcases hst with q | q; rw [q.1]; decide; rw [q.1]; decide
      have hK2 : fsK σ σ108 := hK.tr (hfr.mono (by decide) (by decide))
      have hI2 : wyIM σ108 (pasM LF σ (finM σ m)) X Y (-1) Y.length := fun a b ha hb h => by rw [hfr.1 108 (by decide) (by decide)]; exact hI a b ha hb h
      refine z_if_eq (tgt := 133) dX9_saidAt_111 (by decide) ⟨by omega, by omega⟩ (fun h111 => ?_) (fun h111 => ?_)
      · skip
        refine z_iconst dX9_saidAt_133 ?_
        refine z_istore (L' := [_, _, _, _, _, _, _, _, _, _, _]) dX9_saidAt_134 (Nat.le_of_ble_eq_true rfl) rfl rfl ?_
        first
          | exact j136_saidAt hW hX hY hm hl c l w n _ hc h0 (Or.inl ⟨rfl, by omega, by omega, by rw [ecl, el]; exact hst2.2⟩) hab _ hK2 hI2 nxt
          | exact j136_saidAt hW hX hY hm hl c l w n _ hc h0 (Or.inr ⟨rfl, fun v => by have := v.2.1; omega⟩) hab _ hK2 hI2 nxt
          | exact j136_saidAt hW hX hY hm hl c l w n _ hc h0 (Or.inr ⟨rfl, fun v => by have v1 := v.1; have v2 := v.2.2; rw [ecl, el] at v2; rcases hst with q | q; exact absurd q.1 (by omega); exact q.2 ⟨by omega, v2⟩⟩) hab _ hK2 hI2 nxt
      · skip
        have hst2 : c < X.length ∧ pasM LF σ (finM σ m) (X.getD c.toNat 0) (c + l) l = true := by rcases hst with q | q; exact q.2; exact absurd q.1 (by omega)
        have hst3 := hst2.1
        refine z_aload_n dX9_saidAt_114 rfl ?_
        refine z_iload dX9_saidAt_115 rfl ?_
        refine z_iconst dX9_saidAt_117 ?_
        refine z_iadd dX9_saidAt_118 ?_
        refine z_iload dX9_saidAt_119 rfl ?_
        refine z_callVJ (d := d + 6) (av := [_, _]) dX9_saidAt_121 vX9_351 rfl (Nat.le_of_ble_eq_true rfl) rfl rfl rfl (Nat.le_of_ble_eq_true rfl) (Nat.le_refl _) (c_X9_wayAt (by omega) (by omega)) (fun z121 σ121 h121 => ?_)
        obtain ⟨hz, hzr, hs121⟩ := h121
        subst σ121
        have e121 : z121 = wyW (pasM LF σ (finM σ m)) X Y (c.toNat + 1) l.toNat := by rw [hz, show (13 * (c + 1) + l).toNat = 13 * (c.toNat + 1) + l.toNat by omega]; exact hI2 _ _ (by omega) (by omega) (by omega)
        refine z_lconst (v := 0) dX9_saidAt_124 (by decide +kernel) ?_
        refine z_lc_le (tgt := 133) dX9_saidAt_125 dX9_saidAt_126 (by decide) ⟨by omega, by omega⟩ ⟨by omega, by omega⟩ (fun h125 => ?_) (fun h125 => ?_)
        · skip
          refine z_iconst dX9_saidAt_133 ?_
          refine z_istore (L' := [_, _, _, _, _, _, _, _, _, _, _]) dX9_saidAt_134 (Nat.le_of_ble_eq_true rfl) rfl rfl ?_
          first
            | exact j136_saidAt hW hX hY hm hl c l w n _ hc h0 (Or.inl ⟨rfl, by omega, by omega, by rw [ecl, el]; exact hst2.2⟩) hab _ hK2 hI2 nxt
            | exact j136_saidAt hW hX hY hm hl c l w n _ hc h0 (Or.inr ⟨rfl, fun v => by have := v.2.1; omega⟩) hab _ hK2 hI2 nxt
            | exact j136_saidAt hW hX hY hm hl c l w n _ hc h0 (Or.inr ⟨rfl, fun v => by have v1 := v.1; have v2 := v.2.2; rw [ecl, el] at v2; rcases hst with q | q; exact absurd q.1 (by omega); exact q.2 ⟨by omega, v2⟩⟩) hab _ hK2 hI2 nxt
        · skip
          refine z_iconst dX9_saidAt_129 ?_
          refine z_goto (tgt := 134) dX9_saidAt_130 (by decide) ?_
          refine z_istore (L' := [_, _, _, _, _, _, _, _, _, _, _]) dX9_saidAt_134 (Nat.le_of_ble_eq_true rfl) rfl rfl ?_
          first
            | exact j136_saidAt hW hX hY hm hl c l w n _ hc h0 (Or.inl ⟨rfl, by omega, by omega, by rw [ecl, el]; exact hst2.2⟩) hab _ hK2 hI2 nxt
            | exact j136_saidAt hW hX hY hm hl c l w n _ hc h0 (Or.inr ⟨rfl, fun v => by have := v.2.1; omega⟩) hab _ hK2 hI2 nxt
            | exact j136_saidAt hW hX hY hm hl c l w n _ hc h0 (Or.inr ⟨rfl, fun v => by have v1 := v.1; have v2 := v.2.2; rw [ecl, el] at v2; rcases hst with q | q; exact absurd q.1 (by omega); exact q.2 ⟨by omega, v2⟩⟩) hab _ hK2 hI2 nxt
set_option maxRecDepth 20000 in
theorem c_X9_saidAt {d : Nat} {σ : Sto} {LF : LFT} {cl m k : Int} (hW : WM LF σ) (hS : SM σ) (hcl : inR cl) (h2 : inR m) (h3 : inR k) : m_X9_saidAt d [zR 9, zI cl, zI m, zI k] σ (qI fun z σ' => z = saG (prM σ cl) (σ 9 7) m (pasM LF σ (finM σ m)) (SYM σ (cl.tdiv 10)) (SYM σ (cl.tmod 10)) k ∧ KM σ σ') := by
  have w1 := hW.1
  have w7 := hW.2.1
  have hprR := prM_R (σ := σ) (t := cl)
  refine z_does (L := [some (zR 9), some (zI cl), some (zI m), some (zI k), none, none, none, none, none, none, none]) rfl (by decide +kernel) (Nat.le_of_ble_eq_true rfl) rfl ?_
  refine z_iload_n dX9_saidAt_0 rfl ?_
  refine z_callSI (d := d + 6) (av := [_]) dX9_saidAt_1 sX9_309 rfl rfl (Nat.le_of_ble_eq_true rfl) (Nat.le_refl _) (c_X9_areShelves (by omega)) (fun z1 σ1 h1 => ?_)
  obtain ⟨hs1, h1⟩ := h1
  subst σ1
  refine z_if_eq (tgt := 19) dX9_saidAt_4 (by decide) ⟨by omega, by omega⟩ (fun h4 => ?_) (fun h4 => ?_)
  · skip
    refine z_iconst dX9_saidAt_19 ?_
    exact z_iret dX9_saidAt_20 (by
      refine ⟨?_, frM.rf _ _ σ⟩
      unfold saG
      by_cases q : k < 0 ∨ ¬ (-1 ≤ m ∧ m < σ 9 7)
      · rw [if_pos q]
      · have e : prM σ cl = -1 := by unfold prM; rw [if_pos (by omega)]
        rw [if_neg q, e]; rfl)
  · skip
    refine z_aload_n dX9_saidAt_7 rfl ?_
    refine z_iload_n dX9_saidAt_8 rfl ?_
    refine z_callVI (d := d + 6) (av := [_]) dX9_saidAt_9 vX9_286 rfl (Nat.le_of_ble_eq_true rfl) rfl rfl rfl (Nat.le_of_ble_eq_true rfl) (Nat.le_refl _) (c_X9_isMeshOrNone (by omega) (by omega)) (fun z9 σ9 h9 => ?_)
    obtain ⟨hs9, h9⟩ := h9
    subst σ9
    refine z_if_eq (tgt := 19) dX9_saidAt_12 (by decide) ⟨by omega, by omega⟩ (fun h12 => ?_) (fun h12 => ?_)
    · skip
      refine z_iconst dX9_saidAt_19 ?_
      exact z_iret dX9_saidAt_20 (by
        refine ⟨?_, frM.rf _ _ σ⟩
        unfold saG
        by_cases q : k < 0 ∨ ¬ (-1 ≤ m ∧ m < σ 9 7)
        · rw [if_pos q]
        · have e : prM σ cl = -1 := by unfold prM; rw [if_pos (by omega)]
          rw [if_neg q, e]; rfl)
    · skip
      refine z_iload_n dX9_saidAt_15 rfl ?_
      refine z_if_ge (tgt := 21) dX9_saidAt_16 (by decide) ⟨by omega, by omega⟩ (fun h16 => ?_) (fun h16 => ?_)
      · skip
        refine z_aload_n dX9_saidAt_21 rfl ?_
        refine z_iload_n dX9_saidAt_22 rfl ?_
        refine z_callVI (d := d + 6) (av := [_]) dX9_saidAt_23 vX9_312 rfl (Nat.le_of_ble_eq_true rfl) rfl rfl rfl (Nat.le_of_ble_eq_true rfl) (Nat.le_refl _) (c_X9_bothFault hS (by omega) hcl) (fun z23 σ23 h23 => ?_)
        obtain ⟨rfl, hs23⟩ := h23
        subst σ23
        refine z_istore (L' := [_, _, _, _, _, _, _, _, _, _, _]) dX9_saidAt_26 (Nat.le_of_ble_eq_true rfl) rfl rfl ?_
        refine z_iload dX9_saidAt_28 rfl ?_
        refine z_if_ge (tgt := 36) dX9_saidAt_30 (by decide) ⟨by omega, by omega⟩ (fun h30 => ?_) (fun h30 => ?_)
        · skip
          have hp0 : prM σ cl = 0 := by omega
          refine z_aload_n dX9_saidAt_36 rfl ?_
          refine z_iload_n dX9_saidAt_37 rfl ?_
          refine z_callVV (d := d + 6) (av := [_]) dX9_saidAt_38 vX9_360 rfl (Nat.le_of_ble_eq_true rfl) rfl rfl rfl (Nat.le_of_ble_eq_true rfl) (Nat.le_refl _) (c_X9_layBoth w1 hS hp0 hcl) (fun σ38 h38 => ?_)
          obtain ⟨hk1, hX, hY⟩ := h38
          have hW1 := hk1.wm hW rfl
          have e43 : σ38 9 43 = _ := hX.1
          have e46 : σ38 9 46 = _ := hY.1
          have l43 := hX.2.2.2
          have l46 := hY.2.2.2
          have hkA : KM σ σ38 := hk1.mono (by decide) (by decide)
          refine z_aload_n dX9_saidAt_41 rfl ?_
          refine z_callVI (d := d + 6) (av := []) dX9_saidAt_42 vX9_363 rfl (Nat.le_of_ble_eq_true rfl) rfl rfl rfl (Nat.le_of_ble_eq_true rfl) (Nat.le_refl _) (c_X9_isMuch hX hY) (fun z42 σ42 h42 => ?_)
          obtain ⟨hs42, hmu⟩ := h42
          subst σ42
          refine z_if_ne (tgt := 61) dX9_saidAt_45 (by decide) ⟨by omega, by omega⟩ (fun h45 => ?_) (fun h45 => ?_)
          · skip
            refine z_bipush (v := -2) dX9_saidAt_61 (by decide +kernel) ?_
            exact z_iret dX9_saidAt_63 (⟨by unfold saG; rw [if_neg (by omega), if_neg (by omega), if_pos (by omega)], hkA⟩)
          · skip
            refine z_iload_n dX9_saidAt_48 rfl ?_
            refine z_aload_n dX9_saidAt_49 rfl ?_
            refine z_getI dX9_saidAt_50 gX9_315 rfl (Nat.le_of_ble_eq_true rfl) rfl (fun hr50 => ?_)
            refine z_aload_n dX9_saidAt_53 rfl ?_
            refine z_getI dX9_saidAt_54 gX9_345 rfl (Nat.le_of_ble_eq_true rfl) rfl (fun hr54 => ?_)
            refine z_iadd dX9_saidAt_57 ?_
            refine z_icmp_lt (tgt := 64) dX9_saidAt_58 (by decide) ⟨by omega, by omega⟩ ⟨by omega, by omega⟩ (fun h58 => ?_) (fun h58 => ?_)
            · skip
              refine z_aload_n dX9_saidAt_64 rfl ?_
              refine z_iload_n dX9_saidAt_65 rfl ?_
              refine z_callVV (d := d + 6) (av := [_]) dX9_saidAt_66 vX9_366 rfl (Nat.le_of_ble_eq_true rfl) rfl rfl rfl (Nat.le_of_ble_eq_true rfl) (Nat.le_refl _) (c_X9_findSaid (LF := LF) hW1 hX hY (by omega) (by omega)) (fun σ66 h66 => ?_)
              obtain ⟨hk2, hI⟩ := h66
              rw [hk1.fi rfl, hk1.pm rfl] at hI
              have hkB : KM σ σ66 := hkA.tr (hk2.mono (by decide) (by decide))
              refine z_aload_n dX9_saidAt_69 rfl ?_
              refine z_iconst dX9_saidAt_70 ?_
              refine z_iconst dX9_saidAt_71 ?_
              refine z_callVJ (d := d + 6) (av := [_, _]) dX9_saidAt_72 vX9_351 rfl (Nat.le_of_ble_eq_true rfl) rfl rfl rfl (Nat.le_of_ble_eq_true rfl) (Nat.le_refl _) (c_X9_wayAt (by omega) (by omega)) (fun z72 σ72 h72 => ?_)
              obtain ⟨hz, hzr, hs72⟩ := h72
              subst σ72
              have e72 : z72 = wyW (pasM LF σ (finM σ m)) (SYM σ (cl.tdiv 10)) (SYM σ (cl.tmod 10)) 0 0 := by rw [hz]; exact hI 0 0 (by omega) (by omega) (by omega)
              have r72 := wyW_R (ps := pasM LF σ (finM σ m)) (X := SYM σ (cl.tdiv 10)) (Y := SYM σ (cl.tmod 10)) (c := 0) (l := 0) (by omega)
              refine z_lconst (v := 0) dX9_saidAt_75 (by decide +kernel) ?_
              refine z_lc_ne (tgt := 83) dX9_saidAt_76 dX9_saidAt_77 (by decide) ⟨by omega, by omega⟩ ⟨by omega, by omega⟩ (fun h76 => ?_) (fun h76 => ?_)
              · skip
                refine z_iconst dX9_saidAt_83 ?_
                refine z_istore (L' := [_, _, _, _, _, _, _, _, _, _, _]) dX9_saidAt_84 (Nat.le_of_ble_eq_true rfl) rfl rfl ?_
                refine z_iconst dX9_saidAt_86 ?_
                refine z_istore (L' := [_, _, _, _, _, _, _, _, _, _, _]) dX9_saidAt_87 (Nat.le_of_ble_eq_true rfl) rfl rfl ?_
                refine z_bipush (v := -2) dX9_saidAt_89 (by decide +kernel) ?_
                refine z_istore (L' := [_, _, _, _, _, _, _, _, _, _, _]) dX9_saidAt_91 (Nat.le_of_ble_eq_true rfl) rfl rfl ?_
                refine z_iconst dX9_saidAt_93 ?_
                refine z_istore (L' := [_, _, _, _, _, _, _, _, _, _, _]) dX9_saidAt_94 (Nat.le_of_ble_eq_true rfl) rfl rfl ?_
                have hh := l_X9_saidAt (d := d) (cl := cl) (k := k) (e0 := prM σ cl) (hk2.wm hW1 rfl) (hX.fr hk2 (by decide) (by decide)) (hY.fr hk2 (by decide) (by decide)) (m := m) (by omega) (by omega) (by omega) (k + 1).toNat σ66 0 0 0 (-2) (by omega) (by omega) (by omega) rfl (by rw [hkB.fi rfl, hkB.pm rfl]; show 0 < wyW _ _ _ 0 0; omega) (by decide) (frM.rf _ _ _) (by rw [hkB.fi rfl, hkB.pm rfl]; exact hI)
                rw [hkB.fi rfl, hkB.pm rfl] at hh
                refine hh.mono ?_
                rintro r σ' ⟨z, q1, q3, q4⟩
                refine ⟨z, q1, ?_, hkB.tr (q4.mono (by decide) (by decide))⟩
                rw [if_neg (by omega), show (k + 1).toNat - 1 = k.toNat by omega] at q3
                unfold saG
                rw [if_neg (by omega), if_neg (by omega), if_neg (by omega), if_neg (by omega)]
                exact q3
              · skip
                refine z_bipush (v := -2) dX9_saidAt_80 (by decide +kernel) ?_
                exact z_iret dX9_saidAt_82 (⟨by unfold saG; rw [if_neg (by omega), if_neg (by omega), if_neg (by omega), if_pos (by omega)], hkB⟩)
            · skip
              refine z_bipush (v := -2) dX9_saidAt_61 (by decide +kernel) ?_
              exact z_iret dX9_saidAt_63 (⟨by unfold saG; rw [if_neg (by omega), if_neg (by omega), if_pos (by omega)], hkA⟩)
        · skip
          refine z_iload dX9_saidAt_33 rfl ?_
          exact z_iret dX9_saidAt_35 (⟨by unfold saG; rw [if_neg (by omega), if_pos (by omega)], frM.rf _ _ σ⟩)
      · skip
        refine z_iconst dX9_saidAt_19 ?_
        exact z_iret dX9_saidAt_20 (by
          refine ⟨?_, frM.rf _ _ σ⟩
          unfold saG
          by_cases q : k < 0 ∨ ¬ (-1 ≤ m ∧ m < σ 9 7)
          · rw [if_pos q]
          · have e : prM σ cl = -1 := by unfold prM; rw [if_pos (by omega)]
            rw [if_neg q, e]; rfl)
