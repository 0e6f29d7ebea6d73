/-! ===== The reference's questions: alone ===== -/
set_option maxRecDepth 20000 in
theorem l_X9_leftAt {d : Nat} {σ : Sto} {LF : LFT} {i j m : Int} (hW : WM LF σ) (hm : -1 ≤ m ∧ m < 5) (hi : 0 ≤ i ∧ i ≤ 12) (hj : 0 ≤ j ∧ j ≤ 12) :
    ∀ (k : Nat) (τ : Sto) (w c : Int), 0 ≤ w → w + k = σ 9 1 → 0 ≤ c ∧ c ≤ w → pMK σ τ →
    Z (z_me cX9_leftAt RX9 6 (some .int) (d + 5) (qI fun z σ' => z = c + wlF (fun w => pasM LF σ (finM σ m) w (i + j) j) k w ∧ pMK σ σ')) 6 [some (zR 9), some (zI i), some (zI j), some (zI m), some (zI c), some (zI w)] [] τ
  | 0, τ, w, c, hw, hl, hc, hk => by
    have e1 : τ 9 1 = σ 9 1 := hk.2 1 (by decide)
    have w1 := hW.1
    refine z_iload dX9_leftAt_6 rfl ?_
    refine z_aload_n dX9_leftAt_8 rfl ?_
    refine z_getI dX9_leftAt_9 gX9_140 rfl (Nat.le_of_ble_eq_true rfl) rfl (fun hr9 => ?_)
    refine z_icmp_ge (tgt := 38) dX9_leftAt_12 (by decide) ⟨by omega, by omega⟩ ⟨by omega, by omega⟩ (fun h12 => ?_) (fun h12 => ?_)
    · skip
      refine z_iload dX9_leftAt_38 rfl ?_
      exact z_iret dX9_leftAt_40 ⟨by rw [wlF]; omega, hk⟩
    · exfalso; omega
  | k + 1, τ, w, c, hw, hl, hc, hk => by
    have e1 : τ 9 1 = σ 9 1 := hk.2 1 (by decide)
    have w1 := hW.1
    refine z_iload dX9_leftAt_6 rfl ?_
    refine z_aload_n dX9_leftAt_8 rfl ?_
    refine z_getI dX9_leftAt_9 gX9_140 rfl (Nat.le_of_ble_eq_true rfl) rfl (fun hr9 => ?_)
    refine z_icmp_ge (tgt := 38) dX9_leftAt_12 (by decide) ⟨by omega, by omega⟩ ⟨by omega, by omega⟩ (fun h12 => ?_) (fun h12 => ?_)
    · exfalso; omega
    · skip
      refine z_aload_n dX9_leftAt_15 rfl ?_
      refine z_iload dX9_leftAt_16 rfl ?_
      refine z_iload_n dX9_leftAt_18 rfl ?_
      refine z_iload_n dX9_leftAt_19 rfl ?_
      refine z_iload_n dX9_leftAt_20 rfl ?_
      refine z_iadd dX9_leftAt_21 ?_
      refine z_iload_n dX9_leftAt_22 rfl ?_
      refine z_callVI (d := d + 4) (av := [_, _, _, _]) dX9_leftAt_23 vX9_271 rfl (Nat.le_of_ble_eq_true rfl) rfl rfl rfl (Nat.le_of_ble_eq_true rfl) (Nat.le_refl _) (c_X9_passes (LF := LF) (hk.wm hW rfl) (by omega) hm (by omega) (by omega)) (fun z23 σ23 h23 => ?_)
      obtain ⟨hps, hfr⟩ := h23
      rw [hk.fi rfl, hk.pm rfl] at hps
      have hr23 : inR z23 := by rcases hps with q | q; rw [q.1]; decide; rw [q.1]; decide
      refine z_if_ne (tgt := 32) dX9_leftAt_26 (by decide) ⟨by omega, by omega⟩ (fun h26 => ?_) (fun h26 => ?_)
      · skip
        refine z_iinc (L' := [_, _, _, _, _, _]) dX9_leftAt_32 (Nat.le_of_ble_eq_true rfl) rfl rfl rfl ?_
        refine z_goto (tgt := 6) dX9_leftAt_35 (by decide) ?_
        rw [wlF, ← Int.add_assoc]
        rcases hps with ⟨q1, q2⟩ | ⟨q1, q2⟩
        · first
            | exfalso; omega
            | rw [if_pos q2, Int.add_zero]; exact l_X9_leftAt hW hm hi hj k _ (w + 1) _ (by omega) (by omega) (by omega) (hk.tr hfr)
        · first
            | exfalso; omega
            | rw [if_neg (by rw [q2]; exact Bool.false_ne_true)]; exact l_X9_leftAt hW hm hi hj k _ (w + 1) _ (by omega) (by omega) (by omega) (hk.tr hfr)
      · skip
        refine z_iinc (L' := [_, _, _, _, _, _]) dX9_leftAt_29 (Nat.le_of_ble_eq_true rfl) rfl rfl rfl ?_
        refine z_iinc (L' := [_, _, _, _, _, _]) dX9_leftAt_32 (Nat.le_of_ble_eq_true rfl) rfl rfl rfl ?_
        refine z_goto (tgt := 6) dX9_leftAt_35 (by decide) ?_
        rw [wlF, ← Int.add_assoc]
        rcases hps with ⟨q1, q2⟩ | ⟨q1, q2⟩
        · first
            | exfalso; omega
            | rw [if_pos q2, Int.add_zero]; exact l_X9_leftAt hW hm hi hj k _ (w + 1) _ (by omega) (by omega) (by omega) (hk.tr hfr)
        · first
            | exfalso; omega
            | rw [if_neg (by rw [q2]; exact Bool.false_ne_true)]; exact l_X9_leftAt hW hm hi hj k _ (w + 1) _ (by omega) (by omega) (by omega) (hk.tr hfr)
set_option maxRecDepth 20000 in
theorem c_X9_leftAt {d : Nat} {σ : Sto} {LF : LFT} {i j m : Int} (hW : WM LF σ) (hm : -1 ≤ m ∧ m < 5) (hi : 0 ≤ i ∧ i ≤ 12) (hj : 0 ≤ j ∧ j ≤ 12) : m_X9_leftAt d [zR 9, zI i, zI j, zI m] σ (qI fun z σ' => z = wlF (fun w => pasM LF σ (finM σ m) w (i + j) j) (σ 9 1).toNat 0 ∧ pMK σ σ') := by
  have w1 := hW.1
  refine z_does (L := [some (zR 9), some (zI i), some (zI j), some (zI m), none, none]) rfl (by decide +kernel) (Nat.le_of_ble_eq_true rfl) rfl ?_
  refine z_iconst dX9_leftAt_0 ?_
  refine z_istore (L' := [_, _, _, _, _, _]) dX9_leftAt_1 (Nat.le_of_ble_eq_true rfl) rfl rfl ?_
  refine z_iconst dX9_leftAt_3 ?_
  refine z_istore (L' := [_, _, _, _, _, _]) dX9_leftAt_4 (Nat.le_of_ble_eq_true rfl) rfl rfl ?_
  have h := l_X9_leftAt (d := d) hW hm hi hj (σ 9 1).toNat σ 0 0 (by omega) (by omega) (by omega) (frM.rf _ _ σ)
  rw [Int.zero_add] at h
  exact h
def alIM (τ : Sto) (ps : Int → Int → Int → Bool) (wn : Nat) (X : List Int) (m : Nat) (c l : Int) : Prop := ∀ a b : Nat, a ≤ X.length → b ≤ m → (c < a ∨ (c = a ∧ l < b)) → τ 108 (13 * a + b) = alW ps wn X m a b
set_option maxRecDepth 20000 in
theorem j154_alone {d : Nat} {σ : Sto} {s0 m n : Int} {ps : Int → Int → Int → Bool} {wn : Nat} {X : List Int} (hwn : wn ≤ 12) (hn : 0 ≤ n ∧ n ≤ 4) (hl : X.length + n ≤ 12) {Q : Option Value → Sto → Prop} (c l : Int) (hc : 0 ≤ c ∧ c ≤ X.length) (h0 : 0 ≤ l ∧ l ≤ n) (k68 : ∀ τ' : Sto, fsK σ τ' → alIM τ' ps wn X n.toNat c (l + -1) → Z (z_me cX9_alone RX9 8 (some .long) (d + 6) Q) 68 [some (zR 9), some (zI s0), some (zI m), some (zI n), some (zI c), some (zI (l + -1)), none, none] [] τ') (τ : Sto) (s : Int) (hs : s = alW ps wn X n.toNat c.toNat l.toNat) (hK : fsK σ τ) (hI : alIM τ ps wn X n.toNat c l) : Z (z_me cX9_alone RX9 8 (some .long) (d + 6) Q) 154 [some (zR 9), some (zI s0), some (zI m), some (zI n), some (zI c), some (zI l), some (zJ s), none] [] τ := by
  have n3 := alW_R (ps := ps) (wn := wn) (X := X) (m := n.toNat) (c := c.toNat) (l := l.toNat) hwn (by omega)
  refine z_aload_n dX9_alone_154 rfl ?_
  refine z_getR dX9_alone_155 gX9_97 rfl (Nat.le_of_ble_eq_true rfl) rfl ?_
  refine z_bipush (v := 13) dX9_alone_158 (by decide +kernel) ?_
  refine z_iload dX9_alone_160 rfl ?_
  refine z_imul dX9_alone_162 ?_
  refine z_iload dX9_alone_163 rfl ?_
  refine z_iadd dX9_alone_165 ?_
  refine z_lload dX9_alone_166 rfl ?_
  refine z_last dX9_alone_168 rfl (Nat.le_of_ble_eq_true rfl) (by omega) ⟨by omega, by omega⟩ ?_
  refine z_iinc (L' := [_, _, _, _, _, _, _, _]) dX9_alone_169 (Nat.le_of_ble_eq_true rfl) rfl rfl rfl ?_
  refine z_goto (tgt := 68) dX9_alone_172 (by decide) ?_
  refine z_forget [true, true, true, true, true, true, false, false] (L' := [_, _, _, _, _, _, _, _]) rfl ?_
  refine k68 _ (frM.putA hK (by decide) (by decide)) (fun a b ha hb h => ?_)
  rw [z_rd, if_pos rfl]
  by_cases h1 : 13 * a + b = (13 * c + l).toNat
  · rw [if_pos h1, hs, show a = c.toNat by omega, show b = l.toNat by omega]
  · rw [if_neg h1]
    exact hI a b ha hb (by omega)
set_option maxRecDepth 20000 in
theorem j122_alone {d : Nat} {σ : Sto} {LF : LFT} {s0 m n : Int} {X : List Int} (hW : WM LF σ) (hm : -1 ≤ m ∧ m < 5) (hn : 0 ≤ n ∧ n ≤ 4) (hl : X.length + n ≤ 12) {Q : Option Value → Sto → Prop} (c l : Int) (hc : 0 ≤ c ∧ c ≤ X.length) (h0 : 0 ≤ l ∧ l ≤ n) (k68 : ∀ τ' : Sto, fsK σ τ' → alIM τ' (pasM LF σ (finM σ m)) (σ 9 1).toNat X n.toNat c (l + -1) → Z (z_me cX9_alone RX9 8 (some .long) (d + 6) Q) 68 [some (zR 9), some (zI s0), some (zI m), some (zI n), some (zI c), some (zI (l + -1)), none, none] [] τ') (τ : Sto) (s : Int) (hs : s = (if c.toNat = X.length ∧ l.toNat = n.toNat then 1 else 0) + (if c.toNat < X.length ∧ pasM LF σ (finM σ m) (X.getD c.toNat 0) (c + l) l = true then alW (pasM LF σ (finM σ m)) (σ 9 1).toNat X n.toNat (c.toNat + 1) l.toNat else 0)) (hK : fsK σ τ) (hI : alIM τ (pasM LF σ (finM σ m)) (σ 9 1).toNat X n.toNat c l) : Z (z_me cX9_alone RX9 8 (some .long) (d + 6) Q) 122 [some (zR 9), some (zI s0), some (zI m), some (zI n), some (zI c), some (zI l), some (zJ s), none] [] τ := by
  have w1 := hW.1
  have n1 := alW_R (ps := pasM LF σ (finM σ m)) (wn := (σ 9 1).toNat) (X := X) (m := n.toNat) (c := c.toNat + 1) (l := l.toNat) (by omega) (by omega)
  have n2 := alW_R (ps := pasM LF σ (finM σ m)) (wn := (σ 9 1).toNat) (X := X) (m := n.toNat) (c := c.toNat) (l := l.toNat + 1) (by omega) (by omega)
  have er := alW_eqI (ps := pasM LF σ (finM σ m)) (wn := (σ 9 1).toNat) hn.1 hc h0
  rw [← hs] at er
  have hsR : 0 ≤ s ∧ s ≤ 793714773254145 := by rw [hs]; split <;> split <;> omega
  have hwl := wlF_R (σ 9 1).toNat 0 (ps := fun w => pasM LF σ (finM σ m) w (c + l) l)
  refine z_iload dX9_alone_122 rfl ?_
  refine z_iload_n dX9_alone_124 rfl ?_
  refine z_icmp_ge (tgt := 154) dX9_alone_125 (by decide) ⟨by omega, by omega⟩ ⟨by omega, by omega⟩ (fun h125 => ?_) (fun h125 => ?_)
  · skip
    first
      | exact j154_alone (by omega) hn hl c l hc h0 k68 τ _ (by rw [er, if_neg (by omega)]; omega) hK hI
      | exact j154_alone (by omega) hn hl c l hc h0 k68 σ136 _ (by rw [er, if_pos (by omega), e147, hz, Int.mul_comm]) hK2 hI2
  · skip
    refine z_lload dX9_alone_128 rfl ?_
    refine z_aload_n dX9_alone_130 rfl ?_
    refine z_iload dX9_alone_131 rfl ?_
    refine z_iload dX9_alone_133 rfl ?_
    refine z_iload_n dX9_alone_135 rfl ?_
    refine z_callVI (d := d + 5) (av := [_, _, _]) dX9_alone_136 vX9_369 rfl (Nat.le_of_ble_eq_true rfl) rfl rfl rfl (Nat.le_of_ble_eq_true rfl) (Nat.le_refl _) (c_X9_leftAt (LF := LF) (hK.wm hW rfl) hm (by omega) (by omega)) (fun z136 σ136 h136 => ?_)
    obtain ⟨hz, hfr⟩ := h136
    rw [hK.fi rfl, hK.pm rfl, hK.2 1 (by decide)] at hz
    have hr136 : 0 ≤ z136 ∧ z136 ≤ 12 := by rw [hz]; omega
    have hK2 : fsK σ σ136 := hK.tr (hfr.mono (by decide) (by decide))
    have hI2 : alIM σ136 (pasM LF σ (finM σ m)) (σ 9 1).toNat X n.toNat c l := fun a b ha hb h => by rw [hfr.1 108 (by decide) (by decide)]; exact hI a b ha hb h
    refine z_i2l dX9_alone_139 ⟨by omega, by omega⟩ ?_
    refine z_aload_n dX9_alone_140 rfl ?_
    refine z_iload dX9_alone_141 rfl ?_
    refine z_iload dX9_alone_143 rfl ?_
    refine z_iconst dX9_alone_145 ?_
    refine z_iadd dX9_alone_146 ?_
    refine z_callVJ (d := d + 5) (av := [_, _]) dX9_alone_147 vX9_351 rfl (Nat.le_of_ble_eq_true rfl) rfl rfl rfl (Nat.le_of_ble_eq_true rfl) (Nat.le_refl _) (c_X9_wayAt (by omega) (by omega)) (fun z147 σ147 h147 => ?_)
    obtain ⟨hz2, hzr, hs147⟩ := h147
    subst σ147
    have e147 : z147 = alW (pasM LF σ (finM σ m)) (σ 9 1).toNat X n.toNat c.toNat (l.toNat + 1) := by rw [hz2, show (13 * c + (l + 1)).toNat = 13 * c.toNat + (l.toNat + 1) by omega]; exact hI2 _ _ (by omega) (by omega) (by omega)
    refine z_lmul dX9_alone_150 ?_
    refine z_ladd dX9_alone_151 ?_
    refine z_lstore (L' := [_, _, _, _, _, _, _, _]) dX9_alone_152 (Nat.le_of_ble_eq_true rfl) rfl rfl ?_
    first
      | exact j154_alone (by omega) hn hl c l hc h0 k68 τ _ (by rw [er, if_neg (by omega)]; omega) hK hI
      | exact j154_alone (by omega) hn hl c l hc h0 k68 σ136 _ (by rw [er, if_pos (by omega), e147, hz, Int.mul_comm]) hK2 hI2
set_option maxRecDepth 20000 in
theorem j95_alone {d : Nat} {σ : Sto} {LF : LFT} {s0 m n : Int} {X : List Int} (hW : WM LF σ) (hX : r1M σ X) (hm : -1 ≤ m ∧ m < 5) (hn : 0 ≤ n ∧ n ≤ 4) (hl : X.length + n ≤ 12) {Q : Option Value → Sto → Prop} (c l : Int) (hc : 0 ≤ c ∧ c ≤ X.length) (h0 : 0 ≤ l ∧ l ≤ n) (k68 : ∀ τ' : Sto, fsK σ τ' → alIM τ' (pasM LF σ (finM σ m)) (σ 9 1).toNat X n.toNat c (l + -1) → Z (z_me cX9_alone RX9 8 (some .long) (d + 6) Q) 68 [some (zR 9), some (zI s0), some (zI m), some (zI n), some (zI c), some (zI (l + -1)), none, none] [] τ') (τ : Sto) (s : Int) (hs : s = (if c.toNat = X.length ∧ l.toNat = n.toNat then 1 else 0)) (hK : fsK σ τ) (hI : alIM τ (pasM LF σ (finM σ m)) (σ 9 1).toNat X n.toNat c l) : Z (z_me cX9_alone RX9 8 (some .long) (d + 6) Q) 95 [some (zR 9), some (zI s0), some (zI m), some (zI n), some (zI c), some (zI l), some (zJ s), none] [] τ := by
  have w1 := hW.1
  have n1 := alW_R (ps := pasM LF σ (finM σ m)) (wn := (σ 9 1).toNat) (X := X) (m := n.toNat) (c := c.toNat + 1) (l := l.toNat) (by omega) (by omega)
  have hsR : 0 ≤ s ∧ s ≤ 1 := by rw [hs]; split <;> omega
  refine z_aload_n dX9_alone_95 rfl ?_
  refine z_iload dX9_alone_96 rfl ?_
  refine z_iload dX9_alone_98 rfl ?_
  refine z_iload_n dX9_alone_100 rfl ?_
  refine z_callVI (d := d + 5) (av := [_, _, _]) dX9_alone_101 vX9_348 rfl (Nat.le_of_ble_eq_true rfl) rfl rfl rfl (Nat.le_of_ble_eq_true rfl) (Nat.le_refl _) (c_X9_comes (LF := LF) (hK.wm hW rfl) (hX.fr hK (by decide) (by decide)) hc (by omega) hm) (fun z101 σ101 h101 => ?_)
  obtain ⟨hst, hfr⟩ := h101
  rw [hK.fi rfl, hK.pm rfl] at hst
  have hr101 : inR z101 := by rcases hst with q | q; rw [q.1]; decide; rw [q.1]; decide
  have hK2 : fsK σ σ101 := hK.tr (hfr.mono (by decide) (by decide))
  have hI2 : alIM σ101 (pasM LF σ (finM σ m)) (σ 9 1).toNat X n.toNat c l := fun a b ha hb h => by rw [hfr.1 108 (by decide) (by decide)]; exact hI a b ha hb h
  refine z_if_eq (tgt := 122) dX9_alone_104 (by decide) ⟨by omega, by omega⟩ (fun h104 => ?_) (fun h104 => ?_)
  · skip
    first
      | exact j122_alone hW hm hn hl c l hc h0 k68 σ101 _ (by rw [if_pos (⟨by omega, hst2.2⟩ : c.toNat < X.length ∧ _), ← hs]) hK2 hI2
      | exact j122_alone hW hm hn hl c l hc h0 k68 σ101 _ (by rw [if_neg (fun q : c.toNat < X.length ∧ pasM LF σ (finM σ m) (X.getD c.toNat 0) (c + l) l = true => by rcases hst with w | w; exact absurd w.1 (by omega); exact w.2 ⟨by omega, q.2⟩), ← hs]; omega) hK2 hI2
  · skip
    have hst2 : c < X.length ∧ pasM LF σ (finM σ m) (X.getD c.toNat 0) (c + l) l = true := by rcases hst with q | q; exact q.2; exact absurd q.1 (by omega)
    have hst3 := hst2.1
    refine z_lload dX9_alone_107 rfl ?_
    refine z_aload_n dX9_alone_109 rfl ?_
    refine z_iload dX9_alone_110 rfl ?_
    refine z_iconst dX9_alone_112 ?_
    refine z_iadd dX9_alone_113 ?_
    refine z_iload dX9_alone_114 rfl ?_
    refine z_callVJ (d := d + 5) (av := [_, _]) dX9_alone_116 vX9_351 rfl (Nat.le_of_ble_eq_true rfl) rfl rfl rfl (Nat.le_of_ble_eq_true rfl) (Nat.le_refl _) (c_X9_wayAt (by omega) (by omega)) (fun z116 σ116 h116 => ?_)
    obtain ⟨hz, hzr, hs116⟩ := h116
    subst σ116
    have e116 : z116 = alW (pasM LF σ (finM σ m)) (σ 9 1).toNat X n.toNat (c.toNat + 1) l.toNat := by rw [hz, show (13 * (c + 1) + l).toNat = 13 * (c.toNat + 1) + l.toNat by omega]; exact hI2 _ _ (by omega) (by omega) (by omega)
    rw [e116]
    refine z_ladd dX9_alone_119 ?_
    refine z_lstore (L' := [_, _, _, _, _, _, _, _]) dX9_alone_120 (Nat.le_of_ble_eq_true rfl) rfl rfl ?_
    first
      | exact j122_alone hW hm hn hl c l hc h0 k68 σ101 _ (by rw [if_pos (⟨by omega, hst2.2⟩ : c.toNat < X.length ∧ _), ← hs]) hK2 hI2
      | exact j122_alone hW hm hn hl c l hc h0 k68 σ101 _ (by rw [if_neg (fun q : c.toNat < X.length ∧ pasM LF σ (finM σ m) (X.getD c.toNat 0) (c + l) l = true => by rcases hst with w | w; exact absurd w.1 (by omega); exact w.2 ⟨by omega, q.2⟩), ← hs]; omega) hK2 hI2
set_option maxRecDepth 20000 in
theorem l2_X9_alone {d : Nat} {σ : Sto} {LF : LFT} {s0 m n : Int} {X : List Int} (hW : WM LF σ) (hX : r1M σ X) (hm : -1 ≤ m ∧ m < 5) (hn : 0 ≤ n ∧ n ≤ 4) (hl : X.length + n ≤ 12) {Q : Option Value → Sto → Prop} (c : Int) (hc : 0 ≤ c ∧ c ≤ X.length)
    (kk : ∀ τ : Sto, fsK σ τ → alIM τ (pasM LF σ (finM σ m)) (σ 9 1).toNat X n.toNat (c - 1) n → Z (z_me cX9_alone RX9 8 (some .long) (d + 6) Q) 175 [some (zR 9), some (zI s0), some (zI m), some (zI n), some (zI c), some (zI (-1)), none, none] [] τ) :
    ∀ (k : Nat) (τ : Sto) (l : Int), l + 1 = k → l ≤ n → fsK σ τ → alIM τ (pasM LF σ (finM σ m)) (σ 9 1).toNat X n.toNat c l → Z (z_me cX9_alone RX9 8 (some .long) (d + 6) Q) 68 [some (zR 9), some (zI s0), some (zI m), some (zI n), some (zI c), some (zI l), none, none] [] τ
  | 0, τ, l, hk, hly, hK, hI => by
    obtain rfl : l = -1 := by omega
    refine z_iload dX9_alone_68 rfl ?_
    refine z_if_lt (tgt := 175) dX9_alone_70 (by decide) ⟨by omega, by omega⟩ (fun h70 => ?_) (fun h70 => ?_)
    · skip
      exact kk τ hK (fun a b ha hb h => hI a b ha hb (by omega))
    · exfalso; omega
  | k + 1, τ, l, hk, hly, hK, hI => by
    have x4 := hX.2.2.2
    have e43 : τ 9 43 = X.length := by rw [hK.2 43 (by decide)]; exact hX.1
    refine z_iload dX9_alone_68 rfl ?_
    refine z_if_lt (tgt := 175) dX9_alone_70 (by decide) ⟨by omega, by omega⟩ (fun h70 => ?_) (fun h70 => ?_)
    · exfalso; omega
    · skip
      refine z_iload dX9_alone_73 rfl ?_
      refine z_aload_n dX9_alone_75 rfl ?_
      refine z_getI dX9_alone_76 gX9_315 rfl (Nat.le_of_ble_eq_true rfl) rfl (fun hr76 => ?_)
      refine z_icmp_ne (tgt := 92) dX9_alone_79 (by decide) ⟨by omega, by omega⟩ ⟨by omega, by omega⟩ (fun h79 => ?_) (fun h79 => ?_)
      · skip
        refine z_lconst (v := 0) dX9_alone_92 (by decide +kernel) ?_
        refine z_lstore (L' := [_, _, _, _, _, _, _, _]) dX9_alone_93 (Nat.le_of_ble_eq_true rfl) rfl rfl ?_
        refine j95_alone hW hX hm hn hl c l hc (by omega) (fun τ' h1 h2 => l2_X9_alone hW hX hm hn hl c hc kk k τ' (l + -1) (by omega) (by omega) h1 h2) τ _ ?_ hK hI
        first
          | rw [if_pos (by omega)]
          | rw [if_neg (by omega)]
      · skip
        refine z_iload dX9_alone_82 rfl ?_
        refine z_iload_n dX9_alone_84 rfl ?_
        refine z_icmp_ne (tgt := 92) dX9_alone_85 (by decide) ⟨by omega, by omega⟩ ⟨by omega, by omega⟩ (fun h85 => ?_) (fun h85 => ?_)
        · skip
          refine z_lconst (v := 0) dX9_alone_92 (by decide +kernel) ?_
          refine z_lstore (L' := [_, _, _, _, _, _, _, _]) dX9_alone_93 (Nat.le_of_ble_eq_true rfl) rfl rfl ?_
          refine j95_alone hW hX hm hn hl c l hc (by omega) (fun τ' h1 h2 => l2_X9_alone hW hX hm hn hl c hc kk k τ' (l + -1) (by omega) (by omega) h1 h2) τ _ ?_ hK hI
          first
            | rw [if_pos (by omega)]
            | rw [if_neg (by omega)]
        · skip
          refine z_lconst (v := 1) dX9_alone_88 (by decide +kernel) ?_
          refine z_goto (tgt := 93) dX9_alone_89 (by decide) ?_
          refine z_lstore (L' := [_, _, _, _, _, _, _, _]) dX9_alone_93 (Nat.le_of_ble_eq_true rfl) rfl rfl ?_
          refine j95_alone hW hX hm hn hl c l hc (by omega) (fun τ' h1 h2 => l2_X9_alone hW hX hm hn hl c hc kk k τ' (l + -1) (by omega) (by omega) h1 h2) τ _ ?_ hK hI
          first
            | rw [if_pos (by omega)]
            | rw [if_neg (by omega)]
set_option maxRecDepth 20000 in
theorem l1_X9_alone {d : Nat} {σ : Sto} {LF : LFT} {s0 m n : Int} {X : List Int} (hW : WM LF σ) (hX : r1M σ X) (hm : -1 ≤ m ∧ m < 5) (hn : 0 ≤ n ∧ n ≤ 4) (hl : X.length + n ≤ 12) :
    ∀ (k : Nat) (τ : Sto) (c : Int), c + 1 = k → c ≤ X.length → fsK σ τ → alIM τ (pasM LF σ (finM σ m)) (σ 9 1).toNat X n.toNat c n → Z (z_me cX9_alone RX9 8 (some .long) (d + 6) (qJ fun z σ' => z = alW (pasM LF σ (finM σ m)) (σ 9 1).toNat X n.toNat 0 0 ∧ fsK σ σ')) 60 [some (zR 9), some (zI s0), some (zI m), some (zI n), some (zI c), none, none, none] [] τ
  | 0, τ, c, hk, hcx, hK, hI => by
    obtain rfl : c = -1 := by omega
    refine z_iload dX9_alone_60 rfl ?_
    refine z_if_lt (tgt := 181) dX9_alone_62 (by decide) ⟨by omega, by omega⟩ (fun h62 => ?_) (fun h62 => ?_)
    · skip
      refine z_aload_n dX9_alone_181 rfl ?_
      refine z_iconst dX9_alone_182 ?_
      refine z_iconst dX9_alone_183 ?_
      refine z_callVJ (d := d + 5) (av := [_, _]) dX9_alone_184 vX9_351 rfl (Nat.le_of_ble_eq_true rfl) rfl rfl rfl (Nat.le_of_ble_eq_true rfl) (Nat.le_refl _) (c_X9_wayAt (by omega) (by omega)) (fun z184 σ184 h184 => ?_)
      obtain ⟨hz, hzr, hs184⟩ := h184
      subst σ184
      exact z_lret dX9_alone_187 ⟨by rw [hz]; exact hI 0 0 (by omega) (by omega) (by omega), hK⟩
    · exfalso; omega
  | k + 1, τ, c, hk, hcx, hK, hI => by
    refine z_iload dX9_alone_60 rfl ?_
    refine z_if_lt (tgt := 181) dX9_alone_62 (by decide) ⟨by omega, by omega⟩ (fun h62 => ?_) (fun h62 => ?_)
    · exfalso; omega
    · skip
      refine z_iload_n dX9_alone_65 rfl ?_
      refine z_istore (L' := [_, _, _, _, _, _, _, _]) dX9_alone_66 (Nat.le_of_ble_eq_true rfl) rfl rfl ?_
      refine l2_X9_alone hW hX hm hn hl c (by omega) (fun τ' h1 h2 => ?_) (n.toNat + 1) τ n (by omega) (by omega) hK hI
      refine z_iinc (L' := [_, _, _, _, _, _, _, _]) dX9_alone_175 (Nat.le_of_ble_eq_true rfl) rfl rfl rfl ?_
      refine z_goto (tgt := 60) dX9_alone_178 (by decide) ?_
      refine z_forget [true, true, true, true, true, false, false, false] (L' := [_, _, _, _, _, _, _, _]) rfl ?_
      exact l1_X9_alone hW hX hm hn hl k τ' (c + -1) (by omega) (by omega) h1 (by rw [show c + -1 = c - 1 from rfl]; exact h2)
set_option maxRecDepth 20000 in
theorem c_X9_alone {d : Nat} {σ : Sto} {LF : LFT} {s m n : Int} (hW : WM LF σ) (hS : SM σ) (hs : inR s) (hm : inR m) (hn : inR n) : m_X9_alone d [zR 9, zI s, zI m, zI n] σ (qJ fun z σ' => z = alG (hrM σ s m) (pasM LF σ (finM σ m)) (σ 9 1).toNat (SYM σ s) n ∧ KM σ σ') := by
  have w1 := hW.1
  have w7 := hW.2.1
  refine z_does (L := [some (zR 9), some (zI s), some (zI m), some (zI n), none, none, none, none]) rfl (by decide +kernel) (Nat.le_of_ble_eq_true rfl) rfl ?_
  refine z_iload_n dX9_alone_0 rfl ?_
  refine z_callSI (d := d + 5) (av := [_]) dX9_alone_1 sX9_154 rfl rfl (Nat.le_of_ble_eq_true rfl) (Nat.le_refl _) (c_X9_isShelf (by omega)) (fun z1 σ1 h1 => ?_)
  obtain ⟨hs1, h1⟩ := h1
  subst σ1
  refine z_if_eq (tgt := 32) dX9_alone_4 (by decide) ⟨by omega, by omega⟩ (fun h4 => ?_) (fun h4 => ?_)
  · skip
    refine z_ldc2 dX9_alone_32 kX9_358 ?_
    exact z_lret dX9_alone_35 (by
      refine ⟨?_, frM.rf _ _ σ⟩
      unfold alG
      by_cases q : n < 0 ∨ 4 < n
      · rw [if_pos q]; rfl
      · rw [if_neg q]
        first
        | (rw [if_pos (by omega)]; rfl)
        | (have e : hrM σ s m = -1 := by unfold hrM; rw [if_pos (by omega)]
           rw [if_pos (by omega)]; rfl))
  · skip
    refine z_aload_n dX9_alone_7 rfl ?_
    refine z_iload_n dX9_alone_8 rfl ?_
    refine z_callVI (d := d + 5) (av := [_]) dX9_alone_9 vX9_286 rfl (Nat.le_of_ble_eq_true rfl) rfl rfl rfl (Nat.le_of_ble_eq_true rfl) (Nat.le_refl _) (c_X9_isMeshOrNone (by omega) (by omega)) (fun z9 σ9 h9 => ?_)
    obtain ⟨hs9, h9⟩ := h9
    subst σ9
    refine z_if_eq (tgt := 32) dX9_alone_12 (by decide) ⟨by omega, by omega⟩ (fun h12 => ?_) (fun h12 => ?_)
    · skip
      refine z_ldc2 dX9_alone_32 kX9_358 ?_
      exact z_lret dX9_alone_35 (by
        refine ⟨?_, frM.rf _ _ σ⟩
        unfold alG
        by_cases q : n < 0 ∨ 4 < n
        · rw [if_pos q]; rfl
        · rw [if_neg q]
          first
          | (rw [if_pos (by omega)]; rfl)
          | (have e : hrM σ s m = -1 := by unfold hrM; rw [if_pos (by omega)]
             rw [if_pos (by omega)]; rfl))
    · skip
      refine z_iload_n dX9_alone_15 rfl ?_
      refine z_iconst dX9_alone_16 ?_
      refine z_iconst dX9_alone_17 ?_
      refine z_callSI (d := d + 5) (av := [_, _, _]) dX9_alone_18 sX9_143 rfl rfl (Nat.le_of_ble_eq_true rfl) (Nat.le_refl _) (c_X9_in (by omega) (by omega) (by omega)) (fun z18 σ18 h18 => ?_)
      obtain ⟨hs18, h18⟩ := h18
      subst σ18
      refine z_if_eq (tgt := 32) dX9_alone_21 (by decide) ⟨by omega, by omega⟩ (fun h21 => ?_) (fun h21 => ?_)
      · skip
        refine z_ldc2 dX9_alone_32 kX9_358 ?_
        exact z_lret dX9_alone_35 (by
          refine ⟨?_, frM.rf _ _ σ⟩
          unfold alG
          by_cases q : n < 0 ∨ 4 < n
          · rw [if_pos q]; rfl
          · rw [if_neg q]
            first
            | (rw [if_pos (by omega)]; rfl)
            | (have e : hrM σ s m = -1 := by unfold hrM; rw [if_pos (by omega)]
               rw [if_pos (by omega)]; rfl))
      · skip
        refine z_aload_n dX9_alone_24 rfl ?_
        refine z_iload_n dX9_alone_25 rfl ?_
        refine z_callVI (d := d + 5) (av := [_]) dX9_alone_26 vX9_289 rfl (Nat.le_of_ble_eq_true rfl) rfl rfl rfl (Nat.le_of_ble_eq_true rfl) (Nat.le_refl _) (c_X9_rowFault hS (by omega)) (fun z26 σ26 h26 => ?_)
        obtain ⟨hz, hs26⟩ := h26
        subst σ26
        obtain ⟨ehr, hz3⟩ := rf_M (m := m) (by omega) (by omega) hz
        have hr26 : inR z26 := by rcases hz3 with q | q | q <;> omega
        refine z_if_ge (tgt := 36) dX9_alone_29 (by decide) ⟨by omega, by omega⟩ (fun h29 => ?_) (fun h29 => ?_)
        · skip
          have hz4 : z26 = 0 ∧ σ 117 s.toNat = -2 := by rcases hz3 with q | q | q; omega; exact q; omega
          refine z_aload_n dX9_alone_36 rfl ?_
          refine z_iload_n dX9_alone_37 rfl ?_
          refine z_callVV (d := d + 5) (av := [_]) dX9_alone_38 vX9_324 rfl (Nat.le_of_ble_eq_true rfl) rfl rfl rfl (Nat.le_of_ble_eq_true rfl) (Nat.le_refl _) (c_X9_layRow w1 hS (by omega) hz4.2) (fun σ38 h38 => ?_)
          obtain ⟨hk1, -, hX⟩ := h38
          have hW1 := hk1.wm hW rfl
          have e43 : σ38 9 43 = _ := hX.1
          have l43 := hX.2.2.2
          have hkA : KM σ σ38 := hk1.mono (by decide) (by decide)
          refine z_aload_n dX9_alone_41 rfl ?_
          refine z_getI dX9_alone_42 gX9_315 rfl (Nat.le_of_ble_eq_true rfl) rfl (fun hr42 => ?_)
          refine z_iload_n dX9_alone_45 rfl ?_
          refine z_iadd dX9_alone_46 ?_
          refine z_bipush (v := 12) dX9_alone_47 (by decide +kernel) ?_
          refine z_icmp_le (tgt := 54) dX9_alone_49 (by decide) ⟨by omega, by omega⟩ ⟨by omega, by omega⟩ (fun h49 => ?_) (fun h49 => ?_)
          · skip
            refine z_aload_n dX9_alone_54 rfl ?_
            refine z_getI dX9_alone_55 gX9_315 rfl (Nat.le_of_ble_eq_true rfl) rfl (fun hr55 => ?_)
            rw [e43]
            refine z_istore (L' := [_, _, _, _, _, _, _, _]) dX9_alone_58 (Nat.le_of_ble_eq_true rfl) rfl rfl ?_
            have hh := l1_X9_alone (d := d) (s0 := s) (m := m) (n := n) hW1 hX (by omega) (by omega) (by omega) ((SYM σ s).length + 1) σ38 (SYM σ s).length (by omega) (by omega) (frM.rf _ _ _) (fun a b ha hb h => absurd h (by omega))
            rw [hk1.fi rfl, hk1.pm rfl, hk1.2 1 (by decide)] at hh
            refine hh.mono ?_
            rintro r σ' ⟨z, q1, q3, q4⟩
            refine ⟨z, q1, ?_, hkA.tr (q4.mono (by decide) (by decide))⟩
            unfold alG
            rw [if_neg (by omega), if_neg (by omega), if_neg (by omega)]
            exact q3
          · skip
            refine z_lconst (v := 0) dX9_alone_52 (by decide +kernel) ?_
            exact z_lret dX9_alone_53 (⟨by unfold alG; rw [if_neg (by omega), if_neg (by omega), if_pos (by omega)], hkA⟩)
        · skip
          refine z_ldc2 dX9_alone_32 kX9_358 ?_
          exact z_lret dX9_alone_35 (by
            refine ⟨?_, frM.rf _ _ σ⟩
            unfold alG
            by_cases q : n < 0 ∨ 4 < n
            · rw [if_pos q]; rfl
            · rw [if_neg q]
              first
              | (rw [if_pos (by omega)]; rfl)
              | (have e : hrM σ s m = -1 := by unfold hrM; rw [if_pos (by omega)]
                 rw [if_pos (by omega)]; rfl))
