/-! ===== The reference's questions: saysAt, say ===== -/
theorem nw_cbA {ps : Int → Int → Int → Bool} {S : Nat → Int} {X : List Int} {wn n : Nat} (hn : 2 ≤ n ∧ n ≤ 10) {p c : Int} (hp : 0 ≤ p ∧ p < n) (hc : 0 ≤ c ∧ c ≤ p ∧ c ≤ X.length) (h : ndA ps S X wn p c = n - p) {w : Int} (hw : 0 ≤ w ∧ w < wn) :
    nwP ps S X p (fun b => ndA ps S X wn (p + 1) b) c w = ndA ps S X wn p c ↔ myP ps S X p (cbA ps S X wn n (p + 1).toNat) c w = true := by
  obtain ⟨k, hk⟩ : ∃ k : Nat, n - p.toNat = k + 1 := ⟨n - p.toNat - 1, by omega⟩
  have e1 : (n : Int) - ((k + 1 : Nat) : Int) = p := by omega
  have e2 : cbA ps S X wn n (p + 1).toNat = cbF ps S X wn n k := by
    funext b
    unfold cbA
    rw [show n - (p + 1).toNat = k by omega]
  have h5 := nw_my (ps := ps) (S := S) (X := X) (wn := wn) hn (k := k) (c := c.toNat) (by omega) (by omega) (by omega) (by rw [e1, show ((c.toNat : Nat) : Int) = c by omega, h]; omega) hw
  rw [e1, show ((c.toNat : Nat) : Int) = c by omega] at h5
  rw [e2, h, show (n : Int) - p = ((k + 1 : Nat) : Int) by omega]
  exact h5
set_option maxRecDepth 20000 in
theorem l2_X9_saysAt {d : Nat} {σ : Sto} {LF : LFT} {m p c wh t : Int} {n : Nat} {X : List Int} {f : Int → Int} {Q : Option Value → Sto → Prop} (hW : WM LF σ) (hm : -1 ≤ m ∧ m < 5) (hX : r1M σ X) (hp : 0 ≤ p ∧ p < n) (hn : n ≤ 10) (hc : 0 ≤ c ∧ c ≤ X.length) (hI : cbI σ (cbA (pasM LF σ (finM σ m)) (σ 85) X (σ 9 1).toNat n) X n (-1) 0)
    (hiff : ∀ w, 0 ≤ w ∧ w < ((σ 9 1).toNat : Int) → (f w = t ↔ myP (pasM LF σ (finM σ m)) (σ 85) X p (cbA (pasM LF σ (finM σ m)) (σ 85) X (σ 9 1).toNat n (p + 1).toNat) c w = true))
    (hk : ∀ τ w, pMK σ τ → w = fsF f t (σ 9 1).toNat 0 → Z (z_me cX9_saysAt RX9 6 (some .int) (d + 6) Q) 33 [some (zR 9), some (zI wh), some (zI m), some (zI c), some (zI p), some (zI w)] [] τ) :
    ∀ (k : Nat) (τ : Sto) (w : Int), 0 ≤ w → w + k = σ 9 1 → pMK σ τ → 0 ≤ fsF f t k w → fsF f t k w = fsF f t (σ 9 1).toNat 0 →
    Z (z_me cX9_saysAt RX9 6 (some .int) (d + 6) Q) 14 [some (zR 9), some (zI wh), some (zI m), some (zI c), some (zI p), some (zI w)] [] τ
  | 0, τ, w, h0, hw, hK, h1, h2 => absurd h1 (by rw [fsF]; decide)
  | k + 1, τ, w, h0, hw, hK, h1, h2 => by
    have w1 := hW.1
    have hi := hiff w (by omega)
    refine z_aload_n dX9_saysAt_14 rfl ?_
    refine z_iload dX9_saysAt_15 rfl ?_
    refine z_iload dX9_saysAt_17 rfl ?_
    refine z_iload_n dX9_saysAt_19 rfl ?_
    refine z_iload_n dX9_saysAt_20 rfl ?_
    refine z_callVI (d := d + 5) (av := [_, _, _, _]) dX9_saysAt_21 vX9_321 rfl (Nat.le_of_ble_eq_true rfl) rfl rfl rfl (Nat.le_of_ble_eq_true rfl) (Nat.le_refl _) (c_X9_maySay (LF := LF) (X := X) (N := cbA (pasM LF σ (finM σ m)) (σ 85) X (σ 9 1).toNat n (p + 1).toNat) (hK.wm hW rfl) (by omega) (by omega) hc (hX.fr hK (by decide) (by decide)) hm (fun b hb => by rw [hK.1 106 (by decide) (by decide)]; exact hI _ _ (by omega) hb (by omega))) (fun z21 σ21 h21 => ?_)
    obtain ⟨hz, hfr⟩ := h21
    rw [hK.fi rfl, hK.pm rfl, hK.1 85 (by decide) (by decide)] at hz
    have hr21 : inR z21 := by rcases hz with q | q; rw [q.1]; decide; rw [q.1]; decide
    refine z_if_ne (tgt := 33) dX9_saysAt_24 (by decide) ⟨by omega, by omega⟩ (fun h24 => ?_) (fun h24 => ?_)
    · skip
      exact hk σ21 w (hK.tr hfr) (by rw [← h2, fsF, if_pos (hi.mpr (by rcases hz with q | q; exact q.2; exact absurd q.1 (by omega)))])
    · skip
      refine z_iinc (L' := [_, _, _, _, _, _]) dX9_saysAt_27 (Nat.le_of_ble_eq_true rfl) rfl rfl rfl ?_
      refine z_goto (tgt := 14) dX9_saysAt_30 (by decide) ?_
      have hne : ¬ f w = t := fun v => by rcases hz with q | q; exact absurd q.1 (by omega); exact q.2 (hi.mp v)
      rw [fsF, if_neg hne] at h1 h2
      exact l2_X9_saysAt hW hm hX hp hn hc hI hiff hk k σ21 (w + 1) (by omega) (by omega) (hK.tr hfr) h1 h2
set_option maxRecDepth 20000 in
theorem t0_X9_saysAt {d : Nat} {τ : Sto} {m p c wh w : Int} {P : Int → Sto → Prop} (hp : 0 ≤ p ∧ p ≤ 100) (he : p = wh) (hw : inR w) (hP : P w τ) : Z (z_me cX9_saysAt RX9 6 (some .int) (d + 6) (qI P)) 33 [some (zR 9), some (zI wh), some (zI m), some (zI c), some (zI p), some (zI w)] [] τ := by
  refine z_iload dX9_saysAt_33 rfl ?_
  refine z_iload_n dX9_saysAt_35 rfl ?_
  refine z_icmp_ne (tgt := 42) dX9_saysAt_36 (by decide) ⟨by omega, by omega⟩ ⟨by omega, by omega⟩ (fun h36 => ?_) (fun h36 => ?_)
  · exfalso; omega
  · skip
    refine z_iload dX9_saysAt_39 rfl ?_
    exact z_iret dX9_saysAt_41 hP
set_option maxRecDepth 20000 in
theorem tS_X9_saysAt {d : Nat} {σ τ : Sto} {LF : LFT} {m p c wh w : Int} {Q : Option Value → Sto → Prop} (hW : WM LF σ) (hm : -1 ≤ m ∧ m < 5) (hp : 0 ≤ p ∧ p ≤ 100) (hc : 0 ≤ c ∧ c ≤ 100) (he : p < wh) (hwh : wh ≤ 100) (hw : 0 ≤ w ∧ w < 12) (hK : pMK σ τ)
    (hk : ∀ τ' c', pMK σ τ' → c' = (if pasM LF σ (finM σ m) w p (p - c) = true then c + 1 else c) → Z (z_me cX9_saysAt RX9 6 (some .int) (d + 6) Q) 5 [some (zR 9), some (zI wh), some (zI m), some (zI c'), some (zI (p + 1)), none] [] τ') : Z (z_me cX9_saysAt RX9 6 (some .int) (d + 6) Q) 33 [some (zR 9), some (zI wh), some (zI m), some (zI c), some (zI p), some (zI w)] [] τ := by
  refine z_iload dX9_saysAt_33 rfl ?_
  refine z_iload_n dX9_saysAt_35 rfl ?_
  refine z_icmp_ne (tgt := 42) dX9_saysAt_36 (by decide) ⟨by omega, by omega⟩ ⟨by omega, by omega⟩ (fun h36 => ?_) (fun h36 => ?_)
  · skip
    refine z_aload_n dX9_saysAt_42 rfl ?_
    refine z_iload dX9_saysAt_43 rfl ?_
    refine z_iload_n dX9_saysAt_45 rfl ?_
    refine z_iload dX9_saysAt_46 rfl ?_
    refine z_iload dX9_saysAt_48 rfl ?_
    refine z_iload_n dX9_saysAt_50 rfl ?_
    refine z_isub dX9_saysAt_51 ?_
    refine z_callVI (d := d + 5) (av := [_, _, _, _]) dX9_saysAt_52 vX9_271 rfl (Nat.le_of_ble_eq_true rfl) rfl rfl rfl (Nat.le_of_ble_eq_true rfl) (Nat.le_refl _) (c_X9_passes (LF := LF) (hK.wm hW rfl) hw hm (by omega) (by omega)) (fun z52 σ52 h52 => ?_)
    obtain ⟨hps, hfr⟩ := h52
    rw [hK.fi rfl, hK.pm rfl] at hps
    have hr52 : inR z52 := by rcases hps with q | q; rw [q.1]; decide; rw [q.1]; decide
    refine z_if_eq (tgt := 61) dX9_saysAt_55 (by decide) ⟨by omega, by omega⟩ (fun h55 => ?_) (fun h55 => ?_)
    · skip
      refine z_iinc (L' := [_, _, _, _, _, _]) dX9_saysAt_61 (Nat.le_of_ble_eq_true rfl) rfl rfl rfl ?_
      refine z_goto (tgt := 5) dX9_saysAt_64 (by decide) ?_
      refine z_forget [true, true, true, true, true, false] (L' := [_, _, _, _, _, _]) rfl ?_
      first
        | exact hk _ _ (hK.tr hfr) (by rw [if_pos (by rcases hps with q | q; exact q.2; exact absurd q.1 (by omega))])
        | exact hk _ _ (hK.tr hfr) (by rw [if_neg (by rcases hps with q | q; exact absurd q.1 (by omega); rw [q.2]; exact Bool.false_ne_true)])
    · skip
      refine z_iinc (L' := [_, _, _, _, _, _]) dX9_saysAt_58 (Nat.le_of_ble_eq_true rfl) rfl rfl rfl ?_
      refine z_iinc (L' := [_, _, _, _, _, _]) dX9_saysAt_61 (Nat.le_of_ble_eq_true rfl) rfl rfl rfl ?_
      refine z_goto (tgt := 5) dX9_saysAt_64 (by decide) ?_
      refine z_forget [true, true, true, true, true, false] (L' := [_, _, _, _, _, _]) rfl ?_
      first
        | exact hk _ _ (hK.tr hfr) (by rw [if_pos (by rcases hps with q | q; exact q.2; exact absurd q.1 (by omega))])
        | exact hk _ _ (hK.tr hfr) (by rw [if_neg (by rcases hps with q | q; exact absurd q.1 (by omega); rw [q.2]; exact Bool.false_ne_true)])
  · exfalso; omega
set_option maxRecDepth 20000 in
theorem l1_X9_saysAt {d : Nat} {σ : Sto} {LF : LFT} {m wh : Int} {n : Nat} {X : List Int} (hW : WM LF σ) (hm : -1 ≤ m ∧ m < 5) (hX : r1M σ X) (hn : 2 ≤ n ∧ n ≤ 10) (hwh : 0 ≤ wh ∧ wh < n) (hI : cbI σ (cbA (pasM LF σ (finM σ m)) (σ 85) X (σ 9 1).toNat n) X n (-1) 0) :
    ∀ (r : Nat) (τ : Sto) (p c : Int), p + r = wh → 0 ≤ p → (0 ≤ c ∧ c ≤ p ∧ c ≤ X.length) → ndA (pasM LF σ (finM σ m)) (σ 85) X (σ 9 1).toNat p c = n - p → pMK σ τ →
    Z (z_me cX9_saysAt RX9 6 (some .int) (d + 6) (qI fun z σ' => z = (spL (pasM LF σ (finM σ m)) (σ 85) X (σ 9 1).toNat (n - p.toNat) p c).getD r 0 ∧ pMK σ σ')) 5 [some (zR 9), some (zI wh), some (zI m), some (zI c), some (zI p), none] [] τ
  | 0, τ, p, c, hr, hp, hc, hN, hK => by
    have x4 := hX.2.2.2
    have w1 := hW.1
    obtain ⟨w, hw⟩ : ∃ w, w = fsF (fun w => nwP (pasM LF σ (finM σ m)) (σ 85) X p (fun b => ndA (pasM LF σ (finM σ m)) (σ 85) X (σ 9 1).toNat (p + 1) b) c w) (ndA (pasM LF σ (finM σ m)) (σ 85) X (σ 9 1).toNat p c) (σ 9 1).toNat 0 := ⟨_, rfl⟩
    have hs := nd_step (ps := pasM LF σ (finM σ m)) (S := σ 85) (X := X) (wn := (σ 9 1).toNat) (p := p) (c := c) (w := w) (by omega) hc (by omega) (by omega) hw
    have hs1 := hs.1
    obtain ⟨R, hR⟩ : ∃ R : Nat, n - p.toNat = R + 1 := ⟨n - p.toNat - 1, by omega⟩
    refine z_iload dX9_saysAt_5 rfl ?_
    refine z_iload_n dX9_saysAt_7 rfl ?_
    refine z_icmp_gt (tgt := 67) dX9_saysAt_8 (by decide) ⟨by omega, by omega⟩ ⟨by omega, by omega⟩ (fun h8 => ?_) (fun h8 => ?_)
    · exfalso; omega
    · skip
      refine z_iconst dX9_saysAt_11 ?_
      refine z_istore (L' := [_, _, _, _, _, _]) dX9_saysAt_12 (Nat.le_of_ble_eq_true rfl) rfl rfl ?_
      refine l2_X9_saysAt (f := fun w => nwP (pasM LF σ (finM σ m)) (σ 85) X p (fun b => ndA (pasM LF σ (finM σ m)) (σ 85) X (σ 9 1).toNat (p + 1) b) c w) (t := ndA (pasM LF σ (finM σ m)) (σ 85) X (σ 9 1).toNat p c) hW hm hX (by omega) hn.2 ⟨hc.1, hc.2.2⟩ hI (fun w hw => nw_cbA hn (by omega) hc hN hw) (fun τ1 w1 g1 g2 => ?_) (σ 9 1).toNat τ 0 (by omega) (by omega) hK (by rw [← hw]; omega) rfl
      obtain rfl : w1 = w := by rw [g2, hw]
      exact t0_X9_saysAt (by omega) (by omega) (by omega) ⟨by rw [hR, spL, ← hw]; rfl, g1⟩
  | r + 1, τ, p, c, hr, hp, hc, hN, hK => by
    have x4 := hX.2.2.2
    have w1 := hW.1
    obtain ⟨w, hw⟩ : ∃ w, w = fsF (fun w => nwP (pasM LF σ (finM σ m)) (σ 85) X p (fun b => ndA (pasM LF σ (finM σ m)) (σ 85) X (σ 9 1).toNat (p + 1) b) c w) (ndA (pasM LF σ (finM σ m)) (σ 85) X (σ 9 1).toNat p c) (σ 9 1).toNat 0 := ⟨_, rfl⟩
    have hs := nd_step (ps := pasM LF σ (finM σ m)) (S := σ 85) (X := X) (wn := (σ 9 1).toNat) (p := p) (c := c) (w := w) (by omega) hc (by omega) (by omega) hw
    have hs1 := hs.1
    obtain ⟨R, hR⟩ : ∃ R : Nat, n - p.toNat = R + 1 := ⟨n - p.toNat - 1, by omega⟩
    refine z_iload dX9_saysAt_5 rfl ?_
    refine z_iload_n dX9_saysAt_7 rfl ?_
    refine z_icmp_gt (tgt := 67) dX9_saysAt_8 (by decide) ⟨by omega, by omega⟩ ⟨by omega, by omega⟩ (fun h8 => ?_) (fun h8 => ?_)
    · exfalso; omega
    · skip
      refine z_iconst dX9_saysAt_11 ?_
      refine z_istore (L' := [_, _, _, _, _, _]) dX9_saysAt_12 (Nat.le_of_ble_eq_true rfl) rfl rfl ?_
      refine l2_X9_saysAt (f := fun w => nwP (pasM LF σ (finM σ m)) (σ 85) X p (fun b => ndA (pasM LF σ (finM σ m)) (σ 85) X (σ 9 1).toNat (p + 1) b) c w) (t := ndA (pasM LF σ (finM σ m)) (σ 85) X (σ 9 1).toNat p c) hW hm hX (by omega) hn.2 ⟨hc.1, hc.2.2⟩ hI (fun w hw => nw_cbA hn (by omega) hc hN hw) (fun τ1 w1 g1 g2 => ?_) (σ 9 1).toNat τ 0 (by omega) (by omega) hK (by rw [← hw]; omega) rfl
      obtain rfl : w1 = w := by rw [g2, hw]
      have es : spL (pasM LF σ (finM σ m)) (σ 85) X (σ 9 1).toNat (n - p.toNat) p c = w1 :: spL (pasM LF σ (finM σ m)) (σ 85) X (σ 9 1).toNat (n - (p + 1).toNat) (p + 1) (if pasM LF σ (finM σ m) w1 p (p - c) = true then c + 1 else c) := by rw [hR, spL, ← hw, show n - (p + 1).toNat = R by omega]
      rw [es]
      refine tS_X9_saysAt hW hm (by omega) (by omega) (by omega) (by omega) (by omega) g1 (fun τ2 c2 g3 g4 => ?_)
      rw [← g4]
      have hc2 : (0 ≤ c2 ∧ c2 ≤ p + 1 ∧ c2 ≤ X.length) ∧ ndA (pasM LF σ (finM σ m)) (σ 85) X (σ 9 1).toNat (p + 1) c2 = n - (p + 1) := by
        by_cases q : pasM LF σ (finM σ m) w1 p (p - c) = true
        · rw [if_pos q] at g4
          have := hs.2.2.1 q
          rw [g4]
          exact ⟨by omega, by omega⟩
        · rw [if_neg q] at g4
          have := hs.2.2.2 (Bool.eq_false_iff.mpr q)
          rw [g4]
          exact ⟨by omega, by omega⟩
      exact l1_X9_saysAt hW hm hX hn hwh hI r τ2 (p + 1) c2 (by omega) (by omega) hc2.1 hc2.2 g3
set_option maxRecDepth 20000 in
theorem c_X9_saysAt {d : Nat} {σ : Sto} {LF : LFT} {m wh : Int} {n : Nat} {X : List Int} (hW : WM LF σ) (hm : -1 ≤ m ∧ m < 5) (hX : r1M σ X) (hn : 2 ≤ n ∧ n ≤ 10) (hwh : 0 ≤ wh ∧ wh < n) (hI : cbI σ (cbA (pasM LF σ (finM σ m)) (σ 85) X (σ 9 1).toNat n) X n (-1) 0) (hN : ndA (pasM LF σ (finM σ m)) (σ 85) X (σ 9 1).toNat 0 0 = n) : m_X9_saysAt d [zR 9, zI wh, zI m] σ (qI fun z σ' => z = (spL (pasM LF σ (finM σ m)) (σ 85) X (σ 9 1).toNat n 0 0).getD wh.toNat 0 ∧ pMK σ σ') := by
  refine z_does (L := [some (zR 9), some (zI wh), some (zI m), none, none, none]) rfl (by decide +kernel) (Nat.le_of_ble_eq_true rfl) rfl ?_
  refine z_iconst dX9_saysAt_0 ?_
  refine z_istore_n (L' := [_, _, _, _, _, _]) dX9_saysAt_1 (Nat.le_of_ble_eq_true rfl) rfl rfl ?_
  refine z_iconst dX9_saysAt_2 ?_
  refine z_istore (L' := [_, _, _, _, _, _]) dX9_saysAt_3 (Nat.le_of_ble_eq_true rfl) rfl rfl ?_
  exact l1_X9_saysAt hW hm hX hn hwh hI wh.toNat σ 0 0 (by omega) (by omega) (by omega) (by rw [hN]; omega) (frM.rf _ _ _)
set_option maxRecDepth 20000 in
theorem l_X9_say {d : Nat} {σ : Sto} {LF : LFT} {s m k e0 N V : Int} {X : List Int} (hW : WM LF σ) (hm : -1 ≤ m ∧ m < 5) (hk : -1 ≤ k ∧ inR k) (hxl : X.length ≤ 12) (hN : N = ndA (pasM LF σ (finM σ m)) (σ 85) X (σ 9 1).toNat 0 0)
    (hV : V = if X.length ≤ 10 ∧ N < 100 ∧ k < N then (if k = -1 then N else (spL (pasM LF σ (finM σ m)) (σ 85) X (σ 9 1).toNat N.toNat 0 0).getD k.toNat 0) else -2) :
    ∀ (r : Nat) (τ : Sto) (n : Nat), n + r = 11 → 2 ≤ n → (∀ n' : Nat, 2 ≤ n' → n' < n → N ≠ n') → KM σ τ → r1M τ X →
    Z (z_me cX9_say RX9 6 (some .int) (d + 7) (qI fun z σ' => z = V ∧ KM σ σ')) 45 [some (zR 9), some (zI s), some (zI m), some (zI k), some (zI e0), some (zI n)] [] τ
  | 0, τ, n, hn, h2, hne, hK, hX => by
    have hN2 : 2 ≤ N := by rw [hN]; exact nd_2
    have hN10 : N < 100 → N ≤ ((10 : Nat) : Int) := by rw [hN]; exact ndA_le 10 0 0 (by decide) (by decide) (by omega)
    have hN100 : ¬ N < 100 := fun v => hne N.toNat (by omega) (by omega) (by omega)
    refine z_iload dX9_say_45 rfl ?_
    refine z_bipush (v := 10) dX9_say_47 (by decide +kernel) ?_
    refine z_icmp_gt (tgt := 95) dX9_say_49 (by decide) ⟨by omega, by omega⟩ ⟨by omega, by omega⟩ (fun h49 => ?_) (fun h49 => ?_)
    · skip
      refine z_bipush (v := -2) dX9_say_95 (by decide +kernel) ?_
      exact z_iret dX9_say_97 ⟨by rw [hV, if_neg (fun v => hN100 v.2.1)], hK⟩
    · exfalso; omega
  | r + 1, τ, n, hn, h2, hne, hK, hX => by
    have hN2 : 2 ≤ N := by rw [hN]; exact nd_2
    refine z_iload dX9_say_45 rfl ?_
    refine z_bipush (v := 10) dX9_say_47 (by decide +kernel) ?_
    refine z_icmp_gt (tgt := 95) dX9_say_49 (by decide) ⟨by omega, by omega⟩ ⟨by omega, by omega⟩ (fun h49 => ?_) (fun h49 => ?_)
    · exfalso; omega
    · skip
      refine z_aload_n dX9_say_52 rfl ?_
      refine z_iload dX9_say_53 rfl ?_
      refine z_iload_n dX9_say_55 rfl ?_
      refine z_callVI (d := d + 6) (av := [_, _]) dX9_say_56 vX9_327 rfl (Nat.le_of_ble_eq_true rfl) rfl rfl rfl (Nat.le_of_ble_eq_true rfl) (Nat.le_refl _) (c_X9_findSay (LF := LF) (X := X) (n := n) (hK.wm hW rfl) hm hX (by omega)) (fun z56 σ56 h56 => ?_)
      obtain ⟨hz, hfr, hI⟩ := h56
      rw [hK.fi rfl, hK.pm rfl, hK.1 85 (by decide) (by decide), hK.2 1 (by decide)] at hz hI
      have hr56 : inR z56 := by rcases hz with q | q; rw [q.1]; decide; rw [q.1]; decide
      have hK2 : KM σ σ56 := hK.tr (hfr.mono (by decide) (by decide))
      have hX2 : r1M σ56 X := hX.fr hfr (by decide) (by decide)
      refine z_if_eq (tgt := 89) dX9_say_59 (by decide) ⟨by omega, by omega⟩ (fun h59 => ?_) (fun h59 => ?_)
      · skip
        refine z_iinc (L' := [_, _, _, _, _, _]) dX9_say_89 (Nat.le_of_ble_eq_true rfl) rfl rfl rfl ?_
        refine z_goto (tgt := 45) dX9_say_92 (by decide) ?_
        rw [show (n : Int) + 1 = ((n + 1 : Nat) : Int) by omega]
        refine l_X9_say hW hm hk hxl hN hV r σ56 (n + 1) (by omega) (by omega) (fun n' q1 q2 q3 => ?_) hK2 hX2
        by_cases q4 : n' = n
        · rcases hz with q | q
          · exact absurd q.1 (by omega)
          · refine q.2 ?_
            unfold cbA
            refine nd_cb (by omega) n 0 (by omega) (by omega) (by omega) ?_
            rw [show (n : Int) - (n : Int) = 0 by omega]
            exact hN.symm.trans (by rw [q3, q4])
        · exact hne n' q1 (by omega) q3
      · skip
        have hc : cbA (pasM LF σ (finM σ m)) (σ 85) X (σ 9 1).toNat n 0 0 = true := by rcases hz with q | q; exact q.2; exact absurd q.1 (by omega)
        unfold cbA at hc
        have hc1 := cb_nd (by omega) n 0 (by omega) hc
        have hc2 := cb_len n 0 hc
        have hc1 : N ≤ n := by rw [show (n : Int) - (n : Int) = 0 by omega] at hc1; rw [hN]; exact hc1
        have hNn : N = n := by
          by_cases q : N = n
          · exact q
          · exact absurd (show N = (N.toNat : Int) by omega) (hne N.toNat (by omega) (by omega))
        refine z_iload_n dX9_say_62 rfl ?_
        refine z_if_ge (tgt := 71) dX9_say_63 (by decide) ⟨by omega, by omega⟩ (fun h63 => ?_) (fun h63 => ?_)
        · skip
          refine z_iload_n dX9_say_71 rfl ?_
          refine z_iload dX9_say_72 rfl ?_
          refine z_icmp_ge (tgt := 86) dX9_say_74 (by decide) ⟨by omega, by omega⟩ ⟨by omega, by omega⟩ (fun h74 => ?_) (fun h74 => ?_)
          · skip
            refine z_bipush (v := -2) dX9_say_86 (by decide +kernel) ?_
            exact z_iret dX9_say_88 (by
              first
              | (refine ⟨?_, hK2⟩
                 rw [hV, if_pos (by omega), if_pos (by omega)]
                 exact hNn.symm)
              | (refine ⟨?_, hK2⟩
                 rw [hV, if_neg (by omega)])
              | (refine ⟨?_, hK2.tr (hfr2.mono (by decide) (by decide))⟩
                 rw [hV, if_pos (by omega), if_neg (by omega), hz2, hNn]
                 rfl))
          · skip
            refine z_aload_n dX9_say_77 rfl ?_
            refine z_iload_n dX9_say_78 rfl ?_
            refine z_iload_n dX9_say_79 rfl ?_
            refine z_callVI (d := d + 6) (av := [_, _]) dX9_say_80 vX9_330 rfl (Nat.le_of_ble_eq_true rfl) rfl rfl rfl (Nat.le_of_ble_eq_true rfl) (Nat.le_refl _) (c_X9_saysAt (LF := LF) (X := X) (n := n) (hK2.wm hW rfl) hm hX2 (by omega) (by omega) (by rw [hK2.fi rfl, hK2.pm rfl, hK2.1 85 (by decide) (by decide), hK2.2 1 (by decide)]; exact hI) (by rw [hK2.fi rfl, hK2.pm rfl, hK2.1 85 (by decide) (by decide), hK2.2 1 (by decide), ← hN]; exact hNn)) (fun z80 σ80 h80 => ?_)
            obtain ⟨hz2, hfr2⟩ := h80
            rw [hK2.fi rfl, hK2.pm rfl, hK2.1 85 (by decide) (by decide), hK2.2 1 (by decide)] at hz2
            refine z_goto (tgt := 88) dX9_say_83 (by decide) ?_
            exact z_iret dX9_say_88 (by
              first
              | (refine ⟨?_, hK2⟩
                 rw [hV, if_pos (by omega), if_pos (by omega)]
                 exact hNn.symm)
              | (refine ⟨?_, hK2⟩
                 rw [hV, if_neg (by omega)])
              | (refine ⟨?_, hK2.tr (hfr2.mono (by decide) (by decide))⟩
                 rw [hV, if_pos (by omega), if_neg (by omega), hz2, hNn]
                 rfl))
        · skip
          refine z_iload dX9_say_66 rfl ?_
          refine z_goto (tgt := 88) dX9_say_68 (by decide) ?_
          exact z_iret dX9_say_88 (by
            first
            | (refine ⟨?_, hK2⟩
               rw [hV, if_pos (by omega), if_pos (by omega)]
               exact hNn.symm)
            | (refine ⟨?_, hK2⟩
               rw [hV, if_neg (by omega)])
            | (refine ⟨?_, hK2.tr (hfr2.mono (by decide) (by decide))⟩
               rw [hV, if_pos (by omega), if_neg (by omega), hz2, hNn]
               rfl))
set_option maxRecDepth 20000 in
theorem c_X9_say {d : Nat} {σ : Sto} {LF : LFT} {s m k : Int} (hW : WM LF σ) (hS : SM σ) (hs : inR s) (hm : inR m) (hkk : inR k) : m_X9_say d [zR 9, zI s, zI m, zI k] σ (qI fun z σ' => z = syG (hrM σ s m) (pasM LF σ (finM σ m)) (σ 85) (SYM σ s) (σ 9 1).toNat k ∧ KM σ σ') := by
  have w1 := hW.1
  have w7 := hW.2.1
  have hxl := SYM_len (σ := σ) (s := s)
  refine z_does (L := [some (zR 9), some (zI s), some (zI m), some (zI k), none, none]) rfl (by decide +kernel) (Nat.le_of_ble_eq_true rfl) rfl ?_
  refine z_iload_n dX9_say_0 rfl ?_
  refine z_callSI (d := d + 6) (av := [_]) dX9_say_1 sX9_154 rfl rfl (Nat.le_of_ble_eq_true rfl) (Nat.le_refl _) (c_X9_isShelf (by omega)) (fun z1 σ1 h1 => ?_)
  obtain ⟨hs1, h1⟩ := h1
  subst σ1
  refine z_if_eq (tgt := 20) dX9_say_4 (by decide) ⟨by omega, by omega⟩ (fun h4 => ?_) (fun h4 => ?_)
  · skip
    refine z_iconst dX9_say_20 ?_
    exact z_iret dX9_say_21 (by
      refine ⟨?_, frM.rf _ _ σ⟩
      unfold syG
      by_cases q : k < -1
      · rw [if_pos q]
      · have e : hrM σ s m = -1 := by unfold hrM; rw [if_pos (by omega)]
        rw [if_neg q, e]; rfl)
  · skip
    refine z_aload_n dX9_say_7 rfl ?_
    refine z_iload_n dX9_say_8 rfl ?_
    refine z_callVI (d := d + 6) (av := [_]) dX9_say_9 vX9_286 rfl (Nat.le_of_ble_eq_true rfl) rfl rfl rfl (Nat.le_of_ble_eq_true rfl) (Nat.le_refl _) (c_X9_isMeshOrNone (by omega) (by omega)) (fun z9 σ9 h9 => ?_)
    obtain ⟨hs9, h9⟩ := h9
    subst σ9
    refine z_if_eq (tgt := 20) dX9_say_12 (by decide) ⟨by omega, by omega⟩ (fun h12 => ?_) (fun h12 => ?_)
    · skip
      refine z_iconst dX9_say_20 ?_
      exact z_iret dX9_say_21 (by
        refine ⟨?_, frM.rf _ _ σ⟩
        unfold syG
        by_cases q : k < -1
        · rw [if_pos q]
        · have e : hrM σ s m = -1 := by unfold hrM; rw [if_pos (by omega)]
          rw [if_neg q, e]; rfl)
    · skip
      refine z_iload_n dX9_say_15 rfl ?_
      refine z_iconst dX9_say_16 ?_
      refine z_icmp_ge (tgt := 22) dX9_say_17 (by decide) ⟨by omega, by omega⟩ ⟨by omega, by omega⟩ (fun h17 => ?_) (fun h17 => ?_)
      · skip
        refine z_aload_n dX9_say_22 rfl ?_
        refine z_iload_n dX9_say_23 rfl ?_
        refine z_callVI (d := d + 6) (av := [_]) dX9_say_24 vX9_289 rfl (Nat.le_of_ble_eq_true rfl) rfl rfl rfl (Nat.le_of_ble_eq_true rfl) (Nat.le_refl _) (c_X9_rowFault hS (by omega)) (fun z24 σ24 h24 => ?_)
        obtain ⟨hz, hs24⟩ := h24
        subst σ24
        obtain ⟨ehr, hz3⟩ := rf_M (m := m) (by omega) (by omega) hz
        have hr24 : inR z24 := by rcases hz3 with q | q | q <;> omega
        refine z_istore (L' := [_, _, _, _, _, _]) dX9_say_27 (Nat.le_of_ble_eq_true rfl) rfl rfl ?_
        refine z_iload dX9_say_29 rfl ?_
        refine z_if_ge (tgt := 37) dX9_say_31 (by decide) ⟨by omega, by omega⟩ (fun h31 => ?_) (fun h31 => ?_)
        · skip
          have hz4 : z24 = 0 ∧ σ 117 s.toNat = -2 := by rcases hz3 with q | q | q; omega; exact q; omega
          refine z_aload_n dX9_say_37 rfl ?_
          refine z_iload_n dX9_say_38 rfl ?_
          refine z_callVV (d := d + 6) (av := [_]) dX9_say_39 vX9_324 rfl (Nat.le_of_ble_eq_true rfl) rfl rfl rfl (Nat.le_of_ble_eq_true rfl) (Nat.le_refl _) (c_X9_layRow w1 hS (by omega) hz4.2) (fun σ39 h39 => ?_)
          obtain ⟨hk1, -, hX⟩ := h39
          refine z_iconst dX9_say_42 ?_
          refine z_istore (L' := [_, _, _, _, _, _]) dX9_say_43 (Nat.le_of_ble_eq_true rfl) rfl rfl ?_
          refine l_X9_say (N := ndA (pasM LF σ (finM σ m)) (σ 85) (SYM σ s) (σ 9 1).toNat 0 0) hW (by omega) ⟨by omega, hkk⟩ hxl rfl (by unfold syG; rw [if_neg (by omega), if_neg (by omega)]) 9 σ39 2 (by omega) (by omega) (fun n' q1 q2 => absurd q2 (by omega)) (hk1.mono (by decide) (by decide)) hX
        · skip
          refine z_iload dX9_say_34 rfl ?_
          exact z_iret dX9_say_36 (⟨by unfold syG; rw [if_neg (by omega), if_pos (by omega)]; exact ehr.symm, frM.rf _ _ σ⟩)
      · skip
        refine z_iconst dX9_say_20 ?_
        exact z_iret dX9_say_21 (by
          refine ⟨?_, frM.rf _ _ σ⟩
          unfold syG
          by_cases q : k < -1
          · rw [if_pos q]
          · have e : hrM σ s m = -1 := by unfold hrM; rw [if_pos (by omega)]
            rw [if_neg q, e]; rfl)
