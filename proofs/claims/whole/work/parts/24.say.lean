/-! ===== Search: the shortest saying ===== -/
def mnF (f : Int → Int) : Nat → Int → Int → Int
  | 0, _, acc => acc
  | m + 1, w, acc => mnF f m (w + 1) (min acc (f w))
def nwP (ps : Int → Int → Int → Bool) (S : Nat → Int) (X : List Int) (p : Int) (N : Nat → Int) (c w : Int) : Int :=
  if p < 10 ∧ S w.toNat = min p 2 then (if ps w p (p - c) = true then (if c < X.length ∧ X.getD c.toNat 0 = w then N (c + 1).toNat + 1 else 100) else N c.toNat + 1) else 100
/-- how many words are wanted at place 10 - k, when c have come -/
def ndF (ps : Int → Int → Int → Bool) (S : Nat → Int) (X : List Int) (wn : Nat) : Nat → Nat → Int
  | 0, c => if c = X.length then 0 else mnF (fun w => nwP ps S X 10 (fun _ => 0) c w) wn 0 100
  | k + 1, c => if c = X.length ∧ (2 : Int) ≤ 10 - ((k + 1 : Nat) : Int) then 0 else mnF (fun w => nwP ps S X (10 - ((k + 1 : Nat) : Int)) (ndF ps S X wn k) c w) wn 0 100
theorem mnF_R {f : Int → Int} (hf : ∀ w, 0 ≤ f w) : ∀ (m : Nat) (w acc : Int), 0 ≤ acc ∧ acc ≤ 100 → 0 ≤ mnF f m w acc ∧ mnF f m w acc ≤ 100
  | 0, _, _, h => h
  | m + 1, w, acc, h => mnF_R hf m (w + 1) _ (by have := hf w; omega)
theorem nwP_R {ps : Int → Int → Int → Bool} {S : Nat → Int} {X : List Int} {p : Int} {N : Nat → Int} {c w : Int} (hN : ∀ b, 0 ≤ N b ∧ N b ≤ 100) : 0 ≤ nwP ps S X p N c w ∧ nwP ps S X p N c w ≤ 101 := by
  have h1 := hN (c + 1).toNat
  have h2 := hN c.toNat
  unfold nwP
  split
  · split
    · split <;> omega
    · omega
  · omega
theorem ndF_R {ps : Int → Int → Int → Bool} {S : Nat → Int} {X : List Int} {wn : Nat} : ∀ (k c : Nat), 0 ≤ ndF ps S X wn k c ∧ ndF ps S X wn k c ≤ 100
  | 0, c => by
    rw [ndF]
    split
    · omega
    · exact mnF_R (fun w => (nwP_R (fun _ => ⟨by decide, by decide⟩)).1) _ _ _ ⟨by decide, by decide⟩
  | k + 1, c => by
    rw [ndF]
    split
    · omega
    · exact mnF_R (fun w => (nwP_R (fun b => ndF_R k b)).1) _ _ _ ⟨by decide, by decide⟩
/-- needed at place p, in one row -/
abbrev ndA (ps : Int → Int → Int → Bool) (S : Nat → Int) (X : List Int) (wn : Nat) (p c : Int) : Int := ndF ps S X wn (10 - p).toNat c.toNat
theorem ndA_eq {ps : Int → Int → Int → Bool} {S : Nat → Int} {X : List Int} {wn : Nat} {p c : Int} (hp : 0 ≤ p ∧ p ≤ 10) (hc : 0 ≤ c) : ndA ps S X wn p c = if c = X.length ∧ 2 ≤ p then 0 else mnF (fun w => nwP ps S X p (fun b => ndA ps S X wn (p + 1) b) c w) wn 0 100 := by
  unfold ndA
  by_cases h : p = 10
  · subst h
    rw [show (10 - 10 : Int).toNat = 0 from rfl, ndF]
    by_cases hcx : c.toNat = X.length
    · rw [if_pos hcx, if_pos ⟨by omega, by decide⟩]
    · rw [if_neg hcx, if_neg (fun q => hcx (by omega)), show ((c.toNat : Nat) : Int) = c by omega]
      congr 1
  · obtain ⟨k, hk⟩ : ∃ k : Nat, (10 - p).toNat = k + 1 := ⟨(10 - p).toNat - 1, by omega⟩
    have e : (10 : Int) - ((k + 1 : Nat) : Int) = p := by omega
    rw [hk, ndF, e, show (10 - (p + 1)).toNat = k by omega, show ((c.toNat : Nat) : Int) = c by omega]
    by_cases hcx : c.toNat = X.length ∧ 2 ≤ p
    · rw [if_pos hcx, if_pos ⟨by omega, hcx.2⟩]
    · rw [if_neg hcx, if_neg (fun q => hcx ⟨by omega, q.2⟩)]
      congr 1
theorem nwP_cong {ps : Int → Int → Int → Bool} {S : Nat → Int} {X : List Int} {p c w : Int} {N N' : Nat → Int} (h1 : p < 10 → N c.toNat = N' c.toNat) (h2 : p < 10 → c < X.length → N (c + 1).toNat = N' (c + 1).toNat) : nwP ps S X p N c w = nwP ps S X p N' c w := by
  unfold nwP
  by_cases hp : p < 10 ∧ S w.toNat = min p 2
  · rw [if_pos hp, if_pos hp, h1 hp.1]
    by_cases h3 : ps w p (p - c) = true
    · rw [if_pos h3, if_pos h3]
      by_cases h4 : c < X.length ∧ X.getD c.toNat 0 = w
      · rw [if_pos h4, if_pos h4, h2 hp.1 h4.1]
      · rw [if_neg h4, if_neg h4]
    · rw [if_neg h3, if_neg h3]
  · rw [if_neg hp, if_neg hp]
set_option maxRecDepth 20000 in
theorem c_X4_neededWith {d : Nat} {σ : Sto} {LF : LFT} {w p c f : Int} {X : List Int} {N : Nat → Int} (hW : WC LF σ) (hw : 0 ≤ w ∧ w < 12) (hp : 0 ≤ p ∧ p ≤ 10) (hc : 0 ≤ c ∧ c ≤ p ∧ c ≤ X.length) (hx : X.length ≤ 10) (hX : wok X) (sX : Seg σ 10 0 X) (hf : -1 ≤ f ∧ f ≤ 9) (hNR : ∀ b, 0 ≤ N b ∧ N b ≤ 100) (hN : p < 10 → ∀ b : Nat, (b : Int) ≤ p + 1 → b ≤ X.length → σ (47 + (p + 1).toNat) b = N b) :
    m_X4_neededWith d [zR 6, zI w, zI p, zI c, zR 10, zI X.length, zI f] σ (qI fun z σ' => z = nwP (pasC LF σ f) (σ 16) X p N c w ∧ pK σ σ') := by
  have w16 := hW.2.2.2.2.2.2.1 w.toNat
  have n1 := hNR (c + 1).toNat
  have n2 := hNR c.toNat
  refine z_does (L := [some (zR 6), some (zI w), some (zI p), some (zI c), some (zR 10), some (zI X.length), some (zI f)]) rfl (by decide +kernel) (Nat.le_of_ble_eq_true rfl) rfl ?_
  refine z_iload_n dX4_neededWith_0 rfl ?_
  refine z_if_lt (tgt := 31) dX4_neededWith_1 (by decide) ⟨by omega, by omega⟩ (fun h1 => ?_) (fun h1 => ?_)
  · skip
    refine z_bipush (v := 100) dX4_neededWith_31 (by decide +kernel) ?_
    exact z_iret dX4_neededWith_33 ⟨by unfold nwP; rw [if_neg (by first | omega | (rintro ⟨q1, q2⟩; rcases hfit with v | v; exact absurd v.1 (by omega); exact v.2 q2))], fun _ _ _ => rfl⟩
  · skip
    refine z_iload_n dX4_neededWith_4 rfl ?_
    refine z_bipush (v := 10) dX4_neededWith_5 (by decide +kernel) ?_
    refine z_icmp_ge (tgt := 31) dX4_neededWith_7 (by decide) ⟨by omega, by omega⟩ ⟨by omega, by omega⟩ (fun h7 => ?_) (fun h7 => ?_)
    · skip
      refine z_bipush (v := 100) dX4_neededWith_31 (by decide +kernel) ?_
      exact z_iret dX4_neededWith_33 ⟨by unfold nwP; rw [if_neg (by first | omega | (rintro ⟨q1, q2⟩; rcases hfit with v | v; exact absurd v.1 (by omega); exact v.2 q2))], fun _ _ _ => rfl⟩
    · skip
      refine z_iload_n dX4_neededWith_10 rfl ?_
      refine z_if_lt (tgt := 31) dX4_neededWith_11 (by decide) ⟨by omega, by omega⟩ (fun h11 => ?_) (fun h11 => ?_)
      · skip
        refine z_bipush (v := 100) dX4_neededWith_31 (by decide +kernel) ?_
        exact z_iret dX4_neededWith_33 ⟨by unfold nwP; rw [if_neg (by first | omega | (rintro ⟨q1, q2⟩; rcases hfit with v | v; exact absurd v.1 (by omega); exact v.2 q2))], fun _ _ _ => rfl⟩
      · skip
        refine z_iload_n dX4_neededWith_14 rfl ?_
        refine z_iload_n dX4_neededWith_15 rfl ?_
        refine z_icmp_gt (tgt := 31) dX4_neededWith_16 (by decide) ⟨by omega, by omega⟩ ⟨by omega, by omega⟩ (fun h16 => ?_) (fun h16 => ?_)
        · skip
          refine z_bipush (v := 100) dX4_neededWith_31 (by decide +kernel) ?_
          exact z_iret dX4_neededWith_33 ⟨by unfold nwP; rw [if_neg (by first | omega | (rintro ⟨q1, q2⟩; rcases hfit with v | v; exact absurd v.1 (by omega); exact v.2 q2))], fun _ _ _ => rfl⟩
        · skip
          refine z_aload_n dX4_neededWith_19 rfl ?_
          refine z_getR dX4_neededWith_20 gX4_15 rfl (Nat.le_of_ble_eq_true rfl) rfl ?_
          refine z_iload_n dX4_neededWith_23 rfl ?_
          refine z_iload_n dX4_neededWith_24 rfl ?_
          refine z_callVI (d := d + 2) (av := [_, _]) dX4_neededWith_25 vX4_75 rfl (Nat.le_of_ble_eq_true rfl) rfl rfl rfl (Nat.le_of_ble_eq_true rfl) (Nat.le_refl _) (c_X6_fitsAt hw (by omega) w16) (fun z25 σ25 h25 => ?_)
          obtain ⟨hs25, hfit⟩ := h25
          subst σ25
          refine z_if_ne (tgt := 34) dX4_neededWith_28 (by decide) ⟨by omega, by omega⟩ (fun h28 => ?_) (fun h28 => ?_)
          · skip
            refine z_aload_n dX4_neededWith_34 rfl ?_
            refine z_getR dX4_neededWith_35 gX4_15 rfl (Nat.le_of_ble_eq_true rfl) rfl ?_
            refine z_iload_n dX4_neededWith_38 rfl ?_
            refine z_iload dX4_neededWith_39 rfl ?_
            refine z_iload_n dX4_neededWith_41 rfl ?_
            refine z_iload_n dX4_neededWith_42 rfl ?_
            refine z_iload_n dX4_neededWith_43 rfl ?_
            refine z_isub dX4_neededWith_44 ?_
            refine z_callVI (d := d + 2) (av := [_, _, _, _]) dX4_neededWith_45 vX4_59 rfl (Nat.le_of_ble_eq_true rfl) rfl rfl rfl (Nat.le_of_ble_eq_true rfl) (Nat.le_refl _) (c_X6_passes (LF := LF) hW hw hf (by omega) (by omega)) (fun z45 σ45 h45 => ?_)
            obtain ⟨hps, hfr⟩ := h45
            refine z_if_ne (tgt := 64) dX4_neededWith_48 (by decide) ⟨by omega, by omega⟩ (fun h48 => ?_) (fun h48 => ?_)
            · skip
              refine z_iload_n dX4_neededWith_64 rfl ?_
              refine z_iload dX4_neededWith_65 rfl ?_
              refine z_icmp_ge (tgt := 85) dX4_neededWith_67 (by decide) ⟨by omega, by omega⟩ ⟨by omega, by omega⟩ (fun h67 => ?_) (fun h67 => ?_)
              · skip
                refine z_bipush (v := 100) dX4_neededWith_85 (by decide +kernel) ?_
                exact z_iret dX4_neededWith_87 ⟨by unfold nwP; rw [if_pos ⟨by omega, by rcases hfit with v | v; exact v.2; exact absurd v.1 (by omega)⟩, if_pos (by rcases hps with v | v; exact v.2; exact absurd v.1 (by omega)), if_neg (by first | (exact fun q => absurd q.1 (by omega)) | (exact fun q => h82 q.2))], hfr⟩
              · skip
                refine z_iload_n dX4_neededWith_70 rfl ?_
                refine z_aload dX4_neededWith_71 rfl ?_
                refine z_alen dX4_neededWith_73 rfl (Nat.le_of_ble_eq_true rfl) (Nat.le_of_ble_eq_true rfl) ?_
                refine z_icmp_ge (tgt := 85) dX4_neededWith_74 (by decide) ⟨by omega, by omega⟩ ⟨by omega, by omega⟩ (fun h74 => ?_) (fun h74 => ?_)
                · skip
                  refine z_bipush (v := 100) dX4_neededWith_85 (by decide +kernel) ?_
                  exact z_iret dX4_neededWith_87 ⟨by unfold nwP; rw [if_pos ⟨by omega, by rcases hfit with v | v; exact v.2; exact absurd v.1 (by omega)⟩, if_pos (by rcases hps with v | v; exact v.2; exact absurd v.1 (by omega)), if_neg (by first | (exact fun q => absurd q.1 (by omega)) | (exact fun q => h82 q.2))], hfr⟩
                · skip
                  refine z_aload dX4_neededWith_77 rfl ?_
                  refine z_iload_n dX4_neededWith_79 rfl ?_
                  refine z_iald dX4_neededWith_80 rfl (Nat.le_of_ble_eq_true rfl) (by omega) (fun hr80 => ?_)
                  rw [show σ45 10 c.toNat = X.getD c.toNat 0 by rw [hfr _ (by decide) (by decide)]; have := Seg.getD sX (show c.toNat < X.length by omega); rwa [Nat.zero_add] at this]
                  have hg := wok.getD hX (show c.toNat < X.length by omega)
                  refine z_iload_n dX4_neededWith_81 rfl ?_
                  refine z_icmp_eq (tgt := 88) dX4_neededWith_82 (by decide) ⟨by omega, by omega⟩ ⟨by omega, by omega⟩ (fun h82 => ?_) (fun h82 => ?_)
                  · skip
                    refine z_aload_n dX4_neededWith_88 rfl ?_
                    refine z_getR dX4_neededWith_89 gX4_31 rfl (Nat.le_of_ble_eq_true rfl) rfl ?_
                    refine z_iload_n dX4_neededWith_92 rfl ?_
                    refine z_iconst dX4_neededWith_93 ?_
                    refine z_iadd dX4_neededWith_94 ?_
                    refine z_aald dX4_neededWith_95 rfl (Or.inl rfl) (Nat.le_of_ble_eq_true rfl) (by omega) ?_
                    refine z_iload_n dX4_neededWith_96 rfl ?_
                    refine z_iconst dX4_neededWith_97 ?_
                    refine z_iadd dX4_neededWith_98 ?_
                    refine z_iald dX4_neededWith_99 (lay_needed _ (by omega)) (show 47 + (p + 1).toNat < 121 by omega) (by omega) (fun hr99 => ?_)
                    rw [show σ45 (47 + (p + 1).toNat) (c + 1).toNat = N (c + 1).toNat by rw [hfr _ (by omega) (by omega)]; exact hN (by omega) _ (by omega) (by omega)]
                    refine z_iconst dX4_neededWith_100 ?_
                    refine z_iadd dX4_neededWith_101 ?_
                    exact z_iret dX4_neededWith_102 ⟨by unfold nwP; rw [if_pos ⟨by omega, by rcases hfit with v | v; exact v.2; exact absurd v.1 (by omega)⟩, if_pos (by rcases hps with v | v; exact v.2; exact absurd v.1 (by omega)), if_pos ⟨by omega, h82⟩], hfr⟩
                  · skip
                    refine z_bipush (v := 100) dX4_neededWith_85 (by decide +kernel) ?_
                    exact z_iret dX4_neededWith_87 ⟨by unfold nwP; rw [if_pos ⟨by omega, by rcases hfit with v | v; exact v.2; exact absurd v.1 (by omega)⟩, if_pos (by rcases hps with v | v; exact v.2; exact absurd v.1 (by omega)), if_neg (by first | (exact fun q => absurd q.1 (by omega)) | (exact fun q => h82 q.2))], hfr⟩
            · skip
              refine z_aload_n dX4_neededWith_51 rfl ?_
              refine z_getR dX4_neededWith_52 gX4_31 rfl (Nat.le_of_ble_eq_true rfl) rfl ?_
              refine z_iload_n dX4_neededWith_55 rfl ?_
              refine z_iconst dX4_neededWith_56 ?_
              refine z_iadd dX4_neededWith_57 ?_
              refine z_aald dX4_neededWith_58 rfl (Or.inl rfl) (Nat.le_of_ble_eq_true rfl) (by omega) ?_
              refine z_iload_n dX4_neededWith_59 rfl ?_
              refine z_iald dX4_neededWith_60 (lay_needed _ (by omega)) (show 47 + (p + 1).toNat < 121 by omega) (by omega) (fun hr60 => ?_)
              rw [show σ45 (47 + (p + 1).toNat) c.toNat = N c.toNat by rw [hfr _ (by omega) (by omega)]; exact hN (by omega) _ (by omega) (by omega)]
              refine z_iconst dX4_neededWith_61 ?_
              refine z_iadd dX4_neededWith_62 ?_
              exact z_iret dX4_neededWith_63 ⟨by unfold nwP; rw [if_pos ⟨by omega, by rcases hfit with v | v; exact v.2; exact absurd v.1 (by omega)⟩, if_neg (by rcases hps with v | v; exact absurd v.1 (by omega); rw [v.2]; exact Bool.false_ne_true)], hfr⟩
          · skip
            refine z_bipush (v := 100) dX4_neededWith_31 (by decide +kernel) ?_
            exact z_iret dX4_neededWith_33 ⟨by unfold nwP; rw [if_neg (by first | omega | (rintro ⟨q1, q2⟩; rcases hfit with v | v; exact absurd v.1 (by omega); exact v.2 q2))], fun _ _ _ => rfl⟩
set_option maxRecDepth 20000 in
theorem l_X4_neededFrom {d : Nat} {σ : Sto} {LF : LFT} {p c f : Int} {X : List Int} {N : Nat → Int} (hW : WC LF σ) (hp : 0 ≤ p ∧ p ≤ 10) (hc : 0 ≤ c ∧ c ≤ p ∧ c ≤ X.length) (hx : X.length ≤ 10) (hX : wok X) (sX : Seg σ 10 0 X) (hf : -1 ≤ f ∧ f ≤ 9) (hNR : ∀ b, 0 ≤ N b ∧ N b ≤ 100) (hN : p < 10 → ∀ b : Nat, (b : Int) ≤ p + 1 → b ≤ X.length → σ (47 + (p + 1).toNat) b = N b) :
    ∀ (m : Nat) (τ : Sto) (w acc : Int), 0 ≤ w → w + m = σ 1 1 → (0 ≤ acc ∧ acc ≤ 100) → pK σ τ →
    Z (z_me cX4_neededFrom RX4 8 (some .int) (d + 4) (qI fun z σ' => z = mnF (fun w => nwP (pasC LF σ f) (σ 16) X p N c w) m w acc ∧ pK σ σ')) 20 [some (zR 6), some (zI p), some (zI c), some (zR 10), some (zI X.length), some (zI f), some (zI acc), some (zI w)] [] τ
  | 0, τ, w, acc, h0, hw, ha, hK => by
    have e1 : τ 1 = σ 1 := hK 1 (by decide) (by decide)
    have w1 := hW.1
    refine z_iload dX4_neededFrom_20 rfl ?_
    refine z_aload_n dX4_neededFrom_22 rfl ?_
    refine z_getR dX4_neededFrom_23 gX4_9 rfl (Nat.le_of_ble_eq_true rfl) rfl ?_
    refine z_getI dX4_neededFrom_26 gX4_65 rfl (Nat.le_of_ble_eq_true rfl) rfl (fun hr26 => ?_)
    try simp only [e1, z_rd, Nat.reduceEqDiff, ↓reduceIte, eq_self] at hr26 ⊢
    refine z_icmp_ge (tgt := 58) dX4_neededFrom_29 (by decide) ⟨by omega, by omega⟩ ⟨by omega, by omega⟩ (fun h29 => ?_) (fun h29 => ?_)
    · skip
      refine z_iload dX4_neededFrom_58 rfl ?_
      exact z_iret dX4_neededFrom_60 ⟨rfl, hK⟩
    · exfalso; omega
  | m + 1, τ, w, acc, h0, hw, ha, hK => by
    have e1 : τ 1 = σ 1 := hK 1 (by decide) (by decide)
    have w1 := hW.1
    have hnr := nwP_R (ps := pasC LF σ f) (S := σ 16) (X := X) (p := p) (c := c) (w := w) hNR
    refine z_iload dX4_neededFrom_20 rfl ?_
    refine z_aload_n dX4_neededFrom_22 rfl ?_
    refine z_getR dX4_neededFrom_23 gX4_9 rfl (Nat.le_of_ble_eq_true rfl) rfl ?_
    refine z_getI dX4_neededFrom_26 gX4_65 rfl (Nat.le_of_ble_eq_true rfl) rfl (fun hr26 => ?_)
    try simp only [e1, z_rd, Nat.reduceEqDiff, ↓reduceIte, eq_self] at hr26 ⊢
    refine z_icmp_ge (tgt := 58) dX4_neededFrom_29 (by decide) ⟨by omega, by omega⟩ ⟨by omega, by omega⟩ (fun h29 => ?_) (fun h29 => ?_)
    · exfalso; omega
    · skip
      refine z_iload dX4_neededFrom_32 rfl ?_
      refine z_aload_n dX4_neededFrom_34 rfl ?_
      refine z_iload dX4_neededFrom_35 rfl ?_
      refine z_iload_n dX4_neededFrom_37 rfl ?_
      refine z_iload_n dX4_neededFrom_38 rfl ?_
      refine z_aload_n dX4_neededFrom_39 rfl ?_
      refine z_iload dX4_neededFrom_40 rfl ?_
      refine z_iload dX4_neededFrom_42 rfl ?_
      refine z_callVI (d := d + 3) (av := [_, _, _, _, _, _]) dX4_neededFrom_44 vX4_71 rfl (Nat.le_of_ble_eq_true rfl) rfl rfl rfl (Nat.le_of_ble_eq_true rfl) (Nat.le_refl _) (c_X4_neededWith (LF := LF) (N := N) (hK.wc hW) (by omega) hp hc hx hX (Seg.row (hK 10 (by decide) (by decide)) sX) hf hNR (fun h b h1 h2 => by rw [hK _ (by omega) (by omega)]; exact hN h b h1 h2)) (fun z44 σ44 h44 => ?_)
      obtain ⟨rfl, hfr⟩ := h44
      rw [hK.ps, hK 16 (by decide) (by decide)]
      refine z_min dX4_neededFrom_47 mX4_46 ⟨by omega, by omega⟩ ⟨by omega, by omega⟩ (Nat.le_of_ble_eq_true rfl) (Nat.le_add_left _ _) ?_
      refine z_istore (L' := [_, _, _, _, _, _, _, _]) dX4_neededFrom_50 (Nat.le_of_ble_eq_true rfl) rfl rfl ?_
      refine z_iinc (L' := [_, _, _, _, _, _, _, _]) dX4_neededFrom_52 (Nat.le_of_ble_eq_true rfl) rfl rfl rfl ?_
      refine z_goto (tgt := 20) dX4_neededFrom_55 (by decide) ?_
      rw [mnF]
      exact l_X4_neededFrom hW hp hc hx hX sX hf hNR hN m _ (w + 1) _ (by omega) (by omega) (by omega) (hK.tr hfr)
set_option maxRecDepth 20000 in
theorem c_X4_neededFrom {d : Nat} {σ : Sto} {LF : LFT} {p c f : Int} {X : List Int} {N : Nat → Int} (hW : WC LF σ) (hp : 0 ≤ p ∧ p ≤ 10) (hc : 0 ≤ c ∧ c ≤ p ∧ c ≤ X.length) (hx : X.length ≤ 10) (hX : wok X) (sX : Seg σ 10 0 X) (hf : -1 ≤ f ∧ f ≤ 9) (hNR : ∀ b, 0 ≤ N b ∧ N b ≤ 100) (hN : p < 10 → ∀ b : Nat, (b : Int) ≤ p + 1 → b ≤ X.length → σ (47 + (p + 1).toNat) b = N b) :
    m_X4_neededFrom d [zR 6, zI p, zI c, zR 10, zI X.length, zI f] σ (qI fun z σ' => z = (if c = X.length ∧ 2 ≤ p then 0 else mnF (fun w => nwP (pasC LF σ f) (σ 16) X p N c w) (σ 1 1).toNat 0 100) ∧ pK σ σ') := by
  refine z_does (L := [some (zR 6), some (zI p), some (zI c), some (zR 10), some (zI X.length), some (zI f), none, none]) rfl (by decide +kernel) (Nat.le_of_ble_eq_true rfl) rfl ?_
  refine z_iload_n dX4_neededFrom_0 rfl ?_
  refine z_iload dX4_neededFrom_1 rfl ?_
  refine z_icmp_ne (tgt := 13) dX4_neededFrom_3 (by decide) ⟨by omega, by omega⟩ ⟨by omega, by omega⟩ (fun h3 => ?_) (fun h3 => ?_)
  · skip
    refine z_bipush (v := 100) dX4_neededFrom_13 (by decide +kernel) ?_
    refine z_istore (L' := [_, _, _, _, _, _, _, _]) dX4_neededFrom_15 (Nat.le_of_ble_eq_true rfl) rfl rfl ?_
    refine z_iconst dX4_neededFrom_17 ?_
    refine z_istore (L' := [_, _, _, _, _, _, _, _]) dX4_neededFrom_18 (Nat.le_of_ble_eq_true rfl) rfl rfl ?_
    rw [if_neg (by omega)]
    exact l_X4_neededFrom hW hp hc hx hX sX hf hNR hN (σ 1 1).toNat σ 0 100 (by omega) (by have := hW.1; omega) (by omega) (pK.rf σ)
  · skip
    refine z_iload_n dX4_neededFrom_6 rfl ?_
    refine z_iconst dX4_neededFrom_7 ?_
    refine z_icmp_lt (tgt := 13) dX4_neededFrom_8 (by decide) ⟨by omega, by omega⟩ ⟨by omega, by omega⟩ (fun h8 => ?_) (fun h8 => ?_)
    · skip
      refine z_bipush (v := 100) dX4_neededFrom_13 (by decide +kernel) ?_
      refine z_istore (L' := [_, _, _, _, _, _, _, _]) dX4_neededFrom_15 (Nat.le_of_ble_eq_true rfl) rfl rfl ?_
      refine z_iconst dX4_neededFrom_17 ?_
      refine z_istore (L' := [_, _, _, _, _, _, _, _]) dX4_neededFrom_18 (Nat.le_of_ble_eq_true rfl) rfl rfl ?_
      rw [if_neg (by omega)]
      exact l_X4_neededFrom hW hp hc hx hX sX hf hNR hN (σ 1 1).toNat σ 0 100 (by omega) (by have := hW.1; omega) (by omega) (pK.rf σ)
    · skip
      refine z_iconst dX4_neededFrom_11 ?_
      exact z_iret dX4_neededFrom_12 ⟨by rw [if_pos (by omega)], fun _ _ _ => rfl⟩
def fsF (f : Int → Int) (t : Int) : Nat → Int → Int
  | 0, _ => -2
  | m + 1, w => if f w = t then w else fsF f t m (w + 1)
theorem fsF_R {f : Int → Int} {t : Int} : ∀ (m : Nat) (w : Int), 0 ≤ w → fsF f t m w = -2 ∨ (0 ≤ fsF f t m w ∧ fsF f t m w < w + m)
  | 0, _, _ => Or.inl rfl
  | m + 1, w, h => by
    rw [fsF]
    split
    · exact Or.inr ⟨h, by omega⟩
    · rcases fsF_R m (w + 1) (by omega) (f := f) (t := t) with q | q
      · exact Or.inl q
      · exact Or.inr ⟨q.1, by omega⟩
theorem mnF_le {f : Int → Int} : ∀ (m : Nat) (w acc : Int), mnF f m w acc ≤ acc
  | 0, _, _ => Int.le_refl _
  | m + 1, w, acc => Int.le_trans (mnF_le m (w + 1) _) (by omega)
theorem fsF_mn {f : Int → Int} : ∀ (m : Nat) (w acc : Int), 0 ≤ w → mnF f m w acc < acc → 0 ≤ fsF f (mnF f m w acc) m w ∧ fsF f (mnF f m w acc) m w < w + m ∧ f (fsF f (mnF f m w acc) m w) = mnF f m w acc
  | 0, w, acc, h0, h => absurd h (by rw [mnF]; omega)
  | m + 1, w, acc, h0, h => by
    rw [mnF] at h ⊢
    rw [fsF]
    by_cases h1 : f w = mnF f m (w + 1) (min acc (f w))
    · rw [if_pos h1]
      exact ⟨h0, by omega, h1⟩
    · rw [if_neg h1]
      have h2 := mnF_le (f := f) m (w + 1) (min acc (f w))
      have h3 := fsF_mn (f := f) m (w + 1) (min acc (f w)) (by omega) (by omega)
      exact ⟨h3.1, by omega, h3.2.2⟩
set_option maxRecDepth 20000 in
theorem l_X4_firstStep {d : Nat} {σ : Sto} {LF : LFT} {p c f t : Int} {X : List Int} {N : Nat → Int} (hW : WC LF σ) (hp : 0 ≤ p ∧ p ≤ 10) (hc : 0 ≤ c ∧ c ≤ p ∧ c ≤ X.length) (hx : X.length ≤ 10) (hX : wok X) (sX : Seg σ 10 0 X) (hf : -1 ≤ f ∧ f ≤ 9) (hNR : ∀ b, 0 ≤ N b ∧ N b ≤ 100) (hN : p < 10 → ∀ b : Nat, (b : Int) ≤ p + 1 → b ≤ X.length → σ (47 + (p + 1).toNat) b = N b) (ht : σ (47 + p.toNat) c.toNat = t) (htr : inR t) :
    ∀ (m : Nat) (τ : Sto) (w : Int), 0 ≤ w → w + m = σ 1 1 → pK σ τ →
    Z (z_me cX4_firstStep RX4 7 (some .int) (d + 4) (qI fun z σ' => z = fsF (fun w => nwP (pasC LF σ f) (σ 16) X p N c w) t m w ∧ pK σ σ')) 26 [some (zR 6), some (zI p), some (zI c), some (zR 10), some (zI X.length), some (zI f), some (zI w)] [] τ
  | 0, τ, w, h0, hw, hK => by
    have e1 : τ 1 = σ 1 := hK 1 (by decide) (by decide)
    have w1 := hW.1
    refine z_iload dX4_firstStep_26 rfl ?_
    refine z_aload_n dX4_firstStep_28 rfl ?_
    refine z_getR dX4_firstStep_29 gX4_9 rfl (Nat.le_of_ble_eq_true rfl) rfl ?_
    refine z_getI dX4_firstStep_32 gX4_65 rfl (Nat.le_of_ble_eq_true rfl) rfl (fun hr32 => ?_)
    try simp only [e1, z_rd, Nat.reduceEqDiff, ↓reduceIte, eq_self] at hr32 ⊢
    refine z_icmp_ge (tgt := 71) dX4_firstStep_35 (by decide) ⟨by omega, by omega⟩ ⟨by omega, by omega⟩ (fun h35 => ?_) (fun h35 => ?_)
    · skip
      refine z_bipush (v := -2) dX4_firstStep_71 (by decide +kernel) ?_
      exact z_iret dX4_firstStep_73 ⟨rfl, hK⟩
    · exfalso; omega
  | m + 1, τ, w, h0, hw, hK => by
    have e1 : τ 1 = σ 1 := hK 1 (by decide) (by decide)
    have w1 := hW.1
    have hnr := nwP_R (ps := pasC LF σ f) (S := σ 16) (X := X) (p := p) (c := c) (w := w) hNR
    refine z_iload dX4_firstStep_26 rfl ?_
    refine z_aload_n dX4_firstStep_28 rfl ?_
    refine z_getR dX4_firstStep_29 gX4_9 rfl (Nat.le_of_ble_eq_true rfl) rfl ?_
    refine z_getI dX4_firstStep_32 gX4_65 rfl (Nat.le_of_ble_eq_true rfl) rfl (fun hr32 => ?_)
    try simp only [e1, z_rd, Nat.reduceEqDiff, ↓reduceIte, eq_self] at hr32 ⊢
    refine z_icmp_ge (tgt := 71) dX4_firstStep_35 (by decide) ⟨by omega, by omega⟩ ⟨by omega, by omega⟩ (fun h35 => ?_) (fun h35 => ?_)
    · exfalso; omega
    · skip
      refine z_aload_n dX4_firstStep_38 rfl ?_
      refine z_iload dX4_firstStep_39 rfl ?_
      refine z_iload_n dX4_firstStep_41 rfl ?_
      refine z_iload_n dX4_firstStep_42 rfl ?_
      refine z_aload_n dX4_firstStep_43 rfl ?_
      refine z_iload dX4_firstStep_44 rfl ?_
      refine z_iload dX4_firstStep_46 rfl ?_
      refine z_callVI (d := d + 3) (av := [_, _, _, _, _, _]) dX4_firstStep_48 vX4_71 rfl (Nat.le_of_ble_eq_true rfl) rfl rfl rfl (Nat.le_of_ble_eq_true rfl) (Nat.le_refl _) (c_X4_neededWith (LF := LF) (N := N) (hK.wc hW) (by omega) hp hc hx hX (Seg.row (hK 10 (by decide) (by decide)) sX) hf hNR (fun h b h1 h2 => by rw [hK _ (by omega) (by omega)]; exact hN h b h1 h2)) (fun z48 σ48 h48 => ?_)
      obtain ⟨rfl, hfr⟩ := h48
      rw [hK.ps, hK 16 (by decide) (by decide)]
      refine z_aload_n dX4_firstStep_51 rfl ?_
      refine z_getR dX4_firstStep_52 gX4_31 rfl (Nat.le_of_ble_eq_true rfl) rfl ?_
      refine z_iload_n dX4_firstStep_55 rfl ?_
      refine z_aald dX4_firstStep_56 rfl (Or.inl rfl) (Nat.le_of_ble_eq_true rfl) (by omega) ?_
      refine z_iload_n dX4_firstStep_57 rfl ?_
      refine z_iald dX4_firstStep_58 (lay_needed _ (by omega)) (show 47 + p.toNat < 121 by omega) (by omega) (fun hr58 => ?_)
      try simp only [e1, z_rd, Nat.reduceEqDiff, ↓reduceIte, eq_self] at hr58 ⊢
      rw [show σ48 (47 + p.toNat) c.toNat = t by rw [hfr _ (by omega) (by omega), hK _ (by omega) (by omega)]; exact ht]
      refine z_icmp_ne (tgt := 65) dX4_firstStep_59 (by decide) ⟨by omega, by omega⟩ ⟨by omega, by omega⟩ (fun h59 => ?_) (fun h59 => ?_)
      · skip
        refine z_iinc (L' := [_, _, _, _, _, _, _]) dX4_firstStep_65 (Nat.le_of_ble_eq_true rfl) rfl rfl rfl ?_
        refine z_goto (tgt := 26) dX4_firstStep_68 (by decide) ?_
        rw [fsF, if_neg h59]
        exact l_X4_firstStep hW hp hc hx hX sX hf hNR hN ht htr m _ (w + 1) (by omega) (by omega) (hK.tr hfr)
      · skip
        refine z_iload dX4_firstStep_62 rfl ?_
        exact z_iret dX4_firstStep_64 ⟨by rw [fsF, if_pos h59], hK.tr hfr⟩
set_option maxRecDepth 20000 in
theorem c_X4_firstStep {d : Nat} {σ : Sto} {LF : LFT} {p c f t : Int} {X : List Int} {N : Nat → Int} (hW : WC LF σ) (hp : 0 ≤ p ∧ p ≤ 10) (hc : 0 ≤ c ∧ c ≤ p ∧ c ≤ X.length) (hx : X.length ≤ 10) (hX : wok X) (sX : Seg σ 10 0 X) (hf : -1 ≤ f ∧ f ≤ 9) (hNR : ∀ b, 0 ≤ N b ∧ N b ≤ 100) (hN : p < 10 → ∀ b : Nat, (b : Int) ≤ p + 1 → b ≤ X.length → σ (47 + (p + 1).toNat) b = N b) (ht : σ (47 + p.toNat) c.toNat = t) (htr : inR t) :
    m_X4_firstStep d [zR 6, zI p, zI c, zR 10, zI X.length, zI f] σ (qI fun z σ' => z = fsF (fun w => nwP (pasC LF σ f) (σ 16) X p N c w) t (σ 1 1).toNat 0 ∧ pK σ σ') := by
  refine z_does (L := [some (zR 6), some (zI p), some (zI c), some (zR 10), some (zI X.length), some (zI f), none]) rfl (by decide +kernel) (Nat.le_of_ble_eq_true rfl) rfl ?_
  refine z_iload_n dX4_firstStep_0 rfl ?_
  refine z_if_lt (tgt := 20) dX4_firstStep_1 (by decide) ⟨by omega, by omega⟩ (fun h1 => ?_) (fun h1 => ?_)
  · first
    | exfalso; omega
    | skip
      refine z_bipush (v := -2) dX4_firstStep_20 (by decide +kernel) ?_
      exact z_iret dX4_firstStep_22 (by first | exact ⟨rfl, rfl⟩ | exact ⟨by omega, rfl⟩)
  · first
    | exfalso; omega
    | skip
      refine z_iload_n dX4_firstStep_4 rfl ?_
      refine z_bipush (v := 10) dX4_firstStep_5 (by decide +kernel) ?_
      refine z_icmp_gt (tgt := 20) dX4_firstStep_7 (by decide) ⟨by omega, by omega⟩ ⟨by omega, by omega⟩ (fun h7 => ?_) (fun h7 => ?_)
      · first
        | exfalso; omega
        | skip
          refine z_bipush (v := -2) dX4_firstStep_20 (by decide +kernel) ?_
          exact z_iret dX4_firstStep_22 (by first | exact ⟨rfl, rfl⟩ | exact ⟨by omega, rfl⟩)
      · first
        | exfalso; omega
        | skip
          refine z_iload_n dX4_firstStep_10 rfl ?_
          refine z_if_lt (tgt := 20) dX4_firstStep_11 (by decide) ⟨by omega, by omega⟩ (fun h11 => ?_) (fun h11 => ?_)
          · first
            | exfalso; omega
            | skip
              refine z_bipush (v := -2) dX4_firstStep_20 (by decide +kernel) ?_
              exact z_iret dX4_firstStep_22 (by first | exact ⟨rfl, rfl⟩ | exact ⟨by omega, rfl⟩)
          · first
            | exfalso; omega
            | skip
              refine z_iload_n dX4_firstStep_14 rfl ?_
              refine z_bipush (v := 10) dX4_firstStep_15 (by decide +kernel) ?_
              refine z_icmp_le (tgt := 23) dX4_firstStep_17 (by decide) ⟨by omega, by omega⟩ ⟨by omega, by omega⟩ (fun h17 => ?_) (fun h17 => ?_)
              · first
                | exfalso; omega
                | skip
                  refine z_iconst dX4_firstStep_23 ?_
                  refine z_istore (L' := [_, _, _, _, _, _, _]) dX4_firstStep_24 (Nat.le_of_ble_eq_true rfl) rfl rfl ?_
                  exact l_X4_firstStep hW hp hc hx hX sX hf hNR hN ht htr (σ 1 1).toNat σ 0 (by omega) (by have := hW.1; omega) (pK.rf σ)
              · first
                | exfalso; omega
                | skip
                  refine z_bipush (v := -2) dX4_firstStep_20 (by decide +kernel) ?_
                  exact z_iret dX4_firstStep_22 (by first | exact ⟨rfl, rfl⟩ | exact ⟨by omega, rfl⟩)
/-- the words from place p on (r of them), when c have come -/
def spL (ps : Int → Int → Int → Bool) (S : Nat → Int) (X : List Int) (wn : Nat) : Nat → Int → Int → List Int
  | 0, _, _ => []
  | r + 1, p, c =>
    let w := fsF (fun w => nwP ps S X p (fun b => ndA ps S X wn (p + 1) b) c w) (ndA ps S X wn p c) wn 0
    w :: spL ps S X wn r (p + 1) (if ps w p (p - c) = true then c + 1 else c)
/-- the table as far as it is worked out -/
def ndI (τ : Sto) (ps : Int → Int → Int → Bool) (S : Nat → Int) (X : List Int) (wn : Nat) (p c : Int) : Prop := ∀ a b : Nat, a ≤ 10 → b ≤ a → b ≤ X.length → (p < a ∨ (p = a ∧ c < b)) → τ (47 + a) b = ndA ps S X wn a b
def ssK (σ τ : Sto) : Prop := ∀ a, a ≠ 28 → a ≠ 29 → a ≠ 43 → (a < 47 ∨ 57 < a) → τ a = σ a
theorem ssK.wc {LF : LFT} {σ τ : Sto} (h : ssK σ τ) (hW : WC LF σ) : WC LF τ := hW.keep (h 1 (by decide) (by decide) (by decide) (by decide)) (h 3 (by decide) (by decide) (by decide) (by decide)) (h 27 (by decide) (by decide) (by decide) (by decide)) (fun a h1 h2 => h a (by omega) (by omega) (by omega) (by omega))
theorem ssK.ps {LF : LFT} {σ τ : Sto} {f : Int} (h : ssK σ τ) : pasC LF τ f = pasC LF σ f := pas_cong (h 3 (by decide) (by decide) (by decide) (by decide)) (h 13 (by decide) (by decide) (by decide) (by decide)) (h 14 (by decide) (by decide) (by decide) (by decide)) (h 15 (by decide) (by decide) (by decide) (by decide)) (h 20 (by decide) (by decide) (by decide) (by decide))
theorem ssK.tr {σ τ υ : Sto} (h : ssK σ τ) (h2 : pK τ υ) : ssK σ υ := fun a h3 h4 h5 h6 => by rw [h2 a h3 h4]; exact h a h3 h4 h5 h6
theorem ssK.put {σ τ : Sto} {k j : Nat} {x : Int} (h : ssK σ τ) (hk : k = 43 ∨ (47 ≤ k ∧ k ≤ 57)) : ssK σ (z_put τ k j x) := fun a h3 h4 h5 h6 => by rw [z_put_ne (by omega)]; exact h a h3 h4 h5 h6
set_option maxRecDepth 20000 in
theorem l_X4_short2 {d : Nat} {σ : Sto} {LF : LFT} {p f : Int} {X : List Int} (hW : WC LF σ) (hp : 0 ≤ p ∧ p ≤ 10) (hx : X.length ≤ 10) (hX : wok X) (sX : Seg σ 10 0 X) (hf : -1 ≤ f ∧ f ≤ 9) {Q : Option Value → Sto → Prop}
    (kk : ∀ τ : Sto, ssK σ τ → ndI τ (pasC LF σ f) (σ 16) X (σ 1 1).toNat (p - 1) 100 → Z (z_me cX4_shortestSaying RX4 8 (some .int) (d + 5) Q) 64 [some (zR 6), some (zR 10), some (zI X.length), some (zI f), some (zI p), some (zI (-1)), none, none] [] τ) :
    ∀ (m : Nat) (τ : Sto) (c : Int), c + 1 = m → c ≤ p → c ≤ X.length → ssK σ τ → ndI τ (pasC LF σ f) (σ 16) X (σ 1 1).toNat p c →
    Z (z_me cX4_shortestSaying RX4 8 (some .int) (d + 5) Q) 32 [some (zR 6), some (zR 10), some (zI X.length), some (zI f), some (zI p), some (zI c), none, none] [] τ
  | 0, τ, c, hm, hc, hc2, hK, hI => by
    obtain rfl : c = -1 := by omega
    refine z_iload dX4_shortestSaying_32 rfl ?_
    refine z_if_lt (tgt := 64) dX4_shortestSaying_34 (by decide) ⟨by omega, by omega⟩ (fun h34 => ?_) (fun h34 => ?_)
    · skip
      exact kk τ hK (fun a b h1 h2 h3 h4 => hI a b h1 h2 h3 (by omega))
    · exfalso; omega
  | m + 1, τ, c, hm, hc, hc2, hK, hI => by
    have hr := ndF_R (ps := pasC LF σ f) (S := σ 16) (X := X) (wn := (σ 1 1).toNat) (10 - p).toNat c.toNat
    have er := ndA_eq (ps := pasC LF σ f) (S := σ 16) (X := X) (wn := (σ 1 1).toNat) hp (show 0 ≤ c by omega)
    refine z_iload dX4_shortestSaying_32 rfl ?_
    refine z_if_lt (tgt := 64) dX4_shortestSaying_34 (by decide) ⟨by omega, by omega⟩ (fun h34 => ?_) (fun h34 => ?_)
    · exfalso; omega
    · skip
      refine z_aload_n dX4_shortestSaying_37 rfl ?_
      refine z_getR dX4_shortestSaying_38 gX4_31 rfl (Nat.le_of_ble_eq_true rfl) rfl ?_
      refine z_iload dX4_shortestSaying_41 rfl ?_
      refine z_aald dX4_shortestSaying_43 rfl (Or.inl rfl) (Nat.le_of_ble_eq_true rfl) (by omega) ?_
      refine z_iload dX4_shortestSaying_44 rfl ?_
      refine z_aload_n dX4_shortestSaying_46 rfl ?_
      refine z_iload dX4_shortestSaying_47 rfl ?_
      refine z_iload dX4_shortestSaying_49 rfl ?_
      refine z_aload_n dX4_shortestSaying_51 rfl ?_
      refine z_iload_n dX4_shortestSaying_52 rfl ?_
      refine z_iload_n dX4_shortestSaying_53 rfl ?_
      refine z_callVI (d := d + 4) (av := [_, _, _, _, _]) dX4_shortestSaying_54 vX4_52 rfl (Nat.le_of_ble_eq_true rfl) rfl rfl rfl (Nat.le_of_ble_eq_true rfl) (Nat.le_refl _) (c_X4_neededFrom (LF := LF) (N := fun b => ndA (pasC LF σ f) (σ 16) X (σ 1 1).toNat (p + 1) b) (hK.wc hW) hp (by omega) hx hX (Seg.row (hK 10 (by decide) (by decide) (by decide) (by decide)) sX) hf (fun b => ndF_R _ _) (fun h b h1 h2 => by have := hI (p + 1).toNat b (by omega) (by omega) h2 (by omega); rw [this, show (((p + 1).toNat : Nat) : Int) = p + 1 by omega])) (fun z54 σ54 h54 => ?_)
      obtain ⟨rfl, hfr⟩ := h54
      rw [hK.ps, hK 16 (by decide) (by decide) (by decide) (by decide), hK 1 (by decide) (by decide) (by decide) (by decide), ← er]
      refine z_iast dX4_shortestSaying_57 (lay_needed _ (by omega)) (show 47 + p.toNat < 121 by omega) (by omega) (show inR (ndF _ _ _ _ _ _) from ⟨by omega, by omega⟩) ?_
      refine z_iinc (L' := [_, _, _, _, _, _, _, _]) dX4_shortestSaying_58 (Nat.le_of_ble_eq_true rfl) rfl rfl rfl ?_
      refine z_goto (tgt := 32) dX4_shortestSaying_61 (by decide) ?_
      refine l_X4_short2 hW hp hx hX sX hf kk m _ (c + -1) (by omega) (by omega) (by omega) ((hK.tr hfr).put (by omega)) (fun a b h1 h2 h3 h4 => ?_)
      rw [z_rd]
      by_cases g : 47 + a = 47 + p.toNat ∧ b = c.toNat
      · rw [if_pos g.1, if_pos g.2, show (a : Int) = p by omega, show (b : Int) = c by omega]
      · have : (if 47 + a = 47 + p.toNat then (if b = c.toNat then ndA (pasC LF σ f) (σ 16) X (σ 1 1).toNat p c else σ54 (47 + a) b) else σ54 (47 + a) b) = σ54 (47 + a) b := by grind
        rw [this, hfr _ (by omega) (by omega)]
        exact hI a b h1 h2 h3 (by omega)
set_option maxRecDepth 20000 in
theorem l_X4_short1 {d : Nat} {σ : Sto} {LF : LFT} {f : Int} {X : List Int} (hW : WC LF σ) (hx : X.length ≤ 10) (hX : wok X) (sX : Seg σ 10 0 X) (hf : -1 ≤ f ∧ f ≤ 9) {Q : Option Value → Sto → Prop}
    (kk : ∀ τ : Sto, ssK σ τ → ndI τ (pasC LF σ f) (σ 16) X (σ 1 1).toNat (-1) 100 → Z (z_me cX4_shortestSaying RX4 8 (some .int) (d + 5) Q) 70 [some (zR 6), some (zR 10), some (zI X.length), some (zI f), none, none, none, none] [] τ) :
    ∀ (m : Nat) (τ : Sto) (p : Int), p + 1 = m → p ≤ 10 → ssK σ τ → ndI τ (pasC LF σ f) (σ 16) X (σ 1 1).toNat p 100 →
    Z (z_me cX4_shortestSaying RX4 8 (some .int) (d + 5) Q) 19 [some (zR 6), some (zR 10), some (zI X.length), some (zI f), some (zI p), none, none, none] [] τ
  | 0, τ, p, hm, hp, hK, hI => by
    obtain rfl : p = -1 := by omega
    refine z_iload dX4_shortestSaying_19 rfl ?_
    refine z_if_lt (tgt := 70) dX4_shortestSaying_21 (by decide) ⟨by omega, by omega⟩ (fun h21 => ?_) (fun h21 => ?_)
    · skip
      refine z_forget [true, true, true, true, false, false, false, false] (L' := [_, _, _, _, _, _, _, _]) rfl ?_
      exact kk τ hK hI
    · exfalso; omega
  | m + 1, τ, p, hm, hp, hK, hI => by
    refine z_iload dX4_shortestSaying_19 rfl ?_
    refine z_if_lt (tgt := 70) dX4_shortestSaying_21 (by decide) ⟨by omega, by omega⟩ (fun h21 => ?_) (fun h21 => ?_)
    · exfalso; omega
    · skip
      refine z_iload dX4_shortestSaying_24 rfl ?_
      refine z_iload_n dX4_shortestSaying_26 rfl ?_
      refine z_min dX4_shortestSaying_27 mX4_46 ⟨by omega, by omega⟩ ⟨by omega, by omega⟩ (Nat.le_of_ble_eq_true rfl) (Nat.le_add_left _ _) ?_
      refine z_istore (L' := [_, _, _, _, _, _, _, _]) dX4_shortestSaying_30 (Nat.le_of_ble_eq_true rfl) rfl rfl ?_
      refine l_X4_short2 hW (by omega) hx hX sX hf (fun τ' g1 g2 => ?_) ((min p X.length).toNat + 1) τ (min p X.length) (by omega) (by omega) (by omega) hK (fun a b h1 h2 h3 h4 => hI a b h1 h2 h3 (by omega))
      refine z_iinc (L' := [_, _, _, _, _, _, _, _]) dX4_shortestSaying_64 (Nat.le_of_ble_eq_true rfl) rfl rfl rfl ?_
      refine z_goto (tgt := 19) dX4_shortestSaying_67 (by decide) ?_
      refine z_forget [true, true, true, true, true, false, false, false] (L' := [_, _, _, _, _, _, _, _]) rfl ?_
      exact l_X4_short1 hW hx hX sX hf kk m τ' (p + -1) (by omega) (by omega) g1 (by rw [show p + -1 = p - 1 from rfl]; exact g2)
/-- at place p with c come the rest has as many words as it is told -/
theorem nd_step {ps : Int → Int → Int → Bool} {S : Nat → Int} {X : List Int} {wn : Nat} {p c w : Int} (hp : 0 ≤ p ∧ p ≤ 10) (hc : 0 ≤ c ∧ c ≤ p ∧ c ≤ X.length) (h0 : 0 < ndA ps S X wn p c) (h1 : ndA ps S X wn p c < 100)
    (hw : w = fsF (fun w => nwP ps S X p (fun b => ndA ps S X wn (p + 1) b) c w) (ndA ps S X wn p c) wn 0) :
    (0 ≤ w ∧ w < wn) ∧ p < 10 ∧ (ps w p (p - c) = true → c < X.length ∧ ndA ps S X wn (p + 1) (c + 1) = ndA ps S X wn p c - 1) ∧ (ps w p (p - c) = false → ndA ps S X wn (p + 1) c = ndA ps S X wn p c - 1) := by
  have e := ndA_eq (ps := ps) (S := S) (X := X) (wn := wn) hp hc.1
  have hn : ¬ (c = X.length ∧ 2 ≤ p) := fun q => by rw [if_pos q] at e; omega
  rw [if_neg hn] at e
  have hm := fsF_mn (f := fun w => nwP ps S X p (fun b => ndA ps S X wn (p + 1) b) c w) wn 0 100 (by omega) (by rw [← e]; exact h1)
  rw [← e, ← hw] at hm
  obtain ⟨m1, m2, m3⟩ := hm
  have m3 : nwP ps S X p (fun b => ndA ps S X wn (p + 1) b) c w = ndA ps S X wn p c := m3
  unfold nwP at m3
  by_cases g1 : p < 10 ∧ S w.toNat = min p 2
  · rw [if_pos g1] at m3
    refine ⟨⟨m1, by omega⟩, g1.1, fun q => ?_, fun q => ?_⟩
    · rw [if_pos q] at m3
      by_cases g2 : c < X.length ∧ X.getD c.toNat 0 = w
      · rw [if_pos g2] at m3
        refine ⟨g2.1, ?_⟩
        have : ndA ps S X wn (p + 1) ((c + 1).toNat : Nat) + 1 = ndA ps S X wn p c := m3
        rw [show (((c + 1).toNat : Nat) : Int) = c + 1 by omega] at this
        omega
      · rw [if_neg g2] at m3
        omega
    · rw [if_neg (by rw [q]; exact Bool.false_ne_true)] at m3
      have : ndA ps S X wn (p + 1) (c.toNat : Nat) + 1 = ndA ps S X wn p c := m3
      rw [show ((c.toNat : Nat) : Int) = c by omega] at this
      omega
  · rw [if_neg g1] at m3
    omega
set_option maxRecDepth 20000 in
theorem l_X4_short3 {d : Nat} {σ : Sto} {LF : LFT} {f L : Int} {X : List Int} (hW : WC LF σ) (hx : X.length ≤ 10) (hX : wok X) (sX : Seg σ 10 0 X) (hf : -1 ≤ f ∧ f ≤ 9) (hL : L < 100) :
    ∀ (m : Nat) (τ : Sto) (P : List Int) (p c : Int), p + m = L → p = P.length → (0 ≤ c ∧ c ≤ p ∧ c ≤ X.length) → p ≤ 10 → ndA (pasC LF σ f) (σ 16) X (σ 1 1).toNat p c = L - p → ssK σ τ → ndI τ (pasC LF σ f) (σ 16) X (σ 1 1).toNat (-1) 100 → Seg τ 43 0 P →
    Z (z_me cX4_shortestSaying RX4 8 (some .int) (d + 5) (qI fun z σ' => z = L ∧ ssK σ σ' ∧ Seg σ' 43 0 (P ++ spL (pasC LF σ f) (σ 16) X (σ 1 1).toNat m p c))) 96 [some (zR 6), some (zR 10), some (zI X.length), some (zI f), some (zI L), some (zI c), some (zI p), none] [] τ
  | 0, τ, P, p, c, hm, hpP, hc, hp, hnd, hK, hI, sP => by
    refine z_iload dX4_shortestSaying_96 rfl ?_
    refine z_iload dX4_shortestSaying_98 rfl ?_
    refine z_icmp_ge (tgt := 161) dX4_shortestSaying_100 (by decide) ⟨by omega, by omega⟩ ⟨by omega, by omega⟩ (fun h100 => ?_) (fun h100 => ?_)
    · skip
      refine z_iload dX4_shortestSaying_161 rfl ?_
      exact z_iret dX4_shortestSaying_163 ⟨rfl, hK, by rw [spL, List.append_nil]; exact sP⟩
    · exfalso; omega
  | m + 1, τ, P, p, c, hm, hpP, hc, hp, hnd, hK, hI, sP => by
    obtain ⟨w, hw⟩ : ∃ w, w = fsF (fun w => nwP (pasC LF σ f) (σ 16) X p (fun b => ndA (pasC LF σ f) (σ 16) X (σ 1 1).toNat (p + 1) b) c w) (ndA (pasC LF σ f) (σ 16) X (σ 1 1).toNat p c) (σ 1 1).toNat 0 := ⟨_, rfl⟩
    have hs := nd_step (ps := pasC LF σ f) (S := σ 16) (X := X) (wn := (σ 1 1).toNat) (p := p) (c := c) (w := w) (by omega) hc (by omega) (by omega) hw
    have w1 := hW.1
    have hsp : spL (pasC LF σ f) (σ 16) X (σ 1 1).toNat (m + 1) p c = w :: spL (pasC LF σ f) (σ 16) X (σ 1 1).toNat m (p + 1) (if pasC LF σ f w p (p - c) = true then c + 1 else c) := by rw [hw]; rfl
    have htab : τ (47 + p.toNat) c.toNat = ndA (pasC LF σ f) (σ 16) X (σ 1 1).toNat p c := by have := hI p.toNat c.toNat (by omega) (by omega) (by omega) (by omega); rwa [show ((p.toNat : Nat) : Int) = p by omega, show ((c.toNat : Nat) : Int) = c by omega] at this
    refine z_iload dX4_shortestSaying_96 rfl ?_
    refine z_iload dX4_shortestSaying_98 rfl ?_
    refine z_icmp_ge (tgt := 161) dX4_shortestSaying_100 (by decide) ⟨by omega, by omega⟩ ⟨by omega, by omega⟩ (fun h100 => ?_) (fun h100 => ?_)
    · exfalso; omega
    · skip
      refine z_iload dX4_shortestSaying_103 rfl ?_
      refine z_bipush (v := 10) dX4_shortestSaying_105 (by decide +kernel) ?_
      refine z_icmp_ge (tgt := 161) dX4_shortestSaying_107 (by decide) ⟨by omega, by omega⟩ ⟨by omega, by omega⟩ (fun h107 => ?_) (fun h107 => ?_)
      · exfalso; omega
      · skip
        refine z_aload_n dX4_shortestSaying_110 rfl ?_
        refine z_iload dX4_shortestSaying_111 rfl ?_
        refine z_iload dX4_shortestSaying_113 rfl ?_
        refine z_aload_n dX4_shortestSaying_115 rfl ?_
        refine z_iload_n dX4_shortestSaying_116 rfl ?_
        refine z_iload_n dX4_shortestSaying_117 rfl ?_
        refine z_callVI (d := d + 4) (av := [_, _, _, _, _]) dX4_shortestSaying_118 vX4_56 rfl (Nat.le_of_ble_eq_true rfl) rfl rfl rfl (Nat.le_of_ble_eq_true rfl) (Nat.le_refl _) (c_X4_firstStep (LF := LF) (N := fun b => ndA (pasC LF σ f) (σ 16) X (σ 1 1).toNat (p + 1) b) (hK.wc hW) (by omega) hc hx hX (Seg.row (hK 10 (by decide) (by decide) (by decide) (by decide)) sX) hf (fun b => ndF_R _ _) (fun h b h1 h2 => by have := hI (p + 1).toNat b (by omega) (by omega) h2 (by omega); rw [this, show (((p + 1).toNat : Nat) : Int) = p + 1 by omega]) htab (by omega)) (fun z118 σ118 h118 => ?_)
        obtain ⟨hz, hfr⟩ := h118
        rw [hK.ps, hK 16 (by decide) (by decide) (by decide) (by decide), hK 1 (by decide) (by decide) (by decide) (by decide), ← hw] at hz
        subst hz
        refine z_istore (L' := [_, _, _, _, _, _, _, _]) dX4_shortestSaying_121 (Nat.le_of_ble_eq_true rfl) rfl rfl ?_
        refine z_aload_n dX4_shortestSaying_123 rfl ?_
        refine z_getR dX4_shortestSaying_124 gX4_19 rfl (Nat.le_of_ble_eq_true rfl) rfl ?_
        refine z_iload dX4_shortestSaying_127 rfl ?_
        refine z_iload dX4_shortestSaying_129 rfl ?_
        refine z_iast dX4_shortestSaying_131 rfl (Nat.le_of_ble_eq_true rfl) (by omega) ⟨by omega, by omega⟩ ?_
        refine z_aload_n dX4_shortestSaying_132 rfl ?_
        refine z_getR dX4_shortestSaying_133 gX4_15 rfl (Nat.le_of_ble_eq_true rfl) rfl ?_
        refine z_iload dX4_shortestSaying_136 rfl ?_
        refine z_iload_n dX4_shortestSaying_138 rfl ?_
        refine z_iload dX4_shortestSaying_139 rfl ?_
        refine z_iload dX4_shortestSaying_141 rfl ?_
        refine z_iload dX4_shortestSaying_143 rfl ?_
        refine z_isub dX4_shortestSaying_145 ?_
        refine z_callVI (d := d + 4) (av := [_, _, _, _]) dX4_shortestSaying_146 vX4_59 rfl (Nat.le_of_ble_eq_true rfl) rfl rfl rfl (Nat.le_of_ble_eq_true rfl) (Nat.le_refl _) (c_X6_passes (LF := LF) (((hK.tr hfr).put (Or.inl rfl)).wc hW) (by omega) hf (by omega) (by omega)) (fun z146 σ146 h146 => ?_)
        obtain ⟨hps, hfr2⟩ := h146
        rw [((hK.tr hfr).put (Or.inl rfl)).ps] at hps
        have hK2 := ((hK.tr hfr).put (Or.inl rfl)).tr hfr2
        refine z_if_eq (tgt := 155) dX4_shortestSaying_149 (by decide) ⟨by omega, by omega⟩ (fun h149 => ?_) (fun h149 => ?_)
        · skip
          refine z_iinc (L' := [_, _, _, _, _, _, _, _]) dX4_shortestSaying_155 (Nat.le_of_ble_eq_true rfl) rfl rfl rfl ?_
          refine z_goto (tgt := 96) dX4_shortestSaying_158 (by decide) ?_
          refine z_forget [true, true, true, true, true, true, true, false] (L' := [_, _, _, _, _, _, _, _]) rfl ?_
          rw [hsp]
          have hI2 : ndI σ146 (pasC LF σ f) (σ 16) X (σ 1 1).toNat (-1) 100 := fun a b h1 h2 h3 h4 => by rw [hfr2 _ (by omega) (by omega), z_put_ne (by omega), hfr _ (by omega) (by omega)]; exact hI a b h1 h2 h3 h4
          have sP2 : Seg σ146 43 0 (P ++ [z118]) := Seg.row (hfr2 43 (by decide) (by decide)) (by rw [show p.toNat = P.length by omega]; exact Seg.put (Seg.row (hfr 43 (by decide) (by decide)) sP))
          rcases hps with ⟨q1, q2⟩ | ⟨q1, q2⟩
          · first
              | exfalso; omega
              | have h3 := hs.2.2.1 q2
                rw [if_pos q2]
                refine Z.mono (l_X4_short3 hW hx hX sX hf hL m _ (P ++ [z118]) (p + 1) (c + 1) (by omega) (by rw [List.length_append]; simp only [List.length_cons, List.length_nil]; omega) (by omega) (by omega) (by omega) hK2 hI2 sP2) ?_
                rintro r2 σ' ⟨z, hr2, q3, q4, q5⟩
                simp only [List.append_assoc, List.cons_append, List.nil_append] at q5
                exact ⟨z, hr2, q3, q4, q5⟩
          · first
              | exfalso; omega
              | have h3 := hs.2.2.2 q2
                rw [if_neg (by rw [q2]; exact Bool.false_ne_true)]
                refine Z.mono (l_X4_short3 hW hx hX sX hf hL m _ (P ++ [z118]) (p + 1) c (by omega) (by rw [List.length_append]; simp only [List.length_cons, List.length_nil]; omega) (by omega) (by omega) (by omega) hK2 hI2 sP2) ?_
                rintro r2 σ' ⟨z, hr2, q3, q4, q5⟩
                simp only [List.append_assoc, List.cons_append, List.nil_append] at q5
                exact ⟨z, hr2, q3, q4, q5⟩
        · skip
          refine z_iinc (L' := [_, _, _, _, _, _, _, _]) dX4_shortestSaying_152 (Nat.le_of_ble_eq_true rfl) rfl rfl rfl ?_
          refine z_iinc (L' := [_, _, _, _, _, _, _, _]) dX4_shortestSaying_155 (Nat.le_of_ble_eq_true rfl) rfl rfl rfl ?_
          refine z_goto (tgt := 96) dX4_shortestSaying_158 (by decide) ?_
          refine z_forget [true, true, true, true, true, true, true, false] (L' := [_, _, _, _, _, _, _, _]) rfl ?_
          rw [hsp]
          have hI2 : ndI σ146 (pasC LF σ f) (σ 16) X (σ 1 1).toNat (-1) 100 := fun a b h1 h2 h3 h4 => by rw [hfr2 _ (by omega) (by omega), z_put_ne (by omega), hfr _ (by omega) (by omega)]; exact hI a b h1 h2 h3 h4
          have sP2 : Seg σ146 43 0 (P ++ [z118]) := Seg.row (hfr2 43 (by decide) (by decide)) (by rw [show p.toNat = P.length by omega]; exact Seg.put (Seg.row (hfr 43 (by decide) (by decide)) sP))
          rcases hps with ⟨q1, q2⟩ | ⟨q1, q2⟩
          · first
              | exfalso; omega
              | have h3 := hs.2.2.1 q2
                rw [if_pos q2]
                refine Z.mono (l_X4_short3 hW hx hX sX hf hL m _ (P ++ [z118]) (p + 1) (c + 1) (by omega) (by rw [List.length_append]; simp only [List.length_cons, List.length_nil]; omega) (by omega) (by omega) (by omega) hK2 hI2 sP2) ?_
                rintro r2 σ' ⟨z, hr2, q3, q4, q5⟩
                simp only [List.append_assoc, List.cons_append, List.nil_append] at q5
                exact ⟨z, hr2, q3, q4, q5⟩
          · first
              | exfalso; omega
              | have h3 := hs.2.2.2 q2
                rw [if_neg (by rw [q2]; exact Bool.false_ne_true)]
                refine Z.mono (l_X4_short3 hW hx hX sX hf hL m _ (P ++ [z118]) (p + 1) c (by omega) (by rw [List.length_append]; simp only [List.length_cons, List.length_nil]; omega) (by omega) (by omega) (by omega) hK2 hI2 sP2) ?_
                rintro r2 σ' ⟨z, hr2, q3, q4, q5⟩
                simp only [List.append_assoc, List.cons_append, List.nil_append] at q5
                exact ⟨z, hr2, q3, q4, q5⟩
set_option maxRecDepth 20000 in
theorem k_X4_short70 {d : Nat} {σ τ : Sto} {LF : LFT} {f : Int} {X : List Int} (hW : WC LF σ) (hx : X.length ≤ 10) (hX : wok X) (sX : Seg σ 10 0 X) (hf : -1 ≤ f ∧ f ≤ 9) (g1 : ssK σ τ) (g2 : ndI τ (pasC LF σ f) (σ 16) X (σ 1 1).toNat (-1) 100) :
    Z (z_me cX4_shortestSaying RX4 8 (some .int) (d + 5) (qI fun z σ' => ssK σ σ' ∧ z = (if X.length ≤ 10 ∧ ndA (pasC LF σ f) (σ 16) X (σ 1 1).toNat 0 0 < 100 then ndA (pasC LF σ f) (σ 16) X (σ 1 1).toNat 0 0 else -2) ∧ (X.length ≤ 10 ∧ ndA (pasC LF σ f) (σ 16) X (σ 1 1).toNat 0 0 < 100 → Seg σ' 43 0 (spL (pasC LF σ f) (σ 16) X (σ 1 1).toNat (ndA (pasC LF σ f) (σ 16) X (σ 1 1).toNat 0 0).toNat 0 0)))) 70 [some (zR 6), some (zR 10), some (zI X.length), some (zI f), none, none, none, none] [] τ := by
  have hr := ndF_R (ps := pasC LF σ f) (S := σ 16) (X := X) (wn := (σ 1 1).toNat) 10 0
  have e0 : τ 47 0 = ndF (pasC LF σ f) (σ 16) X (σ 1 1).toNat 10 0 := g2 0 0 (by omega) (by omega) (by omega) (by omega)
  have eA : ndA (pasC LF σ f) (σ 16) X (σ 1 1).toNat 0 0 = ndF (pasC LF σ f) (σ 16) X (σ 1 1).toNat 10 0 := rfl
  refine z_aload_n dX4_shortestSaying_70 rfl ?_
  refine z_getR dX4_shortestSaying_71 gX4_31 rfl (Nat.le_of_ble_eq_true rfl) rfl ?_
  refine z_iconst dX4_shortestSaying_74 ?_
  refine z_aald dX4_shortestSaying_75 rfl (Or.inl rfl) (Nat.le_of_ble_eq_true rfl) (by omega) ?_
  refine z_iconst dX4_shortestSaying_76 ?_
  refine z_iald dX4_shortestSaying_77 rfl (Nat.le_of_ble_eq_true rfl) (by omega) (fun hr77 => ?_)
  rw [show τ (47 + (0 : Int).toNat) (0 : Int).toNat = ndF (pasC LF σ f) (σ 16) X (σ 1 1).toNat 10 0 from e0]
  refine z_istore (L' := [_, _, _, _, _, _, _, _]) dX4_shortestSaying_78 (Nat.le_of_ble_eq_true rfl) rfl rfl ?_
  refine z_iload dX4_shortestSaying_80 rfl ?_
  refine z_bipush (v := 100) dX4_shortestSaying_82 (by decide +kernel) ?_
  refine z_icmp_lt (tgt := 90) dX4_shortestSaying_84 (by decide) ⟨by omega, by omega⟩ ⟨by omega, by omega⟩ (fun h84 => ?_) (fun h84 => ?_)
  · skip
    refine z_iconst dX4_shortestSaying_90 ?_
    refine z_istore (L' := [_, _, _, _, _, _, _, _]) dX4_shortestSaying_91 (Nat.le_of_ble_eq_true rfl) rfl rfl ?_
    refine z_iconst dX4_shortestSaying_93 ?_
    refine z_istore (L' := [_, _, _, _, _, _, _, _]) dX4_shortestSaying_94 (Nat.le_of_ble_eq_true rfl) rfl rfl ?_
    refine Z.mono (l_X4_short3 hW hx hX sX hf h84 (ndF (pasC LF σ f) (σ 16) X (σ 1 1).toNat 10 0).toNat τ [] 0 0 (by omega) rfl (by omega) (by omega) (by omega) g1 g2 trivial) ?_
    rintro r2 σ' ⟨z, hr2, q1, q2, q3⟩
    exact ⟨z, hr2, q2, by rw [q1, if_pos ⟨hx, h84⟩]; exact eA.symm, fun _ => q3⟩
  · skip
    refine z_bipush (v := -2) dX4_shortestSaying_87 (by decide +kernel) ?_
    exact z_iret dX4_shortestSaying_89 ⟨g1, by rw [if_neg (fun q => absurd q.2 (by omega))], fun q => absurd q.2 (by omega)⟩
set_option maxRecDepth 20000 in
theorem c_X4_shortestSaying {d : Nat} {σ : Sto} {LF : LFT} {f : Int} {X : List Int} (hW : WC LF σ) (hx : X.length ≤ 12) (hX : wok X) (sX : Seg σ 10 0 X) (hf : -1 ≤ f ∧ f ≤ 9) :
    m_X4_shortestSaying d [zR 6, zR 10, zI X.length, zI f] σ (qI fun z σ' => ssK σ σ' ∧ z = (if X.length ≤ 10 ∧ ndA (pasC LF σ f) (σ 16) X (σ 1 1).toNat 0 0 < 100 then ndA (pasC LF σ f) (σ 16) X (σ 1 1).toNat 0 0 else -2) ∧ (X.length ≤ 10 ∧ ndA (pasC LF σ f) (σ 16) X (σ 1 1).toNat 0 0 < 100 → Seg σ' 43 0 (spL (pasC LF σ f) (σ 16) X (σ 1 1).toNat (ndA (pasC LF σ f) (σ 16) X (σ 1 1).toNat 0 0).toNat 0 0))) := by
  refine z_does (L := [some (zR 6), some (zR 10), some (zI X.length), some (zI f), none, none, none, none]) rfl (by decide +kernel) (Nat.le_of_ble_eq_true rfl) rfl ?_
  refine z_iload_n dX4_shortestSaying_0 rfl ?_
  refine z_bipush (v := 10) dX4_shortestSaying_1 (by decide +kernel) ?_
  refine z_icmp_gt (tgt := 12) dX4_shortestSaying_3 (by decide) ⟨by omega, by omega⟩ ⟨by omega, by omega⟩ (fun h3 => ?_) (fun h3 => ?_)
  · first
    | exfalso; omega
    | skip
      refine z_bipush (v := -2) dX4_shortestSaying_12 (by decide +kernel) ?_
      exact z_iret dX4_shortestSaying_14 ⟨fun _ _ _ _ _ => rfl, by rw [if_neg (by omega)], fun q => absurd q.1 (by omega)⟩
  · first
    | exfalso; omega
    | skip
      refine z_iload_n dX4_shortestSaying_6 rfl ?_
      refine z_aload_n dX4_shortestSaying_7 rfl ?_
      refine z_alen dX4_shortestSaying_8 rfl (Nat.le_of_ble_eq_true rfl) (Nat.le_of_ble_eq_true rfl) ?_
      refine z_icmp_le (tgt := 15) dX4_shortestSaying_9 (by decide) ⟨by omega, by omega⟩ ⟨by omega, by omega⟩ (fun h9 => ?_) (fun h9 => ?_)
      · first
        | exfalso; omega
        | skip
          refine z_bipush (v := 10) dX4_shortestSaying_15 (by decide +kernel) ?_
          refine z_istore (L' := [_, _, _, _, _, _, _, _]) dX4_shortestSaying_17 (Nat.le_of_ble_eq_true rfl) rfl rfl ?_
          exact l_X4_short1 hW (by omega) hX sX hf (fun τ g1 g2 => k_X4_short70 hW (by omega) hX sX hf g1 g2) 11 σ 10 (by omega) (by omega) (fun _ _ _ _ _ => rfl) (fun a b h1 h2 h3 h4 => absurd h4 (by omega))
      · first
        | exfalso; omega
        | skip
          refine z_bipush (v := -2) dX4_shortestSaying_12 (by decide +kernel) ?_
          exact z_iret dX4_shortestSaying_14 ⟨fun _ _ _ _ _ => rfl, by rw [if_neg (by omega)], fun q => absurd q.1 (by omega)⟩
