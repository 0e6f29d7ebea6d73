/-! ===== The class's words ===== -/
theorem nwS_ne {σ : Sto} {s h w : Int} {a : Nat} (h1 : a ≠ 1) (h2 : a ≠ 13) (h3 : a ≠ 14) (h4 : a ≠ 15) (h5 : a ≠ 16) : nwS σ s h w a = σ a := by
  unfold nwS
  rw [z_put_ne h5, z_put_ne h4, z_put_ne h3, z_put_ne h2, z_put_ne h1]
theorem nwS_11 {σ : Sto} {s h w : Int} : nwS σ s h w 1 1 = σ 1 1 + 1 := rfl
set_option maxRecDepth 20000 in
theorem l_X8_words {d : Nat} {s fr n l : Int} {R : Nat → Int} {P0 : Int} (hs : 0 ≤ s ∧ s < 6) (hn : 1 ≤ n ∧ n ≤ 12) :
    ∀ (k : Nat) (τ : Sto) (i c : Int), SH τ → (0 ≤ τ 1 1 ∧ τ 1 1 ≤ 12) → τ 30 s.toNat = 0 → τ 32 s.toNat = l → τ (34 + s.toNat) = R → 0 ≤ i ∧ i ≤ 2147483647 → 0 ≤ c → c + k = n →
    Z (z_me cX8_words RX8 8 (some .int) (d + 5) (qI fun z σ' => z = (w3S R l k i c τ).1 ∧ σ' = (w3S R l k i c τ).2)) 69 [some (zR 0), some (zI s), some (zI fr), some (zI n), some (zI P0), some (zI l), some (zI c), some (zI i)] [] τ
  | 0, τ, i, c, hS, hw, h30, hl, hR, hi, hc, hk => by
    refine z_iload dX8_words_69 rfl ?_
    refine z_iload_n dX8_words_71 rfl ?_
    refine z_icmp_ge (tgt := 103) dX8_words_72 (by decide) ⟨by omega, by omega⟩ ⟨by omega, by omega⟩ (fun h72 => ?_) (fun h72 => ?_)
    · skip
      refine z_iload dX8_words_103 rfl ?_
      exact z_iret dX8_words_105 ⟨rfl, rfl⟩
    · exfalso; omega
  | k + 1, τ, i, c, hS, hw, h30, hl, hR, hi, hc, hk => by
    have q32 := (hS s hs.1 hs.2).2.1
    refine z_iload dX8_words_69 rfl ?_
    refine z_iload_n dX8_words_71 rfl ?_
    refine z_icmp_ge (tgt := 103) dX8_words_72 (by decide) ⟨by omega, by omega⟩ ⟨by omega, by omega⟩ (fun h72 => ?_) (fun h72 => ?_)
    · exfalso; omega
    · skip
      refine z_iload dX8_words_75 rfl ?_
      refine z_iload dX8_words_77 rfl ?_
      refine z_iconst dX8_words_79 ?_
      refine z_isub dX8_words_80 ?_
      refine z_icmp_gt (tgt := 103) dX8_words_81 (by decide) ⟨by omega, by omega⟩ ⟨by omega, by omega⟩ (fun h81 => ?_) (fun h81 => ?_)
      · skip
        refine z_iload dX8_words_103 rfl ?_
        exact z_iret dX8_words_105 (by
          first
          | (rcases h88 with q | q
             · rw [w3S, if_neg (by rw [q.1]; decide)]; exact ⟨rfl, q.2.2⟩
             · exfalso; omega)
          | (have e : w3B R i l (τ 1 1) = false := by unfold w3B; rw [decide_eq_false_iff_not]; omega
             rw [w3S, if_neg (by rw [e]; decide)]; exact ⟨rfl, rfl⟩))
      · skip
        refine z_aload_n dX8_words_84 rfl ?_
        refine z_iload_n dX8_words_85 rfl ?_
        refine z_iload dX8_words_86 rfl ?_
        refine z_callVI (d := d + 4) (av := [_, _]) dX8_words_88 vX8_95 rfl (Nat.le_of_ble_eq_true rfl) rfl rfl rfl (Nat.le_of_ble_eq_true rfl) (Nat.le_refl _) (c_X8_wordFromThree hS hw hs h30 (by omega)) (fun z88 σ88 h88 => ?_)
        rw [hR, hl] at h88
        have hz88 : z88 = 0 ∨ z88 = 1 := by rcases h88 with q | q; exact Or.inl q.2.1; exact Or.inr q.2.1
        refine z_if_eq (tgt := 103) dX8_words_91 (by decide) ⟨by omega, by omega⟩ (fun h91 => ?_) (fun h91 => ?_)
        · skip
          refine z_iload dX8_words_103 rfl ?_
          exact z_iret dX8_words_105 (by
            first
            | (rcases h88 with q | q
               · rw [w3S, if_neg (by rw [q.1]; decide)]; exact ⟨rfl, q.2.2⟩
               · exfalso; omega)
            | (have e : w3B R i l (τ 1 1) = false := by unfold w3B; rw [decide_eq_false_iff_not]; omega
               rw [w3S, if_neg (by rw [e]; decide)]; exact ⟨rfl, rfl⟩))
        · skip
          refine z_iinc (L' := [_, _, _, _, _, _, _, _]) dX8_words_94 (Nat.le_of_ble_eq_true rfl) rfl rfl rfl ?_
          refine z_iinc (L' := [_, _, _, _, _, _, _, _]) dX8_words_97 (Nat.le_of_ble_eq_true rfl) rfl rfl rfl ?_
          refine z_goto (tgt := 69) dX8_words_100 (by decide) ?_
          rcases h88 with q | q
          · exfalso; omega
          · have e := q.2.2
            subst e
            rw [w3S, if_pos q.1]
            have q11 : τ 1 1 < 12 := by have q1 := q.1; unfold w3B at q1; rw [decide_eq_true_eq] at q1; exact q1.2.2.2.2
            exact l_X8_words hs hn k _ (i + 3) (c + 1) (fun t u v => by rw [nwS_ne (by omega) (by omega) (by omega) (by omega) (by omega), nwS_ne (by omega) (by omega) (by omega) (by omega) (by omega), nwS_ne (by omega) (by omega) (by omega) (by omega) (by omega)]; exact hS t u v) (by rw [nwS_11]; omega) (by rw [nwS_ne (by decide) (by decide) (by decide) (by decide) (by decide)]; exact h30) (by rw [nwS_ne (by decide) (by decide) (by decide) (by decide) (by decide)]; exact hl) (by rw [nwS_ne (by omega) (by omega) (by omega) (by omega) (by omega)]; exact hR) (by omega) (by omega) (by omega)
def wdG (h len : Int) (R : Nat → Int) (sh : Bool) (fr n : Int) (σ : Sto) : Int × Sto :=
  if sh = false ∨ n < 1 ∨ 12 < n then (-1, σ) else if h ≠ 0 ∧ h ≠ -1 then (-12, σ) else if h = -1 ∨ fr < 0 then (0, σ) else w3S R len n.toNat fr 0 σ
set_option maxRecDepth 20000 in
theorem c_X8_words {d : Nat} {σ : Sto} {s fr n : Int} (hS : SH σ) (hc : 0 ≤ σ 1 1 ∧ σ 1 1 ≤ 12) (hs : inR s) (hf : inR fr) (hn : inR n) : m_X8_words d [zR 0, zI s, zI fr, zI n] σ (qI fun z σ' => z = (wdG (σ 30 s.toNat) (σ 32 s.toNat) (σ (34 + s.toNat)) (decide (0 ≤ s ∧ s < 6)) fr n σ).1 ∧ σ' = (wdG (σ 30 s.toNat) (σ 32 s.toNat) (σ (34 + s.toNat)) (decide (0 ≤ s ∧ s < 6)) fr n σ).2) := by
  refine z_does (L := [some (zR 0), some (zI s), some (zI fr), some (zI n), none, none, none, none]) rfl (by decide +kernel) (Nat.le_of_ble_eq_true rfl) rfl ?_
  refine z_iload_n dX8_words_0 rfl ?_
  refine z_callSI (d := d + 4) (av := [_]) dX8_words_1 sX8_84 rfl rfl (Nat.le_of_ble_eq_true rfl) (Nat.le_refl _) (c_X8_isShelf (by omega)) (fun z1 σ1 h1 => ?_)
  obtain ⟨hs1, h1⟩ := h1
  subst σ1
  refine z_if_eq (tgt := 18) dX8_words_4 (by decide) ⟨by omega, by omega⟩ (fun h4 => ?_) (fun h4 => ?_)
  · skip
    refine z_iconst dX8_words_18 ?_
    exact z_iret dX8_words_19 (by
      have e : wdG (σ 30 s.toNat) (σ 32 s.toNat) (σ (34 + s.toNat)) (decide (0 ≤ s ∧ s < 6)) fr n σ = (-1, σ) := by unfold wdG; rw [if_pos (by rw [decide_eq_false_iff_not]; omega)]
      rw [e]; exact ⟨rfl, rfl⟩)
  · skip
    refine z_iload_n dX8_words_7 rfl ?_
    refine z_iconst dX8_words_8 ?_
    refine z_icmp_lt (tgt := 18) dX8_words_9 (by decide) ⟨by omega, by omega⟩ ⟨by omega, by omega⟩ (fun h9 => ?_) (fun h9 => ?_)
    · skip
      refine z_iconst dX8_words_18 ?_
      exact z_iret dX8_words_19 (by
        have e : wdG (σ 30 s.toNat) (σ 32 s.toNat) (σ (34 + s.toNat)) (decide (0 ≤ s ∧ s < 6)) fr n σ = (-1, σ) := by unfold wdG; rw [if_pos (by rw [decide_eq_false_iff_not]; omega)]
        rw [e]; exact ⟨rfl, rfl⟩)
    · skip
      refine z_iload_n dX8_words_12 rfl ?_
      refine z_bipush (v := 12) dX8_words_13 (by decide +kernel) ?_
      refine z_icmp_le (tgt := 20) dX8_words_15 (by decide) ⟨by omega, by omega⟩ ⟨by omega, by omega⟩ (fun h15 => ?_) (fun h15 => ?_)
      · skip
        have hs6 : 0 ≤ s ∧ s < 6 := by omega
        obtain ⟨qa, qb, -⟩ := hS s hs6.1 hs6.2
        have hd : ¬ (decide (0 ≤ s ∧ s < 6) = false ∨ n < 1 ∨ 12 < n) := by rw [decide_eq_false_iff_not]; omega
        refine z_aload_n dX8_words_20 rfl ?_
        refine z_getR dX8_words_21 gX8_33 rfl (Nat.le_of_ble_eq_true rfl) rfl ?_
        refine z_iload_n dX8_words_24 rfl ?_
        refine z_callVI (d := d + 4) (av := [_]) dX8_words_25 vX8_88 rfl (Nat.le_of_ble_eq_true rfl) rfl rfl rfl (Nat.le_of_ble_eq_true rfl) (Nat.le_refl _) (c_X5_bytesRefusal (by omega)) (fun z25 σ25 h25 => ?_)
        obtain ⟨hs25, h25⟩ := h25
        subst σ25
        refine z_istore (L' := [_, _, _, _, _, _, _, _]) dX8_words_28 (Nat.le_of_ble_eq_true rfl) rfl rfl ?_
        refine z_iload dX8_words_30 rfl ?_
        refine z_bipush (v := -12) dX8_words_32 (by decide +kernel) ?_
        refine z_icmp_ne (tgt := 40) dX8_words_34 (by decide) ⟨by omega, by omega⟩ ⟨by omega, by omega⟩ (fun h34 => ?_) (fun h34 => ?_)
        · skip
          refine z_iload dX8_words_40 rfl ?_
          refine z_bipush (v := -11) dX8_words_42 (by decide +kernel) ?_
          refine z_icmp_eq (tgt := 51) dX8_words_44 (by decide) ⟨by omega, by omega⟩ ⟨by omega, by omega⟩ (fun h44 => ?_) (fun h44 => ?_)
          · skip
            refine z_iconst dX8_words_51 ?_
            exact z_iret dX8_words_52 (by
              have e : wdG (σ 30 s.toNat) (σ 32 s.toNat) (σ (34 + s.toNat)) (decide (0 ≤ s ∧ s < 6)) fr n σ = (0, σ) := by unfold wdG; rw [if_neg hd, if_neg (by omega), if_pos (by omega)]
              rw [e]; exact ⟨rfl, rfl⟩)
          · skip
            refine z_iload_n dX8_words_47 rfl ?_
            refine z_if_ge (tgt := 53) dX8_words_48 (by decide) ⟨by omega, by omega⟩ (fun h48 => ?_) (fun h48 => ?_)
            · skip
              refine z_aload_n dX8_words_53 rfl ?_
              refine z_getR dX8_words_54 gX8_33 rfl (Nat.le_of_ble_eq_true rfl) rfl ?_
              refine z_iload_n dX8_words_57 rfl ?_
              refine z_callVI (d := d + 4) (av := [_]) dX8_words_58 vX8_92 rfl (Nat.le_of_ble_eq_true rfl) rfl rfl rfl (Nat.le_of_ble_eq_true rfl) (Nat.le_refl _) (c_X5_lengthOf hs6) (fun z58 σ58 h58 => ?_)
              obtain ⟨hs58, h58, h58r⟩ := h58
              subst σ58
              have e58 : z58 = σ 32 s.toNat := by omega
              subst e58
              refine z_istore (L' := [_, _, _, _, _, _, _, _]) dX8_words_61 (Nat.le_of_ble_eq_true rfl) rfl rfl ?_
              refine z_iconst dX8_words_63 ?_
              refine z_istore (L' := [_, _, _, _, _, _, _, _]) dX8_words_64 (Nat.le_of_ble_eq_true rfl) rfl rfl ?_
              refine z_iload_n dX8_words_66 rfl ?_
              refine z_istore (L' := [_, _, _, _, _, _, _, _]) dX8_words_67 (Nat.le_of_ble_eq_true rfl) rfl rfl ?_
              have h := l_X8_words (d := d) (s := s) (fr := fr) (n := n) (l := σ 32 s.toNat) (R := σ (34 + s.toNat)) (P0 := z25) hs6 (by omega) n.toNat σ fr 0 hS hc (by omega) rfl rfl (by omega) (by omega) (by omega)
              have e : wdG (σ 30 s.toNat) (σ 32 s.toNat) (σ (34 + s.toNat)) (decide (0 ≤ s ∧ s < 6)) fr n σ = w3S (σ (34 + s.toNat)) (σ 32 s.toNat) n.toNat fr 0 σ := by unfold wdG; rw [if_neg hd, if_neg (by omega), if_neg (by omega)]
              rw [e]
              exact h
            · skip
              refine z_iconst dX8_words_51 ?_
              exact z_iret dX8_words_52 (by
                have e : wdG (σ 30 s.toNat) (σ 32 s.toNat) (σ (34 + s.toNat)) (decide (0 ≤ s ∧ s < 6)) fr n σ = (0, σ) := by unfold wdG; rw [if_neg hd, if_neg (by omega), if_pos (by omega)]
                rw [e]; exact ⟨rfl, rfl⟩)
        · skip
          refine z_bipush (v := -12) dX8_words_37 (by decide +kernel) ?_
          exact z_iret dX8_words_39 (by
            have e : wdG (σ 30 s.toNat) (σ 32 s.toNat) (σ (34 + s.toNat)) (decide (0 ≤ s ∧ s < 6)) fr n σ = (-12, σ) := by unfold wdG; rw [if_neg hd, if_pos (by omega)]
            rw [e]; exact ⟨rfl, rfl⟩)
      · skip
        refine z_iconst dX8_words_18 ?_
        exact z_iret dX8_words_19 (by
          have e : wdG (σ 30 s.toNat) (σ 32 s.toNat) (σ (34 + s.toNat)) (decide (0 ≤ s ∧ s < 6)) fr n σ = (-1, σ) := by unfold wdG; rw [if_pos (by rw [decide_eq_false_iff_not]; omega)]
          rw [e]; exact ⟨rfl, rfl⟩)
