/-! ===== Sieve: hurts, harms, spite ===== -/
set_option maxRecDepth 20000 in
theorem l_X6_clearNet {d : Nat} {σ : Sto} (i : Int) (hi : 0 ≤ i ∧ i ≤ 6) : Z (z_me cX6_clearNet RX6 2 none (d + 0) (qV fun σ' => σ' = zerS σ 42 6)) 2 [some (zR 5), some (zI i)] [] (zerS σ 42 i) := by
  refine z_iload_n dX6_clearNet_2 rfl ?_
  refine z_bipush (v := 6) dX6_clearNet_3 (by decide +kernel) ?_
  refine z_icmp_ge (tgt := 21) dX6_clearNet_5 (by decide) ⟨by omega, by omega⟩ ⟨by omega, by omega⟩ (fun h5 => ?_) (fun h5 => ?_)
  · first
    | exfalso; omega
    | skip
      exact z_vret dX6_clearNet_21 (by rw [show i = 6 by omega])
  · first
    | exfalso; omega
    | skip
      refine z_aload_n dX6_clearNet_8 rfl ?_
      refine z_getR dX6_clearNet_9 gX6_26 rfl (Nat.le_of_ble_eq_true rfl) rfl ?_
      refine z_iload_n dX6_clearNet_12 rfl ?_
      refine z_iconst dX6_clearNet_13 ?_
      refine z_iast dX6_clearNet_14 rfl (Nat.le_of_ble_eq_true rfl) (by omega) ⟨by omega, by omega⟩ ?_
      rw [zerS_s hi.1]
      refine z_iinc (L' := [_, _]) dX6_clearNet_15 (Nat.le_of_ble_eq_true rfl) rfl rfl rfl ?_
      refine z_goto (tgt := 2) dX6_clearNet_18 (by decide) ?_
      exact l_X6_clearNet (i + 1) (by omega)
termination_by (6 - i).toNat
decreasing_by omega
set_option maxRecDepth 20000 in
theorem c_X6_clearNet {d : Nat} {σ : Sto} : m_X6_clearNet d [zR 5] σ (qV fun σ' => σ' = zerS σ 42 6) := by
  refine z_does (L := [some (zR 5), none]) rfl (by decide +kernel) (Nat.le_of_ble_eq_true rfl) rfl ?_
  refine z_iconst dX6_clearNet_0 ?_
  refine z_istore_n (L' := [_, _]) dX6_clearNet_1 (Nat.le_of_ble_eq_true rfl) rfl rfl ?_
  have h := l_X6_clearNet (d := d) (σ := σ) 0 (by omega)
  rw [zerS_0] at h
  exact h
set_option maxRecDepth 20000 in
theorem c_X6_addToNet {d : Nat} {σ : Sto} {w : Int} (hw : 0 ≤ w ∧ w < 12) (h17 : 0 ≤ σ 17 w.toNat ∧ σ 17 w.toNat ≤ 5) (h14 : 0 ≤ σ 14 w.toNat ∧ σ 14 w.toNat ≤ 9) (h15 : 0 ≤ σ 15 w.toNat ∧ σ 15 w.toNat ≤ 9) (hb : -10000 ≤ σ 42 (σ 17 w.toNat).toNat ∧ σ 42 (σ 17 w.toNat).toNat ≤ 10000) : m_X6_addToNet d [zR 5, zI w] σ (qV fun σ' => σ' = z_put σ 42 (σ 17 w.toNat).toNat (σ 42 (σ 17 w.toNat).toNat + (σ 14 w.toNat - σ 15 w.toNat))) := by
  refine z_does (L := [some (zR 5), some (zI w), none]) rfl (by decide +kernel) (Nat.le_of_ble_eq_true rfl) rfl ?_
  refine z_aload_n dX6_addToNet_0 rfl ?_
  refine z_getR dX6_addToNet_1 gX6_9 rfl (Nat.le_of_ble_eq_true rfl) rfl ?_
  refine z_iload_n dX6_addToNet_4 rfl ?_
  refine z_iconst dX6_addToNet_5 ?_
  refine z_callVI (d := d + 0) (av := [_, _]) dX6_addToNet_6 vX6_31 rfl (Nat.le_of_ble_eq_true rfl) rfl rfl rfl (Nat.le_of_ble_eq_true rfl) (Nat.le_refl _) (c_X7_get4 (by omega)) (fun z6 σ6 h6 => ?_)
  obtain ⟨rfl, hs6⟩ := h6
  subst σ6
  refine z_istore_n (L' := [_, _, _]) dX6_addToNet_9 (Nat.le_of_ble_eq_true rfl) rfl rfl ?_
  refine z_iload_n dX6_addToNet_10 rfl ?_
  refine z_if_lt (tgt := 48) dX6_addToNet_11 (by decide) ⟨by omega, by omega⟩ (fun h11 => ?_) (fun h11 => ?_)
  · first
    | exfalso; omega
    | skip
      exact z_vret dX6_addToNet_48 rfl
  · first
    | exfalso; omega
    | skip
      refine z_iload_n dX6_addToNet_14 rfl ?_
      refine z_bipush (v := 6) dX6_addToNet_15 (by decide +kernel) ?_
      refine z_icmp_ge (tgt := 48) dX6_addToNet_17 (by decide) ⟨by omega, by omega⟩ ⟨by omega, by omega⟩ (fun h17 => ?_) (fun h17 => ?_)
      · first
        | exfalso; omega
        | skip
          exact z_vret dX6_addToNet_48 rfl
      · first
        | exfalso; omega
        | skip
          refine z_aload_n dX6_addToNet_20 rfl ?_
          refine z_getR dX6_addToNet_21 gX6_26 rfl (Nat.le_of_ble_eq_true rfl) rfl ?_
          refine z_iload_n dX6_addToNet_24 rfl ?_
          refine z_dup2 dX6_addToNet_25 rfl rfl ?_
          refine z_iald dX6_addToNet_26 rfl (Nat.le_of_ble_eq_true rfl) (by omega) (fun hr26 => ?_)
          refine z_aload_n dX6_addToNet_27 rfl ?_
          refine z_getR dX6_addToNet_28 gX6_9 rfl (Nat.le_of_ble_eq_true rfl) rfl ?_
          refine z_iload_n dX6_addToNet_31 rfl ?_
          refine z_iconst dX6_addToNet_32 ?_
          refine z_callVI (d := d + 0) (av := [_, _]) dX6_addToNet_33 vX6_31 rfl (Nat.le_of_ble_eq_true rfl) rfl rfl rfl (Nat.le_of_ble_eq_true rfl) (Nat.le_refl _) (c_X7_get1 (by omega)) (fun z33 σ33 h33 => ?_)
          obtain ⟨rfl, hs33⟩ := h33
          subst σ33
          refine z_aload_n dX6_addToNet_36 rfl ?_
          refine z_getR dX6_addToNet_37 gX6_9 rfl (Nat.le_of_ble_eq_true rfl) rfl ?_
          refine z_iload_n dX6_addToNet_40 rfl ?_
          refine z_iconst dX6_addToNet_41 ?_
          refine z_callVI (d := d + 0) (av := [_, _]) dX6_addToNet_42 vX6_31 rfl (Nat.le_of_ble_eq_true rfl) rfl rfl rfl (Nat.le_of_ble_eq_true rfl) (Nat.le_refl _) (c_X7_get2 (by omega)) (fun z42 σ42 h42 => ?_)
          obtain ⟨rfl, hs42⟩ := h42
          subst σ42
          refine z_isub dX6_addToNet_45 ?_
          refine z_iadd dX6_addToNet_46 ?_
          refine z_iast dX6_addToNet_47 rfl (Nat.le_of_ble_eq_true rfl) (by omega) ⟨by omega, by omega⟩ ?_
          exact z_vret dX6_addToNet_48 rfl
abbrev netC (σ : Sto) (p : Int) (X : List Int) : Int := netL (σ 17) (σ 14) (σ 15) p X
abbrev hurtC (σ : Sto) (X : List Int) : Int := hurtL (σ 17) (σ 14) (σ 15) (σ 19) (σ 1 3) X
set_option maxRecDepth 20000 in
theorem l_X6_hurtByNet {d : Nat} {σ : Sto} (hp : 0 ≤ σ 1 3 ∧ σ 1 3 ≤ 6) (h19 : ∀ j, 0 ≤ σ 19 j ∧ σ 19 j ≤ 9) : ∀ (m : Nat) (p acc : Int), 0 ≤ p → p + m = σ 1 3 → inR acc →
    Z (z_me cX6_hurtByNet RX6 3 (some .int) (d + 1) (qI fun z σ' => z = bitL (fun p => decide (σ 42 p.toNat > 9 - σ 19 p.toNat)) m p acc ∧ σ' = σ)) 4 [some (zR 5), some (zI acc), some (zI p)] [] σ
  | 0, p, acc, h0, h1, ha => by
    refine z_iload_n dX6_hurtByNet_4 rfl ?_
    refine z_aload_n dX6_hurtByNet_5 rfl ?_
    refine z_getR dX6_hurtByNet_6 gX6_9 rfl (Nat.le_of_ble_eq_true rfl) rfl ?_
    refine z_getI dX6_hurtByNet_9 gX6_79 rfl (Nat.le_of_ble_eq_true rfl) rfl (fun hr9 => ?_)
    refine z_icmp_ge (tgt := 55) dX6_hurtByNet_12 (by decide) ⟨by omega, by omega⟩ ⟨by omega, by omega⟩ (fun h12 => ?_) (fun h12 => ?_)
    · skip
      refine z_iload_n dX6_hurtByNet_55 rfl ?_
      exact z_iret dX6_hurtByNet_56 ⟨rfl, rfl⟩
    · exfalso; omega
  | m + 1, p, acc, h0, h1, ha => by
    have h19p := h19 p.toNat
    refine z_iload_n dX6_hurtByNet_4 rfl ?_
    refine z_aload_n dX6_hurtByNet_5 rfl ?_
    refine z_getR dX6_hurtByNet_6 gX6_9 rfl (Nat.le_of_ble_eq_true rfl) rfl ?_
    refine z_getI dX6_hurtByNet_9 gX6_79 rfl (Nat.le_of_ble_eq_true rfl) rfl (fun hr9 => ?_)
    refine z_icmp_ge (tgt := 55) dX6_hurtByNet_12 (by decide) ⟨by omega, by omega⟩ ⟨by omega, by omega⟩ (fun h12 => ?_) (fun h12 => ?_)
    · exfalso; omega
    · skip
      refine z_iload_n dX6_hurtByNet_15 rfl ?_
      refine z_bipush (v := 6) dX6_hurtByNet_16 (by decide +kernel) ?_
      refine z_icmp_ge (tgt := 55) dX6_hurtByNet_18 (by decide) ⟨by omega, by omega⟩ ⟨by omega, by omega⟩ (fun h18 => ?_) (fun h18 => ?_)
      · first
        | exfalso; omega
        | skip
          refine z_iload_n dX6_hurtByNet_55 rfl ?_
          exact z_iret dX6_hurtByNet_56 (by first | exact ⟨rfl, rfl⟩ | exact ⟨by omega, rfl⟩)
      · first
        | exfalso; omega
        | skip
          refine z_aload_n dX6_hurtByNet_21 rfl ?_
          refine z_getR dX6_hurtByNet_22 gX6_26 rfl (Nat.le_of_ble_eq_true rfl) rfl ?_
          refine z_iload_n dX6_hurtByNet_25 rfl ?_
          refine z_iald dX6_hurtByNet_26 rfl (Nat.le_of_ble_eq_true rfl) (by omega) (fun hr26 => ?_)
          refine z_bipush (v := 9) dX6_hurtByNet_27 (by decide +kernel) ?_
          refine z_aload_n dX6_hurtByNet_29 rfl ?_
          refine z_getR dX6_hurtByNet_30 gX6_9 rfl (Nat.le_of_ble_eq_true rfl) rfl ?_
          refine z_iload_n dX6_hurtByNet_33 rfl ?_
          refine z_bipush (v := 6) dX6_hurtByNet_34 (by decide +kernel) ?_
          refine z_callVI (d := d + 0) (av := [_, _]) dX6_hurtByNet_36 vX6_31 rfl (Nat.le_of_ble_eq_true rfl) rfl rfl rfl (Nat.le_of_ble_eq_true rfl) (Nat.le_refl _) (c_X7_get6 (by omega)) (fun z36 σ36 h36 => ?_)
          obtain ⟨rfl, hs36⟩ := h36
          subst σ36
          refine z_isub dX6_hurtByNet_39 ?_
          refine z_icmp_le (tgt := 49) dX6_hurtByNet_40 (by decide) ⟨by omega, by omega⟩ ⟨by omega, by omega⟩ (fun h40 => ?_) (fun h40 => ?_)
          · skip
            refine z_iinc (L' := [_, _, _]) dX6_hurtByNet_49 (Nat.le_of_ble_eq_true rfl) rfl rfl rfl ?_
            refine z_goto (tgt := 4) dX6_hurtByNet_52 (by decide) ?_
            rw [bitL]
            first
              | rw [if_pos (decide_eq_true (by omega))]; exact l_X6_hurtByNet hp h19 m (p + 1) _ (by omega) (by omega) (z_rng _)
              | rw [if_neg (by rw [decide_eq_true_eq]; omega)]; exact l_X6_hurtByNet hp h19 m (p + 1) _ (by omega) (by omega) ha
          · skip
            refine z_iload_n dX6_hurtByNet_43 rfl ?_
            refine z_iconst dX6_hurtByNet_44 ?_
            refine z_iload_n dX6_hurtByNet_45 rfl ?_
            refine z_ishl dX6_hurtByNet_46 ?_
            refine z_ior dX6_hurtByNet_47 ?_
            refine z_istore_n (L' := [_, _, _]) dX6_hurtByNet_48 (Nat.le_of_ble_eq_true rfl) rfl rfl ?_
            refine z_iinc (L' := [_, _, _]) dX6_hurtByNet_49 (Nat.le_of_ble_eq_true rfl) rfl rfl rfl ?_
            refine z_goto (tgt := 4) dX6_hurtByNet_52 (by decide) ?_
            rw [bitL]
            first
              | rw [if_pos (decide_eq_true (by omega))]; exact l_X6_hurtByNet hp h19 m (p + 1) _ (by omega) (by omega) (z_rng _)
              | rw [if_neg (by rw [decide_eq_true_eq]; omega)]; exact l_X6_hurtByNet hp h19 m (p + 1) _ (by omega) (by omega) ha
set_option maxRecDepth 20000 in
theorem c_X6_hurtByNet {d : Nat} {σ : Sto} (hp : 0 ≤ σ 1 3 ∧ σ 1 3 ≤ 6) (h19 : ∀ j, 0 ≤ σ 19 j ∧ σ 19 j ≤ 9) : m_X6_hurtByNet d [zR 5] σ (qI fun z σ' => z = bitL (fun p => decide (σ 42 p.toNat > 9 - σ 19 p.toNat)) (σ 1 3).toNat 0 0 ∧ σ' = σ) := by
  refine z_does (L := [some (zR 5), none, none]) rfl (by decide +kernel) (Nat.le_of_ble_eq_true rfl) rfl ?_
  refine z_iconst dX6_hurtByNet_0 ?_
  refine z_istore_n (L' := [_, _, _]) dX6_hurtByNet_1 (Nat.le_of_ble_eq_true rfl) rfl rfl ?_
  refine z_iconst dX6_hurtByNet_2 ?_
  refine z_istore_n (L' := [_, _, _]) dX6_hurtByNet_3 (Nat.le_of_ble_eq_true rfl) rfl rfl ?_
  exact l_X6_hurtByNet hp h19 (σ 1 3).toNat 0 0 (by omega) (by omega) (by omega)
/-- behind some words said, with τ's net so far, and those that are still to come -/
abbrev netP (σ τ : Sto) (R : List Int) : Int := bitL (fun p => decide (τ 42 p.toNat + netC σ p R > 9 - σ 19 p.toNat)) (σ 1 3).toNat 0 0
theorem netP_nil {σ τ : Sto} (h : ∀ a, a ≠ 42 → τ a = σ a) : bitL (fun p => decide (τ 42 p.toNat > 9 - τ 19 p.toNat)) (τ 1 3).toNat 0 0 = netP σ τ [] := by
  rw [h 1 (by decide), h 19 (by decide)]
  exact bitL_cong _ _ _ (fun x _ _ => by simp only [netC, netL, Int.add_zero])
theorem netP_cons {σ τ τ' : Sto} {w : Int} {R : List Int} (hp : 0 ≤ σ 1 3 ∧ σ 1 3 ≤ 6) (h17 : 0 ≤ σ 17 w.toNat) (hτ : ∀ p : Int, 0 ≤ p → p < 6 → τ' 42 p.toNat = τ 42 p.toNat + (if σ 17 w.toNat = p then σ 14 w.toNat - σ 15 w.toNat else 0)) : netP σ τ (w :: R) = netP σ τ' R := by
  refine bitL_cong _ _ _ (fun x h1 h2 => ?_)
  refine decide_eq_decide.mpr ?_
  simp only [netC, netL]
  rw [hτ x (by omega) (by omega), Int.add_assoc]
set_option maxRecDepth 20000 in
theorem l_X6_hurtBy {d : Nat} {σ : Sto} {LF : LFT} {k len : Nat} {rr : Nat → Nat} (hW : WC LF σ) (hk : z_lay k = .inr (0, len, rr)) (hkn : k < z_NC) (hk2 : k ≠ 42) (hlen : len ≤ 2000) (n : Int) (hn : n ≤ len ∧ n ≤ 13) :
    ∀ (X : List Int) (τ : Sto) (i : Int), 0 ≤ i → Seg σ k i.toNat X → wok X → n = i + X.length → (∀ a, a ≠ 42 → τ a = σ a) → (∀ p, p < 6 → -(9 * i) ≤ τ 42 p ∧ τ 42 p ≤ 9 * i) →
    Z (z_me cX6_hurtBy RX6 4 (some .int) (d + 2) (qI fun z σ' => z = netP σ τ X ∧ ∀ a, a ≠ 42 → σ' a = σ a)) 6 [some (zR 5), some (zR k), some (zI n), some (zI i)] [] τ
  | [], τ, i, hi, hs, hx, hl, hf, hb => by
    rw [List.length_nil] at hl
    obtain ⟨-, -, wp, -, -, -, -, -, -, w19, -⟩ := hW
    refine z_iload_n dX6_hurtBy_6 rfl ?_
    refine z_iload_n dX6_hurtBy_7 rfl ?_
    refine z_icmp_ge (tgt := 30) dX6_hurtBy_8 (by decide) ⟨by omega, by omega⟩ ⟨by omega, by omega⟩ (fun h8 => ?_) (fun h8 => ?_)
    · skip
      refine z_aload_n dX6_hurtBy_30 rfl ?_
      refine z_callVI (d := d + 1) (av := []) dX6_hurtBy_31 vX6_72 rfl (Nat.le_of_ble_eq_true rfl) rfl rfl rfl (Nat.le_of_ble_eq_true rfl) (Nat.le_refl _) (c_X6_hurtByNet (by rw [hf 1 (by decide)]; exact wp) (by rw [hf 19 (by decide)]; exact w19)) (fun z31 σ31 h31 => ?_)
      obtain ⟨rfl, hs31⟩ := h31
      subst σ31
      exact z_iret dX6_hurtBy_34 ⟨netP_nil hf, hf⟩
    · exfalso; omega
  | w :: r, τ, i, hi, hs, hx, hl, hf, hb => by
    rw [List.length_cons] at hl
    obtain ⟨e1, hs⟩ := hs
    obtain ⟨h0, hx⟩ := wok_c hx
    have hW0 := hW
    obtain ⟨-, -, wp, -, w14, w15, -, w17, -, -, -⟩ := hW
    have w14 := w14 w.toNat
    have w15 := w15 w.toNat
    have w17 := w17 w.toNat
    have ev : τ k i.toNat = w := by rw [hf k hk2]; exact e1
    have hbw := hb (σ 17 w.toNat).toNat (by omega)
    refine z_iload_n dX6_hurtBy_6 rfl ?_
    refine z_iload_n dX6_hurtBy_7 rfl ?_
    refine z_icmp_ge (tgt := 30) dX6_hurtBy_8 (by decide) ⟨by omega, by omega⟩ ⟨by omega, by omega⟩ (fun h8 => ?_) (fun h8 => ?_)
    · exfalso; omega
    · skip
      refine z_iload_n dX6_hurtBy_11 rfl ?_
      refine z_aload_n dX6_hurtBy_12 rfl ?_
      refine z_alen dX6_hurtBy_13 hk (Nat.le_of_ble_eq_true rfl) hkn ?_
      refine z_icmp_ge (tgt := 30) dX6_hurtBy_14 (by decide) ⟨by omega, by omega⟩ ⟨by omega, by omega⟩ (fun h14 => ?_) (fun h14 => ?_)
      · exfalso; omega
      · skip
        refine z_aload_n dX6_hurtBy_17 rfl ?_
        refine z_aload_n dX6_hurtBy_18 rfl ?_
        refine z_iload_n dX6_hurtBy_19 rfl ?_
        refine z_iald dX6_hurtBy_20 hk hkn (by omega) (fun hr20 => ?_)
        rw [ev]
        refine z_callVV (d := d + 1) (av := [_]) dX6_hurtBy_21 vX6_68 rfl (Nat.le_of_ble_eq_true rfl) rfl rfl rfl (Nat.le_of_ble_eq_true rfl) (Nat.le_refl _) (c_X6_addToNet h0 (by rw [hf 17 (by decide)]; exact w17) (by rw [hf 14 (by decide)]; exact w14) (by rw [hf 15 (by decide)]; exact w15) (by rw [hf 17 (by decide)]; omega)) (fun σ21 h21 => ?_)
        rw [hf 17 (by decide), hf 14 (by decide), hf 15 (by decide)] at h21
        subst h21
        refine z_iinc (L' := [_, _, _, _]) dX6_hurtBy_24 (Nat.le_of_ble_eq_true rfl) rfl rfl rfl ?_
        refine z_goto (tgt := 6) dX6_hurtBy_27 (by decide) ?_
        rw [netP_cons (τ' := z_put τ 42 (σ 17 w.toNat).toNat (τ 42 (σ 17 w.toNat).toNat + (σ 14 w.toNat - σ 15 w.toNat))) wp w17.1 (fun p h1 h2 => by rw [z_rd, if_pos rfl]; grind)]
        refine l_X6_hurtBy hW0 hk hkn hk2 hlen n hn r _ (i + 1) (by omega) (by rw [toN_s hi]; exact hs) hx (by omega) (fun a ha => by rw [z_put_ne ha]; exact hf a ha) (fun p hp => ?_)
        have := hb p hp
        rw [z_rd, if_pos rfl]
        split
        · subst p; omega
        · omega
set_option maxRecDepth 20000 in
theorem c_X6_hurtBy {d : Nat} {σ : Sto} {LF : LFT} {k len : Nat} {rr : Nat → Nat} {X : List Int} {n : Int} (hW : WC LF σ) (hk : z_lay k = .inr (0, len, rr)) (hkn : k < z_NC) (hk2 : k ≠ 42) (hn : n = X.length) (hl : X.length ≤ len ∧ X.length ≤ 13) (hlen : len ≤ 2000) (sX : Seg σ k 0 X) (hx : wok X) : m_X6_hurtBy d [zR 5, zR k, zI n] σ (qI fun z σ' => z = hurtC σ X ∧ ∀ a, a ≠ 42 → σ' a = σ a) := by
  refine z_does (L := [some (zR 5), some (zR k), some (zI n), none]) rfl (by decide +kernel) (Nat.le_of_ble_eq_true rfl) rfl ?_
  refine z_aload_n dX6_hurtBy_0 rfl ?_
  refine z_callVV (d := d + 1) (av := []) dX6_hurtBy_1 vX6_65 rfl (Nat.le_of_ble_eq_true rfl) rfl rfl rfl (Nat.le_of_ble_eq_true rfl) (Nat.le_refl _) (c_X6_clearNet) (fun σ1 h1 => ?_)
  subst h1
  refine z_iconst dX6_hurtBy_4 ?_
  refine z_istore_n (L' := [_, _, _, _]) dX6_hurtBy_5 (Nat.le_of_ble_eq_true rfl) rfl rfl ?_
  have e : netP σ (zerS σ 42 6) X = hurtC σ X := bitL_cong _ _ _ (fun x h1 h2 => by have : zerS σ 42 6 42 x.toNat = 0 := if_pos ⟨rfl, by have := hW.2.2.1; omega⟩; simp only [this, Int.zero_add])
  rw [← e]
  exact l_X6_hurtBy hW hk hkn hk2 hlen n (by omega) X _ 0 (by omega) sX hx (by omega) (fun a ha => by funext b; exact if_neg (fun q => ha q.1)) (fun p hp => by rw [show zerS σ 42 6 42 p = 0 from if_pos ⟨rfl, by omega⟩]; omega)
set_option maxRecDepth 20000 in
theorem l_X6_hurtBySet {d : Nat} {σ : Sto} {LF : LFT} {s : Int} (hW : WC LF σ) :
    ∀ (m : Nat) (τ : Sto) (w : Int), 0 ≤ w → w + m = σ 1 1 → (∀ a, a ≠ 42 → τ a = σ a) → (∀ p, p < 6 → -(9 * w) ≤ τ 42 p ∧ τ 42 p ≤ 9 * w) →
    Z (z_me cX6_hurtBySet RX6 3 (some .int) (d + 2) (qI fun z σ' => z = netP σ τ (setL s m w) ∧ ∀ a, a ≠ 42 → σ' a = σ a)) 6 [some (zR 5), some (zI s), some (zI w)] [] τ
  | 0, τ, w, hw, hl, hf, hb => by
    obtain ⟨w1, -, wp, -, -, -, -, -, -, w19, -⟩ := hW
    have e1 : τ 1 = σ 1 := hf 1 (by decide)
    refine z_iload_n dX6_hurtBySet_6 rfl ?_
    refine z_aload_n dX6_hurtBySet_7 rfl ?_
    refine z_getR dX6_hurtBySet_8 gX6_9 rfl (Nat.le_of_ble_eq_true rfl) rfl ?_
    refine z_getI dX6_hurtBySet_11 gX6_76 rfl (Nat.le_of_ble_eq_true rfl) rfl (fun hr11 => ?_)
    try simp only [e1, z_rd, Nat.reduceEqDiff, ↓reduceIte, eq_self] at hr11 ⊢
    refine z_icmp_ge (tgt := 36) dX6_hurtBySet_14 (by decide) ⟨by omega, by omega⟩ ⟨by omega, by omega⟩ (fun h14 => ?_) (fun h14 => ?_)
    · skip
      refine z_aload_n dX6_hurtBySet_36 rfl ?_
      refine z_callVI (d := d + 1) (av := []) dX6_hurtBySet_37 vX6_72 rfl (Nat.le_of_ble_eq_true rfl) rfl rfl rfl (Nat.le_of_ble_eq_true rfl) (Nat.le_refl _) (c_X6_hurtByNet (by rw [hf 1 (by decide)]; exact wp) (by rw [hf 19 (by decide)]; exact w19)) (fun z37 σ37 h37 => ?_)
      obtain ⟨rfl, hs37⟩ := h37
      subst σ37
      exact z_iret dX6_hurtBySet_40 ⟨netP_nil hf, hf⟩
    · exfalso; omega
  | m + 1, τ, w, hw, hl, hf, hb => by
    have hW0 := hW
    obtain ⟨w1, -, wp, -, w14, w15, -, w17, -, -, -⟩ := hW
    have w14 := w14 w.toNat
    have w15 := w15 w.toNat
    have w17 := w17 w.toNat
    have e1 : τ 1 = σ 1 := hf 1 (by decide)
    have hbw := hb (σ 17 w.toNat).toNat (by omega)
    refine z_iload_n dX6_hurtBySet_6 rfl ?_
    refine z_aload_n dX6_hurtBySet_7 rfl ?_
    refine z_getR dX6_hurtBySet_8 gX6_9 rfl (Nat.le_of_ble_eq_true rfl) rfl ?_
    refine z_getI dX6_hurtBySet_11 gX6_76 rfl (Nat.le_of_ble_eq_true rfl) rfl (fun hr11 => ?_)
    try simp only [e1, z_rd, Nat.reduceEqDiff, ↓reduceIte, eq_self] at hr11 ⊢
    refine z_icmp_ge (tgt := 36) dX6_hurtBySet_14 (by decide) ⟨by omega, by omega⟩ ⟨by omega, by omega⟩ (fun h14 => ?_) (fun h14 => ?_)
    · exfalso; omega
    · skip
      refine z_iload_n dX6_hurtBySet_17 rfl ?_
      refine z_iload_n dX6_hurtBySet_18 rfl ?_
      refine z_ishr dX6_hurtBySet_19 ?_
      refine z_iconst dX6_hurtBySet_20 ?_
      refine z_iand dX6_hurtBySet_21 ?_
      refine z_if_eq (tgt := 30) dX6_hurtBySet_22 (by decide) (z_rng _) (fun h22 => ?_) (fun h22 => ?_)
      · skip
        refine z_iinc (L' := [_, _, _]) dX6_hurtBySet_30 (Nat.le_of_ble_eq_true rfl) rfl rfl rfl ?_
        refine z_goto (tgt := 6) dX6_hurtBySet_33 (by decide) ?_
        first
          | rw [show setL s (m + 1) w = w :: setL s m (w + 1) by rw [setL, if_pos (show bt s w ≠ 0 from h22)], netP_cons (τ' := z_put τ 42 (σ 17 w.toNat).toNat (τ 42 (σ 17 w.toNat).toNat + (σ 14 w.toNat - σ 15 w.toNat))) wp w17.1 (fun p h1 h2 => by rw [z_rd, if_pos rfl]; grind)]
            refine l_X6_hurtBySet hW0 m _ (w + 1) (by omega) (by omega) (fun a ha => by rw [z_put_ne ha]; exact hf a ha) (fun p hp => ?_)
            have := hb p hp
            rw [z_rd, if_pos rfl]
            split
            · subst p; omega
            · omega
          | rw [show setL s (m + 1) w = setL s m (w + 1) by rw [setL, if_neg (fun q : bt s w ≠ 0 => q h22)]]
            exact l_X6_hurtBySet hW0 m τ (w + 1) (by omega) (by omega) hf (fun p hp => by have := hb p hp; omega)
      · skip
        refine z_aload_n dX6_hurtBySet_25 rfl ?_
        refine z_iload_n dX6_hurtBySet_26 rfl ?_
        refine z_callVV (d := d + 1) (av := [_]) dX6_hurtBySet_27 vX6_68 rfl (Nat.le_of_ble_eq_true rfl) rfl rfl rfl (Nat.le_of_ble_eq_true rfl) (Nat.le_refl _) (c_X6_addToNet (by omega) (by rw [hf 17 (by decide)]; exact w17) (by rw [hf 14 (by decide)]; exact w14) (by rw [hf 15 (by decide)]; exact w15) (by rw [hf 17 (by decide)]; omega)) (fun σ27 h27 => ?_)
        rw [hf 17 (by decide), hf 14 (by decide), hf 15 (by decide)] at h27
        subst h27
        refine z_iinc (L' := [_, _, _]) dX6_hurtBySet_30 (Nat.le_of_ble_eq_true rfl) rfl rfl rfl ?_
        refine z_goto (tgt := 6) dX6_hurtBySet_33 (by decide) ?_
        first
          | rw [show setL s (m + 1) w = w :: setL s m (w + 1) by rw [setL, if_pos (show bt s w ≠ 0 from h22)], netP_cons (τ' := z_put τ 42 (σ 17 w.toNat).toNat (τ 42 (σ 17 w.toNat).toNat + (σ 14 w.toNat - σ 15 w.toNat))) wp w17.1 (fun p h1 h2 => by rw [z_rd, if_pos rfl]; grind)]
            refine l_X6_hurtBySet hW0 m _ (w + 1) (by omega) (by omega) (fun a ha => by rw [z_put_ne ha]; exact hf a ha) (fun p hp => ?_)
            have := hb p hp
            rw [z_rd, if_pos rfl]
            split
            · subst p; omega
            · omega
          | rw [show setL s (m + 1) w = setL s m (w + 1) by rw [setL, if_neg (fun q : bt s w ≠ 0 => q h22)]]
            exact l_X6_hurtBySet hW0 m τ (w + 1) (by omega) (by omega) hf (fun p hp => by have := hb p hp; omega)
set_option maxRecDepth 20000 in
theorem c_X6_hurtBySet {d : Nat} {σ : Sto} {LF : LFT} {s : Int} (hW : WC LF σ) : m_X6_hurtBySet d [zR 5, zI s] σ (qI fun z σ' => z = hurtC σ (setL s (σ 1 1).toNat 0) ∧ ∀ a, a ≠ 42 → σ' a = σ a) := by
  refine z_does (L := [some (zR 5), some (zI s), none]) rfl (by decide +kernel) (Nat.le_of_ble_eq_true rfl) rfl ?_
  refine z_aload_n dX6_hurtBySet_0 rfl ?_
  refine z_callVV (d := d + 1) (av := []) dX6_hurtBySet_1 vX6_65 rfl (Nat.le_of_ble_eq_true rfl) rfl rfl rfl (Nat.le_of_ble_eq_true rfl) (Nat.le_refl _) (c_X6_clearNet) (fun σ1 h1 => ?_)
  subst h1
  refine z_iconst dX6_hurtBySet_4 ?_
  refine z_istore_n (L' := [_, _, _]) dX6_hurtBySet_5 (Nat.le_of_ble_eq_true rfl) rfl rfl ?_
  have e : netP σ (zerS σ 42 6) (setL s (σ 1 1).toNat 0) = hurtC σ (setL s (σ 1 1).toNat 0) := bitL_cong _ _ _ (fun x h1 h2 => by have : zerS σ 42 6 42 x.toNat = 0 := if_pos ⟨rfl, by have := hW.2.2.1; omega⟩; simp only [this, Int.zero_add])
  rw [← e]
  exact l_X6_hurtBySet hW (σ 1 1).toNat _ 0 (by omega) (by have := hW.1; omega) (fun a ha => by funext b; exact if_neg (fun q => ha q.1)) (fun p hp => by rw [show zerS σ 42 6 42 p = 0 from if_pos ⟨rfl, by omega⟩]; omega)
set_option maxRecDepth 20000 in
theorem l_X6_harmLeftOf {d : Nat} {σ : Sto} {one : Int} (ho : inR one) (h14 : ∀ j, 0 ≤ σ 14 j ∧ σ 14 j ≤ 9) (h17 : ∀ j, 0 ≤ σ 17 j ∧ σ 17 j ≤ 5) (hc : σ 5 6 ≤ 13) :
    ∀ (B : List Int) (i s : Int), 0 ≤ i → Seg σ 41 i.toNat B → wok B → σ 5 6 = i + B.length → (0 ≤ s ∧ s ≤ 9 * i) →
    Z (z_me cX6_harmLeftOf RX6 4 (some .int) (d + 1) (qI fun z σ' => z = s + hlL (σ 17) (σ 14) one B ∧ σ' = σ)) 4 [some (zR 5), some (zI one), some (zI s), some (zI i)] [] σ
  | [], i, s, hi, hs, hx, hl, hb => by
    rw [List.length_nil] at hl
    refine z_iload_n dX6_harmLeftOf_4 rfl ?_
    refine z_aload_n dX6_harmLeftOf_5 rfl ?_
    refine z_getI dX6_harmLeftOf_6 gX6_49 rfl (Nat.le_of_ble_eq_true rfl) rfl (fun hr6 => ?_)
    refine z_icmp_ge (tgt := 59) dX6_harmLeftOf_9 (by decide) ⟨by omega, by omega⟩ ⟨by omega, by omega⟩ (fun h9 => ?_) (fun h9 => ?_)
    · skip
      refine z_iload_n dX6_harmLeftOf_59 rfl ?_
      exact z_iret dX6_harmLeftOf_60 ⟨by rw [hlL]; omega, rfl⟩
    · exfalso; omega
  | w :: r, i, s, hi, hs, hx, hl, hb => by
    rw [List.length_cons] at hl
    obtain ⟨e1, hs⟩ := hs
    obtain ⟨h0, hx⟩ := wok_c hx
    have h14w := h14 w.toNat
    have h17w := h17 w.toNat
    refine z_iload_n dX6_harmLeftOf_4 rfl ?_
    refine z_aload_n dX6_harmLeftOf_5 rfl ?_
    refine z_getI dX6_harmLeftOf_6 gX6_49 rfl (Nat.le_of_ble_eq_true rfl) rfl (fun hr6 => ?_)
    refine z_icmp_ge (tgt := 59) dX6_harmLeftOf_9 (by decide) ⟨by omega, by omega⟩ ⟨by omega, by omega⟩ (fun h9 => ?_) (fun h9 => ?_)
    · exfalso; omega
    · skip
      refine z_iload_n dX6_harmLeftOf_12 rfl ?_
      refine z_bipush (v := 13) dX6_harmLeftOf_13 (by decide +kernel) ?_
      refine z_icmp_ge (tgt := 59) dX6_harmLeftOf_15 (by decide) ⟨by omega, by omega⟩ ⟨by omega, by omega⟩ (fun h15 => ?_) (fun h15 => ?_)
      · exfalso; omega
      · skip
        refine z_aload_n dX6_harmLeftOf_18 rfl ?_
        refine z_getR dX6_harmLeftOf_19 gX6_9 rfl (Nat.le_of_ble_eq_true rfl) rfl ?_
        refine z_aload_n dX6_harmLeftOf_22 rfl ?_
        refine z_getR dX6_harmLeftOf_23 gX6_23 rfl (Nat.le_of_ble_eq_true rfl) rfl ?_
        refine z_iload_n dX6_harmLeftOf_26 rfl ?_
        refine z_iald dX6_harmLeftOf_27 rfl (Nat.le_of_ble_eq_true rfl) (by omega) (fun hr27 => ?_)
        rw [e1]
        refine z_iconst dX6_harmLeftOf_28 ?_
        refine z_callVI (d := d + 0) (av := [_, _]) dX6_harmLeftOf_29 vX6_31 rfl (Nat.le_of_ble_eq_true rfl) rfl rfl rfl (Nat.le_of_ble_eq_true rfl) (Nat.le_refl _) (c_X7_get4 (by omega)) (fun z29 σ29 h29 => ?_)
        obtain ⟨rfl, hs29⟩ := h29
        subst σ29
        refine z_iload_n dX6_harmLeftOf_32 rfl ?_
        refine z_icmp_ne (tgt := 53) dX6_harmLeftOf_33 (by decide) ⟨by omega, by omega⟩ ⟨by omega, by omega⟩ (fun h33 => ?_) (fun h33 => ?_)
        · skip
          refine z_iinc (L' := [_, _, _, _]) dX6_harmLeftOf_53 (Nat.le_of_ble_eq_true rfl) rfl rfl rfl ?_
          refine z_goto (tgt := 4) dX6_harmLeftOf_56 (by decide) ?_
          rw [hlL, ← Int.add_assoc]
          first
            | rw [if_pos (by omega)]; exact l_X6_harmLeftOf ho h14 h17 hc r (i + 1) _ (by omega) (by rw [toN_s hi]; exact hs) hx (by omega) (by omega)
            | rw [if_neg (by omega), Int.add_zero]; exact l_X6_harmLeftOf ho h14 h17 hc r (i + 1) _ (by omega) (by rw [toN_s hi]; exact hs) hx (by omega) (by omega)
        · skip
          refine z_iload_n dX6_harmLeftOf_36 rfl ?_
          refine z_aload_n dX6_harmLeftOf_37 rfl ?_
          refine z_getR dX6_harmLeftOf_38 gX6_9 rfl (Nat.le_of_ble_eq_true rfl) rfl ?_
          refine z_aload_n dX6_harmLeftOf_41 rfl ?_
          refine z_getR dX6_harmLeftOf_42 gX6_23 rfl (Nat.le_of_ble_eq_true rfl) rfl ?_
          refine z_iload_n dX6_harmLeftOf_45 rfl ?_
          refine z_iald dX6_harmLeftOf_46 rfl (Nat.le_of_ble_eq_true rfl) (by omega) (fun hr46 => ?_)
          rw [e1]
          refine z_iconst dX6_harmLeftOf_47 ?_
          refine z_callVI (d := d + 0) (av := [_, _]) dX6_harmLeftOf_48 vX6_31 rfl (Nat.le_of_ble_eq_true rfl) rfl rfl rfl (Nat.le_of_ble_eq_true rfl) (Nat.le_refl _) (c_X7_get1 (by omega)) (fun z48 σ48 h48 => ?_)
          obtain ⟨rfl, hs48⟩ := h48
          subst σ48
          refine z_iadd dX6_harmLeftOf_51 ?_
          refine z_istore_n (L' := [_, _, _, _]) dX6_harmLeftOf_52 (Nat.le_of_ble_eq_true rfl) rfl rfl ?_
          refine z_iinc (L' := [_, _, _, _]) dX6_harmLeftOf_53 (Nat.le_of_ble_eq_true rfl) rfl rfl rfl ?_
          refine z_goto (tgt := 4) dX6_harmLeftOf_56 (by decide) ?_
          rw [hlL, ← Int.add_assoc]
          first
            | rw [if_pos (by omega)]; exact l_X6_harmLeftOf ho h14 h17 hc r (i + 1) _ (by omega) (by rw [toN_s hi]; exact hs) hx (by omega) (by omega)
            | rw [if_neg (by omega), Int.add_zero]; exact l_X6_harmLeftOf ho h14 h17 hc r (i + 1) _ (by omega) (by rw [toN_s hi]; exact hs) hx (by omega) (by omega)
set_option maxRecDepth 20000 in
theorem c_X6_harmLeftOf {d : Nat} {σ : Sto} {LF : LFT} {one : Int} {B : List Int} (hW : WC LF σ) (ho : inR one) (hB : σ 5 6 = B.length) (hl : B.length ≤ 13) (sB : Seg σ 41 0 B) (hx : wok B) : m_X6_harmLeftOf d [zR 5, zI one] σ (qI fun z σ' => z = hlL (σ 17) (σ 14) one B ∧ σ' = σ) := by
  refine z_does (L := [some (zR 5), some (zI one), none, none]) rfl (by decide +kernel) (Nat.le_of_ble_eq_true rfl) rfl ?_
  refine z_iconst dX6_harmLeftOf_0 ?_
  refine z_istore_n (L' := [_, _, _, _]) dX6_harmLeftOf_1 (Nat.le_of_ble_eq_true rfl) rfl rfl ?_
  refine z_iconst dX6_harmLeftOf_2 ?_
  refine z_istore_n (L' := [_, _, _, _]) dX6_harmLeftOf_3 (Nat.le_of_ble_eq_true rfl) rfl rfl ?_
  have h := l_X6_harmLeftOf (d := d) ho hW.2.2.2.2.1 hW.2.2.2.2.2.2.2.1 (by omega) B 0 0 (by omega) sB hx (by omega) (by omega)
  rw [Int.zero_add] at h
  exact h
set_option maxRecDepth 20000 in
theorem l_X6_somethingCameOf {d : Nat} {σ : Sto} {one : Int} (ho : inR one) (h17 : ∀ j, 0 ≤ σ 17 j ∧ σ 17 j ≤ 5) (hc : σ 5 5 ≤ 13) :
    ∀ (A : List Int) (i : Int), 0 ≤ i → Seg σ 40 i.toNat A → wok A → σ 5 5 = i + A.length →
    Z (z_me cX6_somethingCameOf RX6 3 (some .boolean) (d + 1) (qI fun z σ' => z = (if anyL (σ 17) one A then 1 else 0) ∧ σ' = σ)) 2 [some (zR 5), some (zI one), some (zI i)] [] σ
  | [], i, hi, hs, hx, hl => by
    rw [List.length_nil] at hl
    refine z_iload_n dX6_somethingCameOf_2 rfl ?_
    refine z_aload_n dX6_somethingCameOf_3 rfl ?_
    refine z_getI dX6_somethingCameOf_4 gX6_45 rfl (Nat.le_of_ble_eq_true rfl) rfl (fun hr4 => ?_)
    refine z_icmp_ge (tgt := 42) dX6_somethingCameOf_7 (by decide) ⟨by omega, by omega⟩ ⟨by omega, by omega⟩ (fun h7 => ?_) (fun h7 => ?_)
    · skip
      refine z_iconst dX6_somethingCameOf_42 ?_
      exact z_zret dX6_somethingCameOf_43 (by omega) ⟨rfl, rfl⟩
    · exfalso; omega
  | w :: r, i, hi, hs, hx, hl => by
    rw [List.length_cons] at hl
    obtain ⟨e1, hs⟩ := hs
    obtain ⟨h0, hx⟩ := wok_c hx
    have h17w := h17 w.toNat
    refine z_iload_n dX6_somethingCameOf_2 rfl ?_
    refine z_aload_n dX6_somethingCameOf_3 rfl ?_
    refine z_getI dX6_somethingCameOf_4 gX6_45 rfl (Nat.le_of_ble_eq_true rfl) rfl (fun hr4 => ?_)
    refine z_icmp_ge (tgt := 42) dX6_somethingCameOf_7 (by decide) ⟨by omega, by omega⟩ ⟨by omega, by omega⟩ (fun h7 => ?_) (fun h7 => ?_)
    · exfalso; omega
    · skip
      refine z_iload_n dX6_somethingCameOf_10 rfl ?_
      refine z_bipush (v := 13) dX6_somethingCameOf_11 (by decide +kernel) ?_
      refine z_icmp_ge (tgt := 42) dX6_somethingCameOf_13 (by decide) ⟨by omega, by omega⟩ ⟨by omega, by omega⟩ (fun h13 => ?_) (fun h13 => ?_)
      · exfalso; omega
      · skip
        refine z_aload_n dX6_somethingCameOf_16 rfl ?_
        refine z_getR dX6_somethingCameOf_17 gX6_9 rfl (Nat.le_of_ble_eq_true rfl) rfl ?_
        refine z_aload_n dX6_somethingCameOf_20 rfl ?_
        refine z_getR dX6_somethingCameOf_21 gX6_19 rfl (Nat.le_of_ble_eq_true rfl) rfl ?_
        refine z_iload_n dX6_somethingCameOf_24 rfl ?_
        refine z_iald dX6_somethingCameOf_25 rfl (Nat.le_of_ble_eq_true rfl) (by omega) (fun hr25 => ?_)
        rw [e1]
        refine z_iconst dX6_somethingCameOf_26 ?_
        refine z_callVI (d := d + 0) (av := [_, _]) dX6_somethingCameOf_27 vX6_31 rfl (Nat.le_of_ble_eq_true rfl) rfl rfl rfl (Nat.le_of_ble_eq_true rfl) (Nat.le_refl _) (c_X7_get4 (by omega)) (fun z27 σ27 h27 => ?_)
        obtain ⟨rfl, hs27⟩ := h27
        subst σ27
        refine z_iload_n dX6_somethingCameOf_30 rfl ?_
        refine z_icmp_ne (tgt := 36) dX6_somethingCameOf_31 (by decide) ⟨by omega, by omega⟩ ⟨by omega, by omega⟩ (fun h31 => ?_) (fun h31 => ?_)
        · skip
          refine z_iinc (L' := [_, _, _]) dX6_somethingCameOf_36 (Nat.le_of_ble_eq_true rfl) rfl rfl rfl ?_
          refine z_goto (tgt := 2) dX6_somethingCameOf_39 (by decide) ?_
          rw [show anyL (σ 17) one (w :: r) = anyL (σ 17) one r by rw [anyL, if_neg (by omega)]]
          exact l_X6_somethingCameOf ho h17 hc r (i + 1) (by omega) (by rw [toN_s hi]; exact hs) hx (by omega)
        · skip
          refine z_iconst dX6_somethingCameOf_34 ?_
          exact z_zret dX6_somethingCameOf_35 (by omega) ⟨by rw [show anyL (σ 17) one (w :: r) = true by rw [anyL, if_pos (by omega)]]; rfl, rfl⟩
set_option maxRecDepth 20000 in
theorem c_X6_somethingCameOf {d : Nat} {σ : Sto} {LF : LFT} {one : Int} {A : List Int} (hW : WC LF σ) (ho : inR one) (hA : σ 5 5 = A.length) (hl : A.length ≤ 13) (sA : Seg σ 40 0 A) (hx : wok A) : m_X6_somethingCameOf d [zR 5, zI one] σ (qI fun z σ' => z = (if anyL (σ 17) one A then 1 else 0) ∧ σ' = σ) := by
  refine z_does (L := [some (zR 5), some (zI one), none]) rfl (by decide +kernel) (Nat.le_of_ble_eq_true rfl) rfl ?_
  refine z_iconst dX6_somethingCameOf_0 ?_
  refine z_istore_n (L' := [_, _, _]) dX6_somethingCameOf_1 (Nat.le_of_ble_eq_true rfl) rfl rfl ?_
  exact l_X6_somethingCameOf ho hW.2.2.2.2.2.2.2.1 (by omega) A 0 (by omega) sA hx (by omega)
set_option maxRecDepth 20000 in
theorem l_X6_mostHarmLeftOf {d : Nat} {σ : Sto} {LF : LFT} {B : List Int} (hW : WC LF σ) (hB : σ 5 6 = B.length) (hl : B.length ≤ 13) (sB : Seg σ 41 0 B) (hx : wok B) :
    ∀ (m : Nat) (p who most : Int), 0 ≤ p → p + m = 6 → inR who → inR most →
    Z (z_me cX6_mostHarmLeftOf RX6 5 (some .int) (d + 2) (qI fun z σ' => z = mhL (fun p => hlL (σ 17) (σ 14) p B) m p who most ∧ σ' = σ)) 7 [some (zR 5), some (zI who), some (zI most), some (zI p), none] [] σ
  | 0, p, who, most, h0, h1, ha, hb => by
    refine z_iload_n dX6_mostHarmLeftOf_7 rfl ?_
    refine z_bipush (v := 6) dX6_mostHarmLeftOf_8 (by decide +kernel) ?_
    refine z_icmp_ge (tgt := 37) dX6_mostHarmLeftOf_10 (by decide) ⟨by omega, by omega⟩ ⟨by omega, by omega⟩ (fun h10 => ?_) (fun h10 => ?_)
    · skip
      refine z_iload_n dX6_mostHarmLeftOf_37 rfl ?_
      exact z_iret dX6_mostHarmLeftOf_38 ⟨rfl, rfl⟩
    · exfalso; omega
  | m + 1, p, who, most, h0, h1, ha, hb => by
    have hr := hlL_R hW.2.2.2.2.1 B (A4 := σ 17) (p := p)
    refine z_iload_n dX6_mostHarmLeftOf_7 rfl ?_
    refine z_bipush (v := 6) dX6_mostHarmLeftOf_8 (by decide +kernel) ?_
    refine z_icmp_ge (tgt := 37) dX6_mostHarmLeftOf_10 (by decide) ⟨by omega, by omega⟩ ⟨by omega, by omega⟩ (fun h10 => ?_) (fun h10 => ?_)
    · exfalso; omega
    · skip
      refine z_aload_n dX6_mostHarmLeftOf_13 rfl ?_
      refine z_iload_n dX6_mostHarmLeftOf_14 rfl ?_
      refine z_callVI (d := d + 1) (av := [_]) dX6_mostHarmLeftOf_15 vX6_82 rfl (Nat.le_of_ble_eq_true rfl) rfl rfl rfl (Nat.le_of_ble_eq_true rfl) (Nat.le_refl _) (c_X6_harmLeftOf hW (by omega) hB hl sB hx) (fun z15 σ15 h15 => ?_)
      obtain ⟨rfl, hs15⟩ := h15
      subst σ15
      refine z_istore (L' := [_, _, _, _, _]) dX6_mostHarmLeftOf_18 (Nat.le_of_ble_eq_true rfl) rfl rfl ?_
      refine z_iload dX6_mostHarmLeftOf_20 rfl ?_
      refine z_iload_n dX6_mostHarmLeftOf_22 rfl ?_
      refine z_icmp_le (tgt := 31) dX6_mostHarmLeftOf_23 (by decide) ⟨by omega, by omega⟩ ⟨by omega, by omega⟩ (fun h23 => ?_) (fun h23 => ?_)
      · skip
        refine z_iinc (L' := [_, _, _, _, _]) dX6_mostHarmLeftOf_31 (Nat.le_of_ble_eq_true rfl) rfl rfl rfl ?_
        refine z_goto (tgt := 7) dX6_mostHarmLeftOf_34 (by decide) ?_
        refine z_forget [true, true, true, true, false] (L' := [_, _, _, _, _]) rfl ?_
        rw [mhL]
        first
          | rw [if_pos (by omega)]; exact l_X6_mostHarmLeftOf hW hB hl sB hx m (p + 1) _ _ (by omega) (by omega) (by omega) (by omega)
          | rw [if_neg (by omega)]; exact l_X6_mostHarmLeftOf hW hB hl sB hx m (p + 1) _ _ (by omega) (by omega) (by omega) (by omega)
      · skip
        refine z_iload dX6_mostHarmLeftOf_26 rfl ?_
        refine z_istore_n (L' := [_, _, _, _, _]) dX6_mostHarmLeftOf_28 (Nat.le_of_ble_eq_true rfl) rfl rfl ?_
        refine z_iload_n dX6_mostHarmLeftOf_29 rfl ?_
        refine z_istore_n (L' := [_, _, _, _, _]) dX6_mostHarmLeftOf_30 (Nat.le_of_ble_eq_true rfl) rfl rfl ?_
        refine z_iinc (L' := [_, _, _, _, _]) dX6_mostHarmLeftOf_31 (Nat.le_of_ble_eq_true rfl) rfl rfl rfl ?_
        refine z_goto (tgt := 7) dX6_mostHarmLeftOf_34 (by decide) ?_
        refine z_forget [true, true, true, true, false] (L' := [_, _, _, _, _]) rfl ?_
        rw [mhL]
        first
          | rw [if_pos (by omega)]; exact l_X6_mostHarmLeftOf hW hB hl sB hx m (p + 1) _ _ (by omega) (by omega) (by omega) (by omega)
          | rw [if_neg (by omega)]; exact l_X6_mostHarmLeftOf hW hB hl sB hx m (p + 1) _ _ (by omega) (by omega) (by omega) (by omega)
set_option maxRecDepth 20000 in
theorem c_X6_mostHarmLeftOf {d : Nat} {σ : Sto} {LF : LFT} {B : List Int} (hW : WC LF σ) (hB : σ 5 6 = B.length) (hl : B.length ≤ 13) (sB : Seg σ 41 0 B) (hx : wok B) : m_X6_mostHarmLeftOf d [zR 5] σ (qI fun z σ' => z = mhL (fun p => hlL (σ 17) (σ 14) p B) 6 0 (-2) 0 ∧ σ' = σ) := by
  refine z_does (L := [some (zR 5), none, none, none, none]) rfl (by decide +kernel) (Nat.le_of_ble_eq_true rfl) rfl ?_
  refine z_bipush (v := -2) dX6_mostHarmLeftOf_0 (by decide +kernel) ?_
  refine z_istore_n (L' := [_, _, _, _, _]) dX6_mostHarmLeftOf_2 (Nat.le_of_ble_eq_true rfl) rfl rfl ?_
  refine z_iconst dX6_mostHarmLeftOf_3 ?_
  refine z_istore_n (L' := [_, _, _, _, _]) dX6_mostHarmLeftOf_4 (Nat.le_of_ble_eq_true rfl) rfl rfl ?_
  refine z_iconst dX6_mostHarmLeftOf_5 ?_
  refine z_istore_n (L' := [_, _, _, _, _]) dX6_mostHarmLeftOf_6 (Nat.le_of_ble_eq_true rfl) rfl rfl ?_
  exact l_X6_mostHarmLeftOf hW hB hl sB hx 6 0 (-2) 0 (by omega) (by omega) (by omega) (by omega)
set_option maxRecDepth 20000 in
theorem l_X6_spite {d : Nat} {σ : Sto} {LF : LFT} {A B : List Int} (hW : WC LF σ) (hA : σ 5 5 = A.length) (hlA : A.length ≤ 13) (sA : Seg σ 40 0 A) (hxA : wok A) (hB : σ 5 6 = B.length) (hl : B.length ≤ 13) (sB : Seg σ 41 0 B) (hx : wok B) :
    ∀ (m : Nat) (p acc : Int), 0 ≤ p → p + m = 6 → inR acc →
    Z (z_me cX6_spite RX6 3 (some .int) (d + 2) (qI fun z σ' => z = bitL (fun p => decide (hlL (σ 17) (σ 14) p B > 0) && !anyL (σ 17) p A) m p acc ∧ σ' = σ)) 4 [some (zR 5), some (zI acc), some (zI p)] [] σ
  | 0, p, acc, h0, h1, ha => by
    refine z_iload_n dX6_spite_4 rfl ?_
    refine z_bipush (v := 6) dX6_spite_5 (by decide +kernel) ?_
    refine z_icmp_ge (tgt := 38) dX6_spite_7 (by decide) ⟨by omega, by omega⟩ ⟨by omega, by omega⟩ (fun h7 => ?_) (fun h7 => ?_)
    · skip
      refine z_iload_n dX6_spite_38 rfl ?_
      exact z_iret dX6_spite_39 ⟨rfl, rfl⟩
    · exfalso; omega
  | m + 1, p, acc, h0, h1, ha => by
    have hr := hlL_R hW.2.2.2.2.1 B (A4 := σ 17) (p := p)
    refine z_iload_n dX6_spite_4 rfl ?_
    refine z_bipush (v := 6) dX6_spite_5 (by decide +kernel) ?_
    refine z_icmp_ge (tgt := 38) dX6_spite_7 (by decide) ⟨by omega, by omega⟩ ⟨by omega, by omega⟩ (fun h7 => ?_) (fun h7 => ?_)
    · exfalso; omega
    · skip
      refine z_aload_n dX6_spite_10 rfl ?_
      refine z_iload_n dX6_spite_11 rfl ?_
      refine z_callVI (d := d + 1) (av := [_]) dX6_spite_12 vX6_82 rfl (Nat.le_of_ble_eq_true rfl) rfl rfl rfl (Nat.le_of_ble_eq_true rfl) (Nat.le_refl _) (c_X6_harmLeftOf hW (by omega) hB hl sB hx) (fun z12 σ12 h12 => ?_)
      obtain ⟨rfl, hs12⟩ := h12
      subst σ12
      refine z_if_le (tgt := 32) dX6_spite_15 (by decide) ⟨by omega, by omega⟩ (fun h15 => ?_) (fun h15 => ?_)
      · skip
        refine z_iinc (L' := [_, _, _]) dX6_spite_32 (Nat.le_of_ble_eq_true rfl) rfl rfl rfl ?_
        refine z_goto (tgt := 4) dX6_spite_35 (by decide) ?_
        rw [bitL]
        first
          | rw [if_neg (by rw [decide_eq_false (by omega)]; exact Bool.false_ne_true)]; exact l_X6_spite hW hA hlA sA hxA hB hl sB hx m (p + 1) _ (by omega) (by omega) (by omega)
          | (rw [decide_eq_true (by omega)]
             cases hany : anyL (σ 17) p A
             · rw [hany] at h23
               first
                 | exact absurd rfl h23
                 | exact l_X6_spite hW hA hlA sA hxA hB hl sB hx m (p + 1) _ (by omega) (by omega) (z_rng _)
             · rw [hany] at h23
               first
                 | exact absurd h23 (by decide)
                 | exact l_X6_spite hW hA hlA sA hxA hB hl sB hx m (p + 1) _ (by omega) (by omega) ha)
      · skip
        refine z_aload_n dX6_spite_18 rfl ?_
        refine z_iload_n dX6_spite_19 rfl ?_
        refine z_callVI (d := d + 1) (av := [_]) dX6_spite_20 vX6_86 rfl (Nat.le_of_ble_eq_true rfl) rfl rfl rfl (Nat.le_of_ble_eq_true rfl) (Nat.le_refl _) (c_X6_somethingCameOf hW (by omega) hA hlA sA hxA) (fun z20 σ20 h20 => ?_)
        obtain ⟨rfl, hs20⟩ := h20
        subst σ20
        refine z_if_ne (tgt := 32) dX6_spite_23 (by decide) (by split <;> exact ⟨by decide, by decide⟩) (fun h23 => ?_) (fun h23 => ?_)
        · skip
          refine z_iinc (L' := [_, _, _]) dX6_spite_32 (Nat.le_of_ble_eq_true rfl) rfl rfl rfl ?_
          refine z_goto (tgt := 4) dX6_spite_35 (by decide) ?_
          rw [bitL]
          first
            | rw [if_neg (by rw [decide_eq_false (by omega)]; exact Bool.false_ne_true)]; exact l_X6_spite hW hA hlA sA hxA hB hl sB hx m (p + 1) _ (by omega) (by omega) (by omega)
            | (rw [decide_eq_true (by omega)]
               cases hany : anyL (σ 17) p A
               · rw [hany] at h23
                 first
                   | exact absurd rfl h23
                   | exact l_X6_spite hW hA hlA sA hxA hB hl sB hx m (p + 1) _ (by omega) (by omega) (z_rng _)
               · rw [hany] at h23
                 first
                   | exact absurd h23 (by decide)
                   | exact l_X6_spite hW hA hlA sA hxA hB hl sB hx m (p + 1) _ (by omega) (by omega) ha)
        · skip
          refine z_iload_n dX6_spite_26 rfl ?_
          refine z_iconst dX6_spite_27 ?_
          refine z_iload_n dX6_spite_28 rfl ?_
          refine z_ishl dX6_spite_29 ?_
          refine z_ior dX6_spite_30 ?_
          refine z_istore_n (L' := [_, _, _]) dX6_spite_31 (Nat.le_of_ble_eq_true rfl) rfl rfl ?_
          refine z_iinc (L' := [_, _, _]) dX6_spite_32 (Nat.le_of_ble_eq_true rfl) rfl rfl rfl ?_
          refine z_goto (tgt := 4) dX6_spite_35 (by decide) ?_
          rw [bitL]
          first
            | rw [if_neg (by rw [decide_eq_false (by omega)]; exact Bool.false_ne_true)]; exact l_X6_spite hW hA hlA sA hxA hB hl sB hx m (p + 1) _ (by omega) (by omega) (by omega)
            | (rw [decide_eq_true (by omega)]
               cases hany : anyL (σ 17) p A
               · rw [hany] at h23
                 first
                   | exact absurd rfl h23
                   | exact l_X6_spite hW hA hlA sA hxA hB hl sB hx m (p + 1) _ (by omega) (by omega) (z_rng _)
               · rw [hany] at h23
                 first
                   | exact absurd h23 (by decide)
                   | exact l_X6_spite hW hA hlA sA hxA hB hl sB hx m (p + 1) _ (by omega) (by omega) ha)
set_option maxRecDepth 20000 in
theorem c_X6_spite {d : Nat} {σ : Sto} {LF : LFT} {A B : List Int} (hW : WC LF σ) (hA : σ 5 5 = A.length) (hlA : A.length ≤ 13) (sA : Seg σ 40 0 A) (hxA : wok A) (hB : σ 5 6 = B.length) (hl : B.length ≤ 13) (sB : Seg σ 41 0 B) (hx : wok B) : m_X6_spite d [zR 5] σ (qI fun z σ' => z = bitL (fun p => decide (hlL (σ 17) (σ 14) p B > 0) && !anyL (σ 17) p A) 6 0 0 ∧ σ' = σ) := by
  refine z_does (L := [some (zR 5), none, none]) rfl (by decide +kernel) (Nat.le_of_ble_eq_true rfl) rfl ?_
  refine z_iconst dX6_spite_0 ?_
  refine z_istore_n (L' := [_, _, _]) dX6_spite_1 (Nat.le_of_ble_eq_true rfl) rfl rfl ?_
  refine z_iconst dX6_spite_2 ?_
  refine z_istore_n (L' := [_, _, _]) dX6_spite_3 (Nat.le_of_ble_eq_true rfl) rfl rfl ?_
  exact l_X6_spite hW hA hlA sA hxA hB hl sB hx 6 0 0 (by omega) (by omega) (by omega)
set_option maxRecDepth 20000 in
theorem l_X6_keepsJust {d : Nat} {σ : Sto} {LF : LFT} {s f : Int} (hW : WC LF σ) (hf : -1 ≤ f ∧ f ≤ 9) :
    ∀ (m : Nat) (τ : Sto) (w : Int), 0 ≤ w → w + m = σ 1 1 → (∀ a, a ≠ 28 → a ≠ 29 → τ a = σ a) →
    Z (z_me cX6_keepsJust RX6 5 (some .boolean) (d + 3) (qI fun z σ' => z = (if keepL (fun w => pasC LF σ f w 0 0) s m w then 1 else 0) ∧ ∀ a, a ≠ 28 → a ≠ 29 → σ' a = σ a)) 2 [some (zR 5), some (zI s), some (zI f), some (zI w), none] [] τ
  | 0, τ, w, hw, hl, hk => by
    have e1 : τ 1 = σ 1 := hk 1 (by decide) (by decide)
    have w1 := hW.1
    refine z_iload_n dX6_keepsJust_2 rfl ?_
    refine z_aload_n dX6_keepsJust_3 rfl ?_
    refine z_getR dX6_keepsJust_4 gX6_9 rfl (Nat.le_of_ble_eq_true rfl) rfl ?_
    refine z_getI dX6_keepsJust_7 gX6_76 rfl (Nat.le_of_ble_eq_true rfl) rfl (fun hr7 => ?_)
    try simp only [e1, z_rd, Nat.reduceEqDiff, ↓reduceIte, eq_self] at hr7 ⊢
    refine z_icmp_ge (tgt := 49) dX6_keepsJust_10 (by decide) ⟨by omega, by omega⟩ ⟨by omega, by omega⟩ (fun h10 => ?_) (fun h10 => ?_)
    · skip
      refine z_iconst dX6_keepsJust_49 ?_
      exact z_zret dX6_keepsJust_50 (by omega) ⟨rfl, hk⟩
    · exfalso; omega
  | m + 1, τ, w, hw, hl, hk => by
    have e1 : τ 1 = σ 1 := hk 1 (by decide) (by decide)
    have w1 := hW.1
    have hWt : WC LF τ := hW.keep e1 (hk 3 (by decide) (by decide)) (hk 27 (by decide) (by decide)) (fun a h1 h2 => hk a (by omega) (by omega))
    have ep : pasC LF τ f = pasC LF σ f := pas_cong (hk 3 (by decide) (by decide)) (hk 13 (by decide) (by decide)) (hk 14 (by decide) (by decide)) (hk 15 (by decide) (by decide)) (hk 20 (by decide) (by decide))
    refine z_iload_n dX6_keepsJust_2 rfl ?_
    refine z_aload_n dX6_keepsJust_3 rfl ?_
    refine z_getR dX6_keepsJust_4 gX6_9 rfl (Nat.le_of_ble_eq_true rfl) rfl ?_
    refine z_getI dX6_keepsJust_7 gX6_76 rfl (Nat.le_of_ble_eq_true rfl) rfl (fun hr7 => ?_)
    try simp only [e1, z_rd, Nat.reduceEqDiff, ↓reduceIte, eq_self] at hr7 ⊢
    refine z_icmp_ge (tgt := 49) dX6_keepsJust_10 (by decide) ⟨by omega, by omega⟩ ⟨by omega, by omega⟩ (fun h10 => ?_) (fun h10 => ?_)
    · exfalso; omega
    · skip
      refine z_iload_n dX6_keepsJust_13 rfl ?_
      refine z_iload_n dX6_keepsJust_14 rfl ?_
      refine z_ishr dX6_keepsJust_15 ?_
      refine z_iconst dX6_keepsJust_16 ?_
      refine z_iand dX6_keepsJust_17 ?_
      refine z_if_eq (tgt := 25) dX6_keepsJust_18 (by decide) (z_rng _) (fun h18 => ?_) (fun h18 => ?_)
      · skip
        refine z_iconst dX6_keepsJust_25 ?_
        refine z_istore (L' := [_, _, _, _, _]) dX6_keepsJust_26 (Nat.le_of_ble_eq_true rfl) rfl rfl ?_
        refine z_aload_n dX6_keepsJust_28 rfl ?_
        refine z_iload_n dX6_keepsJust_29 rfl ?_
        refine z_iload_n dX6_keepsJust_30 rfl ?_
        refine z_iconst dX6_keepsJust_31 ?_
        refine z_iconst dX6_keepsJust_32 ?_
        refine z_callVI (d := d + 2) (av := [_, _, _, _]) dX6_keepsJust_33 vX6_52 rfl (Nat.le_of_ble_eq_true rfl) rfl rfl rfl (Nat.le_of_ble_eq_true rfl) (Nat.le_refl _) (c_X6_passes (LF := LF) hWt (by omega) hf (by omega) (by omega)) (fun z33 σ33 h33 => ?_)
        obtain ⟨hps, hfr⟩ := h33
        rw [ep] at hps
        refine z_iload dX6_keepsJust_36 rfl ?_
        refine z_icmp_ne (tgt := 43) dX6_keepsJust_38 (by decide) (by omega) (by omega) (fun h38 => ?_) (fun h38 => ?_)
        · skip
          refine z_iinc (L' := [_, _, _, _, _]) dX6_keepsJust_43 (Nat.le_of_ble_eq_true rfl) rfl rfl rfl ?_
          refine z_goto (tgt := 2) dX6_keepsJust_46 (by decide) ?_
          refine z_forget [true, true, true, true, false] (L' := [_, _, _, _, _]) rfl ?_
          have hne : ¬ (pasC LF σ f w 0 0 = decide (bt s w ≠ 0)) := by
            intro q
            rcases hps with ⟨q1, q2⟩ | ⟨q1, q2⟩
            · rw [q2] at q
              have q3 : bt s w ≠ 0 := of_decide_eq_true q.symm
              first | (exact q3 h18) | omega
            · rw [q2] at q
              have q3 : ¬ bt s w ≠ 0 := of_decide_eq_false q.symm
              first | (exact q3 h18) | omega
          rw [show keepL (fun w => pasC LF σ f w 0 0) s (m + 1) w = keepL (fun w => pasC LF σ f w 0 0) s m (w + 1) by rw [keepL, if_neg hne]]
          exact l_X6_keepsJust hW hf m σ33 (w + 1) (by omega) (by omega) (fun a h1 h2 => by rw [hfr a h1 h2]; exact hk a h1 h2)
        · skip
          refine z_iconst dX6_keepsJust_41 ?_
          exact z_zret dX6_keepsJust_42 (by omega) ⟨by rw [show keepL (fun w => pasC LF σ f w 0 0) s (m + 1) w = false by rw [keepL, if_pos (show pasC LF σ f w 0 0 = decide (bt s w ≠ 0) by rcases hps with ⟨q1, q2⟩ | ⟨q1, q2⟩ <;> rw [q2] <;> first | (exact (decide_eq_true (show bt s w ≠ 0 from h18)).symm) | (exact (decide_eq_false (fun q : bt s w ≠ 0 => q h18)).symm) | (exfalso; omega))]]; rfl, fun a h1 h2 => by rw [hfr a h1 h2]; exact hk a h1 h2⟩
      · skip
        refine z_iconst dX6_keepsJust_21 ?_
        refine z_goto (tgt := 26) dX6_keepsJust_22 (by decide) ?_
        refine z_istore (L' := [_, _, _, _, _]) dX6_keepsJust_26 (Nat.le_of_ble_eq_true rfl) rfl rfl ?_
        refine z_aload_n dX6_keepsJust_28 rfl ?_
        refine z_iload_n dX6_keepsJust_29 rfl ?_
        refine z_iload_n dX6_keepsJust_30 rfl ?_
        refine z_iconst dX6_keepsJust_31 ?_
        refine z_iconst dX6_keepsJust_32 ?_
        refine z_callVI (d := d + 2) (av := [_, _, _, _]) dX6_keepsJust_33 vX6_52 rfl (Nat.le_of_ble_eq_true rfl) rfl rfl rfl (Nat.le_of_ble_eq_true rfl) (Nat.le_refl _) (c_X6_passes (LF := LF) hWt (by omega) hf (by omega) (by omega)) (fun z33 σ33 h33 => ?_)
        obtain ⟨hps, hfr⟩ := h33
        rw [ep] at hps
        refine z_iload dX6_keepsJust_36 rfl ?_
        refine z_icmp_ne (tgt := 43) dX6_keepsJust_38 (by decide) (by omega) (by omega) (fun h38 => ?_) (fun h38 => ?_)
        · skip
          refine z_iinc (L' := [_, _, _, _, _]) dX6_keepsJust_43 (Nat.le_of_ble_eq_true rfl) rfl rfl rfl ?_
          refine z_goto (tgt := 2) dX6_keepsJust_46 (by decide) ?_
          refine z_forget [true, true, true, true, false] (L' := [_, _, _, _, _]) rfl ?_
          have hne : ¬ (pasC LF σ f w 0 0 = decide (bt s w ≠ 0)) := by
            intro q
            rcases hps with ⟨q1, q2⟩ | ⟨q1, q2⟩
            · rw [q2] at q
              have q3 : bt s w ≠ 0 := of_decide_eq_true q.symm
              first | (exact q3 h18) | omega
            · rw [q2] at q
              have q3 : ¬ bt s w ≠ 0 := of_decide_eq_false q.symm
              first | (exact q3 h18) | omega
          rw [show keepL (fun w => pasC LF σ f w 0 0) s (m + 1) w = keepL (fun w => pasC LF σ f w 0 0) s m (w + 1) by rw [keepL, if_neg hne]]
          exact l_X6_keepsJust hW hf m σ33 (w + 1) (by omega) (by omega) (fun a h1 h2 => by rw [hfr a h1 h2]; exact hk a h1 h2)
        · skip
          refine z_iconst dX6_keepsJust_41 ?_
          exact z_zret dX6_keepsJust_42 (by omega) ⟨by rw [show keepL (fun w => pasC LF σ f w 0 0) s (m + 1) w = false by rw [keepL, if_pos (show pasC LF σ f w 0 0 = decide (bt s w ≠ 0) by rcases hps with ⟨q1, q2⟩ | ⟨q1, q2⟩ <;> rw [q2] <;> first | (exact (decide_eq_true (show bt s w ≠ 0 from h18)).symm) | (exact (decide_eq_false (fun q : bt s w ≠ 0 => q h18)).symm) | (exfalso; omega))]]; rfl, fun a h1 h2 => by rw [hfr a h1 h2]; exact hk a h1 h2⟩
set_option maxRecDepth 20000 in
theorem c_X6_keepsJust {d : Nat} {σ : Sto} {LF : LFT} {s f : Int} (hW : WC LF σ) (hf : -1 ≤ f ∧ f ≤ 9) : m_X6_keepsJust d [zR 5, zI s, zI f] σ (qI fun z σ' => z = (if keepL (fun w => pasC LF σ f w 0 0) s (σ 1 1).toNat 0 then 1 else 0) ∧ ∀ a, a ≠ 28 → a ≠ 29 → σ' a = σ a) := by
  refine z_does (L := [some (zR 5), some (zI s), some (zI f), none, none]) rfl (by decide +kernel) (Nat.le_of_ble_eq_true rfl) rfl ?_
  refine z_iconst dX6_keepsJust_0 ?_
  refine z_istore_n (L' := [_, _, _, _, _]) dX6_keepsJust_1 (Nat.le_of_ble_eq_true rfl) rfl rfl ?_
  exact l_X6_keepsJust hW hf (σ 1 1).toNat σ 0 (by omega) (by have := hW.1; omega) (fun _ _ _ => rfl)
