/-! ===== The reference's questions: meant ===== -/
set_option maxRecDepth 20000 in
theorem l_X9_harmOf {d : Nat} {σ : Sto} {p : Int} (hp : inR p) (h83 : ∀ j, 0 ≤ σ 83 j ∧ σ 83 j ≤ 9) (h86 : ∀ j, 0 ≤ σ 86 j ∧ σ 86 j ≤ 5) (n : Int) (hn : n ≤ 13) (h39 : σ 9 39 = n) :
    ∀ (X : List Int) (i acc : Int), 0 ≤ i → i + X.length = n → wok X → Seg σ 105 i.toNat X → 0 ≤ acc ∧ acc ≤ 9 * i →
    Z (z_me cX9_harmOf RX9 4 (some .int) (d + 0) (qI fun z σ' => z = acc + hlL (σ 86) (σ 83) p X ∧ σ' = σ)) 4 [some (zR 9), some (zI p), some (zI acc), some (zI i)] [] σ
  | [], i, acc, h0, hl, hx, hs, ha => by
    rw [List.length_nil] at hl
    refine z_iload_n dX9_harmOf_4 rfl ?_
    refine z_aload_n dX9_harmOf_5 rfl ?_
    refine z_getI dX9_harmOf_6 gX9_283 rfl (Nat.le_of_ble_eq_true rfl) rfl (fun hr6 => ?_)
    refine z_icmp_ge (tgt := 47) dX9_harmOf_9 (by decide) ⟨by omega, by omega⟩ ⟨by omega, by omega⟩ (fun h9 => ?_) (fun h9 => ?_)
    · skip
      refine z_iload_n dX9_harmOf_47 rfl ?_
      exact z_iret dX9_harmOf_48 ⟨by rw [hlL]; omega, rfl⟩
    · exfalso; omega
  | w :: r, i, acc, h0, hl, hx, hs, ha => by
    rw [List.length_cons] at hl
    obtain ⟨e1, hs⟩ := hs
    obtain ⟨hw, hx⟩ := wok_c hx
    have w83 := h83 w.toNat
    have w86 := h86 w.toNat
    refine z_iload_n dX9_harmOf_4 rfl ?_
    refine z_aload_n dX9_harmOf_5 rfl ?_
    refine z_getI dX9_harmOf_6 gX9_283 rfl (Nat.le_of_ble_eq_true rfl) rfl (fun hr6 => ?_)
    refine z_icmp_ge (tgt := 47) dX9_harmOf_9 (by decide) ⟨by omega, by omega⟩ ⟨by omega, by omega⟩ (fun h9 => ?_) (fun h9 => ?_)
    · exfalso; omega
    · skip
      refine z_aload_n dX9_harmOf_12 rfl ?_
      refine z_getR dX9_harmOf_13 gX9_24 rfl (Nat.le_of_ble_eq_true rfl) rfl ?_
      refine z_aload_n dX9_harmOf_16 rfl ?_
      refine z_getR dX9_harmOf_17 gX9_87 rfl (Nat.le_of_ble_eq_true rfl) rfl ?_
      refine z_iload_n dX9_harmOf_20 rfl ?_
      refine z_iald dX9_harmOf_21 rfl (Nat.le_of_ble_eq_true rfl) (by omega) (fun hr21 => ?_)
      rw [e1]
      refine z_iald dX9_harmOf_22 rfl (Nat.le_of_ble_eq_true rfl) (by omega) (fun hr22 => ?_)
      refine z_iload_n dX9_harmOf_23 rfl ?_
      refine z_icmp_ne (tgt := 41) dX9_harmOf_24 (by decide) ⟨by omega, by omega⟩ ⟨by omega, by omega⟩ (fun h24 => ?_) (fun h24 => ?_)
      · skip
        refine z_iinc (L' := [_, _, _, _]) dX9_harmOf_41 (Nat.le_of_ble_eq_true rfl) rfl rfl rfl ?_
        refine z_goto (tgt := 4) dX9_harmOf_44 (by decide) ?_
        rw [hlL]
        first
          | (rw [if_pos (by omega), ← Int.add_assoc]; exact l_X9_harmOf hp h83 h86 n hn h39 r (i + 1) _ (by omega) (by omega) hx (by rw [toN_s h0]; exact hs) (by omega))
          | (rw [if_neg (by omega), Int.zero_add]; exact l_X9_harmOf hp h83 h86 n hn h39 r (i + 1) _ (by omega) (by omega) hx (by rw [toN_s h0]; exact hs) (by omega))
      · skip
        refine z_iload_n dX9_harmOf_27 rfl ?_
        refine z_aload_n dX9_harmOf_28 rfl ?_
        refine z_getR dX9_harmOf_29 gX9_15 rfl (Nat.le_of_ble_eq_true rfl) rfl ?_
        refine z_aload_n dX9_harmOf_32 rfl ?_
        refine z_getR dX9_harmOf_33 gX9_87 rfl (Nat.le_of_ble_eq_true rfl) rfl ?_
        refine z_iload_n dX9_harmOf_36 rfl ?_
        refine z_iald dX9_harmOf_37 rfl (Nat.le_of_ble_eq_true rfl) (by omega) (fun hr37 => ?_)
        rw [e1]
        refine z_iald dX9_harmOf_38 rfl (Nat.le_of_ble_eq_true rfl) (by omega) (fun hr38 => ?_)
        refine z_iadd dX9_harmOf_39 ?_
        refine z_istore_n (L' := [_, _, _, _]) dX9_harmOf_40 (Nat.le_of_ble_eq_true rfl) rfl rfl ?_
        refine z_iinc (L' := [_, _, _, _]) dX9_harmOf_41 (Nat.le_of_ble_eq_true rfl) rfl rfl rfl ?_
        refine z_goto (tgt := 4) dX9_harmOf_44 (by decide) ?_
        rw [hlL]
        first
          | (rw [if_pos (by omega), ← Int.add_assoc]; exact l_X9_harmOf hp h83 h86 n hn h39 r (i + 1) _ (by omega) (by omega) hx (by rw [toN_s h0]; exact hs) (by omega))
          | (rw [if_neg (by omega), Int.zero_add]; exact l_X9_harmOf hp h83 h86 n hn h39 r (i + 1) _ (by omega) (by omega) hx (by rw [toN_s h0]; exact hs) (by omega))
set_option maxRecDepth 20000 in
theorem c_X9_harmOf {d : Nat} {σ : Sto} {X : List Int} {p : Int} (hp : inR p) (h83 : ∀ j, 0 ≤ σ 83 j ∧ σ 83 j ≤ 9) (h86 : ∀ j, 0 ≤ σ 86 j ∧ σ 86 j ≤ 5) (hX : lfM σ X) : m_X9_harmOf d [zR 9, zI p] σ (qI fun z σ' => z = hlL (σ 86) (σ 83) p X ∧ σ' = σ) := by
  obtain ⟨x1, x2, x3, x4⟩ := hX
  refine z_does (L := [some (zR 9), some (zI p), none, none]) rfl (by decide +kernel) (Nat.le_of_ble_eq_true rfl) rfl ?_
  refine z_iconst dX9_harmOf_0 ?_
  refine z_istore_n (L' := [_, _, _, _]) dX9_harmOf_1 (Nat.le_of_ble_eq_true rfl) rfl rfl ?_
  refine z_iconst dX9_harmOf_2 ?_
  refine z_istore_n (L' := [_, _, _, _]) dX9_harmOf_3 (Nat.le_of_ble_eq_true rfl) rfl rfl ?_
  have h := l_X9_harmOf (d := d) hp h83 h86 (X.length : Int) (by omega) x1 X 0 0 (by omega) (by omega) x3 x2 (by omega)
  rw [Int.zero_add] at h
  exact h
set_option maxRecDepth 20000 in
theorem l_X9_comesOf {d : Nat} {σ : Sto} {p : Int} (hp : inR p) (h86 : ∀ j, 0 ≤ σ 86 j ∧ σ 86 j ≤ 5) (n : Int) (hn : n ≤ 13) (h37 : σ 9 37 = n) :
    ∀ (X : List Int) (i : Int), 0 ≤ i → i + X.length = n → wok X → Seg σ 104 i.toNat X →
    Z (z_me cX9_comesOf RX9 3 (some .boolean) (d + 0) (qI fun z σ' => σ' = σ ∧ ((z = 1 ∧ anyL (σ 86) p X = true) ∨ (z = 0 ∧ anyL (σ 86) p X = false)))) 2 [some (zR 9), some (zI p), some (zI i)] [] σ
  | [], i, h0, hl, hx, hs => by
    rw [List.length_nil] at hl
    refine z_iload_n dX9_comesOf_2 rfl ?_
    refine z_aload_n dX9_comesOf_3 rfl ?_
    refine z_getI dX9_comesOf_4 gX9_280 rfl (Nat.le_of_ble_eq_true rfl) rfl (fun hr4 => ?_)
    refine z_icmp_ge (tgt := 33) dX9_comesOf_7 (by decide) ⟨by omega, by omega⟩ ⟨by omega, by omega⟩ (fun h7 => ?_) (fun h7 => ?_)
    · skip
      refine z_iconst dX9_comesOf_33 ?_
      exact z_zret dX9_comesOf_34 (by omega) ⟨rfl, Or.inr ⟨rfl, rfl⟩⟩
    · exfalso; omega
  | w :: r, i, h0, hl, hx, hs => by
    rw [List.length_cons] at hl
    obtain ⟨e1, hs⟩ := hs
    obtain ⟨hw, hx⟩ := wok_c hx
    have w86 := h86 w.toNat
    refine z_iload_n dX9_comesOf_2 rfl ?_
    refine z_aload_n dX9_comesOf_3 rfl ?_
    refine z_getI dX9_comesOf_4 gX9_280 rfl (Nat.le_of_ble_eq_true rfl) rfl (fun hr4 => ?_)
    refine z_icmp_ge (tgt := 33) dX9_comesOf_7 (by decide) ⟨by omega, by omega⟩ ⟨by omega, by omega⟩ (fun h7 => ?_) (fun h7 => ?_)
    · exfalso; omega
    · skip
      refine z_aload_n dX9_comesOf_10 rfl ?_
      refine z_getR dX9_comesOf_11 gX9_24 rfl (Nat.le_of_ble_eq_true rfl) rfl ?_
      refine z_aload_n dX9_comesOf_14 rfl ?_
      refine z_getR dX9_comesOf_15 gX9_84 rfl (Nat.le_of_ble_eq_true rfl) rfl ?_
      refine z_iload_n dX9_comesOf_18 rfl ?_
      refine z_iald dX9_comesOf_19 rfl (Nat.le_of_ble_eq_true rfl) (by omega) (fun hr19 => ?_)
      rw [e1]
      refine z_iald dX9_comesOf_20 rfl (Nat.le_of_ble_eq_true rfl) (by omega) (fun hr20 => ?_)
      refine z_iload_n dX9_comesOf_21 rfl ?_
      refine z_icmp_ne (tgt := 27) dX9_comesOf_22 (by decide) ⟨by omega, by omega⟩ ⟨by omega, by omega⟩ (fun h22 => ?_) (fun h22 => ?_)
      · skip
        refine z_iinc (L' := [_, _, _]) dX9_comesOf_27 (Nat.le_of_ble_eq_true rfl) rfl rfl rfl ?_
        refine z_goto (tgt := 2) dX9_comesOf_30 (by decide) ?_
        rw [show anyL (σ 86) p (w :: r) = anyL (σ 86) p r by rw [anyL, if_neg (by omega)]]
        exact l_X9_comesOf hp h86 n hn h37 r (i + 1) (by omega) (by omega) hx (by rw [toN_s h0]; exact hs)
      · skip
        refine z_iconst dX9_comesOf_25 ?_
        exact z_zret dX9_comesOf_26 (by omega) ⟨rfl, Or.inl ⟨rfl, by rw [anyL, if_pos (by omega)]⟩⟩
set_option maxRecDepth 20000 in
theorem c_X9_comesOf {d : Nat} {σ : Sto} {X : List Int} {p : Int} (hp : inR p) (h86 : ∀ j, 0 ≤ σ 86 j ∧ σ 86 j ≤ 5) (hX : caM σ X) : m_X9_comesOf d [zR 9, zI p] σ (qI fun z σ' => σ' = σ ∧ ((z = 1 ∧ anyL (σ 86) p X = true) ∨ (z = 0 ∧ anyL (σ 86) p X = false))) := by
  obtain ⟨x1, x2, x3, x4⟩ := hX
  refine z_does (L := [some (zR 9), some (zI p), none]) rfl (by decide +kernel) (Nat.le_of_ble_eq_true rfl) rfl ?_
  refine z_iconst dX9_comesOf_0 ?_
  refine z_istore_n (L' := [_, _, _]) dX9_comesOf_1 (Nat.le_of_ble_eq_true rfl) rfl rfl ?_
  exact l_X9_comesOf (d := d) hp h86 (X.length : Int) (by omega) x1 X 0 (by omega) (by omega) x3 x2
set_option maxRecDepth 20000 in
set_option maxHeartbeats 1000000 in
theorem l_X9_meant {d : Nat} {σ υ : Sto} {s0 m0 w e0 : Int} {A B : List Int} (hw : 0 ≤ w ∧ w ≤ 1) (hA : caM υ A) (hB : lfM υ B) (h83 : ∀ j, 0 ≤ υ 83 j ∧ υ 83 j ≤ 9) (h86 : ∀ j, 0 ≤ υ 86 j ∧ υ 86 j ≤ 5) (hK : KM σ υ) :
    ∀ (k : Nat) (p who most bits : Int), 0 ≤ p → p + k = 6 → inR who → inR most → inR bits →
    Z (z_me cX9_meant RX9 10 (some .int) (d + 6) (qI fun z σ' => z = (if w = 0 then mhL (fun p => hlL (υ 86) (υ 83) p B) k p who most else bitL (fun p => decide (hlL (υ 86) (υ 83) p B > 0) && !anyL (υ 86) p A) k p bits) ∧ KM σ σ')) 65 [some (zR 9), some (zI s0), some (zI m0), some (zI w), some (zI e0), some (zI who), some (zI most), some (zI bits), some (zI p), none] [] υ
  | 0, p, who, most, bits, h0, hk, r1, r2, r3 => by
    refine z_iload dX9_meant_65 rfl ?_
    refine z_bipush (v := 6) dX9_meant_67 (by decide +kernel) ?_
    refine z_icmp_ge (tgt := 127) dX9_meant_69 (by decide) ⟨by omega, by omega⟩ ⟨by omega, by omega⟩ (fun h69 => ?_) (fun h69 => ?_)
    · skip
      refine z_iload_n dX9_meant_127 rfl ?_
      refine z_if_ne (tgt := 136) dX9_meant_128 (by decide) ⟨by omega, by omega⟩ (fun h128 => ?_) (fun h128 => ?_)
      · skip
        refine z_iload dX9_meant_136 rfl ?_
        exact z_iret dX9_meant_138 ⟨by first | (rw [if_pos (by omega)]; rfl) | (rw [if_neg (by omega)]; rfl), hK⟩
      · skip
        refine z_iload dX9_meant_131 rfl ?_
        refine z_goto (tgt := 138) dX9_meant_133 (by decide) ?_
        exact z_iret dX9_meant_138 ⟨by first | (rw [if_pos (by omega)]; rfl) | (rw [if_neg (by omega)]; rfl), hK⟩
    · exfalso; omega
  | k + 1, p, who, most, bits, h0, hk, r1, r2, r3 => by
    have hR := hlL_R h83 B (A4 := υ 86) (p := p)
    have hl13 := hB.2.2.2
    refine z_iload dX9_meant_65 rfl ?_
    refine z_bipush (v := 6) dX9_meant_67 (by decide +kernel) ?_
    refine z_icmp_ge (tgt := 127) dX9_meant_69 (by decide) ⟨by omega, by omega⟩ ⟨by omega, by omega⟩ (fun h69 => ?_) (fun h69 => ?_)
    · exfalso; omega
    · skip
      refine z_aload_n dX9_meant_72 rfl ?_
      refine z_iload dX9_meant_73 rfl ?_
      refine z_callVI (d := d + 5) (av := [_]) dX9_meant_75 vX9_381 rfl (Nat.le_of_ble_eq_true rfl) rfl rfl rfl (Nat.le_of_ble_eq_true rfl) (Nat.le_refl _) (c_X9_harmOf (by omega) h83 h86 hB) (fun z75 σ75 h75 => ?_)
      obtain ⟨rfl, hs75⟩ := h75
      subst σ75
      refine z_istore (L' := [_, _, _, _, _, _, _, _, _, _]) dX9_meant_78 (Nat.le_of_ble_eq_true rfl) rfl rfl ?_
      refine z_iload dX9_meant_80 rfl ?_
      refine z_if_le (tgt := 103) dX9_meant_82 (by decide) ⟨by omega, by omega⟩ (fun h82 => ?_) (fun h82 => ?_)
      · skip
        refine z_iload dX9_meant_103 rfl ?_
        refine z_iload dX9_meant_105 rfl ?_
        refine z_icmp_gt (tgt := 113) dX9_meant_107 (by decide) (by first | exact hR | omega) (by first | exact hR | omega) (fun h107 => ?_) (fun h107 => ?_)
        · skip
          refine z_iload dX9_meant_113 rfl ?_
          refine z_istore (L' := [_, _, _, _, _, _, _, _, _, _]) dX9_meant_115 (Nat.le_of_ble_eq_true rfl) rfl rfl ?_
          refine z_iload dX9_meant_117 rfl ?_
          refine z_istore (L' := [_, _, _, _, _, _, _, _, _, _]) dX9_meant_119 (Nat.le_of_ble_eq_true rfl) rfl rfl ?_
          refine z_iinc (L' := [_, _, _, _, _, _, _, _, _, _]) dX9_meant_121 (Nat.le_of_ble_eq_true rfl) rfl rfl rfl ?_
          refine z_goto (tgt := 65) dX9_meant_124 (by decide) ?_
          refine z_forget [true, true, true, true, true, true, true, true, true, false] (L' := [_, _, _, _, _, _, _, _, _, _]) rfl ?_
          rw [mhL, bitL]
          have hc : (decide (hlL (υ 86) (υ 83) p B > 0) && !anyL (υ 86) p A) = true ∨ (decide (hlL (υ 86) (υ 83) p B > 0) && !anyL (υ 86) p A) = false := by cases (decide (hlL (υ 86) (υ 83) p B > 0) && !anyL (υ 86) p A); exact Or.inr rfl; exact Or.inl rfl
          have hc1 : (decide (hlL (υ 86) (υ 83) p B > 0) && !anyL (υ 86) p A) = true → 0 < hlL (υ 86) (υ 83) p B ∧ anyL (υ 86) p A = false := fun q => by
            rw [Bool.and_eq_true] at q
            exact ⟨of_decide_eq_true q.1, by cases hz : anyL (υ 86) p A; rfl; rw [hz] at q; exact absurd q.2 (by decide)⟩
          have hc2 : 0 < hlL (υ 86) (υ 83) p B → anyL (υ 86) p A = false → (decide (hlL (υ 86) (υ 83) p B > 0) && !anyL (υ 86) p A) = true := fun a b => by rw [b, decide_eq_true a]; rfl
          have hm1 : hlL (υ 86) (υ 83) p B > most → ∀ X Y : Int, (if hlL (υ 86) (υ 83) p B > most then X else Y) = X := fun q X Y => if_pos q
          have hm0 : ¬ hlL (υ 86) (υ 83) p B > most → ∀ X Y : Int, (if hlL (υ 86) (υ 83) p B > most then X else Y) = Y := fun q X Y => if_neg q
          rcases hc with hc | hc
          · have q1 := hc1 hc
            have hb2 : ∀ X Y : Int, (if (decide (hlL (υ 86) (υ 83) p B > 0) && !anyL (υ 86) p A) = true then X else Y) = X := fun X Y => if_pos hc
            rw [hb2]
            first
            | (exfalso; omega)
            | (exfalso; rcases hco with q | q; (rw [q1.2] at q; exact absurd q.2 (by decide)); exact absurd q.1 (by omega))
            | (rw [hm1 (by omega)]; exact l_X9_meant hw hA hB h83 h86 hK k (p + 1) _ _ _ (by omega) (by omega) (by omega) (by omega) ior_R)
            | (rw [hm0 (by omega)]; exact l_X9_meant hw hA hB h83 h86 hK k (p + 1) _ _ _ (by omega) (by omega) (by omega) (by omega) ior_R)
          · have hb2 : ∀ X Y : Int, (if (decide (hlL (υ 86) (υ 83) p B > 0) && !anyL (υ 86) p A) = true then X else Y) = Y := fun X Y => if_neg (by rw [hc]; exact Bool.false_ne_true)
            rw [hb2]
            first
            | (rw [hm1 (by omega)]; exact l_X9_meant hw hA hB h83 h86 hK k (p + 1) _ _ _ (by omega) (by omega) (by omega) (by omega) r3)
            | (rw [hm0 (by omega)]; exact l_X9_meant hw hA hB h83 h86 hK k (p + 1) _ _ _ (by omega) (by omega) (by omega) (by omega) r3)
            | (exfalso; rcases hco with q | q; exact absurd q.1 (by omega); rw [hc2 (by omega) q.2] at hc; exact absurd hc (by decide))
        · skip
          refine z_goto (tgt := 121) dX9_meant_110 (by decide) ?_
          refine z_iinc (L' := [_, _, _, _, _, _, _, _, _, _]) dX9_meant_121 (Nat.le_of_ble_eq_true rfl) rfl rfl rfl ?_
          refine z_goto (tgt := 65) dX9_meant_124 (by decide) ?_
          refine z_forget [true, true, true, true, true, true, true, true, true, false] (L' := [_, _, _, _, _, _, _, _, _, _]) rfl ?_
          rw [mhL, bitL]
          have hc : (decide (hlL (υ 86) (υ 83) p B > 0) && !anyL (υ 86) p A) = true ∨ (decide (hlL (υ 86) (υ 83) p B > 0) && !anyL (υ 86) p A) = false := by cases (decide (hlL (υ 86) (υ 83) p B > 0) && !anyL (υ 86) p A); exact Or.inr rfl; exact Or.inl rfl
          have hc1 : (decide (hlL (υ 86) (υ 83) p B > 0) && !anyL (υ 86) p A) = true → 0 < hlL (υ 86) (υ 83) p B ∧ anyL (υ 86) p A = false := fun q => by
            rw [Bool.and_eq_true] at q
            exact ⟨of_decide_eq_true q.1, by cases hz : anyL (υ 86) p A; rfl; rw [hz] at q; exact absurd q.2 (by decide)⟩
          have hc2 : 0 < hlL (υ 86) (υ 83) p B → anyL (υ 86) p A = false → (decide (hlL (υ 86) (υ 83) p B > 0) && !anyL (υ 86) p A) = true := fun a b => by rw [b, decide_eq_true a]; rfl
          have hm1 : hlL (υ 86) (υ 83) p B > most → ∀ X Y : Int, (if hlL (υ 86) (υ 83) p B > most then X else Y) = X := fun q X Y => if_pos q
          have hm0 : ¬ hlL (υ 86) (υ 83) p B > most → ∀ X Y : Int, (if hlL (υ 86) (υ 83) p B > most then X else Y) = Y := fun q X Y => if_neg q
          rcases hc with hc | hc
          · have q1 := hc1 hc
            have hb2 : ∀ X Y : Int, (if (decide (hlL (υ 86) (υ 83) p B > 0) && !anyL (υ 86) p A) = true then X else Y) = X := fun X Y => if_pos hc
            rw [hb2]
            first
            | (exfalso; omega)
            | (exfalso; rcases hco with q | q; (rw [q1.2] at q; exact absurd q.2 (by decide)); exact absurd q.1 (by omega))
            | (rw [hm1 (by omega)]; exact l_X9_meant hw hA hB h83 h86 hK k (p + 1) _ _ _ (by omega) (by omega) (by omega) (by omega) ior_R)
            | (rw [hm0 (by omega)]; exact l_X9_meant hw hA hB h83 h86 hK k (p + 1) _ _ _ (by omega) (by omega) (by omega) (by omega) ior_R)
          · have hb2 : ∀ X Y : Int, (if (decide (hlL (υ 86) (υ 83) p B > 0) && !anyL (υ 86) p A) = true then X else Y) = Y := fun X Y => if_neg (by rw [hc]; exact Bool.false_ne_true)
            rw [hb2]
            first
            | (rw [hm1 (by omega)]; exact l_X9_meant hw hA hB h83 h86 hK k (p + 1) _ _ _ (by omega) (by omega) (by omega) (by omega) r3)
            | (rw [hm0 (by omega)]; exact l_X9_meant hw hA hB h83 h86 hK k (p + 1) _ _ _ (by omega) (by omega) (by omega) (by omega) r3)
            | (exfalso; rcases hco with q | q; exact absurd q.1 (by omega); rw [hc2 (by omega) q.2] at hc; exact absurd hc (by decide))
      · skip
        refine z_aload_n dX9_meant_85 rfl ?_
        refine z_iload dX9_meant_86 rfl ?_
        refine z_callVI (d := d + 5) (av := [_]) dX9_meant_88 vX9_384 rfl (Nat.le_of_ble_eq_true rfl) rfl rfl rfl (Nat.le_of_ble_eq_true rfl) (Nat.le_refl _) (c_X9_comesOf (by omega) h86 hA) (fun z88 σ88 h88 => ?_)
        obtain ⟨hs88, hco⟩ := h88
        subst σ88
        have hr88 : inR z88 := by rcases hco with q | q; rw [q.1]; decide; rw [q.1]; decide
        refine z_if_ne (tgt := 103) dX9_meant_91 (by decide) ⟨by omega, by omega⟩ (fun h91 => ?_) (fun h91 => ?_)
        · skip
          refine z_iload dX9_meant_103 rfl ?_
          refine z_iload dX9_meant_105 rfl ?_
          refine z_icmp_gt (tgt := 113) dX9_meant_107 (by decide) (by first | exact hR | omega) (by first | exact hR | omega) (fun h107 => ?_) (fun h107 => ?_)
          · skip
            refine z_iload dX9_meant_113 rfl ?_
            refine z_istore (L' := [_, _, _, _, _, _, _, _, _, _]) dX9_meant_115 (Nat.le_of_ble_eq_true rfl) rfl rfl ?_
            refine z_iload dX9_meant_117 rfl ?_
            refine z_istore (L' := [_, _, _, _, _, _, _, _, _, _]) dX9_meant_119 (Nat.le_of_ble_eq_true rfl) rfl rfl ?_
            refine z_iinc (L' := [_, _, _, _, _, _, _, _, _, _]) dX9_meant_121 (Nat.le_of_ble_eq_true rfl) rfl rfl rfl ?_
            refine z_goto (tgt := 65) dX9_meant_124 (by decide) ?_
            refine z_forget [true, true, true, true, true, true, true, true, true, false] (L' := [_, _, _, _, _, _, _, _, _, _]) rfl ?_
            rw [mhL, bitL]
            have hc : (decide (hlL (υ 86) (υ 83) p B > 0) && !anyL (υ 86) p A) = true ∨ (decide (hlL (υ 86) (υ 83) p B > 0) && !anyL (υ 86) p A) = false := by cases (decide (hlL (υ 86) (υ 83) p B > 0) && !anyL (υ 86) p A); exact Or.inr rfl; exact Or.inl rfl
            have hc1 : (decide (hlL (υ 86) (υ 83) p B > 0) && !anyL (υ 86) p A) = true → 0 < hlL (υ 86) (υ 83) p B ∧ anyL (υ 86) p A = false := fun q => by
              rw [Bool.and_eq_true] at q
              exact ⟨of_decide_eq_true q.1, by cases hz : anyL (υ 86) p A; rfl; rw [hz] at q; exact absurd q.2 (by decide)⟩
            have hc2 : 0 < hlL (υ 86) (υ 83) p B → anyL (υ 86) p A = false → (decide (hlL (υ 86) (υ 83) p B > 0) && !anyL (υ 86) p A) = true := fun a b => by rw [b, decide_eq_true a]; rfl
            have hm1 : hlL (υ 86) (υ 83) p B > most → ∀ X Y : Int, (if hlL (υ 86) (υ 83) p B > most then X else Y) = X := fun q X Y => if_pos q
            have hm0 : ¬ hlL (υ 86) (υ 83) p B > most → ∀ X Y : Int, (if hlL (υ 86) (υ 83) p B > most then X else Y) = Y := fun q X Y => if_neg q
            rcases hc with hc | hc
            · have q1 := hc1 hc
              have hb2 : ∀ X Y : Int, (if (decide (hlL (υ 86) (υ 83) p B > 0) && !anyL (υ 86) p A) = true then X else Y) = X := fun X Y => if_pos hc
              rw [hb2]
              first
              | (exfalso; omega)
              | (exfalso; rcases hco with q | q; (rw [q1.2] at q; exact absurd q.2 (by decide)); exact absurd q.1 (by omega))
              | (rw [hm1 (by omega)]; exact l_X9_meant hw hA hB h83 h86 hK k (p + 1) _ _ _ (by omega) (by omega) (by omega) (by omega) ior_R)
              | (rw [hm0 (by omega)]; exact l_X9_meant hw hA hB h83 h86 hK k (p + 1) _ _ _ (by omega) (by omega) (by omega) (by omega) ior_R)
            · have hb2 : ∀ X Y : Int, (if (decide (hlL (υ 86) (υ 83) p B > 0) && !anyL (υ 86) p A) = true then X else Y) = Y := fun X Y => if_neg (by rw [hc]; exact Bool.false_ne_true)
              rw [hb2]
              first
              | (rw [hm1 (by omega)]; exact l_X9_meant hw hA hB h83 h86 hK k (p + 1) _ _ _ (by omega) (by omega) (by omega) (by omega) r3)
              | (rw [hm0 (by omega)]; exact l_X9_meant hw hA hB h83 h86 hK k (p + 1) _ _ _ (by omega) (by omega) (by omega) (by omega) r3)
              | (exfalso; rcases hco with q | q; exact absurd q.1 (by omega); rw [hc2 (by omega) q.2] at hc; exact absurd hc (by decide))
          · skip
            refine z_goto (tgt := 121) dX9_meant_110 (by decide) ?_
            refine z_iinc (L' := [_, _, _, _, _, _, _, _, _, _]) dX9_meant_121 (Nat.le_of_ble_eq_true rfl) rfl rfl rfl ?_
            refine z_goto (tgt := 65) dX9_meant_124 (by decide) ?_
            refine z_forget [true, true, true, true, true, true, true, true, true, false] (L' := [_, _, _, _, _, _, _, _, _, _]) rfl ?_
            rw [mhL, bitL]
            have hc : (decide (hlL (υ 86) (υ 83) p B > 0) && !anyL (υ 86) p A) = true ∨ (decide (hlL (υ 86) (υ 83) p B > 0) && !anyL (υ 86) p A) = false := by cases (decide (hlL (υ 86) (υ 83) p B > 0) && !anyL (υ 86) p A); exact Or.inr rfl; exact Or.inl rfl
            have hc1 : (decide (hlL (υ 86) (υ 83) p B > 0) && !anyL (υ 86) p A) = true → 0 < hlL (υ 86) (υ 83) p B ∧ anyL (υ 86) p A = false := fun q => by
              rw [Bool.and_eq_true] at q
              exact ⟨of_decide_eq_true q.1, by cases hz : anyL (υ 86) p A; rfl; rw [hz] at q; exact absurd q.2 (by decide)⟩
            have hc2 : 0 < hlL (υ 86) (υ 83) p B → anyL (υ 86) p A = false → (decide (hlL (υ 86) (υ 83) p B > 0) && !anyL (υ 86) p A) = true := fun a b => by rw [b, decide_eq_true a]; rfl
            have hm1 : hlL (υ 86) (υ 83) p B > most → ∀ X Y : Int, (if hlL (υ 86) (υ 83) p B > most then X else Y) = X := fun q X Y => if_pos q
            have hm0 : ¬ hlL (υ 86) (υ 83) p B > most → ∀ X Y : Int, (if hlL (υ 86) (υ 83) p B > most then X else Y) = Y := fun q X Y => if_neg q
            rcases hc with hc | hc
            · have q1 := hc1 hc
              have hb2 : ∀ X Y : Int, (if (decide (hlL (υ 86) (υ 83) p B > 0) && !anyL (υ 86) p A) = true then X else Y) = X := fun X Y => if_pos hc
              rw [hb2]
              first
              | (exfalso; omega)
              | (exfalso; rcases hco with q | q; (rw [q1.2] at q; exact absurd q.2 (by decide)); exact absurd q.1 (by omega))
              | (rw [hm1 (by omega)]; exact l_X9_meant hw hA hB h83 h86 hK k (p + 1) _ _ _ (by omega) (by omega) (by omega) (by omega) ior_R)
              | (rw [hm0 (by omega)]; exact l_X9_meant hw hA hB h83 h86 hK k (p + 1) _ _ _ (by omega) (by omega) (by omega) (by omega) ior_R)
            · have hb2 : ∀ X Y : Int, (if (decide (hlL (υ 86) (υ 83) p B > 0) && !anyL (υ 86) p A) = true then X else Y) = Y := fun X Y => if_neg (by rw [hc]; exact Bool.false_ne_true)
              rw [hb2]
              first
              | (rw [hm1 (by omega)]; exact l_X9_meant hw hA hB h83 h86 hK k (p + 1) _ _ _ (by omega) (by omega) (by omega) (by omega) r3)
              | (rw [hm0 (by omega)]; exact l_X9_meant hw hA hB h83 h86 hK k (p + 1) _ _ _ (by omega) (by omega) (by omega) (by omega) r3)
              | (exfalso; rcases hco with q | q; exact absurd q.1 (by omega); rw [hc2 (by omega) q.2] at hc; exact absurd hc (by decide))
        · skip
          refine z_iload dX9_meant_94 rfl ?_
          refine z_iconst dX9_meant_96 ?_
          refine z_iload dX9_meant_97 rfl ?_
          refine z_ishl dX9_meant_99 ?_
          refine z_ior dX9_meant_100 ?_
          refine z_istore (L' := [_, _, _, _, _, _, _, _, _, _]) dX9_meant_101 (Nat.le_of_ble_eq_true rfl) rfl rfl ?_
          refine z_iload dX9_meant_103 rfl ?_
          refine z_iload dX9_meant_105 rfl ?_
          refine z_icmp_gt (tgt := 113) dX9_meant_107 (by decide) (by first | exact hR | omega) (by first | exact hR | omega) (fun h107 => ?_) (fun h107 => ?_)
          · skip
            refine z_iload dX9_meant_113 rfl ?_
            refine z_istore (L' := [_, _, _, _, _, _, _, _, _, _]) dX9_meant_115 (Nat.le_of_ble_eq_true rfl) rfl rfl ?_
            refine z_iload dX9_meant_117 rfl ?_
            refine z_istore (L' := [_, _, _, _, _, _, _, _, _, _]) dX9_meant_119 (Nat.le_of_ble_eq_true rfl) rfl rfl ?_
            refine z_iinc (L' := [_, _, _, _, _, _, _, _, _, _]) dX9_meant_121 (Nat.le_of_ble_eq_true rfl) rfl rfl rfl ?_
            refine z_goto (tgt := 65) dX9_meant_124 (by decide) ?_
            refine z_forget [true, true, true, true, true, true, true, true, true, false] (L' := [_, _, _, _, _, _, _, _, _, _]) rfl ?_
            rw [mhL, bitL]
            have hc : (decide (hlL (υ 86) (υ 83) p B > 0) && !anyL (υ 86) p A) = true ∨ (decide (hlL (υ 86) (υ 83) p B > 0) && !anyL (υ 86) p A) = false := by cases (decide (hlL (υ 86) (υ 83) p B > 0) && !anyL (υ 86) p A); exact Or.inr rfl; exact Or.inl rfl
            have hc1 : (decide (hlL (υ 86) (υ 83) p B > 0) && !anyL (υ 86) p A) = true → 0 < hlL (υ 86) (υ 83) p B ∧ anyL (υ 86) p A = false := fun q => by
              rw [Bool.and_eq_true] at q
              exact ⟨of_decide_eq_true q.1, by cases hz : anyL (υ 86) p A; rfl; rw [hz] at q; exact absurd q.2 (by decide)⟩
            have hc2 : 0 < hlL (υ 86) (υ 83) p B → anyL (υ 86) p A = false → (decide (hlL (υ 86) (υ 83) p B > 0) && !anyL (υ 86) p A) = true := fun a b => by rw [b, decide_eq_true a]; rfl
            have hm1 : hlL (υ 86) (υ 83) p B > most → ∀ X Y : Int, (if hlL (υ 86) (υ 83) p B > most then X else Y) = X := fun q X Y => if_pos q
            have hm0 : ¬ hlL (υ 86) (υ 83) p B > most → ∀ X Y : Int, (if hlL (υ 86) (υ 83) p B > most then X else Y) = Y := fun q X Y => if_neg q
            rcases hc with hc | hc
            · have q1 := hc1 hc
              have hb2 : ∀ X Y : Int, (if (decide (hlL (υ 86) (υ 83) p B > 0) && !anyL (υ 86) p A) = true then X else Y) = X := fun X Y => if_pos hc
              rw [hb2]
              first
              | (exfalso; omega)
              | (exfalso; rcases hco with q | q; (rw [q1.2] at q; exact absurd q.2 (by decide)); exact absurd q.1 (by omega))
              | (rw [hm1 (by omega)]; exact l_X9_meant hw hA hB h83 h86 hK k (p + 1) _ _ _ (by omega) (by omega) (by omega) (by omega) ior_R)
              | (rw [hm0 (by omega)]; exact l_X9_meant hw hA hB h83 h86 hK k (p + 1) _ _ _ (by omega) (by omega) (by omega) (by omega) ior_R)
            · have hb2 : ∀ X Y : Int, (if (decide (hlL (υ 86) (υ 83) p B > 0) && !anyL (υ 86) p A) = true then X else Y) = Y := fun X Y => if_neg (by rw [hc]; exact Bool.false_ne_true)
              rw [hb2]
              first
              | (rw [hm1 (by omega)]; exact l_X9_meant hw hA hB h83 h86 hK k (p + 1) _ _ _ (by omega) (by omega) (by omega) (by omega) r3)
              | (rw [hm0 (by omega)]; exact l_X9_meant hw hA hB h83 h86 hK k (p + 1) _ _ _ (by omega) (by omega) (by omega) (by omega) r3)
              | (exfalso; rcases hco with q | q; exact absurd q.1 (by omega); rw [hc2 (by omega) q.2] at hc; exact absurd hc (by decide))
          · skip
            refine z_goto (tgt := 121) dX9_meant_110 (by decide) ?_
            refine z_iinc (L' := [_, _, _, _, _, _, _, _, _, _]) dX9_meant_121 (Nat.le_of_ble_eq_true rfl) rfl rfl rfl ?_
            refine z_goto (tgt := 65) dX9_meant_124 (by decide) ?_
            refine z_forget [true, true, true, true, true, true, true, true, true, false] (L' := [_, _, _, _, _, _, _, _, _, _]) rfl ?_
            rw [mhL, bitL]
            have hc : (decide (hlL (υ 86) (υ 83) p B > 0) && !anyL (υ 86) p A) = true ∨ (decide (hlL (υ 86) (υ 83) p B > 0) && !anyL (υ 86) p A) = false := by cases (decide (hlL (υ 86) (υ 83) p B > 0) && !anyL (υ 86) p A); exact Or.inr rfl; exact Or.inl rfl
            have hc1 : (decide (hlL (υ 86) (υ 83) p B > 0) && !anyL (υ 86) p A) = true → 0 < hlL (υ 86) (υ 83) p B ∧ anyL (υ 86) p A = false := fun q => by
              rw [Bool.and_eq_true] at q
              exact ⟨of_decide_eq_true q.1, by cases hz : anyL (υ 86) p A; rfl; rw [hz] at q; exact absurd q.2 (by decide)⟩
            have hc2 : 0 < hlL (υ 86) (υ 83) p B → anyL (υ 86) p A = false → (decide (hlL (υ 86) (υ 83) p B > 0) && !anyL (υ 86) p A) = true := fun a b => by rw [b, decide_eq_true a]; rfl
            have hm1 : hlL (υ 86) (υ 83) p B > most → ∀ X Y : Int, (if hlL (υ 86) (υ 83) p B > most then X else Y) = X := fun q X Y => if_pos q
            have hm0 : ¬ hlL (υ 86) (υ 83) p B > most → ∀ X Y : Int, (if hlL (υ 86) (υ 83) p B > most then X else Y) = Y := fun q X Y => if_neg q
            rcases hc with hc | hc
            · have q1 := hc1 hc
              have hb2 : ∀ X Y : Int, (if (decide (hlL (υ 86) (υ 83) p B > 0) && !anyL (υ 86) p A) = true then X else Y) = X := fun X Y => if_pos hc
              rw [hb2]
              first
              | (exfalso; omega)
              | (exfalso; rcases hco with q | q; (rw [q1.2] at q; exact absurd q.2 (by decide)); exact absurd q.1 (by omega))
              | (rw [hm1 (by omega)]; exact l_X9_meant hw hA hB h83 h86 hK k (p + 1) _ _ _ (by omega) (by omega) (by omega) (by omega) ior_R)
              | (rw [hm0 (by omega)]; exact l_X9_meant hw hA hB h83 h86 hK k (p + 1) _ _ _ (by omega) (by omega) (by omega) (by omega) ior_R)
            · have hb2 : ∀ X Y : Int, (if (decide (hlL (υ 86) (υ 83) p B > 0) && !anyL (υ 86) p A) = true then X else Y) = Y := fun X Y => if_neg (by rw [hc]; exact Bool.false_ne_true)
              rw [hb2]
              first
              | (rw [hm1 (by omega)]; exact l_X9_meant hw hA hB h83 h86 hK k (p + 1) _ _ _ (by omega) (by omega) (by omega) (by omega) r3)
              | (rw [hm0 (by omega)]; exact l_X9_meant hw hA hB h83 h86 hK k (p + 1) _ _ _ (by omega) (by omega) (by omega) (by omega) r3)
              | (exfalso; rcases hco with q | q; exact absurd q.1 (by omega); rw [hc2 (by omega) q.2] at hc; exact absurd hc (by decide))
set_option maxRecDepth 20000 in
theorem c_X9_meant {d : Nat} {σ : Sto} {LF : LFT} {s m w : Int} (hW : WM LF σ) (hS : SM σ) (hs : inR s) (hm : inR m) (hw : inR w) : m_X9_meant d [zR 9, zI s, zI m, zI w] σ (qI fun z σ' => z = mnG (hrM σ s m) (pasM LF σ (finM σ m)) (σ 83) (σ 86) (SYM σ s) w ∧ KM σ σ') := by
  have w1 := hW.1
  have w7 := hW.2.1
  refine z_does (L := [some (zR 9), some (zI s), some (zI m), some (zI w), none, none, none, none, none, none]) rfl (by decide +kernel) (Nat.le_of_ble_eq_true rfl) rfl ?_
  refine z_iload_n dX9_meant_0 rfl ?_
  refine z_callSI (d := d + 5) (av := [_]) dX9_meant_1 sX9_154 rfl rfl (Nat.le_of_ble_eq_true rfl) (Nat.le_refl _) (c_X9_isShelf (by omega)) (fun z1 σ1 h1 => ?_)
  obtain ⟨hs1, h1⟩ := h1
  subst σ1
  refine z_if_eq (tgt := 24) dX9_meant_4 (by decide) ⟨by omega, by omega⟩ (fun h4 => ?_) (fun h4 => ?_)
  · skip
    refine z_iconst dX9_meant_24 ?_
    exact z_iret dX9_meant_25 (by
      refine ⟨?_, frM.rf _ _ σ⟩
      unfold mnG
      by_cases q : w < 0 ∨ 1 < w
      · rw [if_pos q]
      · have e : hrM σ s m = -1 := by unfold hrM; rw [if_pos (by omega)]
        rw [if_neg q, e]; rfl)
  · skip
    refine z_aload_n dX9_meant_7 rfl ?_
    refine z_iload_n dX9_meant_8 rfl ?_
    refine z_callVI (d := d + 5) (av := [_]) dX9_meant_9 vX9_286 rfl (Nat.le_of_ble_eq_true rfl) rfl rfl rfl (Nat.le_of_ble_eq_true rfl) (Nat.le_refl _) (c_X9_isMeshOrNone (by omega) (by omega)) (fun z9 σ9 h9 => ?_)
    obtain ⟨hs9, h9⟩ := h9
    subst σ9
    refine z_if_eq (tgt := 24) dX9_meant_12 (by decide) ⟨by omega, by omega⟩ (fun h12 => ?_) (fun h12 => ?_)
    · skip
      refine z_iconst dX9_meant_24 ?_
      exact z_iret dX9_meant_25 (by
        refine ⟨?_, frM.rf _ _ σ⟩
        unfold mnG
        by_cases q : w < 0 ∨ 1 < w
        · rw [if_pos q]
        · have e : hrM σ s m = -1 := by unfold hrM; rw [if_pos (by omega)]
          rw [if_neg q, e]; rfl)
    · skip
      refine z_iload_n dX9_meant_15 rfl ?_
      refine z_iconst dX9_meant_16 ?_
      refine z_iconst dX9_meant_17 ?_
      refine z_callSI (d := d + 5) (av := [_, _, _]) dX9_meant_18 sX9_143 rfl rfl (Nat.le_of_ble_eq_true rfl) (Nat.le_refl _) (c_X9_in (by omega) (by omega) (by omega)) (fun z18 σ18 h18 => ?_)
      obtain ⟨hs18, h18⟩ := h18
      subst σ18
      refine z_if_ne (tgt := 26) dX9_meant_21 (by decide) ⟨by omega, by omega⟩ (fun h21 => ?_) (fun h21 => ?_)
      · skip
        refine z_aload_n dX9_meant_26 rfl ?_
        refine z_iload_n dX9_meant_27 rfl ?_
        refine z_callVI (d := d + 5) (av := [_]) dX9_meant_28 vX9_289 rfl (Nat.le_of_ble_eq_true rfl) rfl rfl rfl (Nat.le_of_ble_eq_true rfl) (Nat.le_refl _) (c_X9_rowFault hS (by omega)) (fun z28 σ28 h28 => ?_)
        obtain ⟨hz, hs28⟩ := h28
        subst σ28
        obtain ⟨ehr, hz3⟩ := rf_M (m := m) (by omega) (by omega) hz
        refine z_istore (L' := [_, _, _, _, _, _, _, _, _, _]) dX9_meant_31 (Nat.le_of_ble_eq_true rfl) rfl rfl ?_
        refine z_iload dX9_meant_33 rfl ?_
        refine z_if_ge (tgt := 41) dX9_meant_35 (by decide) ⟨by omega, by omega⟩ (fun h35 => ?_) (fun h35 => ?_)
        · skip
          refine z_aload_n dX9_meant_41 rfl ?_
          refine z_iload_n dX9_meant_42 rfl ?_
          refine z_callVV (d := d + 5) (av := [_]) dX9_meant_43 vX9_292 rfl (Nat.le_of_ble_eq_true rfl) rfl rfl rfl (Nat.le_of_ble_eq_true rfl) (Nat.le_refl _) (c_X9_laySaying w1 hS (by omega) (by omega)) (fun σ43 h43 => ?_)
          obtain ⟨hk1, hsd⟩ := h43
          refine z_aload_n dX9_meant_46 rfl ?_
          refine z_iload_n dX9_meant_47 rfl ?_
          refine z_iconst dX9_meant_48 ?_
          refine z_callVV (d := d + 5) (av := [_, _]) dX9_meant_49 vX9_296 rfl (Nat.le_of_ble_eq_true rfl) rfl rfl rfl (Nat.le_of_ble_eq_true rfl) (Nat.le_refl _) (c_X9_goThrough (LF := LF) (X := SYM σ s) (hk1.wm hW rfl) (by omega) (by decide) hsd) (fun σ49 h49 => ?_)
          obtain ⟨hk2, t2, t3, t4, t5⟩ := h49
          obtain ⟨hkA, hca, hlf, hsd2, hW2⟩ := thr_M hW hk1 hsd hk2 t2 t3 t4 t5
          refine z_bipush (v := -2) dX9_meant_52 (by decide +kernel) ?_
          refine z_istore (L' := [_, _, _, _, _, _, _, _, _, _]) dX9_meant_54 (Nat.le_of_ble_eq_true rfl) rfl rfl ?_
          refine z_iconst dX9_meant_56 ?_
          refine z_istore (L' := [_, _, _, _, _, _, _, _, _, _]) dX9_meant_57 (Nat.le_of_ble_eq_true rfl) rfl rfl ?_
          refine z_iconst dX9_meant_59 ?_
          refine z_istore (L' := [_, _, _, _, _, _, _, _, _, _]) dX9_meant_60 (Nat.le_of_ble_eq_true rfl) rfl rfl ?_
          refine z_iconst dX9_meant_62 ?_
          refine z_istore (L' := [_, _, _, _, _, _, _, _, _, _]) dX9_meant_63 (Nat.le_of_ble_eq_true rfl) rfl rfl ?_
          have h := l_X9_meant (d := d) (s0 := s) (m0 := m) (w := w) (e0 := z28) (by omega) hca hlf hW2.2.2.2.2.1 hW2.2.2.2.2.2.2.2.1 hkA 6 0 (-2) 0 0 (by omega) (by omega) (by decide) (by decide) (by decide)
          rw [hkA.1 86 (by decide) (by decide), hkA.1 83 (by decide) (by decide)] at h
          unfold mnG
          rw [if_neg (by omega), if_neg (by omega)]
          exact h
        · skip
          refine z_iload dX9_meant_38 rfl ?_
          exact z_iret dX9_meant_40 (⟨by unfold mnG; rw [if_neg (by omega), if_pos (by omega)]; exact ehr.symm, frM.rf _ _ σ⟩)
      · skip
        refine z_iconst dX9_meant_24 ?_
        exact z_iret dX9_meant_25 (by
          refine ⟨?_, frM.rf _ _ σ⟩
          unfold mnG
          by_cases q : w < 0 ∨ 1 < w
          · rw [if_pos q]
          · have e : hrM σ s m = -1 := by unfold hrM; rw [if_pos (by omega)]
            rw [if_neg q, e]; rfl)
