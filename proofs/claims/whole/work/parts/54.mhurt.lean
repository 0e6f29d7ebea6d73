/-! ===== The reference: sums, hurts, bits, the saying laid ===== -/
set_option maxRecDepth 20000 in
theorem l_X9_harmLeft {d : Nat} {σ : Sto} (h83 : ∀ j, 0 ≤ σ 83 j ∧ σ 83 j ≤ 9) (n : Int) (hn : n ≤ 13) (h39 : σ 9 39 = n) :
    ∀ (X : List Int) (i acc : Int), 0 ≤ i → i + X.length = n → wok X → Seg σ 105 i.toNat X → 0 ≤ acc ∧ acc ≤ 9 * i →
    Z (z_me cX9_harmLeft RX9 3 (some .int) (d + 0) (qI fun z σ' => z = acc + sumL (σ 83) X ∧ σ' = σ)) 4 [some (zR 9), some (zI acc), some (zI i)] [] σ
  | [], i, acc, h0, hl, hx, hs, ha => by
    rw [List.length_nil] at hl
    refine z_iload_n dX9_harmLeft_4 rfl ?_
    refine z_aload_n dX9_harmLeft_5 rfl ?_
    refine z_getI dX9_harmLeft_6 gX9_283 rfl (Nat.le_of_ble_eq_true rfl) rfl (fun hr6 => ?_)
    refine z_icmp_ge (tgt := 32) dX9_harmLeft_9 (by decide) ⟨by omega, by omega⟩ ⟨by omega, by omega⟩ (fun h9 => ?_) (fun h9 => ?_)
    · skip
      refine z_iload_n dX9_harmLeft_32 rfl ?_
      exact z_iret dX9_harmLeft_33 ⟨by rw [sumL]; omega, rfl⟩
    · exfalso; omega
  | w :: r, i, acc, h0, hl, hx, hs, ha => by
    rw [List.length_cons] at hl
    obtain ⟨e1, hs⟩ := hs
    obtain ⟨hw, hx⟩ := wok_c hx
    have w83 := h83 w.toNat
    refine z_iload_n dX9_harmLeft_4 rfl ?_
    refine z_aload_n dX9_harmLeft_5 rfl ?_
    refine z_getI dX9_harmLeft_6 gX9_283 rfl (Nat.le_of_ble_eq_true rfl) rfl (fun hr6 => ?_)
    refine z_icmp_ge (tgt := 32) dX9_harmLeft_9 (by decide) ⟨by omega, by omega⟩ ⟨by omega, by omega⟩ (fun h9 => ?_) (fun h9 => ?_)
    · exfalso; omega
    · skip
      refine z_iload_n dX9_harmLeft_12 rfl ?_
      refine z_aload_n dX9_harmLeft_13 rfl ?_
      refine z_getR dX9_harmLeft_14 gX9_15 rfl (Nat.le_of_ble_eq_true rfl) rfl ?_
      refine z_aload_n dX9_harmLeft_17 rfl ?_
      refine z_getR dX9_harmLeft_18 gX9_87 rfl (Nat.le_of_ble_eq_true rfl) rfl ?_
      refine z_iload_n dX9_harmLeft_21 rfl ?_
      refine z_iald dX9_harmLeft_22 rfl (Nat.le_of_ble_eq_true rfl) (by omega) (fun hr22 => ?_)
      rw [e1]
      refine z_iald dX9_harmLeft_23 rfl (Nat.le_of_ble_eq_true rfl) (by omega) (fun hr23 => ?_)
      refine z_iadd dX9_harmLeft_24 ?_
      refine z_istore_n (L' := [_, _, _]) dX9_harmLeft_25 (Nat.le_of_ble_eq_true rfl) rfl rfl ?_
      refine z_iinc (L' := [_, _, _]) dX9_harmLeft_26 (Nat.le_of_ble_eq_true rfl) rfl rfl rfl ?_
      refine z_goto (tgt := 4) dX9_harmLeft_29 (by decide) ?_
      rw [sumL, show acc + (σ 83 w.toNat + sumL (σ 83) r) = acc + σ 83 w.toNat + sumL (σ 83) r by omega]
      exact l_X9_harmLeft h83 n hn h39 r (i + 1) _ (by omega) (by omega) hx (by rw [toN_s h0]; exact hs) (by omega)
/-- what stands as left -/
def lfM (σ : Sto) (X : List Int) : Prop := σ 9 39 = (X.length : Int) ∧ Seg σ 105 0 X ∧ wok X ∧ X.length ≤ 13
def caM (σ : Sto) (X : List Int) : Prop := σ 9 37 = (X.length : Int) ∧ Seg σ 104 0 X ∧ wok X ∧ X.length ≤ 13
set_option maxRecDepth 20000 in
theorem c_X9_harmLeft {d : Nat} {σ : Sto} {X : List Int} (h83 : ∀ j, 0 ≤ σ 83 j ∧ σ 83 j ≤ 9) (hX : lfM σ X) : m_X9_harmLeft d [zR 9] σ (qI fun z σ' => z = sumL (σ 83) X ∧ σ' = σ) := by
  obtain ⟨x1, x2, x3, x4⟩ := hX
  refine z_does (L := [some (zR 9), none, none]) rfl (by decide +kernel) (Nat.le_of_ble_eq_true rfl) rfl ?_
  refine z_iconst dX9_harmLeft_0 ?_
  refine z_istore_n (L' := [_, _, _]) dX9_harmLeft_1 (Nat.le_of_ble_eq_true rfl) rfl rfl ?_
  refine z_iconst dX9_harmLeft_2 ?_
  refine z_istore_n (L' := [_, _, _]) dX9_harmLeft_3 (Nat.le_of_ble_eq_true rfl) rfl rfl ?_
  have h := l_X9_harmLeft (d := d) h83 (X.length : Int) (by omega) x1 X 0 0 (by omega) (by omega) x3 x2 (by omega)
  rw [Int.zero_add] at h
  exact h
/-- the list a flag stands for: the saying, or what came -/
def huR (σ : Sto) (b : Int) (n : Int) (X : List Int) (i : Nat) : Prop := (b = 1 ∧ σ 9 35 = n ∧ Seg σ 103 i X) ∨ (b = 0 ∧ σ 9 37 = n ∧ Seg σ 104 i X)
theorem huR.c {σ : Sto} {b n w : Int} {r : List Int} {i : Nat} (h : huR σ b n (w :: r) i) : ((b = 1 ∧ σ 9 35 = n ∧ σ 103 i = w) ∨ (b = 0 ∧ σ 9 37 = n ∧ σ 104 i = w)) ∧ huR σ b n r (i + 1) := by
  rcases h with ⟨h1, h2, h3, h4⟩ | ⟨h1, h2, h3, h4⟩
  · exact ⟨Or.inl ⟨h1, h2, h3⟩, Or.inl ⟨h1, h2, h4⟩⟩
  · exact ⟨Or.inr ⟨h1, h2, h3⟩, Or.inr ⟨h1, h2, h4⟩⟩
theorem huR.b {σ : Sto} {b n : Int} {r : List Int} {i : Nat} (h : huR σ b n r i) : (b = 1 ∧ σ 9 35 = n) ∨ (b = 0 ∧ σ 9 37 = n) := by
  rcases h with ⟨h1, h2, -⟩ | ⟨h1, h2, -⟩
  · exact Or.inl ⟨h1, h2⟩
  · exact Or.inr ⟨h1, h2⟩
set_option maxRecDepth 20000 in
set_option maxHeartbeats 1000000 in
theorem l_X9_hurtIn {d : Nat} {σ : Sto} {b p bits : Int} {P : Option Value → Sto → Prop} (h83 : ∀ j, 0 ≤ σ 83 j ∧ σ 83 j ≤ 9) (h84 : ∀ j, 0 ≤ σ 84 j ∧ σ 84 j ≤ 9) (hb6 : inR (σ 9 11)) (hp : inR p) (h86 : ∀ j, inR (σ 86 j)) (n : Int) (hn : n ≤ 13) :
    ∀ (X : List Int) (i acc : Int), 0 ≤ i → i + X.length = n → wok X → huR σ b n X i.toNat → -(9 * i) ≤ acc ∧ acc ≤ 9 * i →
    (∀ acc', acc' = acc + netL (σ 86) (σ 83) (σ 84) p X → -(9 * n) ≤ acc' ∧ acc' ≤ 9 * n → Z (z_me cX9_hurtBy RX9 7 (some .int) (d + 0) P) 98 [some (zR 9), some (zI b), some (zI bits), some (zI p), some (zI acc'), some (zI n), none] [] σ) →
    Z (z_me cX9_hurtBy RX9 7 (some .int) (d + 0) P) 18 [some (zR 9), some (zI b), some (zI bits), some (zI p), some (zI acc), some (zI i), none] [] σ
  | [], i, acc, h0, hl, hx, hs, ha, hk => by
    rw [List.length_nil] at hl
    have hs := hs.b
    obtain rfl : i = n := by omega
    refine z_iload dX9_hurtBy_18 rfl ?_
    refine z_iload_n dX9_hurtBy_20 rfl ?_
    refine z_if_eq (tgt := 31) dX9_hurtBy_21 (by decide) ⟨by omega, by omega⟩ (fun h21 => ?_) (fun h21 => ?_)
    · skip
      refine z_aload_n dX9_hurtBy_31 rfl ?_
      refine z_getI dX9_hurtBy_32 gX9_280 rfl (Nat.le_of_ble_eq_true rfl) rfl (fun hr32 => ?_)
      refine z_icmp_ge (tgt := 98) dX9_hurtBy_35 (by decide) ⟨by omega, by omega⟩ ⟨by omega, by omega⟩ (fun h35 => ?_) (fun h35 => ?_)
      · skip
        exact hk acc (by rw [netL]; omega) ha
      · exfalso; omega
    · skip
      refine z_aload_n dX9_hurtBy_24 rfl ?_
      refine z_getI dX9_hurtBy_25 gX9_274 rfl (Nat.le_of_ble_eq_true rfl) rfl (fun hr25 => ?_)
      refine z_goto (tgt := 35) dX9_hurtBy_28 (by decide) ?_
      refine z_icmp_ge (tgt := 98) dX9_hurtBy_35 (by decide) ⟨by omega, by omega⟩ ⟨by omega, by omega⟩ (fun h35 => ?_) (fun h35 => ?_)
      · skip
        exact hk acc (by rw [netL]; omega) ha
      · exfalso; omega
  | w :: r, i, acc, h0, hl, hx, hs, ha, hk => by
    rw [List.length_cons] at hl
    obtain ⟨e1, hs⟩ := hs.c
    obtain ⟨hw, hx⟩ := wok_c hx
    have w83 := h83 w.toNat
    have w84 := h84 w.toNat
    have w86 := h86 w.toNat
    refine z_iload dX9_hurtBy_18 rfl ?_
    refine z_iload_n dX9_hurtBy_20 rfl ?_
    refine z_if_eq (tgt := 31) dX9_hurtBy_21 (by decide) ⟨by omega, by omega⟩ (fun h21 => ?_) (fun h21 => ?_)
    · skip
      refine z_aload_n dX9_hurtBy_31 rfl ?_
      refine z_getI dX9_hurtBy_32 gX9_280 rfl (Nat.le_of_ble_eq_true rfl) rfl (fun hr32 => ?_)
      refine z_icmp_ge (tgt := 98) dX9_hurtBy_35 (by decide) ⟨by omega, by omega⟩ ⟨by omega, by omega⟩ (fun h35 => ?_) (fun h35 => ?_)
      · exfalso; omega
      · skip
        refine z_iload_n dX9_hurtBy_38 rfl ?_
        refine z_if_eq (tgt := 52) dX9_hurtBy_39 (by decide) ⟨by omega, by omega⟩ (fun h39 => ?_) (fun h39 => ?_)
        · skip
          refine z_aload_n dX9_hurtBy_52 rfl ?_
          refine z_getR dX9_hurtBy_53 gX9_84 rfl (Nat.le_of_ble_eq_true rfl) rfl ?_
          refine z_iload dX9_hurtBy_56 rfl ?_
          refine z_iald dX9_hurtBy_58 rfl (Nat.le_of_ble_eq_true rfl) (by omega) (fun hr58 => ?_)
          try rw [show σ 104 i.toNat = w by rcases e1 with q | q; exfalso; omega; exact q.2.2]
          refine z_istore (L' := [_, _, _, _, _, _, _]) dX9_hurtBy_59 (Nat.le_of_ble_eq_true rfl) rfl rfl ?_
          refine z_aload_n dX9_hurtBy_61 rfl ?_
          refine z_getR dX9_hurtBy_62 gX9_24 rfl (Nat.le_of_ble_eq_true rfl) rfl ?_
          refine z_iload dX9_hurtBy_65 rfl ?_
          refine z_iald dX9_hurtBy_67 rfl (Nat.le_of_ble_eq_true rfl) (by omega) (fun hr67 => ?_)
          refine z_iload_n dX9_hurtBy_68 rfl ?_
          refine z_icmp_ne (tgt := 92) dX9_hurtBy_69 (by decide) ⟨by omega, by omega⟩ ⟨by omega, by omega⟩ (fun h69 => ?_) (fun h69 => ?_)
          · skip
            refine z_iinc (L' := [_, _, _, _, _, _, _]) dX9_hurtBy_92 (Nat.le_of_ble_eq_true rfl) rfl rfl rfl ?_
            refine z_goto (tgt := 18) dX9_hurtBy_95 (by decide) ?_
            refine z_forget [true, true, true, true, true, true, false] (L' := [_, _, _, _, _, _, _]) rfl ?_
            refine l_X9_hurtIn h83 h84 hb6 hp h86 n hn r (i + 1) _ (by omega) (by omega) hx (by rw [toN_s h0]; exact hs) (by omega) (fun acc' q1 q2 => hk acc' ?_ q2)
            rw [netL]
            first
              | (rw [if_pos (by omega)]; omega)
              | (rw [if_neg (by omega)]; omega)
          · skip
            refine z_iload dX9_hurtBy_72 rfl ?_
            refine z_aload_n dX9_hurtBy_74 rfl ?_
            refine z_getR dX9_hurtBy_75 gX9_15 rfl (Nat.le_of_ble_eq_true rfl) rfl ?_
            refine z_iload dX9_hurtBy_78 rfl ?_
            refine z_iald dX9_hurtBy_80 rfl (Nat.le_of_ble_eq_true rfl) (by omega) (fun hr80 => ?_)
            refine z_aload_n dX9_hurtBy_81 rfl ?_
            refine z_getR dX9_hurtBy_82 gX9_18 rfl (Nat.le_of_ble_eq_true rfl) rfl ?_
            refine z_iload dX9_hurtBy_85 rfl ?_
            refine z_iald dX9_hurtBy_87 rfl (Nat.le_of_ble_eq_true rfl) (by omega) (fun hr87 => ?_)
            refine z_isub dX9_hurtBy_88 ?_
            refine z_iadd dX9_hurtBy_89 ?_
            refine z_istore (L' := [_, _, _, _, _, _, _]) dX9_hurtBy_90 (Nat.le_of_ble_eq_true rfl) rfl rfl ?_
            refine z_iinc (L' := [_, _, _, _, _, _, _]) dX9_hurtBy_92 (Nat.le_of_ble_eq_true rfl) rfl rfl rfl ?_
            refine z_goto (tgt := 18) dX9_hurtBy_95 (by decide) ?_
            refine z_forget [true, true, true, true, true, true, false] (L' := [_, _, _, _, _, _, _]) rfl ?_
            refine l_X9_hurtIn h83 h84 hb6 hp h86 n hn r (i + 1) _ (by omega) (by omega) hx (by rw [toN_s h0]; exact hs) (by omega) (fun acc' q1 q2 => hk acc' ?_ q2)
            rw [netL]
            first
              | (rw [if_pos (by omega)]; omega)
              | (rw [if_neg (by omega)]; omega)
        · skip
          refine z_aload_n dX9_hurtBy_42 rfl ?_
          refine z_getR dX9_hurtBy_43 gX9_81 rfl (Nat.le_of_ble_eq_true rfl) rfl ?_
          refine z_iload dX9_hurtBy_46 rfl ?_
          refine z_iald dX9_hurtBy_48 rfl (Nat.le_of_ble_eq_true rfl) (by omega) (fun hr48 => ?_)
          rw [show σ 103 i.toNat = w by rcases e1 with q | q; exact q.2.2; exfalso; omega]
          refine z_goto (tgt := 59) dX9_hurtBy_49 (by decide) ?_
          try rw [show σ 104 i.toNat = w by rcases e1 with q | q; exfalso; omega; exact q.2.2]
          refine z_istore (L' := [_, _, _, _, _, _, _]) dX9_hurtBy_59 (Nat.le_of_ble_eq_true rfl) rfl rfl ?_
          refine z_aload_n dX9_hurtBy_61 rfl ?_
          refine z_getR dX9_hurtBy_62 gX9_24 rfl (Nat.le_of_ble_eq_true rfl) rfl ?_
          refine z_iload dX9_hurtBy_65 rfl ?_
          refine z_iald dX9_hurtBy_67 rfl (Nat.le_of_ble_eq_true rfl) (by omega) (fun hr67 => ?_)
          refine z_iload_n dX9_hurtBy_68 rfl ?_
          refine z_icmp_ne (tgt := 92) dX9_hurtBy_69 (by decide) ⟨by omega, by omega⟩ ⟨by omega, by omega⟩ (fun h69 => ?_) (fun h69 => ?_)
          · skip
            refine z_iinc (L' := [_, _, _, _, _, _, _]) dX9_hurtBy_92 (Nat.le_of_ble_eq_true rfl) rfl rfl rfl ?_
            refine z_goto (tgt := 18) dX9_hurtBy_95 (by decide) ?_
            refine z_forget [true, true, true, true, true, true, false] (L' := [_, _, _, _, _, _, _]) rfl ?_
            refine l_X9_hurtIn h83 h84 hb6 hp h86 n hn r (i + 1) _ (by omega) (by omega) hx (by rw [toN_s h0]; exact hs) (by omega) (fun acc' q1 q2 => hk acc' ?_ q2)
            rw [netL]
            first
              | (rw [if_pos (by omega)]; omega)
              | (rw [if_neg (by omega)]; omega)
          · skip
            refine z_iload dX9_hurtBy_72 rfl ?_
            refine z_aload_n dX9_hurtBy_74 rfl ?_
            refine z_getR dX9_hurtBy_75 gX9_15 rfl (Nat.le_of_ble_eq_true rfl) rfl ?_
            refine z_iload dX9_hurtBy_78 rfl ?_
            refine z_iald dX9_hurtBy_80 rfl (Nat.le_of_ble_eq_true rfl) (by omega) (fun hr80 => ?_)
            refine z_aload_n dX9_hurtBy_81 rfl ?_
            refine z_getR dX9_hurtBy_82 gX9_18 rfl (Nat.le_of_ble_eq_true rfl) rfl ?_
            refine z_iload dX9_hurtBy_85 rfl ?_
            refine z_iald dX9_hurtBy_87 rfl (Nat.le_of_ble_eq_true rfl) (by omega) (fun hr87 => ?_)
            refine z_isub dX9_hurtBy_88 ?_
            refine z_iadd dX9_hurtBy_89 ?_
            refine z_istore (L' := [_, _, _, _, _, _, _]) dX9_hurtBy_90 (Nat.le_of_ble_eq_true rfl) rfl rfl ?_
            refine z_iinc (L' := [_, _, _, _, _, _, _]) dX9_hurtBy_92 (Nat.le_of_ble_eq_true rfl) rfl rfl rfl ?_
            refine z_goto (tgt := 18) dX9_hurtBy_95 (by decide) ?_
            refine z_forget [true, true, true, true, true, true, false] (L' := [_, _, _, _, _, _, _]) rfl ?_
            refine l_X9_hurtIn h83 h84 hb6 hp h86 n hn r (i + 1) _ (by omega) (by omega) hx (by rw [toN_s h0]; exact hs) (by omega) (fun acc' q1 q2 => hk acc' ?_ q2)
            rw [netL]
            first
              | (rw [if_pos (by omega)]; omega)
              | (rw [if_neg (by omega)]; omega)
    · skip
      refine z_aload_n dX9_hurtBy_24 rfl ?_
      refine z_getI dX9_hurtBy_25 gX9_274 rfl (Nat.le_of_ble_eq_true rfl) rfl (fun hr25 => ?_)
      refine z_goto (tgt := 35) dX9_hurtBy_28 (by decide) ?_
      refine z_icmp_ge (tgt := 98) dX9_hurtBy_35 (by decide) ⟨by omega, by omega⟩ ⟨by omega, by omega⟩ (fun h35 => ?_) (fun h35 => ?_)
      · exfalso; omega
      · skip
        refine z_iload_n dX9_hurtBy_38 rfl ?_
        refine z_if_eq (tgt := 52) dX9_hurtBy_39 (by decide) ⟨by omega, by omega⟩ (fun h39 => ?_) (fun h39 => ?_)
        · skip
          refine z_aload_n dX9_hurtBy_52 rfl ?_
          refine z_getR dX9_hurtBy_53 gX9_84 rfl (Nat.le_of_ble_eq_true rfl) rfl ?_
          refine z_iload dX9_hurtBy_56 rfl ?_
          refine z_iald dX9_hurtBy_58 rfl (Nat.le_of_ble_eq_true rfl) (by omega) (fun hr58 => ?_)
          try rw [show σ 104 i.toNat = w by rcases e1 with q | q; exfalso; omega; exact q.2.2]
          refine z_istore (L' := [_, _, _, _, _, _, _]) dX9_hurtBy_59 (Nat.le_of_ble_eq_true rfl) rfl rfl ?_
          refine z_aload_n dX9_hurtBy_61 rfl ?_
          refine z_getR dX9_hurtBy_62 gX9_24 rfl (Nat.le_of_ble_eq_true rfl) rfl ?_
          refine z_iload dX9_hurtBy_65 rfl ?_
          refine z_iald dX9_hurtBy_67 rfl (Nat.le_of_ble_eq_true rfl) (by omega) (fun hr67 => ?_)
          refine z_iload_n dX9_hurtBy_68 rfl ?_
          refine z_icmp_ne (tgt := 92) dX9_hurtBy_69 (by decide) ⟨by omega, by omega⟩ ⟨by omega, by omega⟩ (fun h69 => ?_) (fun h69 => ?_)
          · skip
            refine z_iinc (L' := [_, _, _, _, _, _, _]) dX9_hurtBy_92 (Nat.le_of_ble_eq_true rfl) rfl rfl rfl ?_
            refine z_goto (tgt := 18) dX9_hurtBy_95 (by decide) ?_
            refine z_forget [true, true, true, true, true, true, false] (L' := [_, _, _, _, _, _, _]) rfl ?_
            refine l_X9_hurtIn h83 h84 hb6 hp h86 n hn r (i + 1) _ (by omega) (by omega) hx (by rw [toN_s h0]; exact hs) (by omega) (fun acc' q1 q2 => hk acc' ?_ q2)
            rw [netL]
            first
              | (rw [if_pos (by omega)]; omega)
              | (rw [if_neg (by omega)]; omega)
          · skip
            refine z_iload dX9_hurtBy_72 rfl ?_
            refine z_aload_n dX9_hurtBy_74 rfl ?_
            refine z_getR dX9_hurtBy_75 gX9_15 rfl (Nat.le_of_ble_eq_true rfl) rfl ?_
            refine z_iload dX9_hurtBy_78 rfl ?_
            refine z_iald dX9_hurtBy_80 rfl (Nat.le_of_ble_eq_true rfl) (by omega) (fun hr80 => ?_)
            refine z_aload_n dX9_hurtBy_81 rfl ?_
            refine z_getR dX9_hurtBy_82 gX9_18 rfl (Nat.le_of_ble_eq_true rfl) rfl ?_
            refine z_iload dX9_hurtBy_85 rfl ?_
            refine z_iald dX9_hurtBy_87 rfl (Nat.le_of_ble_eq_true rfl) (by omega) (fun hr87 => ?_)
            refine z_isub dX9_hurtBy_88 ?_
            refine z_iadd dX9_hurtBy_89 ?_
            refine z_istore (L' := [_, _, _, _, _, _, _]) dX9_hurtBy_90 (Nat.le_of_ble_eq_true rfl) rfl rfl ?_
            refine z_iinc (L' := [_, _, _, _, _, _, _]) dX9_hurtBy_92 (Nat.le_of_ble_eq_true rfl) rfl rfl rfl ?_
            refine z_goto (tgt := 18) dX9_hurtBy_95 (by decide) ?_
            refine z_forget [true, true, true, true, true, true, false] (L' := [_, _, _, _, _, _, _]) rfl ?_
            refine l_X9_hurtIn h83 h84 hb6 hp h86 n hn r (i + 1) _ (by omega) (by omega) hx (by rw [toN_s h0]; exact hs) (by omega) (fun acc' q1 q2 => hk acc' ?_ q2)
            rw [netL]
            first
              | (rw [if_pos (by omega)]; omega)
              | (rw [if_neg (by omega)]; omega)
        · skip
          refine z_aload_n dX9_hurtBy_42 rfl ?_
          refine z_getR dX9_hurtBy_43 gX9_81 rfl (Nat.le_of_ble_eq_true rfl) rfl ?_
          refine z_iload dX9_hurtBy_46 rfl ?_
          refine z_iald dX9_hurtBy_48 rfl (Nat.le_of_ble_eq_true rfl) (by omega) (fun hr48 => ?_)
          rw [show σ 103 i.toNat = w by rcases e1 with q | q; exact q.2.2; exfalso; omega]
          refine z_goto (tgt := 59) dX9_hurtBy_49 (by decide) ?_
          try rw [show σ 104 i.toNat = w by rcases e1 with q | q; exfalso; omega; exact q.2.2]
          refine z_istore (L' := [_, _, _, _, _, _, _]) dX9_hurtBy_59 (Nat.le_of_ble_eq_true rfl) rfl rfl ?_
          refine z_aload_n dX9_hurtBy_61 rfl ?_
          refine z_getR dX9_hurtBy_62 gX9_24 rfl (Nat.le_of_ble_eq_true rfl) rfl ?_
          refine z_iload dX9_hurtBy_65 rfl ?_
          refine z_iald dX9_hurtBy_67 rfl (Nat.le_of_ble_eq_true rfl) (by omega) (fun hr67 => ?_)
          refine z_iload_n dX9_hurtBy_68 rfl ?_
          refine z_icmp_ne (tgt := 92) dX9_hurtBy_69 (by decide) ⟨by omega, by omega⟩ ⟨by omega, by omega⟩ (fun h69 => ?_) (fun h69 => ?_)
          · skip
            refine z_iinc (L' := [_, _, _, _, _, _, _]) dX9_hurtBy_92 (Nat.le_of_ble_eq_true rfl) rfl rfl rfl ?_
            refine z_goto (tgt := 18) dX9_hurtBy_95 (by decide) ?_
            refine z_forget [true, true, true, true, true, true, false] (L' := [_, _, _, _, _, _, _]) rfl ?_
            refine l_X9_hurtIn h83 h84 hb6 hp h86 n hn r (i + 1) _ (by omega) (by omega) hx (by rw [toN_s h0]; exact hs) (by omega) (fun acc' q1 q2 => hk acc' ?_ q2)
            rw [netL]
            first
              | (rw [if_pos (by omega)]; omega)
              | (rw [if_neg (by omega)]; omega)
          · skip
            refine z_iload dX9_hurtBy_72 rfl ?_
            refine z_aload_n dX9_hurtBy_74 rfl ?_
            refine z_getR dX9_hurtBy_75 gX9_15 rfl (Nat.le_of_ble_eq_true rfl) rfl ?_
            refine z_iload dX9_hurtBy_78 rfl ?_
            refine z_iald dX9_hurtBy_80 rfl (Nat.le_of_ble_eq_true rfl) (by omega) (fun hr80 => ?_)
            refine z_aload_n dX9_hurtBy_81 rfl ?_
            refine z_getR dX9_hurtBy_82 gX9_18 rfl (Nat.le_of_ble_eq_true rfl) rfl ?_
            refine z_iload dX9_hurtBy_85 rfl ?_
            refine z_iald dX9_hurtBy_87 rfl (Nat.le_of_ble_eq_true rfl) (by omega) (fun hr87 => ?_)
            refine z_isub dX9_hurtBy_88 ?_
            refine z_iadd dX9_hurtBy_89 ?_
            refine z_istore (L' := [_, _, _, _, _, _, _]) dX9_hurtBy_90 (Nat.le_of_ble_eq_true rfl) rfl rfl ?_
            refine z_iinc (L' := [_, _, _, _, _, _, _]) dX9_hurtBy_92 (Nat.le_of_ble_eq_true rfl) rfl rfl rfl ?_
            refine z_goto (tgt := 18) dX9_hurtBy_95 (by decide) ?_
            refine z_forget [true, true, true, true, true, true, false] (L' := [_, _, _, _, _, _, _]) rfl ?_
            refine l_X9_hurtIn h83 h84 hb6 hp h86 n hn r (i + 1) _ (by omega) (by omega) hx (by rw [toN_s h0]; exact hs) (by omega) (fun acc' q1 q2 => hk acc' ?_ q2)
            rw [netL]
            first
              | (rw [if_pos (by omega)]; omega)
              | (rw [if_neg (by omega)]; omega)
set_option maxRecDepth 20000 in
theorem t_X9_hurtBy {d : Nat} {σ : Sto} {b p bits nv : Int} {P : Option Value → Sto → Prop} {x y : Option Value} (hv : -200 ≤ nv ∧ nv ≤ 200) (hp : 0 ≤ p ∧ p < 6) (h90 : ∀ j, 0 ≤ σ 90 j ∧ σ 90 j ≤ 9)
    (ih : Z (z_me cX9_hurtBy RX9 7 (some .int) (d + 0) P) 4 [some (zR 9), some (zI b), some (zI (if decide (nv > 9 - σ 90 p.toNat) then z_iorF bits (z_ishlF 1 p) else bits)), some (zI (p + 1)), none, none, none] [] σ) :
    Z (z_me cX9_hurtBy RX9 7 (some .int) (d + 0) P) 98 [some (zR 9), some (zI b), some (zI bits), some (zI p), some (zI nv), x, y] [] σ := by
  have w90 := h90 p.toNat
  refine z_iload dX9_hurtBy_98 rfl ?_
  refine z_bipush (v := 9) dX9_hurtBy_100 (by decide +kernel) ?_
  refine z_aload_n dX9_hurtBy_102 rfl ?_
  refine z_getR dX9_hurtBy_103 gX9_36 rfl (Nat.le_of_ble_eq_true rfl) rfl ?_
  refine z_iload_n dX9_hurtBy_106 rfl ?_
  refine z_iald dX9_hurtBy_107 rfl (Nat.le_of_ble_eq_true rfl) (by omega) (fun hr107 => ?_)
  refine z_isub dX9_hurtBy_108 ?_
  refine z_icmp_le (tgt := 118) dX9_hurtBy_109 (by decide) ⟨by omega, by omega⟩ ⟨by omega, by omega⟩ (fun h109 => ?_) (fun h109 => ?_)
  · skip
    refine z_iinc (L' := [_, _, _, _, _, _, _]) dX9_hurtBy_118 (Nat.le_of_ble_eq_true rfl) rfl rfl rfl ?_
    refine z_goto (tgt := 4) dX9_hurtBy_121 (by decide) ?_
    refine z_forget [true, true, true, true, false, false, false] (L' := [_, _, _, _, _, _, _]) rfl ?_
    first
      | (rw [if_pos (by rw [decide_eq_true_eq]; omega)] at ih; exact ih)
      | (rw [if_neg (by rw [decide_eq_true_eq]; omega)] at ih; exact ih)
  · skip
    refine z_iload_n dX9_hurtBy_112 rfl ?_
    refine z_iconst dX9_hurtBy_113 ?_
    refine z_iload_n dX9_hurtBy_114 rfl ?_
    refine z_ishl dX9_hurtBy_115 ?_
    refine z_ior dX9_hurtBy_116 ?_
    refine z_istore_n (L' := [_, _, _, _, _, _, _]) dX9_hurtBy_117 (Nat.le_of_ble_eq_true rfl) rfl rfl ?_
    refine z_iinc (L' := [_, _, _, _, _, _, _]) dX9_hurtBy_118 (Nat.le_of_ble_eq_true rfl) rfl rfl rfl ?_
    refine z_goto (tgt := 4) dX9_hurtBy_121 (by decide) ?_
    refine z_forget [true, true, true, true, false, false, false] (L' := [_, _, _, _, _, _, _]) rfl ?_
    first
      | (rw [if_pos (by rw [decide_eq_true_eq]; omega)] at ih; exact ih)
      | (rw [if_neg (by rw [decide_eq_true_eq]; omega)] at ih; exact ih)
set_option maxRecDepth 20000 in
theorem l_X9_hurtBy {d : Nat} {σ : Sto} {b n : Int} {X : List Int} (hc : 0 ≤ σ 9 11 ∧ σ 9 11 ≤ 6) (h83 : ∀ j, 0 ≤ σ 83 j ∧ σ 83 j ≤ 9) (h84 : ∀ j, 0 ≤ σ 84 j ∧ σ 84 j ≤ 9) (h86 : ∀ j, inR (σ 86 j)) (h90 : ∀ j, 0 ≤ σ 90 j ∧ σ 90 j ≤ 9) (hn : n = X.length ∧ n ≤ 13) (hx : wok X) (hs : huR σ b n X 0) :
    ∀ (m : Nat) (p bits : Int), 0 ≤ p → p + m = σ 9 11 → inR bits →
    Z (z_me cX9_hurtBy RX9 7 (some .int) (d + 0) (qI fun z σ' => z = bitL (fun p => decide (netL (σ 86) (σ 83) (σ 84) p X > 9 - σ 90 p.toNat)) m p bits ∧ σ' = σ)) 4 [some (zR 9), some (zI b), some (zI bits), some (zI p), none, none, none] [] σ
  | 0, p, bits, h0, hm, hb => by
    refine z_iload_n dX9_hurtBy_4 rfl ?_
    refine z_aload_n dX9_hurtBy_5 rfl ?_
    refine z_getI dX9_hurtBy_6 gX9_160 rfl (Nat.le_of_ble_eq_true rfl) rfl (fun hr6 => ?_)
    refine z_icmp_ge (tgt := 124) dX9_hurtBy_9 (by decide) ⟨by omega, by omega⟩ ⟨by omega, by omega⟩ (fun h9 => ?_) (fun h9 => ?_)
    · skip
      refine z_iload_n dX9_hurtBy_124 rfl ?_
      exact z_iret dX9_hurtBy_125 ⟨rfl, rfl⟩
    · exfalso; omega
  | m + 1, p, bits, h0, hm, hb => by
    refine z_iload_n dX9_hurtBy_4 rfl ?_
    refine z_aload_n dX9_hurtBy_5 rfl ?_
    refine z_getI dX9_hurtBy_6 gX9_160 rfl (Nat.le_of_ble_eq_true rfl) rfl (fun hr6 => ?_)
    refine z_icmp_ge (tgt := 124) dX9_hurtBy_9 (by decide) ⟨by omega, by omega⟩ ⟨by omega, by omega⟩ (fun h9 => ?_) (fun h9 => ?_)
    · exfalso; omega
    · skip
      refine z_iconst dX9_hurtBy_12 ?_
      refine z_istore (L' := [_, _, _, _, _, _, _]) dX9_hurtBy_13 (Nat.le_of_ble_eq_true rfl) rfl rfl ?_
      refine z_iconst dX9_hurtBy_15 ?_
      refine z_istore (L' := [_, _, _, _, _, _, _]) dX9_hurtBy_16 (Nat.le_of_ble_eq_true rfl) rfl rfl ?_
      refine l_X9_hurtIn h83 h84 (by omega) (by omega) h86 n hn.2 X 0 0 (by omega) (by omega) hx hs (by omega) (fun acc' q1 q2 => ?_)
      rw [Int.zero_add] at q1
      refine t_X9_hurtBy (by omega) (by omega) h90 ?_
      rw [q1, bitL]
      exact l_X9_hurtBy hc h83 h84 h86 h90 hn hx hs m (p + 1) _ (by omega) (by omega) (by split <;> first | exact z_rng _ | exact hb)
abbrev hurtM (σ : Sto) (X : List Int) : Int := hurtL (σ 86) (σ 83) (σ 84) (σ 90) (σ 9 11) X
set_option maxRecDepth 20000 in
theorem c_X9_hurtBy {d : Nat} {σ : Sto} {LF : LFT} {b : Int} {X : List Int} (hW : WM LF σ) (hl : X.length ≤ 13) (hx : wok X) (hs : huR σ b X.length X 0) : m_X9_hurtBy d [zR 9, zI b] σ (qI fun z σ' => z = hurtM σ X ∧ σ' = σ) := by
  obtain ⟨w1, w2, w3, w82, w83, w84, w85, w86, w87, w90, -⟩ := hW
  have hs2 := hs.b
  refine z_does (L := [some (zR 9), some (zI b), none, none, none, none, none]) rfl (by decide +kernel) (Nat.le_of_ble_eq_true rfl) rfl ?_
  refine z_iconst dX9_hurtBy_0 ?_
  refine z_istore_n (L' := [_, _, _, _, _, _, _]) dX9_hurtBy_1 (Nat.le_of_ble_eq_true rfl) rfl rfl ?_
  refine z_iconst dX9_hurtBy_2 ?_
  refine z_istore_n (L' := [_, _, _, _, _, _, _]) dX9_hurtBy_3 (Nat.le_of_ble_eq_true rfl) rfl rfl ?_
  exact l_X9_hurtBy w3 w83 w84 (fun j => by have := w86 j; omega) w90 ⟨rfl, by omega⟩ hx hs (σ 9 11).toNat 0 0 (by omega) (by omega) (by omega)
