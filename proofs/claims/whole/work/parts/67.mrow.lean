/-! ===== The reference: rows laid beside, what just comes ===== -/
def r1M (σ : Sto) (X : List Int) : Prop := σ 9 43 = (X.length : Int) ∧ Seg σ 107 0 X ∧ wok X ∧ X.length ≤ 12
def reM (σ : Sto) (X : List Int) : Prop := σ 9 46 = (X.length : Int) ∧ Seg σ 109 0 X ∧ wok X ∧ X.length ≤ 12
abbrev lrK : Sto → Sto → Prop := frM [103, 107] [35, 43]
set_option maxRecDepth 20000 in
theorem l_X9_layRow {d : Nat} {υ : Sto} {s : Int} {C : List Int} (hs : Seg υ 103 0 C) (h43 : υ 9 43 = (C.length : Int)) (hl : C.length ≤ 12) :
    ∀ (R : List Int) (τ : Sto) (Q : List Int) (j : Int), j = Q.length → Q ++ R = C → frM [107] [] υ τ → Seg τ 107 0 Q → Seg υ 103 j.toNat R →
    Z (z_me cX9_layRow RX9 3 none (d + 3) (qV fun σ' => frM [107] [] υ σ' ∧ Seg σ' 107 0 C)) 15 [some (zR 9), some (zI s), some (zI j)] [] τ
  | [], τ, Q, j, hj, hq, hK, sQ, sR => by
    have e43 : τ 9 43 = υ 9 43 := hK.2 43 (by decide)
    rw [List.append_nil] at hq
    subst hq
    refine z_iload_n dX9_layRow_15 rfl ?_
    refine z_aload_n dX9_layRow_16 rfl ?_
    refine z_getI dX9_layRow_17 gX9_315 rfl (Nat.le_of_ble_eq_true rfl) rfl (fun hr17 => ?_)
    refine z_icmp_ge (tgt := 41) dX9_layRow_20 (by decide) ⟨by omega, by omega⟩ ⟨by omega, by omega⟩ (fun h20 => ?_) (fun h20 => ?_)
    · skip
      exact z_vret dX9_layRow_41 ⟨hK, sQ⟩
    · exfalso; omega
  | x :: r, τ, Q, j, hj, hq, hK, sQ, sR => by
    have e43 : τ 9 43 = υ 9 43 := hK.2 43 (by decide)
    have e103 : τ 103 = υ 103 := hK.1 103 (by decide) (by decide)
    obtain ⟨e1, sR⟩ := sR
    have hlen : Q.length + (r.length + 1) = C.length := by rw [← hq, List.length_append, List.length_cons]
    have hx : τ 103 j.toNat = x := by rw [e103]; exact e1
    refine z_iload_n dX9_layRow_15 rfl ?_
    refine z_aload_n dX9_layRow_16 rfl ?_
    refine z_getI dX9_layRow_17 gX9_315 rfl (Nat.le_of_ble_eq_true rfl) rfl (fun hr17 => ?_)
    refine z_icmp_ge (tgt := 41) dX9_layRow_20 (by decide) ⟨by omega, by omega⟩ ⟨by omega, by omega⟩ (fun h20 => ?_) (fun h20 => ?_)
    · exfalso; omega
    · skip
      refine z_aload_n dX9_layRow_23 rfl ?_
      refine z_getR dX9_layRow_24 gX9_94 rfl (Nat.le_of_ble_eq_true rfl) rfl ?_
      refine z_iload_n dX9_layRow_27 rfl ?_
      refine z_aload_n dX9_layRow_28 rfl ?_
      refine z_getR dX9_layRow_29 gX9_81 rfl (Nat.le_of_ble_eq_true rfl) rfl ?_
      refine z_iload_n dX9_layRow_32 rfl ?_
      refine z_iald dX9_layRow_33 rfl (Nat.le_of_ble_eq_true rfl) (by omega) (fun hr33 => ?_)
      rw [hx]
      refine z_iast dX9_layRow_34 rfl (Nat.le_of_ble_eq_true rfl) (by omega) ⟨by omega, by omega⟩ ?_
      refine z_iinc (L' := [_, _, _]) dX9_layRow_35 (Nat.le_of_ble_eq_true rfl) rfl rfl rfl ?_
      refine z_goto (tgt := 15) dX9_layRow_38 (by decide) ?_
      exact l_X9_layRow hs h43 hl r _ (Q ++ [x]) (j + 1) (by rw [List.length_append]; simp only [List.length_cons, List.length_nil]; omega) (by rw [List.append_assoc]; exact hq) (frM.putA hK (by decide) (by decide)) (by rw [show j.toNat = Q.length by omega]; exact Seg.put sQ) (by rw [toN_s (by omega)]; exact sR)
set_option maxRecDepth 20000 in
theorem c_X9_layRow {d : Nat} {σ : Sto} {s : Int} (hc : 0 ≤ σ 9 1 ∧ σ 9 1 ≤ 12) (hS : SM σ) (hs : 0 ≤ s ∧ s < 6) (h17 : σ 117 s.toNat = -2) : m_X9_layRow d [zR 9, zI s] σ (qV fun σ' => lrK σ σ' ∧ sdM σ' (SYM σ s) ∧ r1M σ' (SYM σ s)) := by
  have hl := SYM_len (σ := σ) (s := s)
  have hw := SYM_wok (σ := σ) (s := s) hc.2
  refine z_does (L := [some (zR 9), some (zI s), none]) rfl (by decide +kernel) (Nat.le_of_ble_eq_true rfl) rfl ?_
  refine z_aload_n dX9_layRow_0 rfl ?_
  refine z_iload_n dX9_layRow_1 rfl ?_
  refine z_callVV (d := d + 2) (av := [_]) dX9_layRow_2 vX9_292 rfl (Nat.le_of_ble_eq_true rfl) rfl rfl rfl (Nat.le_of_ble_eq_true rfl) (Nat.le_refl _) (c_X9_laySaying hc hS hs h17) (fun σ2 h2 => ?_)
  obtain ⟨hk1, hsd⟩ := h2
  refine z_aload_n dX9_layRow_5 rfl ?_
  refine z_aload_n dX9_layRow_6 rfl ?_
  refine z_getI dX9_layRow_7 gX9_274 rfl (Nat.le_of_ble_eq_true rfl) rfl (fun hr7 => ?_)
  refine z_putI dX9_layRow_10 pX9_315 rfl (Nat.le_of_ble_eq_true rfl) rfl ⟨by omega, by omega⟩ ?_
  refine z_iconst dX9_layRow_13 ?_
  refine z_istore_n (L' := [_, _, _]) dX9_layRow_14 (Nat.le_of_ble_eq_true rfl) rfl rfl ?_
  refine (l_X9_layRow (d := d) (υ := z_put σ2 9 43 (σ2 9 35)) (C := SYM σ s) (Seg.row (z_put_ne (by decide)) hsd.2.1) hsd.1 hl (SYM σ s) _ [] 0 rfl rfl (frM.rf _ _ _) trivial (Seg.row (z_put_ne (by decide)) hsd.2.1)).mono ?_
  rintro r σ' ⟨hr, q1, q2⟩
  have q3 : lrK σ σ' := (frM.putF (hk1.mono (by decide) (by decide)) (by decide)).tr (q1.mono (by decide) (by decide))
  exact ⟨hr, q3, ⟨by rw [q1.2 35 (by decide)]; exact hsd.1, Seg.row (by rw [q1.1 103 (by decide) (by decide), z_put_ne (by decide)]) hsd.2.1, hsd.2.2⟩, ⟨by rw [q1.2 43 (by decide)]; exact hsd.1, q2, hw, hl⟩⟩
set_option maxRecDepth 20000 in
theorem l_X9_justComes {d : Nat} {σ : Sto} (n : Int) (hn : n ≤ 12) (h43 : σ 9 43 = n) :
    ∀ (A B : List Int) (i : Int), 0 ≤ i → i + B.length = n → A.length = B.length → Seg σ 104 i.toNat A → Seg σ 107 i.toNat B → wok A → wok B →
    Z (z_me cX9_justComes RX9 2 (some .boolean) (d + 0) (qI fun z σ' => σ' = σ ∧ yn z (A = B))) 15 [some (zR 9), some (zI i)] [] σ
  | [], [], i, h0, hl, he, sA, sB, wA, wB => by
    rw [List.length_nil] at hl
    refine z_iload_n dX9_justComes_15 rfl ?_
    refine z_aload_n dX9_justComes_16 rfl ?_
    refine z_getI dX9_justComes_17 gX9_315 rfl (Nat.le_of_ble_eq_true rfl) rfl (fun hr17 => ?_)
    refine z_icmp_ge (tgt := 46) dX9_justComes_20 (by decide) ⟨by omega, by omega⟩ ⟨by omega, by omega⟩ (fun h20 => ?_) (fun h20 => ?_)
    · skip
      refine z_iconst dX9_justComes_46 ?_
      exact z_zret dX9_justComes_47 (by omega) ⟨rfl, Or.inl ⟨rfl, rfl⟩⟩
    · exfalso; omega
  | [], y :: b, i, h0, hl, he, sA, sB, wA, wB => absurd he (by simp)
  | x :: a, [], i, h0, hl, he, sA, sB, wA, wB => absurd he (by simp)
  | x :: a, y :: b, i, h0, hl, he, sA, sB, wA, wB => by
    rw [List.length_cons] at hl
    rw [List.length_cons, List.length_cons] at he
    obtain ⟨e1, sA⟩ := sA
    obtain ⟨e2, sB⟩ := sB
    obtain ⟨x0, vA⟩ := wok_c wA
    obtain ⟨y0, vB⟩ := wok_c wB
    refine z_iload_n dX9_justComes_15 rfl ?_
    refine z_aload_n dX9_justComes_16 rfl ?_
    refine z_getI dX9_justComes_17 gX9_315 rfl (Nat.le_of_ble_eq_true rfl) rfl (fun hr17 => ?_)
    refine z_icmp_ge (tgt := 46) dX9_justComes_20 (by decide) ⟨by omega, by omega⟩ ⟨by omega, by omega⟩ (fun h20 => ?_) (fun h20 => ?_)
    · exfalso; omega
    · skip
      refine z_aload_n dX9_justComes_23 rfl ?_
      refine z_getR dX9_justComes_24 gX9_84 rfl (Nat.le_of_ble_eq_true rfl) rfl ?_
      refine z_iload_n dX9_justComes_27 rfl ?_
      refine z_iald dX9_justComes_28 rfl (Nat.le_of_ble_eq_true rfl) (by omega) (fun hr28 => ?_)
      refine z_aload_n dX9_justComes_29 rfl ?_
      refine z_getR dX9_justComes_30 gX9_94 rfl (Nat.le_of_ble_eq_true rfl) rfl ?_
      refine z_iload_n dX9_justComes_33 rfl ?_
      refine z_iald dX9_justComes_34 rfl (Nat.le_of_ble_eq_true rfl) (by omega) (fun hr34 => ?_)
      refine z_icmp_eq (tgt := 40) dX9_justComes_35 (by decide) ⟨by omega, by omega⟩ ⟨by omega, by omega⟩ (fun h35 => ?_) (fun h35 => ?_)
      · skip
        refine z_iinc (L' := [_, _]) dX9_justComes_40 (Nat.le_of_ble_eq_true rfl) rfl rfl rfl ?_
        refine z_goto (tgt := 15) dX9_justComes_43 (by decide) ?_
        have exy : x = y := by omega
        subst exy
        refine (l_X9_justComes n hn h43 a b (i + 1) (by omega) (by omega) (by omega) (by rw [toN_s h0]; exact sA) (by rw [toN_s h0]; exact sB) vA vB).mono ?_
        rintro r σ' ⟨z, q1, q2, q3⟩
        refine ⟨z, q1, q2, ?_⟩
        rcases q3 with q | q
        · exact Or.inl ⟨q.1, by rw [q.2]⟩
        · exact Or.inr ⟨q.1, fun v => q.2 (List.cons.inj v).2⟩
      · skip
        refine z_iconst dX9_justComes_38 ?_
        exact z_zret dX9_justComes_39 (by omega) ⟨rfl, Or.inr ⟨rfl, fun v => by have := (List.cons.inj v).1; omega⟩⟩
set_option maxRecDepth 20000 in
theorem c_X9_justComes {d : Nat} {σ : Sto} {A B : List Int} (hA : caM σ A) (hB : r1M σ B) : m_X9_justComes d [zR 9] σ (qI fun z σ' => σ' = σ ∧ yn z (A = B)) := by
  obtain ⟨a1, a2, a3, a4⟩ := hA
  obtain ⟨b1, b2, b3, b4⟩ := hB
  refine z_does (L := [some (zR 9), none]) rfl (by decide +kernel) (Nat.le_of_ble_eq_true rfl) rfl ?_
  refine z_aload_n dX9_justComes_0 rfl ?_
  refine z_getI dX9_justComes_1 gX9_280 rfl (Nat.le_of_ble_eq_true rfl) rfl (fun hr1 => ?_)
  refine z_aload_n dX9_justComes_4 rfl ?_
  refine z_getI dX9_justComes_5 gX9_315 rfl (Nat.le_of_ble_eq_true rfl) rfl (fun hr5 => ?_)
  refine z_icmp_eq (tgt := 13) dX9_justComes_8 (by decide) ⟨by omega, by omega⟩ ⟨by omega, by omega⟩ (fun h8 => ?_) (fun h8 => ?_)
  · skip
    refine z_iconst dX9_justComes_13 ?_
    refine z_istore_n (L' := [_, _]) dX9_justComes_14 (Nat.le_of_ble_eq_true rfl) rfl rfl ?_
    exact l_X9_justComes (d := d) (B.length : Int) (by omega) b1 A B 0 (by omega) (by omega) (by omega) a2 b2 a3 b3
  · skip
    refine z_iconst dX9_justComes_11 ?_
    exact z_zret dX9_justComes_12 (by omega) ⟨rfl, Or.inr ⟨rfl, fun v => by rw [v] at a1; omega⟩⟩
