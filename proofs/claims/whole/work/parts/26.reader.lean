/-! ===== Law: the reader ===== -/
theorem tnf {p : Prop} (h : true = false) : p := Bool.noConfusion h
def lwS (σ τ : Sto) : Prop := (∀ a, a ≠ 3 → a ≠ 26 → τ a = σ a) ∧ (∀ j, j ≠ 6 → j ≠ 8 → j ≠ 9 → τ 3 j = σ 3 j)
theorem lwS.tr {σ τ υ : Sto} (h : lwS σ τ) (h2 : lwS τ υ) : lwS σ υ := ⟨fun a b c => by rw [h2.1 a b c, h.1 a b c], fun j b c e => by rw [h2.2 j b c e, h.2 j b c e]⟩
theorem lwS.put {σ : Sto} {j : Nat} {x : Int} (h : j = 6 ∨ j = 8 ∨ j = 9) : lwS σ (z_put σ 3 j x) := ⟨fun a b _ => z_put_ne b, fun i b c e => by rw [z_rd, if_pos rfl, if_neg (by omega)]⟩
/-- behind a reading from σ on -/
def rdP (σ : Sto) (r : RT) (τ : Sto) : Prop := lwS σ τ ∧ τ 3 8 = r.2.1 ∧ ((r.1 = true ∧ τ 3 9 = 0 ∧ τ 3 6 = σ 3 6 + r.2.2.length ∧ (∀ j : Nat, (j : Int) < σ 3 6 → τ 26 j = σ 26 j) ∧ Seg τ 26 (σ 3 6).toNat r.2.2) ∨ (r.1 = false ∧ τ 3 9 = 1))
theorem rdP.rf {σ : Sto} (h : σ 3 9 = 0) : rdP σ (true, σ 3 8, []) σ := ⟨⟨fun _ _ _ => rfl, fun _ _ _ _ => rfl⟩, rfl, Or.inl ⟨rfl, h, by simp, fun _ _ => rfl, trivial⟩⟩
theorem rdP.pre {σ τ : Sto} {r : RT} {a : Int} (h : rdP (z_put σ 3 8 a) r τ) : rdP σ r τ := by
  obtain ⟨h1, h2, h3⟩ := h
  refine ⟨(lwS.put (Or.inr (Or.inl rfl))).tr h1, h2, ?_⟩
  rcases h3 with ⟨q1, q2, q3, q4, q5⟩ | q
  · exact Or.inl ⟨q1, q2, q3, q4, q5⟩
  · exact Or.inr q
theorem rdP.ok {σ τ : Sto} {r : RT} (h : rdP σ r τ) (h2 : τ 3 9 = 0) : r.1 = true := by
  rcases h.2.2 with q | q
  · exact q.1
  · exact absurd h2 (by omega)
theorem rdP.no {σ τ : Sto} {r : RT} (h : rdP σ r τ) (h2 : τ 3 9 ≠ 0) : r.1 = false ∧ τ 3 9 = 1 := by
  rcases h.2.2 with q | q
  · exact absurd q.2.1 h2
  · exact q
theorem rdP.f9 {σ τ : Sto} {r : RT} (h : rdP σ r τ) : τ 3 9 = 0 ∨ τ 3 9 = 1 := by
  rcases h.2.2 with q | q
  · exact Or.inl q.2.1
  · exact Or.inr q.2
theorem rdP.fail {σ τ : Sto} {r : RT} (h : rdP σ r τ) (h2 : r.1 = false) : rdP σ (false, r.2.1, []) τ := by
  rcases h.2.2 with q | q
  · exact tnf (q.1.symm.trans h2)
  · exact ⟨h.1, h.2.1, Or.inr ⟨rfl, q.2⟩⟩
theorem Seg.putn {σ : Sto} {k i : Nat} {xs : List Int} {x : Int} (h : Seg σ k i xs) : Seg (z_put σ k (i + xs.length) x) k i (xs ++ [x]) :=
  Seg.app (Seg.cong (fun j _ h2 => by rw [z_rd, if_pos rfl, if_neg (by omega)]) h) ⟨by rw [z_rd, if_pos rfl, if_pos rfl], trivial⟩
theorem rdP.add {σ τ : Sto} {a x : Int} {o : List Int} (h0 : 0 ≤ σ 3 6) (h : rdP σ (true, a, o) τ) : rdP σ (true, a, o ++ [x]) (adS τ x) := by
  obtain ⟨h1, h2, h3⟩ := h
  rcases h3 with ⟨-, q2, q3, q4, q5⟩ | q
  · have q3 : τ 3 6 = σ 3 6 + o.length := q3
    have q5 : Seg τ 26 (σ 3 6).toNat o := q5
    refine ⟨⟨fun b c e => ?_, fun j c e g => ?_⟩, ?_, Or.inl ⟨rfl, ?_, ?_, fun j hj => ?_, ?_⟩⟩
    · rw [adS, z_put_ne c, z_put_ne e]; exact h1.1 b c e
    · rw [adS, z_rd, if_pos rfl, if_neg c, z_put_ne (by decide)]; exact h1.2 j c e g
    · rw [adS, z_rd, if_pos rfl, if_neg (by decide), z_put_ne (by decide)]; exact h2
    · rw [adS, z_rd, if_pos rfl, if_neg (by decide), z_put_ne (by decide)]; exact q2
    · rw [adS, z_rd, if_pos rfl, if_pos rfl, q3, List.length_append]; simp only [List.length_cons, List.length_nil]; omega
    · rw [adS, z_put_ne (by decide), z_rd, if_pos rfl, if_neg (by omega)]; exact q4 j hj
    · rw [adS]
      refine Seg.row (z_put_ne (by decide)) ?_
      rw [q3, show (σ 3 6 + (o.length : Int)).toNat = (σ 3 6).toNat + o.length by omega]
      exact Seg.putn q5
  · exact tnf q.1
theorem rdP.seq {σ τ υ : Sto} {a : Int} {o : List Int} {r : RT} (h0 : 0 ≤ σ 3 6) (h : rdP σ (true, a, o) τ) (g : rdP τ r υ) : rdP σ (r.1, r.2.1, o ++ r.2.2) υ := by
  obtain ⟨h1, h2, h3⟩ := h
  obtain ⟨g1, g2, g3⟩ := g
  refine ⟨h1.tr g1, g2, ?_⟩
  rcases h3 with ⟨-, q2, q3, q4, q5⟩ | q
  · have q3 : τ 3 6 = σ 3 6 + o.length := q3
    have q5 : Seg τ 26 (σ 3 6).toNat o := q5
    rcases g3 with ⟨p1, p2, p3, p4, p5⟩ | p
    · refine Or.inl ⟨p1, p2, ?_, fun j hj => ?_, Seg.app (Seg.cong (fun j b c => p4 j (by omega)) q5) ?_⟩
      · rw [p3, q3, List.length_append]; omega
      · rw [p4 j (by omega)]; exact q4 j hj
      · rw [show (σ 3 6).toNat + o.length = (τ 3 6).toNat by omega]; exact p5
    · exact Or.inr p
  · exact tnf q.1
theorem rdP.at {σ τ : Sto} {r : RT} {a : Int} (h : rdP σ r τ) : rdP σ (r.1, a, r.2.2) (z_put τ 3 8 a) := by
  obtain ⟨h1, h2, h3⟩ := h
  refine ⟨h1.tr (lwS.put (Or.inr (Or.inl rfl))), rfl, ?_⟩
  rcases h3 with ⟨q1, q2, q3, q4, q5⟩ | q
  · exact Or.inl ⟨q1, q2, q3, q4, Seg.row (z_put_ne (by decide)) q5⟩
  · exact Or.inr q
theorem rdP.flt {σ τ : Sto} {r : RT} (h : rdP σ r τ) : rdP σ (false, r.2.1, []) (z_put τ 3 9 1) := by
  obtain ⟨h1, h2, h3⟩ := h
  exact ⟨h1.tr (lwS.put (Or.inr (Or.inr rfl))), h2, Or.inr ⟨rfl, rfl⟩⟩
/-- what holds of the tape -/
def tpO (σ : Sto) : Prop := (0 ≤ σ 3 5 ∧ σ 3 5 ≤ 120) ∧ ∀ j, 0 ≤ σ 25 j ∧ σ 25 j ≤ 255
theorem lwS.tp {σ τ : Sto} (h : lwS σ τ) (t : tpO σ) : tpO τ := by
  unfold tpO
  rw [h.2 5 (by decide) (by decide) (by decide), h.1 25 (by decide) (by decide)]
  exact t
theorem lwS.nb {σ τ : Sto} (h : lwS σ τ) : nbS τ = nbS σ := by
  unfold nbS
  rw [h.2 5 (by decide) (by decide) (by decide), h.1 25 (by decide) (by decide)]
def p10 : Nat → Int
  | 0 => 1
  | n + 1 => p10 n * 10
theorem p10_1 : ∀ n, 1 ≤ p10 n
  | 0 => by decide
  | n + 1 => by have := p10_1 n; rw [p10]; omega
theorem rdN_v {nb : Int → Int} (hb : ∀ a, -1 ≤ nb a ∧ nb a ≤ 255) : ∀ (m : Nat) (a v : Int), 0 ≤ v → (v + 1) * p10 m ≤ 10000 → 0 ≤ (rdN nb m a v).1 ∧ (rdN nb m a v).1 ≤ 10000
  | 0, a, v, h0, h => by
    rw [p10, Int.mul_one] at h
    simp only [rdN]
    omega
  | m + 1, a, v, h0, h => by
    rw [rdN]
    have e : p10 (m + 1) = p10 m * 10 := rfl
    have p : (1 : Int) ≤ p10 m := p10_1 m
    by_cases h1 : isD (nb a) = true
    · rw [if_pos h1]
      have h2 : 48 ≤ nb a ∧ nb a ≤ 57 := of_decide_eq_true h1
      refine rdN_v hb m (a + 1) _ (by omega) (Int.le_trans ?_ h)
      rw [e, show (v + 1) * (p10 m * 10) = ((v + 1) * 10) * p10 m by rw [Int.mul_comm (p10 m) 10, Int.mul_assoc]]
      exact Int.mul_le_mul_of_nonneg_right (by omega) (by omega)
    · rw [if_neg h1]
      have : (v + 1) * 1 ≤ (v + 1) * p10 (m + 1) := Int.mul_le_mul_of_nonneg_left (by rw [e]; omega) (by omega)
      simp only
      omega
set_option maxRecDepth 20000 in
theorem l_X2_readNumber {d : Nat} {σ : Sto} (ht : tpO σ) (k9 : σ 3 9 = 0) (k6 : 0 ≤ σ 3 6 ∧ σ 3 6 < 256) :
    ∀ (m : Nat) (a v g : Int), g + m = 4 → 0 ≤ g → 0 ≤ a → a ≤ σ 3 5 → 0 ≤ v → (v + 1) * p10 m ≤ 10000 →
    Z (z_me cX2_readNumber RX2 3 none (d + 1) (qV fun σ' => rdP σ (true, (rdN (nbS σ) m a v).2, [(rdN (nbS σ) m a v).1]) σ')) 4 [some (zR 3), some (zI v), some (zI g)] [] (z_put σ 3 8 a)
  | 0, a, v, g, hg, hg0, h0, hn, hv, hp => by
    rw [p10, Int.mul_one] at hp
    refine z_iload_n dX2_readNumber_4 rfl ?_
    refine z_iconst dX2_readNumber_5 ?_
    refine z_icmp_ge (tgt := 48) dX2_readNumber_6 (by decide) ⟨by omega, by omega⟩ ⟨by omega, by omega⟩ (fun h6 => ?_) (fun h6 => ?_)
    · skip
      refine z_aload_n dX2_readNumber_48 rfl ?_
      refine z_iload_n dX2_readNumber_49 rfl ?_
      refine z_callVV (d := d + 0) (av := [_]) dX2_readNumber_50 vX2_58 rfl (Nat.le_of_ble_eq_true rfl) rfl rfl rfl (Nat.le_of_ble_eq_true rfl) (Nat.le_refl _) (c_X2_addStep (fun _ => k6) (by omega)) (fun σ50 h50 => ?_)
      skip
      exact z_vret dX2_readNumber_53 (by
        rcases h50 with ⟨e1, rfl⟩ | ⟨e1, -⟩
        · exact rdP.add (o := []) k6.1 (rdP.at (r := (true, σ 3 8, [])) (rdP.rf k9))
        · exact absurd k9 e1)
    · exfalso; omega
  | m + 1, a, v, g, hg, hg0, h0, hn, hv, hp => by
    have hb := nbS_R (σ := σ) (a := a) ht.2
    have p : (1 : Int) ≤ p10 (m + 1) := p10_1 (m + 1)
    have hv2 : (v + 1) * 1 ≤ (v + 1) * p10 (m + 1) := Int.mul_le_mul_of_nonneg_left p (by omega)
    have e : p10 (m + 1) = p10 m * 10 := rfl
    have p2 : (1 : Int) ≤ p10 m := p10_1 m
    have ht5 := ht.1
    refine z_iload_n dX2_readNumber_4 rfl ?_
    refine z_iconst dX2_readNumber_5 ?_
    refine z_icmp_ge (tgt := 48) dX2_readNumber_6 (by decide) ⟨by omega, by omega⟩ ⟨by omega, by omega⟩ (fun h6 => ?_) (fun h6 => ?_)
    · exfalso; omega
    · skip
      refine z_aload_n dX2_readNumber_9 rfl ?_
      refine z_callVI (d := d + 0) (av := []) dX2_readNumber_10 vX2_50 rfl (Nat.le_of_ble_eq_true rfl) rfl rfl rfl (Nat.le_of_ble_eq_true rfl) (Nat.le_refl _) (c_X2_nextByte ht5.2) (fun z10 σ10 h10 => ?_)
      obtain ⟨hs10, hnb⟩ := h10
      subst σ10
      have hnb : z10 = nbS σ a := hnb
      subst hnb
      refine z_callSI (d := d + 0) (av := [_]) dX2_readNumber_13 sX2_69 rfl rfl (Nat.le_of_ble_eq_true rfl) (Nat.le_refl _) (c_X2_isDigit (by omega)) (fun z13 σ13 h13 => ?_)
      obtain ⟨hs13, h13⟩ := h13
      subst σ13
      refine z_if_eq (tgt := 48) dX2_readNumber_16 (by decide) ⟨by omega, by omega⟩ (fun h16 => ?_) (fun h16 => ?_)
      · skip
        refine z_aload_n dX2_readNumber_48 rfl ?_
        refine z_iload_n dX2_readNumber_49 rfl ?_
        refine z_callVV (d := d + 0) (av := [_]) dX2_readNumber_50 vX2_58 rfl (Nat.le_of_ble_eq_true rfl) rfl rfl rfl (Nat.le_of_ble_eq_true rfl) (Nat.le_refl _) (c_X2_addStep (fun _ => k6) (by omega)) (fun σ50 h50 => ?_)
        skip
        exact z_vret dX2_readNumber_53 (by
          rw [rdN, if_neg (by rcases h13 with q | q; exact absurd q.1 (by omega); rw [q.2]; exact Bool.false_ne_true)]
          rcases h50 with ⟨e1, rfl⟩ | ⟨e1, -⟩
          · exact rdP.add (o := []) k6.1 (rdP.at (r := (true, σ 3 8, [])) (rdP.rf k9))
          · exact absurd k9 e1)
      · skip
        refine z_iload_n dX2_readNumber_19 rfl ?_
        refine z_bipush (v := 10) dX2_readNumber_20 (by decide +kernel) ?_
        refine z_imul dX2_readNumber_22 ?_
        refine z_aload_n dX2_readNumber_23 rfl ?_
        refine z_callVI (d := d + 0) (av := []) dX2_readNumber_24 vX2_50 rfl (Nat.le_of_ble_eq_true rfl) rfl rfl rfl (Nat.le_of_ble_eq_true rfl) (Nat.le_refl _) (c_X2_nextByte ht5.2) (fun z24 σ24 h24 => ?_)
        obtain ⟨hs24, hnb⟩ := h24
        subst σ24
        have hnb : z24 = nbS σ a := hnb
        subst hnb
        refine z_iadd dX2_readNumber_27 ?_
        refine z_bipush (v := 48) dX2_readNumber_28 (by decide +kernel) ?_
        refine z_isub dX2_readNumber_30 ?_
        refine z_istore_n (L' := [_, _, _]) dX2_readNumber_31 (Nat.le_of_ble_eq_true rfl) rfl rfl ?_
        refine z_aload_n dX2_readNumber_32 rfl ?_
        refine z_dup dX2_readNumber_33 rfl ?_
        refine z_getI dX2_readNumber_34 gX2_31 rfl (Nat.le_of_ble_eq_true rfl) rfl (fun hr34 => ?_)
        try simp only [z_rd, Nat.reduceEqDiff, ↓reduceIte, eq_self] at hr34 ⊢
        refine z_iconst dX2_readNumber_37 ?_
        refine z_iadd dX2_readNumber_38 ?_
        refine z_putI dX2_readNumber_39 pX2_31 rfl (Nat.le_of_ble_eq_true rfl) rfl ⟨by omega, by omega⟩ ?_
        refine z_iinc (L' := [_, _, _]) dX2_readNumber_42 (Nat.le_of_ble_eq_true rfl) rfl rfl rfl ?_
        refine z_goto (tgt := 4) dX2_readNumber_45 (by decide) ?_
        have hd : isD (nbS σ a) = true := by rcases h13 with q | q; exact q.2; exact absurd q.1 (by omega)
        have h2 : 48 ≤ nbS σ a ∧ nbS σ a ≤ 57 := of_decide_eq_true hd
        rw [rdN, if_pos hd]
        have hput : z_put (z_put σ 3 8 a) 3 8 (a + 1) = z_put σ 3 8 (a + 1) := by funext b j; simp only [z_rd]; grind
        rw [hput]
        have hlt := nbS_lt (σ := σ) (a := a) (by omega)
        refine l_X2_readNumber ht k9 k6 m (a + 1) _ (g + 1) (by omega) (by omega) (by omega) (by omega) (by omega) (Int.le_trans ?_ hp)
        rw [e, show (v + 1) * (p10 m * 10) = ((v + 1) * 10) * p10 m by rw [Int.mul_comm (p10 m) 10, Int.mul_assoc]]
        exact Int.mul_le_mul_of_nonneg_right (by omega) (by omega)
set_option maxRecDepth 20000 in
theorem c_X2_readNumber {d : Nat} {σ : Sto} (ht : tpO σ) (k9 : σ 3 9 = 0) (k6 : 0 ≤ σ 3 6 ∧ σ 3 6 < 256) (k8 : 0 ≤ σ 3 8 ∧ σ 3 8 ≤ σ 3 5) : m_X2_readNumber d [zR 3] σ (qV fun σ' => rdP σ (true, (rdN (nbS σ) 4 (σ 3 8) 0).2, [(rdN (nbS σ) 4 (σ 3 8) 0).1]) σ') := by
  refine z_does (L := [some (zR 3), none, none]) rfl (by decide +kernel) (Nat.le_of_ble_eq_true rfl) rfl ?_
  refine z_iconst dX2_readNumber_0 ?_
  refine z_istore_n (L' := [_, _, _]) dX2_readNumber_1 (Nat.le_of_ble_eq_true rfl) rfl rfl ?_
  refine z_iconst dX2_readNumber_2 ?_
  refine z_istore_n (L' := [_, _, _]) dX2_readNumber_3 (Nat.le_of_ble_eq_true rfl) rfl rfl ?_
  have h := l_X2_readNumber (d := d) ht k9 k6 4 (σ 3 8) 0 0 (by omega) (by omega) k8.1 k8.2 (by omega) (by decide)
  rw [show z_put σ 3 8 (σ 3 8) = σ by funext a b; rw [z_rd]; grind] at h
  exact h
set_option maxRecDepth 20000 in
theorem c_X2_closeBracket {d : Nat} {σ0 σ : Sto} {a : Int} {o : List Int} {r : RT} (ht : tpO σ) (hr : rdP σ0 r σ) (k8 : 0 ≤ σ 3 8 ∧ σ 3 8 ≤ σ 3 5) : m_X2_closeBracket d [zR 3] σ (qV fun σ' => rdP σ0 (if r.1 = true then (if nbS σ r.2.1 = 41 then (true, r.2.1 + 1, r.2.2) else (false, r.2.1, [])) else (false, r.2.1, [])) σ') := by
  have hb := nbS_R (σ := σ) (a := σ 3 8) ht.2
  have ht5 := ht.1
  have e8 := hr.2.1
  refine z_does (L := [some (zR 3)]) rfl (by decide +kernel) (Nat.le_of_ble_eq_true rfl) rfl ?_
  refine z_aload_n dX2_closeBracket_0 rfl ?_
  refine z_getI dX2_closeBracket_1 gX2_37 rfl (Nat.le_of_ble_eq_true rfl) rfl (fun hr1 => ?_)
  refine z_if_eq (tgt := 8) dX2_closeBracket_4 (by decide) ⟨by omega, by omega⟩ (fun h4 => ?_) (fun h4 => ?_)
  · skip
    refine z_aload_n dX2_closeBracket_8 rfl ?_
    refine z_callVI (d := d + 0) (av := []) dX2_closeBracket_9 vX2_50 rfl (Nat.le_of_ble_eq_true rfl) rfl rfl rfl (Nat.le_of_ble_eq_true rfl) (Nat.le_refl _) (c_X2_nextByte (by omega)) (fun z9 σ9 h9 => ?_)
    obtain ⟨hs9, rfl⟩ := h9
    subst σ9
    refine z_bipush (v := 41) dX2_closeBracket_12 (by decide +kernel) ?_
    refine z_icmp_ne (tgt := 30) dX2_closeBracket_14 (by decide) ⟨by omega, by omega⟩ ⟨by omega, by omega⟩ (fun h14 => ?_) (fun h14 => ?_)
    · skip
      refine z_aload_n dX2_closeBracket_30 rfl ?_
      refine z_iconst dX2_closeBracket_31 ?_
      refine z_putZ dX2_closeBracket_32 pX2_37 rfl (Nat.le_of_ble_eq_true rfl) rfl (by omega) ?_
      exact z_vret dX2_closeBracket_35 (by
        rw [if_pos (hr.ok h4), ← e8]
        first
          | (rw [if_neg h14]; have := hr.flt; rw [← e8] at this; exact this)
          | (rw [if_pos h14]; have := hr.at (a := σ 3 8 + 1); rw [hr.ok h4] at this; exact this))
    · skip
      refine z_aload_n dX2_closeBracket_17 rfl ?_
      refine z_dup dX2_closeBracket_18 rfl ?_
      refine z_getI dX2_closeBracket_19 gX2_31 rfl (Nat.le_of_ble_eq_true rfl) rfl (fun hr19 => ?_)
      refine z_iconst dX2_closeBracket_22 ?_
      refine z_iadd dX2_closeBracket_23 ?_
      refine z_putI dX2_closeBracket_24 pX2_31 rfl (Nat.le_of_ble_eq_true rfl) rfl ⟨by omega, by omega⟩ ?_
      refine z_goto (tgt := 35) dX2_closeBracket_27 (by decide) ?_
      exact z_vret dX2_closeBracket_35 (by
        rw [if_pos (hr.ok h4), ← e8]
        first
          | (rw [if_neg h14]; have := hr.flt; rw [← e8] at this; exact this)
          | (rw [if_pos h14]; have := hr.at (a := σ 3 8 + 1); rw [hr.ok h4] at this; exact this))
  · skip
    exact z_vret dX2_closeBracket_7 (by rw [if_neg (by rw [(hr.no h4).1]; exact Bool.false_ne_true)]; exact hr.fail (hr.no h4).1)
theorem rd_5 {nb : Int → Int} {k : Nat} {o a : Int} : rd nb (k + 1) 5 o a = if isD (nb a) = true then (true, (rdN nb 4 a 0).2, [(rdN nb 4 a 0).1])
    else if nmF (nb a) < 0 then (true, a + 1, [nmF (nb a)])
    else if 6 ≤ o then (false, a, [])
    else if nb a = 33 ∨ nb a = 45 then (if (rd nb k 5 (o + 1) (a + 1)).1 = true then (true, (rd nb k 5 (o + 1) (a + 1)).2.1, (rd nb k 5 (o + 1) (a + 1)).2.2 ++ [if nb a = 33 then -33 else -126]) else (false, (rd nb k 5 (o + 1) (a + 1)).2.1, []))
    else if nb a = 40 then (if (rd nb k 0 (o + 1) (a + 1)).1 = true then (if nb (rd nb k 0 (o + 1) (a + 1)).2.1 = 41 then (true, (rd nb k 0 (o + 1) (a + 1)).2.1 + 1, (rd nb k 0 (o + 1) (a + 1)).2.2) else (false, (rd nb k 0 (o + 1) (a + 1)).2.1, [])) else (false, (rd nb k 0 (o + 1) (a + 1)).2.1, []))
    else (false, a, []) := by rw [rd, if_neg (by omega)]
theorem rd_l {nb : Int → Int} {k : Nat} {lvl o a : Int} (h : lvl < 5) : rd nb (k + 1) lvl o a = if (rd nb k (lvl + 1) o a).1 = true then lpF (rd nb k (lvl + 1) o) nb lvl (if lvl = 2 then 1 else 120) (rd nb k (lvl + 1) o a).2.1 (rd nb k (lvl + 1) o a).2.2 else (false, (rd nb k (lvl + 1) o a).2.1, []) := by rw [rd, if_pos h]
theorem rdP.b6 {σ τ : Sto} {r : RT} {a n : Int} (h : rdP σ r τ) (hr : rdOk n a r) (k6 : 0 ≤ σ 3 6 ∧ σ 3 6 ≤ 130 + a) (hn : n ≤ 120) (k9 : τ 3 9 = 0) : 0 ≤ τ 3 6 ∧ τ 3 6 ≤ 130 + r.2.1 ∧ τ 3 6 < 256 ∧ τ 3 6 = σ 3 6 + r.2.2.length := by
  have h1 := hr.2.2 (h.ok k9)
  have h2 := hr.2.1
  rcases h.2.2 with q | q
  · have := q.2.2.1
    omega
  · exact absurd q.2 (by omega)
theorem rdP.un {σ τ τ' : Sto} {r : RT} {x : Int} (h0 : 0 ≤ σ 3 6) (h : rdP σ r τ) (g : (τ 3 9 = 0 ∧ τ' = adS τ x) ∨ (τ 3 9 ≠ 0 ∧ τ' = τ)) : rdP σ (if r.1 = true then (true, r.2.1, r.2.2 ++ [x]) else (false, r.2.1, [])) τ' := by
  rcases g with ⟨g1, rfl⟩ | ⟨g1, rfl⟩
  · have h1 := h.ok g1
    rw [if_pos h1]
    exact rdP.add h0 (by rw [← h1]; exact h)
  · have h1 := (h.no g1).1
    rw [if_neg (by rw [h1]; exact Bool.false_ne_true)]
    exact h.fail h1
def rdC (k : Nat) (lvl o : Int) (σ : Sto) : Prop := Does (2 * k + 2) yX2_readLevel cX2_readLevel 6 none [zR 3, zI lvl, zI o] σ (qV fun σ' => rdP σ (rd (nbS σ) k lvl o (σ 3 8)) σ')
def roC (k : Nat) (o : Int) (σ : Sto) : Prop := Does (2 * k + 1) yX2_readOperand cX2_readOperand 3 none [zR 3, zI o] σ (qV fun σ' => rdP σ (rd (nbS σ) k 5 o (σ 3 8)) σ')
/-- where a reading may begin -/
def rdB (σ : Sto) : Prop := tpO σ ∧ σ 3 9 = 0 ∧ (0 ≤ σ 3 8 ∧ σ 3 8 ≤ σ 3 5) ∧ (0 ≤ σ 3 6 ∧ σ 3 6 ≤ 130 + σ 3 8)
set_option maxRecDepth 20000 in
set_option maxHeartbeats 1000000 in
theorem c_X2_readOperand {k : Nat} {o : Int} {σ : Sto} (ho : 0 ≤ o ∧ o ≤ 6) (hB : rdB σ) (ih1 : o < 6 → ∀ τ, rdB τ → rdC k 0 (o + 1) τ) (ih2 : o < 6 → ∀ τ, rdB τ → roC k (o + 1) τ) : roC (k + 1) o σ := by
  obtain ⟨ht, k9, k8, k6⟩ := id hB
  have hb := nbS_R (σ := σ) (a := σ 3 8) ht.2
  have ht5 := ht.1
  have hnm := nmF_R (nbS σ (σ 3 8))
  unfold roC
  refine z_does (L := [some (zR 3), some (zI o), none]) rfl (by decide +kernel) (Nat.le_of_ble_eq_true rfl) rfl ?_
  refine z_aload_n dX2_readOperand_0 rfl ?_
  refine z_callVI (d := 2 * k + 2) (av := []) dX2_readOperand_1 vX2_50 rfl (Nat.le_of_ble_eq_true rfl) rfl rfl rfl (Nat.le_of_ble_eq_true rfl) (Nat.le_refl _) (c_X2_nextByte ht5.2) (fun z1 σ1 h1 => ?_)
  obtain ⟨hs1, rfl⟩ := h1
  subst σ1
  refine z_istore_n (L' := [_, _, _]) dX2_readOperand_4 (Nat.le_of_ble_eq_true rfl) rfl rfl ?_
  refine z_iload_n dX2_readOperand_5 rfl ?_
  refine z_callSI (d := 2 * k + 2) (av := [_]) dX2_readOperand_6 sX2_69 rfl rfl (Nat.le_of_ble_eq_true rfl) (Nat.le_refl _) (c_X2_isDigit (by omega)) (fun z6 σ6 h6 => ?_)
  obtain ⟨hs6, hd⟩ := h6
  subst σ6
  refine z_if_eq (tgt := 19) dX2_readOperand_9 (by decide) ⟨by omega, by omega⟩ (fun h9 => ?_) (fun h9 => ?_)
  · skip
    have hd : ¬ isD (nbS σ (σ 3 8)) = true := by rcases hd with q | q; exact absurd q.1 (by omega); rw [q.2]; exact Bool.false_ne_true
    refine z_iload_n dX2_readOperand_19 rfl ?_
    refine z_callSI (d := 2 * k + 2) (av := [_]) dX2_readOperand_20 sX2_76 rfl rfl (Nat.le_of_ble_eq_true rfl) (Nat.le_refl _) (c_X2_nameOf (by omega)) (fun z20 σ20 h20 => ?_)
    obtain ⟨rfl, hs20⟩ := h20
    subst σ20
    refine z_if_ge (tgt := 47) dX2_readOperand_23 (by decide) ⟨by omega, by omega⟩ (fun h23 => ?_) (fun h23 => ?_)
    · skip
      refine z_iload_n dX2_readOperand_47 rfl ?_
      refine z_bipush (v := 6) dX2_readOperand_48 (by decide +kernel) ?_
      refine z_icmp_lt (tgt := 61) dX2_readOperand_50 (by decide) ⟨by omega, by omega⟩ ⟨by omega, by omega⟩ (fun h50 => ?_) (fun h50 => ?_)
      · skip
        refine z_iload_n dX2_readOperand_61 rfl ?_
        refine z_bipush (v := 33) dX2_readOperand_62 (by decide +kernel) ?_
        refine z_icmp_eq (tgt := 73) dX2_readOperand_64 (by decide) ⟨by omega, by omega⟩ ⟨by omega, by omega⟩ (fun h64 => ?_) (fun h64 => ?_)
        · skip
          refine z_aload_n dX2_readOperand_73 rfl ?_
          refine z_dup dX2_readOperand_74 rfl ?_
          refine z_getI dX2_readOperand_75 gX2_31 rfl (Nat.le_of_ble_eq_true rfl) rfl (fun hr75 => ?_)
          refine z_iconst dX2_readOperand_78 ?_
          refine z_iadd dX2_readOperand_79 ?_
          refine z_putI dX2_readOperand_80 pX2_31 rfl (Nat.le_of_ble_eq_true rfl) rfl ⟨by omega, by omega⟩ ?_
          have hlt := nbS_lt (σ := σ) (a := σ 3 8) (by omega)
          have hB1 : rdB (z_put σ 3 8 (σ 3 8 + 1)) := ⟨ht, k9, (show 0 ≤ σ 3 8 + 1 ∧ σ 3 8 + 1 ≤ σ 3 5 by omega), (show 0 ≤ σ 3 6 ∧ σ 3 6 ≤ 130 + (σ 3 8 + 1) by omega)⟩
          refine z_aload_n dX2_readOperand_83 rfl ?_
          refine z_iload_n dX2_readOperand_84 rfl ?_
          refine z_iconst dX2_readOperand_85 ?_
          refine z_iadd dX2_readOperand_86 ?_
          refine z_callVV (d := 2 * k + 1) (av := [_]) dX2_readOperand_87 vX2_62 rfl (Nat.le_of_ble_eq_true rfl) rfl rfl rfl (Nat.le_of_ble_eq_true rfl) (show 2 * k + 1 + 1 ≤ 2 * (k + 1) + 1 by omega) (ih2 (by omega) _ hB1) (fun σ87 h87 => ?_)
          have h87 : rdP (z_put σ 3 8 (σ 3 8 + 1)) (rd (nbS σ) k 5 (o + 1) (σ 3 8 + 1)) σ87 := h87
          have hb6 := h87.b6 (rd_RS (σ := σ) k 5 (o + 1) (σ 3 8 + 1) (by omega) (by omega) (by omega)) (show 0 ≤ σ 3 6 ∧ σ 3 6 ≤ 130 + (σ 3 8 + 1) by omega) (by omega)
          refine z_aload_n dX2_readOperand_90 rfl ?_
          refine z_iload_n dX2_readOperand_91 rfl ?_
          refine z_bipush (v := 33) dX2_readOperand_92 (by decide +kernel) ?_
          refine z_icmp_ne (tgt := 102) dX2_readOperand_94 (by decide) ⟨by omega, by omega⟩ ⟨by omega, by omega⟩ (fun h94 => ?_) (fun h94 => ?_)
          · skip
            refine z_bipush (v := -126) dX2_readOperand_102 (by decide +kernel) ?_
            refine z_callVV (d := 2 * k + 2) (av := [_]) dX2_readOperand_104 vX2_58 rfl (Nat.le_of_ble_eq_true rfl) rfl rfl rfl (Nat.le_of_ble_eq_true rfl) (Nat.le_refl _) (c_X2_addStep (fun q => by have := hb6 q; omega) ⟨by decide, by decide⟩) (fun σ104 h104 => ?_)
            skip
            refine z_goto (tgt := 146) dX2_readOperand_107 (by decide) ?_
            exact z_vret dX2_readOperand_146 (by
              rw [rd_5]
              first
                | (rw [if_pos hd]; exact h13)
                | (rw [if_neg hd, if_pos h23]; rcases h41 with ⟨e1, rfl⟩ | ⟨e1, -⟩; exact rdP.add (o := []) k6.1 (rdP.at (r := (true, σ 3 8, [])) (rdP.rf k9)); exact absurd k9 e1)
                | (rw [if_neg hd, if_neg (by omega), if_pos (by omega)]; exact (rdP.rf k9).flt)
                | (rw [if_neg hd, if_neg (by omega), if_neg (by omega), if_pos (by omega)]; rw [if_pos (by omega : nbS σ (σ 3 8) = 33)]; exact rdP.un k6.1 h87.pre h104)
                | (rw [if_neg hd, if_neg (by omega), if_neg (by omega), if_pos (by omega)]; rw [if_neg (by omega : ¬ nbS σ (σ 3 8) = 33)]; exact rdP.un k6.1 h87.pre h104)
                | (rw [if_neg hd, if_neg (by omega), if_neg (by omega), if_neg (by omega), if_pos (by omega)]; exact h135)
                | (rw [if_neg hd, if_neg (by omega), if_neg (by omega), if_neg (by omega), if_neg (by omega)]; exact (rdP.rf k9).flt))
          · skip
            refine z_bipush (v := -33) dX2_readOperand_97 (by decide +kernel) ?_
            refine z_goto (tgt := 104) dX2_readOperand_99 (by decide) ?_
            refine z_callVV (d := 2 * k + 2) (av := [_]) dX2_readOperand_104 vX2_58 rfl (Nat.le_of_ble_eq_true rfl) rfl rfl rfl (Nat.le_of_ble_eq_true rfl) (Nat.le_refl _) (c_X2_addStep (fun q => by have := hb6 q; omega) ⟨by decide, by decide⟩) (fun σ104 h104 => ?_)
            skip
            refine z_goto (tgt := 146) dX2_readOperand_107 (by decide) ?_
            exact z_vret dX2_readOperand_146 (by
              rw [rd_5]
              first
                | (rw [if_pos hd]; exact h13)
                | (rw [if_neg hd, if_pos h23]; rcases h41 with ⟨e1, rfl⟩ | ⟨e1, -⟩; exact rdP.add (o := []) k6.1 (rdP.at (r := (true, σ 3 8, [])) (rdP.rf k9)); exact absurd k9 e1)
                | (rw [if_neg hd, if_neg (by omega), if_pos (by omega)]; exact (rdP.rf k9).flt)
                | (rw [if_neg hd, if_neg (by omega), if_neg (by omega), if_pos (by omega)]; rw [if_pos (by omega : nbS σ (σ 3 8) = 33)]; exact rdP.un k6.1 h87.pre h104)
                | (rw [if_neg hd, if_neg (by omega), if_neg (by omega), if_pos (by omega)]; rw [if_neg (by omega : ¬ nbS σ (σ 3 8) = 33)]; exact rdP.un k6.1 h87.pre h104)
                | (rw [if_neg hd, if_neg (by omega), if_neg (by omega), if_neg (by omega), if_pos (by omega)]; exact h135)
                | (rw [if_neg hd, if_neg (by omega), if_neg (by omega), if_neg (by omega), if_neg (by omega)]; exact (rdP.rf k9).flt))
        · skip
          refine z_iload_n dX2_readOperand_67 rfl ?_
          refine z_bipush (v := 45) dX2_readOperand_68 (by decide +kernel) ?_
          refine z_icmp_ne (tgt := 110) dX2_readOperand_70 (by decide) ⟨by omega, by omega⟩ ⟨by omega, by omega⟩ (fun h70 => ?_) (fun h70 => ?_)
          · skip
            refine z_iload_n dX2_readOperand_110 rfl ?_
            refine z_bipush (v := 40) dX2_readOperand_111 (by decide +kernel) ?_
            refine z_icmp_ne (tgt := 141) dX2_readOperand_113 (by decide) ⟨by omega, by omega⟩ ⟨by omega, by omega⟩ (fun h113 => ?_) (fun h113 => ?_)
            · skip
              refine z_aload_n dX2_readOperand_141 rfl ?_
              refine z_iconst dX2_readOperand_142 ?_
              refine z_putZ dX2_readOperand_143 pX2_37 rfl (Nat.le_of_ble_eq_true rfl) rfl (by omega) ?_
              exact z_vret dX2_readOperand_146 (by
                rw [rd_5]
                first
                  | (rw [if_pos hd]; exact h13)
                  | (rw [if_neg hd, if_pos h23]; rcases h41 with ⟨e1, rfl⟩ | ⟨e1, -⟩; exact rdP.add (o := []) k6.1 (rdP.at (r := (true, σ 3 8, [])) (rdP.rf k9)); exact absurd k9 e1)
                  | (rw [if_neg hd, if_neg (by omega), if_pos (by omega)]; exact (rdP.rf k9).flt)
                  | (rw [if_neg hd, if_neg (by omega), if_neg (by omega), if_pos (by omega)]; rw [if_pos (by omega : nbS σ (σ 3 8) = 33)]; exact rdP.un k6.1 h87.pre h104)
                  | (rw [if_neg hd, if_neg (by omega), if_neg (by omega), if_pos (by omega)]; rw [if_neg (by omega : ¬ nbS σ (σ 3 8) = 33)]; exact rdP.un k6.1 h87.pre h104)
                  | (rw [if_neg hd, if_neg (by omega), if_neg (by omega), if_neg (by omega), if_pos (by omega)]; exact h135)
                  | (rw [if_neg hd, if_neg (by omega), if_neg (by omega), if_neg (by omega), if_neg (by omega)]; exact (rdP.rf k9).flt))
            · skip
              refine z_aload_n dX2_readOperand_116 rfl ?_
              refine z_dup dX2_readOperand_117 rfl ?_
              refine z_getI dX2_readOperand_118 gX2_31 rfl (Nat.le_of_ble_eq_true rfl) rfl (fun hr118 => ?_)
              refine z_iconst dX2_readOperand_121 ?_
              refine z_iadd dX2_readOperand_122 ?_
              refine z_putI dX2_readOperand_123 pX2_31 rfl (Nat.le_of_ble_eq_true rfl) rfl ⟨by omega, by omega⟩ ?_
              have hlt := nbS_lt (σ := σ) (a := σ 3 8) (by omega)
              have hB1 : rdB (z_put σ 3 8 (σ 3 8 + 1)) := ⟨ht, k9, (show 0 ≤ σ 3 8 + 1 ∧ σ 3 8 + 1 ≤ σ 3 5 by omega), (show 0 ≤ σ 3 6 ∧ σ 3 6 ≤ 130 + (σ 3 8 + 1) by omega)⟩
              refine z_aload_n dX2_readOperand_126 rfl ?_
              refine z_iconst dX2_readOperand_127 ?_
              refine z_iload_n dX2_readOperand_128 rfl ?_
              refine z_iconst dX2_readOperand_129 ?_
              refine z_iadd dX2_readOperand_130 ?_
              refine z_callVV (d := 2 * k + 2) (av := [_, _]) dX2_readOperand_131 vX2_54 rfl (Nat.le_of_ble_eq_true rfl) rfl rfl rfl (Nat.le_of_ble_eq_true rfl) (Nat.le_refl _) (ih1 (by omega) _ hB1) (fun σ131 h131 => ?_)
              have h131 : rdP (z_put σ 3 8 (σ 3 8 + 1)) (rd (nbS σ) k 0 (o + 1) (σ 3 8 + 1)) σ131 := h131
              have hro := rd_RS (σ := σ) k 0 (o + 1) (σ 3 8 + 1) (by omega) (by omega) (by omega)
              have h131 := h131.pre
              have hnb : nbS σ131 = nbS σ := h131.1.nb
              have e5 : σ131 3 5 = σ 3 5 := h131.1.2 5 (by decide) (by decide) (by decide)
              have e8 := h131.2.1
              have hro1 := hro.1
              have hro2 := hro.2.1
              refine z_aload_n dX2_readOperand_134 rfl ?_
              refine z_callVV (d := 2 * k + 2) (av := []) dX2_readOperand_135 vX2_79 rfl (Nat.le_of_ble_eq_true rfl) rfl rfl rfl (Nat.le_of_ble_eq_true rfl) (Nat.le_refl _) (c_X2_closeBracket (o := []) (a := 0) (h131.1.tp ht) h131 (by omega)) (fun σ135 h135 => ?_)
              rw [hnb] at h135
              refine z_goto (tgt := 146) dX2_readOperand_138 (by decide) ?_
              exact z_vret dX2_readOperand_146 (by
                rw [rd_5]
                first
                  | (rw [if_pos hd]; exact h13)
                  | (rw [if_neg hd, if_pos h23]; rcases h41 with ⟨e1, rfl⟩ | ⟨e1, -⟩; exact rdP.add (o := []) k6.1 (rdP.at (r := (true, σ 3 8, [])) (rdP.rf k9)); exact absurd k9 e1)
                  | (rw [if_neg hd, if_neg (by omega), if_pos (by omega)]; exact (rdP.rf k9).flt)
                  | (rw [if_neg hd, if_neg (by omega), if_neg (by omega), if_pos (by omega)]; rw [if_pos (by omega : nbS σ (σ 3 8) = 33)]; exact rdP.un k6.1 h87.pre h104)
                  | (rw [if_neg hd, if_neg (by omega), if_neg (by omega), if_pos (by omega)]; rw [if_neg (by omega : ¬ nbS σ (σ 3 8) = 33)]; exact rdP.un k6.1 h87.pre h104)
                  | (rw [if_neg hd, if_neg (by omega), if_neg (by omega), if_neg (by omega), if_pos (by omega)]; exact h135)
                  | (rw [if_neg hd, if_neg (by omega), if_neg (by omega), if_neg (by omega), if_neg (by omega)]; exact (rdP.rf k9).flt))
          · skip
            refine z_aload_n dX2_readOperand_73 rfl ?_
            refine z_dup dX2_readOperand_74 rfl ?_
            refine z_getI dX2_readOperand_75 gX2_31 rfl (Nat.le_of_ble_eq_true rfl) rfl (fun hr75 => ?_)
            refine z_iconst dX2_readOperand_78 ?_
            refine z_iadd dX2_readOperand_79 ?_
            refine z_putI dX2_readOperand_80 pX2_31 rfl (Nat.le_of_ble_eq_true rfl) rfl ⟨by omega, by omega⟩ ?_
            have hlt := nbS_lt (σ := σ) (a := σ 3 8) (by omega)
            have hB1 : rdB (z_put σ 3 8 (σ 3 8 + 1)) := ⟨ht, k9, (show 0 ≤ σ 3 8 + 1 ∧ σ 3 8 + 1 ≤ σ 3 5 by omega), (show 0 ≤ σ 3 6 ∧ σ 3 6 ≤ 130 + (σ 3 8 + 1) by omega)⟩
            refine z_aload_n dX2_readOperand_83 rfl ?_
            refine z_iload_n dX2_readOperand_84 rfl ?_
            refine z_iconst dX2_readOperand_85 ?_
            refine z_iadd dX2_readOperand_86 ?_
            refine z_callVV (d := 2 * k + 1) (av := [_]) dX2_readOperand_87 vX2_62 rfl (Nat.le_of_ble_eq_true rfl) rfl rfl rfl (Nat.le_of_ble_eq_true rfl) (show 2 * k + 1 + 1 ≤ 2 * (k + 1) + 1 by omega) (ih2 (by omega) _ hB1) (fun σ87 h87 => ?_)
            have h87 : rdP (z_put σ 3 8 (σ 3 8 + 1)) (rd (nbS σ) k 5 (o + 1) (σ 3 8 + 1)) σ87 := h87
            have hb6 := h87.b6 (rd_RS (σ := σ) k 5 (o + 1) (σ 3 8 + 1) (by omega) (by omega) (by omega)) (show 0 ≤ σ 3 6 ∧ σ 3 6 ≤ 130 + (σ 3 8 + 1) by omega) (by omega)
            refine z_aload_n dX2_readOperand_90 rfl ?_
            refine z_iload_n dX2_readOperand_91 rfl ?_
            refine z_bipush (v := 33) dX2_readOperand_92 (by decide +kernel) ?_
            refine z_icmp_ne (tgt := 102) dX2_readOperand_94 (by decide) ⟨by omega, by omega⟩ ⟨by omega, by omega⟩ (fun h94 => ?_) (fun h94 => ?_)
            · skip
              refine z_bipush (v := -126) dX2_readOperand_102 (by decide +kernel) ?_
              refine z_callVV (d := 2 * k + 2) (av := [_]) dX2_readOperand_104 vX2_58 rfl (Nat.le_of_ble_eq_true rfl) rfl rfl rfl (Nat.le_of_ble_eq_true rfl) (Nat.le_refl _) (c_X2_addStep (fun q => by have := hb6 q; omega) ⟨by decide, by decide⟩) (fun σ104 h104 => ?_)
              skip
              refine z_goto (tgt := 146) dX2_readOperand_107 (by decide) ?_
              exact z_vret dX2_readOperand_146 (by
                rw [rd_5]
                first
                  | (rw [if_pos hd]; exact h13)
                  | (rw [if_neg hd, if_pos h23]; rcases h41 with ⟨e1, rfl⟩ | ⟨e1, -⟩; exact rdP.add (o := []) k6.1 (rdP.at (r := (true, σ 3 8, [])) (rdP.rf k9)); exact absurd k9 e1)
                  | (rw [if_neg hd, if_neg (by omega), if_pos (by omega)]; exact (rdP.rf k9).flt)
                  | (rw [if_neg hd, if_neg (by omega), if_neg (by omega), if_pos (by omega)]; rw [if_pos (by omega : nbS σ (σ 3 8) = 33)]; exact rdP.un k6.1 h87.pre h104)
                  | (rw [if_neg hd, if_neg (by omega), if_neg (by omega), if_pos (by omega)]; rw [if_neg (by omega : ¬ nbS σ (σ 3 8) = 33)]; exact rdP.un k6.1 h87.pre h104)
                  | (rw [if_neg hd, if_neg (by omega), if_neg (by omega), if_neg (by omega), if_pos (by omega)]; exact h135)
                  | (rw [if_neg hd, if_neg (by omega), if_neg (by omega), if_neg (by omega), if_neg (by omega)]; exact (rdP.rf k9).flt))
            · skip
              refine z_bipush (v := -33) dX2_readOperand_97 (by decide +kernel) ?_
              refine z_goto (tgt := 104) dX2_readOperand_99 (by decide) ?_
              refine z_callVV (d := 2 * k + 2) (av := [_]) dX2_readOperand_104 vX2_58 rfl (Nat.le_of_ble_eq_true rfl) rfl rfl rfl (Nat.le_of_ble_eq_true rfl) (Nat.le_refl _) (c_X2_addStep (fun q => by have := hb6 q; omega) ⟨by decide, by decide⟩) (fun σ104 h104 => ?_)
              skip
              refine z_goto (tgt := 146) dX2_readOperand_107 (by decide) ?_
              exact z_vret dX2_readOperand_146 (by
                rw [rd_5]
                first
                  | (rw [if_pos hd]; exact h13)
                  | (rw [if_neg hd, if_pos h23]; rcases h41 with ⟨e1, rfl⟩ | ⟨e1, -⟩; exact rdP.add (o := []) k6.1 (rdP.at (r := (true, σ 3 8, [])) (rdP.rf k9)); exact absurd k9 e1)
                  | (rw [if_neg hd, if_neg (by omega), if_pos (by omega)]; exact (rdP.rf k9).flt)
                  | (rw [if_neg hd, if_neg (by omega), if_neg (by omega), if_pos (by omega)]; rw [if_pos (by omega : nbS σ (σ 3 8) = 33)]; exact rdP.un k6.1 h87.pre h104)
                  | (rw [if_neg hd, if_neg (by omega), if_neg (by omega), if_pos (by omega)]; rw [if_neg (by omega : ¬ nbS σ (σ 3 8) = 33)]; exact rdP.un k6.1 h87.pre h104)
                  | (rw [if_neg hd, if_neg (by omega), if_neg (by omega), if_neg (by omega), if_pos (by omega)]; exact h135)
                  | (rw [if_neg hd, if_neg (by omega), if_neg (by omega), if_neg (by omega), if_neg (by omega)]; exact (rdP.rf k9).flt))
      · skip
        refine z_aload_n dX2_readOperand_53 rfl ?_
        refine z_iconst dX2_readOperand_54 ?_
        refine z_putZ dX2_readOperand_55 pX2_37 rfl (Nat.le_of_ble_eq_true rfl) rfl (by omega) ?_
        refine z_goto (tgt := 146) dX2_readOperand_58 (by decide) ?_
        exact z_vret dX2_readOperand_146 (by
          rw [rd_5]
          first
            | (rw [if_pos hd]; exact h13)
            | (rw [if_neg hd, if_pos h23]; rcases h41 with ⟨e1, rfl⟩ | ⟨e1, -⟩; exact rdP.add (o := []) k6.1 (rdP.at (r := (true, σ 3 8, [])) (rdP.rf k9)); exact absurd k9 e1)
            | (rw [if_neg hd, if_neg (by omega), if_pos (by omega)]; exact (rdP.rf k9).flt)
            | (rw [if_neg hd, if_neg (by omega), if_neg (by omega), if_pos (by omega)]; rw [if_pos (by omega : nbS σ (σ 3 8) = 33)]; exact rdP.un k6.1 h87.pre h104)
            | (rw [if_neg hd, if_neg (by omega), if_neg (by omega), if_pos (by omega)]; rw [if_neg (by omega : ¬ nbS σ (σ 3 8) = 33)]; exact rdP.un k6.1 h87.pre h104)
            | (rw [if_neg hd, if_neg (by omega), if_neg (by omega), if_neg (by omega), if_pos (by omega)]; exact h135)
            | (rw [if_neg hd, if_neg (by omega), if_neg (by omega), if_neg (by omega), if_neg (by omega)]; exact (rdP.rf k9).flt))
    · skip
      refine z_aload_n dX2_readOperand_26 rfl ?_
      refine z_dup dX2_readOperand_27 rfl ?_
      refine z_getI dX2_readOperand_28 gX2_31 rfl (Nat.le_of_ble_eq_true rfl) rfl (fun hr28 => ?_)
      refine z_iconst dX2_readOperand_31 ?_
      refine z_iadd dX2_readOperand_32 ?_
      refine z_putI dX2_readOperand_33 pX2_31 rfl (Nat.le_of_ble_eq_true rfl) rfl ⟨by omega, by omega⟩ ?_
      refine z_aload_n dX2_readOperand_36 rfl ?_
      refine z_iload_n dX2_readOperand_37 rfl ?_
      refine z_callSI (d := 2 * k + 2) (av := [_]) dX2_readOperand_38 sX2_76 rfl rfl (Nat.le_of_ble_eq_true rfl) (Nat.le_refl _) (c_X2_nameOf (by omega)) (fun z38 σ38 h38 => ?_)
      obtain ⟨rfl, hs38⟩ := h38
      subst σ38
      refine z_callVV (d := 2 * k + 2) (av := [_]) dX2_readOperand_41 vX2_58 rfl (Nat.le_of_ble_eq_true rfl) rfl rfl rfl (Nat.le_of_ble_eq_true rfl) (Nat.le_refl _) (c_X2_addStep (fun _ => show 0 ≤ σ 3 6 ∧ σ 3 6 < 256 by omega) (by omega)) (fun σ41 h41 => ?_)
      skip
      refine z_goto (tgt := 146) dX2_readOperand_44 (by decide) ?_
      exact z_vret dX2_readOperand_146 (by
        rw [rd_5]
        first
          | (rw [if_pos hd]; exact h13)
          | (rw [if_neg hd, if_pos h23]; rcases h41 with ⟨e1, rfl⟩ | ⟨e1, -⟩; exact rdP.add (o := []) k6.1 (rdP.at (r := (true, σ 3 8, [])) (rdP.rf k9)); exact absurd k9 e1)
          | (rw [if_neg hd, if_neg (by omega), if_pos (by omega)]; exact (rdP.rf k9).flt)
          | (rw [if_neg hd, if_neg (by omega), if_neg (by omega), if_pos (by omega)]; rw [if_pos (by omega : nbS σ (σ 3 8) = 33)]; exact rdP.un k6.1 h87.pre h104)
          | (rw [if_neg hd, if_neg (by omega), if_neg (by omega), if_pos (by omega)]; rw [if_neg (by omega : ¬ nbS σ (σ 3 8) = 33)]; exact rdP.un k6.1 h87.pre h104)
          | (rw [if_neg hd, if_neg (by omega), if_neg (by omega), if_neg (by omega), if_pos (by omega)]; exact h135)
          | (rw [if_neg hd, if_neg (by omega), if_neg (by omega), if_neg (by omega), if_neg (by omega)]; exact (rdP.rf k9).flt))
  · skip
    have hd : isD (nbS σ (σ 3 8)) = true := by rcases hd with q | q; exact q.2; exact absurd q.1 (by omega)
    refine z_aload_n dX2_readOperand_12 rfl ?_
    refine z_callVV (d := 2 * k + 2) (av := []) dX2_readOperand_13 vX2_73 rfl (Nat.le_of_ble_eq_true rfl) rfl rfl rfl (Nat.le_of_ble_eq_true rfl) (Nat.le_refl _) (c_X2_readNumber ht k9 (by omega) k8) (fun σ13 h13 => ?_)
    skip
    refine z_goto (tgt := 146) dX2_readOperand_16 (by decide) ?_
    exact z_vret dX2_readOperand_146 (by
      rw [rd_5]
      first
        | (rw [if_pos hd]; exact h13)
        | (rw [if_neg hd, if_pos h23]; rcases h41 with ⟨e1, rfl⟩ | ⟨e1, -⟩; exact rdP.add (o := []) k6.1 (rdP.at (r := (true, σ 3 8, [])) (rdP.rf k9)); exact absurd k9 e1)
        | (rw [if_neg hd, if_neg (by omega), if_pos (by omega)]; exact (rdP.rf k9).flt)
        | (rw [if_neg hd, if_neg (by omega), if_neg (by omega), if_pos (by omega)]; rw [if_pos (by omega : nbS σ (σ 3 8) = 33)]; exact rdP.un k6.1 h87.pre h104)
        | (rw [if_neg hd, if_neg (by omega), if_neg (by omega), if_pos (by omega)]; rw [if_neg (by omega : ¬ nbS σ (σ 3 8) = 33)]; exact rdP.un k6.1 h87.pre h104)
        | (rw [if_neg hd, if_neg (by omega), if_neg (by omega), if_neg (by omega), if_pos (by omega)]; exact h135)
        | (rw [if_neg hd, if_neg (by omega), if_neg (by omega), if_neg (by omega), if_neg (by omega)]; exact (rdP.rf k9).flt))
set_option maxRecDepth 20000 in
/-- behind a fault the loop ends -/
theorem f_X2_readLevel {D : Nat} {σ τ : Sto} {lvl o most g : Int} {r : RT} (hr : rdP σ (false, r.2.1, []) τ) (hg : inR g) (hm : inR most) :
    Z (z_me cX2_readLevel RX2 6 none D (qV fun σ' => rdP σ (false, r.2.1, []) σ')) 34 [some (zR 3), some (zI lvl), some (zI o), some (zI most), some (zI g), none] [] τ := by
  have e9 : τ 3 9 = 1 := by rcases hr.2.2 with q | q; exact tnf q.1.symm; exact q.2
  refine z_iload dX2_readLevel_34 rfl ?_
  refine z_iload_n dX2_readLevel_36 rfl ?_
  refine z_icmp_ge (tgt := 95) dX2_readLevel_37 (by decide) ⟨by omega, by omega⟩ ⟨by omega, by omega⟩ (fun h37 => ?_) (fun h37 => ?_)
  · skip
    exact z_vret dX2_readLevel_95 hr
  · skip
    refine z_aload_n dX2_readLevel_40 rfl ?_
    refine z_getI dX2_readLevel_41 gX2_37 rfl (Nat.le_of_ble_eq_true rfl) rfl (fun hr41 => ?_)
    refine z_if_ne (tgt := 95) dX2_readLevel_44 (by decide) ⟨by omega, by omega⟩ (fun h44 => ?_) (fun h44 => ?_)
    · skip
      exact z_vret dX2_readLevel_95 hr
    · exfalso; omega
set_option maxRecDepth 20000 in
set_option maxHeartbeats 1000000 in
theorem l_X2_readLevel {k : Nat} {σ : Sto} {lvl o most : Int} (ht : tpO σ) (hl : 0 ≤ lvl ∧ lvl < 5) (ho : inR o) (h06 : 0 ≤ σ 3 6) (hm : 0 ≤ most ∧ most ≤ 1000) (ih : ∀ τ, rdB τ → rdC k (lvl + 1) o τ) :
    ∀ (t : Nat) (τ : Sto) (out : List Int) (a g : Int), g + t = most → 0 ≤ g → (0 ≤ a ∧ a ≤ σ 3 5) → (0 ≤ τ 3 6 ∧ τ 3 6 ≤ 130 + a) → rdP σ (true, a, out) τ →
    Z (z_me cX2_readLevel RX2 6 none (2 * (k + 1) + 2) (qV fun σ' => rdP σ (lpF (rd (nbS σ) k (lvl + 1) o) (nbS σ) lvl t a out) σ')) 34 [some (zR 3), some (zI lvl), some (zI o), some (zI most), some (zI g), none] [] τ
  | 0, τ, out, a, g, hg, h0, ha, k6, hP => by
    refine z_iload dX2_readLevel_34 rfl ?_
    refine z_iload_n dX2_readLevel_36 rfl ?_
    refine z_icmp_ge (tgt := 95) dX2_readLevel_37 (by decide) ⟨by omega, by omega⟩ ⟨by omega, by omega⟩ (fun h37 => ?_) (fun h37 => ?_)
    · skip
      exact z_vret dX2_readLevel_95 hP
    · exfalso; omega
  | t + 1, τ, out, a, g, hg, h0, ha, k6, hP => by
    have e9 : τ 3 9 = 0 := by rcases hP.2.2 with q | q; exact q.2.1; exact tnf q.1
    have e8 : τ 3 8 = a := hP.2.1
    have tt := hP.1.tp ht
    have tt5 := tt.1
    have e5 : τ 3 5 = σ 3 5 := hP.1.2 5 (by decide) (by decide) (by decide)
    have hnb : nbS τ = nbS σ := hP.1.nb
    have hb := nbS_R (σ := σ) (a := a) ht.2
    have hlr := lvO_R (nbS σ a)
    refine z_iload dX2_readLevel_34 rfl ?_
    refine z_iload_n dX2_readLevel_36 rfl ?_
    refine z_icmp_ge (tgt := 95) dX2_readLevel_37 (by decide) ⟨by omega, by omega⟩ ⟨by omega, by omega⟩ (fun h37 => ?_) (fun h37 => ?_)
    · exfalso; omega
    · skip
      refine z_aload_n dX2_readLevel_40 rfl ?_
      refine z_getI dX2_readLevel_41 gX2_37 rfl (Nat.le_of_ble_eq_true rfl) rfl (fun hr41 => ?_)
      refine z_if_ne (tgt := 95) dX2_readLevel_44 (by decide) ⟨by omega, by omega⟩ (fun h44 => ?_) (fun h44 => ?_)
      · exfalso; omega
      · skip
        refine z_aload_n dX2_readLevel_47 rfl ?_
        refine z_callVI (d := 2 * k + 2 + 1) (av := []) dX2_readLevel_48 vX2_50 rfl (Nat.le_of_ble_eq_true rfl) rfl rfl rfl (Nat.le_of_ble_eq_true rfl) (Nat.le_refl _) (c_X2_nextByte tt5.2) (fun z48 σ48 h48 => ?_)
        obtain ⟨hs48, hz⟩ := h48
        subst σ48
        have hz : z48 = nbS σ a := by rw [← hnb, ← e8]; exact hz
        subst hz
        refine z_callSI (d := 2 * k + 2 + 1) (av := [_]) dX2_readLevel_51 sX2_65 rfl rfl (Nat.le_of_ble_eq_true rfl) (Nat.le_refl _) (c_X2_levelOf (by omega)) (fun z51 σ51 h51 => ?_)
        obtain ⟨rfl, hs51⟩ := h51
        subst σ51
        refine z_iload_n dX2_readLevel_54 rfl ?_
        refine z_icmp_ne (tgt := 95) dX2_readLevel_55 (by decide) ⟨by omega, by omega⟩ ⟨by omega, by omega⟩ (fun h55 => ?_) (fun h55 => ?_)
        · skip
          exact z_vret dX2_readLevel_95 (by rw [lpF, if_neg h55]; exact hP)
        · skip
          refine z_aload_n dX2_readLevel_58 rfl ?_
          refine z_callVI (d := 2 * k + 2 + 1) (av := []) dX2_readLevel_59 vX2_50 rfl (Nat.le_of_ble_eq_true rfl) rfl rfl rfl (Nat.le_of_ble_eq_true rfl) (Nat.le_refl _) (c_X2_nextByte tt5.2) (fun z59 σ59 h59 => ?_)
          obtain ⟨hs59, hz⟩ := h59
          subst σ59
          have hz : z59 = nbS σ a := by rw [← hnb, ← e8]; exact hz
          subst hz
          refine z_istore (L' := [_, _, _, _, _, _]) dX2_readLevel_62 (Nat.le_of_ble_eq_true rfl) rfl rfl ?_
          refine z_aload_n dX2_readLevel_64 rfl ?_
          refine z_dup dX2_readLevel_65 rfl ?_
          refine z_getI dX2_readLevel_66 gX2_31 rfl (Nat.le_of_ble_eq_true rfl) rfl (fun hr66 => ?_)
          refine z_iconst dX2_readLevel_69 ?_
          refine z_iadd dX2_readLevel_70 ?_
          refine z_putI dX2_readLevel_71 pX2_31 rfl (Nat.le_of_ble_eq_true rfl) rfl ⟨by omega, by omega⟩ ?_
          have hv : nbS σ a = -1 → lvO (nbS σ a) = -1 := fun q => (congrArg lvO q).trans lvO_n1
          have hlt := nbS_lt (σ := σ) (a := a) (fun q => by omega)
          rw [e8]
          have hB1 : rdB (z_put τ 3 8 (a + 1)) := ⟨tt, e9, (show 0 ≤ a + 1 ∧ a + 1 ≤ τ 3 5 by omega), (show 0 ≤ τ 3 6 ∧ τ 3 6 ≤ 130 + (a + 1) by omega)⟩
          refine z_aload_n dX2_readLevel_74 rfl ?_
          refine z_iload_n dX2_readLevel_75 rfl ?_
          refine z_iconst dX2_readLevel_76 ?_
          refine z_iadd dX2_readLevel_77 ?_
          refine z_iload_n dX2_readLevel_78 rfl ?_
          refine z_callVV (d := 2 * k + 2) (av := [_, _]) dX2_readLevel_79 vX2_54 rfl (Nat.le_of_ble_eq_true rfl) rfl rfl rfl (Nat.le_of_ble_eq_true rfl) (show 2 * k + 2 + 1 ≤ 2 * (k + 1) + 2 by omega) (ih _ hB1) (fun σ79 h79 => ?_)
          have h79 : rdP (z_put τ 3 8 (a + 1)) (rd (nbS τ) k (lvl + 1) o (a + 1)) σ79 := h79
          rw [hnb] at h79
          have hro := rd_RS (σ := σ) k (lvl + 1) o (a + 1) (by omega) (by omega) (by omega)
          have hb6 := h79.b6 hro (show 0 ≤ τ 3 6 ∧ τ 3 6 ≤ 130 + (a + 1) by omega) (by omega)
          have hro1 := hro.1
          have hro2 := hro.2.1
          refine z_aload_n dX2_readLevel_82 rfl ?_
          refine z_iload dX2_readLevel_83 rfl ?_
          refine z_ineg dX2_readLevel_85 ?_
          refine z_callVV (d := 2 * k + 2 + 1) (av := [_]) dX2_readLevel_86 vX2_58 rfl (Nat.le_of_ble_eq_true rfl) rfl rfl rfl (Nat.le_of_ble_eq_true rfl) (Nat.le_refl _) (c_X2_addStep (fun q => by have := hb6 q; omega) (by omega)) (fun σ86 h86 => ?_)
          skip
          refine z_iinc (L' := [_, _, _, _, _, _]) dX2_readLevel_89 (Nat.le_of_ble_eq_true rfl) rfl rfl rfl ?_
          refine z_goto (tgt := 34) dX2_readLevel_92 (by decide) ?_
          refine z_forget [true, true, true, true, true, false] (L' := [_, _, _, _, _, _]) rfl ?_
          have hu := rdP.un h06 (rdP.seq h06 hP h79.pre) h86
          rw [lpF, if_pos h55]
          rcases h86 with ⟨g1, rfl⟩ | ⟨g1, rfl⟩
          · have hok := h79.ok g1
            have hb7 := hb6 g1
            have hr3 := hro.2.2 hok
            rw [if_pos hok] at hu ⊢
            refine l_X2_readLevel ht hl ho h06 hm ih t _ _ _ (g + 1) (by omega) (by omega) (by omega) ?_ hu
            have : adS σ79 (-nbS σ a) 3 6 = σ79 3 6 + 1 := by rw [adS, z_rd, if_pos rfl, if_pos rfl]
            have hb8 : σ79 3 6 = τ 3 6 + ((rd (nbS σ) k (lvl + 1) o (a + 1)).2.2.length : Int) := hb7.2.2.2
            omega
          · have hno := (h79.no g1).1
            rw [if_neg (by rw [hno]; exact Bool.false_ne_true)] at hu ⊢
            exact f_X2_readLevel (r := rd (nbS σ) k (lvl + 1) o (a + 1)) hu (by omega) (by omega)
set_option maxRecDepth 20000 in
theorem c_X2_readLevel {k : Nat} {lvl o : Int} {σ : Sto} (hl : 0 ≤ lvl ∧ lvl < 5) (ho : inR o) (hB : rdB σ) (ih : ∀ τ, rdB τ → rdC k (lvl + 1) o τ) : rdC (k + 1) lvl o σ := by
  obtain ⟨ht, k9, k8, k6⟩ := id hB
  have ht5 := ht.1
  unfold rdC
  refine z_does (L := [some (zR 3), some (zI lvl), some (zI o), none, none, none]) rfl (by decide +kernel) (Nat.le_of_ble_eq_true rfl) rfl ?_
  refine z_iload_n dX2_readLevel_0 rfl ?_
  refine z_iconst dX2_readLevel_1 ?_
  refine z_icmp_lt (tgt := 11) dX2_readLevel_2 (by decide) ⟨by omega, by omega⟩ ⟨by omega, by omega⟩ (fun h2 => ?_) (fun h2 => ?_)
  · skip
    refine z_aload_n dX2_readLevel_11 rfl ?_
    refine z_iload_n dX2_readLevel_12 rfl ?_
    refine z_iconst dX2_readLevel_13 ?_
    refine z_iadd dX2_readLevel_14 ?_
    refine z_iload_n dX2_readLevel_15 rfl ?_
    refine z_callVV (d := 2 * k + 2) (av := [_, _]) dX2_readLevel_16 vX2_54 rfl (Nat.le_of_ble_eq_true rfl) rfl rfl rfl (Nat.le_of_ble_eq_true rfl) (show 2 * k + 2 + 1 ≤ 2 * (k + 1) + 2 by omega) (ih _ hB) (fun σ16 h16 => ?_)
    skip
    have hro := rd_RS (σ := σ) k (lvl + 1) o (σ 3 8) (by omega) (by omega) (by omega)
    have hb6 := h16.b6 hro k6 (by omega)
    have hro1 := hro.1
    have hro2 := hro.2.1
    refine z_iload_n dX2_readLevel_19 rfl ?_
    refine z_iconst dX2_readLevel_20 ?_
    refine z_icmp_ne (tgt := 28) dX2_readLevel_21 (by decide) ⟨by omega, by omega⟩ ⟨by omega, by omega⟩ (fun h21 => ?_) (fun h21 => ?_)
    · skip
      refine z_bipush (v := 120) dX2_readLevel_28 (by decide +kernel) ?_
      refine z_istore_n (L' := [_, _, _, _, _, _]) dX2_readLevel_30 (Nat.le_of_ble_eq_true rfl) rfl rfl ?_
      refine z_iconst dX2_readLevel_31 ?_
      refine z_istore (L' := [_, _, _, _, _, _]) dX2_readLevel_32 (Nat.le_of_ble_eq_true rfl) rfl rfl ?_
      rw [rd_l hl.2]
      rcases h16.f9 with g1 | g1
      · have hok := h16.ok g1
        have hb7 := hb6 g1
        rw [if_pos hok]
        have hP : rdP σ (true, (rd (nbS σ) k (lvl + 1) o (σ 3 8)).2.1, (rd (nbS σ) k (lvl + 1) o (σ 3 8)).2.2) σ16 := by rw [← hok]; exact h16
        first
          | (rw [if_pos (by omega)]; exact l_X2_readLevel ht hl ho k6.1 (by omega) ih 1 σ16 _ _ 0 (by omega) (by omega) (by omega) (by omega) hP)
          | (rw [if_neg (by omega)]; exact l_X2_readLevel ht hl ho k6.1 (by omega) ih 120 σ16 _ _ 0 (by omega) (by omega) (by omega) (by omega) hP)
      · have hno := (h16.no (by omega)).1
        rw [if_neg (by rw [hno]; exact Bool.false_ne_true)]
        exact f_X2_readLevel (r := rd (nbS σ) k (lvl + 1) o (σ 3 8)) (h16.fail hno) (by omega) (by omega)
    · skip
      refine z_iconst dX2_readLevel_24 ?_
      refine z_goto (tgt := 30) dX2_readLevel_25 (by decide) ?_
      refine z_istore_n (L' := [_, _, _, _, _, _]) dX2_readLevel_30 (Nat.le_of_ble_eq_true rfl) rfl rfl ?_
      refine z_iconst dX2_readLevel_31 ?_
      refine z_istore (L' := [_, _, _, _, _, _]) dX2_readLevel_32 (Nat.le_of_ble_eq_true rfl) rfl rfl ?_
      rw [rd_l hl.2]
      rcases h16.f9 with g1 | g1
      · have hok := h16.ok g1
        have hb7 := hb6 g1
        rw [if_pos hok]
        have hP : rdP σ (true, (rd (nbS σ) k (lvl + 1) o (σ 3 8)).2.1, (rd (nbS σ) k (lvl + 1) o (σ 3 8)).2.2) σ16 := by rw [← hok]; exact h16
        first
          | (rw [if_pos (by omega)]; exact l_X2_readLevel ht hl ho k6.1 (by omega) ih 1 σ16 _ _ 0 (by omega) (by omega) (by omega) (by omega) hP)
          | (rw [if_neg (by omega)]; exact l_X2_readLevel ht hl ho k6.1 (by omega) ih 120 σ16 _ _ 0 (by omega) (by omega) (by omega) (by omega) hP)
      · have hno := (h16.no (by omega)).1
        rw [if_neg (by rw [hno]; exact Bool.false_ne_true)]
        exact f_X2_readLevel (r := rd (nbS σ) k (lvl + 1) o (σ 3 8)) (h16.fail hno) (by omega) (by omega)
  · exfalso; omega
set_option maxRecDepth 20000 in
theorem c_X2_readLevel5 {k : Nat} {o : Int} {σ : Sto} (ho : inR o) (h : roC k o σ) : rdC k 5 o σ := by
  unfold rdC
  refine z_does (L := [some (zR 3), some (zI 5), some (zI o), none, none, none]) rfl (by decide +kernel) (Nat.le_of_ble_eq_true rfl) rfl ?_
  refine z_iload_n dX2_readLevel_0 rfl ?_
  refine z_iconst dX2_readLevel_1 ?_
  refine z_icmp_lt (tgt := 11) dX2_readLevel_2 (by decide) ⟨by omega, by omega⟩ ⟨by omega, by omega⟩ (fun h2 => ?_) (fun h2 => ?_)
  · exfalso; omega
  · skip
    refine z_aload_n dX2_readLevel_5 rfl ?_
    refine z_iload_n dX2_readLevel_6 rfl ?_
    refine z_callVV (d := 2 * k + 1) (av := [_]) dX2_readLevel_7 vX2_62 rfl (Nat.le_of_ble_eq_true rfl) rfl rfl rfl (Nat.le_of_ble_eq_true rfl) (show 2 * k + 1 + 1 ≤ 2 * k + 2 by omega) (h) (fun σ7 h7 => ?_)
    skip
    exact z_vret dX2_readLevel_10 h7
theorem rd_all : ∀ (k : Nat), (∀ (o : Int) (σ : Sto), (0 ≤ o ∧ o ≤ 6) → (6 - o) * 6 + 1 ≤ k → rdB σ → roC k o σ) ∧ (∀ (lvl o : Int) (σ : Sto), (0 ≤ lvl ∧ lvl ≤ 5) → (0 ≤ o ∧ o ≤ 6) → (6 - o) * 6 + (6 - lvl) ≤ k → rdB σ → rdC k lvl o σ)
  | 0 => ⟨fun o σ h1 h2 => absurd h2 (by omega), fun lvl o σ h0 h1 h2 => absurd h2 (by omega)⟩
  | k + 1 => by
    obtain ⟨i1, i2⟩ := rd_all k
    have a1 : ∀ (o : Int) (σ : Sto), (0 ≤ o ∧ o ≤ 6) → (6 - o) * 6 + 1 ≤ ((k + 1 : Nat) : Int) → rdB σ → roC (k + 1) o σ := fun o σ h1 h2 hB =>
      c_X2_readOperand h1 hB (fun h3 τ hτ => i2 0 (o + 1) τ (by omega) (by omega) (by omega) hτ) (fun h3 τ hτ => i1 (o + 1) τ (by omega) (by omega) hτ)
    refine ⟨a1, fun lvl o σ h0 h1 h2 hB => ?_⟩
    by_cases h5 : lvl = 5
    · subst h5
      exact c_X2_readLevel5 (by omega) (a1 o σ h1 (by omega) hB)
    · exact c_X2_readLevel (by omega) (by omega) hB (fun τ hτ => i2 (lvl + 1) o τ (by omega) h1 (by omega) hτ)
abbrev rd0 (nb : Int → Int) (a : Int) : RT := rd nb 48 0 0 a
theorem c_X2_read0 {σ : Sto} (hB : rdB σ) : Does 98 yX2_readLevel cX2_readLevel 6 none [zR 3, zI 0, zI 0] σ (qV fun σ' => rdP σ (rd0 (nbS σ) (σ 3 8)) σ') := (rd_all 48).2 0 0 σ (by omega) (by omega) (by omega) hB
