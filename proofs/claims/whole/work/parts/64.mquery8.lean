/-! ===== The reference's questions: several ===== -/
def prM (σ : Sto) (two : Int) : Int := if ¬ (0 ≤ two ∧ two.tdiv 10 < 6 ∧ two.tmod 10 < 6) then -1 else if σ 117 (two.tdiv 10).toNat = -1 ∨ σ 117 (two.tmod 10).toNat = -1 then -11 else if σ 117 (two.tdiv 10).toNat = -2 ∧ σ 117 (two.tmod 10).toNat = -2 then 0 else -12
set_option maxRecDepth 20000 in
theorem c_X9_areShelves {d : Nat} {σ : Sto} {t : Int} (ht : inR t) : m_X9_areShelves d [zI t] σ (qI fun z σ' => σ' = σ ∧ yn z (0 ≤ t ∧ t.tdiv 10 < 6 ∧ t.tmod 10 < 6)) := by
  have hd := dm10 (t := t)
  refine z_does (L := [some (zI t)]) rfl (by decide +kernel) (Nat.le_of_ble_eq_true rfl) rfl ?_
  refine z_iload_n dX9_areShelves_0 rfl ?_
  refine z_if_lt (tgt := 28) dX9_areShelves_1 (by decide) ⟨by omega, by omega⟩ (fun h1 => ?_) (fun h1 => ?_)
  · skip
    refine z_iconst dX9_areShelves_28 ?_
    exact z_zret dX9_areShelves_29 (by omega) ⟨rfl, by omega⟩
  · skip
    have hd := hd (by omega)
    refine z_iload_n dX9_areShelves_4 rfl ?_
    refine z_bipush (v := 10) dX9_areShelves_5 (by decide +kernel) ?_
    refine z_idiv dX9_areShelves_7 ⟨by omega, by omega⟩ ⟨by omega, by omega⟩ (by omega) ?_
    refine z_callSI (d := d + 1) (av := [_]) dX9_areShelves_8 sX9_154 rfl rfl (Nat.le_of_ble_eq_true rfl) (Nat.le_refl _) (c_X9_isShelf (by omega)) (fun z8 σ8 h8 => ?_)
    obtain ⟨hs8, h8⟩ := h8
    subst σ8
    refine z_if_eq (tgt := 28) dX9_areShelves_11 (by decide) ⟨by omega, by omega⟩ (fun h11 => ?_) (fun h11 => ?_)
    · skip
      refine z_iconst dX9_areShelves_28 ?_
      exact z_zret dX9_areShelves_29 (by omega) ⟨rfl, by omega⟩
    · skip
      refine z_iload_n dX9_areShelves_14 rfl ?_
      refine z_bipush (v := 10) dX9_areShelves_15 (by decide +kernel) ?_
      refine z_irem dX9_areShelves_17 ⟨by omega, by omega⟩ ⟨by omega, by omega⟩ (by omega) ?_
      refine z_callSI (d := d + 1) (av := [_]) dX9_areShelves_18 sX9_154 rfl rfl (Nat.le_of_ble_eq_true rfl) (Nat.le_refl _) (c_X9_isShelf (by omega)) (fun z18 σ18 h18 => ?_)
      obtain ⟨hs18, h18⟩ := h18
      subst σ18
      refine z_if_eq (tgt := 28) dX9_areShelves_21 (by decide) ⟨by omega, by omega⟩ (fun h21 => ?_) (fun h21 => ?_)
      · skip
        refine z_iconst dX9_areShelves_28 ?_
        exact z_zret dX9_areShelves_29 (by omega) ⟨rfl, by omega⟩
      · skip
        refine z_iconst dX9_areShelves_24 ?_
        refine z_goto (tgt := 29) dX9_areShelves_25 (by decide) ?_
        exact z_zret dX9_areShelves_29 (by omega) ⟨rfl, by omega⟩
set_option maxRecDepth 20000 in
theorem c_X9_bothFault {d : Nat} {σ : Sto} {t : Int} (hS : SM σ) (ht : 0 ≤ t ∧ t.tdiv 10 < 6 ∧ t.tmod 10 < 6) (hR : inR t) : m_X9_bothFault d [zR 9, zI t] σ (qI fun z σ' => z = prM σ t ∧ σ' = σ) := by
  have hd := dm10 ht.1
  obtain ⟨a1, -, -⟩ := hS (t.tdiv 10) (by omega) (by omega)
  obtain ⟨b1, -, -⟩ := hS (t.tmod 10) (by omega) (by omega)
  have e3 : ∀ s : Int, (if σ 117 s.toNat = -1 then (-11 : Int) else if σ 117 s.toNat = -2 then 0 else -12) = -11 ∧ σ 117 s.toNat = -1 ∨ (if σ 117 s.toNat = -1 then (-11 : Int) else if σ 117 s.toNat = -2 then 0 else -12) = 0 ∧ σ 117 s.toNat = -2 ∨ (if σ 117 s.toNat = -1 then (-11 : Int) else if σ 117 s.toNat = -2 then 0 else -12) = -12 ∧ σ 117 s.toNat ≠ -1 ∧ σ 117 s.toNat ≠ -2 := fun s => by
    by_cases q1 : σ 117 s.toNat = -1
    · rw [if_pos q1]; exact Or.inl ⟨rfl, q1⟩
    · by_cases q2 : σ 117 s.toNat = -2
      · rw [if_neg q1, if_pos q2]; exact Or.inr (Or.inl ⟨rfl, q2⟩)
      · rw [if_neg q1, if_neg q2]; exact Or.inr (Or.inr ⟨rfl, q1, q2⟩)
  refine z_does (L := [some (zR 9), some (zI t)]) rfl (by decide +kernel) (Nat.le_of_ble_eq_true rfl) rfl ?_
  refine z_aload_n dX9_bothFault_0 rfl ?_
  refine z_getR dX9_bothFault_1 gX9_125 rfl (Nat.le_of_ble_eq_true rfl) rfl ?_
  refine z_iload_n dX9_bothFault_4 rfl ?_
  refine z_bipush (v := 10) dX9_bothFault_5 (by decide +kernel) ?_
  refine z_idiv dX9_bothFault_7 ⟨by omega, by omega⟩ ⟨by omega, by omega⟩ (by omega) ?_
  refine z_iald dX9_bothFault_8 rfl (Nat.le_of_ble_eq_true rfl) (by omega) (fun hr8 => ?_)
  refine z_iconst dX9_bothFault_9 ?_
  refine z_icmp_eq (tgt := 26) dX9_bothFault_10 (by decide) ⟨by omega, by omega⟩ ⟨by omega, by omega⟩ (fun h10 => ?_) (fun h10 => ?_)
  · skip
    refine z_bipush (v := -11) dX9_bothFault_26 (by decide +kernel) ?_
    exact z_iret dX9_bothFault_28 ⟨by unfold prM; rw [if_neg (by omega), if_pos (by omega)], rfl⟩
  · skip
    refine z_aload_n dX9_bothFault_13 rfl ?_
    refine z_getR dX9_bothFault_14 gX9_125 rfl (Nat.le_of_ble_eq_true rfl) rfl ?_
    refine z_iload_n dX9_bothFault_17 rfl ?_
    refine z_bipush (v := 10) dX9_bothFault_18 (by decide +kernel) ?_
    refine z_irem dX9_bothFault_20 ⟨by omega, by omega⟩ ⟨by omega, by omega⟩ (by omega) ?_
    refine z_iald dX9_bothFault_21 rfl (Nat.le_of_ble_eq_true rfl) (by omega) (fun hr21 => ?_)
    refine z_iconst dX9_bothFault_22 ?_
    refine z_icmp_ne (tgt := 29) dX9_bothFault_23 (by decide) ⟨by omega, by omega⟩ ⟨by omega, by omega⟩ (fun h23 => ?_) (fun h23 => ?_)
    · skip
      refine z_aload_n dX9_bothFault_29 rfl ?_
      refine z_iload_n dX9_bothFault_30 rfl ?_
      refine z_bipush (v := 10) dX9_bothFault_31 (by decide +kernel) ?_
      refine z_idiv dX9_bothFault_33 ⟨by omega, by omega⟩ ⟨by omega, by omega⟩ (by omega) ?_
      refine z_callVI (d := d + 0) (av := [_]) dX9_bothFault_34 vX9_289 rfl (Nat.le_of_ble_eq_true rfl) rfl rfl rfl (Nat.le_of_ble_eq_true rfl) (Nat.le_refl _) (c_X9_rowFault hS (by omega)) (fun z34 σ34 h34 => ?_)
      obtain ⟨hz34, hs34⟩ := h34
      subst σ34
      have c34 := e3 (t.tdiv 10)
      rw [← hz34] at c34
      refine z_if_lt (tgt := 51) dX9_bothFault_37 (by decide) ⟨by omega, by omega⟩ (fun h37 => ?_) (fun h37 => ?_)
      · skip
        refine z_bipush (v := -12) dX9_bothFault_51 (by decide +kernel) ?_
        refine z_goto (tgt := 57) dX9_bothFault_53 (by decide) ?_
        exact z_iret dX9_bothFault_57 (by
          refine ⟨?_, rfl⟩
          unfold prM; rw [if_neg (by omega), if_neg (by omega)]
          first
          | (rw [if_pos (by omega)]; done)
          | (rw [if_neg (by omega)]; done))
      · skip
        refine z_aload_n dX9_bothFault_40 rfl ?_
        refine z_iload_n dX9_bothFault_41 rfl ?_
        refine z_bipush (v := 10) dX9_bothFault_42 (by decide +kernel) ?_
        refine z_irem dX9_bothFault_44 ⟨by omega, by omega⟩ ⟨by omega, by omega⟩ (by omega) ?_
        refine z_callVI (d := d + 0) (av := [_]) dX9_bothFault_45 vX9_289 rfl (Nat.le_of_ble_eq_true rfl) rfl rfl rfl (Nat.le_of_ble_eq_true rfl) (Nat.le_refl _) (c_X9_rowFault hS (by omega)) (fun z45 σ45 h45 => ?_)
        obtain ⟨hz45, hs45⟩ := h45
        subst σ45
        have c45 := e3 (t.tmod 10)
        rw [← hz45] at c45
        refine z_if_ge (tgt := 56) dX9_bothFault_48 (by decide) ⟨by omega, by omega⟩ (fun h48 => ?_) (fun h48 => ?_)
        · skip
          refine z_iconst dX9_bothFault_56 ?_
          exact z_iret dX9_bothFault_57 (by
            refine ⟨?_, rfl⟩
            unfold prM; rw [if_neg (by omega), if_neg (by omega)]
            first
            | (rw [if_pos (by omega)]; done)
            | (rw [if_neg (by omega)]; done))
        · skip
          refine z_bipush (v := -12) dX9_bothFault_51 (by decide +kernel) ?_
          refine z_goto (tgt := 57) dX9_bothFault_53 (by decide) ?_
          exact z_iret dX9_bothFault_57 (by
            refine ⟨?_, rfl⟩
            unfold prM; rw [if_neg (by omega), if_neg (by omega)]
            first
            | (rw [if_pos (by omega)]; done)
            | (rw [if_neg (by omega)]; done))
    · skip
      refine z_bipush (v := -11) dX9_bothFault_26 (by decide +kernel) ?_
      exact z_iret dX9_bothFault_28 ⟨by unfold prM; rw [if_neg (by omega), if_pos (by omega)], rfl⟩
theorem prM_0 {σ : Sto} {t : Int} (h : prM σ t = 0) : (0 ≤ t.tdiv 10 ∧ t.tdiv 10 < 6) ∧ (0 ≤ t.tmod 10 ∧ t.tmod 10 < 6) ∧ σ 117 (t.tdiv 10).toNat = -2 ∧ σ 117 (t.tmod 10).toNat = -2 ∧ 0 ≤ t := by
  unfold prM at h
  by_cases c : ¬ (0 ≤ t ∧ t.tdiv 10 < 6 ∧ t.tmod 10 < 6)
  · rw [if_pos c] at h; omega
  · have hd := dm10 (t := t) (by omega)
    rw [if_neg c] at h
    split at h
    · omega
    · split at h
      · omega
      · omega
theorem prM_R {σ : Sto} {t : Int} : -12 ≤ prM σ t ∧ prM σ t ≤ 0 := by
  unfold prM
  repeat' split
  all_goals decide
set_option maxRecDepth 20000 in
theorem l_X9_svCopy {d : Nat} {υ : Sto} {t w e0 lost s2 i : Int} {C : List Int} {P : Option Value → Sto → Prop} (hC : caM υ C)
    (hk : ∀ τ j, frM [103] [] υ τ → Seg τ 103 0 C → Z (z_me cX9_several RX9 8 (some .int) (d + 6) P) 139 [some (zR 9), some (zI t), some (zI w), some (zI e0), some (zI lost), some (zI s2), some (zI i), some (zI j)] [] τ) :
    ∀ (R : List Int) (τ : Sto) (Q : List Int) (j : Int), j = Q.length → Q ++ R = C → frM [103] [] υ τ → Seg τ 103 0 Q → Seg υ 104 j.toNat R →
    Z (z_me cX9_several RX9 8 (some .int) (d + 6) P) 110 [some (zR 9), some (zI t), some (zI w), some (zI e0), some (zI lost), some (zI s2), some (zI i), some (zI j)] [] τ
  | [], τ, Q, j, hj, hq, hK, sQ, sR => by
    have e37 : τ 9 37 = υ 9 37 := hK.2 37 (by decide)
    have c1 := hC.1
    rw [List.append_nil] at hq
    subst hq
    refine z_iload dX9_several_110 rfl ?_
    refine z_aload_n dX9_several_112 rfl ?_
    refine z_getI dX9_several_113 gX9_280 rfl (Nat.le_of_ble_eq_true rfl) rfl (fun hr113 => ?_)
    refine z_icmp_ge (tgt := 139) dX9_several_116 (by decide) ⟨by omega, by omega⟩ ⟨by omega, by omega⟩ (fun h116 => ?_) (fun h116 => ?_)
    · skip
      exact hk τ j hK sQ
    · exfalso; omega
  | x :: r, τ, Q, j, hj, hq, hK, sQ, sR => by
    have e37 : τ 9 37 = υ 9 37 := hK.2 37 (by decide)
    have e104 : τ 104 = υ 104 := hK.1 104 (by decide) (by decide)
    have c1 := hC.1
    have c4 := hC.2.2.2
    obtain ⟨e1, sR⟩ := sR
    have hlen : Q.length + (r.length + 1) = C.length := by rw [← hq, List.length_append, List.length_cons]
    have hx : τ 104 j.toNat = x := by rw [e104]; exact e1
    refine z_iload dX9_several_110 rfl ?_
    refine z_aload_n dX9_several_112 rfl ?_
    refine z_getI dX9_several_113 gX9_280 rfl (Nat.le_of_ble_eq_true rfl) rfl (fun hr113 => ?_)
    refine z_icmp_ge (tgt := 139) dX9_several_116 (by decide) ⟨by omega, by omega⟩ ⟨by omega, by omega⟩ (fun h116 => ?_) (fun h116 => ?_)
    · exfalso; omega
    · skip
      refine z_aload_n dX9_several_119 rfl ?_
      refine z_getR dX9_several_120 gX9_81 rfl (Nat.le_of_ble_eq_true rfl) rfl ?_
      refine z_iload dX9_several_123 rfl ?_
      refine z_aload_n dX9_several_125 rfl ?_
      refine z_getR dX9_several_126 gX9_84 rfl (Nat.le_of_ble_eq_true rfl) rfl ?_
      refine z_iload dX9_several_129 rfl ?_
      refine z_iald dX9_several_131 rfl (Nat.le_of_ble_eq_true rfl) (by omega) (fun hr131 => ?_)
      rw [hx]
      refine z_iast dX9_several_132 rfl (Nat.le_of_ble_eq_true rfl) (by omega) ⟨by omega, by omega⟩ ?_
      refine z_iinc (L' := [_, _, _, _, _, _, _, _]) dX9_several_133 (Nat.le_of_ble_eq_true rfl) rfl rfl rfl ?_
      refine z_goto (tgt := 110) dX9_several_136 (by decide) ?_
      refine l_X9_svCopy hC hk r _ (Q ++ [x]) (j + 1) (by rw [List.length_append]; simp only [List.length_cons, List.length_nil]; omega) (by rw [List.append_assoc]; exact hq) (frM.putA hK (by decide) (by decide)) (by rw [show j.toNat = Q.length by omega]; exact Seg.put sQ) (by rw [toN_s (by omega)]; exact sR)
