/-! ===== The reference: both rows laid ===== -/
abbrev lbK : Sto → Sto → Prop := frM [103, 107, 109] [35, 43, 46]
theorem reM.fr {S J : List Nat} {σ τ : Sto} {X : List Int} (hX : reM σ X) (h : frM S J σ τ) (h3 : 109 ∉ S) (h5 : 46 ∉ J) : reM τ X := ⟨by rw [h.2 46 h5]; exact hX.1, Seg.row (h.1 109 h3 (by decide)) hX.2.1, hX.2.2⟩
set_option maxRecDepth 20000 in
theorem l_X9_layBoth {d : Nat} {υ : Sto} {t : Int} {C : List Int} {P : Option Value → Sto → Prop} (hs : Seg υ 103 0 C) (h46 : υ 9 46 = (C.length : Int)) (hl : C.length ≤ 12)
    (hk : ∀ τ j, frM [109] [] υ τ → Seg τ 109 0 C → Z (z_me cX9_layBoth RX9 3 none (d + 4) P) 44 [some (zR 9), some (zI t), some (zI j)] [] τ) :
    ∀ (R : List Int) (τ : Sto) (Q : List Int) (j : Int), j = Q.length → Q ++ R = C → frM [109] [] υ τ → Seg τ 109 0 Q → Seg υ 103 j.toNat R →
    Z (z_me cX9_layBoth RX9 3 none (d + 4) P) 18 [some (zR 9), some (zI t), some (zI j)] [] τ
  | [], τ, Q, j, hj, hq, hK, sQ, sR => by
    have e46 : τ 9 46 = υ 9 46 := hK.2 46 (by decide)
    rw [List.append_nil] at hq
    subst hq
    refine z_iload_n dX9_layBoth_18 rfl ?_
    refine z_aload_n dX9_layBoth_19 rfl ?_
    refine z_getI dX9_layBoth_20 gX9_345 rfl (Nat.le_of_ble_eq_true rfl) rfl (fun hr20 => ?_)
    refine z_icmp_ge (tgt := 44) dX9_layBoth_23 (by decide) ⟨by omega, by omega⟩ ⟨by omega, by omega⟩ (fun h23 => ?_) (fun h23 => ?_)
    · skip
      exact hk τ j hK sQ
    · exfalso; omega
  | x :: r, τ, Q, j, hj, hq, hK, sQ, sR => by
    have e46 : τ 9 46 = υ 9 46 := hK.2 46 (by decide)
    have e103 : τ 103 = υ 103 := hK.1 103 (by decide) (by decide)
    obtain ⟨e1, sR⟩ := sR
    have hlen : Q.length + (r.length + 1) = C.length := by rw [← hq, List.length_append, List.length_cons]
    have hx : τ 103 j.toNat = x := by rw [e103]; exact e1
    refine z_iload_n dX9_layBoth_18 rfl ?_
    refine z_aload_n dX9_layBoth_19 rfl ?_
    refine z_getI dX9_layBoth_20 gX9_345 rfl (Nat.le_of_ble_eq_true rfl) rfl (fun hr20 => ?_)
    refine z_icmp_ge (tgt := 44) dX9_layBoth_23 (by decide) ⟨by omega, by omega⟩ ⟨by omega, by omega⟩ (fun h23 => ?_) (fun h23 => ?_)
    · exfalso; omega
    · skip
      refine z_aload_n dX9_layBoth_26 rfl ?_
      refine z_getR dX9_layBoth_27 gX9_101 rfl (Nat.le_of_ble_eq_true rfl) rfl ?_
      refine z_iload_n dX9_layBoth_30 rfl ?_
      refine z_aload_n dX9_layBoth_31 rfl ?_
      refine z_getR dX9_layBoth_32 gX9_81 rfl (Nat.le_of_ble_eq_true rfl) rfl ?_
      refine z_iload_n dX9_layBoth_35 rfl ?_
      refine z_iald dX9_layBoth_36 rfl (Nat.le_of_ble_eq_true rfl) (by omega) (fun hr36 => ?_)
      rw [hx]
      refine z_iast dX9_layBoth_37 rfl (Nat.le_of_ble_eq_true rfl) (by omega) ⟨by omega, by omega⟩ ?_
      refine z_iinc (L' := [_, _, _]) dX9_layBoth_38 (Nat.le_of_ble_eq_true rfl) rfl rfl rfl ?_
      refine z_goto (tgt := 18) dX9_layBoth_41 (by decide) ?_
      exact l_X9_layBoth hs h46 hl hk r _ (Q ++ [x]) (j + 1) (by rw [List.length_append]; simp only [List.length_cons, List.length_nil]; omega) (by rw [List.append_assoc]; exact hq) (frM.putA hK (by decide) (by decide)) (by rw [show j.toNat = Q.length by omega]; exact Seg.put sQ) (by rw [toN_s (by omega)]; exact sR)
