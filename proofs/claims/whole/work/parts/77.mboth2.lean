/-! ===== The reference: layBoth ===== -/
set_option maxRecDepth 20000 in
theorem t_X9_layBoth {d : Nat} {σ τ : Sto} {t j : Int} {Y : List Int} (hc : 0 ≤ σ 9 1 ∧ σ 9 1 ≤ 12) (hS : SM σ) (h1 : 0 ≤ t ∧ 0 ≤ t.tdiv 10 ∧ t.tdiv 10 < 6) (h17 : σ 117 (t.tdiv 10).toNat = -2) (hR : inR t) (hK : lbK σ τ) (hY : reM τ Y) :
    Z (z_me cX9_layBoth RX9 3 none (d + 4) (qV fun σ' => lbK σ σ' ∧ r1M σ' (SYM σ (t.tdiv 10)) ∧ reM σ' Y)) 44 [some (zR 9), some (zI t), some (zI j)] [] τ := by
  have hd := dm10 h1.1
  have e1 : τ 9 1 = σ 9 1 := hK.2 1 (by decide)
  have e17 : τ 117 = σ 117 := hK.1 117 (by decide) (by decide)
  have hSt : SM τ := hS.fr hK (by decide) (by decide) (by decide)
  have esy : SYM τ (t.tdiv 10) = SYM σ (t.tdiv 10) := hK.sym (by decide) (by decide) (by decide)
  refine z_aload_n dX9_layBoth_44 rfl ?_
  refine z_iload_n dX9_layBoth_45 rfl ?_
  refine z_bipush (v := 10) dX9_layBoth_46 (by decide +kernel) ?_
  refine z_idiv dX9_layBoth_48 ⟨by omega, by omega⟩ ⟨by omega, by omega⟩ (by omega) ?_
  refine z_callVV (d := d + 3) (av := [_]) dX9_layBoth_49 vX9_324 rfl (Nat.le_of_ble_eq_true rfl) rfl rfl rfl (Nat.le_of_ble_eq_true rfl) (Nat.le_refl _) (c_X9_layRow (by rw [e1]; exact hc) hSt (by omega) (by rw [e17]; exact h17)) (fun σ49 h49 => ?_)
  obtain ⟨hk1, -, hr1⟩ := h49
  rw [esy] at hr1
  exact z_vret dX9_layBoth_52 ⟨hK.tr (hk1.mono (by decide) (by decide)), hr1, hY.fr hk1 (by decide) (by decide)⟩
set_option maxRecDepth 20000 in
theorem c_X9_layBoth {d : Nat} {σ : Sto} {t : Int} (hc : 0 ≤ σ 9 1 ∧ σ 9 1 ≤ 12) (hS : SM σ) (h0 : prM σ t = 0) (hR : inR t) : m_X9_layBoth d [zR 9, zI t] σ (qV fun σ' => lbK σ σ' ∧ r1M σ' (SYM σ (t.tdiv 10)) ∧ reM σ' (SYM σ (t.tmod 10))) := by
  obtain ⟨p1, p2, p3, p4, p5⟩ := prM_0 h0
  have hl := SYM_len (σ := σ) (s := t.tmod 10)
  have hw := SYM_wok (σ := σ) (s := t.tmod 10) hc.2
  refine z_does (L := [some (zR 9), some (zI t), none]) rfl (by decide +kernel) (Nat.le_of_ble_eq_true rfl) rfl ?_
  refine z_aload_n dX9_layBoth_0 rfl ?_
  refine z_iload_n dX9_layBoth_1 rfl ?_
  refine z_bipush (v := 10) dX9_layBoth_2 (by decide +kernel) ?_
  refine z_irem dX9_layBoth_4 ⟨by omega, by omega⟩ ⟨by omega, by omega⟩ (by omega) ?_
  refine z_callVV (d := d + 3) (av := [_]) dX9_layBoth_5 vX9_292 rfl (Nat.le_of_ble_eq_true rfl) rfl rfl rfl (Nat.le_of_ble_eq_true rfl) (Nat.le_refl _) (c_X9_laySaying hc hS p2 p4) (fun σ5 h5 => ?_)
  obtain ⟨hk1, hsd⟩ := h5
  refine z_aload_n dX9_layBoth_8 rfl ?_
  refine z_aload_n dX9_layBoth_9 rfl ?_
  refine z_getI dX9_layBoth_10 gX9_274 rfl (Nat.le_of_ble_eq_true rfl) rfl (fun hr10 => ?_)
  refine z_putI dX9_layBoth_13 pX9_345 rfl (Nat.le_of_ble_eq_true rfl) rfl ⟨by omega, by omega⟩ ?_
  refine z_iconst dX9_layBoth_16 ?_
  refine z_istore_n (L' := [_, _, _]) dX9_layBoth_17 (Nat.le_of_ble_eq_true rfl) rfl rfl ?_
  refine l_X9_layBoth (υ := z_put σ5 9 46 (σ5 9 35)) (C := SYM σ (t.tmod 10)) (Seg.row (z_put_ne (by decide)) hsd.2.1) hsd.1 hl (fun υ j hf sC => ?_) (SYM σ (t.tmod 10)) _ [] 0 rfl rfl (frM.rf _ _ _) trivial (Seg.row (z_put_ne (by decide)) hsd.2.1)
  have hkA : lbK σ υ := (frM.putF (hk1.mono (by decide) (by decide)) (by decide)).tr (hf.mono (by decide) (by decide))
  exact t_X9_layBoth hc hS ⟨p5, p1⟩ p3 hR hkA ⟨by rw [hf.2 46 (by decide)]; exact hsd.1, sC, hw, hl⟩
