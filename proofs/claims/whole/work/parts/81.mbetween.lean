/-! ===== The reference's questions: between ===== -/
set_option maxRecDepth 20000 in
theorem l_X9_changesNothing {d : Nat} {σ υ : Sto} {LF : LFT} {w m k : Int} (hW : WM LF σ) (hm : -1 ≤ m ∧ m < 5) (hw : 0 ≤ w ∧ w < 12) (hk : 0 ≤ k ∧ k ≤ 12) (hf : frM [101, 102, 103, 104, 105] [37, 39] σ υ) :
    ∀ (R : List Int) (τ : Sto) (i l : Int), 0 ≤ i → i + R.length = k → wok R → Seg υ 103 i.toNat R → 0 ≤ l ∧ l ≤ i → pMK υ τ →
    Z (z_me cX9_changesNothing RX9 6 (some .boolean) (d + 6) (qI fun z σ' => pMK υ σ' ∧ yn z (pasM LF σ (finM σ m) w k (l + (cmL (pasM LF σ (finM σ m)) R i l).2.length) = false))) 28 [some (zR 9), some (zI w), some (zI m), some (zI k), some (zI l), some (zI i)] [] τ
  | [], τ, i, l, h0, hl, hx, hs, hc, hK => by
    rw [List.length_nil] at hl
    have hA : frM [101, 102, 103, 104, 105] [37, 39] σ τ := hf.tr (hK.mono (by decide) (by decide))
    refine z_iload dX9_changesNothing_28 rfl ?_
    refine z_iload_n dX9_changesNothing_30 rfl ?_
    refine z_icmp_ge (tgt := 62) dX9_changesNothing_31 (by decide) ⟨by omega, by omega⟩ ⟨by omega, by omega⟩ (fun h31 => ?_) (fun h31 => ?_)
    · skip
      refine z_aload_n dX9_changesNothing_62 rfl ?_
      refine z_iload_n dX9_changesNothing_63 rfl ?_
      refine z_iload_n dX9_changesNothing_64 rfl ?_
      refine z_iload_n dX9_changesNothing_65 rfl ?_
      refine z_iload dX9_changesNothing_66 rfl ?_
      refine z_callVI (d := d + 5) (av := [_, _, _, _]) dX9_changesNothing_68 vX9_271 rfl (Nat.le_of_ble_eq_true rfl) rfl rfl rfl (Nat.le_of_ble_eq_true rfl) (Nat.le_refl _) (c_X9_passes (LF := LF) (hA.wm hW rfl) hw hm (by omega) (by omega)) (fun z68 σ68 h68 => ?_)
      obtain ⟨hps, hfr⟩ := h68
      rw [hA.fi rfl, hA.pm rfl] at hps
      have hr68 : inR z68 := by rcases hps with q | q; rw [q.1]; decide; rw [q.1]; decide
      refine z_if_ne (tgt := 78) dX9_changesNothing_71 (by decide) ⟨by omega, by omega⟩ (fun h71 => ?_) (fun h71 => ?_)
      · skip
        refine z_iconst dX9_changesNothing_78 ?_
        exact z_zret dX9_changesNothing_79 (by omega) (by
          refine ⟨hK.tr hfr, ?_⟩
          rw [show l + (((cmL (pasM LF σ (finM σ m)) [] i l).2.length : Nat) : Int) = l by rw [cmL]; simp]
          rcases hps with q | q
          · first
            | exact Or.inr ⟨rfl, fun v => absurd (v.symm.trans q.2) (by decide)⟩
            | (exfalso; omega)
          · first
            | exact Or.inl ⟨rfl, q.2⟩
            | (exfalso; omega))
      · skip
        refine z_iconst dX9_changesNothing_74 ?_
        refine z_goto (tgt := 79) dX9_changesNothing_75 (by decide) ?_
        exact z_zret dX9_changesNothing_79 (by omega) (by
          refine ⟨hK.tr hfr, ?_⟩
          rw [show l + (((cmL (pasM LF σ (finM σ m)) [] i l).2.length : Nat) : Int) = l by rw [cmL]; simp]
          rcases hps with q | q
          · first
            | exact Or.inr ⟨rfl, fun v => absurd (v.symm.trans q.2) (by decide)⟩
            | (exfalso; omega)
          · first
            | exact Or.inl ⟨rfl, q.2⟩
            | (exfalso; omega))
    · exfalso; omega
  | x :: r, τ, i, l, h0, hl, hx, hs, hc, hK => by
    rw [List.length_cons] at hl
    obtain ⟨hv, hs⟩ := hs
    obtain ⟨hx1, hx⟩ := wok_c hx
    have hA : frM [101, 102, 103, 104, 105] [37, 39] σ τ := hf.tr (hK.mono (by decide) (by decide))
    have ek : τ 103 i.toNat = x := by rw [hK.1 103 (by decide) (by decide)]; exact hv
    refine z_iload dX9_changesNothing_28 rfl ?_
    refine z_iload_n dX9_changesNothing_30 rfl ?_
    refine z_icmp_ge (tgt := 62) dX9_changesNothing_31 (by decide) ⟨by omega, by omega⟩ ⟨by omega, by omega⟩ (fun h31 => ?_) (fun h31 => ?_)
    · exfalso; omega
    · skip
      refine z_aload_n dX9_changesNothing_34 rfl ?_
      refine z_aload_n dX9_changesNothing_35 rfl ?_
      refine z_getR dX9_changesNothing_36 gX9_81 rfl (Nat.le_of_ble_eq_true rfl) rfl ?_
      refine z_iload dX9_changesNothing_39 rfl ?_
      refine z_iald dX9_changesNothing_41 rfl (Nat.le_of_ble_eq_true rfl) (by omega) (fun hr41 => ?_)
      rw [ek]
      refine z_iload_n dX9_changesNothing_42 rfl ?_
      refine z_iload dX9_changesNothing_43 rfl ?_
      refine z_iload dX9_changesNothing_45 rfl ?_
      refine z_callVI (d := d + 5) (av := [_, _, _, _]) dX9_changesNothing_47 vX9_271 rfl (Nat.le_of_ble_eq_true rfl) rfl rfl rfl (Nat.le_of_ble_eq_true rfl) (Nat.le_refl _) (c_X9_passes (LF := LF) (hA.wm hW rfl) hx1 hm (by omega) (by omega)) (fun z47 σ47 h47 => ?_)
      obtain ⟨hps, hfr⟩ := h47
      rw [hA.fi rfl, hA.pm rfl] at hps
      have hr47 : inR z47 := by rcases hps with q | q; rw [q.1]; decide; rw [q.1]; decide
      refine z_if_ne (tgt := 56) dX9_changesNothing_50 (by decide) ⟨by omega, by omega⟩ (fun h50 => ?_) (fun h50 => ?_)
      · skip
        refine z_iinc (L' := [_, _, _, _, _, _]) dX9_changesNothing_56 (Nat.le_of_ble_eq_true rfl) rfl rfl rfl ?_
        refine z_goto (tgt := 28) dX9_changesNothing_59 (by decide) ?_
        rcases hps with ⟨q1, q2⟩ | ⟨q1, q2⟩
        · first
            | exfalso; omega
            | rw [cmL, if_pos q2]; exact l_X9_changesNothing hW hm hw hk hf r _ (i + 1) l (by omega) (by omega) hx (by rw [toN_s h0]; exact hs) (by omega) (hK.tr hfr)
        · first
            | exfalso; omega
            | rw [cmL, if_neg (by rw [q2]; exact Bool.false_ne_true), show l + (((x :: (cmL (pasM LF σ (finM σ m)) r (i + 1) (l + 1)).2).length : Nat) : Int) = l + 1 + ((cmL (pasM LF σ (finM σ m)) r (i + 1) (l + 1)).2.length : Nat) by rw [List.length_cons]; omega]; exact l_X9_changesNothing hW hm hw hk hf r _ (i + 1) (l + 1) (by omega) (by omega) hx (by rw [toN_s h0]; exact hs) (by omega) (hK.tr hfr)
      · skip
        refine z_iinc (L' := [_, _, _, _, _, _]) dX9_changesNothing_53 (Nat.le_of_ble_eq_true rfl) rfl rfl rfl ?_
        refine z_iinc (L' := [_, _, _, _, _, _]) dX9_changesNothing_56 (Nat.le_of_ble_eq_true rfl) rfl rfl rfl ?_
        refine z_goto (tgt := 28) dX9_changesNothing_59 (by decide) ?_
        rcases hps with ⟨q1, q2⟩ | ⟨q1, q2⟩
        · first
            | exfalso; omega
            | rw [cmL, if_pos q2]; exact l_X9_changesNothing hW hm hw hk hf r _ (i + 1) l (by omega) (by omega) hx (by rw [toN_s h0]; exact hs) (by omega) (hK.tr hfr)
        · first
            | exfalso; omega
            | rw [cmL, if_neg (by rw [q2]; exact Bool.false_ne_true), show l + (((x :: (cmL (pasM LF σ (finM σ m)) r (i + 1) (l + 1)).2).length : Nat) : Int) = l + 1 + ((cmL (pasM LF σ (finM σ m)) r (i + 1) (l + 1)).2.length : Nat) by rw [List.length_cons]; omega]; exact l_X9_changesNothing hW hm hw hk hf r _ (i + 1) (l + 1) (by omega) (by omega) hx (by rw [toN_s h0]; exact hs) (by omega) (hK.tr hfr)
/-- the saying laid with a place free at k -/
def sxM (σ : Sto) (X : List Int) (k : Nat) : Prop := σ 9 35 = (X.length : Int) + 1 ∧ ∀ j : Nat, j < X.length → σ 103 (if j < k then j else j + 1) = X.getD j 0
theorem sxM.ins {σ : Sto} {X : List Int} {k : Nat} (h : sxM σ X k) (hk : k ≤ X.length) (hl : X.length ≤ 12) (hx : wok X) {w : Int} (hw : 0 ≤ w ∧ w < 12) : sdM (z_put σ 103 k w) (insL X k w) := by
  have hlen := insL_len (w := w) hk
  refine ⟨?_, Seg.of (fun j hj => ?_), insL_wok hx hw, by omega⟩
  · rw [z_put_ne (by decide), h.1, hlen]; omega
  · rw [insL_getD hk, z_rd, if_pos rfl, Nat.zero_add]
    by_cases c1 : j < k
    · rw [if_neg (by omega), if_pos c1]; have := h.2 j (by omega); rwa [if_pos c1] at this
    · rw [if_neg c1]
      by_cases c2 : j = k
      · rw [if_pos c2, if_pos c2]
      · rw [if_neg c2, if_neg c2]; have := h.2 (j - 1) (by omega); rwa [if_neg (by omega), show j - 1 + 1 = j by omega] at this
set_option maxRecDepth 20000 in
theorem c_X9_changesNothing {d : Nat} {σ : Sto} {LF : LFT} {w m k : Int} {X : List Int} (hW : WM LF σ) (hm : -1 ≤ m ∧ m < 5) (hw : 0 ≤ w ∧ w < 12) (hk : 0 ≤ k ∧ k ≤ X.length) (hl : X.length ≤ 12) (hx : wok X) (hs : sxM σ X k.toNat) (hr : r1M σ (cmL (pasM LF σ (finM σ m)) X 0 0).1) : m_X9_changesNothing d [zR 9, zI w, zI m, zI k] σ (qI fun z σ' => gtK (z_put σ 103 k.toNat w) σ' ∧ yn z (ubC (pasM LF σ (finM σ m)) X k.toNat w = true)) := by
  have hp : frM [103] [] σ (z_put σ 103 k.toNat w) := frM.putA (frM.rf _ _ σ) (by decide) (by decide)
  have hsd := hs.ins (by omega) hl hx hw
  have hil := insL_len (w := w) (show k.toNat ≤ X.length by omega)
  have hiw := insL_wok (k := k.toNat) hx hw
  have hcl := cmL_len (ps := pasM LF σ (finM σ m)) (insL X k.toNat w) 0 0
  have hcw := cmL_wok (ps := pasM LF σ (finM σ m)) (insL X k.toNat w) 0 0 hiw
  refine z_does (L := [some (zR 9), some (zI w), some (zI m), some (zI k), none, none]) rfl (by decide +kernel) (Nat.le_of_ble_eq_true rfl) rfl ?_
  refine z_aload_n dX9_changesNothing_0 rfl ?_
  refine z_getR dX9_changesNothing_1 gX9_81 rfl (Nat.le_of_ble_eq_true rfl) rfl ?_
  refine z_iload_n dX9_changesNothing_4 rfl ?_
  refine z_iload_n dX9_changesNothing_5 rfl ?_
  refine z_iast dX9_changesNothing_6 rfl (Nat.le_of_ble_eq_true rfl) (by omega) ⟨by omega, by omega⟩ ?_
  refine z_aload_n dX9_changesNothing_7 rfl ?_
  refine z_iload_n dX9_changesNothing_8 rfl ?_
  refine z_iconst dX9_changesNothing_9 ?_
  refine z_callVV (d := d + 5) (av := [_, _]) dX9_changesNothing_10 vX9_296 rfl (Nat.le_of_ble_eq_true rfl) rfl rfl rfl (Nat.le_of_ble_eq_true rfl) (Nat.le_refl _) (c_X9_goThrough (LF := LF) (X := insL X k.toNat w) (hp.wm hW rfl) hm (by decide) hsd) (fun σ10 h10 => ?_)
  obtain ⟨hk2, t2, t3, t4, t5⟩ := h10
  rw [show cmM LF (z_put σ 103 k.toNat w) m (insL X k.toNat w) 0 = cmL (pasM LF σ (finM σ m)) (insL X k.toNat w) 0 0 by show cmL (pasM LF (z_put σ 103 k.toNat w) (finM (z_put σ 103 k.toNat w) m)) _ _ _ = _; rw [hp.fi rfl, hp.pm rfl]] at t2 t3 t4 t5
  have hA : frM [101, 102, 103, 104, 105] [37, 39] σ σ10 := (hp.mono (by decide) (by decide)).tr (hk2.mono (by decide) (by decide))
  refine z_aload_n dX9_changesNothing_13 rfl ?_
  refine z_callVI (d := d + 5) (av := []) dX9_changesNothing_14 vX9_375 rfl (Nat.le_of_ble_eq_true rfl) rfl rfl rfl (Nat.le_of_ble_eq_true rfl) (Nat.le_refl _) (c_X9_justComes (A := (cmL (pasM LF σ (finM σ m)) (insL X k.toNat w) 0 0).1) (B := (cmL (pasM LF σ (finM σ m)) X 0 0).1) ⟨t2, t4, hcw.1, by omega⟩ (hr.fr hA (by decide) (by decide))) (fun z14 σ14 h14 => ?_)
  obtain ⟨hs14, hjc⟩ := h14
  subst σ14
  have hr14 : inR z14 := by rcases hjc with q | q; rw [q.1]; decide; rw [q.1]; decide
  refine z_if_ne (tgt := 22) dX9_changesNothing_17 (by decide) ⟨by omega, by omega⟩ (fun h17 => ?_) (fun h17 => ?_)
  · skip
    refine z_iconst dX9_changesNothing_22 ?_
    refine z_istore (L' := [_, _, _, _, _, _]) dX9_changesNothing_23 (Nat.le_of_ble_eq_true rfl) rfl rfl ?_
    refine z_iconst dX9_changesNothing_25 ?_
    refine z_istore (L' := [_, _, _, _, _, _]) dX9_changesNothing_26 (Nat.le_of_ble_eq_true rfl) rfl rfl ?_
    have heq : (cmL (pasM LF σ (finM σ m)) X 0 0).1 = (cmL (pasM LF σ (finM σ m)) (insL X k.toNat w) 0 0).1 := by rcases hjc with q | q; exact q.2.symm; exact absurd q.1 (by omega)
    have hst : Seg σ10 103 0 (X.take k.toNat) := Seg.row (hk2.1 103 (by decide) (by decide)) (Seg.of (fun j hj => by rw [List.length_take] at hj; rw [Nat.zero_add, z_rd, if_pos rfl, if_neg (by omega), List.getD_eq_getElem?_getD, List.getElem?_take, if_pos (by omega), ← List.getD_eq_getElem?_getD]; have := hs.2 j (by omega); rwa [if_pos (by omega)] at this))
    have hh := l_X9_changesNothing (d := d) (σ := σ) (υ := σ10) hW hm hw (k := k) (by omega) hA (X.take k.toNat) σ10 0 0 (by omega) (by rw [List.length_take]; omega) (hx.take _) hst (by omega) (frM.rf _ _ _)
    refine hh.mono ?_
    rintro r σ' ⟨z, q1, q3, q4⟩
    refine ⟨z, q1, hk2.tr (q3.mono (by decide) (by decide)), ?_⟩
    rw [Int.zero_add] at q4
    have eu : ubC (pasM LF σ (finM σ m)) X k.toNat w = !(pasM LF σ (finM σ m) w k ((cmL (pasM LF σ (finM σ m)) (X.take k.toNat) 0 0).2.length : Nat)) := by unfold ubC; rw [decide_eq_true heq, Bool.and_true, show ((k.toNat : Nat) : Int) = k by omega]
    rw [eu, Bool.not_eq_true']
    exact q4
  · skip
    refine z_iconst dX9_changesNothing_20 ?_
    exact z_zret dX9_changesNothing_21 (by omega) (⟨hk2, Or.inr ⟨rfl, fun v => by rcases hjc with q | q; exact absurd q.1 (by omega); unfold ubC at v; rw [Bool.and_eq_true, decide_eq_true_eq] at v; exact q.2 v.2.symm⟩⟩)
set_option maxRecDepth 20000 in
theorem l1_X9_between {d : Nat} {υ : Sto} {s m k e0 : Int} {C : List Int} {Q : Option Value → Sto → Prop} (hC : caM υ C) (hl : C.length ≤ 12)
    (hk : ∀ τ j, frM [107] [] υ τ → Seg τ 107 0 C → Z (z_me cX9_between RX9 7 (some .int) (d + 7) Q) 98 [some (zR 9), some (zI s), some (zI m), some (zI k), some (zI e0), some (zI j), none] [] τ) :
    ∀ (R : List Int) (τ : Sto) (P : List Int) (j : Int), j = P.length → P ++ R = C → frM [107] [] υ τ → Seg τ 107 0 P → Seg υ 104 j.toNat R →
    Z (z_me cX9_between RX9 7 (some .int) (d + 7) Q) 69 [some (zR 9), some (zI s), some (zI m), some (zI k), some (zI e0), some (zI j), none] [] τ
  | [], τ, P, j, hj, hq, hK, sQ, sR => by
    have e37 : τ 9 37 = C.length := by rw [hK.2 37 (by decide)]; exact hC.1
    rw [List.append_nil] at hq
    subst hq
    refine z_iload dX9_between_69 rfl ?_
    refine z_aload_n dX9_between_71 rfl ?_
    refine z_getI dX9_between_72 gX9_280 rfl (Nat.le_of_ble_eq_true rfl) rfl (fun hr72 => ?_)
    refine z_icmp_ge (tgt := 98) dX9_between_75 (by decide) ⟨by omega, by omega⟩ ⟨by omega, by omega⟩ (fun h75 => ?_) (fun h75 => ?_)
    · skip
      exact hk τ j hK sQ
    · exfalso; omega
  | x :: r, τ, P, j, hj, hq, hK, sQ, sR => by
    have e37 : τ 9 37 = C.length := by rw [hK.2 37 (by decide)]; exact hC.1
    have e104 : τ 104 = υ 104 := hK.1 104 (by decide) (by decide)
    obtain ⟨e1, sR⟩ := sR
    have hlen : P.length + (r.length + 1) = C.length := by rw [← hq, List.length_append, List.length_cons]
    have hx : τ 104 j.toNat = x := by rw [e104]; exact e1
    refine z_iload dX9_between_69 rfl ?_
    refine z_aload_n dX9_between_71 rfl ?_
    refine z_getI dX9_between_72 gX9_280 rfl (Nat.le_of_ble_eq_true rfl) rfl (fun hr72 => ?_)
    refine z_icmp_ge (tgt := 98) dX9_between_75 (by decide) ⟨by omega, by omega⟩ ⟨by omega, by omega⟩ (fun h75 => ?_) (fun h75 => ?_)
    · exfalso; omega
    · skip
      refine z_aload_n dX9_between_78 rfl ?_
      refine z_getR dX9_between_79 gX9_94 rfl (Nat.le_of_ble_eq_true rfl) rfl ?_
      refine z_iload dX9_between_82 rfl ?_
      refine z_aload_n dX9_between_84 rfl ?_
      refine z_getR dX9_between_85 gX9_84 rfl (Nat.le_of_ble_eq_true rfl) rfl ?_
      refine z_iload dX9_between_88 rfl ?_
      refine z_iald dX9_between_90 rfl (Nat.le_of_ble_eq_true rfl) (by omega) (fun hr90 => ?_)
      rw [hx]
      refine z_iast dX9_between_91 rfl (Nat.le_of_ble_eq_true rfl) (by omega) ⟨by omega, by omega⟩ ?_
      refine z_iinc (L' := [_, _, _, _, _, _, _]) dX9_between_92 (Nat.le_of_ble_eq_true rfl) rfl rfl rfl ?_
      refine z_goto (tgt := 69) dX9_between_95 (by decide) ?_
      exact l1_X9_between hC hl hk r _ (P ++ [x]) (j + 1) (by rw [List.length_append]; simp only [List.length_cons, List.length_nil]; omega) (by rw [List.append_assoc]; exact hq) (frM.putA hK (by decide) (by decide)) (by rw [show j.toNat = P.length by omega]; exact Seg.put sQ) (by rw [toN_s (by omega)]; exact sR)
set_option maxRecDepth 20000 in
theorem l2_X9_between {d : Nat} {υ : Sto} {s m k e0 : Int} {X : List Int} {Q : Option Value → Sto → Prop} (hk0 : 0 ≤ k ∧ k ≤ X.length) (hl : X.length ≤ 12)
    (hk : ∀ τ i, frM [103] [] υ τ → (∀ j : Nat, j < X.length → τ 103 (if j < k.toNat then j else j + 1) = X.getD j 0) → Z (z_me cX9_between RX9 7 (some .int) (d + 7) Q) 132 [some (zR 9), some (zI s), some (zI m), some (zI k), some (zI e0), some (zI i), none] [] τ) :
    ∀ (n : Nat) (τ : Sto) (i : Int), i = k + n → i ≤ X.length → frM [103] [] υ τ → (∀ j : Nat, j < X.length → τ 103 (if j < i.toNat then j else j + 1) = X.getD j 0) →
    Z (z_me cX9_between RX9 7 (some .int) (d + 7) Q) 104 [some (zR 9), some (zI s), some (zI m), some (zI k), some (zI e0), some (zI i), none] [] τ
  | 0, τ, i, hn, hi, hK, hI => by
    obtain rfl : i = k := by omega
    refine z_iload dX9_between_104 rfl ?_
    refine z_iload_n dX9_between_106 rfl ?_
    refine z_icmp_le (tgt := 132) dX9_between_107 (by decide) ⟨by omega, by omega⟩ ⟨by omega, by omega⟩ (fun h107 => ?_) (fun h107 => ?_)
    · skip
      exact hk τ i hK hI
    · exfalso; omega
  | n + 1, τ, i, hn, hi, hK, hI => by
    have hx : τ 103 (i - 1).toNat = X.getD (i - 1).toNat 0 := by have := hI (i - 1).toNat (by omega); rwa [if_pos (by omega)] at this
    refine z_iload dX9_between_104 rfl ?_
    refine z_iload_n dX9_between_106 rfl ?_
    refine z_icmp_le (tgt := 132) dX9_between_107 (by decide) ⟨by omega, by omega⟩ ⟨by omega, by omega⟩ (fun h107 => ?_) (fun h107 => ?_)
    · exfalso; omega
    · skip
      refine z_aload_n dX9_between_110 rfl ?_
      refine z_getR dX9_between_111 gX9_81 rfl (Nat.le_of_ble_eq_true rfl) rfl ?_
      refine z_iload dX9_between_114 rfl ?_
      refine z_aload_n dX9_between_116 rfl ?_
      refine z_getR dX9_between_117 gX9_81 rfl (Nat.le_of_ble_eq_true rfl) rfl ?_
      refine z_iload dX9_between_120 rfl ?_
      refine z_iconst dX9_between_122 ?_
      refine z_isub dX9_between_123 ?_
      refine z_iald dX9_between_124 rfl (Nat.le_of_ble_eq_true rfl) (by omega) (fun hr124 => ?_)
      rw [hx]
      refine z_iast dX9_between_125 rfl (Nat.le_of_ble_eq_true rfl) (by omega) ⟨by omega, by omega⟩ ?_
      refine z_iinc (L' := [_, _, _, _, _, _, _]) dX9_between_126 (Nat.le_of_ble_eq_true rfl) rfl rfl rfl ?_
      refine z_goto (tgt := 104) dX9_between_129 (by decide) ?_
      refine l2_X9_between hk0 hl hk n _ (i + -1) (by omega) (by omega) (frM.putA hK (by decide) (by decide)) (fun j hj => ?_)
      rw [z_rd, if_pos rfl]
      by_cases c1 : j < (i + -1).toNat
      · rw [if_pos c1, if_neg (by omega)]; have := hI j hj; rwa [if_pos (by omega)] at this
      · rw [if_neg c1]
        by_cases c2 : j + 1 = i.toNat
        · rw [if_pos c2, show (i - 1).toNat = j by omega]
        · rw [if_neg c2]; have := hI j hj; rwa [if_neg (by omega)] at this
set_option maxRecDepth 20000 in
theorem l3_X9_between {d : Nat} {σ : Sto} {LF : LFT} {s m k e0 : Int} {X : List Int} (hW : WM LF σ) (hm : -1 ≤ m ∧ m < 5) (hk : 0 ≤ k ∧ k ≤ X.length) (hl : X.length ≤ 12) (hx : wok X) :
    ∀ (n : Nat) (τ : Sto) (w bits : Int), 0 ≤ w → w + n = σ 9 1 → inR bits → KM σ τ → sxM τ X k.toNat → r1M τ (cmL (pasM LF σ (finM σ m)) X 0 0).1 →
    Z (z_me cX9_between RX9 7 (some .int) (d + 7) (qI fun z σ' => z = bitL (ubC (pasM LF σ (finM σ m)) X k.toNat) n w bits ∧ KM σ σ')) 148 [some (zR 9), some (zI s), some (zI m), some (zI k), some (zI e0), some (zI bits), some (zI w)] [] τ
  | 0, τ, w, bits, h0, hn, hb, hK, hS, hR => by
    have e1 : τ 9 1 = σ 9 1 := hK.2 1 (by decide)
    have w1 := hW.1
    refine z_iload dX9_between_148 rfl ?_
    refine z_aload_n dX9_between_150 rfl ?_
    refine z_getI dX9_between_151 gX9_140 rfl (Nat.le_of_ble_eq_true rfl) rfl (fun hr151 => ?_)
    refine z_icmp_ge (tgt := 183) dX9_between_154 (by decide) ⟨by omega, by omega⟩ ⟨by omega, by omega⟩ (fun h154 => ?_) (fun h154 => ?_)
    · skip
      refine z_iload dX9_between_183 rfl ?_
      exact z_iret dX9_between_185 ⟨rfl, hK⟩
    · exfalso; omega
  | n + 1, τ, w, bits, h0, hn, hb, hK, hS, hR => by
    have e1 : τ 9 1 = σ 9 1 := hK.2 1 (by decide)
    have w1 := hW.1
    refine z_iload dX9_between_148 rfl ?_
    refine z_aload_n dX9_between_150 rfl ?_
    refine z_getI dX9_between_151 gX9_140 rfl (Nat.le_of_ble_eq_true rfl) rfl (fun hr151 => ?_)
    refine z_icmp_ge (tgt := 183) dX9_between_154 (by decide) ⟨by omega, by omega⟩ ⟨by omega, by omega⟩ (fun h154 => ?_) (fun h154 => ?_)
    · exfalso; omega
    · skip
      refine z_aload_n dX9_between_157 rfl ?_
      refine z_iload dX9_between_158 rfl ?_
      refine z_iload_n dX9_between_160 rfl ?_
      refine z_iload_n dX9_between_161 rfl ?_
      refine z_callVI (d := d + 6) (av := [_, _, _]) dX9_between_162 vX9_378 rfl (Nat.le_of_ble_eq_true rfl) rfl rfl rfl (Nat.le_of_ble_eq_true rfl) (Nat.le_refl _) (c_X9_changesNothing (LF := LF) (X := X) (hK.wm hW rfl) hm (by omega) hk hl hx hS (by rw [hK.fi rfl, hK.pm rfl]; exact hR)) (fun z162 σ162 h162 => ?_)
      obtain ⟨hfr, hz⟩ := h162
      rw [hK.fi rfl, hK.pm rfl] at hz
      have hr162 : inR z162 := by rcases hz with q | q; rw [q.1]; decide; rw [q.1]; decide
      have hK2 : KM σ σ162 := (frM.putA hK (by decide) (by decide)).tr (hfr.mono (by decide) (by decide))
      have e103 : σ162 103 = z_put τ 103 k.toNat w 103 := hfr.1 103 (by decide) (by decide)
      have hS2 : sxM σ162 X k.toNat := ⟨by rw [hfr.2 35 (by decide)]; exact hS.1, fun j hj => by rw [e103, z_rd, if_pos rfl, if_neg (by split <;> omega)]; exact hS.2 j hj⟩
      have hR2 : r1M σ162 (cmL (pasM LF σ (finM σ m)) X 0 0).1 := ⟨by rw [hfr.2 43 (by decide)]; exact hR.1, Seg.row (by rw [hfr.1 107 (by decide) (by decide), z_put_ne (by decide)]) hR.2.1, hR.2.2⟩
      refine z_if_eq (tgt := 177) dX9_between_165 (by decide) ⟨by omega, by omega⟩ (fun h165 => ?_) (fun h165 => ?_)
      · skip
        refine z_iinc (L' := [_, _, _, _, _, _, _]) dX9_between_177 (Nat.le_of_ble_eq_true rfl) rfl rfl rfl ?_
        refine z_goto (tgt := 148) dX9_between_180 (by decide) ?_
        rw [bitL]
        cases hq : ubC (pasM LF σ (finM σ m)) X k.toNat w
        · rw [hq] at hz
          first
            | (exfalso; rcases hz with q | q; exact absurd q.2 (by decide); exact absurd q.1 (by omega))
            | exact l3_X9_between hW hm hk hl hx n _ (w + 1) _ (by omega) (by omega) hb hK2 hS2 hR2
        · rw [hq] at hz
          first
            | (exfalso; rcases hz with q | q; exact absurd q.1 (by omega); exact q.2 rfl)
            | exact l3_X9_between hW hm hk hl hx n _ (w + 1) _ (by omega) (by omega) ior_R hK2 hS2 hR2
      · skip
        refine z_iload dX9_between_168 rfl ?_
        refine z_iconst dX9_between_170 ?_
        refine z_iload dX9_between_171 rfl ?_
        refine z_ishl dX9_between_173 ?_
        refine z_ior dX9_between_174 ?_
        refine z_istore (L' := [_, _, _, _, _, _, _]) dX9_between_175 (Nat.le_of_ble_eq_true rfl) rfl rfl ?_
        refine z_iinc (L' := [_, _, _, _, _, _, _]) dX9_between_177 (Nat.le_of_ble_eq_true rfl) rfl rfl rfl ?_
        refine z_goto (tgt := 148) dX9_between_180 (by decide) ?_
        rw [bitL]
        cases hq : ubC (pasM LF σ (finM σ m)) X k.toNat w
        · rw [hq] at hz
          first
            | (exfalso; rcases hz with q | q; exact absurd q.2 (by decide); exact absurd q.1 (by omega))
            | exact l3_X9_between hW hm hk hl hx n _ (w + 1) _ (by omega) (by omega) hb hK2 hS2 hR2
        · rw [hq] at hz
          first
            | (exfalso; rcases hz with q | q; exact absurd q.1 (by omega); exact q.2 rfl)
            | exact l3_X9_between hW hm hk hl hx n _ (w + 1) _ (by omega) (by omega) ior_R hK2 hS2 hR2
set_option maxRecDepth 20000 in
theorem t2_X9_between {d : Nat} {σ τ : Sto} {LF : LFT} {s m k e0 j V : Int} (hW : WM LF σ) (hm : -1 ≤ m ∧ m < 5) (hk : 0 ≤ k ∧ k ≤ (SYM σ s).length) (hK : KM σ τ) (e35 : τ 9 35 = (SYM σ s).length) (hR : r1M τ (SYMx LF σ s m 0).1) (hS : ∀ j : Nat, j < (SYM σ s).length → τ 103 (if j < k.toNat then j else j + 1) = (SYM σ s).getD j 0) (hV : V = bitL (ubC (pasM LF σ (finM σ m)) (SYM σ s) k.toNat) (σ 9 1).toNat 0 0) :
    Z (z_me cX9_between RX9 7 (some .int) (d + 7) (qI fun z σ' => z = V ∧ KM σ σ')) 132 [some (zR 9), some (zI s), some (zI m), some (zI k), some (zI e0), some (zI j), none] [] τ := by
  have w1 := hW.1
  have hxl := SYM_len (σ := σ) (s := s)
  have hxw := SYM_wok (σ := σ) (s := s) w1.2
  refine z_aload_n dX9_between_132 rfl ?_
  refine z_dup dX9_between_133 rfl ?_
  refine z_getI dX9_between_134 gX9_274 rfl (Nat.le_of_ble_eq_true rfl) rfl (fun hr134 => ?_)
  rw [e35]
  refine z_iconst dX9_between_137 ?_
  refine z_iadd dX9_between_138 ?_
  refine z_putI dX9_between_139 pX9_274 rfl (Nat.le_of_ble_eq_true rfl) rfl ⟨by omega, by omega⟩ ?_
  refine z_iconst dX9_between_142 ?_
  refine z_istore (L' := [_, _, _, _, _, _, _]) dX9_between_143 (Nat.le_of_ble_eq_true rfl) rfl rfl ?_
  refine z_iconst dX9_between_145 ?_
  refine z_istore (L' := [_, _, _, _, _, _, _]) dX9_between_146 (Nat.le_of_ble_eq_true rfl) rfl rfl ?_
  rw [hV]
  refine l3_X9_between hW hm hk hxl hxw (σ 9 1).toNat _ 0 0 (by omega) (by omega) ⟨by decide, by decide⟩ (frM.putF hK (by decide)) ⟨rfl, fun j hj => by rw [z_put_ne (by decide)]; exact hS j hj⟩ ⟨hR.1, Seg.row (z_put_ne (by decide)) hR.2.1, hR.2.2⟩
set_option maxRecDepth 20000 in
theorem t_X9_between {d : Nat} {σ τ : Sto} {LF : LFT} {s m k e0 j V : Int} (hW : WM LF σ) (hm : -1 ≤ m ∧ m < 5) (hk : 0 ≤ k ∧ k ≤ (SYM σ s).length) (hK : KM σ τ) (e35 : τ 9 35 = (SYM σ s).length) (hR : r1M τ (SYMx LF σ s m 0).1) (hS : Seg τ 103 0 (SYM σ s)) (hV : V = bitL (ubC (pasM LF σ (finM σ m)) (SYM σ s) k.toNat) (σ 9 1).toNat 0 0) :
    Z (z_me cX9_between RX9 7 (some .int) (d + 7) (qI fun z σ' => z = V ∧ KM σ σ')) 98 [some (zR 9), some (zI s), some (zI m), some (zI k), some (zI e0), some (zI j), none] [] τ := by
  have w1 := hW.1
  have hxl := SYM_len (σ := σ) (s := s)
  have hxw := SYM_wok (σ := σ) (s := s) w1.2
  refine z_aload_n dX9_between_98 rfl ?_
  refine z_getI dX9_between_99 gX9_274 rfl (Nat.le_of_ble_eq_true rfl) rfl (fun hr99 => ?_)
  rw [e35]
  refine z_istore (L' := [_, _, _, _, _, _, _]) dX9_between_102 (Nat.le_of_ble_eq_true rfl) rfl rfl ?_
  refine l2_X9_between (υ := τ) (X := SYM σ s) hk hxl (fun τ1 i1 g1 g2 => ?_) ((SYM σ s).length - k.toNat) τ (SYM σ s).length (by omega) (by omega) (frM.rf _ _ _) (fun j hj => by rw [if_pos (by omega)]; have := Seg.getD hS hj; rwa [Nat.zero_add] at this)
  have hk2 : KM σ τ1 := hK.tr (g1.mono (by decide) (by decide))
  have e35b : τ1 9 35 = (SYM σ s).length := by rw [g1.2 35 (by decide)]; exact e35
  exact t2_X9_between hW hm hk hk2 e35b (hR.fr g1 (by decide) (by decide)) g2 hV
set_option maxRecDepth 20000 in
theorem c_X9_between {d : Nat} {σ : Sto} {LF : LFT} {s m k : Int} (hW : WM LF σ) (hS : SM σ) (hs : inR s) (hm : inR m) (hkk : inR k) : m_X9_between d [zR 9, zI s, zI m, zI k] σ (qI fun z σ' => z = btG (hrM σ s m) (pasM LF σ (finM σ m)) (σ 9 1).toNat (SYM σ s) k ∧ KM σ σ') := by
  have w1 := hW.1
  have w7 := hW.2.1
  have hxl := SYM_len (σ := σ) (s := s)
  have hxw := SYM_wok (σ := σ) (s := s) w1.2
  refine z_does (L := [some (zR 9), some (zI s), some (zI m), some (zI k), none, none, none]) rfl (by decide +kernel) (Nat.le_of_ble_eq_true rfl) rfl ?_
  refine z_iload_n dX9_between_0 rfl ?_
  refine z_callSI (d := d + 6) (av := [_]) dX9_between_1 sX9_154 rfl rfl (Nat.le_of_ble_eq_true rfl) (Nat.le_refl _) (c_X9_isShelf (by omega)) (fun z1 σ1 h1 => ?_)
  obtain ⟨hs1, h1⟩ := h1
  subst σ1
  refine z_if_eq (tgt := 19) dX9_between_4 (by decide) ⟨by omega, by omega⟩ (fun h4 => ?_) (fun h4 => ?_)
  · skip
    refine z_iconst dX9_between_19 ?_
    exact z_iret dX9_between_20 (by
      refine ⟨?_, frM.rf _ _ σ⟩
      unfold btG
      by_cases q : k < 0
      · rw [if_pos q]
      · have e : hrM σ s m = -1 := by unfold hrM; rw [if_pos (by omega)]
        rw [if_neg q, e]; rfl)
  · skip
    refine z_aload_n dX9_between_7 rfl ?_
    refine z_iload_n dX9_between_8 rfl ?_
    refine z_callVI (d := d + 6) (av := [_]) dX9_between_9 vX9_286 rfl (Nat.le_of_ble_eq_true rfl) rfl rfl rfl (Nat.le_of_ble_eq_true rfl) (Nat.le_refl _) (c_X9_isMeshOrNone (by omega) (by omega)) (fun z9 σ9 h9 => ?_)
    obtain ⟨hs9, h9⟩ := h9
    subst σ9
    refine z_if_eq (tgt := 19) dX9_between_12 (by decide) ⟨by omega, by omega⟩ (fun h12 => ?_) (fun h12 => ?_)
    · skip
      refine z_iconst dX9_between_19 ?_
      exact z_iret dX9_between_20 (by
        refine ⟨?_, frM.rf _ _ σ⟩
        unfold btG
        by_cases q : k < 0
        · rw [if_pos q]
        · have e : hrM σ s m = -1 := by unfold hrM; rw [if_pos (by omega)]
          rw [if_neg q, e]; rfl)
    · skip
      refine z_iload_n dX9_between_15 rfl ?_
      refine z_if_ge (tgt := 21) dX9_between_16 (by decide) ⟨by omega, by omega⟩ (fun h16 => ?_) (fun h16 => ?_)
      · skip
        refine z_aload_n dX9_between_21 rfl ?_
        refine z_iload_n dX9_between_22 rfl ?_
        refine z_callVI (d := d + 6) (av := [_]) dX9_between_23 vX9_289 rfl (Nat.le_of_ble_eq_true rfl) rfl rfl rfl (Nat.le_of_ble_eq_true rfl) (Nat.le_refl _) (c_X9_rowFault hS (by omega)) (fun z23 σ23 h23 => ?_)
        obtain ⟨hz, hs23⟩ := h23
        subst σ23
        obtain ⟨ehr, hz3⟩ := rf_M (m := m) (by omega) (by omega) hz
        have hr23 : inR z23 := by rcases hz3 with q | q | q <;> omega
        refine z_istore (L' := [_, _, _, _, _, _, _]) dX9_between_26 (Nat.le_of_ble_eq_true rfl) rfl rfl ?_
        refine z_iload dX9_between_28 rfl ?_
        refine z_if_ge (tgt := 36) dX9_between_30 (by decide) ⟨by omega, by omega⟩ (fun h30 => ?_) (fun h30 => ?_)
        · skip
          have hz4 : z23 = 0 ∧ σ 117 s.toNat = -2 := by rcases hz3 with q | q | q; omega; exact q; omega
          refine z_aload_n dX9_between_36 rfl ?_
          refine z_iload_n dX9_between_37 rfl ?_
          refine z_callVV (d := d + 6) (av := [_]) dX9_between_38 vX9_292 rfl (Nat.le_of_ble_eq_true rfl) rfl rfl rfl (Nat.le_of_ble_eq_true rfl) (Nat.le_refl _) (c_X9_laySaying w1 hS (by omega) hz4.2) (fun σ38 h38 => ?_)
          obtain ⟨hk1, hsd⟩ := h38
          have e35 : σ38 9 35 = _ := hsd.1
          refine z_aload_n dX9_between_41 rfl ?_
          refine z_getI dX9_between_42 gX9_274 rfl (Nat.le_of_ble_eq_true rfl) rfl (fun hr42 => ?_)
          refine z_iload_n dX9_between_45 rfl ?_
          refine z_icmp_ge (tgt := 52) dX9_between_46 (by decide) ⟨by omega, by omega⟩ ⟨by omega, by omega⟩ (fun h46 => ?_) (fun h46 => ?_)
          · skip
            refine z_aload_n dX9_between_52 rfl ?_
            refine z_iload_n dX9_between_53 rfl ?_
            refine z_iconst dX9_between_54 ?_
            refine z_callVV (d := d + 6) (av := [_, _]) dX9_between_55 vX9_296 rfl (Nat.le_of_ble_eq_true rfl) rfl rfl rfl (Nat.le_of_ble_eq_true rfl) (Nat.le_refl _) (c_X9_goThrough (LF := LF) (X := SYM σ s) (hk1.wm hW rfl) (by omega) (by decide) hsd) (fun σ55 h55 => ?_)
            obtain ⟨hk2, t2, t3, t4, t5⟩ := h55
            obtain ⟨hkA, hca, -, hsd2, hW2⟩ := thr_M hW hk1 hsd hk2 t2 t3 t4 t5
            have hcl := cmL_len (ps := pasM LF σ (finM σ m)) (SYM σ s) 0 0
            refine z_aload_n dX9_between_58 rfl ?_
            refine z_aload_n dX9_between_59 rfl ?_
            refine z_getI dX9_between_60 gX9_280 rfl (Nat.le_of_ble_eq_true rfl) rfl (fun hr60 => ?_)
            refine z_putI dX9_between_63 pX9_315 rfl (Nat.le_of_ble_eq_true rfl) rfl ⟨by omega, by omega⟩ ?_
            refine z_iconst dX9_between_66 ?_
            refine z_istore (L' := [_, _, _, _, _, _, _]) dX9_between_67 (Nat.le_of_ble_eq_true rfl) rfl rfl ?_
            refine l1_X9_between (υ := z_put σ55 9 43 (σ55 9 37)) (C := (SYMx LF σ s m 0).1) ⟨hca.1, Seg.row (z_put_ne (by decide)) hca.2.1, hca.2.2⟩ (by show (cmL _ _ _ _).1.length ≤ 12; omega) (fun τ1 j1 g1 g2 => ?_) (SYMx LF σ s m 0).1 _ [] 0 rfl rfl (frM.rf _ _ _) trivial (Seg.row (z_put_ne (by decide)) hca.2.1)
            have hk3 : KM σ τ1 := (frM.putF hkA (by decide)).tr (g1.mono (by decide) (by decide))
            have e35b : τ1 9 35 = (SYM σ s).length := by rw [g1.2 35 (by decide)]; exact hsd2.1
            have hr1 : r1M τ1 (SYMx LF σ s m 0).1 := ⟨by rw [g1.2 43 (by decide)]; exact hca.1, g2, hca.2.2.1, by show (cmL _ _ _ _).1.length ≤ 12; omega⟩
            have hs1 : Seg τ1 103 0 (SYM σ s) := Seg.row (by rw [g1.1 103 (by decide) (by decide), z_put_ne (by decide)]) hsd2.2.1
            exact t_X9_between hW (by omega) (by omega) hk3 e35b hr1 hs1 (by unfold btG; rw [if_neg (by omega), if_neg (by omega), if_neg (by omega)])
          · skip
            refine z_bipush (v := -2) dX9_between_49 (by decide +kernel) ?_
            exact z_iret dX9_between_51 (⟨by unfold btG; rw [if_neg (by omega), if_neg (by omega), if_pos (by omega)], hk1.mono (by decide) (by decide)⟩)
        · skip
          refine z_iload dX9_between_33 rfl ?_
          exact z_iret dX9_between_35 (⟨by unfold btG; rw [if_neg (by omega), if_pos (by omega)]; exact ehr.symm, frM.rf _ _ σ⟩)
      · skip
        refine z_iconst dX9_between_19 ?_
        exact z_iret dX9_between_20 (by
          refine ⟨?_, frM.rf _ _ σ⟩
          unfold btG
          by_cases q : k < 0
          · rw [if_pos q]
          · have e : hrM σ s m = -1 := by unfold hrM; rw [if_pos (by omega)]
            rw [if_neg q, e]; rfl)
