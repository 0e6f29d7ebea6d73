/-! ===== The reference's questions: howFine ===== -/
abbrev gfK : Sto → Sto → Prop := frM [101, 102, 104] [37, 39]
set_option maxRecDepth 20000 in
set_option maxHeartbeats 1000000 in
theorem l_X9_goFine {d : Nat} {σ : Sto} {LF : LFT} {f : Int} (hW : WM LF σ) (hf : 0 ≤ f ∧ f ≤ 9) (n : Int) (hn : n ≤ 13) (h35 : σ 9 35 = n) :
    ∀ (xs : List Int) (τ : Sto) (A : List Int) (b : Nat) (p : Int), 0 ≤ p → p + xs.length = n → wok xs → Seg σ 103 p.toNat xs → gfK σ τ → τ 9 37 = A.length → τ 9 39 = b → ((A.length : Int) + b = p) → Seg τ 104 0 A →
    Z (z_me cX9_goFine RX9 3 none (d + 4) (qV fun σ' => gfK σ σ' ∧ σ' 9 37 = ((A ++ (cmL (pasM LF σ f) xs p b).1).length : Int) ∧ Seg σ' 104 0 (A ++ (cmL (pasM LF σ f) xs p b).1))) 12 [some (zR 9), some (zI f), some (zI p)] [] τ
  | [], τ, A, b, p, hp, hpn, hx, hs, hK, hA, hB, hAB, sA => by
    have e35 : τ 9 35 = σ 9 35 := hK.2 35 (by decide)
    rw [List.length_nil] at hpn
    refine z_iload_n dX9_goFine_12 rfl ?_
    refine z_aload_n dX9_goFine_13 rfl ?_
    refine z_getI dX9_goFine_14 gX9_274 rfl (Nat.le_of_ble_eq_true rfl) rfl (fun hr14 => ?_)
    refine z_icmp_ge (tgt := 83) dX9_goFine_17 (by decide) ⟨by omega, by omega⟩ ⟨by omega, by omega⟩ (fun h17 => ?_) (fun h17 => ?_)
    · skip
      exact z_vret dX9_goFine_83 ⟨hK, by simpa [cmL] using hA, by simpa [cmL] using sA⟩
    · exfalso; omega
  | w :: r, τ, A, b, p, hp, hpn, hx, hs, hK, hA, hB, hAB, sA => by
    have e35 : τ 9 35 = σ 9 35 := hK.2 35 (by decide)
    rw [List.length_cons] at hpn
    obtain ⟨hw, hx⟩ := wok_c hx
    obtain ⟨hv, hs⟩ := hs
    have e103 : τ 103 = σ 103 := hK.1 103 (by decide) (by decide)
    have ek : τ 103 p.toNat = w := by rw [e103]; exact hv
    refine z_iload_n dX9_goFine_12 rfl ?_
    refine z_aload_n dX9_goFine_13 rfl ?_
    refine z_getI dX9_goFine_14 gX9_274 rfl (Nat.le_of_ble_eq_true rfl) rfl (fun hr14 => ?_)
    refine z_icmp_ge (tgt := 83) dX9_goFine_17 (by decide) ⟨by omega, by omega⟩ ⟨by omega, by omega⟩ (fun h17 => ?_) (fun h17 => ?_)
    · exfalso; omega
    · skip
      refine z_aload_n dX9_goFine_20 rfl ?_
      refine z_aload_n dX9_goFine_21 rfl ?_
      refine z_getR dX9_goFine_22 gX9_81 rfl (Nat.le_of_ble_eq_true rfl) rfl ?_
      refine z_iload_n dX9_goFine_25 rfl ?_
      refine z_iald dX9_goFine_26 rfl (Nat.le_of_ble_eq_true rfl) (by omega) (fun hr26 => ?_)
      rw [ek]
      refine z_iload_n dX9_goFine_27 rfl ?_
      refine z_iload_n dX9_goFine_28 rfl ?_
      refine z_aload_n dX9_goFine_29 rfl ?_
      refine z_getI dX9_goFine_30 gX9_283 rfl (Nat.le_of_ble_eq_true rfl) rfl (fun hr30 => ?_)
      rw [hB]
      refine z_callVI (d := d + 3) (av := [_, _, _, _]) dX9_goFine_33 vX9_267 rfl (Nat.le_of_ble_eq_true rfl) rfl rfl rfl (Nat.le_of_ble_eq_true rfl) (Nat.le_refl _) (c_X9_passesBy (LF := LF) (hK.wm hW rfl) hw hf (by omega) (by omega)) (fun z33 σ33 h33 => ?_)
      obtain ⟨hps, hfr⟩ := h33
      rw [hK.pm rfl] at hps
      have g37 : σ33 9 37 = A.length := by rw [hfr.2 37 (by decide)]; exact hA
      have g39 : σ33 9 39 = b := by rw [hfr.2 39 (by decide)]; exact hB
      have g104 : σ33 104 = τ 104 := hfr.1 104 (by decide) (by decide)
      have g103 : σ33 103 p.toNat = w := by rw [hfr.1 103 (by decide) (by decide)]; exact ek
      have hK2 : gfK σ σ33 := hK.tr (hfr.mono (by decide) (by decide))
      refine z_if_eq (tgt := 67) dX9_goFine_36 (by decide) ⟨by omega, by omega⟩ (fun h36 => ?_) (fun h36 => ?_)
      · skip
        refine z_aload_n dX9_goFine_67 rfl ?_
        refine z_dup dX9_goFine_68 rfl ?_
        refine z_getI dX9_goFine_69 gX9_283 rfl (Nat.le_of_ble_eq_true rfl) rfl (fun hr69 => ?_)
        refine z_iconst dX9_goFine_72 ?_
        refine z_iadd dX9_goFine_73 ?_
        refine z_putI dX9_goFine_74 pX9_283 rfl (Nat.le_of_ble_eq_true rfl) rfl ⟨by omega, by omega⟩ ?_
        refine z_iinc (L' := [_, _, _]) dX9_goFine_77 (Nat.le_of_ble_eq_true rfl) rfl rfl rfl ?_
        refine z_goto (tgt := 12) dX9_goFine_80 (by decide) ?_
        rcases hps with ⟨hz, hps⟩ | ⟨hz, hps⟩
        · first
            | exfalso; omega
            | rw [cmL, if_pos hps]
              refine Z.mono (l_X9_goFine hW hf n hn h35 r _ (A ++ [w]) b (p + 1) (by omega) (by omega) hx (by rw [toN_s hp]; exact hs) (frM.putF (frM.putA hK2 (by decide) (by decide)) (by decide)) ?_ ?_ (by rw [List.length_append]; simp only [List.length_cons, List.length_nil]; omega) ?_) ?_
              · simp only [z_rd, ↓reduceIte, eq_self, List.length_append, List.length_cons, List.length_nil]; omega
              · simp only [z_rd, Nat.reduceEqDiff, ↓reduceIte, eq_self, g39]
              · rw [g37, show ((A.length : Int)).toNat = A.length by omega]; exact Seg.row (z_put_ne (by decide)) (Seg.put (Seg.row g104 sA))
              · rintro r2 σ' ⟨hr2, q1, q2, q3⟩
                simp only [List.append_assoc, List.cons_append, List.nil_append] at q2 q3
                exact ⟨hr2, q1, q2, q3⟩
        · first
            | exfalso; omega
            | rw [cmL, if_neg (by rw [hps]; exact Bool.false_ne_true)]
              refine Z.mono (l_X9_goFine hW hf n hn h35 r _ A (b + 1) (p + 1) (by omega) (by omega) hx (by rw [toN_s hp]; exact hs) (frM.putF hK2 (by decide)) ?_ ?_ (by omega) ?_) ?_
              · simp only [z_rd, Nat.reduceEqDiff, ↓reduceIte, eq_self, g37]
              · simp only [z_rd, ↓reduceIte, eq_self]; omega
              · exact Seg.row (by rw [z_put_ne (by decide)]; exact g104) sA
              · rintro r2 σ' ⟨hr2, q1, q2, q3⟩
                exact ⟨hr2, q1, q2, q3⟩
      · skip
        refine z_aload_n dX9_goFine_39 rfl ?_
        refine z_getR dX9_goFine_40 gX9_84 rfl (Nat.le_of_ble_eq_true rfl) rfl ?_
        refine z_aload_n dX9_goFine_43 rfl ?_
        refine z_getI dX9_goFine_44 gX9_280 rfl (Nat.le_of_ble_eq_true rfl) rfl (fun hr44 => ?_)
        refine z_aload_n dX9_goFine_47 rfl ?_
        refine z_getR dX9_goFine_48 gX9_81 rfl (Nat.le_of_ble_eq_true rfl) rfl ?_
        refine z_iload_n dX9_goFine_51 rfl ?_
        refine z_iald dX9_goFine_52 rfl (Nat.le_of_ble_eq_true rfl) (by omega) (fun hr52 => ?_)
        rw [g103]
        refine z_iast dX9_goFine_53 rfl (Nat.le_of_ble_eq_true rfl) (by omega) ⟨by omega, by omega⟩ ?_
        refine z_aload_n dX9_goFine_54 rfl ?_
        refine z_dup dX9_goFine_55 rfl ?_
        refine z_getI dX9_goFine_56 gX9_280 rfl (Nat.le_of_ble_eq_true rfl) rfl (fun hr56 => ?_)
        try simp only [z_rd, Nat.reduceEqDiff, ↓reduceIte, eq_self] at hr56 ⊢
        refine z_iconst dX9_goFine_59 ?_
        refine z_iadd dX9_goFine_60 ?_
        refine z_putI dX9_goFine_61 pX9_280 rfl (Nat.le_of_ble_eq_true rfl) rfl ⟨by omega, by omega⟩ ?_
        refine z_goto (tgt := 77) dX9_goFine_64 (by decide) ?_
        refine z_iinc (L' := [_, _, _]) dX9_goFine_77 (Nat.le_of_ble_eq_true rfl) rfl rfl rfl ?_
        refine z_goto (tgt := 12) dX9_goFine_80 (by decide) ?_
        rcases hps with ⟨hz, hps⟩ | ⟨hz, hps⟩
        · first
            | exfalso; omega
            | rw [cmL, if_pos hps]
              refine Z.mono (l_X9_goFine hW hf n hn h35 r _ (A ++ [w]) b (p + 1) (by omega) (by omega) hx (by rw [toN_s hp]; exact hs) (frM.putF (frM.putA hK2 (by decide) (by decide)) (by decide)) ?_ ?_ (by rw [List.length_append]; simp only [List.length_cons, List.length_nil]; omega) ?_) ?_
              · simp only [z_rd, ↓reduceIte, eq_self, List.length_append, List.length_cons, List.length_nil]; omega
              · simp only [z_rd, Nat.reduceEqDiff, ↓reduceIte, eq_self, g39]
              · rw [g37, show ((A.length : Int)).toNat = A.length by omega]; exact Seg.row (z_put_ne (by decide)) (Seg.put (Seg.row g104 sA))
              · rintro r2 σ' ⟨hr2, q1, q2, q3⟩
                simp only [List.append_assoc, List.cons_append, List.nil_append] at q2 q3
                exact ⟨hr2, q1, q2, q3⟩
        · first
            | exfalso; omega
            | rw [cmL, if_neg (by rw [hps]; exact Bool.false_ne_true)]
              refine Z.mono (l_X9_goFine hW hf n hn h35 r _ A (b + 1) (p + 1) (by omega) (by omega) hx (by rw [toN_s hp]; exact hs) (frM.putF hK2 (by decide)) ?_ ?_ (by omega) ?_) ?_
              · simp only [z_rd, Nat.reduceEqDiff, ↓reduceIte, eq_self, g37]
              · simp only [z_rd, ↓reduceIte, eq_self]; omega
              · exact Seg.row (by rw [z_put_ne (by decide)]; exact g104) sA
              · rintro r2 σ' ⟨hr2, q1, q2, q3⟩
                exact ⟨hr2, q1, q2, q3⟩
set_option maxRecDepth 20000 in
theorem c_X9_goFine {d : Nat} {σ : Sto} {LF : LFT} {f : Int} {X : List Int} (hW : WM LF σ) (hf : 0 ≤ f ∧ f ≤ 9) (hX : sdM σ X) : m_X9_goFine d [zR 9, zI f] σ (qV fun σ' => gfK σ σ' ∧ caM σ' (cmL (pasM LF σ f) X 0 0).1) := by
  obtain ⟨x1, x2, x3, x4⟩ := hX
  have hlen := cmL_len (ps := pasM LF σ f) X 0 0
  have hwk := cmL_wok (ps := pasM LF σ f) X 0 0 x3
  refine z_does (L := [some (zR 9), some (zI f), none]) rfl (by decide +kernel) (Nat.le_of_ble_eq_true rfl) rfl ?_
  refine z_aload_n dX9_goFine_0 rfl ?_
  refine z_iconst dX9_goFine_1 ?_
  refine z_putI dX9_goFine_2 pX9_280 rfl (Nat.le_of_ble_eq_true rfl) rfl ⟨by omega, by omega⟩ ?_
  refine z_aload_n dX9_goFine_5 rfl ?_
  refine z_iconst dX9_goFine_6 ?_
  refine z_putI dX9_goFine_7 pX9_283 rfl (Nat.le_of_ble_eq_true rfl) rfl ⟨by omega, by omega⟩ ?_
  refine z_iconst dX9_goFine_10 ?_
  refine z_istore_n (L' := [_, _, _]) dX9_goFine_11 (Nat.le_of_ble_eq_true rfl) rfl rfl ?_
  refine (l_X9_goFine (d := d) (σ := σ) (LF := LF) hW hf (X.length : Int) (by omega) x1 X (z_put (z_put σ 9 37 0) 9 39 0) [] 0 0 (by omega) (by omega) x3 x2 (frM.putF (frM.putF (frM.rf _ _ σ) (by decide)) (by decide)) rfl rfl rfl trivial).mono ?_
  rintro r σ' ⟨hr, q1, q2, q3⟩
  exact ⟨hr, q1, q2, q3, hwk.1, by omega⟩
