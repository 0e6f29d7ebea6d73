/-! ===== The reference: a saying through a mesh ===== -/
abbrev gtK : Sto → Sto → Prop := frM [101, 102, 104, 105] [37, 39]
abbrev cmM (LF : LFT) (σ : Sto) (m : Int) (X : List Int) (q : Int) : List Int × List Int := cmL (pasM LF σ (finM σ m)) X 0 q
theorem frM.fi {S J : List Nat} {σ τ : Sto} (h : frM S J σ τ) (ho : frOk S J = true) {m : Int} : finM τ m = finM σ m := by
  rw [frOk, Bool.and_eq_true, List.all_eq_true, List.all_eq_true] at ho
  have ha : τ 87 = σ 87 := h.1 87 (fun q => of_decide_eq_true (ho.1 87 q) (by omega)) (by omega)
  unfold finM
  rw [ha]
set_option maxRecDepth 20000 in
set_option maxHeartbeats 1000000 in
theorem l_X9_goThrough {d : Nat} {σ : Sto} {LF : LFT} {m l : Int} (hW : WM LF σ) (hm : -1 ≤ m ∧ m < 5) (hl : -100000000 ≤ l ∧ l ≤ 2147483000) (n : Int) (hn : n ≤ 13) (h35 : σ 9 35 = n) :
    ∀ (xs : List Int) (τ : Sto) (A B : List Int) (p : Int), 0 ≤ p → p + xs.length = n → wok xs → Seg σ 103 p.toNat xs → gtK σ τ → τ 9 37 = A.length → τ 9 39 = B.length → ((A.length : Int) + B.length = p) → Seg τ 104 0 A → Seg τ 105 0 B →
    Z (z_me cX9_goThrough RX9 5 none (d + 5) (qV fun σ' => gtK σ σ' ∧ σ' 9 37 = ((A ++ (cmL (pasM LF σ (finM σ m)) xs p (l + B.length)).1).length : Int) ∧ σ' 9 39 = ((B ++ (cmL (pasM LF σ (finM σ m)) xs p (l + B.length)).2).length : Int) ∧ Seg σ' 104 0 (A ++ (cmL (pasM LF σ (finM σ m)) xs p (l + B.length)).1) ∧ Seg σ' 105 0 (B ++ (cmL (pasM LF σ (finM σ m)) xs p (l + B.length)).2))) 12 [some (zR 9), some (zI m), some (zI l), some (zI p), none] [] τ
  | [], τ, A, B, p, hp, hpn, hx, hs, hK, hA, hB, hAB, sA, sB => by
    have e35 : τ 9 35 = σ 9 35 := hK.2 35 (by decide)
    rw [List.length_nil] at hpn
    refine z_iload_n dX9_goThrough_12 rfl ?_
    refine z_aload_n dX9_goThrough_13 rfl ?_
    refine z_getI dX9_goThrough_14 gX9_274 rfl (Nat.le_of_ble_eq_true rfl) rfl (fun hr14 => ?_)
    refine z_icmp_ge (tgt := 96) dX9_goThrough_17 (by decide) ⟨by omega, by omega⟩ ⟨by omega, by omega⟩ (fun h17 => ?_) (fun h17 => ?_)
    · skip
      exact z_vret dX9_goThrough_96 ⟨hK, by simpa [cmL] using hA, by simpa [cmL] using hB, by simpa [cmL] using sA, by simpa [cmL] using sB⟩
    · exfalso; omega
  | w :: r, τ, A, B, p, hp, hpn, hx, hs, hK, hA, hB, hAB, sA, sB => by
    have e35 : τ 9 35 = σ 9 35 := hK.2 35 (by decide)
    rw [List.length_cons] at hpn
    obtain ⟨hw, hx⟩ := wok_c hx
    obtain ⟨hv, hs⟩ := hs
    have ek : τ 103 p.toNat = w := by rw [hK.1 103 (by decide) (by decide)]; exact hv
    have hWt : WM LF τ := hK.wm hW rfl
    have ep : pasM LF τ (finM τ m) = pasM LF σ (finM σ m) := by rw [hK.fi rfl, hK.pm rfl]
    refine z_iload_n dX9_goThrough_12 rfl ?_
    refine z_aload_n dX9_goThrough_13 rfl ?_
    refine z_getI dX9_goThrough_14 gX9_274 rfl (Nat.le_of_ble_eq_true rfl) rfl (fun hr14 => ?_)
    refine z_icmp_ge (tgt := 96) dX9_goThrough_17 (by decide) ⟨by omega, by omega⟩ ⟨by omega, by omega⟩ (fun h17 => ?_) (fun h17 => ?_)
    · exfalso; omega
    · skip
      refine z_aload_n dX9_goThrough_20 rfl ?_
      refine z_getR dX9_goThrough_21 gX9_81 rfl (Nat.le_of_ble_eq_true rfl) rfl ?_
      refine z_iload_n dX9_goThrough_24 rfl ?_
      refine z_iald dX9_goThrough_25 rfl (Nat.le_of_ble_eq_true rfl) (by omega) (fun hr25 => ?_)
      rw [ek]
      refine z_istore (L' := [_, _, _, _, _]) dX9_goThrough_26 (Nat.le_of_ble_eq_true rfl) rfl rfl ?_
      refine z_aload_n dX9_goThrough_28 rfl ?_
      refine z_iload dX9_goThrough_29 rfl ?_
      refine z_iload_n dX9_goThrough_31 rfl ?_
      refine z_iload_n dX9_goThrough_32 rfl ?_
      refine z_iload_n dX9_goThrough_33 rfl ?_
      refine z_aload_n dX9_goThrough_34 rfl ?_
      refine z_getI dX9_goThrough_35 gX9_283 rfl (Nat.le_of_ble_eq_true rfl) rfl (fun hr35 => ?_)
      refine z_iadd dX9_goThrough_38 ?_
      rw [hB]
      refine z_callVI (d := d + 4) (av := [_, _, _, _]) dX9_goThrough_39 vX9_271 rfl (Nat.le_of_ble_eq_true rfl) rfl rfl rfl (Nat.le_of_ble_eq_true rfl) (Nat.le_refl _) (c_X9_passes (LF := LF) hWt hw hm (by omega) (by omega)) (fun z39 σ39 h39 => ?_)
      obtain ⟨hps, hfr⟩ := h39
      rw [ep] at hps
      have g37 : σ39 9 37 = A.length := by rw [hfr.2 37 (by decide)]; exact hA
      have g39 : σ39 9 39 = B.length := by rw [hfr.2 39 (by decide)]; exact hB
      have g104 : σ39 104 = τ 104 := hfr.1 104 (by decide) (by decide)
      have g105 : σ39 105 = τ 105 := hfr.1 105 (by decide) (by decide)
      have hK2 : gtK σ σ39 := hK.tr (hfr.mono (by decide) (by decide))
      refine z_if_eq (tgt := 69) dX9_goThrough_42 (by decide) ⟨by omega, by omega⟩ (fun h42 => ?_) (fun h42 => ?_)
      · skip
        refine z_aload_n dX9_goThrough_69 rfl ?_
        refine z_getR dX9_goThrough_70 gX9_87 rfl (Nat.le_of_ble_eq_true rfl) rfl ?_
        refine z_aload_n dX9_goThrough_73 rfl ?_
        refine z_getI dX9_goThrough_74 gX9_283 rfl (Nat.le_of_ble_eq_true rfl) rfl (fun hr74 => ?_)
        refine z_iload dX9_goThrough_77 rfl ?_
        refine z_iast dX9_goThrough_79 rfl (Nat.le_of_ble_eq_true rfl) (by omega) ⟨by omega, by omega⟩ ?_
        refine z_aload_n dX9_goThrough_80 rfl ?_
        refine z_dup dX9_goThrough_81 rfl ?_
        refine z_getI dX9_goThrough_82 gX9_283 rfl (Nat.le_of_ble_eq_true rfl) rfl (fun hr82 => ?_)
        try simp only [z_rd, Nat.reduceEqDiff, ↓reduceIte, eq_self] at hr82 ⊢
        refine z_iconst dX9_goThrough_85 ?_
        refine z_iadd dX9_goThrough_86 ?_
        refine z_putI dX9_goThrough_87 pX9_283 rfl (Nat.le_of_ble_eq_true rfl) rfl ⟨by omega, by omega⟩ ?_
        refine z_iinc (L' := [_, _, _, _, _]) dX9_goThrough_90 (Nat.le_of_ble_eq_true rfl) rfl rfl rfl ?_
        refine z_goto (tgt := 12) dX9_goThrough_93 (by decide) ?_
        refine z_forget [true, true, true, true, false] (L' := [_, _, _, _, _]) rfl ?_
        rcases hps with ⟨hz, hps⟩ | ⟨hz, hps⟩
        · first
            | exfalso; omega
            | rw [cmL, if_pos hps]
              refine Z.mono (l_X9_goThrough hW hm hl n hn h35 r _ (A ++ [w]) B (p + 1) (by omega) (by omega) hx (by rw [toN_s hp]; exact hs) (frM.putF (frM.putA hK2 (by decide) (by decide)) (by decide)) ?_ ?_ (by rw [List.length_append]; simp only [List.length_cons, List.length_nil]; omega) ?_ ?_) ?_
              · simp only [z_rd, ↓reduceIte, eq_self, List.length_append, List.length_cons, List.length_nil]; omega
              · simp only [z_rd, Nat.reduceEqDiff, ↓reduceIte, eq_self, g39]
              · rw [g37, show ((A.length : Int)).toNat = A.length by omega]; exact Seg.row (z_put_ne (by decide)) (Seg.put (Seg.row g104 sA))
              · exact Seg.row (by rw [z_put_ne (by decide), z_put_ne (by decide)]; exact g105) sB
              · rintro r2 σ' ⟨hr2, q1, q2, q3, q4, q5⟩
                simp only [List.append_assoc, List.cons_append, List.nil_append] at q2 q4
                exact ⟨hr2, q1, q2, q3, q4, q5⟩
        · first
            | exfalso; omega
            | rw [cmL, if_neg (by rw [hps]; exact Bool.false_ne_true)]
              refine Z.mono (l_X9_goThrough hW hm hl n hn h35 r _ A (B ++ [w]) (p + 1) (by omega) (by omega) hx (by rw [toN_s hp]; exact hs) (frM.putF (frM.putA hK2 (by decide) (by decide)) (by decide)) ?_ ?_ (by rw [List.length_append]; simp only [List.length_cons, List.length_nil]; omega) ?_ ?_) ?_
              · simp only [z_rd, Nat.reduceEqDiff, ↓reduceIte, eq_self, g37]
              · simp only [z_rd, ↓reduceIte, eq_self, List.length_append, List.length_cons, List.length_nil]; omega
              · exact Seg.row (by rw [z_put_ne (by decide), z_put_ne (by decide)]; exact g104) sA
              · rw [g39, show ((B.length : Int)).toNat = B.length by omega]; exact Seg.row (z_put_ne (by decide)) (Seg.put (Seg.row g105 sB))
              · rintro r2 σ' ⟨hr2, q1, q2, q3, q4, q5⟩
                rw [show l + ((B ++ [w]).length : Int) = l + (B.length : Int) + 1 by simp only [List.length_append, List.length_cons, List.length_nil]; omega] at q2 q3 q4 q5
                simp only [List.append_assoc, List.cons_append, List.nil_append] at q3 q5
                exact ⟨hr2, q1, q2, q3, q4, q5⟩
      · skip
        refine z_aload_n dX9_goThrough_45 rfl ?_
        refine z_getR dX9_goThrough_46 gX9_84 rfl (Nat.le_of_ble_eq_true rfl) rfl ?_
        refine z_aload_n dX9_goThrough_49 rfl ?_
        refine z_getI dX9_goThrough_50 gX9_280 rfl (Nat.le_of_ble_eq_true rfl) rfl (fun hr50 => ?_)
        refine z_iload dX9_goThrough_53 rfl ?_
        refine z_iast dX9_goThrough_55 rfl (Nat.le_of_ble_eq_true rfl) (by omega) ⟨by omega, by omega⟩ ?_
        refine z_aload_n dX9_goThrough_56 rfl ?_
        refine z_dup dX9_goThrough_57 rfl ?_
        refine z_getI dX9_goThrough_58 gX9_280 rfl (Nat.le_of_ble_eq_true rfl) rfl (fun hr58 => ?_)
        try simp only [z_rd, Nat.reduceEqDiff, ↓reduceIte, eq_self] at hr58 ⊢
        refine z_iconst dX9_goThrough_61 ?_
        refine z_iadd dX9_goThrough_62 ?_
        refine z_putI dX9_goThrough_63 pX9_280 rfl (Nat.le_of_ble_eq_true rfl) rfl ⟨by omega, by omega⟩ ?_
        refine z_goto (tgt := 90) dX9_goThrough_66 (by decide) ?_
        refine z_iinc (L' := [_, _, _, _, _]) dX9_goThrough_90 (Nat.le_of_ble_eq_true rfl) rfl rfl rfl ?_
        refine z_goto (tgt := 12) dX9_goThrough_93 (by decide) ?_
        refine z_forget [true, true, true, true, false] (L' := [_, _, _, _, _]) rfl ?_
        rcases hps with ⟨hz, hps⟩ | ⟨hz, hps⟩
        · first
            | exfalso; omega
            | rw [cmL, if_pos hps]
              refine Z.mono (l_X9_goThrough hW hm hl n hn h35 r _ (A ++ [w]) B (p + 1) (by omega) (by omega) hx (by rw [toN_s hp]; exact hs) (frM.putF (frM.putA hK2 (by decide) (by decide)) (by decide)) ?_ ?_ (by rw [List.length_append]; simp only [List.length_cons, List.length_nil]; omega) ?_ ?_) ?_
              · simp only [z_rd, ↓reduceIte, eq_self, List.length_append, List.length_cons, List.length_nil]; omega
              · simp only [z_rd, Nat.reduceEqDiff, ↓reduceIte, eq_self, g39]
              · rw [g37, show ((A.length : Int)).toNat = A.length by omega]; exact Seg.row (z_put_ne (by decide)) (Seg.put (Seg.row g104 sA))
              · exact Seg.row (by rw [z_put_ne (by decide), z_put_ne (by decide)]; exact g105) sB
              · rintro r2 σ' ⟨hr2, q1, q2, q3, q4, q5⟩
                simp only [List.append_assoc, List.cons_append, List.nil_append] at q2 q4
                exact ⟨hr2, q1, q2, q3, q4, q5⟩
        · first
            | exfalso; omega
            | rw [cmL, if_neg (by rw [hps]; exact Bool.false_ne_true)]
              refine Z.mono (l_X9_goThrough hW hm hl n hn h35 r _ A (B ++ [w]) (p + 1) (by omega) (by omega) hx (by rw [toN_s hp]; exact hs) (frM.putF (frM.putA hK2 (by decide) (by decide)) (by decide)) ?_ ?_ (by rw [List.length_append]; simp only [List.length_cons, List.length_nil]; omega) ?_ ?_) ?_
              · simp only [z_rd, Nat.reduceEqDiff, ↓reduceIte, eq_self, g37]
              · simp only [z_rd, ↓reduceIte, eq_self, List.length_append, List.length_cons, List.length_nil]; omega
              · exact Seg.row (by rw [z_put_ne (by decide), z_put_ne (by decide)]; exact g104) sA
              · rw [g39, show ((B.length : Int)).toNat = B.length by omega]; exact Seg.row (z_put_ne (by decide)) (Seg.put (Seg.row g105 sB))
              · rintro r2 σ' ⟨hr2, q1, q2, q3, q4, q5⟩
                rw [show l + ((B ++ [w]).length : Int) = l + (B.length : Int) + 1 by simp only [List.length_append, List.length_cons, List.length_nil]; omega] at q2 q3 q4 q5
                simp only [List.append_assoc, List.cons_append, List.nil_append] at q3 q5
                exact ⟨hr2, q1, q2, q3, q4, q5⟩
/-- what stands as said -/
def sdM (σ : Sto) (X : List Int) : Prop := σ 9 35 = (X.length : Int) ∧ Seg σ 103 0 X ∧ wok X ∧ X.length ≤ 13
set_option maxRecDepth 20000 in
theorem c_X9_goThrough {d : Nat} {σ : Sto} {LF : LFT} {m l : Int} {X : List Int} (hW : WM LF σ) (hm : -1 ≤ m ∧ m < 5) (hl : -100000000 ≤ l ∧ l ≤ 2147483000) (hX : sdM σ X) : m_X9_goThrough d [zR 9, zI m, zI l] σ (qV fun σ' => gtK σ σ' ∧ σ' 9 37 = ((cmM LF σ m X l).1.length : Int) ∧ σ' 9 39 = ((cmM LF σ m X l).2.length : Int) ∧ Seg σ' 104 0 (cmM LF σ m X l).1 ∧ Seg σ' 105 0 (cmM LF σ m X l).2) := by
  obtain ⟨x1, x2, x3, x4⟩ := hX
  refine z_does (L := [some (zR 9), some (zI m), some (zI l), none, none]) rfl (by decide +kernel) (Nat.le_of_ble_eq_true rfl) rfl ?_
  refine z_aload_n dX9_goThrough_0 rfl ?_
  refine z_iconst dX9_goThrough_1 ?_
  refine z_putI dX9_goThrough_2 pX9_280 rfl (Nat.le_of_ble_eq_true rfl) rfl ⟨by omega, by omega⟩ ?_
  refine z_aload_n dX9_goThrough_5 rfl ?_
  refine z_iconst dX9_goThrough_6 ?_
  refine z_putI dX9_goThrough_7 pX9_283 rfl (Nat.le_of_ble_eq_true rfl) rfl ⟨by omega, by omega⟩ ?_
  refine z_iconst dX9_goThrough_10 ?_
  refine z_istore_n (L' := [_, _, _, _, _]) dX9_goThrough_11 (Nat.le_of_ble_eq_true rfl) rfl rfl ?_
  have h := l_X9_goThrough (d := d) (σ := σ) (LF := LF) hW hm hl (X.length : Int) (by omega) x1 X (z_put (z_put σ 9 37 0) 9 39 0) [] [] 0 (by omega) (by omega) x3 x2 (frM.putF (frM.putF (frM.rf _ _ σ) (by decide)) (by decide)) rfl rfl rfl trivial trivial
  simp only [List.nil_append, List.length_nil, Int.natCast_zero, Int.add_zero] at h
  exact h
