/-! ===== The reference's questions: through, nth, lets ===== -/
theorem rf_M {σ : Sto} {s m z : Int} (hs : 0 ≤ s ∧ s < 6) (hm : -1 ≤ m ∧ m < σ 9 7) (hz : z = (if σ 117 s.toNat = -1 then -11 else if σ 117 s.toNat = -2 then 0 else -12)) : hrM σ s m = z ∧ (z = -11 ∨ (z = 0 ∧ σ 117 s.toNat = -2) ∨ z = -12) := by
  refine ⟨by unfold hrM; rw [if_neg (by omega)]; exact hz.symm, ?_⟩
  rw [hz]
  by_cases q1 : σ 117 s.toNat = -1
  · rw [if_pos q1]; exact Or.inl rfl
  · by_cases q2 : σ 117 s.toNat = -2
    · rw [if_neg q1, if_pos q2]; exact Or.inr (Or.inl ⟨rfl, q2⟩)
    · rw [if_neg q1, if_neg q2]; exact Or.inr (Or.inr rfl)
theorem thr_M {LF : LFT} {σ σ1 σ2 : Sto} {s m q : Int} (hW : WM LF σ) (hk1 : lsK σ σ1) (hsd : sdM σ1 (SYM σ s)) (hk2 : gtK σ1 σ2) (t2 : σ2 9 37 = ((cmM LF σ1 m (SYM σ s) q).1.length : Int)) (t3 : σ2 9 39 = ((cmM LF σ1 m (SYM σ s) q).2.length : Int)) (t4 : Seg σ2 104 0 (cmM LF σ1 m (SYM σ s) q).1) (t5 : Seg σ2 105 0 (cmM LF σ1 m (SYM σ s) q).2) :
    KM σ σ2 ∧ caM σ2 (SYMx LF σ s m q).1 ∧ lfM σ2 (SYMx LF σ s m q).2 ∧ sdM σ2 (SYM σ s) ∧ WM LF σ2 := by
  have ecm : cmM LF σ1 m (SYM σ s) q = SYMx LF σ s m q := by show cmL (pasM LF σ1 (finM σ1 m)) _ _ _ = _; rw [hk1.fi rfl, hk1.pm rfl]
  rw [ecm] at t2 t3 t4 t5
  have hkA : KM σ σ2 := (hk1.mono (by decide) (by decide)).tr (hk2.mono (by decide) (by decide))
  have hlen := cmL_len (ps := pasM LF σ (finM σ m)) (SYM σ s) 0 q
  have hwk := cmL_wok (ps := pasM LF σ (finM σ m)) (SYM σ s) 0 q (SYM_wok hW.1.2)
  have hl12 := SYM_len (σ := σ) (s := s)
  refine ⟨hkA, ⟨t2, t4, hwk.1, ?_⟩, ⟨t3, t5, hwk.2, ?_⟩, ⟨?_, ?_, hsd.2.2⟩, hkA.wm hW rfl⟩
  · show (cmL (pasM LF σ (finM σ m)) (SYM σ s) 0 q).1.length ≤ 13; omega
  · show (cmL (pasM LF σ (finM σ m)) (SYM σ s) 0 q).2.length ≤ 13; omega
  · rw [hk2.2 35 (by decide)]; exact hsd.1
  · exact Seg.row (hk2.1 103 (by decide) (by decide)) hsd.2.1
theorem frM.hu {S J : List Nat} {σ τ : Sto} (h : frM S J σ τ) (ho : frOk S J = true) (X : List Int) : hurtM τ X = hurtM σ X := by
  rw [frOk, Bool.and_eq_true, List.all_eq_true, List.all_eq_true] at ho
  have ha : ∀ a, (82 ≤ a ∧ a ≤ 87) ∨ a = 90 → τ a = σ a := fun a ha => h.1 a (fun q => of_decide_eq_true (ho.1 a q) (by omega)) (by omega)
  unfold hurtM
  rw [ha 86 (by omega), ha 83 (by omega), ha 84 (by omega), ha 90 (by omega), h.2 11 (fun q => of_decide_eq_true (ho.2 11 q) (by omega))]
set_option maxRecDepth 20000 in
theorem l_X9_makesSense {d : Nat} {σ : Sto} (h85 : ∀ j, 0 ≤ σ 85 j ∧ σ 85 j ≤ 2) (n : Int) (hn : n ≤ 13) (h37 : σ 9 37 = n) :
    ∀ (X : List Int) (i : Int), 0 ≤ i → i + X.length = n → wok X → Seg σ 104 i.toNat X →
    Z (z_me cX9_makesSense RX9 2 (some .boolean) (d + 0) (qI fun z σ' => σ' = σ ∧ yn z (snsL (σ 85) i X = true))) 12 [some (zR 9), some (zI i)] [] σ
  | [], i, h0, hl, hx, hs => by
    rw [List.length_nil] at hl
    refine z_iload_n dX9_makesSense_12 rfl ?_
    refine z_aload_n dX9_makesSense_13 rfl ?_
    refine z_getI dX9_makesSense_14 gX9_280 rfl (Nat.le_of_ble_eq_true rfl) rfl (fun hr14 => ?_)
    refine z_icmp_ge (tgt := 52) dX9_makesSense_17 (by decide) ⟨by omega, by omega⟩ ⟨by omega, by omega⟩ (fun h17 => ?_) (fun h17 => ?_)
    · skip
      refine z_iconst dX9_makesSense_52 ?_
      exact z_zret dX9_makesSense_53 (by omega) ⟨rfl, Or.inl ⟨rfl, rfl⟩⟩
    · exfalso; omega
  | w :: r, i, h0, hl, hx, hs => by
    rw [List.length_cons] at hl
    obtain ⟨e1, hs⟩ := hs
    obtain ⟨hw, hx⟩ := wok_c hx
    have w85 := h85 w.toNat
    refine z_iload_n dX9_makesSense_12 rfl ?_
    refine z_aload_n dX9_makesSense_13 rfl ?_
    refine z_getI dX9_makesSense_14 gX9_280 rfl (Nat.le_of_ble_eq_true rfl) rfl (fun hr14 => ?_)
    refine z_icmp_ge (tgt := 52) dX9_makesSense_17 (by decide) ⟨by omega, by omega⟩ ⟨by omega, by omega⟩ (fun h17 => ?_) (fun h17 => ?_)
    · exfalso; omega
    · skip
      refine z_aload_n dX9_makesSense_20 rfl ?_
      refine z_getR dX9_makesSense_21 gX9_21 rfl (Nat.le_of_ble_eq_true rfl) rfl ?_
      refine z_aload_n dX9_makesSense_24 rfl ?_
      refine z_getR dX9_makesSense_25 gX9_84 rfl (Nat.le_of_ble_eq_true rfl) rfl ?_
      refine z_iload_n dX9_makesSense_28 rfl ?_
      refine z_iald dX9_makesSense_29 rfl (Nat.le_of_ble_eq_true rfl) (by omega) (fun hr29 => ?_)
      rw [e1]
      refine z_iald dX9_makesSense_30 rfl (Nat.le_of_ble_eq_true rfl) (by omega) (fun hr30 => ?_)
      refine z_iload_n dX9_makesSense_31 rfl ?_
      refine z_iconst dX9_makesSense_32 ?_
      refine z_icmp_ge (tgt := 40) dX9_makesSense_33 (by decide) ⟨by omega, by omega⟩ ⟨by omega, by omega⟩ (fun h33 => ?_) (fun h33 => ?_)
      · skip
        refine z_iconst dX9_makesSense_40 ?_
        refine z_icmp_eq (tgt := 46) dX9_makesSense_41 (by decide) ⟨by omega, by omega⟩ ⟨by omega, by omega⟩ (fun h41 => ?_) (fun h41 => ?_)
        · skip
          refine z_iinc (L' := [_, _]) dX9_makesSense_46 (Nat.le_of_ble_eq_true rfl) rfl rfl rfl ?_
          refine z_goto (tgt := 12) dX9_makesSense_49 (by decide) ?_
          rw [show snsL (σ 85) i (w :: r) = snsL (σ 85) (i + 1) r by rw [snsL, if_pos (by omega)]]
          exact l_X9_makesSense h85 n hn h37 r (i + 1) (by omega) (by omega) hx (by rw [toN_s h0]; exact hs)
        · skip
          refine z_iconst dX9_makesSense_44 ?_
          exact z_zret dX9_makesSense_45 (by omega) ⟨rfl, Or.inr ⟨rfl, by rw [snsL, if_neg (by omega)]; exact Bool.false_ne_true⟩⟩
      · skip
        refine z_iload_n dX9_makesSense_36 rfl ?_
        refine z_goto (tgt := 41) dX9_makesSense_37 (by decide) ?_
        refine z_icmp_eq (tgt := 46) dX9_makesSense_41 (by decide) ⟨by omega, by omega⟩ ⟨by omega, by omega⟩ (fun h41 => ?_) (fun h41 => ?_)
        · skip
          refine z_iinc (L' := [_, _]) dX9_makesSense_46 (Nat.le_of_ble_eq_true rfl) rfl rfl rfl ?_
          refine z_goto (tgt := 12) dX9_makesSense_49 (by decide) ?_
          rw [show snsL (σ 85) i (w :: r) = snsL (σ 85) (i + 1) r by rw [snsL, if_pos (by omega)]]
          exact l_X9_makesSense h85 n hn h37 r (i + 1) (by omega) (by omega) hx (by rw [toN_s h0]; exact hs)
        · skip
          refine z_iconst dX9_makesSense_44 ?_
          exact z_zret dX9_makesSense_45 (by omega) ⟨rfl, Or.inr ⟨rfl, by rw [snsL, if_neg (by omega)]; exact Bool.false_ne_true⟩⟩
set_option maxRecDepth 20000 in
theorem c_X9_makesSense {d : Nat} {σ : Sto} {X : List Int} (h85 : ∀ j, 0 ≤ σ 85 j ∧ σ 85 j ≤ 2) (hX : caM σ X) : m_X9_makesSense d [zR 9] σ (qI fun z σ' => σ' = σ ∧ yn z (2 ≤ X.length ∧ snsL (σ 85) 0 X = true)) := by
  obtain ⟨x1, x2, x3, x4⟩ := hX
  refine z_does (L := [some (zR 9), none]) rfl (by decide +kernel) (Nat.le_of_ble_eq_true rfl) rfl ?_
  refine z_aload_n dX9_makesSense_0 rfl ?_
  refine z_getI dX9_makesSense_1 gX9_280 rfl (Nat.le_of_ble_eq_true rfl) rfl (fun hr1 => ?_)
  refine z_iconst dX9_makesSense_4 ?_
  refine z_icmp_ge (tgt := 10) dX9_makesSense_5 (by decide) ⟨by omega, by omega⟩ ⟨by omega, by omega⟩ (fun h5 => ?_) (fun h5 => ?_)
  · skip
    refine z_iconst dX9_makesSense_10 ?_
    refine z_istore_n (L' := [_, _]) dX9_makesSense_11 (Nat.le_of_ble_eq_true rfl) rfl rfl ?_
    refine (l_X9_makesSense (d := d) h85 (X.length : Int) (by omega) x1 X 0 (by omega) (by omega) x3 x2).mono ?_
    rintro r σ' ⟨z, e, q, y⟩
    refine ⟨z, e, q, ?_⟩
    rcases y with y | y
    · exact Or.inl ⟨y.1, by omega, y.2⟩
    · exact Or.inr ⟨y.1, fun v => y.2 v.2⟩
  · skip
    refine z_iconst dX9_makesSense_8 ?_
    exact z_zret dX9_makesSense_9 (by omega) ⟨rfl, Or.inr ⟨rfl, fun v => by omega⟩⟩
set_option maxRecDepth 20000 in
set_option maxHeartbeats 1000000 in
theorem c_X9_nth {d : Nat} {σ : Sto} {LF : LFT} {s m k w : Int} (hW : WM LF σ) (hS : SM σ) (hs : inR s) (hm : inR m) (hkk : inR k) (hw : inR w) : m_X9_nth d [zR 9, zI s, zI m, zI k, zI w] σ (qI fun z σ' => z = ntG (hrM σ s m) (pasM LF σ (finM σ m)) (SYM σ s) k w ∧ KM σ σ') := by
  have w1 := hW.1
  have w7 := hW.2.1
  refine z_does (L := [some (zR 9), some (zI s), some (zI m), some (zI k), some (zI w), none]) rfl (by decide +kernel) (Nat.le_of_ble_eq_true rfl) rfl ?_
  refine z_iload_n dX9_nth_0 rfl ?_
  refine z_callSI (d := d + 5) (av := [_]) dX9_nth_1 sX9_154 rfl rfl (Nat.le_of_ble_eq_true rfl) (Nat.le_refl _) (c_X9_isShelf (by omega)) (fun z1 σ1 h1 => ?_)
  obtain ⟨hs1, h1⟩ := h1
  subst σ1
  refine z_if_eq (tgt := 29) dX9_nth_4 (by decide) ⟨by omega, by omega⟩ (fun h4 => ?_) (fun h4 => ?_)
  · skip
    refine z_iconst dX9_nth_29 ?_
    exact z_iret dX9_nth_30 (by
      refine ⟨?_, frM.rf _ _ σ⟩
      unfold ntG
      by_cases q : k < 0 ∨ w < 0 ∨ 1 < w
      · rw [if_pos q]
      · have e : hrM σ s m = -1 := by unfold hrM; rw [if_pos (by omega)]
        rw [if_neg q, e]; rfl)
  · skip
    refine z_aload_n dX9_nth_7 rfl ?_
    refine z_iload_n dX9_nth_8 rfl ?_
    refine z_callVI (d := d + 5) (av := [_]) dX9_nth_9 vX9_286 rfl (Nat.le_of_ble_eq_true rfl) rfl rfl rfl (Nat.le_of_ble_eq_true rfl) (Nat.le_refl _) (c_X9_isMeshOrNone (by omega) (by omega)) (fun z9 σ9 h9 => ?_)
    obtain ⟨hs9, h9⟩ := h9
    subst σ9
    refine z_if_eq (tgt := 29) dX9_nth_12 (by decide) ⟨by omega, by omega⟩ (fun h12 => ?_) (fun h12 => ?_)
    · skip
      refine z_iconst dX9_nth_29 ?_
      exact z_iret dX9_nth_30 (by
        refine ⟨?_, frM.rf _ _ σ⟩
        unfold ntG
        by_cases q : k < 0 ∨ w < 0 ∨ 1 < w
        · rw [if_pos q]
        · have e : hrM σ s m = -1 := by unfold hrM; rw [if_pos (by omega)]
          rw [if_neg q, e]; rfl)
    · skip
      refine z_iload_n dX9_nth_15 rfl ?_
      refine z_if_lt (tgt := 29) dX9_nth_16 (by decide) ⟨by omega, by omega⟩ (fun h16 => ?_) (fun h16 => ?_)
      · skip
        refine z_iconst dX9_nth_29 ?_
        exact z_iret dX9_nth_30 (by
          refine ⟨?_, frM.rf _ _ σ⟩
          unfold ntG
          by_cases q : k < 0 ∨ w < 0 ∨ 1 < w
          · rw [if_pos q]
          · have e : hrM σ s m = -1 := by unfold hrM; rw [if_pos (by omega)]
            rw [if_neg q, e]; rfl)
      · skip
        refine z_iload dX9_nth_19 rfl ?_
        refine z_iconst dX9_nth_21 ?_
        refine z_iconst dX9_nth_22 ?_
        refine z_callSI (d := d + 5) (av := [_, _, _]) dX9_nth_23 sX9_143 rfl rfl (Nat.le_of_ble_eq_true rfl) (Nat.le_refl _) (c_X9_in (by omega) (by omega) (by omega)) (fun z23 σ23 h23 => ?_)
        obtain ⟨hs23, h23⟩ := h23
        subst σ23
        refine z_if_ne (tgt := 31) dX9_nth_26 (by decide) ⟨by omega, by omega⟩ (fun h26 => ?_) (fun h26 => ?_)
        · skip
          refine z_aload_n dX9_nth_31 rfl ?_
          refine z_iload_n dX9_nth_32 rfl ?_
          refine z_callVI (d := d + 5) (av := [_]) dX9_nth_33 vX9_289 rfl (Nat.le_of_ble_eq_true rfl) rfl rfl rfl (Nat.le_of_ble_eq_true rfl) (Nat.le_refl _) (c_X9_rowFault hS (by omega)) (fun z33 σ33 h33 => ?_)
          obtain ⟨hz, hs33⟩ := h33
          subst σ33
          obtain ⟨ehr, hz3⟩ := rf_M (m := m) (by omega) (by omega) hz
          refine z_istore (L' := [_, _, _, _, _, _]) dX9_nth_36 (Nat.le_of_ble_eq_true rfl) rfl rfl ?_
          refine z_iload dX9_nth_38 rfl ?_
          refine z_if_ge (tgt := 46) dX9_nth_40 (by decide) ⟨by omega, by omega⟩ (fun h40 => ?_) (fun h40 => ?_)
          · skip
            refine z_aload_n dX9_nth_46 rfl ?_
            refine z_iload_n dX9_nth_47 rfl ?_
            refine z_callVV (d := d + 5) (av := [_]) dX9_nth_48 vX9_292 rfl (Nat.le_of_ble_eq_true rfl) rfl rfl rfl (Nat.le_of_ble_eq_true rfl) (Nat.le_refl _) (c_X9_laySaying w1 hS (by omega) (by omega)) (fun σ48 h48 => ?_)
            obtain ⟨hk1, hsd⟩ := h48
            refine z_aload_n dX9_nth_51 rfl ?_
            refine z_iload_n dX9_nth_52 rfl ?_
            refine z_iconst dX9_nth_53 ?_
            refine z_callVV (d := d + 5) (av := [_, _]) dX9_nth_54 vX9_296 rfl (Nat.le_of_ble_eq_true rfl) rfl rfl rfl (Nat.le_of_ble_eq_true rfl) (Nat.le_refl _) (c_X9_goThrough (LF := LF) (X := SYM σ s) (hk1.wm hW rfl) (by omega) (by decide) hsd) (fun σ54 h54 => ?_)
            obtain ⟨hk2, t2, t3, t4, t5⟩ := h54
            obtain ⟨hkA, ⟨u2, u4, -, u6⟩, ⟨v2, v4, -, v6⟩, -, -⟩ := thr_M hW hk1 hsd hk2 t2 t3 t4 t5
            refine z_iload_n dX9_nth_57 rfl ?_
            refine z_iload dX9_nth_58 rfl ?_
            refine z_if_ne (tgt := 70) dX9_nth_60 (by decide) ⟨by omega, by omega⟩ (fun h60 => ?_) (fun h60 => ?_)
            · skip
              refine z_aload_n dX9_nth_70 rfl ?_
              refine z_getI dX9_nth_71 gX9_283 rfl (Nat.le_of_ble_eq_true rfl) rfl (fun hr71 => ?_)
              try rw [u2]
              try rw [v2]
              refine z_icmp_lt (tgt := 80) dX9_nth_74 (by decide) ⟨by omega, by omega⟩ ⟨by omega, by omega⟩ (fun h74 => ?_) (fun h74 => ?_)
              · skip
                refine z_iload dX9_nth_80 rfl ?_
                refine z_if_ne (tgt := 94) dX9_nth_82 (by decide) ⟨by omega, by omega⟩ (fun h82 => ?_) (fun h82 => ?_)
                · skip
                  have e5 := Seg.getD v4 (show k.toNat < (SYMx LF σ s m 0).2.length by omega)
                  rw [Nat.zero_add] at e5
                  refine z_aload_n dX9_nth_94 rfl ?_
                  refine z_getR dX9_nth_95 gX9_87 rfl (Nat.le_of_ble_eq_true rfl) rfl ?_
                  refine z_iload_n dX9_nth_98 rfl ?_
                  refine z_iald dX9_nth_99 rfl (Nat.le_of_ble_eq_true rfl) (by omega) (fun hr99 => ?_)
                  exact z_iret dX9_nth_100 (⟨by unfold ntG gtL; rw [if_neg (by omega), if_neg (by omega)]; first | (rw [if_pos (by omega : w = 0), if_pos (by show k < ((SYMx LF σ s m 0).1.length : Int); omega), e4]) | (rw [if_neg (by omega : ¬ w = 0), if_pos (by show k < ((SYMx LF σ s m 0).2.length : Int); omega), e5]), hkA⟩)
                · skip
                  have e4 := Seg.getD u4 (show k.toNat < (SYMx LF σ s m 0).1.length by omega)
                  rw [Nat.zero_add] at e4
                  refine z_aload_n dX9_nth_85 rfl ?_
                  refine z_getR dX9_nth_86 gX9_84 rfl (Nat.le_of_ble_eq_true rfl) rfl ?_
                  refine z_iload_n dX9_nth_89 rfl ?_
                  refine z_iald dX9_nth_90 rfl (Nat.le_of_ble_eq_true rfl) (by omega) (fun hr90 => ?_)
                  refine z_goto (tgt := 100) dX9_nth_91 (by decide) ?_
                  exact z_iret dX9_nth_100 (⟨by unfold ntG gtL; rw [if_neg (by omega), if_neg (by omega)]; first | (rw [if_pos (by omega : w = 0), if_pos (by show k < ((SYMx LF σ s m 0).1.length : Int); omega), e4]) | (rw [if_neg (by omega : ¬ w = 0), if_pos (by show k < ((SYMx LF σ s m 0).2.length : Int); omega), e5]), hkA⟩)
              · skip
                refine z_bipush (v := -2) dX9_nth_77 (by decide +kernel) ?_
                exact z_iret dX9_nth_79 (⟨by unfold ntG gtL; rw [if_neg (by omega), if_neg (by omega)]; first | (rw [if_pos (by omega : w = 0), if_neg (by show ¬ k < ((SYMx LF σ s m 0).1.length : Int); omega)]) | (rw [if_neg (by omega : ¬ w = 0), if_neg (by show ¬ k < ((SYMx LF σ s m 0).2.length : Int); omega)]), hkA⟩)
            · skip
              refine z_aload_n dX9_nth_63 rfl ?_
              refine z_getI dX9_nth_64 gX9_280 rfl (Nat.le_of_ble_eq_true rfl) rfl (fun hr64 => ?_)
              refine z_goto (tgt := 74) dX9_nth_67 (by decide) ?_
              try rw [u2]
              try rw [v2]
              refine z_icmp_lt (tgt := 80) dX9_nth_74 (by decide) ⟨by omega, by omega⟩ ⟨by omega, by omega⟩ (fun h74 => ?_) (fun h74 => ?_)
              · skip
                refine z_iload dX9_nth_80 rfl ?_
                refine z_if_ne (tgt := 94) dX9_nth_82 (by decide) ⟨by omega, by omega⟩ (fun h82 => ?_) (fun h82 => ?_)
                · skip
                  have e5 := Seg.getD v4 (show k.toNat < (SYMx LF σ s m 0).2.length by omega)
                  rw [Nat.zero_add] at e5
                  refine z_aload_n dX9_nth_94 rfl ?_
                  refine z_getR dX9_nth_95 gX9_87 rfl (Nat.le_of_ble_eq_true rfl) rfl ?_
                  refine z_iload_n dX9_nth_98 rfl ?_
                  refine z_iald dX9_nth_99 rfl (Nat.le_of_ble_eq_true rfl) (by omega) (fun hr99 => ?_)
                  exact z_iret dX9_nth_100 (⟨by unfold ntG gtL; rw [if_neg (by omega), if_neg (by omega)]; first | (rw [if_pos (by omega : w = 0), if_pos (by show k < ((SYMx LF σ s m 0).1.length : Int); omega), e4]) | (rw [if_neg (by omega : ¬ w = 0), if_pos (by show k < ((SYMx LF σ s m 0).2.length : Int); omega), e5]), hkA⟩)
                · skip
                  have e4 := Seg.getD u4 (show k.toNat < (SYMx LF σ s m 0).1.length by omega)
                  rw [Nat.zero_add] at e4
                  refine z_aload_n dX9_nth_85 rfl ?_
                  refine z_getR dX9_nth_86 gX9_84 rfl (Nat.le_of_ble_eq_true rfl) rfl ?_
                  refine z_iload_n dX9_nth_89 rfl ?_
                  refine z_iald dX9_nth_90 rfl (Nat.le_of_ble_eq_true rfl) (by omega) (fun hr90 => ?_)
                  refine z_goto (tgt := 100) dX9_nth_91 (by decide) ?_
                  exact z_iret dX9_nth_100 (⟨by unfold ntG gtL; rw [if_neg (by omega), if_neg (by omega)]; first | (rw [if_pos (by omega : w = 0), if_pos (by show k < ((SYMx LF σ s m 0).1.length : Int); omega), e4]) | (rw [if_neg (by omega : ¬ w = 0), if_pos (by show k < ((SYMx LF σ s m 0).2.length : Int); omega), e5]), hkA⟩)
              · skip
                refine z_bipush (v := -2) dX9_nth_77 (by decide +kernel) ?_
                exact z_iret dX9_nth_79 (⟨by unfold ntG gtL; rw [if_neg (by omega), if_neg (by omega)]; first | (rw [if_pos (by omega : w = 0), if_neg (by show ¬ k < ((SYMx LF σ s m 0).1.length : Int); omega)]) | (rw [if_neg (by omega : ¬ w = 0), if_neg (by show ¬ k < ((SYMx LF σ s m 0).2.length : Int); omega)]), hkA⟩)
          · skip
            refine z_iload dX9_nth_43 rfl ?_
            exact z_iret dX9_nth_45 (⟨by unfold ntG; rw [if_neg (by omega), if_pos (by omega)]; exact ehr.symm, frM.rf _ _ σ⟩)
        · skip
          refine z_iconst dX9_nth_29 ?_
          exact z_iret dX9_nth_30 (by
            refine ⟨?_, frM.rf _ _ σ⟩
            unfold ntG
            by_cases q : k < 0 ∨ w < 0 ∨ 1 < w
            · rw [if_pos q]
            · have e : hrM σ s m = -1 := by unfold hrM; rw [if_pos (by omega)]
              rw [if_neg q, e]; rfl)
set_option maxRecDepth 20000 in
theorem c_X9_lets {d : Nat} {σ : Sto} {LF : LFT} {wm pl : Int} (hW : WM LF σ) (h1 : inR wm) (h2 : inR pl) : m_X9_lets d [zR 9, zI wm, zI pl] σ (qI fun z σ' => z = ltG (σ 9 1) (σ 9 7) (pasM LF σ) (finM σ) wm pl ∧ KM σ σ') := by
  have w1 := hW.1
  have w2 := hW.2.1
  have hd := dm10 (t := wm)
  have he := dm100 (t := pl)
  refine z_does (L := [some (zR 9), some (zI wm), some (zI pl)]) rfl (by decide +kernel) (Nat.le_of_ble_eq_true rfl) rfl ?_
  refine z_iload_n dX9_lets_0 rfl ?_
  refine z_if_lt (tgt := 37) dX9_lets_1 (by decide) ⟨by omega, by omega⟩ (fun h1 => ?_) (fun h1 => ?_)
  · skip
    refine z_iconst dX9_lets_37 ?_
    exact z_iret dX9_lets_38 (⟨by unfold ltG; rw [if_pos (by omega)], frM.rf _ _ σ⟩)
  · skip
    have hd := hd (by omega)
    refine z_aload_n dX9_lets_4 rfl ?_
    refine z_iload_n dX9_lets_5 rfl ?_
    refine z_bipush (v := 10) dX9_lets_6 (by decide +kernel) ?_
    refine z_idiv dX9_lets_8 ⟨by omega, by omega⟩ ⟨by omega, by omega⟩ (by omega) ?_
    refine z_callVI (d := d + 4) (av := [_]) dX9_lets_9 vX9_177 rfl (Nat.le_of_ble_eq_true rfl) rfl rfl rfl (Nat.le_of_ble_eq_true rfl) (Nat.le_refl _) (c_X9_isWord (by omega) (by omega)) (fun z9 σ9 h9 => ?_)
    obtain ⟨hs9, h9⟩ := h9
    subst σ9
    refine z_if_eq (tgt := 37) dX9_lets_12 (by decide) ⟨by omega, by omega⟩ (fun h12 => ?_) (fun h12 => ?_)
    · skip
      refine z_iconst dX9_lets_37 ?_
      exact z_iret dX9_lets_38 (⟨by unfold ltG; rw [if_pos (by omega)], frM.rf _ _ σ⟩)
    · skip
      refine z_aload_n dX9_lets_15 rfl ?_
      refine z_iload_n dX9_lets_16 rfl ?_
      refine z_bipush (v := 10) dX9_lets_17 (by decide +kernel) ?_
      refine z_irem dX9_lets_19 ⟨by omega, by omega⟩ ⟨by omega, by omega⟩ (by omega) ?_
      refine z_callVI (d := d + 4) (av := [_]) dX9_lets_20 vX9_180 rfl (Nat.le_of_ble_eq_true rfl) rfl rfl rfl (Nat.le_of_ble_eq_true rfl) (Nat.le_refl _) (c_X9_isMesh (by omega) (by omega)) (fun z20 σ20 h20 => ?_)
      obtain ⟨hs20, h20⟩ := h20
      subst σ20
      refine z_if_eq (tgt := 37) dX9_lets_23 (by decide) ⟨by omega, by omega⟩ (fun h23 => ?_) (fun h23 => ?_)
      · skip
        refine z_iconst dX9_lets_37 ?_
        exact z_iret dX9_lets_38 (⟨by unfold ltG; rw [if_pos (by omega)], frM.rf _ _ σ⟩)
      · skip
        refine z_iload_n dX9_lets_26 rfl ?_
        refine z_iconst dX9_lets_27 ?_
        refine z_sipush (v := 9999) dX9_lets_28 (by decide +kernel) ?_
        refine z_callSI (d := d + 4) (av := [_, _, _]) dX9_lets_31 sX9_143 rfl rfl (Nat.le_of_ble_eq_true rfl) (Nat.le_refl _) (c_X9_in (by omega) (by omega) (by omega)) (fun z31 σ31 h31 => ?_)
        obtain ⟨hs31, h31⟩ := h31
        subst σ31
        refine z_if_ne (tgt := 39) dX9_lets_34 (by decide) ⟨by omega, by omega⟩ (fun h34 => ?_) (fun h34 => ?_)
        · skip
          have he := he (by omega)
          refine z_aload_n dX9_lets_39 rfl ?_
          refine z_iload_n dX9_lets_40 rfl ?_
          refine z_bipush (v := 10) dX9_lets_41 (by decide +kernel) ?_
          refine z_idiv dX9_lets_43 ⟨by omega, by omega⟩ ⟨by omega, by omega⟩ (by omega) ?_
          refine z_iload_n dX9_lets_44 rfl ?_
          refine z_bipush (v := 10) dX9_lets_45 (by decide +kernel) ?_
          refine z_irem dX9_lets_47 ⟨by omega, by omega⟩ ⟨by omega, by omega⟩ (by omega) ?_
          refine z_iload_n dX9_lets_48 rfl ?_
          refine z_bipush (v := 100) dX9_lets_49 (by decide +kernel) ?_
          refine z_idiv dX9_lets_51 ⟨by omega, by omega⟩ ⟨by omega, by omega⟩ (by omega) ?_
          refine z_iload_n dX9_lets_52 rfl ?_
          refine z_bipush (v := 100) dX9_lets_53 (by decide +kernel) ?_
          refine z_irem dX9_lets_55 ⟨by omega, by omega⟩ ⟨by omega, by omega⟩ (by omega) ?_
          refine z_callVI (d := d + 4) (av := [_, _, _, _]) dX9_lets_56 vX9_271 rfl (Nat.le_of_ble_eq_true rfl) rfl rfl rfl (Nat.le_of_ble_eq_true rfl) (Nat.le_refl _) (c_X9_passes (LF := LF) hW (by omega) (by omega) (by omega) (by omega)) (fun z56 σ56 h56 => ?_)
          obtain ⟨hps, hfr⟩ := h56
          refine z_if_eq (tgt := 66) dX9_lets_59 (by decide) ⟨by omega, by omega⟩ (fun h59 => ?_) (fun h59 => ?_)
          · skip
            refine z_iconst dX9_lets_66 ?_
            exact z_iret dX9_lets_67 (⟨by unfold ltG; rw [if_neg (by omega)]; first | (rw [if_pos (by rcases hps with v | v; exact v.2; exact absurd v.1 (by omega))]) | (rw [if_neg (by rcases hps with v | v; exact absurd v.1 (by omega); rw [v.2]; exact Bool.false_ne_true)]), hfr.mono (by decide) (by decide)⟩)
          · skip
            refine z_iconst dX9_lets_62 ?_
            refine z_goto (tgt := 67) dX9_lets_63 (by decide) ?_
            exact z_iret dX9_lets_67 (⟨by unfold ltG; rw [if_neg (by omega)]; first | (rw [if_pos (by rcases hps with v | v; exact v.2; exact absurd v.1 (by omega))]) | (rw [if_neg (by rcases hps with v | v; exact absurd v.1 (by omega); rw [v.2]; exact Bool.false_ne_true)]), hfr.mono (by decide) (by decide)⟩)
        · skip
          refine z_iconst dX9_lets_37 ?_
          exact z_iret dX9_lets_38 (⟨by unfold ltG; rw [if_pos (by omega)], frM.rf _ _ σ⟩)
