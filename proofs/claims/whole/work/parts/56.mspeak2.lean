/-! ===== The reference: speak ===== -/
def hrM (σ : Sto) (s m : Int) : Int := if ¬ (0 ≤ s ∧ s < 6) ∨ ¬ (-1 ≤ m ∧ m < σ 9 7) then -1 else if σ 117 s.toNat = -1 then -11 else if σ 117 s.toNat = -2 then 0 else -12
def nsM (σ : Sto) (m c l h u : Int) : Sto := z_put (z_put (z_put (z_put (z_put (z_put σ 88 m.toNat (wr (σ 88 m.toNat + l))) 89 m.toNat (wr (σ 89 m.toNat + h))) 111 0 (wr (σ 111 0 + 1))) 111 1 (wr (σ 111 1 + c))) 111 2 (wr (σ 111 2 + l))) 111 3 (wr (σ 111 3 + u))
/-- what a question of the reference writes -/
abbrev KM : Sto → Sto → Prop := frM [101, 102, 103, 104, 105, 106, 107, 108, 109, 110, 120] [22, 23, 24, 25, 35, 37, 39, 41, 43, 46]
abbrev SYMx (LF : LFT) (σ : Sto) (s m q : Int) : List Int × List Int := cmL (pasM LF σ (finM σ m)) (SYM σ s) 0 q
theorem lfM.put {σ : Sto} {X : List Int} {k i : Nat} {v : Int} (h : lfM σ X) (h1 : k ≠ 9) (h2 : k ≠ 105) : lfM (z_put σ k i v) X := ⟨by rw [z_put_ne (by omega)]; exact h.1, Seg.row (z_put_ne (by omega)) h.2.1, h.2.2⟩
theorem caM.put {σ : Sto} {X : List Int} {k i : Nat} {v : Int} (h : caM σ X) (h1 : k ≠ 9) (h2 : k ≠ 104) : caM (z_put σ k i v) X := ⟨by rw [z_put_ne (by omega)]; exact h.1, Seg.row (z_put_ne (by omega)) h.2.1, h.2.2⟩
theorem caM.hu {σ : Sto} {X : List Int} (h : caM σ X) : huR σ 0 X.length X 0 := Or.inr ⟨rfl, h.1, h.2.1⟩
theorem sdM.hu {σ : Sto} {X : List Int} (h : sdM σ X) : huR σ 1 X.length X 0 := Or.inl ⟨rfl, h.1, h.2.1⟩
theorem hurtL_R6 {A4 A1 A2 th : Nat → Int} {p : Int} {X : List Int} (hp : 0 ≤ p ∧ p ≤ 6) : 0 ≤ hurtL A4 A1 A2 th p X ∧ hurtL A4 A1 A2 th p X < 64 := by
  have hd : ∀ (m : Nat) (c : Int → Bool), m ≤ 6 → 0 ≤ bitL c m 0 0 ∧ bitL c m 0 0 < 64 := by
    have key : ∀ m : Nat, m < 7 → ∀ a0 a1 a2 a3 a4 a5 : Bool, 0 ≤ bitL (fun p => if p = 0 then a0 else if p = 1 then a1 else if p = 2 then a2 else if p = 3 then a3 else if p = 4 then a4 else a5) m 0 0 ∧ bitL (fun p => if p = 0 then a0 else if p = 1 then a1 else if p = 2 then a2 else if p = 3 then a3 else if p = 4 then a4 else a5) m 0 0 < 64 := by decide +kernel
    intro m c hm
    have e : bitL c m 0 0 = bitL (fun p => if p = 0 then c 0 else if p = 1 then c 1 else if p = 2 then c 2 else if p = 3 then c 3 else if p = 4 then c 4 else c 5) m 0 0 := bitL_cong _ _ _ (fun x h1 h2 => by
      rcases (show x = 0 ∨ x = 1 ∨ x = 2 ∨ x = 3 ∨ x = 4 ∨ x = 5 by omega) with rfl | rfl | rfl | rfl | rfl | rfl <;> rfl)
    rw [e]
    exact key m (by omega) _ _ _ _ _ _
  exact hd _ _ (by omega)
set_option maxRecDepth 20000 in
set_option maxHeartbeats 2000000 in
theorem c_X9_speak {d : Nat} {σ : Sto} {LF : LFT} {s m : Int} (hW : WM LF σ) (hS : SM σ) (hs : inR s) (hm : inR m) (hl : ∀ j, 0 ≤ σ 88 j ∧ σ 88 j ≤ 100000) : m_X9_speak d [zR 9, zI s, zI m] σ (qI fun z σ' => (¬ (0 ≤ m ∧ m < σ 9 7) ∧ z = -1 ∧ σ' = σ) ∨ ((0 ≤ m ∧ m < σ 9 7) ∧ hrM σ s m ≠ 0 ∧ z = hrM σ s m ∧ σ' = σ) ∨ ((0 ≤ m ∧ m < σ 9 7) ∧ hrM σ s m = 0 ∧ z = ((SYMx LF σ s m (σ 88 m.toNat)).1.length : Int) ∧ ∃ τ, KM σ τ ∧ σ' = nsM τ m (SYMx LF σ s m (σ 88 m.toNat)).1.length (SYMx LF σ s m (σ 88 m.toNat)).2.length (sumL (σ 83) (SYMx LF σ s m (σ 88 m.toNat)).2) (bcF (hurtM σ (SYMx LF σ s m (σ 88 m.toNat)).1)))) := by
  have w1 := hW.1
  have w7 := hW.2.1
  have w3 := hW.2.2.1
  have w83 := hW.2.2.2.2.1
  have hlm := hl m.toNat
  refine z_does (L := [some (zR 9), some (zI s), some (zI m), none]) rfl (by decide +kernel) (Nat.le_of_ble_eq_true rfl) rfl ?_
  refine z_iload_n dX9_speak_0 rfl ?_
  refine z_callSI (d := d + 5) (av := [_]) dX9_speak_1 sX9_154 rfl rfl (Nat.le_of_ble_eq_true rfl) (Nat.le_refl _) (c_X9_isShelf (by omega)) (fun z1 σ1 h1 => ?_)
  obtain ⟨hs1, h1⟩ := h1
  subst σ1
  refine z_if_eq (tgt := 15) dX9_speak_4 (by decide) ⟨by omega, by omega⟩ (fun h4 => ?_) (fun h4 => ?_)
  · skip
    refine z_iconst dX9_speak_15 ?_
    exact z_iret dX9_speak_16 (by
      by_cases q : 0 ≤ m ∧ m < σ 9 7
      · exact Or.inr (Or.inl ⟨q, by unfold hrM; rw [if_pos (by omega)]; decide, by unfold hrM; rw [if_pos (by omega)], rfl⟩)
      · exact Or.inl ⟨q, rfl, rfl⟩)
  · skip
    refine z_aload_n dX9_speak_7 rfl ?_
    refine z_iload_n dX9_speak_8 rfl ?_
    refine z_callVI (d := d + 5) (av := [_]) dX9_speak_9 vX9_180 rfl (Nat.le_of_ble_eq_true rfl) rfl rfl rfl (Nat.le_of_ble_eq_true rfl) (Nat.le_refl _) (c_X9_isMesh (by omega) (by omega)) (fun z9 σ9 h9 => ?_)
    obtain ⟨hs9, h9⟩ := h9
    subst σ9
    refine z_if_ne (tgt := 17) dX9_speak_12 (by decide) ⟨by omega, by omega⟩ (fun h12 => ?_) (fun h12 => ?_)
    · skip
      refine z_aload_n dX9_speak_17 rfl ?_
      refine z_iload_n dX9_speak_18 rfl ?_
      refine z_callVI (d := d + 5) (av := [_]) dX9_speak_19 vX9_289 rfl (Nat.le_of_ble_eq_true rfl) rfl rfl rfl (Nat.le_of_ble_eq_true rfl) (Nat.le_refl _) (c_X9_rowFault hS (by omega)) (fun z19 σ19 h19 => ?_)
      obtain ⟨hz, hs19⟩ := h19
      subst σ19
      have ehr : hrM σ s m = z19 := by unfold hrM; rw [if_neg (by omega)]; exact hz.symm
      have hz3 : (z19 = -11) ∨ (z19 = 0 ∧ σ 117 s.toNat = -2) ∨ z19 = -12 := by
        rw [hz]
        by_cases q1 : σ 117 s.toNat = -1
        · rw [if_pos q1]; exact Or.inl rfl
        · by_cases q2 : σ 117 s.toNat = -2
          · rw [if_neg q1, if_pos q2]; exact Or.inr (Or.inl ⟨rfl, q2⟩)
          · rw [if_neg q1, if_neg q2]; exact Or.inr (Or.inr rfl)
      refine z_istore_n (L' := [_, _, _, _]) dX9_speak_22 (Nat.le_of_ble_eq_true rfl) rfl rfl ?_
      refine z_iload_n dX9_speak_23 rfl ?_
      refine z_if_ge (tgt := 29) dX9_speak_24 (by decide) ⟨by omega, by omega⟩ (fun h24 => ?_) (fun h24 => ?_)
      · skip
        refine z_aload_n dX9_speak_29 rfl ?_
        refine z_iload_n dX9_speak_30 rfl ?_
        refine z_callVV (d := d + 5) (av := [_]) dX9_speak_31 vX9_292 rfl (Nat.le_of_ble_eq_true rfl) rfl rfl rfl (Nat.le_of_ble_eq_true rfl) (Nat.le_refl _) (c_X9_laySaying w1 hS (by omega) (by omega)) (fun σ31 h31 => ?_)
        obtain ⟨hk1, hsd⟩ := h31
        have hW31 : WM LF σ31 := hk1.wm hW rfl
        have e88 : σ31 88 = σ 88 := hk1.1 88 (by decide) (by decide)
        refine z_aload_n dX9_speak_34 rfl ?_
        refine z_iload_n dX9_speak_35 rfl ?_
        refine z_aload_n dX9_speak_36 rfl ?_
        refine z_getR dX9_speak_37 gX9_30 rfl (Nat.le_of_ble_eq_true rfl) rfl ?_
        refine z_iload_n dX9_speak_40 rfl ?_
        refine z_iald dX9_speak_41 rfl (Nat.le_of_ble_eq_true rfl) (by omega) (fun hr41 => ?_)
        rw [e88]
        refine z_callVV (d := d + 5) (av := [_, _]) dX9_speak_42 vX9_296 rfl (Nat.le_of_ble_eq_true rfl) rfl rfl rfl (Nat.le_of_ble_eq_true rfl) (Nat.le_refl _) (c_X9_goThrough (LF := LF) (X := SYM σ s) hW31 (by omega) (by omega) hsd) (fun σ42 h42 => ?_)
        obtain ⟨hk2, t2, t3, t4, t5⟩ := h42
        have ecm : cmM LF σ31 m (SYM σ s) (σ 88 m.toNat) = SYMx LF σ s m (σ 88 m.toNat) := by show cmL (pasM LF σ31 (finM σ31 m)) _ _ _ = _; rw [hk1.fi rfl, hk1.pm rfl]
        rw [ecm] at t2 t3 t4 t5
        have hkA : KM σ σ42 := (hk1.mono (by decide) (by decide)).tr (hk2.mono (by decide) (by decide))
        have hlen := cmL_len (ps := pasM LF σ (finM σ m)) (SYM σ s) 0 (σ 88 m.toNat)
        have hwk := cmL_wok (ps := pasM LF σ (finM σ m)) (SYM σ s) 0 (σ 88 m.toNat) (SYM_wok w1.2)
        have hl12 := SYM_len (σ := σ) (s := s)
        have hlf : lfM σ42 (SYMx LF σ s m (σ 88 m.toNat)).2 := ⟨t3, t5, hwk.2, by show (cmL (pasM LF σ (finM σ m)) (SYM σ s) 0 (σ 88 m.toNat)).2.length ≤ 13; omega⟩
        have hca : caM σ42 (SYMx LF σ s m (σ 88 m.toNat)).1 := ⟨t2, t4, hwk.1, by show (cmL (pasM LF σ (finM σ m)) (SYM σ s) 0 (σ 88 m.toNat)).1.length ≤ 13; omega⟩
        have hW42 : WM LF σ42 := hkA.wm hW rfl
        have e83 : σ42 83 = σ 83 := hkA.1 83 (by decide) (by decide)
        have ehu : hurtM σ42 (SYMx LF σ s m (σ 88 m.toNat)).1 = hurtM σ (SYMx LF σ s m (σ 88 m.toNat)).1 := by unfold hurtM; rw [hkA.1 86 (by decide) (by decide), hkA.1 83 (by decide) (by decide), hkA.1 84 (by decide) (by decide), hkA.1 90 (by decide) (by decide), hkA.2 11 (by decide)]
        generalize hC : SYMx LF σ s m (σ 88 m.toNat) = C at *
        refine z_aload_n dX9_speak_45 rfl ?_
        refine z_getR dX9_speak_46 gX9_30 rfl (Nat.le_of_ble_eq_true rfl) rfl ?_
        refine z_iload_n dX9_speak_49 rfl ?_
        refine z_dup2 dX9_speak_50 rfl rfl ?_
        refine z_iald dX9_speak_51 rfl (Nat.le_of_ble_eq_true rfl) (by omega) (fun hr51 => ?_)
        refine z_aload_n dX9_speak_52 rfl ?_
        refine z_getI dX9_speak_53 gX9_283 rfl (Nat.le_of_ble_eq_true rfl) rfl (fun hr53 => ?_)
        refine z_iadd dX9_speak_56 ?_
        refine z_wr ?_
        refine z_iast dX9_speak_57 rfl (Nat.le_of_ble_eq_true rfl) (by omega) (wr_R _) ?_
        refine z_aload_n dX9_speak_58 rfl ?_
        refine z_getR dX9_speak_59 gX9_33 rfl (Nat.le_of_ble_eq_true rfl) rfl ?_
        refine z_iload_n dX9_speak_62 rfl ?_
        refine z_dup2 dX9_speak_63 rfl rfl ?_
        refine z_iald dX9_speak_64 rfl (Nat.le_of_ble_eq_true rfl) (by omega) (fun hr64 => ?_)
        try simp only [z_rd, Nat.reduceEqDiff, ↓reduceIte, eq_self] at hr64 ⊢
        refine z_aload_n dX9_speak_65 rfl ?_
        refine z_callVI (d := d + 5) (av := []) dX9_speak_66 vX9_306 rfl (Nat.le_of_ble_eq_true rfl) rfl rfl rfl (Nat.le_of_ble_eq_true rfl) (Nat.le_refl _) (c_X9_harmLeft (X := C.2) (fun j => by rw [z_put_ne (by decide), e83]; exact w83 j) (hlf.put (by decide) (by decide))) (fun z66 σ66 h66 => ?_)
        obtain ⟨rfl, hs66⟩ := h66
        subst σ66
        rw [z_put_ne (show (83 : Nat) ≠ 88 by decide), e83]
        refine z_iadd dX9_speak_69 ?_
        refine z_wr ?_
        refine z_iast dX9_speak_70 rfl (Nat.le_of_ble_eq_true rfl) (by omega) (wr_R _) ?_
        refine z_aload_n dX9_speak_71 rfl ?_
        refine z_getR dX9_speak_72 gX9_107 rfl (Nat.le_of_ble_eq_true rfl) rfl ?_
        refine z_iconst dX9_speak_75 ?_
        refine z_dup2 dX9_speak_76 rfl rfl ?_
        refine z_iald dX9_speak_77 rfl (Nat.le_of_ble_eq_true rfl) (by omega) (fun hr77 => ?_)
        try simp only [z_rd, Nat.reduceEqDiff, ↓reduceIte, eq_self] at hr77 ⊢
        refine z_iconst dX9_speak_78 ?_
        refine z_iadd dX9_speak_79 ?_
        refine z_wr ?_
        refine z_iast dX9_speak_80 rfl (Nat.le_of_ble_eq_true rfl) (by omega) (wr_R _) ?_
        refine z_aload_n dX9_speak_81 rfl ?_
        refine z_getR dX9_speak_82 gX9_107 rfl (Nat.le_of_ble_eq_true rfl) rfl ?_
        refine z_iconst dX9_speak_85 ?_
        refine z_dup2 dX9_speak_86 rfl rfl ?_
        refine z_iald dX9_speak_87 rfl (Nat.le_of_ble_eq_true rfl) (by omega) (fun hr87 => ?_)
        try simp only [z_rd, Nat.reduceEqDiff, ↓reduceIte, eq_self] at hr87 ⊢
        refine z_aload_n dX9_speak_88 rfl ?_
        refine z_getI dX9_speak_89 gX9_280 rfl (Nat.le_of_ble_eq_true rfl) rfl (fun hr89 => ?_)
        try simp only [z_rd, Nat.reduceEqDiff, ↓reduceIte, eq_self] at hr89 ⊢
        refine z_iadd dX9_speak_92 ?_
        refine z_wr ?_
        refine z_iast dX9_speak_93 rfl (Nat.le_of_ble_eq_true rfl) (by omega) (wr_R _) ?_
        refine z_aload_n dX9_speak_94 rfl ?_
        refine z_getR dX9_speak_95 gX9_107 rfl (Nat.le_of_ble_eq_true rfl) rfl ?_
        refine z_iconst dX9_speak_98 ?_
        refine z_dup2 dX9_speak_99 rfl rfl ?_
        refine z_iald dX9_speak_100 rfl (Nat.le_of_ble_eq_true rfl) (by omega) (fun hr100 => ?_)
        try simp only [z_rd, Nat.reduceEqDiff, ↓reduceIte, eq_self] at hr100 ⊢
        refine z_aload_n dX9_speak_101 rfl ?_
        refine z_getI dX9_speak_102 gX9_283 rfl (Nat.le_of_ble_eq_true rfl) rfl (fun hr102 => ?_)
        try simp only [z_rd, Nat.reduceEqDiff, ↓reduceIte, eq_self] at hr102 ⊢
        refine z_iadd dX9_speak_105 ?_
        refine z_wr ?_
        refine z_iast dX9_speak_106 rfl (Nat.le_of_ble_eq_true rfl) (by omega) (wr_R _) ?_
        refine z_aload_n dX9_speak_107 rfl ?_
        refine z_getR dX9_speak_108 gX9_107 rfl (Nat.le_of_ble_eq_true rfl) rfl ?_
        refine z_iconst dX9_speak_111 ?_
        refine z_dup2 dX9_speak_112 rfl rfl ?_
        refine z_iald dX9_speak_113 rfl (Nat.le_of_ble_eq_true rfl) (by omega) (fun hr113 => ?_)
        try simp only [z_rd, Nat.reduceEqDiff, ↓reduceIte, eq_self] at hr113 ⊢
        refine z_aload_n dX9_speak_114 rfl ?_
        refine z_iconst dX9_speak_115 ?_
        refine z_callVI (d := d + 5) (av := [_]) dX9_speak_116 vX9_302 rfl (Nat.le_of_ble_eq_true rfl) rfl rfl rfl (Nat.le_of_ble_eq_true rfl) (Nat.le_refl _) (c_X9_hurtBy (LF := LF) (X := C.1) (hW42.keep (fun j hj => by simp only [z_put_ne (show (9 : Nat) ≠ 88 by decide), z_put_ne (show (9 : Nat) ≠ 89 by decide), z_put_ne (show (9 : Nat) ≠ 111 by decide)]) (fun a ha => by rw [z_put_ne (by omega), z_put_ne (by omega), z_put_ne (by omega), z_put_ne (by omega), z_put_ne (by omega)])) hca.2.2.2 hca.2.2.1 (((((hca.put (by decide) (by decide)).put (by decide) (by decide)).put (by decide) (by decide)).put (by decide) (by decide)).put (by decide) (by decide)).hu) (fun z116 σ116 h116 => ?_)
        obtain ⟨rfl, hs116⟩ := h116
        subst σ116
        refine z_callSI (d := d + 5) (av := [_]) dX9_speak_119 sX9_339 rfl rfl (Nat.le_of_ble_eq_true rfl) (Nat.le_refl _) (c_X9_bitsOf ⟨(hurtL_R6 (show 0 ≤ σ42 9 11 ∧ σ42 9 11 ≤ 6 from hW42.2.2.1)).1, Int.lt_trans (hurtL_R6 (show 0 ≤ σ42 9 11 ∧ σ42 9 11 ≤ 6 from hW42.2.2.1)).2 (by decide)⟩) (fun z119 σ119 h119 => ?_)
        obtain ⟨rfl, hs119⟩ := h119
        subst σ119
        refine z_iadd dX9_speak_122 ?_
        refine z_wr ?_
        refine z_iast dX9_speak_123 rfl (Nat.le_of_ble_eq_true rfl) (by omega) (wr_R _) ?_
        refine z_aload_n dX9_speak_124 rfl ?_
        refine z_getI dX9_speak_125 gX9_280 rfl (Nat.le_of_ble_eq_true rfl) rfl (fun hr125 => ?_)
        try simp only [z_rd, Nat.reduceEqDiff, ↓reduceIte, eq_self] at hr125 ⊢
        exact z_iret dX9_speak_128 (Or.inr (Or.inr ⟨by omega, by rw [ehr]; omega, t2, σ42, hkA, by unfold nsM; rw [t2, t3, ← ehu]; rfl⟩))
      · skip
        refine z_iload_n dX9_speak_27 rfl ?_
        exact z_iret dX9_speak_28 (Or.inr (Or.inl ⟨by omega, by rw [ehr]; omega, ehr.symm, rfl⟩))
    · skip
      refine z_iconst dX9_speak_15 ?_
      exact z_iret dX9_speak_16 (by
        by_cases q : 0 ≤ m ∧ m < σ 9 7
        · exact Or.inr (Or.inl ⟨q, by unfold hrM; rw [if_pos (by omega)]; decide, by unfold hrM; rw [if_pos (by omega)], rfl⟩)
        · exact Or.inl ⟨q, rfl, rfl⟩)
