/-! ===== TalkStrainer: what is heard ===== -/
/-- the cells that the class's calls in thought may write -/
def KC (σ τ : Sto) : Prop := ∀ a, ¬ (a = 5 ∨ a = 10 ∨ a = 11 ∨ a = 28 ∨ a = 29 ∨ (40 ≤ a ∧ a ≤ 45) ∨ (47 ≤ a ∧ a ≤ 57) ∨ (59 ≤ a ∧ a ≤ 73)) → τ a = σ a
theorem KC.rf (σ : Sto) : KC σ σ := fun _ _ => rfl
theorem KC.tr {σ τ υ : Sto} (h : KC σ τ) (g : KC τ υ) : KC σ υ := fun a b => by rw [g a b, h a b]
theorem KC.wc {LF : LFT} {σ τ : Sto} (h : KC σ τ) (hW : WC LF σ) : WC LF τ := hW.keep (h 1 (by omega)) (h 3 (by omega)) (h 27 (by omega)) (fun a h1 h2 => h a (by omega))
theorem KC.ps {LF : LFT} {σ τ : Sto} {f : Int} (h : KC σ τ) : pasC LF τ f = pasC LF σ f := pas_cong (h 3 (by omega)) (h 13 (by omega)) (h 14 (by omega)) (h 15 (by omega)) (h 20 (by omega))
theorem KC.hurt {σ τ : Sto} (h : KC σ τ) (X : List Int) : hurtC τ X = hurtC σ X := by
  simp only [hurtC]
  rw [h 1 (by omega), h 17 (by omega), h 14 (by omega), h 15 (by omega), h 19 (by omega)]
theorem stK.kc {σ τ : Sto} (h : stK σ τ) : KC σ τ := fun a b => h a (by omega) (by omega) (by omega) (by omega) (by omega)
theorem pK.kc {σ τ : Sto} (h : pK σ τ) : KC σ τ := fun a b => h a (by omega) (by omega)
theorem k1.kc {σ τ : Sto} {k : Nat} (h : ∀ a, a ≠ k → τ a = σ a) (hk : k = 5 ∨ k = 10 ∨ k = 11 ∨ k = 42) : KC σ τ := fun a b => h a (by omega)
theorem k2.kc {σ τ : Sto} (h : ∀ a, a ≠ 28 → a ≠ 29 → τ a = σ a) : KC σ τ := fun a b => h a (by omega) (by omega)
theorem drK.kc {σ τ : Sto} (h : drK σ τ) : KC σ τ := fun a b => h a (by omega) (by omega) (by omega) (by omega) (by omega) (by omega) (by omega)
theorem wyK.kc {σ τ : Sto} (h : wyK σ τ) : KC σ τ := fun a b => h a (by omega) (by omega) (by omega)
theorem ssK.kc {σ τ : Sto} (h : ssK σ τ) : KC σ τ := fun a b => h a (by omega) (by omega) (by omega) (by omega)
theorem gmK.kc {σ τ : Sto} (h : gmK σ τ) : KC σ τ := fun a b => h a (by omega) (by omega) (by omega) (by omega)
theorem ubK.kc {σ τ : Sto} (h : ubK σ τ) : KC σ τ := fun a b => h a (by omega) (by omega) (by omega) (by omega) (by omega) (by omega) (by omega)
theorem fmK.kc {σ τ : Sto} (h : fmK σ τ) : KC σ τ := fun a b => h a (by omega) (by omega) (by omega)
/-- the class's shelves -/
def SH (σ : Sto) : Prop := ∀ s : Int, 0 ≤ s → s < 6 → (σ 30 s.toNat = -1 ∨ σ 30 s.toNat = -2 ∨ (0 ≤ σ 30 s.toNat ∧ σ 30 s.toNat ≤ 4)) ∧ (0 ≤ σ 32 s.toNat ∧ σ 32 s.toNat ≤ 60) ∧ (σ 30 s.toNat = 0 → ∀ j, -128 ≤ σ (34 + s.toNat) j ∧ σ (34 + s.toNat) j ≤ 127)
theorem KC.sh {σ τ : Sto} (h : KC σ τ) (hS : SH σ) : SH τ := fun s h1 h2 => by rw [h 30 (by omega), h 32 (by omega), h (34 + s.toNat) (by omega)]; exact hS s h1 h2
/-- the words of a row, from i on -/
def sayL (row : Nat → Int) (words : Int) : Nat → Nat → List Int
  | 0, _ => []
  | m + 1, i => if 0 ≤ row i ∧ row i < words then row i :: sayL row words m (i + 1) else []
theorem sayL_len {row : Nat → Int} {words : Int} : ∀ (m i : Nat), (sayL row words m i).length ≤ m
  | 0, _ => by simp [sayL]
  | m + 1, i => by
    rw [sayL]
    split
    · have := sayL_len m (i + 1) (row := row) (words := words); simp only [List.length_cons]; omega
    · simp
theorem sayL_wok {row : Nat → Int} {words : Int} (hw : words ≤ 12) : ∀ (m i : Nat), wok (sayL row words m i)
  | 0, _ => fun w h => absurd h (by simp [sayL])
  | m + 1, i => by
    rw [sayL]
    split
    · exact fun w h => (List.mem_cons.mp h).elim (fun e => by omega) (sayL_wok hw m (i + 1) w)
    · exact fun w h => absurd h (by simp)
abbrev SYC (σ : Sto) (s : Int) : List Int := sayL (σ (34 + s.toNat)) (σ 1 1) (min 12 (σ 32 s.toNat)).toNat 0
theorem SYC_len {σ : Sto} {s : Int} : (SYC σ s).length ≤ 12 := by
  exact Nat.le_trans (sayL_len _ _) (by omega)
theorem SYC_wok {σ : Sto} {s : Int} {LF : LFT} (hW : WC LF σ) : wok (SYC σ s) := sayL_wok hW.1.2 _ _
theorem KC.sy {σ τ : Sto} {s : Int} (h : KC σ τ) (hs : 0 ≤ s ∧ s < 6) : SYC τ s = SYC σ s := by
  unfold SYC
  rw [h 32 (by omega), h 1 (by omega), h (34 + s.toNat) (by omega)]
set_option maxRecDepth 20000 in
theorem l_X8_readSaying {d : Nat} {σ : Sto} {s : Int} {k : Nat} {rr : Nat → Nat} (hw : 0 ≤ σ 1 1 ∧ σ 1 1 ≤ 12) (hS : SH σ) (hs : 0 ≤ s ∧ s < 6) (h30 : σ 30 s.toNat = 0) (hk : z_lay k = .inr (0, 12, rr)) (hkn : k < z_NC) (hk2 : k = 10 ∨ k = 11) {n : Int} (hn : n = min 12 (σ 32 s.toNat)) :
    ∀ (m : Nat) (τ : Sto) (P : List Int) (i : Int), i + m = n → i = P.length → (∀ a, a ≠ k → τ a = σ a) → Seg τ k 0 P →
    Z (z_me cX8_readSaying RX8 7 (some .int) (d + 4) (qI fun z σ' => z = (P ++ sayL (σ (34 + s.toNat)) (σ 1 1) m i.toNat).length ∧ (∀ a, a ≠ k → σ' a = σ a) ∧ Seg σ' k 0 (P ++ sayL (σ (34 + s.toNat)) (σ 1 1) m i.toNat))) 22 [some (zR 0), some (zI s), some (zR k), some (zI n), some (zI i), none, none] [] τ
  | 0, τ, P, i, hi, hp, hK, sP => by
    refine z_iload dX8_readSaying_22 rfl ?_
    refine z_iload_n dX8_readSaying_24 rfl ?_
    refine z_icmp_ge (tgt := 77) dX8_readSaying_25 (by decide) ⟨by omega, by omega⟩ ⟨by omega, by omega⟩ (fun h25 => ?_) (fun h25 => ?_)
    · skip
      refine z_iload_n dX8_readSaying_77 rfl ?_
      exact z_iret dX8_readSaying_78 ⟨by simp [sayL]; omega, hK, by simpa [sayL] using sP⟩
    · exfalso; omega
  | m + 1, τ, P, i, hi, hp, hK, sP => by
    obtain ⟨h1, h2, h3⟩ := hS s hs.1 hs.2
    have h3 := h3 h30 i.toNat
    have e1 : τ 1 = σ 1 := hK 1 (by omega)
    have e30 : τ 30 = σ 30 := hK 30 (by omega)
    have e32 : τ 32 = σ 32 := hK 32 (by omega)
    have e34 : τ (34 + s.toNat) = σ (34 + s.toNat) := hK _ (by omega)
    have hlr : lenR τ s (σ 32 s.toNat) := by unfold lenR; rw [e32]
    refine z_iload dX8_readSaying_22 rfl ?_
    refine z_iload_n dX8_readSaying_24 rfl ?_
    refine z_icmp_ge (tgt := 77) dX8_readSaying_25 (by decide) ⟨by omega, by omega⟩ ⟨by omega, by omega⟩ (fun h25 => ?_) (fun h25 => ?_)
    · exfalso; omega
    · skip
      refine z_aload_n dX8_readSaying_28 rfl ?_
      refine z_getR dX8_readSaying_29 gX8_33 rfl (Nat.le_of_ble_eq_true rfl) rfl ?_
      refine z_iload_n dX8_readSaying_32 rfl ?_
      refine z_iload dX8_readSaying_33 rfl ?_
      refine z_callVJ (d := d + 3) (av := [_, _]) dX8_readSaying_35 vX8_184 rfl (Nat.le_of_ble_eq_true rfl) rfl rfl rfl (Nat.le_of_ble_eq_true rfl) (Nat.le_refl _) (c_X5_valueAt hs hlr (by omega) (by omega)) (fun z35 σ35 h35 => ?_)
      obtain ⟨hs35, hz, hzr⟩ := h35
      subst σ35
      have hz : z35 = σ (34 + s.toNat) i.toNat := by rcases hz with q | q; rw [q.2.2, e34]; exfalso; omega
      subst hz
      refine z_lstore (L' := [_, _, _, _, _, _, _]) dX8_readSaying_38 (Nat.le_of_ble_eq_true rfl) rfl rfl ?_
      refine z_lload dX8_readSaying_40 rfl ?_
      refine z_lconst (v := 0) dX8_readSaying_42 (by decide +kernel) ?_
      refine z_lc_lt (tgt := 61) dX8_readSaying_43 dX8_readSaying_44 (by decide) ⟨by omega, by omega⟩ ⟨by omega, by omega⟩ (fun h43 => ?_) (fun h43 => ?_)
      · skip
        refine z_iload dX8_readSaying_61 rfl ?_
        exact z_iret dX8_readSaying_63 ⟨by rw [sayL, if_neg (by omega)]; simp; omega, hK, by rw [sayL, if_neg (by omega), List.append_nil]; exact sP⟩
      · skip
        refine z_lload dX8_readSaying_47 rfl ?_
        refine z_aload_n dX8_readSaying_49 rfl ?_
        refine z_getR dX8_readSaying_50 gX8_10 rfl (Nat.le_of_ble_eq_true rfl) rfl ?_
        refine z_getI dX8_readSaying_53 gX8_135 rfl (Nat.le_of_ble_eq_true rfl) rfl (fun hr53 => ?_)
        try simp only [e1, z_rd, Nat.reduceEqDiff, ↓reduceIte, eq_self] at hr53 ⊢
        refine z_i2l dX8_readSaying_56 ⟨by omega, by omega⟩ ?_
        refine z_lc_lt (tgt := 64) dX8_readSaying_57 dX8_readSaying_58 (by decide) ⟨by omega, by omega⟩ ⟨by omega, by omega⟩ (fun h57 => ?_) (fun h57 => ?_)
        · skip
          refine z_aload_n dX8_readSaying_64 rfl ?_
          refine z_iload dX8_readSaying_65 rfl ?_
          refine z_lload dX8_readSaying_67 rfl ?_
          refine z_l2i dX8_readSaying_69 ?_
          refine z_iast dX8_readSaying_70 hk hkn (by omega) ⟨by omega, by omega⟩ ?_
          refine z_iinc (L' := [_, _, _, _, _, _, _]) dX8_readSaying_71 (Nat.le_of_ble_eq_true rfl) rfl rfl rfl ?_
          refine z_goto (tgt := 22) dX8_readSaying_74 (by decide) ?_
          refine z_forget [true, true, true, true, true, false, false] (L' := [_, _, _, _, _, _, _]) rfl ?_
          rw [sayL, if_pos ⟨by omega, by omega⟩, ← toN_s (show 0 ≤ i by omega), show P ++ σ (34 + s.toNat) i.toNat :: sayL (σ (34 + s.toNat)) (σ 1 1) m (i + 1).toNat = (P ++ [σ (34 + s.toNat) i.toNat]) ++ sayL (σ (34 + s.toNat)) (σ 1 1) m (i + 1).toNat by simp]
          refine l_X8_readSaying hw hS hs h30 hk hkn hk2 hn m _ (P ++ [σ (34 + s.toNat) i.toNat]) (i + 1) (by omega) (by simp; omega) (fun a ha => by rw [z_put_ne ha]; exact hK a ha) ?_
          rw [show i.toNat = P.length by omega]
          exact Seg.put sP
        · skip
          refine z_iload dX8_readSaying_61 rfl ?_
          exact z_iret dX8_readSaying_63 ⟨by rw [sayL, if_neg (by omega)]; simp; omega, hK, by rw [sayL, if_neg (by omega), List.append_nil]; exact sP⟩
set_option maxRecDepth 20000 in
theorem c_X8_readSaying {d : Nat} {σ : Sto} {s : Int} {k : Nat} {rr : Nat → Nat} (hw : 0 ≤ σ 1 1 ∧ σ 1 1 ≤ 12) (hS : SH σ) (hs : 0 ≤ s ∧ s < 6) (h30 : σ 30 s.toNat = 0) (hk : z_lay k = .inr (0, 12, rr)) (hkn : k < z_NC) (hk2 : k = 10 ∨ k = 11) : m_X8_readSaying d [zR 0, zI s, zR k] σ (qI fun z σ' => z = (SYC σ s).length ∧ (∀ a, a ≠ k → σ' a = σ a) ∧ Seg σ' k 0 (SYC σ s)) := by
  obtain ⟨h1, h2, h3⟩ := hS s hs.1 hs.2
  refine z_does (L := [some (zR 0), some (zI s), some (zR k), none, none, none, none]) rfl (by decide +kernel) (Nat.le_of_ble_eq_true rfl) rfl ?_
  refine z_aload_n dX8_readSaying_0 rfl ?_
  refine z_getR dX8_readSaying_1 gX8_33 rfl (Nat.le_of_ble_eq_true rfl) rfl ?_
  refine z_iload_n dX8_readSaying_4 rfl ?_
  refine z_callVI (d := d + 3) (av := [_]) dX8_readSaying_5 vX8_92 rfl (Nat.le_of_ble_eq_true rfl) rfl rfl rfl (Nat.le_of_ble_eq_true rfl) (Nat.le_refl _) (c_X5_lengthOf hs) (fun z5 σ5 h5 => ?_)
  obtain ⟨hs5, hl, hlr⟩ := h5
  subst σ5
  subst hl
  refine z_bipush (v := 12) dX8_readSaying_8 (by decide +kernel) ?_
  refine z_aload_n dX8_readSaying_10 rfl ?_
  refine z_alen dX8_readSaying_11 hk (Nat.le_of_ble_eq_true rfl) hkn ?_
  refine z_min dX8_readSaying_12 mX8_341 ⟨by omega, by omega⟩ ⟨by omega, by omega⟩ (Nat.le_of_ble_eq_true rfl) (Nat.le_add_left _ _) ?_
  refine z_min dX8_readSaying_15 mX8_341 ⟨by omega, by omega⟩ ⟨by omega, by omega⟩ (Nat.le_of_ble_eq_true rfl) (Nat.le_add_left _ _) ?_
  refine z_istore_n (L' := [_, _, _, _, _, _, _]) dX8_readSaying_18 (Nat.le_of_ble_eq_true rfl) rfl rfl ?_
  refine z_iconst dX8_readSaying_19 ?_
  refine z_istore (L' := [_, _, _, _, _, _, _]) dX8_readSaying_20 (Nat.le_of_ble_eq_true rfl) rfl rfl ?_
  rw [show min (σ 32 s.toNat) (min 12 ((12 : Nat) : Int)) = min 12 (σ 32 s.toNat) by omega]
  have h := l_X8_readSaying (d := d) hw hS hs h30 hk hkn hk2 rfl (min 12 (σ 32 s.toNat)).toNat σ [] 0 (by omega) rfl (fun _ _ => rfl) trivial
  simp only [List.nil_append] at h
  exact h
set_option maxRecDepth 20000 in
theorem c_X8_isMesh {d : Nat} {σ : Sto} {m : Int} (hm : inR m) : m_X8_isMesh d [zR 0, zI m] σ (qI fun z σ' => σ' = σ ∧ yn z (0 ≤ m ∧ m < σ 1 2)) := by
  refine z_does (L := [some (zR 0), some (zI m)]) rfl (by decide +kernel) (Nat.le_of_ble_eq_true rfl) rfl ?_
  refine z_iload_n dX8_isMesh_0 rfl ?_
  refine z_if_lt (tgt := 19) dX8_isMesh_1 (by decide) ⟨by omega, by omega⟩ (fun h1 => ?_) (fun h1 => ?_)
  · first
    | exfalso; omega
    | skip
      refine z_iconst dX8_isMesh_19 ?_
      exact z_zret dX8_isMesh_20 (by omega) ⟨rfl, by omega⟩
  · first
    | exfalso; omega
    | skip
      refine z_iload_n dX8_isMesh_4 rfl ?_
      refine z_aload_n dX8_isMesh_5 rfl ?_
      refine z_getR dX8_isMesh_6 gX8_10 rfl (Nat.le_of_ble_eq_true rfl) rfl ?_
      refine z_getI dX8_isMesh_9 gX8_188 rfl (Nat.le_of_ble_eq_true rfl) rfl (fun hr9 => ?_)
      refine z_icmp_ge (tgt := 19) dX8_isMesh_12 (by decide) ⟨by omega, by omega⟩ ⟨by omega, by omega⟩ (fun h12 => ?_) (fun h12 => ?_)
      · first
        | exfalso; omega
        | skip
          refine z_iconst dX8_isMesh_19 ?_
          exact z_zret dX8_isMesh_20 (by omega) ⟨rfl, by omega⟩
      · first
        | exfalso; omega
        | skip
          refine z_iconst dX8_isMesh_15 ?_
          refine z_goto (tgt := 20) dX8_isMesh_16 (by decide) ?_
          exact z_zret dX8_isMesh_20 (by omega) ⟨rfl, by omega⟩
set_option maxRecDepth 20000 in
theorem c_X8_isMeshOrNone {d : Nat} {σ : Sto} {m : Int} (hm : inR m) (h12 : 0 ≤ σ 1 2) : m_X8_isMeshOrNone d [zR 0, zI m] σ (qI fun z σ' => σ' = σ ∧ yn z (-1 ≤ m ∧ m < σ 1 2)) := by
  refine z_does (L := [some (zR 0), some (zI m)]) rfl (by decide +kernel) (Nat.le_of_ble_eq_true rfl) rfl ?_
  refine z_iload_n dX8_isMeshOrNone_0 rfl ?_
  refine z_iconst dX8_isMeshOrNone_1 ?_
  refine z_icmp_eq (tgt := 13) dX8_isMeshOrNone_2 (by decide) ⟨by omega, by omega⟩ ⟨by omega, by omega⟩ (fun h2 => ?_) (fun h2 => ?_)
  · first
    | exfalso; omega
    | skip
      refine z_iconst dX8_isMeshOrNone_13 ?_
      refine z_goto (tgt := 18) dX8_isMeshOrNone_14 (by decide) ?_
      exact z_zret dX8_isMeshOrNone_18 (by omega) ⟨rfl, by omega⟩
  · first
    | exfalso; omega
    | skip
      refine z_aload_n dX8_isMeshOrNone_5 rfl ?_
      refine z_iload_n dX8_isMeshOrNone_6 rfl ?_
      refine z_callVI (d := d + 0) (av := [_]) dX8_isMeshOrNone_7 vX8_119 rfl (Nat.le_of_ble_eq_true rfl) rfl rfl rfl (Nat.le_of_ble_eq_true rfl) (Nat.le_refl _) (c_X8_isMesh (by omega)) (fun z7 σ7 h7 => ?_)
      obtain ⟨hs7, h7⟩ := h7
      subst σ7
      refine z_if_eq (tgt := 17) dX8_isMeshOrNone_10 (by decide) ⟨by omega, by omega⟩ (fun h10 => ?_) (fun h10 => ?_)
      · first
        | exfalso; omega
        | skip
          refine z_iconst dX8_isMeshOrNone_17 ?_
          exact z_zret dX8_isMeshOrNone_18 (by omega) ⟨rfl, by omega⟩
      · first
        | exfalso; omega
        | skip
          refine z_iconst dX8_isMeshOrNone_13 ?_
          refine z_goto (tgt := 18) dX8_isMeshOrNone_14 (by decide) ?_
          exact z_zret dX8_isMeshOrNone_18 (by omega) ⟨rfl, by omega⟩
abbrev finC (σ : Sto) (m : Int) : Int := if m < 0 then -1 else σ 18 m.toNat
theorem finC_R {LF : LFT} {σ : Sto} {m : Int} (hW : WC LF σ) : -1 ≤ finC σ m ∧ finC σ m ≤ 9 := by
  have := hW.2.2.2.2.2.2.2.2.1 m.toNat
  unfold finC
  split <;> omega
theorem KC.fin {σ τ : Sto} {m : Int} (h : KC σ τ) : finC τ m = finC σ m := by unfold finC; rw [h 18 (by omega)]
set_option maxRecDepth 20000 in
theorem c_X8_fineOf {d : Nat} {σ : Sto} {m : Int} (hm : -1 ≤ m ∧ m < 12) : m_X8_fineOf d [zR 0, zI m] σ (qI fun z σ' => z = finC σ m ∧ σ' = σ) := by
  refine z_does (L := [some (zR 0), some (zI m)]) rfl (by decide +kernel) (Nat.le_of_ble_eq_true rfl) rfl ?_
  refine z_iload_n dX8_fineOf_0 rfl ?_
  refine z_iconst dX8_fineOf_1 ?_
  refine z_icmp_ne (tgt := 9) dX8_fineOf_2 (by decide) ⟨by omega, by omega⟩ ⟨by omega, by omega⟩ (fun h2 => ?_) (fun h2 => ?_)
  · first
    | exfalso; omega
    | skip
      refine z_aload_n dX8_fineOf_9 rfl ?_
      refine z_getR dX8_fineOf_10 gX8_10 rfl (Nat.le_of_ble_eq_true rfl) rfl ?_
      refine z_iload_n dX8_fineOf_13 rfl ?_
      refine z_iconst dX8_fineOf_14 ?_
      refine z_callVI (d := d + 0) (av := [_, _]) dX8_fineOf_15 vX8_107 rfl (Nat.le_of_ble_eq_true rfl) rfl rfl rfl (Nat.le_of_ble_eq_true rfl) (Nat.le_refl _) (c_X7_get5 (by omega)) (fun z15 σ15 h15 => ?_)
      obtain ⟨rfl, hs15⟩ := h15
      subst σ15
      exact z_iret dX8_fineOf_18 ⟨by unfold finC; first | rw [if_pos (by omega)] | rw [if_neg (by omega)], rfl⟩
  · first
    | exfalso; omega
    | skip
      refine z_iconst dX8_fineOf_5 ?_
      refine z_goto (tgt := 18) dX8_fineOf_6 (by decide) ?_
      exact z_iret dX8_fineOf_18 ⟨by unfold finC; first | rw [if_pos (by omega)] | rw [if_neg (by omega)], rfl⟩
def hrC (σ : Sto) (s m : Int) : Int := if ¬ (0 ≤ s ∧ s < 6) ∨ ¬ (-1 ≤ m ∧ m < σ 1 2) then -1 else if σ 30 s.toNat = -1 then -11 else if σ 30 s.toNat = 0 then 0 else -12
theorem hrC_0 {σ : Sto} {s m : Int} (h : hrC σ s m = 0) : (0 ≤ s ∧ s < 6) ∧ (-1 ≤ m ∧ m < σ 1 2) ∧ σ 30 s.toNat = 0 := by
  unfold hrC at h
  split at h
  · omega
  · split at h
    · omega
    · split at h
      · omega
      · omega
theorem hrC_n {σ : Sto} {s m : Int} (h : hrC σ s m ≠ 0) : -12 ≤ hrC σ s m ∧ hrC σ s m < 0 := by
  unfold hrC at h ⊢
  split
  · decide
  · split
    · decide
    · split
      · rename_i h1 h2 h3; rw [if_neg h1, if_neg h2, if_pos h3] at h; exact absurd rfl h
      · decide
theorem KC.hr {σ τ : Sto} {s m : Int} (h : KC σ τ) : hrC τ s m = hrC σ s m := by unfold hrC; rw [h 1 (by omega), h 30 (by omega)]
set_option maxRecDepth 20000 in
theorem c_X8_hear {d : Nat} {σ : Sto} {s m : Int} {LF : LFT} (hW : WC LF σ) (hS : SH σ) (hs : inR s) (hm : inR m) : m_X8_hear d [zR 0, zI s, zI m] σ (qI fun z σ' => (hrC σ s m ≠ 0 ∧ z = hrC σ s m ∧ z < 0 ∧ σ' = σ) ∨ (hrC σ s m = 0 ∧ z = (SYC σ s).length ∧ (∀ a, a ≠ 10 → σ' a = σ a) ∧ Seg σ' 10 0 (SYC σ s))) := by
  have w1 := hW.1
  have w2 := hW.2.1
  refine z_does (L := [some (zR 0), some (zI s), some (zI m), none]) rfl (by decide +kernel) (Nat.le_of_ble_eq_true rfl) rfl ?_
  refine z_iload_n dX8_hear_0 rfl ?_
  refine z_callSI (d := d + 4) (av := [_]) dX8_hear_1 sX8_84 rfl rfl (Nat.le_of_ble_eq_true rfl) (Nat.le_refl _) (c_X8_isShelf (by omega)) (fun z1 σ1 h1 => ?_)
  obtain ⟨hs1, h1⟩ := h1
  subst σ1
  refine z_if_eq (tgt := 15) dX8_hear_4 (by decide) ⟨by omega, by omega⟩ (fun h4 => ?_) (fun h4 => ?_)
  · first
    | exfalso; omega
    | skip
      refine z_iconst dX8_hear_15 ?_
      exact z_iret dX8_hear_16 (by
        have e : hrC σ s m = -1 := by unfold hrC; rw [if_pos (by omega)]
        rw [e]; exact Or.inl ⟨by decide, rfl, by decide, rfl⟩)
  · first
    | exfalso; omega
    | skip
      refine z_aload_n dX8_hear_7 rfl ?_
      refine z_iload_n dX8_hear_8 rfl ?_
      refine z_callVI (d := d + 4) (av := [_]) dX8_hear_9 vX8_212 rfl (Nat.le_of_ble_eq_true rfl) rfl rfl rfl (Nat.le_of_ble_eq_true rfl) (Nat.le_refl _) (c_X8_isMeshOrNone (by omega) (by omega)) (fun z9 σ9 h9 => ?_)
      obtain ⟨hs9, h9⟩ := h9
      subst σ9
      refine z_if_ne (tgt := 17) dX8_hear_12 (by decide) ⟨by omega, by omega⟩ (fun h12 => ?_) (fun h12 => ?_)
      · first
        | exfalso; omega
        | skip
          refine z_aload_n dX8_hear_17 rfl ?_
          refine z_getR dX8_hear_18 gX8_33 rfl (Nat.le_of_ble_eq_true rfl) rfl ?_
          refine z_iload_n dX8_hear_21 rfl ?_
          refine z_callVI (d := d + 4) (av := [_]) dX8_hear_22 vX8_88 rfl (Nat.le_of_ble_eq_true rfl) rfl rfl rfl (Nat.le_of_ble_eq_true rfl) (Nat.le_refl _) (c_X5_bytesRefusal (by omega)) (fun z22 σ22 h22 => ?_)
          obtain ⟨hs22, h22⟩ := h22
          subst σ22
          refine z_istore_n (L' := [_, _, _, _]) dX8_hear_25 (Nat.le_of_ble_eq_true rfl) rfl rfl ?_
          refine z_iload_n dX8_hear_26 rfl ?_
          refine z_if_eq (tgt := 34) dX8_hear_27 (by decide) ⟨by omega, by omega⟩ (fun h27 => ?_) (fun h27 => ?_)
          · first
            | exfalso; omega
            | skip
              refine z_aload_n dX8_hear_34 rfl ?_
              refine z_iload_n dX8_hear_35 rfl ?_
              refine z_aload_n dX8_hear_36 rfl ?_
              refine z_getR dX8_hear_37 gX8_69 rfl (Nat.le_of_ble_eq_true rfl) rfl ?_
              refine z_callVI (d := d + 4) (av := [_, _]) dX8_hear_40 vX8_180 rfl (Nat.le_of_ble_eq_true rfl) rfl rfl rfl (Nat.le_of_ble_eq_true rfl) (Nat.le_refl _) (c_X8_readSaying w1 hS (by omega) (by omega) rfl (Nat.le_of_ble_eq_true rfl) (by decide)) (fun z40 σ40 h40 => ?_)
              skip
              exact z_iret dX8_hear_43 (by
                first
                  | (refine Or.inr ⟨?_, h40⟩
                     unfold hrC
                     rw [if_neg (by omega), if_neg (by omega), if_pos (by omega)])
                  | (refine Or.inl ?_
                     have e : hrC σ s m = z22 := by
                       unfold hrC
                       rw [if_neg (by omega)]
                       rcases h22 with q | q | q
                       · rw [if_pos q.1, q.2]
                       · exfalso; omega
                       · rw [if_neg q.1, if_neg q.2.1, q.2.2]
                     rw [e]
                     exact ⟨by omega, rfl, by omega, rfl⟩))
          · first
            | exfalso; omega
            | skip
              refine z_iload_n dX8_hear_30 rfl ?_
              refine z_goto (tgt := 43) dX8_hear_31 (by decide) ?_
              exact z_iret dX8_hear_43 (by
                first
                  | (refine Or.inr ⟨?_, h40⟩
                     unfold hrC
                     rw [if_neg (by omega), if_neg (by omega), if_pos (by omega)])
                  | (refine Or.inl ?_
                     have e : hrC σ s m = z22 := by
                       unfold hrC
                       rw [if_neg (by omega)]
                       rcases h22 with q | q | q
                       · rw [if_pos q.1, q.2]
                       · exfalso; omega
                       · rw [if_neg q.1, if_neg q.2.1, q.2.2]
                     rw [e]
                     exact ⟨by omega, rfl, by omega, rfl⟩))
      · first
        | exfalso; omega
        | skip
          refine z_iconst dX8_hear_15 ?_
          exact z_iret dX8_hear_16 (by
            have e : hrC σ s m = -1 := by unfold hrC; rw [if_pos (by omega)]
            rw [e]; exact Or.inl ⟨by decide, rfl, by decide, rfl⟩)
def prC (σ : Sto) (two : Int) : Int := if ¬ (0 ≤ two ∧ two.tdiv 10 < 6 ∧ two.tmod 10 < 6) then -1 else if σ 30 (two.tdiv 10).toNat = -1 ∨ σ 30 (two.tmod 10).toNat = -1 then -11 else if σ 30 (two.tdiv 10).toNat = 0 ∧ σ 30 (two.tmod 10).toNat = 0 then 0 else -12
theorem dm10 {t : Int} (h : 0 ≤ t) : 0 ≤ t.tdiv 10 ∧ 0 ≤ t.tmod 10 ∧ t.tmod 10 < 10 ∧ t.tdiv 10 ≤ t := by
  rw [Int.tdiv_eq_ediv_of_nonneg h, Int.tmod_eq_emod_of_nonneg h]
  omega
theorem prC_0 {σ : Sto} {t : Int} (h : prC σ t = 0) : (0 ≤ t.tdiv 10 ∧ t.tdiv 10 < 6) ∧ (0 ≤ t.tmod 10 ∧ t.tmod 10 < 6) ∧ σ 30 (t.tdiv 10).toNat = 0 ∧ σ 30 (t.tmod 10).toNat = 0 ∧ 0 ≤ t := by
  unfold prC at h
  by_cases c : ¬ (0 ≤ t ∧ t.tdiv 10 < 6 ∧ t.tmod 10 < 6)
  · rw [if_pos c] at h; omega
  · have hd := dm10 (t := t) (by omega)
    rw [if_neg c] at h
    split at h
    · omega
    · split at h
      · rename_i c2
        exact ⟨by omega, by omega, c2.1, c2.2, by omega⟩
      · omega
theorem KC.pr {σ τ : Sto} {t : Int} (h : KC σ τ) : prC τ t = prC σ t := by unfold prC; rw [h 30 (by omega)]
set_option maxRecDepth 20000 in
theorem c_X8_pairRefusal {d : Nat} {σ : Sto} {t : Int} (ht : inR t) : m_X8_pairRefusal d [zR 0, zI t] σ (qI fun z σ' => z = prC σ t ∧ σ' = σ) := by
  have hd := dm10 (t := t)
  refine z_does (L := [some (zR 0), some (zI t), none, none]) rfl (by decide +kernel) (Nat.le_of_ble_eq_true rfl) rfl ?_
  refine z_iload_n dX8_pairRefusal_0 rfl ?_
  refine z_if_lt (tgt := 24) dX8_pairRefusal_1 (by decide) ⟨by omega, by omega⟩ (fun h1 => ?_) (fun h1 => ?_)
  · first
    | exfalso; omega
    | skip
      refine z_iconst dX8_pairRefusal_24 ?_
      exact z_iret dX8_pairRefusal_25 ⟨by
        unfold prC
        first
          | (rw [if_pos (by omega)]; done)
          | (rw [if_neg (by omega)]
             first
               | (rw [if_pos (by omega)]; done)
               | (rw [if_neg (by omega)]
                  by_cases c0 : σ 30 (t.tdiv 10).toNat = 0 ∧ σ 30 (t.tmod 10).toNat = 0
                  · rw [if_pos c0]; omega
                  · rw [if_neg c0]; omega)), rfl⟩
  · first
    | exfalso; omega
    | skip
      have hd := hd (by omega)
      refine z_iload_n dX8_pairRefusal_4 rfl ?_
      refine z_bipush (v := 10) dX8_pairRefusal_5 (by decide +kernel) ?_
      refine z_idiv dX8_pairRefusal_7 ⟨by omega, by omega⟩ ⟨by omega, by omega⟩ (by omega) ?_
      refine z_callSI (d := d + 3) (av := [_]) dX8_pairRefusal_8 sX8_84 rfl rfl (Nat.le_of_ble_eq_true rfl) (Nat.le_refl _) (c_X8_isShelf (by omega)) (fun z8 σ8 h8 => ?_)
      obtain ⟨hs8, h8⟩ := h8
      subst σ8
      refine z_if_eq (tgt := 24) dX8_pairRefusal_11 (by decide) ⟨by omega, by omega⟩ (fun h11 => ?_) (fun h11 => ?_)
      · first
        | exfalso; omega
        | skip
          refine z_iconst dX8_pairRefusal_24 ?_
          exact z_iret dX8_pairRefusal_25 ⟨by
            unfold prC
            first
              | (rw [if_pos (by omega)]; done)
              | (rw [if_neg (by omega)]
                 first
                   | (rw [if_pos (by omega)]; done)
                   | (rw [if_neg (by omega)]
                      by_cases c0 : σ 30 (t.tdiv 10).toNat = 0 ∧ σ 30 (t.tmod 10).toNat = 0
                      · rw [if_pos c0]; omega
                      · rw [if_neg c0]; omega)), rfl⟩
      · first
        | exfalso; omega
        | skip
          refine z_iload_n dX8_pairRefusal_14 rfl ?_
          refine z_bipush (v := 10) dX8_pairRefusal_15 (by decide +kernel) ?_
          refine z_irem dX8_pairRefusal_17 ⟨by omega, by omega⟩ ⟨by omega, by omega⟩ (by omega) ?_
          refine z_callSI (d := d + 3) (av := [_]) dX8_pairRefusal_18 sX8_84 rfl rfl (Nat.le_of_ble_eq_true rfl) (Nat.le_refl _) (c_X8_isShelf (by omega)) (fun z18 σ18 h18 => ?_)
          obtain ⟨hs18, h18⟩ := h18
          subst σ18
          refine z_if_ne (tgt := 26) dX8_pairRefusal_21 (by decide) ⟨by omega, by omega⟩ (fun h21 => ?_) (fun h21 => ?_)
          · first
            | exfalso; omega
            | skip
              refine z_aload_n dX8_pairRefusal_26 rfl ?_
              refine z_getR dX8_pairRefusal_27 gX8_33 rfl (Nat.le_of_ble_eq_true rfl) rfl ?_
              refine z_iload_n dX8_pairRefusal_30 rfl ?_
              refine z_bipush (v := 10) dX8_pairRefusal_31 (by decide +kernel) ?_
              refine z_idiv dX8_pairRefusal_33 ⟨by omega, by omega⟩ ⟨by omega, by omega⟩ (by omega) ?_
              refine z_callVI (d := d + 3) (av := [_]) dX8_pairRefusal_34 vX8_88 rfl (Nat.le_of_ble_eq_true rfl) rfl rfl rfl (Nat.le_of_ble_eq_true rfl) (Nat.le_refl _) (c_X5_bytesRefusal (by omega)) (fun z34 σ34 h34 => ?_)
              obtain ⟨hs34, h34⟩ := h34
              subst σ34
              refine z_istore_n (L' := [_, _, _, _]) dX8_pairRefusal_37 (Nat.le_of_ble_eq_true rfl) rfl rfl ?_
              refine z_aload_n dX8_pairRefusal_38 rfl ?_
              refine z_getR dX8_pairRefusal_39 gX8_33 rfl (Nat.le_of_ble_eq_true rfl) rfl ?_
              refine z_iload_n dX8_pairRefusal_42 rfl ?_
              refine z_bipush (v := 10) dX8_pairRefusal_43 (by decide +kernel) ?_
              refine z_irem dX8_pairRefusal_45 ⟨by omega, by omega⟩ ⟨by omega, by omega⟩ (by omega) ?_
              refine z_callVI (d := d + 3) (av := [_]) dX8_pairRefusal_46 vX8_88 rfl (Nat.le_of_ble_eq_true rfl) rfl rfl rfl (Nat.le_of_ble_eq_true rfl) (Nat.le_refl _) (c_X5_bytesRefusal (by omega)) (fun z46 σ46 h46 => ?_)
              obtain ⟨hs46, h46⟩ := h46
              subst σ46
              refine z_istore_n (L' := [_, _, _, _]) dX8_pairRefusal_49 (Nat.le_of_ble_eq_true rfl) rfl rfl ?_
              refine z_iload_n dX8_pairRefusal_50 rfl ?_
              refine z_bipush (v := -11) dX8_pairRefusal_51 (by decide +kernel) ?_
              refine z_icmp_eq (tgt := 62) dX8_pairRefusal_53 (by decide) ⟨by omega, by omega⟩ ⟨by omega, by omega⟩ (fun h53 => ?_) (fun h53 => ?_)
              · first
                | exfalso; omega
                | skip
                  refine z_bipush (v := -11) dX8_pairRefusal_62 (by decide +kernel) ?_
                  exact z_iret dX8_pairRefusal_64 ⟨by
                    unfold prC
                    first
                      | (rw [if_pos (by omega)]; done)
                      | (rw [if_neg (by omega)]
                         first
                           | (rw [if_pos (by omega)]; done)
                           | (rw [if_neg (by omega)]
                              by_cases c0 : σ 30 (t.tdiv 10).toNat = 0 ∧ σ 30 (t.tmod 10).toNat = 0
                              · rw [if_pos c0]; omega
                              · rw [if_neg c0]; omega)), rfl⟩
              · first
                | exfalso; omega
                | skip
                  refine z_iload_n dX8_pairRefusal_56 rfl ?_
                  refine z_bipush (v := -11) dX8_pairRefusal_57 (by decide +kernel) ?_
                  refine z_icmp_ne (tgt := 65) dX8_pairRefusal_59 (by decide) ⟨by omega, by omega⟩ ⟨by omega, by omega⟩ (fun h59 => ?_) (fun h59 => ?_)
                  · first
                    | exfalso; omega
                    | skip
                      refine z_iload_n dX8_pairRefusal_65 rfl ?_
                      refine z_if_eq (tgt := 73) dX8_pairRefusal_66 (by decide) ⟨by omega, by omega⟩ (fun h66 => ?_) (fun h66 => ?_)
                      · first
                        | exfalso; omega
                        | skip
                          refine z_iload_n dX8_pairRefusal_73 rfl ?_
                          exact z_iret dX8_pairRefusal_74 ⟨by
                            unfold prC
                            first
                              | (rw [if_pos (by omega)]; done)
                              | (rw [if_neg (by omega)]
                                 first
                                   | (rw [if_pos (by omega)]; done)
                                   | (rw [if_neg (by omega)]
                                      by_cases c0 : σ 30 (t.tdiv 10).toNat = 0 ∧ σ 30 (t.tmod 10).toNat = 0
                                      · rw [if_pos c0]; omega
                                      · rw [if_neg c0]; omega)), rfl⟩
                      · first
                        | exfalso; omega
                        | skip
                          refine z_iload_n dX8_pairRefusal_69 rfl ?_
                          refine z_goto (tgt := 74) dX8_pairRefusal_70 (by decide) ?_
                          exact z_iret dX8_pairRefusal_74 ⟨by
                            unfold prC
                            first
                              | (rw [if_pos (by omega)]; done)
                              | (rw [if_neg (by omega)]
                                 first
                                   | (rw [if_pos (by omega)]; done)
                                   | (rw [if_neg (by omega)]
                                      by_cases c0 : σ 30 (t.tdiv 10).toNat = 0 ∧ σ 30 (t.tmod 10).toNat = 0
                                      · rw [if_pos c0]; omega
                                      · rw [if_neg c0]; omega)), rfl⟩
                  · first
                    | exfalso; omega
                    | skip
                      refine z_bipush (v := -11) dX8_pairRefusal_62 (by decide +kernel) ?_
                      exact z_iret dX8_pairRefusal_64 ⟨by
                        unfold prC
                        first
                          | (rw [if_pos (by omega)]; done)
                          | (rw [if_neg (by omega)]
                             first
                               | (rw [if_pos (by omega)]; done)
                               | (rw [if_neg (by omega)]
                                  by_cases c0 : σ 30 (t.tdiv 10).toNat = 0 ∧ σ 30 (t.tmod 10).toNat = 0
                                  · rw [if_pos c0]; omega
                                  · rw [if_neg c0]; omega)), rfl⟩
          · first
            | exfalso; omega
            | skip
              refine z_iconst dX8_pairRefusal_24 ?_
              exact z_iret dX8_pairRefusal_25 ⟨by
                unfold prC
                first
                  | (rw [if_pos (by omega)]; done)
                  | (rw [if_neg (by omega)]
                     first
                       | (rw [if_pos (by omega)]; done)
                       | (rw [if_neg (by omega)]
                          by_cases c0 : σ 30 (t.tdiv 10).toNat = 0 ∧ σ 30 (t.tmod 10).toNat = 0
                          · rw [if_pos c0]; omega
                          · rw [if_neg c0]; omega)), rfl⟩
