/-! ===== The reference: bits, the saying laid, speak ===== -/
def bnF : Nat → Int → Int
  | 0, _ => 0
  | f + 1, s => if s = 0 then 0 else 1 + bnF f (z_iandF s (s - 1))
def bnE : Nat → Int → Bool
  | 0, s => decide (s = 0)
  | f + 1, s => decide (s = 0) || bnE f (z_iandF s (s - 1))
theorem bn_d : ∀ a : Nat, a < 64 → ∀ b : Nat, b < 64 → bnE 12 ((64 * a + b : Nat) : Int) = true ∧ bnF 12 ((64 * a + b : Nat) : Int) = pcF 12 (64 * a + b) := by decide +kernel
theorem bn_I {s : Int} (h : 0 ≤ s ∧ s < 4096) : bnE 12 s = true ∧ bnF 12 s = bcF s := by
  have e := bn_d (s.toNat / 64) (by omega) (s.toNat % 64) (by omega)
  rw [show 64 * (s.toNat / 64) + s.toNat % 64 = s.toNat by omega, show ((s.toNat : Nat) : Int) = s by omega] at e
  rw [bcF_pcI h]
  exact e
set_option maxRecDepth 20000 in
theorem l_X9_bitsOf {d : Nat} {σ : Sto} {s0 : Int} : ∀ (f : Nat) (s c : Int), inR s → bnE f s = true → 0 ≤ c → c + f ≤ 1000 →
    Z (z_me cX9_bitsOf RX9 3 (some .int) (d + 0) (qI fun z σ' => z = c + bnF f s ∧ σ' = σ)) 4 [some (zI s0), some (zI c), some (zI s)] [] σ
  | 0, s, c, hs, he, h0, hc => by
    have he := of_decide_eq_true he
    refine z_iload_n dX9_bitsOf_4 rfl ?_
    refine z_if_eq (tgt := 20) dX9_bitsOf_5 (by decide) ⟨by omega, by omega⟩ (fun h5 => ?_) (fun h5 => ?_)
    · skip
      refine z_iload_n dX9_bitsOf_20 rfl ?_
      exact z_iret dX9_bitsOf_21 ⟨by rw [bnF]; omega, rfl⟩
    · exfalso; omega
  | f + 1, s, c, hs, he, h0, hc => by
    have r1 : inR (z_iandF s (s - 1)) := z_rng _
    refine z_iload_n dX9_bitsOf_4 rfl ?_
    refine z_if_eq (tgt := 20) dX9_bitsOf_5 (by decide) ⟨by omega, by omega⟩ (fun h5 => ?_) (fun h5 => ?_)
    · skip
      refine z_iload_n dX9_bitsOf_20 rfl ?_
      exact z_iret dX9_bitsOf_21 ⟨by rw [bnF, if_pos h5]; omega, rfl⟩
    · skip
      refine z_iinc (L' := [_, _, _]) dX9_bitsOf_8 (Nat.le_of_ble_eq_true rfl) rfl rfl rfl ?_
      refine z_iload_n dX9_bitsOf_11 rfl ?_
      refine z_iload_n dX9_bitsOf_12 rfl ?_
      refine z_iconst dX9_bitsOf_13 ?_
      refine z_isub dX9_bitsOf_14 ?_
      refine z_iand dX9_bitsOf_15 ?_
      refine z_istore_n (L' := [_, _, _]) dX9_bitsOf_16 (Nat.le_of_ble_eq_true rfl) rfl rfl ?_
      refine z_goto (tgt := 4) dX9_bitsOf_17 (by decide) ?_
      rw [bnF, if_neg h5, show c + (1 + bnF f (z_iandF s (s - 1))) = c + 1 + bnF f (z_iandF s (s - 1)) by omega]
      refine l_X9_bitsOf f _ (c + 1) r1 ?_ (by omega) (by omega)
      rw [bnE, Bool.or_eq_true] at he
      rcases he with q | q
      · exact absurd (of_decide_eq_true q) h5
      · exact q
set_option maxRecDepth 20000 in
theorem c_X9_bitsOf {d : Nat} {σ : Sto} {s : Int} (hs : 0 ≤ s ∧ s < 4096) : m_X9_bitsOf d [zI s] σ (qI fun z σ' => z = bcF s ∧ σ' = σ) := by
  refine z_does (L := [some (zI s), none, none]) rfl (by decide +kernel) (Nat.le_of_ble_eq_true rfl) rfl ?_
  refine z_iconst dX9_bitsOf_0 ?_
  refine z_istore_n (L' := [_, _, _]) dX9_bitsOf_1 (Nat.le_of_ble_eq_true rfl) rfl rfl ?_
  refine z_iload_n dX9_bitsOf_2 rfl ?_
  refine z_istore_n (L' := [_, _, _]) dX9_bitsOf_3 (Nat.le_of_ble_eq_true rfl) rfl rfl ?_
  have h := l_X9_bitsOf (d := d) (σ := σ) (s0 := s) 12 s 0 (by omega) (bn_I hs).1 (by omega) (by omega)
  rw [Int.zero_add, (bn_I hs).2] at h
  exact h
set_option maxRecDepth 20000 in
theorem c_X9_rowFault {d : Nat} {σ : Sto} {s : Int} (hS : SM σ) (hs : 0 ≤ s ∧ s < 6) : m_X9_rowFault d [zR 9, zI s] σ (qI fun z σ' => z = (if σ 117 s.toNat = -1 then -11 else if σ 117 s.toNat = -2 then 0 else -12) ∧ σ' = σ) := by
  obtain ⟨s1, -, -⟩ := hS s hs.1 hs.2
  refine z_does (L := [some (zR 9), some (zI s)]) rfl (by decide +kernel) (Nat.le_of_ble_eq_true rfl) rfl ?_
  refine z_aload_n dX9_rowFault_0 rfl ?_
  refine z_getR dX9_rowFault_1 gX9_125 rfl (Nat.le_of_ble_eq_true rfl) rfl ?_
  refine z_iload_n dX9_rowFault_4 rfl ?_
  refine z_iald dX9_rowFault_5 rfl (Nat.le_of_ble_eq_true rfl) (by omega) (fun hr5 => ?_)
  refine z_iconst dX9_rowFault_6 ?_
  refine z_icmp_ne (tgt := 15) dX9_rowFault_7 (by decide) ⟨by omega, by omega⟩ ⟨by omega, by omega⟩ (fun h7 => ?_) (fun h7 => ?_)
  · skip
    refine z_aload_n dX9_rowFault_15 rfl ?_
    refine z_getR dX9_rowFault_16 gX9_125 rfl (Nat.le_of_ble_eq_true rfl) rfl ?_
    refine z_iload_n dX9_rowFault_19 rfl ?_
    refine z_iald dX9_rowFault_20 rfl (Nat.le_of_ble_eq_true rfl) (by omega) (fun hr20 => ?_)
    refine z_bipush (v := -2) dX9_rowFault_21 (by decide +kernel) ?_
    refine z_icmp_ne (tgt := 30) dX9_rowFault_23 (by decide) ⟨by omega, by omega⟩ ⟨by omega, by omega⟩ (fun h23 => ?_) (fun h23 => ?_)
    · first
      | exfalso; omega
      | skip
        refine z_bipush (v := -12) dX9_rowFault_30 (by decide +kernel) ?_
        exact z_iret dX9_rowFault_32 (by
          refine ⟨?_, rfl⟩
          first
          | (rw [if_pos (by omega)]; done)
          | (rw [if_neg (by omega), if_pos (by omega)]; done)
          | (rw [if_neg (by omega), if_neg (by omega)]; done))
    · first
      | exfalso; omega
      | skip
        refine z_iconst dX9_rowFault_26 ?_
        refine z_goto (tgt := 32) dX9_rowFault_27 (by decide) ?_
        exact z_iret dX9_rowFault_32 (by
          refine ⟨?_, rfl⟩
          first
          | (rw [if_pos (by omega)]; done)
          | (rw [if_neg (by omega), if_pos (by omega)]; done)
          | (rw [if_neg (by omega), if_neg (by omega)]; done))
  · skip
    refine z_bipush (v := -11) dX9_rowFault_10 (by decide +kernel) ?_
    refine z_goto (tgt := 32) dX9_rowFault_12 (by decide) ?_
    exact z_iret dX9_rowFault_32 (by
      refine ⟨?_, rfl⟩
      first
      | (rw [if_pos (by omega)]; done)
      | (rw [if_neg (by omega), if_pos (by omega)]; done)
      | (rw [if_neg (by omega), if_neg (by omega)]; done))
set_option maxRecDepth 20000 in
theorem c_X9_at {d : Nat} {σ : Sto} {s i : Int} (hS : SM σ) (hs : 0 ≤ s ∧ s < 6) (h17 : σ 117 s.toNat = -2) (hi : 0 ≤ i ∧ i < 60) : m_X9_at d [zR 9, zI s, zI i] σ (qI fun z σ' => z = σ 119 (60 * s + i).toNat ∧ (-128 ≤ z ∧ z ≤ 127) ∧ σ' = σ) := by
  obtain ⟨-, -, s3⟩ := hS s hs.1 hs.2
  have s3 := s3 h17 i hi.1 hi.2
  refine z_does (L := [some (zR 9), some (zI s), some (zI i)]) rfl (by decide +kernel) (Nat.le_of_ble_eq_true rfl) rfl ?_
  refine z_aload_n dX9_at_0 rfl ?_
  refine z_getR dX9_at_1 gX9_131 rfl (Nat.le_of_ble_eq_true rfl) rfl ?_
  refine z_bipush (v := 60) dX9_at_4 (by decide +kernel) ?_
  refine z_iload_n dX9_at_6 rfl ?_
  refine z_imul dX9_at_7 ?_
  refine z_iload_n dX9_at_8 rfl ?_
  refine z_iadd dX9_at_9 ?_
  refine z_lald dX9_at_10 rfl (Nat.le_of_ble_eq_true rfl) (by omega) (fun hr10 => ?_)
  refine z_l2i dX9_at_11 ?_
  exact z_iret dX9_at_12 ⟨rfl, s3, rfl⟩
abbrev lsK : Sto → Sto → Prop := frM [103] [35]
abbrev SYM (σ : Sto) (s : Int) : List Int := sayL (rwM σ s) (σ 9 1) (min 12 (σ 118 s.toNat)).toNat 0
theorem SYM_len {σ : Sto} {s : Int} : (SYM σ s).length ≤ 12 := Nat.le_trans (sayL_len _ _) (by omega)
theorem SYM_wok {σ : Sto} {s : Int} (h : σ 9 1 ≤ 12) : wok (SYM σ s) := sayL_wok h _ _
theorem SM.fr {S J : List Nat} {σ τ : Sto} (h : frM S J σ τ) (h7 : 117 ∉ S) (h8 : 118 ∉ S) (h9 : 119 ∉ S) (hS : SM σ) : SM τ := fun t u v => by
  rw [h.1 117 h7 (by decide), h.1 118 h8 (by decide), h.1 119 h9 (by decide)]
  exact hS t u v
set_option maxRecDepth 20000 in
set_option maxHeartbeats 1000000 in
theorem l_X9_laySaying {d : Nat} {σ : Sto} {s : Int} (hc : 0 ≤ σ 9 1 ∧ σ 9 1 ≤ 12) (hS : SM σ) (hs : 0 ≤ s ∧ s < 6) (h17 : σ 117 s.toNat = -2) (n : Int) (hn : n = min 12 (σ 118 s.toNat)) :
    ∀ (m : Nat) (τ : Sto) (P : List Int) (i : Int), i + m = n → i = P.length → lsK σ τ → τ 9 35 = i → Seg τ 103 0 P →
    Z (z_me cX9_laySaying RX9 2 none (d + 2) (qV fun σ' => lsK σ σ' ∧ σ' 9 35 = ((P ++ sayL (rwM σ s) (σ 9 1) m i.toNat).length : Int) ∧ Seg σ' 103 0 (P ++ sayL (rwM σ s) (σ 9 1) m i.toNat))) 5 [some (zR 9), some (zI s)] [] τ
  | 0, τ, P, i, hi, hp, hK, h35, sP => by
    have e118 : τ 118 = σ 118 := hK.1 118 (by decide) (by decide)
    refine z_aload_n dX9_laySaying_5 rfl ?_
    refine z_getI dX9_laySaying_6 gX9_274 rfl (Nat.le_of_ble_eq_true rfl) rfl (fun hr6 => ?_)
    refine z_bipush (v := 12) dX9_laySaying_9 (by decide +kernel) ?_
    refine z_icmp_ge (tgt := 74) dX9_laySaying_11 (by decide) ⟨by omega, by omega⟩ ⟨by omega, by omega⟩ (fun h11 => ?_) (fun h11 => ?_)
    · skip
      exact z_vret dX9_laySaying_74 ⟨hK, by simp [sayL]; omega, by simpa [sayL] using sP⟩
    · skip
      refine z_aload_n dX9_laySaying_14 rfl ?_
      refine z_getI dX9_laySaying_15 gX9_274 rfl (Nat.le_of_ble_eq_true rfl) rfl (fun hr15 => ?_)
      refine z_aload_n dX9_laySaying_18 rfl ?_
      refine z_getR dX9_laySaying_19 gX9_128 rfl (Nat.le_of_ble_eq_true rfl) rfl ?_
      refine z_iload_n dX9_laySaying_22 rfl ?_
      refine z_iald dX9_laySaying_23 rfl (Nat.le_of_ble_eq_true rfl) (by omega) (fun hr23 => ?_)
      refine z_icmp_ge (tgt := 74) dX9_laySaying_24 (by decide) ⟨by omega, by omega⟩ ⟨by omega, by omega⟩ (fun h24 => ?_) (fun h24 => ?_)
      · skip
        exact z_vret dX9_laySaying_74 ⟨hK, by simp [sayL]; omega, by simpa [sayL] using sP⟩
      · exfalso; rw [e118] at h24; omega
  | m + 1, τ, P, i, hi, hp, hK, h35, sP => by
    have e118 : τ 118 = σ 118 := hK.1 118 (by decide) (by decide)
    have e117 : τ 117 = σ 117 := hK.1 117 (by decide) (by decide)
    have e119 : τ 119 = σ 119 := hK.1 119 (by decide) (by decide)
    have e91 : τ 9 1 = σ 9 1 := hK.2 1 (by decide)
    have hSt : SM τ := hS.fr hK (by decide) (by decide) (by decide)
    have ei : ((i.toNat : Nat) : Int) = i := by omega
    have er : rwM σ s i.toNat = τ 119 (60 * s + i).toNat := by show σ 119 (60 * s + ((i.toNat : Nat) : Int)).toNat = _; rw [ei, e119]
    have q8 := (hS s hs.1 hs.2).2.1
    refine z_aload_n dX9_laySaying_5 rfl ?_
    refine z_getI dX9_laySaying_6 gX9_274 rfl (Nat.le_of_ble_eq_true rfl) rfl (fun hr6 => ?_)
    refine z_bipush (v := 12) dX9_laySaying_9 (by decide +kernel) ?_
    refine z_icmp_ge (tgt := 74) dX9_laySaying_11 (by decide) ⟨by omega, by omega⟩ ⟨by omega, by omega⟩ (fun h11 => ?_) (fun h11 => ?_)
    · exfalso; omega
    · skip
      refine z_aload_n dX9_laySaying_14 rfl ?_
      refine z_getI dX9_laySaying_15 gX9_274 rfl (Nat.le_of_ble_eq_true rfl) rfl (fun hr15 => ?_)
      refine z_aload_n dX9_laySaying_18 rfl ?_
      refine z_getR dX9_laySaying_19 gX9_128 rfl (Nat.le_of_ble_eq_true rfl) rfl ?_
      refine z_iload_n dX9_laySaying_22 rfl ?_
      refine z_iald dX9_laySaying_23 rfl (Nat.le_of_ble_eq_true rfl) (by omega) (fun hr23 => ?_)
      refine z_icmp_ge (tgt := 74) dX9_laySaying_24 (by decide) ⟨by omega, by omega⟩ ⟨by omega, by omega⟩ (fun h24 => ?_) (fun h24 => ?_)
      · exfalso; rw [e118] at h24; omega
      · skip
        refine z_aload_n dX9_laySaying_27 rfl ?_
        refine z_aload_n dX9_laySaying_28 rfl ?_
        refine z_iload_n dX9_laySaying_29 rfl ?_
        refine z_aload_n dX9_laySaying_30 rfl ?_
        refine z_getI dX9_laySaying_31 gX9_274 rfl (Nat.le_of_ble_eq_true rfl) rfl (fun hr31 => ?_)
        rw [h35]
        refine z_callVI (d := d + 1) (av := [_, _]) dX9_laySaying_34 vX9_277 rfl (Nat.le_of_ble_eq_true rfl) rfl rfl rfl (Nat.le_of_ble_eq_true rfl) (Nat.le_refl _) (c_X9_at hSt hs (by rw [e117]; exact h17) (by omega)) (fun z34 σ34 h34 => ?_)
        obtain ⟨rfl, hat, hs34⟩ := h34
        subst σ34
        refine z_callVI (d := d + 1) (av := [_]) dX9_laySaying_37 vX9_177 rfl (Nat.le_of_ble_eq_true rfl) rfl rfl rfl (Nat.le_of_ble_eq_true rfl) (Nat.le_refl _) (c_X9_isWord (by rw [e91]; exact hc) (by omega)) (fun z37 σ37 h37 => ?_)
        obtain ⟨hs37, h37⟩ := h37
        subst σ37
        rw [e91] at h37
        refine z_if_eq (tgt := 74) dX9_laySaying_40 (by decide) ⟨by omega, by omega⟩ (fun h40 => ?_) (fun h40 => ?_)
        · skip
          exact z_vret dX9_laySaying_74 (by
            have e : sayL (rwM σ s) (σ 9 1) (m + 1) i.toNat = [] := by rw [sayL, if_neg (by rw [er]; omega)]
            rw [e, List.append_nil]
            exact ⟨hK, by omega, sP⟩)
        · skip
          refine z_aload_n dX9_laySaying_43 rfl ?_
          refine z_getR dX9_laySaying_44 gX9_81 rfl (Nat.le_of_ble_eq_true rfl) rfl ?_
          refine z_aload_n dX9_laySaying_47 rfl ?_
          refine z_getI dX9_laySaying_48 gX9_274 rfl (Nat.le_of_ble_eq_true rfl) rfl (fun hr48 => ?_)
          refine z_aload_n dX9_laySaying_51 rfl ?_
          refine z_iload_n dX9_laySaying_52 rfl ?_
          refine z_aload_n dX9_laySaying_53 rfl ?_
          refine z_getI dX9_laySaying_54 gX9_274 rfl (Nat.le_of_ble_eq_true rfl) rfl (fun hr54 => ?_)
          rw [h35]
          refine z_callVI (d := d + 1) (av := [_, _]) dX9_laySaying_57 vX9_277 rfl (Nat.le_of_ble_eq_true rfl) rfl rfl rfl (Nat.le_of_ble_eq_true rfl) (Nat.le_refl _) (c_X9_at hSt hs (by rw [e117]; exact h17) (by omega)) (fun z57 σ57 h57 => ?_)
          obtain ⟨rfl, hat2, hs57⟩ := h57
          subst σ57
          refine z_iast dX9_laySaying_60 rfl (Nat.le_of_ble_eq_true rfl) (by omega) ⟨by omega, by omega⟩ ?_
          refine z_aload_n dX9_laySaying_61 rfl ?_
          refine z_dup dX9_laySaying_62 rfl ?_
          refine z_getI dX9_laySaying_63 gX9_274 rfl (Nat.le_of_ble_eq_true rfl) rfl (fun hr63 => ?_)
          try simp only [z_rd, Nat.reduceEqDiff, ↓reduceIte, eq_self] at hr63 ⊢
          refine z_iconst dX9_laySaying_66 ?_
          refine z_iadd dX9_laySaying_67 ?_
          refine z_putI dX9_laySaying_68 pX9_274 rfl (Nat.le_of_ble_eq_true rfl) rfl ⟨by omega, by omega⟩ ?_
          refine z_goto (tgt := 5) dX9_laySaying_71 (by decide) ?_
          rw [sayL, if_pos (by rw [er]; omega), er]
          refine Z.mono (l_X9_laySaying hc hS hs h17 n hn m _ (P ++ [τ 119 (60 * s + i).toNat]) (i + 1) (by omega) (by rw [List.length_append]; simp only [List.length_cons, List.length_nil]; omega) (frM.putF (frM.putA hK (by decide) (by decide)) (by decide)) ?_ ?_) ?_
          · simp only [z_rd, ↓reduceIte, eq_self]; omega
          · exact Seg.row (z_put_ne (by decide)) (by rw [show i.toNat = P.length by omega]; exact Seg.put sP)
          · rintro r2 σ' ⟨hr2, q1, q2, q3⟩
            rw [toN_s (by omega)] at q2 q3
            simp only [List.append_assoc, List.cons_append, List.nil_append] at q2 q3
            exact ⟨hr2, q1, q2, q3⟩
set_option maxRecDepth 20000 in
theorem c_X9_laySaying {d : Nat} {σ : Sto} {s : Int} (hc : 0 ≤ σ 9 1 ∧ σ 9 1 ≤ 12) (hS : SM σ) (hs : 0 ≤ s ∧ s < 6) (h17 : σ 117 s.toNat = -2) : m_X9_laySaying d [zR 9, zI s] σ (qV fun σ' => lsK σ σ' ∧ sdM σ' (SYM σ s)) := by
  have q8 := (hS s hs.1 hs.2).2.1
  refine z_does (L := [some (zR 9), some (zI s)]) rfl (by decide +kernel) (Nat.le_of_ble_eq_true rfl) rfl ?_
  refine z_aload_n dX9_laySaying_0 rfl ?_
  refine z_iconst dX9_laySaying_1 ?_
  refine z_putI dX9_laySaying_2 pX9_274 rfl (Nat.le_of_ble_eq_true rfl) rfl ⟨by omega, by omega⟩ ?_
  have h := l_X9_laySaying (d := d) hc hS hs h17 _ rfl (min 12 (σ 118 s.toNat)).toNat (z_put σ 9 35 0) [] 0 (by omega) rfl (frM.putF (frM.rf _ _ σ) (by decide)) rfl trivial
  refine h.mono ?_
  rintro r2 σ' ⟨hr2, q1, q2, q3⟩
  exact ⟨hr2, q1, q2, q3, SYM_wok hc.2, Nat.le_trans SYM_len (by decide)⟩
