/-! ===== The reference's questions: most ===== -/
theorem setL_lenm {s : Int} : ∀ (m : Nat) (w : Int), (setL s m w).length ≤ m
  | 0, _ => by simp [setL]
  | m + 1, w => by
    have h := setL_lenm (s := s) m (w + 1)
    rw [setL]
    split
    · rw [List.length_cons]; omega
    · omega
theorem setL_wokm {s : Int} : ∀ (m : Nat) (w : Int), 0 ≤ w → w + m ≤ 12 → wok (setL s m w)
  | 0, _, _, _ => fun w h => absurd h (by simp [setL])
  | m + 1, w, h0, h1 => by
    have h := setL_wokm (s := s) m (w + 1) (by omega) (by omega)
    rw [setL]
    split
    · exact fun x hx => (List.mem_cons.mp hx).elim (fun e => by omega) (h x)
    · exact h
theorem setL_0 : ∀ (m : Nat) (w : Int), 0 ≤ w → w + m ≤ 12 → setL 0 m w = []
  | 0, _, _, _ => rfl
  | m + 1, w, h0, h1 => by
    have hb : bt 0 w = 0 := by rw [bt_tb (by decide) (by omega)]; simp
    rw [setL, if_neg (fun q => q hb)]
    exact setL_0 m (w + 1) (by omega) (by omega)
theorem bitL_0 {c : Int → Bool} (h : ∀ x, c x = false) : ∀ (m : Nat) (p : Int), bitL c m p 0 = 0
  | 0, _ => rfl
  | m + 1, p => by rw [bitL, h p, if_neg Bool.false_ne_true]; exact bitL_0 h m (p + 1)
theorem hurtM_nil {σ : Sto} (h : ∀ j, 0 ≤ σ 90 j ∧ σ 90 j ≤ 9) : hurtM σ [] = 0 := bitL_0 (fun x => decide_eq_false (by have := h x.toNat; show ¬ (0 > 9 - σ 90 x.toNat); omega)) _ _
set_option maxRecDepth 20000 in
theorem l_X9_laySet {d : Nat} {σ : Sto} {s : Int} (hc : 0 ≤ σ 9 1 ∧ σ 9 1 ≤ 12) (hs : 0 ≤ s ∧ s < 4096) :
    ∀ (k : Nat) (τ : Sto) (P : List Int) (w : Int), 0 ≤ w → w + k = σ 9 1 → lsK σ τ → τ 9 35 = (P.length : Int) → Seg τ 103 0 P → (P.length : Int) ≤ w →
    Z (z_me cX9_laySet RX9 3 none (d + 0) (qV fun σ' => lsK σ σ' ∧ σ' 9 35 = ((P ++ setL s k w).length : Int) ∧ Seg σ' 103 0 (P ++ setL s k w))) 7 [some (zR 9), some (zI s), some (zI w)] [] τ
  | 0, τ, P, w, h0, hk, hK, h35, sP, hP => by
    have e1 : τ 9 1 = σ 9 1 := hK.2 1 (by decide)
    refine z_iload_n dX9_laySet_7 rfl ?_
    refine z_aload_n dX9_laySet_8 rfl ?_
    refine z_getI dX9_laySet_9 gX9_140 rfl (Nat.le_of_ble_eq_true rfl) rfl (fun hr9 => ?_)
    refine z_icmp_ge (tgt := 52) dX9_laySet_12 (by decide) ⟨by omega, by omega⟩ ⟨by omega, by omega⟩ (fun h12 => ?_) (fun h12 => ?_)
    · skip
      exact z_vret dX9_laySet_52 ⟨hK, by simp [setL]; omega, by simpa [setL] using sP⟩
    · exfalso; omega
  | k + 1, τ, P, w, h0, hk, hK, h35, sP, hP => by
    have e1 : τ 9 1 = σ 9 1 := hK.2 1 (by decide)
    have hbr : inR (z_iandF (z_ishrF s w) 1) := z_rng _
    refine z_iload_n dX9_laySet_7 rfl ?_
    refine z_aload_n dX9_laySet_8 rfl ?_
    refine z_getI dX9_laySet_9 gX9_140 rfl (Nat.le_of_ble_eq_true rfl) rfl (fun hr9 => ?_)
    refine z_icmp_ge (tgt := 52) dX9_laySet_12 (by decide) ⟨by omega, by omega⟩ ⟨by omega, by omega⟩ (fun h12 => ?_) (fun h12 => ?_)
    · exfalso; omega
    · skip
      refine z_iload_n dX9_laySet_15 rfl ?_
      refine z_iload_n dX9_laySet_16 rfl ?_
      refine z_ishr dX9_laySet_17 ?_
      refine z_iconst dX9_laySet_18 ?_
      refine z_iand dX9_laySet_19 ?_
      refine z_if_ne (tgt := 26) dX9_laySet_20 (by decide) ⟨by omega, by omega⟩ (fun h20 => ?_) (fun h20 => ?_)
      · skip
        refine z_aload_n dX9_laySet_26 rfl ?_
        refine z_getR dX9_laySet_27 gX9_81 rfl (Nat.le_of_ble_eq_true rfl) rfl ?_
        refine z_aload_n dX9_laySet_30 rfl ?_
        refine z_getI dX9_laySet_31 gX9_274 rfl (Nat.le_of_ble_eq_true rfl) rfl (fun hr31 => ?_)
        refine z_iload_n dX9_laySet_34 rfl ?_
        refine z_iast dX9_laySet_35 rfl (Nat.le_of_ble_eq_true rfl) (by omega) ⟨by omega, by omega⟩ ?_
        refine z_aload_n dX9_laySet_36 rfl ?_
        refine z_dup dX9_laySet_37 rfl ?_
        refine z_getI dX9_laySet_38 gX9_274 rfl (Nat.le_of_ble_eq_true rfl) rfl (fun hr38 => ?_)
        try simp only [z_rd, Nat.reduceEqDiff, ↓reduceIte, eq_self] at hr38 ⊢
        refine z_iconst dX9_laySet_41 ?_
        refine z_iadd dX9_laySet_42 ?_
        refine z_putI dX9_laySet_43 pX9_274 rfl (Nat.le_of_ble_eq_true rfl) rfl ⟨by omega, by omega⟩ ?_
        refine z_iinc (L' := [_, _, _]) dX9_laySet_46 (Nat.le_of_ble_eq_true rfl) rfl rfl rfl ?_
        refine z_goto (tgt := 7) dX9_laySet_49 (by decide) ?_
        first
          | (have hb : bt s w ≠ 0 := h20
             rw [setL, if_pos hb]
             refine Z.mono (l_X9_laySet hc hs k _ (P ++ [w]) (w + 1) (by omega) (by omega) (frM.putF (frM.putA hK (by decide) (by decide)) (by decide)) ?_ ?_ (by rw [List.length_append]; simp only [List.length_cons, List.length_nil]; omega)) ?_
             · simp only [z_rd, ↓reduceIte, eq_self, List.length_append, List.length_cons, List.length_nil]; omega
             · exact Seg.row (z_put_ne (by decide)) (by rw [h35, show ((P.length : Int)).toNat = P.length by omega]; exact Seg.put sP)
             · rintro r2 σ' ⟨hr2, q1, q2, q3⟩
               simp only [List.append_assoc, List.cons_append, List.nil_append] at q2 q3
               exact ⟨hr2, q1, q2, q3⟩)
          | (have hb : bt s w = 0 := by first | exact h20 | exact Classical.not_not.mp h20
             rw [setL, if_neg (fun q => q hb)]
             exact l_X9_laySet hc hs k _ P (w + 1) (by omega) (by omega) hK h35 sP (by omega))
      · skip
        refine z_goto (tgt := 46) dX9_laySet_23 (by decide) ?_
        refine z_iinc (L' := [_, _, _]) dX9_laySet_46 (Nat.le_of_ble_eq_true rfl) rfl rfl rfl ?_
        refine z_goto (tgt := 7) dX9_laySet_49 (by decide) ?_
        first
          | (have hb : bt s w ≠ 0 := h20
             rw [setL, if_pos hb]
             refine Z.mono (l_X9_laySet hc hs k _ (P ++ [w]) (w + 1) (by omega) (by omega) (frM.putF (frM.putA hK (by decide) (by decide)) (by decide)) ?_ ?_ (by rw [List.length_append]; simp only [List.length_cons, List.length_nil]; omega)) ?_
             · simp only [z_rd, ↓reduceIte, eq_self, List.length_append, List.length_cons, List.length_nil]; omega
             · exact Seg.row (z_put_ne (by decide)) (by rw [h35, show ((P.length : Int)).toNat = P.length by omega]; exact Seg.put sP)
             · rintro r2 σ' ⟨hr2, q1, q2, q3⟩
               simp only [List.append_assoc, List.cons_append, List.nil_append] at q2 q3
               exact ⟨hr2, q1, q2, q3⟩)
          | (have hb : bt s w = 0 := by first | exact h20 | exact Classical.not_not.mp h20
             rw [setL, if_neg (fun q => q hb)]
             exact l_X9_laySet hc hs k _ P (w + 1) (by omega) (by omega) hK h35 sP (by omega))
set_option maxRecDepth 20000 in
theorem c_X9_laySet {d : Nat} {σ : Sto} {s : Int} (hc : 0 ≤ σ 9 1 ∧ σ 9 1 ≤ 12) (hs : 0 ≤ s ∧ s < 4096) : m_X9_laySet d [zR 9, zI s] σ (qV fun σ' => lsK σ σ' ∧ sdM σ' (setL s (σ 9 1).toNat 0)) := by
  have hl := setL_lenm (s := s) (σ 9 1).toNat 0
  refine z_does (L := [some (zR 9), some (zI s), none]) rfl (by decide +kernel) (Nat.le_of_ble_eq_true rfl) rfl ?_
  refine z_aload_n dX9_laySet_0 rfl ?_
  refine z_iconst dX9_laySet_1 ?_
  refine z_putI dX9_laySet_2 pX9_274 rfl (Nat.le_of_ble_eq_true rfl) rfl ⟨by omega, by omega⟩ ?_
  refine z_iconst dX9_laySet_5 ?_
  refine z_istore_n (L' := [_, _, _]) dX9_laySet_6 (Nat.le_of_ble_eq_true rfl) rfl rfl ?_
  refine (l_X9_laySet (d := d) hc hs (σ 9 1).toNat (z_put σ 9 35 0) [] 0 (by omega) (by omega) (frM.putF (frM.rf _ _ σ) (by decide)) rfl trivial (by decide)).mono ?_
  rintro r2 σ' ⟨hr2, q1, q2, q3⟩
  exact ⟨hr2, q1, q2, q3, setL_wokm _ _ (by omega) (by omega), by show (setL s (σ 9 1).toNat 0).length ≤ 13; omega⟩
abbrev huM (σ : Sto) (s : Int) : Int := hurtM σ (setL s (σ 9 1).toNat 0)
set_option maxRecDepth 20000 in
set_option maxHeartbeats 1000000 in
theorem l_X9_most {d : Nat} {σ : Sto} {LF : LFT} {w : Int} (hW : WM LF σ) (hw : 0 ≤ w ∧ w ≤ 1) :
    ∀ (k : Nat) (τ : Sto) (s best : Int), 1 ≤ s → s + k = (2 ^ (σ 9 1).toNat : Nat) → (0 ≤ best ∧ best < 4096) → KM σ τ →
    Z (z_me cX9_most RX9 4 (some .int) (d + 1) (qI fun z σ' => z = (if w = 0 then pcF 12 (ghF (huM σ) k s best (pcF 12 best.toNat)).toNat else ghF (huM σ) k s best (pcF 12 best.toNat)) ∧ KM σ σ')) 15 [some (zR 9), some (zI w), some (zI best), some (zI s)] [] τ
  | 0, τ, s, best, h0, hs, hb, hk => by
    have w1 := hW.1
    have e1 : τ 9 1 = σ 9 1 := hk.2 1 (by decide)
    have hsh := shl1I (w := τ 9 1) (by omega)
    have p12 := pow12 (show (σ 9 1).toNat ≤ 12 by omega)
    have hpb := bcF_pcI (s := best) (by omega)
    rw [e1] at hsh
    refine z_iload_n dX9_most_15 rfl ?_
    refine z_iconst dX9_most_16 ?_
    refine z_aload_n dX9_most_17 rfl ?_
    refine z_getI dX9_most_18 gX9_140 rfl (Nat.le_of_ble_eq_true rfl) rfl (fun hr18 => ?_)
    refine z_ishl dX9_most_21 ?_
    rw [e1, hsh]
    refine z_icmp_ge (tgt := 64) dX9_most_22 (by decide) ⟨by omega, by omega⟩ ⟨by omega, by omega⟩ (fun h22 => ?_) (fun h22 => ?_)
    · skip
      refine z_iload_n dX9_most_64 rfl ?_
      refine z_if_ge (tgt := 73) dX9_most_65 (by decide) ⟨by omega, by omega⟩ (fun h65 => ?_) (fun h65 => ?_)
      · skip
        refine z_iload_n dX9_most_73 rfl ?_
        refine z_if_ne (tgt := 84) dX9_most_74 (by decide) ⟨by omega, by omega⟩ (fun h74 => ?_) (fun h74 => ?_)
        · skip
          refine z_iload_n dX9_most_84 rfl ?_
          exact z_iret dX9_most_85 ⟨by first | (rw [if_pos (by omega)]; exact hpb) | (rw [if_neg (by omega)]; rfl), hk⟩
        · skip
          refine z_iload_n dX9_most_77 rfl ?_
          refine z_callSI (d := d + 0) (av := [_]) dX9_most_78 sX9_339 rfl rfl (Nat.le_of_ble_eq_true rfl) (Nat.le_refl _) (c_X9_bitsOf (by omega)) (fun z78 σ78 h78 => ?_)
          obtain ⟨rfl, hs78⟩ := h78
          subst σ78
          refine z_goto (tgt := 85) dX9_most_81 (by decide) ?_
          exact z_iret dX9_most_85 ⟨by first | (rw [if_pos (by omega)]; exact hpb) | (rw [if_neg (by omega)]; rfl), hk⟩
      · exfalso; omega
    · exfalso; omega
  | k + 1, τ, s, best, h0, hs, hb, hk => by
    have w1 := hW.1
    have e1 : τ 9 1 = σ 9 1 := hk.2 1 (by decide)
    have hsh := shl1I (w := τ 9 1) (by omega)
    have p12 := pow12 (show (σ 9 1).toNat ≤ 12 by omega)
    have hpb := bcF_pcI (s := best) (by omega)
    have hps := bcF_pcI (s := s) (by omega)
    have r1 := pcF_R 12 best.toNat
    have r2 := pcF_R 12 s.toNat
    rw [e1] at hsh
    have g1 : (pcF 12 s.toNat > pcF 12 best.toNat ∧ huM σ s = 0) → ghF (huM σ) (k + 1) s best (pcF 12 best.toNat) = ghF (huM σ) k (s + 1) s (pcF 12 s.toNat) := fun q => by rw [ghF, if_pos q]
    have g0 : ¬ (pcF 12 s.toNat > pcF 12 best.toNat ∧ huM σ s = 0) → ghF (huM σ) (k + 1) s best (pcF 12 best.toNat) = ghF (huM σ) k (s + 1) best (pcF 12 best.toNat) := fun q => by rw [ghF, if_neg q]
    refine z_iload_n dX9_most_15 rfl ?_
    refine z_iconst dX9_most_16 ?_
    refine z_aload_n dX9_most_17 rfl ?_
    refine z_getI dX9_most_18 gX9_140 rfl (Nat.le_of_ble_eq_true rfl) rfl (fun hr18 => ?_)
    refine z_ishl dX9_most_21 ?_
    rw [e1, hsh]
    refine z_icmp_ge (tgt := 64) dX9_most_22 (by decide) ⟨by omega, by omega⟩ ⟨by omega, by omega⟩ (fun h22 => ?_) (fun h22 => ?_)
    · exfalso; omega
    · skip
      refine z_iload_n dX9_most_25 rfl ?_
      refine z_if_lt (tgt := 43) dX9_most_26 (by decide) ⟨by omega, by omega⟩ (fun h26 => ?_) (fun h26 => ?_)
      · exfalso; omega
      · skip
        refine z_iload_n dX9_most_29 rfl ?_
        refine z_callSI (d := d + 0) (av := [_]) dX9_most_30 sX9_339 rfl rfl (Nat.le_of_ble_eq_true rfl) (Nat.le_refl _) (c_X9_bitsOf (by omega)) (fun z30 σ30 h30 => ?_)
        obtain ⟨rfl, hs30⟩ := h30
        subst σ30
        refine z_iload_n dX9_most_33 rfl ?_
        refine z_callSI (d := d + 0) (av := [_]) dX9_most_34 sX9_339 rfl rfl (Nat.le_of_ble_eq_true rfl) (Nat.le_refl _) (c_X9_bitsOf (by omega)) (fun z34 σ34 h34 => ?_)
        obtain ⟨rfl, hs34⟩ := h34
        subst σ34
        rw [hpb, hps]
        refine z_icmp_gt (tgt := 43) dX9_most_37 (by decide) ⟨by omega, by omega⟩ ⟨by omega, by omega⟩ (fun h37 => ?_) (fun h37 => ?_)
        · skip
          refine z_aload_n dX9_most_43 rfl ?_
          refine z_iload_n dX9_most_44 rfl ?_
          refine z_callVV (d := d + 0) (av := [_]) dX9_most_45 vX9_342 rfl (Nat.le_of_ble_eq_true rfl) rfl rfl rfl (Nat.le_of_ble_eq_true rfl) (Nat.le_refl _) (c_X9_laySet (by omega) (by omega)) (fun σ45 h45 => ?_)
          obtain ⟨hk1, hsd⟩ := h45
          have hkA : KM σ σ45 := hk.tr (hk1.mono (by decide) (by decide))
          rw [e1] at hsd
          refine z_aload_n dX9_most_48 rfl ?_
          refine z_iconst dX9_most_49 ?_
          refine z_callVI (d := d + 0) (av := [_]) dX9_most_50 vX9_302 rfl (Nat.le_of_ble_eq_true rfl) rfl rfl rfl (Nat.le_of_ble_eq_true rfl) (Nat.le_refl _) (c_X9_hurtBy (LF := LF) (X := setL s (σ 9 1).toNat 0) (hkA.wm hW rfl) hsd.2.2.2 hsd.2.2.1 hsd.hu) (fun z50 σ50 h50 => ?_)
          obtain ⟨rfl, hs50⟩ := h50
          subst σ50
          rw [hkA.hu rfl]
          refine z_if_ne (tgt := 58) dX9_most_53 (by decide) hurt_R (fun h53 => ?_) (fun h53 => ?_)
          · skip
            refine z_iinc (L' := [_, _, _, _]) dX9_most_58 (Nat.le_of_ble_eq_true rfl) rfl rfl rfl ?_
            refine z_goto (tgt := 15) dX9_most_61 (by decide) ?_
            first
              | (rw [g0 (fun q => by have := q.1; omega)]; exact l_X9_most hW hw k τ (s + 1) best (by omega) (by omega) hb hk)
              | (rw [g0 (fun q => h53 q.2)]; exact l_X9_most hW hw k σ45 (s + 1) best (by omega) (by omega) hb hkA)
              | (rw [g1 ⟨by omega, h53⟩]; exact l_X9_most hW hw k σ45 (s + 1) s (by omega) (by omega) (by omega) hkA)
          · skip
            refine z_iload_n dX9_most_56 rfl ?_
            refine z_istore_n (L' := [_, _, _, _]) dX9_most_57 (Nat.le_of_ble_eq_true rfl) rfl rfl ?_
            refine z_iinc (L' := [_, _, _, _]) dX9_most_58 (Nat.le_of_ble_eq_true rfl) rfl rfl rfl ?_
            refine z_goto (tgt := 15) dX9_most_61 (by decide) ?_
            first
              | (rw [g0 (fun q => by have := q.1; omega)]; exact l_X9_most hW hw k τ (s + 1) best (by omega) (by omega) hb hk)
              | (rw [g0 (fun q => h53 q.2)]; exact l_X9_most hW hw k σ45 (s + 1) best (by omega) (by omega) hb hkA)
              | (rw [g1 ⟨by omega, h53⟩]; exact l_X9_most hW hw k σ45 (s + 1) s (by omega) (by omega) (by omega) hkA)
        · skip
          refine z_goto (tgt := 58) dX9_most_40 (by decide) ?_
          refine z_iinc (L' := [_, _, _, _]) dX9_most_58 (Nat.le_of_ble_eq_true rfl) rfl rfl rfl ?_
          refine z_goto (tgt := 15) dX9_most_61 (by decide) ?_
          first
            | (rw [g0 (fun q => by have := q.1; omega)]; exact l_X9_most hW hw k τ (s + 1) best (by omega) (by omega) hb hk)
            | (rw [g0 (fun q => h53 q.2)]; exact l_X9_most hW hw k σ45 (s + 1) best (by omega) (by omega) hb hkA)
            | (rw [g1 ⟨by omega, h53⟩]; exact l_X9_most hW hw k σ45 (s + 1) s (by omega) (by omega) (by omega) hkA)
set_option maxRecDepth 20000 in
set_option maxHeartbeats 1000000 in
theorem f_X9_most {d : Nat} {σ : Sto} {LF : LFT} {w : Int} (hW : WM LF σ) (hw : 0 ≤ w ∧ w ≤ 1) :
    Z (z_me cX9_most RX9 4 (some .int) (d + 1) (qI fun z σ' => z = msG (σ 9 1).toNat (huM σ) w ∧ KM σ σ')) 15 [some (zR 9), some (zI w), some (zI (-1)), some (zI 0)] [] σ := by
  have w1 := hW.1
  have hsh := shl1I (w := σ 9 1) (by omega)
  have p12 := pow12 (show (σ 9 1).toNat ≤ 12 by omega)
  have p1 : 0 < 2 ^ (σ 9 1).toNat := Nat.pow_pos (by decide)
  refine z_iload_n dX9_most_15 rfl ?_
  refine z_iconst dX9_most_16 ?_
  refine z_aload_n dX9_most_17 rfl ?_
  refine z_getI dX9_most_18 gX9_140 rfl (Nat.le_of_ble_eq_true rfl) rfl (fun hr18 => ?_)
  refine z_ishl dX9_most_21 ?_
  rw [hsh]
  refine z_icmp_ge (tgt := 64) dX9_most_22 (by decide) ⟨by omega, by omega⟩ ⟨by omega, by omega⟩ (fun h22 => ?_) (fun h22 => ?_)
  · exfalso; omega
  · skip
    refine z_iload_n dX9_most_25 rfl ?_
    refine z_if_lt (tgt := 43) dX9_most_26 (by decide) ⟨by omega, by omega⟩ (fun h26 => ?_) (fun h26 => ?_)
    · skip
      refine z_aload_n dX9_most_43 rfl ?_
      refine z_iload_n dX9_most_44 rfl ?_
      refine z_callVV (d := d + 0) (av := [_]) dX9_most_45 vX9_342 rfl (Nat.le_of_ble_eq_true rfl) rfl rfl rfl (Nat.le_of_ble_eq_true rfl) (Nat.le_refl _) (c_X9_laySet (by omega) (by omega)) (fun σ45 h45 => ?_)
      obtain ⟨hk1, hsd⟩ := h45
      have hkA : KM σ σ45 := hk1.mono (by decide) (by decide)
      refine z_aload_n dX9_most_48 rfl ?_
      refine z_iconst dX9_most_49 ?_
      refine z_callVI (d := d + 0) (av := [_]) dX9_most_50 vX9_302 rfl (Nat.le_of_ble_eq_true rfl) rfl rfl rfl (Nat.le_of_ble_eq_true rfl) (Nat.le_refl _) (c_X9_hurtBy (LF := LF) (X := setL 0 (σ 9 1).toNat 0) (hkA.wm hW rfl) hsd.2.2.2 hsd.2.2.1 hsd.hu) (fun z50 σ50 h50 => ?_)
      obtain ⟨rfl, hs50⟩ := h50
      subst σ50
      rw [hkA.hu rfl, setL_0 _ _ (by omega) (by omega), hurtM_nil hW.2.2.2.2.2.2.2.2.2.1]
      refine z_if_ne (tgt := 58) dX9_most_53 (by decide) ⟨by omega, by omega⟩ (fun h53 => ?_) (fun h53 => ?_)
      · exfalso; omega
      · skip
        refine z_iload_n dX9_most_56 rfl ?_
        refine z_istore_n (L' := [_, _, _, _]) dX9_most_57 (Nat.le_of_ble_eq_true rfl) rfl rfl ?_
        refine z_iinc (L' := [_, _, _, _]) dX9_most_58 (Nat.le_of_ble_eq_true rfl) rfl rfl rfl ?_
        refine z_goto (tgt := 15) dX9_most_61 (by decide) ?_
        unfold msG
        rw [if_neg (by omega)]
        exact l_X9_most hW hw (2 ^ (σ 9 1).toNat - 1) _ 1 0 (by omega) (by omega) (by omega) hkA
    · exfalso; omega
set_option maxRecDepth 20000 in
theorem c_X9_most {d : Nat} {σ : Sto} {LF : LFT} {w : Int} (hW : WM LF σ) (h1 : inR w) : m_X9_most d [zR 9, zI w] σ (qI fun z σ' => z = msG (σ 9 1).toNat (huM σ) w ∧ KM σ σ') := by
  refine z_does (L := [some (zR 9), some (zI w), none, none]) rfl (by decide +kernel) (Nat.le_of_ble_eq_true rfl) rfl ?_
  refine z_iload_n dX9_most_0 rfl ?_
  refine z_iconst dX9_most_1 ?_
  refine z_iconst dX9_most_2 ?_
  refine z_callSI (d := d + 0) (av := [_, _, _]) dX9_most_3 sX9_143 rfl rfl (Nat.le_of_ble_eq_true rfl) (Nat.le_refl _) (c_X9_in (by omega) (by omega) (by omega)) (fun z3 σ3 h3 => ?_)
  obtain ⟨hs3, h3⟩ := h3
  subst σ3
  refine z_if_ne (tgt := 11) dX9_most_6 (by decide) ⟨by omega, by omega⟩ (fun h6 => ?_) (fun h6 => ?_)
  · skip
    refine z_iconst dX9_most_11 ?_
    refine z_istore_n (L' := [_, _, _, _]) dX9_most_12 (Nat.le_of_ble_eq_true rfl) rfl rfl ?_
    refine z_iconst dX9_most_13 ?_
    refine z_istore_n (L' := [_, _, _, _]) dX9_most_14 (Nat.le_of_ble_eq_true rfl) rfl rfl ?_
    exact f_X9_most hW (by omega)
  · skip
    refine z_iconst dX9_most_9 ?_
    exact z_iret dX9_most_10 (⟨by unfold msG; rw [if_pos (by omega)], frM.rf _ _ σ⟩)
