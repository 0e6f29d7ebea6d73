/-! ===== Search: the game ===== -/
theorem ior_R {a b : Int} : inR (z_iorF a b) := z_rng _
/-- what a game writes -/
def gmK (σ τ : Sto) : Prop := ∀ a, a ≠ 28 → a ≠ 29 → a ≠ 72 → a ≠ 73 → τ a = σ a
theorem gmK.e {σ τ : Sto} (h : gmK σ τ) {a : Nat} (ha : a ≠ 28 ∧ a ≠ 29 ∧ a ≠ 72 ∧ a ≠ 73) : τ a = σ a := h a ha.1 ha.2.1 ha.2.2.1 ha.2.2.2
theorem gmK.wc {LF : LFT} {σ τ : Sto} (h : gmK σ τ) (hW : WC LF σ) : WC LF τ := hW.keep (h.e (by decide)) (h.e (by decide)) (h.e (by decide)) (fun a h1 h2 => h.e (by omega))
theorem gmK.ps {LF : LFT} {σ τ : Sto} {f : Int} (h : gmK σ τ) : pasC LF τ f = pasC LF σ f := pas_cong (h.e (by decide)) (h.e (by decide)) (h.e (by decide)) (h.e (by decide)) (h.e (by decide))
theorem gmK.tr {σ τ υ : Sto} (h : gmK σ τ) (h2 : pK τ υ) : gmK σ υ := fun a h3 h4 h5 h6 => by rw [h2 a h3 h4]; exact h a h3 h4 h5 h6
theorem gmK.put {σ τ : Sto} {k j : Nat} {x : Int} (h : gmK σ τ) (hk : k = 72 ∨ k = 73) : gmK σ (z_put τ k j x) := fun a h3 h4 h5 h6 => by rw [z_put_ne (by omega)]; exact h a h3 h4 h5 h6
set_option maxRecDepth 20000 in
theorem l_X4_winningFrom {d : Nat} {σ : Sto} {ps : Int → Int → Bool} {n : Nat} {s o : Int} (hn : n ≤ 10) (hs : 0 ≤ s ∧ s < (2 ^ n : Nat)) (ho : ∀ w : Int, 0 ≤ w → w < n → (bt o w ≠ 0 ↔ (ps w (pcF 12 s.toNat) = true ∧ bt s w = 0))) :
    ∀ (m : Nat) (w : Int), 0 ≤ w → w + m = n →
    Z (z_me cX4_winningFrom RX4 6 (some .int) (d + 1) (qI fun z σ' => z = wpF ps (σ 73) s m w ∧ σ' = σ)) 22 [some (zR 6), some (zI s), some (zI n), some (zI o), some (zI w), none] [] σ
  | 0, w, h0, hw => by
    refine z_iload dX4_winningFrom_22 rfl ?_
    refine z_iload_n dX4_winningFrom_24 rfl ?_
    refine z_icmp_ge (tgt := 79) dX4_winningFrom_25 (by decide) ⟨by omega, by omega⟩ ⟨by omega, by omega⟩ (fun h25 => ?_) (fun h25 => ?_)
    · skip
      refine z_bipush (v := -2) dX4_winningFrom_79 (by decide +kernel) ?_
      exact z_iret dX4_winningFrom_81 ⟨rfl, rfl⟩
    · exfalso; omega
  | m + 1, w, h0, hw => by
    have hnx := nxt_R hn hs (w := w) (by omega)
    have p := pow10 hn
    have how := ho w h0 (by omega)
    refine z_iload dX4_winningFrom_22 rfl ?_
    refine z_iload_n dX4_winningFrom_24 rfl ?_
    refine z_icmp_ge (tgt := 79) dX4_winningFrom_25 (by decide) ⟨by omega, by omega⟩ ⟨by omega, by omega⟩ (fun h25 => ?_) (fun h25 => ?_)
    · exfalso; omega
    · skip
      refine z_iload_n dX4_winningFrom_28 rfl ?_
      refine z_iconst dX4_winningFrom_29 ?_
      refine z_iload dX4_winningFrom_30 rfl ?_
      refine z_ishl dX4_winningFrom_32 ?_
      refine z_ior dX4_winningFrom_33 ?_
      refine z_istore (L' := [_, _, _, _, _, _]) dX4_winningFrom_34 (Nat.le_of_ble_eq_true rfl) rfl rfl ?_
      refine z_iload_n dX4_winningFrom_36 rfl ?_
      refine z_iload dX4_winningFrom_37 rfl ?_
      refine z_ishr dX4_winningFrom_39 ?_
      refine z_iconst dX4_winningFrom_40 ?_
      refine z_iand dX4_winningFrom_41 ?_
      refine z_if_eq (tgt := 73) dX4_winningFrom_42 (by decide) (z_rng _) (fun h42 => ?_) (fun h42 => ?_)
      · skip
        refine z_iinc (L' := [_, _, _, _, _, _]) dX4_winningFrom_73 (Nat.le_of_ble_eq_true rfl) rfl rfl rfl ?_
        refine z_goto (tgt := 22) dX4_winningFrom_76 (by decide) ?_
        refine z_forget [true, true, true, true, true, false] (L' := [_, _, _, _, _, _]) rfl ?_
        rw [show wpF ps (σ 73) s (m + 1) w = wpF ps (σ 73) s m (w + 1) by
          rw [wpF]
          first
            | rw [if_neg (fun q => h67 q.2.2)]
            | rw [if_neg (fun q => absurd (how.mpr ⟨q.2.1, q.1⟩) (fun v => v h42))]]
        exact l_X4_winningFrom hn hs ho m (w + 1) (by omega) (by omega)
      · skip
        refine z_iload dX4_winningFrom_45 rfl ?_
        refine z_if_lt (tgt := 73) dX4_winningFrom_47 (by decide) ⟨by omega, by omega⟩ (fun h47 => ?_) (fun h47 => ?_)
        · first
          | exfalso; omega
          | skip
            refine z_iinc (L' := [_, _, _, _, _, _]) dX4_winningFrom_73 (Nat.le_of_ble_eq_true rfl) rfl rfl rfl ?_
            refine z_goto (tgt := 22) dX4_winningFrom_76 (by decide) ?_
            refine z_forget [true, true, true, true, true, false] (L' := [_, _, _, _, _, _]) rfl ?_
            rw [show wpF ps (σ 73) s (m + 1) w = wpF ps (σ 73) s m (w + 1) by
              rw [wpF]
              first
                | rw [if_neg (fun q => h67 q.2.2)]
                | rw [if_neg (fun q => absurd (how.mpr ⟨q.2.1, q.1⟩) (fun v => v h42))]]
            exact l_X4_winningFrom hn hs ho m (w + 1) (by omega) (by omega)
        · first
          | exfalso; omega
          | skip
            refine z_iload dX4_winningFrom_50 rfl ?_
            refine z_aload_n dX4_winningFrom_52 rfl ?_
            refine z_getR dX4_winningFrom_53 gX4_42 rfl (Nat.le_of_ble_eq_true rfl) rfl ?_
            refine z_alen dX4_winningFrom_56 rfl (Nat.le_of_ble_eq_true rfl) (Nat.le_of_ble_eq_true rfl) ?_
            refine z_icmp_ge (tgt := 73) dX4_winningFrom_57 (by decide) ⟨by omega, by omega⟩ ⟨by omega, by omega⟩ (fun h57 => ?_) (fun h57 => ?_)
            · first
              | exfalso; omega
              | skip
                refine z_iinc (L' := [_, _, _, _, _, _]) dX4_winningFrom_73 (Nat.le_of_ble_eq_true rfl) rfl rfl rfl ?_
                refine z_goto (tgt := 22) dX4_winningFrom_76 (by decide) ?_
                refine z_forget [true, true, true, true, true, false] (L' := [_, _, _, _, _, _]) rfl ?_
                rw [show wpF ps (σ 73) s (m + 1) w = wpF ps (σ 73) s m (w + 1) by
                  rw [wpF]
                  first
                    | rw [if_neg (fun q => h67 q.2.2)]
                    | rw [if_neg (fun q => absurd (how.mpr ⟨q.2.1, q.1⟩) (fun v => v h42))]]
                exact l_X4_winningFrom hn hs ho m (w + 1) (by omega) (by omega)
            · first
              | exfalso; omega
              | skip
                refine z_aload_n dX4_winningFrom_60 rfl ?_
                refine z_getR dX4_winningFrom_61 gX4_42 rfl (Nat.le_of_ble_eq_true rfl) rfl ?_
                refine z_iload dX4_winningFrom_64 rfl ?_
                refine z_zald dX4_winningFrom_66 rfl (Nat.le_of_ble_eq_true rfl) (by omega) (fun hr66 => ?_)
                refine z_if_ne (tgt := 73) dX4_winningFrom_67 (by decide) ⟨by omega, by omega⟩ (fun h67 => ?_) (fun h67 => ?_)
                · skip
                  refine z_iinc (L' := [_, _, _, _, _, _]) dX4_winningFrom_73 (Nat.le_of_ble_eq_true rfl) rfl rfl rfl ?_
                  refine z_goto (tgt := 22) dX4_winningFrom_76 (by decide) ?_
                  refine z_forget [true, true, true, true, true, false] (L' := [_, _, _, _, _, _]) rfl ?_
                  rw [show wpF ps (σ 73) s (m + 1) w = wpF ps (σ 73) s m (w + 1) by
                    rw [wpF]
                    first
                      | rw [if_neg (fun q => h67 q.2.2)]
                      | rw [if_neg (fun q => absurd (how.mpr ⟨q.2.1, q.1⟩) (fun v => v h42))]]
                  exact l_X4_winningFrom hn hs ho m (w + 1) (by omega) (by omega)
                · skip
                  refine z_iload dX4_winningFrom_70 rfl ?_
                  exact z_iret dX4_winningFrom_72 ⟨by rw [wpF, if_pos ⟨(how.mp h42).2, (how.mp h42).1, h67⟩], rfl⟩
set_option maxRecDepth 20000 in
theorem c_X4_winningFrom {d : Nat} {σ : Sto} {ps : Int → Int → Bool} {n : Nat} {s : Int} (hn : n ≤ 10) (hs : 0 ≤ s ∧ s < (2 ^ n : Nat)) (hP : ∀ p : Nat, p ≤ 10 → σ 72 p = bitL (fun w => ps w p) n 0 0) : m_X4_winningFrom d [zR 6, zI s, zI n] σ (qI fun z σ' => z = wpF ps (σ 73) s n 0 ∧ σ' = σ) := by
  have p := pow10 hn
  have hpc := bcF_pcI (s := s) (by omega)
  have hpr := pcF_R 12 s.toNat
  have h10 := pcF10 s.toNat (by omega)
  have hPs := hP (pcF 12 s.toNat).toNat (by omega)
  rw [show (((pcF 12 s.toNat).toNat : Nat) : Int) = pcF 12 s.toNat by omega] at hPs
  refine z_does (L := [some (zR 6), some (zI s), some (zI n), none, none, none]) rfl (by decide +kernel) (Nat.le_of_ble_eq_true rfl) rfl ?_
  refine z_aload_n dX4_winningFrom_0 rfl ?_
  refine z_getR dX4_winningFrom_1 gX4_39 rfl (Nat.le_of_ble_eq_true rfl) rfl ?_
  refine z_iload_n dX4_winningFrom_4 rfl ?_
  refine z_callSI (d := d + 0) (av := [_]) dX4_winningFrom_5 sX4_79 rfl rfl (Nat.le_of_ble_eq_true rfl) (Nat.le_refl _) (c_J6_bitCount_0f7a4) (fun z5 σ5 h5 => ?_)
  obtain ⟨rfl, hs5⟩ := h5
  subst σ5
  rw [hpc]
  refine z_bipush (v := 10) dX4_winningFrom_8 (by decide +kernel) ?_
  refine z_min dX4_winningFrom_10 mX4_46 ⟨by omega, by omega⟩ ⟨by omega, by omega⟩ (Nat.le_of_ble_eq_true rfl) (Nat.le_add_left _ _) ?_
  rw [show min (pcF 12 s.toNat) 10 = pcF 12 s.toNat by omega]
  refine z_iald dX4_winningFrom_13 rfl (Nat.le_of_ble_eq_true rfl) (by omega) (fun hr13 => ?_)
  rw [hPs]
  refine z_iload_n dX4_winningFrom_14 rfl ?_
  refine z_iconst dX4_winningFrom_15 ?_
  refine z_ixor dX4_winningFrom_16 ?_
  refine z_iand dX4_winningFrom_17 ?_
  refine z_istore_n (L' := [_, _, _, _, _, _]) dX4_winningFrom_18 (Nat.le_of_ble_eq_true rfl) rfl rfl ?_
  refine z_iconst dX4_winningFrom_19 ?_
  refine z_istore (L' := [_, _, _, _, _, _]) dX4_winningFrom_20 (Nat.le_of_ble_eq_true rfl) rfl rfl ?_
  exact l_X4_winningFrom hn hs (fun w h1 h2 => open_bt hn (by omega) ⟨h1, h2⟩) n 0 (by omega) (by omega)
set_option maxRecDepth 20000 in
theorem l_X4_winning1 {d : Nat} {σ : Sto} {LF : LFT} {f pl : Int} {n : Nat} (hW : WC LF σ) (hf : -1 ≤ f ∧ f ≤ 9) (hn : n ≤ 10 ∧ n ≤ σ 1 1) (hp : 0 ≤ pl ∧ pl ≤ 10) {Q : Option Value → Sto → Prop}
    (Pq : Nat → Int)
    (kk : ∀ τ : Sto, gmK σ τ → τ 72 pl.toNat = bitL (fun w => pasC LF σ f w pl 0) n 0 0 → (∀ j, j ≠ pl.toNat → τ 72 j = Pq j) → Z (z_me cX4_winningWord RX4 5 (some .int) (d + 3) Q) 75 [some (zR 6), some (zI f), some (zI n), some (zI pl), some (zI n)] [] τ) :
    ∀ (m : Nat) (τ : Sto) (w acc : Int), 0 ≤ w → w + m = n → gmK σ τ → τ 72 pl.toNat = acc → inR acc → bitL (fun w => pasC LF σ f w pl 0) m w acc = bitL (fun w => pasC LF σ f w pl 0) n 0 0 → (∀ j, j ≠ pl.toNat → τ 72 j = Pq j) →
    Z (z_me cX4_winningWord RX4 5 (some .int) (d + 3) Q) 31 [some (zR 6), some (zI f), some (zI n), some (zI pl), some (zI w)] [] τ
  | 0, τ, w, acc, h0, hw, hK, ha, hr, hb, hq => by
    obtain rfl : w = n := by omega
    refine z_iload dX4_winningWord_31 rfl ?_
    refine z_iload_n dX4_winningWord_33 rfl ?_
    refine z_icmp_ge (tgt := 75) dX4_winningWord_34 (by decide) ⟨by omega, by omega⟩ ⟨by omega, by omega⟩ (fun h34 => ?_) (fun h34 => ?_)
    · skip
      exact kk τ hK (by rw [ha, ← hb]; rfl) hq
    · exfalso; omega
  | m + 1, τ, w, acc, h0, hw, hK, ha, hr, hb, hq => by
    have w1 := hW.1
    refine z_iload dX4_winningWord_31 rfl ?_
    refine z_iload_n dX4_winningWord_33 rfl ?_
    refine z_icmp_ge (tgt := 75) dX4_winningWord_34 (by decide) ⟨by omega, by omega⟩ ⟨by omega, by omega⟩ (fun h34 => ?_) (fun h34 => ?_)
    · exfalso; omega
    · skip
      refine z_aload_n dX4_winningWord_37 rfl ?_
      refine z_getR dX4_winningWord_38 gX4_39 rfl (Nat.le_of_ble_eq_true rfl) rfl ?_
      refine z_iload_n dX4_winningWord_41 rfl ?_
      refine z_dup2 dX4_winningWord_42 rfl rfl ?_
      refine z_iald dX4_winningWord_43 rfl (Nat.le_of_ble_eq_true rfl) (by omega) (fun hr43 => ?_)
      rw [ha]
      refine z_aload_n dX4_winningWord_44 rfl ?_
      refine z_getR dX4_winningWord_45 gX4_15 rfl (Nat.le_of_ble_eq_true rfl) rfl ?_
      refine z_iload dX4_winningWord_48 rfl ?_
      refine z_iload_n dX4_winningWord_50 rfl ?_
      refine z_iload_n dX4_winningWord_51 rfl ?_
      refine z_iconst dX4_winningWord_52 ?_
      refine z_callVI (d := d + 2) (av := [_, _, _, _]) dX4_winningWord_53 vX4_59 rfl (Nat.le_of_ble_eq_true rfl) rfl rfl rfl (Nat.le_of_ble_eq_true rfl) (Nat.le_refl _) (c_X6_passes (LF := LF) (hK.wc hW) (by omega) hf (by omega) (by omega)) (fun z53 σ53 h53 => ?_)
      obtain ⟨hps, hfr⟩ := h53
      rw [hK.ps] at hps
      refine z_if_eq (tgt := 66) dX4_winningWord_56 (by decide) ⟨by omega, by omega⟩ (fun h56 => ?_) (fun h56 => ?_)
      · skip
        refine z_iconst dX4_winningWord_66 ?_
        refine z_ior dX4_winningWord_67 ?_
        refine z_iast dX4_winningWord_68 rfl (Nat.le_of_ble_eq_true rfl) (by omega) (z_rng _) ?_
        refine z_iinc (L' := [_, _, _, _, _]) dX4_winningWord_69 (Nat.le_of_ble_eq_true rfl) rfl rfl rfl ?_
        refine z_goto (tgt := 31) dX4_winningWord_72 (by decide) ?_
        rw [bitL] at hb
        refine l_X4_winning1 hW hf hn hp Pq kk m _ (w + 1) _ (by omega) (by omega) ((hK.tr hfr).put (Or.inl rfl)) (by rw [z_rd, if_pos rfl, if_pos rfl]) ior_R ?_ (fun j hj => by rw [z_rd, if_pos rfl, if_neg hj, hfr 72 (by decide) (by decide)]; exact hq j hj)
        rw [← hb]
        rcases hps with ⟨q1, q2⟩ | ⟨q1, q2⟩
        · first | (exfalso; omega) | rw [if_pos q2]
        · first | (exfalso; omega) | rw [if_neg (by rw [q2]; exact Bool.false_ne_true), ior_0 hr]
      · skip
        refine z_iconst dX4_winningWord_59 ?_
        refine z_iload dX4_winningWord_60 rfl ?_
        refine z_ishl dX4_winningWord_62 ?_
        refine z_goto (tgt := 67) dX4_winningWord_63 (by decide) ?_
        refine z_ior dX4_winningWord_67 ?_
        refine z_iast dX4_winningWord_68 rfl (Nat.le_of_ble_eq_true rfl) (by omega) (z_rng _) ?_
        refine z_iinc (L' := [_, _, _, _, _]) dX4_winningWord_69 (Nat.le_of_ble_eq_true rfl) rfl rfl rfl ?_
        refine z_goto (tgt := 31) dX4_winningWord_72 (by decide) ?_
        rw [bitL] at hb
        refine l_X4_winning1 hW hf hn hp Pq kk m _ (w + 1) _ (by omega) (by omega) ((hK.tr hfr).put (Or.inl rfl)) (by rw [z_rd, if_pos rfl, if_pos rfl]) ior_R ?_ (fun j hj => by rw [z_rd, if_pos rfl, if_neg hj, hfr 72 (by decide) (by decide)]; exact hq j hj)
        rw [← hb]
        rcases hps with ⟨q1, q2⟩ | ⟨q1, q2⟩
        · first | (exfalso; omega) | rw [if_pos q2]
        · first | (exfalso; omega) | rw [if_neg (by rw [q2]; exact Bool.false_ne_true), ior_0 hr]
set_option maxRecDepth 20000 in
theorem l_X4_winning2 {d : Nat} {σ : Sto} {LF : LFT} {f : Int} {n : Nat} (hW : WC LF σ) (hf : -1 ≤ f ∧ f ≤ 9) (hn : n ≤ 10 ∧ n ≤ σ 1 1) {Q : Option Value → Sto → Prop}
    (kk : ∀ τ : Sto, gmK σ τ → (∀ p : Nat, p ≤ 10 → τ 72 p = bitL (fun w => pasC LF σ f w p 0) n 0 0) → Z (z_me cX4_winningWord RX4 5 (some .int) (d + 3) Q) 81 [some (zR 6), some (zI f), some (zI n), none, none] [] τ) :
    ∀ (m : Nat) (τ : Sto) (pl : Int), 0 ≤ pl → pl + m = 11 → gmK σ τ → (∀ p : Nat, (p : Int) < pl → τ 72 p = bitL (fun w => pasC LF σ f w p 0) n 0 0) →
    Z (z_me cX4_winningWord RX4 5 (some .int) (d + 3) Q) 15 [some (zR 6), some (zI f), some (zI n), some (zI pl), none] [] τ
  | 0, τ, pl, h0, hw, hK, hP => by
    obtain rfl : pl = 11 := by omega
    refine z_iload_n dX4_winningWord_15 rfl ?_
    refine z_bipush (v := 10) dX4_winningWord_16 (by decide +kernel) ?_
    refine z_icmp_gt (tgt := 81) dX4_winningWord_18 (by decide) ⟨by omega, by omega⟩ ⟨by omega, by omega⟩ (fun h18 => ?_) (fun h18 => ?_)
    · skip
      refine z_forget [true, true, true, false, false] (L' := [_, _, _, _, _]) rfl ?_
      exact kk τ hK (fun p hp => hP p (by omega))
    · exfalso; omega
  | m + 1, τ, pl, h0, hw, hK, hP => by
    refine z_iload_n dX4_winningWord_15 rfl ?_
    refine z_bipush (v := 10) dX4_winningWord_16 (by decide +kernel) ?_
    refine z_icmp_gt (tgt := 81) dX4_winningWord_18 (by decide) ⟨by omega, by omega⟩ ⟨by omega, by omega⟩ (fun h18 => ?_) (fun h18 => ?_)
    · exfalso; omega
    · skip
      refine z_aload_n dX4_winningWord_21 rfl ?_
      refine z_getR dX4_winningWord_22 gX4_39 rfl (Nat.le_of_ble_eq_true rfl) rfl ?_
      refine z_iload_n dX4_winningWord_25 rfl ?_
      refine z_iconst dX4_winningWord_26 ?_
      refine z_iast dX4_winningWord_27 rfl (Nat.le_of_ble_eq_true rfl) (by omega) ⟨by omega, by omega⟩ ?_
      refine z_iconst dX4_winningWord_28 ?_
      refine z_istore (L' := [_, _, _, _, _]) dX4_winningWord_29 (Nat.le_of_ble_eq_true rfl) rfl rfl ?_
      refine l_X4_winning1 hW hf hn ⟨h0, by omega⟩ (τ 72) (fun τ' g1 g2 g3 => ?_) n _ 0 0 (by omega) (by omega) (hK.put (Or.inl rfl)) (by rw [z_rd, if_pos rfl, if_pos rfl]) ⟨by decide, by decide⟩ rfl (fun j hj => by rw [z_rd, if_pos rfl, if_neg hj])
      refine z_iinc (L' := [_, _, _, _, _]) dX4_winningWord_75 (Nat.le_of_ble_eq_true rfl) rfl rfl rfl ?_
      refine z_goto (tgt := 15) dX4_winningWord_78 (by decide) ?_
      refine z_forget [true, true, true, true, false] (L' := [_, _, _, _, _]) rfl ?_
      refine l_X4_winning2 hW hf hn kk m τ' (pl + 1) (by omega) (by omega) g1 (fun p hp => ?_)
      by_cases hpp : p = pl.toNat
      · subst hpp; rw [g2, show ((pl.toNat : Nat) : Int) = pl by omega]
      · rw [g3 p hpp]; exact hP p (by omega)
set_option maxRecDepth 20000 in
theorem l_X4_winning3 {d : Nat} {σ : Sto} {LF : LFT} {f : Int} {n : Nat} (hW : WC LF σ) (hn : n ≤ 10) :
    ∀ (m : Nat) (τ : Sto) (s fi : Int), s + 1 = m → s < (2 ^ n : Nat) → (s = -1 → fi = gmF (fun w p => pasC LF σ f w p 0) n) → inR fi → gmK σ τ → (∀ p : Nat, p ≤ 10 → τ 72 p = bitL (fun w => pasC LF σ f w p 0) n 0 0) → wnI (τ 73) (fun w p => pasC LF σ f w p 0) n s →
    Z (z_me cX4_winningWord RX4 5 (some .int) (d + 3) (qI fun z σ' => z = gmF (fun w p => pasC LF σ f w p 0) n ∧ gmK σ σ')) 91 [some (zR 6), some (zI f), some (zI n), some (zI fi), some (zI s)] [] τ
  | 0, τ, s, fi, hs, hs2, hfi, hr, hK, hP, hI => by
    obtain rfl : s = -1 := by omega
    refine z_iload dX4_winningWord_91 rfl ?_
    refine z_if_lt (tgt := 128) dX4_winningWord_93 (by decide) ⟨by omega, by omega⟩ (fun h93 => ?_) (fun h93 => ?_)
    · skip
      refine z_iload_n dX4_winningWord_128 rfl ?_
      exact z_iret dX4_winningWord_129 ⟨hfi rfl, hK⟩
    · exfalso; omega
  | m + 1, τ, s, fi, hs, hs2, hfi, hr, hK, hP, hI => by
    have p := pow10 hn
    have hwp := wnI_wp hn (by omega) hI
    have hwr := wpF_R (ps := fun w p => pasC LF σ f w p 0) (W := τ 73) (s := s) n 0 (by omega)
    have hI2 := wnI_up (by omega) hI
    refine z_iload dX4_winningWord_91 rfl ?_
    refine z_if_lt (tgt := 128) dX4_winningWord_93 (by decide) ⟨by omega, by omega⟩ (fun h93 => ?_) (fun h93 => ?_)
    · exfalso; omega
    · skip
      refine z_aload_n dX4_winningWord_96 rfl ?_
      refine z_iload dX4_winningWord_97 rfl ?_
      refine z_iload_n dX4_winningWord_99 rfl ?_
      refine z_callVI (d := d + 2) (av := [_, _]) dX4_winningWord_100 vX4_107 rfl (Nat.le_of_ble_eq_true rfl) rfl rfl rfl (Nat.le_of_ble_eq_true rfl) (Nat.le_refl _) (c_X4_winningFrom (ps := fun w p => pasC LF σ f w p 0) hn (by omega) hP) (fun z100 σ100 h100 => ?_)
      obtain ⟨rfl, hs100⟩ := h100
      subst σ100
      refine z_istore_n (L' := [_, _, _, _, _]) dX4_winningWord_103 (Nat.le_of_ble_eq_true rfl) rfl rfl ?_
      refine z_aload_n dX4_winningWord_104 rfl ?_
      refine z_getR dX4_winningWord_105 gX4_42 rfl (Nat.le_of_ble_eq_true rfl) rfl ?_
      refine z_iload dX4_winningWord_108 rfl ?_
      refine z_iload_n dX4_winningWord_110 rfl ?_
      refine z_bipush (v := -2) dX4_winningWord_111 (by decide +kernel) ?_
      refine z_icmp_eq (tgt := 120) dX4_winningWord_113 (by decide) ⟨by omega, by omega⟩ ⟨by omega, by omega⟩ (fun h113 => ?_) (fun h113 => ?_)
      · skip
        refine z_iconst dX4_winningWord_120 ?_
        refine z_zast dX4_winningWord_121 rfl (Nat.le_of_ble_eq_true rfl) (by omega) (by omega) ?_
        refine z_iinc (L' := [_, _, _, _, _]) dX4_winningWord_122 (Nat.le_of_ble_eq_true rfl) rfl rfl rfl ?_
        refine z_goto (tgt := 91) dX4_winningWord_125 (by decide) ?_
        rw [← hwp] at hI2
        refine l_X4_winning3 hW hn m _ (s + -1) _ (by omega) (by omega) (fun q => ?_) (by omega) (hK.put (Or.inr rfl)) (fun p hp => by rw [z_rd, if_neg (by decide)]; exact hP p hp) ?_
        · obtain rfl : s = 0 := by omega
          rw [hwp, Int.sub_zero]
          unfold gmF
          congr 2
          have : ((2 ^ n : Nat) : Int) = 2 ^ n := by simp
          omega
        · first
            | (rw [if_pos (by omega)] at hI2; rw [z_put_up]; exact hI2)
            | (rw [if_neg (by omega)] at hI2; rw [z_put_up]; exact hI2)
      · skip
        refine z_iconst dX4_winningWord_116 ?_
        refine z_goto (tgt := 121) dX4_winningWord_117 (by decide) ?_
        refine z_zast dX4_winningWord_121 rfl (Nat.le_of_ble_eq_true rfl) (by omega) (by omega) ?_
        refine z_iinc (L' := [_, _, _, _, _]) dX4_winningWord_122 (Nat.le_of_ble_eq_true rfl) rfl rfl rfl ?_
        refine z_goto (tgt := 91) dX4_winningWord_125 (by decide) ?_
        rw [← hwp] at hI2
        refine l_X4_winning3 hW hn m _ (s + -1) _ (by omega) (by omega) (fun q => ?_) (by omega) (hK.put (Or.inr rfl)) (fun p hp => by rw [z_rd, if_neg (by decide)]; exact hP p hp) ?_
        · obtain rfl : s = 0 := by omega
          rw [hwp, Int.sub_zero]
          unfold gmF
          congr 2
          have : ((2 ^ n : Nat) : Int) = 2 ^ n := by simp
          omega
        · first
            | (rw [if_pos (by omega)] at hI2; rw [z_put_up]; exact hI2)
            | (rw [if_neg (by omega)] at hI2; rw [z_put_up]; exact hI2)
set_option maxRecDepth 20000 in
theorem c_X4_winningWord {d : Nat} {σ : Sto} {LF : LFT} {f : Int} (hW : WC LF σ) (hf : -1 ≤ f ∧ f ≤ 9) : m_X4_winningWord d [zR 6, zI f] σ (qI fun z σ' => z = gmF (fun w p => pasC LF σ f w p 0) (min (σ 1 1) 10).toNat ∧ gmK σ σ') := by
  have w1 := hW.1
  obtain ⟨n, hn⟩ : ∃ n : Nat, min (σ 1 1) 10 = (n : Int) := ⟨(min (σ 1 1) 10).toNat, by omega⟩
  have hnR : (n : Int) ≤ 10 ∧ (n : Int) ≤ σ 1 1 := by omega
  have p := pow10 (show n ≤ 10 by omega)
  have hsh := shl1I (w := (n : Int)) (by omega)
  have p0 : 0 < 2 ^ n := Nat.pow_pos (by decide)
  rw [Int.toNat_natCast] at hsh
  rw [hn, Int.toNat_natCast]
  refine z_does (L := [some (zR 6), some (zI f), none, none, none]) rfl (by decide +kernel) (Nat.le_of_ble_eq_true rfl) rfl ?_
  refine z_aload_n dX4_winningWord_0 rfl ?_
  refine z_getR dX4_winningWord_1 gX4_9 rfl (Nat.le_of_ble_eq_true rfl) rfl ?_
  refine z_getI dX4_winningWord_4 gX4_65 rfl (Nat.le_of_ble_eq_true rfl) rfl (fun hr4 => ?_)
  refine z_bipush (v := 10) dX4_winningWord_7 (by decide +kernel) ?_
  refine z_min dX4_winningWord_9 mX4_46 ⟨by omega, by omega⟩ ⟨by omega, by omega⟩ (Nat.le_of_ble_eq_true rfl) (Nat.le_add_left _ _) ?_
  rw [hn]
  refine z_istore_n (L' := [_, _, _, _, _]) dX4_winningWord_12 (Nat.le_of_ble_eq_true rfl) rfl rfl ?_
  refine z_iconst dX4_winningWord_13 ?_
  refine z_istore_n (L' := [_, _, _, _, _]) dX4_winningWord_14 (Nat.le_of_ble_eq_true rfl) rfl rfl ?_
  refine l_X4_winning2 (n := n) hW hf (by omega) (fun τ g1 g2 => ?_) 11 σ 0 (by omega) (by omega) (fun _ _ _ _ _ => rfl) (fun p hp => absurd hp (by omega))
  refine z_bipush (v := -2) dX4_winningWord_81 (by decide +kernel) ?_
  refine z_istore_n (L' := [_, _, _, _, _]) dX4_winningWord_83 (Nat.le_of_ble_eq_true rfl) rfl rfl ?_
  refine z_iconst dX4_winningWord_84 ?_
  refine z_iload_n dX4_winningWord_85 rfl ?_
  refine z_ishl dX4_winningWord_86 ?_
  rw [hsh]
  refine z_iconst dX4_winningWord_87 ?_
  refine z_isub dX4_winningWord_88 ?_
  refine z_istore (L' := [_, _, _, _, _]) dX4_winningWord_89 (Nat.le_of_ble_eq_true rfl) rfl rfl ?_
  exact l_X4_winning3 hW (by omega) (2 ^ n) τ _ (-2) (by omega) (by omega) (fun q => absurd q (by omega)) ⟨by decide, by decide⟩ g1 g2 (fun j h1 h2 => absurd h1 (by omega))
