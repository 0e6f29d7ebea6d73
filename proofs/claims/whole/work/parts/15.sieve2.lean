/-! ===== Sieve: what is said of what came and what was left ===== -/
set_option maxRecDepth 20000 in
theorem l_X6_copyCame {d : Nat} {σ : Sto} {k len : Nat} {rr : Nat → Nat} (hk : z_lay k = .inr (0, len, rr)) (hkn : k < z_NC) (hk2 : k ≠ 40) (n : Int) (hn : n ≤ len ∧ n ≤ 13) :
    ∀ (R P : List Int) (τ : Sto) (i : Int), i = P.length → Seg σ 40 i.toNat R → n = P.length + R.length → Seg τ k 0 P → (∀ a, a ≠ k → τ a = σ a) →
    Z (z_me cX6_copyCame RX6 4 (some .int) (d + 1) (qI fun z σ' => z = n ∧ (∀ a, a ≠ k → σ' a = σ a) ∧ Seg σ' k 0 (P ++ R))) 12 [some (zR 5), some (zR k), some (zI n), some (zI i)] [] τ
  | [], P, τ, i, hi, hs, hl, sP, hf => by
    rw [List.length_nil] at hl
    refine z_iload_n dX6_copyCame_12 rfl ?_
    refine z_iload_n dX6_copyCame_13 rfl ?_
    refine z_icmp_ge (tgt := 32) dX6_copyCame_14 (by decide) ⟨by omega, by omega⟩ ⟨by omega, by omega⟩ (fun h14 => ?_) (fun h14 => ?_)
    · skip
      refine z_iload_n dX6_copyCame_32 rfl ?_
      exact z_iret dX6_copyCame_33 ⟨rfl, hf, by rw [List.append_nil]; exact sP⟩
    · exfalso; omega
  | w :: r, P, τ, i, hi, hs, hl, sP, hf => by
    rw [List.length_cons] at hl
    obtain ⟨hv, hs⟩ := hs
    have ev : τ 40 i.toNat = w := by rw [hf 40 (Ne.symm hk2)]; exact hv
    refine z_iload_n dX6_copyCame_12 rfl ?_
    refine z_iload_n dX6_copyCame_13 rfl ?_
    refine z_icmp_ge (tgt := 32) dX6_copyCame_14 (by decide) ⟨by omega, by omega⟩ ⟨by omega, by omega⟩ (fun h14 => ?_) (fun h14 => ?_)
    · exfalso; omega
    · skip
      refine z_aload_n dX6_copyCame_17 rfl ?_
      refine z_iload_n dX6_copyCame_18 rfl ?_
      refine z_aload_n dX6_copyCame_19 rfl ?_
      refine z_getR dX6_copyCame_20 gX6_19 rfl (Nat.le_of_ble_eq_true rfl) rfl ?_
      refine z_iload_n dX6_copyCame_23 rfl ?_
      refine z_iald dX6_copyCame_24 rfl (Nat.le_of_ble_eq_true rfl) (by omega) (fun hr24 => ?_)
      refine z_iast dX6_copyCame_25 hk hkn (by omega) ⟨by omega, by omega⟩ ?_
      refine z_iinc (L' := [_, _, _, _]) dX6_copyCame_26 (Nat.le_of_ble_eq_true rfl) rfl rfl rfl ?_
      refine z_goto (tgt := 12) dX6_copyCame_29 (by decide) ?_
      rw [ev, show P ++ w :: r = (P ++ [w]) ++ r by simp]
      refine l_X6_copyCame hk hkn hk2 n hn r (P ++ [w]) _ (i + 1) (by simp; omega) (by rw [toN_s (by omega)]; exact hs) (by simp; omega) ?_ (fun a ha => by rw [z_put_ne ha]; exact hf a ha)
      rw [show i.toNat = P.length by omega]
      exact Seg.put sP
set_option maxRecDepth 20000 in
theorem c_X6_copyCame {d : Nat} {σ : Sto} {k len : Nat} {rr : Nat → Nat} {A : List Int} (hk : z_lay k = .inr (0, len, rr)) (hkn : k < z_NC) (hk2 : k ≠ 40) (hA : σ 5 5 = A.length) (hl : A.length ≤ len ∧ A.length ≤ 13) (hlen : len ≤ 2000) (sA : Seg σ 40 0 A) : m_X6_copyCame d [zR 5, zR k] σ (qI fun z σ' => z = A.length ∧ (∀ a, a ≠ k → σ' a = σ a) ∧ Seg σ' k 0 A) := by
  refine z_does (L := [some (zR 5), some (zR k), none, none]) rfl (by decide +kernel) (Nat.le_of_ble_eq_true rfl) rfl ?_
  refine z_aload_n dX6_copyCame_0 rfl ?_
  refine z_getI dX6_copyCame_1 gX6_45 rfl (Nat.le_of_ble_eq_true rfl) rfl (fun hr1 => ?_)
  refine z_aload_n dX6_copyCame_4 rfl ?_
  refine z_alen dX6_copyCame_5 hk (Nat.le_of_ble_eq_true rfl) hkn ?_
  refine z_min dX6_copyCame_6 mX6_56 ⟨by omega, by omega⟩ ⟨by omega, by omega⟩ (Nat.le_of_ble_eq_true rfl) (Nat.le_add_left _ _) ?_
  rw [show min (σ 5 5) (len : Int) = (A.length : Int) by omega]
  refine z_istore_n (L' := [_, _, _, _]) dX6_copyCame_9 (Nat.le_of_ble_eq_true rfl) rfl rfl ?_
  refine z_iconst dX6_copyCame_10 ?_
  refine z_istore_n (L' := [_, _, _, _]) dX6_copyCame_11 (Nat.le_of_ble_eq_true rfl) rfl rfl ?_
  exact l_X6_copyCame hk hkn hk2 A.length (by omega) A [] σ 0 rfl sA (by simp) trivial (fun _ _ => rfl)
set_option maxRecDepth 20000 in
theorem l_X6_cameJust {d : Nat} {σ : Sto} {k len : Nat} {rr : Nat → Nat} (hk : z_lay k = .inr (0, len, rr)) (hkn : k < z_NC) (n : Int) (hn : n ≤ len ∧ n ≤ 13) :
    ∀ (X A : List Int) (i : Int), 0 ≤ i → Seg σ k i.toNat X → Seg σ 40 i.toNat A → n = i + X.length → X.length = A.length →
    Z (z_me cX6_cameJust RX6 4 (some .boolean) (d + 0) (qI fun z σ' => σ' = σ ∧ yn z (X = A))) 18 [some (zR 5), some (zR k), some (zI n), some (zI i)] [] σ
  | [], A, i, hi, hs, hs2, hl, hxa => by
    rw [List.length_nil] at hl hxa
    obtain rfl : A = [] := List.length_eq_zero_iff.mp hxa.symm
    refine z_iload_n dX6_cameJust_18 rfl ?_
    refine z_iload_n dX6_cameJust_19 rfl ?_
    refine z_icmp_ge (tgt := 43) dX6_cameJust_20 (by decide) ⟨by omega, by omega⟩ ⟨by omega, by omega⟩ (fun h20 => ?_) (fun h20 => ?_)
    · skip
      refine z_iconst dX6_cameJust_43 ?_
      exact z_zret dX6_cameJust_44 (by omega) ⟨rfl, Or.inl ⟨rfl, rfl⟩⟩
    · exfalso; omega
  | w :: r, [], i, hi, hs, hs2, hl, hxa => absurd hxa (by simp)
  | w :: r, v :: t, i, hi, hs, hs2, hl, hxa => by
    rw [List.length_cons] at hl
    simp only [List.length_cons, Nat.add_right_cancel_iff] at hxa
    obtain ⟨e1, hs⟩ := hs
    obtain ⟨e2, hs2⟩ := hs2
    refine z_iload_n dX6_cameJust_18 rfl ?_
    refine z_iload_n dX6_cameJust_19 rfl ?_
    refine z_icmp_ge (tgt := 43) dX6_cameJust_20 (by decide) ⟨by omega, by omega⟩ ⟨by omega, by omega⟩ (fun h20 => ?_) (fun h20 => ?_)
    · exfalso; omega
    · skip
      refine z_aload_n dX6_cameJust_23 rfl ?_
      refine z_iload_n dX6_cameJust_24 rfl ?_
      refine z_iald dX6_cameJust_25 hk hkn (by omega) (fun hr25 => ?_)
      refine z_aload_n dX6_cameJust_26 rfl ?_
      refine z_getR dX6_cameJust_27 gX6_19 rfl (Nat.le_of_ble_eq_true rfl) rfl ?_
      refine z_iload_n dX6_cameJust_30 rfl ?_
      refine z_iald dX6_cameJust_31 rfl (Nat.le_of_ble_eq_true rfl) (by omega) (fun hr31 => ?_)
      refine z_icmp_eq (tgt := 37) dX6_cameJust_32 (by decide) ⟨by omega, by omega⟩ ⟨by omega, by omega⟩ (fun h32 => ?_) (fun h32 => ?_)
      · skip
        refine z_iinc (L' := [_, _, _, _]) dX6_cameJust_37 (Nat.le_of_ble_eq_true rfl) rfl rfl rfl ?_
        refine z_goto (tgt := 18) dX6_cameJust_40 (by decide) ?_
        refine Z.mono (l_X6_cameJust hk hkn n hn r t (i + 1) (by omega) (by rw [toN_s hi]; exact hs) (by rw [toN_s hi]; exact hs2) (by omega) hxa) ?_
        rintro r2 σ' ⟨z, q1, q2, q3⟩
        have e3 : w = v := by omega
        refine ⟨z, q1, q2, ?_⟩
        subst e3
        simpa [yn] using q3
      · skip
        refine z_iconst dX6_cameJust_35 ?_
        exact z_zret dX6_cameJust_36 (by omega) ⟨rfl, Or.inr ⟨rfl, fun q => by have := (List.cons.inj q).1; omega⟩⟩
set_option maxRecDepth 20000 in
theorem c_X6_cameJust {d : Nat} {σ : Sto} {k len : Nat} {rr : Nat → Nat} {X A : List Int} {n : Int} (hk : z_lay k = .inr (0, len, rr)) (hkn : k < z_NC) (hn : n = X.length) (hl : X.length ≤ len ∧ X.length ≤ 13) (hlen : len ≤ 2000) (sX : Seg σ k 0 X) (hA : σ 5 5 = A.length) (sA : Seg σ 40 0 A) : m_X6_cameJust d [zR 5, zR k, zI n] σ (qI fun z σ' => σ' = σ ∧ yn z (X = A)) := by
  refine z_does (L := [some (zR 5), some (zR k), some (zI n), none]) rfl (by decide +kernel) (Nat.le_of_ble_eq_true rfl) rfl ?_
  refine z_iload_n dX6_cameJust_0 rfl ?_
  refine z_aload_n dX6_cameJust_1 rfl ?_
  refine z_getI dX6_cameJust_2 gX6_45 rfl (Nat.le_of_ble_eq_true rfl) rfl (fun hr2 => ?_)
  refine z_icmp_ne (tgt := 14) dX6_cameJust_5 (by decide) ⟨by omega, by omega⟩ ⟨by omega, by omega⟩ (fun h5 => ?_) (fun h5 => ?_)
  · first
    | exfalso; omega
    | skip
      refine z_iconst dX6_cameJust_14 ?_
      exact z_zret dX6_cameJust_15 (by omega) ⟨rfl, Or.inr ⟨rfl, fun q => by have := congrArg List.length q; omega⟩⟩
  · first
    | exfalso; omega
    | skip
      refine z_iload_n dX6_cameJust_8 rfl ?_
      refine z_aload_n dX6_cameJust_9 rfl ?_
      refine z_alen dX6_cameJust_10 hk (Nat.le_of_ble_eq_true rfl) hkn ?_
      refine z_icmp_le (tgt := 16) dX6_cameJust_11 (by decide) ⟨by omega, by omega⟩ ⟨by omega, by omega⟩ (fun h11 => ?_) (fun h11 => ?_)
      · first
        | exfalso; omega
        | skip
          refine z_iconst dX6_cameJust_16 ?_
          refine z_istore_n (L' := [_, _, _, _]) dX6_cameJust_17 (Nat.le_of_ble_eq_true rfl) rfl rfl ?_
          exact l_X6_cameJust hk hkn n (by omega) X A 0 (by omega) sX sA (by omega) (by omega)
      · first
        | exfalso; omega
        | skip
          refine z_iconst dX6_cameJust_14 ?_
          exact z_zret dX6_cameJust_15 (by omega) ⟨rfl, Or.inr ⟨rfl, fun q => by have := congrArg List.length q; omega⟩⟩
set_option maxRecDepth 20000 in
theorem c_X6_fitsAt {d : Nat} {σ : Sto} {w p : Int} (hw : 0 ≤ w ∧ w < 12) (hp : inR p) (h16 : 0 ≤ σ 16 w.toNat ∧ σ 16 w.toNat ≤ 2) : m_X6_fitsAt d [zR 5, zI w, zI p] σ (qI fun z σ' => σ' = σ ∧ yn z (σ 16 w.toNat = min p 2)) := by
  refine z_does (L := [some (zR 5), some (zI w), some (zI p)]) rfl (by decide +kernel) (Nat.le_of_ble_eq_true rfl) rfl ?_
  refine z_aload_n dX6_fitsAt_0 rfl ?_
  refine z_getR dX6_fitsAt_1 gX6_9 rfl (Nat.le_of_ble_eq_true rfl) rfl ?_
  refine z_iload_n dX6_fitsAt_4 rfl ?_
  refine z_iconst dX6_fitsAt_5 ?_
  refine z_callVI (d := d + 0) (av := [_, _]) dX6_fitsAt_6 vX6_31 rfl (Nat.le_of_ble_eq_true rfl) rfl rfl rfl (Nat.le_of_ble_eq_true rfl) (Nat.le_refl _) (c_X7_get3 (by omega)) (fun z6 σ6 h6 => ?_)
  obtain ⟨rfl, hs6⟩ := h6
  subst σ6
  refine z_iload_n dX6_fitsAt_9 rfl ?_
  refine z_iconst dX6_fitsAt_10 ?_
  refine z_min dX6_fitsAt_11 mX6_56 ⟨by omega, by omega⟩ ⟨by omega, by omega⟩ (Nat.le_of_ble_eq_true rfl) (Nat.le_add_left _ _) ?_
  refine z_icmp_ne (tgt := 21) dX6_fitsAt_14 (by decide) ⟨by omega, by omega⟩ ⟨by omega, by omega⟩ (fun h14 => ?_) (fun h14 => ?_)
  · first
    | exfalso; omega
    | skip
      refine z_iconst dX6_fitsAt_21 ?_
      exact z_zret dX6_fitsAt_22 (by omega) ⟨rfl, by omega⟩
  · first
    | exfalso; omega
    | skip
      refine z_iconst dX6_fitsAt_17 ?_
      refine z_goto (tgt := 22) dX6_fitsAt_18 (by decide) ?_
      exact z_zret dX6_fitsAt_22 (by omega) ⟨rfl, by omega⟩
set_option maxRecDepth 20000 in
theorem l_X6_makesSense {d : Nat} {σ : Sto} {k len : Nat} {rr : Nat → Nat} (hk : z_lay k = .inr (0, len, rr)) (hkn : k < z_NC) (h16 : ∀ j, 0 ≤ σ 16 j ∧ σ 16 j ≤ 2) (n : Int) (hn : n ≤ len ∧ n ≤ 13) :
    ∀ (X : List Int) (i : Int), 0 ≤ i → Seg σ k i.toNat X → wok X → n = i + X.length →
    Z (z_me cX6_makesSense RX6 4 (some .boolean) (d + 2) (qI fun z σ' => σ' = σ ∧ yn z (snsL (σ 16) i X = true))) 15 [some (zR 5), some (zR k), some (zI n), some (zI i)] [] σ
  | [], i, hi, hs, hx, hl => by
    rw [List.length_nil] at hl
    refine z_iload_n dX6_makesSense_15 rfl ?_
    refine z_iload_n dX6_makesSense_16 rfl ?_
    refine z_icmp_ge (tgt := 39) dX6_makesSense_17 (by decide) ⟨by omega, by omega⟩ ⟨by omega, by omega⟩ (fun h17 => ?_) (fun h17 => ?_)
    · skip
      refine z_iconst dX6_makesSense_39 ?_
      exact z_zret dX6_makesSense_40 (by omega) ⟨rfl, Or.inl ⟨rfl, rfl⟩⟩
    · exfalso; omega
  | w :: r, i, hi, hs, hx, hl => by
    rw [List.length_cons] at hl
    obtain ⟨e1, hs⟩ := hs
    obtain ⟨hw, hx⟩ := wok_c hx
    have h16w := h16 w.toNat
    refine z_iload_n dX6_makesSense_15 rfl ?_
    refine z_iload_n dX6_makesSense_16 rfl ?_
    refine z_icmp_ge (tgt := 39) dX6_makesSense_17 (by decide) ⟨by omega, by omega⟩ ⟨by omega, by omega⟩ (fun h17 => ?_) (fun h17 => ?_)
    · exfalso; omega
    · skip
      refine z_aload_n dX6_makesSense_20 rfl ?_
      refine z_aload_n dX6_makesSense_21 rfl ?_
      refine z_iload_n dX6_makesSense_22 rfl ?_
      refine z_iald dX6_makesSense_23 hk hkn (by omega) (fun hr23 => ?_)
      rw [e1]
      refine z_iload_n dX6_makesSense_24 rfl ?_
      refine z_callVI (d := d + 1) (av := [_, _]) dX6_makesSense_25 vX6_61 rfl (Nat.le_of_ble_eq_true rfl) rfl rfl rfl (Nat.le_of_ble_eq_true rfl) (Nat.le_refl _) (c_X6_fitsAt (by omega) (by omega) (by assumption)) (fun z25 σ25 h25 => ?_)
      obtain ⟨hs25, h25⟩ := h25
      subst σ25
      refine z_if_ne (tgt := 33) dX6_makesSense_28 (by decide) ⟨by omega, by omega⟩ (fun h28 => ?_) (fun h28 => ?_)
      · first
        | exfalso; omega
        | skip
          refine z_iinc (L' := [_, _, _, _]) dX6_makesSense_33 (Nat.le_of_ble_eq_true rfl) rfl rfl rfl ?_
          refine z_goto (tgt := 15) dX6_makesSense_36 (by decide) ?_
          rw [show snsL (σ 16) i (w :: r) = snsL (σ 16) (i + 1) r by rw [snsL, if_pos (by omega)]]
          exact l_X6_makesSense hk hkn h16 n hn r (i + 1) (by omega) (by rw [toN_s hi]; exact hs) hx (by omega)
      · first
        | exfalso; omega
        | skip
          refine z_iconst dX6_makesSense_31 ?_
          exact z_zret dX6_makesSense_32 (by omega) ⟨rfl, Or.inr ⟨rfl, by rw [snsL, if_neg (by omega)]; exact Bool.false_ne_true⟩⟩
set_option maxRecDepth 20000 in
theorem c_X6_makesSense {d : Nat} {σ : Sto} {k len : Nat} {rr : Nat → Nat} {X : List Int} {n : Int} (hk : z_lay k = .inr (0, len, rr)) (hkn : k < z_NC) (h16 : ∀ j, 0 ≤ σ 16 j ∧ σ 16 j ≤ 2) (hn : n = X.length) (hl : X.length ≤ len ∧ X.length ≤ 13) (hlen : len ≤ 2000) (sX : Seg σ k 0 X) (hx : wok X) : m_X6_makesSense d [zR 5, zR k, zI n] σ (qI fun z σ' => σ' = σ ∧ yn z (2 ≤ X.length ∧ snsL (σ 16) 0 X = true)) := by
  refine z_does (L := [some (zR 5), some (zR k), some (zI n), none]) rfl (by decide +kernel) (Nat.le_of_ble_eq_true rfl) rfl ?_
  refine z_iload_n dX6_makesSense_0 rfl ?_
  refine z_iconst dX6_makesSense_1 ?_
  refine z_icmp_lt (tgt := 11) dX6_makesSense_2 (by decide) ⟨by omega, by omega⟩ ⟨by omega, by omega⟩ (fun h2 => ?_) (fun h2 => ?_)
  · first
    | exfalso; omega
    | skip
      refine z_iconst dX6_makesSense_11 ?_
      exact z_zret dX6_makesSense_12 (by omega) ⟨rfl, Or.inr ⟨rfl, fun q => by omega⟩⟩
  · first
    | exfalso; omega
    | skip
      refine z_iload_n dX6_makesSense_5 rfl ?_
      refine z_aload_n dX6_makesSense_6 rfl ?_
      refine z_alen dX6_makesSense_7 hk (Nat.le_of_ble_eq_true rfl) hkn ?_
      refine z_icmp_le (tgt := 13) dX6_makesSense_8 (by decide) ⟨by omega, by omega⟩ ⟨by omega, by omega⟩ (fun h8 => ?_) (fun h8 => ?_)
      · first
        | exfalso; omega
        | skip
          refine z_iconst dX6_makesSense_13 ?_
          refine z_istore_n (L' := [_, _, _, _]) dX6_makesSense_14 (Nat.le_of_ble_eq_true rfl) rfl rfl ?_
          refine Z.mono (l_X6_makesSense hk hkn h16 n (by omega) X 0 (by omega) sX hx (by omega)) ?_
          rintro r2 σ' ⟨z, q1, q2, q3⟩
          refine ⟨z, q1, q2, ?_⟩
          rcases q3 with ⟨a, b⟩ | ⟨a, b⟩
          · exact Or.inl ⟨a, by omega, b⟩
          · exact Or.inr ⟨a, fun q => b q.2⟩
      · first
        | exfalso; omega
        | skip
          refine z_iconst dX6_makesSense_11 ?_
          exact z_zret dX6_makesSense_12 (by omega) ⟨rfl, Or.inr ⟨rfl, fun q => by omega⟩⟩
set_option maxRecDepth 20000 in
theorem l_X6_sumOf {d : Nat} {σ : Sto} {k len : Nat} {rr : Nat → Nat} {wh : Int} (hk : z_lay k = .inr (0, len, rr)) (hkn : k < z_NC) (hlen : len ≤ 2000) (hw : 0 ≤ wh ∧ wh < 8) (hf : ∀ j, 0 ≤ σ (13 + wh.toNat) j ∧ σ (13 + wh.toNat) j ≤ 9) (n : Int) (hn : n ≤ len ∧ n ≤ 13) :
    ∀ (X : List Int) (i s : Int), 0 ≤ i → Seg σ k i.toNat X → wok X → n = i + X.length → (0 ≤ s ∧ s ≤ 9 * i) →
    Z (z_me cX6_sumOf RX6 6 (some .int) (d + 1) (qI fun z σ' => z = s + sumL (σ (13 + wh.toNat)) X ∧ σ' = σ)) 6 [some (zR 5), some (zR k), some (zI n), some (zI wh), some (zI s), some (zI i)] [] σ
  | [], i, s, hi, hs, hx, hl, hb => by
    rw [List.length_nil] at hl
    refine z_iload dX6_sumOf_6 rfl ?_
    refine z_iload_n dX6_sumOf_8 rfl ?_
    refine z_icmp_ge (tgt := 42) dX6_sumOf_9 (by decide) ⟨by omega, by omega⟩ ⟨by omega, by omega⟩ (fun h9 => ?_) (fun h9 => ?_)
    · skip
      refine z_iload dX6_sumOf_42 rfl ?_
      exact z_iret dX6_sumOf_44 ⟨by rw [sumL]; omega, rfl⟩
    · exfalso; omega
  | w :: r, i, s, hi, hs, hx, hl, hb => by
    rw [List.length_cons] at hl
    obtain ⟨e1, hs⟩ := hs
    obtain ⟨h0, hx⟩ := wok_c hx
    have hfw := hf w.toNat
    refine z_iload dX6_sumOf_6 rfl ?_
    refine z_iload_n dX6_sumOf_8 rfl ?_
    refine z_icmp_ge (tgt := 42) dX6_sumOf_9 (by decide) ⟨by omega, by omega⟩ ⟨by omega, by omega⟩ (fun h9 => ?_) (fun h9 => ?_)
    · exfalso; omega
    · skip
      refine z_iload dX6_sumOf_12 rfl ?_
      refine z_aload_n dX6_sumOf_14 rfl ?_
      refine z_alen dX6_sumOf_15 hk (Nat.le_of_ble_eq_true rfl) hkn ?_
      refine z_icmp_ge (tgt := 42) dX6_sumOf_16 (by decide) ⟨by omega, by omega⟩ ⟨by omega, by omega⟩ (fun h16 => ?_) (fun h16 => ?_)
      · exfalso; omega
      · skip
        refine z_iload dX6_sumOf_19 rfl ?_
        refine z_aload_n dX6_sumOf_21 rfl ?_
        refine z_getR dX6_sumOf_22 gX6_9 rfl (Nat.le_of_ble_eq_true rfl) rfl ?_
        refine z_aload_n dX6_sumOf_25 rfl ?_
        refine z_iload dX6_sumOf_26 rfl ?_
        refine z_iald dX6_sumOf_28 hk hkn (by omega) (fun hr28 => ?_)
        rw [e1]
        refine z_iload_n dX6_sumOf_29 rfl ?_
        refine z_callVI (d := d + 0) (av := [_, _]) dX6_sumOf_30 vX6_31 rfl (Nat.le_of_ble_eq_true rfl) rfl rfl rfl (Nat.le_of_ble_eq_true rfl) (Nat.le_refl _) (c_X7_get (by omega) (by omega)) (fun z30 σ30 h30 => ?_)
        obtain ⟨rfl, hs30⟩ := h30
        subst σ30
        refine z_iadd dX6_sumOf_33 ?_
        refine z_istore (L' := [_, _, _, _, _, _]) dX6_sumOf_34 (Nat.le_of_ble_eq_true rfl) rfl rfl ?_
        refine z_iinc (L' := [_, _, _, _, _, _]) dX6_sumOf_36 (Nat.le_of_ble_eq_true rfl) rfl rfl rfl ?_
        refine z_goto (tgt := 6) dX6_sumOf_39 (by decide) ?_
        rw [sumL, ← Int.add_assoc]
        exact l_X6_sumOf hk hkn hlen hw hf n hn r (i + 1) _ (by omega) (by rw [toN_s hi]; exact hs) hx (by omega) (by omega)
set_option maxRecDepth 20000 in
theorem c_X6_sumOf {d : Nat} {σ : Sto} {k len : Nat} {rr : Nat → Nat} {X : List Int} {n wh : Int} (hk : z_lay k = .inr (0, len, rr)) (hkn : k < z_NC) (hw : 0 ≤ wh ∧ wh < 8) (hf : ∀ j, 0 ≤ σ (13 + wh.toNat) j ∧ σ (13 + wh.toNat) j ≤ 9) (hn : n = X.length) (hl : X.length ≤ len ∧ X.length ≤ 13) (hlen : len ≤ 2000) (sX : Seg σ k 0 X) (hx : wok X) : m_X6_sumOf d [zR 5, zR k, zI n, zI wh] σ (qI fun z σ' => z = sumL (σ (13 + wh.toNat)) X ∧ σ' = σ) := by
  refine z_does (L := [some (zR 5), some (zR k), some (zI n), some (zI wh), none, none]) rfl (by decide +kernel) (Nat.le_of_ble_eq_true rfl) rfl ?_
  refine z_iconst dX6_sumOf_0 ?_
  refine z_istore (L' := [_, _, _, _, _, _]) dX6_sumOf_1 (Nat.le_of_ble_eq_true rfl) rfl rfl ?_
  refine z_iconst dX6_sumOf_3 ?_
  refine z_istore (L' := [_, _, _, _, _, _]) dX6_sumOf_4 (Nat.le_of_ble_eq_true rfl) rfl rfl ?_
  have h := l_X6_sumOf (d := d) hk hkn hlen hw hf n (by omega) X 0 0 (by omega) sX hx (by omega) (by omega)
  rw [Int.zero_add] at h
  exact h
