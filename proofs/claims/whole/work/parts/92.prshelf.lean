/-! ===== bodies and shelves: class against reference ===== -/
/-- bodies and shelves alone are written -/
theorem bs_inv {n : Nat} {σ τ : Sto} (hI : Inv n σ) (h : ∀ a, (a ≤ 4 ∨ a = 7 ∨ (13 ≤ a ∧ a ≤ 27) ∨ (74 ≤ a ∧ a ≤ 79) ∨ (82 ≤ a ∧ a ≤ 100) ∨ (111 ≤ a ∧ a ≤ 114)) → a ≠ 4 → τ a = σ a) (h9 : ∀ j, (j = 1 ∨ j = 7 ∨ j = 11 ∨ j = 13 ∨ j = 14 ∨ j = 15 ∨ j = 21 ∨ j = 33 ∨ j = 49 ∨ j = 50) → τ 9 j = σ 9 j) (h6 : I6 τ) (h7 : I7 τ) : Inv n τ := by
  obtain ⟨⟨LF, h1⟩, h3, h4, h5, -, -⟩ := hI
  have e1 : τ 1 = σ 1 := h 1 (by omega) (by decide)
  refine ⟨⟨LF, I1.cg (σ := σ) (fun a ha => h a (by omega) (by omega)) (fun j hj => h9 j (by omega)) h1⟩, I3.up (σ := σ) (by rw [e1]; exact Int.le_refl _) (by rw [e1]; exact Int.le_refl _) (by rw [e1]; exact Int.le_refl _) (fun a ha => h a (by omega) (by omega)) ⟨h9 14 (by omega), h9 15 (by omega)⟩ h3, ?_, ?_, h6, h7⟩
  · unfold I4 tpO at h4 ⊢
    rw [h9 21 (by omega), h 3 (by omega) (by omega), h 25 (by omega) (by omega), h 95 (by omega) (by omega)]
    exact h4
  · unfold I5 at h5 ⊢
    rw [h9 49 (by omega), h9 50 (by omega), h 1 (by omega) (by omega), h 7 (by omega) (by omega), h 74 (by omega) (by omega), h 75 (by omega) (by omega), h 76 (by omega) (by omega), h 77 (by omega) (by omega), h 78 (by omega) (by omega), h 79 (by omega) (by omega), h 88 (by omega) (by omega), h 89 (by omega) (by omega), h 111 (by omega) (by omega), h 112 (by omega) (by omega), h 113 (by omega) (by omega), h 114 (by omega) (by omega)]
    exact h5
theorem pr_body {d e n : Nat} {σ : Sto} {x : Int} (hI : Inv n σ) (i1 : inR x) : m_X8_body d [zR 0, zI x] σ (qI fun z σ1 => m_X9_body e [zR 9, zI x] σ1 (qI fun z' σ2 => zI z' = zI z ∧ Inv (n + 1) σ2)) := by
  obtain ⟨-, h3, h4, h5, h6, h7⟩ := id hI
  obtain ⟨⟨e54, e56⟩, c8, ⟨e115, e116⟩, hk⟩ := h6
  refine (c_X8_body c8 i1).mono ?_
  rintro r σ1 ⟨z, rfl, hz⟩
  have hc1 : σ1 9 54 = σ 9 54 := by rcases hz with ⟨-, -, rfl⟩ | ⟨-, ⟨-, -, rfl⟩ | ⟨-, -, rfl⟩⟩ <;> rfl
  refine ⟨z, rfl, (c_X9_body (by omega) i1).mono ?_⟩
  rintro r' σ2 ⟨z', rfl, hz'⟩
  refine ⟨z', rfl, ?_⟩
  rcases hz with ⟨q, rfl, rfl⟩ | ⟨q, ⟨q2, rfl, rfl⟩ | ⟨q2, rfl, rfl⟩⟩
  · rcases hz' with ⟨p, rfl, rfl⟩ | ⟨p, -⟩
    · exact ⟨rfl, hI.up⟩
    · exact absurd p q
  · rcases hz' with ⟨p, -⟩ | ⟨p, ⟨p2, rfl, rfl⟩ | ⟨p2, -⟩⟩
    · exact absurd q p
    · exact ⟨rfl, hI.up⟩
    · exfalso; omega
  · rcases hz' with ⟨p, -⟩ | ⟨p, ⟨p2, -⟩ | ⟨p2, hz2, rfl⟩⟩
    · exact absurd q p
    · exfalso; omega
    · refine ⟨by rw [hz2, hc1, e54], Inv.up (bs_inv hI (fun a ha _ => by repeat rw [z_put_ne (by omega)]) (fun j hj => by rw [z_rd, if_pos rfl, if_neg (by omega)]; rfl) ⟨⟨?_, e56⟩, ?_, ⟨?_, e116⟩, fun j => ?_⟩ (I7.cong (σ := σ) (show σ 8 2 ≤ σ 8 2 + 1 by omega) (fun a ha => by repeat rw [z_put_ne (by omega)]) h7))⟩
      · show σ 9 54 + 1 = σ 8 2 + 1; omega
      · show 0 ≤ σ 8 2 + 1 ∧ σ 8 2 + 1 ≤ 50; omega
      · show pu (σ 115) (σ 9 54).toNat x = pu (σ 80) (σ 8 2).toNat x; rw [e54, e115]
      · show 0 ≤ pu (σ 80) (σ 8 2).toNat x j ∧ pu (σ 80) (σ 8 2).toNat x j < 8
        unfold pu
        split
        · exact q
        · exact hk j
theorem push_eq : ∀ (l : List Int) (σ τ : Sto), σ 8 3 = τ 9 56 → σ 81 = τ 116 → pushT σ l 8 3 = pushM τ l 9 56 ∧ pushT σ l 81 = pushM τ l 116
  | [], σ, τ, h, g => ⟨h, g⟩
  | b :: l, σ, τ, h, g => by
    rw [pushT, pushM]
    refine push_eq l _ _ ?_ ?_
    · rw [ntS_3, rnM_3, h]
    · unfold ntS rnM
      rw [z_put_ne (by decide), z_put_ne (by decide), h]
      split
      · funext j; rw [z_rd, z_rd, if_pos rfl, if_pos rfl, g]
      · exact g
theorem acS_o {σ : Sto} {b a x : Int} {k : Nat} (h : k ≠ 8) (h2 : k ≠ 81) : acS σ b a x k = σ k := by
  unfold acS
  split
  · funext j
    rw [pushT_o _ _ _ _ h2 (Or.inl h), z_put_ne h, z_put_ne h, z_put_ne h]
  · exact z_put_ne h
theorem acU_o {σ : Sto} {b a x : Int} {k : Nat} (h : k ≠ 9) (h2 : k ≠ 116) : acU σ b a x k = σ k := by
  unfold acU
  split
  · funext j
    rw [pushM_o _ _ _ _ h2 (Or.inl h), z_put_ne h]
  · exact z_put_ne h
theorem pr_act {d e n : Nat} {σ : Sto} {b a x : Int} (hI : Inv n σ) (i1 : inR b) (i2 : inR a) : Does (d + 83) yX8_act cX8_act 4 (some .int) [zR 0, zI b, zI a, zI x] σ (qI fun z σ1 => m_X9_act e [zR 9, zI b, zI a, zI x] σ1 (qI fun z' σ2 => zI z' = zI z ∧ Inv (n + 1) σ2)) := by
  obtain ⟨-, h3, h4, h5, h6, h7⟩ := id hI
  obtain ⟨⟨e54, e56⟩, c8, ⟨e115, e116⟩, hk⟩ := h6
  refine (c_X8_act c8 i1 i2 hk).mono ?_
  rintro r σ1 ⟨z, rfl, hz, hs1⟩
  have f9 : σ1 9 = σ 9 := by rw [hs1]; exact acS_o (by decide) (by decide)
  have f115 : σ1 115 = σ 80 := by rw [hs1, acS_o (by decide) (by decide), e115]
  have f116 : σ1 116 = σ 81 := by rw [hs1, acS_o (by decide) (by decide), e116]
  refine ⟨z, rfl, (c_X9_act (by rw [f9]; omega) i1 i2 (by rw [f115]; exact hk)).mono ?_⟩
  rintro r' σ2 ⟨z', rfl, hz', hs2⟩
  rw [f9, f115, e54] at hz'
  refine ⟨z', rfl, by rw [hz', hz], Inv.up ?_⟩
  have o : ∀ k, k ≠ 8 → k ≠ 81 → k ≠ 9 → k ≠ 116 → σ2 k = σ k := fun k p1 p2 p3 p4 => by rw [hs2, acU_o p3 p4, hs1, acS_o p1 p2]
  have o9 : ∀ j, j ≠ 56 → σ2 9 j = σ 9 j := fun j hj => by
    rw [hs2]
    unfold acU
    split
    · rw [pushM_o _ _ _ _ (by decide) (Or.inr hj), z_rd, if_pos rfl, if_neg hj, f9]
    · rw [z_rd, if_pos rfl, if_neg hj, f9]
  have o82 : σ2 8 2 = σ 8 2 := by
    rw [hs2, acU_o (by decide) (by decide), hs1]
    unfold acS
    split
    · rw [pushT_o _ _ _ _ (by decide) (Or.inr (by decide))]; rfl
    · rfl
  have key : σ2 9 56 = σ2 8 3 ∧ σ2 116 = σ2 81 := by
    have k8 : σ2 8 = σ1 8 := by rw [hs2]; exact acU_o (by decide) (by decide)
    have k81 : σ2 81 = σ1 81 := by rw [hs2]; exact acU_o (by decide) (by decide)
    rw [k8, k81, hs2]
    have hs1' := hs1
    unfold acS at hs1'
    unfold acU
    rw [f9, e54]
    by_cases c : 0 ≤ b ∧ b < σ 8 2 ∧ 0 ≤ a ∧ a < 4
    · rw [if_pos c] at hs1' ⊢
      rw [f115]
      have := push_eq (runF 40 (σ 80 b.toNat) b a (σ 80 b.toNat) x).2 (z_put (z_put (z_put σ 8 3 0) 8 4 b) 8 5 (σ 80 b.toNat)) (z_put σ1 9 56 0) rfl (by rw [z_put_ne (show (116 : Nat) ≠ 9 by decide), f116]; rfl)
      rw [hs1'] at this ⊢
      exact ⟨this.1.symm, this.2.symm⟩
    · rw [if_neg c] at hs1' ⊢
      rw [z_put_ne (show (116 : Nat) ≠ 9 by decide), f116, hs1']
      exact ⟨rfl, rfl⟩
  refine bs_inv hI (fun k hk _ => o k (by omega) (by omega) (by omega) (by omega)) (fun j hj => o9 j (by omega)) ⟨⟨?_, key.1⟩, ?_, ⟨?_, key.2⟩, ?_⟩ (I7.cong (σ := σ) (by rw [o82]; exact Int.le_refl _) (fun k hk => o k (by omega) (by omega) (by omega) (by omega)) h7)
  · rw [o9 54 (by decide), o82, e54]
  · rw [o82]; exact c8
  · rw [o 115 (by decide) (by decide) (by decide) (by decide), o 80 (by decide) (by decide) (by decide) (by decide), e115]
  · rw [o 80 (by decide) (by decide) (by decide) (by decide)]; exact hk
theorem pr_trace {d e n : Nat} {σ : Sto} {i : Int} (hI : Inv n σ) (i1 : inR i) : m_X8_trace d [zR 0, zI i] σ (qI fun z σ1 => m_X9_trace e [zR 9, zI i] σ1 (qI fun z' σ2 => zI z' = zI z ∧ Inv (n + 1) σ2)) := by
  obtain ⟨⟨e54, e56⟩, c8, ⟨e115, e116⟩, hk⟩ := hI.2.2.2.2.1
  refine (c_X8_trace i1).mono ?_
  rintro r σ1 ⟨z, rfl, rfl, hz⟩
  refine ⟨z, rfl, (c_X9_trace i1).mono ?_⟩
  rintro r' σ2 ⟨z', rfl, rfl, hz'⟩
  refine ⟨z', rfl, ?_, hI.up⟩
  rw [e56, e116] at hz'
  rcases hz with ⟨q1, q2, q3, rfl⟩ | ⟨q1, rfl⟩
  · rcases hz' with ⟨-, -, -, rfl⟩ | ⟨p1, rfl⟩
    · rfl
    · exfalso; omega
  · rcases hz' with ⟨p1, p2, p3, rfl⟩ | ⟨-, rfl⟩
    · exfalso; omega
    · rfl
theorem pr_count {d e n : Nat} {σ : Sto} {w : Int} (hI : Inv n σ) (hok : z_ok σ) (i1 : inR w) : m_X8_count d [zR 0, zI w] σ (qI fun z σ1 => m_X9_count e [zR 9, zI w] σ1 (qI fun z' σ2 => zI z' = zI z ∧ Inv (n + 1) σ2)) := by
  obtain ⟨⟨LF, h1⟩, h3, h4, h5, h6, h7⟩ := id hI
  obtain ⟨e1, e7, e11, e13⟩ := h1.2.2.1
  refine (c_X8_count ⟨hok 1 1 (Nat.le_of_ble_eq_true rfl), hok 1 2 (Nat.le_of_ble_eq_true rfl), hok 1 3 (Nat.le_of_ble_eq_true rfl), hok 3 5 (Nat.le_of_ble_eq_true rfl), hok 2 4 (Nat.le_of_ble_eq_true rfl), hok 8 2 (Nat.le_of_ble_eq_true rfl), hok 8 3 (Nat.le_of_ble_eq_true rfl)⟩ i1).mono ?_
  rintro r σ1 ⟨z, rfl, hz, rfl⟩
  refine ⟨z, rfl, (c_X9_count i1).mono ?_⟩
  rintro r' σ2 ⟨z', rfl, hz', rfl⟩
  refine ⟨z', rfl, ?_, hI.up⟩
  rw [hz, hz', e1, e7, e11, h4.2.1, h3.1.1, h6.1.1, h6.1.2]
theorem pr_taken {d e n : Nat} {σ : Sto} {s u : Int} (hI : Inv n σ) (i1 : inR s) (i2 : inR u) : m_X8_taken d [zR 0, zI s, zI u] σ (qI fun z σ1 => m_X9_taken e [zR 9, zI s, zI u] σ1 (qI fun z' σ2 => zI z' = zI z ∧ Inv (n + 1) σ2)) := by
  obtain ⟨-, h3, h4, h5, h6, h7⟩ := id hI
  obtain ⟨⟨e54, e56⟩, c8, ⟨e115, e116⟩, hk⟩ := h6
  refine (c_X8_taken c8 hk i1 i2).mono ?_
  rintro r σ1 ⟨z, rfl, hz, rfl⟩
  refine ⟨z, rfl, (c_X9_taken hI.sm (by rw [e115]; exact hk) i1 i2).mono ?_⟩
  rintro r' σ2 ⟨z', rfl, hz', rfl⟩
  refine ⟨z', rfl, ?_, hI.up⟩
  rw [hz, hz']
  congr 1
  unfold tkM tkC
  by_cases c : ¬ (0 ≤ s ∧ s < 6) ∨ ¬ (0 ≤ u ∧ u < 8)
  · rw [if_pos c, if_pos c]
  · rw [if_neg c, if_neg c]
    have hq := h7.2.2.1 s.toNat (by omega)
    unfold shR at hq
    rcases hq with ⟨q1, q2⟩ | ⟨q1, q2, q3, q4⟩ | ⟨q1, q2, q3⟩
    · rw [if_pos q2, if_pos q1]
    · rw [if_neg (show ¬ σ2 117 s.toNat = -1 by omega), if_neg (show ¬ σ2 30 s.toNat = -1 by omega)]
      have ek : kdC σ2 s = σ2 80 (σ2 31 s.toNat).toNat := by unfold kdC; rw [if_pos ⟨q1, q2, q3⟩]
      rw [ek, q4, e115]
      by_cases c2 : undN 8 (σ2 80 (σ2 31 s.toNat).toNat) u = true
      · rw [if_pos ⟨q2, c2⟩, if_pos c2]
      · rw [if_neg (fun v => c2 v.2), if_neg c2]
    · rw [if_neg (show ¬ σ2 117 s.toNat = -1 by omega), if_neg (show ¬ σ2 30 s.toNat = -1 by omega), if_neg (fun v => by have := v.1; omega)]
      have ek : kdC σ2 s = -1 := by unfold kdC; rw [if_neg (by omega)]
      rw [ek, undN_out (by decide), if_neg Bool.false_ne_true]
theorem pr_keep {d e n : Nat} {σ : Sto} {s b : Int} (hI : Inv n σ) (i1 : inR s) (i2 : inR b) : m_X8_keep d [zR 0, zI s, zI b] σ (qI fun z σ1 => m_X9_keep e [zR 9, zI s, zI b] σ1 (qI fun z' σ2 => zI z' = zI z ∧ Inv (n + 1) σ2)) := by
  obtain ⟨-, h3, h4, h5, h6, h7⟩ := id hI
  obtain ⟨⟨e54, e56⟩, c8, ⟨e115, e116⟩, hk⟩ := h6
  refine (c_X8_keep i1 i2).mono ?_
  rintro r σ1 ⟨z, rfl, hz⟩
  have f9 : σ1 9 = σ 9 := by rcases hz with ⟨-, -, rfl⟩ | ⟨-, -, rfl⟩ <;> rfl
  refine ⟨z, rfl, (c_X9_keep (by rw [f9]; omega) i1 i2).mono ?_⟩
  rintro r' σ2 ⟨z', rfl, hz'⟩
  refine ⟨z', rfl, ?_⟩
  have ek : kpM σ1 s b ↔ kpS σ s b := by unfold kpM kpS; rw [f9, e54]; omega
  rw [ek] at hz'
  rcases hz with ⟨q, rfl, rfl⟩ | ⟨q, rfl, hs1⟩
  · rcases hz' with ⟨-, rfl, rfl⟩ | ⟨p, -⟩
    · exact ⟨rfl, hI.up⟩
    · exact absurd p q
  · rcases hz' with ⟨p, -⟩ | ⟨-, rfl, hs2⟩
    · exact absurd q p
    · refine ⟨rfl, Inv.up ?_⟩
      obtain ⟨⟨g1, g2⟩, g3, g4⟩ := q
      have o : ∀ a, a ≠ 30 → a ≠ 31 → a ≠ 117 → a ≠ 32 → σ2 a = σ a := fun a p1 p2 p3 p4 => by
        rw [hs2, hs1]; unfold hdS
        rw [z_put_ne p3, z_put_ne p4, z_put_ne p2, z_put_ne p1]
      have o32 : σ2 32 = pu (σ 32) s.toNat 0 := by rw [hs2, hs1]; rfl
      have o30 : σ2 30 = pu (σ 30) s.toNat (if b < 0 then -1 else -2) := by rw [hs2, hs1]; rfl
      have o31 : σ2 31 = pu (σ 31) s.toNat b := by rw [hs2, hs1]; rfl
      have o117 : σ2 117 = pu (σ 117) s.toNat b := by rw [hs2, hs1]; rfl
      refine bs_inv hI (fun a ha _ => o a (by omega) (by omega) (by omega) (by omega)) (fun j hj => by rw [o 9 (by decide) (by decide) (by decide) (by decide)]) ?_ ?_
      · unfold I6
        rw [o 9 (by decide) (by decide) (by decide) (by decide), o 8 (by decide) (by decide) (by decide) (by decide), o 80 (by decide) (by decide) (by decide) (by decide), o 81 (by decide) (by decide) (by decide) (by decide), o 115 (by decide) (by decide) (by decide) (by decide), o 116 (by decide) (by decide) (by decide) (by decide)]
        exact ⟨⟨e54, e56⟩, c8, ⟨e115, e116⟩, hk⟩
      · obtain ⟨k1, k2, k3, k4, k5⟩ := h7
        refine ⟨fun t t0 t6 => ?_, fun t ht => ?_, fun t ht => ?_, fun t j ht hj => by rw [o 119 (by decide) (by decide) (by decide) (by decide), o (34 + t) (by omega) (by omega) (by omega) (by omega)]; exact k4 t j ht hj, fun t j ht hj => by rw [o (34 + t) (by omega) (by omega) (by omega) (by omega)]; exact k5 t j ht hj⟩
        · obtain ⟨a1, a2, a3⟩ := k1 t t0 t6
          rw [o30, o32, o (34 + t.toNat) (by omega) (by omega) (by omega) (by omega)]
          unfold pu
          by_cases c : t.toNat = s.toNat
          · rw [if_pos c, if_pos c]
            refine ⟨by split <;> omega, by omega, fun v => ?_⟩
            split at v <;> omega
          · rw [if_neg c, if_neg c]; exact ⟨a1, a2, a3⟩
        · rw [o 118 (by decide) (by decide) (by decide) (by decide), o30, o32]
          refine ⟨(k2 t ht).1, ?_⟩
          unfold pu
          by_cases c : t = s.toNat
          · rw [if_pos c, if_pos c]
            intro v
            split at v <;> omega
          · rw [if_neg c, if_neg c]; exact (k2 t ht).2
        · have := k3 t ht
          unfold shR at this ⊢
          rw [o30, o31, o117, o 8 (by decide) (by decide) (by decide) (by decide)]
          unfold pu
          by_cases c : t = s.toNat
          · rw [if_pos c, if_pos c, if_pos c]
            by_cases cb : b < 0
            · rw [if_pos cb]; exact Or.inl ⟨rfl, by omega⟩
            · rw [if_neg cb]; exact Or.inr (Or.inl ⟨rfl, by omega, g4, rfl⟩)
          · rw [if_neg c, if_neg c, if_neg c]; exact this
theorem er_eq {σ : Sto} (h7 : I7 σ) (s a : Int) : erM σ s a = erC σ s a := by
  unfold erM erC
  by_cases c : ¬ (0 ≤ s ∧ s < 6)
  · rw [if_pos c, if_pos c]
  · rw [if_neg c, if_neg c]
    have hq := h7.2.2.1 s.toNat (by omega)
    unfold shR at hq
    rcases hq with ⟨q1, q2⟩ | ⟨q1, q2, q3, q4⟩ | ⟨q1, q2, q3⟩
    · rw [if_pos q2, if_pos q1]
    · rw [if_neg (by omega), if_pos (by omega), if_neg (by omega), if_pos (by omega)]
    · rw [if_neg (show ¬ σ 117 s.toNat = -1 by omega), if_neg (show ¬ 0 ≤ σ 117 s.toNat by omega), if_neg (show ¬ σ 30 s.toNat = -1 by omega), if_neg (show ¬ σ 30 s.toNat < 0 by omega), (h7.2.1 s.toNat (by omega)).2 q1]
theorem erC_z {σ : Sto} {s a : Int} (h : erC σ s a = 0) : (0 ≤ s ∧ s < 6) ∧ 0 ≤ σ 30 s.toNat ∧ 0 ≤ a ∧ a < σ 32 s.toNat := by
  unfold erC at h
  by_cases c : ¬ (0 ≤ s ∧ s < 6)
  · rw [if_pos c] at h; omega
  · rw [if_neg c] at h
    split at h
    · omega
    · split at h
      · omega
      · split at h
        · omega
        · omega
theorem pr_element {d e n : Nat} {σ : Sto} {s a : Int} (hI : Inv n σ) (i1 : inR s) (i2 : inR a) : m_X8_element d [zR 0, zI s, zI a] σ (qJ fun z σ1 => m_X9_element e [zR 9, zI s, zI a] σ1 (qJ fun z' σ2 => zJ z' = zJ z ∧ Inv (n + 1) σ2)) := by
  have h7 := hI.2.2.2.2.2
  refine (c_X8_element hI.sh i1 i2).mono ?_
  rintro r σ1 ⟨z, rfl, hz, rfl⟩
  refine ⟨z, rfl, (c_X9_element hI.sm i1 i2).mono ?_⟩
  rintro r' σ2 ⟨z', rfl, hz', rfl⟩
  refine ⟨z', rfl, ?_, hI.up⟩
  rw [er_eq h7] at hz'
  rw [hz, hz']
  by_cases c : erC σ2 s a = 0
  · rw [if_neg (fun v => v c), if_neg (fun v => v c)]
    obtain ⟨g1, g2, g3, g4⟩ := erC_z c
    have hl := (h7.1 s g1.1 g1.2).2.1
    rw [show (60 * s + a).toNat = 60 * s.toNat + a.toNat by omega, h7.2.2.2.1 s.toNat a.toNat (by omega) (by omega)]
  · rw [if_pos c, if_pos c]
theorem i2b_R (a : Int) : -128 ≤ z_i2bF a ∧ z_i2bF a ≤ 127 := by
  unfold z_i2bF
  rw [Int8.toInt_toInt32]
  have h1 := Int8.le_toInt (Int32.ofInt a).toInt8
  have h2 := Int8.toInt_lt (Int32.ofInt a).toInt8
  omega
theorem low_eq {so v y y' : Int} (h : lowR so v y) (h' : lowR so v y') : y' = y := by
  rcases h with ⟨q1, q2⟩ | ⟨q1, q2⟩ | ⟨q1, q2⟩ | ⟨q1, q2⟩ | ⟨q1, q2, q3, q4, q5⟩
  · rcases h' with p | p | p | p | p
    · rw [q2, p.2]
    all_goals (exfalso; omega)
  · rcases h' with p | p | p | p | p
    · exfalso; omega
    · rw [q2, p.2]
    all_goals (exfalso; omega)
  · rcases h' with p | p | p | p | p
    · exfalso; omega
    · exfalso; omega
    · rw [q2, p.2]
    all_goals (exfalso; omega)
  · rcases h' with p | p | p | p | p
    · exfalso; omega
    · exfalso; omega
    · exfalso; omega
    · rw [q2, p.2]
    · exfalso; omega
  · rcases h' with p | p | p | p | p
    · exfalso; omega
    · exfalso; omega
    · exfalso; omega
    · exfalso; omega
    · obtain ⟨-, -, -, -, p5⟩ := p
      omega
/-- shelves alone are written -/
theorem sh_inv {n : Nat} {σ τ : Sto} (hI : Inv n σ) (o : ∀ a, ¬ (30 ≤ a ∧ a ≤ 39) → ¬ (117 ≤ a ∧ a ≤ 120) → τ a = σ a) (h7 : I7 τ) : Inv n τ := by
  refine bs_inv hI (fun a ha _ => o a (by omega) (by omega)) (fun j hj => by rw [o 9 (by decide) (by decide)]) ?_ h7
  have h6 := hI.2.2.2.2.1
  unfold I6 at h6 ⊢
  rw [o 9 (by decide) (by decide), o 8 (by decide) (by decide), o 80 (by decide) (by decide), o 81 (by decide) (by decide), o 115 (by decide) (by decide), o 116 (by decide) (by decide)]
  exact h6
theorem pr_put {d e n : Nat} {σ : Sto} {s a v : Int} (hI : Inv n σ) (i1 : inR s) (i2 : inR a) (i3 : inJ v) : m_X8_put d [zR 0, zI s, zI a, zJ v] σ (qI fun z σ1 => m_X9_put e [zR 9, zI s, zI a, zJ v] σ1 (qI fun z' σ2 => zI z' = zI z ∧ Inv (n + 1) σ2)) := by
  have h7 := hI.2.2.2.2.2
  refine (c_X8_put hI.sh i1 i2 i3).mono ?_
  rintro r σ1 ⟨z, rfl, hz⟩
  have fr1 : ∀ k, ¬ (34 ≤ k ∧ k ≤ 39) → σ1 k = σ k := fun k hk => by
    rcases hz with ⟨-, -, rfl⟩ | ⟨q, -, y, -, rfl⟩
    · rfl
    · have := (erC_z q).1
      exact z_put_ne (by omega)
  have hSM := hI.sm
  refine ⟨z, rfl, (c_X9_put (fun t h0 h6 => by rw [fr1 117 (by omega), fr1 118 (by omega), fr1 119 (by omega)]; exact hSM t h0 h6) i1 i2 i3).mono ?_⟩
  rintro r' σ2 ⟨z', rfl, hz'⟩
  refine ⟨z', rfl, ?_⟩
  have eM : erM σ1 s a = erC σ s a := by rw [← er_eq h7]; unfold erM; rw [fr1 117 (by omega), fr1 118 (by omega)]
  rw [eM, fr1 117 (by omega)] at hz'
  rcases hz with ⟨q, rfl, rfl⟩ | ⟨q, rfl, y, hy, hs1⟩
  · rcases hz' with ⟨-, rfl, rfl⟩ | ⟨p, -⟩
    · exact ⟨rfl, hI.up⟩
    · exact absurd p q
  · rcases hz' with ⟨p, -⟩ | ⟨-, rfl, y', hy', hs2⟩
    · exact absurd q p
    · refine ⟨rfl, Inv.up ?_⟩
      obtain ⟨g1, g2, g3, g4⟩ := erC_z q
      have hq := h7.2.2.1 s.toNat (by omega)
      have hl := (h7.1 s g1.1 g1.2).2.1
      unfold shR at hq
      rw [show -2 - σ 117 s.toNat = σ 30 s.toNat by omega] at hy'
      have eyy := low_eq hy hy'
      subst eyy
      have o : ∀ k, ¬ (34 ≤ k ∧ k ≤ 39) → k ≠ 119 → σ2 k = σ k := fun k p1 p2 => by rw [hs2, z_put_ne p2, fr1 k p1]
      refine sh_inv hI (fun k p1 p2 => o k (by omega) (by omega)) ?_
      have hel : ∀ t : Nat, t < 6 → σ2 (34 + t) = (if t = s.toNat then pu (σ (34 + t)) a.toNat y' else σ (34 + t)) := fun t ht => by
        rw [hs2, z_put_ne (by omega), hs1]
        by_cases c : t = s.toNat
        · rw [if_pos c, ← c, z_put_pu]
        · rw [if_neg c, z_put_ne (by omega)]
      obtain ⟨k1, k2, k3, k4, k5⟩ := h7
      refine ⟨fun t t0 t6 => ?_, fun t ht => by rw [o 118 (by decide) (by decide), o 30 (by decide) (by decide), o 32 (by decide) (by decide)]; exact k2 t ht, fun t ht => ?_, fun t j ht hj => ?_, fun t j ht hj => ?_⟩
      · obtain ⟨a1, a2, a3⟩ := k1 t t0 t6
        rw [o 30 (by decide) (by decide), o 32 (by decide) (by decide), hel t.toNat (by omega)]
        refine ⟨a1, a2, fun v j => ?_⟩
        by_cases c : t.toNat = s.toNat
        · rw [if_pos c]
          unfold pu
          split
          · rw [c] at v
            rcases hy with w | w | w | w | w
            · rw [w.2]; exact i2b_R _
            all_goals (exfalso; omega)
          · exact a3 v j
        · rw [if_neg c]; exact a3 v j
      · have := k3 t ht
        unfold shR at this ⊢
        rw [o 30 (by decide) (by decide), o 31 (by decide) (by decide), o 117 (by decide) (by decide), o 8 (by decide) (by decide)]
        exact this
      · rw [hel t ht, hs2, z_put_pu, fr1 119 (by decide)]
        by_cases c : t = s.toNat
        · rw [if_pos c]
          unfold pu
          by_cases cj : j = a.toNat
          · rw [if_pos cj, if_pos (by omega)]
          · rw [if_neg cj, if_neg (by omega)]; exact k4 t j ht hj
        · rw [if_neg c]
          unfold pu
          rw [if_neg (by omega)]; exact k4 t j ht hj
      · rw [hel t ht]
        by_cases c : t = s.toNat
        · rw [if_pos c]
          unfold pu
          rw [if_neg (by omega)]; exact k5 t j ht hj
        · rw [if_neg c]; exact k5 t j ht hj
theorem pr_row {d e n : Nat} {σ : Sto} {s so k : Int} (hI : Inv n σ) (i1 : inR s) (i2 : inR so) (i3 : inR k) : m_X8_row d [zR 0, zI s, zI so, zI k] σ (qI fun z σ1 => m_X9_row e [zR 9, zI s, zI so, zI k] σ1 (qI fun z' σ2 => zI z' = zI z ∧ Inv (n + 1) σ2)) := by
  have h7 := hI.2.2.2.2.2
  refine (c_X8_row i1 i2 i3).mono ?_
  rintro r σ1 ⟨z, rfl, hz⟩
  refine ⟨z, rfl, (c_X9_row i1 i2 i3).mono ?_⟩
  rintro r' σ2 ⟨z', rfl, hz'⟩
  refine ⟨z', rfl, ?_⟩
  rcases hz with ⟨q, rfl, rfl⟩ | ⟨q, ⟨q2, rfl, rfl⟩ | ⟨q2, rfl, hs1⟩⟩
  · rcases hz' with ⟨p, rfl, rfl⟩ | ⟨p, -⟩
    · exact ⟨rfl, hI.up⟩
    · exfalso; omega
  · rcases hz' with ⟨p, -⟩ | ⟨p, ⟨p2, rfl, rfl⟩ | ⟨p2, -⟩⟩
    · exfalso; omega
    · exact ⟨rfl, hI.up⟩
    · exfalso; omega
  · rcases hz' with ⟨p, -⟩ | ⟨p, ⟨p2, -⟩ | ⟨p2, rfl, hs2⟩⟩
    · exfalso; omega
    · exfalso; omega
    · refine ⟨rfl, Inv.up ?_⟩
      obtain ⟨g1, g2, g3⟩ := q
      have s1o : ∀ a, a ≠ 30 → a ≠ 32 → a ≠ 34 + s.toNat → σ1 a = σ a := fun a p1 p2 p3 => by
        rw [hs1]; unfold rowS zerS
        funext b
        rw [if_neg (fun v => p3 v.1), z_put_ne p2, z_put_ne p1]
      have o : ∀ a, a ≠ 30 → a ≠ 32 → a ≠ 34 + s.toNat → a ≠ 117 → a ≠ 118 → a ≠ 119 → σ2 a = σ a := fun a p1 p2 p3 p4 p5 p6 => by
        rw [hs2]; unfold rowM zerM
        funext b
        rw [if_neg (fun v => p6 v.1), z_put_ne p5, z_put_ne p4, s1o a p1 p2 p3]
      have m2 : ∀ a, a ≠ 117 → a ≠ 118 → a ≠ 119 → σ2 a = σ1 a := fun a p4 p5 p6 => by
        rw [hs2]; unfold rowM zerM
        funext b
        rw [if_neg (fun v => p6 v.1), z_put_ne p5, z_put_ne p4]
      have o30 : σ2 30 = pu (σ 30) s.toNat so := by
        rw [m2 30 (by decide) (by decide) (by decide), hs1]; unfold rowS zerS
        funext b
        rw [if_neg (fun v => by have := v.1; omega)]; rfl
      have o32 : σ2 32 = pu (σ 32) s.toNat k := by
        rw [m2 32 (by decide) (by decide) (by decide), hs1]; unfold rowS zerS
        funext b
        rw [if_neg (fun v => by have := v.1; omega)]; rfl
      have o117 : σ2 117 = pu (σ 117) s.toNat (-2 - so) := by
        rw [hs2, ← s1o 117 (by decide) (by decide) (by omega)]; unfold rowM zerM
        funext b
        rw [if_neg (fun v => by have := v.1; omega)]; rfl
      have o118 : σ2 118 = pu (σ 118) s.toNat k := by
        rw [hs2, ← s1o 118 (by decide) (by decide) (by omega)]; unfold rowM zerM
        funext b
        rw [if_neg (fun v => by have := v.1; omega)]; rfl
      have oel : ∀ b : Nat, σ2 (34 + s.toNat) b = if (b : Int) < 60 then 0 else σ (34 + s.toNat) b := fun b => by
        rw [m2 _ (by omega) (by omega) (by omega), hs1]; unfold rowS zerS
        by_cases c : (b : Int) < 60
        · rw [if_pos ⟨rfl, c⟩, if_pos c]
        · rw [if_neg (fun v => c v.2), if_neg c, z_put_ne (by omega), z_put_ne (by omega)]
      have o119 : ∀ b : Nat, σ2 119 b = if 60 * s ≤ (b : Int) ∧ (b : Int) < 60 * s + 60 then 0 else σ 119 b := fun b => by
        rw [hs2]; unfold rowM zerM
        by_cases c : 60 * s ≤ (b : Int) ∧ (b : Int) < 60 * s + 60
        · rw [if_pos ⟨rfl, c⟩, if_pos c]
        · rw [if_neg (fun v => c v.2), if_neg c, z_put_ne (by decide), z_put_ne (by decide), s1o 119 (by decide) (by decide) (by omega)]
      refine sh_inv hI (fun a p1 p2 => o a (by omega) (by omega) (by omega) (by omega) (by omega) (by omega)) ?_
      obtain ⟨k1, k2, k3, k4, k5⟩ := h7
      refine ⟨fun t t0 t6 => ?_, fun t ht => ?_, fun t ht => ?_, fun t j ht hj => ?_, fun t j ht hj => ?_⟩
      · obtain ⟨a1, a2, a3⟩ := k1 t t0 t6
        rw [o30, o32]
        unfold pu
        by_cases c : t.toNat = s.toNat
        · rw [if_pos c, if_pos c]
          refine ⟨by omega, by omega, fun v j => ?_⟩
          have ets : t = s := by omega
          subst ets
          rw [oel]
          have hI6 : (j : Int) < 60 ∨ ¬ (j : Int) < 60 := by omega
          rcases hI6 with c6 | c6
          · rw [if_pos c6]; decide
          · rw [if_neg c6]
            have := k5 t.toNat j (by omega) (by omega)
            omega
        · rw [if_neg c, if_neg c]
          refine ⟨a1, a2, fun v j => ?_⟩
          rw [o (34 + t.toNat) (by omega) (by omega) (by omega) (by omega) (by omega) (by omega)]
          exact a3 v j
      · rw [o118, o30, o32]
        unfold pu
        by_cases c : t = s.toNat
        · rw [if_pos c, if_pos c, if_pos c]; exact ⟨by omega, fun _ => rfl⟩
        · rw [if_neg c, if_neg c, if_neg c]; exact k2 t ht
      · have := k3 t ht
        unfold shR at this ⊢
        rw [o30, o 31 (by decide) (by decide) (by omega) (by decide) (by decide) (by decide), o117, o 8 (by decide) (by decide) (by omega) (by decide) (by decide) (by decide)]
        unfold pu
        by_cases c : t = s.toNat
        · rw [if_pos c, if_pos c]
          exact Or.inr (Or.inr ⟨by omega, by omega, rfl⟩)
        · rw [if_neg c, if_neg c]; exact this
      · rw [o119]
        by_cases c : t = s.toNat
        · subst c
          rw [if_pos (by omega), oel, if_pos (by omega)]
        · rw [if_neg (by omega), o (34 + t) (by omega) (by omega) (by omega) (by omega) (by omega) (by omega)]
          exact k4 t j ht hj
      · by_cases c : t = s.toNat
        · subst c
          rw [oel, if_neg (by omega)]
          exact k5 _ j (by omega) hj
        · rw [o (34 + t) (by omega) (by omega) (by omega) (by omega) (by omega) (by omega)]
          exact k5 t j ht hj
theorem sh_eq {σ : Sto} (h7 : I7 σ) (s fr o to k : Int) : shM σ s fr o to k = shC σ s fr o to k := by
  unfold shM shC
  by_cases c : ¬ (0 ≤ s ∧ s < 6) ∨ ¬ (0 ≤ o ∧ o < 6)
  · rw [if_pos c, if_pos c]
  · rw [if_neg c, if_neg c]
    have q1 := h7.2.2.1 s.toNat (by omega)
    have q2 := h7.2.2.1 o.toNat (by omega)
    unfold shR at q1 q2
    by_cases c1 : σ 30 s.toNat = -1 ∨ σ 30 o.toNat = -1
    · rw [if_pos c1, if_pos (by omega)]
    · rw [if_neg c1, if_neg (by omega)]
      by_cases c2 : σ 30 s.toNat < 0 ∨ σ 30 s.toNat ≠ σ 30 o.toNat
      · rw [if_pos c2, if_pos (by omega)]
      · rw [if_neg c2, if_neg (by omega), (h7.2.1 s.toNat (by omega)).2 (by omega), (h7.2.1 o.toNat (by omega)).2 (by omega)]
theorem shC_0 {σ : Sto} {s fr o to k : Int} (h : shC σ s fr o to k = 0) : ((0 ≤ s ∧ s < 6) ∧ (0 ≤ o ∧ o < 6)) ∧ (0 ≤ σ 30 s.toNat ∧ σ 30 s.toNat = σ 30 o.toNat) ∧ (0 ≤ fr ∧ 0 ≤ k ∧ fr + k ≤ σ 32 s.toNat) ∧ (0 ≤ to ∧ to + k ≤ σ 32 o.toNat) := by
  unfold shC at h
  by_cases c : ¬ (0 ≤ s ∧ s < 6) ∨ ¬ (0 ≤ o ∧ o < 6)
  · rw [if_pos c] at h; omega
  · rw [if_neg c] at h
    split at h
    · omega
    · split at h
      · omega
      · split at h
        · omega
        · omega
theorem pr_shift {d e n : Nat} {σ : Sto} {s fr o to k : Int} (hI : Inv n σ) (i1 : inR s) (i2 : inR fr) (i3 : inR o) (i4 : inR to) (i5 : inR k) : m_X8_shift d [zR 0, zI s, zI fr, zI o, zI to, zI k] σ (qI fun z σ1 => m_X9_shift e [zR 9, zI s, zI fr, zI o, zI to, zI k] σ1 (qI fun z' σ2 => zI z' = zI z ∧ Inv (n + 1) σ2)) := by
  have h7 := hI.2.2.2.2.2
  refine (c_X8_shift hI.sh i1 i2 i3 i4 i5).mono ?_
  rintro r σ1 ⟨z, rfl, hz⟩
  have fr1 : ∀ a, ¬ (34 ≤ a ∧ a ≤ 39) → σ1 a = σ a := fun a ha => by
    rcases hz with ⟨-, -, rfl⟩ | ⟨q, -, rfl⟩
    · rfl
    · have := (shC_0 q).1.2
      funext b
      unfold z_cp
      rw [if_neg (by omega)]
  have hSM := hI.sm
  refine ⟨z, rfl, (c_X9_shift (fun t h0 h6 => by rw [fr1 117 (by omega), fr1 118 (by omega), fr1 119 (by omega)]; exact hSM t h0 h6) i1 i2 i3 i4 i5).mono ?_⟩
  rintro r' σ2 ⟨z', rfl, hz'⟩
  refine ⟨z', rfl, ?_⟩
  have eM : shM σ1 s fr o to k = shC σ s fr o to k := by rw [← sh_eq h7]; unfold shM; rw [fr1 117 (by omega), fr1 118 (by omega)]
  rw [eM] at hz'
  rcases hz with ⟨q, rfl, rfl⟩ | ⟨q, hzk, hs1⟩
  · rcases hz' with ⟨-, rfl, rfl⟩ | ⟨p, -⟩
    · exact ⟨rfl, hI.up⟩
    · exact absurd p q
  · rcases hz' with ⟨p, -⟩ | ⟨-, hzk2, hs2⟩
    · exact absurd q p
    · refine ⟨by rw [hzk, hzk2], Inv.up ?_⟩
      obtain ⟨⟨g1, g2⟩, ⟨g3, g4⟩, ⟨g5, g6, g7⟩, g8, g9⟩ := shC_0 q
      obtain ⟨k1, k2, k3, k4, k5⟩ := h7
      have ls := (k1 s g1.1 g1.2).2.1
      have lo := (k1 o g2.1 g2.2).2.1
      have m2 : ∀ a, a ≠ 119 → a ≠ 120 → σ2 a = σ1 a := fun a p1 p2 => by
        rw [hs2]
        funext b
        unfold sfB sfA
        rw [if_neg (fun v => p1 v.1), if_neg (fun v => p2 v.1)]
      have o1 : ∀ a, ¬ (34 ≤ a ∧ a ≤ 39) → a ≠ 119 → a ≠ 120 → σ2 a = σ a := fun a p1 p2 p3 => by rw [m2 a p2 p3, fr1 a p1]
      have hel : ∀ t j : Nat, t < 6 → σ2 (34 + t) j = if t = o.toNat ∧ to ≤ (j : Int) ∧ (j : Int) < to + k then σ (34 + s.toNat) (fr + (j - to)).toNat else σ (34 + t) j := fun t j ht => by
        rw [m2 _ (by omega) (by omega), hs1]
        unfold z_cp
        by_cases c : t = o.toNat
        · by_cases c2 : to ≤ (j : Int) ∧ (j : Int) < to + k
          · rw [if_pos (by omega), if_pos (by omega), if_pos ⟨c, c2⟩, show fr.toNat + (j - to.toNat) = (fr + ((j : Int) - to)).toNat by omega]
          · rw [if_pos (by omega), if_neg (by omega), if_neg (fun v => c2 v.2)]
        · rw [if_neg (by omega), if_neg (fun v => c v.1)]
      have h119 : ∀ b : Nat, σ2 119 b = if 60 * o + to ≤ (b : Int) ∧ (b : Int) < 60 * o + to + k then σ 119 (60 * s + fr + ((b : Int) - (60 * o + to))).toNat else σ 119 b := fun b => by
        rw [hs2]
        unfold sfB sfA
        by_cases c : 60 * o + to ≤ (b : Int) ∧ (b : Int) < 60 * o + to + k
        · rw [if_pos ⟨rfl, c⟩, if_pos ⟨rfl, by omega⟩, if_pos c, fr1 119 (by decide), show (60 * s + fr + ((((b : Int) - (60 * o + to)).toNat : Nat) : Int)) = 60 * s + fr + ((b : Int) - (60 * o + to)) by omega]
        · rw [if_neg (fun v => c v.2), if_neg (by omega), if_neg c, fr1 119 (by decide)]
      refine sh_inv hI (fun a p1 p2 => o1 a (by omega) (by omega) (by omega)) ?_
      refine ⟨fun t t0 t6 => ?_, fun t ht => by rw [o1 118 (by decide) (by decide) (by decide), o1 30 (by decide) (by decide) (by decide), o1 32 (by decide) (by decide) (by decide)]; exact k2 t ht, fun t ht => ?_, fun t j ht hj => ?_, fun t j ht hj => ?_⟩
      · obtain ⟨a1, a2, a3⟩ := k1 t t0 t6
        rw [o1 30 (by decide) (by decide) (by decide), o1 32 (by decide) (by decide) (by decide)]
        refine ⟨a1, a2, fun v j => ?_⟩
        rw [hel t.toNat j (by omega)]
        split
        · rename_i c
          rw [c.1, ← g4] at v
          exact (k1 s g1.1 g1.2).2.2 v _
        · exact a3 v j
      · have := k3 t ht
        unfold shR at this ⊢
        rw [o1 30 (by decide) (by decide) (by decide), o1 31 (by decide) (by decide) (by decide), o1 117 (by decide) (by decide) (by decide), o1 8 (by decide) (by decide) (by decide)]
        exact this
      · rw [h119, hel t j ht]
        by_cases c : t = o.toNat ∧ to ≤ (j : Int) ∧ (j : Int) < to + k
        · rw [if_pos c, if_pos (by omega), show (60 * s + fr + (((60 * t + j : Nat) : Int) - (60 * o + to))).toNat = 60 * s.toNat + (fr + ((j : Int) - to)).toNat by omega]
          exact k4 s.toNat _ (by omega) (by omega)
        · rw [if_neg c, if_neg (by omega)]
          exact k4 t j ht hj
      · rw [hel t j ht, if_neg (by omega)]
        exact k5 t j ht hj
