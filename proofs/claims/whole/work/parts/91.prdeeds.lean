/-! ===== deeds: class against reference ===== -/
theorem frC_all {σ σ1 : Sto} (h : ∀ a, a = 9 ∨ 82 ≤ a → σ1 a = σ a) : (∀ LF, pasM LF σ1 = pasM LF σ) ∧ finM σ1 = finM σ ∧ hurtM σ1 = hurtM σ ∧ hrM σ1 = hrM σ ∧ (∀ s, SYM σ1 s = SYM σ s) ∧ (∀ LF, WM LF σ → WM LF σ1) ∧ (SM σ → SM σ1) := by
  refine ⟨fun LF => ?_, ?_, ?_, ?_, fun s => ?_, fun LF hW => hW.keep (fun j _ => by rw [h 9 (by omega)]) (fun a _ => h a (by omega)), fun hS t h0 h6 => ?_⟩
  · funext f; unfold pasM; rw [h 9 (by omega), h 82 (by omega), h 83 (by omega), h 84 (by omega)]
  · funext m; unfold finM; rw [h 87 (by omega)]
  · funext X; unfold hurtM; rw [h 9 (by omega), h 83 (by omega), h 84 (by omega), h 86 (by omega), h 90 (by omega)]
  · funext s m; unfold hrM; rw [h 9 (by omega), h 117 (by omega)]
  · unfold SYM rwM; rw [h 9 (by omega), h 118 (by omega), h 119 (by omega)]
  · rw [h 117 (by omega), h 118 (by omega), h 119 (by omega)]; exact hS t h0 h6
theorem r467_cg {σ τ : Sto} (h : ∀ a, (a = 3 ∨ a = 8 ∨ a = 25 ∨ (30 ≤ a ∧ a ≤ 39) ∨ a = 80 ∨ a = 81 ∨ a = 95 ∨ (115 ≤ a ∧ a ≤ 119)) → τ a = σ a) (h9 : ∀ j, (j = 21 ∨ j = 54 ∨ j = 56) → τ 9 j = σ 9 j) (hI : I4 σ ∧ I6 σ ∧ I7 σ) : I4 τ ∧ I6 τ ∧ I7 τ := by
  obtain ⟨h4, h6, h7⟩ := hI
  refine ⟨?_, ?_, I7.cong (σ := σ) (by rw [h 8 (by omega)]; exact Int.le_refl _) (fun a ha => h a (by omega)) h7⟩
  · unfold I4 tpO at h4 ⊢
    rw [h9 21 (by omega), h 3 (by omega), h 25 (by omega), h 95 (by omega)]
    exact h4
  · unfold I6 at h6 ⊢
    rw [h9 54 (by omega), h9 56 (by omega), h 8 (by omega), h 80 (by omega), h 81 (by omega), h 115 (by omega), h 116 (by omega)]
    exact h6
/-- deeds alone are written: the other groups stay -/
theorem dd_inv {n m : Nat} {σ τ : Sto} (hI : Inv n σ) (h : ∀ a, a ≠ 7 → a ≠ 9 → ¬ (74 ≤ a ∧ a ≤ 79) → a ≠ 88 → a ≠ 89 → ¬ (111 ≤ a ∧ a ≤ 114) → (a ≤ 4 ∨ a = 8 ∨ (13 ≤ a ∧ a ≤ 27) ∨ (30 ≤ a ∧ a ≤ 39) ∨ (80 ≤ a ∧ a ≤ 100) ∨ (115 ≤ a ∧ a ≤ 119)) → τ a = σ a) (h9 : ∀ j, (j = 1 ∨ j = 7 ∨ j = 11 ∨ j = 13 ∨ j = 14 ∨ j = 15 ∨ j = 21 ∨ j = 33 ∨ j = 54 ∨ j = 56) → τ 9 j = σ 9 j) (h5 : I5 m τ) : Inv m τ := by
  obtain ⟨⟨LF, h1⟩, h3, h4, -, h6, h7⟩ := hI
  have g := r467_cg (σ := σ) (τ := τ) (fun a ha => h a (by omega) (by omega) (by omega) (by omega) (by omega) (by omega) (by omega)) (fun j hj => h9 j (by omega)) ⟨h4, h6, h7⟩
  have e1 : τ 1 = σ 1 := h 1 (by decide) (by decide) (by decide) (by decide) (by decide) (by decide) (by decide)
  exact ⟨⟨LF, I1.cg (σ := σ) (fun a ha => h a (by omega) (by omega) (by omega) (by omega) (by omega) (by omega) (by omega)) (fun j hj => h9 j (by omega)) h1⟩, I3.up (σ := σ) (by rw [e1]; exact Int.le_refl _) (by rw [e1]; exact Int.le_refl _) (by rw [e1]; exact Int.le_refl _) (fun a ha => h a (by omega) (by omega) (by omega) (by omega) (by omega) (by omega) (by omega)) ⟨h9 14 (by omega), h9 15 (by omega)⟩ h3, g.1, h5, g.2.1, g.2.2⟩
theorem pr_speak {d e n : Nat} {σ : Sto} {s m : Int} (hI : Inv n σ) (hn : n ≤ 1000) (i1 : inR s) (i2 : inR m) : m_X8_speak d [zR 0, zI s, zI m] σ (qI fun z σ1 => m_X9_speak e [zR 9, zI s, zI m] σ1 (qI fun z' σ2 => zI z' = zI z ∧ Inv (n + 1) σ2)) := by
  obtain ⟨⟨LF, h1⟩, h3, h4, h5, h6, h7⟩ := id hI
  obtain ⟨⟨d1, d2, d3⟩, d4, d5, d6, d7⟩ := id h5
  have e7 := h1.2.2.1.2.1
  refine (c_X8_speak (LF := LF) h1.1 hI.sh i1 i2 (fun j => by have := (d4 j).1; omega)).mono ?_
  rintro r σ1 ⟨z, rfl, hz⟩
  have fr1 : ∀ a, a = 9 ∨ 82 ≤ a → σ1 a = σ a := fun a ha => by
    rcases hz with ⟨-, -, rfl⟩ | ⟨-, -, -, rfl⟩ | ⟨-, -, -, τ, hk, rfl⟩
    · rfl
    · rfl
    · unfold nsS
      repeat rw [z_put_ne (by omega)]
      exact hk a (by omega)
  obtain ⟨x1, x2, x3, x4, x5, x6, x7⟩ := frC_all fr1
  have f9 := fr1 9 (by omega)
  have f88 : σ1 88 = σ 74 := by rw [fr1 88 (by omega), d1]
  have f89 : σ1 89 = σ 75 := by rw [fr1 89 (by omega), d2]
  have f111 : σ1 111 = σ 76 := by rw [fr1 111 (by omega), d3]
  refine ⟨z, rfl, (c_X9_speak (LF := LF) (x6 LF h1.2.1) (x7 hI.sm) i1 i2 (fun j => by rw [f88]; have := (d4 j).1; omega)).mono ?_⟩
  rintro r' σ2 ⟨z', rfl, hz'⟩
  refine ⟨z', rfl, ?_⟩
  rw [f9, e7, x4, e_hr h1 h7] at hz'
  rcases hz with ⟨q, rfl, rfl⟩ | ⟨q, q2, rfl, rfl⟩ | ⟨q, q2, rfl, τ, hk, hs1⟩
  · rcases hz' with ⟨-, rfl, rfl⟩ | ⟨p, -⟩ | ⟨p, -⟩
    · exact ⟨rfl, hI.up⟩
    · exact absurd p q
    · exact absurd p q
  · rcases hz' with ⟨p, -⟩ | ⟨-, -, rfl, rfl⟩ | ⟨-, p, -⟩
    · exact absurd q p
    · exact ⟨rfl, hI.up⟩
    · exact absurd p q2
  · rcases hz' with ⟨p, -⟩ | ⟨-, p, -⟩ | ⟨-, -, hz2, υ, hk2, hs2⟩
    · exact absurd q p
    · exact absurd q2 p
    · have eC : SYMx LF σ1 s m (σ1 88 m.toNat) = spC LF σ s m := by
        show cmL (pasM LF σ1 (finM σ1 m)) (SYM σ1 s) 0 (σ1 88 m.toNat) = cmL (pasC LF σ (finC σ m)) (SYC σ s) 0 (σ 74 m.toNat)
        rw [x1, x2, x5, f88, e_ps h1, e_fi h1, e_sy h1 h7 (hrC_0 q2).1 (hrC_0 q2).2.2]
      have e83 : σ1 83 = σ 14 := by rw [fr1 83 (by omega), h1.2.2.2.1.2.1]
      rw [eC] at hz2
      rw [eC, e83, x3, e_hu h1] at hs2
      refine ⟨by rw [hz2], ?_⟩
      have hlen := cmL_len (ps := pasC LF σ (finC σ m)) (SYC σ s) 0 (σ 74 m.toNat)
      have hl12 := SYC_len (σ := σ) (s := s)
      have hL : (0 : Int) ≤ ((spC LF σ s m).2.length : Int) ∧ ((spC LF σ s m).2.length : Int) ≤ 12 := by
        have : (spC LF σ s m).2.length ≤ 12 := by show (cmL (pasC LF σ (finC σ m)) (SYC σ s) 0 (σ 74 m.toNat)).2.length ≤ 12; omega
        omega
      generalize ((spC LF σ s m).1.length : Int) = C at hs1 hs2
      generalize ((spC LF σ s m).2.length : Int) = L at hs1 hs2 hL
      generalize sumL (σ 14) (spC LF σ s m).2 = H at hs1 hs2
      generalize bcF (hurtC σ (spC LF σ s m).1) = U at hs1 hs2
      have t74 : τ 74 = σ 74 := hk 74 (by omega)
      have t75 : τ 75 = σ 75 := hk 75 (by omega)
      have t76 : τ 76 = σ 76 := hk 76 (by omega)
      have u88 : υ 88 = σ 74 := by rw [hk2.1 88 (by decide) (by decide), f88]
      have u89 : υ 89 = σ 75 := by rw [hk2.1 89 (by decide) (by decide), f89]
      have u111 : υ 111 = σ 76 := by rw [hk2.1 111 (by decide) (by decide), f111]
      have s74 : σ1 74 = pu (σ 74) m.toNat (wr (σ 74 m.toNat + L)) := by rw [hs1, ← t74]; rfl
      have s75 : σ1 75 = pu (σ 75) m.toNat (wr (σ 75 m.toNat + H)) := by rw [hs1, ← t75]; rfl
      have s76 : σ1 76 = pu (pu (pu (pu (σ 76) 0 (wr (σ 76 0 + 1))) 1 (wr (σ 76 1 + C))) 2 (wr (σ 76 2 + L))) 3 (wr (σ 76 3 + U)) := by rw [hs1, ← t76]; rfl
      have v88 : σ2 88 = pu (σ 74) m.toNat (wr (σ 74 m.toNat + L)) := by rw [hs2, ← u88]; rfl
      have v89 : σ2 89 = pu (σ 75) m.toNat (wr (σ 75 m.toNat + H)) := by rw [hs2, ← u89]; rfl
      have v111 : σ2 111 = pu (pu (pu (pu (σ 76) 0 (wr (σ 76 0 + 1))) 1 (wr (σ 76 1 + C))) 2 (wr (σ 76 2 + L))) 3 (wr (σ 76 3 + U)) := by rw [hs2, ← u111]; rfl
      have o : ∀ a, a ≠ 9 → a ≠ 88 → a ≠ 89 → a ≠ 111 → ¬ (101 ≤ a ∧ a ≤ 110) → a ≠ 120 → σ2 a = σ1 a := fun a p1 p2 p3 p4 p5 p6 => by
        rw [hs2]
        unfold nsM
        repeat rw [z_put_ne (by omega)]
        exact hk2.1 a (by simp only [List.mem_cons, List.not_mem_nil, or_false]; omega) p1
      have o9 : ∀ j, ¬ (22 ≤ j ∧ j ≤ 25) → j ≠ 35 → j ≠ 37 → j ≠ 39 → j ≠ 41 → j ≠ 43 → j ≠ 46 → σ2 9 j = σ 9 j := fun j p1 p2 p3 p4 p5 p6 p7 => by
        rw [hs2]
        unfold nsM
        repeat rw [z_put_ne (by decide)]
        rw [hk2.2 j (by simp only [List.mem_cons, List.not_mem_nil, or_false]; omega), f9]
      have o1 : ∀ a, ¬ (a = 5 ∨ a = 10 ∨ a = 11 ∨ a = 28 ∨ a = 29 ∨ (40 ≤ a ∧ a ≤ 45) ∨ (47 ≤ a ∧ a ≤ 57) ∨ (59 ≤ a ∧ a ≤ 76)) → σ1 a = σ a := fun a ha => by
        rw [hs1]
        unfold nsS
        repeat rw [z_put_ne (by omega)]
        exact hk a (by omega)
      have hm : (m.toNat : Int) < σ 1 2 := by omega
      have hlm := (d4 m.toNat).1
      have ew : wr (σ 74 m.toNat + L) = σ 74 m.toNat + L := wr_id ⟨by omega, by omega⟩
      refine dd_inv hI (fun a p1 p2 p3 p4 p5 p6 p7 => ?_) (fun j hj => o9 j (by omega) (by omega) (by omega) (by omega) (by omega) (by omega) (by omega)) ?_
      · rw [o a p2 p4 p5 (by omega) (by omega) (by omega), o1 a (by omega)]
      · have k1 : σ2 1 = σ 1 := by rw [o 1 (by decide) (by decide) (by decide) (by decide) (by decide) (by decide), o1 1 (by decide)]
        have k7 : σ2 7 = σ 7 := by rw [o 7 (by decide) (by decide) (by decide) (by decide) (by decide) (by decide), o1 7 (by decide)]
        have k74 : σ2 74 = σ1 74 := o 74 (by decide) (by decide) (by decide) (by decide) (by decide) (by decide)
        have k75 : σ2 75 = σ1 75 := o 75 (by decide) (by decide) (by decide) (by decide) (by decide) (by decide)
        have k76 : σ2 76 = σ1 76 := o 76 (by decide) (by decide) (by decide) (by decide) (by decide) (by decide)
        have k77 : σ2 77 = σ 77 := by rw [o 77 (by decide) (by decide) (by decide) (by decide) (by decide) (by decide), o1 77 (by decide)]
        have k78 : σ2 78 = σ 78 := by rw [o 78 (by decide) (by decide) (by decide) (by decide) (by decide) (by decide), o1 78 (by decide)]
        have k79 : σ2 79 = σ 79 := by rw [o 79 (by decide) (by decide) (by decide) (by decide) (by decide) (by decide), o1 79 (by decide)]
        have k112 : σ2 112 = σ 112 := by rw [o 112 (by decide) (by decide) (by decide) (by decide) (by decide) (by decide), o1 112 (by decide)]
        have k113 : σ2 113 = σ 113 := by rw [o 113 (by decide) (by decide) (by decide) (by decide) (by decide) (by decide), o1 113 (by decide)]
        have k114 : σ2 114 = σ 114 := by rw [o 114 (by decide) (by decide) (by decide) (by decide) (by decide) (by decide), o1 114 (by decide)]
        have k49 : σ2 9 49 = σ 9 49 := o9 49 (by decide) (by decide) (by decide) (by decide) (by decide) (by decide) (by decide)
        have k50 : σ2 9 50 = σ 9 50 := o9 50 (by decide) (by decide) (by decide) (by decide) (by decide) (by decide) (by decide)
        unfold I5
        rw [k1, k7, k74, k75, k76, k77, k78, k79, k112, k113, k114, k49, k50, v88, v89, v111, s74, s75, s76]
        refine ⟨⟨rfl, rfl, rfl⟩, fun j => ?_, d5, d6, fun j => ⟨by have := (d7 j).1; omega, (d7 j).2⟩⟩
        unfold pu
        rw [ew]
        have := d4 j
        by_cases c : j = m.toNat
        · rw [if_pos c]
          exact ⟨by omega, fun v => by omega⟩
        · rw [if_neg c, if_neg c]
          exact ⟨by omega, this.2⟩
theorem pr_led {d e n : Nat} {σ : Sto} {w : Int} (hI : Inv n σ) (i1 : inR w) : m_X8_led d [zR 0, zI w] σ (qI fun z σ1 => m_X9_led e [zR 9, zI w] σ1 (qI fun z' σ2 => zI z' = zI z ∧ Inv (n + 1) σ2)) := by
  have d3 := hI.2.2.2.1.1.2.2
  refine (c_X8_led i1).mono ?_
  rintro r σ1 ⟨z, rfl, rfl, hz⟩
  refine ⟨z, rfl, (c_X9_led i1).mono ?_⟩
  rintro r' σ2 ⟨z', rfl, rfl, hz'⟩
  refine ⟨z', rfl, ?_, hI.up⟩
  rw [d3] at hz'
  rcases hz with ⟨q1, q2, rfl⟩ | ⟨q1, rfl⟩
  · rcases hz' with ⟨-, -, rfl⟩ | ⟨p1, rfl⟩
    · rfl
    · exfalso; omega
  · rcases hz' with ⟨p1, p2, rfl⟩ | ⟨-, rfl⟩
    · exfalso; omega
    · rfl
theorem pr_rinse {d e n : Nat} {σ : Sto} {m : Int} (hI : Inv n σ) (hok : z_ok σ) (i1 : inR m) : m_X8_rinse d [zR 0, zI m] σ (qI fun z σ1 => m_X9_rinse e [zR 9, zI m] σ1 (qI fun z' σ2 => zI z' = zI z ∧ Inv (n + 1) σ2)) := by
  obtain ⟨⟨LF, h1⟩, h3, h4, h5, h6, h7⟩ := id hI
  obtain ⟨⟨d1, d2, d3⟩, d4, d5, d6, d7⟩ := id h5
  have e7 := h1.2.2.1.2.1
  have c2 := h1.1.2.1
  refine (c_X8_rinse c2 i1 (fun j => hok 74 j (Nat.le_of_ble_eq_true rfl))).mono ?_
  rintro r σ1 ⟨z, rfl, hz⟩
  have fr1 : ∀ a, a = 9 ∨ 82 ≤ a → σ1 a = σ a := fun a ha => by
    rcases hz with ⟨-, -, rfl⟩ | ⟨-, -, rfl⟩
    · rfl
    · unfold riS
      repeat rw [z_put_ne (by omega)]
  have f9 := fr1 9 (by omega)
  have f88 : σ1 88 = σ 74 := by rw [fr1 88 (by omega), d1]
  have f89 : σ1 89 = σ 75 := by rw [fr1 89 (by omega), d2]
  have f111 : σ1 111 = σ 76 := by rw [fr1 111 (by omega), d3]
  refine ⟨z, rfl, (c_X9_rinse (by rw [f9]; omega) i1 (fun j => by rw [fr1 88 (by omega)]; exact hok 88 j (Nat.le_of_ble_eq_true rfl))).mono ?_⟩
  rintro r' σ2 ⟨z', rfl, hz'⟩
  refine ⟨z', rfl, ?_⟩
  rw [f9, e7, f88] at hz'
  rcases hz with ⟨q, rfl, rfl⟩ | ⟨q, rfl, hs1⟩
  · rcases hz' with ⟨-, rfl, rfl⟩ | ⟨p, -⟩
    · exact ⟨rfl, hI.up⟩
    · exact absurd p q
  · rcases hz' with ⟨p, -⟩ | ⟨-, rfl, hs2⟩
    · exact absurd q p
    · refine ⟨rfl, ?_⟩
      have s74 : σ1 74 = pu (σ 74) m.toNat 0 := by rw [hs1]; rfl
      have s75 : σ1 75 = pu (σ 75) m.toNat 0 := by rw [hs1]; rfl
      have s76 : σ1 76 = pu (pu (σ 76) 4 (wr (σ 76 4 + 1))) 5 (wr (σ 76 5 + σ 75 m.toNat)) := by rw [hs1]; rfl
      have v88 : σ2 88 = pu (σ 74) m.toNat 0 := by rw [hs2, ← f88]; rfl
      have v89 : σ2 89 = pu (σ 75) m.toNat 0 := by rw [hs2, ← f89]; rfl
      have v111 : σ2 111 = pu (pu (σ 76) 4 (wr (σ 76 4 + 1))) 5 (wr (σ 76 5 + σ 75 m.toNat)) := by rw [hs2, ← f111, ← f89]; rfl
      have o : ∀ a, a ≠ 74 → a ≠ 75 → a ≠ 76 → a ≠ 88 → a ≠ 89 → a ≠ 111 → σ2 a = σ a := fun a p1 p2 p3 p4 p5 p6 => by
        rw [hs2]
        unfold riM
        repeat rw [z_put_ne (by omega)]
        rw [hs1]
        unfold riS
        repeat rw [z_put_ne (by omega)]
      refine dd_inv hI (fun a p1 p2 p3 p4 p5 p6 p7 => o a (by omega) (by omega) (by omega) (by omega) (by omega) (by omega)) (fun j hj => by rw [o 9 (by decide) (by decide) (by decide) (by decide) (by decide) (by decide)]) ?_
      have k74 : σ2 74 = σ1 74 := by rw [hs2]; rfl
      have k75 : σ2 75 = σ1 75 := by rw [hs2]; rfl
      have k76 : σ2 76 = σ1 76 := by rw [hs2]; rfl
      unfold I5
      rw [o 1 (by decide) (by decide) (by decide) (by decide) (by decide) (by decide), o 7 (by decide) (by decide) (by decide) (by decide) (by decide) (by decide), o 9 (by decide) (by decide) (by decide) (by decide) (by decide) (by decide), o 77 (by decide) (by decide) (by decide) (by decide) (by decide) (by decide), o 78 (by decide) (by decide) (by decide) (by decide) (by decide) (by decide), o 79 (by decide) (by decide) (by decide) (by decide) (by decide) (by decide), o 112 (by decide) (by decide) (by decide) (by decide) (by decide) (by decide), o 113 (by decide) (by decide) (by decide) (by decide) (by decide) (by decide), o 114 (by decide) (by decide) (by decide) (by decide) (by decide) (by decide), k74, k75, k76, v88, v89, v111, s74, s75, s76]
      refine ⟨⟨rfl, rfl, rfl⟩, fun j => ?_, d5, d6, fun j => ⟨by have := (d7 j).1; omega, (d7 j).2⟩⟩
      have := d4 j
      unfold pu
      by_cases c : j = m.toNat
      · rw [if_pos c, if_pos c]; exact ⟨by omega, fun _ => ⟨rfl, rfl⟩⟩
      · rw [if_neg c, if_neg c]; exact ⟨by omega, this.2⟩
def cpN (k : Nat) (f g : Nat → Int) : Nat → Int := fun b => if b < k then f b else g b
theorem z_cp_N (σ : Sto) (k0 k1 n : Nat) : z_cp σ k0 k1 0 0 n k1 = cpN n (σ k0) (σ k1) := by
  funext b
  unfold z_cp cpN
  rw [if_pos rfl]
  by_cases c : b < n
  · rw [if_pos ⟨by omega, by omega⟩, if_pos c, Nat.zero_add, Nat.sub_zero]
  · rw [if_neg (by omega), if_neg c]
theorem z_cp_o (σ : Sto) (k0 k1 n : Nat) {a : Nat} (h : a ≠ k1) : z_cp σ k0 k1 0 0 n a = σ a := by
  funext b
  unfold z_cp
  rw [if_neg h]
theorem pr_image {d e n : Nat} {σ : Sto} (hI : Inv n σ) : m_X8_image d [zR 0] σ (qI fun z σ1 => m_X9_image e [zR 9] σ1 (qI fun z' σ2 => zI z' = zI z ∧ Inv (n + 1) σ2)) := by
  obtain ⟨⟨LF, h1⟩, h3, h4, h5, h6, h7⟩ := id hI
  obtain ⟨⟨d1, d2, d3⟩, d4, ⟨d5, d5b⟩, d6, d7⟩ := id h5
  have e7 := h1.2.2.1.2.1
  have c2 := h1.1.2.1
  refine c_X8_image.mono ?_
  rintro r σ1 ⟨z, rfl, rfl, hs1⟩
  have so : ∀ a, a ≠ 7 → ¬ (77 ≤ a ∧ a ≤ 79) → σ1 a = σ a := fun a p1 p2 => by
    rw [hs1]
    unfold kiS
    rw [z_put_ne p1, z_cp_o _ _ _ _ (by omega), z_cp_o _ _ _ _ (by omega), z_cp_o _ _ _ _ (by omega)]
  have s77 : σ1 77 = cpN 5 (σ 74) (σ 77) := by
    rw [hs1]; unfold kiS
    rw [z_put_ne (by decide), z_cp_o _ _ _ _ (by decide), z_cp_o _ _ _ _ (by decide), z_cp_N]
  have s78 : σ1 78 = cpN 5 (σ 75) (σ 78) := by
    rw [hs1]; unfold kiS
    rw [z_put_ne (by decide), z_cp_o _ _ _ _ (by decide), z_cp_N, z_cp_o _ _ _ _ (by decide), z_cp_o _ _ _ _ (by decide)]
  have s79 : σ1 79 = cpN 6 (σ 76) (σ 79) := by
    rw [hs1]; unfold kiS
    rw [z_put_ne (by decide), z_cp_N, z_cp_o _ _ _ _ (by decide), z_cp_o _ _ _ _ (by decide), z_cp_o _ _ _ _ (by decide), z_cp_o _ _ _ _ (by decide)]
  have s7 : σ1 7 6 = 1 := by rw [hs1]; rfl
  have f9 := so 9 (by decide) (by decide)
  refine ⟨_, rfl, (c_X9_image (by rw [f9]; omega)).mono ?_⟩
  rintro r' σ2 ⟨z', rfl, rfl, hs2⟩
  refine ⟨_, rfl, by rw [so 111 (by decide) (by decide), d3], ?_⟩
  have mo : ∀ a, a ≠ 9 → ¬ (112 ≤ a ∧ a ≤ 114) → σ2 a = σ1 a := fun a p1 p2 => by
    rw [hs2]
    funext b
    unfold imM imB imA
    rw [if_neg (by omega), if_neg (by omega), if_neg (by omega), z_put_ne p1, z_put_ne p1]
  have m9 : ∀ j, j ≠ 49 → j ≠ 50 → σ2 9 j = σ 9 j := fun j p1 p2 => by
    rw [hs2, ← f9]
    unfold imM imB imA
    rw [if_neg (by omega), if_neg (by omega), if_neg (by omega), z_rd, if_pos rfl, if_neg p2, z_rd, if_pos rfl, if_neg p1]
  have m49 : σ2 9 49 = 1 := by rw [hs2]; rfl
  have m50 : σ2 9 50 = σ 1 2 := by rw [hs2, ← e7, ← f9]; rfl
  have m112 : ∀ j : Nat, σ2 112 j = if (j : Int) < σ 1 2 then σ 74 j else σ 112 j := fun j => by
    rw [hs2]
    unfold imM imB imA
    rw [if_neg (by omega), f9, e7]
    by_cases c : (j : Int) < σ 1 2
    · rw [if_pos ⟨rfl, c⟩, if_pos c, z_put_ne (by decide), z_put_ne (by decide), so 88 (by decide) (by decide), d1]
    · rw [if_neg (fun v => c v.2), if_neg (by omega), if_neg c, z_put_ne (by decide), z_put_ne (by decide), so 112 (by decide) (by decide)]
  have m113 : ∀ j : Nat, σ2 113 j = if (j : Int) < σ 1 2 then σ 75 j else σ 113 j := fun j => by
    rw [hs2]
    unfold imM imB imA
    rw [if_neg (by omega), f9, e7, if_neg (by omega)]
    by_cases c : (j : Int) < σ 1 2
    · rw [if_pos ⟨rfl, c⟩, if_pos c, z_put_ne (by decide), z_put_ne (by decide), so 89 (by decide) (by decide), d2]
    · rw [if_neg (fun v => c v.2), if_neg c, z_put_ne (by decide), z_put_ne (by decide), so 113 (by decide) (by decide)]
  have m114 : σ2 114 = cpN 6 (σ 76) (σ 79) := by
    rw [hs2]
    funext b
    unfold imM imB imA cpN
    by_cases c : b < 6
    · rw [if_pos ⟨rfl, by omega⟩, if_pos c, if_neg (by omega), if_neg (by omega), z_put_ne (by decide), z_put_ne (by decide), so 111 (by decide) (by decide), d3]
    · rw [if_neg (by omega), if_neg c, if_neg (by omega), if_neg (by omega), z_put_ne (by decide), z_put_ne (by decide), so 114 (by decide) (by decide), d5b]
  refine dd_inv hI (fun a p1 p2 p3 p4 p5 p6 p7 => by rw [mo a p2 (by omega), so a p1 (by omega)]) (fun j hj => m9 j (by omega) (by omega)) ?_
  unfold I5
  rw [mo 88 (by decide) (by decide), mo 89 (by decide) (by decide), mo 111 (by decide) (by decide), mo 74 (by decide) (by decide), mo 75 (by decide) (by decide), mo 76 (by decide) (by decide), mo 77 (by decide) (by decide), mo 78 (by decide) (by decide), mo 79 (by decide) (by decide), mo 7 (by decide) (by decide), mo 1 (by decide) (by decide), so 88 (by decide) (by decide), so 89 (by decide) (by decide), so 111 (by decide) (by decide), so 74 (by decide) (by decide), so 75 (by decide) (by decide), so 76 (by decide) (by decide), so 1 (by decide) (by decide), s77, s78, s79, s7, m49, m50, m114]
  refine ⟨⟨d1, d2, d3⟩, fun j => ⟨by have := (d4 j).1; omega, (d4 j).2⟩, ⟨rfl, rfl⟩, ⟨c2.1, Int.le_refl _⟩, fun j => ?_⟩
  have q4 := d4 j
  have q7 := d7 j
  unfold cpN
  rw [m112, m113]
  by_cases c5 : j < 5
  · rw [if_pos c5, if_pos c5]
    refine ⟨by omega, fun v => by rw [if_pos v, if_pos v]; exact ⟨rfl, rfl⟩, q4.2⟩
  · rw [if_neg c5, if_neg c5]
    exact ⟨by omega, fun v => by omega, fun v => q7.2.2 (by omega)⟩
theorem pr_back {d e n : Nat} {σ : Sto} (hI : Inv n σ) : m_X8_back d [zR 0] σ (qI fun z σ1 => m_X9_back e [zR 9] σ1 (qI fun z' σ2 => zI z' = zI z ∧ Inv (n + 1) σ2)) := by
  obtain ⟨⟨LF, h1⟩, h3, h4, h5, h6, h7⟩ := id hI
  obtain ⟨⟨d1, d2, d3⟩, d4, ⟨d5, d5b⟩, d6, d7⟩ := id h5
  have e7 := h1.2.2.1.2.1
  have c2 := h1.1.2.1
  refine c_X8_back.mono ?_
  rintro r σ1 ⟨z, rfl, hz⟩
  have so : ∀ a, ¬ (74 ≤ a ∧ a ≤ 76) → σ1 a = σ a := fun a p2 => by
    rcases hz with ⟨-, -, rfl⟩ | ⟨-, -, rfl⟩
    · rfl
    · unfold lbS
      rw [z_cp_o _ _ _ _ (by omega), z_cp_o _ _ _ _ (by omega), z_cp_o _ _ _ _ (by omega)]
  have f9 := so 9 (by decide)
  refine ⟨z, rfl, (c_X9_back (by rw [f9]; omega) (by rw [f9]; omega)).mono ?_⟩
  rintro r' σ2 ⟨z', rfl, hz'⟩
  refine ⟨z', rfl, ?_⟩
  rw [f9, d5, so 114 (by decide), d5b] at hz'
  rcases hz with ⟨q, rfl, rfl⟩ | ⟨q, rfl, hs1⟩
  · rcases hz' with ⟨-, rfl, rfl⟩ | ⟨p, -⟩
    · exact ⟨rfl, hI.up⟩
    · exact absurd q p
  · rcases hz' with ⟨p, -⟩ | ⟨-, rfl, hs2⟩
    · exact absurd p q
    · refine ⟨rfl, ?_⟩
      have s74 : σ1 74 = cpN 5 (σ 77) (σ 74) := by
        rw [hs1]; unfold lbS
        rw [z_cp_o _ _ _ _ (by decide), z_cp_o _ _ _ _ (by decide), z_cp_N]
      have s75 : σ1 75 = cpN 5 (σ 78) (σ 75) := by
        rw [hs1]; unfold lbS
        rw [z_cp_o _ _ _ _ (by decide), z_cp_N, z_cp_o _ _ _ _ (by decide), z_cp_o _ _ _ _ (by decide)]
      have s76 : σ1 76 = cpN 6 (σ 79) (σ 76) := by
        rw [hs1]; unfold lbS
        rw [z_cp_N, z_cp_o _ _ _ _ (by decide), z_cp_o _ _ _ _ (by decide), z_cp_o _ _ _ _ (by decide), z_cp_o _ _ _ _ (by decide)]
      have mo : ∀ a, a ≠ 88 → a ≠ 89 → a ≠ 111 → σ2 a = σ1 a := fun a p1 p2 p3 => by
        rw [hs2]
        funext b
        unfold bkM bkB bkA
        rw [if_neg (by omega), if_neg (by omega), if_neg (by omega)]
      have m88 : σ2 88 = cpN 5 (σ 77) (σ 74) := by
        rw [hs2]
        funext b
        have q4 := d4 b
        have q7 := d7 b
        unfold bkM bkB bkA cpN
        rw [if_neg (by omega), f9, e7, so 112 (by decide), so 88 (by decide), d1]
        by_cases c : (b : Int) < σ 1 2
        · rw [if_pos ⟨rfl, c⟩, if_pos (show b < 5 by omega)]
          by_cases c9 : (b : Int) < σ 9 50
          · rw [if_pos c9]; exact (q7.2.1 c9).1
          · rw [if_neg c9]; exact (q7.2.2 (by omega)).1.symm
        · rw [if_neg (fun v => c v.2), if_neg (by omega)]
          by_cases c5 : b < 5
          · rw [if_pos c5, (q4.2 (by omega)).1, (q7.2.2 (by omega)).1]
          · rw [if_neg c5]
      have m89 : σ2 89 = cpN 5 (σ 78) (σ 75) := by
        rw [hs2]
        funext b
        have q4 := d4 b
        have q7 := d7 b
        unfold bkM bkB bkA cpN
        rw [if_neg (by omega), f9, e7, if_neg (by omega), so 113 (by decide), so 89 (by decide), d2]
        by_cases c : (b : Int) < σ 1 2
        · rw [if_pos ⟨rfl, c⟩, if_pos (show b < 5 by omega)]
          by_cases c9 : (b : Int) < σ 9 50
          · rw [if_pos c9]; exact (q7.2.1 c9).2
          · rw [if_neg c9]; exact (q7.2.2 (by omega)).2.symm
        · rw [if_neg (fun v => c v.2)]
          by_cases c5 : b < 5
          · rw [if_pos c5, (q4.2 (by omega)).2, (q7.2.2 (by omega)).2]
          · rw [if_neg c5]
      have m111 : σ2 111 = cpN 6 (σ 79) (σ 76) := by
        rw [hs2]
        funext b
        unfold bkM bkB bkA cpN
        by_cases c : b < 6
        · rw [if_pos ⟨rfl, by omega⟩, if_pos c, if_neg (by omega), if_neg (by omega), so 114 (by decide), d5b]
        · rw [if_neg (by omega), if_neg c, if_neg (by omega), if_neg (by omega), so 111 (by decide), d3]
      refine dd_inv hI (fun a p1 p2 p3 p4 p5 p6 p7 => by rw [mo a p4 p5 (by omega), so a (by omega)]) (fun j hj => by rw [mo 9 (by decide) (by decide) (by decide), f9]) ?_
      unfold I5
      rw [m88, m89, m111, mo 74 (by decide) (by decide) (by decide), mo 75 (by decide) (by decide) (by decide), mo 76 (by decide) (by decide) (by decide), mo 77 (by decide) (by decide) (by decide), mo 78 (by decide) (by decide) (by decide), mo 79 (by decide) (by decide) (by decide), mo 7 (by decide) (by decide) (by decide), mo 1 (by decide) (by decide) (by decide), mo 9 (by decide) (by decide) (by decide), mo 112 (by decide) (by decide) (by decide), mo 113 (by decide) (by decide) (by decide), mo 114 (by decide) (by decide) (by decide), s74, s75, s76, so 77 (by decide), so 78 (by decide), so 79 (by decide), so 7 (by decide), so 1 (by decide), so 9 (by decide), so 112 (by decide), so 113 (by decide), so 114 (by decide)]
      refine ⟨⟨rfl, rfl, rfl⟩, fun j => ?_, ⟨d5, d5b⟩, d6, fun j => ⟨by have := (d7 j).1; omega, (d7 j).2⟩⟩
      have q4 := d4 j
      have q7 := d7 j
      unfold cpN
      by_cases c5 : j < 5
      · rw [if_pos c5, if_pos c5]
        exact ⟨by omega, fun v => q7.2.2 (by omega)⟩
      · rw [if_neg c5, if_neg c5]
        exact ⟨by omega, q4.2⟩
