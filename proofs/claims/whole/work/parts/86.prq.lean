/-! ===== the questions: what the reference answers is what the class answered ===== -/
theorem x_all {LF : LFT} {σ σ1 : Sto} (h1 : I1 LF σ) (h7 : I7 σ) (hk : KC σ σ1) : (pasM LF σ1 = pasC LF σ ∧ finM σ1 = finC σ ∧ hurtM σ1 = hurtC σ ∧ huM σ1 = huS σ) ∧ (hrM σ1 = hrC σ ∧ prM σ1 = prC σ) ∧ ((∀ s, 0 ≤ s ∧ s < 6 → σ 30 s.toNat = 0 → SYM σ1 s = SYC σ s) ∧ (∀ s, 0 ≤ s ∧ s < 6 → σ 30 s.toNat = 0 → MLM σ1 s = MLC σ s)) ∧ (σ1 9 1 = σ 1 1 ∧ σ1 9 7 = σ 1 2 ∧ σ1 9 11 = σ 1 3) ∧ (σ1 83 = σ 14 ∧ σ1 84 = σ 15 ∧ σ1 85 = σ 16 ∧ σ1 86 = σ 17 ∧ σ1 90 = σ 19) := by
  have k : ∀ a, ¬ (a = 5 ∨ a = 10 ∨ a = 11 ∨ a = 28 ∨ a = 29 ∨ (40 ≤ a ∧ a ≤ 45) ∨ (47 ≤ a ∧ a ≤ 57) ∨ (59 ≤ a ∧ a ≤ 73)) → σ1 a = σ a := hk
  have g1 := h1.kc hk
  have g7 := h7.rs (rsK.kc hk)
  have ehu : hurtC σ1 = hurtC σ := by funext X; unfold hurtC; rw [k 17 (by omega), k 14 (by omega), k 15 (by omega), k 19 (by omega), k 1 (by omega)]
  refine ⟨⟨?_, ?_, ?_, ?_⟩, ⟨?_, ?_⟩, ⟨fun s hs h30 => ?_, fun s hs h30 => ?_⟩, ⟨?_, ?_, ?_⟩, ?_⟩
  · rw [e_ps g1]; funext f; exact hk.ps
  · rw [e_fi g1]; funext m; exact hk.fin
  · rw [e_hu g1, ehu]
  · rw [e_hs g1]; funext s; unfold huS; rw [ehu, k 1 (by omega)]
  · funext s m; rw [e_hr g1 g7]; exact hk.hr
  · funext t; rw [e_pr g7]; exact hk.pr
  · rw [e_sy g1 g7 hs (by rw [k 30 (by omega)]; exact h30)]; exact hk.sy hs
  · rw [e_ml g1 g7 hs (by rw [k 30 (by omega)]; exact h30)]; unfold MLC; rw [k (34 + s.toNat) (by omega), k 1 (by omega), k 32 (by omega)]
  · rw [g1.2.2.1.1, k 1 (by omega)]
  · rw [g1.2.2.1.2.1, k 1 (by omega)]
  · rw [g1.2.2.1.2.2.1, k 1 (by omega)]
  · obtain ⟨-, q1, q2, q3, q4, -, q5⟩ := g1.2.2.2.1
    exact ⟨by rw [q1, k 14 (by omega)], by rw [q2, k 15 (by omega)], by rw [q3, k 16 (by omega)], by rw [q4, k 17 (by omega)], by rw [q5, k 19 (by omega)]⟩
theorem z2_lor {a b : Int} (h : a = b) : zI a = zI b := by rw [h]

theorem pr_lets {d e n : Nat} {σ : Sto} {wm pl : Int} (hI : Inv n σ) (i1 : inR wm) (i2 : inR pl) : m_X8_lets d [zR 0, zI wm, zI pl] σ (qI fun z σ1 => m_X9_lets e [zR 9, zI wm, zI pl] σ1 (qI fun z' σ2 => zI z' = zI z ∧ Inv (n + 1) σ2)) := by
  obtain ⟨LF, h1⟩ := hI.1
  refine (c_X8_lets (LF := LF) h1.1 i1 i2).mono ?_
  rintro r σ1 ⟨z, rfl, hz, hk⟩
  have hJ := hI.kc hk
  have g1 := h1.kc hk
  obtain ⟨⟨ps, fi, hu, hs⟩, ⟨hr, pr⟩, ⟨sy, ml⟩, ⟨x1, x7, x11⟩, ⟨x83, x84, x85, x86, x90⟩⟩ := x_all h1 hI.2.2.2.2.2 hk
  refine ⟨z, rfl, (c_X9_lets (LF := LF) g1.2.1 i1 i2).mono ?_⟩
  rintro r' σ2 ⟨z', rfl, hz', hk2⟩
  refine ⟨z', rfl, ?_, (hJ.km hk2).up⟩
  rw [hz, hz', x1, x7, ps, fi]
theorem pr_through {d e n : Nat} {σ : Sto} {s m w : Int} (hI : Inv n σ) (i1 : inR s) (i2 : inR m) (i3 : inR w) : m_X8_through d [zR 0, zI s, zI m, zI w] σ (qI fun z σ1 => m_X9_through e [zR 9, zI s, zI m, zI w] σ1 (qI fun z' σ2 => zI z' = zI z ∧ Inv (n + 1) σ2)) := by
  obtain ⟨LF, h1⟩ := hI.1
  refine (c_X8_through (LF := LF) h1.1 hI.sh i1 i2 i3).mono ?_
  rintro r σ1 ⟨z, rfl, hz, hk⟩
  have hJ := hI.kc hk
  have g1 := h1.kc hk
  obtain ⟨⟨ps, fi, hu, hs⟩, ⟨hr, pr⟩, ⟨sy, ml⟩, ⟨x1, x7, x11⟩, ⟨x83, x84, x85, x86, x90⟩⟩ := x_all h1 hI.2.2.2.2.2 hk
  refine ⟨z, rfl, (c_X9_through (LF := LF) g1.2.1 hJ.sm i1 i2 i3).mono ?_⟩
  rintro r' σ2 ⟨z', rfl, hz', hk2⟩
  refine ⟨z', rfl, ?_, (hJ.km hk2).up⟩
  rw [hz, hz', hr, ps, fi, x83, x84, x85, x86, x90, x11]
  by_cases h0 : hrC σ s m = 0
  · rw [sy _ (hrC_0 h0).1 (hrC_0 h0).2.2]
  · simp [thG, h0]
theorem pr_nth {d e n : Nat} {σ : Sto} {s m k w : Int} (hI : Inv n σ) (i1 : inR s) (i2 : inR m) (i3 : inR k) (i4 : inR w) : m_X8_nth d [zR 0, zI s, zI m, zI k, zI w] σ (qI fun z σ1 => m_X9_nth e [zR 9, zI s, zI m, zI k, zI w] σ1 (qI fun z' σ2 => zI z' = zI z ∧ Inv (n + 1) σ2)) := by
  obtain ⟨LF, h1⟩ := hI.1
  refine (c_X8_nth (LF := LF) h1.1 hI.sh i1 i2 i3 i4).mono ?_
  rintro r σ1 ⟨z, rfl, hz, hk⟩
  have hJ := hI.kc hk
  have g1 := h1.kc hk
  obtain ⟨⟨ps, fi, hu, hs⟩, ⟨hr, pr⟩, ⟨sy, ml⟩, ⟨x1, x7, x11⟩, ⟨x83, x84, x85, x86, x90⟩⟩ := x_all h1 hI.2.2.2.2.2 hk
  refine ⟨z, rfl, (c_X9_nth (LF := LF) g1.2.1 hJ.sm i1 i2 i3 i4).mono ?_⟩
  rintro r' σ2 ⟨z', rfl, hz', hk2⟩
  refine ⟨z', rfl, ?_, (hJ.km hk2).up⟩
  rw [hz, hz', hr, ps, fi]
  by_cases h0 : hrC σ s m = 0
  · rw [sy _ (hrC_0 h0).1 (hrC_0 h0).2.2]
  · simp [ntG, h0]
theorem pr_several {d e n : Nat} {σ : Sto} {sm w : Int} (hI : Inv n σ) (i1 : inR sm) (i2 : inR w) : m_X8_several d [zR 0, zI sm, zI w] σ (qI fun z σ1 => m_X9_several e [zR 9, zI sm, zI w] σ1 (qI fun z' σ2 => zI z' = zI z ∧ Inv (n + 1) σ2)) := by
  obtain ⟨LF, h1⟩ := hI.1
  refine (c_X8_several (LF := LF) h1.1 hI.sh i1 i2).mono ?_
  rintro r σ1 ⟨z, rfl, hz, hk⟩
  have hJ := hI.kc hk
  have g1 := h1.kc hk
  obtain ⟨⟨ps, fi, hu, hs⟩, ⟨hr, pr⟩, ⟨sy, ml⟩, ⟨x1, x7, x11⟩, ⟨x83, x84, x85, x86, x90⟩⟩ := x_all h1 hI.2.2.2.2.2 hk
  refine ⟨z, rfl, (c_X9_several (LF := LF) g1.2.1 hJ.sm i1 i2).mono ?_⟩
  rintro r' σ2 ⟨z', rfl, hz', hk2⟩
  refine ⟨z', rfl, ?_, (hJ.km hk2).up⟩
  rw [hz, hz', pr, ps, fi, x83]
  by_cases h0 : prC σ sm = 0
  · obtain ⟨p1, p2, p3, p4, -⟩ := prC_0 h0
    rw [sy _ p1 p3, ml _ p2 p4]
  · simp [svG, h0]
theorem pr_say {d e n : Nat} {σ : Sto} {s m k : Int} (hI : Inv n σ) (i1 : inR s) (i2 : inR m) (i3 : inR k) : m_X8_say d [zR 0, zI s, zI m, zI k] σ (qI fun z σ1 => m_X9_say e [zR 9, zI s, zI m, zI k] σ1 (qI fun z' σ2 => zI z' = zI z ∧ Inv (n + 1) σ2)) := by
  obtain ⟨LF, h1⟩ := hI.1
  refine (c_X8_say (LF := LF) h1.1 hI.sh i1 i2 i3).mono ?_
  rintro r σ1 ⟨z, rfl, hz, hk⟩
  have hJ := hI.kc hk
  have g1 := h1.kc hk
  obtain ⟨⟨ps, fi, hu, hs⟩, ⟨hr, pr⟩, ⟨sy, ml⟩, ⟨x1, x7, x11⟩, ⟨x83, x84, x85, x86, x90⟩⟩ := x_all h1 hI.2.2.2.2.2 hk
  refine ⟨z, rfl, (c_X9_say (LF := LF) g1.2.1 hJ.sm i1 i2 i3).mono ?_⟩
  rintro r' σ2 ⟨z', rfl, hz', hk2⟩
  refine ⟨z', rfl, ?_, (hJ.km hk2).up⟩
  rw [hz, hz', hr, ps, fi, x85, x1]
  by_cases h0 : hrC σ s m = 0
  · rw [sy _ (hrC_0 h0).1 (hrC_0 h0).2.2]
  · simp [syG, h0]
theorem pr_finest {d e n : Nat} {σ : Sto} {s : Int} (hI : Inv n σ) (i1 : inR s) : m_X8_finest d [zR 0, zI s] σ (qI fun z σ1 => m_X9_finest e [zR 9, zI s] σ1 (qI fun z' σ2 => zI z' = zI z ∧ Inv (n + 1) σ2)) := by
  obtain ⟨LF, h1⟩ := hI.1
  refine (c_X8_finest (LF := LF) h1.1 hI.sh i1).mono ?_
  rintro r σ1 ⟨z, rfl, hz, hk⟩
  have hJ := hI.kc hk
  have g1 := h1.kc hk
  obtain ⟨⟨ps, fi, hu, hs⟩, ⟨hr, pr⟩, ⟨sy, ml⟩, ⟨x1, x7, x11⟩, ⟨x83, x84, x85, x86, x90⟩⟩ := x_all h1 hI.2.2.2.2.2 hk
  refine ⟨z, rfl, (c_X9_finest (LF := LF) g1.2.1 hJ.sm i1).mono ?_⟩
  rintro r' σ2 ⟨z', rfl, hz', hk2⟩
  refine ⟨z', rfl, ?_, (hJ.km hk2).up⟩
  rw [hz, hz', hr, ps]
  by_cases h0 : hrC σ s (-1) = 0
  · rw [sy _ (hrC_0 h0).1 (hrC_0 h0).2.2]
  · simp [fnG, h0]
theorem pr_keeps {d e n : Nat} {σ : Sto} {set : Int} (hI : Inv n σ) (i1 : inR set) : m_X8_keeps d [zR 0, zI set] σ (qI fun z σ1 => m_X9_keeps e [zR 9, zI set] σ1 (qI fun z' σ2 => zI z' = zI z ∧ Inv (n + 1) σ2)) := by
  obtain ⟨LF, h1⟩ := hI.1
  refine (c_X8_keeps (LF := LF) h1.1 i1).mono ?_
  rintro r σ1 ⟨z, rfl, hz, hk⟩
  have hJ := hI.kc hk
  have g1 := h1.kc hk
  obtain ⟨⟨ps, fi, hu, hs⟩, ⟨hr, pr⟩, ⟨sy, ml⟩, ⟨x1, x7, x11⟩, ⟨x83, x84, x85, x86, x90⟩⟩ := x_all h1 hI.2.2.2.2.2 hk
  refine ⟨z, rfl, (c_X9_keeps (LF := LF) g1.2.1 i1).mono ?_⟩
  rintro r' σ2 ⟨z', rfl, hz', hk2⟩
  refine ⟨z', rfl, ?_, (hJ.km hk2).up⟩
  rw [hz, hz', x7, x1, ps, fi]
theorem pr_leastLost {d e n : Nat} {σ : Sto} {s : Int} (hI : Inv n σ) (i1 : inR s) : m_X8_leastLost d [zR 0, zI s] σ (qI fun z σ1 => m_X9_leastLost e [zR 9, zI s] σ1 (qI fun z' σ2 => zI z' = zI z ∧ Inv (n + 1) σ2)) := by
  obtain ⟨LF, h1⟩ := hI.1
  refine (c_X8_leastLost (LF := LF) h1.1 hI.sh i1).mono ?_
  rintro r σ1 ⟨z, rfl, hz, hk⟩
  have hJ := hI.kc hk
  have g1 := h1.kc hk
  obtain ⟨⟨ps, fi, hu, hs⟩, ⟨hr, pr⟩, ⟨sy, ml⟩, ⟨x1, x7, x11⟩, ⟨x83, x84, x85, x86, x90⟩⟩ := x_all h1 hI.2.2.2.2.2 hk
  refine ⟨z, rfl, (c_X9_leastLost (LF := LF) g1.2.1 hJ.sm i1).mono ?_⟩
  rintro r' σ2 ⟨z', rfl, hz', hk2⟩
  refine ⟨z', rfl, ?_, (hJ.km hk2).up⟩
  rw [hz, hz', hr, x7, ps, fi, x84, hu]
  by_cases h0 : hrC σ s (-1) = 0
  · rw [sy _ (hrC_0 h0).1 (hrC_0 h0).2.2]
  · simp [llG, h0]
theorem pr_most {d e n : Nat} {σ : Sto} {w : Int} (hI : Inv n σ) (i1 : inR w) : m_X8_most d [zR 0, zI w] σ (qI fun z σ1 => m_X9_most e [zR 9, zI w] σ1 (qI fun z' σ2 => zI z' = zI z ∧ Inv (n + 1) σ2)) := by
  obtain ⟨LF, h1⟩ := hI.1
  refine (c_X8_most (LF := LF) h1.1 i1).mono ?_
  rintro r σ1 ⟨z, rfl, hz, hk⟩
  have hJ := hI.kc hk
  have g1 := h1.kc hk
  obtain ⟨⟨ps, fi, hu, hs⟩, ⟨hr, pr⟩, ⟨sy, ml⟩, ⟨x1, x7, x11⟩, ⟨x83, x84, x85, x86, x90⟩⟩ := x_all h1 hI.2.2.2.2.2 hk
  refine ⟨z, rfl, (c_X9_most (LF := LF) g1.2.1 i1).mono ?_⟩
  rintro r' σ2 ⟨z', rfl, hz', hk2⟩
  refine ⟨z', rfl, ?_, (hJ.km hk2).up⟩
  rw [hz, hz', x1, hs]
theorem pr_said {d e n : Nat} {σ : Sto} {cl m : Int} (hI : Inv n σ) (i1 : inR cl) (i2 : inR m) : m_X8_said d [zR 0, zI cl, zI m] σ (qJ fun z σ1 => m_X9_said e [zR 9, zI cl, zI m] σ1 (qJ fun z' σ2 => zJ z' = zJ z ∧ Inv (n + 1) σ2)) := by
  obtain ⟨LF, h1⟩ := hI.1
  refine (c_X8_said (LF := LF) h1.1 hI.sh i1 i2).mono ?_
  rintro r σ1 ⟨z, rfl, hz, hk⟩
  have hJ := hI.kc hk
  have g1 := h1.kc hk
  obtain ⟨⟨ps, fi, hu, hs⟩, ⟨hr, pr⟩, ⟨sy, ml⟩, ⟨x1, x7, x11⟩, ⟨x83, x84, x85, x86, x90⟩⟩ := x_all h1 hI.2.2.2.2.2 hk
  refine ⟨z, rfl, (c_X9_said (LF := LF) g1.2.1 hJ.sm i1 i2).mono ?_⟩
  rintro r' σ2 ⟨z', rfl, hz', hk2⟩
  refine ⟨z', rfl, ?_, (hJ.km hk2).up⟩
  rw [hz, hz', pr, x7, ps, fi]
  by_cases h0 : prC σ cl = 0
  · obtain ⟨p1, p2, p3, p4, -⟩ := prC_0 h0
    rw [sy _ p1 p3, sy _ p2 p4]
  · simp [sdG, h0]
theorem pr_saidAt {d e n : Nat} {σ : Sto} {cl m k : Int} (hI : Inv n σ) (i1 : inR cl) (i2 : inR m) (i3 : inR k) : m_X8_saidAt d [zR 0, zI cl, zI m, zI k] σ (qI fun z σ1 => m_X9_saidAt e [zR 9, zI cl, zI m, zI k] σ1 (qI fun z' σ2 => zI z' = zI z ∧ Inv (n + 1) σ2)) := by
  obtain ⟨LF, h1⟩ := hI.1
  refine (c_X8_saidAt (LF := LF) h1.1 hI.sh i1 i2 i3).mono ?_
  rintro r σ1 ⟨z, rfl, hz, hk⟩
  have hJ := hI.kc hk
  have g1 := h1.kc hk
  obtain ⟨⟨ps, fi, hu, hs⟩, ⟨hr, pr⟩, ⟨sy, ml⟩, ⟨x1, x7, x11⟩, ⟨x83, x84, x85, x86, x90⟩⟩ := x_all h1 hI.2.2.2.2.2 hk
  refine ⟨z, rfl, (c_X9_saidAt (LF := LF) g1.2.1 hJ.sm i1 i2 i3).mono ?_⟩
  rintro r' σ2 ⟨z', rfl, hz', hk2⟩
  refine ⟨z', rfl, ?_, (hJ.km hk2).up⟩
  rw [hz, hz', pr, x7, ps, fi]
  by_cases h0 : prC σ cl = 0
  · obtain ⟨p1, p2, p3, p4, -⟩ := prC_0 h0
    rw [sy _ p1 p3, sy _ p2 p4]
  · simp [saG, h0]
theorem pr_alone {d e n : Nat} {σ : Sto} {s m k : Int} (hI : Inv n σ) (i1 : inR s) (i2 : inR m) (i3 : inR k) : m_X8_alone d [zR 0, zI s, zI m, zI k] σ (qJ fun z σ1 => m_X9_alone e [zR 9, zI s, zI m, zI k] σ1 (qJ fun z' σ2 => zJ z' = zJ z ∧ Inv (n + 1) σ2)) := by
  obtain ⟨LF, h1⟩ := hI.1
  refine (c_X8_alone (LF := LF) h1.1 hI.sh i1 i2 i3).mono ?_
  rintro r σ1 ⟨z, rfl, hz, hk⟩
  have hJ := hI.kc hk
  have g1 := h1.kc hk
  obtain ⟨⟨ps, fi, hu, hs⟩, ⟨hr, pr⟩, ⟨sy, ml⟩, ⟨x1, x7, x11⟩, ⟨x83, x84, x85, x86, x90⟩⟩ := x_all h1 hI.2.2.2.2.2 hk
  refine ⟨z, rfl, (c_X9_alone (LF := LF) g1.2.1 hJ.sm i1 i2 i3).mono ?_⟩
  rintro r' σ2 ⟨z', rfl, hz', hk2⟩
  refine ⟨z', rfl, ?_, (hJ.km hk2).up⟩
  rw [hz, hz', hr, ps, fi, x1]
  by_cases h0 : hrC σ s m = 0
  · rw [sy _ (hrC_0 h0).1 (hrC_0 h0).2.2]
  · simp [alG, h0]
theorem pr_howFine {d e n : Nat} {σ : Sto} {sc w : Int} (hI : Inv n σ) (i1 : inR sc) (i2 : inR w) : m_X8_howFine d [zR 0, zI sc, zI w] σ (qI fun z σ1 => m_X9_howFine e [zR 9, zI sc, zI w] σ1 (qI fun z' σ2 => zI z' = zI z ∧ Inv (n + 1) σ2)) := by
  obtain ⟨LF, h1⟩ := hI.1
  refine (c_X8_howFine (LF := LF) h1.1 hI.sh i1 i2).mono ?_
  rintro r σ1 ⟨z, rfl, hz, hk⟩
  have hJ := hI.kc hk
  have g1 := h1.kc hk
  obtain ⟨⟨ps, fi, hu, hs⟩, ⟨hr, pr⟩, ⟨sy, ml⟩, ⟨x1, x7, x11⟩, ⟨x83, x84, x85, x86, x90⟩⟩ := x_all h1 hI.2.2.2.2.2 hk
  refine ⟨z, rfl, (c_X9_howFine (LF := LF) g1.2.1 hJ.sm i1 i2).mono ?_⟩
  rintro r' σ2 ⟨z', rfl, hz', hk2⟩
  refine ⟨z', rfl, ?_, (hJ.km hk2).up⟩
  rw [hz, hz', pr, ps]
  by_cases h0 : prC σ sc = 0
  · obtain ⟨p1, p2, p3, p4, -⟩ := prC_0 h0
    rw [sy _ p1 p3, sy _ p2 p4]
  · simp [hfG, h0]
theorem pr_between {d e n : Nat} {σ : Sto} {s m k : Int} (hI : Inv n σ) (i1 : inR s) (i2 : inR m) (i3 : inR k) : m_X8_between d [zR 0, zI s, zI m, zI k] σ (qI fun z σ1 => m_X9_between e [zR 9, zI s, zI m, zI k] σ1 (qI fun z' σ2 => zI z' = zI z ∧ Inv (n + 1) σ2)) := by
  obtain ⟨LF, h1⟩ := hI.1
  refine (c_X8_between (LF := LF) h1.1 hI.sh i1 i2 i3).mono ?_
  rintro r σ1 ⟨z, rfl, hz, hk⟩
  have hJ := hI.kc hk
  have g1 := h1.kc hk
  obtain ⟨⟨ps, fi, hu, hs⟩, ⟨hr, pr⟩, ⟨sy, ml⟩, ⟨x1, x7, x11⟩, ⟨x83, x84, x85, x86, x90⟩⟩ := x_all h1 hI.2.2.2.2.2 hk
  refine ⟨z, rfl, (c_X9_between (LF := LF) g1.2.1 hJ.sm i1 i2 i3).mono ?_⟩
  rintro r' σ2 ⟨z', rfl, hz', hk2⟩
  refine ⟨z', rfl, ?_, (hJ.km hk2).up⟩
  rw [hz, hz', hr, ps, fi, x1]
  by_cases h0 : hrC σ s m = 0
  · rw [sy _ (hrC_0 h0).1 (hrC_0 h0).2.2]
  · simp [btG, h0]
theorem pr_meant {d e n : Nat} {σ : Sto} {s m w : Int} (hI : Inv n σ) (i1 : inR s) (i2 : inR m) (i3 : inR w) : m_X8_meant d [zR 0, zI s, zI m, zI w] σ (qI fun z σ1 => m_X9_meant e [zR 9, zI s, zI m, zI w] σ1 (qI fun z' σ2 => zI z' = zI z ∧ Inv (n + 1) σ2)) := by
  obtain ⟨LF, h1⟩ := hI.1
  refine (c_X8_meant (LF := LF) h1.1 hI.sh i1 i2 i3).mono ?_
  rintro r σ1 ⟨z, rfl, hz, hk⟩
  have hJ := hI.kc hk
  have g1 := h1.kc hk
  obtain ⟨⟨ps, fi, hu, hs⟩, ⟨hr, pr⟩, ⟨sy, ml⟩, ⟨x1, x7, x11⟩, ⟨x83, x84, x85, x86, x90⟩⟩ := x_all h1 hI.2.2.2.2.2 hk
  refine ⟨z, rfl, (c_X9_meant (LF := LF) g1.2.1 hJ.sm i1 i2 i3).mono ?_⟩
  rintro r' σ2 ⟨z', rfl, hz', hk2⟩
  refine ⟨z', rfl, ?_, (hJ.km hk2).up⟩
  rw [hz, hz', hr, ps, fi, x83, x86]
  by_cases h0 : hrC σ s m = 0
  · rw [sy _ (hrC_0 h0).1 (hrC_0 h0).2.2]
  · simp [mnG, h0]
theorem pr_likely {d e n : Nat} {σ : Sto} {s m one part : Int} (hI : Inv n σ) (i1 : inR s) (i2 : inR m) (i3 : inR one) (i4 : inR part) : m_X8_likely d [zR 0, zI s, zI m, zI one, zI part] σ (qJ fun z σ1 => m_X9_likely e [zR 9, zI s, zI m, zI one, zI part] σ1 (qJ fun z' σ2 => zJ z' = zJ z ∧ Inv (n + 1) σ2)) := by
  obtain ⟨LF, h1⟩ := hI.1
  refine (c_X8_likely (LF := LF) h1.1 hI.sh i1 i2 i3 i4).mono ?_
  rintro r σ1 ⟨z, rfl, hz, hk⟩
  have hJ := hI.kc hk
  have g1 := h1.kc hk
  obtain ⟨⟨ps, fi, hu, hs⟩, ⟨hr, pr⟩, ⟨sy, ml⟩, ⟨x1, x7, x11⟩, ⟨x83, x84, x85, x86, x90⟩⟩ := x_all h1 hI.2.2.2.2.2 hk
  refine ⟨z, rfl, (c_X9_likely (LF := LF) g1.2.1 hJ.sm i1 i2 i3 i4).mono ?_⟩
  rintro r' σ2 ⟨z', rfl, hz', hk2⟩
  refine ⟨z', rfl, ?_, (hJ.km hk2).up⟩
  rw [hz, hz', hr, ps, fi, x83, x86]
  by_cases h0 : hrC σ s m = 0
  · rw [sy _ (hrC_0 h0).1 (hrC_0 h0).2.2]
  · simp [lkG, h0]
theorem pr_game {d e n : Nat} {σ : Sto} {m w : Int} (hI : Inv n σ) (i1 : inR m) (i2 : inR w) : m_X8_game d [zR 0, zI m, zI w] σ (qI fun z σ1 => m_X9_game e [zR 9, zI m, zI w] σ1 (qI fun z' σ2 => zI z' = zI z ∧ Inv (n + 1) σ2)) := by
  obtain ⟨LF, h1⟩ := hI.1
  refine (c_X8_game (LF := LF) h1.1 i1 i2).mono ?_
  rintro r σ1 ⟨z, rfl, hz, hk⟩
  have hJ := hI.kc hk
  have g1 := h1.kc hk
  obtain ⟨⟨ps, fi, hu, hs⟩, ⟨hr, pr⟩, ⟨sy, ml⟩, ⟨x1, x7, x11⟩, ⟨x83, x84, x85, x86, x90⟩⟩ := x_all h1 hI.2.2.2.2.2 hk
  refine ⟨z, rfl, (c_X9_game (LF := LF) g1.2.1 i1 i2).mono ?_⟩
  rintro r' σ2 ⟨z', rfl, hz', hk2⟩
  refine ⟨z', rfl, ?_, (hJ.km hk2).up⟩
  rw [hz, hz', x1, x7, ps, fi]
theorem pr_drawn {d e n : Nat} {σ : Sto} {sd nm m w : Int} (hI : Inv n σ) (i1 : inR sd) (i2 : inR nm) (i3 : inR m) (i4 : inR w) : m_X8_drawn d [zR 0, zI sd, zI nm, zI m, zI w] σ (qI fun z σ1 => m_X9_drawn e [zR 9, zI sd, zI nm, zI m, zI w] σ1 (qI fun z' σ2 => zI z' = zI z ∧ Inv (n + 1) σ2)) := by
  obtain ⟨LF, h1⟩ := hI.1
  refine (c_X8_drawn (LF := LF) h1.1 i2 i3 i4).mono ?_
  rintro r σ1 ⟨z, rfl, hz, hk⟩
  have hJ := hI.kc hk
  have g1 := h1.kc hk
  obtain ⟨⟨ps, fi, hu, hs⟩, ⟨hr, pr⟩, ⟨sy, ml⟩, ⟨x1, x7, x11⟩, ⟨x83, x84, x85, x86, x90⟩⟩ := x_all h1 hI.2.2.2.2.2 hk
  refine ⟨z, rfl, (c_X9_drawn (LF := LF) g1.2.1 i2 i3 i4).mono ?_⟩
  rintro r' σ2 ⟨z', rfl, hz', hk2⟩
  refine ⟨z', rfl, ?_, (hJ.km hk2).up⟩
  rw [hz, hz', x1, x7, ps, fi, hu]
