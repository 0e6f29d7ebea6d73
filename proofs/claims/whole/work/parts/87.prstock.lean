/-! ===== words, meshes, people: class against reference ===== -/
def pu (f : Nat → Int) (i : Nat) (x : Int) : Nat → Int := fun b => if b = i then x else f b
theorem pu_R {f : Nat → Int} {i : Nat} {x lo hi : Int} (h : ∀ j, lo ≤ f j ∧ f j ≤ hi) (hx : lo ≤ x ∧ x ≤ hi) : ∀ j, lo ≤ pu f i x j ∧ pu f i x j ≤ hi := fun j => by
  unfold pu
  split
  · exact hx
  · exact h j
theorem pu_0 {f : Nat → Int} {i : Nat} {x : Int} (h : f i = x) : pu f i x = f := by
  funext b
  unfold pu
  split
  · rename_i q; rw [q, h]
  · rfl
theorem z_put_pu (σ : Sto) (k i : Nat) (x : Int) : z_put σ k i x k = pu (σ k) i x := by
  funext b
  rw [z_rd, if_pos rfl]
  rfl
theorem I1.cg {LF : LFT} {σ τ : Sto} (h : ∀ a, (a = 1 ∨ a = 3 ∨ (13 ≤ a ∧ a ≤ 20) ∨ a = 27 ∨ (82 ≤ a ∧ a ≤ 87) ∨ a = 90 ∨ (96 ≤ a ∧ a ≤ 100)) → τ a = σ a) (h9 : ∀ j, (j = 1 ∨ j = 7 ∨ j = 11 ∨ j = 13 ∨ j = 33) → τ 9 j = σ 9 j) (hI : I1 LF σ) : I1 LF τ := by
  obtain ⟨h1, h2, h3, h4, h5, h6⟩ := hI
  refine ⟨h1.keep (h 1 (by omega)) (h 3 (by omega)) (h 27 (by omega)) (fun a _ _ => h a (by omega)), h2.keep h9 (fun a _ => h a (by omega)), ?_, ?_, ?_, ?_⟩
  · rw [h9 1 (by omega), h9 7 (by omega), h9 11 (by omega), h9 13 (by omega), h 1 (by omega), h 20 (by omega)]; exact h3
  · rw [h 82 (by omega), h 83 (by omega), h 84 (by omega), h 85 (by omega), h 86 (by omega), h 87 (by omega), h 90 (by omega), h 13 (by omega), h 14 (by omega), h 15 (by omega), h 16 (by omega), h 17 (by omega), h 18 (by omega), h 19 (by omega)]; exact h4
  · rw [h 1 (by omega), h 17 (by omega)]; exact h5
  · rw [h9 33 (by omega), h 3 (by omega)]; exact h6
theorem bearR_up {σ τ : Sto} {w b n : Int} (h1 : σ 1 1 ≤ τ 1 1) (h2 : σ 1 2 ≤ τ 1 2) (h3 : σ 1 3 ≤ τ 1 3) (hb : bearR σ w b) (hn : n < b) : ∃ b', bearR τ w b' ∧ n < b' := by
  rcases hb with q | q | q | q
  · exact ⟨τ 1 2, Or.inl ⟨q.1, rfl⟩, by omega⟩
  · exact ⟨τ 1 3, Or.inr (Or.inl ⟨q.1, rfl⟩), by omega⟩
  · exact ⟨1, Or.inr (Or.inr (Or.inl ⟨q.1, rfl⟩)), by omega⟩
  · exact ⟨τ 1 1, Or.inr (Or.inr (Or.inr ⟨q.1, q.2.1, q.2.2.1, rfl⟩)), by omega⟩
theorem cgO.up {σ τ : Sto} (h1 : σ 1 1 ≤ τ 1 1) (h2 : σ 1 2 ≤ τ 1 2) (h3 : σ 1 3 ≤ τ 1 3) (h : ∀ a, 21 ≤ a ∧ a ≤ 24 → τ a = σ a) (h24 : τ 2 4 + τ 2 5 = σ 2 4 + σ 2 5) (hI : cgO σ) : cgO τ := fun j hj => by
  obtain ⟨⟨a1, a2, b, a3, a4⟩, a5, a6⟩ := hI j (by omega)
  unfold chOK
  rw [h 21 (by omega), h 22 (by omega), h 23 (by omega), h 24 (by omega)]
  exact ⟨⟨a1, a2, bearR_up h1 h2 h3 a3 a4⟩, a5, a6⟩
theorem I3.up {σ τ : Sto} (h1 : σ 1 1 ≤ τ 1 1) (h2 : σ 1 2 ≤ τ 1 2) (h3 : σ 1 3 ≤ τ 1 3) (h : ∀ a, a = 2 ∨ (21 ≤ a ∧ a ≤ 24) ∨ (91 ≤ a ∧ a ≤ 94) → τ a = σ a) (h9 : τ 9 14 = σ 9 14 ∧ τ 9 15 = σ 9 15) (hI : I3 σ) : I3 τ := by
  obtain ⟨g1, g2, g3, g4⟩ := hI
  refine ⟨?_, ?_, ?_, g4.up h1 h2 h3 (fun a ha => h a (by omega)) (by rw [h 2 (by omega)])⟩
  · rw [h9.1, h9.2, h 2 (by omega)]; exact g1
  · rw [h 2 (by omega)]; exact g2
  · rw [h 91 (by omega), h 92 (by omega), h 93 (by omega), h 94 (by omega), h 21 (by omega), h 22 (by omega), h 23 (by omega), h 24 (by omega)]; exact g3
theorem nw_inv {n : Nat} {σ : Sto} {s h w : Int} (hI : Inv n σ) (hlt : σ 1 1 < 12) (hs : 0 ≤ s ∧ s ≤ 9) (hh : 0 ≤ h ∧ h ≤ 9) (hw : 0 ≤ w ∧ w ≤ 9) : Inv n (nwM (nwS σ s h w) s h w) := by
  obtain ⟨⟨LF, h1⟩, h3, h4, h5, h6, h7⟩ := hI
  obtain ⟨⟨a1, a2, a3, a4, a5, a6, a7, a8, a9, a10, a11, a12⟩, ⟨b1, b2, b3, b4, b5, b6, b7, b8, b9, b10, b11, b12, b13⟩, ⟨e1, e7, e11, e13⟩, ⟨f2, f3, f4, f5, f6, f7, f0⟩, g, k⟩ := h1
  have z86 : σ 86 (σ 9 1).toNat = 0 := by rw [f6]; exact g _ (by omega)
  refine ⟨⟨LF, ?_⟩, ?_, h4, h5, h6, ?_⟩
  · refine ⟨⟨?_, a2, a3, pu_R a4 hs, pu_R a5 hh, pu_R a6 hw, pu_R (x := 2) a7 (by decide), a8, a9, a10, a11, a12⟩, ⟨?_, b2, b3, pu_R b4 hs, pu_R b5 hh, pu_R b6 hw, pu_R (x := 2) b7 (by decide), pu_R (x := 0) b8 (by decide), b9, b10, b11, b12, fun q => ?_⟩, ⟨?_, e7, e11, e13⟩, ⟨?_, ?_, ?_, ?_, ?_, f7, f0⟩, ?_, k⟩
    · show 0 ≤ σ 1 1 + 1 ∧ σ 1 1 + 1 ≤ 12; omega
    · show 0 ≤ σ 9 1 + 1 ∧ σ 9 1 + 1 ≤ 12; omega
    · obtain ⟨ls, F, q1, q2, q3, q4⟩ := b13 q
      exact ⟨ls, F, q1, Seg.row (σ := σ) rfl q2, Seg.row (σ := σ) rfl q3, q4⟩
    · show σ 9 1 + 1 = σ 1 1 + 1; omega
    · show pu (σ 82) (σ 9 1).toNat s = pu (σ 13) (σ 1 1).toNat s; rw [e1, f2]
    · show pu (σ 83) (σ 9 1).toNat h = pu (σ 14) (σ 1 1).toNat h; rw [e1, f3]
    · show pu (σ 84) (σ 9 1).toNat w = pu (σ 15) (σ 1 1).toNat w; rw [e1, f4]
    · show pu (σ 85) (σ 9 1).toNat 2 = pu (σ 16) (σ 1 1).toNat 2; rw [e1, f5]
    · show pu (σ 86) (σ 9 1).toNat 0 = σ 17; rw [pu_0 z86, f6]
    · exact fun j (hj : σ 1 1 + 1 ≤ j) => g j (by omega)
  · exact h3.up (show σ 1 1 ≤ σ 1 1 + 1 by omega) (Int.le_refl _) (Int.le_refl _) (fun a ha => by unfold nwM nwS; repeat rw [z_put_ne (by omega)]) ⟨rfl, rfl⟩
  · exact I7.cong (σ := σ) (Int.le_refl (σ 8 2)) (fun a ha => by unfold nwM nwS; repeat rw [z_put_ne (by omega)]) h7
theorem pr_word {d e n : Nat} {σ : Sto} {s h : Int} (hI : Inv n σ) (i1 : inR s) (i2 : inR h) : m_X8_word d [zR 0, zI s, zI h] σ (qI fun z σ1 => m_X9_word e [zR 9, zI s, zI h] σ1 (qI fun z' σ2 => zI z' = zI z ∧ Inv (n + 1) σ2)) := by
  obtain ⟨LF, h1⟩ := hI.1
  have hc := h1.1.1
  have e1 := h1.2.2.1.1
  refine (c_X8_word hc i1 i2).mono ?_
  rintro r σ1 ⟨z, rfl, hz⟩
  have hc1 : σ1 9 1 = σ 9 1 := by rcases hz with ⟨-, -, rfl⟩ | ⟨-, ⟨-, -, rfl⟩ | ⟨-, -, rfl⟩⟩ <;> rfl
  refine ⟨z, rfl, (c_X9_word (by omega) i1 i2).mono ?_⟩
  rintro r' σ2 ⟨z', rfl, hz'⟩
  refine ⟨z', rfl, ?_⟩
  rcases hz with ⟨q, rfl, rfl⟩ | ⟨q, ⟨q2, rfl, rfl⟩ | ⟨q2, rfl, rfl⟩⟩
  · rcases hz' with ⟨p, rfl, rfl⟩ | ⟨p, -⟩
    · exact ⟨rfl, hI.up⟩
    · exact absurd p q
  · rcases hz' with ⟨p, -⟩ | ⟨p, ⟨p2, rfl, rfl⟩ | ⟨p2, -⟩⟩
    · exact absurd q p
    · exact ⟨rfl, hI.up⟩
    · exfalso; omega
  · rcases hz' with ⟨p, -⟩ | ⟨p, ⟨p2, -⟩ | ⟨p2, hz2, rfl⟩⟩
    · exact absurd q p
    · exfalso; omega
    · exact ⟨by rw [hz2, hc1, e1], (nw_inv hI q2 (by omega) (by omega) (by decide)).up⟩
/-- class's cells of the one, reference's of the other -/
def mg (σ τ : Sto) : Sto := fun a => if a = 9 ∨ 82 ≤ a then τ a else σ a
theorem mg_c (σ τ : Sto) {a : Nat} (h : ¬ (a = 9 ∨ 82 ≤ a)) : mg σ τ a = σ a := if_neg h
theorem mg_m (σ τ : Sto) {a : Nat} (h : a = 9 ∨ 82 ≤ a) : mg σ τ a = τ a := if_pos h
theorem mg_nw (σ τ : Sto) (s h w : Int) : nwM (nwS (mg σ τ) s h w) s h w = mg (nwS σ s h w) (nwM τ s h w) := by
  funext a
  have e9 : nwS (mg σ τ) s h w 9 1 = τ 9 1 := rfl
  have e1 : mg σ τ 1 1 = σ 1 1 := rfl
  by_cases hm : a = 9 ∨ 82 ≤ a
  · rw [mg_m _ _ hm]
    have en : nwS (mg σ τ) s h w a = τ a := by
      unfold nwS
      repeat rw [z_put_ne (by omega)]
      exact mg_m _ _ hm
    funext b
    unfold nwM
    simp only [z_rd, e9, en]
  · rw [mg_c _ _ hm]
    unfold nwM
    repeat rw [z_put_ne (by omega)]
    funext b
    unfold nwS
    simp only [z_rd, e1, mg_c σ τ hm]
theorem w3_inv {n : Nat} {R R' : Nat → Int} {l : Int} (hl : l ≤ 60) (hR : ∀ j : Nat, j < 60 → R' j = R j) : ∀ (k : Nat) (i c : Int) (σ τ : Sto), 0 ≤ i → Inv n (mg σ τ) → (w3M R' l k i c τ).1 = (w3S R l k i c σ).1 ∧ Inv n (mg (w3S R l k i c σ).2 (w3M R' l k i c τ).2)
  | 0, i, c, σ, τ, h0, hI => ⟨rfl, hI⟩
  | k + 1, i, c, σ, τ, h0, hI => by
    obtain ⟨LF, h1⟩ := hI.1
    have e1 : τ 9 1 = σ 1 1 := h1.2.2.1.1
    have eb : w3B R' i l (τ 9 1) ↔ w3B R i l (σ 1 1) := by
      rw [e1]
      unfold w3B
      rw [decide_eq_true_eq, decide_eq_true_eq]
      by_cases q : i + 2 < l
      · rw [hR i.toNat (by omega), hR (i + 1).toNat (by omega), hR (i + 2).toNat (by omega)]
      · constructor
        · intro v; exfalso; omega
        · intro v; exfalso; omega
    rw [w3M, w3S]
    by_cases q : w3B R i l (σ 1 1)
    · rw [if_pos (eb.mpr q), if_pos q]
      have q' := q
      unfold w3B at q'
      rw [decide_eq_true_eq] at q'
      rw [hR i.toNat (by omega), hR (i + 1).toNat (by omega), hR (i + 2).toNat (by omega)]
      exact w3_inv hl hR k (i + 3) (c + 1) _ _ (by omega) (by rw [← mg_nw]; exact nw_inv hI (show σ 1 1 < 12 by omega) (by omega) (by omega) (by omega))
    · rw [if_neg (fun v => q (eb.mp v)), if_neg q]
      exact ⟨rfl, hI⟩
theorem w3S_o {R : Nat → Int} {l : Int} {a : Nat} (ha : a = 9 ∨ 82 ≤ a) : ∀ (k : Nat) (i c : Int) (σ : Sto), (w3S R l k i c σ).2 a = σ a
  | 0, _, _, _ => rfl
  | k + 1, i, c, σ => by
    rw [w3S]
    split
    · rw [w3S_o ha k]
      unfold nwS
      repeat rw [z_put_ne (by omega)]
    · rfl
theorem w3M_o {R : Nat → Int} {l : Int} {a : Nat} (ha : ¬ (a = 9 ∨ 82 ≤ a)) : ∀ (k : Nat) (i c : Int) (σ : Sto), (w3M R l k i c σ).2 a = σ a
  | 0, _, _, _ => rfl
  | k + 1, i, c, σ => by
    rw [w3M]
    split
    · rw [w3M_o ha k]
      unfold nwM
      repeat rw [z_put_ne (by omega)]
    · rfl
theorem mg_self (σ : Sto) : mg σ σ = σ := by
  funext a
  by_cases h : a = 9 ∨ 82 ≤ a
  · exact mg_m _ _ h
  · exact mg_c _ _ h
theorem mg_w3 {R R' : Nat → Int} {l : Int} (k : Nat) (i c : Int) (σ : Sto) : mg (w3S R l k i c σ).2 (w3M R' l k i c (w3S R l k i c σ).2).2 = (w3M R' l k i c (w3S R l k i c σ).2).2 := by
  funext a
  by_cases h : a = 9 ∨ 82 ≤ a
  · exact mg_m _ _ h
  · rw [mg_c _ _ h, w3M_o h]
theorem mg_w3b {R : Nat → Int} {l : Int} (k : Nat) (i c : Int) (σ : Sto) : mg σ (w3S R l k i c σ).2 = σ := by
  funext a
  by_cases h : a = 9 ∨ 82 ≤ a
  · rw [mg_m _ _ h, w3S_o h]
  · exact mg_c _ _ h
theorem pr_words {d e n : Nat} {σ : Sto} {s fr k : Int} (hI : Inv n σ) (i1 : inR s) (i2 : inR fr) (i3 : inR k) : m_X8_words d [zR 0, zI s, zI fr, zI k] σ (qI fun z σ1 => m_X9_words e [zR 9, zI s, zI fr, zI k] σ1 (qI fun z' σ2 => zI z' = zI z ∧ Inv (n + 1) σ2)) := by
  obtain ⟨LF, h1⟩ := hI.1
  have hc := h1.1.1
  have e1 := h1.2.2.1.1
  have h7 := hI.2.2.2.2.2
  have hSM := hI.sm
  refine (c_X8_words hI.sh hc i1 i2 i3).mono ?_
  rintro r σ1 ⟨z, rfl, hz, hs1⟩
  have fr1 : ∀ a, a = 9 ∨ 82 ≤ a → σ1 a = σ a := fun a ha => by
    rw [hs1]
    unfold wdG
    split
    · rfl
    · split
      · rfl
      · split
        · rfl
        · exact w3S_o ha _ _ _ _
  refine ⟨z, rfl, (c_X9_words (fun t h0 h6 => by rw [fr1 117 (by omega), fr1 118 (by omega), fr1 119 (by omega)]; exact hSM t h0 h6) (by rw [fr1 9 (by omega)]; omega) i1 i2 i3).mono ?_⟩
  rintro r' σ2 ⟨z', rfl, hz', hs2⟩
  refine ⟨z', rfl, ?_⟩
  have e117 : σ1 117 = σ 117 := fr1 117 (by omega)
  have e118 : σ1 118 = σ 118 := fr1 118 (by omega)
  have erw : rwM σ1 s = rwM σ s := by funext j; unfold rwM; rw [fr1 119 (by omega)]
  rw [e117, e118, erw] at hz' hs2
  unfold wdG at hz hs1
  unfold wdM at hz' hs2
  by_cases c1 : decide (0 ≤ s ∧ s < 6) = false ∨ k < 1 ∨ 12 < k
  · rw [if_pos c1] at hz hs1 hz' hs2
    rw [hz, hz', hs2, hs1]
    exact ⟨rfl, hI.up⟩
  · rw [if_neg c1] at hz hs1 hz' hs2
    have hs : 0 ≤ s ∧ s < 6 := by
      by_cases q : 0 ≤ s ∧ s < 6
      · exact q
      · exact absurd (Or.inl (decide_eq_false q)) c1
    have hq := h7.2.2.1 s.toNat (by omega)
    have hlen := (h7.1 s hs.1 hs.2).2.1
    unfold shR at hq
    by_cases c2 : σ 30 s.toNat ≠ 0 ∧ σ 30 s.toNat ≠ -1
    · rw [if_pos c2] at hz hs1
      rw [if_pos (by omega)] at hz' hs2
      rw [hz, hz', hs2, hs1]
      exact ⟨rfl, hI.up⟩
    · rw [if_neg c2] at hz hs1
      rw [if_neg (by omega)] at hz' hs2
      by_cases c3 : σ 30 s.toNat = -1 ∨ fr < 0
      · rw [if_pos c3] at hz hs1
        rw [if_pos (by omega)] at hz' hs2
        rw [hz, hz', hs2, hs1]
        exact ⟨rfl, hI.up⟩
      · rw [if_neg c3] at hz hs1
        rw [if_neg (by omega), (h7.2.1 s.toNat (by omega)).2 (by omega)] at hz' hs2
        have hw := w3_inv (n := n) (R := σ (34 + s.toNat)) (R' := rwM σ s) (l := σ 32 s.toNat) hlen.2 (fun j hj => e_rw h7 hs hj) k.toNat fr 0 σ σ1 (by omega) (by rw [hs1, mg_w3b]; exact hI)
        rw [hs2, hz, hz']
        rw [hs1] at hw ⊢
        refine ⟨by rw [hw.1], ?_⟩
        have := hw.2
        rw [mg_w3] at this
        exact this.up
theorem pr_mesh {d e n : Nat} {σ : Sto} {f : Int} (hI : Inv n σ) (i1 : inR f) : m_X8_mesh d [zR 0, zI f] σ (qI fun z σ1 => m_X9_mesh e [zR 9, zI f] σ1 (qI fun z' σ2 => zI z' = zI z ∧ Inv (n + 1) σ2)) := by
  obtain ⟨⟨LF, h1⟩, h3, h4, h5, h6, h7⟩ := id hI
  have hc := h1.1.2.1
  have e7 := h1.2.2.1.2.1
  refine (c_X8_mesh hc i1).mono ?_
  rintro r σ1 ⟨z, rfl, hz⟩
  have hc1 : σ1 9 7 = σ 9 7 := by rcases hz with ⟨-, -, rfl⟩ | ⟨-, ⟨-, -, rfl⟩ | ⟨-, -, rfl⟩⟩ <;> rfl
  refine ⟨z, rfl, (c_X9_mesh (by omega) i1).mono ?_⟩
  rintro r' σ2 ⟨z', rfl, hz'⟩
  refine ⟨z', rfl, ?_⟩
  rcases hz with ⟨q, rfl, rfl⟩ | ⟨q, ⟨q2, rfl, rfl⟩ | ⟨q2, rfl, rfl⟩⟩
  · rcases hz' with ⟨p, rfl, rfl⟩ | ⟨p, -⟩
    · exact ⟨rfl, hI.up⟩
    · exact absurd p q
  · rcases hz' with ⟨p, -⟩ | ⟨p, ⟨p2, rfl, rfl⟩ | ⟨p2, -⟩⟩
    · exact absurd q p
    · exact ⟨rfl, hI.up⟩
    · exfalso; omega
  · rcases hz' with ⟨p, -⟩ | ⟨p, ⟨p2, -⟩ | ⟨p2, hz2, rfl⟩⟩
    · exact absurd q p
    · exfalso; omega
    · refine ⟨by rw [hz2, hc1, e7], Inv.up ?_⟩
      clear hz2 hc1 p2
      have hf : 0 ≤ f ∧ f ≤ 9 := by omega
      obtain ⟨⟨a1, a2, a3, a4, a5, a6, a7, a8, a9, a10, a11, a12⟩, ⟨b1, b2, b3, b4, b5, b6, b7, b8, b9, b10, b11, b12, b13⟩, ⟨e1, e7, e11, e13⟩, ⟨f2, f3, f4, f5, f6, f7, f0⟩, g, k⟩ := h1
      obtain ⟨⟨d1, d2, d3⟩, d4, d5, d6, d7⟩ := h5
      have z74 := (d4 (σ 9 7).toNat).2 (by omega)
      refine ⟨⟨LF, ?_⟩, ?_, h4, ?_, h6, ?_⟩
      · refine ⟨⟨a1, ?_, a3, a4, a5, a6, a7, a8, pu_R a9 hf, a10, a11, a12⟩, ⟨b1, ?_, b3, b4, b5, b6, b7, b8, pu_R b9 hf, b10, b11, b12, fun q => ?_⟩, ⟨e1, ?_, e11, e13⟩, ⟨f2, f3, f4, f5, f6, ?_, f0⟩, g, k⟩
        · show 0 ≤ σ 1 2 + 1 ∧ σ 1 2 + 1 ≤ 5; omega
        · show 0 ≤ σ 9 7 + 1 ∧ σ 9 7 + 1 ≤ 5; omega
        · obtain ⟨ls, F, q1, q2, q3, q4⟩ := b13 q
          exact ⟨ls, F, q1, Seg.row (σ := σ) rfl q2, Seg.row (σ := σ) rfl q3, q4⟩
        · show σ 9 7 + 1 = σ 1 2 + 1; omega
        · show pu (σ 87) (σ 9 7).toNat f = pu (σ 18) (σ 1 2).toNat f; rw [e7, f7]
      · exact I3.up (σ := σ) (Int.le_refl _) (show σ 1 2 ≤ σ 1 2 + 1 by omega) (Int.le_refl _) (fun a ha => by unfold nmM; repeat rw [z_put_ne (by omega)]) ⟨rfl, rfl⟩ h3
      · refine ⟨⟨?_, ?_, d3⟩, fun j => ⟨(d4 j).1, fun (hj : σ 1 2 + 1 ≤ j) => (d4 j).2 (by omega)⟩, d5, ⟨d6.1, show σ 9 50 ≤ σ 1 2 + 1 by omega⟩, d7⟩
        · show pu (σ 88) (σ 9 7).toNat 0 = σ 74; rw [d1]; exact pu_0 z74.1
        · show pu (σ 89) (σ 9 7).toNat 0 = σ 75; rw [d2]; exact pu_0 z74.2
      · exact I7.cong (σ := σ) (Int.le_refl (σ 8 2)) (fun a ha => by unfold nmM; repeat rw [z_put_ne (by omega)]) h7
theorem pr_person {d e n : Nat} {σ : Sto} {f : Int} (hI : Inv n σ) (i1 : inR f) : m_X8_person d [zR 0, zI f] σ (qI fun z σ1 => m_X9_person e [zR 9, zI f] σ1 (qI fun z' σ2 => zI z' = zI z ∧ Inv (n + 1) σ2)) := by
  obtain ⟨⟨LF, h1⟩, h3, h4, h5, h6, h7⟩ := id hI
  have hc := h1.1.2.2.1
  have e11 := h1.2.2.1.2.2.1
  refine (c_X8_person hc i1).mono ?_
  rintro r σ1 ⟨z, rfl, hz⟩
  have hc1 : σ1 9 11 = σ 9 11 := by rcases hz with ⟨-, -, rfl⟩ | ⟨-, ⟨-, -, rfl⟩ | ⟨-, -, rfl⟩⟩ <;> rfl
  refine ⟨z, rfl, (c_X9_person (by omega) i1).mono ?_⟩
  rintro r' σ2 ⟨z', rfl, hz'⟩
  refine ⟨z', rfl, ?_⟩
  rcases hz with ⟨q, rfl, rfl⟩ | ⟨q, ⟨q2, rfl, rfl⟩ | ⟨q2, rfl, rfl⟩⟩
  · rcases hz' with ⟨p, rfl, rfl⟩ | ⟨p, -⟩
    · exact ⟨rfl, hI.up⟩
    · exact absurd p q
  · rcases hz' with ⟨p, -⟩ | ⟨p, ⟨p2, rfl, rfl⟩ | ⟨p2, -⟩⟩
    · exact absurd q p
    · exact ⟨rfl, hI.up⟩
    · exfalso; omega
  · rcases hz' with ⟨p, -⟩ | ⟨p, ⟨p2, -⟩ | ⟨p2, hz2, rfl⟩⟩
    · exact absurd q p
    · exfalso; omega
    · refine ⟨by rw [hz2, hc1, e11], Inv.up ?_⟩
      clear hz2 hc1 p2
      have hf : 0 ≤ f ∧ f ≤ 9 := by omega
      obtain ⟨⟨a1, a2, a3, a4, a5, a6, a7, a8, a9, a10, a11, a12⟩, ⟨b1, b2, b3, b4, b5, b6, b7, b8, b9, b10, b11, b12, b13⟩, ⟨e1, e7, e11, e13⟩, ⟨f2, f3, f4, f5, f6, f7, f0⟩, g, k⟩ := h1
      refine ⟨⟨LF, ?_⟩, ?_, h4, h5, h6, ?_⟩
      · refine ⟨⟨a1, a2, ?_, a4, a5, a6, a7, a8, a9, pu_R a10 hf, a11, a12⟩, ⟨b1, b2, ?_, b4, b5, b6, b7, b8, b9, pu_R b10 hf, b11, b12, fun q => ?_⟩, ⟨e1, e7, ?_, e13⟩, ⟨f2, f3, f4, f5, f6, f7, ?_⟩, g, k⟩
        · show 0 ≤ σ 1 3 + 1 ∧ σ 1 3 + 1 ≤ 6; omega
        · show 0 ≤ σ 9 11 + 1 ∧ σ 9 11 + 1 ≤ 6; omega
        · obtain ⟨ls, F, q1, q2, q3, q4⟩ := b13 q
          exact ⟨ls, F, q1, Seg.row (σ := σ) rfl q2, Seg.row (σ := σ) rfl q3, q4⟩
        · show σ 9 11 + 1 = σ 1 3 + 1; omega
        · show pu (σ 90) (σ 9 11).toNat f = pu (σ 19) (σ 1 3).toNat f; rw [e11, f0]
      · exact I3.up (σ := σ) (Int.le_refl _) (Int.le_refl _) (show σ 1 3 ≤ σ 1 3 + 1 by omega) (fun a ha => by unfold npM; repeat rw [z_put_ne (by omega)]) ⟨rfl, rfl⟩ h3
      · exact I7.cong (σ := σ) (Int.le_refl (σ 8 2)) (fun a ha => by unfold npM; repeat rw [z_put_ne (by omega)]) h7
