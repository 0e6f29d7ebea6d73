/-! ===== mend, undo, redo: class against reference ===== -/
def sh1 (f : Nat → Int) : Nat → Int := fun b => if (b : Int) + 1 < 40 then f (b + 1) else f b
theorem shf_at {S : Sto} {a : Nat} (ha : 21 ≤ a ∧ a ≤ 24) : shf S 40 a = sh1 (S a) := by
  funext b
  unfold shf sh1
  by_cases q : (b : Int) + 1 < 40
  · rw [if_pos ⟨ha, q⟩, if_pos q]
  · rw [if_neg (fun v => q v.2), if_neg q]
theorem shf_o {S : Sto} {a : Nat} (ha : ¬ (21 ≤ a ∧ a ≤ 24)) : shf S 40 a = S a := by
  funext b
  unfold shf
  rw [if_neg (fun v => ha v.1)]
theorem shm_at {S : Sto} {a : Nat} (ha : 91 ≤ a ∧ a ≤ 94) : shm S 40 a = sh1 (S a) := by
  funext b
  unfold shm sh1
  by_cases q : (b : Int) + 1 < 40
  · rw [if_pos ⟨ha, q⟩, if_pos q]
  · rw [if_neg (fun v => q v.2), if_neg q]
theorem shm_o {S : Sto} {a : Nat} (ha : ¬ (91 ≤ a ∧ a ≤ 94)) : shm S 40 a = S a := by
  funext b
  unfold shm
  rw [if_neg (fun v => ha v.1)]
theorem ntK_o {S : Sto} {n w b c : Int} {a : Nat} (ha : a ≠ 2 ∧ ¬ (21 ≤ a ∧ a ≤ 24)) : ntK S n w b c a = S a := by
  unfold ntK
  split
  · unfold noteT
    repeat rw [z_put_ne (by omega)]
  · unfold noteT
    repeat rw [z_put_ne (by omega)]
    rw [shf_o ha.2, z_put_ne ha.1]
theorem ntK_1 {S : Sto} {n w b c : Int} (h : S 2 4 < 40) : (ntK S n w b c 21 = pu (S 21) (S 2 4).toNat n ∧ ntK S n w b c 22 = pu (S 22) (S 2 4).toNat w ∧ ntK S n w b c 23 = pu (S 23) (S 2 4).toNat b ∧ ntK S n w b c 24 = pu (S 24) (S 2 4).toNat c) ∧ ntK S n w b c 2 4 = S 2 4 + 1 ∧ ntK S n w b c 2 5 = 0 := by
  unfold ntK
  rw [if_pos h]
  exact ⟨⟨rfl, rfl, rfl, rfl⟩, rfl, rfl⟩
theorem ntK_2 {S : Sto} {n w b c : Int} (h : ¬ S 2 4 < 40) : (ntK S n w b c 21 = pu (sh1 (S 21)) 39 n ∧ ntK S n w b c 22 = pu (sh1 (S 22)) 39 w ∧ ntK S n w b c 23 = pu (sh1 (S 23)) 39 b ∧ ntK S n w b c 24 = pu (sh1 (S 24)) 39 c) ∧ ntK S n w b c 2 4 = 40 ∧ ntK S n w b c 2 5 = 0 := by
  unfold ntK
  rw [if_neg h]
  refine ⟨⟨?_, ?_, ?_, ?_⟩, rfl, ?_⟩
  · show pu (shf (z_put S 2 5 0) 40 21) 39 n = _; rw [shf_at (by decide)]; rfl
  · show pu (shf (z_put S 2 5 0) 40 22) 39 w = _; rw [shf_at (by decide)]; rfl
  · show pu (shf (z_put S 2 5 0) 40 23) 39 b = _; rw [shf_at (by decide)]; rfl
  · show pu (shf (z_put S 2 5 0) 40 24) 39 c = _; rw [shf_at (by decide)]; rfl
  · show shf (z_put S 2 5 0) 40 2 5 = _; rw [shf_o (by decide)]; rfl
theorem ntM_e {S : Sto} {w n b c : Int} : ∃ Y, ntM S w n b c = lyM Y w n c ∧ (∀ a, a ≠ 9 → ¬ (91 ≤ a ∧ a ≤ 94) → Y a = S a) ∧ (∀ j, j ≠ 14 → j ≠ 15 → Y 9 j = S 9 j) ∧ Y 9 15 = 0 ∧ ((S 9 14 < 40 ∧ (Y 91 = pu (S 91) (S 9 14).toNat w ∧ Y 92 = pu (S 92) (S 9 14).toNat n ∧ Y 93 = pu (S 93) (S 9 14).toNat b ∧ Y 94 = pu (S 94) (S 9 14).toNat c) ∧ Y 9 14 = S 9 14 + 1) ∨ (¬ S 9 14 < 40 ∧ (Y 91 = pu (sh1 (S 91)) 39 w ∧ Y 92 = pu (sh1 (S 92)) 39 n ∧ Y 93 = pu (sh1 (S 93)) 39 b ∧ Y 94 = pu (sh1 (S 94)) 39 c) ∧ Y 9 14 = 40)) := by
  unfold ntM
  by_cases h : S 9 14 < 40
  · rw [if_pos h]
    unfold noteM
    refine ⟨_, rfl, fun a h1 h2 => ?_, fun j h1 h2 => ?_, rfl, Or.inl ⟨h, ⟨rfl, rfl, rfl, rfl⟩, rfl⟩⟩
    · repeat rw [z_put_ne (by omega)]
    · show (if j = 14 then S 9 14 + 1 else if j = 15 then 0 else S 9 j) = S 9 j
      rw [if_neg h1, if_neg h2]
  · rw [if_neg h]
    unfold noteM
    refine ⟨_, rfl, fun a h1 h2 => ?_, fun j h1 h2 => ?_, ?_, Or.inr ⟨h, ⟨?_, ?_, ?_, ?_⟩, rfl⟩⟩
    · repeat rw [z_put_ne (by omega)]
      rw [shm_o h2, z_put_ne h1]
    · show (if j = 14 then 39 + 1 else if j = 14 then 39 else shm (z_put S 9 15 0) 40 9 j) = S 9 j
      rw [if_neg h1, if_neg h1, shm_o (by decide), z_rd, if_pos rfl, if_neg h2]
    · show shm (z_put S 9 15 0) 40 9 15 = _; rw [shm_o (by decide)]; rfl
    · show pu (shm (z_put S 9 15 0) 40 91) 39 w = _; rw [shm_at (by decide)]; rfl
    · show pu (shm (z_put S 9 15 0) 40 92) 39 n = _; rw [shm_at (by decide)]; rfl
    · show pu (shm (z_put S 9 15 0) 40 93) 39 b = _; rw [shm_at (by decide)]; rfl
    · show pu (shm (z_put S 9 15 0) 40 94) 39 c = _; rw [shm_at (by decide)]; rfl
/-- changes in rows, by the rows -/
def cgP (σ : Sto) (N W B A : Nat → Int) (t : Int) : Prop := ∀ j : Nat, (j : Int) < t → ((0 ≤ W j ∧ W j < 8) ∧ (0 ≤ N j ∧ N j < 12) ∧ ∃ b, bearR σ (W j) b ∧ N j < b) ∧ allowR (W j) (B j) ∧ allowR (W j) (A j)
theorem cgP_pu {σ : Sto} {N W B A : Nat → Int} {t k n w b c : Int} (h : cgP σ N W B A t) (hk : 0 ≤ k ∧ k ≤ t) (hw : 0 ≤ w ∧ w < 8) (hn : 0 ≤ n ∧ n < 12) (he : ∃ b, bearR σ w b ∧ n < b) (hb : allowR w b) (hc : allowR w c) : cgP σ (pu N k.toNat n) (pu W k.toNat w) (pu B k.toNat b) (pu A k.toNat c) (k + 1) := fun j hj => by
  unfold pu
  by_cases q : j = k.toNat
  · rw [if_pos q, if_pos q, if_pos q, if_pos q]
    exact ⟨⟨hw, hn, he⟩, hb, hc⟩
  · rw [if_neg q, if_neg q, if_neg q, if_neg q]
    exact h j (by omega)
theorem cgP_sh {σ : Sto} {N W B A : Nat → Int} (h : cgP σ N W B A 40) : cgP σ (sh1 N) (sh1 W) (sh1 B) (sh1 A) 39 := fun j hj => by
  unfold sh1
  rw [if_pos (by omega), if_pos (by omega), if_pos (by omega), if_pos (by omega)]
  exact h (j + 1) (by omega)
theorem cgP.bear {σ τ : Sto} {N W B A : Nat → Int} {t : Int} (h : cgP σ N W B A t) (h1 : τ 1 = σ 1) : cgP τ N W B A t := fun j hj => by
  have := h j hj
  unfold bearR at this ⊢
  rw [h1]
  exact this
theorem nt_inv {n : Nat} {σ : Sto} {x w v z : Int} (hI : Inv n σ) (hh : hasR σ x w) (hv : allowR w v) (hz : z = σ (13 + w.toNat) x.toNat) : Inv n (ntM (ntK (z_put σ (13 + w.toNat) x.toNat v) x w z v) w x z v) := by
  obtain ⟨⟨LF, h1⟩, h3, h4, h5, h6, h7⟩ := hI
  obtain ⟨hw, hx, hw7, hw4⟩ := has_R h1 hh
  have hzo : allowR w z := by rw [hz]; exact allow_old h1 hw hw7
  have hB := set_I1 h1 hh hv
  obtain ⟨Y, eY, y1, y2, y3, y4⟩ := ntM_e (S := ntK (z_put σ (13 + w.toNat) x.toNat v) x w z v) (w := w) (n := x) (b := z) (c := v)
  rw [eY]
  have s1 : ∀ a, a ≠ 2 → ¬ (21 ≤ a ∧ a ≤ 24) → ntK (z_put σ (13 + w.toNat) x.toNat v) x w z v a = z_put σ (13 + w.toNat) x.toNat v a := fun a p q => ntK_o ⟨p, q⟩
  have s2 : ∀ a, ¬ (13 ≤ a ∧ a ≤ 20) → z_put σ (13 + w.toNat) x.toNat v a = σ a := fun a p => z_put_ne (by omega)
  have t9 : ∀ j, ntK (z_put σ (13 + w.toNat) x.toNat v) x w z v 9 j = σ 9 j := fun j => by rw [s1 9 (by decide) (by decide), s2 9 (by decide)]
  have tm : ∀ a, 91 ≤ a ∧ a ≤ 94 → ntK (z_put σ (13 + w.toNat) x.toNat v) x w z v a = σ a := fun a ha => by rw [s1 a (by omega) (by omega), s2 a (by omega)]
  obtain ⟨⟨g14, g15⟩, ⟨g0, g1, g2⟩, ⟨g91, g92, g93, g94⟩, gO⟩ := h3
  have gP : cgP σ (σ 21) (σ 22) (σ 23) (σ 24) (σ 2 4 + σ 2 5) := gO
  obtain ⟨q1, q2, q3, b, hb, q4⟩ := id hh
  refine ⟨⟨LF, I1.cg (fun a ha => ?_) (fun j hj => ?_) hB⟩, ?_, rest_cg (σ := σ) (fun a ha => ?_) (fun j hj => ?_) ⟨h4, h5, h6, h7⟩⟩
  · exact lyM_cg (by rw [y1 a (by omega) (by omega), s1 a (by omega) (by omega)])
  · refine lyM_cg9 ?_ hw
    rw [y2 j (by omega) (by omega), t9, s2 9 (by decide)]
  · have e22 : lyM Y w x v 22 = ntK (z_put σ (13 + w.toNat) x.toNat v) x w z v 22 := by rw [lyM_o hw (by decide) (by decide), y1 22 (by decide) (by decide)]
    have e21 : lyM Y w x v 21 = ntK (z_put σ (13 + w.toNat) x.toNat v) x w z v 21 := by rw [lyM_o hw (by decide) (by decide), y1 21 (by decide) (by decide)]
    have e23 : lyM Y w x v 23 = ntK (z_put σ (13 + w.toNat) x.toNat v) x w z v 23 := by rw [lyM_o hw (by decide) (by decide), y1 23 (by decide) (by decide)]
    have e24 : lyM Y w x v 24 = ntK (z_put σ (13 + w.toNat) x.toNat v) x w z v 24 := by rw [lyM_o hw (by decide) (by decide), y1 24 (by decide) (by decide)]
    have e2 : lyM Y w x v 2 = ntK (z_put σ (13 + w.toNat) x.toNat v) x w z v 2 := by rw [lyM_o hw (by decide) (by decide), y1 2 (by decide) (by decide)]
    have e1 : lyM Y w x v 1 = σ 1 := by rw [lyM_o hw (by decide) (by decide), y1 1 (by decide) (by decide), s1 1 (by decide) (by decide), s2 1 (by decide)]
    have m91 : lyM Y w x v 91 = Y 91 := lyM_o hw (by decide) (by decide)
    have m92 : lyM Y w x v 92 = Y 92 := lyM_o hw (by decide) (by decide)
    have m93 : lyM Y w x v 93 = Y 93 := lyM_o hw (by decide) (by decide)
    have m94 : lyM Y w x v 94 = Y 94 := lyM_o hw (by decide) (by decide)
    have m14 : lyM Y w x v 9 14 = Y 9 14 := lyM_9 hw (by decide)
    have m15 : lyM Y w x v 9 15 = 0 := by rw [lyM_9 hw (by decide), y3]
    have p24 : z_put σ (13 + w.toNat) x.toNat v 2 4 = σ 2 4 := by rw [s2 2 (by decide)]
    have p21 : z_put σ (13 + w.toNat) x.toNat v 21 = σ 21 := s2 21 (by decide)
    have p22 : z_put σ (13 + w.toNat) x.toNat v 22 = σ 22 := s2 22 (by decide)
    have p23 : z_put σ (13 + w.toNat) x.toNat v 23 = σ 23 := s2 23 (by decide)
    have p2d : z_put σ (13 + w.toNat) x.toNat v 24 = σ 24 := s2 24 (by decide)
    rw [t9, tm 91 (by decide), tm 92 (by decide), tm 93 (by decide), tm 94 (by decide), g14, g91, g92, g93, g94] at y4
    by_cases c : σ 2 4 < 40
    · obtain ⟨⟨k21, k22, k23, k24⟩, k4, k5⟩ := ntK_1 (S := z_put σ (13 + w.toNat) x.toNat v) (n := x) (w := w) (b := z) (c := v) (by rw [p24]; exact c)
      rw [p24, p21] at k21
      rw [p24, p22] at k22
      rw [p24, p23] at k23
      rw [p24, p2d] at k24
      rw [p24] at k4
      obtain ⟨-, ⟨l1, l2, l3, l4⟩, l5⟩ : σ 2 4 < 40 ∧ (Y 91 = pu (σ 22) (σ 2 4).toNat w ∧ Y 92 = pu (σ 21) (σ 2 4).toNat x ∧ Y 93 = pu (σ 23) (σ 2 4).toNat z ∧ Y 94 = pu (σ 24) (σ 2 4).toNat v) ∧ Y 9 14 = σ 2 4 + 1 := by
        rcases y4 with y | y
        · exact y
        · exact absurd c y.1
      refine ⟨⟨?_, ?_⟩, ?_, ⟨?_, ?_, ?_, ?_⟩, ?_⟩
      · rw [m14, l5, e2, k4]
      · rw [m15, e2, k5]
      · rw [e2, k4, k5]; omega
      · rw [m91, l1, e22, k22]
      · rw [m92, l2, e21, k21]
      · rw [m93, l3, e23, k23]
      · rw [m94, l4, e24, k24]
      · show cgP (lyM Y w x v) (lyM Y w x v 21) (lyM Y w x v 22) (lyM Y w x v 23) (lyM Y w x v 24) (lyM Y w x v 2 4 + lyM Y w x v 2 5)
        rw [e2, k4, k5, e21, e22, e23, e24, k21, k22, k23, k24, Int.add_zero]
        exact (cgP_pu gP (by omega) hw hx ⟨b, hb, q4⟩ hzo hv).bear e1
    · obtain ⟨⟨k21, k22, k23, k24⟩, k4, k5⟩ := ntK_2 (S := z_put σ (13 + w.toNat) x.toNat v) (n := x) (w := w) (b := z) (c := v) (by rw [p24]; exact c)
      rw [p21] at k21
      rw [p22] at k22
      rw [p23] at k23
      rw [p2d] at k24
      obtain ⟨-, ⟨l1, l2, l3, l4⟩, l5⟩ : ¬ σ 2 4 < 40 ∧ (Y 91 = pu (sh1 (σ 22)) 39 w ∧ Y 92 = pu (sh1 (σ 21)) 39 x ∧ Y 93 = pu (sh1 (σ 23)) 39 z ∧ Y 94 = pu (sh1 (σ 24)) 39 v) ∧ Y 9 14 = 40 := by
        rcases y4 with y | y
        · exact absurd y.1 c
        · exact y
      have e40 : σ 2 4 + σ 2 5 = 40 := by omega
      rw [e40] at gP
      refine ⟨⟨?_, ?_⟩, ?_, ⟨?_, ?_, ?_, ?_⟩, ?_⟩
      · rw [m14, l5, e2, k4]
      · rw [m15, e2, k5]
      · rw [e2, k4, k5]; decide
      · rw [m91, l1, e22, k22]
      · rw [m92, l2, e21, k21]
      · rw [m93, l3, e23, k23]
      · rw [m94, l4, e24, k24]
      · show cgP (lyM Y w x v) (lyM Y w x v 21) (lyM Y w x v 22) (lyM Y w x v 23) (lyM Y w x v 24) (lyM Y w x v 2 4 + lyM Y w x v 2 5)
        rw [e2, k4, k5, e21, e22, e23, e24, k21, k22, k23, k24]
        exact (cgP_pu (k := 39) (cgP_sh gP) (by decide) hw hx ⟨b, hb, q4⟩ hzo hv).bear e1
  · rw [lyM_o hw (by omega) (by omega), y1 a (by omega) (by omega), s1 a (by omega) (by omega), s2 a (by omega)]
  · rw [lyM_9 hw (by omega), y2 j (by omega) (by omega), t9]
theorem pr_mend {d e n : Nat} {σ : Sto} {x w v : Int} (hI : Inv n σ) (hok : z_ok σ) (i1 : inR x) (i2 : inR w) (i3 : inR v) : m_X8_mend d [zR 0, zI x, zI w, zI v] σ (qI fun z σ1 => m_X9_mend e [zR 9, zI x, zI w, zI v] σ1 (qI fun z' σ2 => zI z' = zI z ∧ Inv (n + 1) σ2)) := by
  obtain ⟨LF, h1⟩ := hI.1
  obtain ⟨c1, c2, c3, -⟩ := h1.1
  obtain ⟨e1, e7, e11, e13⟩ := h1.2.2.1
  have h3 := hI.2.1
  obtain ⟨⟨g14, g15⟩, ⟨g0, g1, g2⟩, -⟩ := h3
  refine (c_X8_mend ⟨c1, c2, c3⟩ (by omega) i1 i2 i3 (ok_13 hok)).mono ?_
  rintro r σ1 ⟨z, rfl, hz⟩
  have fr1 : ∀ a, a = 9 ∨ 82 ≤ a → σ1 a = σ a := fun a ha => by
    rcases hz with ⟨-, -, rfl⟩ | ⟨q, -, ⟨-, rfl⟩ | ⟨-, rfl⟩⟩
    · rfl
    · rfl
    · have := (has_R h1 q.1).1
      rw [ntK_o ⟨by omega, by omega⟩, z_put_ne (by omega)]
  have f9 := fr1 9 (by omega)
  refine ⟨z, rfl, (c_X9_mend (σ := σ1) (by rw [f9]; exact ⟨by omega, by omega, by omega⟩) (by rw [f9]; omega) i1 i2 i3 (fun k j p1 p2 => by rw [fr1 k (by omega)]; exact ok_82 hok k j p1 p2) (by rw [f9]; exact hok 9 13 (Nat.le_of_ble_eq_true rfl))).mono ?_⟩
  rintro r' σ2 ⟨z', rfl, hz'⟩
  refine ⟨z', rfl, ?_⟩
  have hb : bearM σ1 w = bearM σ w := by unfold bearM; rw [f9]
  have hh : hasM σ1 x w ↔ hasR σ x w := by
    rw [← has_eq h1]
    unfold hasM
    rw [hb]
  rw [hh] at hz'
  rcases hz with ⟨q, rfl, rfl⟩ | ⟨q, hzz, hs⟩
  · rcases hz' with ⟨-, rfl, rfl⟩ | ⟨p, -⟩
    · exact ⟨rfl, hI.up⟩
    · exact absurd p q
  · rcases hz' with ⟨p, -⟩ | ⟨p, hz2, hs2⟩
    · exact absurd q p
    · obtain ⟨hw, hx, hw7, hw4⟩ := has_R h1 q.1
      have hva : vaM σ1 w x = vaM σ w x := by
        unfold vaM
        have hcR := fun h => cel_R hw h
        split
        · rw [f9]
        · rename_i h; have := hcR h; rw [fr1 _ (by omega)]
      rw [hva, va_eq h1 hw hw7, ← hzz] at hz2
      subst hz2
      refine ⟨rfl, Inv.up ?_⟩
      rcases hs with ⟨p1, rfl⟩ | ⟨p1, rfl⟩
      · rcases hs2 with ⟨p2, rfl⟩ | ⟨p2, -⟩
        · exact hI
        · exact absurd p1 p2
      · rcases hs2 with ⟨p2, -⟩ | ⟨p2, rfl⟩
        · exact absurd p2 p1
        · exact nt_inv hI q.1 q.2 hzz
/-- a thing set back or on again: no change is noted, the two counts turn -/
theorem ur_inv {n : Nat} {σ τ : Sto} {x w v : Int} {Y : Sto} (hI : Inv n σ) (hh : hasR σ x w) (hv : allowR w v) (e : τ = lyM Y w x v) (y1 : ∀ a, a ≠ 2 → a ≠ 9 → Y a = z_put σ (13 + w.toNat) x.toNat v a) (y9 : ∀ j, j ≠ 14 → j ≠ 15 → Y 9 j = σ 9 j) (c4 : Y 9 14 = Y 2 4) (c5 : Y 9 15 = Y 2 5) (c0 : 0 ≤ Y 2 4 ∧ 0 ≤ Y 2 5) (cs : Y 2 4 + Y 2 5 = σ 2 4 + σ 2 5) : Inv n τ := by
  subst e
  obtain ⟨⟨LF, h1⟩, h3, h4, h5, h6, h7⟩ := hI
  obtain ⟨hw, hx, hw7, hw4⟩ := has_R h1 hh
  have hB := set_I1 h1 hh hv
  have s2 : ∀ a, ¬ (13 ≤ a ∧ a ≤ 20) → z_put σ (13 + w.toNat) x.toNat v a = σ a := fun a p => z_put_ne (by omega)
  obtain ⟨⟨g14, g15⟩, ⟨g0, g1, g2⟩, ⟨g91, g92, g93, g94⟩, gO⟩ := h3
  have gP : cgP σ (σ 21) (σ 22) (σ 23) (σ 24) (σ 2 4 + σ 2 5) := gO
  have o : ∀ a, a ≠ 2 → a ≠ 9 → ¬ (13 ≤ a ∧ a ≤ 20) → ¬ ((82 ≤ a ∧ a ≤ 87) ∨ a = 90) → lyM Y w x v a = σ a := fun a p1 p2 p3 p4 => by rw [lyM_o hw p2 p4, y1 a p1 p2, s2 a p3]
  have e2 : lyM Y w x v 2 = Y 2 := lyM_o hw (by decide) (by decide)
  refine ⟨⟨LF, I1.cg (fun a ha => ?_) (fun j hj => ?_) hB⟩, ?_, rest_cg (σ := σ) (fun a ha => o a (by omega) (by omega) (by omega) (by omega)) (fun j hj => ?_) ⟨h4, h5, h6, h7⟩⟩
  · exact lyM_cg (y1 a (by omega) (by omega))
  · refine lyM_cg9 ?_ hw
    rw [y9 j (by omega) (by omega), s2 9 (by decide)]
  · refine ⟨⟨?_, ?_⟩, ?_, ⟨?_, ?_, ?_, ?_⟩, ?_⟩
    · rw [lyM_9 hw (by decide), e2, c4]
    · rw [lyM_9 hw (by decide), e2, c5]
    · rw [e2]; omega
    · rw [o 91 (by decide) (by decide) (by decide) (by decide), o 22 (by decide) (by decide) (by decide) (by decide), g91]
    · rw [o 92 (by decide) (by decide) (by decide) (by decide), o 21 (by decide) (by decide) (by decide) (by decide), g92]
    · rw [o 93 (by decide) (by decide) (by decide) (by decide), o 23 (by decide) (by decide) (by decide) (by decide), g93]
    · rw [o 94 (by decide) (by decide) (by decide) (by decide), o 24 (by decide) (by decide) (by decide) (by decide), g94]
    · show cgP (lyM Y w x v) (lyM Y w x v 21) (lyM Y w x v 22) (lyM Y w x v 23) (lyM Y w x v 24) (lyM Y w x v 2 4 + lyM Y w x v 2 5)
      rw [o 21 (by decide) (by decide) (by decide) (by decide), o 22 (by decide) (by decide) (by decide) (by decide), o 23 (by decide) (by decide) (by decide) (by decide), o 24 (by decide) (by decide) (by decide) (by decide), e2, cs]
      exact gP.bear (o 1 (by decide) (by decide) (by decide) (by decide))
  · rw [lyM_9 hw (by omega), y9 j (by omega) (by omega)]
theorem ch_M {LF : LFT} {σ : Sto} (h1 : I1 LF σ) (h3 : I3 σ) {j : Nat} (hj : (j : Int) < σ 2 4 + σ 2 5) : chM σ j ∧ hasR σ (σ 21 j) (σ 22 j) ∧ allowR (σ 22 j) (σ 23 j) ∧ allowR (σ 22 j) (σ 24 j) := by
  obtain ⟨-, -, ⟨g91, g92, g93, g94⟩, gO⟩ := h3
  obtain ⟨⟨a1, a2, b, a3, a4⟩, a5, a6⟩ := gO j hj
  have c1 := h1.1.1
  have c2 := h1.1.2.1
  have c3 := h1.1.2.2.1
  refine ⟨?_, ⟨a1.1, a1.2, a2.1, b, a3, a4⟩, a5, a6⟩
  unfold chM
  rw [g91, g92]
  refine ⟨a1, a2.1, ?_⟩
  rcases a3 with p | p | p | p <;> omega
theorem pr_undo {d e n : Nat} {σ : Sto} (hI : Inv n σ) (hok : z_ok σ) : m_X8_undo d [zR 0] σ (qI fun z σ1 => m_X9_undo e [zR 9] σ1 (qI fun z' σ2 => zI z' = zI z ∧ Inv (n + 1) σ2)) := by
  obtain ⟨LF, h1⟩ := hI.1
  have h3 := hI.2.1
  obtain ⟨⟨g14, g15⟩, ⟨g0, g1, g2⟩, ⟨g91, g92, g93, g94⟩, gO⟩ := id h3
  refine (c_X8_undo ⟨g0, by omega⟩ ⟨g1, by omega⟩ (fun q => (gO (σ 2 4 - 1).toNat (by omega)).1)).mono ?_
  rintro r σ1 ⟨z, rfl, hz⟩
  have fr1 : ∀ a, a = 9 ∨ 82 ≤ a → σ1 a = σ a := fun a ha => by
    rcases hz with ⟨-, -, rfl⟩ | ⟨q, -, rfl⟩
    · rfl
    · have := (gO (σ 2 4 - 1).toNat (by omega)).1.1
      repeat rw [z_put_ne (by omega)]
  have f9 := fr1 9 (by omega)
  have f91 := fr1 91 (by omega)
  have f92 := fr1 92 (by omega)
  have f93 := fr1 93 (by omega)
  refine ⟨z, rfl, (c_X9_undo (σ := σ1) (by rw [f9]; omega) (by rw [f9]; omega) (fun q => by rw [f9, g14] at q ⊢; unfold chM; rw [f91, f92]; exact (ch_M h1 h3 (by omega)).1) (fun j => by rw [f93]; exact hok 93 j (Nat.le_of_ble_eq_true rfl))).mono ?_⟩
  rintro r' σ2 ⟨z', rfl, hz'⟩
  refine ⟨z', rfl, ?_⟩
  rw [f9, f91, f92, f93, g14, g15, g91, g92, g93] at hz'
  rcases hz with ⟨q, rfl, rfl⟩ | ⟨q, rfl, hs⟩
  · rcases hz' with ⟨-, rfl, rfl⟩ | ⟨p, -⟩
    · exact ⟨rfl, hI.up⟩
    · exfalso; omega
  · rcases hz' with ⟨p, -⟩ | ⟨p, rfl, hs2⟩
    · exfalso; omega
    · refine ⟨rfl, Inv.up ?_⟩
      obtain ⟨-, k1, k2, k3⟩ := ch_M h1 h3 (j := (σ 2 4 - 1).toNat) (by omega)
      have hw := (has_R h1 k1).1
      refine ur_inv hI k1 k2 hs2 (fun a p1 p2 => ?_) (fun j p1 p2 => ?_) ?_ ?_ ?_ ?_
      · rw [z_put_ne p2, z_put_ne p2, hs]
        funext b
        simp only [z_rd, if_neg p1]
      · rw [z_rd, if_pos rfl, if_neg p2, z_rd, if_pos rfl, if_neg p1, f9]
      · rw [z_rd, if_pos rfl, if_neg (by decide), z_rd, if_pos rfl, if_pos rfl, z_put_ne (by decide), z_put_ne (by decide), hs, z_put_ne (by omega)]; rfl
      · rw [z_rd, if_pos rfl, if_pos rfl, z_put_ne (by decide), z_put_ne (by decide), hs, z_put_ne (by omega)]; rfl
      · rw [z_put_ne (by decide), z_put_ne (by decide), hs, z_put_ne (by omega)]
        show 0 ≤ σ 2 4 - 1 ∧ 0 ≤ σ 2 5 + 1
        omega
      · rw [z_put_ne (by decide), z_put_ne (by decide), hs, z_put_ne (by omega)]
        show σ 2 4 - 1 + (σ 2 5 + 1) = _
        omega
theorem pr_redo {d e n : Nat} {σ : Sto} (hI : Inv n σ) (hok : z_ok σ) : m_X8_redo d [zR 0] σ (qI fun z σ1 => m_X9_redo e [zR 9] σ1 (qI fun z' σ2 => zI z' = zI z ∧ Inv (n + 1) σ2)) := by
  obtain ⟨LF, h1⟩ := hI.1
  have h3 := hI.2.1
  obtain ⟨⟨g14, g15⟩, ⟨g0, g1, g2⟩, ⟨g91, g92, g93, g94⟩, gO⟩ := id h3
  refine (c_X8_redo ⟨g0, by omega⟩ ⟨g1, by omega⟩ (fun q => (gO (σ 2 4).toNat (by omega)).1)).mono ?_
  rintro r σ1 ⟨z, rfl, hz⟩
  have fr1 : ∀ a, a = 9 ∨ 82 ≤ a → σ1 a = σ a := fun a ha => by
    rcases hz with ⟨-, -, rfl⟩ | ⟨q, -, rfl⟩
    · rfl
    · have := (gO (σ 2 4).toNat (by omega)).1.1
      repeat rw [z_put_ne (by omega)]
  have f9 := fr1 9 (by omega)
  have f91 := fr1 91 (by omega)
  have f92 := fr1 92 (by omega)
  have f94 := fr1 94 (by omega)
  refine ⟨z, rfl, (c_X9_redo (σ := σ1) (by rw [f9]; omega) (by rw [f9]; omega) (fun q => by rw [f9, g15] at q; rw [f9, g14]; unfold chM; rw [f91, f92]; exact (ch_M h1 h3 (by omega)).1) (fun j => by rw [f94]; exact hok 94 j (Nat.le_of_ble_eq_true rfl))).mono ?_⟩
  rintro r' σ2 ⟨z', rfl, hz'⟩
  refine ⟨z', rfl, ?_⟩
  rw [f9, f91, f92, f94, g14, g15, g91, g92, g94] at hz'
  rcases hz with ⟨q, rfl, rfl⟩ | ⟨q, rfl, hs⟩
  · rcases hz' with ⟨-, rfl, rfl⟩ | ⟨p, -⟩
    · exact ⟨rfl, hI.up⟩
    · exfalso; omega
  · rcases hz' with ⟨p, -⟩ | ⟨p, rfl, hs2⟩
    · exfalso; omega
    · refine ⟨rfl, Inv.up ?_⟩
      obtain ⟨-, k1, k2, k3⟩ := ch_M h1 h3 (j := (σ 2 4).toNat) (by omega)
      have hw := (has_R h1 k1).1
      have ecm : ∀ (W N V A B : Int), 0 ≤ W ∧ W < 8 → z_put (z_put (lyM σ1 W N V) 9 14 A) 9 15 B = lyM (z_put (z_put σ1 9 14 A) 9 15 B) W N V := fun W N V A B hW => by
        unfold lyM
        by_cases c : W = 7
        · rw [if_pos c, if_pos c]
          funext a b
          simp only [z_rd]
          by_cases ca : a = 9
          · subst ca
            by_cases c15 : b = 15
            · subst c15; rfl
            · by_cases c14 : b = 14
              · subst c14; rfl
              · simp [c15, c14]
          · simp only [if_neg ca]
        · rw [if_neg c, if_neg c]
          have := cel_R hW c
          funext a b
          simp only [z_rd]
          by_cases ca : a = 9
          · subst ca
            simp only [if_neg (show ¬ 9 = celM W by omega)]
          · simp only [if_neg ca]
      rw [ecm _ _ _ _ _ hw] at hs2
      refine ur_inv hI k1 k3 hs2 (fun a p1 p2 => ?_) (fun j p1 p2 => ?_) ?_ ?_ ?_ ?_
      · rw [z_put_ne p2, z_put_ne p2, hs, z_put_ne p1, z_put_ne p1]
      · rw [z_rd, if_pos rfl, if_neg p2, z_rd, if_pos rfl, if_neg p1, f9]
      · rw [z_rd, if_pos rfl, if_neg (by decide), z_rd, if_pos rfl, if_pos rfl, z_put_ne (by decide), z_put_ne (by decide), hs]; rfl
      · rw [z_rd, if_pos rfl, if_pos rfl, z_put_ne (by decide), z_put_ne (by decide), hs]; rfl
      · rw [z_put_ne (by decide), z_put_ne (by decide), hs]
        show 0 ≤ σ 2 4 + 1 ∧ 0 ≤ σ 2 5 - 1
        omega
      · rw [z_put_ne (by decide), z_put_ne (by decide), hs]
        show σ 2 4 + 1 + (σ 2 5 - 1) = _
        omega
