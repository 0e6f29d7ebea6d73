/-! ===== changes: class against reference ===== -/
theorem bear_eq {LF : LFT} {σ : Sto} (h1 : I1 LF σ) (w : Int) : bearM σ w = (if w = 5 then σ 1 2 else if w = 6 then σ 1 3 else if w = 7 then 1 else σ 1 1) := by
  unfold bearM
  rw [h1.2.2.1.1, h1.2.2.1.2.1, h1.2.2.1.2.2.1]
theorem has_eq {LF : LFT} {σ : Sto} (h1 : I1 LF σ) (n w : Int) : hasM σ n w ↔ hasR σ n w := by
  unfold hasM hasR
  rw [bear_eq h1]
  constructor
  · rintro ⟨q1, q2, q3, q4⟩
    refine ⟨q1, q2, q3, ?_⟩
    by_cases c5 : w = 5
    · rw [if_pos c5] at q4; exact ⟨_, Or.inl ⟨c5, rfl⟩, q4⟩
    · rw [if_neg c5] at q4
      by_cases c6 : w = 6
      · rw [if_pos c6] at q4; exact ⟨_, Or.inr (Or.inl ⟨c6, rfl⟩), q4⟩
      · rw [if_neg c6] at q4
        by_cases c7 : w = 7
        · rw [if_pos c7] at q4; exact ⟨_, Or.inr (Or.inr (Or.inl ⟨c7, rfl⟩)), q4⟩
        · rw [if_neg c7] at q4; exact ⟨_, Or.inr (Or.inr (Or.inr ⟨c5, c6, c7, rfl⟩)), q4⟩
  · rintro ⟨q1, q2, q3, b, hb, q4⟩
    refine ⟨q1, q2, q3, ?_⟩
    rcases hb with p | p | p | p
    · rw [if_pos p.1]; omega
    · rw [if_neg (by omega), if_pos p.1]; omega
    · rw [if_neg (by omega), if_neg (by omega), if_pos p.1]; omega
    · rw [if_neg p.1, if_neg p.2.1, if_neg p.2.2.1]; omega
theorem has_R {LF : LFT} {σ : Sto} {n w : Int} (h1 : I1 LF σ) (h : hasR σ n w) : (0 ≤ w ∧ w < 8) ∧ (0 ≤ n ∧ n < 12) ∧ (w = 7 → n = 0) ∧ (w = 4 → n < σ 1 1) := by
  obtain ⟨q1, q2, q3, b, hb, q4⟩ := h
  have a1 := h1.1.1
  have a2 := h1.1.2.1
  have a3 := h1.1.2.2.1
  refine ⟨⟨q1, q2⟩, ⟨q3, ?_⟩, fun q => ?_, fun q => ?_⟩
  · rcases hb with p | p | p | p <;> omega
  · rcases hb with p | p | p | p <;> omega
  · rcases hb with p | p | p | p <;> omega
theorem w8 {w : Int} (h : 0 ≤ w ∧ w < 8) : w = 0 ∨ w = 1 ∨ w = 2 ∨ w = 3 ∨ w = 4 ∨ w = 5 ∨ w = 6 ∨ w = 7 := by omega
theorem va_eq {LF : LFT} {σ : Sto} {n w : Int} (h1 : I1 LF σ) (hw : 0 ≤ w ∧ w < 8) (h7 : w = 7 → n = 0) : vaM σ w n = σ (13 + w.toNat) n.toNat := by
  obtain ⟨f2, f3, f4, f5, f6, f7, f0⟩ := h1.2.2.2.1
  rcases w8 hw with rfl | rfl | rfl | rfl | rfl | rfl | rfl | rfl
  · show σ 82 n.toNat = σ 13 n.toNat; rw [f2]
  · show σ 83 n.toNat = σ 14 n.toNat; rw [f3]
  · show σ 84 n.toNat = σ 15 n.toNat; rw [f4]
  · show σ 85 n.toNat = σ 16 n.toNat; rw [f5]
  · show σ 86 n.toNat = σ 17 n.toNat; rw [f6]
  · show σ 87 n.toNat = σ 18 n.toNat; rw [f7]
  · show σ 90 n.toNat = σ 19 n.toNat; rw [f0]
  · rw [h7 rfl]; exact h1.2.2.1.2.2.2
theorem allow_old {LF : LFT} {σ : Sto} {n w : Int} (h1 : I1 LF σ) (hw : 0 ≤ w ∧ w < 8) (h7 : w = 7 → n = 0) : allowR w (σ (13 + w.toNat) n.toNat) := by
  obtain ⟨a1, a2, a3, a4, a5, a6, a7, a8, a9, a10, a11, a12⟩ := h1.1
  rcases w8 hw with rfl | rfl | rfl | rfl | rfl | rfl | rfl | rfl
  · show allowR 0 (σ 13 n.toNat); have := a4 n.toNat; omega
  · show allowR 1 (σ 14 n.toNat); have := a5 n.toNat; omega
  · show allowR 2 (σ 15 n.toNat); have := a6 n.toNat; omega
  · show allowR 3 (σ 16 n.toNat); have := a7 n.toNat; omega
  · show allowR 4 (σ 17 n.toNat); have := a8 n.toNat; omega
  · show allowR 5 (σ 18 n.toNat); have := a9 n.toNat; omega
  · show allowR 6 (σ 19 n.toNat); have := a10 n.toNat; omega
  · rw [h7 rfl]; show allowR 7 (σ 20 0); omega
theorem set_I1 {LF : LFT} {σ : Sto} {n w v : Int} (h1 : I1 LF σ) (hh : hasR σ n w) (hv : allowR w v) : I1 LF (lyM (z_put σ (13 + w.toNat) n.toNat v) w n v) := by
  obtain ⟨hw, hn, h7, h4⟩ := has_R h1 hh
  obtain ⟨⟨a1, a2, a3, a4, a5, a6, a7, a8, a9, a10, a11, a12⟩, ⟨b1, b2, b3, b4, b5, b6, b7, b8, b9, b10, b11, b12, b13⟩, ⟨e1, e7, e11, e13⟩, ⟨f2, f3, f4, f5, f6, f7, f0⟩, g, k⟩ := h1
  rcases w8 hw with rfl | rfl | rfl | rfl | rfl | rfl | rfl | rfl
  · have hv2 : 0 ≤ v ∧ v ≤ 9 := by omega
    show I1 LF (z_put (z_put σ 13 n.toNat v) 82 n.toNat v)
    refine ⟨⟨a1, a2, a3, pu_R a4 hv2, a5, a6, a7, a8, a9, a10, a11, a12⟩, ⟨b1, b2, b3, pu_R b4 hv2, b5, b6, b7, b8, b9, b10, b11, b12, fun q => ?_⟩, ⟨e1, e7, e11, e13⟩, ⟨?_, f3, f4, f5, f6, f7, f0⟩, g, k⟩
    · obtain ⟨ls, F, q1, q2, q3, q4⟩ := b13 q
      exact ⟨ls, F, q1, Seg.row (σ := σ) rfl q2, Seg.row (σ := σ) rfl q3, q4⟩
    · show pu (σ 82) n.toNat v = pu (σ 13) n.toNat v; rw [f2]
  · have hv2 : 0 ≤ v ∧ v ≤ 9 := by omega
    show I1 LF (z_put (z_put σ 14 n.toNat v) 83 n.toNat v)
    refine ⟨⟨a1, a2, a3, a4, pu_R a5 hv2, a6, a7, a8, a9, a10, a11, a12⟩, ⟨b1, b2, b3, b4, pu_R b5 hv2, b6, b7, b8, b9, b10, b11, b12, fun q => ?_⟩, ⟨e1, e7, e11, e13⟩, ⟨f2, ?_, f4, f5, f6, f7, f0⟩, g, k⟩
    · obtain ⟨ls, F, q1, q2, q3, q4⟩ := b13 q
      exact ⟨ls, F, q1, Seg.row (σ := σ) rfl q2, Seg.row (σ := σ) rfl q3, q4⟩
    · show pu (σ 83) n.toNat v = pu (σ 14) n.toNat v; rw [f3]
  · have hv2 : 0 ≤ v ∧ v ≤ 9 := by omega
    show I1 LF (z_put (z_put σ 15 n.toNat v) 84 n.toNat v)
    refine ⟨⟨a1, a2, a3, a4, a5, pu_R a6 hv2, a7, a8, a9, a10, a11, a12⟩, ⟨b1, b2, b3, b4, b5, pu_R b6 hv2, b7, b8, b9, b10, b11, b12, fun q => ?_⟩, ⟨e1, e7, e11, e13⟩, ⟨f2, f3, ?_, f5, f6, f7, f0⟩, g, k⟩
    · obtain ⟨ls, F, q1, q2, q3, q4⟩ := b13 q
      exact ⟨ls, F, q1, Seg.row (σ := σ) rfl q2, Seg.row (σ := σ) rfl q3, q4⟩
    · show pu (σ 84) n.toNat v = pu (σ 15) n.toNat v; rw [f4]
  · have hv2 : 0 ≤ v ∧ v ≤ 2 := by omega
    show I1 LF (z_put (z_put σ 16 n.toNat v) 85 n.toNat v)
    refine ⟨⟨a1, a2, a3, a4, a5, a6, pu_R a7 hv2, a8, a9, a10, a11, a12⟩, ⟨b1, b2, b3, b4, b5, b6, pu_R b7 hv2, b8, b9, b10, b11, b12, fun q => ?_⟩, ⟨e1, e7, e11, e13⟩, ⟨f2, f3, f4, ?_, f6, f7, f0⟩, g, k⟩
    · obtain ⟨ls, F, q1, q2, q3, q4⟩ := b13 q
      exact ⟨ls, F, q1, Seg.row (σ := σ) rfl q2, Seg.row (σ := σ) rfl q3, q4⟩
    · show pu (σ 85) n.toNat v = pu (σ 16) n.toNat v; rw [f5]
  · have hv2 : 0 ≤ v ∧ v ≤ 5 := by omega
    show I1 LF (z_put (z_put σ 17 n.toNat v) 86 n.toNat v)
    refine ⟨⟨a1, a2, a3, a4, a5, a6, a7, pu_R a8 hv2, a9, a10, a11, a12⟩, ⟨b1, b2, b3, b4, b5, b6, b7, pu_R b8 hv2, b9, b10, b11, b12, fun q => ?_⟩, ⟨e1, e7, e11, e13⟩, ⟨f2, f3, f4, f5, ?_, f7, f0⟩, ?_, k⟩
    · obtain ⟨ls, F, q1, q2, q3, q4⟩ := b13 q
      exact ⟨ls, F, q1, Seg.row (σ := σ) rfl q2, Seg.row (σ := σ) rfl q3, q4⟩
    · show pu (σ 86) n.toNat v = pu (σ 17) n.toNat v; rw [f6]
    · intro j hj
      show pu (σ 17) n.toNat v j = 0
      unfold pu
      have hj : σ 1 1 ≤ j := hj
      have := h4 rfl
      rw [if_neg (by omega)]
      exact g j hj
  · have hv2 : 0 ≤ v ∧ v ≤ 9 := by omega
    show I1 LF (z_put (z_put σ 18 n.toNat v) 87 n.toNat v)
    refine ⟨⟨a1, a2, a3, a4, a5, a6, a7, a8, pu_R a9 hv2, a10, a11, a12⟩, ⟨b1, b2, b3, b4, b5, b6, b7, b8, pu_R b9 hv2, b10, b11, b12, fun q => ?_⟩, ⟨e1, e7, e11, e13⟩, ⟨f2, f3, f4, f5, f6, ?_, f0⟩, g, k⟩
    · obtain ⟨ls, F, q1, q2, q3, q4⟩ := b13 q
      exact ⟨ls, F, q1, Seg.row (σ := σ) rfl q2, Seg.row (σ := σ) rfl q3, q4⟩
    · show pu (σ 87) n.toNat v = pu (σ 18) n.toNat v; rw [f7]
  · have hv2 : 0 ≤ v ∧ v ≤ 9 := by omega
    show I1 LF (z_put (z_put σ 19 n.toNat v) 90 n.toNat v)
    refine ⟨⟨a1, a2, a3, a4, a5, a6, a7, a8, a9, pu_R a10 hv2, a11, a12⟩, ⟨b1, b2, b3, b4, b5, b6, b7, b8, b9, pu_R b10 hv2, b11, b12, fun q => ?_⟩, ⟨e1, e7, e11, e13⟩, ⟨f2, f3, f4, f5, f6, f7, ?_⟩, g, k⟩
    · obtain ⟨ls, F, q1, q2, q3, q4⟩ := b13 q
      exact ⟨ls, F, q1, Seg.row (σ := σ) rfl q2, Seg.row (σ := σ) rfl q3, q4⟩
    · show pu (σ 90) n.toNat v = pu (σ 19) n.toNat v; rw [f0]
  · have hv2 : 0 ≤ v ∧ v ≤ 20 := by omega
    rw [h7 rfl]
    show I1 LF (z_put (z_put σ 20 0 v) 9 13 v)
    refine ⟨⟨a1, a2, a3, a4, a5, a6, a7, a8, a9, a10, hv2, a12⟩, ⟨b1, b2, b3, b4, b5, b6, b7, b8, b9, b10, hv2, b12, fun q => ?_⟩, ⟨e1, e7, e11, rfl⟩, ⟨f2, f3, f4, f5, f6, f7, f0⟩, g, k⟩
    obtain ⟨ls, F, q1, q2, q3, q4⟩ := b13 q
    exact ⟨ls, F, q1, Seg.row (σ := σ) rfl q2, Seg.row (σ := σ) rfl q3, q4⟩
theorem ok_13 {σ : Sto} (hok : z_ok σ) : ∀ k j, 13 ≤ k → k ≤ 20 → inR (σ k j) := fun k j h1 h2 => by
  obtain ⟨w, rfl⟩ : ∃ w, k = 13 + w := ⟨k - 13, by omega⟩
  have h := hok (13 + w) j (show 13 + w < 121 by omega)
  rw [lay_numbers w (by omega)] at h
  exact h
theorem ok_82 {σ : Sto} (hok : z_ok σ) : ∀ k j, 82 ≤ k → k ≤ 90 → inR (σ k j) := fun k j h1 h2 => by
  obtain rfl | rfl | rfl | rfl | rfl | rfl | rfl | rfl | rfl : k = 82 ∨ k = 83 ∨ k = 84 ∨ k = 85 ∨ k = 86 ∨ k = 87 ∨ k = 88 ∨ k = 89 ∨ k = 90 := by omega
  · exact hok 82 j (Nat.le_of_ble_eq_true rfl)
  · exact hok 83 j (Nat.le_of_ble_eq_true rfl)
  · exact hok 84 j (Nat.le_of_ble_eq_true rfl)
  · exact hok 85 j (Nat.le_of_ble_eq_true rfl)
  · exact hok 86 j (Nat.le_of_ble_eq_true rfl)
  · exact hok 87 j (Nat.le_of_ble_eq_true rfl)
  · exact hok 88 j (Nat.le_of_ble_eq_true rfl)
  · exact hok 89 j (Nat.le_of_ble_eq_true rfl)
  · exact hok 90 j (Nat.le_of_ble_eq_true rfl)
theorem rest_cg {n : Nat} {σ τ : Sto} (h : ∀ a, (a = 1 ∨ a = 3 ∨ a = 7 ∨ a = 8 ∨ a = 25 ∨ (30 ≤ a ∧ a ≤ 39) ∨ (74 ≤ a ∧ a ≤ 81) ∨ a = 88 ∨ a = 89 ∨ a = 95 ∨ (111 ≤ a ∧ a ≤ 119)) → τ a = σ a) (h9 : ∀ j, (j = 21 ∨ j = 49 ∨ j = 50 ∨ j = 54 ∨ j = 56) → τ 9 j = σ 9 j) (hI : I4 σ ∧ I5 n σ ∧ I6 σ ∧ I7 σ) : I4 τ ∧ I5 n τ ∧ I6 τ ∧ I7 τ := by
  obtain ⟨h4, h5, h6, h7⟩ := hI
  refine ⟨?_, ?_, ?_, I7.cong (σ := σ) (by rw [h 8 (by omega)]; exact Int.le_refl _) (fun a ha => h a (by omega)) h7⟩
  · unfold I4 tpO at h4 ⊢
    rw [h9 21 (by omega), h 3 (by omega), h 25 (by omega), h 95 (by omega)]
    exact h4
  · unfold I5 at h5 ⊢
    rw [h9 49 (by omega), h9 50 (by omega), h 1 (by omega), h 7 (by omega), h 74 (by omega), h 75 (by omega), h 76 (by omega), h 77 (by omega), h 78 (by omega), h 79 (by omega), h 88 (by omega), h 89 (by omega), h 111 (by omega), h 112 (by omega), h 113 (by omega), h 114 (by omega)]
    exact h5
  · unfold I6 at h6 ⊢
    rw [h9 54 (by omega), h9 56 (by omega), h 8 (by omega), h 80 (by omega), h 81 (by omega), h 115 (by omega), h 116 (by omega)]
    exact h6
theorem cel_R {w : Int} (hw : 0 ≤ w ∧ w < 8) (h7 : w ≠ 7) : (82 ≤ celM w ∧ celM w ≤ 87) ∨ celM w = 90 := by
  unfold celM
  split
  · exact Or.inr rfl
  · omega
theorem lyM_o {X : Sto} {w n v : Int} (hw : 0 ≤ w ∧ w < 8) {a : Nat} (h9 : a ≠ 9) (ha : ¬ ((82 ≤ a ∧ a ≤ 87) ∨ a = 90)) : lyM X w n v a = X a := by
  unfold lyM
  split
  · exact z_put_ne h9
  · rename_i q
    have := cel_R hw q
    exact z_put_ne (by omega)
theorem lyM_9 {X : Sto} {w n v : Int} (hw : 0 ≤ w ∧ w < 8) {j : Nat} (hj : j ≠ 13) : lyM X w n v 9 j = X 9 j := by
  unfold lyM
  split
  · rw [z_rd, if_pos rfl, if_neg hj]
  · rename_i q
    have := cel_R hw q
    rw [z_put_ne (by omega)]
theorem lyM_cg {X Y : Sto} {w n v : Int} {a : Nat} (h : X a = Y a) : lyM X w n v a = lyM Y w n v a := by
  unfold lyM
  split
  · funext b; rw [z_rd, z_rd, h]
  · funext b; rw [z_rd, z_rd, h]
theorem lyM_cg9 {X Y : Sto} {w n v : Int} {j : Nat} (h : X 9 j = Y 9 j) (hw : 0 ≤ w ∧ w < 8) : lyM X w n v 9 j = lyM Y w n v 9 j := by
  unfold lyM
  split
  · rw [z_rd, z_rd, h]
  · rename_i q
    have := cel_R hw q
    rw [z_put_ne (by omega), z_put_ne (by omega), h]
theorem pr_of {d e n : Nat} {σ : Sto} {x w : Int} (hI : Inv n σ) (hok : z_ok σ) (i1 : inR x) (i2 : inR w) : m_X8_of d [zR 0, zI x, zI w] σ (qI fun z σ1 => m_X9_of e [zR 9, zI x, zI w] σ1 (qI fun z' σ2 => zI z' = zI z ∧ Inv (n + 1) σ2)) := by
  obtain ⟨LF, h1⟩ := hI.1
  obtain ⟨c1, c2, c3, -⟩ := h1.1
  obtain ⟨e1, e7, e11, e13⟩ := h1.2.2.1
  refine (c_X8_of ⟨c1, c2, c3⟩ i1 i2 (ok_13 hok) (fun j => ⟨hok 74 j (Nat.le_of_ble_eq_true rfl), hok 75 j (Nat.le_of_ble_eq_true rfl)⟩)).mono ?_
  rintro r σ1 ⟨z, rfl, hz, rfl⟩
  refine ⟨z, rfl, (c_X9_of ⟨by omega, by omega, by omega⟩ i1 i2 (ok_82 hok) (by have := h1.1.2.2.2.2.2.2.2.2.2.2.1; omega)).mono ?_⟩
  rintro r' σ2 ⟨z', rfl, hz', rfl⟩
  refine ⟨z', rfl, ?_, hI.up⟩
  rw [hz, hz']
  congr 1
  unfold ofM ofC
  obtain ⟨⟨d1, d2, -⟩, -⟩ := hI.2.2.2.1
  by_cases q : w = 8 ∨ w = 9
  · rw [if_pos q, if_pos q, e7, d1, d2]
  · rw [if_neg q, if_neg q]
    have hq := has_eq h1 x w
    unfold hasB
    rw [bear_eq h1]
    by_cases c : 0 ≤ w ∧ w < 8 ∧ 0 ≤ x ∧ x < (if w = 5 then σ2 1 2 else if w = 6 then σ2 1 3 else if w = 7 then 1 else σ2 1 1)
    · rw [if_pos c, if_pos (decide_eq_true c)]
      refine va_eq h1 ⟨c.1, c.2.1⟩ (fun q7 => ?_)
      have := c.2.2.2
      rw [if_neg (by omega), if_neg (by omega), if_pos q7] at this
      omega
    · rw [if_neg c, if_neg (by rw [decide_eq_true_eq]; exact c)]
