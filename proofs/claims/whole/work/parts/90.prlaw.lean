/-! ===== feed and law: class against reference ===== -/
theorem WC.k2 {LF : LFT} {σ τ : Sto} (h : WC LF σ) (h1 : τ 1 = σ 1) (h3 : τ 3 7 = σ 3 7) (h27 : τ 27 = σ 27) (hn : ∀ a, 13 ≤ a → a ≤ 20 → τ a = σ a) : WC LF τ := by
  unfold WC at h ⊢
  rw [h1, h3, h27, hn 13 (by decide) (by decide), hn 14 (by decide) (by decide), hn 15 (by decide) (by decide), hn 16 (by decide) (by decide), hn 17 (by decide) (by decide), hn 18 (by decide) (by decide), hn 19 (by decide) (by decide), hn 20 (by decide) (by decide)]
  exact h
theorem I1.k2 {LF : LFT} {σ τ : Sto} (h : ∀ a, (a = 1 ∨ (13 ≤ a ∧ a ≤ 20) ∨ a = 27 ∨ (82 ≤ a ∧ a ≤ 87) ∨ a = 90) → τ a = σ a) (h37 : τ 3 7 = σ 3 7) (h9 : ∀ j, (j = 1 ∨ j = 7 ∨ j = 11 ∨ j = 13 ∨ j = 33) → τ 9 j = σ 9 j)
    (hs : (∀ j : Nat, j < 130 → τ 96 j = σ 96 j ∧ τ 97 j = σ 97 j) ∧ τ 98 0 = σ 98 0 ∧ (∀ j : Nat, j < 61 → τ 99 j = σ 99 j ∧ τ 100 j = σ 100 j)) (hI : I1 LF σ) : I1 LF τ := by
  obtain ⟨h1, h2, h3, h4, h5, h6⟩ := hI
  refine ⟨h1.k2 (h 1 (by omega)) h37 (h 27 (by omega)) (fun a _ _ => h a (by omega)), ?_, ?_, ?_, ?_, ?_⟩
  · obtain ⟨b1, b2, b3, b4, b5, b6, b7, b8, b9, b10, b11, b12, b13⟩ := h2
    unfold WM
    rw [h9 1 (by omega), h9 7 (by omega), h9 11 (by omega), h9 13 (by omega), h9 33 (by omega), h 82 (by omega), h 83 (by omega), h 84 (by omega), h 85 (by omega), h 86 (by omega), h 87 (by omega), h 90 (by omega)]
    refine ⟨b1, b2, b3, b4, b5, b6, b7, b8, b9, b10, b11, b12, fun q => ?_⟩
    obtain ⟨ls, F, q1, q2, q3, q4, q5, q6, q7⟩ := b13 q
    refine ⟨ls, F, q1, Seg.cong (fun j _ hj => (hs.1 j ?_).1) q2, Seg.cong (fun j _ hj => (hs.1 j ?_).2) q3, by rw [hs.2.1]; exact q4, mlP_cong ls 0 0 (fun j _ hj => hs.2.2 j (by omega)) q5, q6, q7⟩
    · rw [List.length_map] at hj; omega
    · rw [List.length_map] at hj; omega
  · rw [h9 1 (by omega), h9 7 (by omega), h9 11 (by omega), h9 13 (by omega), h 1 (by omega), h 20 (by omega)]; exact h3
  · rw [h 82 (by omega), h 83 (by omega), h 84 (by omega), h 85 (by omega), h 86 (by omega), h 87 (by omega), h 90 (by omega), h 13 (by omega), h 14 (by omega), h 15 (by omega), h 16 (by omega), h 17 (by omega), h 18 (by omega), h 19 (by omega)]; exact h4
  · rw [h 1 (by omega), h 17 (by omega)]; exact h5
  · rw [h9 33 (by omega), h37]; exact h6
theorem r567_cg {n : Nat} {σ τ : Sto} (h : ∀ a, (a = 1 ∨ a = 7 ∨ a = 8 ∨ (30 ≤ a ∧ a ≤ 39) ∨ (74 ≤ a ∧ a ≤ 81) ∨ a = 88 ∨ a = 89 ∨ (111 ≤ a ∧ a ≤ 119)) → τ a = σ a) (h9 : ∀ j, (j = 49 ∨ j = 50 ∨ j = 54 ∨ j = 56) → τ 9 j = σ 9 j) (hI : I5 n σ ∧ I6 σ ∧ I7 σ) : I5 n τ ∧ I6 τ ∧ I7 τ := by
  obtain ⟨h5, h6, h7⟩ := hI
  refine ⟨?_, ?_, I7.cong (σ := σ) (by rw [h 8 (by omega)]; exact Int.le_refl _) (fun a ha => h a (by omega)) h7⟩
  · unfold I5 at h5 ⊢
    rw [h9 49 (by omega), h9 50 (by omega), h 1 (by omega), h 7 (by omega), h 74 (by omega), h 75 (by omega), h 76 (by omega), h 77 (by omega), h 78 (by omega), h 79 (by omega), h 88 (by omega), h 89 (by omega), h 111 (by omega), h 112 (by omega), h 113 (by omega), h 114 (by omega)]
    exact h5
  · unfold I6 at h6 ⊢
    rw [h9 54 (by omega), h9 56 (by omega), h 8 (by omega), h 80 (by omega), h 81 (by omega), h 115 (by omega), h 116 (by omega)]
    exact h6
theorem pr_feed {d e n : Nat} {σ : Sto} {x : Int} (hI : Inv n σ) (i1 : inR x) : m_X8_feed d [zR 0, zI x] σ (qI fun z σ1 => m_X9_feed e [zR 9, zI x] σ1 (qI fun z' σ2 => zI z' = zI z ∧ Inv (n + 1) σ2)) := by
  obtain ⟨⟨LF, h1⟩, h3, h4, h5, h6, h7⟩ := id hI
  obtain ⟨⟨t1, t2⟩, e21, t3⟩ := h4
  refine (c_X8_feed t1 i1).mono ?_
  rintro r σ1 ⟨z, rfl, hz⟩
  have hc1 : σ1 9 21 = σ 9 21 := by rcases hz with ⟨-, -, rfl⟩ | ⟨-, ⟨-, -, rfl⟩ | ⟨-, -, rfl⟩⟩ <;> rfl
  refine ⟨z, rfl, (c_X9_feed (by omega) i1).mono ?_⟩
  rintro r' σ2 ⟨z', rfl, hz'⟩
  refine ⟨z', rfl, ?_⟩
  rcases hz with ⟨q, rfl, rfl⟩ | ⟨q, ⟨q2, rfl, rfl⟩ | ⟨q2, rfl, rfl⟩⟩
  · rcases hz' with ⟨p, rfl, rfl⟩ | ⟨p, -⟩
    · exact ⟨rfl, hI.up⟩
    · exact absurd p q
  · rcases hz' with ⟨p, -⟩ | ⟨p, ⟨p2, rfl, rfl⟩ | ⟨p2, -⟩⟩
    · exact absurd q p
    · exact ⟨rfl, hI.up⟩
    · exfalso; omega
  · rcases hz' with ⟨p, -⟩ | ⟨p, ⟨p2, -⟩ | ⟨p2, hz2, rfl⟩⟩
    · exact absurd q p
    · exfalso; omega
    · refine ⟨by rw [hz2, hc1, e21], Inv.up ?_⟩
      refine ⟨⟨LF, I1.k2 (σ := σ) (fun a ha => by repeat rw [z_put_ne (by omega)]) rfl (fun j hj => by rw [z_rd, if_pos rfl, if_neg (by omega)]; rfl) ⟨fun j _ => ⟨rfl, rfl⟩, rfl, fun j _ => ⟨rfl, rfl⟩⟩ h1⟩, h3, ⟨⟨?_, ?_⟩, ?_, fun j => ?_⟩, r567_cg (σ := σ) (fun a ha => by repeat rw [z_put_ne (by omega)]) (fun j hj => by rw [z_rd, if_pos rfl, if_neg (by omega)]; rfl) ⟨h5, h6, h7⟩⟩
      · show 0 ≤ σ 3 5 + 1 ∧ σ 3 5 + 1 ≤ 120; omega
      · exact pu_R t2 q
      · show σ 9 21 + 1 = σ 3 5 + 1; omega
      · show pu (σ 95) (σ 9 21).toNat (sbF x) j = sbF (pu (σ 25) (σ 3 5).toNat x j)
        unfold pu
        rw [e21]
        split
        · rfl
        · exact t3 j
theorem rdls_ne {nb : Int → Int} {n : Int} {m : Nat} {a : Int} (h : (rdls nb n (m + 1) a).1 = true) : (rdls nb n (m + 1) a).2.2 ≠ [] := by
  rw [rdls] at h ⊢
  split at h
  · rename_i c
    rw [if_pos c]
    split at h
    · rename_i c2
      rw [if_pos c2]
      exact List.cons_ne_nil _ _
    · rename_i c2
      rw [if_neg c2]
      split at h
      · rename_i c3
        rw [if_pos c3]
        exact List.cons_ne_nil _ _
      · exact absurd h Bool.false_ne_true
  · exact absurd h Bool.false_ne_true
theorem clS_pos : ∀ {ls : List LN} {d : Int}, ls ≠ [] → 0 < (clS d ls).length
  | [], _, h => absurd rfl h
  | l :: r, d, _ => by
    rw [clS, List.length_append]
    have : 0 < (clL d l).length := by
      unfold clL
      split
      · rw [List.length_append]; simp
      · simp only [List.length_append, List.length_cons, List.length_nil]; omega
    omega
def up6 (F : VT) : LFT := fun a b c d e f => F (fun j => if j = 0 then a else if j = 1 then b else if j = 2 then c else if j = 3 then d else if j = 4 then e else f)
theorem up6_eq {F : VT} (h : GdN F) (N : Nat → Int) : F N = up6 F (N 0) (N 1) (N 2) (N 3) (N 4) (N 5) := h N _ (fun i hi => by
  obtain rfl | rfl | rfl | rfl | rfl | rfl : i = 0 ∨ i = 1 ∨ i = 2 ∨ i = 3 ∨ i = 4 ∨ i = 5 := by omega
  all_goals rfl)
theorem pr_law {n : Nat} {σ : Sto} (hI : Inv n σ) : Does 102 yX8_law cX8_law 1 (some .int) [zR 0] σ (qI fun z σ1 => Does 54 yX9_law cX9_law 2 (some .int) [zR 9] σ1 (qI fun z' σ2 => zI z' = zI z ∧ Inv (n + 1) σ2)) := by
  obtain ⟨⟨LF, h1⟩, h3, h4, h5, h6, h7⟩ := id hI
  obtain ⟨⟨t1, t2⟩, e21, t3⟩ := id h4
  refine (c_X8_law h4.1).mono ?_
  rintro r σ1 ⟨z, rfl, ⟨k1, k2⟩, hz⟩
  have f9 : σ1 9 = σ 9 := k1 9 (by decide) (by decide) (by decide)
  have f95 : σ1 95 = σ 95 := k1 95 (by decide) (by decide) (by decide)
  refine ⟨z, rfl, (c_X9_law (T := σ 25) (n := σ 3 5) ⟨t1, by rw [f9]; exact e21, t2, fun j => by rw [f95]; exact t3 j⟩).mono ?_⟩
  rintro r' σ2 ⟨z', rfl, hz'⟩
  refine ⟨z', rfl, ?_⟩
  have hb := fun a => nbF_R (T := σ 25) (n := σ 3 5) (a := a) t2
  rcases hz with ⟨q, rfl, q27, q37⟩ | ⟨q, rfl, q37, q27⟩
  · rcases hz' with ⟨p, rfl, w, d1, d2, d3, d4⟩ | ⟨p, -⟩
    · refine ⟨rfl, Inv.up ?_⟩
      rcases d4 with ⟨-, -, -, d5, d6, d7⟩ | ⟨d5, -⟩
      · have o : ∀ a, a ≠ 3 → a ≠ 26 → a ≠ 27 → a ≠ 9 → ¬ (96 ≤ a ∧ a ≤ 100) → σ2 a = σ a := fun a p1 p2 p3 p4 p5 => by rw [d1 a p4 (by omega) (by omega) (by omega) (by omega) (by omega), k1 a p1 p2 p3]
        have o9 : ∀ j, ¬ (21 ≤ j ∧ j ≤ 25) → σ2 9 j = σ 9 j := fun j hj => by rw [d2 j (by omega) (by omega) (by omega) (by omega) (by omega), f9]
        have e3 : σ2 3 = σ1 3 := d1 3 (by decide) (by decide) (by decide) (by decide) (by decide) (by decide)
        have e27 : σ2 27 = σ1 27 := d1 27 (by decide) (by decide) (by decide) (by decide) (by decide) (by decide)
        have x96 : σ1 96 = σ 96 := k1 96 (by decide) (by decide) (by decide)
        have x97 : σ1 97 = σ 97 := k1 97 (by decide) (by decide) (by decide)
        have x98 : σ1 98 = σ 98 := k1 98 (by decide) (by decide) (by decide)
        have x99 : σ1 99 = σ 99 := k1 99 (by decide) (by decide) (by decide)
        have x100 : σ1 100 = σ 100 := k1 100 (by decide) (by decide) (by decide)
        rw [x96, x97] at d5
        rw [x98] at d6
        rw [x99, x100] at d7
        refine ⟨⟨LF, I1.k2 (σ := σ) (fun a ha => ?_) (by rw [e3, q37]) (fun j hj => o9 j (by omega)) ⟨d5, d6, d7⟩ h1⟩, ?_, ?_, r567_cg (σ := σ) (fun a ha => o a (by omega) (by omega) (by omega) (by omega) (by omega)) (fun j hj => o9 j (by omega)) ⟨h5, h6, h7⟩⟩
        · by_cases c : a = 27
          · subst c; rw [e27, q27]
          · exact o a (by omega) (by omega) c (by omega) (by omega)
        · exact I3.up (σ := σ) (by rw [o 1 (by decide) (by decide) (by decide) (by decide) (by decide)]; exact Int.le_refl _) (by rw [o 1 (by decide) (by decide) (by decide) (by decide) (by decide)]; exact Int.le_refl _) (by rw [o 1 (by decide) (by decide) (by decide) (by decide) (by decide)]; exact Int.le_refl _) (fun a ha => o a (by omega) (by omega) (by omega) (by omega) (by omega)) ⟨o9 14 (by decide), o9 15 (by decide)⟩ h3
        · unfold I4 tpO
          rw [e3, k2, d3, o 25 (by decide) (by decide) (by decide) (by decide) (by decide), o 95 (by decide) (by decide) (by decide) (by decide) (by decide)]
          exact ⟨⟨by decide, t2⟩, rfl, t3⟩
      · exact absurd (q.symm.trans d5) (by decide)
    · exact absurd (q.symm.trans p) (by decide)
  · rcases hz' with ⟨p, -⟩ | ⟨p, rfl, w, τ, ⟨d1, d2, d3, d4⟩, rfl⟩
    · exact absurd (p.symm.trans q) (by decide)
    · refine ⟨rfl, Inv.up ?_⟩
      rcases d4 with ⟨d5, -⟩ | ⟨-, -, d5, d6, d7, d8⟩
      · exact absurd (d5.symm.trans p) (by decide)
      · have o : ∀ a, a ≠ 3 → a ≠ 26 → a ≠ 27 → a ≠ 9 → ¬ (96 ≤ a ∧ a ≤ 100) → z_put τ 9 33 1 a = σ a := fun a p1 p2 p3 p4 p5 => by rw [z_put_ne p4, d1 a p4 (by omega) (by omega) (by omega) (by omega) (by omega), k1 a p1 p2 p3]
        have o9 : ∀ j, ¬ (21 ≤ j ∧ j ≤ 25) → j ≠ 33 → z_put τ 9 33 1 9 j = σ 9 j := fun j hj h33 => by rw [z_rd, if_pos rfl, if_neg h33, d2 j (by omega) (by omega) (by omega) (by omega) (by omega), f9]
        have e3 : z_put τ 9 33 1 3 = σ1 3 := by rw [z_put_ne (by decide)]; exact d1 3 (by decide) (by decide) (by decide) (by decide) (by decide) (by decide)
        have e27 : z_put τ 9 33 1 27 = σ1 27 := by rw [z_put_ne (by decide)]; exact d1 27 (by decide) (by decide) (by decide) (by decide) (by decide) (by decide)
        obtain ⟨F, hF⟩ := rdls_G (n := σ 3 5) hb 120 0 p
        have hlen := clS_R (σ := σ) 120 0 0 (by decide) t1.1 p
        have hmc := rdls_len (T := σ 25) (n := σ 3 5) 120 0 (by decide) t1.1 p
        have hpos := clS_pos (d := 0) (rdls_ne (m := 119) p)
        have hpos : 0 < (clS 0 (rdls (nbF (σ 25) (σ 3 5)) (σ 3 5) 120 0).2.2).length := hpos
        generalize hls : (rdls (nbF (σ 25) (σ 3 5)) (σ 3 5) 120 0).2.2 = ls at hF hlen hmc hpos d5 d6 d7 d8 q37 q27
        have hl256 : (clS 0 ls).length ≤ 256 := by omega
        obtain ⟨⟨a1, a2, a3, a4, a5, a6, a7, a8, a9, a10, a11, a12⟩, ⟨b1, b2, b3, b4, b5, b6, b7, b8, b9, b10, b11, b12, b13⟩, g3, g4, g5, g6⟩ := h1
        refine ⟨⟨up6 F, ⟨?_, ?_, ?_, ?_, ?_, ?_⟩⟩, ?_, ?_, r567_cg (σ := σ) (fun a ha => o a (by omega) (by omega) (by omega) (by omega) (by omega)) (fun j hj => o9 j (by omega) (by omega)) ⟨h5, h6, h7⟩⟩
        · unfold WC
          rw [e3, e27, o 1 (by decide) (by decide) (by decide) (by decide) (by decide), o 13 (by decide) (by decide) (by decide) (by decide) (by decide), o 14 (by decide) (by decide) (by decide) (by decide) (by decide), o 15 (by decide) (by decide) (by decide) (by decide) (by decide), o 16 (by decide) (by decide) (by decide) (by decide) (by decide), o 17 (by decide) (by decide) (by decide) (by decide) (by decide), o 18 (by decide) (by decide) (by decide) (by decide) (by decide), o 19 (by decide) (by decide) (by decide) (by decide) (by decide), o 20 (by decide) (by decide) (by decide) (by decide) (by decide)]
          refine ⟨a1, a2, a3, a4, a5, a6, a7, a8, a9, a10, a11, fun _ N sk => ?_⟩
          rw [← up6_eq hF.N]
          exact evF_lines (by omega) ls F 0 256 N sk hF (Int.le_refl _) (fun i hi => Seg.getD q27 hi) (by rw [Int.zero_add]; exact q37) hl256
        · unfold WM
          rw [o9 1 (by decide) (by decide), o9 7 (by decide) (by decide), o9 11 (by decide) (by decide), o9 13 (by decide) (by decide), o 82 (by decide) (by decide) (by decide) (by decide) (by decide), o 83 (by decide) (by decide) (by decide) (by decide) (by decide), o 84 (by decide) (by decide) (by decide) (by decide) (by decide), o 85 (by decide) (by decide) (by decide) (by decide) (by decide), o 86 (by decide) (by decide) (by decide) (by decide) (by decide), o 87 (by decide) (by decide) (by decide) (by decide) (by decide), o 90 (by decide) (by decide) (by decide) (by decide) (by decide)]
          refine ⟨b1, b2, b3, b4, b5, b6, b7, b8, b9, b10, b11, Or.inr rfl, fun _ => ⟨ls, F, hF, Seg.row (σ := τ) rfl d5, Seg.row (σ := τ) rfl d6, d7, d8, ⟨by omega, by omega⟩, up6_eq hF.N⟩⟩
        · rw [o9 1 (by decide) (by decide), o9 7 (by decide) (by decide), o9 11 (by decide) (by decide), o9 13 (by decide) (by decide), o 1 (by decide) (by decide) (by decide) (by decide) (by decide), o 20 (by decide) (by decide) (by decide) (by decide) (by decide)]
          exact g3
        · rw [o 82 (by decide) (by decide) (by decide) (by decide) (by decide), o 83 (by decide) (by decide) (by decide) (by decide) (by decide), o 84 (by decide) (by decide) (by decide) (by decide) (by decide), o 85 (by decide) (by decide) (by decide) (by decide) (by decide), o 86 (by decide) (by decide) (by decide) (by decide) (by decide), o 87 (by decide) (by decide) (by decide) (by decide) (by decide), o 90 (by decide) (by decide) (by decide) (by decide) (by decide), o 13 (by decide) (by decide) (by decide) (by decide) (by decide), o 14 (by decide) (by decide) (by decide) (by decide) (by decide), o 15 (by decide) (by decide) (by decide) (by decide) (by decide), o 16 (by decide) (by decide) (by decide) (by decide) (by decide), o 17 (by decide) (by decide) (by decide) (by decide) (by decide), o 18 (by decide) (by decide) (by decide) (by decide) (by decide), o 19 (by decide) (by decide) (by decide) (by decide) (by decide)]
          exact g4
        · rw [o 1 (by decide) (by decide) (by decide) (by decide) (by decide), o 17 (by decide) (by decide) (by decide) (by decide) (by decide)]
          exact g5
        · rw [e3, q37]
          exact ⟨fun _ => by omega, fun _ => show (0 : Int) < 1 by decide⟩
        · exact I3.up (σ := σ) (by rw [o 1 (by decide) (by decide) (by decide) (by decide) (by decide)]; exact Int.le_refl _) (by rw [o 1 (by decide) (by decide) (by decide) (by decide) (by decide)]; exact Int.le_refl _) (by rw [o 1 (by decide) (by decide) (by decide) (by decide) (by decide)]; exact Int.le_refl _) (fun a ha => o a (by omega) (by omega) (by omega) (by omega) (by omega)) ⟨o9 14 (by decide) (by decide), o9 15 (by decide) (by decide)⟩ h3
        · unfold I4 tpO
          rw [e3, k2, show z_put τ 9 33 1 9 21 = τ 9 21 from rfl, d3, o 25 (by decide) (by decide) (by decide) (by decide) (by decide), o 95 (by decide) (by decide) (by decide) (by decide) (by decide)]
          exact ⟨⟨by decide, t2⟩, rfl, t3⟩
