/-! ===== What class and reference share, behind every call ===== -/
def I1 (LF : LFT) (σ : Sto) : Prop := WC LF σ ∧ WM LF σ ∧ (σ 9 1 = σ 1 1 ∧ σ 9 7 = σ 1 2 ∧ σ 9 11 = σ 1 3 ∧ σ 9 13 = σ 20 0) ∧ (σ 82 = σ 13 ∧ σ 83 = σ 14 ∧ σ 84 = σ 15 ∧ σ 85 = σ 16 ∧ σ 86 = σ 17 ∧ σ 87 = σ 18 ∧ σ 90 = σ 19) ∧ (∀ j : Nat, σ 1 1 ≤ j → σ 17 j = 0) ∧ (0 < σ 9 33 ↔ 0 < σ 3 7)
def cgO (σ : Sto) : Prop := ∀ j : Nat, (j : Int) < σ 2 4 + σ 2 5 → chOK σ j ∧ allowR (σ 22 j) (σ 23 j) ∧ allowR (σ 22 j) (σ 24 j)
def I3 (σ : Sto) : Prop := (σ 9 14 = σ 2 4 ∧ σ 9 15 = σ 2 5) ∧ (0 ≤ σ 2 4 ∧ 0 ≤ σ 2 5 ∧ σ 2 4 + σ 2 5 ≤ 40) ∧ (σ 91 = σ 22 ∧ σ 92 = σ 21 ∧ σ 93 = σ 23 ∧ σ 94 = σ 24) ∧ cgO σ
def I4 (σ : Sto) : Prop := tpO σ ∧ σ 9 21 = σ 3 5 ∧ ∀ j, σ 95 j = sbF (σ 25 j)
def I5 (n : Nat) (σ : Sto) : Prop := (σ 88 = σ 74 ∧ σ 89 = σ 75 ∧ σ 111 = σ 76) ∧ (∀ j : Nat, (0 ≤ σ 74 j ∧ σ 74 j ≤ 12 * n) ∧ (σ 1 2 ≤ j → σ 74 j = 0 ∧ σ 75 j = 0)) ∧
  (σ 9 49 = σ 7 6 ∧ σ 114 = σ 79) ∧ (0 ≤ σ 9 50 ∧ σ 9 50 ≤ σ 1 2) ∧ (∀ j : Nat, (0 ≤ σ 77 j ∧ σ 77 j ≤ 12 * n) ∧ ((j : Int) < σ 9 50 → σ 112 j = σ 77 j ∧ σ 113 j = σ 78 j) ∧ (σ 9 50 ≤ j → σ 77 j = 0 ∧ σ 78 j = 0))
def I6 (σ : Sto) : Prop := (σ 9 54 = σ 8 2 ∧ σ 9 56 = σ 8 3) ∧ (0 ≤ σ 8 2 ∧ σ 8 2 ≤ 50) ∧ (σ 115 = σ 80 ∧ σ 116 = σ 81) ∧ (∀ j, 0 ≤ σ 80 j ∧ σ 80 j < 8)
def shR (σ : Sto) (s : Nat) : Prop := (σ 30 s = -1 ∧ σ 117 s = -1) ∨ (σ 30 s = -2 ∧ 0 ≤ σ 31 s ∧ σ 31 s < σ 8 2 ∧ σ 117 s = σ 31 s) ∨ (0 ≤ σ 30 s ∧ σ 30 s ≤ 4 ∧ σ 117 s = -2 - σ 30 s)
def I7 (σ : Sto) : Prop := SH σ ∧ (∀ s : Nat, s < 6 → (0 ≤ σ 118 s ∧ σ 118 s ≤ 60) ∧ (0 ≤ σ 30 s → σ 118 s = σ 32 s)) ∧ (∀ s : Nat, s < 6 → shR σ s) ∧ (∀ s j : Nat, s < 6 → j < 60 → σ 119 (60 * s + j) = σ (34 + s) j) ∧ (∀ s j : Nat, s < 6 → 60 ≤ j → σ (34 + s) j = 0)
def Inv (n : Nat) (σ : Sto) : Prop := (∃ LF, I1 LF σ) ∧ I3 σ ∧ I4 σ ∧ I5 n σ ∧ I6 σ ∧ I7 σ
theorem I5.up {n : Nat} {σ : Sto} (h : I5 n σ) : I5 (n + 1) σ := by
  obtain ⟨h1, h2, h3, h4, h5⟩ := h
  refine ⟨h1, fun j => ⟨?_, (h2 j).2⟩, h3, h4, fun j => ⟨?_, (h5 j).2⟩⟩
  · have := (h2 j).1; omega
  · have := (h5 j).1; omega
theorem I7.sm {σ : Sto} (h6 : I6 σ) (h : I7 σ) : SM σ := fun s h0 h1 => by
  obtain ⟨hS, e18, hr, hel, -⟩ := h
  obtain ⟨s1, s2, s3⟩ := hS s h0 h1
  have hq := hr s.toNat (by omega)
  have hb := h6.2.1
  refine ⟨?_, (e18 s.toNat (by omega)).1, fun e j j0 j1 => ?_⟩
  · rcases hq with q | q | q <;> omega
  · have e30 : σ 30 s.toNat = 0 := by rcases hq with q | q | q <;> omega
    have := s3 e30 j.toNat
    rw [show (60 * s + j).toNat = 60 * s.toNat + j.toNat by omega, hel s.toNat j.toNat (by omega) (by omega)]
    exact this
theorem I1.kc {LF : LFT} {σ τ : Sto} (h : KC σ τ) (hI : I1 LF σ) : I1 LF τ := by
  have k : ∀ a, ¬ (a = 5 ∨ a = 10 ∨ a = 11 ∨ a = 28 ∨ a = 29 ∨ (40 ≤ a ∧ a ≤ 45) ∨ (47 ≤ a ∧ a ≤ 57) ∨ (59 ≤ a ∧ a ≤ 73)) → τ a = σ a := h
  obtain ⟨h1, h2, h3, h4, h5, h6⟩ := hI
  refine ⟨h.wc h1, h2.keep (fun j _ => by rw [k 9 (by omega)]) (fun a _ => k a (by omega)), ?_, ?_, ?_, ?_⟩
  · rw [k 9 (by omega), k 1 (by omega), k 20 (by omega)]; exact h3
  · rw [k 82 (by omega), k 83 (by omega), k 84 (by omega), k 85 (by omega), k 86 (by omega), k 87 (by omega), k 90 (by omega), k 13 (by omega), k 14 (by omega), k 15 (by omega), k 16 (by omega), k 17 (by omega), k 18 (by omega), k 19 (by omega)]; exact h4
  · rw [k 1 (by omega), k 17 (by omega)]; exact h5
  · rw [k 9 (by omega), k 3 (by omega)]; exact h6
theorem I1.km {LF : LFT} {σ τ : Sto} (h : KM σ τ) (hI : I1 LF σ) : I1 LF τ := by
  obtain ⟨h1, h2, h3, h4, h5, h6⟩ := hI
  have k : ∀ a, (a < 9 ∨ (10 ≤ a ∧ a ≤ 100)) → τ a = σ a := fun a ha => h.1 a (by simp only [List.mem_cons, List.not_mem_nil, or_false]; omega) (by omega)
  refine ⟨h1.keep (k 1 (by omega)) (k 3 (by omega)) (k 27 (by omega)) (fun a _ _ => k a (by omega)), h.wm h2 rfl, ?_, ?_, ?_, ?_⟩
  · rw [h.2 1 (by decide), h.2 7 (by decide), h.2 11 (by decide), h.2 13 (by decide), k 1 (by omega), k 20 (by omega)]; exact h3
  · rw [k 82 (by omega), k 83 (by omega), k 84 (by omega), k 85 (by omega), k 86 (by omega), k 87 (by omega), k 90 (by omega), k 13 (by omega), k 14 (by omega), k 15 (by omega), k 16 (by omega), k 17 (by omega), k 18 (by omega), k 19 (by omega)]; exact h4
  · rw [k 1 (by omega), k 17 (by omega)]; exact h5
  · rw [h.2 33 (by decide), k 3 (by omega)]; exact h6
/-- all that the groups behind the first read -/
def rsK (σ τ : Sto) : Prop := (∀ a, a = 1 ∨ a = 2 ∨ a = 3 ∨ a = 7 ∨ a = 8 ∨ (21 ≤ a ∧ a ≤ 25) ∨ (30 ≤ a ∧ a ≤ 39) ∨ (74 ≤ a ∧ a ≤ 81) ∨ a = 88 ∨ a = 89 ∨ (91 ≤ a ∧ a ≤ 95) ∨ (111 ≤ a ∧ a ≤ 119) → τ a = σ a) ∧ (∀ j, j = 14 ∨ j = 15 ∨ j = 21 ∨ j = 49 ∨ j = 50 ∨ j = 54 ∨ j = 56 → τ 9 j = σ 9 j)
theorem I3.rs {σ τ : Sto} (h : rsK σ τ) (hI : I3 σ) : I3 τ := by
  unfold I3 cgO at hI ⊢
  unfold chOK bearR at hI ⊢
  rw [h.2 14 (by omega), h.2 15 (by omega), h.1 1 (by omega), h.1 2 (by omega), h.1 21 (by omega), h.1 22 (by omega), h.1 23 (by omega), h.1 24 (by omega), h.1 91 (by omega), h.1 92 (by omega), h.1 93 (by omega), h.1 94 (by omega)]
  exact hI
theorem I4.rs {σ τ : Sto} (h : rsK σ τ) (hI : I4 σ) : I4 τ := by
  unfold I4 tpO at hI ⊢
  rw [h.2 21 (by omega), h.1 3 (by omega), h.1 25 (by omega), h.1 95 (by omega)]
  exact hI
theorem I5.rs {n : Nat} {σ τ : Sto} (h : rsK σ τ) (hI : I5 n σ) : I5 n τ := by
  unfold I5 at hI ⊢
  rw [h.2 49 (by omega), h.2 50 (by omega), h.1 1 (by omega), h.1 7 (by omega), h.1 74 (by omega), h.1 75 (by omega), h.1 76 (by omega), h.1 77 (by omega), h.1 78 (by omega), h.1 79 (by omega), h.1 88 (by omega), h.1 89 (by omega), h.1 111 (by omega), h.1 112 (by omega), h.1 113 (by omega), h.1 114 (by omega)]
  exact hI
theorem I6.rs {σ τ : Sto} (h : rsK σ τ) (hI : I6 σ) : I6 τ := by
  unfold I6 at hI ⊢
  rw [h.2 54 (by omega), h.2 56 (by omega), h.1 8 (by omega), h.1 80 (by omega), h.1 81 (by omega), h.1 115 (by omega), h.1 116 (by omega)]
  exact hI
theorem SH.cong {σ τ : Sto} (h : ∀ a, 30 ≤ a ∧ a ≤ 39 → τ a = σ a) (hS : SH σ) : SH τ := fun s h1 h2 => by rw [h 30 (by omega), h 32 (by omega), h (34 + s.toNat) (by omega)]; exact hS s h1 h2
theorem I7.cong {σ τ : Sto} (h8 : σ 8 2 ≤ τ 8 2) (h : ∀ a, (30 ≤ a ∧ a ≤ 39) ∨ (117 ≤ a ∧ a ≤ 119) → τ a = σ a) (hI : I7 σ) : I7 τ := by
  obtain ⟨h1, h2, h3, h4, h5⟩ := hI
  refine ⟨SH.cong (fun a ha => h a (by omega)) h1, fun s hs => by rw [h 118 (by omega), h 30 (by omega), h 32 (by omega)]; exact h2 s hs, fun s hs => ?_, fun s j hs hj => by rw [h 119 (by omega), h (34 + s) (by omega)]; exact h4 s j hs hj, fun s j hs hj => by rw [h (34 + s) (by omega)]; exact h5 s j hs hj⟩
  have := h3 s hs
  unfold shR at this ⊢
  rw [h 30 (by omega), h 31 (by omega), h 117 (by omega)]
  rcases this with q | q | q
  · exact Or.inl q
  · exact Or.inr (Or.inl ⟨q.1, q.2.1, by omega, q.2.2.2⟩)
  · exact Or.inr (Or.inr q)
theorem I7.rs {σ τ : Sto} (h : rsK σ τ) (hI : I7 σ) : I7 τ := hI.cong (by rw [h.1 8 (by omega)]; exact Int.le_refl _) (fun a ha => h.1 a (by omega))
theorem rsK.kc {σ τ : Sto} (h : KC σ τ) : rsK σ τ := ⟨fun a ha => h a (by omega), fun j _ => by rw [h 9 (by omega)]⟩
theorem rsK.km {σ τ : Sto} (h : KM σ τ) : rsK σ τ := ⟨fun a ha => h.1 a (by simp only [List.mem_cons, List.not_mem_nil, or_false]; omega) (by omega), fun j hj => h.2 j (by simp only [List.mem_cons, List.not_mem_nil, or_false]; omega)⟩
theorem Inv.kc {n : Nat} {σ τ : Sto} (h : KC σ τ) (hI : Inv n σ) : Inv n τ := by
  obtain ⟨⟨LF, h1⟩, h3, h4, h5, h6, h7⟩ := hI
  exact ⟨⟨LF, h1.kc h⟩, h3.rs (rsK.kc h), h4.rs (rsK.kc h), h5.rs (rsK.kc h), h6.rs (rsK.kc h), h7.rs (rsK.kc h)⟩
theorem Inv.km {n : Nat} {σ τ : Sto} (h : KM σ τ) (hI : Inv n σ) : Inv n τ := by
  obtain ⟨⟨LF, h1⟩, h3, h4, h5, h6, h7⟩ := hI
  exact ⟨⟨LF, h1.km h⟩, h3.rs (rsK.km h), h4.rs (rsK.km h), h5.rs (rsK.km h), h6.rs (rsK.km h), h7.rs (rsK.km h)⟩
theorem Inv.up {n : Nat} {σ : Sto} (hI : Inv n σ) : Inv (n + 1) σ := ⟨hI.1, hI.2.1, hI.2.2.1, hI.2.2.2.1.up, hI.2.2.2.2⟩
theorem Inv.q {n : Nat} {σ σ1 σ2 : Sto} (hI : Inv n σ) (h : KC σ σ1) (g : KM σ1 σ2) : Inv (n + 1) σ2 := ((hI.kc h).km g).up
theorem Inv.sh {n : Nat} {σ : Sto} (hI : Inv n σ) : SH σ := hI.2.2.2.2.2.1
theorem Inv.sm {n : Nat} {σ : Sto} (hI : Inv n σ) : SM σ := I7.sm hI.2.2.2.2.1 hI.2.2.2.2.2
/-! ===== the questions' parts: reference against class ===== -/
theorem e_ps {LF : LFT} {σ : Sto} (h : I1 LF σ) : pasM LF σ = pasC LF σ := by
  obtain ⟨h1, h2, h3, h4, h5, h6⟩ := h
  funext f
  unfold pasM pasC
  rw [h4.1, h4.2.1, h4.2.2.1, h3.2.2.2]
  rw [decide_eq_decide.mpr h6]
theorem e_fi {LF : LFT} {σ : Sto} (h : I1 LF σ) : finM σ = finC σ := by
  funext m
  unfold finM finC
  rw [h.2.2.2.1.2.2.2.2.2.1]
theorem e_hu {LF : LFT} {σ : Sto} (h : I1 LF σ) : hurtM σ = hurtC σ := by
  obtain ⟨h1, h2, h3, h4, h5, h6⟩ := h
  funext X
  unfold hurtM hurtC
  rw [h4.2.2.2.2.1, h4.2.1, h4.2.2.1, h4.2.2.2.2.2.2, h3.2.2.1]
theorem e_hs {LF : LFT} {σ : Sto} (h : I1 LF σ) : huM σ = huS σ := by
  funext s
  unfold huM huS
  rw [e_hu h, h.2.2.1.1]
theorem e_hr {LF : LFT} {σ : Sto} (h : I1 LF σ) (h7 : I7 σ) (s m : Int) : hrM σ s m = hrC σ s m := by
  unfold hrM hrC
  rw [h.2.2.1.2.1]
  by_cases c : ¬ (0 ≤ s ∧ s < 6) ∨ ¬ (-1 ≤ m ∧ m < σ 1 2)
  · rw [if_pos c, if_pos c]
  · rw [if_neg c, if_neg c]
    have := h7.2.2.1 s.toNat (by omega)
    unfold shR at this
    by_cases c1 : σ 30 s.toNat = -1
    · rw [if_pos c1, if_pos (by omega)]
    · rw [if_neg c1, if_neg (by omega)]
      by_cases c2 : σ 30 s.toNat = 0
      · rw [if_pos c2, if_pos (by omega)]
      · rw [if_neg c2, if_neg (by omega)]
theorem e_pr {σ : Sto} (h7 : I7 σ) (t : Int) : prM σ t = prC σ t := by
  unfold prM prC
  by_cases c : ¬ (0 ≤ t ∧ t.tdiv 10 < 6 ∧ t.tmod 10 < 6)
  · rw [if_pos c, if_pos c]
  · rw [if_neg c, if_neg c]
    have hd := dm10 (t := t) (by omega)
    have q1 := h7.2.2.1 (t.tdiv 10).toNat (by omega)
    have q2 := h7.2.2.1 (t.tmod 10).toNat (by omega)
    unfold shR at q1 q2
    by_cases c1 : σ 30 (t.tdiv 10).toNat = -1 ∨ σ 30 (t.tmod 10).toNat = -1
    · rw [if_pos c1, if_pos (by omega)]
    · rw [if_neg c1, if_neg (by omega)]
      by_cases c2 : σ 30 (t.tdiv 10).toNat = 0 ∧ σ 30 (t.tmod 10).toNat = 0
      · rw [if_pos c2, if_pos (by omega)]
      · rw [if_neg c2, if_neg (by omega)]
theorem sayL_cong {R R' : Nat → Int} {w : Int} : ∀ (m i : Nat), (∀ j, i ≤ j → j < i + m → R j = R' j) → sayL R w m i = sayL R' w m i
  | 0, _, _ => rfl
  | m + 1, i, h => by rw [sayL, sayL, h i (by omega) (by omega), sayL_cong m (i + 1) (fun j h1 h2 => h j (by omega) (by omega))]
theorem e_rw {σ : Sto} (h7 : I7 σ) {s : Int} (hs : 0 ≤ s ∧ s < 6) {j : Nat} (hj : j < 60) : rwM σ s j = σ (34 + s.toNat) j := by
  show σ 119 (60 * s + (j : Int)).toNat = _
  rw [show (60 * s + (j : Int)).toNat = 60 * s.toNat + j by omega]
  exact h7.2.2.2.1 s.toNat j (by omega) hj
theorem e_sy {LF : LFT} {σ : Sto} (h : I1 LF σ) (h7 : I7 σ) {s : Int} (hs : 0 ≤ s ∧ s < 6) (h30 : σ 30 s.toNat = 0) : SYM σ s = SYC σ s := by
  unfold SYM SYC
  rw [h.2.2.1.1, (h7.2.1 s.toNat (by omega)).2 (by omega)]
  exact sayL_cong _ _ (fun j _ h2 => e_rw h7 hs (by omega))
theorem e_ml {LF : LFT} {σ : Sto} (h : I1 LF σ) (h7 : I7 σ) {s : Int} (hs : 0 ≤ s ∧ s < 6) (h30 : σ 30 s.toNat = 0) : MLM σ s = MLC σ s := by
  have := (h7.1 s hs.1 hs.2).2.1
  unfold MLM MLC
  rw [h.2.2.1.2.1, (h7.2.1 s.toNat (by omega)).2 (by omega)]
  exact sayL_cong _ _ (fun j _ h2 => e_rw h7 hs (by omega))
