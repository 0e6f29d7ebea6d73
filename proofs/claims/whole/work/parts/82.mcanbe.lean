/-! ===== The reference's questions: what can be said in just so many words ===== -/
def anF (b : Int → Bool) : Nat → Int → Bool
  | 0, _ => false
  | m + 1, w => b w || anF b m (w + 1)
theorem anF_ex {b : Int → Bool} : ∀ (m : Nat) (w : Int), anF b m w = true → ∃ x, w ≤ x ∧ x < w + m ∧ b x = true
  | 0, _, h => absurd h (by rw [anF]; decide)
  | m + 1, w, h => by
    rw [anF, Bool.or_eq_true] at h
    rcases h with h | h
    · exact ⟨w, Int.le_refl _, by omega, h⟩
    · obtain ⟨x, h1, h2, h3⟩ := anF_ex m (w + 1) h
      exact ⟨x, by omega, by omega, h3⟩
theorem anF_in {b : Int → Bool} {x : Int} (hb : b x = true) : ∀ (m : Nat) (w : Int), w ≤ x → x < w + m → anF b m w = true
  | 0, w, h1, h2 => by omega
  | m + 1, w, h1, h2 => by
    rw [anF, Bool.or_eq_true]
    by_cases h : x = w
    · exact Or.inl (by rw [← h]; exact hb)
    · exact Or.inr (anF_in hb m (w + 1) (by omega) (by omega))
def myP (ps : Int → Int → Int → Bool) (S : Nat → Int) (X : List Int) (p : Int) (N : Nat → Bool) (c w : Int) : Bool :=
  decide (S w.toNat = min p 2) && (if ps w p (p - c) = true then decide (c < X.length ∧ X.getD c.toNat 0 = w) && N (c + 1).toNat else N c.toNat)
def cbF (ps : Int → Int → Int → Bool) (S : Nat → Int) (X : List Int) (wn n : Nat) : Nat → Nat → Bool
  | 0, c => decide (c = X.length)
  | k + 1, c => decide ((c : Int) ≤ (n : Int) - ((k + 1 : Nat) : Int)) && anF (fun w => myP ps S X ((n : Int) - ((k + 1 : Nat) : Int)) (cbF ps S X wn n k) c w) wn 0
theorem mnF_mem {f : Int → Int} : ∀ (m : Nat) (w acc x : Int), w ≤ x → x < w + m → mnF f m w acc ≤ f x
  | 0, w, acc, x, h1, h2 => by omega
  | m + 1, w, acc, x, h1, h2 => by
    rw [mnF]
    by_cases h : x = w
    · subst h
      exact Int.le_trans (mnF_le m _ _) (by omega)
    · exact mnF_mem m (w + 1) _ x (by omega) (by omega)
theorem mnF_ge {f : Int → Int} {t : Int} (hf : ∀ x, t ≤ f x) : ∀ (m : Nat) (w acc : Int), t ≤ acc → t ≤ mnF f m w acc
  | 0, _, _, h => h
  | m + 1, w, acc, h => by
    have := hf w
    exact mnF_ge hf m (w + 1) _ (by omega)
theorem nwP_ge {ps : Int → Int → Int → Bool} {S : Nat → Int} {X : List Int} {p : Int} {N : Nat → Int} {c w t : Int} (ht : t ≤ 99) (hN : ∀ b, t ≤ N b) : t + 1 ≤ nwP ps S X p N c w := by
  have h1 := hN (c + 1).toNat
  have h2 := hN c.toNat
  unfold nwP
  split
  · split
    · split <;> omega
    · omega
  · omega
section
variable {ps : Int → Int → Int → Bool} {S : Nat → Int} {X : List Int} {wn n : Nat}
theorem cb_nd (hn : 2 ≤ n ∧ n ≤ 10) : ∀ (k c : Nat), k ≤ n → cbF ps S X wn n k c = true → ndA ps S X wn ((n : Int) - (k : Int)) (c : Int) ≤ k
  | 0, c, hk, h => by
    rw [cbF, decide_eq_true_eq] at h
    have e := ndA_eq (ps := ps) (S := S) (X := X) (wn := wn) (p := (n : Int) - ((0 : Nat) : Int)) (c := (c : Int)) (by omega) (by omega)
    rw [if_pos (by omega)] at e
    omega
  | k + 1, c, hk, h => by
    rw [cbF, Bool.and_eq_true, decide_eq_true_eq] at h
    obtain ⟨h1, h2⟩ := h
    obtain ⟨w, q1, q2, q3⟩ := anF_ex wn 0 h2
    have e := ndA_eq (ps := ps) (S := S) (X := X) (wn := wn) (p := (n : Int) - ((k + 1 : Nat) : Int)) (c := (c : Int)) (by omega) (by omega)
    by_cases g : (c : Int) = X.length ∧ 2 ≤ (n : Int) - ((k + 1 : Nat) : Int)
    · rw [if_pos g] at e
      omega
    · rw [if_neg g] at e
      have h4 := mnF_mem (f := fun w => nwP ps S X ((n : Int) - ((k + 1 : Nat) : Int)) (fun b => ndA ps S X wn ((n : Int) - ((k + 1 : Nat) : Int) + 1) b) (c : Int) w) wn 0 100 w q1 q2
      rw [← e] at h4
      refine Int.le_trans h4 ?_
      show nwP ps S X ((n : Int) - ((k + 1 : Nat) : Int)) (fun b => ndA ps S X wn ((n : Int) - ((k + 1 : Nat) : Int) + 1) b) (c : Int) w ≤ _
      unfold myP at q3
      rw [Bool.and_eq_true, decide_eq_true_eq] at q3
      obtain ⟨m1, m2⟩ := q3
      unfold nwP
      rw [if_pos ⟨by omega, m1⟩]
      by_cases q : ps w ((n : Int) - ((k + 1 : Nat) : Int)) ((n : Int) - ((k + 1 : Nat) : Int) - (c : Int)) = true
      · rw [if_pos q] at m2 ⊢
        rw [Bool.and_eq_true, decide_eq_true_eq] at m2
        rw [if_pos m2.1]
        have := cb_nd hn k ((c : Int) + 1).toNat (by omega) m2.2
        rw [show (n : Int) - ((k + 1 : Nat) : Int) + 1 = (n : Int) - (k : Int) by omega]
        dsimp only
        omega
      · rw [if_neg q] at m2 ⊢
        have := cb_nd hn k ((c : Int)).toNat (by omega) m2
        rw [show (n : Int) - ((k + 1 : Nat) : Int) + 1 = (n : Int) - (k : Int) by omega]
        dsimp only
        omega
theorem cb_len : ∀ (k c : Nat), cbF ps S X wn n k c = true → X.length ≤ c + k
  | 0, c, h => by
    rw [cbF, decide_eq_true_eq] at h
    omega
  | k + 1, c, h => by
    rw [cbF, Bool.and_eq_true] at h
    obtain ⟨w, q1, q2, q3⟩ := anF_ex wn 0 h.2
    unfold myP at q3
    rw [Bool.and_eq_true] at q3
    have m2 := q3.2
    by_cases q : ps w ((n : Int) - ((k + 1 : Nat) : Int)) ((n : Int) - ((k + 1 : Nat) : Int) - (c : Int)) = true
    · rw [if_pos q, Bool.and_eq_true] at m2
      have := cb_len k _ m2.2
      omega
    · rw [if_neg q] at m2
      have := cb_len k _ m2
      omega
theorem nd_cb (hn : 2 ≤ n ∧ n ≤ 10) : ∀ (k c : Nat), k ≤ n → (c : Int) ≤ (n : Int) - (k : Int) → c ≤ X.length → ndA ps S X wn ((n : Int) - (k : Int)) (c : Int) = k → cbF ps S X wn n k c = true
  | 0, c, hk, hc, hx, h => by
    have e := ndA_eq (ps := ps) (S := S) (X := X) (wn := wn) (p := (n : Int) - ((0 : Nat) : Int)) (c := (c : Int)) (by omega) (by omega)
    rw [cbF]
    by_cases g : (c : Int) = X.length ∧ 2 ≤ (n : Int) - ((0 : Nat) : Int)
    · exact decide_eq_true (by omega)
    · rw [if_neg g] at e
      have := mnF_ge (f := fun w => nwP ps S X ((n : Int) - ((0 : Nat) : Int)) (fun b => ndA ps S X wn ((n : Int) - ((0 : Nat) : Int) + 1) b) (c : Int) w) (t := 1) (fun x => nwP_ge (t := 0) (by decide) (fun b => (ndF_R _ _).1)) wn 0 100 (by decide)
      omega
  | k + 1, c, hk, hc, hx, h => by
    have e := ndA_eq (ps := ps) (S := S) (X := X) (wn := wn) (p := (n : Int) - ((k + 1 : Nat) : Int)) (c := (c : Int)) (by omega) (by omega)
    by_cases g : (c : Int) = X.length ∧ 2 ≤ (n : Int) - ((k + 1 : Nat) : Int)
    · rw [if_pos g] at e
      omega
    · rw [if_neg g] at e
      have hm := fsF_mn (f := fun w => nwP ps S X ((n : Int) - ((k + 1 : Nat) : Int)) (fun b => ndA ps S X wn ((n : Int) - ((k + 1 : Nat) : Int) + 1) b) (c : Int) w) wn 0 100 (by omega) (by rw [← e]; omega)
      rw [← e, h] at hm
      obtain ⟨m1, m2, m3⟩ := hm
      generalize fsF (fun w => nwP ps S X ((n : Int) - ((k + 1 : Nat) : Int)) (fun b => ndA ps S X wn ((n : Int) - ((k + 1 : Nat) : Int) + 1) b) (c : Int) w) ((k + 1 : Nat) : Int) wn 0 = w at m1 m2 m3
      have m3 : nwP ps S X ((n : Int) - ((k + 1 : Nat) : Int)) (fun b => ndA ps S X wn ((n : Int) - ((k + 1 : Nat) : Int) + 1) b) (c : Int) w = ((k + 1 : Nat) : Int) := m3
      rw [cbF, Bool.and_eq_true, decide_eq_true_eq]
      refine ⟨hc, anF_in (x := w) ?_ wn 0 m1 m2⟩
      unfold nwP at m3
      show myP ps S X ((n : Int) - ((k + 1 : Nat) : Int)) (cbF ps S X wn n k) (c : Int) w = true
      unfold myP
      by_cases g1 : (n : Int) - ((k + 1 : Nat) : Int) < 10 ∧ S w.toNat = min ((n : Int) - ((k + 1 : Nat) : Int)) 2
      · rw [if_pos g1] at m3
        rw [Bool.and_eq_true, decide_eq_true_eq]
        refine ⟨g1.2, ?_⟩
        by_cases q : ps w ((n : Int) - ((k + 1 : Nat) : Int)) ((n : Int) - ((k + 1 : Nat) : Int) - (c : Int)) = true
        · rw [if_pos q] at m3 ⊢
          by_cases g2 : (c : Int) < X.length ∧ X.getD ((c : Int)).toNat 0 = w
          · rw [if_pos g2] at m3
            rw [Bool.and_eq_true, decide_eq_true_eq]
            refine ⟨g2, nd_cb hn k ((c : Int) + 1).toNat (by omega) (by omega) (by omega) ?_⟩
            rw [show (n : Int) - ((k + 1 : Nat) : Int) + 1 = (n : Int) - (k : Int) by omega] at m3
            dsimp only at m3
            omega
          · rw [if_neg g2] at m3
            omega
        · rw [if_neg q] at m3 ⊢
          refine nd_cb hn k ((c : Int)).toNat (by omega) (by omega) (by omega) ?_
          rw [show (n : Int) - ((k + 1 : Nat) : Int) + 1 = (n : Int) - (k : Int) by omega] at m3
          dsimp only at m3
          omega
      · rw [if_neg g1] at m3
        omega
theorem nw_my (hn : 2 ≤ n ∧ n ≤ 10) {k c : Nat} (hk : k + 1 ≤ n) (hc : (c : Int) ≤ (n : Int) - ((k + 1 : Nat) : Int)) (hx : c ≤ X.length) (h : ndA ps S X wn ((n : Int) - ((k + 1 : Nat) : Int)) (c : Int) = ((k + 1 : Nat) : Int)) {w : Int} (hw : 0 ≤ w ∧ w < wn) :
    nwP ps S X ((n : Int) - ((k + 1 : Nat) : Int)) (fun b => ndA ps S X wn ((n : Int) - ((k + 1 : Nat) : Int) + 1) b) (c : Int) w = ((k + 1 : Nat) : Int) ↔ myP ps S X ((n : Int) - ((k + 1 : Nat) : Int)) (cbF ps S X wn n k) (c : Int) w = true := by
  have e := ndA_eq (ps := ps) (S := S) (X := X) (wn := wn) (p := (n : Int) - ((k + 1 : Nat) : Int)) (c := (c : Int)) (by omega) (by omega)
  have g : ¬ ((c : Int) = X.length ∧ 2 ≤ (n : Int) - ((k + 1 : Nat) : Int)) := fun g => by rw [if_pos g] at e; omega
  rw [if_neg g] at e
  have h4 := mnF_mem (f := fun w => nwP ps S X ((n : Int) - ((k + 1 : Nat) : Int)) (fun b => ndA ps S X wn ((n : Int) - ((k + 1 : Nat) : Int) + 1) b) (c : Int) w) wn 0 100 w hw.1 (by omega)
  rw [← e, h] at h4
  have h4 : ((k + 1 : Nat) : Int) ≤ nwP ps S X ((n : Int) - ((k + 1 : Nat) : Int)) (fun b => ndA ps S X wn ((n : Int) - ((k + 1 : Nat) : Int) + 1) b) (c : Int) w := h4
  constructor
  · intro m3
    clear h4
    unfold nwP at m3
    unfold myP
    by_cases g1 : (n : Int) - ((k + 1 : Nat) : Int) < 10 ∧ S w.toNat = min ((n : Int) - ((k + 1 : Nat) : Int)) 2
    · rw [if_pos g1] at m3
      rw [Bool.and_eq_true, decide_eq_true_eq]
      refine ⟨g1.2, ?_⟩
      by_cases q : ps w ((n : Int) - ((k + 1 : Nat) : Int)) ((n : Int) - ((k + 1 : Nat) : Int) - (c : Int)) = true
      · rw [if_pos q] at m3 ⊢
        by_cases g2 : (c : Int) < X.length ∧ X.getD ((c : Int)).toNat 0 = w
        · rw [if_pos g2] at m3
          rw [Bool.and_eq_true, decide_eq_true_eq]
          refine ⟨g2, nd_cb hn k ((c : Int) + 1).toNat (by omega) (by omega) (by omega) ?_⟩
          rw [show (n : Int) - ((k + 1 : Nat) : Int) + 1 = (n : Int) - (k : Int) by omega] at m3
          dsimp only at m3
          omega
        · rw [if_neg g2] at m3
          omega
      · rw [if_neg q] at m3 ⊢
        refine nd_cb hn k ((c : Int)).toNat (by omega) (by omega) (by omega) ?_
        rw [show (n : Int) - ((k + 1 : Nat) : Int) + 1 = (n : Int) - (k : Int) by omega] at m3
        dsimp only at m3
        omega
    · rw [if_neg g1] at m3
      omega
  · intro q3
    refine Int.le_antisymm ?_ h4
    clear h4
    unfold myP at q3
    rw [Bool.and_eq_true, decide_eq_true_eq] at q3
    obtain ⟨m1, m2⟩ := q3
    unfold nwP
    rw [if_pos ⟨by omega, m1⟩]
    by_cases q : ps w ((n : Int) - ((k + 1 : Nat) : Int)) ((n : Int) - ((k + 1 : Nat) : Int) - (c : Int)) = true
    · rw [if_pos q] at m2 ⊢
      rw [Bool.and_eq_true, decide_eq_true_eq] at m2
      rw [if_pos m2.1]
      have := cb_nd hn k ((c : Int) + 1).toNat (by omega) m2.2
      rw [show (n : Int) - ((k + 1 : Nat) : Int) + 1 = (n : Int) - (k : Int) by omega]
      dsimp only
      omega
    · rw [if_neg q] at m2 ⊢
      have := cb_nd hn k ((c : Int)).toNat (by omega) m2
      rw [show (n : Int) - ((k + 1 : Nat) : Int) + 1 = (n : Int) - (k : Int) by omega]
      dsimp only
      omega
theorem nd_2 : 2 ≤ ndA ps S X wn 0 0 := by
  have h1 : ∀ c : Nat, 1 ≤ ndA ps S X wn (0 + 1) (c : Int) := fun c => by
    have e := ndA_eq (ps := ps) (S := S) (X := X) (wn := wn) (p := 0 + 1) (c := (c : Int)) (by omega) (by omega)
    rw [if_neg (by omega)] at e
    rw [e]
    exact mnF_ge (t := 1) (fun x => nwP_ge (t := 0) (by decide) (fun b => (ndF_R _ _).1)) wn 0 100 (by decide)
  have e := ndA_eq (ps := ps) (S := S) (X := X) (wn := wn) (p := 0) (c := 0) (by omega) (by omega)
  rw [if_neg (by omega)] at e
  rw [e]
  exact mnF_ge (t := 2) (fun x => nwP_ge (t := 1) (by decide) h1) wn 0 100 (by decide)
end
/-- the table by its places -/
def cbA (ps : Int → Int → Int → Bool) (S : Nat → Int) (X : List Int) (wn n a b : Nat) : Bool := cbF ps S X wn n (n - a) b
theorem cbA_n {ps : Int → Int → Int → Bool} {S : Nat → Int} {X : List Int} {wn n b : Nat} : cbA ps S X wn n n b = decide (b = X.length) := by
  unfold cbA
  rw [Nat.sub_self, cbF]
theorem cbA_eq {ps : Int → Int → Int → Bool} {S : Nat → Int} {X : List Int} {wn n : Nat} {p c : Int} (hp : 0 ≤ p ∧ p < n) (hc : 0 ≤ c) : cbA ps S X wn n p.toNat c.toNat = (decide (c ≤ p) && anF (fun w => myP ps S X p (cbA ps S X wn n (p + 1).toNat) c w) wn 0) := by
  obtain ⟨k, hk⟩ : ∃ k : Nat, n - p.toNat = k + 1 := ⟨n - p.toNat - 1, by omega⟩
  have e1 : (n : Int) - ((k + 1 : Nat) : Int) = p := by omega
  have e2 : cbA ps S X wn n (p + 1).toNat = cbF ps S X wn n k := by
    funext b
    unfold cbA
    rw [show n - (p + 1).toNat = k by omega]
  rw [e2]
  unfold cbA
  rw [hk, cbF, e1, show ((c.toNat : Nat) : Int) = c by omega]
