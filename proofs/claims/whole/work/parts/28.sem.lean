/-! ===== what steps are worth: the class's machine and the reference's ===== -/
abbrev VT : Type := (Nat → Int) → Int
def GdC (D : Int) (out : List Int) (V : VT) : Prop := ∀ (S : Nat → Int) (C : Int) (N sk : Nat → Int) (top nx : Int) (t : Nat), (∀ i : Nat, i < out.length → S (nx.toNat + i) = out.getD i 0) → 0 ≤ nx → nx + out.length ≤ C → nx + out.length ≤ 256 → 0 ≤ top → top + D ≤ 64 →
  ∃ sk' : Nat → Int, evF (t + out.length) S C N sk top nx = evF t S C N sk' (top + 1) (nx + out.length) ∧ sk' top.toNat = V N ∧ ∀ j : Nat, (j : Int) < top → sk' j = sk j
def aOf (c : Int) : Int := if 0 ≤ c then 1 else if -6 ≤ c then 2 else if c = -33 then 3 else if c = -126 then 4 else -c
def wOf (c : Int) : Int := if 0 ≤ c then c else if -6 ≤ c then -1 - c else 0
def wkF (A W F : Nat → Int) : Nat → Nat → (Nat → Int) → Int → (Nat → Int)
  | 0, _, P, _ => P
  | r + 1, k, P, n =>
    if A k = 1 then wkF A W F r (k + 1) (up P n.toNat (W k)) (n + 1)
    else if A k = 2 then wkF A W F r (k + 1) (up P n.toNat (F (W k).toNat)) (n + 1)
    else if A k = 3 then wkF A W F r (k + 1) (up P (n - 1).toNat (if P (n - 1).toNat = 0 then 1 else 0)) n
    else if A k = 4 then wkF A W F r (k + 1) (up P (n - 1).toNat (wr (-(P (n - 1).toNat)))) n
    else wkF A W F r (k + 1) (up P (n - 1 - 1).toNat (joinF (A k) (P (n - 1 - 1).toNat) (P (n - 1).toNat))) (n - 1)
def wkS (A W : Nat → Int) : Nat → Nat → Int → Prop
  | 0, _, _ => True
  | r + 1, k, n => (A k = 1 ∧ (0 ≤ n ∧ n < 130) ∧ wkS A W r (k + 1) (n + 1)) ∨ (A k = 2 ∧ (0 ≤ W k ∧ W k < 6) ∧ (0 ≤ n ∧ n < 130) ∧ wkS A W r (k + 1) (n + 1)) ∨ ((A k = 3 ∨ A k = 4) ∧ (1 ≤ n ∧ n ≤ 130) ∧ wkS A W r (k + 1) n) ∨ ((A k = 37 ∨ A k = 38 ∨ A k = 42 ∨ A k = 43 ∨ A k = 45 ∨ A k = 47 ∨ A k = 60 ∨ A k = 61 ∨ A k = 62 ∨ A k = 124) ∧ (2 ≤ n ∧ n < 130) ∧ wkS A W r (k + 1) (n - 1))
def GdM (D : Int) (out : List Int) (V : VT) : Prop := ∀ (A W F P : Nat → Int) (n : Int) (k r : Nat), (∀ i : Nat, i < out.length → A (k + i) = aOf (out.getD i 0) ∧ W (k + i) = wOf (out.getD i 0)) → 0 ≤ n → n + D ≤ 120 →
  (wkS A W r (k + out.length) (n + 1) → wkS A W (r + out.length) k n) ∧ ∃ P' : Nat → Int, wkF A W F (r + out.length) k P n = wkF A W F r (k + out.length) P' (n + 1) ∧ P' n.toNat = V F ∧ ∀ j : Nat, (j : Int) < n → P' j = P j
def GdN (V : VT) : Prop := ∀ N N' : Nat → Int, (∀ i, i < 6 → N i = N' i) → V N = V N'
def Gd (D : Int) (out : List Int) (V : VT) : Prop := GdC D out V ∧ GdM D out V ∧ GdN V ∧ 1 ≤ D
theorem Gd.mono {D D' : Int} {out : List Int} {V : VT} (h : Gd D out V) (hD : D ≤ D') : Gd D' out V :=
  ⟨fun S C N sk top nx t h1 h2 h3 h4 h5 h6 => h.1 S C N sk top nx t h1 h2 h3 h4 h5 (by omega), fun A W F P n k r h1 h2 h3 => h.2.1 A W F P n k r h1 h2 (by omega), h.2.2.1, by have := h.2.2.2; omega⟩
theorem up_eq {f : Nat → Int} {i : Nat} {x : Int} : up f i x i = x := if_pos rfl
theorem up_ne {f : Nat → Int} {i j : Nat} {x : Int} (h : j ≠ i) : up f i x j = f j := if_neg h
theorem Gd.one {c : Int} {V : VT} (hc : -6 ≤ c ∧ c ≤ 100000) (hV : ∀ N, V N = if 0 ≤ c then c else N (-1 - c).toNat) : Gd 1 [c] V := by
  refine ⟨fun S C N sk top nx t h1 h2 h3 h4 h5 h6 => ?_, fun A W F P n k r h1 h2 h3 => ?_, fun N N' h => ?_, by decide⟩
  · have e : S nx.toNat = c := by have := h1 0 (by simp); simpa using this
    simp only [List.length_cons, List.length_nil] at h3 h4 ⊢
    refine ⟨up sk top.toNat (if 0 ≤ c then c else N (-1 - c).toNat), ?_, by rw [up_eq, hV], fun j hj => up_ne (by omega)⟩
    rw [show t + (0 + 1) = t + 1 from rfl, evF, if_pos ⟨h2, by omega, by omega⟩, e, if_pos hc.1, if_neg (by omega)]
    rfl
  · obtain ⟨eA, eW⟩ := h1 0 (by simp)
    simp only [Nat.add_zero, List.getD_cons_zero] at eA eW
    simp only [List.length_cons, List.length_nil]
    by_cases h0 : 0 ≤ c
    · have eA : A k = 1 := by rw [eA, aOf, if_pos h0]
      have eW : W k = c := by rw [eW, wOf, if_pos h0]
      refine ⟨fun q => Or.inl ⟨eA, ⟨h2, by omega⟩, q⟩, up P n.toNat c, ?_, by rw [up_eq, hV, if_pos h0], fun j hj => up_ne (by omega)⟩
      rw [show r + (0 + 1) = r + 1 from rfl, wkF, if_pos eA, eW]
    · have eA : A k = 2 := by rw [eA, aOf, if_neg h0, if_pos hc.1]
      have eW : W k = -1 - c := by rw [eW, wOf, if_neg h0, if_pos hc.1]
      refine ⟨fun q => Or.inr (Or.inl ⟨eA, by omega, ⟨h2, by omega⟩, q⟩), up P n.toNat (F (-1 - c).toNat), ?_, by rw [up_eq, hV, if_neg h0], fun j hj => up_ne (by omega)⟩
      rw [show r + (0 + 1) = r + 1 from rfl, wkF, if_neg (by omega), if_pos eA, eW]
  · rw [hV, hV]
    by_cases h0 : 0 ≤ c
    · rw [if_pos h0, if_pos h0]
    · rw [if_neg h0, if_neg h0, h _ (by omega)]
theorem getD_l {a b : List Int} {i : Nat} (h : i < a.length) : (a ++ b).getD i 0 = a.getD i 0 := by
  simp only [List.getD_eq_getElem?_getD, List.getElem?_append, if_pos h]
theorem getD_r {a b : List Int} {i : Nat} : (a ++ b).getD (a.length + i) 0 = b.getD i 0 := by
  simp only [List.getD_eq_getElem?_getD, List.getElem?_append, if_neg (show ¬ a.length + i < a.length by omega), show a.length + i - a.length = i by omega]
theorem Gd.un {D : Int} {out : List Int} {V : VT} (h : Gd D out V) (c : Int) (g : Int → Int) (hc : (c = -33 ∧ ∀ x, g x = if x = 0 then 1 else 0) ∨ (c = -126 ∧ ∀ x, g x = wr (-x))) : Gd D (out ++ [c]) (fun N => g (V N)) := by
  obtain ⟨hC, hM, hN, hD⟩ := h
  refine ⟨fun S C N sk top nx t h1 h2 h3 h4 h5 h6 => ?_, fun A W F P n k r h1 h2 h3 => ?_, fun N N' q => ?_, hD⟩
  · simp only [List.length_append, List.length_cons, List.length_nil] at h1 h3 h4 ⊢
    obtain ⟨sk', e1, e2, e3⟩ := hC S C N sk top nx (t + 1) (fun i hi => by rw [h1 i (by omega), getD_l hi]) h2 (by omega) (by omega) h5 h6
    have eS : S (nx + (out.length : Int)).toNat = c := by
      have := h1 out.length (by omega)
      rw [show out.length = out.length + 0 from rfl, getD_r] at this
      rw [show (nx + (out.length : Int)).toNat = nx.toNat + (out.length + 0) by omega]
      exact this
    have hs : evF (t + 1) S C N sk' (top + 1) (nx + out.length) = evF t S C N (up sk' top.toNat (g (sk' top.toNat))) (top + 1) (nx + (out.length + (0 + 1) : Nat)) := by
      rw [evF, if_pos ⟨by omega, by omega, by omega⟩, eS, if_neg (by omega), if_neg (by omega), if_neg (by omega), if_neg (by omega), show top + 1 - 1 = top by omega]
      rcases hc with ⟨rfl, hg⟩ | ⟨rfl, hg⟩
      · rw [if_pos rfl, hg]; congr 1; omega
      · rw [if_neg (by decide), if_pos rfl, hg]; congr 1; omega
    refine ⟨up sk' top.toNat (g (sk' top.toNat)), ?_, by rw [up_eq, e2], fun j hj => by rw [up_ne (by omega)]; exact e3 j hj⟩
    rw [← hs, show t + (out.length + (0 + 1)) = t + 1 + out.length by omega]
    exact e1
  · simp only [List.length_append, List.length_cons, List.length_nil] at h1 ⊢
    obtain ⟨s1, P', e1, e2, e3⟩ := hM A W F P n k (r + 1) (fun i hi => by have := h1 i (by omega); rwa [getD_l hi] at this) h2 h3
    obtain ⟨eA, -⟩ := h1 out.length (by omega)
    rw [show out.length = out.length + 0 from rfl, getD_r] at eA
    simp only [Nat.add_zero, List.getD_cons_zero] at eA
    have eA34 : (c = -33 ∧ A (k + out.length) = 3) ∨ (c = -126 ∧ A (k + out.length) = 4) := by
      rcases hc with ⟨rfl, -⟩ | ⟨rfl, -⟩
      · exact Or.inl ⟨rfl, by rw [eA]; rfl⟩
      · exact Or.inr ⟨rfl, by rw [eA]; rfl⟩
    have hs : wkF A W F (r + 1) (k + out.length) P' (n + 1) = wkF A W F r (k + (out.length + (0 + 1))) (up P' n.toNat (g (P' n.toNat))) (n + 1) := by
      rw [wkF, if_neg (by omega), if_neg (by omega), show n + 1 - 1 = n by omega]
      rcases hc with ⟨rfl, hg⟩ | ⟨rfl, hg⟩
      · rw [if_pos (by omega), hg]; rfl
      · rw [if_neg (by omega), if_pos (by omega), hg]; rfl
    refine ⟨fun q => ?_, up P' n.toNat (g (P' n.toNat)), ?_, by rw [up_eq, e2], fun j hj => by rw [up_ne (by omega)]; exact e3 j hj⟩
    · rw [show r + (out.length + (0 + 1)) = r + 1 + out.length by omega]
      exact s1 (Or.inr (Or.inr (Or.inl ⟨by omega, by omega, q⟩)))
    · rw [← hs, show r + (out.length + (0 + 1)) = r + 1 + out.length by omega]
      exact e1
  · show g (V N) = g (V N')
    rw [hN N N' q]
theorem Gd.bin {D : Int} {a b : List Int} {V V' : VT} (h : Gd (D + 1) a V) (h' : Gd D b V') (s : Int) (hs : s = 37 ∨ s = 38 ∨ s = 42 ∨ s = 43 ∨ s = 45 ∨ s = 47 ∨ s = 60 ∨ s = 61 ∨ s = 62 ∨ s = 124) : Gd (D + 1) (a ++ b ++ [-s]) (fun N => joinF s (V N) (V' N)) := by
  obtain ⟨hC, hM, hN, hD⟩ := h
  obtain ⟨hC', hM', hN', hD'⟩ := h'
  have hsR : wr (-(-s)) = s := by rw [Int.neg_neg]; exact wr_id ⟨by omega, by omega⟩
  refine ⟨fun S C N sk top nx t h1 h2 h3 h4 h5 h6 => ?_, fun A W F P n k r h1 h2 h3 => ?_, fun N N' q => ?_, by omega⟩
  · simp only [List.length_append, List.length_cons, List.length_nil] at h1 h3 h4 ⊢
    obtain ⟨sk1, e1, e2, e3⟩ := hC S C N sk top nx (t + 1 + b.length) (fun i hi => by rw [h1 i (by omega), getD_l (by rw [List.length_append]; omega), getD_l hi]) h2 (by omega) (by omega) h5 (by omega)
    obtain ⟨sk2, f1, f2, f3⟩ := hC' S C N sk1 (top + 1) (nx + a.length) (t + 1) (fun i hi => by
      have := h1 (a.length + i) (by omega)
      rw [getD_l (by rw [List.length_append]; omega), getD_r] at this
      rw [show (nx + (a.length : Int)).toNat + i = nx.toNat + (a.length + i) by omega]
      exact this) (by omega) (by omega) (by omega) (by omega) (by omega)
    have eS : S (nx + (a.length : Int) + (b.length : Int)).toNat = -s := by
      have := h1 (a.length + b.length) (by omega)
      rw [show a.length + b.length = (a ++ b).length + 0 by simp, getD_r] at this
      rw [show (nx + (a.length : Int) + (b.length : Int)).toNat = nx.toNat + ((a ++ b).length + 0) by rw [List.length_append]; omega]
      exact this
    have hst : evF (t + 1) S C N sk2 (top + 1 + 1) (nx + a.length + b.length) = evF t S C N (up sk2 top.toNat (joinF s (sk2 top.toNat) (sk2 (top + 1).toNat))) (top + 1) (nx + (a.length + b.length + (0 + 1) : Nat)) := by
      rw [evF, if_pos ⟨by omega, by omega, by omega⟩, eS, if_neg (by omega), if_neg (by omega), if_neg (by omega), if_neg (by omega), if_neg (by omega), if_neg (by omega), if_pos (by omega), hsR, show top + 1 + 1 + -1 - 1 = top by omega, show top + 1 + 1 + -1 = top + 1 by omega]
      congr 1
      omega
    have g1 : sk2 top.toNat = V N := by rw [f3 top.toNat (by omega), e2]
    refine ⟨up sk2 top.toNat (joinF s (sk2 top.toNat) (sk2 (top + 1).toNat)), ?_, by rw [up_eq, g1, f2], fun j hj => by rw [up_ne (by omega), f3 j (by omega)]; exact e3 j hj⟩
    rw [← hst, ← f1, show t + (a.length + b.length + (0 + 1)) = t + 1 + b.length + a.length by omega]
    exact e1
  · simp only [List.length_append, List.length_cons, List.length_nil] at h1 ⊢
    obtain ⟨s1, P1, e1, e2, e3⟩ := hM A W F P n k (r + 1 + b.length) (fun i hi => by have := h1 i (by omega); rwa [getD_l (by rw [List.length_append]; omega), getD_l hi] at this) h2 (by omega)
    obtain ⟨s2, P2, f1, f2, f3⟩ := hM' A W F P1 (n + 1) (k + a.length) (r + 1) (fun i hi => by
      have := h1 (a.length + i) (by omega)
      rw [getD_l (by rw [List.length_append]; omega), getD_r] at this
      rw [show k + a.length + i = k + (a.length + i) by omega]
      exact this) (by omega) (by omega)
    obtain ⟨eA, -⟩ := h1 (a.length + b.length) (by omega)
    rw [show a.length + b.length = (a ++ b).length + 0 by simp, getD_r] at eA
    simp only [Nat.add_zero, List.getD_cons_zero, List.length_append] at eA
    have eA : A (k + a.length + b.length) = s := by
      rw [show k + a.length + b.length = k + (a.length + b.length) by omega, eA, aOf, if_neg (by omega), if_neg (by omega), if_neg (by omega), if_neg (by omega)]
      omega
    have hst : wkF A W F (r + 1) (k + a.length + b.length) P2 (n + 1 + 1) = wkF A W F r (k + (a.length + b.length + (0 + 1))) (up P2 n.toNat (joinF s (P2 n.toNat) (P2 (n + 1).toNat))) (n + 1) := by
      rw [wkF, if_neg (by omega), if_neg (by omega), if_neg (by omega), if_neg (by omega), eA, show n + 1 + 1 - 1 - 1 = n by omega, show n + 1 + 1 - 1 = n + 1 by omega, show k + a.length + b.length + 1 = k + (a.length + b.length + (0 + 1)) by omega]
    have g1 : P2 n.toNat = V F := by rw [f3 n.toNat (by omega), e2]
    refine ⟨fun q => ?_, up P2 n.toNat (joinF s (P2 n.toNat) (P2 (n + 1).toNat)), ?_, by rw [up_eq, g1, f2], fun j hj => by rw [up_ne (by omega), f3 j (by omega)]; exact e3 j hj⟩
    · rw [show r + (a.length + b.length + (0 + 1)) = r + 1 + b.length + a.length by omega]
      refine s1 (s2 (Or.inr (Or.inr (Or.inr ⟨by omega, by omega, ?_⟩))))
      rw [show n + 1 + 1 - 1 = n + 1 by omega, show k + a.length + b.length + 1 = k + (a.length + b.length + (0 + 1)) by omega]
      exact q
    · rw [← hst, ← f1, show r + (a.length + b.length + (0 + 1)) = r + 1 + b.length + a.length by omega]
      exact e1
  · show joinF s (V N) (V' N) = joinF s (V N') (V' N')
    rw [hN N N' q, hN' N N' q]
/-! ===== what is read is worth something ===== -/
def dDF (lvl o : Int) : Int := (6 - o) * 5 + (5 - lvl) + 1
theorem lvO_s {s : Int} (h : 0 ≤ lvO s) : s = 37 ∨ s = 38 ∨ s = 42 ∨ s = 43 ∨ s = 45 ∨ s = 47 ∨ s = 60 ∨ s = 61 ∨ s = 62 ∨ s = 124 := by
  unfold lvO at h
  repeat' split at h
  all_goals omega
theorem lpF_G {nb : Int → Int} {sub : Int → RT} {lvl D : Int} (hl : 0 ≤ lvl) (hs : ∀ a, (sub a).1 = true → ∃ V, Gd D (sub a).2.2 V) : ∀ (t : Nat) (a : Int) (out : List Int), (∃ V, Gd (D + 1) out V) → (lpF sub nb lvl t a out).1 = true → ∃ V, Gd (D + 1) (lpF sub nb lvl t a out).2.2 V
  | 0, a, out, ho, _ => ho
  | t + 1, a, out, ho, h => by
    rw [lpF] at h ⊢
    by_cases h2 : lvO (nb a) = lvl
    · rw [if_pos h2] at h ⊢
      by_cases h4 : (sub (a + 1)).1 = true
      · rw [if_pos h4] at h ⊢
        obtain ⟨V, hV⟩ := ho
        obtain ⟨V', hV'⟩ := hs (a + 1) h4
        exact lpF_G hl hs t _ _ ⟨_, Gd.bin hV hV' (nb a) (lvO_s (by omega))⟩ h
      · rw [if_neg h4] at h
        exact tnf h.symm
    · rw [if_neg h2]
      exact ho
theorem rd_G {nb : Int → Int} (hb : ∀ a, -1 ≤ nb a ∧ nb a ≤ 255) : ∀ (k : Nat) (lvl o a : Int), (0 ≤ lvl ∧ lvl ≤ 5) → (0 ≤ o ∧ o ≤ 6) → (rd nb k lvl o a).1 = true → ∃ V, Gd (dDF lvl o) (rd nb k lvl o a).2.2 V
  | 0, lvl, o, a, hl, ho, h => by simp [rd] at h
  | k + 1, lvl, o, a, hl, ho, h => by
    by_cases g1 : lvl < 5
    · rw [rd_l g1] at h ⊢
      by_cases g2 : (rd nb k (lvl + 1) o a).1 = true
      · rw [if_pos g2] at h ⊢
        obtain ⟨V, hV⟩ := rd_G hb k (lvl + 1) o a (by omega) ho g2
        have e : dDF lvl o = dDF (lvl + 1) o + 1 := by unfold dDF; omega
        rw [e]
        exact lpF_G hl.1 (fun a' q => rd_G hb k (lvl + 1) o a' (by omega) ho q) _ _ _ ⟨V, hV.mono (by omega)⟩ h
      · rw [if_neg g2] at h
        exact tnf h.symm
    · obtain rfl : lvl = 5 := by omega
      rw [rd_5] at h ⊢
      split at h
      · rename_i c; rw [if_pos c]
        have hv := rdN_v hb 4 a 0 (by decide) (by decide)
        exact ⟨fun _ => (rdN nb 4 a 0).1, (Gd.one (by omega) (fun N => by rw [if_pos hv.1])).mono (by unfold dDF; omega)⟩
      · rename_i c; rw [if_neg c]
        split at h
        · rename_i c; rw [if_pos c]
          have hn := nmF_R (nb a)
          exact ⟨fun N => N (-1 - nmF (nb a)).toNat, (Gd.one (by omega) (fun N => by rw [if_neg (by omega)])).mono (by unfold dDF; omega)⟩
        · rename_i c; rw [if_neg c]
          split at h
          · exact tnf h.symm
          · rename_i c; rw [if_neg c]
            split at h
            · rename_i c5; rw [if_pos c5]
              split at h
              · rename_i c6; rw [if_pos c6]
                obtain ⟨V, hV⟩ := rd_G hb k 5 (o + 1) (a + 1) (by omega) (by omega) c6
                by_cases c7 : nb a = 33
                · rw [if_pos c7]
                  exact ⟨fun N => (fun x => if x = 0 then 1 else 0) (V N), (hV.un (-33) (fun x => if x = 0 then 1 else 0) (Or.inl ⟨rfl, fun _ => rfl⟩)).mono (by unfold dDF; omega)⟩
                · rw [if_neg c7]
                  exact ⟨fun N => (fun x => wr (-x)) (V N), (hV.un (-126) (fun x => wr (-x)) (Or.inr ⟨rfl, fun _ => rfl⟩)).mono (by unfold dDF; omega)⟩
              · exact tnf h.symm
            · rename_i c5; rw [if_neg c5]
              split at h
              · rename_i c6; rw [if_pos c6]
                split at h
                · rename_i c7; rw [if_pos c7]
                  split at h
                  · rename_i c8; rw [if_pos c8]
                    obtain ⟨V, hV⟩ := rd_G hb k 0 (o + 1) (a + 1) (by omega) (by omega) c7
                    exact ⟨V, hV.mono (by unfold dDF; omega)⟩
                  · exact tnf h.symm
                · exact tnf h.symm
              · exact tnf h.symm
def LvG : List LN → VT → Prop
  | [], F => ∀ N, F N = 0
  | l :: r, F => ∃ (Vt Ve F' : VT), (l.1 ≠ [] → Gd 36 l.1 Vt) ∧ Gd 36 l.2 Ve ∧ LvG r F' ∧ ∀ N, F N = if l.1 = [] ∨ Vt N ≠ 0 then Ve N else F' N
theorem LvG.N : ∀ {ls : List LN} {F : VT}, LvG ls F → GdN F
  | [], F, h => fun N N' _ => by rw [h N, h N']
  | l :: r, F, ⟨Vt, Ve, F', h1, h2, h3, h4⟩ => fun N N' q => by
    rw [h4 N, h4 N', h2.2.2.1 N N' q, h3.N N N' q]
    by_cases h : l.1 = []
    · rw [if_pos (Or.inl h), if_pos (Or.inl h)]
    · rw [(h1 h).2.2.1 N N' q]
theorem rdls_G {nb : Int → Int} {n : Int} (hb : ∀ a, -1 ≤ nb a ∧ nb a ≤ 255) : ∀ (m : Nat) (a : Int), (rdls nb n m a).1 = true → ∃ F, LvG (rdls nb n m a).2.2 F
  | 0, a, h => ⟨fun _ => 0, fun _ => rfl⟩
  | m + 1, a, h => by
    rw [rdls] at h ⊢
    split at h
    · rename_i c1
      rw [if_pos c1]
      have hl : ∃ (Vt Ve : VT), ((rdl nb a).2.2.1 ≠ [] → Gd 36 (rdl nb a).2.2.1 Vt) ∧ Gd 36 (rdl nb a).2.2.2 Ve := by
        unfold rdl at c1 ⊢
        split at c1
        · rename_i c2; rw [if_pos c2]
          obtain ⟨V, hV⟩ := rd_G hb 48 0 0 a (by omega) (by omega) c2
          split at c1
          · rename_i c3; rw [if_pos c3]
            split at c1
            · rename_i c4; rw [if_pos c4]
              obtain ⟨V', hV'⟩ := rd_G hb 48 0 0 ((rd0 nb a).2.1 + 1) (by omega) (by omega) c4
              exact ⟨V, V', fun _ => hV, hV'⟩
            · exact tnf c1.symm
          · rename_i c3; rw [if_neg c3]
            exact ⟨V, V, fun q => absurd rfl q, hV⟩
        · exact tnf c1.symm
      obtain ⟨Vt, Ve, h1, h2⟩ := hl
      split at h
      · rename_i c2; rw [if_pos c2]
        exact ⟨_, Vt, Ve, fun _ => 0, h1, h2, fun _ => rfl, fun N => rfl⟩
      · rename_i c2; rw [if_neg c2]
        split at h
        · rename_i c3; rw [if_pos c3]
          obtain ⟨F', hF'⟩ := rdls_G hb m ((rdl nb a).2.1 + 1) h
          exact ⟨_, Vt, Ve, F', h1, h2, hF', fun N => rfl⟩
        · exact tnf h.symm
    · exact tnf h.symm
/-- the class's steps of lines are worth what the lines are -/
theorem evF_lines {S : Nat → Int} {C : Int} (hC : C ≤ 256) : ∀ (ls : List LN) (F : VT) (d : Int) (t : Nat) (N sk : Nat → Int), LvG ls F → 0 ≤ d → (∀ i : Nat, i < (clS d ls).length → S (d.toNat + i) = (clS d ls).getD i 0) → C = d + (clS d ls).length → (clS d ls).length ≤ t → evF t S C N sk 0 d = F N
  | [], F, d, t, N, sk, hF, hd, hS, hCd, ht => by
    simp only [clS, List.length_nil] at hCd
    rw [hF N]
    cases t with
    | zero => rfl
    | succ t => rw [evF, if_neg (by omega)]
  | l :: r, F, d, t, N, sk, ⟨Vt, Ve, F', h1, h2, h3, h4⟩, hd, hS, hCd, ht => by
    rw [h4 N]
    have hlen : (clS d (l :: r)).length = (clL d l).length + (clS (d + (clL d l).length) r).length := by rw [clS, List.length_append]
    have hSl : ∀ i : Nat, i < (clL d l).length → S (d.toNat + i) = (clL d l).getD i 0 := fun i hi => by rw [hS i (by omega), clS, getD_l hi]
    have hSr : ∀ i : Nat, i < (clS (d + (clL d l).length) r).length → S ((d + (clL d l).length).toNat + i) = (clS (d + (clL d l).length) r).getD i 0 := fun i hi => by
      have := hS ((clL d l).length + i) (by omega)
      rw [clS, getD_r] at this
      rw [show (d + ((clL d l).length : Int)).toNat + i = d.toNat + ((clL d l).length + i) by omega]
      exact this
    by_cases hl : l.1 = []
    · rw [if_pos (Or.inl hl)]
      have ec : clL d l = l.2 ++ [-59] := by rw [clL, if_pos hl]
      rw [ec] at hSl hlen
      simp only [List.length_append, List.length_cons, List.length_nil] at hSl hlen
      obtain ⟨sk', e1, e2, e3⟩ := h2.1 S C N sk 0 d (t - l.2.length) (fun i hi => by rw [hSl i (by omega), getD_l hi]) hd (by omega) (by omega) (by decide) (by decide)
      have eS : S (d + (l.2.length : Int)).toNat = -59 := by
        have := hSl l.2.length (by omega)
        rw [show l.2.length = l.2.length + 0 from rfl, getD_r] at this
        rw [show (d + (l.2.length : Int)).toNat = d.toNat + (l.2.length + 0) by omega]
        exact this
      rw [show t = (t - l.2.length) + l.2.length by omega, e1, show t - l.2.length = (t - l.2.length - 1) + 1 by omega, evF, if_pos ⟨by omega, by omega, by omega⟩, eS, if_neg (by omega), if_neg (by omega), if_pos rfl, ← e2]
      rfl
    · have ec : clL d l = l.1 ++ ([-63] ++ ([d + l.1.length + 1 + 1 + l.2.length + 1] ++ (l.2 ++ [-59]))) := by rw [clL, if_neg hl]; simp
      have elen : (clL d l).length = l.1.length + (1 + (1 + (l.2.length + 1))) := by rw [ec]; simp; omega
      obtain ⟨sk', e1, e2, e3⟩ := (h1 hl).1 S C N sk 0 d (t - l.1.length) (fun i hi => by rw [hSl i (by omega), ec, getD_l hi]) hd (by omega) (by omega) (by decide) (by decide)
      have eS : S (d + (l.1.length : Int)).toNat = -63 := by
        have := hSl l.1.length (by omega)
        rw [ec, show l.1.length = l.1.length + 0 from rfl, getD_r] at this
        rw [show (d + (l.1.length : Int)).toNat = d.toNat + (l.1.length + 0) by omega]
        exact this
      have eT : S (d + (l.1.length : Int) + 1).toNat = d + (clL d l).length := by
        have := hSl (l.1.length + 1) (by omega)
        rw [ec, getD_r] at this
        rw [show (d + (l.1.length : Int) + 1).toNat = d.toNat + (l.1.length + 1) by omega, elen]
        refine this.trans ?_
        show d + l.1.length + 1 + 1 + l.2.length + 1 = _
        omega
      rw [show t = (t - l.1.length) + l.1.length by omega, e1, show t - l.1.length = (t - l.1.length - 1) + 1 by omega, evF, if_pos ⟨by omega, by omega, by omega⟩, eS, if_neg (by omega), if_neg (by omega), if_neg (by omega), if_pos rfl, show (0 : Int) + 1 + -1 = 0 from rfl]
      have e2 : sk' (0 : Int).toNat = Vt N := e2
      by_cases hv : Vt N = 0
      · rw [if_neg (by rw [e2]; omega), if_neg (fun q => q.elim hl (fun w => w hv)), eT]
        exact evF_lines hC r F' (d + (clL d l).length) _ N sk' h3 (by omega) hSr (by omega) (by omega)
      · rw [if_pos (Or.inl (by rw [e2]; exact hv)), if_pos (Or.inr hv)]
        obtain ⟨sk2, f1, f2, f3⟩ := h2.1 S C N sk' 0 (d + l.1.length + 1 + 1) (t - l.1.length - 1 - l.2.length) (fun i hi => by
          have := hSl (l.1.length + (1 + (1 + i))) (by omega)
          rw [ec, getD_r] at this
          rw [show (d + (l.1.length : Int) + 1 + 1).toNat + i = d.toNat + (l.1.length + (1 + (1 + i))) by omega, this, show 1 + (1 + i) = ([-63] : List Int).length + (([d + l.1.length + 1 + 1 + l.2.length + 1] : List Int).length + i) from rfl, getD_r, getD_r, getD_l hi]) (by omega) (by omega) (by omega) (by decide) (by decide)
        have eE : S (d + (l.1.length : Int) + 1 + 1 + (l.2.length : Int)).toNat = -59 := by
          have := hSl (l.1.length + (1 + (1 + (l.2.length + 0)))) (by omega)
          rw [ec, getD_r, show 1 + (1 + (l.2.length + 0)) = ([-63] : List Int).length + (([d + l.1.length + 1 + 1 + l.2.length + 1] : List Int).length + (l.2.length + 0)) from rfl, getD_r, getD_r, getD_r] at this
          rw [show (d + (l.1.length : Int) + 1 + 1 + (l.2.length : Int)).toNat = d.toNat + (l.1.length + (1 + (1 + (l.2.length + 0)))) by omega]
          exact this
        rw [show t - l.1.length - 1 = (t - l.1.length - 1 - l.2.length) + l.2.length by omega, f1, show t - l.1.length - 1 - l.2.length = (t - l.1.length - 1 - l.2.length - 1) + 1 by omega, evF, if_pos ⟨by omega, by omega, by omega⟩, eE, if_neg (by omega), if_neg (by omega), if_pos rfl, ← f2]
        rfl
