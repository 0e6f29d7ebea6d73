/-! ===== Law: lines ===== -/
abbrev LN : Type := List Int × List Int
def rdl (nb : Int → Int) (a : Int) : Bool × Int × LN :=
  if (rd0 nb a).1 = true then
    (if nb (rd0 nb a).2.1 = 63 then (if (rd0 nb ((rd0 nb a).2.1 + 1)).1 = true then (true, (rd0 nb ((rd0 nb a).2.1 + 1)).2.1, ((rd0 nb a).2.2, (rd0 nb ((rd0 nb a).2.1 + 1)).2.2)) else (false, (rd0 nb ((rd0 nb a).2.1 + 1)).2.1, ([], []))) else (true, (rd0 nb a).2.1, ([], (rd0 nb a).2.2)))
  else (false, (rd0 nb a).2.1, ([], []))
def rdls (nb : Int → Int) (n : Int) : Nat → Int → Bool × Int × List LN
  | 0, a => (true, a, [])
  | m + 1, a =>
    if (rdl nb a).1 = true then
      (if n ≤ (rdl nb a).2.1 then (true, (rdl nb a).2.1, [(rdl nb a).2.2])
      else if nb (rdl nb a).2.1 = 59 then ((rdls nb n m ((rdl nb a).2.1 + 1)).1, (rdls nb n m ((rdl nb a).2.1 + 1)).2.1, (rdl nb a).2.2 :: (rdls nb n m ((rdl nb a).2.1 + 1)).2.2)
      else (false, (rdl nb a).2.1, []))
    else (false, (rdl nb a).2.1, [])
def clL (d : Int) (l : LN) : List Int := if l.1 = [] then l.2 ++ [-59] else l.1 ++ [-63] ++ [d + l.1.length + 1 + 1 + l.2.length + 1] ++ l.2 ++ [-59]
def clS : Int → List LN → List Int
  | _, [] => []
  | d, l :: r => clL d l ++ clS (d + (clL d l).length) r
theorem rd0_R {σ : Sto} {a : Int} (h0 : 0 ≤ a) (h1 : a ≤ σ 3 5) : rdOk (σ 3 5) a (rd0 (nbS σ) a) := rd_RS 48 0 0 a (by omega) h0 h1
theorem rdl_R {σ : Sto} {a : Int} (h0 : 0 ≤ a) (h1 : a ≤ σ 3 5) (d : Int) : a ≤ (rdl (nbS σ) a).2.1 ∧ (rdl (nbS σ) a).2.1 ≤ σ 3 5 ∧ ((rdl (nbS σ) a).1 = true → a < (rdl (nbS σ) a).2.1 ∧ ((clL d (rdl (nbS σ) a).2.2).length : Int) ≤ (rdl (nbS σ) a).2.1 - a + 2) := by
  obtain ⟨s1, s2, s3⟩ := rd0_R h0 h1
  unfold rdl
  by_cases g1 : (rd0 (nbS σ) a).1 = true
  · rw [if_pos g1]
    obtain ⟨s4, s5⟩ := s3 g1
    by_cases g2 : nbS σ (rd0 (nbS σ) a).2.1 = 63
    · rw [if_pos g2]
      have hlt := nbS_lt (σ := σ) (a := (rd0 (nbS σ) a).2.1) (by omega)
      obtain ⟨t1, t2, t3⟩ := rd0_R (σ := σ) (a := (rd0 (nbS σ) a).2.1 + 1) (by omega) (by omega)
      by_cases g3 : (rd0 (nbS σ) ((rd0 (nbS σ) a).2.1 + 1)).1 = true
      · rw [if_pos g3]
        obtain ⟨t4, t5⟩ := t3 g3
        refine ⟨by simp only; omega, t2, fun _ => ⟨by simp only; omega, ?_⟩⟩
        simp only [clL]
        split
        · simp only [List.length_append, List.length_cons, List.length_nil]; omega
        · simp only [List.length_append, List.length_cons, List.length_nil]; omega
      · rw [if_neg g3]
        exact ⟨by simp only; omega, t2, fun q => tnf q.symm⟩
    · rw [if_neg g2]
      refine ⟨s1, s2, fun _ => ⟨s4, ?_⟩⟩
      simp only [clL, if_true, List.length_append, List.length_cons, List.length_nil]
      omega
  · rw [if_neg g1]
    exact ⟨s1, s2, fun q => tnf q.symm⟩
theorem rd0_ne {σ : Sto} {a : Int} : ∀ (k : Nat) (lvl o a : Int), (rd (nbS σ) k lvl o a).1 = true → (rd (nbS σ) k lvl o a).2.2 ≠ []
  | 0, lvl, o, a, h => by simp [rd] at h
  | k + 1, lvl, o, a, h => by
    by_cases g1 : lvl < 5
    · rw [rd_l g1] at h ⊢
      by_cases g2 : (rd (nbS σ) k (lvl + 1) o a).1 = true
      · rw [if_pos g2] at h ⊢
        have key : ∀ (sub : Int → RT) (t : Nat) (b : Int) (out : List Int), out ≠ [] → (lpF sub (nbS σ) lvl t b out).1 = true → (lpF sub (nbS σ) lvl t b out).2.2 ≠ [] := by
          intro sub t
          induction t with
          | zero => intro b out ho _; exact ho
          | succ t ih =>
            intro b out ho hh
            rw [lpF] at hh ⊢
            split at hh
            · rename_i c1
              rw [if_pos c1]
              split at hh
              · rename_i c2
                rw [if_pos c2]
                exact ih _ _ (by simp) hh
              · exact tnf hh.symm
            · rename_i c1
              rw [if_neg c1]
              exact ho
        exact key _ _ _ _ (rd0_ne (a := a) k (lvl + 1) o a g2) h
      · rw [if_neg g2] at h
        exact tnf h.symm
    · rw [rd, if_neg g1] at h ⊢
      split at h
      · rename_i c; rw [if_pos c]; simp
      · rename_i c; rw [if_neg c]
        split at h
        · rename_i c; rw [if_pos c]; simp
        · rename_i c; rw [if_neg c]
          split at h
          · exact tnf h.symm
          · rename_i c; rw [if_neg c]
            split at h
            · rename_i c; rw [if_pos c]
              split at h
              · rename_i c; rw [if_pos c]; simp
              · exact tnf h.symm
            · rename_i c; rw [if_neg c]
              split at h
              · rename_i c; rw [if_pos c]
                split at h
                · rename_i c; rw [if_pos c]
                  split at h
                  · rename_i c2; rw [if_pos c2]
                    exact rd0_ne (a := a) k 0 (o + 1) (a + 1) c
                  · exact tnf h.symm
                · exact tnf h.symm
              · exact tnf h.symm
theorem Seg.patch {σ : Sto} {k : Nat} {x y : Int} {ys : List Int} : ∀ {xs : List Int} {i : Nat}, Seg σ k i (xs ++ x :: ys) → Seg (z_put σ k (i + xs.length) y) k i (xs ++ y :: ys)
  | [], i, h => ⟨by simp [z_rd], Seg.cong (fun j h1 _ => by rw [z_rd, if_pos rfl, if_neg (by simp; omega)]) h.2⟩
  | w :: r, i, h => ⟨by rw [z_rd, if_pos rfl, if_neg (by simp)]; exact h.1, by
      have := Seg.patch (y := y) (xs := r) (i := i + 1) h.2
      rwa [show i + 1 + r.length = i + (w :: r).length by rw [List.length_cons]; omega] at this⟩
theorem rdP.patch {σ τ : Sto} {a x v : Int} {t e : List Int} (h0 : 0 ≤ σ 3 6) (h : rdP σ (true, a, t ++ [x] ++ e) τ) {j : Nat} (hj : (j : Int) = σ 3 6 + t.length) : rdP σ (true, a, t ++ [v] ++ e) (z_put τ 26 j v) := by
  obtain ⟨h1, h2, h3⟩ := h
  rcases h3 with ⟨-, q2, q3, q4, q5⟩ | q
  · have q3 : τ 3 6 = σ 3 6 + ((t ++ [x] ++ e).length : Int) := q3
    have q5 : Seg τ 26 (σ 3 6).toNat (t ++ [x] ++ e) := q5
    refine ⟨⟨fun b c g => ?_, fun j c g f => ?_⟩, ?_, Or.inl ⟨rfl, ?_, ?_, fun i hi => ?_, ?_⟩⟩
    · rw [z_put_ne g]; exact h1.1 b c g
    · rw [z_put_ne (by decide)]; exact h1.2 j c g f
    · rw [z_put_ne (by decide)]; exact h2
    · rw [z_put_ne (by decide)]; exact q2
    · rw [z_put_ne (by decide), q3]; simp
    · rw [z_rd, if_pos rfl, if_neg (by omega)]; exact q4 i hi
    · simp only [List.append_assoc, List.cons_append, List.nil_append] at q5 ⊢
      rw [show j = (σ 3 6).toNat + t.length by omega]
      exact Seg.patch q5
  · exact tnf q.1
theorem rdP.k26 {σ τ : Sto} {r : RT} {j : Nat} {v : Int} (h : rdP σ r τ) (hr : r.1 = false) : rdP σ r (z_put τ 26 j v) := by
  obtain ⟨h1, h2, h3⟩ := h
  rcases h3 with q | q
  · exact tnf (q.1.symm.trans hr)
  · exact ⟨⟨fun b c e => by rw [z_put_ne e]; exact h1.1 b c e, fun j c e f => by rw [z_put_ne (by decide)]; exact h1.2 j c e f⟩, by rw [z_put_ne (by decide)]; exact h2, Or.inr ⟨q.1, by rw [z_put_ne (by decide)]; exact q.2⟩⟩
set_option maxRecDepth 20000 in
set_option maxHeartbeats 1000000 in
theorem c_X2_readLine {σ : Sto} (ht : tpO σ) (k9 : σ 3 9 = 0) (k8 : 0 ≤ σ 3 8 ∧ σ 3 8 ≤ σ 3 5) (k6 : 0 ≤ σ 3 6 ∧ σ 3 6 ≤ 2 * σ 3 8) : Does 99 yX2_readLine cX2_readLine 2 none [zR 3] σ (qV fun σ' => rdP σ ((rdl (nbS σ) (σ 3 8)).1, (rdl (nbS σ) (σ 3 8)).2.1, clL (σ 3 6) (rdl (nbS σ) (σ 3 8)).2.2) σ') := by
  have ht5 := ht.1
  have hB : rdB σ := ⟨ht, k9, k8, by omega⟩
  obtain ⟨s1, s2, s3⟩ := rd0_R (σ := σ) (a := σ 3 8) (by omega) (by omega)
  have hne := rd0_ne (σ := σ) (a := 0) 48 0 0 (σ 3 8)
  refine z_does (L := [some (zR 3), none]) rfl (by decide +kernel) (Nat.le_of_ble_eq_true rfl) rfl ?_
  refine z_aload_n dX2_readLine_0 rfl ?_
  refine z_iconst dX2_readLine_1 ?_
  refine z_iconst dX2_readLine_2 ?_
  refine z_callVV (d := 98) (av := [_, _]) dX2_readLine_3 vX2_54 rfl (Nat.le_of_ble_eq_true rfl) rfl rfl rfl (Nat.le_of_ble_eq_true rfl) (Nat.le_refl _) (c_X2_read0 hB) (fun σ3 h3 => ?_)
  have e8 := h3.2.1
  have t3 := h3.1.tp ht
  have t35 := t3.1
  have hnb : nbS σ3 = nbS σ := h3.1.nb
  have e5 : σ3 3 5 = σ 3 5 := h3.1.2 5 (by decide) (by decide) (by decide)
  have hb6 := h3.b6 (rd0_R (σ := σ) (a := σ 3 8) (by omega) (by omega)) (by omega) (by omega)
  have hb := nbS_R (σ := σ) (a := (rd0 (nbS σ) (σ 3 8)).2.1) ht.2
  refine z_aload_n dX2_readLine_6 rfl ?_
  refine z_getI dX2_readLine_7 gX2_37 rfl (Nat.le_of_ble_eq_true rfl) rfl (fun hr7 => ?_)
  refine z_if_ne (tgt := 22) dX2_readLine_10 (by decide) ⟨by omega, by omega⟩ (fun h10 => ?_) (fun h10 => ?_)
  · skip
    refine z_aload_n dX2_readLine_22 rfl ?_
    refine z_bipush (v := -59) dX2_readLine_23 (by decide +kernel) ?_
    refine z_callVV (d := 98) (av := [_]) dX2_readLine_25 vX2_58 rfl (Nat.le_of_ble_eq_true rfl) rfl rfl rfl (Nat.le_of_ble_eq_true rfl) (Nat.le_refl _) (c_X2_addStep (fun q => by have := hb6 q; omega) ⟨by decide, by decide⟩) (fun σ25 h25 => ?_)
    skip
    exact z_vret dX2_readLine_28 (by
      have hu := rdP.un k6.1 h3 h25
      unfold rdl
      by_cases g1 : (rd0 (nbS σ) (σ 3 8)).1 = true
      · rw [if_pos g1] at hu ⊢
        first
          | (rw [if_neg h19]; simp only [clL, if_true]; exact hu)
          | exact absurd (h3.no h10).1 (by rw [g1]; decide)
      · rw [if_neg g1] at hu ⊢
        rcases hu.2.2 with q | q
        · exact tnf q.1.symm
        · exact ⟨hu.1, hu.2.1, Or.inr ⟨rfl, q.2⟩⟩)
  · skip
    refine z_aload_n dX2_readLine_13 rfl ?_
    refine z_callVI (d := 98) (av := []) dX2_readLine_14 vX2_50 rfl (Nat.le_of_ble_eq_true rfl) rfl rfl rfl (Nat.le_of_ble_eq_true rfl) (Nat.le_refl _) (c_X2_nextByte t35.2) (fun z14 σ14 h14 => ?_)
    obtain ⟨hs14, hz⟩ := h14
    subst σ14
    rw [hnb, e8] at hz
    subst hz
    refine z_bipush (v := 63) dX2_readLine_17 (by decide +kernel) ?_
    refine z_icmp_eq (tgt := 29) dX2_readLine_19 (by decide) ⟨by omega, by omega⟩ ⟨by omega, by omega⟩ (fun h19 => ?_) (fun h19 => ?_)
    · skip
      have hok := h3.ok h10
      have b6 := hb6 h10
      have l1 := (s3 hok).2
      have l2 := (s3 hok).1
      have hlt := nbS_lt (σ := σ) (a := (rd0 (nbS σ) (σ 3 8)).2.1) (by omega)
      have hP : rdP σ (true, (rd0 (nbS σ) (σ 3 8)).2.1, (rd0 (nbS σ) (σ 3 8)).2.2) σ3 := by rw [← hok]; exact h3
      obtain ⟨r1, r2, r3⟩ := rd0_R (σ := σ) (a := (rd0 (nbS σ) (σ 3 8)).2.1 + 1) (by omega) (by omega)
      refine z_aload_n dX2_readLine_29 rfl ?_
      refine z_dup dX2_readLine_30 rfl ?_
      refine z_getI dX2_readLine_31 gX2_31 rfl (Nat.le_of_ble_eq_true rfl) rfl (fun hr31 => ?_)
      refine z_iconst dX2_readLine_34 ?_
      refine z_iadd dX2_readLine_35 ?_
      refine z_putI dX2_readLine_36 pX2_31 rfl (Nat.le_of_ble_eq_true rfl) rfl ⟨by omega, by omega⟩ ?_
      refine z_aload_n dX2_readLine_39 rfl ?_
      refine z_bipush (v := -63) dX2_readLine_40 (by decide +kernel) ?_
      refine z_callVV (d := 98) (av := [_]) dX2_readLine_42 vX2_58 rfl (Nat.le_of_ble_eq_true rfl) rfl rfl rfl (Nat.le_of_ble_eq_true rfl) (Nat.le_refl _) (c_X2_addStep (fun _ => (show 0 ≤ σ3 3 6 ∧ σ3 3 6 < 256 by omega)) ⟨by decide, by decide⟩) (fun σ42 h42 => ?_)
      rcases h42 with ⟨-, rfl⟩ | ⟨g, -⟩
      rotate_left
      · exact absurd h10 g
      refine z_aload_n dX2_readLine_45 rfl ?_
      have a6 : adS (z_put σ3 3 8 (σ3 3 8 + 1)) (-63) 3 6 = σ3 3 6 + 1 := by rw [adS, z_rd, if_pos rfl, if_pos rfl, z_rd, if_pos rfl, if_neg (by decide)]
      refine z_getI dX2_readLine_46 gX2_34 rfl (Nat.le_of_ble_eq_true rfl) rfl (fun hr46 => ?_)
      try simp only [z_rd, Nat.reduceEqDiff, ↓reduceIte, eq_self] at hr46 ⊢
      rw [a6]
      refine z_istore_n (L' := [_, _]) dX2_readLine_49 (Nat.le_of_ble_eq_true rfl) rfl rfl ?_
      refine z_aload_n dX2_readLine_50 rfl ?_
      refine z_iconst dX2_readLine_51 ?_
      refine z_callVV (d := 98) (av := [_]) dX2_readLine_52 vX2_58 rfl (Nat.le_of_ble_eq_true rfl) rfl rfl rfl (Nat.le_of_ble_eq_true rfl) (Nat.le_refl _) (c_X2_addStep (fun _ => by rw [a6]; omega) ⟨by decide, by decide⟩) (fun σ52 h52 => ?_)
      rcases h52 with ⟨-, rfl⟩ | ⟨g, -⟩
      rotate_left
      · exact absurd h10 g
      have hP1 := rdP.add (x := 0) k6.1 (rdP.add (x := -63) k6.1 (hP.at (a := σ3 3 8 + 1)))
      generalize hτ : adS (adS (z_put σ3 3 8 (σ3 3 8 + 1)) (-63)) 0 = τ at hP1 ⊢
      have c8 : τ 3 8 = σ3 3 8 + 1 := hP1.2.1
      have c9 : τ 3 9 = 0 := by rcases hP1.2.2 with q | q; exact q.2.1; exact tnf q.1
      have c6 : τ 3 6 = σ3 3 6 + 2 := by rw [← hτ, adS, z_rd, if_pos rfl, if_pos rfl, a6]; omega
      have c5 : τ 3 5 = σ 3 5 := hP1.1.2 5 (by decide) (by decide) (by decide)
      have hB2 : rdB τ := ⟨hP1.1.tp ht, c9, by omega, by omega⟩
      have hnb2 : nbS τ = nbS σ := hP1.1.nb
      refine z_aload_n dX2_readLine_55 rfl ?_
      refine z_iconst dX2_readLine_56 ?_
      refine z_iconst dX2_readLine_57 ?_
      refine z_callVV (d := 98) (av := [_, _]) dX2_readLine_58 vX2_54 rfl (Nat.le_of_ble_eq_true rfl) rfl rfl rfl (Nat.le_of_ble_eq_true rfl) (Nat.le_refl _) (c_X2_read0 hB2) (fun σ58 h58 => ?_)
      rw [hnb2, c8, e8] at h58
      have hb7 := h58.b6 (rd0_R (σ := σ) (a := (rd0 (nbS σ) (σ 3 8)).2.1 + 1) (by omega) (by omega)) (by omega) (by omega)
      refine z_aload_n dX2_readLine_61 rfl ?_
      refine z_bipush (v := -59) dX2_readLine_62 (by decide +kernel) ?_
      refine z_callVV (d := 98) (av := [_]) dX2_readLine_64 vX2_58 rfl (Nat.le_of_ble_eq_true rfl) rfl rfl rfl (Nat.le_of_ble_eq_true rfl) (Nat.le_refl _) (c_X2_addStep (fun q => by have := hb7 q; omega) ⟨by decide, by decide⟩) (fun σ64 h64 => ?_)
      have hu := rdP.un k6.1 (rdP.seq k6.1 hP1 h58) h64
      refine z_iload_n dX2_readLine_67 rfl ?_
      refine z_if_lt (tgt := 88) dX2_readLine_68 (by decide) ⟨by omega, by omega⟩ (fun h68 => ?_) (fun h68 => ?_)
      · first
        | exfalso; omega
        | skip
          exact z_vret dX2_readLine_88 (by
            unfold rdl
            rw [if_pos hok, if_pos h19]
            by_cases g1 : (rd0 (nbS σ) ((rd0 (nbS σ) (σ 3 8)).2.1 + 1)).1 = true
            · rw [if_pos g1] at hu ⊢
              simp only [clL]
              rw [if_neg (hne hok)]
              have q36 : σ64 3 6 = σ 3 6 + ((rd0 (nbS σ) (σ 3 8)).2.2.length : Int) + 1 + 1 + ((rd0 (nbS σ) ((rd0 (nbS σ) (σ 3 8)).2.1 + 1)).2.2.length : Int) + 1 := by
                rcases hu.2.2 with q | q
                · rw [q.2.2.1]; simp only [List.length_append, List.length_cons, List.length_nil]; omega
                · exact tnf q.1
              rw [q36]
              simp only [List.append_assoc, List.cons_append, List.nil_append] at hu ⊢
              have := rdP.patch (x := 0) (v := σ 3 6 + ((rd0 (nbS σ) (σ 3 8)).2.2.length : Int) + 1 + 1 + ((rd0 (nbS σ) ((rd0 (nbS σ) (σ 3 8)).2.1 + 1)).2.2.length : Int) + 1) (t := (rd0 (nbS σ) (σ 3 8)).2.2 ++ [-63]) (e := (rd0 (nbS σ) ((rd0 (nbS σ) (σ 3 8)).2.1 + 1)).2.2 ++ [-59]) k6.1 (by simpa using hu) (j := (σ3 3 6 + 1).toNat) (by simp; omega)
              simpa using this
            · rw [if_neg g1] at hu ⊢
              have hk := hu.k26 (j := (σ3 3 6 + 1).toNat) (v := σ64 3 6) rfl
              rcases hk.2.2 with q | q
              · exact tnf q.1.symm
              · exact ⟨hk.1, hk.2.1, Or.inr ⟨rfl, q.2⟩⟩)
      · first
        | exfalso; omega
        | skip
          refine z_iload_n dX2_readLine_71 rfl ?_
          refine z_sipush (v := 256) dX2_readLine_72 (by decide +kernel) ?_
          refine z_icmp_ge (tgt := 88) dX2_readLine_75 (by decide) ⟨by omega, by omega⟩ ⟨by omega, by omega⟩ (fun h75 => ?_) (fun h75 => ?_)
          · first
            | exfalso; omega
            | skip
              exact z_vret dX2_readLine_88 (by
                unfold rdl
                rw [if_pos hok, if_pos h19]
                by_cases g1 : (rd0 (nbS σ) ((rd0 (nbS σ) (σ 3 8)).2.1 + 1)).1 = true
                · rw [if_pos g1] at hu ⊢
                  simp only [clL]
                  rw [if_neg (hne hok)]
                  have q36 : σ64 3 6 = σ 3 6 + ((rd0 (nbS σ) (σ 3 8)).2.2.length : Int) + 1 + 1 + ((rd0 (nbS σ) ((rd0 (nbS σ) (σ 3 8)).2.1 + 1)).2.2.length : Int) + 1 := by
                    rcases hu.2.2 with q | q
                    · rw [q.2.2.1]; simp only [List.length_append, List.length_cons, List.length_nil]; omega
                    · exact tnf q.1
                  rw [q36]
                  simp only [List.append_assoc, List.cons_append, List.nil_append] at hu ⊢
                  have := rdP.patch (x := 0) (v := σ 3 6 + ((rd0 (nbS σ) (σ 3 8)).2.2.length : Int) + 1 + 1 + ((rd0 (nbS σ) ((rd0 (nbS σ) (σ 3 8)).2.1 + 1)).2.2.length : Int) + 1) (t := (rd0 (nbS σ) (σ 3 8)).2.2 ++ [-63]) (e := (rd0 (nbS σ) ((rd0 (nbS σ) (σ 3 8)).2.1 + 1)).2.2 ++ [-59]) k6.1 (by simpa using hu) (j := (σ3 3 6 + 1).toNat) (by simp; omega)
                  simpa using this
                · rw [if_neg g1] at hu ⊢
                  have hk := hu.k26 (j := (σ3 3 6 + 1).toNat) (v := σ64 3 6) rfl
                  rcases hk.2.2 with q | q
                  · exact tnf q.1.symm
                  · exact ⟨hk.1, hk.2.1, Or.inr ⟨rfl, q.2⟩⟩)
          · first
            | exfalso; omega
            | skip
              refine z_aload_n dX2_readLine_78 rfl ?_
              refine z_getR dX2_readLine_79 gX2_15 rfl (Nat.le_of_ble_eq_true rfl) rfl ?_
              refine z_iload_n dX2_readLine_82 rfl ?_
              refine z_aload_n dX2_readLine_83 rfl ?_
              refine z_getI dX2_readLine_84 gX2_34 rfl (Nat.le_of_ble_eq_true rfl) rfl (fun hr84 => ?_)
              refine z_iast dX2_readLine_87 rfl (Nat.le_of_ble_eq_true rfl) (by omega) ⟨by omega, by omega⟩ ?_
              exact z_vret dX2_readLine_88 (by
                unfold rdl
                rw [if_pos hok, if_pos h19]
                by_cases g1 : (rd0 (nbS σ) ((rd0 (nbS σ) (σ 3 8)).2.1 + 1)).1 = true
                · rw [if_pos g1] at hu ⊢
                  simp only [clL]
                  rw [if_neg (hne hok)]
                  have q36 : σ64 3 6 = σ 3 6 + ((rd0 (nbS σ) (σ 3 8)).2.2.length : Int) + 1 + 1 + ((rd0 (nbS σ) ((rd0 (nbS σ) (σ 3 8)).2.1 + 1)).2.2.length : Int) + 1 := by
                    rcases hu.2.2 with q | q
                    · rw [q.2.2.1]; simp only [List.length_append, List.length_cons, List.length_nil]; omega
                    · exact tnf q.1
                  rw [q36]
                  simp only [List.append_assoc, List.cons_append, List.nil_append] at hu ⊢
                  have := rdP.patch (x := 0) (v := σ 3 6 + ((rd0 (nbS σ) (σ 3 8)).2.2.length : Int) + 1 + 1 + ((rd0 (nbS σ) ((rd0 (nbS σ) (σ 3 8)).2.1 + 1)).2.2.length : Int) + 1) (t := (rd0 (nbS σ) (σ 3 8)).2.2 ++ [-63]) (e := (rd0 (nbS σ) ((rd0 (nbS σ) (σ 3 8)).2.1 + 1)).2.2 ++ [-59]) k6.1 (by simpa using hu) (j := (σ3 3 6 + 1).toNat) (by simp; omega)
                  simpa using this
                · rw [if_neg g1] at hu ⊢
                  have hk := hu.k26 (j := (σ3 3 6 + 1).toNat) (v := σ64 3 6) rfl
                  rcases hk.2.2 with q | q
                  · exact tnf q.1.symm
                  · exact ⟨hk.1, hk.2.1, Or.inr ⟨rfl, q.2⟩⟩)
    · skip
      refine z_aload_n dX2_readLine_22 rfl ?_
      refine z_bipush (v := -59) dX2_readLine_23 (by decide +kernel) ?_
      refine z_callVV (d := 98) (av := [_]) dX2_readLine_25 vX2_58 rfl (Nat.le_of_ble_eq_true rfl) rfl rfl rfl (Nat.le_of_ble_eq_true rfl) (Nat.le_refl _) (c_X2_addStep (fun q => by have := hb6 q; omega) ⟨by decide, by decide⟩) (fun σ25 h25 => ?_)
      skip
      exact z_vret dX2_readLine_28 (by
        have hu := rdP.un k6.1 h3 h25
        unfold rdl
        by_cases g1 : (rd0 (nbS σ) (σ 3 8)).1 = true
        · rw [if_pos g1] at hu ⊢
          first
            | (rw [if_neg h19]; simp only [clL, if_true]; exact hu)
            | exact absurd (h3.no h10).1 (by rw [g1]; decide)
        · rw [if_neg g1] at hu ⊢
          rcases hu.2.2 with q | q
          · exact tnf q.1.symm
          · exact ⟨hu.1, hu.2.1, Or.inr ⟨rfl, q.2⟩⟩)
set_option maxRecDepth 20000 in
theorem l_X2_readLines {σ : Sto} (ht : tpO σ) (k6 : σ 3 6 = 0) :
    ∀ (m : Nat) (τ : Sto) (o : List Int) (a g : Int), g + m = 120 → 0 ≤ g → (0 ≤ a ∧ a ≤ σ 3 5) → (o.length : Int) ≤ 2 * a → rdP σ (true, a, o) τ →
    Z (z_me cX2_readLines RX2 2 none 100 (qV fun σ' => rdP σ ((rdls (nbS σ) (σ 3 5) m a).1, (rdls (nbS σ) (σ 3 5) m a).2.1, o ++ clS o.length (rdls (nbS σ) (σ 3 5) m a).2.2) σ')) 2 [some (zR 3), some (zI g)] [] τ
  | 0, τ, o, a, g, hg, h0, ha, ho, hP => by
    refine z_iload_n dX2_readLines_2 rfl ?_
    refine z_bipush (v := 120) dX2_readLines_3 (by decide +kernel) ?_
    refine z_icmp_ge (tgt := 62) dX2_readLines_5 (by decide) ⟨by omega, by omega⟩ ⟨by omega, by omega⟩ (fun h5 => ?_) (fun h5 => ?_)
    · skip
      exact z_vret dX2_readLines_62 (by simp only [rdls, clS, List.append_nil]; exact hP)
    · exfalso; omega
  | m + 1, τ, o, a, g, hg, h0, ha, ho, hP => by
    have k9 : τ 3 9 = 0 := by rcases hP.2.2 with q | q; exact q.2.1; exact tnf q.1
    have q6 : τ 3 6 = o.length := by rcases hP.2.2 with q | q; rw [q.2.2.1, k6, Int.zero_add]; exact tnf q.1
    have e8 : τ 3 8 = a := hP.2.1
    have tt := hP.1.tp ht
    have tt5 := tt.1
    have e5 : τ 3 5 = σ 3 5 := hP.1.2 5 (by decide) (by decide) (by decide)
    have hnb : nbS τ = nbS σ := hP.1.nb
    obtain ⟨s1, s2, s3⟩ := rdl_R (σ := σ) (a := a) ha.1 ha.2 (o.length : Int)
    have hb := nbS_R (σ := σ) (a := (rdl (nbS σ) a).2.1) ht.2
    refine z_iload_n dX2_readLines_2 rfl ?_
    refine z_bipush (v := 120) dX2_readLines_3 (by decide +kernel) ?_
    refine z_icmp_ge (tgt := 62) dX2_readLines_5 (by decide) ⟨by omega, by omega⟩ ⟨by omega, by omega⟩ (fun h5 => ?_) (fun h5 => ?_)
    · exfalso; omega
    · skip
      refine z_aload_n dX2_readLines_8 rfl ?_
      refine z_callVV (d := 99) (av := []) dX2_readLines_9 vX2_47 rfl (Nat.le_of_ble_eq_true rfl) rfl rfl rfl (Nat.le_of_ble_eq_true rfl) (Nat.le_refl _) (c_X2_readLine tt k9 (by omega) (by omega)) (fun σ9 h9 => ?_)
      rw [hnb, e8, q6] at h9
      have hs := rdP.seq (by omega) hP h9
      have c8 : σ9 3 8 = (rdl (nbS σ) a).2.1 := h9.2.1
      have c5 : σ9 3 5 = σ 3 5 := hs.1.2 5 (by decide) (by decide) (by decide)
      have hnb9 : nbS σ9 = nbS σ := hs.1.nb
      refine z_aload_n dX2_readLines_12 rfl ?_
      refine z_getI dX2_readLines_13 gX2_37 rfl (Nat.le_of_ble_eq_true rfl) rfl (fun hr13 => ?_)
      refine z_if_ne (tgt := 30) dX2_readLines_16 (by decide) ⟨by omega, by omega⟩ (fun h16 => ?_) (fun h16 => ?_)
      · skip
        exact z_vret dX2_readLines_30 (by
          rw [rdls]
          by_cases hok : (rdl (nbS σ) a).1 = true
          · rw [if_pos hok]
            first
              | exact absurd (h9.no h16).1 (by simp only [hok]; decide)
              | (rw [if_pos (by omega)]; simp only [clS, List.append_nil]; simp only [hok] at hs; exact hs)
          · rw [if_neg hok]
            have hno : (rdl (nbS σ) a).1 = false := by simpa using hok
            have := hs.fail (by simp only [hno])
            simp only [clS, List.append_nil]
            exact ⟨this.1, this.2.1, Or.inr ⟨rfl, by rcases this.2.2 with q | q; exact tnf q.1.symm; exact q.2⟩⟩)
      · skip
        refine z_aload_n dX2_readLines_19 rfl ?_
        refine z_getI dX2_readLines_20 gX2_31 rfl (Nat.le_of_ble_eq_true rfl) rfl (fun hr20 => ?_)
        refine z_aload_n dX2_readLines_23 rfl ?_
        refine z_getI dX2_readLines_24 gX2_27 rfl (Nat.le_of_ble_eq_true rfl) rfl (fun hr24 => ?_)
        refine z_icmp_lt (tgt := 31) dX2_readLines_27 (by decide) ⟨by omega, by omega⟩ ⟨by omega, by omega⟩ (fun h27 => ?_) (fun h27 => ?_)
        · skip
          refine z_aload_n dX2_readLines_31 rfl ?_
          refine z_callVI (d := 99) (av := []) dX2_readLines_32 vX2_50 rfl (Nat.le_of_ble_eq_true rfl) rfl rfl rfl (Nat.le_of_ble_eq_true rfl) (Nat.le_refl _) (c_X2_nextByte (by omega)) (fun z32 σ32 h32 => ?_)
          obtain ⟨hs32, hz⟩ := h32
          subst σ32
          rw [hnb9, c8] at hz
          subst hz
          refine z_bipush (v := 59) dX2_readLines_35 (by decide +kernel) ?_
          refine z_icmp_eq (tgt := 46) dX2_readLines_37 (by decide) ⟨by omega, by omega⟩ ⟨by omega, by omega⟩ (fun h37 => ?_) (fun h37 => ?_)
          · skip
            refine z_aload_n dX2_readLines_46 rfl ?_
            refine z_dup dX2_readLines_47 rfl ?_
            refine z_getI dX2_readLines_48 gX2_31 rfl (Nat.le_of_ble_eq_true rfl) rfl (fun hr48 => ?_)
            refine z_iconst dX2_readLines_51 ?_
            refine z_iadd dX2_readLines_52 ?_
            refine z_putI dX2_readLines_53 pX2_31 rfl (Nat.le_of_ble_eq_true rfl) rfl ⟨by omega, by omega⟩ ?_
            refine z_iinc (L' := [_, _]) dX2_readLines_56 (Nat.le_of_ble_eq_true rfl) rfl rfl rfl ?_
            refine z_goto (tgt := 2) dX2_readLines_59 (by decide) ?_
            have hok : (rdl (nbS σ) a).1 = true := h9.ok h16
            obtain ⟨s4, s5⟩ := s3 hok
            have hlt := nbS_lt (σ := σ) (a := (rdl (nbS σ) a).2.1) (by omega)
            rw [rdls, if_pos hok, if_neg (by omega), if_pos h37]
            simp only [clS, ← List.append_assoc]
            rw [show ((o.length : Int) + (clL o.length (rdl (nbS σ) a).2.2).length) = ((o ++ clL o.length (rdl (nbS σ) a).2.2).length : Int) by simp]
            rw [c8]
            refine l_X2_readLines ht k6 m _ (o ++ clL o.length (rdl (nbS σ) a).2.2) ((rdl (nbS σ) a).2.1 + 1) (g + 1) (by omega) (by omega) (by omega) (by rw [List.length_append]; omega) ?_
            have := hs.at (a := (rdl (nbS σ) a).2.1 + 1)
            simp only [hok] at this
            exact this
          · skip
            refine z_aload_n dX2_readLines_40 rfl ?_
            refine z_iconst dX2_readLines_41 ?_
            refine z_putZ dX2_readLines_42 pX2_37 rfl (Nat.le_of_ble_eq_true rfl) rfl (by omega) ?_
            exact z_vret dX2_readLines_45 (by
              have hok : (rdl (nbS σ) a).1 = true := h9.ok h16
              rw [rdls, if_pos hok, if_neg (by omega), if_neg h37]
              have := hs.flt
              exact ⟨this.1, this.2.1, Or.inr ⟨rfl, by rcases this.2.2 with q | q; exact tnf q.1.symm; exact q.2⟩⟩)
        · skip
          exact z_vret dX2_readLines_30 (by
            rw [rdls]
            by_cases hok : (rdl (nbS σ) a).1 = true
            · rw [if_pos hok]
              first
                | exact absurd (h9.no h16).1 (by simp only [hok]; decide)
                | (rw [if_pos (by omega)]; simp only [clS, List.append_nil]; simp only [hok] at hs; exact hs)
            · rw [if_neg hok]
              have hno : (rdl (nbS σ) a).1 = false := by simpa using hok
              have := hs.fail (by simp only [hno])
              simp only [clS, List.append_nil]
              exact ⟨this.1, this.2.1, Or.inr ⟨rfl, by rcases this.2.2 with q | q; exact tnf q.1.symm; exact q.2⟩⟩)
set_option maxRecDepth 20000 in
theorem c_X2_readLines {σ : Sto} (ht : tpO σ) (k6 : σ 3 6 = 0) (k8 : σ 3 8 = 0) (k9 : σ 3 9 = 0) : Does 100 yX2_readLines cX2_readLines 2 none [zR 3] σ (qV fun σ' => rdP σ ((rdls (nbS σ) (σ 3 5) 120 0).1, (rdls (nbS σ) (σ 3 5) 120 0).2.1, clS 0 (rdls (nbS σ) (σ 3 5) 120 0).2.2) σ') := by
  have ht5 := ht.1
  refine z_does (L := [some (zR 3), none]) rfl (by decide +kernel) (Nat.le_of_ble_eq_true rfl) rfl ?_
  refine z_iconst dX2_readLines_0 ?_
  refine z_istore_n (L' := [_, _]) dX2_readLines_1 (Nat.le_of_ble_eq_true rfl) rfl rfl ?_
  have h := l_X2_readLines ht k6 120 σ [] 0 0 (by omega) (by omega) (by omega) (by simp) (by have := rdP.rf k9; rw [k8] at this; exact this)
  exact h
set_option maxRecDepth 20000 in
theorem l_X2_becomeTape {σ : Sto} {n : Int} {Q : Option Value → Sto → Prop} (hn : 0 ≤ n ∧ n ≤ 256) (k6 : σ 3 6 = n)
    (kk : ∀ τ : Sto, (∀ a, a ≠ 27 → τ a = σ a) → (∀ j : Nat, (j : Int) < n → τ 27 j = σ 26 j) → Z (z_me cX2_becomeTape RX2 2 (some .int) 101 Q) 74 [some (zR 3), some (zI n)] [] τ) :
    ∀ (m : Nat) (τ : Sto) (i : Int), i + m = n → 0 ≤ i → (∀ a, a ≠ 27 → τ a = σ a) → (∀ j : Nat, (j : Int) < i → τ 27 j = σ 26 j) →
    Z (z_me cX2_becomeTape RX2 2 (some .int) 101 Q) 41 [some (zR 3), some (zI i)] [] τ
  | 0, τ, i, hi, h0, hK, hI => by
    obtain rfl : i = n := by omega
    have e3 : τ 3 = σ 3 := hK 3 (by decide)
    refine z_iload_n dX2_becomeTape_41 rfl ?_
    refine z_aload_n dX2_becomeTape_42 rfl ?_
    refine z_getI dX2_becomeTape_43 gX2_34 rfl (Nat.le_of_ble_eq_true rfl) rfl (fun hr43 => ?_)
    try simp only [e3, k6, z_rd, Nat.reduceEqDiff, ↓reduceIte, eq_self] at hr43 ⊢
    refine z_icmp_ge (tgt := 74) dX2_becomeTape_46 (by decide) ⟨by omega, by omega⟩ ⟨by omega, by omega⟩ (fun h46 => ?_) (fun h46 => ?_)
    · skip
      exact kk τ hK hI
    · exfalso; omega
  | m + 1, τ, i, hi, h0, hK, hI => by
    have e3 : τ 3 = σ 3 := hK 3 (by decide)
    refine z_iload_n dX2_becomeTape_41 rfl ?_
    refine z_aload_n dX2_becomeTape_42 rfl ?_
    refine z_getI dX2_becomeTape_43 gX2_34 rfl (Nat.le_of_ble_eq_true rfl) rfl (fun hr43 => ?_)
    try simp only [e3, k6, z_rd, Nat.reduceEqDiff, ↓reduceIte, eq_self] at hr43 ⊢
    refine z_icmp_ge (tgt := 74) dX2_becomeTape_46 (by decide) ⟨by omega, by omega⟩ ⟨by omega, by omega⟩ (fun h46 => ?_) (fun h46 => ?_)
    · exfalso; omega
    · skip
      refine z_iload_n dX2_becomeTape_49 rfl ?_
      refine z_sipush (v := 256) dX2_becomeTape_50 (by decide +kernel) ?_
      refine z_icmp_ge (tgt := 74) dX2_becomeTape_53 (by decide) ⟨by omega, by omega⟩ ⟨by omega, by omega⟩ (fun h53 => ?_) (fun h53 => ?_)
      · exfalso; omega
      · skip
        refine z_aload_n dX2_becomeTape_56 rfl ?_
        refine z_getR dX2_becomeTape_57 gX2_18 rfl (Nat.le_of_ble_eq_true rfl) rfl ?_
        refine z_iload_n dX2_becomeTape_60 rfl ?_
        refine z_aload_n dX2_becomeTape_61 rfl ?_
        refine z_getR dX2_becomeTape_62 gX2_15 rfl (Nat.le_of_ble_eq_true rfl) rfl ?_
        refine z_iload_n dX2_becomeTape_65 rfl ?_
        refine z_iald dX2_becomeTape_66 rfl (Nat.le_of_ble_eq_true rfl) (by omega) (fun hr66 => ?_)
        try simp only [e3, k6, z_rd, Nat.reduceEqDiff, ↓reduceIte, eq_self] at hr66 ⊢
        refine z_iast dX2_becomeTape_67 rfl (Nat.le_of_ble_eq_true rfl) (by omega) ⟨by omega, by omega⟩ ?_
        refine z_iinc (L' := [_, _]) dX2_becomeTape_68 (Nat.le_of_ble_eq_true rfl) rfl rfl rfl ?_
        refine z_goto (tgt := 41) dX2_becomeTape_71 (by decide) ?_
        refine l_X2_becomeTape hn k6 kk m _ (i + 1) (by omega) (by omega) (fun a ha => by rw [z_put_ne ha]; exact hK a ha) (fun j hj => ?_)
        rw [z_rd, if_pos rfl]
        by_cases hji : j = i.toNat
        · rw [if_pos hji, hji, hK 26 (by decide)]
        · rw [if_neg hji]; exact hI j (by omega)
/-- what a text's reading writes, beside the steps -/
def btK (σ τ : Sto) : Prop := (∀ a, a ≠ 3 → a ≠ 26 → a ≠ 27 → τ a = σ a) ∧ τ 3 5 = 0
abbrev rdT (σ : Sto) : Bool × Int × List LN := rdls (nbS σ) (σ 3 5) 120 0
theorem Seg.fun {σ τ : Sto} {k k' : Nat} : ∀ {xs : List Int} {i : Nat}, (∀ j, i ≤ j → j < i + xs.length → τ k' j = σ k j) → Seg σ k i xs → Seg τ k' i xs
  | [], _, _, _ => trivial
  | w :: r, i, h, hs => ⟨by rw [h i (by omega) (by rw [List.length_cons]; omega)]; exact hs.1, Seg.fun (fun j h1 h2 => h j (by omega) (by rw [List.length_cons]; omega)) hs.2⟩
theorem clS_R {σ : Sto} : ∀ (m : Nat) (a d : Int), 0 ≤ a → a ≤ σ 3 5 → (rdls (nbS σ) (σ 3 5) m a).1 = true → ((clS d (rdls (nbS σ) (σ 3 5) m a).2.2).length : Int) ≤ 2 * ((rdls (nbS σ) (σ 3 5) m a).2.1 - a) + 2 ∧ (rdls (nbS σ) (σ 3 5) m a).2.1 ≤ σ 3 5 := by
  intro m
  induction m with
  | zero => intro a d h0 h1 _; simp only [rdls, clS, List.length_nil]; omega
  | succ m ih =>
    intro a d h0 h1 hh
    obtain ⟨s1, s2, s3⟩ := rdl_R (σ := σ) (a := a) h0 h1 d
    rw [rdls] at hh ⊢
    split at hh
    · rename_i c1
      rw [if_pos c1]
      obtain ⟨s4, s5⟩ := s3 c1
      split at hh
      · rename_i c2
        rw [if_pos c2]
        simp only [clS, List.append_nil]
        omega
      · rename_i c2
        rw [if_neg c2]
        split at hh
        · rename_i c3
          rw [if_pos c3]
          have := ih ((rdl (nbS σ) a).2.1 + 1) (d + (clL d (rdl (nbS σ) a).2.2).length) (by omega) (by omega) hh
          simp only [clS, List.length_append]
          omega
        · exact tnf hh.symm
    · exact tnf hh.symm
set_option maxRecDepth 20000 in
theorem k_X2_becomeTape {σ τ υ : Sto} {X : List Int} (hS : ∀ a, a ≠ 3 → a ≠ 26 → a ≠ 27 → τ a = σ a) (h5 : τ 3 5 = 0) (h6 : τ 3 6 = X.length) (hX : Seg τ 26 0 X) (hx : X.length ≤ 256) (hok : (rdT σ).1 = true) (eX : X = clS 0 (rdT σ).2.2) (hK : ∀ a, a ≠ 27 → υ a = τ a) (hI : ∀ j : Nat, (j : Int) < X.length → υ 27 j = τ 26 j) :
    Z (z_me cX2_becomeTape RX2 2 (some .int) 101 (qI fun z σ' => btK σ σ' ∧ (((rdT σ).1 = false ∧ z = -100 - (rdT σ).2.1 ∧ σ' 27 = σ 27 ∧ σ' 3 7 = σ 3 7) ∨ ((rdT σ).1 = true ∧ z = 1 ∧ σ' 3 7 = (clS 0 (rdT σ).2.2).length ∧ Seg σ' 27 0 (clS 0 (rdT σ).2.2))))) 74 [some (zR 3), some (zI X.length)] [] υ := by
  have e3 : υ 3 = τ 3 := hK 3 (by decide)
  subst eX
  refine z_aload_n dX2_becomeTape_74 rfl ?_
  refine z_aload_n dX2_becomeTape_75 rfl ?_
  refine z_getI dX2_becomeTape_76 gX2_34 rfl (Nat.le_of_ble_eq_true rfl) rfl (fun hr76 => ?_)
  try simp only [e3, h6, z_rd, Nat.reduceEqDiff, ↓reduceIte, eq_self] at hr76 ⊢
  refine z_putI dX2_becomeTape_79 pX2_44 rfl (Nat.le_of_ble_eq_true rfl) rfl ⟨by omega, by omega⟩ ?_
  refine z_iconst dX2_becomeTape_82 ?_
  exact z_iret dX2_becomeTape_83 ⟨⟨fun a b c e => by rw [z_put_ne b, hK a e]; exact hS a b c e, by rw [z_rd, if_pos rfl, if_neg (by decide), e3]; exact h5⟩, Or.inr ⟨hok, rfl, by rw [z_rd, if_pos rfl, if_pos rfl], Seg.row (z_put_ne (by decide)) (Seg.fun (fun j _ h => hI j (by omega)) hX)⟩⟩
set_option maxRecDepth 20000 in
theorem c_X2_becomeTape {σ : Sto} (ht : tpO σ) : Does 101 yX2_becomeTape cX2_becomeTape 2 (some .int) [zR 3] σ (qI fun z σ' => btK σ σ' ∧ (((rdT σ).1 = false ∧ z = -100 - (rdT σ).2.1 ∧ σ' 27 = σ 27 ∧ σ' 3 7 = σ 3 7) ∨ ((rdT σ).1 = true ∧ z = 1 ∧ σ' 3 7 = (clS 0 (rdT σ).2.2).length ∧ Seg σ' 27 0 (clS 0 (rdT σ).2.2)))) := by
  have ht5 := ht.1
  refine z_does (L := [some (zR 3), none]) rfl (by decide +kernel) (Nat.le_of_ble_eq_true rfl) rfl ?_
  refine z_aload_n dX2_becomeTape_0 rfl ?_
  refine z_iconst dX2_becomeTape_1 ?_
  refine z_putI dX2_becomeTape_2 pX2_31 rfl (Nat.le_of_ble_eq_true rfl) rfl ⟨by omega, by omega⟩ ?_
  refine z_aload_n dX2_becomeTape_5 rfl ?_
  refine z_iconst dX2_becomeTape_6 ?_
  refine z_putI dX2_becomeTape_7 pX2_34 rfl (Nat.le_of_ble_eq_true rfl) rfl ⟨by omega, by omega⟩ ?_
  refine z_aload_n dX2_becomeTape_10 rfl ?_
  refine z_iconst dX2_becomeTape_11 ?_
  refine z_putZ dX2_becomeTape_12 pX2_37 rfl (Nat.le_of_ble_eq_true rfl) rfl (by omega) ?_
  generalize hτ : z_put (z_put (z_put σ 3 8 0) 3 6 0) 3 9 0 = τ
  have c6 : τ 3 6 = 0 := by rw [← hτ]; rfl
  have c8 : τ 3 8 = 0 := by rw [← hτ]; rfl
  have c9 : τ 3 9 = 0 := by rw [← hτ]; rfl
  have hS : lwS σ τ := by rw [← hτ]; exact (lwS.put (Or.inr (Or.inl rfl))).tr ((lwS.put (Or.inl rfl)).tr (lwS.put (Or.inr (Or.inr rfl))))
  have hnb : nbS τ = nbS σ := hS.nb
  have e5 : τ 3 5 = σ 3 5 := hS.2 5 (by decide) (by decide) (by decide)
  refine z_aload_n dX2_becomeTape_15 rfl ?_
  refine z_callVV (d := 100) (av := []) dX2_becomeTape_16 vX2_41 rfl (Nat.le_of_ble_eq_true rfl) rfl rfl rfl (Nat.le_of_ble_eq_true rfl) (Nat.le_refl _) (c_X2_readLines (hS.tp ht) c6 c8 c9) (fun σ16 h16 => ?_)
  rw [hnb, e5] at h16
  have g1 := (hS.tr h16.1).1
  have g2 := (hS.tr h16.1).2
  have g8 : σ16 3 8 = (rdT σ).2.1 := h16.2.1
  have g6 : (rdT σ).1 = true → σ16 3 6 = (clS 0 (rdT σ).2.2).length ∧ Seg σ16 26 0 (clS 0 (rdT σ).2.2) := fun q => by
    rcases h16.2.2 with w | w
    · exact ⟨by rw [w.2.2.1, c6, Int.zero_add], by have := w.2.2.2.2; rw [c6] at this; exact this⟩
    · exact tnf (q.symm.trans w.1)
  refine z_aload_n dX2_becomeTape_19 rfl ?_
  refine z_iconst dX2_becomeTape_20 ?_
  refine z_putI dX2_becomeTape_21 pX2_27 rfl (Nat.le_of_ble_eq_true rfl) rfl ⟨by omega, by omega⟩ ?_
  refine z_aload_n dX2_becomeTape_24 rfl ?_
  refine z_getI dX2_becomeTape_25 gX2_37 rfl (Nat.le_of_ble_eq_true rfl) rfl (fun hr25 => ?_)
  try simp only [z_rd, Nat.reduceEqDiff, ↓reduceIte, eq_self] at hr25 ⊢
  refine z_if_eq (tgt := 39) dX2_becomeTape_28 (by decide) ⟨by omega, by omega⟩ (fun h28 => ?_) (fun h28 => ?_)
  · skip
    refine z_iconst dX2_becomeTape_39 ?_
    refine z_istore_n (L' := [_, _]) dX2_becomeTape_40 (Nat.le_of_ble_eq_true rfl) rfl rfl ?_
    have hok : (rdT σ).1 = true := h16.ok h28
    obtain ⟨f6, fS⟩ := g6 hok
    have fl0 := clS_R (σ := σ) 120 0 0 (by omega) (by omega) hok
    have fl : ((clS 0 (rdT σ).2.2).length : Int) ≤ 242 := by show ((clS 0 (rdls (nbS σ) (σ 3 5) 120 0).2.2).length : Int) ≤ 242; omega
    exact l_X2_becomeTape (σ := z_put σ16 3 5 0) (n := (clS 0 (rdT σ).2.2).length) (by omega) f6 (fun υ hK hI => k_X2_becomeTape (τ := z_put σ16 3 5 0) (X := clS 0 (rdT σ).2.2) (fun a b c _ => by rw [z_put_ne b]; exact g1 a b c) rfl f6 (Seg.row (z_put_ne (by decide)) fS) (by omega) hok rfl hK hI) (clS 0 (rdT σ).2.2).length _ 0 (by omega) (by omega) (fun _ _ => rfl) (fun j hj => absurd hj (by omega))
  · skip
    refine z_bipush (v := -100) dX2_becomeTape_31 (by decide +kernel) ?_
    refine z_aload_n dX2_becomeTape_33 rfl ?_
    refine z_getI dX2_becomeTape_34 gX2_31 rfl (Nat.le_of_ble_eq_true rfl) rfl (fun hr34 => ?_)
    try simp only [z_rd, Nat.reduceEqDiff, ↓reduceIte, eq_self] at hr34 ⊢
    refine z_isub dX2_becomeTape_37 ?_
    exact z_iret dX2_becomeTape_38 ⟨⟨fun a b c _ => by rw [z_put_ne b]; exact g1 a b c, rfl⟩, Or.inl ⟨(h16.no h28).1, by rw [g8], by rw [z_put_ne (by decide)]; exact g1 27 (by decide) (by decide), g2 7 (by decide) (by decide) (by decide)⟩⟩
