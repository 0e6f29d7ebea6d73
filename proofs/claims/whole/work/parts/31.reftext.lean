/-! ===== the reference's text ===== -/
theorem rdl_RM {T : Nat → Int} {n : Int} {a : Int} (h0 : 0 ≤ a) (h1 : a ≤ n) (_d : Int) : a ≤ (rdl (nbF T n) a).2.1 ∧ (rdl (nbF T n) a).2.1 ≤ n ∧ ((rdl (nbF T n) a).1 = true → a < (rdl (nbF T n) a).2.1 ∧ ((rdl (nbF T n) a).2.2.1.length + (rdl (nbF T n) a).2.2.2.length : Int) ≤ (rdl (nbF T n) a).2.1 - a) := by
  have hr0 : ∀ b, 0 ≤ b → b ≤ n → rdOk n b (rd0 (nbF T n) b) := fun b g1 g2 => rd_R (T := T) (n := n) 48 0 0 b (by omega) g1 g2
  obtain ⟨s1, s2, s3⟩ := hr0 a h0 h1
  unfold rdl
  by_cases g1 : (rd0 (nbF T n) a).1 = true
  · rw [if_pos g1]
    obtain ⟨s4, s5⟩ := s3 g1
    by_cases g2 : nbF T n (rd0 (nbF T n) a).2.1 = 63
    · rw [if_pos g2]
      have hlt := nbF_lt (T := T) (n := n) (a := (rd0 (nbF T n) a).2.1) (by omega)
      obtain ⟨t1, t2, t3⟩ := hr0 ((rd0 (nbF T n) a).2.1 + 1) (by omega) (by omega)
      by_cases g3 : (rd0 (nbF T n) ((rd0 (nbF T n) a).2.1 + 1)).1 = true
      · rw [if_pos g3]
        obtain ⟨t4, t5⟩ := t3 g3
        refine ⟨by simp only; omega, t2, fun _ => ⟨by simp only; omega, by simp only; omega⟩⟩
      · rw [if_neg g3]
        exact ⟨by simp only; omega, t2, fun q => tnf q.symm⟩
    · rw [if_neg g2]
      refine ⟨s1, s2, fun _ => ⟨s4, ?_⟩⟩
      simp only [List.length_nil]
      omega
  · rw [if_neg g1]
    exact ⟨s1, s2, fun q => tnf q.symm⟩
def mcS : List LN → List Int
  | [] => []
  | l :: r => l.1 ++ l.2 ++ mcS r
def mlP (TE LE : Nat → Int) : Nat → Int → List LN → Prop
  | _, _, [] => True
  | i, s, l :: r => TE i = s + l.1.length ∧ LE i = s + l.1.length + l.2.length ∧ mlP TE LE (i + 1) (s + l.1.length + l.2.length) r
theorem mcS_app : ∀ (ls : List LN) (l : LN), mcS (ls ++ [l]) = mcS ls ++ (l.1 ++ l.2)
  | [], l => by simp [mcS]
  | x :: r, l => by simp only [mcS, List.cons_append, mcS_app r l, List.append_assoc]
theorem mlP_app {TE LE : Nat → Int} : ∀ (ls : List LN) (l : LN) (i : Nat) (s : Int), mlP TE LE i s ls → TE (i + ls.length) = s + (mcS ls).length + l.1.length → LE (i + ls.length) = s + (mcS ls).length + l.1.length + l.2.length → mlP TE LE i s (ls ++ [l])
  | [], l, i, s, h, h1, h2 => ⟨by simpa [mcS] using h1, by simpa [mcS] using h2, trivial⟩
  | x :: r, l, i, s, h, h1, h2 => by
    refine ⟨h.1, h.2.1, mlP_app r l (i + 1) _ h.2.2 ?_ ?_⟩
    · rw [show i + 1 + r.length = i + (x :: r).length by rw [List.length_cons]; omega, h1, mcS]; simp only [List.length_append]; omega
    · rw [show i + 1 + r.length = i + (x :: r).length by rw [List.length_cons]; omega, h2, mcS]; simp only [List.length_append]; omega
theorem mlP_cong {TE LE TE' LE' : Nat → Int} : ∀ (ls : List LN) (i : Nat) (s : Int), (∀ j, i ≤ j → j < i + ls.length → TE' j = TE j ∧ LE' j = LE j) → mlP TE LE i s ls → mlP TE' LE' i s ls
  | [], _, _, _, _ => trivial
  | l :: r, i, s, h, hp => by
    have h0 := h i (by omega) (by rw [List.length_cons]; omega)
    exact ⟨by rw [h0.1]; exact hp.1, by rw [h0.2]; exact hp.2.1, mlP_cong r (i + 1) _ (fun j h1 h2 => h j (by omega) (by rw [List.length_cons]; omega)) hp.2.2⟩
/-- what a text's reading writes in the reference -/
def rtK (σ τ : Sto) : Prop := (∀ a, a ≠ 9 → a ≠ 96 → a ≠ 97 → a ≠ 98 → a ≠ 99 → a ≠ 100 → τ a = σ a) ∧ (∀ j, j ≠ 22 → j ≠ 23 → j ≠ 24 → j ≠ 25 → τ 9 j = σ 9 j) ∧ (∀ j, j < 130 → τ 96 j = σ 96 j ∧ τ 97 j = σ 97 j) ∧ τ 98 0 = σ 98 0 ∧ (∀ j, j < 61 → τ 99 j = σ 99 j ∧ τ 100 j = σ 100 j)
def rtI (σ : Sto) (ls : List LN) (a : Int) (τ : Sto) : Prop := rtK σ τ ∧ τ 9 23 = -1 ∧ τ 9 22 = a ∧ τ 9 24 = 0 ∧ τ 9 25 = (mcS ls).length ∧ τ 98 1 = ls.length ∧ Seg τ 96 130 ((mcS ls).map aOf) ∧ Seg τ 97 130 ((mcS ls).map wOf) ∧ mlP (fun i => τ 99 (61 + i)) (fun i => τ 100 (61 + i)) 0 0 ls
def rtF (σ : Sto) (a : Int) (τ : Sto) : Prop := rtK σ τ ∧ τ 9 23 = a ∧ 0 ≤ a ∧ (0 ≤ τ 9 22 ∧ τ 9 22 ≤ 120)
def rtE (σ : Sto) (R : Bool × Int × List LN) (τ : Sto) : Prop := (R.1 = true ∧ rtI σ R.2.2 R.2.1 τ) ∨ (R.1 = false ∧ rtF σ R.2.1 τ)
theorem rtK.tp {T : Nat → Int} {n : Int} {σ τ : Sto} (h : rtK σ τ) (t : tpM T n σ) : tpM T n τ := by
  obtain ⟨t1, t2, t3, t4⟩ := t
  exact ⟨t1, by rw [h.2.1 21 (by decide) (by decide) (by decide) (by decide)]; exact t2, t3, fun j => by rw [h.1 95 (by decide) (by decide) (by decide) (by decide) (by decide) (by decide)]; exact t4 j⟩
/-- one line more -/
theorem rtI.line {nb : Int → Int} {σ τ υ : Sto} {ls : List LN} {a a' : Int} {r : Bool × Int × LN} (h : rtI σ ls a τ) (hl : ls.length ≤ 60) (g : rlM nb (z_put τ 9 22 a') ls.length r υ) : (r.1 = true ∧ rtI σ (ls ++ [r.2.2]) r.2.1 υ) ∨ ((r.1 = true → isD (nb r.2.1) = true) ∧ rtF σ r.2.1 υ) := by
  obtain ⟨⟨k1, k2, k3, k4, k5⟩, i1, i2, i3, i4, i5, i6, i7, i8⟩ := h
  obtain ⟨g1, g2, g3, g4, g5, g6⟩ := g
  have hK : rtK σ υ := ⟨fun b b1 b2 b3 b4 b5 b6 => by rw [g1 b b1 b2 b3 b4 b5 b6, z_put_ne b1, k1 b b1 b2 b3 b4 b5 b6], fun j b1 b2 b3 b4 => by rw [g2 j b1 b2 b3 b4, z_rd, if_pos rfl, if_neg b1, k2 j b1 b2 b3 b4], fun j hj => ⟨by rw [(g3 j hj).1, z_put_ne (by decide), (k3 j hj).1], by rw [(g3 j hj).2, z_put_ne (by decide), (k3 j hj).2]⟩, by rw [g4.1, z_put_ne (by decide), k4], fun j hj => ⟨by rw [(g5 j (by omega)).1, z_put_ne (by decide), (k5 j hj).1], by rw [(g5 j (by omega)).2, z_put_ne (by decide), (k5 j hj).2]⟩⟩
  have e25 : z_put τ 9 22 a' 9 25 = (mcS ls).length := i4
  rcases g6 with ⟨q1, q2, q3, q4, q5, q6, q7, q8, q9, q10⟩ | ⟨q1, q2, q3, q4⟩
  · rw [e25] at q5 q6 q7 q8 q9 q10
    have e : 130 + ((mcS ls).length : Int).toNat = 130 + (mcS ls).length := by omega
    rw [e] at q7 q8
    refine Or.inl ⟨q1, hK, q2, q3, q4, ?_, ?_, ?_, ?_, ?_⟩
    · rw [mcS_app, q5]; simp only [List.length_append]; omega
    · rw [g4.2, List.length_append]; simp
    · rw [mcS_app, List.map_append]
      refine Seg.app (Seg.cong (fun j b c => ?_) i6) ?_
      · simp only [List.length_map] at c
        have := (q6 j (by omega)).1
        rwa [z_put_ne (by decide)] at this
      · rw [List.length_map]; exact q7
    · rw [mcS_app, List.map_append]
      refine Seg.app (Seg.cong (fun j b c => ?_) i7) ?_
      · simp only [List.length_map] at c
        have := (q6 j (by omega)).2
        rwa [z_put_ne (by decide)] at this
      · rw [List.length_map]; exact q8
    · refine mlP_app ls r.2.2 0 0 (mlP_cong ls 0 0 (fun j h1 h2 => ?_) i8) ?_ ?_
      · have := g5 (61 + j) (by omega)
        rw [z_put_ne (by decide), z_put_ne (by decide)] at this
        exact this
      · show υ 99 (61 + (0 + ls.length)) = _
        rw [show 61 + (0 + ls.length) = (61 + (ls.length : Int)).toNat by omega, q9, Int.zero_add]
      · show υ 100 (61 + (0 + ls.length)) = _
        rw [show 61 + (0 + ls.length) = (61 + (ls.length : Int)).toNat by omega, q10, Int.zero_add]
  · exact Or.inr ⟨q1, hK, q2, q3, q4⟩
set_option maxRecDepth 20000 in
theorem f_X9_readText {σ τ : Sto} {a : Int} {Q : Option Value → Sto → Prop} (h : rtF σ a τ) (kk : ∀ υ : Sto, rtF σ a υ → Z (z_me cX9_readText RX9 3 (some .int) 53 Q) 86 [some (zR 9), some (zI 0), none] [] υ) :
    Z (z_me cX9_readText RX9 3 (some .int) 53 Q) 31 [some (zR 9), some (zI 0), none] [] τ := by
  have e23 := h.2.1
  have h0 := h.2.2.1
  refine z_aload_n dX9_readText_31 rfl ?_
  refine z_getI dX9_readText_32 gX9_199 rfl (Nat.le_of_ble_eq_true rfl) rfl (fun hr32 => ?_)
  refine z_if_ge (tgt := 64) dX9_readText_35 (by decide) ⟨by omega, by omega⟩ (fun h35 => ?_) (fun h35 => ?_)
  · skip
    refine z_aload_n dX9_readText_64 rfl ?_
    refine z_getI dX9_readText_65 gX9_199 rfl (Nat.le_of_ble_eq_true rfl) rfl (fun hr65 => ?_)
    refine z_if_ge (tgt := 86) dX9_readText_68 (by decide) ⟨by omega, by omega⟩ (fun h68 => ?_) (fun h68 => ?_)
    · skip
      exact kk τ h
    · exfalso; omega
  · exfalso; omega
/-- behind a line that is well, at a: what the rest gives -/
def rstF (nb : Int → Int) (n : Int) (m : Nat) (ls : List LN) (a : Int) : Bool × Int × List LN :=
  if n ≤ a then (true, a, ls) else if nb a = 59 then ((rdls nb n m (a + 1)).1, (rdls nb n m (a + 1)).2.1, ls ++ (rdls nb n m (a + 1)).2.2) else (false, a, [])
def rtQ (R S : Bool × Int × List LN) : Prop := R.1 = S.1 ∧ R.2.1 = S.2.1 ∧ (S.1 = true → R.2.2 = S.2.2)
set_option maxRecDepth 20000 in
theorem l_X9_readText {T : Nat → Int} {n : Int} {σ : Sto} {R : Bool × Int × List LN} {Q : Option Value → Sto → Prop} (ht : tpM T n σ) (kk : ∀ υ : Sto, rtE σ R υ → Z (z_me cX9_readText RX9 3 (some .int) 53 Q) 86 [some (zR 9), some (zI 0), none] [] υ) :
    ∀ (m : Nat) (τ : Sto) (ls : List LN) (a : Int), ls.length + m = 120 → 2 * ls.length ≤ a + 1 → (0 ≤ a ∧ a ≤ n) → ((mcS ls).length : Int) ≤ a → rtI σ ls a τ → rtQ R (rstF (nbF T n) n m ls a) →
    Z (z_me cX9_readText RX9 3 (some .int) 53 Q) 31 [some (zR 9), some (zI 0), none] [] τ := by
  intro m
  induction m with
  | zero =>
    intro τ ls a hm hl ha hc hI hR
    exfalso
    have := ht.1
    omega
  | succ m ih =>
    intro τ ls a hm hl ha hc hI hR
    obtain ⟨tn, t21, tT, t95⟩ := id ht
    have tt := hI.1.tp ht
    have tt21 := tt.2.1
    obtain ⟨hK, e23, e22, e24, e25, e98, -⟩ := id hI
    have hsb := sbF_c (nbF T n a)
    have hbR := nbF_R (T := T) (n := n) (a := a) tT
    refine z_aload_n dX9_readText_31 rfl ?_
    refine z_getI dX9_readText_32 gX9_199 rfl (Nat.le_of_ble_eq_true rfl) rfl (fun hr32 => ?_)
    refine z_if_ge (tgt := 64) dX9_readText_35 (by decide) ⟨by omega, by omega⟩ (fun h35 => ?_) (fun h35 => ?_)
    · exfalso; omega
    · skip
      refine z_aload_n dX9_readText_38 rfl ?_
      refine z_callVI (d := 52) (av := []) dX9_readText_39 vX9_211 rfl (Nat.le_of_ble_eq_true rfl) rfl rfl rfl (Nat.le_of_ble_eq_true rfl) (Nat.le_refl _) (c_X9_look tt (by omega)) (fun z39 σ39 h39 => ?_)
      obtain ⟨hs39, hz⟩ := h39
      subst σ39
      rw [e22] at hz
      subst hz
      refine z_bipush (v := 59) dX9_readText_42 (by decide +kernel) ?_
      refine z_icmp_ne (tgt := 64) dX9_readText_44 (by decide) ⟨by omega, by omega⟩ ⟨by omega, by omega⟩ (fun h44 => ?_) (fun h44 => ?_)
      · skip
        refine z_aload_n dX9_readText_64 rfl ?_
        refine z_getI dX9_readText_65 gX9_199 rfl (Nat.le_of_ble_eq_true rfl) rfl (fun hr65 => ?_)
        refine z_if_ge (tgt := 86) dX9_readText_68 (by decide) ⟨by omega, by omega⟩ (fun h68 => ?_) (fun h68 => ?_)
        · exfalso; omega
        · skip
          refine z_aload_n dX9_readText_71 rfl ?_
          refine z_getI dX9_readText_72 gX9_196 rfl (Nat.le_of_ble_eq_true rfl) rfl (fun hr72 => ?_)
          refine z_aload_n dX9_readText_75 rfl ?_
          refine z_getI dX9_readText_76 gX9_193 rfl (Nat.le_of_ble_eq_true rfl) rfl (fun hr76 => ?_)
          refine z_icmp_ge (tgt := 86) dX9_readText_79 (by decide) ⟨by omega, by omega⟩ ⟨by omega, by omega⟩ (fun h79 => ?_) (fun h79 => ?_)
          · skip
            first
              | (rw [rstF, if_pos (by omega)] at hR
                 refine kk _ (Or.inl ⟨hR.1, ?_⟩)
                 rw [hR.2.2 rfl, hR.2.1]
                 exact hI)
              | (rw [rstF, if_neg (by omega), if_neg (by omega)] at hR
                 refine kk _ (Or.inr ⟨hR.1, ?_⟩)
                 rw [hR.2.1]
                 refine ⟨⟨fun b b1 b2 b3 b4 b5 b6 => by rw [z_put_ne b1]; exact hK.1 b b1 b2 b3 b4 b5 b6, fun j b1 b2 b3 b4 => by rw [z_rd, if_pos rfl, if_neg b2]; exact hK.2.1 j b1 b2 b3 b4, fun j hj => ⟨by rw [z_put_ne (by decide)]; exact (hK.2.2.1 j hj).1, by rw [z_put_ne (by decide)]; exact (hK.2.2.1 j hj).2⟩, by rw [z_put_ne (by decide)]; exact hK.2.2.2.1, fun j hj => ⟨by rw [z_put_ne (by decide)]; exact (hK.2.2.2.2 j hj).1, by rw [z_put_ne (by decide)]; exact (hK.2.2.2.2 j hj).2⟩⟩, by rw [z_rd, if_pos rfl, if_pos rfl]; exact e22, ha.1, by rw [z_rd, if_pos rfl, if_neg (by decide)]; omega⟩)
          · skip
            refine z_aload_n dX9_readText_82 rfl ?_
            refine z_callVV (d := 52) (av := []) dX9_readText_83 vX9_208 rfl (Nat.le_of_ble_eq_true rfl) rfl rfl rfl (Nat.le_of_ble_eq_true rfl) (Nat.le_refl _) (c_X9_wrong e23) (fun σ83 h83 => ?_)
            subst h83
            first
              | (rw [rstF, if_pos (by omega)] at hR
                 refine kk _ (Or.inl ⟨hR.1, ?_⟩)
                 rw [hR.2.2 rfl, hR.2.1]
                 exact hI)
              | (rw [rstF, if_neg (by omega), if_neg (by omega)] at hR
                 refine kk _ (Or.inr ⟨hR.1, ?_⟩)
                 rw [hR.2.1]
                 refine ⟨⟨fun b b1 b2 b3 b4 b5 b6 => by rw [z_put_ne b1]; exact hK.1 b b1 b2 b3 b4 b5 b6, fun j b1 b2 b3 b4 => by rw [z_rd, if_pos rfl, if_neg b2]; exact hK.2.1 j b1 b2 b3 b4, fun j hj => ⟨by rw [z_put_ne (by decide)]; exact (hK.2.2.1 j hj).1, by rw [z_put_ne (by decide)]; exact (hK.2.2.1 j hj).2⟩, by rw [z_put_ne (by decide)]; exact hK.2.2.2.1, fun j hj => ⟨by rw [z_put_ne (by decide)]; exact (hK.2.2.2.2 j hj).1, by rw [z_put_ne (by decide)]; exact (hK.2.2.2.2 j hj).2⟩⟩, by rw [z_rd, if_pos rfl, if_pos rfl]; exact e22, ha.1, by rw [z_rd, if_pos rfl, if_neg (by decide)]; omega⟩)
      · skip
        refine z_aload_n dX9_readText_47 rfl ?_
        refine z_dup dX9_readText_48 rfl ?_
        refine z_getI dX9_readText_49 gX9_196 rfl (Nat.le_of_ble_eq_true rfl) rfl (fun hr49 => ?_)
        refine z_iconst dX9_readText_52 ?_
        refine z_iadd dX9_readText_53 ?_
        refine z_putI dX9_readText_54 pX9_196 rfl (Nat.le_of_ble_eq_true rfl) rfl ⟨by omega, by omega⟩ ?_
        have hlt := nbF_lt (T := T) (n := n) (a := a) (by omega)
        rw [e22]
        have hB1 : rmB T n (z_put τ 9 22 (a + 1)) := ⟨tt, e23, (show 0 ≤ a + 1 ∧ a + 1 ≤ n by omega), (show 0 ≤ τ 9 25 ∧ τ 9 25 ≤ a + 1 by omega), (show 0 ≤ τ 9 24 ∧ τ 9 24 ≤ 6 by omega)⟩
        refine z_aload_n dX9_readText_57 rfl ?_
        refine z_callVV (d := 52) (av := []) dX9_readText_58 vX9_248 rfl (Nat.le_of_ble_eq_true rfl) rfl rfl rfl (Nat.le_of_ble_eq_true rfl) (Nat.le_refl _) (c_X9_line hB1 e24 (m := ls.length) (by omega) e98) (fun σ58 h58 => ?_)
        skip
        refine z_goto (tgt := 31) dX9_readText_61 (by decide) ?_
        have h58 : rlM (nbF T n) (z_put τ 9 22 (a + 1)) ls.length (rdl (nbF T n) (a + 1)) σ58 := h58
        have hl := hI.line (by omega) h58
        have hrr := rdl_RM (T := T) (n := n) (a := a + 1) (by omega) (by omega) 0
        rw [rstF, if_neg (by omega), if_pos (by omega), rdls] at hR
        rcases hl with ⟨g1, g2⟩ | ⟨g1, g2⟩
        · rw [if_pos g1] at hR
          obtain ⟨r1, r2, r3⟩ := hrr
          obtain ⟨r4, r5⟩ := r3 g1
          refine ih _ _ _ (by rw [List.length_append]; simp only [List.length_cons, List.length_nil]; omega) (by rw [List.length_append]; simp only [List.length_cons, List.length_nil]; omega) ⟨by omega, r2⟩ (by rw [mcS_app]; simp only [List.length_append]; omega) g2 ?_
          rw [rstF]
          by_cases c1 : n ≤ (rdl (nbF T n) (a + 1)).2.1
          · rw [if_pos c1] at hR ⊢; exact hR
          · rw [if_neg c1] at hR ⊢
            by_cases c2 : nbF T n (rdl (nbF T n) (a + 1)).2.1 = 59
            · rw [if_pos c2] at hR ⊢; simp only [List.append_assoc, List.cons_append, List.nil_append]; exact hR
            · rw [if_neg c2] at hR ⊢; exact ⟨hR.1, hR.2.1, fun q => tnf q.symm⟩
        · refine f_X9_readText g2 (fun υ hu => kk υ (Or.inr ?_))
          by_cases c0 : (rdl (nbF T n) (a + 1)).1 = true
          · rw [if_pos c0] at hR
            have h2 : 48 ≤ nbF T n (rdl (nbF T n) (a + 1)).2.1 ∧ nbF T n (rdl (nbF T n) (a + 1)).2.1 ≤ 57 := of_decide_eq_true (g1 c0)
            have h3 := nbF_lt (T := T) (n := n) (a := (rdl (nbF T n) (a + 1)).2.1) (by omega)
            rw [if_neg (by omega), if_neg (by omega)] at hR
            exact ⟨hR.1, by rw [hR.2.1]; exact hu⟩
          · rw [if_neg c0] at hR
            exact ⟨hR.1, by rw [hR.2.1]; exact hu⟩
/-! ===== the text's steps become the law's ===== -/
theorem i2s_I {x : Int} (h : 0 ≤ x ∧ x < 256) : z_i2sF x = x := by
  have := i2s_id x.toNat (by omega)
  rwa [show ((x.toNat : Nat) : Int) = x by omega] at this
/-- the copying of steps, of lines -/
def cpK (σ τ : Sto) : Prop := (∀ a, a ≠ 96 → a ≠ 97 → a ≠ 98 → a ≠ 99 → a ≠ 100 → τ a = σ a) ∧ (∀ j, 130 ≤ j → τ 96 j = σ 96 j ∧ τ 97 j = σ 97 j) ∧ τ 98 1 = σ 98 1 ∧ (∀ j, 61 ≤ j → τ 99 j = σ 99 j ∧ τ 100 j = σ 100 j)
theorem cpK.rf (σ : Sto) : cpK σ σ := ⟨fun _ _ _ _ _ _ => rfl, fun _ _ => ⟨rfl, rfl⟩, rfl, fun _ _ => ⟨rfl, rfl⟩⟩
set_option maxRecDepth 20000 in
theorem l_X9_copy1 {σ : Sto} {L : Int} {Q : Option Value → Sto → Prop} (hL : 0 ≤ L ∧ L ≤ 122) (h25 : σ 9 25 = L) (hA : ∀ j : Nat, (j : Int) < L → 0 ≤ σ 96 (130 + j) ∧ σ 96 (130 + j) < 128)
    (kk : ∀ τ : Sto, cpK σ τ → (∀ j : Nat, (j : Int) < L → τ 96 j = σ 96 (130 + j) ∧ τ 97 j = σ 97 (130 + j)) → Z (z_me cX9_readText RX9 3 (some .int) 53 Q) 163 [some (zR 9), some (zI 0), some (zI L)] [] τ) :
    ∀ (m : Nat) (τ : Sto) (i : Int), i + m = L → 0 ≤ i → cpK σ τ → (∀ j : Nat, (j : Int) < i → τ 96 j = σ 96 (130 + j) ∧ τ 97 j = σ 97 (130 + j)) →
    Z (z_me cX9_readText RX9 3 (some .int) 53 Q) 105 [some (zR 9), some (zI 0), some (zI i)] [] τ
  | 0, τ, i, hi, h0, hK, hI => by
    obtain rfl : i = L := by omega
    have e9 : τ 9 = σ 9 := hK.1 9 (by decide) (by decide) (by decide) (by decide) (by decide)
    refine z_iload_n dX9_readText_105 rfl ?_
    refine z_aload_n dX9_readText_106 rfl ?_
    refine z_getI dX9_readText_107 gX9_202 rfl (Nat.le_of_ble_eq_true rfl) rfl (fun hr107 => ?_)
    try simp only [e9, h25, z_rd, Nat.reduceEqDiff, ↓reduceIte, eq_self] at hr107 ⊢
    refine z_icmp_ge (tgt := 163) dX9_readText_110 (by decide) ⟨by omega, by omega⟩ ⟨by omega, by omega⟩ (fun h110 => ?_) (fun h110 => ?_)
    · skip
      exact kk τ hK hI
    · exfalso; omega
  | m + 1, τ, i, hi, h0, hK, hI => by
    have e9 : τ 9 = σ 9 := hK.1 9 (by decide) (by decide) (by decide) (by decide) (by decide)
    have eA : τ 96 (130 + i).toNat = σ 96 (130 + i.toNat) := by rw [show (130 + i).toNat = 130 + i.toNat by omega]; exact (hK.2.1 _ (by omega)).1
    have eW : τ 97 (130 + i).toNat = σ 97 (130 + i.toNat) := by rw [show (130 + i).toNat = 130 + i.toNat by omega]; exact (hK.2.1 _ (by omega)).2
    have hAi := hA i.toNat (by omega)
    have eb := i2b_I hAi
    refine z_iload_n dX9_readText_105 rfl ?_
    refine z_aload_n dX9_readText_106 rfl ?_
    refine z_getI dX9_readText_107 gX9_202 rfl (Nat.le_of_ble_eq_true rfl) rfl (fun hr107 => ?_)
    try simp only [e9, h25, z_rd, Nat.reduceEqDiff, ↓reduceIte, eq_self] at hr107 ⊢
    refine z_icmp_ge (tgt := 163) dX9_readText_110 (by decide) ⟨by omega, by omega⟩ ⟨by omega, by omega⟩ (fun h110 => ?_) (fun h110 => ?_)
    · exfalso; omega
    · skip
      refine z_aload_n dX9_readText_113 rfl ?_
      refine z_getR dX9_readText_114 gX9_59 rfl (Nat.le_of_ble_eq_true rfl) rfl ?_
      refine z_sipush (v := 130) dX9_readText_117 (by decide +kernel) ?_
      refine z_iload_n dX9_readText_120 rfl ?_
      refine z_imul dX9_readText_121 ?_
      refine z_iload_n dX9_readText_122 rfl ?_
      refine z_iadd dX9_readText_123 ?_
      refine z_aload_n dX9_readText_124 rfl ?_
      refine z_getR dX9_readText_125 gX9_59 rfl (Nat.le_of_ble_eq_true rfl) rfl ?_
      refine z_sipush (v := 130) dX9_readText_128 (by decide +kernel) ?_
      refine z_iload_n dX9_readText_131 rfl ?_
      refine z_iadd dX9_readText_132 ?_
      refine z_bald dX9_readText_133 rfl (Nat.le_of_ble_eq_true rfl) (by omega) (fun hr133 => ?_)
      try simp only [e9, h25, z_rd, Nat.reduceEqDiff, ↓reduceIte, eq_self] at hr133 ⊢
      refine z_bast dX9_readText_134 rfl (Nat.le_of_ble_eq_true rfl) (by omega) ?_
      refine z_aload_n dX9_readText_135 rfl ?_
      refine z_getR dX9_readText_136 gX9_62 rfl (Nat.le_of_ble_eq_true rfl) rfl ?_
      refine z_sipush (v := 130) dX9_readText_139 (by decide +kernel) ?_
      refine z_iload_n dX9_readText_142 rfl ?_
      refine z_imul dX9_readText_143 ?_
      refine z_iload_n dX9_readText_144 rfl ?_
      refine z_iadd dX9_readText_145 ?_
      refine z_aload_n dX9_readText_146 rfl ?_
      refine z_getR dX9_readText_147 gX9_62 rfl (Nat.le_of_ble_eq_true rfl) rfl ?_
      refine z_sipush (v := 130) dX9_readText_150 (by decide +kernel) ?_
      refine z_iload_n dX9_readText_153 rfl ?_
      refine z_iadd dX9_readText_154 ?_
      refine z_iald dX9_readText_155 rfl (Nat.le_of_ble_eq_true rfl) (by omega) (fun hr155 => ?_)
      try simp only [e9, h25, z_rd, Nat.reduceEqDiff, ↓reduceIte, eq_self] at hr155 ⊢
      refine z_iast dX9_readText_156 rfl (Nat.le_of_ble_eq_true rfl) (by omega) ⟨by omega, by omega⟩ ?_
      refine z_iinc (L' := [_, _, _]) dX9_readText_157 (Nat.le_of_ble_eq_true rfl) rfl rfl rfl ?_
      refine z_goto (tgt := 105) dX9_readText_160 (by decide) ?_
      rw [eA, eb, eW, show (130 * 0 + i).toNat = i.toNat by omega]
      refine l_X9_copy1 hL h25 hA kk m _ (i + 1) (by omega) (by omega) ⟨fun a b c d e f => by rw [z_put_ne c, z_put_ne b]; exact hK.1 a b c d e f, fun j hj => ⟨?_, ?_⟩, by rw [z_put_ne (by decide), z_put_ne (by decide)]; exact hK.2.2.1, fun j hj => ⟨by rw [z_put_ne (by decide), z_put_ne (by decide)]; exact (hK.2.2.2 j hj).1, by rw [z_put_ne (by decide), z_put_ne (by decide)]; exact (hK.2.2.2 j hj).2⟩⟩ (fun j hj => ?_)
      · rw [z_put_ne (by decide), z_rd, if_pos rfl, if_neg (by omega)]; exact (hK.2.1 j hj).1
      · rw [z_rd, if_pos rfl, if_neg (by omega), z_put_ne (by decide)]; exact (hK.2.1 j hj).2
      · by_cases hji : j = i.toNat
        · subst hji
          exact ⟨by rw [z_put_ne (by decide), z_rd, if_pos rfl, if_pos rfl], by rw [z_rd, if_pos rfl, if_pos rfl]⟩
        · have := hI j (by omega)
          exact ⟨by rw [z_put_ne (by decide), z_rd, if_pos rfl, if_neg hji]; exact this.1, by rw [z_rd, if_pos rfl, if_neg hji, z_put_ne (by decide)]; exact this.2⟩
set_option maxRecDepth 20000 in
theorem l_X9_copy2 {σ : Sto} {L : Int} {Q : Option Value → Sto → Prop} (hL : 0 ≤ L ∧ L ≤ 61) (h98 : σ 98 0 = L) (hA : ∀ j : Nat, (j : Int) < L → (0 ≤ σ 99 (61 + j) ∧ σ 99 (61 + j) < 256) ∧ (0 ≤ σ 100 (61 + j) ∧ σ 100 (61 + j) < 256))
    (kk : ∀ τ : Sto, (∀ a, a ≠ 99 → a ≠ 100 → τ a = σ a) → (∀ j : Nat, (j : Int) < L → τ 99 j = σ 99 (61 + j) ∧ τ 100 j = σ 100 (61 + j)) → Z (z_me cX9_readText RX9 3 (some .int) 53 Q) 233 [some (zR 9), some (zI 0), some (zI L)] [] τ) :
    ∀ (m : Nat) (τ : Sto) (i : Int), i + m = L → 0 ≤ i → (∀ a, a ≠ 99 → a ≠ 100 → τ a = σ a) → (∀ j, 61 ≤ j → τ 99 j = σ 99 j ∧ τ 100 j = σ 100 j) → (∀ j : Nat, (j : Int) < i → τ 99 j = σ 99 (61 + j) ∧ τ 100 j = σ 100 (61 + j)) →
    Z (z_me cX9_readText RX9 3 (some .int) 53 Q) 177 [some (zR 9), some (zI 0), some (zI i)] [] τ
  | 0, τ, i, hi, h0, hK, hK2, hI => by
    obtain rfl : i = L := by omega
    have e98 : τ 98 (0 : Int).toNat = i := by rw [hK 98 (by decide) (by decide)]; exact h98
    refine z_iload_n dX9_readText_177 rfl ?_
    refine z_aload_n dX9_readText_178 rfl ?_
    refine z_getR dX9_readText_179 gX9_65 rfl (Nat.le_of_ble_eq_true rfl) rfl ?_
    refine z_iload_n dX9_readText_182 rfl ?_
    refine z_iald dX9_readText_183 rfl (Nat.le_of_ble_eq_true rfl) (by omega) (fun hr183 => ?_)
    rw [e98]
    refine z_icmp_ge (tgt := 233) dX9_readText_184 (by decide) ⟨by omega, by omega⟩ ⟨by omega, by omega⟩ (fun h184 => ?_) (fun h184 => ?_)
    · skip
      exact kk τ hK hI
    · exfalso; omega
  | m + 1, τ, i, hi, h0, hK, hK2, hI => by
    have e98 : τ 98 (0 : Int).toNat = L := by rw [hK 98 (by decide) (by decide)]; exact h98
    have eA : τ 99 (61 + i).toNat = σ 99 (61 + i.toNat) := by rw [show (61 + i).toNat = 61 + i.toNat by omega]; exact (hK2 _ (by omega)).1
    have eW : τ 100 (61 + i).toNat = σ 100 (61 + i.toNat) := by rw [show (61 + i).toNat = 61 + i.toNat by omega]; exact (hK2 _ (by omega)).2
    have hAi := hA i.toNat (by omega)
    have eb : z_i2sF (σ 99 (61 + i.toNat)) = σ 99 (61 + i.toNat) := i2s_I hAi.1
    have ec : z_i2sF (σ 100 (61 + i.toNat)) = σ 100 (61 + i.toNat) := i2s_I hAi.2
    refine z_iload_n dX9_readText_177 rfl ?_
    refine z_aload_n dX9_readText_178 rfl ?_
    refine z_getR dX9_readText_179 gX9_65 rfl (Nat.le_of_ble_eq_true rfl) rfl ?_
    refine z_iload_n dX9_readText_182 rfl ?_
    refine z_iald dX9_readText_183 rfl (Nat.le_of_ble_eq_true rfl) (by omega) (fun hr183 => ?_)
    rw [e98]
    refine z_icmp_ge (tgt := 233) dX9_readText_184 (by decide) ⟨by omega, by omega⟩ ⟨by omega, by omega⟩ (fun h184 => ?_) (fun h184 => ?_)
    · exfalso; omega
    · skip
      refine z_aload_n dX9_readText_187 rfl ?_
      refine z_getR dX9_readText_188 gX9_68 rfl (Nat.le_of_ble_eq_true rfl) rfl ?_
      refine z_bipush (v := 61) dX9_readText_191 (by decide +kernel) ?_
      refine z_iload_n dX9_readText_193 rfl ?_
      refine z_imul dX9_readText_194 ?_
      refine z_iload_n dX9_readText_195 rfl ?_
      refine z_iadd dX9_readText_196 ?_
      refine z_aload_n dX9_readText_197 rfl ?_
      refine z_getR dX9_readText_198 gX9_68 rfl (Nat.le_of_ble_eq_true rfl) rfl ?_
      refine z_bipush (v := 61) dX9_readText_201 (by decide +kernel) ?_
      refine z_iload_n dX9_readText_203 rfl ?_
      refine z_iadd dX9_readText_204 ?_
      refine z_sald dX9_readText_205 rfl (Nat.le_of_ble_eq_true rfl) (by omega) (fun hr205 => ?_)
      refine z_sast dX9_readText_206 rfl (Nat.le_of_ble_eq_true rfl) (by omega) ?_
      refine z_aload_n dX9_readText_207 rfl ?_
      refine z_getR dX9_readText_208 gX9_72 rfl (Nat.le_of_ble_eq_true rfl) rfl ?_
      refine z_bipush (v := 61) dX9_readText_211 (by decide +kernel) ?_
      refine z_iload_n dX9_readText_213 rfl ?_
      refine z_imul dX9_readText_214 ?_
      refine z_iload_n dX9_readText_215 rfl ?_
      refine z_iadd dX9_readText_216 ?_
      refine z_aload_n dX9_readText_217 rfl ?_
      refine z_getR dX9_readText_218 gX9_72 rfl (Nat.le_of_ble_eq_true rfl) rfl ?_
      refine z_bipush (v := 61) dX9_readText_221 (by decide +kernel) ?_
      refine z_iload_n dX9_readText_223 rfl ?_
      refine z_iadd dX9_readText_224 ?_
      refine z_sald dX9_readText_225 rfl (Nat.le_of_ble_eq_true rfl) (by omega) (fun hr225 => ?_)
      try simp only [z_rd, Nat.reduceEqDiff, ↓reduceIte, eq_self] at hr225 ⊢
      refine z_sast dX9_readText_226 rfl (Nat.le_of_ble_eq_true rfl) (by omega) ?_
      refine z_iinc (L' := [_, _, _]) dX9_readText_227 (Nat.le_of_ble_eq_true rfl) rfl rfl rfl ?_
      refine z_goto (tgt := 177) dX9_readText_230 (by decide) ?_
      rw [eA, eb, eW, ec, show (61 * 0 + i).toNat = i.toNat by omega]
      refine l_X9_copy2 hL h98 hA kk m _ (i + 1) (by omega) (by omega) (fun a b c => by rw [z_put_ne c, z_put_ne b]; exact hK a b c) (fun j hj => ⟨?_, ?_⟩) (fun j hj => ?_)
      · rw [z_put_ne (by decide), z_rd, if_pos rfl, if_neg (by omega)]; exact (hK2 j hj).1
      · rw [z_rd, if_pos rfl, if_neg (by omega), z_put_ne (by decide)]; exact (hK2 j hj).2
      · by_cases hji : j = i.toNat
        · subst hji
          exact ⟨by rw [z_put_ne (by decide), z_rd, if_pos rfl, if_pos rfl], by rw [z_rd, if_pos rfl, if_pos rfl]⟩
        · have := hI j (by omega)
          exact ⟨by rw [z_put_ne (by decide), z_rd, if_pos rfl, if_neg hji]; exact this.1, by rw [z_rd, if_pos rfl, if_neg hji, z_put_ne (by decide)]; exact this.2⟩
theorem aOf_R {out : List Int} (h : ∀ c ∈ out, -127 ≤ c ∧ c ≤ 100000) : ∀ x ∈ out.map aOf, 0 ≤ x ∧ x < 128 := by
  intro x hx
  obtain ⟨c, hc, rfl⟩ := List.mem_map.mp hx
  have := h c hc
  unfold aOf
  repeat' split
  all_goals omega
def tokR (l : List Int) : Prop := ∀ c ∈ l, -127 ≤ c ∧ c ≤ 100000
theorem tokR.app {a b : List Int} (h : tokR a) (g : tokR b) : tokR (a ++ b) := fun c hc => (List.mem_append.mp hc).elim (h c) (g c)
theorem lpF_T {nb : Int → Int} {sub : Int → RT} {lvl : Int} (hl : 0 ≤ lvl) (hs : ∀ a, (sub a).1 = true → tokR (sub a).2.2) : ∀ (t : Nat) (a : Int) (out : List Int), tokR out → (lpF sub nb lvl t a out).1 = true → tokR (lpF sub nb lvl t a out).2.2
  | 0, a, out, ho, _ => ho
  | t + 1, a, out, ho, h => by
    rw [lpF] at h ⊢
    by_cases h2 : lvO (nb a) = lvl
    · rw [if_pos h2] at h ⊢
      by_cases h4 : (sub (a + 1)).1 = true
      · rw [if_pos h4] at h ⊢
        refine lpF_T hl hs t _ _ ((ho.app (hs _ h4)).app (fun c hc => ?_)) h
        have := lvO_s (s := nb a) (by omega)
        rw [List.mem_singleton] at hc
        omega
      · rw [if_neg h4] at h
        exact tnf h.symm
    · rw [if_neg h2]
      exact ho
theorem rd_T {nb : Int → Int} (hb : ∀ a, -1 ≤ nb a ∧ nb a ≤ 255) : ∀ (k : Nat) (lvl o a : Int), (0 ≤ lvl ∧ lvl ≤ 5) → (rd nb k lvl o a).1 = true → tokR (rd nb k lvl o a).2.2
  | 0, lvl, o, a, hl, h => by simp [rd] at h
  | k + 1, lvl, o, a, hl, h => by
    by_cases g1 : lvl < 5
    · rw [rd_l g1] at h ⊢
      by_cases g2 : (rd nb k (lvl + 1) o a).1 = true
      · rw [if_pos g2] at h ⊢
        exact lpF_T hl.1 (fun a' q => rd_T hb k (lvl + 1) o a' (by omega) q) _ _ _ (rd_T hb k (lvl + 1) o a (by omega) g2) h
      · rw [if_neg g2] at h
        exact tnf h.symm
    · obtain rfl : lvl = 5 := by omega
      rw [rd_5] at h ⊢
      split at h
      · rename_i c; rw [if_pos c]
        have hv := rdN_v hb 4 a 0 (by decide) (by decide)
        exact fun x hx => by rw [List.mem_singleton] at hx; omega
      · rename_i c; rw [if_neg c]
        split at h
        · rename_i c; rw [if_pos c]
          have hn := nmF_R (nb a)
          exact fun x hx => by rw [List.mem_singleton] at hx; omega
        · rename_i c; rw [if_neg c]
          split at h
          · exact tnf h.symm
          · rename_i c; rw [if_neg c]
            split at h
            · rename_i c5; rw [if_pos c5]
              split at h
              · rename_i c6; rw [if_pos c6]
                refine (rd_T hb k 5 (o + 1) (a + 1) (by omega) c6).app (fun x hx => ?_)
                rw [List.mem_singleton] at hx
                rw [hx]
                split <;> decide
              · exact tnf h.symm
            · rename_i c5; rw [if_neg c5]
              split at h
              · rename_i c6; rw [if_pos c6]
                split at h
                · rename_i c7; rw [if_pos c7]
                  split at h
                  · rename_i c8; rw [if_pos c8]
                    exact rd_T hb k 0 (o + 1) (a + 1) (by omega) c7
                  · exact tnf h.symm
                · exact tnf h.symm
              · exact tnf h.symm
theorem rdls_T {nb : Int → Int} {n : Int} (hb : ∀ a, -1 ≤ nb a ∧ nb a ≤ 255) : ∀ (m : Nat) (a : Int), (rdls nb n m a).1 = true → tokR (mcS (rdls nb n m a).2.2)
  | 0, a, h => fun x hx => absurd hx (by simp [rdls, mcS])
  | m + 1, a, h => by
    rw [rdls] at h ⊢
    split at h
    · rename_i c1
      rw [if_pos c1]
      have hl : tokR ((rdl nb a).2.2.1 ++ (rdl nb a).2.2.2) := by
        unfold rdl at c1 ⊢
        split at c1
        · rename_i c2; rw [if_pos c2]
          have h0 : tokR (rd0 nb a).2.2 := rd_T hb 48 0 0 a (by omega) c2
          split at c1
          · rename_i c3; rw [if_pos c3]
            split at c1
            · rename_i c4; rw [if_pos c4]
              exact h0.app (rd_T hb 48 0 0 _ (by omega) c4)
            · exact tnf c1.symm
          · rename_i c3; rw [if_neg c3]
            exact h0
        · exact tnf c1.symm
      split at h
      · rename_i c2; rw [if_pos c2]
        simp only [mcS, List.append_nil]
        exact hl
      · rename_i c2; rw [if_neg c2]
        split at h
        · rename_i c3; rw [if_pos c3]
          exact hl.app (rdls_T hb m ((rdl nb a).2.1 + 1) h)
        · exact tnf h.symm
    · exact tnf h.symm
theorem Seg.mem {σ : Sto} {k i : Nat} {X : List Int} (h : Seg σ k i X) {P : Int → Prop} (hP : ∀ x ∈ X, P x) {j : Nat} (hj : j < X.length) : P (σ k (i + j)) := by
  rw [Seg.getD h hj, List.getD_eq_getElem?_getD, List.getElem?_eq_getElem hj]
  exact hP _ (List.getElem_mem hj)
theorem mlP_R {TE LE : Nat → Int} : ∀ (ls : List LN) (i : Nat) (s : Int), 0 ≤ s → mlP TE LE i s ls → ∀ j, i ≤ j → j < i + ls.length → (0 ≤ TE j ∧ TE j ≤ s + (mcS ls).length) ∧ (0 ≤ LE j ∧ LE j ≤ s + (mcS ls).length)
  | [], i, s, h0, h, j, h1, h2 => absurd h2 (by simp; omega)
  | l :: r, i, s, h0, h, j, h1, h2 => by
    rw [List.length_cons] at h2
    have e : (mcS (l :: r)).length = l.1.length + l.2.length + (mcS r).length := by simp only [mcS, List.length_append]
    rw [e]
    by_cases hj : j = i
    · subst hj
      rw [h.1, h.2.1]
      omega
    · have := mlP_R r (i + 1) (s + l.1.length + l.2.length) (by omega) h.2.2 j (by omega) (by omega)
      omega
/-- behind the reading of a text, in the reference -/
def rtD (σ : Sto) (R : Bool × Int × List LN) (z : Int) (τ : Sto) : Prop := (∀ a, a ≠ 9 → a ≠ 96 → a ≠ 97 → a ≠ 98 → a ≠ 99 → a ≠ 100 → τ a = σ a) ∧ (∀ j, j ≠ 21 → j ≠ 22 → j ≠ 23 → j ≠ 24 → j ≠ 25 → τ 9 j = σ 9 j) ∧ τ 9 21 = 0 ∧
  ((R.1 = false ∧ z = R.2.1 ∧ (0 ≤ z ∧ z ≤ 2147483647) ∧ (∀ j, j < 130 → τ 96 j = σ 96 j ∧ τ 97 j = σ 97 j) ∧ τ 98 0 = σ 98 0 ∧ (∀ j, j < 61 → τ 99 j = σ 99 j ∧ τ 100 j = σ 100 j)) ∨ (R.1 = true ∧ z = -1 ∧ Seg τ 96 0 ((mcS R.2.2).map aOf) ∧ Seg τ 97 0 ((mcS R.2.2).map wOf) ∧ τ 98 0 = R.2.2.length ∧ mlP (τ 99) (τ 100) 0 0 R.2.2))
set_option maxRecDepth 20000 in
theorem k_X9_233 {σ τ : Sto} {L : Int} {R : Bool × Int × List LN} (h : rtD σ R (-1) τ) : Z (z_me cX9_readText RX9 3 (some .int) 53 (qI fun z σ' => rtD σ R z σ')) 233 [some (zR 9), some (zI 0), some (zI L)] [] τ := by
  refine z_iconst dX9_readText_233 ?_
  exact z_iret dX9_readText_234 h
set_option maxRecDepth 20000 in
theorem k_X9_163 {σ τ υ : Sto} {L : Int} {R : Bool × Int × List LN} (hok : R.1 = true) (h : rtI σ R.2.2 R.2.1 τ) (hl : R.2.2.length ≤ 61 ∧ (mcS R.2.2).length ≤ 122) (hK : cpK (z_put τ 9 21 0) υ) (hI : ∀ j : Nat, (j : Int) < (mcS R.2.2).length → υ 96 j = τ 96 (130 + j) ∧ υ 97 j = τ 97 (130 + j)) :
    Z (z_me cX9_readText RX9 3 (some .int) 53 (qI fun z σ' => rtD σ R z σ')) 163 [some (zR 9), some (zI 0), some (zI L)] [] υ := by
  obtain ⟨k, i1, i2, i3, i4, i5, i6, i7, i8⟩ := h
  have e98 : υ 98 (1 : Int).toNat = R.2.2.length := by rw [show υ 98 (1 : Int).toNat = υ 98 1 from rfl, hK.2.2.1, z_put_ne (by decide)]; exact i5
  have e99 : ∀ j : Nat, υ 99 (61 + j) = τ 99 (61 + j) ∧ υ 100 (61 + j) = τ 100 (61 + j) := fun j => by
    have := hK.2.2.2 (61 + j) (by omega)
    rw [z_put_ne (by decide), z_put_ne (by decide)] at this
    exact this
  have hR := mlP_R R.2.2 0 0 (by omega) i8
  refine z_aload_n dX9_readText_163 rfl ?_
  refine z_getR dX9_readText_164 gX9_65 rfl (Nat.le_of_ble_eq_true rfl) rfl ?_
  refine z_iload_n dX9_readText_167 rfl ?_
  refine z_aload_n dX9_readText_168 rfl ?_
  refine z_getR dX9_readText_169 gX9_65 rfl (Nat.le_of_ble_eq_true rfl) rfl ?_
  refine z_iconst dX9_readText_172 ?_
  refine z_iald dX9_readText_173 rfl (Nat.le_of_ble_eq_true rfl) (by omega) (fun hr173 => ?_)
  rw [e98]
  refine z_iast dX9_readText_174 rfl (Nat.le_of_ble_eq_true rfl) (by omega) ⟨by omega, by omega⟩ ?_
  refine z_iconst dX9_readText_175 ?_
  refine z_istore_n (L' := [_, _, _]) dX9_readText_176 (Nat.le_of_ble_eq_true rfl) rfl rfl ?_
  refine l_X9_copy2 (σ := z_put υ 98 (0 : Int).toNat R.2.2.length) (L := R.2.2.length) (by omega) (by rw [z_rd, if_pos rfl]; rfl) (fun j hj => ?_) (fun ω w1 w2 => k_X9_233 ?_) R.2.2.length _ 0 (by omega) (by omega) (fun _ _ _ => rfl) (fun _ _ => ⟨rfl, rfl⟩) (fun j hj => absurd hj (by omega))
  · have := hR j (by omega) (by omega)
    rw [z_put_ne (by decide), z_put_ne (by decide), (e99 j).1, (e99 j).2]
    omega
  · have f9 : ω 9 = z_put τ 9 21 0 9 := by rw [w1 9 (by decide) (by decide), z_put_ne (by decide), hK.1 9 (by decide) (by decide) (by decide) (by decide) (by decide)]
    have f96 : ω 96 = υ 96 := by rw [w1 96 (by decide) (by decide), z_put_ne (by decide)]
    have f97 : ω 97 = υ 97 := by rw [w1 97 (by decide) (by decide), z_put_ne (by decide)]
    refine ⟨fun a b1 b2 b3 b4 b5 b6 => by rw [w1 a b5 b6, z_put_ne b4, hK.1 a b2 b3 b4 b5 b6, z_put_ne b1]; exact k.1 a b1 b2 b3 b4 b5 b6, fun j b0 b1 b2 b3 b4 => by rw [f9, z_rd, if_pos rfl, if_neg b0]; exact k.2.1 j b1 b2 b3 b4, by rw [f9]; rfl, Or.inr ⟨hok, rfl, ?_, ?_, ?_, ?_⟩⟩
    · refine Seg.row f96 (Seg.of (fun j hj => ?_))
      rw [List.length_map] at hj
      rw [Nat.zero_add, (hI j (by omega)).1]
      exact Seg.getD i6 (by rw [List.length_map]; exact hj)
    · refine Seg.row f97 (Seg.of (fun j hj => ?_))
      rw [List.length_map] at hj
      rw [Nat.zero_add, (hI j (by omega)).2]
      exact Seg.getD i7 (by rw [List.length_map]; exact hj)
    · rw [w1 98 (by decide) (by decide), z_rd, if_pos rfl]; rfl
    · refine mlP_cong R.2.2 0 0 (fun j h1 h2 => ?_) i8
      have := w2 j (by omega)
      rw [z_put_ne (by decide), z_put_ne (by decide), (e99 j).1, (e99 j).2] at this
      exact this
set_option maxRecDepth 20000 in
theorem k_X9_86 {T : Nat → Int} {n : Int} {σ υ : Sto} {R : Bool × Int × List LN} (ht : tpM T n σ) (hl : R.1 = true → R.2.2.length ≤ 61 ∧ (mcS R.2.2).length ≤ 122 ∧ tokR (mcS R.2.2)) (h : rtE σ R υ) :
    Z (z_me cX9_readText RX9 3 (some .int) 53 (qI fun z σ' => rtD σ R z σ')) 86 [some (zR 9), some (zI 0), none] [] υ := by
  have hf : (R.1 = true ∧ rtI σ R.2.2 R.2.1 υ ∧ υ 9 23 = -1) ∨ (R.1 = false ∧ rtF σ R.2.1 υ ∧ 0 ≤ υ 9 23) := by
    rcases h with ⟨q1, q2⟩ | ⟨q1, q2⟩
    · exact Or.inl ⟨q1, q2, q2.2.1⟩
    · exact Or.inr ⟨q1, q2, by have := q2.2.1; have := q2.2.2.1; omega⟩
  refine z_aload_n dX9_readText_86 rfl ?_
  refine z_iconst dX9_readText_87 ?_
  refine z_putI dX9_readText_88 pX9_193 rfl (Nat.le_of_ble_eq_true rfl) rfl ⟨by omega, by omega⟩ ?_
  refine z_aload_n dX9_readText_91 rfl ?_
  refine z_getI dX9_readText_92 gX9_199 rfl (Nat.le_of_ble_eq_true rfl) rfl (fun hr92 => ?_)
  try simp only [z_rd, Nat.reduceEqDiff, ↓reduceIte, eq_self] at hr92 ⊢
  refine z_if_lt (tgt := 103) dX9_readText_95 (by decide) ⟨by omega, by omega⟩ (fun h95 => ?_) (fun h95 => ?_)
  · skip
    refine z_iconst dX9_readText_103 ?_
    refine z_istore_n (L' := [_, _, _]) dX9_readText_104 (Nat.le_of_ble_eq_true rfl) rfl rfl ?_
    have g : R.1 = true ∧ rtI σ R.2.2 R.2.1 υ := by rcases hf with q | q; exact ⟨q.1, q.2.1⟩; exfalso; omega
    obtain ⟨hok, hI⟩ := g
    obtain ⟨l1, l2, l3⟩ := hl hok
    obtain ⟨-, -, -, -, i4, -, i6, -⟩ := id hI
    refine l_X9_copy1 (σ := z_put υ 9 21 0) (L := (mcS R.2.2).length) (by omega) i4 (fun j hj => ?_) (fun τ h1 h2 => k_X9_163 hok hI ⟨l1, l2⟩ h1 h2) (mcS R.2.2).length _ 0 (by omega) (by omega) (cpK.rf _) (fun j hj => absurd hj (by omega))
    rw [z_put_ne (by decide)]
    exact Seg.mem i6 (aOf_R l3) (by rw [List.length_map]; omega)
  · skip
    refine z_aload_n dX9_readText_98 rfl ?_
    refine z_getI dX9_readText_99 gX9_199 rfl (Nat.le_of_ble_eq_true rfl) rfl (fun hr99 => ?_)
    try simp only [z_rd, Nat.reduceEqDiff, ↓reduceIte, eq_self] at hr99 ⊢
    exact z_iret dX9_readText_102 (by
      have g : R.1 = false ∧ rtF σ R.2.1 υ := by rcases hf with q | q; exfalso; omega; exact ⟨q.1, q.2.1⟩
      obtain ⟨hno, ⟨k1, k2, k3, k4, k5⟩, e23, e0, -⟩ := g
      refine ⟨fun a b1 b2 b3 b4 b5 b6 => by rw [z_put_ne b1]; exact k1 a b1 b2 b3 b4 b5 b6, fun j b0 b1 b2 b3 b4 => by rw [z_rd, if_pos rfl, if_neg b0]; exact k2 j b1 b2 b3 b4, rfl, Or.inl ⟨hno, e23, ⟨by omega, by omega⟩, fun j hj => ?_, k4, fun j hj => ?_⟩⟩
      · rw [z_put_ne (by decide), z_put_ne (by decide)]; exact k3 j hj
      · rw [z_put_ne (by decide), z_put_ne (by decide)]; exact k5 j hj)
theorem rdls_len {T : Nat → Int} {n : Int} : ∀ (m : Nat) (a : Int), 0 ≤ a → a ≤ n → (rdls (nbF T n) n m a).1 = true → ((mcS (rdls (nbF T n) n m a).2.2).length : Int) ≤ n - a ∧ 2 * ((rdls (nbF T n) n m a).2.2.length : Int) ≤ n - a + 1
  | 0, a, h0, h1, h => by simp only [rdls, mcS, List.length_nil]; omega
  | m + 1, a, h0, h1, h => by
    obtain ⟨s1, s2, s3⟩ := rdl_RM (T := T) (n := n) h0 h1 0
    rw [rdls] at h ⊢
    split at h
    · rename_i c1
      rw [if_pos c1]
      obtain ⟨s4, s5⟩ := s3 c1
      split at h
      · rename_i c2; rw [if_pos c2]
        simp only [mcS, List.append_nil, List.length_append, List.length_cons, List.length_nil]
        omega
      · rename_i c2; rw [if_neg c2]
        split at h
        · rename_i c3; rw [if_pos c3]
          have := rdls_len m ((rdl (nbF T n) a).2.1 + 1) (by omega) (by omega) h
          simp only [mcS, List.length_append, List.length_cons]
          omega
        · exact tnf h.symm
    · exact tnf h.symm
set_option maxRecDepth 20000 in
theorem c_X9_readText {T : Nat → Int} {n : Int} {σ : Sto} (ht : tpM T n σ) : Does 53 yX9_readText cX9_readText 3 (some .int) [zR 9, zI 0] σ (qI fun z σ' => rtD σ (rdls (nbF T n) n 120 0) z σ') := by
  obtain ⟨tn, t21, tT, t95⟩ := id ht
  have hl : (rdls (nbF T n) n 120 0).1 = true → (rdls (nbF T n) n 120 0).2.2.length ≤ 61 ∧ (mcS (rdls (nbF T n) n 120 0).2.2).length ≤ 122 ∧ tokR (mcS (rdls (nbF T n) n 120 0).2.2) := fun q => by
    have h1 := rdls_len (T := T) (n := n) 120 0 (by omega) (by omega) q
    have h2 := rdls_T (nb := nbF T n) (n := n) (fun a => nbF_R tT) 120 0 q
    exact ⟨by omega, by omega, h2⟩
  refine z_does (L := [some (zR 9), some (zI 0), none]) rfl (by decide +kernel) (Nat.le_of_ble_eq_true rfl) rfl ?_
  refine z_aload_n dX9_readText_0 rfl ?_
  refine z_iconst dX9_readText_1 ?_
  refine z_putI dX9_readText_2 pX9_196 rfl (Nat.le_of_ble_eq_true rfl) rfl ⟨by omega, by omega⟩ ?_
  refine z_aload_n dX9_readText_5 rfl ?_
  refine z_iconst dX9_readText_6 ?_
  refine z_putI dX9_readText_7 pX9_199 rfl (Nat.le_of_ble_eq_true rfl) rfl ⟨by omega, by omega⟩ ?_
  refine z_aload_n dX9_readText_10 rfl ?_
  refine z_iconst dX9_readText_11 ?_
  refine z_putI dX9_readText_12 pX9_205 rfl (Nat.le_of_ble_eq_true rfl) rfl ⟨by omega, by omega⟩ ?_
  refine z_aload_n dX9_readText_15 rfl ?_
  refine z_iconst dX9_readText_16 ?_
  refine z_putI dX9_readText_17 pX9_202 rfl (Nat.le_of_ble_eq_true rfl) rfl ⟨by omega, by omega⟩ ?_
  refine z_aload_n dX9_readText_20 rfl ?_
  refine z_getR dX9_readText_21 gX9_65 rfl (Nat.le_of_ble_eq_true rfl) rfl ?_
  refine z_iconst dX9_readText_24 ?_
  refine z_iconst dX9_readText_25 ?_
  refine z_iast dX9_readText_26 rfl (Nat.le_of_ble_eq_true rfl) (by omega) ⟨by omega, by omega⟩ ?_
  generalize hτ : z_put (z_put (z_put (z_put (z_put σ 9 22 0) 9 23 (-1)) 9 24 0) 9 25 0) 98 (1 : Int).toNat 0 = τ
  have hK : rtK σ τ := by
    rw [← hτ]
    refine ⟨fun a b1 b2 b3 b4 b5 b6 => by rw [z_put_ne b4, z_put_ne b1, z_put_ne b1, z_put_ne b1, z_put_ne b1], fun j b1 b2 b3 b4 => by rw [z_put_ne (by decide), z_rd, if_pos rfl, if_neg b4, z_rd, if_pos rfl, if_neg b3, z_rd, if_pos rfl, if_neg b2, z_rd, if_pos rfl, if_neg b1], fun j _ => ⟨rfl, rfl⟩, rfl, fun j _ => ⟨rfl, rfl⟩⟩
  have f22 : τ 9 22 = 0 := by rw [← hτ]; rfl
  have f23 : τ 9 23 = -1 := by rw [← hτ]; rfl
  have f24 : τ 9 24 = 0 := by rw [← hτ]; rfl
  have f25 : τ 9 25 = 0 := by rw [← hτ]; rfl
  have f98 : τ 98 1 = 0 := by rw [← hτ]; rfl
  have hI0 : rtI σ [] 0 τ := ⟨hK, f23, f22, f24, f25, f98, trivial, trivial, trivial⟩
  have hBτ : rmB T n τ := ⟨hK.tp ht, f23, by omega, by omega, by omega⟩
  refine z_aload_n dX9_readText_27 rfl ?_
  refine z_callVV (d := 52) (av := []) dX9_readText_28 vX9_248 rfl (Nat.le_of_ble_eq_true rfl) rfl rfl rfl (Nat.le_of_ble_eq_true rfl) (Nat.le_refl _) (c_X9_line hBτ f24 (m := 0) (by omega) f98) (fun σ28 h28 => ?_)
  rw [f22] at h28
  have e22 : z_put τ 9 22 0 = τ := by funext a b; rw [z_rd]; grind
  have hL := hI0.line (nb := nbF T n) (a' := 0) (υ := σ28) (r := rdl (nbF T n) 0) (by simp) (by rw [e22]; exact h28)
  have hrr := rdl_RM (T := T) (n := n) (a := 0) (by omega) (by omega) 0
  rcases hL with ⟨g1, g2⟩ | ⟨g1, g2⟩
  · obtain ⟨r1, r2, r3⟩ := hrr
    obtain ⟨r4, r5⟩ := r3 g1
    refine l_X9_readText (R := rdls (nbF T n) n 120 0) ht (fun υ hu => k_X9_86 ht hl hu) 119 σ28 [(rdl (nbF T n) 0).2.2] (rdl (nbF T n) 0).2.1 rfl (by simp; omega) ⟨by omega, r2⟩ (by simp only [mcS, List.append_nil, List.length_append]; omega) g2 ?_
    rw [rdls, if_pos g1, rstF]
    by_cases c1 : n ≤ (rdl (nbF T n) 0).2.1
    · rw [if_pos c1, if_pos c1]; exact ⟨rfl, rfl, fun _ => rfl⟩
    · rw [if_neg c1, if_neg c1]
      by_cases c2 : nbF T n (rdl (nbF T n) 0).2.1 = 59
      · rw [if_pos c2, if_pos c2]; exact ⟨rfl, rfl, fun _ => rfl⟩
      · rw [if_neg c2, if_neg c2]; exact ⟨rfl, rfl, fun q => tnf q.symm⟩
  · refine f_X9_readText g2 (fun υ hu => k_X9_86 ht hl (Or.inr ?_))
    rw [rdls]
    by_cases c0 : (rdl (nbF T n) 0).1 = true
    · rw [if_pos c0]
      have h2 : 48 ≤ nbF T n (rdl (nbF T n) 0).2.1 ∧ nbF T n (rdl (nbF T n) 0).2.1 ≤ 57 := of_decide_eq_true (g1 c0)
      have h3 := nbF_lt (T := T) (n := n) (a := (rdl (nbF T n) 0).2.1) (by omega)
      rw [if_neg (by omega), if_neg (by omega)]
      exact ⟨rfl, hu⟩
    · rw [if_neg c0]
      exact ⟨rfl, hu⟩
set_option maxRecDepth 20000 in
theorem c_X9_law {T : Nat → Int} {n : Int} {σ : Sto} (ht : tpM T n σ) : Does 54 yX9_law cX9_law 2 (some .int) [zR 9] σ (qI fun z σ' => ((rdls (nbF T n) n 120 0).1 = false ∧ z = -100 - (rdls (nbF T n) n 120 0).2.1 ∧ ∃ w, rtD σ (rdls (nbF T n) n 120 0) w σ') ∨ ((rdls (nbF T n) n 120 0).1 = true ∧ z = 1 ∧ ∃ w τ, rtD σ (rdls (nbF T n) n 120 0) w τ ∧ σ' = z_put τ 9 33 1)) := by
  refine z_does (L := [some (zR 9), none]) rfl (by decide +kernel) (Nat.le_of_ble_eq_true rfl) rfl ?_
  refine z_aload_n dX9_law_0 rfl ?_
  refine z_iconst dX9_law_1 ?_
  refine z_callVI (d := 53) (av := [_]) dX9_law_2 vX9_257 rfl (Nat.le_of_ble_eq_true rfl) rfl rfl rfl (Nat.le_of_ble_eq_true rfl) (Nat.le_refl _) (c_X9_readText ht) (fun z2 σ2 h2 => ?_)
  obtain ⟨d1, d2, d3, d4⟩ := id h2
  have hz : ((rdls (nbF T n) n 120 0).1 = false ∧ z2 = (rdls (nbF T n) n 120 0).2.1 ∧ 0 ≤ z2 ∧ z2 ≤ 2147483647) ∨ ((rdls (nbF T n) n 120 0).1 = true ∧ z2 = -1) := by rcases d4 with q | q; exact Or.inl ⟨q.1, q.2.1, q.2.2.1⟩; exact Or.inr ⟨q.1, q.2.1⟩
  refine z_istore_n (L' := [_, _]) dX9_law_5 (Nat.le_of_ble_eq_true rfl) rfl rfl ?_
  refine z_iload_n dX9_law_6 rfl ?_
  refine z_if_lt (tgt := 15) dX9_law_7 (by decide) (by rcases hz with q | q; exact ⟨by omega, by omega⟩; rw [q.2]; decide) (fun h7 => ?_) (fun h7 => ?_)
  · skip
    refine z_aload_n dX9_law_15 rfl ?_
    refine z_iconst dX9_law_16 ?_
    refine z_putZ dX9_law_17 pX9_260 rfl (Nat.le_of_ble_eq_true rfl) rfl (by omega) ?_
    refine z_iconst dX9_law_20 ?_
    exact z_iret dX9_law_21 (Or.inr ⟨by rcases hz with q | q; exfalso; omega; exact q.1, rfl, _, _, h2, rfl⟩)
  · skip
    refine z_bipush (v := -100) dX9_law_10 (by decide +kernel) ?_
    refine z_iload_n dX9_law_12 rfl ?_
    refine z_isub dX9_law_13 ?_
    exact z_iret dX9_law_14 (Or.inl ⟨by rcases hz with q | q; exact q.1; exfalso; omega, by rcases hz with q | q; rw [q.2.1]; exfalso; omega, _, h2⟩)
