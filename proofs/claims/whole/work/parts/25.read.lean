/-! ===== the text of a law, read: a place, its steps, whether it goes on ===== -/
abbrev RT : Type := Bool × Int × List Int
def nbF (T : Nat → Int) (n a : Int) : Int := if 0 ≤ a ∧ a < n then T a.toNat else -1
def isD (s : Int) : Bool := decide (48 ≤ s ∧ s ≤ 57)
def nmF (s : Int) : Int := if s = 115 then -1 else if s = 104 then -2 else if s = 119 then -3 else if s = 102 then -4 else if s = 112 then -5 else if s = 108 then -6 else 0
def lvO (s : Int) : Int := if s = 124 then 0 else if s = 38 then 1 else if s = 60 ∨ s = 61 ∨ s = 62 then 2 else if s = 43 ∨ s = 45 then 3 else if s = 42 ∨ s = 47 ∨ s = 37 then 4 else -1
def rdN (nb : Int → Int) : Nat → Int → Int → Int × Int
  | 0, a, v => (v, a)
  | m + 1, a, v => if isD (nb a) = true then rdN nb m (a + 1) (v * 10 + nb a - 48) else (v, a)
def lpF (sub : Int → RT) (nb : Int → Int) (lvl : Int) : Nat → Int → List Int → RT
  | 0, a, out => (true, a, out)
  | t + 1, a, out => if lvO (nb a) = lvl then (if (sub (a + 1)).1 = true then lpF sub nb lvl t (sub (a + 1)).2.1 (out ++ (sub (a + 1)).2.2 ++ [-(nb a)]) else (false, (sub (a + 1)).2.1, [])) else (true, a, out)
/-- fuel, level (5: an operand), how many are open, the place -/
def rd (nb : Int → Int) : Nat → Int → Int → Int → RT
  | 0, _, _, a => (false, a, [])
  | k + 1, lvl, o, a =>
    if lvl < 5 then
      (if (rd nb k (lvl + 1) o a).1 = true then lpF (rd nb k (lvl + 1) o) nb lvl (if lvl = 2 then 1 else 120) (rd nb k (lvl + 1) o a).2.1 (rd nb k (lvl + 1) o a).2.2 else (false, (rd nb k (lvl + 1) o a).2.1, []))
    else if isD (nb a) = true then (true, (rdN nb 4 a 0).2, [(rdN nb 4 a 0).1])
    else if nmF (nb a) < 0 then (true, a + 1, [nmF (nb a)])
    else if 6 ≤ o then (false, a, [])
    else if nb a = 33 ∨ nb a = 45 then (if (rd nb k 5 (o + 1) (a + 1)).1 = true then (true, (rd nb k 5 (o + 1) (a + 1)).2.1, (rd nb k 5 (o + 1) (a + 1)).2.2 ++ [if nb a = 33 then -33 else -126]) else (false, (rd nb k 5 (o + 1) (a + 1)).2.1, []))
    else if nb a = 40 then (if (rd nb k 0 (o + 1) (a + 1)).1 = true then (if nb (rd nb k 0 (o + 1) (a + 1)).2.1 = 41 then (true, (rd nb k 0 (o + 1) (a + 1)).2.1 + 1, (rd nb k 0 (o + 1) (a + 1)).2.2) else (false, (rd nb k 0 (o + 1) (a + 1)).2.1, [])) else (false, (rd nb k 0 (o + 1) (a + 1)).2.1, []))
    else (false, a, [])
theorem nbF_R {T : Nat → Int} {n a : Int} (hT : ∀ j, 0 ≤ T j ∧ T j ≤ 255) : -1 ≤ nbF T n a ∧ nbF T n a ≤ 255 := by
  unfold nbF
  split
  · have := hT a.toNat; omega
  · omega
theorem nbF_lt {T : Nat → Int} {n a : Int} (h : nbF T n a ≠ -1) : 0 ≤ a ∧ a < n := by
  unfold nbF at h
  by_cases h1 : 0 ≤ a ∧ a < n
  · exact h1
  · rw [if_neg h1] at h; exact absurd rfl h
theorem rdN_R {T : Nat → Int} {n : Int} : ∀ (m : Nat) (a v : Int), a ≤ n → a ≤ (rdN (nbF T n) m a v).2 ∧ (rdN (nbF T n) m a v).2 ≤ n
  | 0, a, v, h => ⟨Int.le_refl _, h⟩
  | m + 1, a, v, h => by
    rw [rdN]
    by_cases h1 : isD (nbF T n a) = true
    · rw [if_pos h1]
      have h2 : 48 ≤ nbF T n a ∧ nbF T n a ≤ 57 := of_decide_eq_true h1
      have h3 := nbF_lt (T := T) (n := n) (a := a) (by omega)
      have := rdN_R m (a + 1) (v * 10 + nbF T n a - 48) (by omega) (T := T) (n := n)
      omega
    · rw [if_neg h1]
      exact ⟨Int.le_refl _, h⟩
/-- what a reading keeps to -/
def rdOk (n : Int) (a : Int) (r : RT) : Prop := a ≤ r.2.1 ∧ r.2.1 ≤ n ∧ (r.1 = true → a < r.2.1 ∧ (r.2.2.length : Int) ≤ r.2.1 - a)
theorem lvO_R (s : Int) : -1 ≤ lvO s ∧ lvO s ≤ 4 := by
  unfold lvO
  repeat' split
  all_goals omega
theorem lvO_n1 : lvO (-1) = -1 := by decide
theorem nmF_R (s : Int) : -6 ≤ nmF s ∧ nmF s ≤ 0 := by
  unfold nmF
  repeat' split
  all_goals omega
theorem lpF_R {T : Nat → Int} {n : Int} {sub : Int → RT} {lvl : Int} (hl : 0 ≤ lvl) (hs : ∀ a, 0 ≤ a → a ≤ n → rdOk n a (sub a)) : ∀ (t : Nat) (a : Int) (out : List Int), 0 ≤ a → a ≤ n →
    a ≤ (lpF sub (nbF T n) lvl t a out).2.1 ∧ (lpF sub (nbF T n) lvl t a out).2.1 ≤ n ∧ ((lpF sub (nbF T n) lvl t a out).1 = true → ((lpF sub (nbF T n) lvl t a out).2.2.length : Int) ≤ out.length + ((lpF sub (nbF T n) lvl t a out).2.1 - a))
  | 0, a, out, h0, h1 => by simp only [lpF]; omega
  | t + 1, a, out, h0, h1 => by
    rw [lpF]
    by_cases h2 : lvO (nbF T n a) = lvl
    · rw [if_pos h2]
      have h3 := nbF_lt (T := T) (n := n) (a := a) (fun q => by rw [q] at h2; have := lvO_n1; omega)
      obtain ⟨s1, s2, s3⟩ := hs (a + 1) (by omega) (by omega)
      by_cases h4 : (sub (a + 1)).1 = true
      · rw [if_pos h4]
        obtain ⟨s4, s5⟩ := s3 h4
        have ih := lpF_R hl hs t (sub (a + 1)).2.1 (out ++ (sub (a + 1)).2.2 ++ [-(nbF T n a)]) (by omega) s2 (T := T)
        refine ⟨by omega, ih.2.1, fun q => ?_⟩
        have := ih.2.2 q
        simp only [List.length_append, List.length_cons, List.length_nil] at this
        omega
      · rw [if_neg h4]
        exact ⟨by simp only; omega, s2, fun q => absurd (show false = true from q) (by decide)⟩
    · rw [if_neg h2]
      simp only
      omega
theorem rd_R {T : Nat → Int} {n : Int} : ∀ (k : Nat) (lvl o a : Int), 0 ≤ lvl → 0 ≤ a → a ≤ n → rdOk n a (rd (nbF T n) k lvl o a)
  | 0, lvl, o, a, hl, h0, h1 => ⟨by simp only [rd]; omega, by simp only [rd]; omega, fun q => absurd q (by simp [rd])⟩
  | k + 1, lvl, o, a, hl, h0, h1 => by
    rw [rd]
    by_cases g1 : lvl < 5
    · rw [if_pos g1]
      obtain ⟨s1, s2, s3⟩ := rd_R k (lvl + 1) o a (by omega) h0 h1 (T := T)
      by_cases g2 : (rd (nbF T n) k (lvl + 1) o a).1 = true
      · rw [if_pos g2]
        obtain ⟨s4, s5⟩ := s3 g2
        have := lpF_R (T := T) (n := n) (sub := rd (nbF T n) k (lvl + 1) o) hl (fun a' h2 h3 => rd_R k (lvl + 1) o a' (by omega) h2 h3 (T := T)) (if lvl = 2 then 1 else 120) (rd (nbF T n) k (lvl + 1) o a).2.1 (rd (nbF T n) k (lvl + 1) o a).2.2 (by omega) s2
        exact ⟨by omega, this.2.1, fun q => by have := this.2.2 q; omega⟩
      · rw [if_neg g2]
        exact ⟨s1, s2, fun q => absurd (show false = true from q) (by decide)⟩
    · rw [if_neg g1]
      by_cases g2 : isD (nbF T n a) = true
      · rw [if_pos g2]
        have h2 : 48 ≤ nbF T n a ∧ nbF T n a ≤ 57 := of_decide_eq_true g2
        have h3 := nbF_lt (T := T) (n := n) (a := a) (by omega)
        have h4 := rdN_R (T := T) (n := n) 3 (a + 1) (0 * 10 + nbF T n a - 48) (by omega)
        have e : rdN (nbF T n) 4 a 0 = rdN (nbF T n) 3 (a + 1) (0 * 10 + nbF T n a - 48) := by rw [rdN, if_pos g2]
        rw [e]
        refine ⟨by simp only; omega, by simp only; omega, fun _ => ?_⟩
        simp only [List.length_cons, List.length_nil]
        omega
      · rw [if_neg g2]
        by_cases g3 : nmF (nbF T n a) < 0
        · rw [if_pos g3]
          have h3 := nbF_lt (T := T) (n := n) (a := a) (fun q => by rw [q] at g3; exact absurd g3 (by decide))
          refine ⟨by simp only; omega, by simp only; omega, fun _ => ?_⟩
          simp only [List.length_cons, List.length_nil]
          omega
        · rw [if_neg g3]
          by_cases g4 : 6 ≤ o
          · rw [if_pos g4]
            exact ⟨by simp only; omega, by simp only; omega, fun q => absurd (show false = true from q) (by decide)⟩
          · rw [if_neg g4]
            by_cases g5 : nbF T n a = 33 ∨ nbF T n a = 45
            · rw [if_pos g5]
              have h3 := nbF_lt (T := T) (n := n) (a := a) (by omega)
              obtain ⟨s1, s2, s3⟩ := rd_R (T := T) (n := n) k 5 (o + 1) (a + 1) (by omega) (by omega) (by omega)
              by_cases g6 : (rd (nbF T n) k 5 (o + 1) (a + 1)).1 = true
              · rw [if_pos g6]
                obtain ⟨s4, s5⟩ := s3 g6
                refine ⟨by simp only; omega, s2, fun _ => ?_⟩
                simp only [List.length_append, List.length_cons, List.length_nil]
                omega
              · rw [if_neg g6]
                exact ⟨by simp only; omega, s2, fun q => absurd (show false = true from q) (by decide)⟩
            · rw [if_neg g5]
              by_cases g6 : nbF T n a = 40
              · rw [if_pos g6]
                have h3 := nbF_lt (T := T) (n := n) (a := a) (by omega)
                obtain ⟨s1, s2, s3⟩ := rd_R (T := T) (n := n) k 0 (o + 1) (a + 1) (by omega) (by omega) (by omega)
                by_cases g7 : (rd (nbF T n) k 0 (o + 1) (a + 1)).1 = true
                · rw [if_pos g7]
                  obtain ⟨s4, s5⟩ := s3 g7
                  by_cases g8 : nbF T n (rd (nbF T n) k 0 (o + 1) (a + 1)).2.1 = 41
                  · rw [if_pos g8]
                    have h4 := nbF_lt (T := T) (n := n) (a := (rd (nbF T n) k 0 (o + 1) (a + 1)).2.1) (by omega)
                    refine ⟨by simp only; omega, by simp only; omega, fun _ => ?_⟩
                    simp only
                    omega
                  · rw [if_neg g8]
                    exact ⟨by simp only; omega, s2, fun q => absurd (show false = true from q) (by decide)⟩
                · rw [if_neg g7]
                  exact ⟨by simp only; omega, s2, fun q => absurd (show false = true from q) (by decide)⟩
              · rw [if_neg g6]
                exact ⟨by simp only; omega, by simp only; omega, fun q => absurd (show false = true from q) (by decide)⟩
abbrev nbS (σ : Sto) : Int → Int := nbF (σ 25) (σ 3 5)
theorem nbS_R {σ : Sto} {a : Int} (hT : ∀ j, 0 ≤ σ 25 j ∧ σ 25 j ≤ 255) : -1 ≤ nbS σ a ∧ nbS σ a ≤ 255 := nbF_R hT
theorem nbS_lt {σ : Sto} {a : Int} (h : nbS σ a ≠ -1) : 0 ≤ a ∧ a < σ 3 5 := nbF_lt h
theorem rd_RS {σ : Sto} (k : Nat) (lvl o a : Int) (h1 : 0 ≤ lvl) (h2 : 0 ≤ a) (h3 : a ≤ σ 3 5) : rdOk (σ 3 5) a (rd (nbS σ) k lvl o a) := rd_R k lvl o a h1 h2 h3
/-! ===== Law: the reader's small methods ===== -/
set_option maxRecDepth 20000 in
theorem c_X2_take {d : Nat} {σ : Sto} {x : Int} (h : 0 ≤ σ 3 5 ∧ σ 3 5 ≤ 120) (hx : inR x) : m_X2_take d [zR 3, zI x] σ (qI fun z σ' => (σ 3 5 = 120 ∧ z = -3 ∧ σ' = σ) ∨ (σ 3 5 < 120 ∧ z = σ 3 5 + 1 ∧ σ' = z_put (z_put σ 25 (σ 3 5).toNat x) 3 5 (σ 3 5 + 1))) := by
  refine z_does (L := [some (zR 3), some (zI x)]) rfl (by decide +kernel) (Nat.le_of_ble_eq_true rfl) rfl ?_
  refine z_aload_n dX2_take_0 rfl ?_
  refine z_getI dX2_take_1 gX2_27 rfl (Nat.le_of_ble_eq_true rfl) rfl (fun hr1 => ?_)
  refine z_if_lt (tgt := 16) dX2_take_4 (by decide) ⟨by omega, by omega⟩ (fun h4 => ?_) (fun h4 => ?_)
  · first
    | exfalso; omega
    | skip
      refine z_bipush (v := -3) dX2_take_16 (by decide +kernel) ?_
      exact z_iret dX2_take_18 (by first | exact Or.inl ⟨by omega, rfl, rfl⟩ | exact Or.inr ⟨by omega, rfl, rfl⟩)
  · first
    | exfalso; omega
    | skip
      refine z_aload_n dX2_take_7 rfl ?_
      refine z_getI dX2_take_8 gX2_27 rfl (Nat.le_of_ble_eq_true rfl) rfl (fun hr8 => ?_)
      refine z_bipush (v := 120) dX2_take_11 (by decide +kernel) ?_
      refine z_icmp_lt (tgt := 19) dX2_take_13 (by decide) ⟨by omega, by omega⟩ ⟨by omega, by omega⟩ (fun h13 => ?_) (fun h13 => ?_)
      · first
        | exfalso; omega
        | skip
          refine z_aload_n dX2_take_19 rfl ?_
          refine z_getR dX2_take_20 gX2_11 rfl (Nat.le_of_ble_eq_true rfl) rfl ?_
          refine z_aload_n dX2_take_23 rfl ?_
          refine z_getI dX2_take_24 gX2_27 rfl (Nat.le_of_ble_eq_true rfl) rfl (fun hr24 => ?_)
          refine z_iload_n dX2_take_27 rfl ?_
          refine z_iast dX2_take_28 rfl (Nat.le_of_ble_eq_true rfl) (by omega) ⟨by omega, by omega⟩ ?_
          refine z_aload_n dX2_take_29 rfl ?_
          refine z_dup dX2_take_30 rfl ?_
          refine z_getI dX2_take_31 gX2_27 rfl (Nat.le_of_ble_eq_true rfl) rfl (fun hr31 => ?_)
          try simp only [z_rd, Nat.reduceEqDiff, ↓reduceIte, eq_self] at hr31 ⊢
          refine z_iconst dX2_take_34 ?_
          refine z_iadd dX2_take_35 ?_
          refine z_putI dX2_take_36 pX2_27 rfl (Nat.le_of_ble_eq_true rfl) rfl ⟨by omega, by omega⟩ ?_
          refine z_aload_n dX2_take_39 rfl ?_
          refine z_getI dX2_take_40 gX2_27 rfl (Nat.le_of_ble_eq_true rfl) rfl (fun hr40 => ?_)
          try simp only [z_rd, Nat.reduceEqDiff, ↓reduceIte, eq_self] at hr40 ⊢
          exact z_iret dX2_take_43 (by first | exact Or.inl ⟨by omega, rfl, rfl⟩ | exact Or.inr ⟨by omega, rfl, rfl⟩)
      · first
        | exfalso; omega
        | skip
          refine z_bipush (v := -3) dX2_take_16 (by decide +kernel) ?_
          exact z_iret dX2_take_18 (by first | exact Or.inl ⟨by omega, rfl, rfl⟩ | exact Or.inr ⟨by omega, rfl, rfl⟩)
set_option maxRecDepth 20000 in
theorem c_X2_nextByte {d : Nat} {σ : Sto} (hn : σ 3 5 ≤ 120) : m_X2_nextByte d [zR 3] σ (qI fun z σ' => σ' = σ ∧ z = nbS σ (σ 3 8)) := by
  refine z_does (L := [some (zR 3)]) rfl (by decide +kernel) (Nat.le_of_ble_eq_true rfl) rfl ?_
  refine z_aload_n dX2_nextByte_0 rfl ?_
  refine z_getI dX2_nextByte_1 gX2_31 rfl (Nat.le_of_ble_eq_true rfl) rfl (fun hr1 => ?_)
  refine z_if_lt (tgt := 39) dX2_nextByte_4 (by decide) ⟨by omega, by omega⟩ (fun h4 => ?_) (fun h4 => ?_)
  · first
    | exfalso; omega
    | skip
      refine z_iconst dX2_nextByte_39 ?_
      exact z_iret dX2_nextByte_40 ⟨rfl, by unfold nbS nbF; first | rw [if_pos (by omega)] | rw [if_neg (by omega)]⟩
  · first
    | exfalso; omega
    | skip
      refine z_aload_n dX2_nextByte_7 rfl ?_
      refine z_getI dX2_nextByte_8 gX2_31 rfl (Nat.le_of_ble_eq_true rfl) rfl (fun hr8 => ?_)
      refine z_aload_n dX2_nextByte_11 rfl ?_
      refine z_getI dX2_nextByte_12 gX2_27 rfl (Nat.le_of_ble_eq_true rfl) rfl (fun hr12 => ?_)
      refine z_icmp_ge (tgt := 39) dX2_nextByte_15 (by decide) ⟨by omega, by omega⟩ ⟨by omega, by omega⟩ (fun h15 => ?_) (fun h15 => ?_)
      · first
        | exfalso; omega
        | skip
          refine z_iconst dX2_nextByte_39 ?_
          exact z_iret dX2_nextByte_40 ⟨rfl, by unfold nbS nbF; first | rw [if_pos (by omega)] | rw [if_neg (by omega)]⟩
      · first
        | exfalso; omega
        | skip
          refine z_aload_n dX2_nextByte_18 rfl ?_
          refine z_getI dX2_nextByte_19 gX2_31 rfl (Nat.le_of_ble_eq_true rfl) rfl (fun hr19 => ?_)
          refine z_bipush (v := 120) dX2_nextByte_22 (by decide +kernel) ?_
          refine z_icmp_ge (tgt := 39) dX2_nextByte_24 (by decide) ⟨by omega, by omega⟩ ⟨by omega, by omega⟩ (fun h24 => ?_) (fun h24 => ?_)
          · first
            | exfalso; omega
            | skip
              refine z_iconst dX2_nextByte_39 ?_
              exact z_iret dX2_nextByte_40 ⟨rfl, by unfold nbS nbF; first | rw [if_pos (by omega)] | rw [if_neg (by omega)]⟩
          · first
            | exfalso; omega
            | skip
              refine z_aload_n dX2_nextByte_27 rfl ?_
              refine z_getR dX2_nextByte_28 gX2_11 rfl (Nat.le_of_ble_eq_true rfl) rfl ?_
              refine z_aload_n dX2_nextByte_31 rfl ?_
              refine z_getI dX2_nextByte_32 gX2_31 rfl (Nat.le_of_ble_eq_true rfl) rfl (fun hr32 => ?_)
              refine z_iald dX2_nextByte_35 rfl (Nat.le_of_ble_eq_true rfl) (by omega) (fun hr35 => ?_)
              refine z_goto (tgt := 40) dX2_nextByte_36 (by decide) ?_
              exact z_iret dX2_nextByte_40 ⟨rfl, by unfold nbS nbF; first | rw [if_pos (by omega)] | rw [if_neg (by omega)]⟩
set_option maxRecDepth 20000 in
theorem c_X2_isDigit {d : Nat} {σ : Sto} {s : Int} (hs : inR s) : m_X2_isDigit d [zI s] σ (qI fun z σ' => σ' = σ ∧ ((z = 1 ∧ isD s = true) ∨ (z = 0 ∧ isD s = false))) := by
  refine z_does (L := [some (zI s)]) rfl (by decide +kernel) (Nat.le_of_ble_eq_true rfl) rfl ?_
  refine z_iload_n dX2_isDigit_0 rfl ?_
  refine z_bipush (v := 48) dX2_isDigit_1 (by decide +kernel) ?_
  refine z_icmp_lt (tgt := 16) dX2_isDigit_3 (by decide) ⟨by omega, by omega⟩ ⟨by omega, by omega⟩ (fun h3 => ?_) (fun h3 => ?_)
  · first
    | exfalso; omega
    | skip
      refine z_iconst dX2_isDigit_16 ?_
      exact z_zret dX2_isDigit_17 (by omega) ⟨rfl, by first | exact Or.inl ⟨rfl, decide_eq_true (by omega)⟩ | exact Or.inr ⟨rfl, decide_eq_false (by omega)⟩⟩
  · first
    | exfalso; omega
    | skip
      refine z_iload_n dX2_isDigit_6 rfl ?_
      refine z_bipush (v := 57) dX2_isDigit_7 (by decide +kernel) ?_
      refine z_icmp_gt (tgt := 16) dX2_isDigit_9 (by decide) ⟨by omega, by omega⟩ ⟨by omega, by omega⟩ (fun h9 => ?_) (fun h9 => ?_)
      · first
        | exfalso; omega
        | skip
          refine z_iconst dX2_isDigit_16 ?_
          exact z_zret dX2_isDigit_17 (by omega) ⟨rfl, by first | exact Or.inl ⟨rfl, decide_eq_true (by omega)⟩ | exact Or.inr ⟨rfl, decide_eq_false (by omega)⟩⟩
      · first
        | exfalso; omega
        | skip
          refine z_iconst dX2_isDigit_12 ?_
          refine z_goto (tgt := 17) dX2_isDigit_13 (by decide) ?_
          exact z_zret dX2_isDigit_17 (by omega) ⟨rfl, by first | exact Or.inl ⟨rfl, decide_eq_true (by omega)⟩ | exact Or.inr ⟨rfl, decide_eq_false (by omega)⟩⟩
set_option maxRecDepth 20000 in
theorem c_X2_levelOf {d : Nat} {σ : Sto} {s : Int} (hs : inR s) : m_X2_levelOf d [zI s] σ (qI fun z σ' => z = lvO s ∧ σ' = σ) := by
  refine z_does (L := [some (zI s)]) rfl (by decide +kernel) (Nat.le_of_ble_eq_true rfl) rfl ?_
  refine z_iload_n dX2_levelOf_0 rfl ?_
  refine sw_X2_levelOf_1 ⟨by omega, by omega⟩ (fun h1 => ?_) (fun h1 => ?_) (fun h1 => ?_) (fun h1 => ?_) (fun h1 => ?_) (fun h1 => ?_)
  · first
    | exfalso; omega
    | skip
      refine z_iconst dX2_levelOf_100 ?_
      exact z_iret dX2_levelOf_101 ⟨by unfold lvO; grind, rfl⟩
  · first
    | exfalso; omega
    | skip
      refine z_iconst dX2_levelOf_94 ?_
      exact z_iret dX2_levelOf_95 ⟨by unfold lvO; grind, rfl⟩
  · first
    | exfalso; omega
    | skip
      refine z_iconst dX2_levelOf_98 ?_
      exact z_iret dX2_levelOf_99 ⟨by unfold lvO; grind, rfl⟩
  · first
    | exfalso; omega
    | skip
      refine z_iconst dX2_levelOf_96 ?_
      exact z_iret dX2_levelOf_97 ⟨by unfold lvO; grind, rfl⟩
  · first
    | exfalso; omega
    | skip
      refine z_iconst dX2_levelOf_92 ?_
      exact z_iret dX2_levelOf_93 ⟨by unfold lvO; grind, rfl⟩
  · first
    | exfalso; omega
    | skip
      refine z_iconst dX2_levelOf_102 ?_
      exact z_iret dX2_levelOf_103 ⟨by unfold lvO; grind, rfl⟩
set_option maxRecDepth 20000 in
theorem c_X2_nameOf {d : Nat} {σ : Sto} {s : Int} (hs : inR s) : m_X2_nameOf d [zI s] σ (qI fun z σ' => z = nmF s ∧ σ' = σ) := by
  refine z_does (L := [some (zI s)]) rfl (by decide +kernel) (Nat.le_of_ble_eq_true rfl) rfl ?_
  refine z_iload_n dX2_nameOf_0 rfl ?_
  refine sw_X2_nameOf_1 ⟨by omega, by omega⟩ (fun h1 => ?_) (fun h1 => ?_) (fun h1 => ?_) (fun h1 => ?_) (fun h1 => ?_) (fun h1 => ?_) (fun h1 => ?_)
  · first
    | exfalso; omega
    | skip
      refine z_bipush (v := -4) dX2_nameOf_96 (by decide +kernel) ?_
      exact z_iret dX2_nameOf_98 ⟨by unfold nmF; grind, rfl⟩
  · first
    | exfalso; omega
    | skip
      refine z_bipush (v := -2) dX2_nameOf_90 (by decide +kernel) ?_
      exact z_iret dX2_nameOf_92 ⟨by unfold nmF; grind, rfl⟩
  · first
    | exfalso; omega
    | skip
      refine z_bipush (v := -6) dX2_nameOf_102 (by decide +kernel) ?_
      exact z_iret dX2_nameOf_104 ⟨by unfold nmF; grind, rfl⟩
  · first
    | exfalso; omega
    | skip
      refine z_bipush (v := -5) dX2_nameOf_99 (by decide +kernel) ?_
      exact z_iret dX2_nameOf_101 ⟨by unfold nmF; grind, rfl⟩
  · first
    | exfalso; omega
    | skip
      refine z_iconst dX2_nameOf_88 ?_
      exact z_iret dX2_nameOf_89 ⟨by unfold nmF; grind, rfl⟩
  · first
    | exfalso; omega
    | skip
      refine z_bipush (v := -3) dX2_nameOf_93 (by decide +kernel) ?_
      exact z_iret dX2_nameOf_95 ⟨by unfold nmF; grind, rfl⟩
  · first
    | exfalso; omega
    | skip
      refine z_iconst dX2_nameOf_105 ?_
      exact z_iret dX2_nameOf_106 ⟨by unfold nmF; grind, rfl⟩
def adS (σ : Sto) (x : Int) : Sto := z_put (z_put σ 26 (σ 3 6).toNat x) 3 6 (σ 3 6 + 1)
set_option maxRecDepth 20000 in
theorem c_X2_addStep {d : Nat} {σ : Sto} {x : Int} (h : σ 3 9 = 0 → 0 ≤ σ 3 6 ∧ σ 3 6 < 256) (hx : inR x) : m_X2_addStep d [zR 3, zI x] σ (qV fun σ' => (σ 3 9 = 0 ∧ σ' = adS σ x) ∨ (σ 3 9 ≠ 0 ∧ σ' = σ)) := by
  refine z_does (L := [some (zR 3), some (zI x)]) rfl (by decide +kernel) (Nat.le_of_ble_eq_true rfl) rfl ?_
  refine z_aload_n dX2_addStep_0 rfl ?_
  refine z_getI dX2_addStep_1 gX2_37 rfl (Nat.le_of_ble_eq_true rfl) rfl (fun hr1 => ?_)
  refine z_if_ne (tgt := 44) dX2_addStep_4 (by decide) ⟨by omega, by omega⟩ (fun h4 => ?_) (fun h4 => ?_)
  · first
    | exfalso; omega
    | skip
      exact z_vret dX2_addStep_44 (by first | exact Or.inl ⟨by omega, rfl⟩ | exact Or.inr ⟨by omega, rfl⟩ | (exfalso; omega))
  · first
    | exfalso; omega
    | skip
      refine z_aload_n dX2_addStep_7 rfl ?_
      refine z_getI dX2_addStep_8 gX2_34 rfl (Nat.le_of_ble_eq_true rfl) rfl (fun hr8 => ?_)
      refine z_if_lt (tgt := 44) dX2_addStep_11 (by decide) ⟨by omega, by omega⟩ (fun h11 => ?_) (fun h11 => ?_)
      · first
        | exfalso; omega
        | skip
          exact z_vret dX2_addStep_44 (by first | exact Or.inl ⟨by omega, rfl⟩ | exact Or.inr ⟨by omega, rfl⟩ | (exfalso; omega))
      · first
        | exfalso; omega
        | skip
          refine z_aload_n dX2_addStep_14 rfl ?_
          refine z_getI dX2_addStep_15 gX2_34 rfl (Nat.le_of_ble_eq_true rfl) rfl (fun hr15 => ?_)
          refine z_sipush (v := 256) dX2_addStep_18 (by decide +kernel) ?_
          refine z_icmp_ge (tgt := 44) dX2_addStep_21 (by decide) ⟨by omega, by omega⟩ ⟨by omega, by omega⟩ (fun h21 => ?_) (fun h21 => ?_)
          · first
            | exfalso; omega
            | skip
              exact z_vret dX2_addStep_44 (by first | exact Or.inl ⟨by omega, rfl⟩ | exact Or.inr ⟨by omega, rfl⟩ | (exfalso; omega))
          · first
            | exfalso; omega
            | skip
              refine z_aload_n dX2_addStep_24 rfl ?_
              refine z_getR dX2_addStep_25 gX2_15 rfl (Nat.le_of_ble_eq_true rfl) rfl ?_
              refine z_aload_n dX2_addStep_28 rfl ?_
              refine z_getI dX2_addStep_29 gX2_34 rfl (Nat.le_of_ble_eq_true rfl) rfl (fun hr29 => ?_)
              refine z_iload_n dX2_addStep_32 rfl ?_
              refine z_iast dX2_addStep_33 rfl (Nat.le_of_ble_eq_true rfl) (by omega) ⟨by omega, by omega⟩ ?_
              refine z_aload_n dX2_addStep_34 rfl ?_
              refine z_dup dX2_addStep_35 rfl ?_
              refine z_getI dX2_addStep_36 gX2_34 rfl (Nat.le_of_ble_eq_true rfl) rfl (fun hr36 => ?_)
              try simp only [z_rd, Nat.reduceEqDiff, ↓reduceIte, eq_self] at hr36 ⊢
              refine z_iconst dX2_addStep_39 ?_
              refine z_iadd dX2_addStep_40 ?_
              refine z_putI dX2_addStep_41 pX2_34 rfl (Nat.le_of_ble_eq_true rfl) rfl ⟨by omega, by omega⟩ ?_
              exact z_vret dX2_addStep_44 (by first | exact Or.inl ⟨by omega, rfl⟩ | exact Or.inr ⟨by omega, rfl⟩ | (exfalso; omega))
