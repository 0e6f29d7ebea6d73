theorem z_lkNo : ∀ {ps : List (Int × Int)} {d a : Int}, (∀ q ∈ ps, a ≠ q.1) → Op.lookupswitch.offset ps d a = d
  | [], d, a, _ => rfl
  | (x, o) :: l, d, a, h => by
    rw [Op.lookupswitch.offset_cons, if_neg (by have := h (x, o) List.mem_cons_self; first | exact this | exact fun q => this q.symm)]
    exact z_lkNo (fun q hq => h q (List.mem_cons_of_mem _ hq))
theorem lay_numbers : ∀ w : Nat, w < 8 → z_lay (13 + w) = .inr (0, 12, fun _ => 0)
  | 0, _ => rfl
  | 1, _ => rfl
  | 2, _ => rfl
  | 3, _ => rfl
  | 4, _ => rfl
  | 5, _ => rfl
  | 6, _ => rfl
  | 7, _ => rfl
  | w + 8, h => absurd h (by omega)
theorem lay_rows : ∀ w : Nat, w < 6 → z_lay (34 + w) = .inr (4, 60, fun _ => 0)
  | 0, _ => rfl
  | 1, _ => rfl
  | 2, _ => rfl
  | 3, _ => rfl
  | 4, _ => rfl
  | 5, _ => rfl
  | w + 6, h => absurd h (by omega)
theorem lay_needed : ∀ w : Nat, w < 11 → z_lay (47 + w) = .inr (0, 11, fun _ => 0)
  | 0, _ => rfl
  | 1, _ => rfl
  | 2, _ => rfl
  | 3, _ => rfl
  | 4, _ => rfl
  | 5, _ => rfl
  | 6, _ => rfl
  | 7, _ => rfl
  | 8, _ => rfl
  | 9, _ => rfl
  | 10, _ => rfl
  | w + 11, h => absurd h (by omega)
theorem lay_ways : ∀ w : Nat, w < 13 → z_lay (59 + w) = .inr (4, 13, fun _ => 0)
  | 0, _ => rfl
  | 1, _ => rfl
  | 2, _ => rfl
  | 3, _ => rfl
  | 4, _ => rfl
  | 5, _ => rfl
  | 6, _ => rfl
  | 7, _ => rfl
  | 8, _ => rfl
  | 9, _ => rfl
  | 10, _ => rfl
  | 11, _ => rfl
  | 12, _ => rfl
  | w + 13, h => absurd h (by omega)
theorem sw_X2_joined_1 {nL d : Nat} {E : z_X → Prop} {L : List (Option Value)} {st : List Value} {σ : Sto} {a : Int} (ha : inR a) (k0 : a = 38 → Z (cX2_joined, RX2, nL, d, E) 98 L st σ) (k1 : a = 42 → Z (cX2_joined, RX2, nL, d, E) 153 L st σ) (k2 : a = 43 → Z (cX2_joined, RX2, nL, d, E) 145 L st σ) (k3 : a = 45 → Z (cX2_joined, RX2, nL, d, E) 149 L st σ) (k4 : a = 47 → Z (cX2_joined, RX2, nL, d, E) 157 L st σ) (k5 : a = 60 → Z (cX2_joined, RX2, nL, d, E) 112 L st σ) (k6 : a = 61 → Z (cX2_joined, RX2, nL, d, E) 123 L st σ) (k7 : a = 62 → Z (cX2_joined, RX2, nL, d, E) 134 L st σ) (k8 : a = 124 → Z (cX2_joined, RX2, nL, d, E) 84 L st σ) (k9 : a ≠ 38 ∧ a ≠ 42 ∧ a ≠ 43 ∧ a ≠ 45 ∧ a ≠ 47 ∧ a ≠ 60 ∧ a ≠ 61 ∧ a ≠ 62 ∧ a ≠ 124 → Z (cX2_joined, RX2, nL, d, E) 169 L st σ) : Z (cX2_joined, RX2, nL, d, E) 1 L (zI a :: st) σ := by
  by_cases h0 : a = 38 ∨ a = 42 ∨ a = 43 ∨ a = 45 ∨ a = 47 ∨ a = 60 ∨ a = 61 ∨ a = 62 ∨ a = 124
  · rcases h0 with rfl | rfl | rfl | rfl | rfl | rfl | rfl | rfl | rfl
    · exact z_lookup (tgt := 98) dX2_joined_1 ha (by decide) (by rfl) (by decide) (k0 (by omega))
    · exact z_lookup (tgt := 153) dX2_joined_1 ha (by decide) (by rfl) (by decide) (k1 (by omega))
    · exact z_lookup (tgt := 145) dX2_joined_1 ha (by decide) (by rfl) (by decide) (k2 (by omega))
    · exact z_lookup (tgt := 149) dX2_joined_1 ha (by decide) (by rfl) (by decide) (k3 (by omega))
    · exact z_lookup (tgt := 157) dX2_joined_1 ha (by decide) (by rfl) (by decide) (k4 (by omega))
    · exact z_lookup (tgt := 112) dX2_joined_1 ha (by decide) (by rfl) (by decide) (k5 (by omega))
    · exact z_lookup (tgt := 123) dX2_joined_1 ha (by decide) (by rfl) (by decide) (k6 (by omega))
    · exact z_lookup (tgt := 134) dX2_joined_1 ha (by decide) (by rfl) (by decide) (k7 (by omega))
    · exact z_lookup (tgt := 84) dX2_joined_1 ha (by decide) (by rfl) (by decide) (k8 (by omega))
  · exact z_lookup (off := 168) (tgt := 169) dX2_joined_1 ha (by decide) (z_lkNo (by simp; omega)) (by decide) (k9 (by omega))
theorem sw_X2_levelOf_1 {nL d : Nat} {E : z_X → Prop} {L : List (Option Value)} {st : List Value} {σ : Sto} {a : Int} (ha : inR a) (k0 : a = 37 ∨ a = 42 ∨ a = 47 → Z (cX2_levelOf, RX2, nL, d, E) 100 L st σ) (k1 : a = 38 → Z (cX2_levelOf, RX2, nL, d, E) 94 L st σ) (k2 : a = 43 ∨ a = 45 → Z (cX2_levelOf, RX2, nL, d, E) 98 L st σ) (k3 : a = 60 ∨ a = 61 ∨ a = 62 → Z (cX2_levelOf, RX2, nL, d, E) 96 L st σ) (k4 : a = 124 → Z (cX2_levelOf, RX2, nL, d, E) 92 L st σ) (k5 : a ≠ 37 ∧ a ≠ 38 ∧ a ≠ 42 ∧ a ≠ 43 ∧ a ≠ 45 ∧ a ≠ 47 ∧ a ≠ 60 ∧ a ≠ 61 ∧ a ≠ 62 ∧ a ≠ 124 → Z (cX2_levelOf, RX2, nL, d, E) 102 L st σ) : Z (cX2_levelOf, RX2, nL, d, E) 1 L (zI a :: st) σ := by
  by_cases h0 : a = 37 ∨ a = 38 ∨ a = 42 ∨ a = 43 ∨ a = 45 ∨ a = 47 ∨ a = 60 ∨ a = 61 ∨ a = 62 ∨ a = 124
  · rcases h0 with rfl | rfl | rfl | rfl | rfl | rfl | rfl | rfl | rfl | rfl
    · exact z_lookup (tgt := 100) dX2_levelOf_1 ha (by decide) (by rfl) (by decide) (k0 (by omega))
    · exact z_lookup (tgt := 94) dX2_levelOf_1 ha (by decide) (by rfl) (by decide) (k1 (by omega))
    · exact z_lookup (tgt := 100) dX2_levelOf_1 ha (by decide) (by rfl) (by decide) (k0 (by omega))
    · exact z_lookup (tgt := 98) dX2_levelOf_1 ha (by decide) (by rfl) (by decide) (k2 (by omega))
    · exact z_lookup (tgt := 98) dX2_levelOf_1 ha (by decide) (by rfl) (by decide) (k2 (by omega))
    · exact z_lookup (tgt := 100) dX2_levelOf_1 ha (by decide) (by rfl) (by decide) (k0 (by omega))
    · exact z_lookup (tgt := 96) dX2_levelOf_1 ha (by decide) (by rfl) (by decide) (k3 (by omega))
    · exact z_lookup (tgt := 96) dX2_levelOf_1 ha (by decide) (by rfl) (by decide) (k3 (by omega))
    · exact z_lookup (tgt := 96) dX2_levelOf_1 ha (by decide) (by rfl) (by decide) (k3 (by omega))
    · exact z_lookup (tgt := 92) dX2_levelOf_1 ha (by decide) (by rfl) (by decide) (k4 (by omega))
  · exact z_lookup (off := 101) (tgt := 102) dX2_levelOf_1 ha (by decide) (z_lkNo (by simp; omega)) (by decide) (k5 (by omega))
theorem sw_X2_nameOf_1 {nL d : Nat} {E : z_X → Prop} {L : List (Option Value)} {st : List Value} {σ : Sto} {a : Int} (ha : inR a) (k0 : a = 102 → Z (cX2_nameOf, RX2, nL, d, E) 96 L st σ) (k1 : a = 104 → Z (cX2_nameOf, RX2, nL, d, E) 90 L st σ) (k2 : a = 108 → Z (cX2_nameOf, RX2, nL, d, E) 102 L st σ) (k3 : a = 112 → Z (cX2_nameOf, RX2, nL, d, E) 99 L st σ) (k4 : a = 115 → Z (cX2_nameOf, RX2, nL, d, E) 88 L st σ) (k5 : a = 119 → Z (cX2_nameOf, RX2, nL, d, E) 93 L st σ) (k6 : a ≠ 102 ∧ a ≠ 104 ∧ a ≠ 108 ∧ a ≠ 112 ∧ a ≠ 115 ∧ a ≠ 119 → Z (cX2_nameOf, RX2, nL, d, E) 105 L st σ) : Z (cX2_nameOf, RX2, nL, d, E) 1 L (zI a :: st) σ := by
  by_cases h0 : a < 102 ∨ 119 < a
  · exact z_tabOut (tgt := 105) dX2_nameOf_1 ha h0 (by decide) (k6 (by omega))
  · rcases (show a = 102 ∨ a = 103 ∨ a = 104 ∨ a = 105 ∨ a = 106 ∨ a = 107 ∨ a = 108 ∨ a = 109 ∨ a = 110 ∨ a = 111 ∨ a = 112 ∨ a = 113 ∨ a = 114 ∨ a = 115 ∨ a = 116 ∨ a = 117 ∨ a = 118 ∨ a = 119 by omega) with rfl | rfl | rfl | rfl | rfl | rfl | rfl | rfl | rfl | rfl | rfl | rfl | rfl | rfl | rfl | rfl | rfl | rfl
    · exact z_tabIn (tgt := 96) dX2_nameOf_1 ha (by decide) (by decide) (by rfl) (by decide) (k0 (by omega))
    · exact z_tabIn (tgt := 105) dX2_nameOf_1 ha (by decide) (by decide) (by rfl) (by decide) (k6 (by omega))
    · exact z_tabIn (tgt := 90) dX2_nameOf_1 ha (by decide) (by decide) (by rfl) (by decide) (k1 (by omega))
    · exact z_tabIn (tgt := 105) dX2_nameOf_1 ha (by decide) (by decide) (by rfl) (by decide) (k6 (by omega))
    · exact z_tabIn (tgt := 105) dX2_nameOf_1 ha (by decide) (by decide) (by rfl) (by decide) (k6 (by omega))
    · exact z_tabIn (tgt := 105) dX2_nameOf_1 ha (by decide) (by decide) (by rfl) (by decide) (k6 (by omega))
    · exact z_tabIn (tgt := 102) dX2_nameOf_1 ha (by decide) (by decide) (by rfl) (by decide) (k2 (by omega))
    · exact z_tabIn (tgt := 105) dX2_nameOf_1 ha (by decide) (by decide) (by rfl) (by decide) (k6 (by omega))
    · exact z_tabIn (tgt := 105) dX2_nameOf_1 ha (by decide) (by decide) (by rfl) (by decide) (k6 (by omega))
    · exact z_tabIn (tgt := 105) dX2_nameOf_1 ha (by decide) (by decide) (by rfl) (by decide) (k6 (by omega))
    · exact z_tabIn (tgt := 99) dX2_nameOf_1 ha (by decide) (by decide) (by rfl) (by decide) (k3 (by omega))
    · exact z_tabIn (tgt := 105) dX2_nameOf_1 ha (by decide) (by decide) (by rfl) (by decide) (k6 (by omega))
    · exact z_tabIn (tgt := 105) dX2_nameOf_1 ha (by decide) (by decide) (by rfl) (by decide) (k6 (by omega))
    · exact z_tabIn (tgt := 88) dX2_nameOf_1 ha (by decide) (by decide) (by rfl) (by decide) (k4 (by omega))
    · exact z_tabIn (tgt := 105) dX2_nameOf_1 ha (by decide) (by decide) (by rfl) (by decide) (k6 (by omega))
    · exact z_tabIn (tgt := 105) dX2_nameOf_1 ha (by decide) (by decide) (by rfl) (by decide) (k6 (by omega))
    · exact z_tabIn (tgt := 105) dX2_nameOf_1 ha (by decide) (by decide) (by rfl) (by decide) (k6 (by omega))
    · exact z_tabIn (tgt := 93) dX2_nameOf_1 ha (by decide) (by decide) (by rfl) (by decide) (k5 (by omega))
theorem sw_X3_answerOf_1 {nL d : Nat} {E : z_X → Prop} {L : List (Option Value)} {st : List Value} {σ : Sto} {a : Int} (ha : inR a) (k0 : a = 1 → Z (cX3_answerOf, RX3, nL, d, E) 124 L st σ) (k1 : a = 2 → Z (cX3_answerOf, RX3, nL, d, E) 131 L st σ) (k2 : a = 10 → Z (cX3_answerOf, RX3, nL, d, E) 155 L st σ) (k3 : a = 11 → Z (cX3_answerOf, RX3, nL, d, E) 169 L st σ) (k4 : a = 20 → Z (cX3_answerOf, RX3, nL, d, E) 176 L st σ) (k5 : a = 30 → Z (cX3_answerOf, RX3, nL, d, E) 187 L st σ) (k6 : a = 40 → Z (cX3_answerOf, RX3, nL, d, E) 197 L st σ) (k7 : a = 41 → Z (cX3_answerOf, RX3, nL, d, E) 208 L st σ) (k8 : a = 50 → Z (cX3_answerOf, RX3, nL, d, E) 219 L st σ) (k9 : a = 60 → Z (cX3_answerOf, RX3, nL, d, E) 230 L st σ) (k10 : a = 61 → Z (cX3_answerOf, RX3, nL, d, E) 251 L st σ) (k11 : a = 70 → Z (cX3_answerOf, RX3, nL, d, E) 262 L st σ) (k12 : a = 80 → Z (cX3_answerOf, RX3, nL, d, E) 273 L st σ) (k13 : a = 81 → Z (cX3_answerOf, RX3, nL, d, E) 295 L st σ) (k14 : a ≠ 1 ∧ a ≠ 2 ∧ a ≠ 10 ∧ a ≠ 11 ∧ a ≠ 20 ∧ a ≠ 30 ∧ a ≠ 40 ∧ a ≠ 41 ∧ a ≠ 50 ∧ a ≠ 60 ∧ a ≠ 61 ∧ a ≠ 70 ∧ a ≠ 80 ∧ a ≠ 81 → Z (cX3_answerOf, RX3, nL, d, E) 307 L st σ) : Z (cX3_answerOf, RX3, nL, d, E) 1 L (zI a :: st) σ := by
  by_cases h0 : a = 1 ∨ a = 2 ∨ a = 10 ∨ a = 11 ∨ a = 20 ∨ a = 30 ∨ a = 40 ∨ a = 41 ∨ a = 50 ∨ a = 60 ∨ a = 61 ∨ a = 70 ∨ a = 80 ∨ a = 81
  · rcases h0 with rfl | rfl | rfl | rfl | rfl | rfl | rfl | rfl | rfl | rfl | rfl | rfl | rfl | rfl
    · exact z_lookup (tgt := 124) dX3_answerOf_1 ha (by decide) (by rfl) (by decide) (k0 (by omega))
    · exact z_lookup (tgt := 131) dX3_answerOf_1 ha (by decide) (by rfl) (by decide) (k1 (by omega))
    · exact z_lookup (tgt := 155) dX3_answerOf_1 ha (by decide) (by rfl) (by decide) (k2 (by omega))
    · exact z_lookup (tgt := 169) dX3_answerOf_1 ha (by decide) (by rfl) (by decide) (k3 (by omega))
    · exact z_lookup (tgt := 176) dX3_answerOf_1 ha (by decide) (by rfl) (by decide) (k4 (by omega))
    · exact z_lookup (tgt := 187) dX3_answerOf_1 ha (by decide) (by rfl) (by decide) (k5 (by omega))
    · exact z_lookup (tgt := 197) dX3_answerOf_1 ha (by decide) (by rfl) (by decide) (k6 (by omega))
    · exact z_lookup (tgt := 208) dX3_answerOf_1 ha (by decide) (by rfl) (by decide) (k7 (by omega))
    · exact z_lookup (tgt := 219) dX3_answerOf_1 ha (by decide) (by rfl) (by decide) (k8 (by omega))
    · exact z_lookup (tgt := 230) dX3_answerOf_1 ha (by decide) (by rfl) (by decide) (k9 (by omega))
    · exact z_lookup (tgt := 251) dX3_answerOf_1 ha (by decide) (by rfl) (by decide) (k10 (by omega))
    · exact z_lookup (tgt := 262) dX3_answerOf_1 ha (by decide) (by rfl) (by decide) (k11 (by omega))
    · exact z_lookup (tgt := 273) dX3_answerOf_1 ha (by decide) (by rfl) (by decide) (k12 (by omega))
    · exact z_lookup (tgt := 295) dX3_answerOf_1 ha (by decide) (by rfl) (by decide) (k13 (by omega))
  · exact z_lookup (off := 306) (tgt := 307) dX3_answerOf_1 ha (by decide) (z_lkNo (by simp; omega)) (by decide) (k14 (by omega))
theorem sw_X5_lowestBits_1 {nL d : Nat} {E : z_X → Prop} {L : List (Option Value)} {st : List Value} {σ : Sto} {a : Int} (ha : inR a) (k0 : a = 0 → Z (cX5_lowestBits, RX5, nL, d, E) 32 L st σ) (k1 : a = 1 → Z (cX5_lowestBits, RX5, nL, d, E) 37 L st σ) (k2 : a = 2 → Z (cX5_lowestBits, RX5, nL, d, E) 42 L st σ) (k3 : a = 3 → Z (cX5_lowestBits, RX5, nL, d, E) 46 L st σ) (k4 : a ≠ 0 ∧ a ≠ 1 ∧ a ≠ 2 ∧ a ≠ 3 → Z (cX5_lowestBits, RX5, nL, d, E) 48 L st σ) : Z (cX5_lowestBits, RX5, nL, d, E) 1 L (zI a :: st) σ := by
  by_cases h0 : a < 0 ∨ 3 < a
  · exact z_tabOut (tgt := 48) dX5_lowestBits_1 ha h0 (by decide) (k4 (by omega))
  · rcases (show a = 0 ∨ a = 1 ∨ a = 2 ∨ a = 3 by omega) with rfl | rfl | rfl | rfl
    · exact z_tabIn (tgt := 32) dX5_lowestBits_1 ha (by decide) (by decide) (by rfl) (by decide) (k0 (by omega))
    · exact z_tabIn (tgt := 37) dX5_lowestBits_1 ha (by decide) (by decide) (by rfl) (by decide) (k1 (by omega))
    · exact z_tabIn (tgt := 42) dX5_lowestBits_1 ha (by decide) (by decide) (by rfl) (by decide) (k2 (by omega))
    · exact z_tabIn (tgt := 46) dX5_lowestBits_1 ha (by decide) (by decide) (by rfl) (by decide) (k3 (by omega))
theorem sw_X7_bearersOf_1 {nL d : Nat} {E : z_X → Prop} {L : List (Option Value)} {st : List Value} {σ : Sto} {a : Int} (ha : inR a) (k0 : a = 5 → Z (cX7_bearersOf, RX7, nL, d, E) 28 L st σ) (k1 : a = 6 → Z (cX7_bearersOf, RX7, nL, d, E) 33 L st σ) (k2 : a = 7 → Z (cX7_bearersOf, RX7, nL, d, E) 38 L st σ) (k3 : a ≠ 5 ∧ a ≠ 6 ∧ a ≠ 7 → Z (cX7_bearersOf, RX7, nL, d, E) 40 L st σ) : Z (cX7_bearersOf, RX7, nL, d, E) 1 L (zI a :: st) σ := by
  by_cases h0 : a < 5 ∨ 7 < a
  · exact z_tabOut (tgt := 40) dX7_bearersOf_1 ha h0 (by decide) (k3 (by omega))
  · rcases (show a = 5 ∨ a = 6 ∨ a = 7 by omega) with rfl | rfl | rfl
    · exact z_tabIn (tgt := 28) dX7_bearersOf_1 ha (by decide) (by decide) (by rfl) (by decide) (k0 (by omega))
    · exact z_tabIn (tgt := 33) dX7_bearersOf_1 ha (by decide) (by decide) (by rfl) (by decide) (k1 (by omega))
    · exact z_tabIn (tgt := 38) dX7_bearersOf_1 ha (by decide) (by decide) (by rfl) (by decide) (k2 (by omega))
theorem sw_X8_count_1 {nL d : Nat} {E : z_X → Prop} {L : List (Option Value)} {st : List Value} {σ : Sto} {a : Int} (ha : inR a) (k0 : a = 0 → Z (cX8_count, RX8, nL, d, E) 44 L st σ) (k1 : a = 1 → Z (cX8_count, RX8, nL, d, E) 52 L st σ) (k2 : a = 2 → Z (cX8_count, RX8, nL, d, E) 60 L st σ) (k3 : a = 3 → Z (cX8_count, RX8, nL, d, E) 68 L st σ) (k4 : a = 4 → Z (cX8_count, RX8, nL, d, E) 76 L st σ) (k5 : a = 5 → Z (cX8_count, RX8, nL, d, E) 84 L st σ) (k6 : a = 6 → Z (cX8_count, RX8, nL, d, E) 92 L st σ) (k7 : a ≠ 0 ∧ a ≠ 1 ∧ a ≠ 2 ∧ a ≠ 3 ∧ a ≠ 4 ∧ a ≠ 5 ∧ a ≠ 6 → Z (cX8_count, RX8, nL, d, E) 100 L st σ) : Z (cX8_count, RX8, nL, d, E) 1 L (zI a :: st) σ := by
  by_cases h0 : a < 0 ∨ 6 < a
  · exact z_tabOut (tgt := 100) dX8_count_1 ha h0 (by decide) (k7 (by omega))
  · rcases (show a = 0 ∨ a = 1 ∨ a = 2 ∨ a = 3 ∨ a = 4 ∨ a = 5 ∨ a = 6 by omega) with rfl | rfl | rfl | rfl | rfl | rfl | rfl
    · exact z_tabIn (tgt := 44) dX8_count_1 ha (by decide) (by decide) (by rfl) (by decide) (k0 (by omega))
    · exact z_tabIn (tgt := 52) dX8_count_1 ha (by decide) (by decide) (by rfl) (by decide) (k1 (by omega))
    · exact z_tabIn (tgt := 60) dX8_count_1 ha (by decide) (by decide) (by rfl) (by decide) (k2 (by omega))
    · exact z_tabIn (tgt := 68) dX8_count_1 ha (by decide) (by decide) (by rfl) (by decide) (k3 (by omega))
    · exact z_tabIn (tgt := 76) dX8_count_1 ha (by decide) (by decide) (by rfl) (by decide) (k4 (by omega))
    · exact z_tabIn (tgt := 84) dX8_count_1 ha (by decide) (by decide) (by rfl) (by decide) (k5 (by omega))
    · exact z_tabIn (tgt := 92) dX8_count_1 ha (by decide) (by decide) (by rfl) (by decide) (k6 (by omega))
theorem sw_X8_through_47 {nL d : Nat} {E : z_X → Prop} {L : List (Option Value)} {st : List Value} {σ : Sto} {a : Int} (ha : inR a) (k0 : a = 0 → Z (cX8_through, RX8, nL, d, E) 80 L st σ) (k1 : a = 1 → Z (cX8_through, RX8, nL, d, E) 88 L st σ) (k2 : a = 2 → Z (cX8_through, RX8, nL, d, E) 96 L st σ) (k3 : a = 3 → Z (cX8_through, RX8, nL, d, E) 126 L st σ) (k4 : a = 4 → Z (cX8_through, RX8, nL, d, E) 148 L st σ) (k5 : a ≠ 0 ∧ a ≠ 1 ∧ a ≠ 2 ∧ a ≠ 3 ∧ a ≠ 4 → Z (cX8_through, RX8, nL, d, E) 162 L st σ) : Z (cX8_through, RX8, nL, d, E) 47 L (zI a :: st) σ := by
  by_cases h0 : a < 0 ∨ 4 < a
  · exact z_tabOut (tgt := 162) dX8_through_47 ha h0 (by decide) (k5 (by omega))
  · rcases (show a = 0 ∨ a = 1 ∨ a = 2 ∨ a = 3 ∨ a = 4 by omega) with rfl | rfl | rfl | rfl | rfl
    · exact z_tabIn (tgt := 80) dX8_through_47 ha (by decide) (by decide) (by rfl) (by decide) (k0 (by omega))
    · exact z_tabIn (tgt := 88) dX8_through_47 ha (by decide) (by decide) (by rfl) (by decide) (k1 (by omega))
    · exact z_tabIn (tgt := 96) dX8_through_47 ha (by decide) (by decide) (by rfl) (by decide) (k2 (by omega))
    · exact z_tabIn (tgt := 126) dX8_through_47 ha (by decide) (by decide) (by rfl) (by decide) (k3 (by omega))
    · exact z_tabIn (tgt := 148) dX8_through_47 ha (by decide) (by decide) (by rfl) (by decide) (k4 (by omega))
theorem sw_X9_count_1 {nL d : Nat} {E : z_X → Prop} {L : List (Option Value)} {st : List Value} {σ : Sto} {a : Int} (ha : inR a) (k0 : a = 0 → Z (cX9_count, RX9, nL, d, E) 44 L st σ) (k1 : a = 1 → Z (cX9_count, RX9, nL, d, E) 49 L st σ) (k2 : a = 2 → Z (cX9_count, RX9, nL, d, E) 54 L st σ) (k3 : a = 3 → Z (cX9_count, RX9, nL, d, E) 59 L st σ) (k4 : a = 4 → Z (cX9_count, RX9, nL, d, E) 64 L st σ) (k5 : a = 5 → Z (cX9_count, RX9, nL, d, E) 69 L st σ) (k6 : a = 6 → Z (cX9_count, RX9, nL, d, E) 74 L st σ) (k7 : a ≠ 0 ∧ a ≠ 1 ∧ a ≠ 2 ∧ a ≠ 3 ∧ a ≠ 4 ∧ a ≠ 5 ∧ a ≠ 6 → Z (cX9_count, RX9, nL, d, E) 79 L st σ) : Z (cX9_count, RX9, nL, d, E) 1 L (zI a :: st) σ := by
  by_cases h0 : a < 0 ∨ 6 < a
  · exact z_tabOut (tgt := 79) dX9_count_1 ha h0 (by decide) (k7 (by omega))
  · rcases (show a = 0 ∨ a = 1 ∨ a = 2 ∨ a = 3 ∨ a = 4 ∨ a = 5 ∨ a = 6 by omega) with rfl | rfl | rfl | rfl | rfl | rfl | rfl
    · exact z_tabIn (tgt := 44) dX9_count_1 ha (by decide) (by decide) (by rfl) (by decide) (k0 (by omega))
    · exact z_tabIn (tgt := 49) dX9_count_1 ha (by decide) (by decide) (by rfl) (by decide) (k1 (by omega))
    · exact z_tabIn (tgt := 54) dX9_count_1 ha (by decide) (by decide) (by rfl) (by decide) (k2 (by omega))
    · exact z_tabIn (tgt := 59) dX9_count_1 ha (by decide) (by decide) (by rfl) (by decide) (k3 (by omega))
    · exact z_tabIn (tgt := 64) dX9_count_1 ha (by decide) (by decide) (by rfl) (by decide) (k4 (by omega))
    · exact z_tabIn (tgt := 69) dX9_count_1 ha (by decide) (by decide) (by rfl) (by decide) (k5 (by omega))
    · exact z_tabIn (tgt := 74) dX9_count_1 ha (by decide) (by decide) (by rfl) (by decide) (k6 (by omega))
theorem sw_X9_lays_1 {nL d : Nat} {E : z_X → Prop} {L : List (Option Value)} {st : List Value} {σ : Sto} {a : Int} (ha : inR a) (k0 : a = 0 → Z (cX9_lays, RX9, nL, d, E) 44 L st σ) (k1 : a = 1 → Z (cX9_lays, RX9, nL, d, E) 54 L st σ) (k2 : a = 2 → Z (cX9_lays, RX9, nL, d, E) 64 L st σ) (k3 : a = 3 → Z (cX9_lays, RX9, nL, d, E) 74 L st σ) (k4 : a = 4 → Z (cX9_lays, RX9, nL, d, E) 84 L st σ) (k5 : a = 5 → Z (cX9_lays, RX9, nL, d, E) 94 L st σ) (k6 : a = 6 → Z (cX9_lays, RX9, nL, d, E) 104 L st σ) (k7 : a ≠ 0 ∧ a ≠ 1 ∧ a ≠ 2 ∧ a ≠ 3 ∧ a ≠ 4 ∧ a ≠ 5 ∧ a ≠ 6 → Z (cX9_lays, RX9, nL, d, E) 114 L st σ) : Z (cX9_lays, RX9, nL, d, E) 1 L (zI a :: st) σ := by
  by_cases h0 : a < 0 ∨ 6 < a
  · exact z_tabOut (tgt := 114) dX9_lays_1 ha h0 (by decide) (k7 (by omega))
  · rcases (show a = 0 ∨ a = 1 ∨ a = 2 ∨ a = 3 ∨ a = 4 ∨ a = 5 ∨ a = 6 by omega) with rfl | rfl | rfl | rfl | rfl | rfl | rfl
    · exact z_tabIn (tgt := 44) dX9_lays_1 ha (by decide) (by decide) (by rfl) (by decide) (k0 (by omega))
    · exact z_tabIn (tgt := 54) dX9_lays_1 ha (by decide) (by decide) (by rfl) (by decide) (k1 (by omega))
    · exact z_tabIn (tgt := 64) dX9_lays_1 ha (by decide) (by decide) (by rfl) (by decide) (k2 (by omega))
    · exact z_tabIn (tgt := 74) dX9_lays_1 ha (by decide) (by decide) (by rfl) (by decide) (k3 (by omega))
    · exact z_tabIn (tgt := 84) dX9_lays_1 ha (by decide) (by decide) (by rfl) (by decide) (k4 (by omega))
    · exact z_tabIn (tgt := 94) dX9_lays_1 ha (by decide) (by decide) (by rfl) (by decide) (k5 (by omega))
    · exact z_tabIn (tgt := 104) dX9_lays_1 ha (by decide) (by decide) (by rfl) (by decide) (k6 (by omega))
theorem sw_X9_nameOf_1 {nL d : Nat} {E : z_X → Prop} {L : List (Option Value)} {st : List Value} {σ : Sto} {a : Int} (ha : inR a) (k0 : a = 102 → Z (cX9_nameOf, RX9, nL, d, E) 94 L st σ) (k1 : a = 104 → Z (cX9_nameOf, RX9, nL, d, E) 90 L st σ) (k2 : a = 108 → Z (cX9_nameOf, RX9, nL, d, E) 98 L st σ) (k3 : a = 112 → Z (cX9_nameOf, RX9, nL, d, E) 96 L st σ) (k4 : a = 115 → Z (cX9_nameOf, RX9, nL, d, E) 88 L st σ) (k5 : a = 119 → Z (cX9_nameOf, RX9, nL, d, E) 92 L st σ) (k6 : a ≠ 102 ∧ a ≠ 104 ∧ a ≠ 108 ∧ a ≠ 112 ∧ a ≠ 115 ∧ a ≠ 119 → Z (cX9_nameOf, RX9, nL, d, E) 100 L st σ) : Z (cX9_nameOf, RX9, nL, d, E) 1 L (zI a :: st) σ := by
  by_cases h0 : a < 102 ∨ 119 < a
  · exact z_tabOut (tgt := 100) dX9_nameOf_1 ha h0 (by decide) (k6 (by omega))
  · rcases (show a = 102 ∨ a = 103 ∨ a = 104 ∨ a = 105 ∨ a = 106 ∨ a = 107 ∨ a = 108 ∨ a = 109 ∨ a = 110 ∨ a = 111 ∨ a = 112 ∨ a = 113 ∨ a = 114 ∨ a = 115 ∨ a = 116 ∨ a = 117 ∨ a = 118 ∨ a = 119 by omega) with rfl | rfl | rfl | rfl | rfl | rfl | rfl | rfl | rfl | rfl | rfl | rfl | rfl | rfl | rfl | rfl | rfl | rfl
    · exact z_tabIn (tgt := 94) dX9_nameOf_1 ha (by decide) (by decide) (by rfl) (by decide) (k0 (by omega))
    · exact z_tabIn (tgt := 100) dX9_nameOf_1 ha (by decide) (by decide) (by rfl) (by decide) (k6 (by omega))
    · exact z_tabIn (tgt := 90) dX9_nameOf_1 ha (by decide) (by decide) (by rfl) (by decide) (k1 (by omega))
    · exact z_tabIn (tgt := 100) dX9_nameOf_1 ha (by decide) (by decide) (by rfl) (by decide) (k6 (by omega))
    · exact z_tabIn (tgt := 100) dX9_nameOf_1 ha (by decide) (by decide) (by rfl) (by decide) (k6 (by omega))
    · exact z_tabIn (tgt := 100) dX9_nameOf_1 ha (by decide) (by decide) (by rfl) (by decide) (k6 (by omega))
    · exact z_tabIn (tgt := 98) dX9_nameOf_1 ha (by decide) (by decide) (by rfl) (by decide) (k2 (by omega))
    · exact z_tabIn (tgt := 100) dX9_nameOf_1 ha (by decide) (by decide) (by rfl) (by decide) (k6 (by omega))
    · exact z_tabIn (tgt := 100) dX9_nameOf_1 ha (by decide) (by decide) (by rfl) (by decide) (k6 (by omega))
    · exact z_tabIn (tgt := 100) dX9_nameOf_1 ha (by decide) (by decide) (by rfl) (by decide) (k6 (by omega))
    · exact z_tabIn (tgt := 96) dX9_nameOf_1 ha (by decide) (by decide) (by rfl) (by decide) (k3 (by omega))
    · exact z_tabIn (tgt := 100) dX9_nameOf_1 ha (by decide) (by decide) (by rfl) (by decide) (k6 (by omega))
    · exact z_tabIn (tgt := 100) dX9_nameOf_1 ha (by decide) (by decide) (by rfl) (by decide) (k6 (by omega))
    · exact z_tabIn (tgt := 88) dX9_nameOf_1 ha (by decide) (by decide) (by rfl) (by decide) (k4 (by omega))
    · exact z_tabIn (tgt := 100) dX9_nameOf_1 ha (by decide) (by decide) (by rfl) (by decide) (k6 (by omega))
    · exact z_tabIn (tgt := 100) dX9_nameOf_1 ha (by decide) (by decide) (by rfl) (by decide) (k6 (by omega))
    · exact z_tabIn (tgt := 100) dX9_nameOf_1 ha (by decide) (by decide) (by rfl) (by decide) (k6 (by omega))
    · exact z_tabIn (tgt := 92) dX9_nameOf_1 ha (by decide) (by decide) (by rfl) (by decide) (k5 (by omega))
theorem sw_X9_through_53 {nL d : Nat} {E : z_X → Prop} {L : List (Option Value)} {st : List Value} {σ : Sto} {a : Int} (ha : inR a) (k0 : a = 0 → Z (cX9_through, RX9, nL, d, E) 88 L st σ) (k1 : a = 1 → Z (cX9_through, RX9, nL, d, E) 93 L st σ) (k2 : a = 2 → Z (cX9_through, RX9, nL, d, E) 98 L st σ) (k3 : a = 3 → Z (cX9_through, RX9, nL, d, E) 111 L st σ) (k4 : a = 4 → Z (cX9_through, RX9, nL, d, E) 117 L st σ) (k5 : a ≠ 0 ∧ a ≠ 1 ∧ a ≠ 2 ∧ a ≠ 3 ∧ a ≠ 4 → Z (cX9_through, RX9, nL, d, E) 123 L st σ) : Z (cX9_through, RX9, nL, d, E) 53 L (zI a :: st) σ := by
  by_cases h0 : a < 0 ∨ 4 < a
  · exact z_tabOut (tgt := 123) dX9_through_53 ha h0 (by decide) (k5 (by omega))
  · rcases (show a = 0 ∨ a = 1 ∨ a = 2 ∨ a = 3 ∨ a = 4 by omega) with rfl | rfl | rfl | rfl | rfl
    · exact z_tabIn (tgt := 88) dX9_through_53 ha (by decide) (by decide) (by rfl) (by decide) (k0 (by omega))
    · exact z_tabIn (tgt := 93) dX9_through_53 ha (by decide) (by decide) (by rfl) (by decide) (k1 (by omega))
    · exact z_tabIn (tgt := 98) dX9_through_53 ha (by decide) (by decide) (by rfl) (by decide) (k2 (by omega))
    · exact z_tabIn (tgt := 111) dX9_through_53 ha (by decide) (by decide) (by rfl) (by decide) (k3 (by omega))
    · exact z_tabIn (tgt := 117) dX9_through_53 ha (by decide) (by decide) (by rfl) (by decide) (k4 (by omega))
theorem sw_X9_twoOf_1 {nL d : Nat} {E : z_X → Prop} {L : List (Option Value)} {st : List Value} {σ : Sto} {a : Int} (ha : inR a) (k0 : a = 37 → Z (cX9_twoOf, RX9, nL, d, E) 154 L st σ) (k1 : a = 38 → Z (cX9_twoOf, RX9, nL, d, E) 204 L st σ) (k2 : a = 42 → Z (cX9_twoOf, RX9, nL, d, E) 128 L st σ) (k3 : a = 43 → Z (cX9_twoOf, RX9, nL, d, E) 120 L st σ) (k4 : a = 45 → Z (cX9_twoOf, RX9, nL, d, E) 124 L st σ) (k5 : a = 47 → Z (cX9_twoOf, RX9, nL, d, E) 132 L st σ) (k6 : a = 60 → Z (cX9_twoOf, RX9, nL, d, E) 171 L st σ) (k7 : a = 61 → Z (cX9_twoOf, RX9, nL, d, E) 182 L st σ) (k8 : a = 62 → Z (cX9_twoOf, RX9, nL, d, E) 193 L st σ) (k9 : a ≠ 37 ∧ a ≠ 38 ∧ a ≠ 42 ∧ a ≠ 43 ∧ a ≠ 45 ∧ a ≠ 47 ∧ a ≠ 60 ∧ a ≠ 61 ∧ a ≠ 62 → Z (cX9_twoOf, RX9, nL, d, E) 218 L st σ) : Z (cX9_twoOf, RX9, nL, d, E) 1 L (zI a :: st) σ := by
  by_cases h0 : a < 37 ∨ 62 < a
  · exact z_tabOut (tgt := 218) dX9_twoOf_1 ha h0 (by decide) (k9 (by omega))
  · rcases (show a = 37 ∨ a = 38 ∨ a = 39 ∨ a = 40 ∨ a = 41 ∨ a = 42 ∨ a = 43 ∨ a = 44 ∨ a = 45 ∨ a = 46 ∨ a = 47 ∨ a = 48 ∨ a = 49 ∨ a = 50 ∨ a = 51 ∨ a = 52 ∨ a = 53 ∨ a = 54 ∨ a = 55 ∨ a = 56 ∨ a = 57 ∨ a = 58 ∨ a = 59 ∨ a = 60 ∨ a = 61 ∨ a = 62 by omega) with rfl | rfl | rfl | rfl | rfl | rfl | rfl | rfl | rfl | rfl | rfl | rfl | rfl | rfl | rfl | rfl | rfl | rfl | rfl | rfl | rfl | rfl | rfl | rfl | rfl | rfl
    · exact z_tabIn (tgt := 154) dX9_twoOf_1 ha (by decide) (by decide) (by rfl) (by decide) (k0 (by omega))
    · exact z_tabIn (tgt := 204) dX9_twoOf_1 ha (by decide) (by decide) (by rfl) (by decide) (k1 (by omega))
    · exact z_tabIn (tgt := 218) dX9_twoOf_1 ha (by decide) (by decide) (by rfl) (by decide) (k9 (by omega))
    · exact z_tabIn (tgt := 218) dX9_twoOf_1 ha (by decide) (by decide) (by rfl) (by decide) (k9 (by omega))
    · exact z_tabIn (tgt := 218) dX9_twoOf_1 ha (by decide) (by decide) (by rfl) (by decide) (k9 (by omega))
    · exact z_tabIn (tgt := 128) dX9_twoOf_1 ha (by decide) (by decide) (by rfl) (by decide) (k2 (by omega))
    · exact z_tabIn (tgt := 120) dX9_twoOf_1 ha (by decide) (by decide) (by rfl) (by decide) (k3 (by omega))
    · exact z_tabIn (tgt := 218) dX9_twoOf_1 ha (by decide) (by decide) (by rfl) (by decide) (k9 (by omega))
    · exact z_tabIn (tgt := 124) dX9_twoOf_1 ha (by decide) (by decide) (by rfl) (by decide) (k4 (by omega))
    · exact z_tabIn (tgt := 218) dX9_twoOf_1 ha (by decide) (by decide) (by rfl) (by decide) (k9 (by omega))
    · exact z_tabIn (tgt := 132) dX9_twoOf_1 ha (by decide) (by decide) (by rfl) (by decide) (k5 (by omega))
    · exact z_tabIn (tgt := 218) dX9_twoOf_1 ha (by decide) (by decide) (by rfl) (by decide) (k9 (by omega))
    · exact z_tabIn (tgt := 218) dX9_twoOf_1 ha (by decide) (by decide) (by rfl) (by decide) (k9 (by omega))
    · exact z_tabIn (tgt := 218) dX9_twoOf_1 ha (by decide) (by decide) (by rfl) (by decide) (k9 (by omega))
    · exact z_tabIn (tgt := 218) dX9_twoOf_1 ha (by decide) (by decide) (by rfl) (by decide) (k9 (by omega))
    · exact z_tabIn (tgt := 218) dX9_twoOf_1 ha (by decide) (by decide) (by rfl) (by decide) (k9 (by omega))
    · exact z_tabIn (tgt := 218) dX9_twoOf_1 ha (by decide) (by decide) (by rfl) (by decide) (k9 (by omega))
    · exact z_tabIn (tgt := 218) dX9_twoOf_1 ha (by decide) (by decide) (by rfl) (by decide) (k9 (by omega))
    · exact z_tabIn (tgt := 218) dX9_twoOf_1 ha (by decide) (by decide) (by rfl) (by decide) (k9 (by omega))
    · exact z_tabIn (tgt := 218) dX9_twoOf_1 ha (by decide) (by decide) (by rfl) (by decide) (k9 (by omega))
    · exact z_tabIn (tgt := 218) dX9_twoOf_1 ha (by decide) (by decide) (by rfl) (by decide) (k9 (by omega))
    · exact z_tabIn (tgt := 218) dX9_twoOf_1 ha (by decide) (by decide) (by rfl) (by decide) (k9 (by omega))
    · exact z_tabIn (tgt := 218) dX9_twoOf_1 ha (by decide) (by decide) (by rfl) (by decide) (k9 (by omega))
    · exact z_tabIn (tgt := 171) dX9_twoOf_1 ha (by decide) (by decide) (by rfl) (by decide) (k6 (by omega))
    · exact z_tabIn (tgt := 182) dX9_twoOf_1 ha (by decide) (by decide) (by rfl) (by decide) (k7 (by omega))
    · exact z_tabIn (tgt := 193) dX9_twoOf_1 ha (by decide) (by decide) (by rfl) (by decide) (k8 (by omega))
theorem sw_X9_valueAt_1 {nL d : Nat} {E : z_X → Prop} {L : List (Option Value)} {st : List Value} {σ : Sto} {a : Int} (ha : inR a) (k0 : a = 0 → Z (cX9_valueAt, RX9, nL, d, E) 44 L st σ) (k1 : a = 1 → Z (cX9_valueAt, RX9, nL, d, E) 51 L st σ) (k2 : a = 2 → Z (cX9_valueAt, RX9, nL, d, E) 58 L st σ) (k3 : a = 3 → Z (cX9_valueAt, RX9, nL, d, E) 65 L st σ) (k4 : a = 4 → Z (cX9_valueAt, RX9, nL, d, E) 72 L st σ) (k5 : a = 5 → Z (cX9_valueAt, RX9, nL, d, E) 79 L st σ) (k6 : a = 6 → Z (cX9_valueAt, RX9, nL, d, E) 86 L st σ) (k7 : a ≠ 0 ∧ a ≠ 1 ∧ a ≠ 2 ∧ a ≠ 3 ∧ a ≠ 4 ∧ a ≠ 5 ∧ a ≠ 6 → Z (cX9_valueAt, RX9, nL, d, E) 93 L st σ) : Z (cX9_valueAt, RX9, nL, d, E) 1 L (zI a :: st) σ := by
  by_cases h0 : a < 0 ∨ 6 < a
  · exact z_tabOut (tgt := 93) dX9_valueAt_1 ha h0 (by decide) (k7 (by omega))
  · rcases (show a = 0 ∨ a = 1 ∨ a = 2 ∨ a = 3 ∨ a = 4 ∨ a = 5 ∨ a = 6 by omega) with rfl | rfl | rfl | rfl | rfl | rfl | rfl
    · exact z_tabIn (tgt := 44) dX9_valueAt_1 ha (by decide) (by decide) (by rfl) (by decide) (k0 (by omega))
    · exact z_tabIn (tgt := 51) dX9_valueAt_1 ha (by decide) (by decide) (by rfl) (by decide) (k1 (by omega))
    · exact z_tabIn (tgt := 58) dX9_valueAt_1 ha (by decide) (by decide) (by rfl) (by decide) (k2 (by omega))
    · exact z_tabIn (tgt := 65) dX9_valueAt_1 ha (by decide) (by decide) (by rfl) (by decide) (k3 (by omega))
    · exact z_tabIn (tgt := 72) dX9_valueAt_1 ha (by decide) (by decide) (by rfl) (by decide) (k4 (by omega))
    · exact z_tabIn (tgt := 79) dX9_valueAt_1 ha (by decide) (by decide) (by rfl) (by decide) (k5 (by omega))
    · exact z_tabIn (tgt := 86) dX9_valueAt_1 ha (by decide) (by decide) (by rfl) (by decide) (k6 (by omega))
theorem aX1_30 : z_CC RX1 30 := ⟨z_in (List.mem_append_right _ (List.mem_of_getElem? (i := 749) (by decide +kernel))) rfl, z_in (List.mem_append_right _ (List.mem_of_getElem? (i := 751) (by decide +kernel))) rfl, z_in (List.mem_append_right _ (List.mem_of_getElem? (i := 750) (by decide +kernel))) rfl, z_in (List.mem_append_right _ (List.mem_of_getElem? (i := 13) (by decide +kernel))) rfl⟩
theorem aX5_51 : z_CC RX5 51 := ⟨z_in (List.mem_append_right _ (List.mem_of_getElem? (i := 878) (by decide +kernel))) rfl, z_in (List.mem_append_right _ (List.mem_of_getElem? (i := 751) (by decide +kernel))) rfl, z_in (List.mem_append_right _ (List.mem_of_getElem? (i := 750) (by decide +kernel))) rfl, z_in (List.mem_append_right _ (List.mem_of_getElem? (i := 13) (by decide +kernel))) rfl⟩
abbrev m_J6_bitCount_0f7a4 (d : Nat) (av : List Value) (σ : Sto) (P : Option Value → Sto → Prop) : Prop := Does (d + 0) yJ6_bitCount_0f7a4 cJ6_bitCount_0f7a4 1 (some .int) av σ P
abbrev m_X0_forgetOldest (d : Nat) (av : List Value) (σ : Sto) (P : Option Value → Sto → Prop) : Prop := Does (d + 0) yX0_forgetOldest cX0_forgetOldest 2 none av σ P
abbrev m_X0_note (d : Nat) (av : List Value) (σ : Sto) (P : Option Value → Sto → Prop) : Prop := Does (d + 1) yX0_note cX0_note 5 none av σ P
abbrev m_X0_stepBack (d : Nat) (av : List Value) (σ : Sto) (P : Option Value → Sto → Prop) : Prop := Does (d + 3) yX0_stepBack cX0_stepBack 2 (some .int) av σ P
abbrev m_X0_stepOn (d : Nat) (av : List Value) (σ : Sto) (P : Option Value → Sto → Prop) : Prop := Does (d + 3) yX0_stepOn cX0_stepOn 2 (some .int) av σ P
abbrev m_X1_harmIn (d : Nat) (av : List Value) (σ : Sto) (P : Option Value → Sto → Prop) : Prop := Does (d + 0) yX1_harmIn cX1_harmIn 2 (some .int) av σ P
abbrev m_X1_keepImage (d : Nat) (av : List Value) (σ : Sto) (P : Option Value → Sto → Prop) : Prop := Does (d + 1) yX1_keepImage cX1_keepImage 1 (some .int) av σ P
abbrev m_X1_layBack (d : Nat) (av : List Value) (σ : Sto) (P : Option Value → Sto → Prop) : Prop := Does (d + 1) yX1_layBack cX1_layBack 1 (some .int) av σ P
abbrev m_X1_ledOf (d : Nat) (av : List Value) (σ : Sto) (P : Option Value → Sto → Prop) : Prop := Does (d + 0) yX1_ledOf cX1_ledOf 2 (some .int) av σ P
abbrev m_X1_lyingIn (d : Nat) (av : List Value) (σ : Sto) (P : Option Value → Sto → Prop) : Prop := Does (d + 0) yX1_lyingIn cX1_lyingIn 2 (some .int) av σ P
abbrev m_X1_noteSaying (d : Nat) (av : List Value) (σ : Sto) (P : Option Value → Sto → Prop) : Prop := Does (d + 0) yX1_noteSaying cX1_noteSaying 6 none av σ P
abbrev m_X1_rinseOut (d : Nat) (av : List Value) (σ : Sto) (P : Option Value → Sto → Prop) : Prop := Does (d + 0) yX1_rinseOut cX1_rinseOut 3 (some .int) av σ P
abbrev m_X2_addStep (d : Nat) (av : List Value) (σ : Sto) (P : Option Value → Sto → Prop) : Prop := Does (d + 0) yX2_addStep cX2_addStep 2 none av σ P
abbrev m_X2_becomeTape (d : Nat) (av : List Value) (σ : Sto) (P : Option Value → Sto → Prop) : Prop := Does (d + 6) yX2_becomeTape cX2_becomeTape 2 (some .int) av σ P
abbrev m_X2_closeBracket (d : Nat) (av : List Value) (σ : Sto) (P : Option Value → Sto → Prop) : Prop := Does (d + 1) yX2_closeBracket cX2_closeBracket 1 none av σ P
abbrev m_X2_isDigit (d : Nat) (av : List Value) (σ : Sto) (P : Option Value → Sto → Prop) : Prop := Does (d + 0) yX2_isDigit cX2_isDigit 1 (some .boolean) av σ P
abbrev m_X2_isTold (d : Nat) (av : List Value) (σ : Sto) (P : Option Value → Sto → Prop) : Prop := Does (d + 0) yX2_isTold cX2_isTold 1 (some .boolean) av σ P
abbrev m_X2_joined (d : Nat) (av : List Value) (σ : Sto) (P : Option Value → Sto → Prop) : Prop := Does (d + 0) yX2_joined cX2_joined 3 (some .int) av σ P
abbrev m_X2_levelOf (d : Nat) (av : List Value) (σ : Sto) (P : Option Value → Sto → Prop) : Prop := Does (d + 0) yX2_levelOf cX2_levelOf 1 (some .int) av σ P
abbrev m_X2_nameOf (d : Nat) (av : List Value) (σ : Sto) (P : Option Value → Sto → Prop) : Prop := Does (d + 0) yX2_nameOf cX2_nameOf 1 (some .int) av σ P
abbrev m_X2_nextByte (d : Nat) (av : List Value) (σ : Sto) (P : Option Value → Sto → Prop) : Prop := Does (d + 0) yX2_nextByte cX2_nextByte 1 (some .int) av σ P
abbrev m_X2_readLevel (d : Nat) (av : List Value) (σ : Sto) (P : Option Value → Sto → Prop) : Prop := Does (d + 3) yX2_readLevel cX2_readLevel 6 none av σ P
abbrev m_X2_readLine (d : Nat) (av : List Value) (σ : Sto) (P : Option Value → Sto → Prop) : Prop := Does (d + 4) yX2_readLine cX2_readLine 2 none av σ P
abbrev m_X2_readLines (d : Nat) (av : List Value) (σ : Sto) (P : Option Value → Sto → Prop) : Prop := Does (d + 5) yX2_readLines cX2_readLines 2 none av σ P
abbrev m_X2_readNumber (d : Nat) (av : List Value) (σ : Sto) (P : Option Value → Sto → Prop) : Prop := Does (d + 1) yX2_readNumber cX2_readNumber 3 none av σ P
abbrev m_X2_readOperand (d : Nat) (av : List Value) (σ : Sto) (P : Option Value → Sto → Prop) : Prop := Does (d + 2) yX2_readOperand cX2_readOperand 3 none av σ P
abbrev m_X2_take (d : Nat) (av : List Value) (σ : Sto) (P : Option Value → Sto → Prop) : Prop := Does (d + 0) yX2_take cX2_take 2 (some .int) av σ P
abbrev m_X2_worth (d : Nat) (av : List Value) (σ : Sto) (P : Option Value → Sto → Prop) : Prop := Does (d + 1) yX2_worth cX2_worth 11 (some .int) av σ P
abbrev m_X3_actOf (d : Nat) (av : List Value) (σ : Sto) (P : Option Value → Sto → Prop) : Prop := Does (d + 2) yX3_actOf cX3_actOf 4 (some .int) av σ P
abbrev m_X3_answerOf (d : Nat) (av : List Value) (σ : Sto) (P : Option Value → Sto → Prop) : Prop := Does (d + 0) yX3_answerOf cX3_answerOf 4 (some .int) av σ P
abbrev m_X3_bodyFrom (d : Nat) (av : List Value) (σ : Sto) (P : Option Value → Sto → Prop) : Prop := Does (d + 0) yX3_bodyFrom cX3_bodyFrom 5 (some .int) av σ P
abbrev m_X3_isUnder (d : Nat) (av : List Value) (σ : Sto) (P : Option Value → Sto → Prop) : Prop := Does (d + 0) yX3_isUnder cX3_isUnder 5 (some .boolean) av σ P
abbrev m_X3_keepBody (d : Nat) (av : List Value) (σ : Sto) (P : Option Value → Sto → Prop) : Prop := Does (d + 0) yX3_keepBody cX3_keepBody 2 (some .int) av σ P
abbrev m_X3_kindOf (d : Nat) (av : List Value) (σ : Sto) (P : Option Value → Sto → Prop) : Prop := Does (d + 0) yX3_kindOf cX3_kindOf 2 (some .int) av σ P
abbrev m_X3_noteBody (d : Nat) (av : List Value) (σ : Sto) (P : Option Value → Sto → Prop) : Prop := Does (d + 0) yX3_noteBody cX3_noteBody 2 none av σ P
abbrev m_X3_run (d : Nat) (av : List Value) (σ : Sto) (P : Option Value → Sto → Prop) : Prop := Does (d + 1) yX3_run cX3_run 6 (some .int) av σ P
abbrev m_X3_traceAt (d : Nat) (av : List Value) (σ : Sto) (P : Option Value → Sto → Prop) : Prop := Does (d + 0) yX3_traceAt cX3_traceAt 2 (some .int) av σ P
abbrev m_X4_drawnEvenings (d : Nat) (av : List Value) (σ : Sto) (P : Option Value → Sto → Prop) : Prop := Does (d + 4) yX4_drawnEvenings cX4_drawnEvenings 13 (some .int) av σ P
abbrev m_X4_firstMerging (d : Nat) (av : List Value) (σ : Sto) (P : Option Value → Sto → Prop) : Prop := Does (d + 3) yX4_firstMerging cX4_firstMerging 11 none av σ P
abbrev m_X4_firstStep (d : Nat) (av : List Value) (σ : Sto) (P : Option Value → Sto → Prop) : Prop := Does (d + 4) yX4_firstStep cX4_firstStep 7 (some .int) av σ P
abbrev m_X4_foundAt (d : Nat) (av : List Value) (σ : Sto) (P : Option Value → Sto → Prop) : Prop := Does (d + 0) yX4_foundAt cX4_foundAt 2 (some .int) av σ P
abbrev m_X4_greatestHarmlessSet (d : Nat) (av : List Value) (σ : Sto) (P : Option Value → Sto → Prop) : Prop := Does (d + 3) yX4_greatestHarmlessSet cX4_greatestHarmlessSet 6 (some .int) av σ P
abbrev m_X4_mergings (d : Nat) (av : List Value) (σ : Sto) (P : Option Value → Sto → Prop) : Prop := Does (d + 3) yX4_mergings cX4_mergings 10 (some .long) av σ P
abbrev m_X4_neededFrom (d : Nat) (av : List Value) (σ : Sto) (P : Option Value → Sto → Prop) : Prop := Does (d + 4) yX4_neededFrom cX4_neededFrom 8 (some .int) av σ P
abbrev m_X4_neededWith (d : Nat) (av : List Value) (σ : Sto) (P : Option Value → Sto → Prop) : Prop := Does (d + 3) yX4_neededWith cX4_neededWith 7 (some .int) av σ P
abbrev m_X4_sayingsWithLeft (d : Nat) (av : List Value) (σ : Sto) (P : Option Value → Sto → Prop) : Prop := Does (d + 4) yX4_sayingsWithLeft cX4_sayingsWithLeft 9 (some .long) av σ P
abbrev m_X4_shortestSaying (d : Nat) (av : List Value) (σ : Sto) (P : Option Value → Sto → Prop) : Prop := Does (d + 5) yX4_shortestSaying cX4_shortestSaying 8 (some .int) av σ P
abbrev m_X4_unheardBehind (d : Nat) (av : List Value) (σ : Sto) (P : Option Value → Sto → Prop) : Prop := Does (d + 4) yX4_unheardBehind cX4_unheardBehind 9 (some .int) av σ P
abbrev m_X4_winningFrom (d : Nat) (av : List Value) (σ : Sto) (P : Option Value → Sto → Prop) : Prop := Does (d + 1) yX4_winningFrom cX4_winningFrom 6 (some .int) av σ P
abbrev m_X4_winningWord (d : Nat) (av : List Value) (σ : Sto) (P : Option Value → Sto → Prop) : Prop := Does (d + 3) yX4_winningWord cX4_winningWord 5 (some .int) av σ P
abbrev m_X4_wordsLeftAt (d : Nat) (av : List Value) (σ : Sto) (P : Option Value → Sto → Prop) : Prop := Does (d + 3) yX4_wordsLeftAt cX4_wordsLeftAt 6 (some .int) av σ P
abbrev m_X5_bodyOn (d : Nat) (av : List Value) (σ : Sto) (P : Option Value → Sto → Prop) : Prop := Does (d + 2) yX5_bodyOn cX5_bodyOn 2 (some .int) av σ P
abbrev m_X5_bytesRefusal (d : Nat) (av : List Value) (σ : Sto) (P : Option Value → Sto → Prop) : Prop := Does (d + 3) yX5_bytesRefusal cX5_bytesRefusal 2 (some .int) av σ P
abbrev m_X5_copyRange (d : Nat) (av : List Value) (σ : Sto) (P : Option Value → Sto → Prop) : Prop := Does (d + 3) yX5_copyRange cX5_copyRange 6 none av σ P
abbrev m_X5_hasRange (d : Nat) (av : List Value) (σ : Sto) (P : Option Value → Sto → Prop) : Prop := Does (d + 2) yX5_hasRange cX5_hasRange 4 (some .boolean) av σ P
abbrev m_X5_heldOn (d : Nat) (av : List Value) (σ : Sto) (P : Option Value → Sto → Prop) : Prop := Does (d + 1) yX5_heldOn cX5_heldOn 2 (some .int) av σ P
abbrev m_X5_hold (d : Nat) (av : List Value) (σ : Sto) (P : Option Value → Sto → Prop) : Prop := Does (d + 1) yX5_hold cX5_hold 3 none av σ P
abbrev m_X5_isAlike (d : Nat) (av : List Value) (σ : Sto) (P : Option Value → Sto → Prop) : Prop := Does (d + 2) yX5_isAlike cX5_isAlike 3 (some .boolean) av σ P
abbrev m_X5_isEmpty (d : Nat) (av : List Value) (σ : Sto) (P : Option Value → Sto → Prop) : Prop := Does (d + 2) yX5_isEmpty cX5_isEmpty 2 (some .boolean) av σ P
abbrev m_X5_isRow (d : Nat) (av : List Value) (σ : Sto) (P : Option Value → Sto → Prop) : Prop := Does (d + 2) yX5_isRow cX5_isRow 2 (some .boolean) av σ P
abbrev m_X5_lengthOf (d : Nat) (av : List Value) (σ : Sto) (P : Option Value → Sto → Prop) : Prop := Does (d + 1) yX5_lengthOf cX5_lengthOf 2 (some .int) av σ P
abbrev m_X5_lowestBits (d : Nat) (av : List Value) (σ : Sto) (P : Option Value → Sto → Prop) : Prop := Does (d + 0) yX5_lowestBits cX5_lowestBits 3 (some .long) av σ P
abbrev m_X5_newRow (d : Nat) (av : List Value) (σ : Sto) (P : Option Value → Sto → Prop) : Prop := Does (d + 1) yX5_newRow cX5_newRow 5 none av σ P
abbrev m_X5_setAt (d : Nat) (av : List Value) (σ : Sto) (P : Option Value → Sto → Prop) : Prop := Does (d + 3) yX5_setAt cX5_setAt 5 none av σ P
abbrev m_X5_valueAt (d : Nat) (av : List Value) (σ : Sto) (P : Option Value → Sto → Prop) : Prop := Does (d + 3) yX5_valueAt cX5_valueAt 3 (some .long) av σ P
abbrev m_X6_addToNet (d : Nat) (av : List Value) (σ : Sto) (P : Option Value → Sto → Prop) : Prop := Does (d + 1) yX6_addToNet cX6_addToNet 3 none av σ P
abbrev m_X6_cameJust (d : Nat) (av : List Value) (σ : Sto) (P : Option Value → Sto → Prop) : Prop := Does (d + 0) yX6_cameJust cX6_cameJust 4 (some .boolean) av σ P
abbrev m_X6_clearNet (d : Nat) (av : List Value) (σ : Sto) (P : Option Value → Sto → Prop) : Prop := Does (d + 0) yX6_clearNet cX6_clearNet 2 none av σ P
abbrev m_X6_copyCame (d : Nat) (av : List Value) (σ : Sto) (P : Option Value → Sto → Prop) : Prop := Does (d + 1) yX6_copyCame cX6_copyCame 4 (some .int) av σ P
abbrev m_X6_fitsAt (d : Nat) (av : List Value) (σ : Sto) (P : Option Value → Sto → Prop) : Prop := Does (d + 1) yX6_fitsAt cX6_fitsAt 3 (some .boolean) av σ P
abbrev m_X6_harmLeftOf (d : Nat) (av : List Value) (σ : Sto) (P : Option Value → Sto → Prop) : Prop := Does (d + 1) yX6_harmLeftOf cX6_harmLeftOf 4 (some .int) av σ P
abbrev m_X6_hurtBy (d : Nat) (av : List Value) (σ : Sto) (P : Option Value → Sto → Prop) : Prop := Does (d + 2) yX6_hurtBy cX6_hurtBy 4 (some .int) av σ P
abbrev m_X6_hurtByNet (d : Nat) (av : List Value) (σ : Sto) (P : Option Value → Sto → Prop) : Prop := Does (d + 1) yX6_hurtByNet cX6_hurtByNet 3 (some .int) av σ P
abbrev m_X6_hurtBySet (d : Nat) (av : List Value) (σ : Sto) (P : Option Value → Sto → Prop) : Prop := Does (d + 2) yX6_hurtBySet cX6_hurtBySet 3 (some .int) av σ P
abbrev m_X6_keepsJust (d : Nat) (av : List Value) (σ : Sto) (P : Option Value → Sto → Prop) : Prop := Does (d + 3) yX6_keepsJust cX6_keepsJust 5 (some .boolean) av σ P
abbrev m_X6_makesSense (d : Nat) (av : List Value) (σ : Sto) (P : Option Value → Sto → Prop) : Prop := Does (d + 2) yX6_makesSense cX6_makesSense 4 (some .boolean) av σ P
abbrev m_X6_mostHarmLeftOf (d : Nat) (av : List Value) (σ : Sto) (P : Option Value → Sto → Prop) : Prop := Does (d + 2) yX6_mostHarmLeftOf cX6_mostHarmLeftOf 5 (some .int) av σ P
abbrev m_X6_passes (d : Nat) (av : List Value) (σ : Sto) (P : Option Value → Sto → Prop) : Prop := Does (d + 2) yX6_passes cX6_passes 7 (some .boolean) av σ P
abbrev m_X6_somethingCameOf (d : Nat) (av : List Value) (σ : Sto) (P : Option Value → Sto → Prop) : Prop := Does (d + 1) yX6_somethingCameOf cX6_somethingCameOf 3 (some .boolean) av σ P
abbrev m_X6_spite (d : Nat) (av : List Value) (σ : Sto) (P : Option Value → Sto → Prop) : Prop := Does (d + 2) yX6_spite cX6_spite 3 (some .int) av σ P
abbrev m_X6_strain (d : Nat) (av : List Value) (σ : Sto) (P : Option Value → Sto → Prop) : Prop := Does (d + 3) yX6_strain cX6_strain 7 none av σ P
abbrev m_X6_sumOf (d : Nat) (av : List Value) (σ : Sto) (P : Option Value → Sto → Prop) : Prop := Does (d + 1) yX6_sumOf cX6_sumOf 6 (some .int) av σ P
abbrev m_X7_allows (d : Nat) (av : List Value) (σ : Sto) (P : Option Value → Sto → Prop) : Prop := Does (d + 0) yX7_allows cX7_allows 3 (some .boolean) av σ P
abbrev m_X7_bearersOf (d : Nat) (av : List Value) (σ : Sto) (P : Option Value → Sto → Prop) : Prop := Does (d + 0) yX7_bearersOf cX7_bearersOf 2 (some .int) av σ P
abbrev m_X7_get (d : Nat) (av : List Value) (σ : Sto) (P : Option Value → Sto → Prop) : Prop := Does (d + 0) yX7_get cX7_get 3 (some .int) av σ P
abbrev m_X7_has (d : Nat) (av : List Value) (σ : Sto) (P : Option Value → Sto → Prop) : Prop := Does (d + 1) yX7_has cX7_has 3 (some .boolean) av σ P
abbrev m_X7_newMesh (d : Nat) (av : List Value) (σ : Sto) (P : Option Value → Sto → Prop) : Prop := Does (d + 3) yX7_newMesh cX7_newMesh 3 (some .int) av σ P
abbrev m_X7_newPerson (d : Nat) (av : List Value) (σ : Sto) (P : Option Value → Sto → Prop) : Prop := Does (d + 3) yX7_newPerson cX7_newPerson 3 (some .int) av σ P
abbrev m_X7_newWord (d : Nat) (av : List Value) (σ : Sto) (P : Option Value → Sto → Prop) : Prop := Does (d + 3) yX7_newWord cX7_newWord 5 (some .int) av σ P
abbrev m_X7_set (d : Nat) (av : List Value) (σ : Sto) (P : Option Value → Sto → Prop) : Prop := Does (d + 2) yX7_set cX7_set 4 none av σ P
abbrev m_X8_act (d : Nat) (av : List Value) (σ : Sto) (P : Option Value → Sto → Prop) : Prop := Does (d + 3) yX8_act cX8_act 4 (some .int) av σ P
abbrev m_X8_alone (d : Nat) (av : List Value) (σ : Sto) (P : Option Value → Sto → Prop) : Prop := Does (d + 6) yX8_alone cX8_alone 5 (some .long) av σ P
abbrev m_X8_back (d : Nat) (av : List Value) (σ : Sto) (P : Option Value → Sto → Prop) : Prop := Does (d + 2) yX8_back cX8_back 1 (some .int) av σ P
abbrev m_X8_between (d : Nat) (av : List Value) (σ : Sto) (P : Option Value → Sto → Prop) : Prop := Does (d + 6) yX8_between cX8_between 5 (some .int) av σ P
abbrev m_X8_body (d : Nat) (av : List Value) (σ : Sto) (P : Option Value → Sto → Prop) : Prop := Does (d + 1) yX8_body cX8_body 2 (some .int) av σ P
abbrev m_X8_count (d : Nat) (av : List Value) (σ : Sto) (P : Option Value → Sto → Prop) : Prop := Does (d + 0) yX8_count cX8_count 2 (some .int) av σ P
abbrev m_X8_drawn (d : Nat) (av : List Value) (σ : Sto) (P : Option Value → Sto → Prop) : Prop := Does (d + 5) yX8_drawn cX8_drawn 7 (some .int) av σ P
abbrev m_X8_element (d : Nat) (av : List Value) (σ : Sto) (P : Option Value → Sto → Prop) : Prop := Does (d + 4) yX8_element cX8_element 3 (some .long) av σ P
abbrev m_X8_elementRefusal (d : Nat) (av : List Value) (σ : Sto) (P : Option Value → Sto → Prop) : Prop := Does (d + 3) yX8_elementRefusal cX8_elementRefusal 3 (some .int) av σ P
abbrev m_X8_feed (d : Nat) (av : List Value) (σ : Sto) (P : Option Value → Sto → Prop) : Prop := Does (d + 1) yX8_feed cX8_feed 2 (some .int) av σ P
abbrev m_X8_fineOf (d : Nat) (av : List Value) (σ : Sto) (P : Option Value → Sto → Prop) : Prop := Does (d + 1) yX8_fineOf cX8_fineOf 2 (some .int) av σ P
abbrev m_X8_finest (d : Nat) (av : List Value) (σ : Sto) (P : Option Value → Sto → Prop) : Prop := Does (d + 6) yX8_finest cX8_finest 4 (some .int) av σ P
abbrev m_X8_game (d : Nat) (av : List Value) (σ : Sto) (P : Option Value → Sto → Prop) : Prop := Does (d + 4) yX8_game cX8_game 4 (some .int) av σ P
abbrev m_X8_greatestCommon (d : Nat) (av : List Value) (σ : Sto) (P : Option Value → Sto → Prop) : Prop := Does (d + 0) yX8_greatestCommon cX8_greatestCommon 6 (some .int) av σ P
abbrev m_X8_hear (d : Nat) (av : List Value) (σ : Sto) (P : Option Value → Sto → Prop) : Prop := Does (d + 5) yX8_hear cX8_hear 4 (some .int) av σ P
abbrev m_X8_howFine (d : Nat) (av : List Value) (σ : Sto) (P : Option Value → Sto → Prop) : Prop := Does (d + 5) yX8_howFine cX8_howFine 9 (some .int) av σ P
abbrev m_X8_image (d : Nat) (av : List Value) (σ : Sto) (P : Option Value → Sto → Prop) : Prop := Does (d + 2) yX8_image cX8_image 1 (some .int) av σ P
abbrev m_X8_isMesh (d : Nat) (av : List Value) (σ : Sto) (P : Option Value → Sto → Prop) : Prop := Does (d + 0) yX8_isMesh cX8_isMesh 2 (some .boolean) av σ P
abbrev m_X8_isMeshOrNone (d : Nat) (av : List Value) (σ : Sto) (P : Option Value → Sto → Prop) : Prop := Does (d + 1) yX8_isMeshOrNone cX8_isMeshOrNone 2 (some .boolean) av σ P
abbrev m_X8_isShelf (d : Nat) (av : List Value) (σ : Sto) (P : Option Value → Sto → Prop) : Prop := Does (d + 0) yX8_isShelf cX8_isShelf 1 (some .boolean) av σ P
abbrev m_X8_keep (d : Nat) (av : List Value) (σ : Sto) (P : Option Value → Sto → Prop) : Prop := Does (d + 2) yX8_keep cX8_keep 3 (some .int) av σ P
abbrev m_X8_keeps (d : Nat) (av : List Value) (σ : Sto) (P : Option Value → Sto → Prop) : Prop := Does (d + 4) yX8_keeps cX8_keeps 4 (some .int) av σ P
abbrev m_X8_law (d : Nat) (av : List Value) (σ : Sto) (P : Option Value → Sto → Prop) : Prop := Does (d + 7) yX8_law cX8_law 1 (some .int) av σ P
abbrev m_X8_leastLost (d : Nat) (av : List Value) (σ : Sto) (P : Option Value → Sto → Prop) : Prop := Does (d + 6) yX8_leastLost cX8_leastLost 7 (some .int) av σ P
abbrev m_X8_led (d : Nat) (av : List Value) (σ : Sto) (P : Option Value → Sto → Prop) : Prop := Does (d + 1) yX8_led cX8_led 2 (some .int) av σ P
abbrev m_X8_lets (d : Nat) (av : List Value) (σ : Sto) (P : Option Value → Sto → Prop) : Prop := Does (d + 3) yX8_lets cX8_lets 5 (some .int) av σ P
abbrev m_X8_likely (d : Nat) (av : List Value) (σ : Sto) (P : Option Value → Sto → Prop) : Prop := Does (d + 6) yX8_likely cX8_likely 9 (some .long) av σ P
abbrev m_X8_meant (d : Nat) (av : List Value) (σ : Sto) (P : Option Value → Sto → Prop) : Prop := Does (d + 6) yX8_meant cX8_meant 5 (some .int) av σ P
abbrev m_X8_mend (d : Nat) (av : List Value) (σ : Sto) (P : Option Value → Sto → Prop) : Prop := Does (d + 3) yX8_mend cX8_mend 5 (some .int) av σ P
abbrev m_X8_mesh (d : Nat) (av : List Value) (σ : Sto) (P : Option Value → Sto → Prop) : Prop := Does (d + 4) yX8_mesh cX8_mesh 2 (some .int) av σ P
abbrev m_X8_most (d : Nat) (av : List Value) (σ : Sto) (P : Option Value → Sto → Prop) : Prop := Does (d + 4) yX8_most cX8_most 3 (some .int) av σ P
abbrev m_X8_nth (d : Nat) (av : List Value) (σ : Sto) (P : Option Value → Sto → Prop) : Prop := Does (d + 6) yX8_nth cX8_nth 7 (some .int) av σ P
abbrev m_X8_of (d : Nat) (av : List Value) (σ : Sto) (P : Option Value → Sto → Prop) : Prop := Does (d + 2) yX8_of cX8_of 3 (some .int) av σ P
abbrev m_X8_pairRefusal (d : Nat) (av : List Value) (σ : Sto) (P : Option Value → Sto → Prop) : Prop := Does (d + 4) yX8_pairRefusal cX8_pairRefusal 4 (some .int) av σ P
abbrev m_X8_person (d : Nat) (av : List Value) (σ : Sto) (P : Option Value → Sto → Prop) : Prop := Does (d + 4) yX8_person cX8_person 2 (some .int) av σ P
abbrev m_X8_put (d : Nat) (av : List Value) (σ : Sto) (P : Option Value → Sto → Prop) : Prop := Does (d + 4) yX8_put cX8_put 6 (some .int) av σ P
abbrev m_X8_readSaying (d : Nat) (av : List Value) (σ : Sto) (P : Option Value → Sto → Prop) : Prop := Does (d + 4) yX8_readSaying cX8_readSaying 7 (some .int) av σ P
abbrev m_X8_redo (d : Nat) (av : List Value) (σ : Sto) (P : Option Value → Sto → Prop) : Prop := Does (d + 4) yX8_redo cX8_redo 1 (some .int) av σ P
abbrev m_X8_rinse (d : Nat) (av : List Value) (σ : Sto) (P : Option Value → Sto → Prop) : Prop := Does (d + 1) yX8_rinse cX8_rinse 2 (some .int) av σ P
abbrev m_X8_row (d : Nat) (av : List Value) (σ : Sto) (P : Option Value → Sto → Prop) : Prop := Does (d + 2) yX8_row cX8_row 4 (some .int) av σ P
abbrev m_X8_said (d : Nat) (av : List Value) (σ : Sto) (P : Option Value → Sto → Prop) : Prop := Does (d + 5) yX8_said cX8_said 6 (some .long) av σ P
abbrev m_X8_saidAt (d : Nat) (av : List Value) (σ : Sto) (P : Option Value → Sto → Prop) : Prop := Does (d + 5) yX8_saidAt cX8_saidAt 9 (some .int) av σ P
abbrev m_X8_say (d : Nat) (av : List Value) (σ : Sto) (P : Option Value → Sto → Prop) : Prop := Does (d + 6) yX8_say cX8_say 6 (some .int) av σ P
abbrev m_X8_several (d : Nat) (av : List Value) (σ : Sto) (P : Option Value → Sto → Prop) : Prop := Does (d + 5) yX8_several cX8_several 11 (some .int) av σ P
abbrev m_X8_shift (d : Nat) (av : List Value) (σ : Sto) (P : Option Value → Sto → Prop) : Prop := Does (d + 4) yX8_shift cX8_shift 6 (some .int) av σ P
abbrev m_X8_speak (d : Nat) (av : List Value) (σ : Sto) (P : Option Value → Sto → Prop) : Prop := Does (d + 6) yX8_speak cX8_speak 6 (some .int) av σ P
abbrev m_X8_taken (d : Nat) (av : List Value) (σ : Sto) (P : Option Value → Sto → Prop) : Prop := Does (d + 3) yX8_taken cX8_taken 4 (some .int) av σ P
abbrev m_X8_through (d : Nat) (av : List Value) (σ : Sto) (P : Option Value → Sto → Prop) : Prop := Does (d + 6) yX8_through cX8_through 5 (some .int) av σ P
abbrev m_X8_trace (d : Nat) (av : List Value) (σ : Sto) (P : Option Value → Sto → Prop) : Prop := Does (d + 1) yX8_trace cX8_trace 2 (some .int) av σ P
abbrev m_X8_undo (d : Nat) (av : List Value) (σ : Sto) (P : Option Value → Sto → Prop) : Prop := Does (d + 4) yX8_undo cX8_undo 1 (some .int) av σ P
abbrev m_X8_word (d : Nat) (av : List Value) (σ : Sto) (P : Option Value → Sto → Prop) : Prop := Does (d + 4) yX8_word cX8_word 3 (some .int) av σ P
abbrev m_X8_wordFromThree (d : Nat) (av : List Value) (σ : Sto) (P : Option Value → Sto → Prop) : Prop := Does (d + 4) yX8_wordFromThree cX8_wordFromThree 6 (some .boolean) av σ P
abbrev m_X8_words (d : Nat) (av : List Value) (σ : Sto) (P : Option Value → Sto → Prop) : Prop := Does (d + 5) yX8_words cX8_words 8 (some .int) av σ P
abbrev m_X9_act (d : Nat) (av : List Value) (σ : Sto) (P : Option Value → Sto → Prop) : Prop := Does (d + 9) yX9_act cX9_act 4 (some .int) av σ P
abbrev m_X9_addStep (d : Nat) (av : List Value) (σ : Sto) (P : Option Value → Sto → Prop) : Prop := Does (d + 0) yX9_addStep cX9_addStep 3 none av σ P
abbrev m_X9_addWord (d : Nat) (av : List Value) (σ : Sto) (P : Option Value → Sto → Prop) : Prop := Does (d + 0) yX9_addWord cX9_addWord 4 (some .int) av σ P
abbrev m_X9_allPass (d : Nat) (av : List Value) (σ : Sto) (P : Option Value → Sto → Prop) : Prop := Does (d + 4) yX9_allPass cX9_allPass 3 (some .boolean) av σ P
abbrev m_X9_alone (d : Nat) (av : List Value) (σ : Sto) (P : Option Value → Sto → Prop) : Prop := Does (d + 6) yX9_alone cX9_alone 8 (some .long) av σ P
abbrev m_X9_areShelves (d : Nat) (av : List Value) (σ : Sto) (P : Option Value → Sto → Prop) : Prop := Does (d + 2) yX9_areShelves cX9_areShelves 1 (some .boolean) av σ P
abbrev m_X9_at (d : Nat) (av : List Value) (σ : Sto) (P : Option Value → Sto → Prop) : Prop := Does (d + 0) yX9_at cX9_at 3 (some .int) av σ P
abbrev m_X9_back (d : Nat) (av : List Value) (σ : Sto) (P : Option Value → Sto → Prop) : Prop := Does (d + 0) yX9_back cX9_back 2 (some .int) av σ P
abbrev m_X9_barbStays (d : Nat) (av : List Value) (σ : Sto) (P : Option Value → Sto → Prop) : Prop := Does (d + 5) yX9_barbStays cX9_barbStays 3 (some .int) av σ P
abbrev m_X9_between (d : Nat) (av : List Value) (σ : Sto) (P : Option Value → Sto → Prop) : Prop := Does (d + 7) yX9_between cX9_between 7 (some .int) av σ P
abbrev m_X9_bitsOf (d : Nat) (av : List Value) (σ : Sto) (P : Option Value → Sto → Prop) : Prop := Does (d + 0) yX9_bitsOf cX9_bitsOf 3 (some .int) av σ P
abbrev m_X9_body (d : Nat) (av : List Value) (σ : Sto) (P : Option Value → Sto → Prop) : Prop := Does (d + 1) yX9_body cX9_body 2 (some .int) av σ P
abbrev m_X9_both (d : Nat) (av : List Value) (σ : Sto) (P : Option Value → Sto → Prop) : Prop := Does (d + 6) yX9_both cX9_both 1 none av σ P
abbrev m_X9_bothFault (d : Nat) (av : List Value) (σ : Sto) (P : Option Value → Sto → Prop) : Prop := Does (d + 1) yX9_bothFault cX9_bothFault 2 (some .int) av σ P
abbrev m_X9_changes (d : Nat) (av : List Value) (σ : Sto) (P : Option Value → Sto → Prop) : Prop := Does (d + 1) yX9_changes cX9_changes 6 (some .int) av σ P
abbrev m_X9_changesNothing (d : Nat) (av : List Value) (σ : Sto) (P : Option Value → Sto → Prop) : Prop := Does (d + 6) yX9_changesNothing cX9_changesNothing 6 (some .boolean) av σ P
abbrev m_X9_comes (d : Nat) (av : List Value) (σ : Sto) (P : Option Value → Sto → Prop) : Prop := Does (d + 5) yX9_comes cX9_comes 4 (some .boolean) av σ P
abbrev m_X9_comesOf (d : Nat) (av : List Value) (σ : Sto) (P : Option Value → Sto → Prop) : Prop := Does (d + 0) yX9_comesOf cX9_comesOf 3 (some .boolean) av σ P
abbrev m_X9_compared (d : Nat) (av : List Value) (σ : Sto) (P : Option Value → Sto → Prop) : Prop := Does (d + 5) yX9_compared cX9_compared 2 none av σ P
abbrev m_X9_complimentHurts (d : Nat) (av : List Value) (σ : Sto) (P : Option Value → Sto → Prop) : Prop := Does (d + 2) yX9_complimentHurts cX9_complimentHurts 3 (some .int) av σ P
abbrev m_X9_count (d : Nat) (av : List Value) (σ : Sto) (P : Option Value → Sto → Prop) : Prop := Does (d + 0) yX9_count cX9_count 2 (some .int) av σ P
abbrev m_X9_drawn (d : Nat) (av : List Value) (σ : Sto) (P : Option Value → Sto → Prop) : Prop := Does (d + 6) yX9_drawn cX9_drawn 12 (some .int) av σ P
abbrev m_X9_either (d : Nat) (av : List Value) (σ : Sto) (P : Option Value → Sto → Prop) : Prop := Does (d + 1) yX9_either cX9_either 1 none av σ P
abbrev m_X9_element (d : Nat) (av : List Value) (σ : Sto) (P : Option Value → Sto → Prop) : Prop := Does (d + 3) yX9_element cX9_element 3 (some .long) av σ P
abbrev m_X9_feed (d : Nat) (av : List Value) (σ : Sto) (P : Option Value → Sto → Prop) : Prop := Does (d + 1) yX9_feed cX9_feed 2 (some .int) av σ P
abbrev m_X9_figure (d : Nat) (av : List Value) (σ : Sto) (P : Option Value → Sto → Prop) : Prop := Does (d + 1) yX9_figure cX9_figure 3 none av σ P
abbrev m_X9_findSaid (d : Nat) (av : List Value) (σ : Sto) (P : Option Value → Sto → Prop) : Prop := Does (d + 6) yX9_findSaid cX9_findSaid 6 none av σ P
abbrev m_X9_findSay (d : Nat) (av : List Value) (σ : Sto) (P : Option Value → Sto → Prop) : Prop := Does (d + 6) yX9_findSay cX9_findSay 7 (some .boolean) av σ P
abbrev m_X9_finest (d : Nat) (av : List Value) (σ : Sto) (P : Option Value → Sto → Prop) : Prop := Does (d + 5) yX9_finest cX9_finest 4 (some .int) av σ P
abbrev m_X9_game (d : Nat) (av : List Value) (σ : Sto) (P : Option Value → Sto → Prop) : Prop := Does (d + 7) yX9_game cX9_game 4 (some .int) av σ P
abbrev m_X9_gives (d : Nat) (av : List Value) (σ : Sto) (P : Option Value → Sto → Prop) : Prop := Does (d + 2) yX9_gives cX9_gives 4 (some .int) av σ P
abbrev m_X9_goFine (d : Nat) (av : List Value) (σ : Sto) (P : Option Value → Sto → Prop) : Prop := Does (d + 4) yX9_goFine cX9_goFine 3 none av σ P
abbrev m_X9_goThrough (d : Nat) (av : List Value) (σ : Sto) (P : Option Value → Sto → Prop) : Prop := Does (d + 5) yX9_goThrough cX9_goThrough 5 none av σ P
abbrev m_X9_harmLeft (d : Nat) (av : List Value) (σ : Sto) (P : Option Value → Sto → Prop) : Prop := Does (d + 0) yX9_harmLeft cX9_harmLeft 3 (some .int) av σ P
abbrev m_X9_harmOf (d : Nat) (av : List Value) (σ : Sto) (P : Option Value → Sto → Prop) : Prop := Does (d + 0) yX9_harmOf cX9_harmOf 4 (some .int) av σ P
abbrev m_X9_howFine (d : Nat) (av : List Value) (σ : Sto) (P : Option Value → Sto → Prop) : Prop := Does (d + 5) yX9_howFine cX9_howFine 7 (some .int) av σ P
abbrev m_X9_hurtBy (d : Nat) (av : List Value) (σ : Sto) (P : Option Value → Sto → Prop) : Prop := Does (d + 0) yX9_hurtBy cX9_hurtBy 7 (some .int) av σ P
abbrev m_X9_hurting (d : Nat) (av : List Value) (σ : Sto) (P : Option Value → Sto → Prop) : Prop := Does (d + 4) yX9_hurting cX9_hurting 4 (some .int) av σ P
abbrev m_X9_image (d : Nat) (av : List Value) (σ : Sto) (P : Option Value → Sto → Prop) : Prop := Does (d + 0) yX9_image cX9_image 2 (some .int) av σ P
abbrev m_X9_in (d : Nat) (av : List Value) (σ : Sto) (P : Option Value → Sto → Prop) : Prop := Does (d + 0) yX9_in cX9_in 3 (some .boolean) av σ P
abbrev m_X9_isBody (d : Nat) (av : List Value) (σ : Sto) (P : Option Value → Sto → Prop) : Prop := Does (d + 1) yX9_isBody cX9_isBody 2 (some .boolean) av σ P
abbrev m_X9_isMesh (d : Nat) (av : List Value) (σ : Sto) (P : Option Value → Sto → Prop) : Prop := Does (d + 1) yX9_isMesh cX9_isMesh 2 (some .boolean) av σ P
abbrev m_X9_isMeshOrNone (d : Nat) (av : List Value) (σ : Sto) (P : Option Value → Sto → Prop) : Prop := Does (d + 1) yX9_isMeshOrNone cX9_isMeshOrNone 2 (some .boolean) av σ P
abbrev m_X9_isMuch (d : Nat) (av : List Value) (σ : Sto) (P : Option Value → Sto → Prop) : Prop := Does (d + 0) yX9_isMuch cX9_isMuch 1 (some .boolean) av σ P
abbrev m_X9_isOne (d : Nat) (av : List Value) (σ : Sto) (P : Option Value → Sto → Prop) : Prop := Does (d + 2) yX9_isOne cX9_isOne 3 (some .boolean) av σ P
abbrev m_X9_isShelf (d : Nat) (av : List Value) (σ : Sto) (P : Option Value → Sto → Prop) : Prop := Does (d + 1) yX9_isShelf cX9_isShelf 1 (some .boolean) av σ P
abbrev m_X9_isUnder (d : Nat) (av : List Value) (σ : Sto) (P : Option Value → Sto → Prop) : Prop := Does (d + 0) yX9_isUnder cX9_isUnder 2 (some .boolean) av σ P
abbrev m_X9_isWord (d : Nat) (av : List Value) (σ : Sto) (P : Option Value → Sto → Prop) : Prop := Does (d + 1) yX9_isWord cX9_isWord 2 (some .boolean) av σ P
abbrev m_X9_justComes (d : Nat) (av : List Value) (σ : Sto) (P : Option Value → Sto → Prop) : Prop := Does (d + 0) yX9_justComes cX9_justComes 2 (some .boolean) av σ P
abbrev m_X9_keep (d : Nat) (av : List Value) (σ : Sto) (P : Option Value → Sto → Prop) : Prop := Does (d + 2) yX9_keep cX9_keep 3 (some .int) av σ P
abbrev m_X9_keeps (d : Nat) (av : List Value) (σ : Sto) (P : Option Value → Sto → Prop) : Prop := Does (d + 6) yX9_keeps cX9_keeps 4 (some .int) av σ P
abbrev m_X9_keepsBy (d : Nat) (av : List Value) (σ : Sto) (P : Option Value → Sto → Prop) : Prop := Does (d + 5) yX9_keepsBy cX9_keepsBy 4 (some .boolean) av σ P
abbrev m_X9_law (d : Nat) (av : List Value) (σ : Sto) (P : Option Value → Sto → Prop) : Prop := Does (d + 4) yX9_law cX9_law 2 (some .int) av σ P
abbrev m_X9_layBoth (d : Nat) (av : List Value) (σ : Sto) (P : Option Value → Sto → Prop) : Prop := Does (d + 4) yX9_layBoth cX9_layBoth 3 none av σ P
abbrev m_X9_layRow (d : Nat) (av : List Value) (σ : Sto) (P : Option Value → Sto → Prop) : Prop := Does (d + 3) yX9_layRow cX9_layRow 3 none av σ P
abbrev m_X9_laySaying (d : Nat) (av : List Value) (σ : Sto) (P : Option Value → Sto → Prop) : Prop := Does (d + 2) yX9_laySaying cX9_laySaying 2 none av σ P
abbrev m_X9_laySet (d : Nat) (av : List Value) (σ : Sto) (P : Option Value → Sto → Prop) : Prop := Does (d + 0) yX9_laySet cX9_laySet 3 none av σ P
abbrev m_X9_lays (d : Nat) (av : List Value) (σ : Sto) (P : Option Value → Sto → Prop) : Prop := Does (d + 0) yX9_lays cX9_lays 4 none av σ P
abbrev m_X9_leastLost (d : Nat) (av : List Value) (σ : Sto) (P : Option Value → Sto → Prop) : Prop := Does (d + 6) yX9_leastLost cX9_leastLost 8 (some .int) av σ P
abbrev m_X9_led (d : Nat) (av : List Value) (σ : Sto) (P : Option Value → Sto → Prop) : Prop := Does (d + 1) yX9_led cX9_led 2 (some .int) av σ P
abbrev m_X9_leftAt (d : Nat) (av : List Value) (σ : Sto) (P : Option Value → Sto → Prop) : Prop := Does (d + 5) yX9_leftAt cX9_leftAt 6 (some .int) av σ P
abbrev m_X9_lets (d : Nat) (av : List Value) (σ : Sto) (P : Option Value → Sto → Prop) : Prop := Does (d + 5) yX9_lets cX9_lets 3 (some .int) av σ P
abbrev m_X9_likely (d : Nat) (av : List Value) (σ : Sto) (P : Option Value → Sto → Prop) : Prop := Does (d + 6) yX9_likely cX9_likely 6 (some .long) av σ P
abbrev m_X9_line (d : Nat) (av : List Value) (σ : Sto) (P : Option Value → Sto → Prop) : Prop := Does (d + 2) yX9_line cX9_line 2 none av σ P
abbrev m_X9_look (d : Nat) (av : List Value) (σ : Sto) (P : Option Value → Sto → Prop) : Prop := Does (d + 0) yX9_look cX9_look 1 (some .int) av σ P
abbrev m_X9_lowest (d : Nat) (av : List Value) (σ : Sto) (P : Option Value → Sto → Prop) : Prop := Does (d + 0) yX9_lowest cX9_lowest 11 (some .long) av σ P
abbrev m_X9_maidPasses (d : Nat) (av : List Value) (σ : Sto) (P : Option Value → Sto → Prop) : Prop := Does (d + 2) yX9_maidPasses cX9_maidPasses 3 (some .int) av σ P
abbrev m_X9_makesSense (d : Nat) (av : List Value) (σ : Sto) (P : Option Value → Sto → Prop) : Prop := Does (d + 0) yX9_makesSense cX9_makesSense 2 (some .boolean) av σ P
abbrev m_X9_mayHave (d : Nat) (av : List Value) (σ : Sto) (P : Option Value → Sto → Prop) : Prop := Does (d + 1) yX9_mayHave cX9_mayHave 2 (some .boolean) av σ P
abbrev m_X9_mayPlay (d : Nat) (av : List Value) (σ : Sto) (P : Option Value → Sto → Prop) : Prop := Does (d + 5) yX9_mayPlay cX9_mayPlay 4 (some .boolean) av σ P
abbrev m_X9_maySay (d : Nat) (av : List Value) (σ : Sto) (P : Option Value → Sto → Prop) : Prop := Does (d + 5) yX9_maySay cX9_maySay 6 (some .boolean) av σ P
abbrev m_X9_meant (d : Nat) (av : List Value) (σ : Sto) (P : Option Value → Sto → Prop) : Prop := Does (d + 6) yX9_meant cX9_meant 10 (some .int) av σ P
abbrev m_X9_mend (d : Nat) (av : List Value) (σ : Sto) (P : Option Value → Sto → Prop) : Prop := Does (d + 3) yX9_mend cX9_mend 4 (some .int) av σ P
abbrev m_X9_mesh (d : Nat) (av : List Value) (σ : Sto) (P : Option Value → Sto → Prop) : Prop := Does (d + 1) yX9_mesh cX9_mesh 2 (some .int) av σ P
abbrev m_X9_most (d : Nat) (av : List Value) (σ : Sto) (P : Option Value → Sto → Prop) : Prop := Does (d + 1) yX9_most cX9_most 4 (some .int) av σ P
abbrev m_X9_nameOf (d : Nat) (av : List Value) (σ : Sto) (P : Option Value → Sto → Prop) : Prop := Does (d + 0) yX9_nameOf cX9_nameOf 1 (some .int) av σ P
abbrev m_X9_nth (d : Nat) (av : List Value) (σ : Sto) (P : Option Value → Sto → Prop) : Prop := Does (d + 6) yX9_nth cX9_nth 6 (some .int) av σ P
abbrev m_X9_of (d : Nat) (av : List Value) (σ : Sto) (P : Option Value → Sto → Prop) : Prop := Does (d + 3) yX9_of cX9_of 3 (some .int) av σ P
abbrev m_X9_opens (d : Nat) (av : List Value) (σ : Sto) (P : Option Value → Sto → Prop) : Prop := Does (d + 1) yX9_opens cX9_opens 1 (some .boolean) av σ P
abbrev m_X9_operand (d : Nat) (av : List Value) (σ : Sto) (P : Option Value → Sto → Prop) : Prop := Does (d + 2) yX9_operand cX9_operand 2 none av σ P
abbrev m_X9_passes (d : Nat) (av : List Value) (σ : Sto) (P : Option Value → Sto → Prop) : Prop := Does (d + 4) yX9_passes cX9_passes 5 (some .boolean) av σ P
abbrev m_X9_passesBy (d : Nat) (av : List Value) (σ : Sto) (P : Option Value → Sto → Prop) : Prop := Does (d + 3) yX9_passesBy cX9_passesBy 5 (some .boolean) av σ P
abbrev m_X9_passing (d : Nat) (av : List Value) (σ : Sto) (P : Option Value → Sto → Prop) : Prop := Does (d + 3) yX9_passing cX9_passing 3 (some .int) av σ P
abbrev m_X9_person (d : Nat) (av : List Value) (σ : Sto) (P : Option Value → Sto → Prop) : Prop := Does (d + 1) yX9_person cX9_person 2 (some .int) av σ P
abbrev m_X9_plainHurts (d : Nat) (av : List Value) (σ : Sto) (P : Option Value → Sto → Prop) : Prop := Does (d + 1) yX9_plainHurts cX9_plainHurts 3 (some .int) av σ P
abbrev m_X9_plainPasses (d : Nat) (av : List Value) (σ : Sto) (P : Option Value → Sto → Prop) : Prop := Does (d + 1) yX9_plainPasses cX9_plainPasses 3 (some .int) av σ P
abbrev m_X9_plainStays (d : Nat) (av : List Value) (σ : Sto) (P : Option Value → Sto → Prop) : Prop := Does (d + 4) yX9_plainStays cX9_plainStays 3 (some .int) av σ P
abbrev m_X9_plainTells (d : Nat) (av : List Value) (σ : Sto) (P : Option Value → Sto → Prop) : Prop := Does (d + 7) yX9_plainTells cX9_plainTells 4 (some .int) av σ P
abbrev m_X9_playedMany (d : Nat) (av : List Value) (σ : Sto) (P : Option Value → Sto → Prop) : Prop := Does (d + 0) yX9_playedMany cX9_playedMany 1 (some .int) av σ P
abbrev m_X9_product (d : Nat) (av : List Value) (σ : Sto) (P : Option Value → Sto → Prop) : Prop := Does (d + 3) yX9_product cX9_product 2 none av σ P
abbrev m_X9_put (d : Nat) (av : List Value) (σ : Sto) (P : Option Value → Sto → Prop) : Prop := Does (d + 3) yX9_put cX9_put 7 (some .int) av σ P
abbrev m_X9_ran (d : Nat) (av : List Value) (σ : Sto) (P : Option Value → Sto → Prop) : Prop := Does (d + 0) yX9_ran cX9_ran 2 none av σ P
abbrev m_X9_readText (d : Nat) (av : List Value) (σ : Sto) (P : Option Value → Sto → Prop) : Prop := Does (d + 3) yX9_readText cX9_readText 3 (some .int) av σ P
abbrev m_X9_redo (d : Nat) (av : List Value) (σ : Sto) (P : Option Value → Sto → Prop) : Prop := Does (d + 1) yX9_redo cX9_redo 1 (some .int) av σ P
abbrev m_X9_rinse (d : Nat) (av : List Value) (σ : Sto) (P : Option Value → Sto → Prop) : Prop := Does (d + 2) yX9_rinse cX9_rinse 3 (some .int) av σ P
abbrev m_X9_row (d : Nat) (av : List Value) (σ : Sto) (P : Option Value → Sto → Prop) : Prop := Does (d + 2) yX9_row cX9_row 5 (some .int) av σ P
abbrev m_X9_rowFault (d : Nat) (av : List Value) (σ : Sto) (P : Option Value → Sto → Prop) : Prop := Does (d + 0) yX9_rowFault cX9_rowFault 2 (some .int) av σ P
abbrev m_X9_said (d : Nat) (av : List Value) (σ : Sto) (P : Option Value → Sto → Prop) : Prop := Does (d + 7) yX9_said cX9_said 3 (some .long) av σ P
abbrev m_X9_saidAt (d : Nat) (av : List Value) (σ : Sto) (P : Option Value → Sto → Prop) : Prop := Does (d + 7) yX9_saidAt cX9_saidAt 11 (some .int) av σ P
abbrev m_X9_say (d : Nat) (av : List Value) (σ : Sto) (P : Option Value → Sto → Prop) : Prop := Does (d + 7) yX9_say cX9_say 6 (some .int) av σ P
abbrev m_X9_saysAt (d : Nat) (av : List Value) (σ : Sto) (P : Option Value → Sto → Prop) : Prop := Does (d + 6) yX9_saysAt cX9_saysAt 6 (some .int) av σ P
abbrev m_X9_several (d : Nat) (av : List Value) (σ : Sto) (P : Option Value → Sto → Prop) : Prop := Does (d + 6) yX9_several cX9_several 8 (some .int) av σ P
abbrev m_X9_shift (d : Nat) (av : List Value) (σ : Sto) (P : Option Value → Sto → Prop) : Prop := Does (d + 2) yX9_shift cX9_shift 7 (some .int) av σ P
abbrev m_X9_speak (d : Nat) (av : List Value) (σ : Sto) (P : Option Value → Sto → Prop) : Prop := Does (d + 6) yX9_speak cX9_speak 4 (some .int) av σ P
abbrev m_X9_staying (d : Nat) (av : List Value) (σ : Sto) (P : Option Value → Sto → Prop) : Prop := Does (d + 6) yX9_staying cX9_staying 4 (some .int) av σ P
abbrev m_X9_stays (d : Nat) (av : List Value) (σ : Sto) (P : Option Value → Sto → Prop) : Prop := Does (d + 5) yX9_stays cX9_stays 4 (some .boolean) av σ P
abbrev m_X9_sum (d : Nat) (av : List Value) (σ : Sto) (P : Option Value → Sto → Prop) : Prop := Does (d + 4) yX9_sum cX9_sum 2 none av σ P
abbrev m_X9_taken (d : Nat) (av : List Value) (σ : Sto) (P : Option Value → Sto → Prop) : Prop := Does (d + 2) yX9_taken cX9_taken 3 (some .int) av σ P
abbrev m_X9_telling (d : Nat) (av : List Value) (σ : Sto) (P : Option Value → Sto → Prop) : Prop := Does (d + 8) yX9_telling cX9_telling 3 (some .int) av σ P
abbrev m_X9_through (d : Nat) (av : List Value) (σ : Sto) (P : Option Value → Sto → Prop) : Prop := Does (d + 6) yX9_through cX9_through 5 (some .int) av σ P
abbrev m_X9_trace (d : Nat) (av : List Value) (σ : Sto) (P : Option Value → Sto → Prop) : Prop := Does (d + 0) yX9_trace cX9_trace 2 (some .int) av σ P
abbrev m_X9_twoOf (d : Nat) (av : List Value) (σ : Sto) (P : Option Value → Sto → Prop) : Prop := Does (d + 0) yX9_twoOf cX9_twoOf 3 (some .int) av σ P
abbrev m_X9_undo (d : Nat) (av : List Value) (σ : Sto) (P : Option Value → Sto → Prop) : Prop := Does (d + 1) yX9_undo cX9_undo 1 (some .int) av σ P
abbrev m_X9_valueAt (d : Nat) (av : List Value) (σ : Sto) (P : Option Value → Sto → Prop) : Prop := Does (d + 0) yX9_valueAt cX9_valueAt 3 (some .int) av σ P
abbrev m_X9_wayAt (d : Nat) (av : List Value) (σ : Sto) (P : Option Value → Sto → Prop) : Prop := Does (d + 0) yX9_wayAt cX9_wayAt 3 (some .long) av σ P
abbrev m_X9_whyNoPlace (d : Nat) (av : List Value) (σ : Sto) (P : Option Value → Sto → Prop) : Prop := Does (d + 2) yX9_whyNoPlace cX9_whyNoPlace 3 (some .int) av σ P
abbrev m_X9_winningWord (d : Nat) (av : List Value) (σ : Sto) (P : Option Value → Sto → Prop) : Prop := Does (d + 6) yX9_winningWord cX9_winningWord 4 (some .int) av σ P
abbrev m_X9_word (d : Nat) (av : List Value) (σ : Sto) (P : Option Value → Sto → Prop) : Prop := Does (d + 1) yX9_word cX9_word 3 (some .int) av σ P
abbrev m_X9_words (d : Nat) (av : List Value) (σ : Sto) (P : Option Value → Sto → Prop) : Prop := Does (d + 2) yX9_words cX9_words 8 (some .int) av σ P
abbrev m_X9_worked (d : Nat) (av : List Value) (σ : Sto) (P : Option Value → Sto → Prop) : Prop := Does (d + 1) yX9_worked cX9_worked 7 (some .int) av σ P
abbrev m_X9_wrong (d : Nat) (av : List Value) (σ : Sto) (P : Option Value → Sto → Prop) : Prop := Does (d + 0) yX9_wrong cX9_wrong 1 none av σ P
