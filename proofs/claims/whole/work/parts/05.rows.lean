/-! ===== numbers ===== -/
theorem z_toInt {a : Int} (h : inR a) : (Int32.ofInt a).toInt = a := Int32.toInt_ofInt_of_le (by omega) (by omega)
theorem z_toIntJ {a : Int} (h : inJ a) : (Int64.ofInt a).toInt = a := Int64.toInt_ofInt_of_le (by omega) (by omega)
theorem z_eq {a b : Int} (ha : inR a) (hb : inR b) : Int32.ofInt a = Int32.ofInt b ↔ a = b := by rw [← Int32.toInt_inj, z_toInt ha, z_toInt hb]
theorem z_lt {a b : Int} (ha : inR a) (hb : inR b) : Int32.ofInt a < Int32.ofInt b ↔ a < b := by rw [Int32.lt_iff_toInt_lt, z_toInt ha, z_toInt hb]
theorem z_le {a b : Int} (ha : inR a) (hb : inR b) : Int32.ofInt a ≤ Int32.ofInt b ↔ a ≤ b := by rw [Int32.le_iff_toInt_le, z_toInt ha, z_toInt hb]
theorem z_eqJ {a b : Int} (ha : inJ a) (hb : inJ b) : Int64.ofInt a = Int64.ofInt b ↔ a = b := by rw [← Int64.toInt_inj, z_toIntJ ha, z_toIntJ hb]
theorem z_ltJ {a b : Int} (ha : inJ a) (hb : inJ b) : Int64.ofInt a < Int64.ofInt b ↔ a < b := by rw [Int64.lt_iff_toInt_lt, z_toIntJ ha, z_toIntJ hb]
theorem z_ne0 {b : Int} (hb : inR b) (h : b ≠ 0) : ¬ Int32.ofInt b = 0 := fun q => h ((z_eq hb (show inR 0 from ⟨by decide, by decide⟩)).mp q)
theorem z_ne0J {b : Int} (hb : inJ b) (h : b ≠ 0) : ¬ Int64.ofInt b = 0 := fun q => h ((z_eqJ hb (show inJ 0 from ⟨by decide, by decide⟩)).mp q)
theorem z_div {a b : Int} (ha : inR a) (hb : inR b) : Int32.ofInt a / Int32.ofInt b = Int32.ofInt (a.tdiv b) := (Int32.ofInt_tdiv ha.1 ha.2 hb.1 hb.2).symm
theorem z_divJ {a b : Int} (ha : inJ a) (hb : inJ b) : Int64.ofInt a / Int64.ofInt b = Int64.ofInt (a.tdiv b) := (Int64.ofInt_tdiv ha.1 ha.2 hb.1 hb.2).symm
theorem z_rem {a b : Int} (ha : inR a) (hb : inR b) : Int32.ofInt a - Int32.ofInt a / Int32.ofInt b * Int32.ofInt b = Int32.ofInt (a.tmod b) := by
  rw [z_div ha hb, ← Int32.ofInt_mul, ← Int32.ofInt_sub]
  congr 1
  have := Int.tmod_add_mul_tdiv a b
  rw [Int.mul_comm] at this
  omega
theorem z_remJ {a b : Int} (ha : inJ a) (hb : inJ b) : Int64.ofInt a - Int64.ofInt a / Int64.ofInt b * Int64.ofInt b = Int64.ofInt (a.tmod b) := by
  rw [z_divJ ha hb, ← Int64.ofInt_mul, ← Int64.ofInt_sub]
  congr 1
  have := Int.tmod_add_mul_tdiv a b
  rw [Int.mul_comm] at this
  omega
theorem z_i2lN {a : Int} (ha : inR a) : (Int32.ofInt a).toInt64 = Int64.ofInt a := Int32.toInt64_ofInt ha.1 ha.2
def z_iandF (a b : Int) : Int := (Int32.ofInt a &&& Int32.ofInt b).toInt
def z_iorF (a b : Int) : Int := (Int32.ofInt a ||| Int32.ofInt b).toInt
def z_ixorF (a b : Int) : Int := (Int32.ofInt a ^^^ Int32.ofInt b).toInt
def z_ishlF (a b : Int) : Int := (Int32.ofInt a <<< (Int32.ofInt b &&& 31)).toInt
def z_ishrF (a b : Int) : Int := (Int32.ofInt a >>> (Int32.ofInt b &&& 31)).toInt
def z_iushrF (a b : Int) : Int := ((Int32.ofInt a).toUInt32 >>> ((Int32.ofInt b).toUInt32 &&& Int32.toUInt32 31)).toInt32.toInt
def z_landF (a b : Int) : Int := (Int64.ofInt a &&& Int64.ofInt b).toInt
def z_lorF (a b : Int) : Int := (Int64.ofInt a ||| Int64.ofInt b).toInt
def z_lshlF (a b : Int) : Int := (Int64.ofInt a <<< ((Int32.ofInt b).toInt64 &&& 63)).toInt
def z_i2bF (a : Int) : Int := (Int32.ofInt a).toInt8.toInt32.toInt
def z_i2sF (a : Int) : Int := (Int32.ofInt a).toInt16.toInt32.toInt
def z_lcmpF (a b : Int) : Int := if b < a then 1 else if a = b then 0 else -1
theorem z_lcmpN {a b : Int} (ha : inJ a) (hb : inJ b) : lg_cmp (Int64.ofInt a) (Int64.ofInt b) = Int32.ofInt (z_lcmpF a b) := by
  unfold lg_cmp z_lcmpF
  by_cases h : b < a
  · rw [if_pos ((z_ltJ hb ha).mpr h), if_pos h]; rfl
  · rw [if_neg (fun q => h ((z_ltJ hb ha).mp q)), if_neg h]
    by_cases h2 : a = b
    · rw [if_pos ((z_eqJ ha hb).mpr h2), if_pos h2]; rfl
    · rw [if_neg (fun q => h2 ((z_eqJ ha hb).mp q)), if_neg h2]; rfl
theorem z_rng (x : Int32) : inR x.toInt := ⟨by have := Int32.le_toInt x; omega, by have := Int32.toInt_lt x; omega⟩
theorem z_iR {a : Int} : inR a → Int32.ofInt a = Int32.ofInt a := fun _ => rfl
/-! ===== locals ===== -/
theorem z_plf_mem (adr : Nat → Nat) : ∀ (L : List (Option Value)) (o i : Nat) (v : Value), L[i]? = some (some v) → (o + i, z_emb adr v) ∈ z_plf adr o L
  | [], o, i, v, h => by simp at h
  | none :: l, o, 0, v, h => by simp at h
  | some w :: l, o, 0, v, h => by
    simp at h
    subst h
    exact List.mem_cons_self
  | none :: l, o, i + 1, v, h => by
    have := z_plf_mem adr l (o + 1) i v (by simpa using h)
    rw [show o + (i + 1) = o + 1 + i by omega]
    exact this
  | some w :: l, o, i + 1, v, h => by
    have := z_plf_mem adr l (o + 1) i v (by simpa using h)
    rw [show o + (i + 1) = o + 1 + i by omega]
    exact List.mem_cons_of_mem _ this
theorem z_plf_of (adr : Nat → Nat) : ∀ (L : List (Option Value)) (o : Nat) (q : Nat × Value), q ∈ z_plf adr o L → ∃ i v, L[i]? = some (some v) ∧ q = (o + i, z_emb adr v)
  | [], o, q, h => absurd h List.not_mem_nil
  | none :: l, o, q, h => by
    obtain ⟨i, v, h1, h2⟩ := z_plf_of adr l (o + 1) q h
    exact ⟨i + 1, v, by simpa using h1, by rw [h2]; congr 1; omega⟩
  | some w :: l, o, q, h => by
    rcases List.mem_cons.mp h with rfl | h
    · exact ⟨0, w, rfl, rfl⟩
    · obtain ⟨i, v, h1, h2⟩ := z_plf_of adr l (o + 1) q h
      exact ⟨i + 1, v, by simpa using h1, by rw [h2]; congr 1; omega⟩
theorem z_mem {L : List (Option Value)} {i : Nat} {v : Value} (h : L[i]? = some (some v)) (adr : Nat → Nat) : (i, z_emb adr v) ∈ z_plf adr 0 L := by
  have := z_plf_mem adr L 0 i v h
  rwa [Nat.zero_add] at this
theorem z_at {ls : Array Slot} {nL i : Nat} {adr : Nat → Nat} {L : List (Option Value)} {v : Value} (hl : lv_has ls nL (z_plf adr 0 L)) (h : L[i]? = some (some v)) : ls[i]? = some (.val (z_emb adr v)) := hl.2.2 _ (z_mem h adr)
def z_nl (L : List (Option Value)) (i : Nat) : Bool := match i with
  | 0 => true
  | j + 1 => match L[j]? with
    | some (some v) => v.category == 1
    | _ => true
theorem z_nl_of {L : List (Option Value)} {i j : Nat} {v : Value} (h : z_nl L i = true) (hj : j + 1 = i) (hv : L[j]? = some (some v)) : ¬ v.category = 2 := by
  subst hj
  simp only [z_nl, hv, beq_iff_eq] at h
  omega
theorem lv_has_mono {ls : Array Slot} {nL : Nat} {l l' : List (Nat × Value)} (h : lv_has ls nL l) (hs : ∀ q ∈ l', q ∈ l) : lv_has ls nL l' := ⟨h.1, h.2.1, fun q hq => h.2.2 q (hs q hq)⟩
theorem z_st1 {ls : Array Slot} {nL i : Nat} {adr : Nat → Nat} {L : List (Option Value)} {v : Value} (hl : lv_has ls nL ((i, z_emb adr v) :: (z_plf adr 0 L).filter (fun q => !(q.1 == i) && !(q.1 + 1 == i && q.2.category == 2)))) (hq : z_nl L i = true) : lv_has ls nL (z_plf adr 0 (L.set i (some v))) := by
  refine lv_has_mono hl (fun q h => ?_)
  obtain ⟨j, w, h1, rfl⟩ := z_plf_of adr _ 0 q h
  rw [Nat.zero_add]
  by_cases hj : j = i
  · subst hj
    have hlt := (List.getElem?_eq_some_iff.mp h1).1
    rw [List.length_set] at hlt
    rw [List.getElem?_set_self hlt] at h1
    cases h1
    exact List.mem_cons_self
  · rw [List.getElem?_set_ne (fun z => hj z.symm)] at h1
    refine List.mem_cons_of_mem _ (List.mem_filter.mpr ⟨z_mem h1 adr, ?_⟩)
    simp only [Bool.and_eq_true, Bool.not_eq_true', beq_eq_false_iff_ne, ne_eq, Bool.and_eq_false_iff, z_emb_cat]
    refine ⟨hj, ?_⟩
    by_cases h2 : j + 1 = i
    · exact Or.inr (z_nl_of hq h2 h1)
    · exact Or.inl h2
theorem z_st2 {ls : Array Slot} {nL i : Nat} {adr : Nat → Nat} {L : List (Option Value)} {v : Value} (hl : lv_has ls nL ((i, z_emb adr v) :: (z_plf adr 0 L).filter (fun q => !(q.1 == i) && (!(q.1 == i + 1) && !(q.1 + 1 == i && q.2.category == 2))))) (hq : z_nl L i = true) : lv_has ls nL (z_plf adr 0 ((L.set i (some v)).set (i + 1) none)) := by
  refine lv_has_mono hl (fun q h => ?_)
  obtain ⟨j, w, h1, rfl⟩ := z_plf_of adr _ 0 q h
  rw [Nat.zero_add]
  by_cases hj1 : j = i + 1
  · subst hj1
    have hlt := (List.getElem?_eq_some_iff.mp h1).1
    rw [List.length_set] at hlt
    rw [List.getElem?_set_self hlt] at h1
    cases h1
  · rw [List.getElem?_set_ne (fun z => hj1 z.symm)] at h1
    by_cases hj : j = i
    · subst hj
      have hlt := (List.getElem?_eq_some_iff.mp h1).1
      rw [List.length_set] at hlt
      rw [List.getElem?_set_self hlt] at h1
      cases h1
      exact List.mem_cons_self
    · rw [List.getElem?_set_ne (fun z => hj z.symm)] at h1
      refine List.mem_cons_of_mem _ (List.mem_filter.mpr ⟨z_mem h1 adr, ?_⟩)
      simp only [Bool.and_eq_true, Bool.not_eq_true', beq_eq_false_iff_ne, ne_eq, Bool.and_eq_false_iff, z_emb_cat]
      refine ⟨hj, hj1, ?_⟩
      by_cases h2 : j + 1 = i
      · exact Or.inr (z_nl_of hq h2 h1)
      · exact Or.inl h2
/-! ===== the rows ===== -/
theorem z_iadd {M : z_M} {pc : Nat} {L : List (Option Value)} {st : List Value} {σ : Sto} {a b : Int} (hd : decode M.1 pc = .ok (.iadd, 1))  (k : Z M (pc + 1) L (zI (a + b) :: st) σ) : Z M pc L (zI b :: zI a :: st) σ := by
  rintro ⟨p, l, e, R, s, m, args, below, meth, c, adr, D, aC, A, cells, slots, Fin⟩ hm hf H locs ls hw hl
  obtain ⟨hx, hb, hml, hown, hts, hK, hSt, hA, hAk, hap, hR, hlk, hNs⟩ := id hf
  obtain ⟨hP, hS, hok⟩ := id hw
  have kk : W p l e R s m args below meth c H locs cells slots Fin (F0 m (pc + 1) ls (.int (Int32.ofInt (a + b)) :: st.map (z_emb adr))) := k (p, l, e, R, s, m, args, below, meth, c, adr, D, aC, A, cells, slots, Fin) hm hf H locs ls hw hl
  rw [Int32.ofInt_add] at kk
  show W p l e R s m args below meth c H locs cells slots Fin (F0 m pc ls (.int (Int32.ofInt b) :: .int (Int32.ofInt a) :: st.map (z_emb adr)))
  exact lv_iadd hx hb hd kk

theorem z_isub {M : z_M} {pc : Nat} {L : List (Option Value)} {st : List Value} {σ : Sto} {a b : Int} (hd : decode M.1 pc = .ok (.isub, 1))  (k : Z M (pc + 1) L (zI (a - b) :: st) σ) : Z M pc L (zI b :: zI a :: st) σ := by
  rintro ⟨p, l, e, R, s, m, args, below, meth, c, adr, D, aC, A, cells, slots, Fin⟩ hm hf H locs ls hw hl
  obtain ⟨hx, hb, hml, hown, hts, hK, hSt, hA, hAk, hap, hR, hlk, hNs⟩ := id hf
  obtain ⟨hP, hS, hok⟩ := id hw
  have kk : W p l e R s m args below meth c H locs cells slots Fin (F0 m (pc + 1) ls (.int (Int32.ofInt (a - b)) :: st.map (z_emb adr))) := k (p, l, e, R, s, m, args, below, meth, c, adr, D, aC, A, cells, slots, Fin) hm hf H locs ls hw hl
  rw [Int32.ofInt_sub] at kk
  show W p l e R s m args below meth c H locs cells slots Fin (F0 m pc ls (.int (Int32.ofInt b) :: .int (Int32.ofInt a) :: st.map (z_emb adr)))
  exact lv_isub hx hb hd kk

theorem z_imul {M : z_M} {pc : Nat} {L : List (Option Value)} {st : List Value} {σ : Sto} {a b : Int} (hd : decode M.1 pc = .ok (.imul, 1))  (k : Z M (pc + 1) L (zI (a * b) :: st) σ) : Z M pc L (zI b :: zI a :: st) σ := by
  rintro ⟨p, l, e, R, s, m, args, below, meth, c, adr, D, aC, A, cells, slots, Fin⟩ hm hf H locs ls hw hl
  obtain ⟨hx, hb, hml, hown, hts, hK, hSt, hA, hAk, hap, hR, hlk, hNs⟩ := id hf
  obtain ⟨hP, hS, hok⟩ := id hw
  have kk : W p l e R s m args below meth c H locs cells slots Fin (F0 m (pc + 1) ls (.int (Int32.ofInt (a * b)) :: st.map (z_emb adr))) := k (p, l, e, R, s, m, args, below, meth, c, adr, D, aC, A, cells, slots, Fin) hm hf H locs ls hw hl
  rw [Int32.ofInt_mul] at kk
  show W p l e R s m args below meth c H locs cells slots Fin (F0 m pc ls (.int (Int32.ofInt b) :: .int (Int32.ofInt a) :: st.map (z_emb adr)))
  exact lv_imul hx hb hd kk

theorem z_ineg {M : z_M} {pc : Nat} {L : List (Option Value)} {st : List Value} {σ : Sto} {a : Int} (hd : decode M.1 pc = .ok (.ineg, 1))  (k : Z M (pc + 1) L (zI (-a) :: st) σ) : Z M pc L (zI a :: st) σ := by
  rintro ⟨p, l, e, R, s, m, args, below, meth, c, adr, D, aC, A, cells, slots, Fin⟩ hm hf H locs ls hw hl
  obtain ⟨hx, hb, hml, hown, hts, hK, hSt, hA, hAk, hap, hR, hlk, hNs⟩ := id hf
  obtain ⟨hP, hS, hok⟩ := id hw
  have kk : W p l e R s m args below meth c H locs cells slots Fin (F0 m (pc + 1) ls (.int (Int32.ofInt (-a)) :: st.map (z_emb adr))) := k (p, l, e, R, s, m, args, below, meth, c, adr, D, aC, A, cells, slots, Fin) hm hf H locs ls hw hl
  rw [Int32.ofInt_neg] at kk
  show W p l e R s m args below meth c H locs cells slots Fin (F0 m pc ls (.int (Int32.ofInt a) :: st.map (z_emb adr)))
  exact lv_ineg hx hb hd kk

theorem z_ladd {M : z_M} {pc : Nat} {L : List (Option Value)} {st : List Value} {σ : Sto} {a b : Int} (hd : decode M.1 pc = .ok (.ladd, 1))  (k : Z M (pc + 1) L (zJ (a + b) :: st) σ) : Z M pc L (zJ b :: zJ a :: st) σ := by
  rintro ⟨p, l, e, R, s, m, args, below, meth, c, adr, D, aC, A, cells, slots, Fin⟩ hm hf H locs ls hw hl
  obtain ⟨hx, hb, hml, hown, hts, hK, hSt, hA, hAk, hap, hR, hlk, hNs⟩ := id hf
  obtain ⟨hP, hS, hok⟩ := id hw
  have kk : W p l e R s m args below meth c H locs cells slots Fin (F0 m (pc + 1) ls (.long (Int64.ofInt (a + b)) :: st.map (z_emb adr))) := k (p, l, e, R, s, m, args, below, meth, c, adr, D, aC, A, cells, slots, Fin) hm hf H locs ls hw hl
  rw [Int64.ofInt_add] at kk
  show W p l e R s m args below meth c H locs cells slots Fin (F0 m pc ls (.long (Int64.ofInt b) :: .long (Int64.ofInt a) :: st.map (z_emb adr)))
  exact lv_ladd hx hb hd kk

theorem z_lmul {M : z_M} {pc : Nat} {L : List (Option Value)} {st : List Value} {σ : Sto} {a b : Int} (hd : decode M.1 pc = .ok (.lmul, 1))  (k : Z M (pc + 1) L (zJ (a * b) :: st) σ) : Z M pc L (zJ b :: zJ a :: st) σ := by
  rintro ⟨p, l, e, R, s, m, args, below, meth, c, adr, D, aC, A, cells, slots, Fin⟩ hm hf H locs ls hw hl
  obtain ⟨hx, hb, hml, hown, hts, hK, hSt, hA, hAk, hap, hR, hlk, hNs⟩ := id hf
  obtain ⟨hP, hS, hok⟩ := id hw
  have kk : W p l e R s m args below meth c H locs cells slots Fin (F0 m (pc + 1) ls (.long (Int64.ofInt (a * b)) :: st.map (z_emb adr))) := k (p, l, e, R, s, m, args, below, meth, c, adr, D, aC, A, cells, slots, Fin) hm hf H locs ls hw hl
  rw [Int64.ofInt_mul] at kk
  show W p l e R s m args below meth c H locs cells slots Fin (F0 m pc ls (.long (Int64.ofInt b) :: .long (Int64.ofInt a) :: st.map (z_emb adr)))
  exact lv_lmul hx hb hd kk

theorem z_iand {M : z_M} {pc : Nat} {L : List (Option Value)} {st : List Value} {σ : Sto} {a b : Int} (hd : decode M.1 pc = .ok (.iand, 1))  (k : Z M (pc + 1) L (zI (z_iandF a b) :: st) σ) : Z M pc L (zI b :: zI a :: st) σ := by
  rintro ⟨p, l, e, R, s, m, args, below, meth, c, adr, D, aC, A, cells, slots, Fin⟩ hm hf H locs ls hw hl
  obtain ⟨hx, hb, hml, hown, hts, hK, hSt, hA, hAk, hap, hR, hlk, hNs⟩ := id hf
  obtain ⟨hP, hS, hok⟩ := id hw
  have kk : W p l e R s m args below meth c H locs cells slots Fin (F0 m (pc + 1) ls (.int (Int32.ofInt (z_iandF a b)) :: st.map (z_emb adr))) := k (p, l, e, R, s, m, args, below, meth, c, adr, D, aC, A, cells, slots, Fin) hm hf H locs ls hw hl
  rw [z_iandF, Int32.ofInt_toInt] at kk
  show W p l e R s m args below meth c H locs cells slots Fin (F0 m pc ls (.int (Int32.ofInt b) :: .int (Int32.ofInt a) :: st.map (z_emb adr)))
  exact lv_iand hx hb hd kk

theorem z_ior {M : z_M} {pc : Nat} {L : List (Option Value)} {st : List Value} {σ : Sto} {a b : Int} (hd : decode M.1 pc = .ok (.ior, 1))  (k : Z M (pc + 1) L (zI (z_iorF a b) :: st) σ) : Z M pc L (zI b :: zI a :: st) σ := by
  rintro ⟨p, l, e, R, s, m, args, below, meth, c, adr, D, aC, A, cells, slots, Fin⟩ hm hf H locs ls hw hl
  obtain ⟨hx, hb, hml, hown, hts, hK, hSt, hA, hAk, hap, hR, hlk, hNs⟩ := id hf
  obtain ⟨hP, hS, hok⟩ := id hw
  have kk : W p l e R s m args below meth c H locs cells slots Fin (F0 m (pc + 1) ls (.int (Int32.ofInt (z_iorF a b)) :: st.map (z_emb adr))) := k (p, l, e, R, s, m, args, below, meth, c, adr, D, aC, A, cells, slots, Fin) hm hf H locs ls hw hl
  rw [z_iorF, Int32.ofInt_toInt] at kk
  show W p l e R s m args below meth c H locs cells slots Fin (F0 m pc ls (.int (Int32.ofInt b) :: .int (Int32.ofInt a) :: st.map (z_emb adr)))
  exact lv_ior hx hb hd kk

theorem z_ixor {M : z_M} {pc : Nat} {L : List (Option Value)} {st : List Value} {σ : Sto} {a b : Int} (hd : decode M.1 pc = .ok (.ixor, 1))  (k : Z M (pc + 1) L (zI (z_ixorF a b) :: st) σ) : Z M pc L (zI b :: zI a :: st) σ := by
  rintro ⟨p, l, e, R, s, m, args, below, meth, c, adr, D, aC, A, cells, slots, Fin⟩ hm hf H locs ls hw hl
  obtain ⟨hx, hb, hml, hown, hts, hK, hSt, hA, hAk, hap, hR, hlk, hNs⟩ := id hf
  obtain ⟨hP, hS, hok⟩ := id hw
  have kk : W p l e R s m args below meth c H locs cells slots Fin (F0 m (pc + 1) ls (.int (Int32.ofInt (z_ixorF a b)) :: st.map (z_emb adr))) := k (p, l, e, R, s, m, args, below, meth, c, adr, D, aC, A, cells, slots, Fin) hm hf H locs ls hw hl
  rw [z_ixorF, Int32.ofInt_toInt] at kk
  show W p l e R s m args below meth c H locs cells slots Fin (F0 m pc ls (.int (Int32.ofInt b) :: .int (Int32.ofInt a) :: st.map (z_emb adr)))
  exact lv_ixor hx hb hd kk

theorem z_ishl {M : z_M} {pc : Nat} {L : List (Option Value)} {st : List Value} {σ : Sto} {a b : Int} (hd : decode M.1 pc = .ok (.ishl, 1))  (k : Z M (pc + 1) L (zI (z_ishlF a b) :: st) σ) : Z M pc L (zI b :: zI a :: st) σ := by
  rintro ⟨p, l, e, R, s, m, args, below, meth, c, adr, D, aC, A, cells, slots, Fin⟩ hm hf H locs ls hw hl
  obtain ⟨hx, hb, hml, hown, hts, hK, hSt, hA, hAk, hap, hR, hlk, hNs⟩ := id hf
  obtain ⟨hP, hS, hok⟩ := id hw
  have kk : W p l e R s m args below meth c H locs cells slots Fin (F0 m (pc + 1) ls (.int (Int32.ofInt (z_ishlF a b)) :: st.map (z_emb adr))) := k (p, l, e, R, s, m, args, below, meth, c, adr, D, aC, A, cells, slots, Fin) hm hf H locs ls hw hl
  rw [z_ishlF, Int32.ofInt_toInt] at kk
  show W p l e R s m args below meth c H locs cells slots Fin (F0 m pc ls (.int (Int32.ofInt b) :: .int (Int32.ofInt a) :: st.map (z_emb adr)))
  exact lv_ishl hx hb hd kk

theorem z_ishr {M : z_M} {pc : Nat} {L : List (Option Value)} {st : List Value} {σ : Sto} {a b : Int} (hd : decode M.1 pc = .ok (.ishr, 1))  (k : Z M (pc + 1) L (zI (z_ishrF a b) :: st) σ) : Z M pc L (zI b :: zI a :: st) σ := by
  rintro ⟨p, l, e, R, s, m, args, below, meth, c, adr, D, aC, A, cells, slots, Fin⟩ hm hf H locs ls hw hl
  obtain ⟨hx, hb, hml, hown, hts, hK, hSt, hA, hAk, hap, hR, hlk, hNs⟩ := id hf
  obtain ⟨hP, hS, hok⟩ := id hw
  have kk : W p l e R s m args below meth c H locs cells slots Fin (F0 m (pc + 1) ls (.int (Int32.ofInt (z_ishrF a b)) :: st.map (z_emb adr))) := k (p, l, e, R, s, m, args, below, meth, c, adr, D, aC, A, cells, slots, Fin) hm hf H locs ls hw hl
  rw [z_ishrF, Int32.ofInt_toInt] at kk
  show W p l e R s m args below meth c H locs cells slots Fin (F0 m pc ls (.int (Int32.ofInt b) :: .int (Int32.ofInt a) :: st.map (z_emb adr)))
  exact lv_ishr hx hb hd kk

theorem z_iushr {M : z_M} {pc : Nat} {L : List (Option Value)} {st : List Value} {σ : Sto} {a b : Int} (hd : decode M.1 pc = .ok (.iushr, 1))  (k : Z M (pc + 1) L (zI (z_iushrF a b) :: st) σ) : Z M pc L (zI b :: zI a :: st) σ := by
  rintro ⟨p, l, e, R, s, m, args, below, meth, c, adr, D, aC, A, cells, slots, Fin⟩ hm hf H locs ls hw hl
  obtain ⟨hx, hb, hml, hown, hts, hK, hSt, hA, hAk, hap, hR, hlk, hNs⟩ := id hf
  obtain ⟨hP, hS, hok⟩ := id hw
  have kk : W p l e R s m args below meth c H locs cells slots Fin (F0 m (pc + 1) ls (.int (Int32.ofInt (z_iushrF a b)) :: st.map (z_emb adr))) := k (p, l, e, R, s, m, args, below, meth, c, adr, D, aC, A, cells, slots, Fin) hm hf H locs ls hw hl
  rw [z_iushrF, Int32.ofInt_toInt] at kk
  show W p l e R s m args below meth c H locs cells slots Fin (F0 m pc ls (.int (Int32.ofInt b) :: .int (Int32.ofInt a) :: st.map (z_emb adr)))
  exact lv_iushr hx hb hd rfl kk

theorem z_land {M : z_M} {pc : Nat} {L : List (Option Value)} {st : List Value} {σ : Sto} {a b : Int} (hd : decode M.1 pc = .ok (.land, 1))  (k : Z M (pc + 1) L (zJ (z_landF a b) :: st) σ) : Z M pc L (zJ b :: zJ a :: st) σ := by
  rintro ⟨p, l, e, R, s, m, args, below, meth, c, adr, D, aC, A, cells, slots, Fin⟩ hm hf H locs ls hw hl
  obtain ⟨hx, hb, hml, hown, hts, hK, hSt, hA, hAk, hap, hR, hlk, hNs⟩ := id hf
  obtain ⟨hP, hS, hok⟩ := id hw
  have kk : W p l e R s m args below meth c H locs cells slots Fin (F0 m (pc + 1) ls (.long (Int64.ofInt (z_landF a b)) :: st.map (z_emb adr))) := k (p, l, e, R, s, m, args, below, meth, c, adr, D, aC, A, cells, slots, Fin) hm hf H locs ls hw hl
  rw [z_landF, Int64.ofInt_toInt] at kk
  show W p l e R s m args below meth c H locs cells slots Fin (F0 m pc ls (.long (Int64.ofInt b) :: .long (Int64.ofInt a) :: st.map (z_emb adr)))
  exact lv_land hx hb hd kk

theorem z_lor {M : z_M} {pc : Nat} {L : List (Option Value)} {st : List Value} {σ : Sto} {a b : Int} (hd : decode M.1 pc = .ok (.lor, 1))  (k : Z M (pc + 1) L (zJ (z_lorF a b) :: st) σ) : Z M pc L (zJ b :: zJ a :: st) σ := by
  rintro ⟨p, l, e, R, s, m, args, below, meth, c, adr, D, aC, A, cells, slots, Fin⟩ hm hf H locs ls hw hl
  obtain ⟨hx, hb, hml, hown, hts, hK, hSt, hA, hAk, hap, hR, hlk, hNs⟩ := id hf
  obtain ⟨hP, hS, hok⟩ := id hw
  have kk : W p l e R s m args below meth c H locs cells slots Fin (F0 m (pc + 1) ls (.long (Int64.ofInt (z_lorF a b)) :: st.map (z_emb adr))) := k (p, l, e, R, s, m, args, below, meth, c, adr, D, aC, A, cells, slots, Fin) hm hf H locs ls hw hl
  rw [z_lorF, Int64.ofInt_toInt] at kk
  show W p l e R s m args below meth c H locs cells slots Fin (F0 m pc ls (.long (Int64.ofInt b) :: .long (Int64.ofInt a) :: st.map (z_emb adr)))
  exact lv_lor hx hb hd kk

theorem z_lshl {M : z_M} {pc : Nat} {L : List (Option Value)} {st : List Value} {σ : Sto} {a b : Int} (hd : decode M.1 pc = .ok (.lshl, 1))  (k : Z M (pc + 1) L (zJ (z_lshlF a b) :: st) σ) : Z M pc L (zI b :: zJ a :: st) σ := by
  rintro ⟨p, l, e, R, s, m, args, below, meth, c, adr, D, aC, A, cells, slots, Fin⟩ hm hf H locs ls hw hl
  obtain ⟨hx, hb, hml, hown, hts, hK, hSt, hA, hAk, hap, hR, hlk, hNs⟩ := id hf
  obtain ⟨hP, hS, hok⟩ := id hw
  have kk : W p l e R s m args below meth c H locs cells slots Fin (F0 m (pc + 1) ls (.long (Int64.ofInt (z_lshlF a b)) :: st.map (z_emb adr))) := k (p, l, e, R, s, m, args, below, meth, c, adr, D, aC, A, cells, slots, Fin) hm hf H locs ls hw hl
  rw [z_lshlF, Int64.ofInt_toInt] at kk
  show W p l e R s m args below meth c H locs cells slots Fin (F0 m pc ls (.int (Int32.ofInt b) :: .long (Int64.ofInt a) :: st.map (z_emb adr)))
  exact lv_lshl hx hb hd rfl kk

theorem z_idiv {M : z_M} {pc : Nat} {L : List (Option Value)} {st : List Value} {σ : Sto} {a b : Int} (hd : decode M.1 pc = .ok (.idiv, 1)) (ha : inR a) (hb0 : inR b) (hn : b ≠ 0) (k : Z M (pc + 1) L (zI (a.tdiv b) :: st) σ) : Z M pc L (zI b :: zI a :: st) σ := by
  rintro ⟨p, l, e, R, s, m, args, below, meth, c, adr, D, aC, A, cells, slots, Fin⟩ hm hf H locs ls hw hl
  obtain ⟨hx, hb, hml, hown, hts, hK, hSt, hA, hAk, hap, hR, hlk, hNs⟩ := id hf
  obtain ⟨hP, hS, hok⟩ := id hw
  have kk : W p l e R s m args below meth c H locs cells slots Fin (F0 m (pc + 1) ls (.int (Int32.ofInt (a.tdiv b)) :: st.map (z_emb adr))) := k (p, l, e, R, s, m, args, below, meth, c, adr, D, aC, A, cells, slots, Fin) hm hf H locs ls hw hl
  rw [← z_div ha hb0] at kk
  show W p l e R s m args below meth c H locs cells slots Fin (F0 m pc ls (.int (Int32.ofInt b) :: .int (Int32.ofInt a) :: st.map (z_emb adr)))
  exact lv_idiv hx hb hd (z_ne0 hb0 hn) kk

theorem z_irem {M : z_M} {pc : Nat} {L : List (Option Value)} {st : List Value} {σ : Sto} {a b : Int} (hd : decode M.1 pc = .ok (.irem, 1)) (ha : inR a) (hb0 : inR b) (hn : b ≠ 0) (k : Z M (pc + 1) L (zI (a.tmod b) :: st) σ) : Z M pc L (zI b :: zI a :: st) σ := by
  rintro ⟨p, l, e, R, s, m, args, below, meth, c, adr, D, aC, A, cells, slots, Fin⟩ hm hf H locs ls hw hl
  obtain ⟨hx, hb, hml, hown, hts, hK, hSt, hA, hAk, hap, hR, hlk, hNs⟩ := id hf
  obtain ⟨hP, hS, hok⟩ := id hw
  have kk : W p l e R s m args below meth c H locs cells slots Fin (F0 m (pc + 1) ls (.int (Int32.ofInt (a.tmod b)) :: st.map (z_emb adr))) := k (p, l, e, R, s, m, args, below, meth, c, adr, D, aC, A, cells, slots, Fin) hm hf H locs ls hw hl
  rw [← z_rem ha hb0] at kk
  show W p l e R s m args below meth c H locs cells slots Fin (F0 m pc ls (.int (Int32.ofInt b) :: .int (Int32.ofInt a) :: st.map (z_emb adr)))
  exact lv_irem hx hb hd (z_ne0 hb0 hn) kk

theorem z_ldiv {M : z_M} {pc : Nat} {L : List (Option Value)} {st : List Value} {σ : Sto} {a b : Int} (hd : decode M.1 pc = .ok (.ldiv, 1)) (ha : inJ a) (hb0 : inJ b) (hn : b ≠ 0) (k : Z M (pc + 1) L (zJ (a.tdiv b) :: st) σ) : Z M pc L (zJ b :: zJ a :: st) σ := by
  rintro ⟨p, l, e, R, s, m, args, below, meth, c, adr, D, aC, A, cells, slots, Fin⟩ hm hf H locs ls hw hl
  obtain ⟨hx, hb, hml, hown, hts, hK, hSt, hA, hAk, hap, hR, hlk, hNs⟩ := id hf
  obtain ⟨hP, hS, hok⟩ := id hw
  have kk : W p l e R s m args below meth c H locs cells slots Fin (F0 m (pc + 1) ls (.long (Int64.ofInt (a.tdiv b)) :: st.map (z_emb adr))) := k (p, l, e, R, s, m, args, below, meth, c, adr, D, aC, A, cells, slots, Fin) hm hf H locs ls hw hl
  rw [← z_divJ ha hb0] at kk
  show W p l e R s m args below meth c H locs cells slots Fin (F0 m pc ls (.long (Int64.ofInt b) :: .long (Int64.ofInt a) :: st.map (z_emb adr)))
  exact lv_ldiv hx hb hd (z_ne0J hb0 hn) kk

theorem z_lrem {M : z_M} {pc : Nat} {L : List (Option Value)} {st : List Value} {σ : Sto} {a b : Int} (hd : decode M.1 pc = .ok (.lrem, 1)) (ha : inJ a) (hb0 : inJ b) (hn : b ≠ 0) (k : Z M (pc + 1) L (zJ (a.tmod b) :: st) σ) : Z M pc L (zJ b :: zJ a :: st) σ := by
  rintro ⟨p, l, e, R, s, m, args, below, meth, c, adr, D, aC, A, cells, slots, Fin⟩ hm hf H locs ls hw hl
  obtain ⟨hx, hb, hml, hown, hts, hK, hSt, hA, hAk, hap, hR, hlk, hNs⟩ := id hf
  obtain ⟨hP, hS, hok⟩ := id hw
  have kk : W p l e R s m args below meth c H locs cells slots Fin (F0 m (pc + 1) ls (.long (Int64.ofInt (a.tmod b)) :: st.map (z_emb adr))) := k (p, l, e, R, s, m, args, below, meth, c, adr, D, aC, A, cells, slots, Fin) hm hf H locs ls hw hl
  rw [← z_remJ ha hb0] at kk
  show W p l e R s m args below meth c H locs cells slots Fin (F0 m pc ls (.long (Int64.ofInt b) :: .long (Int64.ofInt a) :: st.map (z_emb adr)))
  exact lv_lrem hx hb hd (z_ne0J hb0 hn) kk

theorem z_i2l {M : z_M} {pc : Nat} {L : List (Option Value)} {st : List Value} {σ : Sto} {a : Int} (hd : decode M.1 pc = .ok (.i2l, 1)) (ha : inR a) (k : Z M (pc + 1) L (zJ a :: st) σ) : Z M pc L (zI a :: st) σ := by
  rintro ⟨p, l, e, R, s, m, args, below, meth, c, adr, D, aC, A, cells, slots, Fin⟩ hm hf H locs ls hw hl
  obtain ⟨hx, hb, hml, hown, hts, hK, hSt, hA, hAk, hap, hR, hlk, hNs⟩ := id hf
  obtain ⟨hP, hS, hok⟩ := id hw
  have kk : W p l e R s m args below meth c H locs cells slots Fin (F0 m (pc + 1) ls (.long (Int64.ofInt a) :: st.map (z_emb adr))) := k (p, l, e, R, s, m, args, below, meth, c, adr, D, aC, A, cells, slots, Fin) hm hf H locs ls hw hl
  show W p l e R s m args below meth c H locs cells slots Fin (F0 m pc ls (.int (Int32.ofInt a) :: st.map (z_emb adr)))
  exact lv_i2l hx hb hd (z_i2lN ha) kk

theorem z_l2i {M : z_M} {pc : Nat} {L : List (Option Value)} {st : List Value} {σ : Sto} {a : Int} (hd : decode M.1 pc = .ok (.l2i, 1))  (k : Z M (pc + 1) L (zI a :: st) σ) : Z M pc L (zJ a :: st) σ := by
  rintro ⟨p, l, e, R, s, m, args, below, meth, c, adr, D, aC, A, cells, slots, Fin⟩ hm hf H locs ls hw hl
  obtain ⟨hx, hb, hml, hown, hts, hK, hSt, hA, hAk, hap, hR, hlk, hNs⟩ := id hf
  obtain ⟨hP, hS, hok⟩ := id hw
  have kk : W p l e R s m args below meth c H locs cells slots Fin (F0 m (pc + 1) ls (.int (Int32.ofInt a) :: st.map (z_emb adr))) := k (p, l, e, R, s, m, args, below, meth, c, adr, D, aC, A, cells, slots, Fin) hm hf H locs ls hw hl
  show W p l e R s m args below meth c H locs cells slots Fin (F0 m pc ls (.long (Int64.ofInt a) :: st.map (z_emb adr)))
  exact lv_l2i hx hb hd Int64.toInt32_ofInt kk

theorem z_i2b {M : z_M} {pc : Nat} {L : List (Option Value)} {st : List Value} {σ : Sto} {a : Int} (hd : decode M.1 pc = .ok (.i2b, 1))  (k : Z M (pc + 1) L (zI (z_i2bF a) :: st) σ) : Z M pc L (zI a :: st) σ := by
  rintro ⟨p, l, e, R, s, m, args, below, meth, c, adr, D, aC, A, cells, slots, Fin⟩ hm hf H locs ls hw hl
  obtain ⟨hx, hb, hml, hown, hts, hK, hSt, hA, hAk, hap, hR, hlk, hNs⟩ := id hf
  obtain ⟨hP, hS, hok⟩ := id hw
  have kk : W p l e R s m args below meth c H locs cells slots Fin (F0 m (pc + 1) ls (.int (Int32.ofInt (z_i2bF a)) :: st.map (z_emb adr))) := k (p, l, e, R, s, m, args, below, meth, c, adr, D, aC, A, cells, slots, Fin) hm hf H locs ls hw hl
  rw [z_i2bF, Int32.ofInt_toInt] at kk
  show W p l e R s m args below meth c H locs cells slots Fin (F0 m pc ls (.int (Int32.ofInt a) :: st.map (z_emb adr)))
  exact lv_i2b hx hb hd rfl kk

theorem z_i2s {M : z_M} {pc : Nat} {L : List (Option Value)} {st : List Value} {σ : Sto} {a : Int} (hd : decode M.1 pc = .ok (.i2s, 1))  (k : Z M (pc + 1) L (zI (z_i2sF a) :: st) σ) : Z M pc L (zI a :: st) σ := by
  rintro ⟨p, l, e, R, s, m, args, below, meth, c, adr, D, aC, A, cells, slots, Fin⟩ hm hf H locs ls hw hl
  obtain ⟨hx, hb, hml, hown, hts, hK, hSt, hA, hAk, hap, hR, hlk, hNs⟩ := id hf
  obtain ⟨hP, hS, hok⟩ := id hw
  have kk : W p l e R s m args below meth c H locs cells slots Fin (F0 m (pc + 1) ls (.int (Int32.ofInt (z_i2sF a)) :: st.map (z_emb adr))) := k (p, l, e, R, s, m, args, below, meth, c, adr, D, aC, A, cells, slots, Fin) hm hf H locs ls hw hl
  rw [z_i2sF, Int32.ofInt_toInt] at kk
  show W p l e R s m args below meth c H locs cells slots Fin (F0 m pc ls (.int (Int32.ofInt a) :: st.map (z_emb adr)))
  exact lv_i2s hx hb hd rfl kk

theorem z_lcmp {M : z_M} {pc : Nat} {L : List (Option Value)} {st : List Value} {σ : Sto} {a b : Int} (hd : decode M.1 pc = .ok (.lcmp, 1)) (ha : inJ a) (hb0 : inJ b) (k : Z M (pc + 1) L (zI (z_lcmpF a b) :: st) σ) : Z M pc L (zJ b :: zJ a :: st) σ := by
  rintro ⟨p, l, e, R, s, m, args, below, meth, c, adr, D, aC, A, cells, slots, Fin⟩ hm hf H locs ls hw hl
  obtain ⟨hx, hb, hml, hown, hts, hK, hSt, hA, hAk, hap, hR, hlk, hNs⟩ := id hf
  obtain ⟨hP, hS, hok⟩ := id hw
  have kk : W p l e R s m args below meth c H locs cells slots Fin (F0 m (pc + 1) ls (.int (Int32.ofInt (z_lcmpF a b)) :: st.map (z_emb adr))) := k (p, l, e, R, s, m, args, below, meth, c, adr, D, aC, A, cells, slots, Fin) hm hf H locs ls hw hl
  show W p l e R s m args below meth c H locs cells slots Fin (F0 m pc ls (.long (Int64.ofInt b) :: .long (Int64.ofInt a) :: st.map (z_emb adr)))
  exact W.lcmp hx hb hd (by rw [z_lcmpN ha hb0]; exact kk)

theorem z_iconst {M : z_M} {pc : Nat} {L : List (Option Value)} {st : List Value} {σ : Sto} {n : Int} (hd : decode M.1 pc = .ok (.iconst n, 1))  (k : Z M (pc + 1) L (zI n :: st) σ) : Z M pc L (st) σ := by
  rintro ⟨p, l, e, R, s, m, args, below, meth, c, adr, D, aC, A, cells, slots, Fin⟩ hm hf H locs ls hw hl
  obtain ⟨hx, hb, hml, hown, hts, hK, hSt, hA, hAk, hap, hR, hlk, hNs⟩ := id hf
  obtain ⟨hP, hS, hok⟩ := id hw
  have kk : W p l e R s m args below meth c H locs cells slots Fin (F0 m (pc + 1) ls (.int (Int32.ofInt n) :: st.map (z_emb adr))) := k (p, l, e, R, s, m, args, below, meth, c, adr, D, aC, A, cells, slots, Fin) hm hf H locs ls hw hl
  show W p l e R s m args below meth c H locs cells slots Fin (F0 m pc ls (st.map (z_emb adr)))
  exact lv_iconst hx hb hd rfl kk

theorem z_bipush {M : z_M} {pc : Nat} {L : List (Option Value)} {st : List Value} {σ : Sto} {n v : Int} (hd : decode M.1 pc = .ok (.bipush n, 2)) (hv : (Int8.ofInt n).toInt32 = Int32.ofInt v) (k : Z M (pc + 2) L (zI v :: st) σ) : Z M pc L (st) σ := by
  rintro ⟨p, l, e, R, s, m, args, below, meth, c, adr, D, aC, A, cells, slots, Fin⟩ hm hf H locs ls hw hl
  obtain ⟨hx, hb, hml, hown, hts, hK, hSt, hA, hAk, hap, hR, hlk, hNs⟩ := id hf
  obtain ⟨hP, hS, hok⟩ := id hw
  have kk : W p l e R s m args below meth c H locs cells slots Fin (F0 m (pc + 2) ls (.int (Int32.ofInt v) :: st.map (z_emb adr))) := k (p, l, e, R, s, m, args, below, meth, c, adr, D, aC, A, cells, slots, Fin) hm hf H locs ls hw hl
  show W p l e R s m args below meth c H locs cells slots Fin (F0 m pc ls (st.map (z_emb adr)))
  exact lv_bipush hx hb hd hv kk

theorem z_sipush {M : z_M} {pc : Nat} {L : List (Option Value)} {st : List Value} {σ : Sto} {n v : Int} (hd : decode M.1 pc = .ok (.sipush n, 3)) (hv : (Int16.ofInt n).toInt32 = Int32.ofInt v) (k : Z M (pc + 3) L (zI v :: st) σ) : Z M pc L (st) σ := by
  rintro ⟨p, l, e, R, s, m, args, below, meth, c, adr, D, aC, A, cells, slots, Fin⟩ hm hf H locs ls hw hl
  obtain ⟨hx, hb, hml, hown, hts, hK, hSt, hA, hAk, hap, hR, hlk, hNs⟩ := id hf
  obtain ⟨hP, hS, hok⟩ := id hw
  have kk : W p l e R s m args below meth c H locs cells slots Fin (F0 m (pc + 3) ls (.int (Int32.ofInt v) :: st.map (z_emb adr))) := k (p, l, e, R, s, m, args, below, meth, c, adr, D, aC, A, cells, slots, Fin) hm hf H locs ls hw hl
  show W p l e R s m args below meth c H locs cells slots Fin (F0 m pc ls (st.map (z_emb adr)))
  exact lv_sipush hx hb hd hv kk

theorem z_lconst {M : z_M} {pc : Nat} {L : List (Option Value)} {st : List Value} {σ : Sto} {n : Fin 2} {v : Int} (hd : decode M.1 pc = .ok (.lconst n, 1)) (hv : Int64.ofNat (n : Nat) = Int64.ofInt v) (k : Z M (pc + 1) L (zJ v :: st) σ) : Z M pc L (st) σ := by
  rintro ⟨p, l, e, R, s, m, args, below, meth, c, adr, D, aC, A, cells, slots, Fin⟩ hm hf H locs ls hw hl
  obtain ⟨hx, hb, hml, hown, hts, hK, hSt, hA, hAk, hap, hR, hlk, hNs⟩ := id hf
  obtain ⟨hP, hS, hok⟩ := id hw
  have kk : W p l e R s m args below meth c H locs cells slots Fin (F0 m (pc + 1) ls (.long (Int64.ofInt v) :: st.map (z_emb adr))) := k (p, l, e, R, s, m, args, below, meth, c, adr, D, aC, A, cells, slots, Fin) hm hf H locs ls hw hl
  show W p l e R s m args below meth c H locs cells slots Fin (F0 m pc ls (st.map (z_emb adr)))
  exact lv_lconst hx hb hd hv kk

theorem z_ldc {M : z_M} {pc : Nat} {L : List (Option Value)} {st : List Value} {σ : Sto} {i : Nat} {v : Int} (hd : decode M.1 pc = .ok (.ldc i, 2)) (hc : Cond.constant M.2.1 i (Int32.ofInt v) ∈ z_all) (k : Z M (pc + 2) L (zI v :: st) σ) : Z M pc L (st) σ := by
  rintro ⟨p, l, e, R, s, m, args, below, meth, c, adr, D, aC, A, cells, slots, Fin⟩ hm hf H locs ls hw hl
  obtain ⟨hx, hb, hml, hown, hts, hK, hSt, hA, hAk, hap, hR, hlk, hNs⟩ := id hf
  obtain ⟨hP, hS, hok⟩ := id hw
  have kk : W p l e R s m args below meth c H locs cells slots Fin (F0 m (pc + 2) ls (.int (Int32.ofInt v) :: st.map (z_emb adr))) := k (p, l, e, R, s, m, args, below, meth, c, adr, D, aC, A, cells, slots, Fin) hm hf H locs ls hw hl
  show W p l e R s m args below meth c H locs cells slots Fin (F0 m pc ls (st.map (z_emb adr)))
  exact lv_ldc hx hb hown (hts _ hc) hd kk

theorem z_ldc2 {M : z_M} {pc : Nat} {L : List (Option Value)} {st : List Value} {σ : Sto} {i : Nat} {v : Int} (hd : decode M.1 pc = .ok (.ldc2_w i, 3)) (hc : Cond.constantLong M.2.1 i (Int64.ofInt v) ∈ z_all) (k : Z M (pc + 3) L (zJ v :: st) σ) : Z M pc L (st) σ := by
  rintro ⟨p, l, e, R, s, m, args, below, meth, c, adr, D, aC, A, cells, slots, Fin⟩ hm hf H locs ls hw hl
  obtain ⟨hx, hb, hml, hown, hts, hK, hSt, hA, hAk, hap, hR, hlk, hNs⟩ := id hf
  obtain ⟨hP, hS, hok⟩ := id hw
  have kk : W p l e R s m args below meth c H locs cells slots Fin (F0 m (pc + 3) ls (.long (Int64.ofInt v) :: st.map (z_emb adr))) := k (p, l, e, R, s, m, args, below, meth, c, adr, D, aC, A, cells, slots, Fin) hm hf H locs ls hw hl
  show W p l e R s m args below meth c H locs cells slots Fin (F0 m pc ls (st.map (z_emb adr)))
  exact lv_ldc2 hx hb hown (hts _ hc) hd kk

theorem z_dup {M : z_M} {pc : Nat} {L : List (Option Value)} {st : List Value} {σ : Sto} {v : Value} (hd : decode M.1 pc = .ok (.dup, 1)) (hv : v.category = 1) (k : Z M (pc + 1) L (v :: v :: st) σ) : Z M pc L (v :: st) σ := by
  rintro ⟨p, l, e, R, s, m, args, below, meth, c, adr, D, aC, A, cells, slots, Fin⟩ hm hf H locs ls hw hl
  obtain ⟨hx, hb, hml, hown, hts, hK, hSt, hA, hAk, hap, hR, hlk, hNs⟩ := id hf
  obtain ⟨hP, hS, hok⟩ := id hw
  have kk : W p l e R s m args below meth c H locs cells slots Fin (F0 m (pc + 1) ls ((z_emb adr v) :: (z_emb adr v) :: st.map (z_emb adr))) := k (p, l, e, R, s, m, args, below, meth, c, adr, D, aC, A, cells, slots, Fin) hm hf H locs ls hw hl
  show W p l e R s m args below meth c H locs cells slots Fin (F0 m pc ls ((z_emb adr v) :: st.map (z_emb adr)))
  exact lv_dup hx hb hd (by rw [z_emb_cat]; exact hv) kk

theorem z_pop {M : z_M} {pc : Nat} {L : List (Option Value)} {st : List Value} {σ : Sto} {v : Value} (hd : decode M.1 pc = .ok (.pop, 1)) (hv : v.category = 1) (k : Z M (pc + 1) L (st) σ) : Z M pc L (v :: st) σ := by
  rintro ⟨p, l, e, R, s, m, args, below, meth, c, adr, D, aC, A, cells, slots, Fin⟩ hm hf H locs ls hw hl
  obtain ⟨hx, hb, hml, hown, hts, hK, hSt, hA, hAk, hap, hR, hlk, hNs⟩ := id hf
  obtain ⟨hP, hS, hok⟩ := id hw
  have kk : W p l e R s m args below meth c H locs cells slots Fin (F0 m (pc + 1) ls (st.map (z_emb adr))) := k (p, l, e, R, s, m, args, below, meth, c, adr, D, aC, A, cells, slots, Fin) hm hf H locs ls hw hl
  show W p l e R s m args below meth c H locs cells slots Fin (F0 m pc ls ((z_emb adr v) :: st.map (z_emb adr)))
  exact lv_pop hx hb hd (by rw [z_emb_cat]; exact hv) kk

theorem z_dup2 {M : z_M} {pc : Nat} {L : List (Option Value)} {st : List Value} {σ : Sto} {v w : Value} (hd : decode M.1 pc = .ok (.dup2, 1)) (hv : v.category = 1) (hw2 : w.category = 1) (k : Z M (pc + 1) L (v :: w :: v :: w :: st) σ) : Z M pc L (v :: w :: st) σ := by
  rintro ⟨p, l, e, R, s, m, args, below, meth, c, adr, D, aC, A, cells, slots, Fin⟩ hm hf H locs ls hw hl
  obtain ⟨hx, hb, hml, hown, hts, hK, hSt, hA, hAk, hap, hR, hlk, hNs⟩ := id hf
  obtain ⟨hP, hS, hok⟩ := id hw
  have kk : W p l e R s m args below meth c H locs cells slots Fin (F0 m (pc + 1) ls ((z_emb adr v) :: (z_emb adr w) :: (z_emb adr v) :: (z_emb adr w) :: st.map (z_emb adr))) := k (p, l, e, R, s, m, args, below, meth, c, adr, D, aC, A, cells, slots, Fin) hm hf H locs ls hw hl
  show W p l e R s m args below meth c H locs cells slots Fin (F0 m pc ls ((z_emb adr v) :: (z_emb adr w) :: st.map (z_emb adr)))
  exact lv_dup2_11 hx hb hd (by rw [z_emb_cat]; exact hv) (by rw [z_emb_cat]; exact hw2) kk

theorem z_iload {M : z_M} {pc : Nat} {L : List (Option Value)} {st : List Value} {σ : Sto} {i : Nat} {a : Int} (hd : decode M.1 pc = .ok (.iload i, 2)) (h1 : L[i]? = some (some (zI a))) (k : Z M (pc + 2) L (zI a :: st) σ) : Z M pc L (st) σ := by
  rintro ⟨p, l, e, R, s, m, args, below, meth, c, adr, D, aC, A, cells, slots, Fin⟩ hm hf H locs ls hw hl
  obtain ⟨hx, hb, hml, hown, hts, hK, hSt, hA, hAk, hap, hR, hlk, hNs⟩ := id hf
  obtain ⟨hP, hS, hok⟩ := id hw
  have kk : W p l e R s m args below meth c H locs cells slots Fin (F0 m (pc + 2) ls (.int (Int32.ofInt a) :: st.map (z_emb adr))) := k (p, l, e, R, s, m, args, below, meth, c, adr, D, aC, A, cells, slots, Fin) hm hf H locs ls hw hl
  show W p l e R s m args below meth c H locs cells slots Fin (F0 m pc ls (st.map (z_emb adr)))
  exact lv_iload hx hb hd (z_at hl h1) kk

theorem z_iload_n {M : z_M} {pc : Nat} {L : List (Option Value)} {st : List Value} {σ : Sto} {q : Fin 4} {a : Int} (hd : decode M.1 pc = .ok (.iload_n q, 1)) (h1 : L[(q : Nat)]? = some (some (zI a))) (k : Z M (pc + 1) L (zI a :: st) σ) : Z M pc L (st) σ := by
  rintro ⟨p, l, e, R, s, m, args, below, meth, c, adr, D, aC, A, cells, slots, Fin⟩ hm hf H locs ls hw hl
  obtain ⟨hx, hb, hml, hown, hts, hK, hSt, hA, hAk, hap, hR, hlk, hNs⟩ := id hf
  obtain ⟨hP, hS, hok⟩ := id hw
  have kk : W p l e R s m args below meth c H locs cells slots Fin (F0 m (pc + 1) ls (.int (Int32.ofInt a) :: st.map (z_emb adr))) := k (p, l, e, R, s, m, args, below, meth, c, adr, D, aC, A, cells, slots, Fin) hm hf H locs ls hw hl
  show W p l e R s m args below meth c H locs cells slots Fin (F0 m pc ls (st.map (z_emb adr)))
  exact lv_iload_n hx hb hd rfl (z_at hl h1) kk

theorem z_lload {M : z_M} {pc : Nat} {L : List (Option Value)} {st : List Value} {σ : Sto} {i : Nat} {a : Int} (hd : decode M.1 pc = .ok (.lload i, 2)) (h1 : L[i]? = some (some (zJ a))) (k : Z M (pc + 2) L (zJ a :: st) σ) : Z M pc L (st) σ := by
  rintro ⟨p, l, e, R, s, m, args, below, meth, c, adr, D, aC, A, cells, slots, Fin⟩ hm hf H locs ls hw hl
  obtain ⟨hx, hb, hml, hown, hts, hK, hSt, hA, hAk, hap, hR, hlk, hNs⟩ := id hf
  obtain ⟨hP, hS, hok⟩ := id hw
  have kk : W p l e R s m args below meth c H locs cells slots Fin (F0 m (pc + 2) ls (.long (Int64.ofInt a) :: st.map (z_emb adr))) := k (p, l, e, R, s, m, args, below, meth, c, adr, D, aC, A, cells, slots, Fin) hm hf H locs ls hw hl
  show W p l e R s m args below meth c H locs cells slots Fin (F0 m pc ls (st.map (z_emb adr)))
  exact lv_lload hx hb hd (z_at hl h1) kk

theorem z_lload_n {M : z_M} {pc : Nat} {L : List (Option Value)} {st : List Value} {σ : Sto} {q : Fin 4} {a : Int} (hd : decode M.1 pc = .ok (.lload_n q, 1)) (h1 : L[(q : Nat)]? = some (some (zJ a))) (k : Z M (pc + 1) L (zJ a :: st) σ) : Z M pc L (st) σ := by
  rintro ⟨p, l, e, R, s, m, args, below, meth, c, adr, D, aC, A, cells, slots, Fin⟩ hm hf H locs ls hw hl
  obtain ⟨hx, hb, hml, hown, hts, hK, hSt, hA, hAk, hap, hR, hlk, hNs⟩ := id hf
  obtain ⟨hP, hS, hok⟩ := id hw
  have kk : W p l e R s m args below meth c H locs cells slots Fin (F0 m (pc + 1) ls (.long (Int64.ofInt a) :: st.map (z_emb adr))) := k (p, l, e, R, s, m, args, below, meth, c, adr, D, aC, A, cells, slots, Fin) hm hf H locs ls hw hl
  show W p l e R s m args below meth c H locs cells slots Fin (F0 m pc ls (st.map (z_emb adr)))
  exact lv_lload_n hx hb hd rfl (z_at hl h1) kk

theorem z_aload {M : z_M} {pc : Nat} {L : List (Option Value)} {st : List Value} {σ : Sto} {i : Nat} {a : Nat} (hd : decode M.1 pc = .ok (.aload i, 2)) (h1 : L[i]? = some (some (zR a))) (k : Z M (pc + 2) L (zR a :: st) σ) : Z M pc L (st) σ := by
  rintro ⟨p, l, e, R, s, m, args, below, meth, c, adr, D, aC, A, cells, slots, Fin⟩ hm hf H locs ls hw hl
  obtain ⟨hx, hb, hml, hown, hts, hK, hSt, hA, hAk, hap, hR, hlk, hNs⟩ := id hf
  obtain ⟨hP, hS, hok⟩ := id hw
  have kk : W p l e R s m args below meth c H locs cells slots Fin (F0 m (pc + 2) ls (.ref (adr a) :: st.map (z_emb adr))) := k (p, l, e, R, s, m, args, below, meth, c, adr, D, aC, A, cells, slots, Fin) hm hf H locs ls hw hl
  show W p l e R s m args below meth c H locs cells slots Fin (F0 m pc ls (st.map (z_emb adr)))
  exact lv_aload hx hb hd (z_at hl h1) kk

theorem z_aload_n {M : z_M} {pc : Nat} {L : List (Option Value)} {st : List Value} {σ : Sto} {q : Fin 4} {a : Nat} (hd : decode M.1 pc = .ok (.aload_n q, 1)) (h1 : L[(q : Nat)]? = some (some (zR a))) (k : Z M (pc + 1) L (zR a :: st) σ) : Z M pc L (st) σ := by
  rintro ⟨p, l, e, R, s, m, args, below, meth, c, adr, D, aC, A, cells, slots, Fin⟩ hm hf H locs ls hw hl
  obtain ⟨hx, hb, hml, hown, hts, hK, hSt, hA, hAk, hap, hR, hlk, hNs⟩ := id hf
  obtain ⟨hP, hS, hok⟩ := id hw
  have kk : W p l e R s m args below meth c H locs cells slots Fin (F0 m (pc + 1) ls (.ref (adr a) :: st.map (z_emb adr))) := k (p, l, e, R, s, m, args, below, meth, c, adr, D, aC, A, cells, slots, Fin) hm hf H locs ls hw hl
  show W p l e R s m args below meth c H locs cells slots Fin (F0 m pc ls (st.map (z_emb adr)))
  exact lv_aload_n hx hb hd rfl (z_at hl h1) kk

theorem z_istore {M : z_M} {pc : Nat} {L : List (Option Value)} {st : List Value} {σ : Sto} {i : Nat} {a : Int} {L' : List (Option Value)} (hd : decode M.1 pc = .ok (.istore i, 2)) (hn : i < M.2.2.1) (hq : z_nl L i = true) (hL : L.set i (some (zI a)) = L') (k : Z M (pc + 2) L' st σ) : Z M pc L (zI a :: st) σ := by
  rintro ⟨p, l, e, R, s, m, args, below, meth, c, adr, D, aC, A, cells, slots, Fin⟩ hm hf H locs ls hw hl
  obtain ⟨hx, hb, hml, hown, hts, hK, hSt, hA, hAk, hap, hR, hlk, hNs⟩ := id hf
  obtain ⟨hP, hS, hok⟩ := id hw
  show W p l e R s m args below meth c H locs cells slots Fin (F0 m pc ls (.int (Int32.ofInt a) :: st.map (z_emb adr)))
  subst hL
  exact lv_istore hx hb hd hl hn rfl (fun ls2 hl2 => k (p, l, e, R, s, m, args, below, meth, c, adr, D, aC, A, cells, slots, Fin) hm hf H locs ls2 hw (z_st1 (v := zI a) hl2 hq))

theorem z_istore_n {M : z_M} {pc : Nat} {L : List (Option Value)} {st : List Value} {σ : Sto} {q : Fin 4} {a : Int} {L' : List (Option Value)} (hd : decode M.1 pc = .ok (.istore_n q, 1)) (hn : (q : Nat) < M.2.2.1) (hq : z_nl L (q : Nat) = true) (hL : L.set (q : Nat) (some (zI a)) = L') (k : Z M (pc + 1) L' st σ) : Z M pc L (zI a :: st) σ := by
  rintro ⟨p, l, e, R, s, m, args, below, meth, c, adr, D, aC, A, cells, slots, Fin⟩ hm hf H locs ls hw hl
  obtain ⟨hx, hb, hml, hown, hts, hK, hSt, hA, hAk, hap, hR, hlk, hNs⟩ := id hf
  obtain ⟨hP, hS, hok⟩ := id hw
  show W p l e R s m args below meth c H locs cells slots Fin (F0 m pc ls (.int (Int32.ofInt a) :: st.map (z_emb adr)))
  subst hL
  exact lv_istore_n hx hb hd rfl hl hn rfl (fun ls2 hl2 => k (p, l, e, R, s, m, args, below, meth, c, adr, D, aC, A, cells, slots, Fin) hm hf H locs ls2 hw (z_st1 (v := zI a) hl2 hq))

theorem z_astore_n {M : z_M} {pc : Nat} {L : List (Option Value)} {st : List Value} {σ : Sto} {q : Fin 4} {a : Nat} {L' : List (Option Value)} (hd : decode M.1 pc = .ok (.astore_n q, 1)) (hn : (q : Nat) < M.2.2.1) (hq : z_nl L (q : Nat) = true) (hL : L.set (q : Nat) (some (zR a)) = L') (k : Z M (pc + 1) L' st σ) : Z M pc L (zR a :: st) σ := by
  rintro ⟨p, l, e, R, s, m, args, below, meth, c, adr, D, aC, A, cells, slots, Fin⟩ hm hf H locs ls hw hl
  obtain ⟨hx, hb, hml, hown, hts, hK, hSt, hA, hAk, hap, hR, hlk, hNs⟩ := id hf
  obtain ⟨hP, hS, hok⟩ := id hw
  show W p l e R s m args below meth c H locs cells slots Fin (F0 m pc ls (.ref (adr a) :: st.map (z_emb adr)))
  subst hL
  exact lv_astore_n hx hb hd rfl hl hn rfl (fun ls2 hl2 => k (p, l, e, R, s, m, args, below, meth, c, adr, D, aC, A, cells, slots, Fin) hm hf H locs ls2 hw (z_st1 (v := zR a) hl2 hq))

theorem z_lstore {M : z_M} {pc : Nat} {L : List (Option Value)} {st : List Value} {σ : Sto} {i : Nat} {a : Int} {L' : List (Option Value)} (hd : decode M.1 pc = .ok (.lstore i, 2)) (hn : i + 1 < M.2.2.1) (hq : z_nl L i = true) (hL : (L.set i (some (zJ a))).set (i + 1) none = L') (k : Z M (pc + 2) L' st σ) : Z M pc L (zJ a :: st) σ := by
  rintro ⟨p, l, e, R, s, m, args, below, meth, c, adr, D, aC, A, cells, slots, Fin⟩ hm hf H locs ls hw hl
  obtain ⟨hx, hb, hml, hown, hts, hK, hSt, hA, hAk, hap, hR, hlk, hNs⟩ := id hf
  obtain ⟨hP, hS, hok⟩ := id hw
  show W p l e R s m args below meth c H locs cells slots Fin (F0 m pc ls (.long (Int64.ofInt a) :: st.map (z_emb adr)))
  subst hL
  exact lv_lstore hx hb hd hl hn rfl (fun ls2 hl2 => k (p, l, e, R, s, m, args, below, meth, c, adr, D, aC, A, cells, slots, Fin) hm hf H locs ls2 hw (z_st2 (v := zJ a) hl2 hq))

theorem z_iinc {M : z_M} {pc : Nat} {L : List (Option Value)} {st : List Value} {σ : Sto} {i : Nat} {n a : Int} {L' : List (Option Value)} (hd : decode M.1 pc = .ok (.iinc i n, 3)) (hn : i < M.2.2.1) (hq : z_nl L i = true) (h1 : L[i]? = some (some (zI a))) (hL : L.set i (some (zI (a + n))) = L') (k : Z M (pc + 3) L' st σ) : Z M pc L st σ := by
  rintro ⟨p, l, e, R, s, m, args, below, meth, c, adr, D, aC, A, cells, slots, Fin⟩ hm hf H locs ls hw hl
  obtain ⟨hx, hb, hml, hown, hts, hK, hSt, hA, hAk, hap, hR, hlk, hNs⟩ := id hf
  obtain ⟨hP, hS, hok⟩ := id hw
  show W p l e R s m args below meth c H locs cells slots Fin (F0 m pc ls (st.map (z_emb adr)))
  subst hL
  obtain ⟨j, hj⟩ := List.getElem?_of_mem (z_mem h1 adr)
  exact lv_iinc hx hb hd hl hj (by rw [← Int32.ofInt_add]) hn rfl (fun ls2 hl2 => k (p, l, e, R, s, m, args, below, meth, c, adr, D, aC, A, cells, slots, Fin) hm hf H locs ls2 hw (z_st1 (v := zI (a + n)) hl2 hq))

theorem z_goto {M : z_M} {pc : Nat} {L : List (Option Value)} {st : List Value} {σ : Sto} {off : Int} {tgt : Nat} (hd : decode M.1 pc = .ok (.goto off, 3)) (ht : (pc : Int) + off = (tgt : Int)) (k : Z M tgt L st σ) : Z M pc L st σ := by
  rintro ⟨p, l, e, R, s, m, args, below, meth, c, adr, D, aC, A, cells, slots, Fin⟩ hm hf H locs ls hw hl
  obtain ⟨hx, hb, hml, hown, hts, hK, hSt, hA, hAk, hap, hR, hlk, hNs⟩ := id hf
  obtain ⟨hP, hS, hok⟩ := id hw
  exact lv_goto hx hb hd ht (k (p, l, e, R, s, m, args, below, meth, c, adr, D, aC, A, cells, slots, Fin) hm hf H locs ls hw hl)

theorem z_icmp_eq {M : z_M} {pc : Nat} {L : List (Option Value)} {st : List Value} {σ : Sto} {a b off : Int} {tgt : Nat} (hd : decode M.1 pc = .ok (.if_icmp .eq off, 3)) (ht : (pc : Int) + off = (tgt : Int)) (ha : inR a) (hb0 : inR b) (kt : a = b → Z M tgt L st σ) (kf : a ≠ b → Z M (pc + 3) L st σ) : Z M pc L (zI b :: zI a :: st) σ := by
  rintro ⟨p, l, e, R, s, m, args, below, meth, c, adr, D, aC, A, cells, slots, Fin⟩ hm hf H locs ls hw hl
  obtain ⟨hx, hb, hml, hown, hts, hK, hSt, hA, hAk, hap, hR, hlk, hNs⟩ := id hf
  obtain ⟨hP, hS, hok⟩ := id hw
  exact lv_icmp_eq hx hb hd ht (fun h => kt ((z_eq ha hb0).mp h) _ hm hf H locs ls hw hl) (fun h => kf (fun q => h ((z_eq ha hb0).mpr q)) _ hm hf H locs ls hw hl)

theorem z_if_eq {M : z_M} {pc : Nat} {L : List (Option Value)} {st : List Value} {σ : Sto} {a off : Int} {tgt : Nat} (hd : decode M.1 pc = .ok (.ifCond .eq off, 3)) (ht : (pc : Int) + off = (tgt : Int)) (ha : inR a) (kt : a = 0 → Z M tgt L st σ) (kf : a ≠ 0 → Z M (pc + 3) L st σ) : Z M pc L (zI a :: st) σ := by
  rintro ⟨p, l, e, R, s, m, args, below, meth, c, adr, D, aC, A, cells, slots, Fin⟩ hm hf H locs ls hw hl
  obtain ⟨hx, hb, hml, hown, hts, hK, hSt, hA, hAk, hap, hR, hlk, hNs⟩ := id hf
  obtain ⟨hP, hS, hok⟩ := id hw
  exact lv_if_eq hx hb hd ht (fun h => kt ((z_eq ha (show inR (0 : Int) from ⟨by decide, by decide⟩)).mp h) _ hm hf H locs ls hw hl) (fun h => kf (fun q => h ((z_eq ha (show inR (0 : Int) from ⟨by decide, by decide⟩)).mpr q)) _ hm hf H locs ls hw hl)

theorem z_icmp_ne {M : z_M} {pc : Nat} {L : List (Option Value)} {st : List Value} {σ : Sto} {a b off : Int} {tgt : Nat} (hd : decode M.1 pc = .ok (.if_icmp .ne off, 3)) (ht : (pc : Int) + off = (tgt : Int)) (ha : inR a) (hb0 : inR b) (kt : a ≠ b → Z M tgt L st σ) (kf : a = b → Z M (pc + 3) L st σ) : Z M pc L (zI b :: zI a :: st) σ := by
  rintro ⟨p, l, e, R, s, m, args, below, meth, c, adr, D, aC, A, cells, slots, Fin⟩ hm hf H locs ls hw hl
  obtain ⟨hx, hb, hml, hown, hts, hK, hSt, hA, hAk, hap, hR, hlk, hNs⟩ := id hf
  obtain ⟨hP, hS, hok⟩ := id hw
  exact lv_icmp_ne hx hb hd ht (fun h => kt (fun q => h ((z_eq ha hb0).mpr q)) _ hm hf H locs ls hw hl) (fun h => kf ((z_eq ha hb0).mp h) _ hm hf H locs ls hw hl)

theorem z_if_ne {M : z_M} {pc : Nat} {L : List (Option Value)} {st : List Value} {σ : Sto} {a off : Int} {tgt : Nat} (hd : decode M.1 pc = .ok (.ifCond .ne off, 3)) (ht : (pc : Int) + off = (tgt : Int)) (ha : inR a) (kt : a ≠ 0 → Z M tgt L st σ) (kf : a = 0 → Z M (pc + 3) L st σ) : Z M pc L (zI a :: st) σ := by
  rintro ⟨p, l, e, R, s, m, args, below, meth, c, adr, D, aC, A, cells, slots, Fin⟩ hm hf H locs ls hw hl
  obtain ⟨hx, hb, hml, hown, hts, hK, hSt, hA, hAk, hap, hR, hlk, hNs⟩ := id hf
  obtain ⟨hP, hS, hok⟩ := id hw
  exact lv_if_ne hx hb hd ht (fun h => kt (fun q => h ((z_eq ha (show inR (0 : Int) from ⟨by decide, by decide⟩)).mpr q)) _ hm hf H locs ls hw hl) (fun h => kf ((z_eq ha (show inR (0 : Int) from ⟨by decide, by decide⟩)).mp h) _ hm hf H locs ls hw hl)

theorem z_icmp_lt {M : z_M} {pc : Nat} {L : List (Option Value)} {st : List Value} {σ : Sto} {a b off : Int} {tgt : Nat} (hd : decode M.1 pc = .ok (.if_icmp .lt off, 3)) (ht : (pc : Int) + off = (tgt : Int)) (ha : inR a) (hb0 : inR b) (kt : a < b → Z M tgt L st σ) (kf : b ≤ a → Z M (pc + 3) L st σ) : Z M pc L (zI b :: zI a :: st) σ := by
  rintro ⟨p, l, e, R, s, m, args, below, meth, c, adr, D, aC, A, cells, slots, Fin⟩ hm hf H locs ls hw hl
  obtain ⟨hx, hb, hml, hown, hts, hK, hSt, hA, hAk, hap, hR, hlk, hNs⟩ := id hf
  obtain ⟨hP, hS, hok⟩ := id hw
  exact lv_icmp_lt hx hb hd ht (fun h => kt ((z_lt ha hb0).mp h) _ hm hf H locs ls hw hl) (fun h => kf (Int.not_lt.mp (fun q => h ((z_lt ha hb0).mpr q))) _ hm hf H locs ls hw hl)

theorem z_if_lt {M : z_M} {pc : Nat} {L : List (Option Value)} {st : List Value} {σ : Sto} {a off : Int} {tgt : Nat} (hd : decode M.1 pc = .ok (.ifCond .lt off, 3)) (ht : (pc : Int) + off = (tgt : Int)) (ha : inR a) (kt : a < 0 → Z M tgt L st σ) (kf : 0 ≤ a → Z M (pc + 3) L st σ) : Z M pc L (zI a :: st) σ := by
  rintro ⟨p, l, e, R, s, m, args, below, meth, c, adr, D, aC, A, cells, slots, Fin⟩ hm hf H locs ls hw hl
  obtain ⟨hx, hb, hml, hown, hts, hK, hSt, hA, hAk, hap, hR, hlk, hNs⟩ := id hf
  obtain ⟨hP, hS, hok⟩ := id hw
  exact lv_if_lt hx hb hd ht (fun h => kt ((z_lt ha (show inR (0 : Int) from ⟨by decide, by decide⟩)).mp h) _ hm hf H locs ls hw hl) (fun h => kf (Int.not_lt.mp (fun q => h ((z_lt ha (show inR (0 : Int) from ⟨by decide, by decide⟩)).mpr q))) _ hm hf H locs ls hw hl)

theorem z_icmp_ge {M : z_M} {pc : Nat} {L : List (Option Value)} {st : List Value} {σ : Sto} {a b off : Int} {tgt : Nat} (hd : decode M.1 pc = .ok (.if_icmp .ge off, 3)) (ht : (pc : Int) + off = (tgt : Int)) (ha : inR a) (hb0 : inR b) (kt : b ≤ a → Z M tgt L st σ) (kf : a < b → Z M (pc + 3) L st σ) : Z M pc L (zI b :: zI a :: st) σ := by
  rintro ⟨p, l, e, R, s, m, args, below, meth, c, adr, D, aC, A, cells, slots, Fin⟩ hm hf H locs ls hw hl
  obtain ⟨hx, hb, hml, hown, hts, hK, hSt, hA, hAk, hap, hR, hlk, hNs⟩ := id hf
  obtain ⟨hP, hS, hok⟩ := id hw
  exact lv_icmp_ge hx hb hd ht (fun h => kt ((z_le hb0 ha).mp h) _ hm hf H locs ls hw hl) (fun h => kf (Int.not_le.mp (fun q => h ((z_le hb0 ha).mpr q))) _ hm hf H locs ls hw hl)

theorem z_if_ge {M : z_M} {pc : Nat} {L : List (Option Value)} {st : List Value} {σ : Sto} {a off : Int} {tgt : Nat} (hd : decode M.1 pc = .ok (.ifCond .ge off, 3)) (ht : (pc : Int) + off = (tgt : Int)) (ha : inR a) (kt : 0 ≤ a → Z M tgt L st σ) (kf : a < 0 → Z M (pc + 3) L st σ) : Z M pc L (zI a :: st) σ := by
  rintro ⟨p, l, e, R, s, m, args, below, meth, c, adr, D, aC, A, cells, slots, Fin⟩ hm hf H locs ls hw hl
  obtain ⟨hx, hb, hml, hown, hts, hK, hSt, hA, hAk, hap, hR, hlk, hNs⟩ := id hf
  obtain ⟨hP, hS, hok⟩ := id hw
  exact lv_if_ge hx hb hd ht (fun h => kt ((z_le (show inR (0 : Int) from ⟨by decide, by decide⟩) ha).mp h) _ hm hf H locs ls hw hl) (fun h => kf (Int.not_le.mp (fun q => h ((z_le (show inR (0 : Int) from ⟨by decide, by decide⟩) ha).mpr q))) _ hm hf H locs ls hw hl)

theorem z_icmp_gt {M : z_M} {pc : Nat} {L : List (Option Value)} {st : List Value} {σ : Sto} {a b off : Int} {tgt : Nat} (hd : decode M.1 pc = .ok (.if_icmp .gt off, 3)) (ht : (pc : Int) + off = (tgt : Int)) (ha : inR a) (hb0 : inR b) (kt : b < a → Z M tgt L st σ) (kf : a ≤ b → Z M (pc + 3) L st σ) : Z M pc L (zI b :: zI a :: st) σ := by
  rintro ⟨p, l, e, R, s, m, args, below, meth, c, adr, D, aC, A, cells, slots, Fin⟩ hm hf H locs ls hw hl
  obtain ⟨hx, hb, hml, hown, hts, hK, hSt, hA, hAk, hap, hR, hlk, hNs⟩ := id hf
  obtain ⟨hP, hS, hok⟩ := id hw
  exact lv_icmp_gt hx hb hd ht (fun h => kt ((z_lt hb0 ha).mp h) _ hm hf H locs ls hw hl) (fun h => kf (Int.not_lt.mp (fun q => h ((z_lt hb0 ha).mpr q))) _ hm hf H locs ls hw hl)

theorem z_if_gt {M : z_M} {pc : Nat} {L : List (Option Value)} {st : List Value} {σ : Sto} {a off : Int} {tgt : Nat} (hd : decode M.1 pc = .ok (.ifCond .gt off, 3)) (ht : (pc : Int) + off = (tgt : Int)) (ha : inR a) (kt : 0 < a → Z M tgt L st σ) (kf : a ≤ 0 → Z M (pc + 3) L st σ) : Z M pc L (zI a :: st) σ := by
  rintro ⟨p, l, e, R, s, m, args, below, meth, c, adr, D, aC, A, cells, slots, Fin⟩ hm hf H locs ls hw hl
  obtain ⟨hx, hb, hml, hown, hts, hK, hSt, hA, hAk, hap, hR, hlk, hNs⟩ := id hf
  obtain ⟨hP, hS, hok⟩ := id hw
  exact lv_if_gt hx hb hd ht (fun h => kt ((z_lt (show inR (0 : Int) from ⟨by decide, by decide⟩) ha).mp h) _ hm hf H locs ls hw hl) (fun h => kf (Int.not_lt.mp (fun q => h ((z_lt (show inR (0 : Int) from ⟨by decide, by decide⟩) ha).mpr q))) _ hm hf H locs ls hw hl)

theorem z_icmp_le {M : z_M} {pc : Nat} {L : List (Option Value)} {st : List Value} {σ : Sto} {a b off : Int} {tgt : Nat} (hd : decode M.1 pc = .ok (.if_icmp .le off, 3)) (ht : (pc : Int) + off = (tgt : Int)) (ha : inR a) (hb0 : inR b) (kt : a ≤ b → Z M tgt L st σ) (kf : b < a → Z M (pc + 3) L st σ) : Z M pc L (zI b :: zI a :: st) σ := by
  rintro ⟨p, l, e, R, s, m, args, below, meth, c, adr, D, aC, A, cells, slots, Fin⟩ hm hf H locs ls hw hl
  obtain ⟨hx, hb, hml, hown, hts, hK, hSt, hA, hAk, hap, hR, hlk, hNs⟩ := id hf
  obtain ⟨hP, hS, hok⟩ := id hw
  exact lv_icmp_le hx hb hd ht (fun h => kt ((z_le ha hb0).mp h) _ hm hf H locs ls hw hl) (fun h => kf (Int.not_le.mp (fun q => h ((z_le ha hb0).mpr q))) _ hm hf H locs ls hw hl)

theorem z_if_le {M : z_M} {pc : Nat} {L : List (Option Value)} {st : List Value} {σ : Sto} {a off : Int} {tgt : Nat} (hd : decode M.1 pc = .ok (.ifCond .le off, 3)) (ht : (pc : Int) + off = (tgt : Int)) (ha : inR a) (kt : a ≤ 0 → Z M tgt L st σ) (kf : 0 < a → Z M (pc + 3) L st σ) : Z M pc L (zI a :: st) σ := by
  rintro ⟨p, l, e, R, s, m, args, below, meth, c, adr, D, aC, A, cells, slots, Fin⟩ hm hf H locs ls hw hl
  obtain ⟨hx, hb, hml, hown, hts, hK, hSt, hA, hAk, hap, hR, hlk, hNs⟩ := id hf
  obtain ⟨hP, hS, hok⟩ := id hw
  exact lv_if_le hx hb hd ht (fun h => kt ((z_le ha (show inR (0 : Int) from ⟨by decide, by decide⟩)).mp h) _ hm hf H locs ls hw hl) (fun h => kf (Int.not_le.mp (fun q => h ((z_le ha (show inR (0 : Int) from ⟨by decide, by decide⟩)).mpr q))) _ hm hf H locs ls hw hl)
/-! ===== fields ===== -/
theorem z_know {M : z_M} {pc : Nat} {L : List (Option Value)} {st : List Value} {σ : Sto} (k : z_ok σ → Z M pc L st σ) : Z M pc L st σ := by
  rintro ⟨p, l, e, R, s, m, args, below, meth, c, adr, D, aC, A, cells, slots, Fin⟩ hm hf H locs ls hw hl
  exact k hw.2.2 _ hm hf H locs ls hw hl
theorem z_okO {σ : Sto} (h : z_ok σ) {k j ci : Nat} {fs : List (Option Nat)} (hk : z_lay k = .inl (ci, fs)) (hn : k < z_NC) : inR (σ k j) := by
  have := h k j hn
  rw [hk] at this
  exact this
theorem z_okA {σ : Sto} (h : z_ok σ) {k j t n : Nat} {r : Nat → Nat} (hk : z_lay k = .inr (t, n, r)) (ht : t ≠ 4) (hn : k < z_NC) : inR (σ k j) := by
  have := h k j hn
  rw [hk] at this
  simpa [z_rg, ht] using this
theorem z_okJ {σ : Sto} (h : z_ok σ) {k j n : Nat} {r : Nat → Nat} (hk : z_lay k = .inr (4, n, r)) (hn : k < z_NC) : inJ (σ k j) := by
  have := h k j hn
  rw [hk] at this
  simpa [z_rg] using this
theorem z_ok_put {σ : Sto} (h : z_ok σ) {k j : Nat} {x : Int} (hx : z_rg (z_lay k) x) : z_ok (z_put σ k j x) := by
  intro a b ha
  unfold z_put
  by_cases h1 : a = k
  · rw [if_pos h1]
    by_cases h2 : b = j
    · rw [if_pos h2, h1]; exact hx
    · rw [if_neg h2]; exact h a b ha
  · rw [if_neg h1]; exact h a b ha
/-- an int by its place in the range -/
def wr (a : Int) : Int := (Int32.ofInt a).toInt
theorem wr_R (a : Int) : inR (wr a) := z_rng _
theorem wr_id {a : Int} (h : inR a) : wr a = a := z_toInt h
theorem zI_wr (a : Int) : zI (wr a) = zI a := by unfold zI wr; rw [Int32.ofInt_toInt]
theorem z_wr {M : z_M} {pc : Nat} {L : List (Option Value)} {st : List Value} {σ : Sto} {a : Int} (k : Z M pc L (zI (wr a) :: st) σ) : Z M pc L (zI a :: st) σ := by rw [← zI_wr]; exact k
def wrJ (a : Int) : Int := (Int64.ofInt a).toInt
theorem wrJ_J (a : Int) : inJ (wrJ a) := ⟨by have := Int64.le_toInt (Int64.ofInt a); unfold wrJ; omega, by have := Int64.toInt_lt (Int64.ofInt a); unfold wrJ; omega⟩
theorem wrJ_id {a : Int} (h : inJ a) : wrJ a = a := z_toIntJ h
theorem zJ_wr (a : Int) : zJ (wrJ a) = zJ a := by unfold zJ wrJ; rw [Int64.ofInt_toInt]
theorem z_wrJ {M : z_M} {pc : Nat} {L : List (Option Value)} {st : List Value} {σ : Sto} {a : Int} (k : Z M pc L (zJ (wrJ a) :: st) σ) : Z M pc L (zJ a :: st) σ := by rw [← zJ_wr]; exact k
theorem z_flds_I {adr : Nat → Nat} {f : Nat → Int} : ∀ (fs : List (Option Nat)) (o j : Nat), fs[j]? = some none → (z_flds adr f o fs)[j]? = some (.int (Int32.ofInt (f (o + j))))
  | [], o, j, h => by simp at h
  | none :: l, o, 0, h => rfl
  | some k :: l, o, 0, h => by simp at h
  | none :: l, o, j + 1, h => by
    have := z_flds_I (adr := adr) (f := f) l (o + 1) j (by simpa using h)
    rw [show o + (j + 1) = o + 1 + j by omega]
    simpa [z_flds] using this
  | some k :: l, o, j + 1, h => by
    have := z_flds_I (adr := adr) (f := f) l (o + 1) j (by simpa using h)
    rw [show o + (j + 1) = o + 1 + j by omega]
    simpa [z_flds] using this
theorem z_flds_R {adr : Nat → Nat} {f : Nat → Int} {k : Nat} : ∀ (fs : List (Option Nat)) (o j : Nat), fs[j]? = some (some k) → (z_flds adr f o fs)[j]? = some (.ref (adr k))
  | [], o, j, h => by simp at h
  | none :: l, o, 0, h => by simp at h
  | some k' :: l, o, 0, h => by
    simp at h
    subst h
    rfl
  | none :: l, o, j + 1, h => by
    have := z_flds_R (adr := adr) (f := f) (k := k) l (o + 1) j (by simpa using h)
    simpa [z_flds] using this
  | some k' :: l, o, j + 1, h => by
    have := z_flds_R (adr := adr) (f := f) (k := k) l (o + 1) j (by simpa using h)
    simpa [z_flds] using this
theorem z_flds_cong {adr : Nat → Nat} {f g : Nat → Int} : ∀ (fs : List (Option Nat)) (o : Nat), (∀ b, o ≤ b → f b = g b) → z_flds adr f o fs = z_flds adr g o fs
  | [], o, h => rfl
  | none :: l, o, h => by simp only [z_flds, h o (Nat.le_refl o), z_flds_cong l (o + 1) (fun b hb => h b (by omega))]
  | some k :: l, o, h => by simp only [z_flds, z_flds_cong l (o + 1) (fun b hb => h b (by omega))]
theorem z_flds_set {adr : Nat → Nat} {f : Nat → Int} {x : Int} : ∀ (fs : List (Option Nat)) (o j : Nat), fs[j]? = some none → (z_flds adr f o fs).set j (.int (Int32.ofInt x)) = z_flds adr (fun b => if b = o + j then x else f b) o fs
  | [], o, j, h => by simp at h
  | none :: l, o, 0, h => by
    have ho : z_flds adr (fun b => if b = o + 0 then x else f b) (o + 1) l = z_flds adr f (o + 1) l := z_flds_cong l (o + 1) (fun b hb => by rw [if_neg (by omega)])
    simp only [z_flds, List.set_cons_zero, Nat.add_zero, if_pos]
    rw [show (fun b => if b = o then x else f b) = (fun b => if b = o + 0 then x else f b) from rfl, ho]
  | some k :: l, o, 0, h => by simp at h
  | none :: l, o, j + 1, h => by
    have := z_flds_set (adr := adr) (f := f) (x := x) l (o + 1) j (by simpa using h)
    simp only [z_flds, List.set_cons_succ, this, show o + (j + 1) = o + 1 + j by omega]
    rw [if_neg (by omega)]
  | some k :: l, o, j + 1, h => by
    have := z_flds_set (adr := adr) (f := f) (x := x) l (o + 1) j (by simpa using h)
    simp only [z_flds, List.set_cons_succ, this, show o + (j + 1) = o + 1 + j by omega]
theorem z_flds_len {adr : Nat → Nat} {f : Nat → Int} : ∀ (fs : List (Option Nat)) (o : Nat), (z_flds adr f o fs).length = fs.length
  | [], o => rfl
  | none :: l, o => by simp only [z_flds, List.length_cons, z_flds_len l (o + 1)]
  | some k :: l, o => by simp only [z_flds, List.length_cons, z_flds_len l (o + 1)]
theorem z_put_self {σ : Sto} {k j : Nat} {x : Int} : z_put σ k j x k = fun b => if b = j then x else σ k b := by
  funext b
  simp [z_put]
theorem z_put_ne {σ : Sto} {k j k' : Nat} {x : Int} (h : k' ≠ k) : z_put σ k j x k' = σ k' := by
  funext b
  simp [z_put, h]
theorem z_get {M : z_M} {pc : Nat} {L : List (Option Value)} {st : List Value} {σ : Sto} {idx ci j k : Nat} {fs : List (Option Nat)} {v : Value} (hd : decode M.1 pc = .ok (.getfield idx, 3)) (hg : z_GF M.2.1 idx ci j) (hk : z_lay k = .inl (ci, fs)) (hn : k < z_NC)
    (hv : ∀ adr : Nat → Nat, (z_flds adr (σ k) 0 fs)[j]? = some (z_emb adr v)) (kk : Z M (pc + 3) L (v :: st) σ) : Z M pc L (zR k :: st) σ := by
  rintro ⟨p, l, e, R, s, m, args, below, meth, c, adr, D, aC, A, cells, slots, Fin⟩ hm hf H locs ls hw hl
  obtain ⟨hx, hb, hml, hown, hts, hK, hSt, hA, hAk, hap, hR, hlk, hNs⟩ := id hf
  obtain ⟨hP, hS, hok⟩ := id hw
  have hq : (z_wl adr aC σ)[k]? = some (adr k, .inr (ci, z_flds adr (σ k) 0 fs)) := by rw [z_wl_get hn, hk]; rfl
  obtain ⟨C, T, N, h1, h2, h3, h4⟩ := hg
  rcases h4 with h4 | ⟨host, h4⟩
  · exact va_get hx hb hts h3 hown hK hP k hq h1 j h2 (hts _ h4) (fun _ h9 => h9) (hv adr) hd (kk _ hm hf H locs ls hw hl)
  · exact va_getN hx hb hts h3 hown hK hP k hq h1 j h2 (va_Nw.use rfl (hNs _ h4)) (fun _ h9 => h9) (hv adr) hd (kk _ hm hf H locs ls hw hl)
theorem z_getI {M : z_M} {pc : Nat} {L : List (Option Value)} {st : List Value} {σ : Sto} {idx ci j k : Nat} {fs : List (Option Nat)} (hd : decode M.1 pc = .ok (.getfield idx, 3)) (hg : z_GF M.2.1 idx ci j) (hk : z_lay k = .inl (ci, fs)) (hn : k < z_NC)
    (hj : fs[j]? = some none) (kk : inR (σ k j) → Z M (pc + 3) L (zI (σ k j) :: st) σ) : Z M pc L (zR k :: st) σ := z_know (fun hok => z_get hd hg hk hn (fun adr => by rw [z_flds_I fs 0 j hj, Nat.zero_add]; rfl) (kk (z_okO hok hk hn)))
theorem z_getR {M : z_M} {pc : Nat} {L : List (Option Value)} {st : List Value} {σ : Sto} {idx ci j k k' : Nat} {fs : List (Option Nat)} (hd : decode M.1 pc = .ok (.getfield idx, 3)) (hg : z_GF M.2.1 idx ci j) (hk : z_lay k = .inl (ci, fs)) (hn : k < z_NC)
    (hj : fs[j]? = some (some k')) (kk : Z M (pc + 3) L (zR k' :: st) σ) : Z M pc L (zR k :: st) σ := z_get hd hg hk hn (fun adr => by rw [z_flds_R fs 0 j hj]; rfl) kk
theorem z_putX {M : z_M} {pc : Nat} {L : List (Option Value)} {st : List Value} {σ : Sto} {idx ci j k : Nat} {fs : List (Option Nat)} {ty : FieldType} {x : Int} (hd : decode M.1 pc = .ok (.putfield idx, 3)) (hg : z_PF M.2.1 idx ci j ty) (hk : z_lay k = .inl (ci, fs)) (hn : k < z_NC)
    (hj : fs[j]? = some none) (hr : inR x) (hn1 : narrow ty (.int (Int32.ofInt x)) = .int (Int32.ofInt x)) (hf1 : fits ty (.int (Int32.ofInt x)) = true) (kk : Z M (pc + 3) L st (z_put σ k j x)) : Z M pc L (zI x :: zR k :: st) σ := by
  rintro ⟨p, l, e, R, s, m, args, below, meth, c, adr, D, aC, A, cells, slots, Fin⟩ hm hf H locs ls hw hl
  obtain ⟨hx, hb, hml, hown, hts, hK, hSt, hA, hAk, hap, hR, hlk, hNs⟩ := id hf
  obtain ⟨hP, hS, hok⟩ := id hw
  have hq : (z_wl adr aC σ)[k]? = some (adr k, .inr (ci, z_flds adr (σ k) 0 fs)) := by rw [z_wl_get hn, hk]; rfl
  obtain ⟨C, T, N, ty0, h1, h2, h3, h4, h5, h6, h7, h8⟩ := hg
  have hset : (z_wl adr aC σ).set k (adr k, .inr (ci, (z_flds adr (σ k) 0 fs).set j (.int (Int32.ofInt x)))) = z_wl adr aC (z_put σ k j x) := by
    refine z_wl_set hn ?_ (fun i hi => z_put_ne hi)
    rw [hk, z_flds_set fs 0 j hj, z_put_self, Nat.zero_add]
    rfl
  refine va_put hx hb hts h3 ty0 h5 h6 hown hK hP (z_D hap hAk) hS k hq h1 j h2 (hts _ h4) (fun _ h9 => h9) h7 h8 hn1 hf1 (by rw [z_flds_len]; exact (List.getElem?_eq_some_iff.mp hj).1) hd (fun H1 locs1 hP1 _ hS1 => ?_)
  have hP1 : va_P D vwCl ((z_wl adr aC σ).set k (adr k, .inr (ci, (z_flds adr (σ k) 0 fs).set j (.int (Int32.ofInt x))))) H1 := hP1
  rw [hset] at hP1
  have hok1 : z_ok (z_put σ k j x) := z_ok_put hok (by rw [hk]; exact hr)
  exact kk _ hm hf H1 locs1 ls ⟨hP1, hS1, hok1⟩ hl
theorem z_putI {M : z_M} {pc : Nat} {L : List (Option Value)} {st : List Value} {σ : Sto} {idx ci j k : Nat} {fs : List (Option Nat)} {x : Int} (hd : decode M.1 pc = .ok (.putfield idx, 3)) (hg : z_PF M.2.1 idx ci j .int) (hk : z_lay k = .inl (ci, fs)) (hn : k < z_NC)
    (hj : fs[j]? = some none) (hr : inR x) (kk : Z M (pc + 3) L st (z_put σ k j x)) : Z M pc L (zI x :: zR k :: st) σ := z_putX hd hg hk hn hj hr rfl rfl kk
theorem z_putZ {M : z_M} {pc : Nat} {L : List (Option Value)} {st : List Value} {σ : Sto} {idx ci j k : Nat} {fs : List (Option Nat)} {x : Int} (hd : decode M.1 pc = .ok (.putfield idx, 3)) (hg : z_PF M.2.1 idx ci j .boolean) (hk : z_lay k = .inl (ci, fs)) (hn : k < z_NC)
    (hj : fs[j]? = some none) (hb : x = 0 ∨ x = 1) (kk : Z M (pc + 3) L st (z_put σ k j x)) : Z M pc L (zI x :: zR k :: st) σ := z_putX hd hg hk hn hj (by omega) (by rcases hb with rfl | rfl <;> decide +kernel) (by rcases hb with rfl | rfl <;> decide +kernel) kk
/-! ===== arrays ===== -/
def z_len (q : z_L) : Nat := match q with
  | .inl _ => 0
  | .inr a => a.2.1
theorem z_small : ∀ k, k < z_NC → z_len (z_lay k) ≤ 2000 := by decide +kernel
theorem z_sm {k t n : Nat} {r : Nat → Nat} (hk : z_lay k = .inr (t, n, r)) (hn : k < z_NC) : n ≤ 2000 := by
  have := z_small k hn
  rw [hk] at this
  exact this
theorem z_inx {i : Int} {n : Nat} (hn : n ≤ 2000) (hi : 0 ≤ i ∧ i < n) : vp_in (Int32.ofInt i) n ∧ (Int32.ofInt i).toNatClampNeg = i.toNat := by
  have h1 : (Int32.ofInt i).toInt = i := z_toInt ⟨by omega, by omega⟩
  have h2 : (Int32.ofInt i).toNatClampNeg = i.toNat := by rw [show (Int32.ofInt i).toNatClampNeg = (Int32.ofInt i).toInt.toNat from rfl, h1]
  refine ⟨vp_in_iff.mpr ?_, h2⟩
  rw [h1]
  exact hi
theorem z_upd {f : Nat → Int} {j : Nat} {x : Int} : upd (fun b => Int32.ofInt (f b)) j (Int32.ofInt x) = fun b => Int32.ofInt (if b = j then x else f b) := by
  funext b
  unfold upd
  split <;> rfl
theorem z_updJ {f : Nat → Int} {j : Nat} {x : Int} : vp_updL (fun b => Int64.ofInt (f b)) j (Int64.ofInt x) = fun b => Int64.ofInt (if b = j then x else f b) := by
  funext b
  unfold vp_updL
  split <;> rfl
theorem z_iald {M : z_M} {pc : Nat} {L : List (Option Value)} {st : List Value} {σ : Sto} {k n : Nat} {r : Nat → Nat} {i : Int} (hd : decode M.1 pc = .ok (.iaload, 1)) (hk : z_lay k = .inr (0, n, r)) (hn : k < z_NC) (hi : 0 ≤ i ∧ i < n) (kk : inR (σ k i.toNat) → Z M (pc + 1) L (zI (σ k i.toNat) :: st) σ) : Z M pc L (zI i :: zR k :: st) σ := by
  rintro ⟨p, l, e, R, s, m, args, below, meth, c, adr, D, aC, A, cells, slots, Fin⟩ hm hf H locs ls hw hl
  obtain ⟨hx, hb, hml, hown, hts, hK, hSt, hA, hAk, hap, hR, hlk, hNs⟩ := id hf
  obtain ⟨hP, hS, hok⟩ := id hw
  have hq : (z_wl adr aC σ)[k]? = some (adr k, .inl (aC 0, n, .inl (fun j => Int32.ofInt (σ k j)))) := by rw [z_wl_get hn, hk]; rfl
  have hi2 := z_inx (z_sm hk hn) hi
  have k2 : W p l e R s m args below meth c H locs cells slots Fin (F0 m (pc + 1) ls (.int (Int32.ofInt (σ k i.toNat)) :: st.map (z_emb adr)))   := kk (z_okA hok hk (by decide) hn) (p, l, e, R, s, m, args, below, meth, c, adr, D, aC, A, cells, slots, Fin) hm hf H locs ls hw hl
  exact va_iald hx hb hK hP k 0 hq rfl hi2.1 hd (by rw [hi2.2]; exact k2)

theorem z_bald {M : z_M} {pc : Nat} {L : List (Option Value)} {st : List Value} {σ : Sto} {k n : Nat} {r : Nat → Nat} {i : Int} (hd : decode M.1 pc = .ok (.baload, 1)) (hk : z_lay k = .inr (1, n, r)) (hn : k < z_NC) (hi : 0 ≤ i ∧ i < n) (kk : inR (σ k i.toNat) → Z M (pc + 1) L (zI (σ k i.toNat) :: st) σ) : Z M pc L (zI i :: zR k :: st) σ := by
  rintro ⟨p, l, e, R, s, m, args, below, meth, c, adr, D, aC, A, cells, slots, Fin⟩ hm hf H locs ls hw hl
  obtain ⟨hx, hb, hml, hown, hts, hK, hSt, hA, hAk, hap, hR, hlk, hNs⟩ := id hf
  obtain ⟨hP, hS, hok⟩ := id hw
  have hq : (z_wl adr aC σ)[k]? = some (adr k, .inl (aC 1, n, .inl (fun j => Int32.ofInt (σ k j)))) := by rw [z_wl_get hn, hk]; rfl
  have hi2 := z_inx (z_sm hk hn) hi
  have k2 : W p l e R s m args below meth c H locs cells slots Fin (F0 m (pc + 1) ls (.int (Int32.ofInt (σ k i.toNat)) :: st.map (z_emb adr)))   := kk (z_okA hok hk (by decide) hn) (p, l, e, R, s, m, args, below, meth, c, adr, D, aC, A, cells, slots, Fin) hm hf H locs ls hw hl
  exact va_bald hx hb hK hP k 1 hq rfl hi2.1 hd (by rw [hi2.2]; exact k2)

theorem z_sald {M : z_M} {pc : Nat} {L : List (Option Value)} {st : List Value} {σ : Sto} {k n : Nat} {r : Nat → Nat} {i : Int} (hd : decode M.1 pc = .ok (.saload, 1)) (hk : z_lay k = .inr (2, n, r)) (hn : k < z_NC) (hi : 0 ≤ i ∧ i < n) (kk : inR (σ k i.toNat) → Z M (pc + 1) L (zI (σ k i.toNat) :: st) σ) : Z M pc L (zI i :: zR k :: st) σ := by
  rintro ⟨p, l, e, R, s, m, args, below, meth, c, adr, D, aC, A, cells, slots, Fin⟩ hm hf H locs ls hw hl
  obtain ⟨hx, hb, hml, hown, hts, hK, hSt, hA, hAk, hap, hR, hlk, hNs⟩ := id hf
  obtain ⟨hP, hS, hok⟩ := id hw
  have hq : (z_wl adr aC σ)[k]? = some (adr k, .inl (aC 2, n, .inl (fun j => Int32.ofInt (σ k j)))) := by rw [z_wl_get hn, hk]; rfl
  have hi2 := z_inx (z_sm hk hn) hi
  have k2 : W p l e R s m args below meth c H locs cells slots Fin (F0 m (pc + 1) ls (.int (Int32.ofInt (σ k i.toNat)) :: st.map (z_emb adr)))   := kk (z_okA hok hk (by decide) hn) (p, l, e, R, s, m, args, below, meth, c, adr, D, aC, A, cells, slots, Fin) hm hf H locs ls hw hl
  exact va_sald hx hb hK hP k 2 hq rfl hi2.1 hd (by rw [hi2.2]; exact k2)

theorem z_zald {M : z_M} {pc : Nat} {L : List (Option Value)} {st : List Value} {σ : Sto} {k n : Nat} {r : Nat → Nat} {i : Int} (hd : decode M.1 pc = .ok (.baload, 1)) (hk : z_lay k = .inr (3, n, r)) (hn : k < z_NC) (hi : 0 ≤ i ∧ i < n) (kk : inR (σ k i.toNat) → Z M (pc + 1) L (zI (σ k i.toNat) :: st) σ) : Z M pc L (zI i :: zR k :: st) σ := by
  rintro ⟨p, l, e, R, s, m, args, below, meth, c, adr, D, aC, A, cells, slots, Fin⟩ hm hf H locs ls hw hl
  obtain ⟨hx, hb, hml, hown, hts, hK, hSt, hA, hAk, hap, hR, hlk, hNs⟩ := id hf
  obtain ⟨hP, hS, hok⟩ := id hw
  have hq : (z_wl adr aC σ)[k]? = some (adr k, .inl (aC 3, n, .inl (fun j => Int32.ofInt (σ k j)))) := by rw [z_wl_get hn, hk]; rfl
  have hi2 := z_inx (z_sm hk hn) hi
  have k2 : W p l e R s m args below meth c H locs cells slots Fin (F0 m (pc + 1) ls (.int (Int32.ofInt (σ k i.toNat)) :: st.map (z_emb adr)))   := kk (z_okA hok hk (by decide) hn) (p, l, e, R, s, m, args, below, meth, c, adr, D, aC, A, cells, slots, Fin) hm hf H locs ls hw hl
  exact va_zald hx hb hK hP k 3 hq rfl hi2.1 hd (by rw [hi2.2]; exact k2)

theorem z_lald {M : z_M} {pc : Nat} {L : List (Option Value)} {st : List Value} {σ : Sto} {k n : Nat} {r : Nat → Nat} {i : Int} (hd : decode M.1 pc = .ok (.laload, 1)) (hk : z_lay k = .inr (4, n, r)) (hn : k < z_NC) (hi : 0 ≤ i ∧ i < n) (kk : inJ (σ k i.toNat) → Z M (pc + 1) L (zJ (σ k i.toNat) :: st) σ) : Z M pc L (zI i :: zR k :: st) σ := by
  rintro ⟨p, l, e, R, s, m, args, below, meth, c, adr, D, aC, A, cells, slots, Fin⟩ hm hf H locs ls hw hl
  obtain ⟨hx, hb, hml, hown, hts, hK, hSt, hA, hAk, hap, hR, hlk, hNs⟩ := id hf
  obtain ⟨hP, hS, hok⟩ := id hw
  have hq : (z_wl adr aC σ)[k]? = some (adr k, .inl (aC 4, n, .inr (.inl (fun j => Int64.ofInt (σ k j))))) := by rw [z_wl_get hn, hk]; rfl
  have hi2 := z_inx (z_sm hk hn) hi
  have k2 : W p l e R s m args below meth c H locs cells slots Fin (F0 m (pc + 1) ls (.long (Int64.ofInt (σ k i.toNat)) :: st.map (z_emb adr)))   := kk (z_okJ hok hk hn) (p, l, e, R, s, m, args, below, meth, c, adr, D, aC, A, cells, slots, Fin) hm hf H locs ls hw hl
  exact va_lald hx hb hK hP k 4 hq rfl hi2.1 hd (by rw [hi2.2]; exact k2)

theorem z_iast {M : z_M} {pc : Nat} {L : List (Option Value)} {st : List Value} {σ : Sto} {k n : Nat} {r : Nat → Nat} {i x : Int} (hd : decode M.1 pc = .ok (.iastore, 1)) (hk : z_lay k = .inr (0, n, r)) (hn : k < z_NC) (hi : 0 ≤ i ∧ i < n) (hr : inR x) (kk : Z M (pc + 1) L st (z_put σ k i.toNat x)) : Z M pc L (zI x :: zI i :: zR k :: st) σ := by
  rintro ⟨p, l, e, R, s, m, args, below, meth, c, adr, D, aC, A, cells, slots, Fin⟩ hm hf H locs ls hw hl
  obtain ⟨hx, hb, hml, hown, hts, hK, hSt, hA, hAk, hap, hR, hlk, hNs⟩ := id hf
  obtain ⟨hP, hS, hok⟩ := id hw
  have hq : (z_wl adr aC σ)[k]? = some (adr k, .inl (aC 0, n, .inl (fun j => Int32.ofInt (σ k j)))) := by rw [z_wl_get hn, hk]; rfl
  have hi2 := z_inx (z_sm hk hn) hi
  have hset : (z_wl adr aC σ).set k (adr k, .inl (aC 0, n, .inl (upd (fun j => Int32.ofInt (σ k j)) (Int32.ofInt i).toNatClampNeg (Int32.ofInt x)))) = z_wl adr aC (z_put σ k i.toNat x) := by
    refine z_wl_set hn ?_ (fun i hi => z_put_ne hi)
    rw [hk, hi2.2, z_upd, z_put_self]
    rfl
  refine va_iast hx hb hK hP (z_D hap hAk) hS k 0 hq rfl hi2.1 hd (fun H1 locs1 hP1 _ hS1 => ?_)
  rw [hset] at hP1
  have hok1 : z_ok (z_put σ k i.toNat x) := z_ok_put hok (by rw [hk]; exact hr)
  exact kk _ hm hf H1 locs1 ls ⟨hP1, hS1, hok1⟩ hl

theorem z_bast {M : z_M} {pc : Nat} {L : List (Option Value)} {st : List Value} {σ : Sto} {k n : Nat} {r : Nat → Nat} {i x : Int} (hd : decode M.1 pc = .ok (.bastore, 1)) (hk : z_lay k = .inr (1, n, r)) (hn : k < z_NC) (hi : 0 ≤ i ∧ i < n) (kk : Z M (pc + 1) L st (z_put σ k i.toNat (z_i2bF x))) : Z M pc L (zI x :: zI i :: zR k :: st) σ := by
  rintro ⟨p, l, e, R, s, m, args, below, meth, c, adr, D, aC, A, cells, slots, Fin⟩ hm hf H locs ls hw hl
  obtain ⟨hx, hb, hml, hown, hts, hK, hSt, hA, hAk, hap, hR, hlk, hNs⟩ := id hf
  obtain ⟨hP, hS, hok⟩ := id hw
  have hq : (z_wl adr aC σ)[k]? = some (adr k, .inl (aC 1, n, .inl (fun j => Int32.ofInt (σ k j)))) := by rw [z_wl_get hn, hk]; rfl
  have hi2 := z_inx (z_sm hk hn) hi
  have hset : (z_wl adr aC σ).set k (adr k, .inl (aC 1, n, .inl (upd (fun j => Int32.ofInt (σ k j)) (Int32.ofInt i).toNatClampNeg (vp_nar .byte (Int32.ofInt x))))) = z_wl adr aC (z_put σ k i.toNat (z_i2bF x)) := by
    refine z_wl_set hn ?_ (fun i hi => z_put_ne hi)
    rw [vp_nar_byte, show (Int32.ofInt x).toInt8.toInt32 = Int32.ofInt (z_i2bF x) from (Int32.ofInt_toInt _).symm]
    rw [hk, hi2.2, z_upd, z_put_self]
    rfl
  refine va_bast hx hb hK hP (z_D hap hAk) hS k 1 hq rfl hi2.1 hd (fun H1 locs1 hP1 _ hS1 => ?_)
  rw [hset] at hP1
  have hok1 : z_ok (z_put σ k i.toNat (z_i2bF x)) := z_ok_put hok (by rw [hk]; exact (z_rng _))
  exact kk _ hm hf H1 locs1 ls ⟨hP1, hS1, hok1⟩ hl

theorem z_sast {M : z_M} {pc : Nat} {L : List (Option Value)} {st : List Value} {σ : Sto} {k n : Nat} {r : Nat → Nat} {i x : Int} (hd : decode M.1 pc = .ok (.sastore, 1)) (hk : z_lay k = .inr (2, n, r)) (hn : k < z_NC) (hi : 0 ≤ i ∧ i < n) (kk : Z M (pc + 1) L st (z_put σ k i.toNat (z_i2sF x))) : Z M pc L (zI x :: zI i :: zR k :: st) σ := by
  rintro ⟨p, l, e, R, s, m, args, below, meth, c, adr, D, aC, A, cells, slots, Fin⟩ hm hf H locs ls hw hl
  obtain ⟨hx, hb, hml, hown, hts, hK, hSt, hA, hAk, hap, hR, hlk, hNs⟩ := id hf
  obtain ⟨hP, hS, hok⟩ := id hw
  have hq : (z_wl adr aC σ)[k]? = some (adr k, .inl (aC 2, n, .inl (fun j => Int32.ofInt (σ k j)))) := by rw [z_wl_get hn, hk]; rfl
  have hi2 := z_inx (z_sm hk hn) hi
  have hset : (z_wl adr aC σ).set k (adr k, .inl (aC 2, n, .inl (upd (fun j => Int32.ofInt (σ k j)) (Int32.ofInt i).toNatClampNeg (vp_nar .short (Int32.ofInt x))))) = z_wl adr aC (z_put σ k i.toNat (z_i2sF x)) := by
    refine z_wl_set hn ?_ (fun i hi => z_put_ne hi)
    rw [vp_nar_short, show (Int32.ofInt x).toInt16.toInt32 = Int32.ofInt (z_i2sF x) from (Int32.ofInt_toInt _).symm]
    rw [hk, hi2.2, z_upd, z_put_self]
    rfl
  refine va_sast hx hb hK hP (z_D hap hAk) hS k 2 hq rfl hi2.1 hd (fun H1 locs1 hP1 _ hS1 => ?_)
  rw [hset] at hP1
  have hok1 : z_ok (z_put σ k i.toNat (z_i2sF x)) := z_ok_put hok (by rw [hk]; exact (z_rng _))
  exact kk _ hm hf H1 locs1 ls ⟨hP1, hS1, hok1⟩ hl

theorem z_zast {M : z_M} {pc : Nat} {L : List (Option Value)} {st : List Value} {σ : Sto} {k n : Nat} {r : Nat → Nat} {i x : Int} (hd : decode M.1 pc = .ok (.bastore, 1)) (hk : z_lay k = .inr (3, n, r)) (hn : k < z_NC) (hi : 0 ≤ i ∧ i < n) (hb2 : x = 0 ∨ x = 1) (kk : Z M (pc + 1) L st (z_put σ k i.toNat x)) : Z M pc L (zI x :: zI i :: zR k :: st) σ := by
  rintro ⟨p, l, e, R, s, m, args, below, meth, c, adr, D, aC, A, cells, slots, Fin⟩ hm hf H locs ls hw hl
  obtain ⟨hx, hb, hml, hown, hts, hK, hSt, hA, hAk, hap, hR, hlk, hNs⟩ := id hf
  obtain ⟨hP, hS, hok⟩ := id hw
  have hq : (z_wl adr aC σ)[k]? = some (adr k, .inl (aC 3, n, .inl (fun j => Int32.ofInt (σ k j)))) := by rw [z_wl_get hn, hk]; rfl
  have hi2 := z_inx (z_sm hk hn) hi
  have hset : (z_wl adr aC σ).set k (adr k, .inl (aC 3, n, .inl (upd (fun j => Int32.ofInt (σ k j)) (Int32.ofInt i).toNatClampNeg (vp_nar .boolean (Int32.ofInt x))))) = z_wl adr aC (z_put σ k i.toNat x) := by
    refine z_wl_set hn ?_ (fun i hi => z_put_ne hi)
    rw [show vp_nar .boolean (Int32.ofInt x) = Int32.ofInt x by rcases hb2 with rfl | rfl <;> decide +kernel]
    rw [hk, hi2.2, z_upd, z_put_self]
    rfl
  refine va_zast hx hb hK hP (z_D hap hAk) hS k 3 hq rfl hi2.1 hd (fun H1 locs1 hP1 _ hS1 => ?_)
  rw [hset] at hP1
  have hok1 : z_ok (z_put σ k i.toNat x) := z_ok_put hok (by rw [hk]; exact (show inR x by omega))
  exact kk _ hm hf H1 locs1 ls ⟨hP1, hS1, hok1⟩ hl

theorem z_last {M : z_M} {pc : Nat} {L : List (Option Value)} {st : List Value} {σ : Sto} {k n : Nat} {r : Nat → Nat} {i x : Int} (hd : decode M.1 pc = .ok (.lastore, 1)) (hk : z_lay k = .inr (4, n, r)) (hn : k < z_NC) (hi : 0 ≤ i ∧ i < n) (hr : inJ x) (kk : Z M (pc + 1) L st (z_put σ k i.toNat x)) : Z M pc L (zJ x :: zI i :: zR k :: st) σ := by
  rintro ⟨p, l, e, R, s, m, args, below, meth, c, adr, D, aC, A, cells, slots, Fin⟩ hm hf H locs ls hw hl
  obtain ⟨hx, hb, hml, hown, hts, hK, hSt, hA, hAk, hap, hR, hlk, hNs⟩ := id hf
  obtain ⟨hP, hS, hok⟩ := id hw
  have hq : (z_wl adr aC σ)[k]? = some (adr k, .inl (aC 4, n, .inr (.inl (fun j => Int64.ofInt (σ k j))))) := by rw [z_wl_get hn, hk]; rfl
  have hi2 := z_inx (z_sm hk hn) hi
  have hset : (z_wl adr aC σ).set k (adr k, .inl (aC 4, n, .inr (.inl (vp_updL (fun j => Int64.ofInt (σ k j)) (Int32.ofInt i).toNatClampNeg (Int64.ofInt x))))) = z_wl adr aC (z_put σ k i.toNat x) := by
    refine z_wl_set hn ?_ (fun i hi => z_put_ne hi)
    rw [hk, hi2.2, z_updJ, z_put_self]
    rfl
  refine va_last hx hb hK hP (z_D hap hAk) hS k 4 hq rfl hi2.1 hd (fun H1 locs1 hP1 _ hS1 => ?_)
  rw [hset] at hP1
  have hok1 : z_ok (z_put σ k i.toNat x) := z_ok_put hok (by rw [hk]; exact hr)
  exact kk _ hm hf H1 locs1 ls ⟨hP1, hS1, hok1⟩ hl

theorem z_alen {M : z_M} {pc : Nat} {L : List (Option Value)} {st : List Value} {σ : Sto} {k t n : Nat} {r : Nat → Nat} (hd : decode M.1 pc = .ok (.arraylength, 1)) (hk : z_lay k = .inr (t, n, r)) (ht : t < 7) (hn : k < z_NC) (kk : Z M (pc + 1) L (zI n :: st) σ) : Z M pc L (zR k :: st) σ := by
  rintro ⟨p, l, e, R, s, m, args, below, meth, c, adr, D, aC, A, cells, slots, Fin⟩ hm hf H locs ls hw hl
  obtain ⟨hx, hb, hml, hown, hts, hK, hSt, hA, hAk, hap, hR, hlk, hNs⟩ := id hf
  obtain ⟨hP, hS, hok⟩ := id hw
  have hq : (z_wl adr aC σ)[k]? = some (adr k, .inl (aC t, n, z_arr adr (σ k) t r)) := by rw [z_wl_get hn, hk]; rfl
  have ht2 : ∃ ty, (z_tys aC)[t]? = some (aC t, ty) := by
    match t, ht with
    | 0, _ => exact ⟨_, rfl⟩
    | 1, _ => exact ⟨_, rfl⟩
    | 2, _ => exact ⟨_, rfl⟩
    | 3, _ => exact ⟨_, rfl⟩
    | 4, _ => exact ⟨_, rfl⟩
    | 5, _ => exact ⟨_, rfl⟩
    | 6, _ => exact ⟨_, rfl⟩
  obtain ⟨ty, ht2⟩ := ht2
  have k2 : W p l e R s m args below meth c H locs cells slots Fin (F0 m (pc + 1) ls (.int (Int32.ofInt n) :: st.map (z_emb adr))) := kk (p, l, e, R, s, m, args, below, meth, c, adr, D, aC, A, cells, slots, Fin) hm hf H locs ls hw hl
  exact va_alen hx hb hK hP k t hq ht2 (by rw [Int32.ofInt_eq_ofNat]) hd k2
theorem z_aald {M : z_M} {pc : Nat} {L : List (Option Value)} {st : List Value} {σ : Sto} {k t n : Nat} {r : Nat → Nat} {i : Int} (hd : decode M.1 pc = .ok (.aaload, 1)) (hk : z_lay k = .inr (t, n, r)) (ht : t = 5 ∨ t = 6) (hn : k < z_NC) (hi : 0 ≤ i ∧ i < n) (kk : Z M (pc + 1) L (zR (r i.toNat) :: st) σ) : Z M pc L (zI i :: zR k :: st) σ := by
  rintro ⟨p, l, e, R, s, m, args, below, meth, c, adr, D, aC, A, cells, slots, Fin⟩ hm hf H locs ls hw hl
  obtain ⟨hx, hb, hml, hown, hts, hK, hSt, hA, hAk, hap, hR, hlk, hNs⟩ := id hf
  obtain ⟨hP, hS, hok⟩ := id hw
  have hi2 := z_inx (z_sm hk hn) hi
  have hq : (z_wl adr aC σ)[k]? = some (adr k, .inl (aC t, n, .inr (.inr (.inr (.inr (fun j => some (adr (r j)))))))) := by
    rw [z_wl_get hn, hk]
    rcases ht with rfl | rfl <;> rfl
  have ht2 : ∃ ty, (z_tys aC)[t]? = some (aC t, ty) ∧ ty.isReference = true := by rcases ht with rfl | rfl <;> exact ⟨_, rfl, rfl⟩
  obtain ⟨ty, ht2, ht3⟩ := ht2
  have k2 : W p l e R s m args below meth c H locs cells slots Fin (F0 m (pc + 1) ls (.ref (adr (r i.toNat)) :: st.map (z_emb adr))) := kk (p, l, e, R, s, m, args, below, meth, c, adr, D, aC, A, cells, slots, Fin) hm hf H locs ls hw hl
  have hc := hP k _ hq
  have hin : ¬ (Int32.ofInt i < 0 ∨ n ≤ (Int32.ofInt i).toNatClampNeg) := hi2.1
  refine W.aald hx hb (v := .ref (adr (r i.toNat))) hc ((hK.2 t _ ht2).1 n (fun j => va_rf (some (adr (r j))))) ht3 (fun q => by cases q) (by show ¬ (_ ∨ (arrV _ _ _).slots.size ≤ _); rw [arrV_size]; exact hin) ?_ rfl rfl hd k2
  show (arrV (aC t) n (fun j => va_rf (some (adr (r j))))).slots[_]? = _
  rw [hi2.2, arrV_read _ _ (by omega)]
  rfl
theorem z_gets {M : z_M} {pc : Nat} {L : List (Option Value)} {st : List Value} {σ : Sto} {idx k : Nat} {C nm : String} {tab : List Int} (hd : decode M.1 pc = .ok (.getstatic idx, 3)) (hq : (k, C, nm, tab) ∈ z_stats) (hl0 : Cond.fieldLink M.2.1 idx C nm "[I" ∈ z_all) (kk : Z M (pc + 3) L (zR k :: st) σ) : Z M pc L st σ := by
  rintro ⟨p, l, e, R, s, m, args, below, meth, c, adr, D, aC, A, cells, slots, Fin⟩ hm hf H locs ls hw hl
  obtain ⟨hx, hb, hml, hown, hts, hK, hSt, hA, hAk, hap, hR, hlk, hNs⟩ := id hf
  obtain ⟨hP, hS, hok⟩ := id hw
  exact va_gets hx hb (hSt _ hq).1 hS hown (hts _ hl0) (fun _ h9 => h9) hd (kk _ hm hf H locs ls hw hl)
theorem z_sld {M : z_M} {pc : Nat} {L : List (Option Value)} {st : List Value} {σ : Sto} {k : Nat} {i : Int} {C nm : String} {tab : List Int} (hd : decode M.1 pc = .ok (.iaload, 1)) (hq : (k, C, nm, tab) ∈ z_stats) (hlen : tab.length ≤ 2000) (hi : 0 ≤ i ∧ i < tab.length) (kk : Z M (pc + 1) L (zI (tab.getD i.toNat 0) :: st) σ) : Z M pc L (zI i :: zR k :: st) σ := by
  rintro ⟨p, l, e, R, s, m, args, below, meth, c, adr, D, aC, A, cells, slots, Fin⟩ hm hf H locs ls hw hl
  obtain ⟨hx, hb, hml, hown, hts, hK, hSt, hA, hAk, hap, hR, hlk, hNs⟩ := id hf
  obtain ⟨hP, hS, hok⟩ := id hw
  have hi2 := z_inx hlen hi
  have k2 : W p l e R s m args below meth c H locs cells slots Fin (F0 m (pc + 1) ls (.int (Int32.ofInt (tab.getD i.toNat 0)) :: st.map (z_emb adr))) := kk (p, l, e, R, s, m, args, below, meth, c, adr, D, aC, A, cells, slots, Fin) hm hf H locs ls hw hl
  exact va_sld hx hb (hSt _ hq).2.1 (hSt _ hq).2.2.1 (hSt _ hq).2.2.2 hS hi2.1 hd (by rw [hi2.2]; exact k2)
theorem z_slen {M : z_M} {pc : Nat} {L : List (Option Value)} {st : List Value} {σ : Sto} {k : Nat} {C nm : String} {tab : List Int} {n : Int} (hd : decode M.1 pc = .ok (.arraylength, 1)) (hq : (k, C, nm, tab) ∈ z_stats) (hn : (tab.length : Int) = n) (kk : Z M (pc + 1) L (zI n :: st) σ) : Z M pc L (zR k :: st) σ := by
  rintro ⟨p, l, e, R, s, m, args, below, meth, c, adr, D, aC, A, cells, slots, Fin⟩ hm hf H locs ls hw hl
  obtain ⟨hx, hb, hml, hown, hts, hK, hSt, hA, hAk, hap, hR, hlk, hNs⟩ := id hf
  obtain ⟨hP, hS, hok⟩ := id hw
  subst hn
  have k2 : W p l e R s m args below meth c H locs cells slots Fin (F0 m (pc + 1) ls (.int (Int32.ofInt (tab.length : Nat)) :: st.map (z_emb adr))) := kk (p, l, e, R, s, m, args, below, meth, c, adr, D, aC, A, cells, slots, Fin) hm hf H locs ls hw hl
  rw [Int32.ofInt_eq_ofNat] at k2
  exact va_slen hx hb (hSt _ hq).2.1 (hSt _ hq).2.2.1 (hSt _ hq).2.2.2 hS hd k2
/-! ===== calls ===== -/
/-- what a call's start needs of the callee's contract, out of the caller's world -/
theorem z_start {σ : Sto} {adr : Nat → Nat} {D : va_G} {aC : Nat → ClassId} {A : Nat → Prop} {s : State} {H : Heap} {locs : List Loc} {av : List Value} (hP : va_P D vwCl (z_wl adr aC σ) H) (hS : va_S A s.heap H locs) (hK : va_K D vwCl (z_tys aC) s) (hap : z_apart adr) (hSt : z_St adr A s s.heap) (hA : ∀ q, s.heap.size ≤ q → A q) (hAk : ∀ k, k < z_NC → A (adr k)) (hNs : z_Ns s) (hok : z_ok σ) :
    FrameBlind (z_Pc av σ adr D aC H.size) ∧ (∀ U : State, U.heap = H → s.WarmedH U.vm → z_Pc av σ adr D aC H.size (av.map (z_emb adr)).toArray U) ∧ ∀ q, z_A adr H.size q → A q := by
  have hsub : ∀ q, z_A adr H.size q → A q := by
    rintro q (⟨k, hk, rfl⟩ | h)
    · exact hAk k hk
    · exact hA q (Nat.le_trans hS.1 h)
  refine ⟨?_, ?_, hsub⟩
  · rintro a U g mk ⟨h0, h1, h2, h3, h4, h5, h6, h7⟩
    exact ⟨h0, h1, h2, va_K.moved (u := U) (U := U.calling g mk a) (Vm.Alike.refl U.vm) h3, h4, z_St.moved (u := U) (U := U.calling g mk a) (Vm.Alike.refl U.vm) h5, z_Ns.same (u := U) (U := U.calling g mk a) rfl h6, h7⟩
  · intro U hU hW
    refine ⟨rfl, by rw [hU], by rw [hU]; exact hP, va_K.moved hW.alike hK, hap, ?_, z_Ns.warm hW hNs, hok⟩
    rw [hU]
    exact z_St.moved hW.alike (z_St.go hSt (fun q h1 h2 => hS.2.1 q h1 h2) hS.1 hsub)
theorem z_back {M : z_M} {pc : Nat} {L : List (Option Value)} {rest : List Value} {P : Option Value → Sto → Prop} {p : Program} {l : Launch} {e : Env} {R : Room} {s : State} {m : MethodId} {args : Array Value} {below : List Frame} {meth : Method} {c : Code} {adr : Nat → Nat} {D : va_G} {aC : Nat → ClassId} {A : Nat → Prop} {cells slots : Nat} {Fin : State → Prop} {H : Heap} {locs : List Loc} {ls : Array Slot} {st0 : List Value} {a : Array Value}
    (hm : M.2.2.2.2 (p, l, e, R, s, m, args, below, meth, c, adr, D, aC, A, cells, slots, Fin)) (hf : z_Fit M (p, l, e, R, s, m, args, below, meth, c, adr, D, aC, A, cells, slots, Fin)) (hS : va_S A s.heap H locs) (hl : z_LR (p, l, e, R, s, m, args, below, meth, c, adr, D, aC, A, cells, slots, Fin) M.2.2.1 L ls) (hsub : ∀ q, z_A adr H.size q → A q)
    (hr : va_Run p l e R s m args below meth c H locs cells slots 0 0 (F0 m pc ls st0) (rest.map (z_emb adr)) (z_Q adr D aC P (z_A adr H.size) a) (z_A adr H.size))
    (k : ∀ r σ', P r σ' → Z M (pc + 3) L (r.toList ++ rest) σ') : W p l e R s m args below meth c H locs cells slots Fin (F0 m pc ls st0) := by
  intro T hT X
  obtain ⟨v, st₀, t, T', LL, h0, X', hL, e1, e2, ⟨⟨r, σ', hv, hp, hb, hok'⟩, hz, hk⟩, go⟩ := hr T hT X
  cases hv
  rw [h0] at hz hk
  have hS' : va_S A s.heap T'.heap (locs ++ LL) := ⟨Nat.le_trans hS.1 (by rw [e1]; exact hz), fun q h1 h2 => by rw [e1, hk q (Nat.lt_of_lt_of_le h1 hS.1) (fun z => h2 (hsub q z))]; exact hS.2.1 q h1 h2, fun q hq => by
      rcases List.mem_append.mp hq with h | h
      · exact hS.2.2 q h
      · exact hsub _ (hL q h)⟩
  have kk := k r σ' hp (p, l, e, R, s, m, args, below, meth, c, adr, D, aC, A, cells, slots, Fin) hm hf T'.heap (locs ++ LL) ls ⟨by rw [e1]; exact hb, hS', hok'⟩ hl
  have he : (r.toList ++ rest).map (z_emb adr) = (r.map (z_emb adr)).toList ++ rest.map (z_emb adr) := by
    rw [List.map_append]
    cases r <;> rfl
  have kk2 : W p l e R s m args below meth c T'.heap (locs ++ LL) cells slots Fin (F0 m (pc + 3) ls ((r.map (z_emb adr)).toList ++ rest.map (z_emb adr))) := by
    rw [← he]
    exact kk
  obtain ⟨t2, a1, b1⟩ := kk2 T' rfl X'
  exact ⟨t2, go t2 a1, b1⟩
theorem z_cats {adr : Nat → Nat} : ∀ rest : List Value, ((rest.map (z_emb adr)).map fun v => v.category).sum = (rest.map fun v => v.category).sum
  | [] => rfl
  | v :: l => by simp only [List.map_cons, List.sum_cons, z_emb_cat, z_cats l]

theorem z_callV {M : z_M} {pc : Nat} {L : List (Option Value)} {rest st0 : List Value} {σ : Sto} {d idx n b ci : Nat} {y : MethodName} {cc : ByteArray} {nL : Nat} {ret : Option FieldType} {av : List Value} {fs : List (Option Nat)} {P : Option Value → Sto → Prop} {T : u_T} {N : Nat} (hd : decode M.1 pc = .ok (.invokevirtual idx, 3)) (hc : z_CV M.2.1 idx y cc nL ret n) (hk : z_lay b = .inl (ci, fs)) (hn : b < z_NC) (hcl : vwCl[ci]? = some (y.cls, T, N)) (hlen : av.length = n) (hst : st0 = av.reverse ++ zR b :: rest) (hcat : (rest.map fun v => v.category).sum ≤ 8) (hdep : d + 1 ≤ M.2.2.2.1)
    (h : Does d y cc nL ret (zR b :: av) σ P) (k : ∀ r σ', P r σ' → Z M (pc + 3) L (r.toList ++ rest) σ') : Z M pc L st0 σ := by
  rintro ⟨p, l, e, R, s, m, args, below, meth, c, adr, D, aC, A, cells, slots, Fin⟩ hm hf H locs ls hw hl
  obtain ⟨hx, hb, hml, hown, hts, hK, hSt, hA, hAk, hap, hR, hlk, hNs⟩ := id hf
  obtain ⟨hP, hS, hok⟩ := id hw
  subst hst
  obtain ⟨c1, c2, c3, c4, c5, c6, c7⟩ := hc
  obtain ⟨s1, s2, s3⟩ := z_start (av := zR b :: av) hP hS hK hap hSt hA hAk hNs hok
  have hq : (z_wl adr aC σ)[b]? = some (adr b, .inr (ci, z_flds adr (σ b) 0 fs)) := by rw [z_wl_get hn, hk]; rfl
  have hmap : (av.reverse ++ zR b :: rest).map (z_emb adr) = (av.map (z_emb adr)).reverse ++ .ref (adr b) :: rest.map (z_emb adr) := by
    rw [List.map_append, List.map_reverse]; rfl
  show W p l e R s m args below meth c H locs cells slots Fin (F0 m pc ls ((av.reverse ++ zR b :: rest).map (z_emb adr)))
  rw [hmap]
  refine z_back (L := L) hm hf hS hl s3 (va_runV (Ts := z_all) (C := y.cls) (As := av.map (z_emb adr)) (b := adr b) (rest := rest.map (z_emb adr)) (g := F0 m pc ls ((av.map (z_emb adr)).reverse ++ .ref (adr b) :: rest.map (z_emb adr))) ⟨hx, hb, hml, hown, hts⟩ (h l adr D aC H.size) ⟨callB_of n hts (z_good c5) rfl rfl rfl (hts _ c4) (hts _ c1) c6 ⟨?_, ?_⟩, hts _ c2, hts _ c3⟩ ⟨s1, va_recv hK hP (q0 := b) hcl hq, s2⟩ rfl (by rw [List.length_map]; exact hlen) hl.1 rfl ?_ hd ⟨by have := hR.2.2.1; omega, by have := hR.2.2.2; omega⟩) k
  · show d + 1 ≤ R.frames
    have := hR.1
    omega
  · show 8 + (nL + 11) + 40 * d ≤ R.locals
    have := hR.2.1
    omega
  · show 2 * 0 + _ ≤ 8
    rw [z_cats]
    omega
theorem z_callS {M : z_M} {pc : Nat} {L : List (Option Value)} {rest st0 : List Value} {σ : Sto} {d idx n : Nat} {y : MethodName} {cc : ByteArray} {nL : Nat} {ret : Option FieldType} {av : List Value} {P : Option Value → Sto → Prop} (hd : decode M.1 pc = .ok (.invokestatic idx, 3)) (hc : z_CS M.2.1 idx y cc nL ret n) (hlen : av.length = n) (hst : st0 = av.reverse ++ rest) (hcat : (rest.map fun v => v.category).sum ≤ 8) (hdep : d + 1 ≤ M.2.2.2.1)
    (h : Does d y cc nL ret av σ P) (k : ∀ r σ', P r σ' → Z M (pc + 3) L (r.toList ++ rest) σ') : Z M pc L st0 σ := by
  rintro ⟨p, l, e, R, s, m, args, below, meth, c, adr, D, aC, A, cells, slots, Fin⟩ hm hf H locs ls hw hl
  obtain ⟨hx, hb, hml, hown, hts, hK, hSt, hA, hAk, hap, hR, hlk, hNs⟩ := id hf
  obtain ⟨hP, hS, hok⟩ := id hw
  subst hst
  obtain ⟨c1, c2, c4, c5, c6, c7⟩ := hc
  obtain ⟨s1, s2, s3⟩ := z_start (av := av) hP hS hK hap hSt hA hAk hNs hok
  have hmap : (av.reverse ++ rest).map (z_emb adr) = (av.map (z_emb adr)).reverse ++ rest.map (z_emb adr) := by
    rw [List.map_append, List.map_reverse]
  show W p l e R s m args below meth c H locs cells slots Fin (F0 m pc ls ((av.reverse ++ rest).map (z_emb adr)))
  rw [hmap]
  have r1 : (z_room d).frames + 1 ≤ R.frames := by
    show d + 1 ≤ R.frames
    have := hR.1
    omega
  have r2 : 8 + (nL + 11) + (z_room d).locals ≤ R.locals := by
    show 8 + (nL + 11) + 40 * d ≤ R.locals
    have := hR.2.1
    omega
  have r3 : 2 * (F0 m pc ls ((av.map (z_emb adr)).reverse ++ rest.map (z_emb adr))).monitorRoom + ((rest.map (z_emb adr)).map fun v => v.category).sum ≤ 8 := by
    show 2 * 0 + _ ≤ 8
    rw [z_cats]
    omega
  rcases c1 with c1 | ⟨host, c1⟩
  · exact z_back (L := L) hm hf hS hl s3 (va_runS (Ts := z_all) (As := av.map (z_emb adr)) (rest := rest.map (z_emb adr)) (g := F0 m pc ls ((av.map (z_emb adr)).reverse ++ rest.map (z_emb adr))) ⟨hx, hb, hml, hown, hts⟩ (h l adr D aC H.size) ⟨callB_of n hts (z_good c5) rfl rfl rfl (hts _ c4) (hts _ c1) c6 ⟨r1, r2⟩, hts _ c2⟩ ⟨s1, s2⟩ rfl (by rw [List.length_map]; exact hlen) hl.1 rfl r3 hd ⟨by have := hR.2.2.1; omega, by have := hR.2.2.2; omega⟩) k
  · exact z_back (L := L) hm hf hS hl s3 (va_runSN (Ts := z_all) (As := av.map (z_emb adr)) (rest := rest.map (z_emb adr)) (g := F0 m pc ls ((av.map (z_emb adr)).reverse ++ rest.map (z_emb adr))) ⟨hx, hb, hml, hown, hts⟩ (h l adr D aC H.size) ⟨va_cnB n hts (z_good c5) rfl rfl rfl (hNs _ c1) (hts _ c4) c6 ⟨r1, r2⟩, hts _ c2, trivial⟩ ⟨s1, s2⟩ rfl (by rw [List.length_map]; exact hlen) hl.1 rfl r3 hd ⟨by have := hR.2.2.1; omega, by have := hR.2.2.2; omega⟩) k

/-- the ways in which a call answers -/
def qI (P : Int → Sto → Prop) : Option Value → Sto → Prop := fun r σ => ∃ z, r = some (zI z) ∧ P z σ
def qJ (P : Int → Sto → Prop) : Option Value → Sto → Prop := fun r σ => ∃ z, r = some (zJ z) ∧ P z σ
def qV (P : Sto → Prop) : Option Value → Sto → Prop := fun r σ => r = none ∧ P σ
theorem z_callVI {M : z_M} {pc : Nat} {L : List (Option Value)} {rest st0 : List Value} {σ : Sto} {d idx n : Nat} {y : MethodName} {cc : ByteArray} {nL : Nat} {ret : Option FieldType} {av : List Value} {b ci : Nat} {fs : List (Option Nat)} {T : u_T} {N : Nat} {P : Int → Sto → Prop} (hd : decode M.1 pc = .ok (.invokevirtual idx, 3)) (hc : z_CV M.2.1 idx y cc nL ret n) (hk : z_lay b = .inl (ci, fs)) (hn : b < z_NC) (hcl : vwCl[ci]? = some (y.cls, T, N)) (hlen : av.length = n) (hst : st0 = av.reverse ++ zR b :: rest) (hcat : (rest.map fun v => v.category).sum ≤ 8) (hdep : d + 1 ≤ M.2.2.2.1)
    (h : Does d y cc nL ret (zR b :: av) σ (qI P)) (k : ∀ z σ', P z σ' → Z M (pc + 3) L (zI z :: rest) σ') : Z M pc L st0 σ := z_callV hd hc hk hn hcl hlen hst hcat hdep h (fun r σ' ⟨z, hr, hp⟩ => by subst hr; exact k z σ' hp)
theorem z_callVJ {M : z_M} {pc : Nat} {L : List (Option Value)} {rest st0 : List Value} {σ : Sto} {d idx n : Nat} {y : MethodName} {cc : ByteArray} {nL : Nat} {ret : Option FieldType} {av : List Value} {b ci : Nat} {fs : List (Option Nat)} {T : u_T} {N : Nat} {P : Int → Sto → Prop} (hd : decode M.1 pc = .ok (.invokevirtual idx, 3)) (hc : z_CV M.2.1 idx y cc nL ret n) (hk : z_lay b = .inl (ci, fs)) (hn : b < z_NC) (hcl : vwCl[ci]? = some (y.cls, T, N)) (hlen : av.length = n) (hst : st0 = av.reverse ++ zR b :: rest) (hcat : (rest.map fun v => v.category).sum ≤ 8) (hdep : d + 1 ≤ M.2.2.2.1)
    (h : Does d y cc nL ret (zR b :: av) σ (qJ P)) (k : ∀ z σ', P z σ' → Z M (pc + 3) L (zJ z :: rest) σ') : Z M pc L st0 σ := z_callV hd hc hk hn hcl hlen hst hcat hdep h (fun r σ' ⟨z, hr, hp⟩ => by subst hr; exact k z σ' hp)
theorem z_callVV {M : z_M} {pc : Nat} {L : List (Option Value)} {rest st0 : List Value} {σ : Sto} {d idx n : Nat} {y : MethodName} {cc : ByteArray} {nL : Nat} {ret : Option FieldType} {av : List Value} {b ci : Nat} {fs : List (Option Nat)} {T : u_T} {N : Nat} {P : Sto → Prop} (hd : decode M.1 pc = .ok (.invokevirtual idx, 3)) (hc : z_CV M.2.1 idx y cc nL ret n) (hk : z_lay b = .inl (ci, fs)) (hn : b < z_NC) (hcl : vwCl[ci]? = some (y.cls, T, N)) (hlen : av.length = n) (hst : st0 = av.reverse ++ zR b :: rest) (hcat : (rest.map fun v => v.category).sum ≤ 8) (hdep : d + 1 ≤ M.2.2.2.1)
    (h : Does d y cc nL ret (zR b :: av) σ (qV P)) (k : ∀ σ', P σ' → Z M (pc + 3) L rest σ') : Z M pc L st0 σ := z_callV hd hc hk hn hcl hlen hst hcat hdep h (fun r σ' ⟨hr, hp⟩ => by subst hr; exact k σ' hp)
theorem z_callSI {M : z_M} {pc : Nat} {L : List (Option Value)} {rest st0 : List Value} {σ : Sto} {d idx n : Nat} {y : MethodName} {cc : ByteArray} {nL : Nat} {ret : Option FieldType} {av : List Value} {P : Int → Sto → Prop} (hd : decode M.1 pc = .ok (.invokestatic idx, 3)) (hc : z_CS M.2.1 idx y cc nL ret n) (hlen : av.length = n) (hst : st0 = av.reverse ++ rest) (hcat : (rest.map fun v => v.category).sum ≤ 8) (hdep : d + 1 ≤ M.2.2.2.1)
    (h : Does d y cc nL ret av σ (qI P)) (k : ∀ z σ', P z σ' → Z M (pc + 3) L (zI z :: rest) σ') : Z M pc L st0 σ := z_callS hd hc hlen hst hcat hdep h (fun r σ' ⟨z, hr, hp⟩ => by subst hr; exact k z σ' hp)
theorem z_callSJ {M : z_M} {pc : Nat} {L : List (Option Value)} {rest st0 : List Value} {σ : Sto} {d idx n : Nat} {y : MethodName} {cc : ByteArray} {nL : Nat} {ret : Option FieldType} {av : List Value} {P : Int → Sto → Prop} (hd : decode M.1 pc = .ok (.invokestatic idx, 3)) (hc : z_CS M.2.1 idx y cc nL ret n) (hlen : av.length = n) (hst : st0 = av.reverse ++ rest) (hcat : (rest.map fun v => v.category).sum ≤ 8) (hdep : d + 1 ≤ M.2.2.2.1)
    (h : Does d y cc nL ret av σ (qJ P)) (k : ∀ z σ', P z σ' → Z M (pc + 3) L (zJ z :: rest) σ') : Z M pc L st0 σ := z_callS hd hc hlen hst hcat hdep h (fun r σ' ⟨z, hr, hp⟩ => by subst hr; exact k z σ' hp)
theorem z_callSV {M : z_M} {pc : Nat} {L : List (Option Value)} {rest st0 : List Value} {σ : Sto} {d idx n : Nat} {y : MethodName} {cc : ByteArray} {nL : Nat} {ret : Option FieldType} {av : List Value} {P : Sto → Prop} (hd : decode M.1 pc = .ok (.invokestatic idx, 3)) (hc : z_CS M.2.1 idx y cc nL ret n) (hlen : av.length = n) (hst : st0 = av.reverse ++ rest) (hcat : (rest.map fun v => v.category).sum ≤ 8) (hdep : d + 1 ≤ M.2.2.2.1)
    (h : Does d y cc nL ret av σ (qV P)) (k : ∀ σ', P σ' → Z M (pc + 3) L rest σ') : Z M pc L st0 σ := z_callS hd hc hlen hst hcat hdep h (fun r σ' ⟨hr, hp⟩ => by subst hr; exact k σ' hp)
/-! ===== ends ===== -/
theorem z_iret {cc : ByteArray} {own : String} {nL d pc : Nat} {P : Int → Sto → Prop} {L : List (Option Value)} {σ : Sto} {a : Int} (hd : decode cc pc = .ok (.ireturn, 1)) (h : P a σ) : Z (z_me cc own nL (some .int) d (qI P)) pc L [zI a] σ := by
  rintro ⟨p, l, e, R, s, m, args, below, meth, c, adr, D, aC, A, cells, slots, Fin⟩ hm hf H locs ls hw hl
  obtain ⟨hx, hb, hml, hown, hts, hK, hSt, hA, hAk, hap, hR, hlk, hNs⟩ := id hf
  obtain ⟨hP, hS, hok⟩ := id hw
  obtain ⟨hr, rfl, rfl, rfl⟩ := hm
  exact W.iret hx hb hr (fun t ht hW => ⟨⟨some (zI a), σ, rfl, ⟨a, rfl, h⟩, by rw [ht]; exact hP, hok⟩, hS.F ht⟩) hS.2.2 hd hlk
theorem z_zret {cc : ByteArray} {own : String} {nL d pc : Nat} {P : Int → Sto → Prop} {L : List (Option Value)} {σ : Sto} {a : Int} (hd : decode cc pc = .ok (.ireturn, 1)) (ha : a = 0 ∨ a = 1) (h : P a σ) : Z (z_me cc own nL (some .boolean) d (qI P)) pc L [zI a] σ := by
  rintro ⟨p, l, e, R, s, m, args, below, meth, c, adr, D, aC, A, cells, slots, Fin⟩ hm hf H locs ls hw hl
  obtain ⟨hx, hb, hml, hown, hts, hK, hSt, hA, hAk, hap, hR, hlk, hNs⟩ := id hf
  obtain ⟨hP, hS, hok⟩ := id hw
  obtain ⟨hr, rfl, rfl, rfl⟩ := hm
  exact W.zret hx hb hr (by rcases ha with rfl | rfl <;> decide +kernel) (fun t ht hW => ⟨⟨some (zI a), σ, rfl, ⟨a, rfl, h⟩, by rw [ht]; exact hP, hok⟩, hS.F ht⟩) hS.2.2 hd hlk
theorem z_lret {cc : ByteArray} {own : String} {nL d pc : Nat} {P : Int → Sto → Prop} {L : List (Option Value)} {σ : Sto} {a : Int} (hd : decode cc pc = .ok (.lreturn, 1)) (h : P a σ) : Z (z_me cc own nL (some .long) d (qJ P)) pc L [zJ a] σ := by
  rintro ⟨p, l, e, R, s, m, args, below, meth, c, adr, D, aC, A, cells, slots, Fin⟩ hm hf H locs ls hw hl
  obtain ⟨hx, hb, hml, hown, hts, hK, hSt, hA, hAk, hap, hR, hlk, hNs⟩ := id hf
  obtain ⟨hP, hS, hok⟩ := id hw
  obtain ⟨hr, rfl, rfl, rfl⟩ := hm
  exact W.lret hx hb hr (fun t ht hW => ⟨⟨some (zJ a), σ, rfl, ⟨a, rfl, h⟩, by rw [ht]; exact hP, hok⟩, hS.F ht⟩) hS.2.2 hd hlk
theorem z_vret {cc : ByteArray} {own : String} {nL d pc : Nat} {P : Sto → Prop} {L : List (Option Value)} {σ : Sto} (hd : decode cc pc = .ok (.return_, 1)) (h : P σ) : Z (z_me cc own nL none d (qV P)) pc L [] σ := by
  rintro ⟨p, l, e, R, s, m, args, below, meth, c, adr, D, aC, A, cells, slots, Fin⟩ hm hf H locs ls hw hl
  obtain ⟨hx, hb, hml, hown, hts, hK, hSt, hA, hAk, hap, hR, hlk, hNs⟩ := id hf
  obtain ⟨hP, hS, hok⟩ := id hw
  obtain ⟨hr, rfl, rfl, rfl⟩ := hm
  exact W.vret hx hb hr (fun t ht hW => ⟨⟨none, σ, rfl, ⟨rfl, h⟩, by rw [ht]; exact hP, hok⟩, hS.F ht⟩) hS.2.2 hd hlk
theorem Z.mono {cc : ByteArray} {own : String} {nL d pc : Nat} {ret : Option FieldType} {P Q : Option Value → Sto → Prop} {L : List (Option Value)} {st : List Value} {σ : Sto} (h : Z (z_me cc own nL ret d P) pc L st σ) (hPQ : ∀ r σ', P r σ' → Q r σ') : Z (z_me cc own nL ret d Q) pc L st σ := by
  rintro ⟨p, l, e, R, s, m, args, below, meth, c, adr, D, aC, A, cells, slots, Fin⟩ hm hf H locs ls hw hl
  obtain ⟨hr, h1, h2, h3⟩ := hm
  subst h1 h2 h3
  obtain ⟨hx, hb, hml, hown, hts, hK, hSt, hA, hAk, hap, hR, hlk, hNs⟩ := hf
  have hb : c.code = cc := hb
  have hml : c.maxLocals = nL := hml
  have hown : s.vm.findClass own = some m.cls := hown
  have hR : d ≤ R.frames ∧ 40 * d ≤ R.locals ∧ 0 ≤ R.cells ∧ 0 ≤ R.slots := hR
  have hl : lv_has ls nL (z_plf adr 0 L) := hl
  obtain ⟨hP, hS, hok⟩ := hw
  have hz := h (p, l, e, R, s, m, args, below, meth, c, adr, D, aC, A, 0, 0, MQ below (z_Q adr D aC P A) args s 0 0 A) ⟨hr, rfl, rfl, rfl⟩ ⟨hx, hb, hml, hown, hts, hK, hSt, hA, hAk, hap, hR, hlk, hNs⟩ H locs ls ⟨hP, hS, hok⟩ hl
  have hz : W p l e R s m args below meth c H locs 0 0 (MQ below (z_Q adr D aC P A) args s 0 0 A) (F0 m pc ls (st.map (z_emb adr))) := hz
  show W p l e R s m args below meth c H locs 0 0 (MQ below (z_Q adr D aC Q A) args s 0 0 A) (F0 m pc ls (st.map (z_emb adr)))
  intro T hT X
  obtain ⟨t, a1, o, b1, b2, b3, b4⟩ := hz T hT X
  obtain ⟨⟨r, σ', e1, e2, e3⟩, e4⟩ := b3
  exact ⟨t, a1, o, b1, b2, ⟨⟨r, σ', e1, hPQ r σ' e2, e3⟩, e4⟩, b4⟩
/-! ===== switches, min, copies, forgetting ===== -/
theorem z_tabIn {M : z_M} {pc : Nat} {L : List (Option Value)} {st : List Value} {σ : Sto} {dflt lo hi a off : Int} {offs : Array Int} {len tgt : Nat} (hd : decode M.1 pc = .ok (.tableswitch dflt lo hi offs, len)) (ha : inR a) (h1 : lo ≤ a) (h2 : a ≤ hi) (ho : offs[(a - lo).toNat]? = some off) (ht : (pc : Int) + off = (tgt : Int)) (k : Z M tgt L st σ) : Z M pc L (zI a :: st) σ := by
  rintro ⟨p, l, e, R, s, m, args, below, meth, c, adr, D, aC, A, cells, slots, Fin⟩ hm hf H locs ls hw hl
  obtain ⟨hx, hb, hml, hown, hts, hK, hSt, hA, hAk, hap, hR, hlk, hNs⟩ := id hf
  obtain ⟨hP, hS, hok⟩ := id hw
  exact lv_tableIn hx hb hd (by rw [z_toInt ha]; omega) (by rw [z_toInt ha]; omega) (by rw [z_toInt ha]; exact ho) ht (k _ hm hf H locs ls hw hl)
theorem z_tabOut {M : z_M} {pc : Nat} {L : List (Option Value)} {st : List Value} {σ : Sto} {dflt lo hi a : Int} {offs : Array Int} {len tgt : Nat} (hd : decode M.1 pc = .ok (.tableswitch dflt lo hi offs, len)) (ha : inR a) (h1 : a < lo ∨ hi < a) (ht : (pc : Int) + dflt = (tgt : Int)) (k : Z M tgt L st σ) : Z M pc L (zI a :: st) σ := by
  rintro ⟨p, l, e, R, s, m, args, below, meth, c, adr, D, aC, A, cells, slots, Fin⟩ hm hf H locs ls hw hl
  obtain ⟨hx, hb, hml, hown, hts, hK, hSt, hA, hAk, hap, hR, hlk, hNs⟩ := id hf
  obtain ⟨hP, hS, hok⟩ := id hw
  exact lv_tableOut hx hb hd (by rw [z_toInt ha]; exact h1) ht (k _ hm hf H locs ls hw hl)
theorem z_lookup {M : z_M} {pc : Nat} {L : List (Option Value)} {st : List Value} {σ : Sto} {dflt a off : Int} {ps : Array (Int × Int)} {len tgt : Nat} (hd : decode M.1 pc = .ok (.lookupswitch dflt ps, len)) (ha : inR a) (hp : (ps.toList.zip (ps.toList.drop 1)).all (fun (a, next) => a.1 < next.1) = true) (ho : Op.lookupswitch.offset ps.toList dflt a = off) (ht : (pc : Int) + off = (tgt : Int)) (k : Z M tgt L st σ) : Z M pc L (zI a :: st) σ := by
  rintro ⟨p, l, e, R, s, m, args, below, meth, c, adr, D, aC, A, cells, slots, Fin⟩ hm hf H locs ls hw hl
  obtain ⟨hx, hb, hml, hown, hts, hK, hSt, hA, hAk, hap, hR, hlk, hNs⟩ := id hf
  obtain ⟨hP, hS, hok⟩ := id hw
  exact lv_lookup hx hb hd hp (by rw [z_toInt ha]; exact ho) ht (k _ hm hf H locs ls hw hl)
theorem z_min {M : z_M} {pc : Nat} {L : List (Option Value)} {st : List Value} {σ : Sto} {idx : Nat} {a b : Int} (hd : decode M.1 pc = .ok (.invokestatic idx, 3)) (hc : z_CM M.2.1 idx) (ha : inR a) (hb0 : inR b) (hcat : (st.map fun v => v.category).sum ≤ 8) (hdep : 1 ≤ M.2.2.2.1) (k : Z M (pc + 3) L (zI (min a b) :: st) σ) : Z M pc L (zI b :: zI a :: st) σ := by
  rintro ⟨p, l, e, R, s, m, args, below, meth, c, adr, D, aC, A, cells, slots, Fin⟩ hm hf H locs ls hw hl
  obtain ⟨hx, hb, hml, hown, hts, hK, hSt, hA, hAk, hap, hR, hlk, hNs⟩ := id hf
  obtain ⟨hP, hS, hok⟩ := id hw
  have kk : W p l e R s m args below meth c H locs cells slots Fin (F0 m (pc + 3) ls (.int (Int32.ofInt (min a b)) :: st.map (z_emb adr))) := k (p, l, e, R, s, m, args, below, meth, c, adr, D, aC, A, cells, slots, Fin) hm hf H locs ls hw hl
  have he : (if Int32.ofInt b < Int32.ofInt a then Int32.ofInt b else Int32.ofInt a) = Int32.ofInt (min a b) := by
    by_cases h : b < a
    · rw [if_pos ((z_lt hb0 ha).mpr h), show min a b = b by omega]
    · rw [if_neg (fun q => h ((z_lt hb0 ha).mp q)), show min a b = a by omega]
  exact va_mmin hx hb (by rw [hml]; exact hl.1.symm) hown (hts _ hc.1) (hts _ hc.2.1) (hts _ hc.2.2.1) (hts _ hc.2.2.2) (by have := hR.1; omega) (by rw [z_cats]; have := hR.2.1; omega) hR.2.2.1 hR.2.2.2 hd (by rw [he]; exact kk)
theorem z_lcR (a b : Int) : inR (z_lcmpF a b) := by unfold z_lcmpF; split; exact ⟨by decide, by decide⟩; split <;> exact ⟨by decide, by decide⟩
theorem z_lc_eq {M : z_M} {pc : Nat} {L : List (Option Value)} {st : List Value} {σ : Sto} {a b off : Int} {tgt : Nat} (hd : decode M.1 pc = .ok (.lcmp, 1)) (hd2 : decode M.1 (pc + 1) = .ok (.ifCond .eq off, 3)) (ht : ((pc + 1 : Nat) : Int) + off = (tgt : Int)) (ha : inJ a) (hb0 : inJ b) (kt : a = b → Z M tgt L st σ) (kf : a ≠ b → Z M (pc + 4) L st σ) : Z M pc L (zJ b :: zJ a :: st) σ := by
  refine z_lcmp hd ha hb0 (z_if_eq hd2 ht (z_lcR a b) (fun h => kt ?_) (fun h => kf ?_))
  · unfold z_lcmpF at h; split at h <;> (try split at h) <;> omega
  · unfold z_lcmpF at h; split at h <;> (try split at h) <;> omega
theorem z_lc_ne {M : z_M} {pc : Nat} {L : List (Option Value)} {st : List Value} {σ : Sto} {a b off : Int} {tgt : Nat} (hd : decode M.1 pc = .ok (.lcmp, 1)) (hd2 : decode M.1 (pc + 1) = .ok (.ifCond .ne off, 3)) (ht : ((pc + 1 : Nat) : Int) + off = (tgt : Int)) (ha : inJ a) (hb0 : inJ b) (kt : a ≠ b → Z M tgt L st σ) (kf : a = b → Z M (pc + 4) L st σ) : Z M pc L (zJ b :: zJ a :: st) σ := by
  refine z_lcmp hd ha hb0 (z_if_ne hd2 ht (z_lcR a b) (fun h => kt ?_) (fun h => kf ?_))
  · unfold z_lcmpF at h; split at h <;> (try split at h) <;> omega
  · unfold z_lcmpF at h; split at h <;> (try split at h) <;> omega
theorem z_lc_lt {M : z_M} {pc : Nat} {L : List (Option Value)} {st : List Value} {σ : Sto} {a b off : Int} {tgt : Nat} (hd : decode M.1 pc = .ok (.lcmp, 1)) (hd2 : decode M.1 (pc + 1) = .ok (.ifCond .lt off, 3)) (ht : ((pc + 1 : Nat) : Int) + off = (tgt : Int)) (ha : inJ a) (hb0 : inJ b) (kt : a < b → Z M tgt L st σ) (kf : b ≤ a → Z M (pc + 4) L st σ) : Z M pc L (zJ b :: zJ a :: st) σ := by
  refine z_lcmp hd ha hb0 (z_if_lt hd2 ht (z_lcR a b) (fun h => kt ?_) (fun h => kf ?_))
  · unfold z_lcmpF at h; split at h <;> (try split at h) <;> omega
  · unfold z_lcmpF at h; split at h <;> (try split at h) <;> omega
theorem z_lc_ge {M : z_M} {pc : Nat} {L : List (Option Value)} {st : List Value} {σ : Sto} {a b off : Int} {tgt : Nat} (hd : decode M.1 pc = .ok (.lcmp, 1)) (hd2 : decode M.1 (pc + 1) = .ok (.ifCond .ge off, 3)) (ht : ((pc + 1 : Nat) : Int) + off = (tgt : Int)) (ha : inJ a) (hb0 : inJ b) (kt : b ≤ a → Z M tgt L st σ) (kf : a < b → Z M (pc + 4) L st σ) : Z M pc L (zJ b :: zJ a :: st) σ := by
  refine z_lcmp hd ha hb0 (z_if_ge hd2 ht (z_lcR a b) (fun h => kt ?_) (fun h => kf ?_))
  · unfold z_lcmpF at h; split at h <;> (try split at h) <;> omega
  · unfold z_lcmpF at h; split at h <;> (try split at h) <;> omega
theorem z_lc_gt {M : z_M} {pc : Nat} {L : List (Option Value)} {st : List Value} {σ : Sto} {a b off : Int} {tgt : Nat} (hd : decode M.1 pc = .ok (.lcmp, 1)) (hd2 : decode M.1 (pc + 1) = .ok (.ifCond .gt off, 3)) (ht : ((pc + 1 : Nat) : Int) + off = (tgt : Int)) (ha : inJ a) (hb0 : inJ b) (kt : b < a → Z M tgt L st σ) (kf : a ≤ b → Z M (pc + 4) L st σ) : Z M pc L (zJ b :: zJ a :: st) σ := by
  refine z_lcmp hd ha hb0 (z_if_gt hd2 ht (z_lcR a b) (fun h => kt ?_) (fun h => kf ?_))
  · unfold z_lcmpF at h; split at h <;> (try split at h) <;> omega
  · unfold z_lcmpF at h; split at h <;> (try split at h) <;> omega
theorem z_lc_le {M : z_M} {pc : Nat} {L : List (Option Value)} {st : List Value} {σ : Sto} {a b off : Int} {tgt : Nat} (hd : decode M.1 pc = .ok (.lcmp, 1)) (hd2 : decode M.1 (pc + 1) = .ok (.ifCond .le off, 3)) (ht : ((pc + 1 : Nat) : Int) + off = (tgt : Int)) (ha : inJ a) (hb0 : inJ b) (kt : a ≤ b → Z M tgt L st σ) (kf : b < a → Z M (pc + 4) L st σ) : Z M pc L (zJ b :: zJ a :: st) σ := by
  refine z_lcmp hd ha hb0 (z_if_le hd2 ht (z_lcR a b) (fun h => kt ?_) (fun h => kf ?_))
  · unfold z_lcmpF at h; split at h <;> (try split at h) <;> omega
  · unfold z_lcmpF at h; split at h <;> (try split at h) <;> omega
/-- n elements from sp on of cell k0 come to cell k1 from dp on -/
def z_cp (σ : Sto) (k0 k1 : Nat) (sp dp n : Nat) : Sto := fun a b => if a = k1 then (if dp ≤ b ∧ b < dp + n then σ k0 (sp + (b - dp)) else σ a b) else σ a b
def z_CC (own : String) (idx : Nat) : Prop := Cond.methodLink own idx arraycopyName ∈ z_all ∧ Cond.native arraycopyName ∈ z_all ∧ Cond.static arraycopyName ∈ z_all ∧ Cond.initialized "java/lang/System" ∈ z_all
theorem z_cl {a : Int} (h0 : 0 ≤ a) (h1 : a ≤ 2000) : ¬ Int32.ofInt a < 0 ∧ (Int32.ofInt a).toNatClampNeg = a.toNat := by
  have h2 : (Int32.ofInt a).toInt = a := z_toInt ⟨by omega, by omega⟩
  refine ⟨fun q => ?_, by rw [show (Int32.ofInt a).toNatClampNeg = (Int32.ofInt a).toInt.toNat from rfl, h2]⟩
  rw [Int32.lt_iff_toInt_lt, h2] at q
  have : (0 : Int32).toInt = 0 := rfl
  omega
theorem z_cp_ok {σ : Sto} (h : z_ok σ) {k0 k1 sp dp n : Nat} (hk : z_lay k0 = z_lay k1 ∨ ∀ x, z_rg (z_lay k0) x → z_rg (z_lay k1) x) (hn : k0 < z_NC) : z_ok (z_cp σ k0 k1 sp dp n) := by
  intro a b ha
  unfold z_cp
  by_cases h1 : a = k1
  · rw [if_pos h1]
    by_cases h2 : dp ≤ b ∧ b < dp + n
    · rw [if_pos h2, h1]
      rcases hk with hk | hk
      · rw [← hk]; exact h k0 _ hn
      · exact hk _ (h k0 _ hn)
    · rw [if_neg h2]; exact h a b ha
  · rw [if_neg h1]; exact h a b ha
theorem z_copyI {M : z_M} {pc : Nat} {L : List (Option Value)} {st : List Value} {σ : Sto} {idx k0 k1 n0 n1 : Nat} {r0 r1 : Nat → Nat} {sp dp n : Int} (hd : decode M.1 pc = .ok (.invokestatic idx, 3)) (hc : z_CC M.2.1 idx) (hk0 : z_lay k0 = .inr (0, n0, r0)) (hn0 : k0 < z_NC) (hk1 : z_lay k1 = .inr (0, n1, r1)) (hn1 : k1 < z_NC) (h1 : 0 ≤ sp) (h2 : 0 ≤ dp) (h3 : 0 ≤ n) (h4 : sp + n ≤ n0) (h5 : dp + n ≤ n1) (hcat : (st.map fun v => v.category).sum ≤ 8) (hdep : 1 ≤ M.2.2.2.1) (kk : Z M (pc + 3) L st (z_cp σ k0 k1 sp.toNat dp.toNat n.toNat)) : Z M pc L (zI n :: zI dp :: zR k1 :: zI sp :: zR k0 :: st) σ := by
  rintro ⟨p, l, e, R, s, m, args, below, meth, c, adr, D, aC, A, cells, slots, Fin⟩ hm hf H locs ls hw hl
  obtain ⟨hx, hb, hml, hown, hts, hK, hSt, hA, hAk, hap, hR, hlk, hNs⟩ := id hf
  obtain ⟨hP, hS, hok⟩ := id hw
  have q0 : (z_wl adr aC σ)[k0]? = some (adr k0, .inl (aC 0, n0, .inl (fun j => Int32.ofInt (σ k0 j)))) := by rw [z_wl_get hn0, hk0]; rfl
  have q1 : (z_wl adr aC σ)[k1]? = some (adr k1, .inl (aC 0, n1, .inl (fun j => Int32.ofInt (σ k1 j)))) := by rw [z_wl_get hn1, hk1]; rfl
  have m0 := z_sm hk0 hn0
  have m1 := z_sm hk1 hn1
  have c1 := z_cl h1 (by omega)
  have c2 := z_cl h2 (by omega)
  have c3 := z_cl h3 (by omega)
  have hset : (z_wl adr aC σ).set k1 (adr k1, .inl (aC 0, n1, .inl (va_cpy (fun j => Int32.ofInt (σ k0 j)) (fun j => Int32.ofInt (σ k1 j)) (Int32.ofInt sp).toNatClampNeg (Int32.ofInt dp).toNatClampNeg (Int32.ofInt n).toNatClampNeg))) = z_wl adr aC (z_cp σ k0 k1 sp.toNat dp.toNat n.toNat) := by
    refine z_wl_set hn1 ?_ (fun i hi => by funext b; simp [z_cp, hi])
    rw [hk1, c1.2, c2.2, c3.2]
    have : z_cp σ k0 k1 sp.toNat dp.toNat n.toNat k1 = fun b => if dp.toNat ≤ b ∧ b < dp.toNat + n.toNat then σ k0 (sp.toNat + (b - dp.toNat)) else σ k1 b := by funext b; simp [z_cp]
    rw [this]
    have e : va_cpy (fun j => Int32.ofInt (σ k0 j)) (fun j => Int32.ofInt (σ k1 j)) sp.toNat dp.toNat n.toNat = fun b => Int32.ofInt (if dp.toNat ≤ b ∧ b < dp.toNat + n.toNat then σ k0 (sp.toNat + (b - dp.toNat)) else σ k1 b) := by
      funext b
      unfold va_cpy
      split <;> rfl
    rw [e]
    rfl
  refine va_copyi hx hb (by rw [hml]; exact hl.1.symm) hown (hts _ hc.1) (hts _ hc.2.1) (hts _ hc.2.2.1) (hts _ hc.2.2.2) hK hP (z_D hap hAk) hS k0 k1 0 0 q0 q1 rfl rfl rfl c1.1 c2.1 c3.1 (by rw [c1.2, c3.2]; omega) (by rw [c2.2, c3.2]; omega) (fun i _ => rfl) (by have := hR.1; omega) (by rw [z_cats]; have := hR.2.1; have : nativeFrameWords "java/lang/System" "arraycopy" 5 + 11 ≤ 32 := (by decide); omega) hd (fun H1 locs1 hP1 _ hS1 => ?_)
  rw [hset] at hP1
  exact kk _ hm hf H1 locs1 ls ⟨hP1, hS1, z_cp_ok hok (Or.inr (fun x hx => by rw [hk1]; rw [hk0] at hx; exact hx)) hn0⟩ hl
theorem z_copyJ {M : z_M} {pc : Nat} {L : List (Option Value)} {st : List Value} {σ : Sto} {idx k0 k1 n0 n1 : Nat} {r0 r1 : Nat → Nat} {sp dp n : Int} (hd : decode M.1 pc = .ok (.invokestatic idx, 3)) (hc : z_CC M.2.1 idx) (hk0 : z_lay k0 = .inr (4, n0, r0)) (hn0 : k0 < z_NC) (hk1 : z_lay k1 = .inr (4, n1, r1)) (hn1 : k1 < z_NC) (h1 : 0 ≤ sp) (h2 : 0 ≤ dp) (h3 : 0 ≤ n) (h4 : sp + n ≤ n0) (h5 : dp + n ≤ n1) (hcat : (st.map fun v => v.category).sum ≤ 8) (hdep : 1 ≤ M.2.2.2.1) (kk : Z M (pc + 3) L st (z_cp σ k0 k1 sp.toNat dp.toNat n.toNat)) : Z M pc L (zI n :: zI dp :: zR k1 :: zI sp :: zR k0 :: st) σ := by
  rintro ⟨p, l, e, R, s, m, args, below, meth, c, adr, D, aC, A, cells, slots, Fin⟩ hm hf H locs ls hw hl
  obtain ⟨hx, hb, hml, hown, hts, hK, hSt, hA, hAk, hap, hR, hlk, hNs⟩ := id hf
  obtain ⟨hP, hS, hok⟩ := id hw
  have q0 : (z_wl adr aC σ)[k0]? = some (adr k0, .inl (aC 4, n0, .inr (.inl (fun j => Int64.ofInt (σ k0 j))))) := by rw [z_wl_get hn0, hk0]; rfl
  have q1 : (z_wl adr aC σ)[k1]? = some (adr k1, .inl (aC 4, n1, .inr (.inl (fun j => Int64.ofInt (σ k1 j))))) := by rw [z_wl_get hn1, hk1]; rfl
  have m0 := z_sm hk0 hn0
  have m1 := z_sm hk1 hn1
  have c1 := z_cl h1 (by omega)
  have c2 := z_cl h2 (by omega)
  have c3 := z_cl h3 (by omega)
  have hset : (z_wl adr aC σ).set k1 (adr k1, .inl (aC 4, n1, .inr (.inl (va_cpy (fun j => Int64.ofInt (σ k0 j)) (fun j => Int64.ofInt (σ k1 j)) (Int32.ofInt sp).toNatClampNeg (Int32.ofInt dp).toNatClampNeg (Int32.ofInt n).toNatClampNeg)))) = z_wl adr aC (z_cp σ k0 k1 sp.toNat dp.toNat n.toNat) := by
    refine z_wl_set hn1 ?_ (fun i hi => by funext b; simp [z_cp, hi])
    rw [hk1, c1.2, c2.2, c3.2]
    have : z_cp σ k0 k1 sp.toNat dp.toNat n.toNat k1 = fun b => if dp.toNat ≤ b ∧ b < dp.toNat + n.toNat then σ k0 (sp.toNat + (b - dp.toNat)) else σ k1 b := by funext b; simp [z_cp]
    rw [this]
    have e : va_cpy (fun j => Int64.ofInt (σ k0 j)) (fun j => Int64.ofInt (σ k1 j)) sp.toNat dp.toNat n.toNat = fun b => Int64.ofInt (if dp.toNat ≤ b ∧ b < dp.toNat + n.toNat then σ k0 (sp.toNat + (b - dp.toNat)) else σ k1 b) := by
      funext b
      unfold va_cpy
      split <;> rfl
    rw [e]
    rfl
  refine va_copyl hx hb (by rw [hml]; exact hl.1.symm) hown (hts _ hc.1) (hts _ hc.2.1) (hts _ hc.2.2.1) (hts _ hc.2.2.2) hK hP (z_D hap hAk) hS k0 k1 4 4 q0 q1 rfl rfl rfl c1.1 c2.1 c3.1 (by rw [c1.2, c3.2]; omega) (by rw [c2.2, c3.2]; omega) (fun i _ => rfl) (by have := hR.1; omega) (by rw [z_cats]; have := hR.2.1; have : nativeFrameWords "java/lang/System" "arraycopy" 5 + 11 ≤ 32 := (by decide); omega) hd (fun H1 locs1 hP1 _ hS1 => ?_)
  rw [hset] at hP1
  exact kk _ hm hf H1 locs1 ls ⟨hP1, hS1, z_cp_ok hok (Or.inr (fun x hx => by rw [hk1]; rw [hk0] at hx; exact hx)) hn0⟩ hl
def z_mask : List Bool → List (Option Value) → List (Option Value)
  | true :: b, o :: l => o :: z_mask b l
  | false :: b, _ :: l => none :: z_mask b l
  | _, _ => []
theorem z_mask_get : ∀ (b : List Bool) (L : List (Option Value)) (i : Nat) (v : Value), (z_mask b L)[i]? = some (some v) → L[i]? = some (some v)
  | [], _, i, v, h => by simp [z_mask] at h
  | _ :: _, [], i, v, h => by simp [z_mask] at h
  | true :: b, o :: l, 0, v, h => by simpa [z_mask] using h
  | false :: b, o :: l, 0, v, h => by simp [z_mask] at h
  | true :: b, o :: l, i + 1, v, h => by
    have := z_mask_get b l i v (by simpa [z_mask] using h)
    simpa using this
  | false :: b, o :: l, i + 1, v, h => by
    have := z_mask_get b l i v (by simpa [z_mask] using h)
    simpa using this
theorem z_forget {M : z_M} {pc : Nat} {L : List (Option Value)} {st : List Value} {σ : Sto} (b : List Bool) {L' : List (Option Value)} (h : z_mask b L = L') (k : Z M pc L' st σ) : Z M pc L st σ := by
  rintro ⟨p, l, e, R, s, m, args, below, meth, c, adr, D, aC, A, cells, slots, Fin⟩ hm hf H locs ls hw hl
  subst h
  refine k _ hm hf H locs ls hw ?_
  refine lv_has_mono hl (fun q hq => ?_)
  obtain ⟨i, v, h1, rfl⟩ := z_plf_of adr _ 0 q hq
  rw [Nat.zero_add]
  exact z_mem (z_mask_get b L i v h1) adr
theorem z_rd (σ : Sto) (k j : Nat) (x : Int) (a b : Nat) : z_put σ k j x a b = if a = k then (if b = j then x else σ a b) else σ a b := rfl
