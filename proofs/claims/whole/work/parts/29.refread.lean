/-! ===== the reference's reader ===== -/
def sbF (x : Int) : Int := if 128 ≤ x then x - 256 else x
theorem sbF_c (x : Int) : (x < 128 ∧ sbF x = x) ∨ (128 ≤ x ∧ sbF x = x - 256) := by
  unfold sbF
  by_cases h : 128 ≤ x
  · rw [if_pos h]; exact Or.inr ⟨h, rfl⟩
  · rw [if_neg h]; exact Or.inl ⟨by omega, rfl⟩
/-- the reference's tape holds n bytes T -/
def tpM (T : Nat → Int) (n : Int) (σ : Sto) : Prop := (0 ≤ n ∧ n ≤ 120) ∧ σ 9 21 = n ∧ (∀ j, 0 ≤ T j ∧ T j ≤ 255) ∧ ∀ j, σ 95 j = sbF (T j)
def rmS (σ τ : Sto) : Prop := (∀ a, a ≠ 9 → a ≠ 96 → a ≠ 97 → τ a = σ a) ∧ (∀ j, j ≠ 22 → j ≠ 23 → j ≠ 24 → j ≠ 25 → τ 9 j = σ 9 j) ∧ (∀ j, j < 130 → τ 96 j = σ 96 j ∧ τ 97 j = σ 97 j)
theorem rmS.rf (σ : Sto) : rmS σ σ := ⟨fun _ _ _ _ => rfl, fun _ _ _ _ _ => rfl, fun _ _ => ⟨rfl, rfl⟩⟩
theorem rmS.tr {σ τ υ : Sto} (h : rmS σ τ) (g : rmS τ υ) : rmS σ υ := ⟨fun a b c d => by rw [g.1 a b c d, h.1 a b c d], fun j b c d e => by rw [g.2.1 j b c d e, h.2.1 j b c d e], fun j hj => ⟨by rw [(g.2.2 j hj).1, (h.2.2 j hj).1], by rw [(g.2.2 j hj).2, (h.2.2 j hj).2]⟩⟩
theorem rmS.put {σ : Sto} {j : Nat} {x : Int} (h : j = 22 ∨ j = 23 ∨ j = 24 ∨ j = 25) : rmS σ (z_put σ 9 j x) := ⟨fun a b _ _ => z_put_ne b, fun i b c d e => by rw [z_rd, if_pos rfl, if_neg (by omega)], fun i _ => ⟨by rw [z_put_ne (by decide)], by rw [z_put_ne (by decide)]⟩⟩
theorem rmS.tp {T : Nat → Int} {n : Int} {σ τ : Sto} (h : rmS σ τ) (t : tpM T n σ) : tpM T n τ := by
  obtain ⟨t1, t2, t3, t4⟩ := t
  exact ⟨t1, by rw [h.2.1 21 (by decide) (by decide) (by decide) (by decide)]; exact t2, t3, fun j => by rw [h.1 95 (by decide) (by decide) (by decide)]; exact t4 j⟩
def rmB (T : Nat → Int) (n : Int) (σ : Sto) : Prop := tpM T n σ ∧ σ 9 23 = -1 ∧ (0 ≤ σ 9 22 ∧ σ 9 22 ≤ n) ∧ (0 ≤ σ 9 25 ∧ σ 9 25 ≤ σ 9 22) ∧ (0 ≤ σ 9 24 ∧ σ 9 24 ≤ 6)
/-- behind a reading of the reference's: well, with the steps of r behind those of σ; or faulty where r ends -/
def rmP (nb : Int → Int) (B O : Int) (σ : Sto) (r : RT) (τ : Sto) : Prop := rmS σ τ ∧ ((r.1 = true ∧ τ 9 23 = -1 ∧ τ 9 22 = r.2.1 ∧ τ 9 24 = O ∧ τ 9 25 = σ 9 25 + r.2.2.length ∧ (∀ j : Nat, (j : Int) < 130 + σ 9 25 → τ 96 j = σ 96 j ∧ τ 97 j = σ 97 j) ∧ Seg τ 96 (130 + (σ 9 25).toNat) (r.2.2.map aOf) ∧ Seg τ 97 (130 + (σ 9 25).toNat) (r.2.2.map wOf))
  ∨ ((r.1 = true → isD (nb r.2.1) = true) ∧ τ 9 23 = r.2.1 ∧ 0 ≤ r.2.1 ∧ (0 ≤ τ 9 22 ∧ τ 9 22 ≤ 120) ∧ (O ≤ τ 9 24 ∧ τ 9 24 ≤ 6) ∧ (0 ≤ τ 9 25 ∧ τ 9 25 ≤ B)))
theorem rmP.rf {nb : Int → Int} {B : Int} {σ : Sto} (h : σ 9 23 = -1) : rmP nb B (σ 9 24) σ (true, σ 9 22, []) σ := ⟨rmS.rf σ, Or.inl ⟨rfl, h, rfl, rfl, by simp, fun _ _ => ⟨rfl, rfl⟩, trivial, trivial⟩⟩
theorem rmP.bad {nb : Int → Int} {B O : Int} {σ τ : Sto} {r : RT} (h : rmP nb B O σ r τ) (hf : τ 9 23 = -1) : r.1 = true ∧ τ 9 22 = r.2.1 ∧ τ 9 24 = O ∧ τ 9 25 = σ 9 25 + r.2.2.length := by
  rcases h.2 with q | q
  · exact ⟨q.1, q.2.2.1, q.2.2.2.1, q.2.2.2.2.1⟩
  · exfalso; have := q.2.1; have := q.2.2.1; omega
theorem rmP.at0 {nb : Int → Int} {B O : Int} {σ τ : Sto} {r : RT} (h : rmP nb B O σ r τ) (hf : τ 9 23 = -1) : τ 9 22 = r.2.1 := (h.bad hf).2.1
theorem rmP.op0 {nb : Int → Int} {B O : Int} {σ τ : Sto} {r : RT} (h : rmP nb B O σ r τ) (hf : τ 9 23 = -1) : τ 9 24 = O := (h.bad hf).2.2.1
theorem rmP.laid0 {nb : Int → Int} {B O : Int} {σ τ : Sto} {r : RT} (h : rmP nb B O σ r τ) (hf : τ 9 23 = -1) : τ 9 25 = σ 9 25 + r.2.2.length := (h.bad hf).2.2.2
/-- a well ended reading's bound may be any -/
theorem rmP.okB {nb : Int → Int} {B B' O : Int} {σ τ : Sto} {r : RT} (h : rmP nb B O σ r τ) (hf : τ 9 23 = -1) : rmP nb B' O σ r τ := by
  rcases h.2 with q | q
  · exact ⟨h.1, Or.inl q⟩
  · exfalso; have := q.2.1; have := q.2.2.1; omega
theorem rmP.toB {nb : Int → Int} {B B' O : Int} {σ τ : Sto} {r : RT} (h : rmP nb B O σ r τ) (hf : τ 9 23 = -1) : rmP nb B' O σ r τ := h.okB hf
theorem rmP.wk {nb : Int → Int} {B B' O : Int} {σ τ : Sto} {r : RT} (h : rmP nb B O σ r τ) (hB : B ≤ B') : rmP nb B' O σ r τ := by
  rcases h.2 with q | q
  · exact ⟨h.1, Or.inl q⟩
  · exact ⟨h.1, Or.inr ⟨q.1, q.2.1, q.2.2.1, q.2.2.2.1, q.2.2.2.2.1, by have := q.2.2.2.2.2; omega⟩⟩
theorem rmP.no {nb : Int → Int} {B O : Int} {σ τ : Sto} {r : RT} (h : rmP nb B O σ r τ) (hr : r.1 = false) : rmP nb B O σ (false, r.2.1, []) τ := by
  rcases h.2 with q | q
  · exact tnf (q.1.symm.trans hr)
  · exact ⟨h.1, Or.inr ⟨fun w => tnf w.symm, q.2⟩⟩
theorem rmP.pre22 {nb : Int → Int} {B O a : Int} {σ τ : Sto} {r : RT} (h : rmP nb B O (z_put σ 9 22 a) r τ) : rmP nb B O σ r τ := by
  obtain ⟨h1, h2⟩ := h
  refine ⟨(rmS.put (Or.inl rfl)).tr h1, ?_⟩
  rcases h2 with ⟨q1, q2, q3, q4, q5, q6, q7, q8⟩ | q
  · exact Or.inl ⟨q1, q2, q3, q4, q5, q6, q7, q8⟩
  · exact Or.inr q
theorem rmP.pre24 {nb : Int → Int} {B O a : Int} {σ τ : Sto} {r : RT} (h : rmP nb B O (z_put σ 9 24 a) r τ) : rmP nb B O σ r τ := by
  obtain ⟨h1, h2⟩ := h
  refine ⟨(rmS.put (Or.inr (Or.inr (Or.inl rfl)))).tr h1, ?_⟩
  rcases h2 with ⟨q1, q2, q3, q4, q5, q6, q7, q8⟩ | q
  · exact Or.inl ⟨q1, q2, q3, q4, q5, q6, q7, q8⟩
  · exact Or.inr q
/-- how many steps are laid then, well or not -/
theorem rmP.lb {T : Nat → Int} {n O a : Int} {σ τ : Sto} {r : RT} (h : rmP (nbF T n) (σ 9 25 + (r.2.1 - a) + 1) O σ r τ) (hro : rdOk n a r) (h6 : 0 ≤ σ 9 25 ∧ σ 9 25 ≤ a) : 0 ≤ τ 9 25 ∧ τ 9 25 ≤ r.2.1 + 1 := by
  have h1 := hro.1
  rcases h.2 with q | q
  · have := hro.2.2 q.1
    have := q.2.2.2.2.1
    omega
  · have := q.2.2.2.2.2
    omega
def amS (σ : Sto) (w v : Int) : Sto := z_put (z_put (z_put σ 96 (130 + σ 9 25).toNat (z_i2bF (z_i2bF w))) 97 (130 + σ 9 25).toNat v) 9 25 (σ 9 25 + 1)
theorem amS_f {σ : Sto} {w v : Int} {j : Nat} (h : j ≠ 25) : amS σ w v 9 j = σ 9 j := by
  rw [amS, z_rd, if_pos rfl, if_neg h, z_put_ne (by decide), z_put_ne (by decide)]
theorem amS_25 {σ : Sto} {w v : Int} : amS σ w v 9 25 = σ 9 25 + 1 := by rw [amS, z_rd, if_pos rfl, if_pos rfl]
theorem i2b_id : ∀ x : Nat, x < 128 → z_i2bF (x : Int) = x := by decide +kernel
theorem i2b_I {x : Int} (h : 0 ≤ x ∧ x < 128) : z_i2bF x = x := by
  have := i2b_id x.toNat (by omega)
  rwa [show ((x.toNat : Nat) : Int) = x by omega] at this
theorem i2b2 {s w : Int} (h : (6 < s ∧ s < 128 ∧ s ≠ 33 ∧ s ≠ 126) ∧ w = s) : z_i2bF (z_i2bF w) = aOf (-s) := by
  rw [h.2, i2b_I (x := s) (by omega), i2b_I (x := s) (by omega), aOf, if_neg (by omega), if_neg (by omega), if_neg (by omega), if_neg (by omega)]
  omega
theorem wO0 {s : Int} (h : 6 < s) : 0 = wOf (-s) := by rw [wOf, if_neg (by omega), if_neg (by omega)]
theorem rmP.add {nb : Int → Int} {B O c w v : Int} {σ τ : Sto} {r : RT} (h0 : 0 ≤ σ 9 25) (h : rmP nb B O σ r τ) (hw : z_i2bF (z_i2bF w) = aOf c) (hv : v = wOf c) : rmP nb (B + 1) O σ (if r.1 = true then (true, r.2.1, r.2.2 ++ [c]) else (false, r.2.1, [])) (amS τ w v) := by
  obtain ⟨h1, h2⟩ := h
  have hS : 0 ≤ τ 9 25 → rmS τ (amS τ w v) := fun g => ⟨fun a b c d => by rw [amS, z_put_ne b, z_put_ne d, z_put_ne c], fun j b c d e => amS_f e, fun j hj => ⟨by rw [amS, z_put_ne (by decide), z_put_ne (by decide), z_rd, if_pos rfl, if_neg (by omega)], by rw [amS, z_put_ne (by decide), z_rd, if_pos rfl, if_neg (by omega), z_put_ne (by decide)]⟩⟩
  rcases h2 with ⟨q1, q2, q3, q4, q5, q6, q7, q8⟩ | q
  · rw [if_pos q1]
    have e : (130 + τ 9 25).toNat = 130 + (σ 9 25).toNat + r.2.2.length := by omega
    refine ⟨h1.tr (hS (by omega)), Or.inl ⟨rfl, by rw [amS_f (by decide)]; exact q2, by rw [amS_f (by decide)]; exact q3, by rw [amS_f (by decide)]; exact q4, ?_, fun j hj => ?_, ?_, ?_⟩⟩
    · rw [amS_25, q5, List.length_append]; simp only [List.length_cons, List.length_nil]; omega
    · refine ⟨?_, ?_⟩
      · rw [amS, z_put_ne (by decide), z_put_ne (by decide), z_rd, if_pos rfl, if_neg (by omega)]; exact (q6 j hj).1
      · rw [amS, z_put_ne (by decide), z_rd, if_pos rfl, if_neg (by omega), z_put_ne (by decide)]; exact (q6 j hj).2
    · rw [List.map_append, amS, e]
      refine Seg.row (z_put_ne (by decide)) (Seg.row (z_put_ne (by decide)) ?_)
      have := Seg.putn (x := aOf c) q7
      rw [List.length_map] at this
      rw [hw]
      exact this
    · rw [List.map_append, amS, e]
      refine Seg.row (z_put_ne (by decide)) ?_
      have := Seg.putn (x := wOf c) (Seg.row (τ := z_put τ 96 (130 + (σ 9 25).toNat + r.2.2.length) (z_i2bF (z_i2bF w))) (z_put_ne (by decide)) q8)
      rw [List.length_map] at this
      rw [hv]
      exact this
  · have key : ∀ r' : RT, r'.2.1 = r.2.1 → (r'.1 = true → isD (nb r'.2.1) = true) → rmP nb (B + 1) O σ r' (amS τ w v) := fun r' e1 e2 =>
      ⟨h1.tr (hS q.2.2.2.2.2.1), Or.inr ⟨e2, by rw [amS_f (by decide), e1]; exact q.2.1, by rw [e1]; exact q.2.2.1, by rw [amS_f (by decide)]; exact q.2.2.2.1, by rw [amS_f (by decide)]; exact q.2.2.2.2.1, by rw [amS_25]; have := q.2.2.2.2.2; omega⟩⟩
    by_cases g : r.1 = true
    · rw [if_pos g]
      exact key _ rfl (fun _ => q.1 g)
    · rw [if_neg g]
      exact key _ rfl (fun w => tnf w.symm)
/-- one reading behind a well ended one -/
theorem rmP.seq {nb : Int → Int} {B B' O a : Int} {o : List Int} {σ τ υ : Sto} {r : RT} (h0 : 0 ≤ σ 9 25) (h : rmP nb B O σ (true, a, o) τ) (hf : τ 9 23 = -1) (g : rmP nb B' O τ r υ) (_hx : True) : rmP nb B' O σ (r.1, r.2.1, o ++ r.2.2) υ := by
  obtain ⟨h1, h2⟩ := h
  obtain ⟨g1, g2⟩ := g
  refine ⟨h1.tr g1, ?_⟩
  rcases h2 with ⟨-, q2, q3, q4, q5, q6, q7, q8⟩ | q
  · have q5 : τ 9 25 = σ 9 25 + o.length := q5
    have q7 : Seg τ 96 (130 + (σ 9 25).toNat) (o.map aOf) := q7
    have q8 : Seg τ 97 (130 + (σ 9 25).toNat) (o.map wOf) := q8
    rcases g2 with ⟨p1, p2, p3, p4, p5, p6, p7, p8⟩ | p
    · have e : 130 + (τ 9 25).toNat = 130 + (σ 9 25).toNat + o.length := by omega
      refine Or.inl ⟨p1, p2, p3, p4, ?_, fun j hj => ?_, ?_, ?_⟩
      · rw [p5, q5, List.length_append]; omega
      · obtain ⟨u1, u2⟩ := p6 j (by omega)
        obtain ⟨v1, v2⟩ := q6 j hj
        exact ⟨u1.trans v1, u2.trans v2⟩
      · simp only [List.map_append]
        refine Seg.app (Seg.cong (fun j b c => (p6 j (by rw [List.length_map] at c; omega)).1) q7) ?_
        rw [List.length_map, ← e]; exact p7
      · simp only [List.map_append]
        refine Seg.app (Seg.cong (fun j b c => (p6 j (by rw [List.length_map] at c; omega)).2) q8) ?_
        rw [List.length_map, ← e]; exact p8
    · exact Or.inr p
  · exfalso; have := q.2.1; have := q.2.2.1; omega
theorem lpF_dig {sub : Int → RT} {nb : Int → Int} {lvl : Int} {t : Nat} {a : Int} {out : List Int} (hl : 0 ≤ lvl) (h : isD (nb a) = true) : lpF sub nb lvl t a out = (true, a, out) := by
  cases t with
  | zero => rfl
  | succ t =>
    have h2 : 48 ≤ nb a ∧ nb a ≤ 57 := of_decide_eq_true h
    rw [lpF, if_neg]
    unfold lvO
    repeat' split
    all_goals omega
def mdC (T : Nat → Int) (n : Int) (y : MethodName) (cc : ByteArray) (nL : Nat) (lvl : Int) (k : Nat) (σ : Sto) : Prop := Does (k + 3) y cc nL none [zR 9] σ (qV fun σ' => rmP (nbF T n) (σ 9 25 + ((rd (nbF T n) k lvl (σ 9 24) (σ 9 22)).2.1 - σ 9 22) + 1) (σ 9 24) σ (rd (nbF T n) k lvl (σ 9 24) (σ 9 22)) σ')
set_option maxRecDepth 20000 in
theorem c_X9_in {d : Nat} {σ : Sto} {v lo hi : Int} (h1 : inR v) (h2 : inR lo) (h3 : inR hi) : m_X9_in d [zI v, zI lo, zI hi] σ (qI fun z σ' => σ' = σ ∧ yn z (lo ≤ v ∧ v ≤ hi)) := by
  refine z_does (L := [some (zI v), some (zI lo), some (zI hi)]) rfl (by decide +kernel) (Nat.le_of_ble_eq_true rfl) rfl ?_
  refine z_iload_n dX9_in_0 rfl ?_
  refine z_iload_n dX9_in_1 rfl ?_
  refine z_icmp_lt (tgt := 14) dX9_in_2 (by decide) ⟨by omega, by omega⟩ ⟨by omega, by omega⟩ (fun h2 => ?_) (fun h2 => ?_)
  · first
    | exfalso; omega
    | skip
      refine z_iconst dX9_in_14 ?_
      exact z_zret dX9_in_15 (by omega) ⟨rfl, by omega⟩
  · first
    | exfalso; omega
    | skip
      refine z_iload_n dX9_in_5 rfl ?_
      refine z_iload_n dX9_in_6 rfl ?_
      refine z_icmp_gt (tgt := 14) dX9_in_7 (by decide) ⟨by omega, by omega⟩ ⟨by omega, by omega⟩ (fun h7 => ?_) (fun h7 => ?_)
      · first
        | exfalso; omega
        | skip
          refine z_iconst dX9_in_14 ?_
          exact z_zret dX9_in_15 (by omega) ⟨rfl, by omega⟩
      · first
        | exfalso; omega
        | skip
          refine z_iconst dX9_in_10 ?_
          refine z_goto (tgt := 15) dX9_in_11 (by decide) ?_
          exact z_zret dX9_in_15 (by omega) ⟨rfl, by omega⟩
set_option maxRecDepth 20000 in
theorem c_X9_look {d : Nat} {T : Nat → Int} {n : Int} {σ : Sto} (ht : tpM T n σ) (h22 : 0 ≤ σ 9 22) : m_X9_look d [zR 9] σ (qI fun z σ' => σ' = σ ∧ z = sbF (nbF T n (σ 9 22))) := by
  obtain ⟨t1, t2, t3, t4⟩ := ht
  refine z_does (L := [some (zR 9)]) rfl (by decide +kernel) (Nat.le_of_ble_eq_true rfl) rfl ?_
  refine z_aload_n dX9_look_0 rfl ?_
  refine z_getI dX9_look_1 gX9_196 rfl (Nat.le_of_ble_eq_true rfl) rfl (fun hr1 => ?_)
  refine z_aload_n dX9_look_4 rfl ?_
  refine z_getI dX9_look_5 gX9_193 rfl (Nat.le_of_ble_eq_true rfl) rfl (fun hr5 => ?_)
  refine z_icmp_ge (tgt := 23) dX9_look_8 (by decide) ⟨by omega, by omega⟩ ⟨by omega, by omega⟩ (fun h8 => ?_) (fun h8 => ?_)
  · first
    | exfalso; omega
    | skip
      refine z_iconst dX9_look_23 ?_
      exact z_iret dX9_look_24 ⟨rfl, by unfold nbF; first | (rw [if_pos (by omega)]; exact t4 _) | (rw [if_neg (by omega)]; rfl)⟩
  · first
    | exfalso; omega
    | skip
      refine z_aload_n dX9_look_11 rfl ?_
      refine z_getR dX9_look_12 gX9_55 rfl (Nat.le_of_ble_eq_true rfl) rfl ?_
      refine z_aload_n dX9_look_15 rfl ?_
      refine z_getI dX9_look_16 gX9_196 rfl (Nat.le_of_ble_eq_true rfl) rfl (fun hr16 => ?_)
      refine z_bald dX9_look_19 rfl (Nat.le_of_ble_eq_true rfl) (by omega) (fun hr19 => ?_)
      refine z_goto (tgt := 24) dX9_look_20 (by decide) ?_
      exact z_iret dX9_look_24 ⟨rfl, by unfold nbF; first | (rw [if_pos (by omega)]; exact t4 _) | (rw [if_neg (by omega)]; rfl)⟩
set_option maxRecDepth 20000 in
theorem c_X9_wrong {d : Nat} {σ : Sto} (h : σ 9 23 = -1) : m_X9_wrong d [zR 9] σ (qV fun σ' => σ' = z_put σ 9 23 (σ 9 22)) := by
  refine z_does (L := [some (zR 9)]) rfl (by decide +kernel) (Nat.le_of_ble_eq_true rfl) rfl ?_
  refine z_aload_n dX9_wrong_0 rfl ?_
  refine z_getI dX9_wrong_1 gX9_199 rfl (Nat.le_of_ble_eq_true rfl) rfl (fun hr1 => ?_)
  refine z_if_ge (tgt := 15) dX9_wrong_4 (by decide) ⟨by omega, by omega⟩ (fun h4 => ?_) (fun h4 => ?_)
  · exfalso; omega
  · skip
    refine z_aload_n dX9_wrong_7 rfl ?_
    refine z_aload_n dX9_wrong_8 rfl ?_
    refine z_getI dX9_wrong_9 gX9_196 rfl (Nat.le_of_ble_eq_true rfl) rfl (fun hr9 => ?_)
    refine z_putI dX9_wrong_12 pX9_199 rfl (Nat.le_of_ble_eq_true rfl) rfl ⟨by omega, by omega⟩ ?_
    exact z_vret dX9_wrong_15 rfl
set_option maxRecDepth 20000 in
theorem c_X9_addStep {d : Nat} {σ : Sto} {w v : Int} (h : 0 ≤ σ 9 25 ∧ σ 9 25 < 130) (hw : inR w) (hv : inR v) : m_X9_addStep d [zR 9, zI w, zI v] σ (qV fun σ' => σ' = amS σ w v) := by
  refine z_does (L := [some (zR 9), some (zI w), some (zI v)]) rfl (by decide +kernel) (Nat.le_of_ble_eq_true rfl) rfl ?_
  refine z_aload_n dX9_addStep_0 rfl ?_
  refine z_getR dX9_addStep_1 gX9_59 rfl (Nat.le_of_ble_eq_true rfl) rfl ?_
  refine z_sipush (v := 130) dX9_addStep_4 (by decide +kernel) ?_
  refine z_aload_n dX9_addStep_7 rfl ?_
  refine z_getI dX9_addStep_8 gX9_202 rfl (Nat.le_of_ble_eq_true rfl) rfl (fun hr8 => ?_)
  refine z_iadd dX9_addStep_11 ?_
  refine z_iload_n dX9_addStep_12 rfl ?_
  refine z_i2b dX9_addStep_13 ?_
  refine z_bast dX9_addStep_14 rfl (Nat.le_of_ble_eq_true rfl) (by omega) ?_
  refine z_aload_n dX9_addStep_15 rfl ?_
  refine z_getR dX9_addStep_16 gX9_62 rfl (Nat.le_of_ble_eq_true rfl) rfl ?_
  refine z_sipush (v := 130) dX9_addStep_19 (by decide +kernel) ?_
  refine z_aload_n dX9_addStep_22 rfl ?_
  refine z_getI dX9_addStep_23 gX9_202 rfl (Nat.le_of_ble_eq_true rfl) rfl (fun hr23 => ?_)
  try simp only [z_rd, Nat.reduceEqDiff, ↓reduceIte, eq_self] at hr23 ⊢
  refine z_iadd dX9_addStep_26 ?_
  refine z_iload_n dX9_addStep_27 rfl ?_
  refine z_iast dX9_addStep_28 rfl (Nat.le_of_ble_eq_true rfl) (by omega) ⟨by omega, by omega⟩ ?_
  refine z_aload_n dX9_addStep_29 rfl ?_
  refine z_dup dX9_addStep_30 rfl ?_
  refine z_getI dX9_addStep_31 gX9_202 rfl (Nat.le_of_ble_eq_true rfl) rfl (fun hr31 => ?_)
  try simp only [z_rd, Nat.reduceEqDiff, ↓reduceIte, eq_self] at hr31 ⊢
  refine z_iconst dX9_addStep_34 ?_
  refine z_iadd dX9_addStep_35 ?_
  refine z_putI dX9_addStep_36 pX9_202 rfl (Nat.le_of_ble_eq_true rfl) rfl ⟨by omega, by omega⟩ ?_
  exact z_vret dX9_addStep_39 rfl
set_option maxRecDepth 20000 in
theorem c_X9_nameOf {d : Nat} {σ : Sto} {s : Int} (hs : inR s) : m_X9_nameOf d [zI s] σ (qI fun z σ' => z = -1 - nmF s ∧ σ' = σ) := by
  refine z_does (L := [some (zI s)]) rfl (by decide +kernel) (Nat.le_of_ble_eq_true rfl) rfl ?_
  refine z_iload_n dX9_nameOf_0 rfl ?_
  refine sw_X9_nameOf_1 ⟨by omega, by omega⟩ (fun h1 => ?_) (fun h1 => ?_) (fun h1 => ?_) (fun h1 => ?_) (fun h1 => ?_) (fun h1 => ?_) (fun h1 => ?_)
  · first
    | exfalso; omega
    | skip
      refine z_iconst dX9_nameOf_94 ?_
      exact z_iret dX9_nameOf_95 ⟨by unfold nmF; grind, rfl⟩
  · first
    | exfalso; omega
    | skip
      refine z_iconst dX9_nameOf_90 ?_
      exact z_iret dX9_nameOf_91 ⟨by unfold nmF; grind, rfl⟩
  · first
    | exfalso; omega
    | skip
      refine z_iconst dX9_nameOf_98 ?_
      exact z_iret dX9_nameOf_99 ⟨by unfold nmF; grind, rfl⟩
  · first
    | exfalso; omega
    | skip
      refine z_iconst dX9_nameOf_96 ?_
      exact z_iret dX9_nameOf_97 ⟨by unfold nmF; grind, rfl⟩
  · first
    | exfalso; omega
    | skip
      refine z_iconst dX9_nameOf_88 ?_
      exact z_iret dX9_nameOf_89 ⟨by unfold nmF; grind, rfl⟩
  · first
    | exfalso; omega
    | skip
      refine z_iconst dX9_nameOf_92 ?_
      exact z_iret dX9_nameOf_93 ⟨by unfold nmF; grind, rfl⟩
  · first
    | exfalso; omega
    | skip
      refine z_iconst dX9_nameOf_100 ?_
      exact z_iret dX9_nameOf_101 ⟨by unfold nmF; grind, rfl⟩
set_option maxRecDepth 20000 in
theorem c_X9_opens {d : Nat} {σ : Sto} (h : σ 9 23 = -1) (h24 : 0 ≤ σ 9 24 ∧ σ 9 24 ≤ 6) (h22 : 0 ≤ σ 9 22 ∧ σ 9 22 ≤ 1000) : m_X9_opens d [zR 9] σ (qI fun z σ' => (σ 9 24 = 6 ∧ z = 0 ∧ σ' = z_put σ 9 23 (σ 9 22)) ∨ (σ 9 24 < 6 ∧ z = 1 ∧ σ' = z_put (z_put σ 9 24 (σ 9 24 + 1)) 9 22 (σ 9 22 + 1))) := by
  refine z_does (L := [some (zR 9)]) rfl (by decide +kernel) (Nat.le_of_ble_eq_true rfl) rfl ?_
  refine z_aload_n dX9_opens_0 rfl ?_
  refine z_getI dX9_opens_1 gX9_205 rfl (Nat.le_of_ble_eq_true rfl) rfl (fun hr1 => ?_)
  refine z_bipush (v := 6) dX9_opens_4 (by decide +kernel) ?_
  refine z_icmp_ne (tgt := 15) dX9_opens_6 (by decide) ⟨by omega, by omega⟩ ⟨by omega, by omega⟩ (fun h6 => ?_) (fun h6 => ?_)
  · first
    | exfalso; omega
    | skip
      refine z_aload_n dX9_opens_15 rfl ?_
      refine z_dup dX9_opens_16 rfl ?_
      refine z_getI dX9_opens_17 gX9_205 rfl (Nat.le_of_ble_eq_true rfl) rfl (fun hr17 => ?_)
      refine z_iconst dX9_opens_20 ?_
      refine z_iadd dX9_opens_21 ?_
      refine z_putI dX9_opens_22 pX9_205 rfl (Nat.le_of_ble_eq_true rfl) rfl ⟨by omega, by omega⟩ ?_
      refine z_aload_n dX9_opens_25 rfl ?_
      refine z_dup dX9_opens_26 rfl ?_
      refine z_getI dX9_opens_27 gX9_196 rfl (Nat.le_of_ble_eq_true rfl) rfl (fun hr27 => ?_)
      try simp only [z_rd, Nat.reduceEqDiff, ↓reduceIte, eq_self] at hr27 ⊢
      refine z_iconst dX9_opens_30 ?_
      refine z_iadd dX9_opens_31 ?_
      refine z_putI dX9_opens_32 pX9_196 rfl (Nat.le_of_ble_eq_true rfl) rfl ⟨by omega, by omega⟩ ?_
      refine z_iconst dX9_opens_35 ?_
      exact z_zret dX9_opens_36 (by omega) (by first | exact Or.inl ⟨by omega, rfl, rfl⟩ | exact Or.inr ⟨by omega, rfl, rfl⟩)
  · first
    | exfalso; omega
    | skip
      refine z_aload_n dX9_opens_9 rfl ?_
      refine z_callVV (d := d + 0) (av := []) dX9_opens_10 vX9_208 rfl (Nat.le_of_ble_eq_true rfl) rfl rfl rfl (Nat.le_of_ble_eq_true rfl) (Nat.le_refl _) (c_X9_wrong h) (fun σ10 h10 => ?_)
      subst h10
      refine z_iconst dX9_opens_13 ?_
      exact z_zret dX9_opens_14 (by omega) (by first | exact Or.inl ⟨by omega, rfl, rfl⟩ | exact Or.inr ⟨by omega, rfl, rfl⟩)
theorem sb_nm {x : Int} (h : -1 ≤ x ∧ x ≤ 255) : nmF (sbF x) = nmF x := by
  rcases sbF_c x with ⟨_, e⟩ | ⟨_, e⟩
  · rw [e]
  · rw [e]
    unfold nmF
    repeat rw [if_neg (by omega)]
set_option maxRecDepth 20000 in
theorem f_X9_product {D : Nat} {nb : Int → Int} {B O : Int} {σ τ : Sto} {r : RT} (h : rmP nb B O σ r τ) (hf : 0 ≤ τ 9 23) :
    Z (z_me cX9_product RX9 2 none D (qV fun σ' => rmP nb B O σ r σ')) 4 [some (zR 9), none] [] τ := by
  refine z_aload_n dX9_product_4 rfl ?_
  refine z_getI dX9_product_5 gX9_199 rfl (Nat.le_of_ble_eq_true rfl) rfl (fun hr5 => ?_)
  refine z_if_ge (tgt := 66) dX9_product_8 (by decide) ⟨by omega, by omega⟩ (fun h8 => ?_) (fun h8 => ?_)
  · skip
    exact z_vret dX9_product_66 h
  · exfalso; omega
set_option maxRecDepth 20000 in
set_option maxHeartbeats 1000000 in
theorem l_X9_product {T : Nat → Int} {n : Int} {k : Nat} {σ : Sto} (hB : rmB T n σ) (ih : ∀ τ, rmB T n τ → τ 9 24 = σ 9 24 → mdC T n yX9_operand cX9_operand 2 5 k τ) :
    ∀ (t : Nat) (τ : Sto) (out : List Int) (a : Int), n ≤ a + t → (σ 9 22 ≤ a ∧ a ≤ n) → (out.length : Int) ≤ a - σ 9 22 → rmP (nbF T n) 1000 (σ 9 24) σ (true, a, out) τ → τ 9 23 = -1 →
    Z (z_me cX9_product RX9 2 none (k + 1 + 3) (qV fun σ' => rmP (nbF T n) (σ 9 25 + ((lpF (rd (nbF T n) k 5 (σ 9 24)) (nbF T n) 4 t a out).2.1 - σ 9 22) + 1) (σ 9 24) σ (lpF (rd (nbF T n) k 5 (σ 9 24)) (nbF T n) 4 t a out) σ')) 4 [some (zR 9), none] [] τ
  | 0, τ, out, a, ht, ha, ho, hP, hf => by
    have e22 : τ 9 22 = a := hP.at0 hf
    have tt := hP.1.tp hB.1
    obtain ⟨tn, t21, tT, t95⟩ := id tt
    have hnb : nbF T n a = -1 := if_neg (by omega)
    have hsb := sbF_c (nbF T n a)
    refine z_aload_n dX9_product_4 rfl ?_
    refine z_getI dX9_product_5 gX9_199 rfl (Nat.le_of_ble_eq_true rfl) rfl (fun hr5 => ?_)
    refine z_if_ge (tgt := 66) dX9_product_8 (by decide) ⟨by omega, by omega⟩ (fun h8 => ?_) (fun h8 => ?_)
    · exfalso; omega
    · skip
      refine z_aload_n dX9_product_11 rfl ?_
      refine z_callVI (d := k + 3) (av := []) dX9_product_12 vX9_211 rfl (Nat.le_of_ble_eq_true rfl) rfl rfl rfl (Nat.le_of_ble_eq_true rfl) (Nat.le_refl _) (c_X9_look tt (by omega)) (fun z12 σ12 h12 => ?_)
      obtain ⟨hs12, hz⟩ := h12
      subst σ12
      rw [e22] at hz
      subst hz
      refine z_bipush (v := 42) dX9_product_15 (by decide +kernel) ?_
      refine z_icmp_eq (tgt := 38) dX9_product_17 (by decide) ⟨by omega, by omega⟩ ⟨by omega, by omega⟩ (fun h17 => ?_) (fun h17 => ?_)
      · exfalso; omega
      · skip
        refine z_aload_n dX9_product_20 rfl ?_
        refine z_callVI (d := k + 3) (av := []) dX9_product_21 vX9_211 rfl (Nat.le_of_ble_eq_true rfl) rfl rfl rfl (Nat.le_of_ble_eq_true rfl) (Nat.le_refl _) (c_X9_look tt (by omega)) (fun z21 σ21 h21 => ?_)
        obtain ⟨hs21, hz⟩ := h21
        subst σ21
        rw [e22] at hz
        subst hz
        refine z_bipush (v := 47) dX9_product_24 (by decide +kernel) ?_
        refine z_icmp_eq (tgt := 38) dX9_product_26 (by decide) ⟨by omega, by omega⟩ ⟨by omega, by omega⟩ (fun h26 => ?_) (fun h26 => ?_)
        · exfalso; omega
        · skip
          refine z_aload_n dX9_product_29 rfl ?_
          refine z_callVI (d := k + 3) (av := []) dX9_product_30 vX9_211 rfl (Nat.le_of_ble_eq_true rfl) rfl rfl rfl (Nat.le_of_ble_eq_true rfl) (Nat.le_refl _) (c_X9_look tt (by omega)) (fun z30 σ30 h30 => ?_)
          obtain ⟨hs30, hz⟩ := h30
          subst σ30
          rw [e22] at hz
          subst hz
          refine z_bipush (v := 37) dX9_product_33 (by decide +kernel) ?_
          refine z_icmp_ne (tgt := 66) dX9_product_35 (by decide) ⟨by omega, by omega⟩ ⟨by omega, by omega⟩ (fun h35 => ?_) (fun h35 => ?_)
          · skip
            exact z_vret dX9_product_66 (hP.okB hf)
          · exfalso; omega
  | t + 1, τ, out, a, ht, ha, ho, hP, hf => by
    obtain ⟨-, -, hB3, hB4, hB5⟩ := id hB
    have e22 : τ 9 22 = a := hP.at0 hf
    have e25 : τ 9 25 = σ 9 25 + out.length := hP.laid0 hf
    have e24 : τ 9 24 = σ 9 24 := hP.op0 hf
    have tt := hP.1.tp hB.1
    obtain ⟨tn, t21, tT, t95⟩ := id tt
    have hsb := sbF_c (nbF T n a)
    have hbR := nbF_R (T := T) (n := n) (a := a) tT
    refine z_aload_n dX9_product_4 rfl ?_
    refine z_getI dX9_product_5 gX9_199 rfl (Nat.le_of_ble_eq_true rfl) rfl (fun hr5 => ?_)
    refine z_if_ge (tgt := 66) dX9_product_8 (by decide) ⟨by omega, by omega⟩ (fun h8 => ?_) (fun h8 => ?_)
    · exfalso; omega
    · skip
      refine z_aload_n dX9_product_11 rfl ?_
      refine z_callVI (d := k + 3) (av := []) dX9_product_12 vX9_211 rfl (Nat.le_of_ble_eq_true rfl) rfl rfl rfl (Nat.le_of_ble_eq_true rfl) (Nat.le_refl _) (c_X9_look tt (by omega)) (fun z12 σ12 h12 => ?_)
      obtain ⟨hs12, hz⟩ := h12
      subst σ12
      rw [e22] at hz
      subst hz
      refine z_bipush (v := 42) dX9_product_15 (by decide +kernel) ?_
      refine z_icmp_eq (tgt := 38) dX9_product_17 (by decide) ⟨by omega, by omega⟩ ⟨by omega, by omega⟩ (fun h17 => ?_) (fun h17 => ?_)
      · skip
        refine z_aload_n dX9_product_38 rfl ?_
        refine z_callVI (d := k + 3) (av := []) dX9_product_39 vX9_211 rfl (Nat.le_of_ble_eq_true rfl) rfl rfl rfl (Nat.le_of_ble_eq_true rfl) (Nat.le_refl _) (c_X9_look tt (by omega)) (fun z39 σ39 h39 => ?_)
        obtain ⟨hs39, hz⟩ := h39
        subst σ39
        rw [e22] at hz
        subst hz
        refine z_istore_n (L' := [_, _]) dX9_product_42 (Nat.le_of_ble_eq_true rfl) rfl rfl ?_
        refine z_aload_n dX9_product_43 rfl ?_
        refine z_dup dX9_product_44 rfl ?_
        refine z_getI dX9_product_45 gX9_196 rfl (Nat.le_of_ble_eq_true rfl) rfl (fun hr45 => ?_)
        refine z_iconst dX9_product_48 ?_
        refine z_iadd dX9_product_49 ?_
        refine z_putI dX9_product_50 pX9_196 rfl (Nat.le_of_ble_eq_true rfl) rfl ⟨by omega, by omega⟩ ?_
        have hlt := nbF_lt (T := T) (n := n) (a := a) (by omega)
        have hlv : lvO (nbF T n a) = 4 := by unfold lvO; grind
        rw [e22]
        have hB1 : rmB T n (z_put τ 9 22 (a + 1)) := ⟨tt, hf, (show 0 ≤ a + 1 ∧ a + 1 ≤ n by omega), (show 0 ≤ τ 9 25 ∧ τ 9 25 ≤ a + 1 by omega), (show 0 ≤ τ 9 24 ∧ τ 9 24 ≤ 6 by omega)⟩
        refine z_aload_n dX9_product_53 rfl ?_
        refine z_callVV (d := k + 3) (av := []) dX9_product_54 vX9_227 rfl (Nat.le_of_ble_eq_true rfl) rfl rfl rfl (Nat.le_of_ble_eq_true rfl) (Nat.le_refl _) (ih _ hB1 e24) (fun σ54 h54 => ?_)
        have hr : rmP (nbF T n) (τ 9 25 + ((rd (nbF T n) k 5 (τ 9 24) (a + 1)).2.1 - (a + 1)) + 1) (τ 9 24) (z_put τ 9 22 (a + 1)) (rd (nbF T n) k 5 (τ 9 24) (a + 1)) σ54 := h54
        rw [e24] at hr
        have hro := rd_R (T := T) (n := n) k 5 (σ 9 24) (a + 1) (by omega) (by omega) (by omega)
        have hro2 := hro.2.1
        have hb5 := hr.lb hro (show 0 ≤ τ 9 25 ∧ τ 9 25 ≤ a + 1 by omega)
        refine z_aload_n dX9_product_57 rfl ?_
        refine z_iload_n dX9_product_58 rfl ?_
        refine z_iconst dX9_product_59 ?_
        refine z_callVV (d := k + 3) (av := [_, _]) dX9_product_60 vX9_215 rfl (Nat.le_of_ble_eq_true rfl) rfl rfl rfl (Nat.le_of_ble_eq_true rfl) (Nat.le_refl _) (c_X9_addStep (by omega) (by omega) ⟨by decide, by decide⟩) (fun σ60 h60 => ?_)
        subst h60
        refine z_goto (tgt := 4) dX9_product_63 (by decide) ?_
        refine z_forget [true, false] (L' := [_, _]) rfl ?_
        rw [lpF, if_pos hlv]
        have hu := rmP.add (c := -(nbF T n a)) (w := sbF (nbF T n a)) (v := 0) hB4.1 (rmP.seq hB4.1 hP hf hr.pre22 trivial) (i2b2 (by omega)) (wO0 (by omega))
        rcases hr.2 with q | q
        · have g1 := q.1
          rw [if_pos g1] at hu ⊢
          obtain ⟨r1, r2⟩ := hro.2.2 g1
          have f23 : amS σ54 (sbF (nbF T n a)) 0 9 23 = -1 := by rw [amS_f (by decide)]; exact q.2.1
          refine l_X9_product hB ih t _ _ _ (by omega) ⟨by omega, hro.2.1⟩ ?_ (hu.toB f23) f23
          simp only [List.length_append, List.length_cons, List.length_nil]
          omega
        · have f23 : amS σ54 (sbF (nbF T n a)) 0 9 23 = (rd (nbF T n) k 5 (σ 9 24) (a + 1)).2.1 := by rw [amS_f (by decide)]; exact q.2.1
          have hro1 := hro.1
          by_cases g1 : (rd (nbF T n) k 5 (σ 9 24) (a + 1)).1 = true
          · rw [if_pos g1] at hu ⊢
            rw [lpF_dig (by decide) (q.1 g1)]
            exact f_X9_product (hu.wk (by simp only; omega)) (by omega)
          · rw [if_neg g1] at hu ⊢
            exact f_X9_product (hu.wk (by simp only; omega)) (by omega)
      · skip
        refine z_aload_n dX9_product_20 rfl ?_
        refine z_callVI (d := k + 3) (av := []) dX9_product_21 vX9_211 rfl (Nat.le_of_ble_eq_true rfl) rfl rfl rfl (Nat.le_of_ble_eq_true rfl) (Nat.le_refl _) (c_X9_look tt (by omega)) (fun z21 σ21 h21 => ?_)
        obtain ⟨hs21, hz⟩ := h21
        subst σ21
        rw [e22] at hz
        subst hz
        refine z_bipush (v := 47) dX9_product_24 (by decide +kernel) ?_
        refine z_icmp_eq (tgt := 38) dX9_product_26 (by decide) ⟨by omega, by omega⟩ ⟨by omega, by omega⟩ (fun h26 => ?_) (fun h26 => ?_)
        · skip
          refine z_aload_n dX9_product_38 rfl ?_
          refine z_callVI (d := k + 3) (av := []) dX9_product_39 vX9_211 rfl (Nat.le_of_ble_eq_true rfl) rfl rfl rfl (Nat.le_of_ble_eq_true rfl) (Nat.le_refl _) (c_X9_look tt (by omega)) (fun z39 σ39 h39 => ?_)
          obtain ⟨hs39, hz⟩ := h39
          subst σ39
          rw [e22] at hz
          subst hz
          refine z_istore_n (L' := [_, _]) dX9_product_42 (Nat.le_of_ble_eq_true rfl) rfl rfl ?_
          refine z_aload_n dX9_product_43 rfl ?_
          refine z_dup dX9_product_44 rfl ?_
          refine z_getI dX9_product_45 gX9_196 rfl (Nat.le_of_ble_eq_true rfl) rfl (fun hr45 => ?_)
          refine z_iconst dX9_product_48 ?_
          refine z_iadd dX9_product_49 ?_
          refine z_putI dX9_product_50 pX9_196 rfl (Nat.le_of_ble_eq_true rfl) rfl ⟨by omega, by omega⟩ ?_
          have hlt := nbF_lt (T := T) (n := n) (a := a) (by omega)
          have hlv : lvO (nbF T n a) = 4 := by unfold lvO; grind
          rw [e22]
          have hB1 : rmB T n (z_put τ 9 22 (a + 1)) := ⟨tt, hf, (show 0 ≤ a + 1 ∧ a + 1 ≤ n by omega), (show 0 ≤ τ 9 25 ∧ τ 9 25 ≤ a + 1 by omega), (show 0 ≤ τ 9 24 ∧ τ 9 24 ≤ 6 by omega)⟩
          refine z_aload_n dX9_product_53 rfl ?_
          refine z_callVV (d := k + 3) (av := []) dX9_product_54 vX9_227 rfl (Nat.le_of_ble_eq_true rfl) rfl rfl rfl (Nat.le_of_ble_eq_true rfl) (Nat.le_refl _) (ih _ hB1 e24) (fun σ54 h54 => ?_)
          have hr : rmP (nbF T n) (τ 9 25 + ((rd (nbF T n) k 5 (τ 9 24) (a + 1)).2.1 - (a + 1)) + 1) (τ 9 24) (z_put τ 9 22 (a + 1)) (rd (nbF T n) k 5 (τ 9 24) (a + 1)) σ54 := h54
          rw [e24] at hr
          have hro := rd_R (T := T) (n := n) k 5 (σ 9 24) (a + 1) (by omega) (by omega) (by omega)
          have hro2 := hro.2.1
          have hb5 := hr.lb hro (show 0 ≤ τ 9 25 ∧ τ 9 25 ≤ a + 1 by omega)
          refine z_aload_n dX9_product_57 rfl ?_
          refine z_iload_n dX9_product_58 rfl ?_
          refine z_iconst dX9_product_59 ?_
          refine z_callVV (d := k + 3) (av := [_, _]) dX9_product_60 vX9_215 rfl (Nat.le_of_ble_eq_true rfl) rfl rfl rfl (Nat.le_of_ble_eq_true rfl) (Nat.le_refl _) (c_X9_addStep (by omega) (by omega) ⟨by decide, by decide⟩) (fun σ60 h60 => ?_)
          subst h60
          refine z_goto (tgt := 4) dX9_product_63 (by decide) ?_
          refine z_forget [true, false] (L' := [_, _]) rfl ?_
          rw [lpF, if_pos hlv]
          have hu := rmP.add (c := -(nbF T n a)) (w := sbF (nbF T n a)) (v := 0) hB4.1 (rmP.seq hB4.1 hP hf hr.pre22 trivial) (i2b2 (by omega)) (wO0 (by omega))
          rcases hr.2 with q | q
          · have g1 := q.1
            rw [if_pos g1] at hu ⊢
            obtain ⟨r1, r2⟩ := hro.2.2 g1
            have f23 : amS σ54 (sbF (nbF T n a)) 0 9 23 = -1 := by rw [amS_f (by decide)]; exact q.2.1
            refine l_X9_product hB ih t _ _ _ (by omega) ⟨by omega, hro.2.1⟩ ?_ (hu.toB f23) f23
            simp only [List.length_append, List.length_cons, List.length_nil]
            omega
          · have f23 : amS σ54 (sbF (nbF T n a)) 0 9 23 = (rd (nbF T n) k 5 (σ 9 24) (a + 1)).2.1 := by rw [amS_f (by decide)]; exact q.2.1
            have hro1 := hro.1
            by_cases g1 : (rd (nbF T n) k 5 (σ 9 24) (a + 1)).1 = true
            · rw [if_pos g1] at hu ⊢
              rw [lpF_dig (by decide) (q.1 g1)]
              exact f_X9_product (hu.wk (by simp only; omega)) (by omega)
            · rw [if_neg g1] at hu ⊢
              exact f_X9_product (hu.wk (by simp only; omega)) (by omega)
        · skip
          refine z_aload_n dX9_product_29 rfl ?_
          refine z_callVI (d := k + 3) (av := []) dX9_product_30 vX9_211 rfl (Nat.le_of_ble_eq_true rfl) rfl rfl rfl (Nat.le_of_ble_eq_true rfl) (Nat.le_refl _) (c_X9_look tt (by omega)) (fun z30 σ30 h30 => ?_)
          obtain ⟨hs30, hz⟩ := h30
          subst σ30
          rw [e22] at hz
          subst hz
          refine z_bipush (v := 37) dX9_product_33 (by decide +kernel) ?_
          refine z_icmp_ne (tgt := 66) dX9_product_35 (by decide) ⟨by omega, by omega⟩ ⟨by omega, by omega⟩ (fun h35 => ?_) (fun h35 => ?_)
          · skip
            exact z_vret dX9_product_66 (by rw [lpF, if_neg (by unfold lvO; grind)]; exact hP.okB hf)
          · skip
            refine z_aload_n dX9_product_38 rfl ?_
            refine z_callVI (d := k + 3) (av := []) dX9_product_39 vX9_211 rfl (Nat.le_of_ble_eq_true rfl) rfl rfl rfl (Nat.le_of_ble_eq_true rfl) (Nat.le_refl _) (c_X9_look tt (by omega)) (fun z39 σ39 h39 => ?_)
            obtain ⟨hs39, hz⟩ := h39
            subst σ39
            rw [e22] at hz
            subst hz
            refine z_istore_n (L' := [_, _]) dX9_product_42 (Nat.le_of_ble_eq_true rfl) rfl rfl ?_
            refine z_aload_n dX9_product_43 rfl ?_
            refine z_dup dX9_product_44 rfl ?_
            refine z_getI dX9_product_45 gX9_196 rfl (Nat.le_of_ble_eq_true rfl) rfl (fun hr45 => ?_)
            refine z_iconst dX9_product_48 ?_
            refine z_iadd dX9_product_49 ?_
            refine z_putI dX9_product_50 pX9_196 rfl (Nat.le_of_ble_eq_true rfl) rfl ⟨by omega, by omega⟩ ?_
            have hlt := nbF_lt (T := T) (n := n) (a := a) (by omega)
            have hlv : lvO (nbF T n a) = 4 := by unfold lvO; grind
            rw [e22]
            have hB1 : rmB T n (z_put τ 9 22 (a + 1)) := ⟨tt, hf, (show 0 ≤ a + 1 ∧ a + 1 ≤ n by omega), (show 0 ≤ τ 9 25 ∧ τ 9 25 ≤ a + 1 by omega), (show 0 ≤ τ 9 24 ∧ τ 9 24 ≤ 6 by omega)⟩
            refine z_aload_n dX9_product_53 rfl ?_
            refine z_callVV (d := k + 3) (av := []) dX9_product_54 vX9_227 rfl (Nat.le_of_ble_eq_true rfl) rfl rfl rfl (Nat.le_of_ble_eq_true rfl) (Nat.le_refl _) (ih _ hB1 e24) (fun σ54 h54 => ?_)
            have hr : rmP (nbF T n) (τ 9 25 + ((rd (nbF T n) k 5 (τ 9 24) (a + 1)).2.1 - (a + 1)) + 1) (τ 9 24) (z_put τ 9 22 (a + 1)) (rd (nbF T n) k 5 (τ 9 24) (a + 1)) σ54 := h54
            rw [e24] at hr
            have hro := rd_R (T := T) (n := n) k 5 (σ 9 24) (a + 1) (by omega) (by omega) (by omega)
            have hro2 := hro.2.1
            have hb5 := hr.lb hro (show 0 ≤ τ 9 25 ∧ τ 9 25 ≤ a + 1 by omega)
            refine z_aload_n dX9_product_57 rfl ?_
            refine z_iload_n dX9_product_58 rfl ?_
            refine z_iconst dX9_product_59 ?_
            refine z_callVV (d := k + 3) (av := [_, _]) dX9_product_60 vX9_215 rfl (Nat.le_of_ble_eq_true rfl) rfl rfl rfl (Nat.le_of_ble_eq_true rfl) (Nat.le_refl _) (c_X9_addStep (by omega) (by omega) ⟨by decide, by decide⟩) (fun σ60 h60 => ?_)
            subst h60
            refine z_goto (tgt := 4) dX9_product_63 (by decide) ?_
            refine z_forget [true, false] (L' := [_, _]) rfl ?_
            rw [lpF, if_pos hlv]
            have hu := rmP.add (c := -(nbF T n a)) (w := sbF (nbF T n a)) (v := 0) hB4.1 (rmP.seq hB4.1 hP hf hr.pre22 trivial) (i2b2 (by omega)) (wO0 (by omega))
            rcases hr.2 with q | q
            · have g1 := q.1
              rw [if_pos g1] at hu ⊢
              obtain ⟨r1, r2⟩ := hro.2.2 g1
              have f23 : amS σ54 (sbF (nbF T n a)) 0 9 23 = -1 := by rw [amS_f (by decide)]; exact q.2.1
              refine l_X9_product hB ih t _ _ _ (by omega) ⟨by omega, hro.2.1⟩ ?_ (hu.toB f23) f23
              simp only [List.length_append, List.length_cons, List.length_nil]
              omega
            · have f23 : amS σ54 (sbF (nbF T n a)) 0 9 23 = (rd (nbF T n) k 5 (σ 9 24) (a + 1)).2.1 := by rw [amS_f (by decide)]; exact q.2.1
              have hro1 := hro.1
              by_cases g1 : (rd (nbF T n) k 5 (σ 9 24) (a + 1)).1 = true
              · rw [if_pos g1] at hu ⊢
                rw [lpF_dig (by decide) (q.1 g1)]
                exact f_X9_product (hu.wk (by simp only; omega)) (by omega)
              · rw [if_neg g1] at hu ⊢
                exact f_X9_product (hu.wk (by simp only; omega)) (by omega)
set_option maxRecDepth 20000 in
theorem c_X9_product {T : Nat → Int} {n : Int} {k : Nat} {σ : Sto} (hB : rmB T n σ) (ih : ∀ τ, rmB T n τ → τ 9 24 = σ 9 24 → mdC T n yX9_operand cX9_operand 2 5 k τ) : mdC T n yX9_product cX9_product 2 4 (k + 1) σ := by
  obtain ⟨hB1, hB2, hB3, hB4, hB5⟩ := id hB
  have hro := rd_R (T := T) (n := n) k 5 (σ 9 24) (σ 9 22) (by omega) (by omega) (by omega)
  unfold mdC
  refine z_does (L := [some (zR 9), none]) rfl (by decide +kernel) (Nat.le_of_ble_eq_true rfl) rfl ?_
  refine z_aload_n dX9_product_0 rfl ?_
  refine z_callVV (d := k + 3) (av := []) dX9_product_1 vX9_227 rfl (Nat.le_of_ble_eq_true rfl) rfl rfl rfl (Nat.le_of_ble_eq_true rfl) (Nat.le_refl _) (ih _ hB rfl) (fun σ1 h1 => ?_)
  skip
  rw [rd_l (by decide), if_neg (show ¬ (4 : Int) = 2 by decide), show (4 : Int) + 1 = 5 from rfl]
  rcases h1.2 with q | q
  · rw [if_pos q.1]
    have g1 := q.1
    have hro3 := hro.2.2 g1
    have hro1 := hro.1
    have hP : rmP (nbF T n) 1000 (σ 9 24) σ (true, (rd (nbF T n) k 5 (σ 9 24) (σ 9 22)).2.1, (rd (nbF T n) k 5 (σ 9 24) (σ 9 22)).2.2) σ1 := (by rw [← g1]; exact h1.toB q.2.1)
    exact l_X9_product hB ih 120 σ1 _ _ (by have := hB1.1; omega) ⟨hro1, hro.2.1⟩ (by omega) hP q.2.1
  · have hro1 := hro.1
    by_cases g1 : (rd (nbF T n) k 5 (σ 9 24) (σ 9 22)).1 = true
    · rw [if_pos g1, lpF_dig (by decide) (q.1 g1)]
      have h1' := h1
      rw [show rd (nbF T n) k 5 (σ 9 24) (σ 9 22) = (true, (rd (nbF T n) k 5 (σ 9 24) (σ 9 22)).2.1, (rd (nbF T n) k 5 (σ 9 24) (σ 9 22)).2.2) from Prod.ext g1 rfl] at h1'
      exact f_X9_product h1' (by have := q.2.1; omega)
    · rw [if_neg g1]
      exact f_X9_product (h1.no (by simpa using g1)) (by have := q.2.1; omega)
set_option maxRecDepth 20000 in
theorem f_X9_sum {D : Nat} {nb : Int → Int} {B O : Int} {σ τ : Sto} {r : RT} (h : rmP nb B O σ r τ) (hf : 0 ≤ τ 9 23) :
    Z (z_me cX9_sum RX9 2 none D (qV fun σ' => rmP nb B O σ r σ')) 4 [some (zR 9), none] [] τ := by
  refine z_aload_n dX9_sum_4 rfl ?_
  refine z_getI dX9_sum_5 gX9_199 rfl (Nat.le_of_ble_eq_true rfl) rfl (fun hr5 => ?_)
  refine z_if_ge (tgt := 57) dX9_sum_8 (by decide) ⟨by omega, by omega⟩ (fun h8 => ?_) (fun h8 => ?_)
  · skip
    exact z_vret dX9_sum_57 h
  · exfalso; omega
set_option maxRecDepth 20000 in
set_option maxHeartbeats 1000000 in
theorem l_X9_sum {T : Nat → Int} {n : Int} {k : Nat} {σ : Sto} (hB : rmB T n σ) (ih : ∀ τ, rmB T n τ → τ 9 24 = σ 9 24 → mdC T n yX9_product cX9_product 2 4 k τ) :
    ∀ (t : Nat) (τ : Sto) (out : List Int) (a : Int), n ≤ a + t → (σ 9 22 ≤ a ∧ a ≤ n) → (out.length : Int) ≤ a - σ 9 22 → rmP (nbF T n) 1000 (σ 9 24) σ (true, a, out) τ → τ 9 23 = -1 →
    Z (z_me cX9_sum RX9 2 none (k + 1 + 3) (qV fun σ' => rmP (nbF T n) (σ 9 25 + ((lpF (rd (nbF T n) k 4 (σ 9 24)) (nbF T n) 3 t a out).2.1 - σ 9 22) + 1) (σ 9 24) σ (lpF (rd (nbF T n) k 4 (σ 9 24)) (nbF T n) 3 t a out) σ')) 4 [some (zR 9), none] [] τ
  | 0, τ, out, a, ht, ha, ho, hP, hf => by
    have e22 : τ 9 22 = a := hP.at0 hf
    have tt := hP.1.tp hB.1
    obtain ⟨tn, t21, tT, t95⟩ := id tt
    have hnb : nbF T n a = -1 := if_neg (by omega)
    have hsb := sbF_c (nbF T n a)
    refine z_aload_n dX9_sum_4 rfl ?_
    refine z_getI dX9_sum_5 gX9_199 rfl (Nat.le_of_ble_eq_true rfl) rfl (fun hr5 => ?_)
    refine z_if_ge (tgt := 57) dX9_sum_8 (by decide) ⟨by omega, by omega⟩ (fun h8 => ?_) (fun h8 => ?_)
    · exfalso; omega
    · skip
      refine z_aload_n dX9_sum_11 rfl ?_
      refine z_callVI (d := k + 3) (av := []) dX9_sum_12 vX9_211 rfl (Nat.le_of_ble_eq_true rfl) rfl rfl rfl (Nat.le_of_ble_eq_true rfl) (Nat.le_refl _) (c_X9_look tt (by omega)) (fun z12 σ12 h12 => ?_)
      obtain ⟨hs12, hz⟩ := h12
      subst σ12
      rw [e22] at hz
      subst hz
      refine z_bipush (v := 43) dX9_sum_15 (by decide +kernel) ?_
      refine z_icmp_eq (tgt := 29) dX9_sum_17 (by decide) ⟨by omega, by omega⟩ ⟨by omega, by omega⟩ (fun h17 => ?_) (fun h17 => ?_)
      · exfalso; omega
      · skip
        refine z_aload_n dX9_sum_20 rfl ?_
        refine z_callVI (d := k + 3) (av := []) dX9_sum_21 vX9_211 rfl (Nat.le_of_ble_eq_true rfl) rfl rfl rfl (Nat.le_of_ble_eq_true rfl) (Nat.le_refl _) (c_X9_look tt (by omega)) (fun z21 σ21 h21 => ?_)
        obtain ⟨hs21, hz⟩ := h21
        subst σ21
        rw [e22] at hz
        subst hz
        refine z_bipush (v := 45) dX9_sum_24 (by decide +kernel) ?_
        refine z_icmp_ne (tgt := 57) dX9_sum_26 (by decide) ⟨by omega, by omega⟩ ⟨by omega, by omega⟩ (fun h26 => ?_) (fun h26 => ?_)
        · skip
          exact z_vret dX9_sum_57 (hP.okB hf)
        · exfalso; omega
  | t + 1, τ, out, a, ht, ha, ho, hP, hf => by
    obtain ⟨-, -, hB3, hB4, hB5⟩ := id hB
    have e22 : τ 9 22 = a := hP.at0 hf
    have e25 : τ 9 25 = σ 9 25 + out.length := hP.laid0 hf
    have e24 : τ 9 24 = σ 9 24 := hP.op0 hf
    have tt := hP.1.tp hB.1
    obtain ⟨tn, t21, tT, t95⟩ := id tt
    have hsb := sbF_c (nbF T n a)
    have hbR := nbF_R (T := T) (n := n) (a := a) tT
    refine z_aload_n dX9_sum_4 rfl ?_
    refine z_getI dX9_sum_5 gX9_199 rfl (Nat.le_of_ble_eq_true rfl) rfl (fun hr5 => ?_)
    refine z_if_ge (tgt := 57) dX9_sum_8 (by decide) ⟨by omega, by omega⟩ (fun h8 => ?_) (fun h8 => ?_)
    · exfalso; omega
    · skip
      refine z_aload_n dX9_sum_11 rfl ?_
      refine z_callVI (d := k + 3) (av := []) dX9_sum_12 vX9_211 rfl (Nat.le_of_ble_eq_true rfl) rfl rfl rfl (Nat.le_of_ble_eq_true rfl) (Nat.le_refl _) (c_X9_look tt (by omega)) (fun z12 σ12 h12 => ?_)
      obtain ⟨hs12, hz⟩ := h12
      subst σ12
      rw [e22] at hz
      subst hz
      refine z_bipush (v := 43) dX9_sum_15 (by decide +kernel) ?_
      refine z_icmp_eq (tgt := 29) dX9_sum_17 (by decide) ⟨by omega, by omega⟩ ⟨by omega, by omega⟩ (fun h17 => ?_) (fun h17 => ?_)
      · skip
        refine z_aload_n dX9_sum_29 rfl ?_
        refine z_callVI (d := k + 3) (av := []) dX9_sum_30 vX9_211 rfl (Nat.le_of_ble_eq_true rfl) rfl rfl rfl (Nat.le_of_ble_eq_true rfl) (Nat.le_refl _) (c_X9_look tt (by omega)) (fun z30 σ30 h30 => ?_)
        obtain ⟨hs30, hz⟩ := h30
        subst σ30
        rw [e22] at hz
        subst hz
        refine z_istore_n (L' := [_, _]) dX9_sum_33 (Nat.le_of_ble_eq_true rfl) rfl rfl ?_
        refine z_aload_n dX9_sum_34 rfl ?_
        refine z_dup dX9_sum_35 rfl ?_
        refine z_getI dX9_sum_36 gX9_196 rfl (Nat.le_of_ble_eq_true rfl) rfl (fun hr36 => ?_)
        refine z_iconst dX9_sum_39 ?_
        refine z_iadd dX9_sum_40 ?_
        refine z_putI dX9_sum_41 pX9_196 rfl (Nat.le_of_ble_eq_true rfl) rfl ⟨by omega, by omega⟩ ?_
        have hlt := nbF_lt (T := T) (n := n) (a := a) (by omega)
        have hlv : lvO (nbF T n a) = 3 := by unfold lvO; grind
        rw [e22]
        have hB1 : rmB T n (z_put τ 9 22 (a + 1)) := ⟨tt, hf, (show 0 ≤ a + 1 ∧ a + 1 ≤ n by omega), (show 0 ≤ τ 9 25 ∧ τ 9 25 ≤ a + 1 by omega), (show 0 ≤ τ 9 24 ∧ τ 9 24 ≤ 6 by omega)⟩
        refine z_aload_n dX9_sum_44 rfl ?_
        refine z_callVV (d := k + 3) (av := []) dX9_sum_45 vX9_236 rfl (Nat.le_of_ble_eq_true rfl) rfl rfl rfl (Nat.le_of_ble_eq_true rfl) (Nat.le_refl _) (ih _ hB1 e24) (fun σ45 h45 => ?_)
        have hr : rmP (nbF T n) (τ 9 25 + ((rd (nbF T n) k 4 (τ 9 24) (a + 1)).2.1 - (a + 1)) + 1) (τ 9 24) (z_put τ 9 22 (a + 1)) (rd (nbF T n) k 4 (τ 9 24) (a + 1)) σ45 := h45
        rw [e24] at hr
        have hro := rd_R (T := T) (n := n) k 4 (σ 9 24) (a + 1) (by omega) (by omega) (by omega)
        have hro2 := hro.2.1
        have hb5 := hr.lb hro (show 0 ≤ τ 9 25 ∧ τ 9 25 ≤ a + 1 by omega)
        refine z_aload_n dX9_sum_48 rfl ?_
        refine z_iload_n dX9_sum_49 rfl ?_
        refine z_iconst dX9_sum_50 ?_
        refine z_callVV (d := k + 3) (av := [_, _]) dX9_sum_51 vX9_215 rfl (Nat.le_of_ble_eq_true rfl) rfl rfl rfl (Nat.le_of_ble_eq_true rfl) (Nat.le_refl _) (c_X9_addStep (by omega) (by omega) ⟨by decide, by decide⟩) (fun σ51 h51 => ?_)
        subst h51
        refine z_goto (tgt := 4) dX9_sum_54 (by decide) ?_
        refine z_forget [true, false] (L' := [_, _]) rfl ?_
        rw [lpF, if_pos hlv]
        have hu := rmP.add (c := -(nbF T n a)) (w := sbF (nbF T n a)) (v := 0) hB4.1 (rmP.seq hB4.1 hP hf hr.pre22 trivial) (i2b2 (by omega)) (wO0 (by omega))
        rcases hr.2 with q | q
        · have g1 := q.1
          rw [if_pos g1] at hu ⊢
          obtain ⟨r1, r2⟩ := hro.2.2 g1
          have f23 : amS σ45 (sbF (nbF T n a)) 0 9 23 = -1 := by rw [amS_f (by decide)]; exact q.2.1
          refine l_X9_sum hB ih t _ _ _ (by omega) ⟨by omega, hro.2.1⟩ ?_ (hu.toB f23) f23
          simp only [List.length_append, List.length_cons, List.length_nil]
          omega
        · have f23 : amS σ45 (sbF (nbF T n a)) 0 9 23 = (rd (nbF T n) k 4 (σ 9 24) (a + 1)).2.1 := by rw [amS_f (by decide)]; exact q.2.1
          have hro1 := hro.1
          by_cases g1 : (rd (nbF T n) k 4 (σ 9 24) (a + 1)).1 = true
          · rw [if_pos g1] at hu ⊢
            rw [lpF_dig (by decide) (q.1 g1)]
            exact f_X9_sum (hu.wk (by simp only; omega)) (by omega)
          · rw [if_neg g1] at hu ⊢
            exact f_X9_sum (hu.wk (by simp only; omega)) (by omega)
      · skip
        refine z_aload_n dX9_sum_20 rfl ?_
        refine z_callVI (d := k + 3) (av := []) dX9_sum_21 vX9_211 rfl (Nat.le_of_ble_eq_true rfl) rfl rfl rfl (Nat.le_of_ble_eq_true rfl) (Nat.le_refl _) (c_X9_look tt (by omega)) (fun z21 σ21 h21 => ?_)
        obtain ⟨hs21, hz⟩ := h21
        subst σ21
        rw [e22] at hz
        subst hz
        refine z_bipush (v := 45) dX9_sum_24 (by decide +kernel) ?_
        refine z_icmp_ne (tgt := 57) dX9_sum_26 (by decide) ⟨by omega, by omega⟩ ⟨by omega, by omega⟩ (fun h26 => ?_) (fun h26 => ?_)
        · skip
          exact z_vret dX9_sum_57 (by rw [lpF, if_neg (by unfold lvO; grind)]; exact hP.okB hf)
        · skip
          refine z_aload_n dX9_sum_29 rfl ?_
          refine z_callVI (d := k + 3) (av := []) dX9_sum_30 vX9_211 rfl (Nat.le_of_ble_eq_true rfl) rfl rfl rfl (Nat.le_of_ble_eq_true rfl) (Nat.le_refl _) (c_X9_look tt (by omega)) (fun z30 σ30 h30 => ?_)
          obtain ⟨hs30, hz⟩ := h30
          subst σ30
          rw [e22] at hz
          subst hz
          refine z_istore_n (L' := [_, _]) dX9_sum_33 (Nat.le_of_ble_eq_true rfl) rfl rfl ?_
          refine z_aload_n dX9_sum_34 rfl ?_
          refine z_dup dX9_sum_35 rfl ?_
          refine z_getI dX9_sum_36 gX9_196 rfl (Nat.le_of_ble_eq_true rfl) rfl (fun hr36 => ?_)
          refine z_iconst dX9_sum_39 ?_
          refine z_iadd dX9_sum_40 ?_
          refine z_putI dX9_sum_41 pX9_196 rfl (Nat.le_of_ble_eq_true rfl) rfl ⟨by omega, by omega⟩ ?_
          have hlt := nbF_lt (T := T) (n := n) (a := a) (by omega)
          have hlv : lvO (nbF T n a) = 3 := by unfold lvO; grind
          rw [e22]
          have hB1 : rmB T n (z_put τ 9 22 (a + 1)) := ⟨tt, hf, (show 0 ≤ a + 1 ∧ a + 1 ≤ n by omega), (show 0 ≤ τ 9 25 ∧ τ 9 25 ≤ a + 1 by omega), (show 0 ≤ τ 9 24 ∧ τ 9 24 ≤ 6 by omega)⟩
          refine z_aload_n dX9_sum_44 rfl ?_
          refine z_callVV (d := k + 3) (av := []) dX9_sum_45 vX9_236 rfl (Nat.le_of_ble_eq_true rfl) rfl rfl rfl (Nat.le_of_ble_eq_true rfl) (Nat.le_refl _) (ih _ hB1 e24) (fun σ45 h45 => ?_)
          have hr : rmP (nbF T n) (τ 9 25 + ((rd (nbF T n) k 4 (τ 9 24) (a + 1)).2.1 - (a + 1)) + 1) (τ 9 24) (z_put τ 9 22 (a + 1)) (rd (nbF T n) k 4 (τ 9 24) (a + 1)) σ45 := h45
          rw [e24] at hr
          have hro := rd_R (T := T) (n := n) k 4 (σ 9 24) (a + 1) (by omega) (by omega) (by omega)
          have hro2 := hro.2.1
          have hb5 := hr.lb hro (show 0 ≤ τ 9 25 ∧ τ 9 25 ≤ a + 1 by omega)
          refine z_aload_n dX9_sum_48 rfl ?_
          refine z_iload_n dX9_sum_49 rfl ?_
          refine z_iconst dX9_sum_50 ?_
          refine z_callVV (d := k + 3) (av := [_, _]) dX9_sum_51 vX9_215 rfl (Nat.le_of_ble_eq_true rfl) rfl rfl rfl (Nat.le_of_ble_eq_true rfl) (Nat.le_refl _) (c_X9_addStep (by omega) (by omega) ⟨by decide, by decide⟩) (fun σ51 h51 => ?_)
          subst h51
          refine z_goto (tgt := 4) dX9_sum_54 (by decide) ?_
          refine z_forget [true, false] (L' := [_, _]) rfl ?_
          rw [lpF, if_pos hlv]
          have hu := rmP.add (c := -(nbF T n a)) (w := sbF (nbF T n a)) (v := 0) hB4.1 (rmP.seq hB4.1 hP hf hr.pre22 trivial) (i2b2 (by omega)) (wO0 (by omega))
          rcases hr.2 with q | q
          · have g1 := q.1
            rw [if_pos g1] at hu ⊢
            obtain ⟨r1, r2⟩ := hro.2.2 g1
            have f23 : amS σ45 (sbF (nbF T n a)) 0 9 23 = -1 := by rw [amS_f (by decide)]; exact q.2.1
            refine l_X9_sum hB ih t _ _ _ (by omega) ⟨by omega, hro.2.1⟩ ?_ (hu.toB f23) f23
            simp only [List.length_append, List.length_cons, List.length_nil]
            omega
          · have f23 : amS σ45 (sbF (nbF T n a)) 0 9 23 = (rd (nbF T n) k 4 (σ 9 24) (a + 1)).2.1 := by rw [amS_f (by decide)]; exact q.2.1
            have hro1 := hro.1
            by_cases g1 : (rd (nbF T n) k 4 (σ 9 24) (a + 1)).1 = true
            · rw [if_pos g1] at hu ⊢
              rw [lpF_dig (by decide) (q.1 g1)]
              exact f_X9_sum (hu.wk (by simp only; omega)) (by omega)
            · rw [if_neg g1] at hu ⊢
              exact f_X9_sum (hu.wk (by simp only; omega)) (by omega)
set_option maxRecDepth 20000 in
theorem c_X9_sum {T : Nat → Int} {n : Int} {k : Nat} {σ : Sto} (hB : rmB T n σ) (ih : ∀ τ, rmB T n τ → τ 9 24 = σ 9 24 → mdC T n yX9_product cX9_product 2 4 k τ) : mdC T n yX9_sum cX9_sum 2 3 (k + 1) σ := by
  obtain ⟨hB1, hB2, hB3, hB4, hB5⟩ := id hB
  have hro := rd_R (T := T) (n := n) k 4 (σ 9 24) (σ 9 22) (by omega) (by omega) (by omega)
  unfold mdC
  refine z_does (L := [some (zR 9), none]) rfl (by decide +kernel) (Nat.le_of_ble_eq_true rfl) rfl ?_
  refine z_aload_n dX9_sum_0 rfl ?_
  refine z_callVV (d := k + 3) (av := []) dX9_sum_1 vX9_236 rfl (Nat.le_of_ble_eq_true rfl) rfl rfl rfl (Nat.le_of_ble_eq_true rfl) (Nat.le_refl _) (ih _ hB rfl) (fun σ1 h1 => ?_)
  skip
  rw [rd_l (by decide), if_neg (show ¬ (3 : Int) = 2 by decide), show (3 : Int) + 1 = 4 from rfl]
  rcases h1.2 with q | q
  · rw [if_pos q.1]
    have g1 := q.1
    have hro3 := hro.2.2 g1
    have hro1 := hro.1
    have hP : rmP (nbF T n) 1000 (σ 9 24) σ (true, (rd (nbF T n) k 4 (σ 9 24) (σ 9 22)).2.1, (rd (nbF T n) k 4 (σ 9 24) (σ 9 22)).2.2) σ1 := (by rw [← g1]; exact h1.toB q.2.1)
    exact l_X9_sum hB ih 120 σ1 _ _ (by have := hB1.1; omega) ⟨hro1, hro.2.1⟩ (by omega) hP q.2.1
  · have hro1 := hro.1
    by_cases g1 : (rd (nbF T n) k 4 (σ 9 24) (σ 9 22)).1 = true
    · rw [if_pos g1, lpF_dig (by decide) (q.1 g1)]
      have h1' := h1
      rw [show rd (nbF T n) k 4 (σ 9 24) (σ 9 22) = (true, (rd (nbF T n) k 4 (σ 9 24) (σ 9 22)).2.1, (rd (nbF T n) k 4 (σ 9 24) (σ 9 22)).2.2) from Prod.ext g1 rfl] at h1'
      exact f_X9_sum h1' (by have := q.2.1; omega)
    · rw [if_neg g1]
      exact f_X9_sum (h1.no (by simpa using g1)) (by have := q.2.1; omega)
set_option maxRecDepth 20000 in
set_option maxHeartbeats 1000000 in
theorem c_X9_compared {T : Nat → Int} {n : Int} {k : Nat} {σ : Sto} (hB : rmB T n σ) (ih : ∀ τ, rmB T n τ → τ 9 24 = σ 9 24 → mdC T n yX9_sum cX9_sum 2 3 k τ) : mdC T n yX9_compared cX9_compared 2 2 (k + 1) σ := by
  obtain ⟨hB1, hB2, hB3, hB4, hB5⟩ := id hB
  have hro := rd_R (T := T) (n := n) k 3 (σ 9 24) (σ 9 22) (by omega) (by omega) (by omega)
  have hro1 := hro.1
  have hro2 := hro.2.1
  obtain ⟨tn, t21, tT, t95⟩ := id hB1
  unfold mdC
  rw [rd_l (by decide), if_pos (show (2 : Int) = 2 from rfl), show (2 : Int) + 1 = 3 from rfl]
  refine z_does (L := [some (zR 9), none]) rfl (by decide +kernel) (Nat.le_of_ble_eq_true rfl) rfl ?_
  refine z_aload_n dX9_compared_0 rfl ?_
  refine z_callVV (d := k + 3) (av := []) dX9_compared_1 vX9_239 rfl (Nat.le_of_ble_eq_true rfl) rfl rfl rfl (Nat.le_of_ble_eq_true rfl) (Nat.le_refl _) (ih _ hB rfl) (fun σ1 h1 => ?_)
  have tt := h1.1.tp hB1
  have k22 : 0 ≤ σ1 9 22 ∧ σ1 9 22 ≤ 120 := by rcases h1.2 with q | q; have := q.2.2.1; omega; exact q.2.2.2.1
  refine z_aload_n dX9_compared_4 rfl ?_
  refine z_callVI (d := k + 3) (av := []) dX9_compared_5 vX9_211 rfl (Nat.le_of_ble_eq_true rfl) rfl rfl rfl (Nat.le_of_ble_eq_true rfl) (Nat.le_refl _) (c_X9_look tt (by omega)) (fun z5 σ5 h5 => ?_)
  obtain ⟨hs5, hz⟩ := h5
  subst σ5
  refine z_istore_n (L' := [_, _]) dX9_compared_8 (Nat.le_of_ble_eq_true rfl) rfl rfl ?_
  have hsb := sbF_c (nbF T n (σ1 9 22))
  have hbR := nbF_R (T := T) (n := n) (a := σ1 9 22) tT
  refine z_aload_n dX9_compared_9 rfl ?_
  refine z_getI dX9_compared_10 gX9_199 rfl (Nat.le_of_ble_eq_true rfl) rfl (fun hr10 => ?_)
  refine z_if_ge (tgt := 34) dX9_compared_13 (by decide) ⟨by omega, by omega⟩ (fun h13 => ?_) (fun h13 => ?_)
  · skip
    exact z_vret dX9_compared_34 (by
      first
        | (rw [lpF, if_neg (by unfold lvO; grind)]; exact hP.okB hf)
        | (rcases h1.2 with q | q
           · exfalso; have := q.2.1; omega
           · by_cases g1 : (rd (nbF T n) k 3 (σ 9 24) (σ 9 22)).1 = true
             · rw [if_pos g1, lpF_dig (by decide) (q.1 g1)]
               rw [show rd (nbF T n) k 3 (σ 9 24) (σ 9 22) = (true, (rd (nbF T n) k 3 (σ 9 24) (σ 9 22)).2.1, (rd (nbF T n) k 3 (σ 9 24) (σ 9 22)).2.2) from Prod.ext g1 rfl] at h1
               exact h1
             · rw [if_neg g1]
               exact h1.no (by simpa using g1)))
  · skip
    have hf : σ1 9 23 = -1 := by rcases h1.2 with q | q; exact q.2.1; have := q.2.1; have := q.2.2.1; omega
    have hb := h1.bad hf
    rw [hb.2.1] at hz hsb hbR
    rw [if_pos hb.1]
    have hro3 := hro.2.2 hb.1
    have hP : rmP (nbF T n) 1000 (σ 9 24) σ (true, (rd (nbF T n) k 3 (σ 9 24) (σ 9 22)).2.1, (rd (nbF T n) k 3 (σ 9 24) (σ 9 22)).2.2) σ1 := (by rw [← hb.1]; exact h1.toB hf)
    refine z_iload_n dX9_compared_16 rfl ?_
    refine z_bipush (v := 60) dX9_compared_17 (by decide +kernel) ?_
    refine z_icmp_eq (tgt := 35) dX9_compared_19 (by decide) ⟨by omega, by omega⟩ ⟨by omega, by omega⟩ (fun h19 => ?_) (fun h19 => ?_)
    · skip
      refine z_aload_n dX9_compared_35 rfl ?_
      refine z_dup dX9_compared_36 rfl ?_
      refine z_getI dX9_compared_37 gX9_196 rfl (Nat.le_of_ble_eq_true rfl) rfl (fun hr37 => ?_)
      refine z_iconst dX9_compared_40 ?_
      refine z_iadd dX9_compared_41 ?_
      refine z_putI dX9_compared_42 pX9_196 rfl (Nat.le_of_ble_eq_true rfl) rfl ⟨by omega, by omega⟩ ?_
      have hlt := nbF_lt (T := T) (n := n) (a := (rd (nbF T n) k 3 (σ 9 24) (σ 9 22)).2.1) (by omega)
      have hlv : lvO (nbF T n (rd (nbF T n) k 3 (σ 9 24) (σ 9 22)).2.1) = 2 := by unfold lvO; grind
      rw [hb.2.1]
      have hBB : rmB T n (z_put σ1 9 22 ((rd (nbF T n) k 3 (σ 9 24) (σ 9 22)).2.1 + 1)) := ⟨tt, hf, (show 0 ≤ (rd (nbF T n) k 3 (σ 9 24) (σ 9 22)).2.1 + 1 ∧ (rd (nbF T n) k 3 (σ 9 24) (σ 9 22)).2.1 + 1 ≤ n by omega), (show 0 ≤ σ1 9 25 ∧ σ1 9 25 ≤ (rd (nbF T n) k 3 (σ 9 24) (σ 9 22)).2.1 + 1 by omega), (show 0 ≤ σ1 9 24 ∧ σ1 9 24 ≤ 6 by omega)⟩
      refine z_aload_n dX9_compared_45 rfl ?_
      refine z_callVV (d := k + 3) (av := []) dX9_compared_46 vX9_239 rfl (Nat.le_of_ble_eq_true rfl) rfl rfl rfl (Nat.le_of_ble_eq_true rfl) (Nat.le_refl _) (ih _ hBB hb.2.2.1) (fun σ46 h46 => ?_)
      have hr : rmP (nbF T n) (σ1 9 25 + ((rd (nbF T n) k 3 (σ1 9 24) ((rd (nbF T n) k 3 (σ 9 24) (σ 9 22)).2.1 + 1)).2.1 - ((rd (nbF T n) k 3 (σ 9 24) (σ 9 22)).2.1 + 1)) + 1) (σ1 9 24) (z_put σ1 9 22 ((rd (nbF T n) k 3 (σ 9 24) (σ 9 22)).2.1 + 1)) (rd (nbF T n) k 3 (σ1 9 24) ((rd (nbF T n) k 3 (σ 9 24) (σ 9 22)).2.1 + 1)) σ46 := h46
      rw [hb.2.2.1] at hr
      have hroB := rd_R (T := T) (n := n) k 3 (σ 9 24) ((rd (nbF T n) k 3 (σ 9 24) (σ 9 22)).2.1 + 1) (by omega) (by omega) (by omega)
      have hroB20 := hroB.2.1
      have hb5 := hr.lb hroB (show 0 ≤ σ1 9 25 ∧ σ1 9 25 ≤ (rd (nbF T n) k 3 (σ 9 24) (σ 9 22)).2.1 + 1 by omega)
      have hroB1 := hroB.1
      have hroB2 := hroB.2.1
      refine z_aload_n dX9_compared_49 rfl ?_
      refine z_iload_n dX9_compared_50 rfl ?_
      refine z_iconst dX9_compared_51 ?_
      refine z_callVV (d := k + 3) (av := [_, _]) dX9_compared_52 vX9_215 rfl (Nat.le_of_ble_eq_true rfl) rfl rfl rfl (Nat.le_of_ble_eq_true rfl) (Nat.le_refl _) (c_X9_addStep (by omega) (by omega) ⟨by decide, by decide⟩) (fun σ52 h52 => ?_)
      subst h52
      exact z_vret dX9_compared_55 (by
        rw [lpF, if_pos hlv]
        simp only [lpF]
        have hu := rmP.add (c := -(nbF T n (rd (nbF T n) k 3 (σ 9 24) (σ 9 22)).2.1)) (w := z5) (v := 0) hB4.1 (rmP.seq hB4.1 hP hf hr.pre22 trivial) (i2b2 (by omega)) (wO0 (by omega))
        simp only at hu
        by_cases g1 : (rd (nbF T n) k 3 (σ 9 24) ((rd (nbF T n) k 3 (σ 9 24) (σ 9 22)).2.1 + 1)).1 = true
        · rw [if_pos g1] at hu ⊢; exact hu.wk (by simp only; omega)
        · rw [if_neg g1] at hu ⊢; exact hu.wk (by simp only; omega))
    · skip
      refine z_iload_n dX9_compared_22 rfl ?_
      refine z_bipush (v := 61) dX9_compared_23 (by decide +kernel) ?_
      refine z_icmp_eq (tgt := 35) dX9_compared_25 (by decide) ⟨by omega, by omega⟩ ⟨by omega, by omega⟩ (fun h25 => ?_) (fun h25 => ?_)
      · skip
        refine z_aload_n dX9_compared_35 rfl ?_
        refine z_dup dX9_compared_36 rfl ?_
        refine z_getI dX9_compared_37 gX9_196 rfl (Nat.le_of_ble_eq_true rfl) rfl (fun hr37 => ?_)
        refine z_iconst dX9_compared_40 ?_
        refine z_iadd dX9_compared_41 ?_
        refine z_putI dX9_compared_42 pX9_196 rfl (Nat.le_of_ble_eq_true rfl) rfl ⟨by omega, by omega⟩ ?_
        have hlt := nbF_lt (T := T) (n := n) (a := (rd (nbF T n) k 3 (σ 9 24) (σ 9 22)).2.1) (by omega)
        have hlv : lvO (nbF T n (rd (nbF T n) k 3 (σ 9 24) (σ 9 22)).2.1) = 2 := by unfold lvO; grind
        rw [hb.2.1]
        have hBB : rmB T n (z_put σ1 9 22 ((rd (nbF T n) k 3 (σ 9 24) (σ 9 22)).2.1 + 1)) := ⟨tt, hf, (show 0 ≤ (rd (nbF T n) k 3 (σ 9 24) (σ 9 22)).2.1 + 1 ∧ (rd (nbF T n) k 3 (σ 9 24) (σ 9 22)).2.1 + 1 ≤ n by omega), (show 0 ≤ σ1 9 25 ∧ σ1 9 25 ≤ (rd (nbF T n) k 3 (σ 9 24) (σ 9 22)).2.1 + 1 by omega), (show 0 ≤ σ1 9 24 ∧ σ1 9 24 ≤ 6 by omega)⟩
        refine z_aload_n dX9_compared_45 rfl ?_
        refine z_callVV (d := k + 3) (av := []) dX9_compared_46 vX9_239 rfl (Nat.le_of_ble_eq_true rfl) rfl rfl rfl (Nat.le_of_ble_eq_true rfl) (Nat.le_refl _) (ih _ hBB hb.2.2.1) (fun σ46 h46 => ?_)
        have hr : rmP (nbF T n) (σ1 9 25 + ((rd (nbF T n) k 3 (σ1 9 24) ((rd (nbF T n) k 3 (σ 9 24) (σ 9 22)).2.1 + 1)).2.1 - ((rd (nbF T n) k 3 (σ 9 24) (σ 9 22)).2.1 + 1)) + 1) (σ1 9 24) (z_put σ1 9 22 ((rd (nbF T n) k 3 (σ 9 24) (σ 9 22)).2.1 + 1)) (rd (nbF T n) k 3 (σ1 9 24) ((rd (nbF T n) k 3 (σ 9 24) (σ 9 22)).2.1 + 1)) σ46 := h46
        rw [hb.2.2.1] at hr
        have hroB := rd_R (T := T) (n := n) k 3 (σ 9 24) ((rd (nbF T n) k 3 (σ 9 24) (σ 9 22)).2.1 + 1) (by omega) (by omega) (by omega)
        have hroB20 := hroB.2.1
        have hb5 := hr.lb hroB (show 0 ≤ σ1 9 25 ∧ σ1 9 25 ≤ (rd (nbF T n) k 3 (σ 9 24) (σ 9 22)).2.1 + 1 by omega)
        have hroB1 := hroB.1
        have hroB2 := hroB.2.1
        refine z_aload_n dX9_compared_49 rfl ?_
        refine z_iload_n dX9_compared_50 rfl ?_
        refine z_iconst dX9_compared_51 ?_
        refine z_callVV (d := k + 3) (av := [_, _]) dX9_compared_52 vX9_215 rfl (Nat.le_of_ble_eq_true rfl) rfl rfl rfl (Nat.le_of_ble_eq_true rfl) (Nat.le_refl _) (c_X9_addStep (by omega) (by omega) ⟨by decide, by decide⟩) (fun σ52 h52 => ?_)
        subst h52
        exact z_vret dX9_compared_55 (by
          rw [lpF, if_pos hlv]
          simp only [lpF]
          have hu := rmP.add (c := -(nbF T n (rd (nbF T n) k 3 (σ 9 24) (σ 9 22)).2.1)) (w := z5) (v := 0) hB4.1 (rmP.seq hB4.1 hP hf hr.pre22 trivial) (i2b2 (by omega)) (wO0 (by omega))
          simp only at hu
          by_cases g1 : (rd (nbF T n) k 3 (σ 9 24) ((rd (nbF T n) k 3 (σ 9 24) (σ 9 22)).2.1 + 1)).1 = true
          · rw [if_pos g1] at hu ⊢; exact hu.wk (by simp only; omega)
          · rw [if_neg g1] at hu ⊢; exact hu.wk (by simp only; omega))
      · skip
        refine z_iload_n dX9_compared_28 rfl ?_
        refine z_bipush (v := 62) dX9_compared_29 (by decide +kernel) ?_
        refine z_icmp_eq (tgt := 35) dX9_compared_31 (by decide) ⟨by omega, by omega⟩ ⟨by omega, by omega⟩ (fun h31 => ?_) (fun h31 => ?_)
        · skip
          refine z_aload_n dX9_compared_35 rfl ?_
          refine z_dup dX9_compared_36 rfl ?_
          refine z_getI dX9_compared_37 gX9_196 rfl (Nat.le_of_ble_eq_true rfl) rfl (fun hr37 => ?_)
          refine z_iconst dX9_compared_40 ?_
          refine z_iadd dX9_compared_41 ?_
          refine z_putI dX9_compared_42 pX9_196 rfl (Nat.le_of_ble_eq_true rfl) rfl ⟨by omega, by omega⟩ ?_
          have hlt := nbF_lt (T := T) (n := n) (a := (rd (nbF T n) k 3 (σ 9 24) (σ 9 22)).2.1) (by omega)
          have hlv : lvO (nbF T n (rd (nbF T n) k 3 (σ 9 24) (σ 9 22)).2.1) = 2 := by unfold lvO; grind
          rw [hb.2.1]
          have hBB : rmB T n (z_put σ1 9 22 ((rd (nbF T n) k 3 (σ 9 24) (σ 9 22)).2.1 + 1)) := ⟨tt, hf, (show 0 ≤ (rd (nbF T n) k 3 (σ 9 24) (σ 9 22)).2.1 + 1 ∧ (rd (nbF T n) k 3 (σ 9 24) (σ 9 22)).2.1 + 1 ≤ n by omega), (show 0 ≤ σ1 9 25 ∧ σ1 9 25 ≤ (rd (nbF T n) k 3 (σ 9 24) (σ 9 22)).2.1 + 1 by omega), (show 0 ≤ σ1 9 24 ∧ σ1 9 24 ≤ 6 by omega)⟩
          refine z_aload_n dX9_compared_45 rfl ?_
          refine z_callVV (d := k + 3) (av := []) dX9_compared_46 vX9_239 rfl (Nat.le_of_ble_eq_true rfl) rfl rfl rfl (Nat.le_of_ble_eq_true rfl) (Nat.le_refl _) (ih _ hBB hb.2.2.1) (fun σ46 h46 => ?_)
          have hr : rmP (nbF T n) (σ1 9 25 + ((rd (nbF T n) k 3 (σ1 9 24) ((rd (nbF T n) k 3 (σ 9 24) (σ 9 22)).2.1 + 1)).2.1 - ((rd (nbF T n) k 3 (σ 9 24) (σ 9 22)).2.1 + 1)) + 1) (σ1 9 24) (z_put σ1 9 22 ((rd (nbF T n) k 3 (σ 9 24) (σ 9 22)).2.1 + 1)) (rd (nbF T n) k 3 (σ1 9 24) ((rd (nbF T n) k 3 (σ 9 24) (σ 9 22)).2.1 + 1)) σ46 := h46
          rw [hb.2.2.1] at hr
          have hroB := rd_R (T := T) (n := n) k 3 (σ 9 24) ((rd (nbF T n) k 3 (σ 9 24) (σ 9 22)).2.1 + 1) (by omega) (by omega) (by omega)
          have hroB20 := hroB.2.1
          have hb5 := hr.lb hroB (show 0 ≤ σ1 9 25 ∧ σ1 9 25 ≤ (rd (nbF T n) k 3 (σ 9 24) (σ 9 22)).2.1 + 1 by omega)
          have hroB1 := hroB.1
          have hroB2 := hroB.2.1
          refine z_aload_n dX9_compared_49 rfl ?_
          refine z_iload_n dX9_compared_50 rfl ?_
          refine z_iconst dX9_compared_51 ?_
          refine z_callVV (d := k + 3) (av := [_, _]) dX9_compared_52 vX9_215 rfl (Nat.le_of_ble_eq_true rfl) rfl rfl rfl (Nat.le_of_ble_eq_true rfl) (Nat.le_refl _) (c_X9_addStep (by omega) (by omega) ⟨by decide, by decide⟩) (fun σ52 h52 => ?_)
          subst h52
          exact z_vret dX9_compared_55 (by
            rw [lpF, if_pos hlv]
            simp only [lpF]
            have hu := rmP.add (c := -(nbF T n (rd (nbF T n) k 3 (σ 9 24) (σ 9 22)).2.1)) (w := z5) (v := 0) hB4.1 (rmP.seq hB4.1 hP hf hr.pre22 trivial) (i2b2 (by omega)) (wO0 (by omega))
            simp only at hu
            by_cases g1 : (rd (nbF T n) k 3 (σ 9 24) ((rd (nbF T n) k 3 (σ 9 24) (σ 9 22)).2.1 + 1)).1 = true
            · rw [if_pos g1] at hu ⊢; exact hu.wk (by simp only; omega)
            · rw [if_neg g1] at hu ⊢; exact hu.wk (by simp only; omega))
        · skip
          exact z_vret dX9_compared_34 (by
            first
              | (rw [lpF, if_neg (by unfold lvO; grind)]; exact hP.okB hf)
              | (rcases h1.2 with q | q
                 · exfalso; have := q.2.1; omega
                 · by_cases g1 : (rd (nbF T n) k 3 (σ 9 24) (σ 9 22)).1 = true
                   · rw [if_pos g1, lpF_dig (by decide) (q.1 g1)]
                     rw [show rd (nbF T n) k 3 (σ 9 24) (σ 9 22) = (true, (rd (nbF T n) k 3 (σ 9 24) (σ 9 22)).2.1, (rd (nbF T n) k 3 (σ 9 24) (σ 9 22)).2.2) from Prod.ext g1 rfl] at h1
                     exact h1
                   · rw [if_neg g1]
                     exact h1.no (by simpa using g1)))
set_option maxRecDepth 20000 in
theorem f_X9_both {D : Nat} {nb : Int → Int} {B O : Int} {σ τ : Sto} {r : RT} (h : rmP nb B O σ r τ) (hf : 0 ≤ τ 9 23) :
    Z (z_me cX9_both RX9 1 none D (qV fun σ' => rmP nb B O σ r σ')) 4 [some (zR 9)] [] τ := by
  refine z_aload_n dX9_both_4 rfl ?_
  refine z_getI dX9_both_5 gX9_199 rfl (Nat.le_of_ble_eq_true rfl) rfl (fun hr5 => ?_)
  refine z_if_ge (tgt := 44) dX9_both_8 (by decide) ⟨by omega, by omega⟩ (fun h8 => ?_) (fun h8 => ?_)
  · skip
    exact z_vret dX9_both_44 h
  · exfalso; omega
set_option maxRecDepth 20000 in
set_option maxHeartbeats 1000000 in
theorem l_X9_both {T : Nat → Int} {n : Int} {k : Nat} {σ : Sto} (hB : rmB T n σ) (ih : ∀ τ, rmB T n τ → τ 9 24 = σ 9 24 → mdC T n yX9_compared cX9_compared 2 2 k τ) :
    ∀ (t : Nat) (τ : Sto) (out : List Int) (a : Int), n ≤ a + t → (σ 9 22 ≤ a ∧ a ≤ n) → (out.length : Int) ≤ a - σ 9 22 → rmP (nbF T n) 1000 (σ 9 24) σ (true, a, out) τ → τ 9 23 = -1 →
    Z (z_me cX9_both RX9 1 none (k + 1 + 3) (qV fun σ' => rmP (nbF T n) (σ 9 25 + ((lpF (rd (nbF T n) k 2 (σ 9 24)) (nbF T n) 1 t a out).2.1 - σ 9 22) + 1) (σ 9 24) σ (lpF (rd (nbF T n) k 2 (σ 9 24)) (nbF T n) 1 t a out) σ')) 4 [some (zR 9)] [] τ
  | 0, τ, out, a, ht, ha, ho, hP, hf => by
    have e22 : τ 9 22 = a := hP.at0 hf
    have tt := hP.1.tp hB.1
    obtain ⟨tn, t21, tT, t95⟩ := id tt
    have hnb : nbF T n a = -1 := if_neg (by omega)
    have hsb := sbF_c (nbF T n a)
    refine z_aload_n dX9_both_4 rfl ?_
    refine z_getI dX9_both_5 gX9_199 rfl (Nat.le_of_ble_eq_true rfl) rfl (fun hr5 => ?_)
    refine z_if_ge (tgt := 44) dX9_both_8 (by decide) ⟨by omega, by omega⟩ (fun h8 => ?_) (fun h8 => ?_)
    · exfalso; omega
    · skip
      refine z_aload_n dX9_both_11 rfl ?_
      refine z_callVI (d := k + 3) (av := []) dX9_both_12 vX9_211 rfl (Nat.le_of_ble_eq_true rfl) rfl rfl rfl (Nat.le_of_ble_eq_true rfl) (Nat.le_refl _) (c_X9_look tt (by omega)) (fun z12 σ12 h12 => ?_)
      obtain ⟨hs12, hz⟩ := h12
      subst σ12
      rw [e22] at hz
      subst hz
      refine z_bipush (v := 38) dX9_both_15 (by decide +kernel) ?_
      refine z_icmp_ne (tgt := 44) dX9_both_17 (by decide) ⟨by omega, by omega⟩ ⟨by omega, by omega⟩ (fun h17 => ?_) (fun h17 => ?_)
      · skip
        exact z_vret dX9_both_44 (hP.okB hf)
      · exfalso; omega
  | t + 1, τ, out, a, ht, ha, ho, hP, hf => by
    obtain ⟨-, -, hB3, hB4, hB5⟩ := id hB
    have e22 : τ 9 22 = a := hP.at0 hf
    have e25 : τ 9 25 = σ 9 25 + out.length := hP.laid0 hf
    have e24 : τ 9 24 = σ 9 24 := hP.op0 hf
    have tt := hP.1.tp hB.1
    obtain ⟨tn, t21, tT, t95⟩ := id tt
    have hsb := sbF_c (nbF T n a)
    have hbR := nbF_R (T := T) (n := n) (a := a) tT
    refine z_aload_n dX9_both_4 rfl ?_
    refine z_getI dX9_both_5 gX9_199 rfl (Nat.le_of_ble_eq_true rfl) rfl (fun hr5 => ?_)
    refine z_if_ge (tgt := 44) dX9_both_8 (by decide) ⟨by omega, by omega⟩ (fun h8 => ?_) (fun h8 => ?_)
    · exfalso; omega
    · skip
      refine z_aload_n dX9_both_11 rfl ?_
      refine z_callVI (d := k + 3) (av := []) dX9_both_12 vX9_211 rfl (Nat.le_of_ble_eq_true rfl) rfl rfl rfl (Nat.le_of_ble_eq_true rfl) (Nat.le_refl _) (c_X9_look tt (by omega)) (fun z12 σ12 h12 => ?_)
      obtain ⟨hs12, hz⟩ := h12
      subst σ12
      rw [e22] at hz
      subst hz
      refine z_bipush (v := 38) dX9_both_15 (by decide +kernel) ?_
      refine z_icmp_ne (tgt := 44) dX9_both_17 (by decide) ⟨by omega, by omega⟩ ⟨by omega, by omega⟩ (fun h17 => ?_) (fun h17 => ?_)
      · skip
        exact z_vret dX9_both_44 (by rw [lpF, if_neg (by unfold lvO; grind)]; exact hP.okB hf)
      · skip
        refine z_aload_n dX9_both_20 rfl ?_
        refine z_dup dX9_both_21 rfl ?_
        refine z_getI dX9_both_22 gX9_196 rfl (Nat.le_of_ble_eq_true rfl) rfl (fun hr22 => ?_)
        refine z_iconst dX9_both_25 ?_
        refine z_iadd dX9_both_26 ?_
        refine z_putI dX9_both_27 pX9_196 rfl (Nat.le_of_ble_eq_true rfl) rfl ⟨by omega, by omega⟩ ?_
        have hlt := nbF_lt (T := T) (n := n) (a := a) (by omega)
        have hlv : lvO (nbF T n a) = 1 := by unfold lvO; grind
        rw [e22]
        have hB1 : rmB T n (z_put τ 9 22 (a + 1)) := ⟨tt, hf, (show 0 ≤ a + 1 ∧ a + 1 ≤ n by omega), (show 0 ≤ τ 9 25 ∧ τ 9 25 ≤ a + 1 by omega), (show 0 ≤ τ 9 24 ∧ τ 9 24 ≤ 6 by omega)⟩
        refine z_aload_n dX9_both_30 rfl ?_
        refine z_callVV (d := k + 3) (av := []) dX9_both_31 vX9_242 rfl (Nat.le_of_ble_eq_true rfl) rfl rfl rfl (Nat.le_of_ble_eq_true rfl) (Nat.le_refl _) (ih _ hB1 e24) (fun σ31 h31 => ?_)
        have hr : rmP (nbF T n) (τ 9 25 + ((rd (nbF T n) k 2 (τ 9 24) (a + 1)).2.1 - (a + 1)) + 1) (τ 9 24) (z_put τ 9 22 (a + 1)) (rd (nbF T n) k 2 (τ 9 24) (a + 1)) σ31 := h31
        rw [e24] at hr
        have hro := rd_R (T := T) (n := n) k 2 (σ 9 24) (a + 1) (by omega) (by omega) (by omega)
        have hro2 := hro.2.1
        have hb5 := hr.lb hro (show 0 ≤ τ 9 25 ∧ τ 9 25 ≤ a + 1 by omega)
        refine z_aload_n dX9_both_34 rfl ?_
        refine z_bipush (v := 38) dX9_both_35 (by decide +kernel) ?_
        refine z_iconst dX9_both_37 ?_
        refine z_callVV (d := k + 3) (av := [_, _]) dX9_both_38 vX9_215 rfl (Nat.le_of_ble_eq_true rfl) rfl rfl rfl (Nat.le_of_ble_eq_true rfl) (Nat.le_refl _) (c_X9_addStep (by omega) (by omega) ⟨by decide, by decide⟩) (fun σ38 h38 => ?_)
        subst h38
        refine z_goto (tgt := 4) dX9_both_41 (by decide) ?_
        skip
        rw [lpF, if_pos hlv]
        have hu := rmP.add (c := -(nbF T n a)) (w := 38) (v := 0) hB4.1 (rmP.seq hB4.1 hP hf hr.pre22 trivial) (i2b2 (by omega)) (wO0 (by omega))
        rcases hr.2 with q | q
        · have g1 := q.1
          rw [if_pos g1] at hu ⊢
          obtain ⟨r1, r2⟩ := hro.2.2 g1
          have f23 : amS σ31 (38) 0 9 23 = -1 := by rw [amS_f (by decide)]; exact q.2.1
          refine l_X9_both hB ih t _ _ _ (by omega) ⟨by omega, hro.2.1⟩ ?_ (hu.toB f23) f23
          simp only [List.length_append, List.length_cons, List.length_nil]
          omega
        · have f23 : amS σ31 (38) 0 9 23 = (rd (nbF T n) k 2 (σ 9 24) (a + 1)).2.1 := by rw [amS_f (by decide)]; exact q.2.1
          have hro1 := hro.1
          by_cases g1 : (rd (nbF T n) k 2 (σ 9 24) (a + 1)).1 = true
          · rw [if_pos g1] at hu ⊢
            rw [lpF_dig (by decide) (q.1 g1)]
            exact f_X9_both (hu.wk (by simp only; omega)) (by omega)
          · rw [if_neg g1] at hu ⊢
            exact f_X9_both (hu.wk (by simp only; omega)) (by omega)
set_option maxRecDepth 20000 in
theorem c_X9_both {T : Nat → Int} {n : Int} {k : Nat} {σ : Sto} (hB : rmB T n σ) (ih : ∀ τ, rmB T n τ → τ 9 24 = σ 9 24 → mdC T n yX9_compared cX9_compared 2 2 k τ) : mdC T n yX9_both cX9_both 1 1 (k + 1) σ := by
  obtain ⟨hB1, hB2, hB3, hB4, hB5⟩ := id hB
  have hro := rd_R (T := T) (n := n) k 2 (σ 9 24) (σ 9 22) (by omega) (by omega) (by omega)
  unfold mdC
  refine z_does (L := [some (zR 9)]) rfl (by decide +kernel) (Nat.le_of_ble_eq_true rfl) rfl ?_
  refine z_aload_n dX9_both_0 rfl ?_
  refine z_callVV (d := k + 3) (av := []) dX9_both_1 vX9_242 rfl (Nat.le_of_ble_eq_true rfl) rfl rfl rfl (Nat.le_of_ble_eq_true rfl) (Nat.le_refl _) (ih _ hB rfl) (fun σ1 h1 => ?_)
  skip
  rw [rd_l (by decide), if_neg (show ¬ (1 : Int) = 2 by decide), show (1 : Int) + 1 = 2 from rfl]
  rcases h1.2 with q | q
  · rw [if_pos q.1]
    have g1 := q.1
    have hro3 := hro.2.2 g1
    have hro1 := hro.1
    have hP : rmP (nbF T n) 1000 (σ 9 24) σ (true, (rd (nbF T n) k 2 (σ 9 24) (σ 9 22)).2.1, (rd (nbF T n) k 2 (σ 9 24) (σ 9 22)).2.2) σ1 := (by rw [← g1]; exact h1.toB q.2.1)
    exact l_X9_both hB ih 120 σ1 _ _ (by have := hB1.1; omega) ⟨hro1, hro.2.1⟩ (by omega) hP q.2.1
  · have hro1 := hro.1
    by_cases g1 : (rd (nbF T n) k 2 (σ 9 24) (σ 9 22)).1 = true
    · rw [if_pos g1, lpF_dig (by decide) (q.1 g1)]
      have h1' := h1
      rw [show rd (nbF T n) k 2 (σ 9 24) (σ 9 22) = (true, (rd (nbF T n) k 2 (σ 9 24) (σ 9 22)).2.1, (rd (nbF T n) k 2 (σ 9 24) (σ 9 22)).2.2) from Prod.ext g1 rfl] at h1'
      exact f_X9_both h1' (by have := q.2.1; omega)
    · rw [if_neg g1]
      exact f_X9_both (h1.no (by simpa using g1)) (by have := q.2.1; omega)
set_option maxRecDepth 20000 in
theorem f_X9_either {D : Nat} {nb : Int → Int} {B O : Int} {σ τ : Sto} {r : RT} (h : rmP nb B O σ r τ) (hf : 0 ≤ τ 9 23) :
    Z (z_me cX9_either RX9 1 none D (qV fun σ' => rmP nb B O σ r σ')) 4 [some (zR 9)] [] τ := by
  refine z_aload_n dX9_either_4 rfl ?_
  refine z_getI dX9_either_5 gX9_199 rfl (Nat.le_of_ble_eq_true rfl) rfl (fun hr5 => ?_)
  refine z_if_ge (tgt := 44) dX9_either_8 (by decide) ⟨by omega, by omega⟩ (fun h8 => ?_) (fun h8 => ?_)
  · skip
    exact z_vret dX9_either_44 h
  · exfalso; omega
set_option maxRecDepth 20000 in
set_option maxHeartbeats 1000000 in
theorem l_X9_either {T : Nat → Int} {n : Int} {k : Nat} {σ : Sto} (hB : rmB T n σ) (ih : ∀ τ, rmB T n τ → τ 9 24 = σ 9 24 → mdC T n yX9_both cX9_both 1 1 k τ) :
    ∀ (t : Nat) (τ : Sto) (out : List Int) (a : Int), n ≤ a + t → (σ 9 22 ≤ a ∧ a ≤ n) → (out.length : Int) ≤ a - σ 9 22 → rmP (nbF T n) 1000 (σ 9 24) σ (true, a, out) τ → τ 9 23 = -1 →
    Z (z_me cX9_either RX9 1 none (k + 1 + 3) (qV fun σ' => rmP (nbF T n) (σ 9 25 + ((lpF (rd (nbF T n) k 1 (σ 9 24)) (nbF T n) 0 t a out).2.1 - σ 9 22) + 1) (σ 9 24) σ (lpF (rd (nbF T n) k 1 (σ 9 24)) (nbF T n) 0 t a out) σ')) 4 [some (zR 9)] [] τ
  | 0, τ, out, a, ht, ha, ho, hP, hf => by
    have e22 : τ 9 22 = a := hP.at0 hf
    have tt := hP.1.tp hB.1
    obtain ⟨tn, t21, tT, t95⟩ := id tt
    have hnb : nbF T n a = -1 := if_neg (by omega)
    have hsb := sbF_c (nbF T n a)
    refine z_aload_n dX9_either_4 rfl ?_
    refine z_getI dX9_either_5 gX9_199 rfl (Nat.le_of_ble_eq_true rfl) rfl (fun hr5 => ?_)
    refine z_if_ge (tgt := 44) dX9_either_8 (by decide) ⟨by omega, by omega⟩ (fun h8 => ?_) (fun h8 => ?_)
    · exfalso; omega
    · skip
      refine z_aload_n dX9_either_11 rfl ?_
      refine z_callVI (d := k + 3) (av := []) dX9_either_12 vX9_211 rfl (Nat.le_of_ble_eq_true rfl) rfl rfl rfl (Nat.le_of_ble_eq_true rfl) (Nat.le_refl _) (c_X9_look tt (by omega)) (fun z12 σ12 h12 => ?_)
      obtain ⟨hs12, hz⟩ := h12
      subst σ12
      rw [e22] at hz
      subst hz
      refine z_bipush (v := 124) dX9_either_15 (by decide +kernel) ?_
      refine z_icmp_ne (tgt := 44) dX9_either_17 (by decide) ⟨by omega, by omega⟩ ⟨by omega, by omega⟩ (fun h17 => ?_) (fun h17 => ?_)
      · skip
        exact z_vret dX9_either_44 (hP.okB hf)
      · exfalso; omega
  | t + 1, τ, out, a, ht, ha, ho, hP, hf => by
    obtain ⟨-, -, hB3, hB4, hB5⟩ := id hB
    have e22 : τ 9 22 = a := hP.at0 hf
    have e25 : τ 9 25 = σ 9 25 + out.length := hP.laid0 hf
    have e24 : τ 9 24 = σ 9 24 := hP.op0 hf
    have tt := hP.1.tp hB.1
    obtain ⟨tn, t21, tT, t95⟩ := id tt
    have hsb := sbF_c (nbF T n a)
    have hbR := nbF_R (T := T) (n := n) (a := a) tT
    refine z_aload_n dX9_either_4 rfl ?_
    refine z_getI dX9_either_5 gX9_199 rfl (Nat.le_of_ble_eq_true rfl) rfl (fun hr5 => ?_)
    refine z_if_ge (tgt := 44) dX9_either_8 (by decide) ⟨by omega, by omega⟩ (fun h8 => ?_) (fun h8 => ?_)
    · exfalso; omega
    · skip
      refine z_aload_n dX9_either_11 rfl ?_
      refine z_callVI (d := k + 3) (av := []) dX9_either_12 vX9_211 rfl (Nat.le_of_ble_eq_true rfl) rfl rfl rfl (Nat.le_of_ble_eq_true rfl) (Nat.le_refl _) (c_X9_look tt (by omega)) (fun z12 σ12 h12 => ?_)
      obtain ⟨hs12, hz⟩ := h12
      subst σ12
      rw [e22] at hz
      subst hz
      refine z_bipush (v := 124) dX9_either_15 (by decide +kernel) ?_
      refine z_icmp_ne (tgt := 44) dX9_either_17 (by decide) ⟨by omega, by omega⟩ ⟨by omega, by omega⟩ (fun h17 => ?_) (fun h17 => ?_)
      · skip
        exact z_vret dX9_either_44 (by rw [lpF, if_neg (by unfold lvO; grind)]; exact hP.okB hf)
      · skip
        refine z_aload_n dX9_either_20 rfl ?_
        refine z_dup dX9_either_21 rfl ?_
        refine z_getI dX9_either_22 gX9_196 rfl (Nat.le_of_ble_eq_true rfl) rfl (fun hr22 => ?_)
        refine z_iconst dX9_either_25 ?_
        refine z_iadd dX9_either_26 ?_
        refine z_putI dX9_either_27 pX9_196 rfl (Nat.le_of_ble_eq_true rfl) rfl ⟨by omega, by omega⟩ ?_
        have hlt := nbF_lt (T := T) (n := n) (a := a) (by omega)
        have hlv : lvO (nbF T n a) = 0 := by unfold lvO; grind
        rw [e22]
        have hB1 : rmB T n (z_put τ 9 22 (a + 1)) := ⟨tt, hf, (show 0 ≤ a + 1 ∧ a + 1 ≤ n by omega), (show 0 ≤ τ 9 25 ∧ τ 9 25 ≤ a + 1 by omega), (show 0 ≤ τ 9 24 ∧ τ 9 24 ≤ 6 by omega)⟩
        refine z_aload_n dX9_either_30 rfl ?_
        refine z_callVV (d := k + 3) (av := []) dX9_either_31 vX9_245 rfl (Nat.le_of_ble_eq_true rfl) rfl rfl rfl (Nat.le_of_ble_eq_true rfl) (Nat.le_refl _) (ih _ hB1 e24) (fun σ31 h31 => ?_)
        have hr : rmP (nbF T n) (τ 9 25 + ((rd (nbF T n) k 1 (τ 9 24) (a + 1)).2.1 - (a + 1)) + 1) (τ 9 24) (z_put τ 9 22 (a + 1)) (rd (nbF T n) k 1 (τ 9 24) (a + 1)) σ31 := h31
        rw [e24] at hr
        have hro := rd_R (T := T) (n := n) k 1 (σ 9 24) (a + 1) (by omega) (by omega) (by omega)
        have hro2 := hro.2.1
        have hb5 := hr.lb hro (show 0 ≤ τ 9 25 ∧ τ 9 25 ≤ a + 1 by omega)
        refine z_aload_n dX9_either_34 rfl ?_
        refine z_bipush (v := 124) dX9_either_35 (by decide +kernel) ?_
        refine z_iconst dX9_either_37 ?_
        refine z_callVV (d := k + 3) (av := [_, _]) dX9_either_38 vX9_215 rfl (Nat.le_of_ble_eq_true rfl) rfl rfl rfl (Nat.le_of_ble_eq_true rfl) (Nat.le_refl _) (c_X9_addStep (by omega) (by omega) ⟨by decide, by decide⟩) (fun σ38 h38 => ?_)
        subst h38
        refine z_goto (tgt := 4) dX9_either_41 (by decide) ?_
        skip
        rw [lpF, if_pos hlv]
        have hu := rmP.add (c := -(nbF T n a)) (w := 124) (v := 0) hB4.1 (rmP.seq hB4.1 hP hf hr.pre22 trivial) (i2b2 (by omega)) (wO0 (by omega))
        rcases hr.2 with q | q
        · have g1 := q.1
          rw [if_pos g1] at hu ⊢
          obtain ⟨r1, r2⟩ := hro.2.2 g1
          have f23 : amS σ31 (124) 0 9 23 = -1 := by rw [amS_f (by decide)]; exact q.2.1
          refine l_X9_either hB ih t _ _ _ (by omega) ⟨by omega, hro.2.1⟩ ?_ (hu.toB f23) f23
          simp only [List.length_append, List.length_cons, List.length_nil]
          omega
        · have f23 : amS σ31 (124) 0 9 23 = (rd (nbF T n) k 1 (σ 9 24) (a + 1)).2.1 := by rw [amS_f (by decide)]; exact q.2.1
          have hro1 := hro.1
          by_cases g1 : (rd (nbF T n) k 1 (σ 9 24) (a + 1)).1 = true
          · rw [if_pos g1] at hu ⊢
            rw [lpF_dig (by decide) (q.1 g1)]
            exact f_X9_either (hu.wk (by simp only; omega)) (by omega)
          · rw [if_neg g1] at hu ⊢
            exact f_X9_either (hu.wk (by simp only; omega)) (by omega)
set_option maxRecDepth 20000 in
theorem c_X9_either {T : Nat → Int} {n : Int} {k : Nat} {σ : Sto} (hB : rmB T n σ) (ih : ∀ τ, rmB T n τ → τ 9 24 = σ 9 24 → mdC T n yX9_both cX9_both 1 1 k τ) : mdC T n yX9_either cX9_either 1 0 (k + 1) σ := by
  obtain ⟨hB1, hB2, hB3, hB4, hB5⟩ := id hB
  have hro := rd_R (T := T) (n := n) k 1 (σ 9 24) (σ 9 22) (by omega) (by omega) (by omega)
  unfold mdC
  refine z_does (L := [some (zR 9)]) rfl (by decide +kernel) (Nat.le_of_ble_eq_true rfl) rfl ?_
  refine z_aload_n dX9_either_0 rfl ?_
  refine z_callVV (d := k + 3) (av := []) dX9_either_1 vX9_245 rfl (Nat.le_of_ble_eq_true rfl) rfl rfl rfl (Nat.le_of_ble_eq_true rfl) (Nat.le_refl _) (ih _ hB rfl) (fun σ1 h1 => ?_)
  skip
  rw [rd_l (by decide), if_neg (show ¬ (0 : Int) = 2 by decide), show (0 : Int) + 1 = 1 from rfl]
  rcases h1.2 with q | q
  · rw [if_pos q.1]
    have g1 := q.1
    have hro3 := hro.2.2 g1
    have hro1 := hro.1
    have hP : rmP (nbF T n) 1000 (σ 9 24) σ (true, (rd (nbF T n) k 1 (σ 9 24) (σ 9 22)).2.1, (rd (nbF T n) k 1 (σ 9 24) (σ 9 22)).2.2) σ1 := (by rw [← g1]; exact h1.toB q.2.1)
    exact l_X9_either hB ih 120 σ1 _ _ (by have := hB1.1; omega) ⟨hro1, hro.2.1⟩ (by omega) hP q.2.1
  · have hro1 := hro.1
    by_cases g1 : (rd (nbF T n) k 1 (σ 9 24) (σ 9 22)).1 = true
    · rw [if_pos g1, lpF_dig (by decide) (q.1 g1)]
      have h1' := h1
      rw [show rd (nbF T n) k 1 (σ 9 24) (σ 9 22) = (true, (rd (nbF T n) k 1 (σ 9 24) (σ 9 22)).2.1, (rd (nbF T n) k 1 (σ 9 24) (σ 9 22)).2.2) from Prod.ext g1 rfl] at h1'
      exact f_X9_either h1' (by have := q.2.1; omega)
    · rw [if_neg g1]
      exact f_X9_either (h1.no (by simpa using g1)) (by have := q.2.1; omega)
theorem rmP.at {nb : Int → Int} {B O a : Int} {σ τ : Sto} {r : RT} (h : rmP nb B O σ r τ) (hf : τ 9 23 = -1) : rmP nb B O σ (true, a, r.2.2) (z_put τ 9 22 a) := by
  obtain ⟨h1, h2⟩ := h
  rcases h2 with ⟨q1, q2, q3, q4, q5, q6, q7, q8⟩ | q
  · exact ⟨h1.tr (rmS.put (Or.inl rfl)), Or.inl ⟨rfl, q2, rfl, q4, q5, fun j hj => ⟨by rw [z_put_ne (by decide)]; exact (q6 j hj).1, by rw [z_put_ne (by decide)]; exact (q6 j hj).2⟩, Seg.row (z_put_ne (by decide)) q7, Seg.row (z_put_ne (by decide)) q8⟩⟩
  · exfalso; have := q.2.1; have := q.2.2.1; omega
theorem rmP.wr {nb : Int → Int} {B B' O : Int} {σ τ : Sto} {r : RT} (h : rmP nb B O σ r τ) (hf : τ 9 23 = -1) (b : Bool) (hb : b = true → isD (nb r.2.1) = true) (h1 : 0 ≤ r.2.1 ∧ r.2.1 ≤ 120) (hO : O ≤ 6) (hB : 0 ≤ τ 9 25 ∧ τ 9 25 ≤ B') : rmP nb B' O σ (b, r.2.1, []) (z_put τ 9 23 (τ 9 22)) := by
  have g := h.bad hf
  refine ⟨h.1.tr (rmS.put (Or.inr (Or.inl rfl))), Or.inr ⟨hb, ?_, h1.1, ?_, ?_, ?_⟩⟩
  · rw [z_rd, if_pos rfl, if_pos rfl]; exact g.2.1
  · rw [z_rd, if_pos rfl, if_neg (by decide), g.2.1]; exact h1
  · rw [z_rd, if_pos rfl, if_neg (by decide), g.2.2.1]; exact ⟨Int.le_refl _, hO⟩
  · rw [z_rd, if_pos rfl, if_neg (by decide)]; exact hB
theorem rmP.opn {nb : Int → Int} {B O : Int} {σ τ : Sto} {r : RT} (h : rmP nb B (O + 1) σ r τ) : rmP nb B O σ r (z_put τ 9 24 (τ 9 24 - 1)) := by
  obtain ⟨h1, h2⟩ := h
  refine ⟨h1.tr (rmS.put (Or.inr (Or.inr (Or.inl rfl)))), ?_⟩
  rcases h2 with ⟨q1, q2, q3, q4, q5, q6, q7, q8⟩ | ⟨q1, q2, q3, q4, q5, q6⟩
  · exact Or.inl ⟨q1, q2, q3, by rw [z_rd, if_pos rfl, if_pos rfl, q4]; omega, q5, fun j hj => ⟨by rw [z_put_ne (by decide)]; exact (q6 j hj).1, by rw [z_put_ne (by decide)]; exact (q6 j hj).2⟩, Seg.row (z_put_ne (by decide)) q7, Seg.row (z_put_ne (by decide)) q8⟩
  · exact Or.inr ⟨q1, q2, q3, q4, by rw [z_rd, if_pos rfl, if_pos rfl]; omega, q6⟩
theorem rmP.oO {nb : Int → Int} {B O : Int} {σ τ : Sto} {r : RT} (h : rmP nb B (O + 1) σ r τ) (hf : τ 9 23 ≠ -1) : rmP nb B O σ r τ := by
  rcases h.2 with q | ⟨q1, q2, q3, q4, q5, q6⟩
  · exact absurd q.2.1 hf
  · exact ⟨h.1, Or.inr ⟨q1, q2, q3, q4, by omega, q6⟩⟩
set_option maxRecDepth 20000 in
theorem k_X9_figure {d : Nat} {T : Nat → Int} {n a v g : Int} {σ : Sto} (hB : rmB T n σ) (ha : σ 9 22 ≤ a ∧ a ≤ n) (hv : 0 ≤ v ∧ v ≤ 10000) (hg : 0 ≤ g ∧ g ≤ 4) (hd0 : g = 0 → isD (nbF T n a) = false) :
    Z (z_me cX9_figure RX9 3 none (d + 1) (qV fun σ' => rmP (nbF T n) (σ 9 25 + (a - σ 9 22) + 1) (σ 9 24) σ (decide (0 < g), a, if 0 < g then [v] else []) σ')) 52 [some (zR 9), some (zI v), some (zI g)] [] (z_put σ 9 22 a) := by
  obtain ⟨ht, k23, k22, k25, k24⟩ := id hB
  have tt : tpM T n (z_put σ 9 22 a) := (rmS.put (Or.inl rfl)).tp ht
  obtain ⟨tn, t21, tT, t95⟩ := id ht
  have hsb := sbF_c (nbF T n a)
  have hbR := nbF_R (T := T) (n := n) (a := a) tT
  have hP0 := (rmP.rf (nb := nbF T n) (B := σ 9 25 + (a - σ 9 22)) k23).at (a := a) k23
  refine z_iload_n dX9_figure_52 rfl ?_
  refine z_if_eq (tgt := 70) dX9_figure_53 (by decide) ⟨by omega, by omega⟩ (fun h53 => ?_) (fun h53 => ?_)
  · skip
    refine z_aload_n dX9_figure_70 rfl ?_
    refine z_callVV (d := d + 0) (av := []) dX9_figure_71 vX9_208 rfl (Nat.le_of_ble_eq_true rfl) rfl rfl rfl (Nat.le_of_ble_eq_true rfl) (Nat.le_refl _) (c_X9_wrong k23) (fun σ71 h71 => ?_)
    subst h71
    refine z_aload_n dX9_figure_74 rfl ?_
    refine z_iconst dX9_figure_75 ?_
    refine z_iload_n dX9_figure_76 rfl ?_
    refine z_callVV (d := d + 0) (av := [_, _]) dX9_figure_77 vX9_215 rfl (Nat.le_of_ble_eq_true rfl) rfl rfl rfl (Nat.le_of_ble_eq_true rfl) (Nat.le_refl _) (c_X9_addStep (show 0 ≤ σ 9 25 ∧ σ 9 25 < 130 by omega) ⟨by decide, by decide⟩ (by omega)) (fun σ77 h77 => ?_)
    subst h77
    exact z_vret dX9_figure_80 (by
      have ew : z_i2bF (z_i2bF 1) = aOf v := by rw [aOf, if_pos hv.1]; decide
      have ev : v = wOf v := by rw [wOf, if_pos hv.1]
      by_cases hg0 : 0 < g
      · rw [show decide (0 < g) = true from decide_eq_true hg0, if_pos hg0]
        first
          | (exfalso; omega)
          | (have hdg : isD (nbF T n a) = true := decide_eq_true (by omega)
             have hw := hP0.wr (B' := σ 9 25 + (a - σ 9 22)) k23 true (fun _ => hdg) (by simp only; omega) (by omega) (show 0 ≤ σ 9 25 ∧ σ 9 25 ≤ σ 9 25 + (a - σ 9 22) by omega)
             have := hw.add (c := v) k25.1 ew ev
             exact this)
          | (have := hP0.add (c := v) k25.1 ew ev
             exact this)
      · rw [show decide (0 < g) = false from decide_eq_false hg0, if_neg hg0]
        first
          | (exfalso; omega)
          | (have hw := hP0.wr (B' := σ 9 25 + (a - σ 9 22)) k23 false (fun w => tnf w.symm) (by simp only; omega) (by omega) (show 0 ≤ σ 9 25 ∧ σ 9 25 ≤ σ 9 25 + (a - σ 9 22) by omega)
             have := hw.add (c := v) k25.1 ew ev
             exact this))
  · skip
    refine z_aload_n dX9_figure_56 rfl ?_
    refine z_callVI (d := d + 0) (av := []) dX9_figure_57 vX9_211 rfl (Nat.le_of_ble_eq_true rfl) rfl rfl rfl (Nat.le_of_ble_eq_true rfl) (Nat.le_refl _) (c_X9_look tt (show 0 ≤ a by omega)) (fun z57 σ57 h57 => ?_)
    obtain ⟨hs57, hz⟩ := h57
    subst σ57
    have hz : z57 = sbF (nbF T n a) := hz
    subst hz
    refine z_bipush (v := 48) dX9_figure_60 (by decide +kernel) ?_
    refine z_bipush (v := 57) dX9_figure_62 (by decide +kernel) ?_
    refine z_callSI (d := d + 0) (av := [_, _, _]) dX9_figure_64 sX9_143 rfl rfl (Nat.le_of_ble_eq_true rfl) (Nat.le_refl _) (c_X9_in (by omega) ⟨by decide, by decide⟩ ⟨by decide, by decide⟩) (fun z64 σ64 h64 => ?_)
    obtain ⟨hs64, hin⟩ := h64
    subst σ64
    refine z_if_eq (tgt := 74) dX9_figure_67 (by decide) ⟨by omega, by omega⟩ (fun h67 => ?_) (fun h67 => ?_)
    · skip
      refine z_aload_n dX9_figure_74 rfl ?_
      refine z_iconst dX9_figure_75 ?_
      refine z_iload_n dX9_figure_76 rfl ?_
      refine z_callVV (d := d + 0) (av := [_, _]) dX9_figure_77 vX9_215 rfl (Nat.le_of_ble_eq_true rfl) rfl rfl rfl (Nat.le_of_ble_eq_true rfl) (Nat.le_refl _) (c_X9_addStep (show 0 ≤ σ 9 25 ∧ σ 9 25 < 130 by omega) ⟨by decide, by decide⟩ (by omega)) (fun σ77 h77 => ?_)
      subst h77
      exact z_vret dX9_figure_80 (by
        have ew : z_i2bF (z_i2bF 1) = aOf v := by rw [aOf, if_pos hv.1]; decide
        have ev : v = wOf v := by rw [wOf, if_pos hv.1]
        by_cases hg0 : 0 < g
        · rw [show decide (0 < g) = true from decide_eq_true hg0, if_pos hg0]
          first
            | (exfalso; omega)
            | (have hdg : isD (nbF T n a) = true := decide_eq_true (by omega)
               have hw := hP0.wr (B' := σ 9 25 + (a - σ 9 22)) k23 true (fun _ => hdg) (by simp only; omega) (by omega) (show 0 ≤ σ 9 25 ∧ σ 9 25 ≤ σ 9 25 + (a - σ 9 22) by omega)
               have := hw.add (c := v) k25.1 ew ev
               exact this)
            | (have := hP0.add (c := v) k25.1 ew ev
               exact this)
        · rw [show decide (0 < g) = false from decide_eq_false hg0, if_neg hg0]
          first
            | (exfalso; omega)
            | (have hw := hP0.wr (B' := σ 9 25 + (a - σ 9 22)) k23 false (fun w => tnf w.symm) (by simp only; omega) (by omega) (show 0 ≤ σ 9 25 ∧ σ 9 25 ≤ σ 9 25 + (a - σ 9 22) by omega)
               have := hw.add (c := v) k25.1 ew ev
               exact this))
    · skip
      refine z_aload_n dX9_figure_70 rfl ?_
      refine z_callVV (d := d + 0) (av := []) dX9_figure_71 vX9_208 rfl (Nat.le_of_ble_eq_true rfl) rfl rfl rfl (Nat.le_of_ble_eq_true rfl) (Nat.le_refl _) (c_X9_wrong k23) (fun σ71 h71 => ?_)
      subst h71
      refine z_aload_n dX9_figure_74 rfl ?_
      refine z_iconst dX9_figure_75 ?_
      refine z_iload_n dX9_figure_76 rfl ?_
      refine z_callVV (d := d + 0) (av := [_, _]) dX9_figure_77 vX9_215 rfl (Nat.le_of_ble_eq_true rfl) rfl rfl rfl (Nat.le_of_ble_eq_true rfl) (Nat.le_refl _) (c_X9_addStep (show 0 ≤ σ 9 25 ∧ σ 9 25 < 130 by omega) ⟨by decide, by decide⟩ (by omega)) (fun σ77 h77 => ?_)
      subst h77
      exact z_vret dX9_figure_80 (by
        have ew : z_i2bF (z_i2bF 1) = aOf v := by rw [aOf, if_pos hv.1]; decide
        have ev : v = wOf v := by rw [wOf, if_pos hv.1]
        by_cases hg0 : 0 < g
        · rw [show decide (0 < g) = true from decide_eq_true hg0, if_pos hg0]
          first
            | (exfalso; omega)
            | (have hdg : isD (nbF T n a) = true := decide_eq_true (by omega)
               have hw := hP0.wr (B' := σ 9 25 + (a - σ 9 22)) k23 true (fun _ => hdg) (by simp only; omega) (by omega) (show 0 ≤ σ 9 25 ∧ σ 9 25 ≤ σ 9 25 + (a - σ 9 22) by omega)
               have := hw.add (c := v) k25.1 ew ev
               exact this)
            | (have := hP0.add (c := v) k25.1 ew ev
               exact this)
        · rw [show decide (0 < g) = false from decide_eq_false hg0, if_neg hg0]
          first
            | (exfalso; omega)
            | (have hw := hP0.wr (B' := σ 9 25 + (a - σ 9 22)) k23 false (fun w => tnf w.symm) (by simp only; omega) (by omega) (show 0 ≤ σ 9 25 ∧ σ 9 25 ≤ σ 9 25 + (a - σ 9 22) by omega)
               have := hw.add (c := v) k25.1 ew ev
               exact this))
theorem rdN_ge {nb : Int → Int} : ∀ (m : Nat) (a v : Int), a ≤ (rdN nb m a v).2
  | 0, a, v => Int.le_refl _
  | m + 1, a, v => by
    rw [rdN]
    split
    · have := rdN_ge m (a + 1) (v * 10 + nb a - 48) (nb := nb); omega
    · exact Int.le_refl _
set_option maxRecDepth 20000 in
theorem l_X9_figure {d : Nat} {T : Nat → Int} {n : Int} {σ : Sto} (hB : rmB T n σ) :
    ∀ (m : Nat) (a v g : Int), g + m = 4 → 0 ≤ g → (σ 9 22 ≤ a ∧ a ≤ n) → 0 ≤ v → (v + 1) * p10 m ≤ 10000 →
    Z (z_me cX9_figure RX9 3 none (d + 1) (qV fun σ' => rmP (nbF T n) (σ 9 25 + ((rdN (nbF T n) m a v).2 - σ 9 22) + 1) (σ 9 24) σ (decide (0 < g + ((rdN (nbF T n) m a v).2 - a)), (rdN (nbF T n) m a v).2, if 0 < g + ((rdN (nbF T n) m a v).2 - a) then [(rdN (nbF T n) m a v).1] else []) σ')) 4 [some (zR 9), some (zI v), some (zI g)] [] (z_put σ 9 22 a)
  | 0, a, v, g, hg, h0, ha, hv, hp => by
    rw [p10, Int.mul_one] at hp
    refine z_iload_n dX9_figure_4 rfl ?_
    refine z_iconst dX9_figure_5 ?_
    refine z_icmp_ge (tgt := 52) dX9_figure_6 (by decide) ⟨by omega, by omega⟩ ⟨by omega, by omega⟩ (fun h6 => ?_) (fun h6 => ?_)
    · skip
      have h := k_X9_figure (d := d) (a := a) (v := v) (g := g) hB ha (by omega) (by omega) (fun q => absurd q (by omega))
      have e : g + (a - a) = g := by omega
      simp only [rdN, e]
      exact h
    · exfalso; omega
  | m + 1, a, v, g, hg, h0, ha, hv, hp => by
    obtain ⟨ht, k23, k22, k25, k24⟩ := id hB
    have tt : tpM T n (z_put σ 9 22 a) := (rmS.put (Or.inl rfl)).tp ht
    obtain ⟨tn, t21, tT, t95⟩ := id ht
    have hsb := sbF_c (nbF T n a)
    have hbR := nbF_R (T := T) (n := n) (a := a) tT
    have p := p10_1 (m + 1)
    have p2 := p10_1 m
    have hv2 : (v + 1) * 1 ≤ (v + 1) * p10 (m + 1) := Int.mul_le_mul_of_nonneg_left p (by omega)
    have hge := rdN_ge (nb := nbF T n) m (a + 1) (v * 10 + nbF T n a - 48)
    refine z_iload_n dX9_figure_4 rfl ?_
    refine z_iconst dX9_figure_5 ?_
    refine z_icmp_ge (tgt := 52) dX9_figure_6 (by decide) ⟨by omega, by omega⟩ ⟨by omega, by omega⟩ (fun h6 => ?_) (fun h6 => ?_)
    · exfalso; omega
    · skip
      refine z_aload_n dX9_figure_9 rfl ?_
      refine z_callVI (d := d + 0) (av := []) dX9_figure_10 vX9_211 rfl (Nat.le_of_ble_eq_true rfl) rfl rfl rfl (Nat.le_of_ble_eq_true rfl) (Nat.le_refl _) (c_X9_look tt (show 0 ≤ a by omega)) (fun z10 σ10 h10 => ?_)
      obtain ⟨hs10, hz⟩ := h10
      subst σ10
      have hz : z10 = sbF (nbF T n a) := hz
      subst hz
      refine z_bipush (v := 48) dX9_figure_13 (by decide +kernel) ?_
      refine z_bipush (v := 57) dX9_figure_15 (by decide +kernel) ?_
      refine z_callSI (d := d + 0) (av := [_, _, _]) dX9_figure_17 sX9_143 rfl rfl (Nat.le_of_ble_eq_true rfl) (Nat.le_refl _) (c_X9_in (by omega) ⟨by decide, by decide⟩ ⟨by decide, by decide⟩) (fun z17 σ17 h17 => ?_)
      obtain ⟨hs17, hin⟩ := h17
      subst σ17
      refine z_if_eq (tgt := 52) dX9_figure_20 (by decide) ⟨by omega, by omega⟩ (fun h20 => ?_) (fun h20 => ?_)
      · skip
        have hd : isD (nbF T n a) = false := decide_eq_false (by omega)
        rw [rdN, if_neg (by rw [hd]; exact Bool.false_ne_true)]
        have h := k_X9_figure (d := d) (a := a) (v := v) (g := g) hB ha (by omega) (by omega) (fun q => hd)
        simp only [show g + (a - a) = g by omega]
        exact h
      · skip
        refine z_bipush (v := 10) dX9_figure_23 (by decide +kernel) ?_
        refine z_iload_n dX9_figure_25 rfl ?_
        refine z_imul dX9_figure_26 ?_
        refine z_aload_n dX9_figure_27 rfl ?_
        refine z_callVI (d := d + 0) (av := []) dX9_figure_28 vX9_211 rfl (Nat.le_of_ble_eq_true rfl) rfl rfl rfl (Nat.le_of_ble_eq_true rfl) (Nat.le_refl _) (c_X9_look tt (show 0 ≤ a by omega)) (fun z28 σ28 h28 => ?_)
        obtain ⟨hs28, hz⟩ := h28
        subst σ28
        have hz : z28 = sbF (nbF T n a) := hz
        subst hz
        refine z_iadd dX9_figure_31 ?_
        refine z_bipush (v := 48) dX9_figure_32 (by decide +kernel) ?_
        refine z_isub dX9_figure_34 ?_
        refine z_istore_n (L' := [_, _, _]) dX9_figure_35 (Nat.le_of_ble_eq_true rfl) rfl rfl ?_
        refine z_iinc (L' := [_, _, _]) dX9_figure_36 (Nat.le_of_ble_eq_true rfl) rfl rfl rfl ?_
        refine z_aload_n dX9_figure_39 rfl ?_
        refine z_dup dX9_figure_40 rfl ?_
        refine z_getI dX9_figure_41 gX9_196 rfl (Nat.le_of_ble_eq_true rfl) rfl (fun hr41 => ?_)
        try simp only [z_rd, Nat.reduceEqDiff, ↓reduceIte, eq_self] at hr41 ⊢
        refine z_iconst dX9_figure_44 ?_
        refine z_iadd dX9_figure_45 ?_
        refine z_putI dX9_figure_46 pX9_196 rfl (Nat.le_of_ble_eq_true rfl) rfl ⟨by omega, by omega⟩ ?_
        refine z_goto (tgt := 4) dX9_figure_49 (by decide) ?_
        have hd : isD (nbF T n a) = true := decide_eq_true (by omega)
        have hlt := nbF_lt (T := T) (n := n) (a := a) (by omega)
        rw [rdN, if_pos hd]
        have h := l_X9_figure (d := d) hB m (a + 1) (v * 10 + nbF T n a - 48) (g + 1) (by omega) (by omega) (by omega) (by omega) (Int.le_trans (by
          rw [p10, show (v + 1) * (p10 m * 10) = ((v + 1) * 10) * p10 m by rw [Int.mul_comm (p10 m) 10, Int.mul_assoc]]
          exact Int.mul_le_mul_of_nonneg_right (by omega) (by omega)) hp)
        rw [show g + 1 + ((rdN (nbF T n) m (a + 1) (v * 10 + nbF T n a - 48)).2 - (a + 1)) = g + ((rdN (nbF T n) m (a + 1) (v * 10 + nbF T n a - 48)).2 - a) by omega] at h
        rw [show 10 * v + sbF (nbF T n a) - 48 = v * 10 + nbF T n a - 48 by omega, show z_put (z_put σ 9 22 a) 9 22 (a + 1) = z_put σ 9 22 (a + 1) by funext b j; simp only [z_rd]; grind]
        exact h
set_option maxRecDepth 20000 in
theorem c_X9_figure {d : Nat} {T : Nat → Int} {n : Int} {σ : Sto} (hB : rmB T n σ) : m_X9_figure d [zR 9] σ (qV fun σ' => rmP (nbF T n) (σ 9 25 + ((if isD (nbF T n (σ 9 22)) = true then (rdN (nbF T n) 4 (σ 9 22) 0).2 else σ 9 22) - σ 9 22) + 1) (σ 9 24) σ (if isD (nbF T n (σ 9 22)) = true then (true, (rdN (nbF T n) 4 (σ 9 22) 0).2, [(rdN (nbF T n) 4 (σ 9 22) 0).1]) else (false, σ 9 22, [])) σ') := by
  refine z_does (L := [some (zR 9), none, none]) rfl (by decide +kernel) (Nat.le_of_ble_eq_true rfl) rfl ?_
  refine z_iconst dX9_figure_0 ?_
  refine z_istore_n (L' := [_, _, _]) dX9_figure_1 (Nat.le_of_ble_eq_true rfl) rfl rfl ?_
  refine z_iconst dX9_figure_2 ?_
  refine z_istore_n (L' := [_, _, _]) dX9_figure_3 (Nat.le_of_ble_eq_true rfl) rfl rfl ?_
  have h := l_X9_figure (d := d) hB 4 (σ 9 22) 0 0 (by omega) (by omega) (by have := hB.2.2.1; omega) (by omega) (by decide)
  rw [show z_put σ 9 22 (σ 9 22) = σ by funext a b; rw [z_rd]; grind] at h
  by_cases hd : isD (nbF T n (σ 9 22)) = true
  · have hge := rdN_ge (nb := nbF T n) 3 (σ 9 22 + 1) (0 * 10 + nbF T n (σ 9 22) - 48)
    have e : rdN (nbF T n) 4 (σ 9 22) 0 = rdN (nbF T n) 3 (σ 9 22 + 1) (0 * 10 + nbF T n (σ 9 22) - 48) := by rw [rdN, if_pos hd]
    rw [if_pos hd, if_pos hd]
    rw [e] at h ⊢
    rw [show decide (0 < 0 + ((rdN (nbF T n) 3 (σ 9 22 + 1) (0 * 10 + nbF T n (σ 9 22) - 48)).2 - σ 9 22)) = true from decide_eq_true (by omega), if_pos (by omega)] at h
    exact h
  · have e : rdN (nbF T n) 4 (σ 9 22) 0 = (0, σ 9 22) := by rw [rdN, if_neg hd]
    rw [if_neg hd, if_neg hd]
    rw [e] at h
    rw [show decide (0 < 0 + (((0 : Int), σ 9 22).2 - σ 9 22)) = false from decide_eq_false (by simp), if_neg (by simp)] at h
    exact h
theorem nm_nd {s : Int} (h : nmF s < 0) : isD s = false := by
  unfold nmF at h
  refine decide_eq_false (fun q => ?_)
  repeat' split at h
  all_goals omega
theorem nm_33 {s : Int} (h : s = 33 ∨ s = 45 ∨ s = 40) : ¬ nmF s < 0 ∧ ¬ isD s = true := by
  rcases h with rfl | rfl | rfl <;> decide
theorem rmP.fl {nb : Int → Int} {B O : Int} {σ τ : Sto} {r : RT} (h : rmP nb B O σ r τ) (hf : τ 9 23 ≠ -1) : rmP nb B O σ (false, r.2.1, []) τ := by
  rcases h.2 with q | q
  · exact absurd q.2.1 hf
  · exact ⟨h.1, Or.inr ⟨fun w => tnf w.symm, q.2⟩⟩
theorem rmP.o24 {nb : Int → Int} {B O : Int} {σ τ : Sto} {r : RT} (h : rmP nb B O σ r τ) (hO : 0 ≤ O ∧ O ≤ 7) : 0 ≤ τ 9 24 ∧ τ 9 24 ≤ 7 := by
  rcases h.2 with q | q
  · have := q.2.2.2.1; omega
  · have := q.2.2.2.2.1; omega
set_option maxRecDepth 20000 in
set_option maxHeartbeats 1000000 in
theorem c_X9_operand {T : Nat → Int} {n : Int} {k : Nat} {σ : Sto} (hB : rmB T n σ) (ih1 : ∀ τ, rmB T n τ → τ 9 24 = σ 9 24 + 1 → mdC T n yX9_operand cX9_operand 2 5 k τ) (ih2 : ∀ τ, rmB T n τ → τ 9 24 = σ 9 24 + 1 → mdC T n yX9_either cX9_either 1 0 k τ) : mdC T n yX9_operand cX9_operand 2 5 (k + 1) σ := by
  obtain ⟨ht, k23, k22, k25, k24⟩ := id hB
  obtain ⟨tn, t21, tT, t95⟩ := id ht
  have hsb := sbF_c (nbF T n (σ 9 22))
  have hbR := nbF_R (T := T) (n := n) (a := σ 9 22) tT
  have hnm := nmF_R (nbF T n (σ 9 22))
  have hsn := sb_nm (x := nbF T n (σ 9 22)) hbR
  have hlt := nbF_lt (T := T) (n := n) (a := σ 9 22)
  have hBo : σ 9 24 < 6 → σ 9 22 < n → rmB T n (z_put (z_put σ 9 24 (σ 9 24 + 1)) 9 22 (σ 9 22 + 1)) := fun g1 g2 => ⟨((rmS.put (Or.inr (Or.inr (Or.inl rfl)))).tr (rmS.put (Or.inl rfl))).tp ht, k23, (show 0 ≤ σ 9 22 + 1 ∧ σ 9 22 + 1 ≤ n by omega), (show 0 ≤ σ 9 25 ∧ σ 9 25 ≤ σ 9 22 + 1 by omega), (show 0 ≤ σ 9 24 + 1 ∧ σ 9 24 + 1 ≤ 6 by omega)⟩
  unfold mdC
  rw [rd_5]
  refine z_does (L := [some (zR 9), none]) rfl (by decide +kernel) (Nat.le_of_ble_eq_true rfl) rfl ?_
  refine z_aload_n dX9_operand_0 rfl ?_
  refine z_callVI (d := k + 3) (av := []) dX9_operand_1 vX9_211 rfl (Nat.le_of_ble_eq_true rfl) rfl rfl rfl (Nat.le_of_ble_eq_true rfl) (Nat.le_refl _) (c_X9_look ht (by omega)) (fun z1 σ1 h1 => ?_)
  obtain ⟨hs1, hz⟩ := h1
  subst σ1
  subst hz
  refine z_istore_n (L' := [_, _]) dX9_operand_4 (Nat.le_of_ble_eq_true rfl) rfl rfl ?_
  refine z_iload_n dX9_operand_5 rfl ?_
  refine z_callSI (d := k + 3) (av := [_]) dX9_operand_6 sX9_219 rfl rfl (Nat.le_of_ble_eq_true rfl) (Nat.le_refl _) (c_X9_nameOf (by omega)) (fun z6 σ6 h6 => ?_)
  obtain ⟨hz, hs6⟩ := h6
  subst σ6
  rw [hsn] at hz
  refine z_if_lt (tgt := 34) dX9_operand_9 (by decide) ⟨by omega, by omega⟩ (fun h9 => ?_) (fun h9 => ?_)
  · skip
    refine z_iload_n dX9_operand_34 rfl ?_
    refine z_bipush (v := 33) dX9_operand_35 (by decide +kernel) ?_
    refine z_icmp_eq (tgt := 46) dX9_operand_37 (by decide) ⟨by omega, by omega⟩ ⟨by omega, by omega⟩ (fun h37 => ?_) (fun h37 => ?_)
    · skip
      refine z_aload_n dX9_operand_46 rfl ?_
      refine z_callVI (d := k + 3) (av := []) dX9_operand_47 vX9_223 rfl (Nat.le_of_ble_eq_true rfl) rfl rfl rfl (Nat.le_of_ble_eq_true rfl) (Nat.le_refl _) (c_X9_opens k23 k24 (by omega)) (fun z47 σ47 h47 => ?_)
      skip
      refine z_if_ne (tgt := 54) dX9_operand_50 (by decide) ⟨by omega, by omega⟩ (fun h50 => ?_) (fun h50 => ?_)
      · skip
        have ho : σ 9 24 < 6 ∧ σ47 = z_put (z_put σ 9 24 (σ 9 24 + 1)) 9 22 (σ 9 22 + 1) := by rcases h47 with q | q; exfalso; omega; exact ⟨q.1, q.2.2⟩
        obtain ⟨ho, hs⟩ := ho
        subst hs
        have hlt2 := hlt (by omega)
        refine z_aload_n dX9_operand_54 rfl ?_
        refine z_callVV (d := k + 3) (av := []) dX9_operand_55 vX9_227 rfl (Nat.le_of_ble_eq_true rfl) rfl rfl rfl (Nat.le_of_ble_eq_true rfl) (Nat.le_refl _) (ih1 _ (hBo ho hlt2.2) rfl) (fun σ55 h55 => ?_)
        have hr : rmP (nbF T n) (σ 9 25 + ((rd (nbF T n) k 5 (σ 9 24 + 1) (σ 9 22 + 1)).2.1 - (σ 9 22 + 1)) + 1) (σ 9 24 + 1) (z_put (z_put σ 9 24 (σ 9 24 + 1)) 9 22 (σ 9 22 + 1)) (rd (nbF T n) k 5 (σ 9 24 + 1) (σ 9 22 + 1)) σ55 := h55
        have hr := hr.pre22.pre24
        have hro := rd_R (T := T) (n := n) k 5 (σ 9 24 + 1) (σ 9 22 + 1) (by omega) (by omega) (by omega)
        have hb5 := hr.lb hro (show 0 ≤ σ 9 25 ∧ σ 9 25 ≤ σ 9 22 + 1 by omega)
        have h24 := hr.o24 (by omega)
        have hro1 := hro.1
        have hro2 := hro.2.1
        refine z_aload_n dX9_operand_58 rfl ?_
        refine z_dup dX9_operand_59 rfl ?_
        refine z_getI dX9_operand_60 gX9_205 rfl (Nat.le_of_ble_eq_true rfl) rfl (fun hr60 => ?_)
        refine z_iconst dX9_operand_63 ?_
        refine z_isub dX9_operand_64 ?_
        refine z_putI dX9_operand_65 pX9_205 rfl (Nat.le_of_ble_eq_true rfl) rfl ⟨by omega, by omega⟩ ?_
        refine z_aload_n dX9_operand_68 rfl ?_
        refine z_iload_n dX9_operand_69 rfl ?_
        refine z_bipush (v := 33) dX9_operand_70 (by decide +kernel) ?_
        refine z_icmp_ne (tgt := 79) dX9_operand_72 (by decide) ⟨by omega, by omega⟩ ⟨by omega, by omega⟩ (fun h72 => ?_) (fun h72 => ?_)
        · skip
          refine z_iconst dX9_operand_79 ?_
          refine z_iconst dX9_operand_80 ?_
          refine z_callVV (d := k + 3) (av := [_, _]) dX9_operand_81 vX9_215 rfl (Nat.le_of_ble_eq_true rfl) rfl rfl rfl (Nat.le_of_ble_eq_true rfl) (Nat.le_refl _) (c_X9_addStep (show 0 ≤ σ55 9 25 ∧ σ55 9 25 < 130 by omega) ⟨by decide, by decide⟩ ⟨by decide, by decide⟩) (fun σ81 h81 => ?_)
          subst h81
          refine z_goto (tgt := 154) dX9_operand_84 (by decide) ?_
          exact z_vret dX9_operand_154 (by
            first
              | (have hneg : nmF (nbF T n (σ 9 22)) < 0 := by omega
                 have hlt2 := hlt (fun q => by rw [q] at hneg; exact absurd hneg (by decide))
                 rw [if_neg (by rw [nm_nd hneg]; exact Bool.false_ne_true), if_pos hneg]
                 have h1 := rmP.add (c := nmF (nbF T n (σ 9 22))) (w := 2) (v := z15) k25.1 (rmP.rf (nb := nbF T n) (B := 0) k23) (by rw [aOf, if_neg (by omega), if_pos (by omega)]; decide) (by rw [wOf, if_neg (by omega), if_pos (by omega)]; exact hz2)
                 have e23 : amS σ 2 z15 9 23 = -1 := by rw [amS_f (by decide)]; exact k23
                 have h2 := h1.at (a := σ 9 22 + 1) e23
                 exact h2.okB e23)
              | (obtain ⟨n1, n2⟩ := nm_33 (s := nbF T n (σ 9 22)) (by omega)
                 rw [if_neg n2, if_neg n1, if_neg (by omega), if_pos (by omega), if_pos (by omega : nbF T n (σ 9 22) = 33)]
                 have hu := rmP.add (c := -33) (w := 3) (v := 0) k25.1 hr.opn (by decide) (by decide)
                 by_cases g1 : (rd (nbF T n) k 5 (σ 9 24 + 1) (σ 9 22 + 1)).1 = true
                 · rw [if_pos g1] at hu ⊢; exact hu.wk (by simp only; omega)
                 · rw [if_neg g1] at hu ⊢; exact hu.wk (by simp only; omega))
              | (obtain ⟨n1, n2⟩ := nm_33 (s := nbF T n (σ 9 22)) (by omega)
                 rw [if_neg n2, if_neg n1, if_neg (by omega), if_pos (by omega), if_neg (by omega : ¬ nbF T n (σ 9 22) = 33)]
                 have hu := rmP.add (c := -126) (w := 4) (v := 0) k25.1 hr.opn (by decide) (by decide)
                 by_cases g1 : (rd (nbF T n) k 5 (σ 9 24 + 1) (σ 9 22 + 1)).1 = true
                 · rw [if_pos g1] at hu ⊢; exact hu.wk (by simp only; omega)
                 · rw [if_neg g1] at hu ⊢; exact hu.wk (by simp only; omega))
              | (obtain ⟨n1, n2⟩ := nm_33 (s := nbF T n (σ 9 22)) (by omega)
                 rw [if_neg n2, if_neg n1, if_neg (by omega), if_neg (by omega), if_pos (by omega), if_pos hb.1, if_pos (by omega)]
                 have h1 := hr.at (a := (rd (nbF T n) k 0 (σ 9 24 + 1) (σ 9 22 + 1)).2.1 + 1) hf
                 have h2 := h1.opn
                 rw [← e22] at h2
                 rw [← e22]
                 exact h2.okB hf)
              | (have hn : ¬ nmF (nbF T n (σ 9 22)) < 0 := by omega
                 by_cases hd : isD (nbF T n (σ 9 22)) = true
                 · rw [if_pos hd] at h151 ⊢
                   rw [if_pos hd] at h151
                   exact h151
                 · rw [if_neg hd, if_neg hd] at h151
                   rw [if_neg hd, if_neg hn, if_neg (by omega : ¬ (nbF T n (σ 9 22) = 33 ∨ nbF T n (σ 9 22) = 45)), if_neg (by omega : ¬ nbF T n (σ 9 22) = 40), ite_self]
                   exact h151))
        · skip
          refine z_iconst dX9_operand_75 ?_
          refine z_goto (tgt := 80) dX9_operand_76 (by decide) ?_
          refine z_iconst dX9_operand_80 ?_
          refine z_callVV (d := k + 3) (av := [_, _]) dX9_operand_81 vX9_215 rfl (Nat.le_of_ble_eq_true rfl) rfl rfl rfl (Nat.le_of_ble_eq_true rfl) (Nat.le_refl _) (c_X9_addStep (show 0 ≤ σ55 9 25 ∧ σ55 9 25 < 130 by omega) ⟨by decide, by decide⟩ ⟨by decide, by decide⟩) (fun σ81 h81 => ?_)
          subst h81
          refine z_goto (tgt := 154) dX9_operand_84 (by decide) ?_
          exact z_vret dX9_operand_154 (by
            first
              | (have hneg : nmF (nbF T n (σ 9 22)) < 0 := by omega
                 have hlt2 := hlt (fun q => by rw [q] at hneg; exact absurd hneg (by decide))
                 rw [if_neg (by rw [nm_nd hneg]; exact Bool.false_ne_true), if_pos hneg]
                 have h1 := rmP.add (c := nmF (nbF T n (σ 9 22))) (w := 2) (v := z15) k25.1 (rmP.rf (nb := nbF T n) (B := 0) k23) (by rw [aOf, if_neg (by omega), if_pos (by omega)]; decide) (by rw [wOf, if_neg (by omega), if_pos (by omega)]; exact hz2)
                 have e23 : amS σ 2 z15 9 23 = -1 := by rw [amS_f (by decide)]; exact k23
                 have h2 := h1.at (a := σ 9 22 + 1) e23
                 exact h2.okB e23)
              | (obtain ⟨n1, n2⟩ := nm_33 (s := nbF T n (σ 9 22)) (by omega)
                 rw [if_neg n2, if_neg n1, if_neg (by omega), if_pos (by omega), if_pos (by omega : nbF T n (σ 9 22) = 33)]
                 have hu := rmP.add (c := -33) (w := 3) (v := 0) k25.1 hr.opn (by decide) (by decide)
                 by_cases g1 : (rd (nbF T n) k 5 (σ 9 24 + 1) (σ 9 22 + 1)).1 = true
                 · rw [if_pos g1] at hu ⊢; exact hu.wk (by simp only; omega)
                 · rw [if_neg g1] at hu ⊢; exact hu.wk (by simp only; omega))
              | (obtain ⟨n1, n2⟩ := nm_33 (s := nbF T n (σ 9 22)) (by omega)
                 rw [if_neg n2, if_neg n1, if_neg (by omega), if_pos (by omega), if_neg (by omega : ¬ nbF T n (σ 9 22) = 33)]
                 have hu := rmP.add (c := -126) (w := 4) (v := 0) k25.1 hr.opn (by decide) (by decide)
                 by_cases g1 : (rd (nbF T n) k 5 (σ 9 24 + 1) (σ 9 22 + 1)).1 = true
                 · rw [if_pos g1] at hu ⊢; exact hu.wk (by simp only; omega)
                 · rw [if_neg g1] at hu ⊢; exact hu.wk (by simp only; omega))
              | (obtain ⟨n1, n2⟩ := nm_33 (s := nbF T n (σ 9 22)) (by omega)
                 rw [if_neg n2, if_neg n1, if_neg (by omega), if_neg (by omega), if_pos (by omega), if_pos hb.1, if_pos (by omega)]
                 have h1 := hr.at (a := (rd (nbF T n) k 0 (σ 9 24 + 1) (σ 9 22 + 1)).2.1 + 1) hf
                 have h2 := h1.opn
                 rw [← e22] at h2
                 rw [← e22]
                 exact h2.okB hf)
              | (have hn : ¬ nmF (nbF T n (σ 9 22)) < 0 := by omega
                 by_cases hd : isD (nbF T n (σ 9 22)) = true
                 · rw [if_pos hd] at h151 ⊢
                   rw [if_pos hd] at h151
                   exact h151
                 · rw [if_neg hd, if_neg hd] at h151
                   rw [if_neg hd, if_neg hn, if_neg (by omega : ¬ (nbF T n (σ 9 22) = 33 ∨ nbF T n (σ 9 22) = 45)), if_neg (by omega : ¬ nbF T n (σ 9 22) = 40), ite_self]
                   exact h151))
      · skip
        have ho : σ 9 24 = 6 ∧ σ47 = z_put σ 9 23 (σ 9 22) := by rcases h47 with q | q; exact ⟨q.1, q.2.2⟩; exfalso; omega
        obtain ⟨ho, hs⟩ := ho
        subst hs
        exact z_vret dX9_operand_53 (by
          obtain ⟨n1, n2⟩ := nm_33 (s := nbF T n (σ 9 22)) (by omega)
          rw [if_neg n2, if_neg n1, if_pos (by omega)]
          exact (rmP.rf (B := 0) k23).wr k23 false (fun w => tnf w.symm) (by simp only; omega) (by omega) (by simp only; omega))
    · skip
      refine z_iload_n dX9_operand_40 rfl ?_
      refine z_bipush (v := 45) dX9_operand_41 (by decide +kernel) ?_
      refine z_icmp_ne (tgt := 87) dX9_operand_43 (by decide) ⟨by omega, by omega⟩ ⟨by omega, by omega⟩ (fun h43 => ?_) (fun h43 => ?_)
      · skip
        refine z_iload_n dX9_operand_87 rfl ?_
        refine z_bipush (v := 40) dX9_operand_88 (by decide +kernel) ?_
        refine z_icmp_ne (tgt := 150) dX9_operand_90 (by decide) ⟨by omega, by omega⟩ ⟨by omega, by omega⟩ (fun h90 => ?_) (fun h90 => ?_)
        · skip
          refine z_aload_n dX9_operand_150 rfl ?_
          refine z_callVV (d := k + 3) (av := []) dX9_operand_151 vX9_233 rfl (Nat.le_of_ble_eq_true rfl) rfl rfl rfl (Nat.le_of_ble_eq_true rfl) (Nat.le_refl _) (c_X9_figure hB) (fun σ151 h151 => ?_)
          skip
          exact z_vret dX9_operand_154 (by
            first
              | (have hneg : nmF (nbF T n (σ 9 22)) < 0 := by omega
                 have hlt2 := hlt (fun q => by rw [q] at hneg; exact absurd hneg (by decide))
                 rw [if_neg (by rw [nm_nd hneg]; exact Bool.false_ne_true), if_pos hneg]
                 have h1 := rmP.add (c := nmF (nbF T n (σ 9 22))) (w := 2) (v := z15) k25.1 (rmP.rf (nb := nbF T n) (B := 0) k23) (by rw [aOf, if_neg (by omega), if_pos (by omega)]; decide) (by rw [wOf, if_neg (by omega), if_pos (by omega)]; exact hz2)
                 have e23 : amS σ 2 z15 9 23 = -1 := by rw [amS_f (by decide)]; exact k23
                 have h2 := h1.at (a := σ 9 22 + 1) e23
                 exact h2.okB e23)
              | (obtain ⟨n1, n2⟩ := nm_33 (s := nbF T n (σ 9 22)) (by omega)
                 rw [if_neg n2, if_neg n1, if_neg (by omega), if_pos (by omega), if_pos (by omega : nbF T n (σ 9 22) = 33)]
                 have hu := rmP.add (c := -33) (w := 3) (v := 0) k25.1 hr.opn (by decide) (by decide)
                 by_cases g1 : (rd (nbF T n) k 5 (σ 9 24 + 1) (σ 9 22 + 1)).1 = true
                 · rw [if_pos g1] at hu ⊢; exact hu.wk (by simp only; omega)
                 · rw [if_neg g1] at hu ⊢; exact hu.wk (by simp only; omega))
              | (obtain ⟨n1, n2⟩ := nm_33 (s := nbF T n (σ 9 22)) (by omega)
                 rw [if_neg n2, if_neg n1, if_neg (by omega), if_pos (by omega), if_neg (by omega : ¬ nbF T n (σ 9 22) = 33)]
                 have hu := rmP.add (c := -126) (w := 4) (v := 0) k25.1 hr.opn (by decide) (by decide)
                 by_cases g1 : (rd (nbF T n) k 5 (σ 9 24 + 1) (σ 9 22 + 1)).1 = true
                 · rw [if_pos g1] at hu ⊢; exact hu.wk (by simp only; omega)
                 · rw [if_neg g1] at hu ⊢; exact hu.wk (by simp only; omega))
              | (obtain ⟨n1, n2⟩ := nm_33 (s := nbF T n (σ 9 22)) (by omega)
                 rw [if_neg n2, if_neg n1, if_neg (by omega), if_neg (by omega), if_pos (by omega), if_pos hb.1, if_pos (by omega)]
                 have h1 := hr.at (a := (rd (nbF T n) k 0 (σ 9 24 + 1) (σ 9 22 + 1)).2.1 + 1) hf
                 have h2 := h1.opn
                 rw [← e22] at h2
                 rw [← e22]
                 exact h2.okB hf)
              | (have hn : ¬ nmF (nbF T n (σ 9 22)) < 0 := by omega
                 by_cases hd : isD (nbF T n (σ 9 22)) = true
                 · rw [if_pos hd] at h151 ⊢
                   rw [if_pos hd] at h151
                   exact h151
                 · rw [if_neg hd, if_neg hd] at h151
                   rw [if_neg hd, if_neg hn, if_neg (by omega : ¬ (nbF T n (σ 9 22) = 33 ∨ nbF T n (σ 9 22) = 45)), if_neg (by omega : ¬ nbF T n (σ 9 22) = 40), ite_self]
                   exact h151))
        · skip
          refine z_aload_n dX9_operand_93 rfl ?_
          refine z_callVI (d := k + 3) (av := []) dX9_operand_94 vX9_223 rfl (Nat.le_of_ble_eq_true rfl) rfl rfl rfl (Nat.le_of_ble_eq_true rfl) (Nat.le_refl _) (c_X9_opens k23 k24 (by omega)) (fun z94 σ94 h94 => ?_)
          skip
          refine z_if_ne (tgt := 101) dX9_operand_97 (by decide) ⟨by omega, by omega⟩ (fun h97 => ?_) (fun h97 => ?_)
          · skip
            have ho : σ 9 24 < 6 ∧ σ94 = z_put (z_put σ 9 24 (σ 9 24 + 1)) 9 22 (σ 9 22 + 1) := by rcases h94 with q | q; exfalso; omega; exact ⟨q.1, q.2.2⟩
            obtain ⟨ho, hs⟩ := ho
            subst hs
            have hlt2 := hlt (by omega)
            refine z_aload_n dX9_operand_101 rfl ?_
            refine z_callVV (d := k + 3) (av := []) dX9_operand_102 vX9_230 rfl (Nat.le_of_ble_eq_true rfl) rfl rfl rfl (Nat.le_of_ble_eq_true rfl) (Nat.le_refl _) (ih2 _ (hBo ho hlt2.2) rfl) (fun σ102 h102 => ?_)
            have hr : rmP (nbF T n) (σ 9 25 + ((rd (nbF T n) k 0 (σ 9 24 + 1) (σ 9 22 + 1)).2.1 - (σ 9 22 + 1)) + 1) (σ 9 24 + 1) (z_put (z_put σ 9 24 (σ 9 24 + 1)) 9 22 (σ 9 22 + 1)) (rd (nbF T n) k 0 (σ 9 24 + 1) (σ 9 22 + 1)) σ102 := h102
            have hr := hr.pre22.pre24
            have hro := rd_R (T := T) (n := n) k 0 (σ 9 24 + 1) (σ 9 22 + 1) (by omega) (by omega) (by omega)
            have hb5 := hr.lb hro (show 0 ≤ σ 9 25 ∧ σ 9 25 ≤ σ 9 22 + 1 by omega)
            have h24 := hr.o24 (by omega)
            have hro1 := hro.1
            have hro2 := hro.2.1
            refine z_aload_n dX9_operand_105 rfl ?_
            refine z_getI dX9_operand_106 gX9_199 rfl (Nat.le_of_ble_eq_true rfl) rfl (fun hr106 => ?_)
            refine z_if_lt (tgt := 113) dX9_operand_109 (by decide) ⟨by omega, by omega⟩ (fun h109 => ?_) (fun h109 => ?_)
            · skip
              have hf : σ102 9 23 = -1 := by rcases hr.2 with q | q; exact q.2.1; exfalso; have := q.2.1; have := q.2.2.1; omega
              have hb := hr.bad hf
              have e22 : σ102 9 22 = (rd (nbF T n) k 0 (σ 9 24 + 1) (σ 9 22 + 1)).2.1 := hb.2.1
              have hsb2 := sbF_c (nbF T n (rd (nbF T n) k 0 (σ 9 24 + 1) (σ 9 22 + 1)).2.1)
              have hbR2 := nbF_R (T := T) (n := n) (a := (rd (nbF T n) k 0 (σ 9 24 + 1) (σ 9 22 + 1)).2.1) tT
              refine z_aload_n dX9_operand_113 rfl ?_
              refine z_callVI (d := k + 3) (av := []) dX9_operand_114 vX9_211 rfl (Nat.le_of_ble_eq_true rfl) rfl rfl rfl (Nat.le_of_ble_eq_true rfl) (Nat.le_refl _) (c_X9_look (hr.1.tp ht) (by omega)) (fun z114 σ114 h114 => ?_)
              obtain ⟨hs114, hz⟩ := h114
              subst σ114
              rw [e22] at hz
              subst hz
              refine z_bipush (v := 41) dX9_operand_117 (by decide +kernel) ?_
              refine z_icmp_eq (tgt := 127) dX9_operand_119 (by decide) ⟨by omega, by omega⟩ ⟨by omega, by omega⟩ (fun h119 => ?_) (fun h119 => ?_)
              · skip
                refine z_aload_n dX9_operand_127 rfl ?_
                refine z_dup dX9_operand_128 rfl ?_
                refine z_getI dX9_operand_129 gX9_196 rfl (Nat.le_of_ble_eq_true rfl) rfl (fun hr129 => ?_)
                refine z_iconst dX9_operand_132 ?_
                refine z_iadd dX9_operand_133 ?_
                refine z_putI dX9_operand_134 pX9_196 rfl (Nat.le_of_ble_eq_true rfl) rfl ⟨by omega, by omega⟩ ?_
                refine z_aload_n dX9_operand_137 rfl ?_
                refine z_dup dX9_operand_138 rfl ?_
                refine z_getI dX9_operand_139 gX9_205 rfl (Nat.le_of_ble_eq_true rfl) rfl (fun hr139 => ?_)
                try simp only [z_rd, Nat.reduceEqDiff, ↓reduceIte, eq_self] at hr139 ⊢
                refine z_iconst dX9_operand_142 ?_
                refine z_isub dX9_operand_143 ?_
                refine z_putI dX9_operand_144 pX9_205 rfl (Nat.le_of_ble_eq_true rfl) rfl ⟨by omega, by omega⟩ ?_
                refine z_goto (tgt := 154) dX9_operand_147 (by decide) ?_
                exact z_vret dX9_operand_154 (by
                  first
                    | (have hneg : nmF (nbF T n (σ 9 22)) < 0 := by omega
                       have hlt2 := hlt (fun q => by rw [q] at hneg; exact absurd hneg (by decide))
                       rw [if_neg (by rw [nm_nd hneg]; exact Bool.false_ne_true), if_pos hneg]
                       have h1 := rmP.add (c := nmF (nbF T n (σ 9 22))) (w := 2) (v := z15) k25.1 (rmP.rf (nb := nbF T n) (B := 0) k23) (by rw [aOf, if_neg (by omega), if_pos (by omega)]; decide) (by rw [wOf, if_neg (by omega), if_pos (by omega)]; exact hz2)
                       have e23 : amS σ 2 z15 9 23 = -1 := by rw [amS_f (by decide)]; exact k23
                       have h2 := h1.at (a := σ 9 22 + 1) e23
                       exact h2.okB e23)
                    | (obtain ⟨n1, n2⟩ := nm_33 (s := nbF T n (σ 9 22)) (by omega)
                       rw [if_neg n2, if_neg n1, if_neg (by omega), if_pos (by omega), if_pos (by omega : nbF T n (σ 9 22) = 33)]
                       have hu := rmP.add (c := -33) (w := 3) (v := 0) k25.1 hr.opn (by decide) (by decide)
                       by_cases g1 : (rd (nbF T n) k 5 (σ 9 24 + 1) (σ 9 22 + 1)).1 = true
                       · rw [if_pos g1] at hu ⊢; exact hu.wk (by simp only; omega)
                       · rw [if_neg g1] at hu ⊢; exact hu.wk (by simp only; omega))
                    | (obtain ⟨n1, n2⟩ := nm_33 (s := nbF T n (σ 9 22)) (by omega)
                       rw [if_neg n2, if_neg n1, if_neg (by omega), if_pos (by omega), if_neg (by omega : ¬ nbF T n (σ 9 22) = 33)]
                       have hu := rmP.add (c := -126) (w := 4) (v := 0) k25.1 hr.opn (by decide) (by decide)
                       by_cases g1 : (rd (nbF T n) k 5 (σ 9 24 + 1) (σ 9 22 + 1)).1 = true
                       · rw [if_pos g1] at hu ⊢; exact hu.wk (by simp only; omega)
                       · rw [if_neg g1] at hu ⊢; exact hu.wk (by simp only; omega))
                    | (obtain ⟨n1, n2⟩ := nm_33 (s := nbF T n (σ 9 22)) (by omega)
                       rw [if_neg n2, if_neg n1, if_neg (by omega), if_neg (by omega), if_pos (by omega), if_pos hb.1, if_pos (by omega)]
                       have h1 := hr.at (a := (rd (nbF T n) k 0 (σ 9 24 + 1) (σ 9 22 + 1)).2.1 + 1) hf
                       have h2 := h1.opn
                       rw [← e22] at h2
                       rw [← e22]
                       exact h2.okB hf)
                    | (have hn : ¬ nmF (nbF T n (σ 9 22)) < 0 := by omega
                       by_cases hd : isD (nbF T n (σ 9 22)) = true
                       · rw [if_pos hd] at h151 ⊢
                         rw [if_pos hd] at h151
                         exact h151
                       · rw [if_neg hd, if_neg hd] at h151
                         rw [if_neg hd, if_neg hn, if_neg (by omega : ¬ (nbF T n (σ 9 22) = 33 ∨ nbF T n (σ 9 22) = 45)), if_neg (by omega : ¬ nbF T n (σ 9 22) = 40), ite_self]
                         exact h151))
              · skip
                refine z_aload_n dX9_operand_122 rfl ?_
                refine z_callVV (d := k + 3) (av := []) dX9_operand_123 vX9_208 rfl (Nat.le_of_ble_eq_true rfl) rfl rfl rfl (Nat.le_of_ble_eq_true rfl) (Nat.le_refl _) (c_X9_wrong hf) (fun σ123 h123 => ?_)
                subst h123
                exact z_vret dX9_operand_126 (by
                  obtain ⟨n1, n2⟩ := nm_33 (s := nbF T n (σ 9 22)) (by omega)
                  rw [if_neg n2, if_neg n1, if_neg (by omega), if_neg (by omega), if_pos (by omega), if_pos hb.1, if_neg (by omega)]
                  have hw := hr.wr (B' := σ 9 25 + ((rd (nbF T n) k 0 (σ 9 24 + 1) (σ 9 22 + 1)).2.1 - σ 9 22) + 1) hf false (fun w => tnf w.symm) (by omega) (by omega) (by have := hr.laid0 hf; have := hro.2.2 hb.1; omega)
                  exact hw.oO (by rw [z_rd, if_pos rfl, if_pos rfl, e22]; omega))
            · skip
              have hf : σ102 9 23 ≠ -1 := by omega
              exact z_vret dX9_operand_112 (by
                obtain ⟨n1, n2⟩ := nm_33 (s := nbF T n (σ 9 22)) (by omega)
                rw [if_neg n2, if_neg n1, if_neg (by omega), if_neg (by omega), if_pos (by omega)]
                have hq := (hr.oO hf).fl hf
                by_cases g1 : (rd (nbF T n) k 0 (σ 9 24 + 1) (σ 9 22 + 1)).1 = true
                · have hdg : isD (nbF T n (rd (nbF T n) k 0 (σ 9 24 + 1) (σ 9 22 + 1)).2.1) = true := by rcases hr.2 with q | q; exact absurd q.2.1 hf; exact q.1 g1
                  have h4 : 48 ≤ nbF T n (rd (nbF T n) k 0 (σ 9 24 + 1) (σ 9 22 + 1)).2.1 ∧ nbF T n (rd (nbF T n) k 0 (σ 9 24 + 1) (σ 9 22 + 1)).2.1 ≤ 57 := of_decide_eq_true hdg
                  rw [if_pos g1, if_neg (by omega)]
                  exact hq.wk (by simp only; omega)
                · rw [if_neg g1]
                  exact hq.wk (by simp only; omega))
          · skip
            have ho : σ 9 24 = 6 ∧ σ94 = z_put σ 9 23 (σ 9 22) := by rcases h94 with q | q; exact ⟨q.1, q.2.2⟩; exfalso; omega
            obtain ⟨ho, hs⟩ := ho
            subst hs
            exact z_vret dX9_operand_100 (by
              obtain ⟨n1, n2⟩ := nm_33 (s := nbF T n (σ 9 22)) (by omega)
              rw [if_neg n2, if_neg n1, if_pos (by omega)]
              exact (rmP.rf (B := 0) k23).wr k23 false (fun w => tnf w.symm) (by simp only; omega) (by omega) (by simp only; omega))
      · skip
        refine z_aload_n dX9_operand_46 rfl ?_
        refine z_callVI (d := k + 3) (av := []) dX9_operand_47 vX9_223 rfl (Nat.le_of_ble_eq_true rfl) rfl rfl rfl (Nat.le_of_ble_eq_true rfl) (Nat.le_refl _) (c_X9_opens k23 k24 (by omega)) (fun z47 σ47 h47 => ?_)
        skip
        refine z_if_ne (tgt := 54) dX9_operand_50 (by decide) ⟨by omega, by omega⟩ (fun h50 => ?_) (fun h50 => ?_)
        · skip
          have ho : σ 9 24 < 6 ∧ σ47 = z_put (z_put σ 9 24 (σ 9 24 + 1)) 9 22 (σ 9 22 + 1) := by rcases h47 with q | q; exfalso; omega; exact ⟨q.1, q.2.2⟩
          obtain ⟨ho, hs⟩ := ho
          subst hs
          have hlt2 := hlt (by omega)
          refine z_aload_n dX9_operand_54 rfl ?_
          refine z_callVV (d := k + 3) (av := []) dX9_operand_55 vX9_227 rfl (Nat.le_of_ble_eq_true rfl) rfl rfl rfl (Nat.le_of_ble_eq_true rfl) (Nat.le_refl _) (ih1 _ (hBo ho hlt2.2) rfl) (fun σ55 h55 => ?_)
          have hr : rmP (nbF T n) (σ 9 25 + ((rd (nbF T n) k 5 (σ 9 24 + 1) (σ 9 22 + 1)).2.1 - (σ 9 22 + 1)) + 1) (σ 9 24 + 1) (z_put (z_put σ 9 24 (σ 9 24 + 1)) 9 22 (σ 9 22 + 1)) (rd (nbF T n) k 5 (σ 9 24 + 1) (σ 9 22 + 1)) σ55 := h55
          have hr := hr.pre22.pre24
          have hro := rd_R (T := T) (n := n) k 5 (σ 9 24 + 1) (σ 9 22 + 1) (by omega) (by omega) (by omega)
          have hb5 := hr.lb hro (show 0 ≤ σ 9 25 ∧ σ 9 25 ≤ σ 9 22 + 1 by omega)
          have h24 := hr.o24 (by omega)
          have hro1 := hro.1
          have hro2 := hro.2.1
          refine z_aload_n dX9_operand_58 rfl ?_
          refine z_dup dX9_operand_59 rfl ?_
          refine z_getI dX9_operand_60 gX9_205 rfl (Nat.le_of_ble_eq_true rfl) rfl (fun hr60 => ?_)
          refine z_iconst dX9_operand_63 ?_
          refine z_isub dX9_operand_64 ?_
          refine z_putI dX9_operand_65 pX9_205 rfl (Nat.le_of_ble_eq_true rfl) rfl ⟨by omega, by omega⟩ ?_
          refine z_aload_n dX9_operand_68 rfl ?_
          refine z_iload_n dX9_operand_69 rfl ?_
          refine z_bipush (v := 33) dX9_operand_70 (by decide +kernel) ?_
          refine z_icmp_ne (tgt := 79) dX9_operand_72 (by decide) ⟨by omega, by omega⟩ ⟨by omega, by omega⟩ (fun h72 => ?_) (fun h72 => ?_)
          · skip
            refine z_iconst dX9_operand_79 ?_
            refine z_iconst dX9_operand_80 ?_
            refine z_callVV (d := k + 3) (av := [_, _]) dX9_operand_81 vX9_215 rfl (Nat.le_of_ble_eq_true rfl) rfl rfl rfl (Nat.le_of_ble_eq_true rfl) (Nat.le_refl _) (c_X9_addStep (show 0 ≤ σ55 9 25 ∧ σ55 9 25 < 130 by omega) ⟨by decide, by decide⟩ ⟨by decide, by decide⟩) (fun σ81 h81 => ?_)
            subst h81
            refine z_goto (tgt := 154) dX9_operand_84 (by decide) ?_
            exact z_vret dX9_operand_154 (by
              first
                | (have hneg : nmF (nbF T n (σ 9 22)) < 0 := by omega
                   have hlt2 := hlt (fun q => by rw [q] at hneg; exact absurd hneg (by decide))
                   rw [if_neg (by rw [nm_nd hneg]; exact Bool.false_ne_true), if_pos hneg]
                   have h1 := rmP.add (c := nmF (nbF T n (σ 9 22))) (w := 2) (v := z15) k25.1 (rmP.rf (nb := nbF T n) (B := 0) k23) (by rw [aOf, if_neg (by omega), if_pos (by omega)]; decide) (by rw [wOf, if_neg (by omega), if_pos (by omega)]; exact hz2)
                   have e23 : amS σ 2 z15 9 23 = -1 := by rw [amS_f (by decide)]; exact k23
                   have h2 := h1.at (a := σ 9 22 + 1) e23
                   exact h2.okB e23)
                | (obtain ⟨n1, n2⟩ := nm_33 (s := nbF T n (σ 9 22)) (by omega)
                   rw [if_neg n2, if_neg n1, if_neg (by omega), if_pos (by omega), if_pos (by omega : nbF T n (σ 9 22) = 33)]
                   have hu := rmP.add (c := -33) (w := 3) (v := 0) k25.1 hr.opn (by decide) (by decide)
                   by_cases g1 : (rd (nbF T n) k 5 (σ 9 24 + 1) (σ 9 22 + 1)).1 = true
                   · rw [if_pos g1] at hu ⊢; exact hu.wk (by simp only; omega)
                   · rw [if_neg g1] at hu ⊢; exact hu.wk (by simp only; omega))
                | (obtain ⟨n1, n2⟩ := nm_33 (s := nbF T n (σ 9 22)) (by omega)
                   rw [if_neg n2, if_neg n1, if_neg (by omega), if_pos (by omega), if_neg (by omega : ¬ nbF T n (σ 9 22) = 33)]
                   have hu := rmP.add (c := -126) (w := 4) (v := 0) k25.1 hr.opn (by decide) (by decide)
                   by_cases g1 : (rd (nbF T n) k 5 (σ 9 24 + 1) (σ 9 22 + 1)).1 = true
                   · rw [if_pos g1] at hu ⊢; exact hu.wk (by simp only; omega)
                   · rw [if_neg g1] at hu ⊢; exact hu.wk (by simp only; omega))
                | (obtain ⟨n1, n2⟩ := nm_33 (s := nbF T n (σ 9 22)) (by omega)
                   rw [if_neg n2, if_neg n1, if_neg (by omega), if_neg (by omega), if_pos (by omega), if_pos hb.1, if_pos (by omega)]
                   have h1 := hr.at (a := (rd (nbF T n) k 0 (σ 9 24 + 1) (σ 9 22 + 1)).2.1 + 1) hf
                   have h2 := h1.opn
                   rw [← e22] at h2
                   rw [← e22]
                   exact h2.okB hf)
                | (have hn : ¬ nmF (nbF T n (σ 9 22)) < 0 := by omega
                   by_cases hd : isD (nbF T n (σ 9 22)) = true
                   · rw [if_pos hd] at h151 ⊢
                     rw [if_pos hd] at h151
                     exact h151
                   · rw [if_neg hd, if_neg hd] at h151
                     rw [if_neg hd, if_neg hn, if_neg (by omega : ¬ (nbF T n (σ 9 22) = 33 ∨ nbF T n (σ 9 22) = 45)), if_neg (by omega : ¬ nbF T n (σ 9 22) = 40), ite_self]
                     exact h151))
          · skip
            refine z_iconst dX9_operand_75 ?_
            refine z_goto (tgt := 80) dX9_operand_76 (by decide) ?_
            refine z_iconst dX9_operand_80 ?_
            refine z_callVV (d := k + 3) (av := [_, _]) dX9_operand_81 vX9_215 rfl (Nat.le_of_ble_eq_true rfl) rfl rfl rfl (Nat.le_of_ble_eq_true rfl) (Nat.le_refl _) (c_X9_addStep (show 0 ≤ σ55 9 25 ∧ σ55 9 25 < 130 by omega) ⟨by decide, by decide⟩ ⟨by decide, by decide⟩) (fun σ81 h81 => ?_)
            subst h81
            refine z_goto (tgt := 154) dX9_operand_84 (by decide) ?_
            exact z_vret dX9_operand_154 (by
              first
                | (have hneg : nmF (nbF T n (σ 9 22)) < 0 := by omega
                   have hlt2 := hlt (fun q => by rw [q] at hneg; exact absurd hneg (by decide))
                   rw [if_neg (by rw [nm_nd hneg]; exact Bool.false_ne_true), if_pos hneg]
                   have h1 := rmP.add (c := nmF (nbF T n (σ 9 22))) (w := 2) (v := z15) k25.1 (rmP.rf (nb := nbF T n) (B := 0) k23) (by rw [aOf, if_neg (by omega), if_pos (by omega)]; decide) (by rw [wOf, if_neg (by omega), if_pos (by omega)]; exact hz2)
                   have e23 : amS σ 2 z15 9 23 = -1 := by rw [amS_f (by decide)]; exact k23
                   have h2 := h1.at (a := σ 9 22 + 1) e23
                   exact h2.okB e23)
                | (obtain ⟨n1, n2⟩ := nm_33 (s := nbF T n (σ 9 22)) (by omega)
                   rw [if_neg n2, if_neg n1, if_neg (by omega), if_pos (by omega), if_pos (by omega : nbF T n (σ 9 22) = 33)]
                   have hu := rmP.add (c := -33) (w := 3) (v := 0) k25.1 hr.opn (by decide) (by decide)
                   by_cases g1 : (rd (nbF T n) k 5 (σ 9 24 + 1) (σ 9 22 + 1)).1 = true
                   · rw [if_pos g1] at hu ⊢; exact hu.wk (by simp only; omega)
                   · rw [if_neg g1] at hu ⊢; exact hu.wk (by simp only; omega))
                | (obtain ⟨n1, n2⟩ := nm_33 (s := nbF T n (σ 9 22)) (by omega)
                   rw [if_neg n2, if_neg n1, if_neg (by omega), if_pos (by omega), if_neg (by omega : ¬ nbF T n (σ 9 22) = 33)]
                   have hu := rmP.add (c := -126) (w := 4) (v := 0) k25.1 hr.opn (by decide) (by decide)
                   by_cases g1 : (rd (nbF T n) k 5 (σ 9 24 + 1) (σ 9 22 + 1)).1 = true
                   · rw [if_pos g1] at hu ⊢; exact hu.wk (by simp only; omega)
                   · rw [if_neg g1] at hu ⊢; exact hu.wk (by simp only; omega))
                | (obtain ⟨n1, n2⟩ := nm_33 (s := nbF T n (σ 9 22)) (by omega)
                   rw [if_neg n2, if_neg n1, if_neg (by omega), if_neg (by omega), if_pos (by omega), if_pos hb.1, if_pos (by omega)]
                   have h1 := hr.at (a := (rd (nbF T n) k 0 (σ 9 24 + 1) (σ 9 22 + 1)).2.1 + 1) hf
                   have h2 := h1.opn
                   rw [← e22] at h2
                   rw [← e22]
                   exact h2.okB hf)
                | (have hn : ¬ nmF (nbF T n (σ 9 22)) < 0 := by omega
                   by_cases hd : isD (nbF T n (σ 9 22)) = true
                   · rw [if_pos hd] at h151 ⊢
                     rw [if_pos hd] at h151
                     exact h151
                   · rw [if_neg hd, if_neg hd] at h151
                     rw [if_neg hd, if_neg hn, if_neg (by omega : ¬ (nbF T n (σ 9 22) = 33 ∨ nbF T n (σ 9 22) = 45)), if_neg (by omega : ¬ nbF T n (σ 9 22) = 40), ite_self]
                     exact h151))
        · skip
          have ho : σ 9 24 = 6 ∧ σ47 = z_put σ 9 23 (σ 9 22) := by rcases h47 with q | q; exact ⟨q.1, q.2.2⟩; exfalso; omega
          obtain ⟨ho, hs⟩ := ho
          subst hs
          exact z_vret dX9_operand_53 (by
            obtain ⟨n1, n2⟩ := nm_33 (s := nbF T n (σ 9 22)) (by omega)
            rw [if_neg n2, if_neg n1, if_pos (by omega)]
            exact (rmP.rf (B := 0) k23).wr k23 false (fun w => tnf w.symm) (by simp only; omega) (by omega) (by simp only; omega))
  · skip
    refine z_aload_n dX9_operand_12 rfl ?_
    refine z_iconst dX9_operand_13 ?_
    refine z_iload_n dX9_operand_14 rfl ?_
    refine z_callSI (d := k + 3) (av := [_]) dX9_operand_15 sX9_219 rfl rfl (Nat.le_of_ble_eq_true rfl) (Nat.le_refl _) (c_X9_nameOf (by omega)) (fun z15 σ15 h15 => ?_)
    obtain ⟨hz2, hs15⟩ := h15
    subst σ15
    rw [hsn] at hz2
    refine z_callVV (d := k + 3) (av := [_, _]) dX9_operand_18 vX9_215 rfl (Nat.le_of_ble_eq_true rfl) rfl rfl rfl (Nat.le_of_ble_eq_true rfl) (Nat.le_refl _) (c_X9_addStep (by omega) ⟨by decide, by decide⟩ (by omega)) (fun σ18 h18 => ?_)
    subst h18
    refine z_aload_n dX9_operand_21 rfl ?_
    refine z_dup dX9_operand_22 rfl ?_
    refine z_getI dX9_operand_23 gX9_196 rfl (Nat.le_of_ble_eq_true rfl) rfl (fun hr23 => ?_)
    try simp only [z_rd, Nat.reduceEqDiff, ↓reduceIte, eq_self] at hr23 ⊢
    rw [show amS σ 2 z15 9 22 = σ 9 22 from amS_f (by decide)]
    refine z_iconst dX9_operand_26 ?_
    refine z_iadd dX9_operand_27 ?_
    refine z_putI dX9_operand_28 pX9_196 rfl (Nat.le_of_ble_eq_true rfl) rfl ⟨by omega, by omega⟩ ?_
    refine z_goto (tgt := 154) dX9_operand_31 (by decide) ?_
    exact z_vret dX9_operand_154 (by
      first
        | (have hneg : nmF (nbF T n (σ 9 22)) < 0 := by omega
           have hlt2 := hlt (fun q => by rw [q] at hneg; exact absurd hneg (by decide))
           rw [if_neg (by rw [nm_nd hneg]; exact Bool.false_ne_true), if_pos hneg]
           have h1 := rmP.add (c := nmF (nbF T n (σ 9 22))) (w := 2) (v := z15) k25.1 (rmP.rf (nb := nbF T n) (B := 0) k23) (by rw [aOf, if_neg (by omega), if_pos (by omega)]; decide) (by rw [wOf, if_neg (by omega), if_pos (by omega)]; exact hz2)
           have e23 : amS σ 2 z15 9 23 = -1 := by rw [amS_f (by decide)]; exact k23
           have h2 := h1.at (a := σ 9 22 + 1) e23
           exact h2.okB e23)
        | (obtain ⟨n1, n2⟩ := nm_33 (s := nbF T n (σ 9 22)) (by omega)
           rw [if_neg n2, if_neg n1, if_neg (by omega), if_pos (by omega), if_pos (by omega : nbF T n (σ 9 22) = 33)]
           have hu := rmP.add (c := -33) (w := 3) (v := 0) k25.1 hr.opn (by decide) (by decide)
           by_cases g1 : (rd (nbF T n) k 5 (σ 9 24 + 1) (σ 9 22 + 1)).1 = true
           · rw [if_pos g1] at hu ⊢; exact hu.wk (by simp only; omega)
           · rw [if_neg g1] at hu ⊢; exact hu.wk (by simp only; omega))
        | (obtain ⟨n1, n2⟩ := nm_33 (s := nbF T n (σ 9 22)) (by omega)
           rw [if_neg n2, if_neg n1, if_neg (by omega), if_pos (by omega), if_neg (by omega : ¬ nbF T n (σ 9 22) = 33)]
           have hu := rmP.add (c := -126) (w := 4) (v := 0) k25.1 hr.opn (by decide) (by decide)
           by_cases g1 : (rd (nbF T n) k 5 (σ 9 24 + 1) (σ 9 22 + 1)).1 = true
           · rw [if_pos g1] at hu ⊢; exact hu.wk (by simp only; omega)
           · rw [if_neg g1] at hu ⊢; exact hu.wk (by simp only; omega))
        | (obtain ⟨n1, n2⟩ := nm_33 (s := nbF T n (σ 9 22)) (by omega)
           rw [if_neg n2, if_neg n1, if_neg (by omega), if_neg (by omega), if_pos (by omega), if_pos hb.1, if_pos (by omega)]
           have h1 := hr.at (a := (rd (nbF T n) k 0 (σ 9 24 + 1) (σ 9 22 + 1)).2.1 + 1) hf
           have h2 := h1.opn
           rw [← e22] at h2
           rw [← e22]
           exact h2.okB hf)
        | (have hn : ¬ nmF (nbF T n (σ 9 22)) < 0 := by omega
           by_cases hd : isD (nbF T n (σ 9 22)) = true
           · rw [if_pos hd] at h151 ⊢
             rw [if_pos hd] at h151
             exact h151
           · rw [if_neg hd, if_neg hd] at h151
             rw [if_neg hd, if_neg hn, if_neg (by omega : ¬ (nbF T n (σ 9 22) = 33 ∨ nbF T n (σ 9 22) = 45)), if_neg (by omega : ¬ nbF T n (σ 9 22) = 40), ite_self]
             exact h151))
theorem rm_all {T : Nat → Int} {n : Int} : ∀ (k : Nat) (σ : Sto), rmB T n σ →
    ((6 - σ 9 24) * 6 + 6 ≤ k → mdC T n yX9_either cX9_either 1 0 k σ) ∧ ((6 - σ 9 24) * 6 + 5 ≤ k → mdC T n yX9_both cX9_both 1 1 k σ) ∧ ((6 - σ 9 24) * 6 + 4 ≤ k → mdC T n yX9_compared cX9_compared 2 2 k σ) ∧ ((6 - σ 9 24) * 6 + 3 ≤ k → mdC T n yX9_sum cX9_sum 2 3 k σ) ∧ ((6 - σ 9 24) * 6 + 2 ≤ k → mdC T n yX9_product cX9_product 2 4 k σ) ∧ ((6 - σ 9 24) * 6 + 1 ≤ k → mdC T n yX9_operand cX9_operand 2 5 k σ)
  | 0, σ, hB => by
    have := hB.2.2.2.2
    exact ⟨fun h => absurd h (by omega), fun h => absurd h (by omega), fun h => absurd h (by omega), fun h => absurd h (by omega), fun h => absurd h (by omega), fun h => absurd h (by omega)⟩
  | k + 1, σ, hB => by
    have ih := rm_all k (T := T) (n := n)
    exact ⟨fun h => c_X9_either hB (fun τ g e => (ih τ g).2.1 (by omega)), fun h => c_X9_both hB (fun τ g e => (ih τ g).2.2.1 (by omega)), fun h => c_X9_compared hB (fun τ g e => (ih τ g).2.2.2.1 (by omega)), fun h => c_X9_sum hB (fun τ g e => (ih τ g).2.2.2.2.1 (by omega)), fun h => c_X9_product hB (fun τ g e => (ih τ g).2.2.2.2.2 (by omega)), fun h => c_X9_operand hB (fun τ g e => (ih τ g).2.2.2.2.2 (by omega)) (fun τ g e => (ih τ g).1 (by omega))⟩
theorem c_X9_either0 {T : Nat → Int} {n : Int} {σ : Sto} (hB : rmB T n σ) (h24 : σ 9 24 = 0) : Does 51 yX9_either cX9_either 1 none [zR 9] σ (qV fun σ' => rmP (nbF T n) (σ 9 25 + ((rd0 (nbF T n) (σ 9 22)).2.1 - σ 9 22) + 1) 0 σ (rd0 (nbF T n) (σ 9 22)) σ') := by
  have h := (rm_all 48 σ hB).1 (by omega)
  unfold mdC at h
  rw [h24] at h
  exact h
