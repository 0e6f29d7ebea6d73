/-! ===== the reference's lines ===== -/
theorem i2s_id : ∀ x : Nat, x < 256 → z_i2sF (x : Int) = x := by decide +kernel
theorem i2s2 {x : Int} (h : 0 ≤ x ∧ x < 256) : z_i2sF (z_i2sF x) = x := by
  have := i2s_id x.toNat (by omega)
  rw [show ((x.toNat : Nat) : Int) = x by omega] at this
  rw [this, this]
/-- behind one line of the reference's, the m-th -/
def rlM (nb : Int → Int) (σ : Sto) (m : Int) (r : Bool × Int × LN) (τ : Sto) : Prop :=
  (∀ a, a ≠ 9 → a ≠ 96 → a ≠ 97 → a ≠ 98 → a ≠ 99 → a ≠ 100 → τ a = σ a) ∧ (∀ j, j ≠ 22 → j ≠ 23 → j ≠ 24 → j ≠ 25 → τ 9 j = σ 9 j) ∧ (∀ j, j < 130 → τ 96 j = σ 96 j ∧ τ 97 j = σ 97 j) ∧ (τ 98 0 = σ 98 0 ∧ τ 98 1 = m + 1) ∧ (∀ j, j ≠ (61 + m).toNat → τ 99 j = σ 99 j ∧ τ 100 j = σ 100 j) ∧
  ((r.1 = true ∧ τ 9 23 = -1 ∧ τ 9 22 = r.2.1 ∧ τ 9 24 = 0 ∧ τ 9 25 = σ 9 25 + r.2.2.1.length + r.2.2.2.length ∧ (∀ j : Nat, (j : Int) < 130 + σ 9 25 → τ 96 j = σ 96 j ∧ τ 97 j = σ 97 j) ∧ Seg τ 96 (130 + (σ 9 25).toNat) ((r.2.2.1 ++ r.2.2.2).map aOf) ∧ Seg τ 97 (130 + (σ 9 25).toNat) ((r.2.2.1 ++ r.2.2.2).map wOf) ∧ τ 99 (61 + m).toNat = σ 9 25 + r.2.2.1.length ∧ τ 100 (61 + m).toNat = σ 9 25 + r.2.2.1.length + r.2.2.2.length)
  ∨ ((r.1 = true → isD (nb r.2.1) = true) ∧ τ 9 23 = r.2.1 ∧ 0 ≤ r.2.1 ∧ (0 ≤ τ 9 22 ∧ τ 9 22 ≤ 120)))
theorem rlM.of1 {nb : Int → Int} {B m x y : Int} {σ τ : Sto} {r : RT} (hm : 0 ≤ m) (h0 : 0 ≤ σ 9 25) (h : rmP nb B 0 (z_put σ 99 (61 + m).toNat x) r τ) (hx : x = σ 9 25) (hy : τ 9 23 = -1 → y = τ 9 25) : rlM nb σ m (r.1, r.2.1, ([], r.2.2)) (z_put (z_put τ 100 (61 + m).toNat y) 98 1 (m + 1)) := by
  obtain ⟨⟨s1, s2, s3⟩, h2⟩ := h
  refine ⟨fun a b1 b2 b3 b4 b5 b6 => ?_, fun j b1 b2 b3 b4 => ?_, fun j hj => ⟨?_, ?_⟩, ⟨?_, ?_⟩, fun j hj => ⟨?_, ?_⟩, ?_⟩
  · rw [z_put_ne b4, z_put_ne b6, s1 a b1 b2 b3, z_put_ne b5]
  · rw [z_put_ne (by decide), z_put_ne (by decide), s2 j b1 b2 b3 b4, z_put_ne (by decide)]
  · rw [z_put_ne (by decide), z_put_ne (by decide), (s3 j hj).1, z_put_ne (by decide)]
  · rw [z_put_ne (by decide), z_put_ne (by decide), (s3 j hj).2, z_put_ne (by decide)]
  · rw [z_rd, if_pos rfl, if_neg (by decide), z_put_ne (by decide), s1 98 (by decide) (by decide) (by decide), z_put_ne (by decide)]
  · rw [z_rd, if_pos rfl, if_pos rfl]
  · rw [z_put_ne (by decide), z_put_ne (by decide), s1 99 (by decide) (by decide) (by decide), z_rd, if_pos rfl, if_neg hj]
  · rw [z_put_ne (by decide), z_rd, if_pos rfl, if_neg hj, s1 100 (by decide) (by decide) (by decide), z_put_ne (by decide)]
  · rcases h2 with ⟨q1, q2, q3, q4, q5, q6, q7, q8⟩ | ⟨q1, q2, q3, q4, q5, q6⟩
    · have q5 : τ 9 25 = σ 9 25 + r.2.2.length := q5
      refine Or.inl ⟨q1, q2, q3, q4, ?_, fun j hj => ?_, ?_, ?_, ?_, ?_⟩
      · rw [z_put_ne (by decide), z_put_ne (by decide), q5]; simp
      · have := q6 j hj
        exact ⟨by rw [z_put_ne (by decide), z_put_ne (by decide), this.1, z_put_ne (by decide)], by rw [z_put_ne (by decide), z_put_ne (by decide), this.2, z_put_ne (by decide)]⟩
      · exact Seg.row (by rw [z_put_ne (by decide), z_put_ne (by decide)]) q7
      · exact Seg.row (by rw [z_put_ne (by decide), z_put_ne (by decide)]) q8
      · rw [z_put_ne (by decide), z_put_ne (by decide), s1 99 (by decide) (by decide) (by decide), z_rd, if_pos rfl, if_pos rfl, hx]; simp
      · rw [z_put_ne (by decide), z_rd, if_pos rfl, if_pos rfl, hy q2, q5]; simp
    · exact Or.inr ⟨q1, q2, q3, q4⟩
theorem rlM.of2 {nb : Int → Int} {B B' m x x' y a : Int} {σ τ υ : Sto} {r r' : RT} (hm : 0 ≤ m) (h0 : 0 ≤ σ 9 25) (h : rmP nb B 0 (z_put σ 99 (61 + m).toNat x) r τ) (hf : τ 9 23 = -1) (h' : rmP nb B' 0 (z_put (z_put τ 9 22 a) 99 (61 + m).toNat x') r' υ) (hx' : x' = τ 9 25) (hy : υ 9 23 = -1 → y = υ 9 25) : rlM nb σ m (r'.1, r'.2.1, (r.2.2, r'.2.2)) (z_put (z_put υ 100 (61 + m).toNat y) 98 1 (m + 1)) := by
  obtain ⟨⟨s1, s2, s3⟩, h2⟩ := h
  obtain ⟨⟨t1, t2, t3⟩, h2'⟩ := h'
  rcases h2 with ⟨p1, p2, p3, p4, p5, p6, p7, p8⟩ | p
  · have p5 : τ 9 25 = σ 9 25 + r.2.2.length := p5
    have p7 : Seg τ 96 (130 + (σ 9 25).toNat) (r.2.2.map aOf) := p7
    have p8 : Seg τ 97 (130 + (σ 9 25).toNat) (r.2.2.map wOf) := p8
    refine ⟨fun a b1 b2 b3 b4 b5 b6 => ?_, fun j b1 b2 b3 b4 => ?_, fun j hj => ⟨?_, ?_⟩, ⟨?_, ?_⟩, fun j hj => ⟨?_, ?_⟩, ?_⟩
    · rw [z_put_ne b4, z_put_ne b6, t1 a b1 b2 b3, z_put_ne b5, z_put_ne b1, s1 a b1 b2 b3, z_put_ne b5]
    · rw [z_put_ne (by decide), z_put_ne (by decide), t2 j b1 b2 b3 b4, z_put_ne (by decide), z_rd, if_pos rfl, if_neg b1, s2 j b1 b2 b3 b4, z_put_ne (by decide)]
    · rw [z_put_ne (by decide), z_put_ne (by decide), (t3 j hj).1, z_put_ne (by decide), z_put_ne (by decide), (s3 j hj).1, z_put_ne (by decide)]
    · rw [z_put_ne (by decide), z_put_ne (by decide), (t3 j hj).2, z_put_ne (by decide), z_put_ne (by decide), (s3 j hj).2, z_put_ne (by decide)]
    · rw [z_rd, if_pos rfl, if_neg (by decide), z_put_ne (by decide), t1 98 (by decide) (by decide) (by decide), z_put_ne (by decide), z_put_ne (by decide), s1 98 (by decide) (by decide) (by decide), z_put_ne (by decide)]
    · rw [z_rd, if_pos rfl, if_pos rfl]
    · rw [z_put_ne (by decide), z_put_ne (by decide), t1 99 (by decide) (by decide) (by decide), z_rd, if_pos rfl, if_neg hj, z_put_ne (by decide), s1 99 (by decide) (by decide) (by decide), z_rd, if_pos rfl, if_neg hj]
    · rw [z_put_ne (by decide), z_rd, if_pos rfl, if_neg hj, t1 100 (by decide) (by decide) (by decide), z_put_ne (by decide), z_put_ne (by decide), s1 100 (by decide) (by decide) (by decide), z_put_ne (by decide)]
    · rcases h2' with ⟨q1, q2, q3, q4, q5, q6, q7, q8⟩ | ⟨q1, q2, q3, q4, q5, q6⟩
      · have q5 : υ 9 25 = τ 9 25 + r'.2.2.length := q5
        have q6 : ∀ j : Nat, (j : Int) < 130 + τ 9 25 → υ 96 j = τ 96 j ∧ υ 97 j = τ 97 j := fun j hj => by
          have := q6 j hj
          rw [z_put_ne (by decide), z_put_ne (by decide), z_put_ne (by decide), z_put_ne (by decide)] at this
          exact this
        have q7 : Seg υ 96 (130 + (τ 9 25).toNat) (r'.2.2.map aOf) := q7
        have q8 : Seg υ 97 (130 + (τ 9 25).toNat) (r'.2.2.map wOf) := q8
        have e : 130 + (τ 9 25).toNat = 130 + (σ 9 25).toNat + r.2.2.length := by omega
        refine Or.inl ⟨q1, q2, q3, q4, ?_, fun j hj => ?_, ?_, ?_, ?_, ?_⟩
        · rw [z_put_ne (by decide), z_put_ne (by decide), q5, p5]
        · have hp := p6 j hj
          rw [z_put_ne (by decide), z_put_ne (by decide)] at hp
          have hq := q6 j (by omega)
          exact ⟨by rw [z_put_ne (by decide), z_put_ne (by decide), hq.1, hp.1], by rw [z_put_ne (by decide), z_put_ne (by decide), hq.2, hp.2]⟩
        · refine Seg.row (σ := υ) (by rw [z_put_ne (by decide), z_put_ne (by decide)]) ?_
          rw [List.map_append]
          refine Seg.app (Seg.cong (fun j b c => (q6 j (by simp only [List.length_map] at c; omega)).1) p7) ?_
          rw [List.length_map, ← e]; exact q7
        · refine Seg.row (σ := υ) (by rw [z_put_ne (by decide), z_put_ne (by decide)]) ?_
          rw [List.map_append]
          refine Seg.app (Seg.cong (fun j b c => (q6 j (by simp only [List.length_map] at c; omega)).2) p8) ?_
          rw [List.length_map, ← e]; exact q8
        · rw [z_put_ne (by decide), z_put_ne (by decide), t1 99 (by decide) (by decide) (by decide), z_rd, if_pos rfl, if_pos rfl, hx', p5]
        · rw [z_put_ne (by decide), z_rd, if_pos rfl, if_pos rfl, hy q2, q5, p5]
      · exact Or.inr ⟨q1, q2, q3, q4⟩
  · exfalso; have := p.2.1; have := p.2.2.1; omega
theorem rlM.fl {nb : Int → Int} {m : Int} {σ τ : Sto} {r : Bool × Int × LN} (h : rlM nb σ m r τ) (hr : r.1 = false) : rlM nb σ m (false, r.2.1, ([], [])) τ := by
  obtain ⟨h1, h2, h3, h4, h5, h6⟩ := h
  refine ⟨h1, h2, h3, h4, h5, ?_⟩
  rcases h6 with q | q
  · exact tnf (q.1.symm.trans hr)
  · exact Or.inr ⟨fun w => tnf w.symm, q.2⟩
set_option maxRecDepth 20000 in
set_option maxHeartbeats 1000000 in
theorem c_X9_line {T : Nat → Int} {n m : Int} {σ : Sto} (hB : rmB T n σ) (h24 : σ 9 24 = 0) (hm : 0 ≤ m ∧ m ≤ 60) (h98 : σ 98 1 = m) : Does 52 yX9_line cX9_line 2 none [zR 9] σ (qV fun σ' => rlM (nbF T n) σ m (rdl (nbF T n) (σ 9 22)) σ') := by
  obtain ⟨ht, k23, k22, k25, k24⟩ := id hB
  obtain ⟨tn, t21, tT, t95⟩ := id ht
  have e2 := i2s2 (x := σ 9 25) (by omega)
  have hro : rdOk n (σ 9 22) (rd0 (nbF T n) (σ 9 22)) := rd_R (T := T) (n := n) 48 0 0 (σ 9 22) (by omega) (by omega) (by omega)
  have hro1 := hro.1
  have hro2 := hro.2.1
  refine z_does (L := [some (zR 9), none]) rfl (by decide +kernel) (Nat.le_of_ble_eq_true rfl) rfl ?_
  refine z_bipush (v := 61) dX9_line_0 (by decide +kernel) ?_
  refine z_aload_n dX9_line_2 rfl ?_
  refine z_getR dX9_line_3 gX9_65 rfl (Nat.le_of_ble_eq_true rfl) rfl ?_
  refine z_iconst dX9_line_6 ?_
  refine z_iald dX9_line_7 rfl (Nat.le_of_ble_eq_true rfl) (by omega) (fun hr7 => ?_)
  rw [show σ 98 (1 : Int).toNat = m from h98]
  refine z_iadd dX9_line_8 ?_
  refine z_istore_n (L' := [_, _]) dX9_line_9 (Nat.le_of_ble_eq_true rfl) rfl rfl ?_
  refine z_aload_n dX9_line_10 rfl ?_
  refine z_getR dX9_line_11 gX9_68 rfl (Nat.le_of_ble_eq_true rfl) rfl ?_
  refine z_iload_n dX9_line_14 rfl ?_
  refine z_aload_n dX9_line_15 rfl ?_
  refine z_getI dX9_line_16 gX9_202 rfl (Nat.le_of_ble_eq_true rfl) rfl (fun hr16 => ?_)
  refine z_i2s dX9_line_19 ?_
  refine z_sast dX9_line_20 rfl (Nat.le_of_ble_eq_true rfl) (by omega) ?_
  rw [e2]
  have hBs : rmB T n (z_put σ 99 (61 + m).toNat (σ 9 25)) := ⟨⟨tn, t21, tT, fun j => by rw [z_put_ne (by decide)]; exact t95 j⟩, k23, k22, k25, k24⟩
  refine z_aload_n dX9_line_21 rfl ?_
  refine z_callVV (d := 51) (av := []) dX9_line_22 vX9_230 rfl (Nat.le_of_ble_eq_true rfl) rfl rfl rfl (Nat.le_of_ble_eq_true rfl) (Nat.le_refl _) (c_X9_either0 hBs h24) (fun σ22 h22 => ?_)
  have hr : rmP (nbF T n) (σ 9 25 + ((rd0 (nbF T n) (σ 9 22)).2.1 - σ 9 22) + 1) 0 (z_put σ 99 (61 + m).toNat (σ 9 25)) (rd0 (nbF T n) (σ 9 22)) σ22 := h22
  have hlb : 0 ≤ σ22 9 25 ∧ σ22 9 25 ≤ (rd0 (nbF T n) (σ 9 22)).2.1 + 1 := hr.lb hro k25
  have e3 := i2s2 (x := σ22 9 25) (by omega)
  have t22 := hr.1.tp hBs.1
  have e98 : σ22 98 1 = m := by rw [hr.1.1 98 (by decide) (by decide) (by decide), z_put_ne (by decide)]; exact h98
  refine z_aload_n dX9_line_25 rfl ?_
  refine z_getI dX9_line_26 gX9_199 rfl (Nat.le_of_ble_eq_true rfl) rfl (fun hr26 => ?_)
  refine z_if_ge (tgt := 66) dX9_line_29 (by decide) ⟨by omega, by omega⟩ (fun h29 => ?_) (fun h29 => ?_)
  · skip
    refine z_aload_n dX9_line_66 rfl ?_
    refine z_getR dX9_line_67 gX9_72 rfl (Nat.le_of_ble_eq_true rfl) rfl ?_
    refine z_iload_n dX9_line_70 rfl ?_
    refine z_aload_n dX9_line_71 rfl ?_
    refine z_getI dX9_line_72 gX9_202 rfl (Nat.le_of_ble_eq_true rfl) rfl (fun hr72 => ?_)
    refine z_i2s dX9_line_75 ?_
    refine z_sast dX9_line_76 rfl (Nat.le_of_ble_eq_true rfl) (by omega) ?_
    first | rw [e4] | rw [e3]
    refine z_aload_n dX9_line_77 rfl ?_
    refine z_getR dX9_line_78 gX9_65 rfl (Nat.le_of_ble_eq_true rfl) rfl ?_
    refine z_iconst dX9_line_81 ?_
    refine z_dup2 dX9_line_82 rfl rfl ?_
    refine z_iald dX9_line_83 rfl (Nat.le_of_ble_eq_true rfl) (by omega) (fun hr83 => ?_)
    try simp only [z_rd, Nat.reduceEqDiff, ↓reduceIte, eq_self] at hr83 ⊢
    first | rw [show σ63 98 (1 : Int).toNat = m from e98b] | rw [show σ22 98 (1 : Int).toNat = m from e98]
    refine z_iconst dX9_line_84 ?_
    refine z_iadd dX9_line_85 ?_
    refine z_iast dX9_line_86 rfl (Nat.le_of_ble_eq_true rfl) (by omega) ⟨by omega, by omega⟩ ?_
    exact z_vret dX9_line_87 (by
      unfold rdl
      first
        | (rw [if_pos hb.1, if_pos (by omega)]
           have hq := rlM.of2 (y := σ63 9 25) hm.1 k25.1 hr hf hr2 rfl (fun _ => rfl)
           by_cases g1 : (rd0 (nbF T n) ((rd0 (nbF T n) (σ 9 22)).2.1 + 1)).1 = true
           · rw [if_pos g1]; simp only [g1] at hq; exact hq
           · rw [if_neg g1]; exact hq.fl (by simpa using g1))
        | (rw [if_pos hb.1, if_neg (by omega)]
           have hq := rlM.of1 (y := σ22 9 25) hm.1 k25.1 hr rfl (fun _ => rfl)
           simp only [hb.1] at hq
           exact hq)
        | (have hq := rlM.of1 (y := σ22 9 25) hm.1 k25.1 hr rfl (fun _ => rfl)
           by_cases g1 : (rd0 (nbF T n) (σ 9 22)).1 = true
           · have hdg : isD (nbF T n (rd0 (nbF T n) (σ 9 22)).2.1) = true := by rcases hr.2 with q | q; exfalso; have := q.2.1; omega; exact q.1 g1
             have h4 : 48 ≤ nbF T n (rd0 (nbF T n) (σ 9 22)).2.1 ∧ nbF T n (rd0 (nbF T n) (σ 9 22)).2.1 ≤ 57 := of_decide_eq_true hdg
             rw [if_pos g1, if_neg (by omega)]
             simp only [g1] at hq
             exact hq
           · rw [if_neg g1]; exact hq.fl (by simpa using g1)))
  · skip
    have hf : σ22 9 23 = -1 := by rcases hr.2 with q | q; exact q.2.1; exfalso; have := q.2.1; have := q.2.2.1; omega
    have hb := hr.bad hf
    have e22 : σ22 9 22 = (rd0 (nbF T n) (σ 9 22)).2.1 := hb.2.1
    have hsb := sbF_c (nbF T n (rd0 (nbF T n) (σ 9 22)).2.1)
    have hbR := nbF_R (T := T) (n := n) (a := (rd0 (nbF T n) (σ 9 22)).2.1) tT
    refine z_aload_n dX9_line_32 rfl ?_
    refine z_callVI (d := 51) (av := []) dX9_line_33 vX9_211 rfl (Nat.le_of_ble_eq_true rfl) rfl rfl rfl (Nat.le_of_ble_eq_true rfl) (Nat.le_refl _) (c_X9_look t22 (by omega)) (fun z33 σ33 h33 => ?_)
    obtain ⟨hs33, hz⟩ := h33
    subst σ33
    rw [e22] at hz
    subst hz
    refine z_bipush (v := 63) dX9_line_36 (by decide +kernel) ?_
    refine z_icmp_ne (tgt := 66) dX9_line_38 (by decide) ⟨by omega, by omega⟩ ⟨by omega, by omega⟩ (fun h38 => ?_) (fun h38 => ?_)
    · skip
      refine z_aload_n dX9_line_66 rfl ?_
      refine z_getR dX9_line_67 gX9_72 rfl (Nat.le_of_ble_eq_true rfl) rfl ?_
      refine z_iload_n dX9_line_70 rfl ?_
      refine z_aload_n dX9_line_71 rfl ?_
      refine z_getI dX9_line_72 gX9_202 rfl (Nat.le_of_ble_eq_true rfl) rfl (fun hr72 => ?_)
      refine z_i2s dX9_line_75 ?_
      refine z_sast dX9_line_76 rfl (Nat.le_of_ble_eq_true rfl) (by omega) ?_
      first | rw [e4] | rw [e3]
      refine z_aload_n dX9_line_77 rfl ?_
      refine z_getR dX9_line_78 gX9_65 rfl (Nat.le_of_ble_eq_true rfl) rfl ?_
      refine z_iconst dX9_line_81 ?_
      refine z_dup2 dX9_line_82 rfl rfl ?_
      refine z_iald dX9_line_83 rfl (Nat.le_of_ble_eq_true rfl) (by omega) (fun hr83 => ?_)
      try simp only [z_rd, Nat.reduceEqDiff, ↓reduceIte, eq_self] at hr83 ⊢
      first | rw [show σ63 98 (1 : Int).toNat = m from e98b] | rw [show σ22 98 (1 : Int).toNat = m from e98]
      refine z_iconst dX9_line_84 ?_
      refine z_iadd dX9_line_85 ?_
      refine z_iast dX9_line_86 rfl (Nat.le_of_ble_eq_true rfl) (by omega) ⟨by omega, by omega⟩ ?_
      exact z_vret dX9_line_87 (by
        unfold rdl
        first
          | (rw [if_pos hb.1, if_pos (by omega)]
             have hq := rlM.of2 (y := σ63 9 25) hm.1 k25.1 hr hf hr2 rfl (fun _ => rfl)
             by_cases g1 : (rd0 (nbF T n) ((rd0 (nbF T n) (σ 9 22)).2.1 + 1)).1 = true
             · rw [if_pos g1]; simp only [g1] at hq; exact hq
             · rw [if_neg g1]; exact hq.fl (by simpa using g1))
          | (rw [if_pos hb.1, if_neg (by omega)]
             have hq := rlM.of1 (y := σ22 9 25) hm.1 k25.1 hr rfl (fun _ => rfl)
             simp only [hb.1] at hq
             exact hq)
          | (have hq := rlM.of1 (y := σ22 9 25) hm.1 k25.1 hr rfl (fun _ => rfl)
             by_cases g1 : (rd0 (nbF T n) (σ 9 22)).1 = true
             · have hdg : isD (nbF T n (rd0 (nbF T n) (σ 9 22)).2.1) = true := by rcases hr.2 with q | q; exfalso; have := q.2.1; omega; exact q.1 g1
               have h4 : 48 ≤ nbF T n (rd0 (nbF T n) (σ 9 22)).2.1 ∧ nbF T n (rd0 (nbF T n) (σ 9 22)).2.1 ≤ 57 := of_decide_eq_true hdg
               rw [if_pos g1, if_neg (by omega)]
               simp only [g1] at hq
               exact hq
             · rw [if_neg g1]; exact hq.fl (by simpa using g1)))
    · skip
      refine z_aload_n dX9_line_41 rfl ?_
      refine z_dup dX9_line_42 rfl ?_
      refine z_getI dX9_line_43 gX9_196 rfl (Nat.le_of_ble_eq_true rfl) rfl (fun hr43 => ?_)
      refine z_iconst dX9_line_46 ?_
      refine z_iadd dX9_line_47 ?_
      refine z_putI dX9_line_48 pX9_196 rfl (Nat.le_of_ble_eq_true rfl) rfl ⟨by omega, by omega⟩ ?_
      refine z_aload_n dX9_line_51 rfl ?_
      refine z_getR dX9_line_52 gX9_68 rfl (Nat.le_of_ble_eq_true rfl) rfl ?_
      refine z_iload_n dX9_line_55 rfl ?_
      refine z_aload_n dX9_line_56 rfl ?_
      refine z_getI dX9_line_57 gX9_202 rfl (Nat.le_of_ble_eq_true rfl) rfl (fun hr57 => ?_)
      try simp only [z_rd, Nat.reduceEqDiff, ↓reduceIte, eq_self] at hr57 ⊢
      refine z_i2s dX9_line_60 ?_
      refine z_sast dX9_line_61 rfl (Nat.le_of_ble_eq_true rfl) (by omega) ?_
      rw [e3]
      have hlt := nbF_lt (T := T) (n := n) (a := (rd0 (nbF T n) (σ 9 22)).2.1) (by omega)
      rw [e22]
      have hBt : rmB T n (z_put (z_put σ22 9 22 ((rd0 (nbF T n) (σ 9 22)).2.1 + 1)) 99 (61 + m).toNat (σ22 9 25)) := ⟨⟨tn, t22.2.1, tT, fun j => by rw [z_put_ne (by decide), z_put_ne (by decide)]; exact t22.2.2.2 j⟩, hf, (show 0 ≤ (rd0 (nbF T n) (σ 9 22)).2.1 + 1 ∧ (rd0 (nbF T n) (σ 9 22)).2.1 + 1 ≤ n by omega), (show 0 ≤ σ22 9 25 ∧ σ22 9 25 ≤ (rd0 (nbF T n) (σ 9 22)).2.1 + 1 by omega), (show 0 ≤ σ22 9 24 ∧ σ22 9 24 ≤ 6 by have := hb.2.2.1; omega)⟩
      refine z_aload_n dX9_line_62 rfl ?_
      refine z_callVV (d := 51) (av := []) dX9_line_63 vX9_230 rfl (Nat.le_of_ble_eq_true rfl) rfl rfl rfl (Nat.le_of_ble_eq_true rfl) (Nat.le_refl _) (c_X9_either0 hBt hb.2.2.1) (fun σ63 h63 => ?_)
      have hr2 : rmP (nbF T n) (σ22 9 25 + ((rd0 (nbF T n) ((rd0 (nbF T n) (σ 9 22)).2.1 + 1)).2.1 - ((rd0 (nbF T n) (σ 9 22)).2.1 + 1)) + 1) 0 (z_put (z_put σ22 9 22 ((rd0 (nbF T n) (σ 9 22)).2.1 + 1)) 99 (61 + m).toNat (σ22 9 25)) (rd0 (nbF T n) ((rd0 (nbF T n) (σ 9 22)).2.1 + 1)) σ63 := h63
      have hroB : rdOk n ((rd0 (nbF T n) (σ 9 22)).2.1 + 1) (rd0 (nbF T n) ((rd0 (nbF T n) (σ 9 22)).2.1 + 1)) := rd_R (T := T) (n := n) 48 0 0 ((rd0 (nbF T n) (σ 9 22)).2.1 + 1) (by omega) (by omega) (by omega)
      have hroB1 := hroB.1
      have hroB2 := hroB.2.1
      have hlbB : 0 ≤ σ63 9 25 ∧ σ63 9 25 ≤ (rd0 (nbF T n) ((rd0 (nbF T n) (σ 9 22)).2.1 + 1)).2.1 + 1 := hr2.lb hroB (show 0 ≤ σ22 9 25 ∧ σ22 9 25 ≤ (rd0 (nbF T n) (σ 9 22)).2.1 + 1 by omega)
      have e4 := i2s2 (x := σ63 9 25) (by omega)
      have e98b : σ63 98 1 = m := by rw [hr2.1.1 98 (by decide) (by decide) (by decide), z_put_ne (by decide), z_put_ne (by decide)]; exact e98
      refine z_aload_n dX9_line_66 rfl ?_
      refine z_getR dX9_line_67 gX9_72 rfl (Nat.le_of_ble_eq_true rfl) rfl ?_
      refine z_iload_n dX9_line_70 rfl ?_
      refine z_aload_n dX9_line_71 rfl ?_
      refine z_getI dX9_line_72 gX9_202 rfl (Nat.le_of_ble_eq_true rfl) rfl (fun hr72 => ?_)
      refine z_i2s dX9_line_75 ?_
      refine z_sast dX9_line_76 rfl (Nat.le_of_ble_eq_true rfl) (by omega) ?_
      first | rw [e4] | rw [e3]
      refine z_aload_n dX9_line_77 rfl ?_
      refine z_getR dX9_line_78 gX9_65 rfl (Nat.le_of_ble_eq_true rfl) rfl ?_
      refine z_iconst dX9_line_81 ?_
      refine z_dup2 dX9_line_82 rfl rfl ?_
      refine z_iald dX9_line_83 rfl (Nat.le_of_ble_eq_true rfl) (by omega) (fun hr83 => ?_)
      try simp only [z_rd, Nat.reduceEqDiff, ↓reduceIte, eq_self] at hr83 ⊢
      first | rw [show σ63 98 (1 : Int).toNat = m from e98b] | rw [show σ22 98 (1 : Int).toNat = m from e98]
      refine z_iconst dX9_line_84 ?_
      refine z_iadd dX9_line_85 ?_
      refine z_iast dX9_line_86 rfl (Nat.le_of_ble_eq_true rfl) (by omega) ⟨by omega, by omega⟩ ?_
      exact z_vret dX9_line_87 (by
        unfold rdl
        first
          | (rw [if_pos hb.1, if_pos (by omega)]
             have hq := rlM.of2 (y := σ63 9 25) hm.1 k25.1 hr hf hr2 rfl (fun _ => rfl)
             by_cases g1 : (rd0 (nbF T n) ((rd0 (nbF T n) (σ 9 22)).2.1 + 1)).1 = true
             · rw [if_pos g1]; simp only [g1] at hq; exact hq
             · rw [if_neg g1]; exact hq.fl (by simpa using g1))
          | (rw [if_pos hb.1, if_neg (by omega)]
             have hq := rlM.of1 (y := σ22 9 25) hm.1 k25.1 hr rfl (fun _ => rfl)
             simp only [hb.1] at hq
             exact hq)
          | (have hq := rlM.of1 (y := σ22 9 25) hm.1 k25.1 hr rfl (fun _ => rfl)
             by_cases g1 : (rd0 (nbF T n) (σ 9 22)).1 = true
             · have hdg : isD (nbF T n (rd0 (nbF T n) (σ 9 22)).2.1) = true := by rcases hr.2 with q | q; exfalso; have := q.2.1; omega; exact q.1 g1
               have h4 : 48 ≤ nbF T n (rd0 (nbF T n) (σ 9 22)).2.1 ∧ nbF T n (rd0 (nbF T n) (σ 9 22)).2.1 ≤ 57 := of_decide_eq_true hdg
               rw [if_pos g1, if_neg (by omega)]
               simp only [g1] at hq
               exact hq
             · rw [if_neg g1]; exact hq.fl (by simpa using g1)))
