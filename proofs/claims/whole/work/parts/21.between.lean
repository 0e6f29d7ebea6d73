/-! ===== Search: said between ===== -/
theorem Seg.of {σ : Sto} {k : Nat} : ∀ {X : List Int} {i : Nat}, (∀ j, j < X.length → σ k (i + j) = X.getD j 0) → Seg σ k i X
  | [], _, _ => trivial
  | w :: r, i, h => ⟨by have := h 0 (by simp); simpa using this, Seg.of (fun j hj => by have := h (j + 1) (by rw [List.length_cons]; omega); rw [show i + 1 + j = i + (j + 1) by omega, this]; rfl)⟩
theorem Seg.take {σ : Sto} {k : Nat} {X : List Int} (n : Nat) (h : Seg σ k 0 X) : Seg σ k 0 (X.take n) := Seg.of (fun j hj => by
  rw [List.length_take] at hj
  have := Seg.getD h (show j < X.length by omega)
  rw [this]
  simp only [List.getD_eq_getElem?_getD, List.getElem?_take]
  rw [if_pos (by omega)])
theorem wok.take {X : List Int} (h : wok X) (n : Nat) : wok (X.take n) := fun w hw => h w (List.mem_of_mem_take hw)
/-- w said behind the k-th of X -/
def insL (X : List Int) (k : Nat) (w : Int) : List Int := X.take k ++ w :: X.drop k
theorem insL_len {X : List Int} {k : Nat} {w : Int} (h : k ≤ X.length) : (insL X k w).length = X.length + 1 := by
  unfold insL
  rw [List.length_append, List.length_cons, List.length_take, List.length_drop]
  omega
theorem insL_getD {X : List Int} {k : Nat} {w : Int} (h : k ≤ X.length) (j : Nat) : (insL X k w).getD j 0 = if j < k then X.getD j 0 else if j = k then w else X.getD (j - 1) 0 := by
  unfold insL
  simp only [List.getD_eq_getElem?_getD, List.getElem?_append, List.length_take]
  by_cases h1 : j < k
  · rw [if_pos (by omega), if_pos h1, List.getElem?_take, if_pos h1]
  · rw [if_neg (by omega), if_neg h1]
    by_cases h2 : j = k
    · subst h2
      rw [if_pos rfl, show j - min j X.length = 0 by omega]
      rfl
    · rw [if_neg h2, show j - min k X.length = (j - k - 1) + 1 by omega, List.getElem?_cons_succ, List.getElem?_drop, show k + (j - k - 1) = j - 1 by omega]
theorem insL_wok {X : List Int} {k : Nat} {w : Int} (h : wok X) (hw : 0 ≤ w ∧ w < 12) : wok (insL X k w) := fun x hx => by
  rcases List.mem_append.mp hx with h1 | h1
  · exact h x (List.mem_of_mem_take h1)
  · rcases List.mem_cons.mp h1 with rfl | h1
    · exact hw
    · exact h x (List.mem_of_mem_drop h1)
def ubC (ps : Int → Int → Int → Bool) (X : List Int) (k : Nat) (w : Int) : Bool := !ps w k ((cmL ps (X.take k) 0 0).2.length) && decide ((cmL ps X 0 0).1 = (cmL ps (insL X k w) 0 0).1)
def ubK (σ τ : Sto) : Prop := ∀ a, a ≠ 5 → a ≠ 28 → a ≠ 29 → a ≠ 40 → a ≠ 41 → a ≠ 44 → a ≠ 45 → τ a = σ a
theorem ubK.e {σ τ : Sto} (h : ubK σ τ) {a : Nat} (ha : a ≠ 5 ∧ a ≠ 28 ∧ a ≠ 29 ∧ a ≠ 40 ∧ a ≠ 41 ∧ a ≠ 44 ∧ a ≠ 45) : τ a = σ a := h a ha.1 ha.2.1 ha.2.2.1 ha.2.2.2.1 ha.2.2.2.2.1 ha.2.2.2.2.2.1 ha.2.2.2.2.2.2
theorem ubK.wc {LF : LFT} {σ τ : Sto} (h : ubK σ τ) (hW : WC LF σ) : WC LF τ := hW.keep (h.e (by decide)) (h.e (by decide)) (h.e (by decide)) (fun a h1 h2 => h.e (by omega))
theorem ubK.ps {LF : LFT} {σ τ : Sto} {f : Int} (h : ubK σ τ) : pasC LF τ f = pasC LF σ f := pas_cong (h.e (by decide)) (h.e (by decide)) (h.e (by decide)) (h.e (by decide)) (h.e (by decide))
theorem ior_0 {a : Int} (h : inR a) : z_iorF a 0 = a := by
  unfold z_iorF
  have : Int32.ofInt a ||| Int32.ofInt 0 = Int32.ofInt a := by
    apply Int32.toBitVec.inj
    simp
  rw [this]
  exact z_toInt h
set_option maxRecDepth 20000 in
theorem j199_between {d : Nat} {σ : Sto} {LF : LFT} {f n k ct q : Int} {X : List Int} {Q : Option Value → Sto → Prop} (bits w bit : Int) (hb : inR bits) (τ : Sto)
    (kk : ∀ b2 : Int, b2 = z_iorF bits bit → Z (z_me cX4_unheardBehind RX4 9 (some .int) (d + 4) Q) 201 [some (zR 6), some (zR 10), some (zI n), some (zI k), some (zI f), some (zI ct), some (zI q), some (zI b2), some (zI w)] [] τ) :
    Z (z_me cX4_unheardBehind RX4 9 (some .int) (d + 4) Q) 198 [some (zR 6), some (zR 10), some (zI n), some (zI k), some (zI f), some (zI ct), some (zI q), some (zI bits), some (zI w)] [zI bit, zI bits] τ := by
  refine z_ior dX4_unheardBehind_198 ?_
  refine z_istore (L' := [_, _, _, _, _, _, _, _, _]) dX4_unheardBehind_199 (Nat.le_of_ble_eq_true rfl) rfl rfl ?_
  exact kk _ rfl
set_option maxRecDepth 20000 in
set_option maxHeartbeats 1000000 in
theorem l_X4_between2 {d : Nat} {σ : Sto} {LF : LFT} {f : Int} {X : List Int} {k : Nat} (hW : WC LF σ) (hf : -1 ≤ f ∧ f ≤ 9) (hX : wok X) (hx : X.length ≤ 12) (hk : k ≤ X.length) :
    ∀ (m : Nat) (τ : Sto) (w bits : Int), 0 ≤ w → w + m = σ 1 1 → inR bits → ubK σ τ → Seg τ 45 0 (cmL (pasC LF σ f) X 0 0).1 → (∀ j : Nat, j < X.length → τ 44 (if j < k then j else j + 1) = X.getD j 0) →
    Z (z_me cX4_unheardBehind RX4 9 (some .int) (d + 4) (qI fun z σ' => z = bitL (ubC (pasC LF σ f) X k) m w bits ∧ ubK σ σ')) 118 [some (zR 6), some (zR 10), some (zI X.length), some (zI k), some (zI f), some (zI (cmL (pasC LF σ f) X 0 0).1.length), some (zI (cmL (pasC LF σ f) (X.take k) 0 0).2.length), some (zI bits), some (zI w)] [] τ
  | 0, τ, w, bits, h0, hs, hb, hK, s45, s44 => by
    have w1 := hW.1
    have e1 : τ 1 = σ 1 := hK.e (by decide)
    refine z_iload dX4_unheardBehind_118 rfl ?_
    refine z_aload_n dX4_unheardBehind_120 rfl ?_
    refine z_getR dX4_unheardBehind_121 gX4_9 rfl (Nat.le_of_ble_eq_true rfl) rfl ?_
    refine z_getI dX4_unheardBehind_124 gX4_65 rfl (Nat.le_of_ble_eq_true rfl) rfl (fun hr124 => ?_)
    try simp only [e1, z_rd, Nat.reduceEqDiff, ↓reduceIte, eq_self] at hr124 ⊢
    refine z_icmp_ge (tgt := 207) dX4_unheardBehind_127 (by decide) ⟨by omega, by omega⟩ ⟨by omega, by omega⟩ (fun h127 => ?_) (fun h127 => ?_)
    · skip
      refine z_iload dX4_unheardBehind_207 rfl ?_
      exact z_iret dX4_unheardBehind_209 ⟨rfl, hK⟩
    · exfalso; omega
  | m + 1, τ, w, bits, h0, hs, hb, hK, s45, s44 => by
    have w1 := hW.1
    have e1 : τ 1 = σ 1 := hK.e (by decide)
    have l1 := cmL_len (ps := pasC LF σ f) X 0 0
    have l2 := cmL_len (ps := pasC LF σ f) (X.take k) 0 0
    have l3 := cmL_len (ps := pasC LF σ f) (insL X k w) 0 0
    have l4 : (X.take k).length = k := by rw [List.length_take]; omega
    have l5 := insL_len (w := w) hk
    refine z_iload dX4_unheardBehind_118 rfl ?_
    refine z_aload_n dX4_unheardBehind_120 rfl ?_
    refine z_getR dX4_unheardBehind_121 gX4_9 rfl (Nat.le_of_ble_eq_true rfl) rfl ?_
    refine z_getI dX4_unheardBehind_124 gX4_65 rfl (Nat.le_of_ble_eq_true rfl) rfl (fun hr124 => ?_)
    try simp only [e1, z_rd, Nat.reduceEqDiff, ↓reduceIte, eq_self] at hr124 ⊢
    refine z_icmp_ge (tgt := 207) dX4_unheardBehind_127 (by decide) ⟨by omega, by omega⟩ ⟨by omega, by omega⟩ (fun h127 => ?_) (fun h127 => ?_)
    · exfalso; omega
    · skip
      refine z_aload_n dX4_unheardBehind_130 rfl ?_
      refine z_getR dX4_unheardBehind_131 gX4_15 rfl (Nat.le_of_ble_eq_true rfl) rfl ?_
      refine z_iload dX4_unheardBehind_134 rfl ?_
      refine z_iload dX4_unheardBehind_136 rfl ?_
      refine z_iload_n dX4_unheardBehind_138 rfl ?_
      refine z_iload dX4_unheardBehind_139 rfl ?_
      refine z_callVI (d := d + 3) (av := [_, _, _, _]) dX4_unheardBehind_141 vX4_59 rfl (Nat.le_of_ble_eq_true rfl) rfl rfl rfl (Nat.le_of_ble_eq_true rfl) (Nat.le_refl _) (c_X6_passes (LF := LF) (hK.wc hW) (by omega) hf (by omega) (by omega)) (fun z141 σ141 h141 => ?_)
      obtain ⟨hps, hfr⟩ := h141
      rw [hK.ps] at hps
      have hK1 : ubK σ σ141 := fun a b1 b2 b3 b4 b5 b6 b7 => by rw [hfr a b2 b3]; exact hK a b1 b2 b3 b4 b5 b6 b7
      refine z_if_ne (tgt := 201) dX4_unheardBehind_144 (by decide) ⟨by omega, by omega⟩ (fun h144 => ?_) (fun h144 => ?_)
      · skip
        refine z_iinc (L' := [_, _, _, _, _, _, _, _, _]) dX4_unheardBehind_201 (Nat.le_of_ble_eq_true rfl) rfl rfl rfl ?_
        refine z_goto (tgt := 118) dX4_unheardBehind_204 (by decide) ?_
        rw [bitL, if_neg (by unfold ubC; rw [show pasC LF σ f w k ((cmL (pasC LF σ f) (X.take k) 0 0).2.length) = true by rcases hps with v | v; exact v.2; exact absurd v.1 (by omega)]; exact Bool.false_ne_true)]
        exact l_X4_between2 hW hf hX hx hk m σ141 (w + 1) bits (by omega) (by omega) hb hK1 (Seg.row (hfr 45 (by decide) (by decide)) s45) (fun j hj => by rw [hfr 44 (by decide) (by decide)]; exact s44 j hj)
      · skip
        refine z_aload_n dX4_unheardBehind_147 rfl ?_
        refine z_getR dX4_unheardBehind_148 gX4_23 rfl (Nat.le_of_ble_eq_true rfl) rfl ?_
        refine z_iload_n dX4_unheardBehind_151 rfl ?_
        refine z_iload dX4_unheardBehind_152 rfl ?_
        refine z_iast dX4_unheardBehind_154 rfl (Nat.le_of_ble_eq_true rfl) (by omega) ⟨by omega, by omega⟩ ?_
        generalize hτ2 : z_put σ141 44 _ _ = τ2
        have hK2 : ubK σ τ2 := fun a b1 b2 b3 b4 b5 b6 b7 => by rw [← hτ2, z_put_ne b6]; exact hK1 a b1 b2 b3 b4 b5 b6 b7
        have sT : Seg τ2 44 0 (insL X k w) := Seg.of (fun j hj => by
          rw [insL_getD hk, ← hτ2, z_rd, if_pos rfl, Nat.zero_add, hfr 44 (by decide) (by decide), show ((k : Int)).toNat = k by omega]
          by_cases c1 : j < k
          · rw [if_neg (by omega), if_pos c1]; have := s44 j (by omega); rwa [if_pos c1] at this
          · rw [if_neg c1]
            by_cases c2 : j = k
            · rw [if_pos c2, if_pos c2]
            · rw [if_neg c2, if_neg c2]; have := s44 (j - 1) (by omega); rwa [if_neg (by omega), show j - 1 + 1 = j by omega] at this)
        refine z_aload_n dX4_unheardBehind_155 rfl ?_
        refine z_getR dX4_unheardBehind_156 gX4_15 rfl (Nat.le_of_ble_eq_true rfl) rfl ?_
        refine z_aload_n dX4_unheardBehind_159 rfl ?_
        refine z_getR dX4_unheardBehind_160 gX4_23 rfl (Nat.le_of_ble_eq_true rfl) rfl ?_
        refine z_iload_n dX4_unheardBehind_163 rfl ?_
        refine z_iconst dX4_unheardBehind_164 ?_
        refine z_iadd dX4_unheardBehind_165 ?_
        refine z_iload dX4_unheardBehind_166 rfl ?_
        refine z_iconst dX4_unheardBehind_168 ?_
        refine z_callVV (d := d + 3) (av := [_, _, _, _]) dX4_unheardBehind_169 vX4_92 rfl (Nat.le_of_ble_eq_true rfl) rfl rfl rfl (Nat.le_of_ble_eq_true rfl) (Nat.le_refl _) (c_X6_strain (LF := LF) (xs := insL X k w) (hK2.wc hW) rfl (Nat.le_of_ble_eq_true rfl) (by decide) (by decide) hf (by omega) (by omega) (insL_wok hX (by omega)) sT (by omega)) (fun σ169 h169 => ?_)
        obtain ⟨t1, t2, t3, t4, t5⟩ := h169
        rw [hK2.ps] at t2 t3 t4 t5
        have hK3 : ubK σ σ169 := fun a b1 b2 b3 b4 b5 b6 b7 => by rw [t1 a b1 b2 b3 b4 b5]; exact hK2 a b1 b2 b3 b4 b5 b6 b7
        have g45 : σ169 45 = τ 45 := by rw [t1 45 (by decide) (by decide) (by decide) (by decide) (by decide), ← hτ2, z_put_ne (by decide), hfr 45 (by decide) (by decide)]
        have g44 : ∀ j : Nat, j < X.length → σ169 44 (if j < k then j else j + 1) = X.getD j 0 := fun j hj => by
          rw [t1 44 (by decide) (by decide) (by decide) (by decide) (by decide), ← hτ2, z_rd, if_pos rfl, if_neg (by split <;> omega), hfr 44 (by decide) (by decide)]; exact s44 j hj
        refine z_iload dX4_unheardBehind_172 rfl ?_
        refine z_aload_n dX4_unheardBehind_174 rfl ?_
        refine z_getR dX4_unheardBehind_175 gX4_15 rfl (Nat.le_of_ble_eq_true rfl) rfl ?_
        refine z_aload_n dX4_unheardBehind_178 rfl ?_
        refine z_getR dX4_unheardBehind_179 gX4_26 rfl (Nat.le_of_ble_eq_true rfl) rfl ?_
        refine z_iload dX4_unheardBehind_182 rfl ?_
        refine z_callVI (d := d + 3) (av := [_, _]) dX4_unheardBehind_184 vX4_103 rfl (Nat.le_of_ble_eq_true rfl) rfl rfl rfl (Nat.le_of_ble_eq_true rfl) (Nat.le_refl _) (c_X6_cameJust (X := (cmL (pasC LF σ f) X 0 0).1) (A := (cmL (pasC LF σ f) (insL X k w) 0 0).1) rfl (Nat.le_of_ble_eq_true rfl) rfl (by omega) (by decide) (Seg.row g45 s45) t2 t4) (fun z184 σ184 h184 => ?_)
        obtain ⟨hs184, hcj⟩ := h184
        subst σ184
        refine z_if_eq (tgt := 197) dX4_unheardBehind_187 (by decide) ⟨by omega, by omega⟩ (fun h187 => ?_) (fun h187 => ?_)
        · skip
          refine z_iconst dX4_unheardBehind_197 ?_
          refine j199_between (σ := σ) (LF := LF) (X := X) bits w _ hb _ (fun b2 hb2 => ?_)
          have ub : ubC (pasC LF σ f) X k w = decide ((cmL (pasC LF σ f) X 0 0).1 = (cmL (pasC LF σ f) (insL X k w) 0 0).1) := by unfold ubC; rw [show pasC LF σ f w k ((cmL (pasC LF σ f) (X.take k) 0 0).2.length) = false by rcases hps with v | v; exact absurd v.1 (by omega); exact v.2]; rfl
          refine z_iinc (L' := [_, _, _, _, _, _, _, _, _]) dX4_unheardBehind_201 (Nat.le_of_ble_eq_true rfl) rfl rfl rfl ?_
          refine z_goto (tgt := 118) dX4_unheardBehind_204 (by decide) ?_
          have hbe : (if ubC (pasC LF σ f) X k w then z_iorF bits (z_ishlF 1 w) else bits) = b2 := by
            rw [hb2, ub]
            first
              | rw [if_pos (decide_eq_true (by rcases hcj with v | v; exact v.2; exact absurd v.1 (by omega)))]
              | rw [if_neg (by rw [decide_eq_true_eq]; rcases hcj with v | v; exact absurd v.1 (by omega); exact v.2), ior_0 hb]
          rw [bitL, hbe]
          exact l_X4_between2 hW hf hX hx hk m σ169 (w + 1) b2 (by omega) (by omega) (by rw [hb2]; exact z_rng _) hK3 (Seg.row g45 s45) g44
        · skip
          refine z_iconst dX4_unheardBehind_190 ?_
          refine z_iload dX4_unheardBehind_191 rfl ?_
          refine z_ishl dX4_unheardBehind_193 ?_
          refine z_goto (tgt := 198) dX4_unheardBehind_194 (by decide) ?_
          refine j199_between (σ := σ) (LF := LF) (X := X) bits w _ hb _ (fun b2 hb2 => ?_)
          have ub : ubC (pasC LF σ f) X k w = decide ((cmL (pasC LF σ f) X 0 0).1 = (cmL (pasC LF σ f) (insL X k w) 0 0).1) := by unfold ubC; rw [show pasC LF σ f w k ((cmL (pasC LF σ f) (X.take k) 0 0).2.length) = false by rcases hps with v | v; exact absurd v.1 (by omega); exact v.2]; rfl
          refine z_iinc (L' := [_, _, _, _, _, _, _, _, _]) dX4_unheardBehind_201 (Nat.le_of_ble_eq_true rfl) rfl rfl rfl ?_
          refine z_goto (tgt := 118) dX4_unheardBehind_204 (by decide) ?_
          have hbe : (if ubC (pasC LF σ f) X k w then z_iorF bits (z_ishlF 1 w) else bits) = b2 := by
            rw [hb2, ub]
            first
              | rw [if_pos (decide_eq_true (by rcases hcj with v | v; exact v.2; exact absurd v.1 (by omega)))]
              | rw [if_neg (by rw [decide_eq_true_eq]; rcases hcj with v | v; exact absurd v.1 (by omega); exact v.2), ior_0 hb]
          rw [bitL, hbe]
          exact l_X4_between2 hW hf hX hx hk m σ169 (w + 1) b2 (by omega) (by omega) (by rw [hb2]; exact z_rng _) hK3 (Seg.row g45 s45) g44
set_option maxRecDepth 20000 in
theorem l_X4_between1 {d : Nat} {σ : Sto} {f ct q : Int} {X : List Int} {k : Nat} {Q : Option Value → Sto → Prop} (hx : X.length ≤ 12) (hk : k ≤ X.length) (sX : Seg σ 10 0 X)
    (kk : ∀ τ : Sto, ubK σ τ → (τ 45 = σ 45) → (∀ j : Nat, j < X.length → τ 44 (if j < k then j else j + 1) = X.getD j 0) → Z (z_me cX4_unheardBehind RX4 9 (some .int) (d + 4) Q) 112 [some (zR 6), some (zR 10), some (zI X.length), some (zI k), some (zI f), some (zI ct), some (zI q), some (zI X.length), none] [] τ) :
    ∀ (m : Nat) (τ : Sto) (i : Int), 0 ≤ i → i + m = X.length → (∀ a, a ≠ 44 → τ a = σ a) → (∀ j : Nat, (j : Int) < i → τ 44 (if j < k then j else j + 1) = X.getD j 0) →
    Z (z_me cX4_unheardBehind RX4 9 (some .int) (d + 4) Q) 76 [some (zR 6), some (zR 10), some (zI X.length), some (zI k), some (zI f), some (zI ct), some (zI q), some (zI i), none] [] τ
  | 0, τ, i, h0, hs, hK, s44 => by
    obtain rfl : i = X.length := by omega
    refine z_iload dX4_unheardBehind_76 rfl ?_
    refine z_iload_n dX4_unheardBehind_78 rfl ?_
    refine z_icmp_ge (tgt := 112) dX4_unheardBehind_79 (by decide) ⟨by omega, by omega⟩ ⟨by omega, by omega⟩ (fun h79 => ?_) (fun h79 => ?_)
    · skip
      exact kk τ (fun a _ _ _ _ _ h _ => hK a h) (hK 45 (by decide)) (fun j hj => s44 j (by omega))
    · exfalso; omega
  | m + 1, τ, i, h0, hs, hK, s44 => by
    have ei : τ 10 i.toNat = X.getD i.toNat 0 := by rw [hK 10 (by decide)]; have := Seg.getD sX (show i.toNat < X.length by omega); rwa [Nat.zero_add] at this
    refine z_iload dX4_unheardBehind_76 rfl ?_
    refine z_iload_n dX4_unheardBehind_78 rfl ?_
    refine z_icmp_ge (tgt := 112) dX4_unheardBehind_79 (by decide) ⟨by omega, by omega⟩ ⟨by omega, by omega⟩ (fun h79 => ?_) (fun h79 => ?_)
    · exfalso; omega
    · skip
      refine z_aload_n dX4_unheardBehind_82 rfl ?_
      refine z_getR dX4_unheardBehind_83 gX4_23 rfl (Nat.le_of_ble_eq_true rfl) rfl ?_
      refine z_iload dX4_unheardBehind_86 rfl ?_
      refine z_iload_n dX4_unheardBehind_88 rfl ?_
      refine z_icmp_ge (tgt := 97) dX4_unheardBehind_89 (by decide) ⟨by omega, by omega⟩ ⟨by omega, by omega⟩ (fun h89 => ?_) (fun h89 => ?_)
      · skip
        refine z_iload dX4_unheardBehind_97 rfl ?_
        refine z_iconst dX4_unheardBehind_99 ?_
        refine z_iadd dX4_unheardBehind_100 ?_
        refine z_aload_n dX4_unheardBehind_101 rfl ?_
        refine z_iload dX4_unheardBehind_102 rfl ?_
        refine z_iald dX4_unheardBehind_104 rfl (Nat.le_of_ble_eq_true rfl) (by omega) (fun hr104 => ?_)
        refine z_iast dX4_unheardBehind_105 rfl (Nat.le_of_ble_eq_true rfl) (by omega) ⟨by omega, by omega⟩ ?_
        refine z_iinc (L' := [_, _, _, _, _, _, _, _, _]) dX4_unheardBehind_106 (Nat.le_of_ble_eq_true rfl) rfl rfl rfl ?_
        refine z_goto (tgt := 76) dX4_unheardBehind_109 (by decide) ?_
        rw [ei]
        refine l_X4_between1 hx hk sX kk m _ (i + 1) (by omega) (by omega) (fun a ha => by rw [z_put_ne ha]; exact hK a ha) (fun j hj => ?_)
        rw [z_rd, if_pos rfl]
        by_cases hji : j = i.toNat
        · subst hji; rw [if_pos (by split <;> omega)]
        · rw [if_neg (by split <;> omega)]; exact s44 j (by omega)
      · skip
        refine z_iload dX4_unheardBehind_92 rfl ?_
        refine z_goto (tgt := 101) dX4_unheardBehind_94 (by decide) ?_
        refine z_aload_n dX4_unheardBehind_101 rfl ?_
        refine z_iload dX4_unheardBehind_102 rfl ?_
        refine z_iald dX4_unheardBehind_104 rfl (Nat.le_of_ble_eq_true rfl) (by omega) (fun hr104 => ?_)
        refine z_iast dX4_unheardBehind_105 rfl (Nat.le_of_ble_eq_true rfl) (by omega) ⟨by omega, by omega⟩ ?_
        refine z_iinc (L' := [_, _, _, _, _, _, _, _, _]) dX4_unheardBehind_106 (Nat.le_of_ble_eq_true rfl) rfl rfl rfl ?_
        refine z_goto (tgt := 76) dX4_unheardBehind_109 (by decide) ?_
        rw [ei]
        refine l_X4_between1 hx hk sX kk m _ (i + 1) (by omega) (by omega) (fun a ha => by rw [z_put_ne ha]; exact hK a ha) (fun j hj => ?_)
        rw [z_rd, if_pos rfl]
        by_cases hji : j = i.toNat
        · subst hji; rw [if_pos (by split <;> omega)]
        · rw [if_neg (by split <;> omega)]; exact s44 j (by omega)
set_option maxRecDepth 20000 in
theorem c_X4_unheardBehind {d : Nat} {σ : Sto} {LF : LFT} {f : Int} {X : List Int} {k : Nat} (hW : WC LF σ) (hf : -1 ≤ f ∧ f ≤ 9) (hX : wok X) (hx : X.length ≤ 12) (hk : k ≤ X.length) (sX : Seg σ 10 0 X) : m_X4_unheardBehind d [zR 6, zR 10, zI X.length, zI k, zI f] σ (qI fun z σ' => z = bitL (ubC (pasC LF σ f) X k) (σ 1 1).toNat 0 0 ∧ ubK σ σ') := by
  have l1 := cmL_len (ps := pasC LF σ f) X 0 0
  have l4 : (X.take k).length = k := by rw [List.length_take]; omega
  refine z_does (L := [some (zR 6), some (zR 10), some (zI X.length), some (zI k), some (zI f), none, none, none, none]) rfl (by decide +kernel) (Nat.le_of_ble_eq_true rfl) rfl ?_
  refine z_iload_n dX4_unheardBehind_0 rfl ?_
  refine z_if_lt (tgt := 25) dX4_unheardBehind_1 (by decide) ⟨by omega, by omega⟩ (fun h1 => ?_) (fun h1 => ?_)
  · first
    | exfalso; omega
    | skip
      refine z_iconst dX4_unheardBehind_25 ?_
      exact z_iret dX4_unheardBehind_26 (by first | exact ⟨rfl, rfl⟩ | exact ⟨by omega, rfl⟩)
  · first
    | exfalso; omega
    | skip
      refine z_iload_n dX4_unheardBehind_4 rfl ?_
      refine z_bipush (v := 12) dX4_unheardBehind_5 (by decide +kernel) ?_
      refine z_icmp_gt (tgt := 25) dX4_unheardBehind_7 (by decide) ⟨by omega, by omega⟩ ⟨by omega, by omega⟩ (fun h7 => ?_) (fun h7 => ?_)
      · first
        | exfalso; omega
        | skip
          refine z_iconst dX4_unheardBehind_25 ?_
          exact z_iret dX4_unheardBehind_26 (by first | exact ⟨rfl, rfl⟩ | exact ⟨by omega, rfl⟩)
      · first
        | exfalso; omega
        | skip
          refine z_iload_n dX4_unheardBehind_10 rfl ?_
          refine z_aload_n dX4_unheardBehind_11 rfl ?_
          refine z_alen dX4_unheardBehind_12 rfl (Nat.le_of_ble_eq_true rfl) (Nat.le_of_ble_eq_true rfl) ?_
          refine z_icmp_gt (tgt := 25) dX4_unheardBehind_13 (by decide) ⟨by omega, by omega⟩ ⟨by omega, by omega⟩ (fun h13 => ?_) (fun h13 => ?_)
          · first
            | exfalso; omega
            | skip
              refine z_iconst dX4_unheardBehind_25 ?_
              exact z_iret dX4_unheardBehind_26 (by first | exact ⟨rfl, rfl⟩ | exact ⟨by omega, rfl⟩)
          · first
            | exfalso; omega
            | skip
              refine z_iload_n dX4_unheardBehind_16 rfl ?_
              refine z_if_lt (tgt := 25) dX4_unheardBehind_17 (by decide) ⟨by omega, by omega⟩ (fun h17 => ?_) (fun h17 => ?_)
              · first
                | exfalso; omega
                | skip
                  refine z_iconst dX4_unheardBehind_25 ?_
                  exact z_iret dX4_unheardBehind_26 (by first | exact ⟨rfl, rfl⟩ | exact ⟨by omega, rfl⟩)
              · first
                | exfalso; omega
                | skip
                  refine z_iload_n dX4_unheardBehind_20 rfl ?_
                  refine z_iload_n dX4_unheardBehind_21 rfl ?_
                  refine z_icmp_le (tgt := 27) dX4_unheardBehind_22 (by decide) ⟨by omega, by omega⟩ ⟨by omega, by omega⟩ (fun h22 => ?_) (fun h22 => ?_)
                  · first
                    | exfalso; omega
                    | skip
                      refine z_aload_n dX4_unheardBehind_27 rfl ?_
                      refine z_getR dX4_unheardBehind_28 gX4_15 rfl (Nat.le_of_ble_eq_true rfl) rfl ?_
                      refine z_aload_n dX4_unheardBehind_31 rfl ?_
                      refine z_iload_n dX4_unheardBehind_32 rfl ?_
                      refine z_iload dX4_unheardBehind_33 rfl ?_
                      refine z_iconst dX4_unheardBehind_35 ?_
                      refine z_callVV (d := d + 3) (av := [_, _, _, _]) dX4_unheardBehind_36 vX4_92 rfl (Nat.le_of_ble_eq_true rfl) rfl rfl rfl (Nat.le_of_ble_eq_true rfl) (Nat.le_refl _) (c_X6_strain (LF := LF) (xs := X) hW rfl (Nat.le_of_ble_eq_true rfl) (by decide) (by decide) hf (by omega) rfl hX sX (by omega)) (fun σ36 h36 => ?_)
                      obtain ⟨t1, t2, t3, t4, t5⟩ := h36
                      have hK1 : ubK σ σ36 := fun a b1 b2 b3 b4 b5 b6 b7 => t1 a b1 b2 b3 b4 b5
                      refine z_aload_n dX4_unheardBehind_39 rfl ?_
                      refine z_getR dX4_unheardBehind_40 gX4_15 rfl (Nat.le_of_ble_eq_true rfl) rfl ?_
                      refine z_aload_n dX4_unheardBehind_43 rfl ?_
                      refine z_getR dX4_unheardBehind_44 gX4_26 rfl (Nat.le_of_ble_eq_true rfl) rfl ?_
                      refine z_callVI (d := d + 3) (av := [_]) dX4_unheardBehind_47 vX4_96 rfl (Nat.le_of_ble_eq_true rfl) rfl rfl rfl (Nat.le_of_ble_eq_true rfl) (Nat.le_refl _) (c_X6_copyCame (A := (cmL (pasC LF σ f) X 0 0).1) rfl (Nat.le_of_ble_eq_true rfl) (by decide) t2 (by omega) (by decide) t4) (fun z47 σ47 h47 => ?_)
                      obtain ⟨rfl, u1, u2⟩ := h47
                      have hK2 : ubK σ σ47 := fun a b1 b2 b3 b4 b5 b6 b7 => by rw [u1 a b7]; exact hK1 a b1 b2 b3 b4 b5 b6 b7
                      refine z_istore (L' := [_, _, _, _, _, _, _, _, _]) dX4_unheardBehind_50 (Nat.le_of_ble_eq_true rfl) rfl rfl ?_
                      refine z_aload_n dX4_unheardBehind_52 rfl ?_
                      refine z_getR dX4_unheardBehind_53 gX4_15 rfl (Nat.le_of_ble_eq_true rfl) rfl ?_
                      refine z_aload_n dX4_unheardBehind_56 rfl ?_
                      refine z_iload_n dX4_unheardBehind_57 rfl ?_
                      refine z_iload dX4_unheardBehind_58 rfl ?_
                      refine z_iconst dX4_unheardBehind_60 ?_
                      refine z_callVV (d := d + 3) (av := [_, _, _, _]) dX4_unheardBehind_61 vX4_92 rfl (Nat.le_of_ble_eq_true rfl) rfl rfl rfl (Nat.le_of_ble_eq_true rfl) (Nat.le_refl _) (c_X6_strain (LF := LF) (xs := X.take k) (hK2.wc hW) rfl (Nat.le_of_ble_eq_true rfl) (by decide) (by decide) hf (by omega) (by omega) (hX.take k) (Seg.take k (Seg.row (hK2.e (by decide)) sX)) (by omega)) (fun σ61 h61 => ?_)
                      obtain ⟨v1, v2, v3, v4, v5⟩ := h61
                      rw [hK2.ps] at v2 v3 v4 v5
                      have hK3 : ubK σ σ61 := fun a b1 b2 b3 b4 b5 b6 b7 => by rw [v1 a b1 b2 b3 b4 b5]; exact hK2 a b1 b2 b3 b4 b5 b6 b7
                      have g45 : Seg σ61 45 0 (cmL (pasC LF σ f) X 0 0).1 := Seg.row (v1 45 (by decide) (by decide) (by decide) (by decide) (by decide)) u2
                      refine z_aload_n dX4_unheardBehind_64 rfl ?_
                      refine z_getR dX4_unheardBehind_65 gX4_15 rfl (Nat.le_of_ble_eq_true rfl) rfl ?_
                      refine z_getI dX4_unheardBehind_68 gX4_100 rfl (Nat.le_of_ble_eq_true rfl) rfl (fun hr68 => ?_)
                      rw [v3]
                      refine z_istore (L' := [_, _, _, _, _, _, _, _, _]) dX4_unheardBehind_71 (Nat.le_of_ble_eq_true rfl) rfl rfl ?_
                      refine z_iconst dX4_unheardBehind_73 ?_
                      refine z_istore (L' := [_, _, _, _, _, _, _, _, _]) dX4_unheardBehind_74 (Nat.le_of_ble_eq_true rfl) rfl rfl ?_
                      refine l_X4_between1 hx hk (Seg.row (hK3.e (by decide)) sX) (fun τ h1 h2 h3 => ?_) X.length σ61 0 (by omega) (by omega) (fun _ _ => rfl) (fun j hj => absurd hj (by omega))
                      refine z_iconst dX4_unheardBehind_112 ?_
                      refine z_istore (L' := [_, _, _, _, _, _, _, _, _]) dX4_unheardBehind_113 (Nat.le_of_ble_eq_true rfl) rfl rfl ?_
                      refine z_iconst dX4_unheardBehind_115 ?_
                      refine z_istore (L' := [_, _, _, _, _, _, _, _, _]) dX4_unheardBehind_116 (Nat.le_of_ble_eq_true rfl) rfl rfl ?_
                      exact l_X4_between2 hW hf hX hx hk (σ 1 1).toNat τ 0 0 (by omega) (by have := hW.1; omega) (by omega) (fun a b1 b2 b3 b4 b5 b6 b7 => by rw [h1 a b1 b2 b3 b4 b5 b6 b7]; exact hK3 a b1 b2 b3 b4 b5 b6 b7) (Seg.row h2 g45) h3
                  · first
                    | exfalso; omega
                    | skip
                      refine z_iconst dX4_unheardBehind_25 ?_
                      exact z_iret dX4_unheardBehind_26 (by first | exact ⟨rfl, rfl⟩ | exact ⟨by omega, rfl⟩)
