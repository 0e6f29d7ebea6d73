/-! ===== Search, the first part ===== -/
set_option maxRecDepth 20000 in
theorem c_X4_foundAt {d : Nat} {σ : Sto} {k : Int} (hk : 0 ≤ k ∧ k < 13) : m_X4_foundAt d [zR 6, zI k] σ (qI fun z σ' => z = σ 43 k.toNat ∧ σ' = σ) := by
  refine z_does (L := [some (zR 6), some (zI k)]) rfl (by decide +kernel) (Nat.le_of_ble_eq_true rfl) rfl ?_
  refine z_iload_n dX4_foundAt_0 rfl ?_
  refine z_if_lt (tgt := 19) dX4_foundAt_1 (by decide) ⟨by omega, by omega⟩ (fun h1 => ?_) (fun h1 => ?_)
  · first
    | exfalso; omega
    | skip
      refine z_bipush (v := -2) dX4_foundAt_19 (by decide +kernel) ?_
      exact z_iret dX4_foundAt_21 (by first | exact ⟨rfl, rfl⟩ | exact ⟨by omega, rfl⟩)
  · first
    | exfalso; omega
    | skip
      refine z_iload_n dX4_foundAt_4 rfl ?_
      refine z_bipush (v := 13) dX4_foundAt_5 (by decide +kernel) ?_
      refine z_icmp_ge (tgt := 19) dX4_foundAt_7 (by decide) ⟨by omega, by omega⟩ ⟨by omega, by omega⟩ (fun h7 => ?_) (fun h7 => ?_)
      · first
        | exfalso; omega
        | skip
          refine z_bipush (v := -2) dX4_foundAt_19 (by decide +kernel) ?_
          exact z_iret dX4_foundAt_21 (by first | exact ⟨rfl, rfl⟩ | exact ⟨by omega, rfl⟩)
      · first
        | exfalso; omega
        | skip
          refine z_aload_n dX4_foundAt_10 rfl ?_
          refine z_getR dX4_foundAt_11 gX4_19 rfl (Nat.le_of_ble_eq_true rfl) rfl ?_
          refine z_iload_n dX4_foundAt_14 rfl ?_
          refine z_iald dX4_foundAt_15 rfl (Nat.le_of_ble_eq_true rfl) (by omega) (fun hr15 => ?_)
          refine z_goto (tgt := 21) dX4_foundAt_16 (by decide) ?_
          exact z_iret dX4_foundAt_21 (by first | exact ⟨rfl, rfl⟩ | exact ⟨by omega, rfl⟩)
/-- how many of the words w, w + 1 .. (m of them) don't pass -/
def wlF (ps : Int → Bool) : Nat → Int → Int
  | 0, _ => 0
  | m + 1, w => (if ps w then 0 else 1) + wlF ps m (w + 1)
theorem wlF_R {ps : Int → Bool} : ∀ (m : Nat) (w : Int), 0 ≤ wlF ps m w ∧ wlF ps m w ≤ m
  | 0, _ => by simp [wlF]
  | m + 1, w => by
    have := wlF_R m (w + 1) (ps := ps)
    rw [wlF]
    split <;> omega
/-- cells 28 and 29 alone are written -/
def pK (σ τ : Sto) : Prop := ∀ a, a ≠ 28 → a ≠ 29 → τ a = σ a
theorem pK.rf (σ : Sto) : pK σ σ := fun _ _ _ => rfl
theorem pK.tr {σ τ υ : Sto} (h : pK σ τ) (h2 : pK τ υ) : pK σ υ := fun a h3 h4 => by rw [h2 a h3 h4]; exact h a h3 h4
theorem pK.wc {LF : LFT} {σ τ : Sto} (h : pK σ τ) (hW : WC LF σ) : WC LF τ := hW.keep (h 1 (by decide) (by decide)) (h 3 (by decide) (by decide)) (h 27 (by decide) (by decide)) (fun a h1 h2 => h a (by omega) (by omega))
theorem pK.ps {LF : LFT} {σ τ : Sto} {f : Int} (h : pK σ τ) : pasC LF τ f = pasC LF σ f := pas_cong (h 3 (by decide) (by decide)) (h 13 (by decide) (by decide)) (h 14 (by decide) (by decide)) (h 15 (by decide) (by decide)) (h 20 (by decide) (by decide))
set_option maxRecDepth 20000 in
theorem l_X4_wordsLeftAt {d : Nat} {σ : Sto} {LF : LFT} {f p q : Int} (hW : WC LF σ) (hf : -1 ≤ f ∧ f ≤ 9) (hp : inR p) (hq : inR q) :
    ∀ (m : Nat) (τ : Sto) (w c : Int), 0 ≤ w → w + m = σ 1 1 → 0 ≤ c ∧ c ≤ w → pK σ τ →
    Z (z_me cX4_wordsLeftAt RX4 6 (some .int) (d + 3) (qI fun z σ' => z = c + wlF (fun w => pasC LF σ f w p q) m w ∧ pK σ σ')) 6 [some (zR 6), some (zI f), some (zI p), some (zI q), some (zI c), some (zI w)] [] τ
  | 0, τ, w, c, hw, hl, hc, hk => by
    have e1 : τ 1 = σ 1 := hk 1 (by decide) (by decide)
    have w1 := hW.1
    refine z_iload dX4_wordsLeftAt_6 rfl ?_
    refine z_aload_n dX4_wordsLeftAt_8 rfl ?_
    refine z_getR dX4_wordsLeftAt_9 gX4_9 rfl (Nat.le_of_ble_eq_true rfl) rfl ?_
    refine z_getI dX4_wordsLeftAt_12 gX4_65 rfl (Nat.le_of_ble_eq_true rfl) rfl (fun hr12 => ?_)
    try simp only [e1, z_rd, Nat.reduceEqDiff, ↓reduceIte, eq_self] at hr12 ⊢
    refine z_icmp_ge (tgt := 42) dX4_wordsLeftAt_15 (by decide) ⟨by omega, by omega⟩ ⟨by omega, by omega⟩ (fun h15 => ?_) (fun h15 => ?_)
    · skip
      refine z_iload dX4_wordsLeftAt_42 rfl ?_
      exact z_iret dX4_wordsLeftAt_44 ⟨by rw [wlF]; omega, hk⟩
    · exfalso; omega
  | m + 1, τ, w, c, hw, hl, hc, hk => by
    have e1 : τ 1 = σ 1 := hk 1 (by decide) (by decide)
    have w1 := hW.1
    refine z_iload dX4_wordsLeftAt_6 rfl ?_
    refine z_aload_n dX4_wordsLeftAt_8 rfl ?_
    refine z_getR dX4_wordsLeftAt_9 gX4_9 rfl (Nat.le_of_ble_eq_true rfl) rfl ?_
    refine z_getI dX4_wordsLeftAt_12 gX4_65 rfl (Nat.le_of_ble_eq_true rfl) rfl (fun hr12 => ?_)
    try simp only [e1, z_rd, Nat.reduceEqDiff, ↓reduceIte, eq_self] at hr12 ⊢
    refine z_icmp_ge (tgt := 42) dX4_wordsLeftAt_15 (by decide) ⟨by omega, by omega⟩ ⟨by omega, by omega⟩ (fun h15 => ?_) (fun h15 => ?_)
    · exfalso; omega
    · skip
      refine z_aload_n dX4_wordsLeftAt_18 rfl ?_
      refine z_getR dX4_wordsLeftAt_19 gX4_15 rfl (Nat.le_of_ble_eq_true rfl) rfl ?_
      refine z_iload dX4_wordsLeftAt_22 rfl ?_
      refine z_iload_n dX4_wordsLeftAt_24 rfl ?_
      refine z_iload_n dX4_wordsLeftAt_25 rfl ?_
      refine z_iload_n dX4_wordsLeftAt_26 rfl ?_
      refine z_callVI (d := d + 2) (av := [_, _, _, _]) dX4_wordsLeftAt_27 vX4_59 rfl (Nat.le_of_ble_eq_true rfl) rfl rfl rfl (Nat.le_of_ble_eq_true rfl) (Nat.le_refl _) (c_X6_passes (LF := LF) (hk.wc hW) (by omega) hf hp hq) (fun z27 σ27 h27 => ?_)
      obtain ⟨hps, hfr⟩ := h27
      rw [hk.ps] at hps
      refine z_if_ne (tgt := 36) dX4_wordsLeftAt_30 (by decide) ⟨by omega, by omega⟩ (fun h30 => ?_) (fun h30 => ?_)
      · skip
        refine z_iinc (L' := [_, _, _, _, _, _]) dX4_wordsLeftAt_36 (Nat.le_of_ble_eq_true rfl) rfl rfl rfl ?_
        refine z_goto (tgt := 6) dX4_wordsLeftAt_39 (by decide) ?_
        rw [wlF, ← Int.add_assoc]
        rcases hps with ⟨q1, q2⟩ | ⟨q1, q2⟩
        · first
            | exfalso; omega
            | rw [if_pos q2, Int.add_zero]; exact l_X4_wordsLeftAt hW hf hp hq m _ (w + 1) _ (by omega) (by omega) (by omega) (hk.tr hfr)
        · first
            | exfalso; omega
            | rw [if_neg (by rw [q2]; exact Bool.false_ne_true)]; exact l_X4_wordsLeftAt hW hf hp hq m _ (w + 1) _ (by omega) (by omega) (by omega) (hk.tr hfr)
      · skip
        refine z_iinc (L' := [_, _, _, _, _, _]) dX4_wordsLeftAt_33 (Nat.le_of_ble_eq_true rfl) rfl rfl rfl ?_
        refine z_iinc (L' := [_, _, _, _, _, _]) dX4_wordsLeftAt_36 (Nat.le_of_ble_eq_true rfl) rfl rfl rfl ?_
        refine z_goto (tgt := 6) dX4_wordsLeftAt_39 (by decide) ?_
        rw [wlF, ← Int.add_assoc]
        rcases hps with ⟨q1, q2⟩ | ⟨q1, q2⟩
        · first
            | exfalso; omega
            | rw [if_pos q2, Int.add_zero]; exact l_X4_wordsLeftAt hW hf hp hq m _ (w + 1) _ (by omega) (by omega) (by omega) (hk.tr hfr)
        · first
            | exfalso; omega
            | rw [if_neg (by rw [q2]; exact Bool.false_ne_true)]; exact l_X4_wordsLeftAt hW hf hp hq m _ (w + 1) _ (by omega) (by omega) (by omega) (hk.tr hfr)
set_option maxRecDepth 20000 in
theorem c_X4_wordsLeftAt {d : Nat} {σ : Sto} {LF : LFT} {f p q : Int} (hW : WC LF σ) (hf : -1 ≤ f ∧ f ≤ 9) (hp : inR p) (hq : inR q) : m_X4_wordsLeftAt d [zR 6, zI f, zI p, zI q] σ (qI fun z σ' => z = wlF (fun w => pasC LF σ f w p q) (σ 1 1).toNat 0 ∧ pK σ σ') := by
  refine z_does (L := [some (zR 6), some (zI f), some (zI p), some (zI q), none, none]) rfl (by decide +kernel) (Nat.le_of_ble_eq_true rfl) rfl ?_
  refine z_iconst dX4_wordsLeftAt_0 ?_
  refine z_istore (L' := [_, _, _, _, _, _]) dX4_wordsLeftAt_1 (Nat.le_of_ble_eq_true rfl) rfl rfl ?_
  refine z_iconst dX4_wordsLeftAt_3 ?_
  refine z_istore (L' := [_, _, _, _, _, _]) dX4_wordsLeftAt_4 (Nat.le_of_ble_eq_true rfl) rfl rfl ?_
  have h := l_X4_wordsLeftAt (d := d) hW hf hp hq (σ 1 1).toNat σ 0 0 (by omega) (by have := hW.1; omega) (by omega) (pK.rf σ)
  rw [Int.zero_add] at h
  exact h
/-- the ways to say X (that came) and Y (that were left) in some order, from c and l on; fuel first -/
def wy (ps : Int → Int → Int → Bool) (X Y : List Int) : Nat → Nat → Nat → Int
  | 0, _, _ => 0
  | n + 1, c, l => ((if c = X.length ∧ l = Y.length then 1 else 0) + (if c < X.length ∧ ps (X.getD c 0) (c + l : Nat) l = true then wy ps X Y n (c + 1) l else 0)) + (if l < Y.length ∧ ps (Y.getD l 0) (c + l : Nat) l = false then wy ps X Y n c (l + 1) else 0)
def bd3 : Nat → Int
  | 0 => 1
  | n + 1 => 3 * bd3 n
theorem bd3_1 : ∀ n, 1 ≤ bd3 n
  | 0 => by decide
  | n + 1 => by have := bd3_1 n; rw [bd3]; omega
theorem bd3_R : ∀ n, n < 14 → bd3 n ≤ 1594323 := by decide
theorem wy_R {ps : Int → Int → Int → Bool} {X Y : List Int} : ∀ (n c l : Nat), 0 ≤ wy ps X Y n c l ∧ wy ps X Y n c l ≤ bd3 n
  | 0, _, _ => by simp [wy, bd3]
  | n + 1, c, l => by
    have h1 := wy_R n (c + 1) l (ps := ps) (X := X) (Y := Y)
    have h2 := wy_R n c (l + 1) (ps := ps) (X := X) (Y := Y)
    have h3 := bd3_1 n
    rw [wy, bd3]
    split <;> split <;> split <;> omega
/-- W: with just as much fuel as is wanted -/
abbrev wyW (ps : Int → Int → Int → Bool) (X Y : List Int) (c l : Nat) : Int := wy ps X Y (X.length + Y.length + 1 - (c + l)) c l
theorem wyW_eq {ps : Int → Int → Int → Bool} {X Y : List Int} {c l : Nat} (hc : c ≤ X.length) (hl : l ≤ Y.length) : wyW ps X Y c l = ((if c = X.length ∧ l = Y.length then 1 else 0) + (if c < X.length ∧ ps (X.getD c 0) (c + l : Nat) l = true then wyW ps X Y (c + 1) l else 0)) + (if l < Y.length ∧ ps (Y.getD l 0) (c + l : Nat) l = false then wyW ps X Y c (l + 1) else 0) := by
  unfold wyW
  rw [show X.length + Y.length + 1 - (c + l) = (X.length + Y.length - (c + l)) + 1 by omega, wy, show X.length + Y.length + 1 - (c + 1 + l) = X.length + Y.length - (c + l) by omega, show X.length + Y.length + 1 - (c + (l + 1)) = X.length + Y.length - (c + l) by omega]
theorem wyW_R {ps : Int → Int → Int → Bool} {X Y : List Int} {c l : Nat} (h : X.length + Y.length ≤ 12) : 0 ≤ wyW ps X Y c l ∧ wyW ps X Y c l ≤ 3000000 := by
  have h1 := wy_R (ps := ps) (X := X) (Y := Y) (X.length + Y.length + 1 - (c + l)) c l
  have h2 := bd3_R (X.length + Y.length + 1 - (c + l)) (by omega)
  exact ⟨h1.1, Int.le_trans h1.2 (by omega)⟩
/-- the ways so far: those behind (c, l), in the order of the loops, are worked out -/
def wyI (τ : Sto) (ps : Int → Int → Int → Bool) (X Y : List Int) (c l : Int) : Prop := ∀ a b : Nat, a ≤ X.length → b ≤ Y.length → (c < a ∨ (c = a ∧ l < b)) → τ (59 + a) b = wyW ps X Y a b
def wyK (σ τ : Sto) : Prop := ∀ a, a ≠ 28 → a ≠ 29 → (a < 59 ∨ 71 < a) → τ a = σ a
theorem wyK.rf (σ : Sto) : wyK σ σ := fun _ _ _ _ => rfl
theorem wyK.wc {LF : LFT} {σ τ : Sto} (h : wyK σ τ) (hW : WC LF σ) : WC LF τ := hW.keep (h 1 (by decide) (by decide) (by decide)) (h 3 (by decide) (by decide) (by decide)) (h 27 (by decide) (by decide) (by decide)) (fun a h1 h2 => h a (by omega) (by omega) (by omega))
theorem wyK.ps {LF : LFT} {σ τ : Sto} {f : Int} (h : wyK σ τ) : pasC LF τ f = pasC LF σ f := pas_cong (h 3 (by decide) (by decide) (by decide)) (h 13 (by decide) (by decide) (by decide)) (h 14 (by decide) (by decide) (by decide)) (h 15 (by decide) (by decide) (by decide)) (h 20 (by decide) (by decide) (by decide))
theorem wyK.trp {σ τ υ : Sto} (h : wyK σ τ) (h2 : pK τ υ) : wyK σ υ := fun a h3 h4 h5 => by rw [h2 a h3 h4]; exact h a h3 h4 h5
theorem wyK.put {σ τ : Sto} {k j : Nat} {x : Int} (h : wyK σ τ) (hk : 59 ≤ k ∧ k ≤ 71) : wyK σ (z_put τ k j x) := fun a h3 h4 h5 => by rw [z_put_ne (by omega)]; exact h a h3 h4 h5
theorem Seg.getD {σ : Sto} {k : Nat} : ∀ {X : List Int} {i j : Nat}, Seg σ k i X → j < X.length → σ k (i + j) = X.getD j 0
  | w :: r, i, 0, h, _ => h.1
  | w :: r, i, j + 1, h, hj => by
    have := Seg.getD h.2 (show j < r.length by rw [List.length_cons] at hj; omega)
    rw [show i + (j + 1) = i + 1 + j by omega, this]
    rfl
theorem wok.getD {X : List Int} {j : Nat} (h : wok X) (hj : j < X.length) : 0 ≤ X.getD j 0 ∧ X.getD j 0 < 12 := by
  rw [List.getD_eq_getElem?_getD, List.getElem?_eq_getElem hj]
  exact h _ (List.getElem_mem hj)
theorem wyW_eqI {ps : Int → Int → Int → Bool} {X Y : List Int} {c l : Int} (hc : 0 ≤ c ∧ c ≤ X.length) (hl : 0 ≤ l ∧ l ≤ Y.length) : wyW ps X Y c.toNat l.toNat = ((if c.toNat = X.length ∧ l.toNat = Y.length then 1 else 0) + (if c.toNat < X.length ∧ ps (X.getD c.toNat 0) (c + l) l = true then wyW ps X Y (c.toNat + 1) l.toNat else 0)) + (if l.toNat < Y.length ∧ ps (Y.getD l.toNat 0) (c + l) l = false then wyW ps X Y c.toNat (l.toNat + 1) else 0) := by
  have h := wyW_eq (ps := ps) (X := X) (Y := Y) (c := c.toNat) (l := l.toNat) (by omega) (by omega)
  rw [show ((c.toNat + l.toNat : Nat) : Int) = c + l by omega, show ((l.toNat : Nat) : Int) = l by omega] at h
  exact h
set_option maxRecDepth 20000 in
theorem j154_mergings {d : Nat} {σ : Sto} {LF : LFT} {f : Int} {X Y : List Int} (hW : WC LF σ) (hf : -1 ≤ f ∧ f ≤ 9) (hX : wok X) (hY : wok Y) (hl : X.length + Y.length ≤ 12) (sX : Seg σ 10 0 X) (sY : Seg σ 11 0 Y) {Q : Option Value → Sto → Prop} (c l : Int) (hc : 0 ≤ c ∧ c ≤ X.length) (h0 : 0 ≤ l ∧ l ≤ Y.length) (k36 : ∀ τ' : Sto, wyK σ τ' → wyI τ' (pasC LF σ f) X Y c (l + -1) → Z (z_me cX4_mergings RX4 10 (some .long) (d + 3) Q) 36 [some (zR 6), some (zR 10), some (zI X.length), some (zR 11), some (zI Y.length), some (zI f), some (zI c), some (zI (l + -1)), none, none] [] τ') (τ : Sto) (s : Int) (hs : s = wyW (pasC LF σ f) X Y c.toNat l.toNat) (hK : wyK σ τ) (hI : wyI τ (pasC LF σ f) X Y c l) : Z (z_me cX4_mergings RX4 10 (some .long) (d + 3) Q) 154 [some (zR 6), some (zR 10), some (zI X.length), some (zR 11), some (zI Y.length), some (zI f), some (zI c), some (zI l), some (zJ s), none] [] τ := by
  have n3 := wyW_R (ps := pasC LF σ f) (c := c.toNat) (l := l.toNat) hl
  refine z_aload_n dX4_mergings_154 rfl ?_
  refine z_getR dX4_mergings_155 gX4_36 rfl (Nat.le_of_ble_eq_true rfl) rfl ?_
  refine z_iload dX4_mergings_158 rfl ?_
  refine z_aald dX4_mergings_160 rfl (Or.inr rfl) (Nat.le_of_ble_eq_true rfl) (by omega) ?_
  refine z_iload dX4_mergings_161 rfl ?_
  refine z_lload dX4_mergings_163 rfl ?_
  refine z_last dX4_mergings_165 (lay_ways _ (by omega)) (show 59 + c.toNat < 121 by omega) (by omega) ⟨by omega, by omega⟩ ?_
  refine z_iinc (L' := [_, _, _, _, _, _, _, _, _, _]) dX4_mergings_166 (Nat.le_of_ble_eq_true rfl) rfl rfl rfl ?_
  refine z_goto (tgt := 36) dX4_mergings_169 (by decide) ?_
  refine z_forget [true, true, true, true, true, true, true, true, false, false] (L' := [_, _, _, _, _, _, _, _, _, _]) rfl ?_
  refine k36 _ (hK.put (by omega)) (fun a b ha hb h => ?_)
  rw [z_rd]
  by_cases h1 : 59 + a = 59 + c.toNat ∧ b = l.toNat
  · obtain ⟨h1, h2⟩ := h1
    rw [if_pos h1, if_pos h2, hs, h2, show a = c.toNat by omega]
  · have : (if 59 + a = 59 + c.toNat then (if b = l.toNat then s else τ (59 + a) b) else τ (59 + a) b) = τ (59 + a) b := by grind
    rw [this]
    exact hI a b ha hb (by omega)
set_option maxRecDepth 20000 in
theorem j107_mergings {d : Nat} {σ : Sto} {LF : LFT} {f : Int} {X Y : List Int} (hW : WC LF σ) (hf : -1 ≤ f ∧ f ≤ 9) (hX : wok X) (hY : wok Y) (hl : X.length + Y.length ≤ 12) (sX : Seg σ 10 0 X) (sY : Seg σ 11 0 Y) {Q : Option Value → Sto → Prop} (c l : Int) (hc : 0 ≤ c ∧ c ≤ X.length) (h0 : 0 ≤ l ∧ l ≤ Y.length) (k36 : ∀ τ' : Sto, wyK σ τ' → wyI τ' (pasC LF σ f) X Y c (l + -1) → Z (z_me cX4_mergings RX4 10 (some .long) (d + 3) Q) 36 [some (zR 6), some (zR 10), some (zI X.length), some (zR 11), some (zI Y.length), some (zI f), some (zI c), some (zI (l + -1)), none, none] [] τ') (τ : Sto) (s : Int) (hs : s = (if c.toNat = X.length ∧ l.toNat = Y.length then 1 else 0) + (if c.toNat < X.length ∧ pasC LF σ f (X.getD c.toNat 0) (c + l) l = true then wyW (pasC LF σ f) X Y (c.toNat + 1) l.toNat else 0)) (hK : wyK σ τ) (hI : wyI τ (pasC LF σ f) X Y c l) : Z (z_me cX4_mergings RX4 10 (some .long) (d + 3) Q) 107 [some (zR 6), some (zR 10), some (zI X.length), some (zR 11), some (zI Y.length), some (zI f), some (zI c), some (zI l), some (zJ s), none] [] τ := by
  have n1 := wyW_R (ps := pasC LF σ f) (c := c.toNat + 1) (l := l.toNat) hl
  have n2 := wyW_R (ps := pasC LF σ f) (c := c.toNat) (l := l.toNat + 1) hl
  have er := wyW_eqI (ps := pasC LF σ f) hc h0
  rw [← hs] at er
  have hsR : 0 ≤ s ∧ s ≤ 4000000 := by rw [hs]; split <;> split <;> omega
  refine z_iload dX4_mergings_107 rfl ?_
  refine z_iload dX4_mergings_109 rfl ?_
  refine z_icmp_ge (tgt := 154) dX4_mergings_111 (by decide) ⟨by omega, by omega⟩ ⟨by omega, by omega⟩ (fun h111 => ?_) (fun h111 => ?_)
  · skip
    first
      | exact j154_mergings hW hf hX hY hl sX sY c l hc h0 k36 τ _ (by rw [er, if_neg (by omega)]; omega) hK hI
      | exact j154_mergings hW hf hX hY hl sX sY c l hc h0 k36 σ131 _ (by rw [er, if_pos ⟨by omega, by rcases hps with q | q; exact absurd q.1 (by omega); exact q.2⟩]) (hK.trp hfr) (fun a b ha hb h => by rw [hfr _ (by omega) (by omega)]; exact hI a b ha hb h)
      | exact j154_mergings hW hf hX hY hl sX sY c l hc h0 k36 σ131 _ (by rw [er, if_neg (fun q => by rcases hps with w | w; exact absurd (q.2.symm.trans w.2) (by decide); exact absurd w.1 (by omega))]; omega) (hK.trp hfr) (fun a b ha hb h => by rw [hfr _ (by omega) (by omega)]; exact hI a b ha hb h)
  · skip
    refine z_aload_n dX4_mergings_114 rfl ?_
    refine z_getR dX4_mergings_115 gX4_15 rfl (Nat.le_of_ble_eq_true rfl) rfl ?_
    refine z_aload_n dX4_mergings_118 rfl ?_
    refine z_iload dX4_mergings_119 rfl ?_
    refine z_iald dX4_mergings_121 rfl (Nat.le_of_ble_eq_true rfl) (by omega) (fun hr121 => ?_)
    rw [show τ 11 l.toNat = Y.getD l.toNat 0 by rw [hK 11 (by decide) (by decide) (by decide)]; have := Seg.getD sY (show l.toNat < Y.length by omega); rwa [Nat.zero_add] at this]
    refine z_iload dX4_mergings_122 rfl ?_
    refine z_iload dX4_mergings_124 rfl ?_
    refine z_iload dX4_mergings_126 rfl ?_
    refine z_iadd dX4_mergings_128 ?_
    refine z_iload dX4_mergings_129 rfl ?_
    refine z_callVI (d := d + 2) (av := [_, _, _, _]) dX4_mergings_131 vX4_59 rfl (Nat.le_of_ble_eq_true rfl) rfl rfl rfl (Nat.le_of_ble_eq_true rfl) (Nat.le_refl _) (c_X6_passes (LF := LF) (hK.wc hW) (wok.getD hY (by omega)) hf (by omega) (by omega)) (fun z131 σ131 h131 => ?_)
    obtain ⟨hps, hfr⟩ := h131
    rw [hK.ps] at hps
    refine z_if_ne (tgt := 154) dX4_mergings_134 (by decide) ⟨by omega, by omega⟩ (fun h134 => ?_) (fun h134 => ?_)
    · skip
      first
        | exact j154_mergings hW hf hX hY hl sX sY c l hc h0 k36 τ _ (by rw [er, if_neg (by omega)]; omega) hK hI
        | exact j154_mergings hW hf hX hY hl sX sY c l hc h0 k36 σ131 _ (by rw [er, if_pos ⟨by omega, by rcases hps with q | q; exact absurd q.1 (by omega); exact q.2⟩]) (hK.trp hfr) (fun a b ha hb h => by rw [hfr _ (by omega) (by omega)]; exact hI a b ha hb h)
        | exact j154_mergings hW hf hX hY hl sX sY c l hc h0 k36 σ131 _ (by rw [er, if_neg (fun q => by rcases hps with w | w; exact absurd (q.2.symm.trans w.2) (by decide); exact absurd w.1 (by omega))]; omega) (hK.trp hfr) (fun a b ha hb h => by rw [hfr _ (by omega) (by omega)]; exact hI a b ha hb h)
    · skip
      refine z_lload dX4_mergings_137 rfl ?_
      refine z_aload_n dX4_mergings_139 rfl ?_
      refine z_getR dX4_mergings_140 gX4_36 rfl (Nat.le_of_ble_eq_true rfl) rfl ?_
      refine z_iload dX4_mergings_143 rfl ?_
      refine z_aald dX4_mergings_145 rfl (Or.inr rfl) (Nat.le_of_ble_eq_true rfl) (by omega) ?_
      refine z_iload dX4_mergings_146 rfl ?_
      refine z_iconst dX4_mergings_148 ?_
      refine z_iadd dX4_mergings_149 ?_
      refine z_lald dX4_mergings_150 (lay_ways _ (by omega)) (show 59 + c.toNat < 121 by omega) (by omega) (fun hr150 => ?_)
      rw [show σ131 (59 + c.toNat) (l + 1).toNat = wyW (pasC LF σ f) X Y c.toNat (l.toNat + 1) by rw [hfr _ (by omega) (by omega), toN_s h0.1]; exact hI _ _ (by omega) (by omega) (by omega)]
      refine z_ladd dX4_mergings_151 ?_
      refine z_lstore (L' := [_, _, _, _, _, _, _, _, _, _]) dX4_mergings_152 (Nat.le_of_ble_eq_true rfl) rfl rfl ?_
      first
        | exact j154_mergings hW hf hX hY hl sX sY c l hc h0 k36 τ _ (by rw [er, if_neg (by omega)]; omega) hK hI
        | exact j154_mergings hW hf hX hY hl sX sY c l hc h0 k36 σ131 _ (by rw [er, if_pos ⟨by omega, by rcases hps with q | q; exact absurd q.1 (by omega); exact q.2⟩]) (hK.trp hfr) (fun a b ha hb h => by rw [hfr _ (by omega) (by omega)]; exact hI a b ha hb h)
        | exact j154_mergings hW hf hX hY hl sX sY c l hc h0 k36 σ131 _ (by rw [er, if_neg (fun q => by rcases hps with w | w; exact absurd (q.2.symm.trans w.2) (by decide); exact absurd w.1 (by omega))]; omega) (hK.trp hfr) (fun a b ha hb h => by rw [hfr _ (by omega) (by omega)]; exact hI a b ha hb h)
set_option maxRecDepth 20000 in
theorem j61_mergings {d : Nat} {σ : Sto} {LF : LFT} {f : Int} {X Y : List Int} (hW : WC LF σ) (hf : -1 ≤ f ∧ f ≤ 9) (hX : wok X) (hY : wok Y) (hl : X.length + Y.length ≤ 12) (sX : Seg σ 10 0 X) (sY : Seg σ 11 0 Y) {Q : Option Value → Sto → Prop} (c l : Int) (hc : 0 ≤ c ∧ c ≤ X.length) (h0 : 0 ≤ l ∧ l ≤ Y.length) (k36 : ∀ τ' : Sto, wyK σ τ' → wyI τ' (pasC LF σ f) X Y c (l + -1) → Z (z_me cX4_mergings RX4 10 (some .long) (d + 3) Q) 36 [some (zR 6), some (zR 10), some (zI X.length), some (zR 11), some (zI Y.length), some (zI f), some (zI c), some (zI (l + -1)), none, none] [] τ') (τ : Sto) (s : Int) (hs : s = (if c.toNat = X.length ∧ l.toNat = Y.length then 1 else 0)) (hK : wyK σ τ) (hI : wyI τ (pasC LF σ f) X Y c l) : Z (z_me cX4_mergings RX4 10 (some .long) (d + 3) Q) 61 [some (zR 6), some (zR 10), some (zI X.length), some (zR 11), some (zI Y.length), some (zI f), some (zI c), some (zI l), some (zJ s), none] [] τ := by
  have n1 := wyW_R (ps := pasC LF σ f) (c := c.toNat + 1) (l := l.toNat) hl
  have hsR : 0 ≤ s ∧ s ≤ 1 := by rw [hs]; split <;> omega
  refine z_iload dX4_mergings_61 rfl ?_
  refine z_iload_n dX4_mergings_63 rfl ?_
  refine z_icmp_ge (tgt := 107) dX4_mergings_64 (by decide) ⟨by omega, by omega⟩ ⟨by omega, by omega⟩ (fun h64 => ?_) (fun h64 => ?_)
  · skip
    first
      | exact j107_mergings hW hf hX hY hl sX sY c l hc h0 k36 τ _ (by rw [if_neg (by omega : ¬ (c.toNat < X.length ∧ _)), ← hs]; omega) hK hI
      | exact j107_mergings hW hf hX hY hl sX sY c l hc h0 k36 σ84 _ (by rw [if_pos (⟨by omega, by rcases hps with q | q; exact q.2; exact absurd q.1 (by omega)⟩ : c.toNat < X.length ∧ _), ← hs]) (hK.trp hfr) (fun a b ha hb h => by rw [hfr _ (by omega) (by omega)]; exact hI a b ha hb h)
      | exact j107_mergings hW hf hX hY hl sX sY c l hc h0 k36 σ84 _ (by rw [if_neg (fun q : c.toNat < X.length ∧ pasC LF σ f (X.getD c.toNat 0) (c + l) l = true => by rcases hps with w | w; exact absurd w.1 (by omega); exact absurd (q.2.symm.trans w.2) (by decide)), ← hs]; omega) (hK.trp hfr) (fun a b ha hb h => by rw [hfr _ (by omega) (by omega)]; exact hI a b ha hb h)
  · skip
    refine z_aload_n dX4_mergings_67 rfl ?_
    refine z_getR dX4_mergings_68 gX4_15 rfl (Nat.le_of_ble_eq_true rfl) rfl ?_
    refine z_aload_n dX4_mergings_71 rfl ?_
    refine z_iload dX4_mergings_72 rfl ?_
    refine z_iald dX4_mergings_74 rfl (Nat.le_of_ble_eq_true rfl) (by omega) (fun hr74 => ?_)
    rw [show τ 10 c.toNat = X.getD c.toNat 0 by rw [hK 10 (by decide) (by decide) (by decide)]; have := Seg.getD sX (show c.toNat < X.length by omega); rwa [Nat.zero_add] at this]
    refine z_iload dX4_mergings_75 rfl ?_
    refine z_iload dX4_mergings_77 rfl ?_
    refine z_iload dX4_mergings_79 rfl ?_
    refine z_iadd dX4_mergings_81 ?_
    refine z_iload dX4_mergings_82 rfl ?_
    refine z_callVI (d := d + 2) (av := [_, _, _, _]) dX4_mergings_84 vX4_59 rfl (Nat.le_of_ble_eq_true rfl) rfl rfl rfl (Nat.le_of_ble_eq_true rfl) (Nat.le_refl _) (c_X6_passes (LF := LF) (hK.wc hW) (wok.getD hX (by omega)) hf (by omega) (by omega)) (fun z84 σ84 h84 => ?_)
    obtain ⟨hps, hfr⟩ := h84
    rw [hK.ps] at hps
    refine z_if_eq (tgt := 107) dX4_mergings_87 (by decide) ⟨by omega, by omega⟩ (fun h87 => ?_) (fun h87 => ?_)
    · skip
      first
        | exact j107_mergings hW hf hX hY hl sX sY c l hc h0 k36 τ _ (by rw [if_neg (by omega : ¬ (c.toNat < X.length ∧ _)), ← hs]; omega) hK hI
        | exact j107_mergings hW hf hX hY hl sX sY c l hc h0 k36 σ84 _ (by rw [if_pos (⟨by omega, by rcases hps with q | q; exact q.2; exact absurd q.1 (by omega)⟩ : c.toNat < X.length ∧ _), ← hs]) (hK.trp hfr) (fun a b ha hb h => by rw [hfr _ (by omega) (by omega)]; exact hI a b ha hb h)
        | exact j107_mergings hW hf hX hY hl sX sY c l hc h0 k36 σ84 _ (by rw [if_neg (fun q : c.toNat < X.length ∧ pasC LF σ f (X.getD c.toNat 0) (c + l) l = true => by rcases hps with w | w; exact absurd w.1 (by omega); exact absurd (q.2.symm.trans w.2) (by decide)), ← hs]; omega) (hK.trp hfr) (fun a b ha hb h => by rw [hfr _ (by omega) (by omega)]; exact hI a b ha hb h)
    · skip
      refine z_lload dX4_mergings_90 rfl ?_
      refine z_aload_n dX4_mergings_92 rfl ?_
      refine z_getR dX4_mergings_93 gX4_36 rfl (Nat.le_of_ble_eq_true rfl) rfl ?_
      refine z_iload dX4_mergings_96 rfl ?_
      refine z_iconst dX4_mergings_98 ?_
      refine z_iadd dX4_mergings_99 ?_
      refine z_aald dX4_mergings_100 rfl (Or.inr rfl) (Nat.le_of_ble_eq_true rfl) (by omega) ?_
      refine z_iload dX4_mergings_101 rfl ?_
      refine z_lald dX4_mergings_103 (lay_ways _ (by omega)) (show 59 + (c + 1).toNat < 121 by omega) (by omega) (fun hr103 => ?_)
      rw [show σ84 (59 + (c + 1).toNat) l.toNat = wyW (pasC LF σ f) X Y (c.toNat + 1) l.toNat by rw [hfr _ (by omega) (by omega), toN_s hc.1]; exact hI _ _ (by omega) (by omega) (by omega)]
      refine z_ladd dX4_mergings_104 ?_
      refine z_lstore (L' := [_, _, _, _, _, _, _, _, _, _]) dX4_mergings_105 (Nat.le_of_ble_eq_true rfl) rfl rfl ?_
      first
        | exact j107_mergings hW hf hX hY hl sX sY c l hc h0 k36 τ _ (by rw [if_neg (by omega : ¬ (c.toNat < X.length ∧ _)), ← hs]; omega) hK hI
        | exact j107_mergings hW hf hX hY hl sX sY c l hc h0 k36 σ84 _ (by rw [if_pos (⟨by omega, by rcases hps with q | q; exact q.2; exact absurd q.1 (by omega)⟩ : c.toNat < X.length ∧ _), ← hs]) (hK.trp hfr) (fun a b ha hb h => by rw [hfr _ (by omega) (by omega)]; exact hI a b ha hb h)
        | exact j107_mergings hW hf hX hY hl sX sY c l hc h0 k36 σ84 _ (by rw [if_neg (fun q : c.toNat < X.length ∧ pasC LF σ f (X.getD c.toNat 0) (c + l) l = true => by rcases hps with w | w; exact absurd w.1 (by omega); exact absurd (q.2.symm.trans w.2) (by decide)), ← hs]; omega) (hK.trp hfr) (fun a b ha hb h => by rw [hfr _ (by omega) (by omega)]; exact hI a b ha hb h)
set_option maxRecDepth 20000 in
theorem l_X4_mergings2 {d : Nat} {σ : Sto} {LF : LFT} {f : Int} {X Y : List Int} (hW : WC LF σ) (hf : -1 ≤ f ∧ f ≤ 9) (hX : wok X) (hY : wok Y) (hl : X.length + Y.length ≤ 12) (sX : Seg σ 10 0 X) (sY : Seg σ 11 0 Y) {Q : Option Value → Sto → Prop} (c : Int) (hc : 0 ≤ c ∧ c ≤ X.length)
    (kk : ∀ τ : Sto, wyK σ τ → wyI τ (pasC LF σ f) X Y (c - 1) Y.length → Z (z_me cX4_mergings RX4 10 (some .long) (d + 3) Q) 172 [some (zR 6), some (zR 10), some (zI X.length), some (zR 11), some (zI Y.length), some (zI f), some (zI c), some (zI (-1)), none, none] [] τ) :
    ∀ (n : Nat) (τ : Sto) (l : Int), l + 1 = n → l ≤ Y.length → wyK σ τ → wyI τ (pasC LF σ f) X Y c l → Z (z_me cX4_mergings RX4 10 (some .long) (d + 3) Q) 36 [some (zR 6), some (zR 10), some (zI X.length), some (zR 11), some (zI Y.length), some (zI f), some (zI c), some (zI l), none, none] [] τ
  | 0, τ, l, hn, hly, hK, hI => by
    obtain rfl : l = -1 := by omega
    refine z_iload dX4_mergings_36 rfl ?_
    refine z_if_lt (tgt := 172) dX4_mergings_38 (by decide) ⟨by omega, by omega⟩ (fun h38 => ?_) (fun h38 => ?_)
    · skip
      exact kk τ hK (fun a b ha hb h => hI a b ha hb (by omega))
    · exfalso; omega
  | n + 1, τ, l, hn, hly, hK, hI => by
    refine z_iload dX4_mergings_36 rfl ?_
    refine z_if_lt (tgt := 172) dX4_mergings_38 (by decide) ⟨by omega, by omega⟩ (fun h38 => ?_) (fun h38 => ?_)
    · exfalso; omega
    · skip
      refine z_iload dX4_mergings_41 rfl ?_
      refine z_iload_n dX4_mergings_43 rfl ?_
      refine z_icmp_ne (tgt := 58) dX4_mergings_44 (by decide) ⟨by omega, by omega⟩ ⟨by omega, by omega⟩ (fun h44 => ?_) (fun h44 => ?_)
      · skip
        refine z_lconst (v := 0) dX4_mergings_58 (by decide +kernel) ?_
        refine z_lstore (L' := [_, _, _, _, _, _, _, _, _, _]) dX4_mergings_59 (Nat.le_of_ble_eq_true rfl) rfl rfl ?_
        refine j61_mergings hW hf hX hY hl sX sY c l hc (by omega) (fun τ' h1 h2 => l_X4_mergings2 hW hf hX hY hl sX sY c hc kk n τ' (l + -1) (by omega) (by omega) h1 h2) τ _ ?_ hK hI
        first
          | rw [if_pos (by omega)]
          | rw [if_neg (by omega)]
      · skip
        refine z_iload dX4_mergings_47 rfl ?_
        refine z_iload dX4_mergings_49 rfl ?_
        refine z_icmp_ne (tgt := 58) dX4_mergings_51 (by decide) ⟨by omega, by omega⟩ ⟨by omega, by omega⟩ (fun h51 => ?_) (fun h51 => ?_)
        · skip
          refine z_lconst (v := 0) dX4_mergings_58 (by decide +kernel) ?_
          refine z_lstore (L' := [_, _, _, _, _, _, _, _, _, _]) dX4_mergings_59 (Nat.le_of_ble_eq_true rfl) rfl rfl ?_
          refine j61_mergings hW hf hX hY hl sX sY c l hc (by omega) (fun τ' h1 h2 => l_X4_mergings2 hW hf hX hY hl sX sY c hc kk n τ' (l + -1) (by omega) (by omega) h1 h2) τ _ ?_ hK hI
          first
            | rw [if_pos (by omega)]
            | rw [if_neg (by omega)]
        · skip
          refine z_lconst (v := 1) dX4_mergings_54 (by decide +kernel) ?_
          refine z_goto (tgt := 59) dX4_mergings_55 (by decide) ?_
          refine z_lstore (L' := [_, _, _, _, _, _, _, _, _, _]) dX4_mergings_59 (Nat.le_of_ble_eq_true rfl) rfl rfl ?_
          refine j61_mergings hW hf hX hY hl sX sY c l hc (by omega) (fun τ' h1 h2 => l_X4_mergings2 hW hf hX hY hl sX sY c hc kk n τ' (l + -1) (by omega) (by omega) h1 h2) τ _ ?_ hK hI
          first
            | rw [if_pos (by omega)]
            | rw [if_neg (by omega)]
set_option maxRecDepth 20000 in
theorem l_X4_mergings1 {d : Nat} {σ : Sto} {LF : LFT} {f : Int} {X Y : List Int} (hW : WC LF σ) (hf : -1 ≤ f ∧ f ≤ 9) (hX : wok X) (hY : wok Y) (hl : X.length + Y.length ≤ 12) (sX : Seg σ 10 0 X) (sY : Seg σ 11 0 Y) {Q : Option Value → Sto → Prop} (kk : ∀ τ : Sto, wyK σ τ → wyI τ (pasC LF σ f) X Y (-1) Y.length → Z (z_me cX4_mergings RX4 10 (some .long) (d + 3) Q) 178 [some (zR 6), some (zR 10), some (zI X.length), some (zR 11), some (zI Y.length), some (zI f), some (zI (-1)), none, none, none] [] τ) :
    ∀ (n : Nat) (τ : Sto) (c : Int), c + 1 = n → c ≤ X.length → wyK σ τ → wyI τ (pasC LF σ f) X Y c Y.length → Z (z_me cX4_mergings RX4 10 (some .long) (d + 3) Q) 27 [some (zR 6), some (zR 10), some (zI X.length), some (zR 11), some (zI Y.length), some (zI f), some (zI c), none, none, none] [] τ
  | 0, τ, c, hn, hcx, hK, hI => by
    obtain rfl : c = -1 := by omega
    refine z_iload dX4_mergings_27 rfl ?_
    refine z_if_lt (tgt := 178) dX4_mergings_29 (by decide) ⟨by omega, by omega⟩ (fun h29 => ?_) (fun h29 => ?_)
    · skip
      exact kk τ hK hI
    · exfalso; omega
  | n + 1, τ, c, hn, hcx, hK, hI => by
    refine z_iload dX4_mergings_27 rfl ?_
    refine z_if_lt (tgt := 178) dX4_mergings_29 (by decide) ⟨by omega, by omega⟩ (fun h29 => ?_) (fun h29 => ?_)
    · exfalso; omega
    · skip
      refine z_iload dX4_mergings_32 rfl ?_
      refine z_istore (L' := [_, _, _, _, _, _, _, _, _, _]) dX4_mergings_34 (Nat.le_of_ble_eq_true rfl) rfl rfl ?_
      refine l_X4_mergings2 hW hf hX hY hl sX sY c (by omega) (fun τ' h1 h2 => ?_) (Y.length + 1) τ Y.length (by omega) (by omega) hK hI
      refine z_iinc (L' := [_, _, _, _, _, _, _, _, _, _]) dX4_mergings_172 (Nat.le_of_ble_eq_true rfl) rfl rfl rfl ?_
      refine z_goto (tgt := 27) dX4_mergings_175 (by decide) ?_
      refine z_forget [true, true, true, true, true, true, true, false, false, false] (L' := [_, _, _, _, _, _, _, _, _, _]) rfl ?_
      exact l_X4_mergings1 hW hf hX hY hl sX sY kk n τ' (c + -1) (by omega) (by omega) h1 (by rw [show c + -1 = c - 1 from rfl]; exact h2)
set_option maxRecDepth 20000 in
/-- Search.mergings: the ways, and they lie in the rows of ways -/
theorem c_X4_mergings {d : Nat} {σ : Sto} {LF : LFT} {f : Int} {X Y : List Int} (hW : WC LF σ) (hf : -1 ≤ f ∧ f ≤ 9) (hX : wok X) (hY : wok Y) (hx12 : X.length ≤ 12) (hy12 : Y.length ≤ 12) (sX : Seg σ 10 0 X) (sY : Seg σ 11 0 Y) : m_X4_mergings d [zR 6, zR 10, zI X.length, zR 11, zI Y.length, zI f] σ (qJ fun z σ' => (12 < X.length + Y.length ∧ z = 0 ∧ σ' = σ) ∨ (X.length + Y.length ≤ 12 ∧ z = wyW (pasC LF σ f) X Y 0 0 ∧ wyK σ σ' ∧ wyI σ' (pasC LF σ f) X Y (-1) Y.length)) := by
  refine z_does (L := [some (zR 6), some (zR 10), some (zI X.length), some (zR 11), some (zI Y.length), some (zI f), none, none, none, none]) rfl (by decide +kernel) (Nat.le_of_ble_eq_true rfl) rfl ?_
  refine z_iload_n dX4_mergings_0 rfl ?_
  refine z_iload dX4_mergings_1 rfl ?_
  refine z_iadd dX4_mergings_3 ?_
  refine z_bipush (v := 12) dX4_mergings_4 (by decide +kernel) ?_
  refine z_icmp_gt (tgt := 22) dX4_mergings_6 (by decide) ⟨by omega, by omega⟩ ⟨by omega, by omega⟩ (fun h6 => ?_) (fun h6 => ?_)
  · first
    | exfalso; omega
    | skip
      refine z_lconst (v := 0) dX4_mergings_22 (by decide +kernel) ?_
      exact z_lret dX4_mergings_23 (Or.inl ⟨by omega, rfl, rfl⟩)
  · first
    | exfalso; omega
    | skip
      refine z_iload_n dX4_mergings_9 rfl ?_
      refine z_aload_n dX4_mergings_10 rfl ?_
      refine z_alen dX4_mergings_11 rfl (Nat.le_of_ble_eq_true rfl) (Nat.le_of_ble_eq_true rfl) ?_
      refine z_icmp_gt (tgt := 22) dX4_mergings_12 (by decide) ⟨by omega, by omega⟩ ⟨by omega, by omega⟩ (fun h12 => ?_) (fun h12 => ?_)
      · first
        | exfalso; omega
        | skip
          refine z_lconst (v := 0) dX4_mergings_22 (by decide +kernel) ?_
          exact z_lret dX4_mergings_23 (Or.inl ⟨by omega, rfl, rfl⟩)
      · first
        | exfalso; omega
        | skip
          refine z_iload dX4_mergings_15 rfl ?_
          refine z_aload_n dX4_mergings_17 rfl ?_
          refine z_alen dX4_mergings_18 rfl (Nat.le_of_ble_eq_true rfl) (Nat.le_of_ble_eq_true rfl) ?_
          refine z_icmp_le (tgt := 24) dX4_mergings_19 (by decide) ⟨by omega, by omega⟩ ⟨by omega, by omega⟩ (fun h19 => ?_) (fun h19 => ?_)
          · first
            | exfalso; omega
            | skip
              refine z_iload_n dX4_mergings_24 rfl ?_
              refine z_istore (L' := [_, _, _, _, _, _, _, _, _, _]) dX4_mergings_25 (Nat.le_of_ble_eq_true rfl) rfl rfl ?_
              refine l_X4_mergings1 hW hf hX hY (by omega) sX sY (fun τ h1 h2 => ?_) (X.length + 1) σ X.length (by omega) (by omega) (wyK.rf σ) (fun a b ha hb h => absurd h (by omega))
              have e0 := h2 0 0 (by omega) (by omega) (by omega)
              refine z_aload_n dX4_mergings_178 rfl ?_
              refine z_getR dX4_mergings_179 gX4_36 rfl (Nat.le_of_ble_eq_true rfl) rfl ?_
              refine z_iconst dX4_mergings_182 ?_
              refine z_aald dX4_mergings_183 rfl (Or.inr rfl) (Nat.le_of_ble_eq_true rfl) (by omega) ?_
              refine z_iconst dX4_mergings_184 ?_
              refine z_lald dX4_mergings_185 rfl (Nat.le_of_ble_eq_true rfl) (by omega) (fun hr => ?_)
              exact z_lret dX4_mergings_186 (Or.inr ⟨by omega, e0, h1, h2⟩)
          · first
            | exfalso; omega
            | skip
              refine z_lconst (v := 0) dX4_mergings_22 (by decide +kernel) ?_
              exact z_lret dX4_mergings_23 (Or.inl ⟨by omega, rfl, rfl⟩)
