/-! ===== Search: sayings with so many left ===== -/
def al (ps : Int → Int → Int → Bool) (wn : Nat) (X : List Int) (m : Nat) : Nat → Nat → Nat → Int
  | 0, _, _ => 0
  | n + 1, c, l => ((if c = X.length ∧ l = m then 1 else 0) + (if c < X.length ∧ ps (X.getD c 0) (c + l : Nat) l = true then al ps wn X m n (c + 1) l else 0)) + (if l < m then al ps wn X m n c (l + 1) * wlF (fun w => ps w (c + l : Nat) l) wn 0 else 0)
def bd14 : Nat → Int
  | 0 => 1
  | n + 1 => 14 * bd14 n
theorem bd14_1 : ∀ n, 1 ≤ bd14 n
  | 0 => by decide
  | n + 1 => by have := bd14_1 n; rw [bd14]; omega
theorem bd14_R : ∀ n, n < 14 → bd14 n ≤ 793714773254144 := by decide
theorem mul12 {a b t : Int} (ha : 0 ≤ a ∧ a ≤ t) (hb : 0 ≤ b ∧ b ≤ 12) : 0 ≤ a * b ∧ a * b ≤ 12 * t := by
  have h1 : 0 ≤ a * b := Int.mul_nonneg ha.1 hb.1
  have h2 : a * b ≤ a * 12 := Int.mul_le_mul_of_nonneg_left hb.2 ha.1
  omega
theorem al_R {ps : Int → Int → Int → Bool} {wn : Nat} {X : List Int} {m : Nat} (hw : wn ≤ 12) : ∀ (n c l : Nat), 0 ≤ al ps wn X m n c l ∧ al ps wn X m n c l ≤ bd14 n
  | 0, _, _ => by simp [al, bd14]
  | n + 1, c, l => by
    have h1 := al_R hw n (c + 1) l (ps := ps) (X := X) (m := m)
    have h2 := al_R hw n c (l + 1) (ps := ps) (X := X) (m := m)
    have h3 := bd14_1 n
    have h4 := wlF_R wn 0 (ps := fun w => ps w (c + l : Nat) l)
    have h5 := mul12 h2 (b := wlF (fun w => ps w (c + l : Nat) l) wn 0) (by omega)
    rw [al, bd14]
    split <;> split <;> split <;> omega
abbrev alW (ps : Int → Int → Int → Bool) (wn : Nat) (X : List Int) (m c l : Nat) : Int := al ps wn X m (X.length + m + 1 - (c + l)) c l
theorem alW_R {ps : Int → Int → Int → Bool} {wn : Nat} {X : List Int} {m c l : Nat} (hw : wn ≤ 12) (h : X.length + m ≤ 12) : 0 ≤ alW ps wn X m c l ∧ alW ps wn X m c l ≤ 793714773254144 := by
  have h1 := al_R hw (X.length + m + 1 - (c + l)) c l (ps := ps) (X := X) (m := m)
  have h2 := bd14_R (X.length + m + 1 - (c + l)) (by omega)
  exact ⟨h1.1, Int.le_trans h1.2 h2⟩
theorem alW_eqI {ps : Int → Int → Int → Bool} {wn : Nat} {X : List Int} {n c l : Int} (hn : 0 ≤ n) (hc : 0 ≤ c ∧ c ≤ X.length) (hl : 0 ≤ l ∧ l ≤ n) : alW ps wn X n.toNat c.toNat l.toNat = ((if c.toNat = X.length ∧ l.toNat = n.toNat then 1 else 0) + (if c.toNat < X.length ∧ ps (X.getD c.toNat 0) (c + l) l = true then alW ps wn X n.toNat (c.toNat + 1) l.toNat else 0)) + (if l.toNat < n.toNat then alW ps wn X n.toNat c.toNat (l.toNat + 1) * wlF (fun w => ps w (c + l) l) wn 0 else 0) := by
  unfold alW
  rw [show X.length + n.toNat + 1 - (c.toNat + l.toNat) = (X.length + n.toNat - (c.toNat + l.toNat)) + 1 by omega, al, show X.length + n.toNat + 1 - (c.toNat + 1 + l.toNat) = X.length + n.toNat - (c.toNat + l.toNat) by omega, show X.length + n.toNat + 1 - (c.toNat + (l.toNat + 1)) = X.length + n.toNat - (c.toNat + l.toNat) by omega, show ((c.toNat + l.toNat : Nat) : Int) = c + l by omega, show ((l.toNat : Nat) : Int) = l by omega]
def alI (τ : Sto) (ps : Int → Int → Int → Bool) (wn : Nat) (X : List Int) (m : Nat) (c l : Int) : Prop := ∀ a b : Nat, a ≤ X.length → b ≤ m → (c < a ∨ (c = a ∧ l < b)) → τ (59 + a) b = alW ps wn X m a b
set_option maxRecDepth 20000 in
theorem j135_alone {d : Nat} {σ : Sto} {LF : LFT} {f n : Int} {X : List Int} (hW : WC LF σ) (hf : -1 ≤ f ∧ f ≤ 9) (hX : wok X) (hn : 0 ≤ n ∧ n ≤ 4) (hl : X.length + n ≤ 12) (sX : Seg σ 10 0 X) {Q : Option Value → Sto → Prop} (c l : Int) (hc : 0 ≤ c ∧ c ≤ X.length) (h0 : 0 ≤ l ∧ l ≤ n) (k27 : ∀ τ' : Sto, wyK σ τ' → alI τ' (pasC LF σ f) (σ 1 1).toNat X n.toNat c (l + -1) → Z (z_me cX4_sayingsWithLeft RX4 9 (some .long) (d + 4) Q) 27 [some (zR 6), some (zR 10), some (zI X.length), some (zI n), some (zI f), some (zI c), some (zI (l + -1)), none, none] [] τ') (τ : Sto) (s : Int) (hs : s = alW (pasC LF σ f) (σ 1 1).toNat X n.toNat c.toNat l.toNat) (hK : wyK σ τ) (hI : alI τ (pasC LF σ f) (σ 1 1).toNat X n.toNat c l) : Z (z_me cX4_sayingsWithLeft RX4 9 (some .long) (d + 4) Q) 135 [some (zR 6), some (zR 10), some (zI X.length), some (zI n), some (zI f), some (zI c), some (zI l), some (zJ s), none] [] τ := by
  have n3 := alW_R (ps := pasC LF σ f) (wn := (σ 1 1).toNat) (X := X) (m := n.toNat) (c := c.toNat) (l := l.toNat) (by have := hW.1; omega) (by omega)
  refine z_aload_n dX4_sayingsWithLeft_135 rfl ?_
  refine z_getR dX4_sayingsWithLeft_136 gX4_36 rfl (Nat.le_of_ble_eq_true rfl) rfl ?_
  refine z_iload dX4_sayingsWithLeft_139 rfl ?_
  refine z_aald dX4_sayingsWithLeft_141 rfl (Or.inr rfl) (Nat.le_of_ble_eq_true rfl) (by omega) ?_
  refine z_iload dX4_sayingsWithLeft_142 rfl ?_
  refine z_lload dX4_sayingsWithLeft_144 rfl ?_
  refine z_last dX4_sayingsWithLeft_146 (lay_ways _ (by omega)) (show 59 + c.toNat < 121 by omega) (by omega) ⟨by omega, by omega⟩ ?_
  refine z_iinc (L' := [_, _, _, _, _, _, _, _, _]) dX4_sayingsWithLeft_147 (Nat.le_of_ble_eq_true rfl) rfl rfl rfl ?_
  refine z_goto (tgt := 27) dX4_sayingsWithLeft_150 (by decide) ?_
  refine z_forget [true, true, true, true, true, true, true, false, false] (L' := [_, _, _, _, _, _, _, _, _]) rfl ?_
  refine k27 _ (hK.put (by omega)) (fun a b ha hb h => ?_)
  rw [z_rd]
  by_cases h1 : 59 + a = 59 + c.toNat ∧ b = l.toNat
  · obtain ⟨h1, h2⟩ := h1
    rw [if_pos h1, if_pos h2, hs, h2, show a = c.toNat by omega]
  · have : (if 59 + a = 59 + c.toNat then (if b = l.toNat then s else τ (59 + a) b) else τ (59 + a) b) = τ (59 + a) b := by grind
    rw [this]
    exact hI a b ha hb (by omega)
set_option maxRecDepth 20000 in
theorem j97_alone {d : Nat} {σ : Sto} {LF : LFT} {f n : Int} {X : List Int} (hW : WC LF σ) (hf : -1 ≤ f ∧ f ≤ 9) (hX : wok X) (hn : 0 ≤ n ∧ n ≤ 4) (hl : X.length + n ≤ 12) (sX : Seg σ 10 0 X) {Q : Option Value → Sto → Prop} (c l : Int) (hc : 0 ≤ c ∧ c ≤ X.length) (h0 : 0 ≤ l ∧ l ≤ n) (k27 : ∀ τ' : Sto, wyK σ τ' → alI τ' (pasC LF σ f) (σ 1 1).toNat X n.toNat c (l + -1) → Z (z_me cX4_sayingsWithLeft RX4 9 (some .long) (d + 4) Q) 27 [some (zR 6), some (zR 10), some (zI X.length), some (zI n), some (zI f), some (zI c), some (zI (l + -1)), none, none] [] τ') (τ : Sto) (s : Int) (hs : s = (if c.toNat = X.length ∧ l.toNat = n.toNat then 1 else 0) + (if c.toNat < X.length ∧ pasC LF σ f (X.getD c.toNat 0) (c + l) l = true then alW (pasC LF σ f) (σ 1 1).toNat X n.toNat (c.toNat + 1) l.toNat else 0)) (hK : wyK σ τ) (hI : alI τ (pasC LF σ f) (σ 1 1).toNat X n.toNat c l) : Z (z_me cX4_sayingsWithLeft RX4 9 (some .long) (d + 4) Q) 97 [some (zR 6), some (zR 10), some (zI X.length), some (zI n), some (zI f), some (zI c), some (zI l), some (zJ s), none] [] τ := by
  have w1 := hW.1
  have n1 := alW_R (ps := pasC LF σ f) (wn := (σ 1 1).toNat) (X := X) (m := n.toNat) (c := c.toNat + 1) (l := l.toNat) (by omega) (by omega)
  have n2 := alW_R (ps := pasC LF σ f) (wn := (σ 1 1).toNat) (X := X) (m := n.toNat) (c := c.toNat) (l := l.toNat + 1) (by omega) (by omega)
  have er := alW_eqI (ps := pasC LF σ f) (wn := (σ 1 1).toNat) hn.1 hc h0
  rw [← hs] at er
  have hsR : 0 ≤ s ∧ s ≤ 793714773254145 := by rw [hs]; split <;> split <;> omega
  have hwl := wlF_R (σ 1 1).toNat 0 (ps := fun w => pasC LF σ f w (c + l) l)
  have hm := mul12 n2 (b := wlF (fun w => pasC LF σ f w (c + l) l) (σ 1 1).toNat 0) (by omega)
  refine z_iload dX4_sayingsWithLeft_97 rfl ?_
  refine z_iload_n dX4_sayingsWithLeft_99 rfl ?_
  refine z_icmp_ge (tgt := 135) dX4_sayingsWithLeft_100 (by decide) ⟨by omega, by omega⟩ ⟨by omega, by omega⟩ (fun h100 => ?_) (fun h100 => ?_)
  · skip
    first
      | exact j135_alone hW hf hX hn hl sX c l hc h0 k27 τ _ (by rw [er, if_neg (by omega)]; omega) hK hI
      | exact j135_alone hW hf hX hn hl sX c l hc h0 k27 σ127 _ (by rw [er, if_pos (by omega)]) (hK.trp hfr) (fun a b ha hb h => by rw [hfr _ (by omega) (by omega)]; exact hI a b ha hb h)
  · skip
    refine z_lload dX4_sayingsWithLeft_103 rfl ?_
    refine z_aload_n dX4_sayingsWithLeft_105 rfl ?_
    refine z_getR dX4_sayingsWithLeft_106 gX4_36 rfl (Nat.le_of_ble_eq_true rfl) rfl ?_
    refine z_iload dX4_sayingsWithLeft_109 rfl ?_
    refine z_aald dX4_sayingsWithLeft_111 rfl (Or.inr rfl) (Nat.le_of_ble_eq_true rfl) (by omega) ?_
    refine z_iload dX4_sayingsWithLeft_112 rfl ?_
    refine z_iconst dX4_sayingsWithLeft_114 ?_
    refine z_iadd dX4_sayingsWithLeft_115 ?_
    refine z_lald dX4_sayingsWithLeft_116 (lay_ways _ (by omega)) (show 59 + c.toNat < 121 by omega) (by omega) (fun hr116 => ?_)
    rw [show τ (59 + c.toNat) (l + 1).toNat = alW (pasC LF σ f) (σ 1 1).toNat X n.toNat c.toNat (l.toNat + 1) by rw [toN_s h0.1]; exact hI _ _ (by omega) (by omega) (by omega)]
    refine z_aload_n dX4_sayingsWithLeft_117 rfl ?_
    refine z_iload dX4_sayingsWithLeft_118 rfl ?_
    refine z_iload dX4_sayingsWithLeft_120 rfl ?_
    refine z_iload dX4_sayingsWithLeft_122 rfl ?_
    refine z_iadd dX4_sayingsWithLeft_124 ?_
    refine z_iload dX4_sayingsWithLeft_125 rfl ?_
    refine z_callVI (d := d + 3) (av := [_, _, _]) dX4_sayingsWithLeft_127 vX4_88 rfl (Nat.le_of_ble_eq_true rfl) rfl rfl rfl (Nat.le_of_ble_eq_true rfl) (Nat.le_refl _) (c_X4_wordsLeftAt (LF := LF) (hK.wc hW) hf (by omega) (by omega)) (fun z127 σ127 h127 => ?_)
    obtain ⟨rfl, hfr⟩ := h127
    rw [hK.ps, hK 1 (by decide) (by decide) (by decide)]
    refine z_i2l dX4_sayingsWithLeft_130 ⟨by omega, by omega⟩ ?_
    refine z_lmul dX4_sayingsWithLeft_131 ?_
    refine z_ladd dX4_sayingsWithLeft_132 ?_
    refine z_lstore (L' := [_, _, _, _, _, _, _, _, _]) dX4_sayingsWithLeft_133 (Nat.le_of_ble_eq_true rfl) rfl rfl ?_
    first
      | exact j135_alone hW hf hX hn hl sX c l hc h0 k27 τ _ (by rw [er, if_neg (by omega)]; omega) hK hI
      | exact j135_alone hW hf hX hn hl sX c l hc h0 k27 σ127 _ (by rw [er, if_pos (by omega)]) (hK.trp hfr) (fun a b ha hb h => by rw [hfr _ (by omega) (by omega)]; exact hI a b ha hb h)
set_option maxRecDepth 20000 in
theorem j51_alone {d : Nat} {σ : Sto} {LF : LFT} {f n : Int} {X : List Int} (hW : WC LF σ) (hf : -1 ≤ f ∧ f ≤ 9) (hX : wok X) (hn : 0 ≤ n ∧ n ≤ 4) (hl : X.length + n ≤ 12) (sX : Seg σ 10 0 X) {Q : Option Value → Sto → Prop} (c l : Int) (hc : 0 ≤ c ∧ c ≤ X.length) (h0 : 0 ≤ l ∧ l ≤ n) (k27 : ∀ τ' : Sto, wyK σ τ' → alI τ' (pasC LF σ f) (σ 1 1).toNat X n.toNat c (l + -1) → Z (z_me cX4_sayingsWithLeft RX4 9 (some .long) (d + 4) Q) 27 [some (zR 6), some (zR 10), some (zI X.length), some (zI n), some (zI f), some (zI c), some (zI (l + -1)), none, none] [] τ') (τ : Sto) (s : Int) (hs : s = (if c.toNat = X.length ∧ l.toNat = n.toNat then 1 else 0)) (hK : wyK σ τ) (hI : alI τ (pasC LF σ f) (σ 1 1).toNat X n.toNat c l) : Z (z_me cX4_sayingsWithLeft RX4 9 (some .long) (d + 4) Q) 51 [some (zR 6), some (zR 10), some (zI X.length), some (zI n), some (zI f), some (zI c), some (zI l), some (zJ s), none] [] τ := by
  have w1 := hW.1
  have n1 := alW_R (ps := pasC LF σ f) (wn := (σ 1 1).toNat) (X := X) (m := n.toNat) (c := c.toNat + 1) (l := l.toNat) (by omega) (by omega)
  have hsR : 0 ≤ s ∧ s ≤ 1 := by rw [hs]; split <;> omega
  refine z_iload dX4_sayingsWithLeft_51 rfl ?_
  refine z_iload_n dX4_sayingsWithLeft_53 rfl ?_
  refine z_icmp_ge (tgt := 97) dX4_sayingsWithLeft_54 (by decide) ⟨by omega, by omega⟩ ⟨by omega, by omega⟩ (fun h54 => ?_) (fun h54 => ?_)
  · skip
    first
      | exact j97_alone hW hf hX hn hl sX c l hc h0 k27 τ _ (by rw [if_neg (by omega : ¬ (c.toNat < X.length ∧ _)), ← hs]; omega) hK hI
      | exact j97_alone hW hf hX hn hl sX c l hc h0 k27 σ74 _ (by rw [if_pos (⟨by omega, by rcases hps with q | q; exact q.2; exact absurd q.1 (by omega)⟩ : c.toNat < X.length ∧ _), ← hs]) (hK.trp hfr) (fun a b ha hb h => by rw [hfr _ (by omega) (by omega)]; exact hI a b ha hb h)
      | exact j97_alone hW hf hX hn hl sX c l hc h0 k27 σ74 _ (by rw [if_neg (fun q : c.toNat < X.length ∧ pasC LF σ f (X.getD c.toNat 0) (c + l) l = true => by rcases hps with w | w; exact absurd w.1 (by omega); exact absurd (q.2.symm.trans w.2) (by decide)), ← hs]; omega) (hK.trp hfr) (fun a b ha hb h => by rw [hfr _ (by omega) (by omega)]; exact hI a b ha hb h)
  · skip
    refine z_aload_n dX4_sayingsWithLeft_57 rfl ?_
    refine z_getR dX4_sayingsWithLeft_58 gX4_15 rfl (Nat.le_of_ble_eq_true rfl) rfl ?_
    refine z_aload_n dX4_sayingsWithLeft_61 rfl ?_
    refine z_iload dX4_sayingsWithLeft_62 rfl ?_
    refine z_iald dX4_sayingsWithLeft_64 rfl (Nat.le_of_ble_eq_true rfl) (by omega) (fun hr64 => ?_)
    rw [show τ 10 c.toNat = X.getD c.toNat 0 by rw [hK 10 (by decide) (by decide) (by decide)]; have := Seg.getD sX (show c.toNat < X.length by omega); rwa [Nat.zero_add] at this]
    refine z_iload dX4_sayingsWithLeft_65 rfl ?_
    refine z_iload dX4_sayingsWithLeft_67 rfl ?_
    refine z_iload dX4_sayingsWithLeft_69 rfl ?_
    refine z_iadd dX4_sayingsWithLeft_71 ?_
    refine z_iload dX4_sayingsWithLeft_72 rfl ?_
    refine z_callVI (d := d + 3) (av := [_, _, _, _]) dX4_sayingsWithLeft_74 vX4_59 rfl (Nat.le_of_ble_eq_true rfl) rfl rfl rfl (Nat.le_of_ble_eq_true rfl) (Nat.le_refl _) (c_X6_passes (LF := LF) (hK.wc hW) (wok.getD hX (by omega)) hf (by omega) (by omega)) (fun z74 σ74 h74 => ?_)
    obtain ⟨hps, hfr⟩ := h74
    rw [hK.ps] at hps
    refine z_if_eq (tgt := 97) dX4_sayingsWithLeft_77 (by decide) ⟨by omega, by omega⟩ (fun h77 => ?_) (fun h77 => ?_)
    · skip
      first
        | exact j97_alone hW hf hX hn hl sX c l hc h0 k27 τ _ (by rw [if_neg (by omega : ¬ (c.toNat < X.length ∧ _)), ← hs]; omega) hK hI
        | exact j97_alone hW hf hX hn hl sX c l hc h0 k27 σ74 _ (by rw [if_pos (⟨by omega, by rcases hps with q | q; exact q.2; exact absurd q.1 (by omega)⟩ : c.toNat < X.length ∧ _), ← hs]) (hK.trp hfr) (fun a b ha hb h => by rw [hfr _ (by omega) (by omega)]; exact hI a b ha hb h)
        | exact j97_alone hW hf hX hn hl sX c l hc h0 k27 σ74 _ (by rw [if_neg (fun q : c.toNat < X.length ∧ pasC LF σ f (X.getD c.toNat 0) (c + l) l = true => by rcases hps with w | w; exact absurd w.1 (by omega); exact absurd (q.2.symm.trans w.2) (by decide)), ← hs]; omega) (hK.trp hfr) (fun a b ha hb h => by rw [hfr _ (by omega) (by omega)]; exact hI a b ha hb h)
    · skip
      refine z_lload dX4_sayingsWithLeft_80 rfl ?_
      refine z_aload_n dX4_sayingsWithLeft_82 rfl ?_
      refine z_getR dX4_sayingsWithLeft_83 gX4_36 rfl (Nat.le_of_ble_eq_true rfl) rfl ?_
      refine z_iload dX4_sayingsWithLeft_86 rfl ?_
      refine z_iconst dX4_sayingsWithLeft_88 ?_
      refine z_iadd dX4_sayingsWithLeft_89 ?_
      refine z_aald dX4_sayingsWithLeft_90 rfl (Or.inr rfl) (Nat.le_of_ble_eq_true rfl) (by omega) ?_
      refine z_iload dX4_sayingsWithLeft_91 rfl ?_
      refine z_lald dX4_sayingsWithLeft_93 (lay_ways _ (by omega)) (show 59 + (c + 1).toNat < 121 by omega) (by omega) (fun hr93 => ?_)
      rw [show σ74 (59 + (c + 1).toNat) l.toNat = alW (pasC LF σ f) (σ 1 1).toNat X n.toNat (c.toNat + 1) l.toNat by rw [hfr _ (by omega) (by omega), toN_s hc.1]; exact hI _ _ (by omega) (by omega) (by omega)]
      refine z_ladd dX4_sayingsWithLeft_94 ?_
      refine z_lstore (L' := [_, _, _, _, _, _, _, _, _]) dX4_sayingsWithLeft_95 (Nat.le_of_ble_eq_true rfl) rfl rfl ?_
      first
        | exact j97_alone hW hf hX hn hl sX c l hc h0 k27 τ _ (by rw [if_neg (by omega : ¬ (c.toNat < X.length ∧ _)), ← hs]; omega) hK hI
        | exact j97_alone hW hf hX hn hl sX c l hc h0 k27 σ74 _ (by rw [if_pos (⟨by omega, by rcases hps with q | q; exact q.2; exact absurd q.1 (by omega)⟩ : c.toNat < X.length ∧ _), ← hs]) (hK.trp hfr) (fun a b ha hb h => by rw [hfr _ (by omega) (by omega)]; exact hI a b ha hb h)
        | exact j97_alone hW hf hX hn hl sX c l hc h0 k27 σ74 _ (by rw [if_neg (fun q : c.toNat < X.length ∧ pasC LF σ f (X.getD c.toNat 0) (c + l) l = true => by rcases hps with w | w; exact absurd w.1 (by omega); exact absurd (q.2.symm.trans w.2) (by decide)), ← hs]; omega) (hK.trp hfr) (fun a b ha hb h => by rw [hfr _ (by omega) (by omega)]; exact hI a b ha hb h)
set_option maxRecDepth 20000 in
theorem l_X4_alone2 {d : Nat} {σ : Sto} {LF : LFT} {f n : Int} {X : List Int} (hW : WC LF σ) (hf : -1 ≤ f ∧ f ≤ 9) (hX : wok X) (hn : 0 ≤ n ∧ n ≤ 4) (hl : X.length + n ≤ 12) (sX : Seg σ 10 0 X) {Q : Option Value → Sto → Prop} (c : Int) (hc : 0 ≤ c ∧ c ≤ X.length)
    (kk : ∀ τ : Sto, wyK σ τ → alI τ (pasC LF σ f) (σ 1 1).toNat X n.toNat (c - 1) n → Z (z_me cX4_sayingsWithLeft RX4 9 (some .long) (d + 4) Q) 153 [some (zR 6), some (zR 10), some (zI X.length), some (zI n), some (zI f), some (zI c), some (zI (-1)), none, none] [] τ) :
    ∀ (m : Nat) (τ : Sto) (l : Int), l + 1 = m → l ≤ n → wyK σ τ → alI τ (pasC LF σ f) (σ 1 1).toNat X n.toNat c l → Z (z_me cX4_sayingsWithLeft RX4 9 (some .long) (d + 4) Q) 27 [some (zR 6), some (zR 10), some (zI X.length), some (zI n), some (zI f), some (zI c), some (zI l), none, none] [] τ
  | 0, τ, l, hm, hly, hK, hI => by
    obtain rfl : l = -1 := by omega
    refine z_iload dX4_sayingsWithLeft_27 rfl ?_
    refine z_if_lt (tgt := 153) dX4_sayingsWithLeft_29 (by decide) ⟨by omega, by omega⟩ (fun h29 => ?_) (fun h29 => ?_)
    · skip
      exact kk τ hK (fun a b ha hb h => hI a b ha hb (by omega))
    · exfalso; omega
  | m + 1, τ, l, hm, hly, hK, hI => by
    refine z_iload dX4_sayingsWithLeft_27 rfl ?_
    refine z_if_lt (tgt := 153) dX4_sayingsWithLeft_29 (by decide) ⟨by omega, by omega⟩ (fun h29 => ?_) (fun h29 => ?_)
    · exfalso; omega
    · skip
      refine z_iload dX4_sayingsWithLeft_32 rfl ?_
      refine z_iload_n dX4_sayingsWithLeft_34 rfl ?_
      refine z_icmp_ne (tgt := 48) dX4_sayingsWithLeft_35 (by decide) ⟨by omega, by omega⟩ ⟨by omega, by omega⟩ (fun h35 => ?_) (fun h35 => ?_)
      · skip
        refine z_lconst (v := 0) dX4_sayingsWithLeft_48 (by decide +kernel) ?_
        refine z_lstore (L' := [_, _, _, _, _, _, _, _, _]) dX4_sayingsWithLeft_49 (Nat.le_of_ble_eq_true rfl) rfl rfl ?_
        refine j51_alone hW hf hX hn hl sX c l hc (by omega) (fun τ' h1 h2 => l_X4_alone2 hW hf hX hn hl sX c hc kk m τ' (l + -1) (by omega) (by omega) h1 h2) τ _ ?_ hK hI
        first
          | rw [if_pos (by omega)]
          | rw [if_neg (by omega)]
      · skip
        refine z_iload dX4_sayingsWithLeft_38 rfl ?_
        refine z_iload_n dX4_sayingsWithLeft_40 rfl ?_
        refine z_icmp_ne (tgt := 48) dX4_sayingsWithLeft_41 (by decide) ⟨by omega, by omega⟩ ⟨by omega, by omega⟩ (fun h41 => ?_) (fun h41 => ?_)
        · skip
          refine z_lconst (v := 0) dX4_sayingsWithLeft_48 (by decide +kernel) ?_
          refine z_lstore (L' := [_, _, _, _, _, _, _, _, _]) dX4_sayingsWithLeft_49 (Nat.le_of_ble_eq_true rfl) rfl rfl ?_
          refine j51_alone hW hf hX hn hl sX c l hc (by omega) (fun τ' h1 h2 => l_X4_alone2 hW hf hX hn hl sX c hc kk m τ' (l + -1) (by omega) (by omega) h1 h2) τ _ ?_ hK hI
          first
            | rw [if_pos (by omega)]
            | rw [if_neg (by omega)]
        · skip
          refine z_lconst (v := 1) dX4_sayingsWithLeft_44 (by decide +kernel) ?_
          refine z_goto (tgt := 49) dX4_sayingsWithLeft_45 (by decide) ?_
          refine z_lstore (L' := [_, _, _, _, _, _, _, _, _]) dX4_sayingsWithLeft_49 (Nat.le_of_ble_eq_true rfl) rfl rfl ?_
          refine j51_alone hW hf hX hn hl sX c l hc (by omega) (fun τ' h1 h2 => l_X4_alone2 hW hf hX hn hl sX c hc kk m τ' (l + -1) (by omega) (by omega) h1 h2) τ _ ?_ hK hI
          first
            | rw [if_pos (by omega)]
            | rw [if_neg (by omega)]
set_option maxRecDepth 20000 in
theorem l_X4_alone1 {d : Nat} {σ : Sto} {LF : LFT} {f n : Int} {X : List Int} (hW : WC LF σ) (hf : -1 ≤ f ∧ f ≤ 9) (hX : wok X) (hn : 0 ≤ n ∧ n ≤ 4) (hl : X.length + n ≤ 12) (sX : Seg σ 10 0 X) {Q : Option Value → Sto → Prop} (kk : ∀ τ : Sto, wyK σ τ → alI τ (pasC LF σ f) (σ 1 1).toNat X n.toNat (-1) n → Z (z_me cX4_sayingsWithLeft RX4 9 (some .long) (d + 4) Q) 159 [some (zR 6), some (zR 10), some (zI X.length), some (zI n), some (zI f), some (zI (-1)), none, none, none] [] τ) :
    ∀ (m : Nat) (τ : Sto) (c : Int), c + 1 = m → c ≤ X.length → wyK σ τ → alI τ (pasC LF σ f) (σ 1 1).toNat X n.toNat c n → Z (z_me cX4_sayingsWithLeft RX4 9 (some .long) (d + 4) Q) 19 [some (zR 6), some (zR 10), some (zI X.length), some (zI n), some (zI f), some (zI c), none, none, none] [] τ
  | 0, τ, c, hm, hcx, hK, hI => by
    obtain rfl : c = -1 := by omega
    refine z_iload dX4_sayingsWithLeft_19 rfl ?_
    refine z_if_lt (tgt := 159) dX4_sayingsWithLeft_21 (by decide) ⟨by omega, by omega⟩ (fun h21 => ?_) (fun h21 => ?_)
    · skip
      exact kk τ hK hI
    · exfalso; omega
  | m + 1, τ, c, hm, hcx, hK, hI => by
    refine z_iload dX4_sayingsWithLeft_19 rfl ?_
    refine z_if_lt (tgt := 159) dX4_sayingsWithLeft_21 (by decide) ⟨by omega, by omega⟩ (fun h21 => ?_) (fun h21 => ?_)
    · exfalso; omega
    · skip
      refine z_iload_n dX4_sayingsWithLeft_24 rfl ?_
      refine z_istore (L' := [_, _, _, _, _, _, _, _, _]) dX4_sayingsWithLeft_25 (Nat.le_of_ble_eq_true rfl) rfl rfl ?_
      refine l_X4_alone2 hW hf hX hn hl sX c (by omega) (fun τ' h1 h2 => ?_) (n.toNat + 1) τ n (by omega) (by omega) hK hI
      refine z_iinc (L' := [_, _, _, _, _, _, _, _, _]) dX4_sayingsWithLeft_153 (Nat.le_of_ble_eq_true rfl) rfl rfl rfl ?_
      refine z_goto (tgt := 19) dX4_sayingsWithLeft_156 (by decide) ?_
      refine z_forget [true, true, true, true, true, true, false, false, false] (L' := [_, _, _, _, _, _, _, _, _]) rfl ?_
      exact l_X4_alone1 hW hf hX hn hl sX kk m τ' (c + -1) (by omega) (by omega) h1 (by rw [show c + -1 = c - 1 from rfl]; exact h2)
set_option maxRecDepth 20000 in
theorem c_X4_sayingsWithLeft {d : Nat} {σ : Sto} {LF : LFT} {f n : Int} {X : List Int} (hW : WC LF σ) (hf : -1 ≤ f ∧ f ≤ 9) (hX : wok X) (hx12 : X.length ≤ 12) (hn : 0 ≤ n ∧ n ≤ 4) (sX : Seg σ 10 0 X) : m_X4_sayingsWithLeft d [zR 6, zR 10, zI X.length, zI n, zI f] σ (qJ fun z σ' => wyK σ σ' ∧ ((12 < X.length + n ∧ z = 0) ∨ (X.length + n ≤ 12 ∧ z = alW (pasC LF σ f) (σ 1 1).toNat X n.toNat 0 0))) := by
  refine z_does (L := [some (zR 6), some (zR 10), some (zI X.length), some (zI n), some (zI f), none, none, none, none]) rfl (by decide +kernel) (Nat.le_of_ble_eq_true rfl) rfl ?_
  refine z_iload_n dX4_sayingsWithLeft_0 rfl ?_
  refine z_iload_n dX4_sayingsWithLeft_1 rfl ?_
  refine z_iadd dX4_sayingsWithLeft_2 ?_
  refine z_bipush (v := 12) dX4_sayingsWithLeft_3 (by decide +kernel) ?_
  refine z_icmp_gt (tgt := 14) dX4_sayingsWithLeft_5 (by decide) ⟨by omega, by omega⟩ ⟨by omega, by omega⟩ (fun h5 => ?_) (fun h5 => ?_)
  · first
    | exfalso; omega
    | skip
      refine z_lconst (v := 0) dX4_sayingsWithLeft_14 (by decide +kernel) ?_
      exact z_lret dX4_sayingsWithLeft_15 ⟨wyK.rf σ, Or.inl ⟨by omega, rfl⟩⟩
  · first
    | exfalso; omega
    | skip
      refine z_iload_n dX4_sayingsWithLeft_8 rfl ?_
      refine z_aload_n dX4_sayingsWithLeft_9 rfl ?_
      refine z_alen dX4_sayingsWithLeft_10 rfl (Nat.le_of_ble_eq_true rfl) (Nat.le_of_ble_eq_true rfl) ?_
      refine z_icmp_le (tgt := 16) dX4_sayingsWithLeft_11 (by decide) ⟨by omega, by omega⟩ ⟨by omega, by omega⟩ (fun h11 => ?_) (fun h11 => ?_)
      · first
        | exfalso; omega
        | skip
          refine z_iload_n dX4_sayingsWithLeft_16 rfl ?_
          refine z_istore (L' := [_, _, _, _, _, _, _, _, _]) dX4_sayingsWithLeft_17 (Nat.le_of_ble_eq_true rfl) rfl rfl ?_
          refine l_X4_alone1 hW hf hX hn (by omega) sX (fun τ h1 h2 => ?_) (X.length + 1) σ X.length (by omega) (by omega) (wyK.rf σ) (fun a b ha hb h => absurd h (by omega))
          have e0 := h2 0 0 (by omega) (by omega) (by omega)
          refine z_aload_n dX4_sayingsWithLeft_159 rfl ?_
          refine z_getR dX4_sayingsWithLeft_160 gX4_36 rfl (Nat.le_of_ble_eq_true rfl) rfl ?_
          refine z_iconst dX4_sayingsWithLeft_163 ?_
          refine z_aald dX4_sayingsWithLeft_164 rfl (Or.inr rfl) (Nat.le_of_ble_eq_true rfl) (by omega) ?_
          refine z_iconst dX4_sayingsWithLeft_165 ?_
          refine z_lald dX4_sayingsWithLeft_166 rfl (Nat.le_of_ble_eq_true rfl) (by omega) (fun hr => ?_)
          exact z_lret dX4_sayingsWithLeft_167 ⟨h1, Or.inr ⟨by omega, e0⟩⟩
      · first
        | exfalso; omega
        | skip
          refine z_lconst (v := 0) dX4_sayingsWithLeft_14 (by decide +kernel) ?_
          exact z_lret dX4_sayingsWithLeft_15 ⟨wyK.rf σ, Or.inl ⟨by omega, rfl⟩⟩
