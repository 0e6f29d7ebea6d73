/-! ===== The reference: in how many ways it may have been said ===== -/
abbrev fsK : Sto → Sto → Prop := frM [101, 102, 108] []
def wyIM (τ : Sto) (ps : Int → Int → Int → Bool) (X Y : List Int) (c l : Int) : Prop := ∀ a b : Nat, a ≤ X.length → b ≤ Y.length → (c < a ∨ (c = a ∧ l < b)) → τ 108 (13 * a + b) = wyW ps X Y a b
set_option maxRecDepth 20000 in
theorem j87_findSaid {d : Nat} {σ : Sto} {m : Int} {ps : Int → Int → Int → Bool} {X Y : List Int} (hl : X.length + Y.length ≤ 12) {Q : Option Value → Sto → Prop} (c l : Int) (hc : 0 ≤ c ∧ c ≤ X.length) (h0 : 0 ≤ l ∧ l ≤ Y.length) (k14 : ∀ τ' : Sto, fsK σ τ' → wyIM τ' ps X Y c (l + -1) → Z (z_me cX9_findSaid RX9 6 none (d + 6) Q) 14 [some (zR 9), some (zI m), some (zI c), some (zI (l + -1)), none, none] [] τ') (τ : Sto) (s : Int) (hs : s = wyW ps X Y c.toNat l.toNat) (hK : fsK σ τ) (hI : wyIM τ ps X Y c l) : Z (z_me cX9_findSaid RX9 6 none (d + 6) Q) 87 [some (zR 9), some (zI m), some (zI c), some (zI l), some (zJ s), none] [] τ := by
  have n3 := wyW_R (ps := ps) (c := c.toNat) (l := l.toNat) hl
  refine z_aload_n dX9_findSaid_87 rfl ?_
  refine z_getR dX9_findSaid_88 gX9_97 rfl (Nat.le_of_ble_eq_true rfl) rfl ?_
  refine z_bipush (v := 13) dX9_findSaid_91 (by decide +kernel) ?_
  refine z_iload_n dX9_findSaid_93 rfl ?_
  refine z_imul dX9_findSaid_94 ?_
  refine z_iload_n dX9_findSaid_95 rfl ?_
  refine z_iadd dX9_findSaid_96 ?_
  refine z_lload dX9_findSaid_97 rfl ?_
  refine z_last dX9_findSaid_99 rfl (Nat.le_of_ble_eq_true rfl) (by omega) ⟨by omega, by omega⟩ ?_
  refine z_iinc (L' := [_, _, _, _, _, _]) dX9_findSaid_100 (Nat.le_of_ble_eq_true rfl) rfl rfl rfl ?_
  refine z_goto (tgt := 14) dX9_findSaid_103 (by decide) ?_
  refine z_forget [true, true, true, true, false, false] (L' := [_, _, _, _, _, _]) rfl ?_
  refine k14 _ (frM.putA hK (by decide) (by decide)) (fun a b ha hb h => ?_)
  rw [z_rd, if_pos rfl]
  by_cases h1 : 13 * a + b = (13 * c + l).toNat
  · rw [if_pos h1, hs, show a = c.toNat by omega, show b = l.toNat by omega]
  · rw [if_neg h1]
    exact hI a b ha hb (by omega)
set_option maxRecDepth 20000 in
theorem j64_findSaid {d : Nat} {σ : Sto} {LF : LFT} {m : Int} {X Y : List Int} (hW : WM LF σ) (hY : reM σ Y) (hm : -1 ≤ m ∧ m < 5) (hl : X.length + Y.length ≤ 12) {Q : Option Value → Sto → Prop} (c l : Int) (hc : 0 ≤ c ∧ c ≤ X.length) (h0 : 0 ≤ l ∧ l ≤ Y.length) (k14 : ∀ τ' : Sto, fsK σ τ' → wyIM τ' (pasM LF σ (finM σ m)) X Y c (l + -1) → Z (z_me cX9_findSaid RX9 6 none (d + 6) Q) 14 [some (zR 9), some (zI m), some (zI c), some (zI (l + -1)), none, none] [] τ') (τ : Sto) (s : Int) (hs : s = (if c.toNat = X.length ∧ l.toNat = Y.length then 1 else 0) + (if c.toNat < X.length ∧ pasM LF σ (finM σ m) (X.getD c.toNat 0) (c + l) l = true then wyW (pasM LF σ (finM σ m)) X Y (c.toNat + 1) l.toNat else 0)) (hK : fsK σ τ) (hI : wyIM τ (pasM LF σ (finM σ m)) X Y c l) : Z (z_me cX9_findSaid RX9 6 none (d + 6) Q) 64 [some (zR 9), some (zI m), some (zI c), some (zI l), some (zJ s), none] [] τ := by
  have n1 := wyW_R (ps := pasM LF σ (finM σ m)) (c := c.toNat + 1) (l := l.toNat) hl
  have n2 := wyW_R (ps := pasM LF σ (finM σ m)) (c := c.toNat) (l := l.toNat + 1) hl
  have er := wyW_eqI (ps := pasM LF σ (finM σ m)) hc h0
  rw [← hs] at er
  have hsR : 0 ≤ s ∧ s ≤ 4000000 := by rw [hs]; split <;> split <;> omega
  refine z_aload_n dX9_findSaid_64 rfl ?_
  refine z_iload_n dX9_findSaid_65 rfl ?_
  refine z_iload_n dX9_findSaid_66 rfl ?_
  refine z_iload_n dX9_findSaid_67 rfl ?_
  refine z_callVI (d := d + 5) (av := [_, _, _]) dX9_findSaid_68 vX9_355 rfl (Nat.le_of_ble_eq_true rfl) rfl rfl rfl (Nat.le_of_ble_eq_true rfl) (Nat.le_refl _) (c_X9_stays (LF := LF) (hK.wm hW rfl) (hY.fr hK (by decide) (by decide)) (by omega) h0 hm) (fun z68 σ68 h68 => ?_)
  obtain ⟨hst, hfr⟩ := h68
  rw [hK.fi rfl, hK.pm rfl] at hst
  have hr68 : inR z68 := by rcases hst with q | q; rw [q.1]; decide; rw [q.1]; decide
  refine z_if_eq (tgt := 87) dX9_findSaid_71 (by decide) ⟨by omega, by omega⟩ (fun h71 => ?_) (fun h71 => ?_)
  · skip
    first
      | exact j87_findSaid hl c l hc h0 k14 σ68 _ (by rw [er, if_pos ⟨by omega, hst2.2⟩]) (hK.tr (hfr.mono (by decide) (by decide))) (fun a b ha hb h => by rw [hfr.1 108 (by decide) (by decide)]; exact hI a b ha hb h)
      | exact j87_findSaid hl c l hc h0 k14 σ68 _ (by rw [er, if_neg (fun q => by rcases hst with w | w; exact absurd w.1 (by omega); exact w.2 ⟨by omega, q.2⟩)]; omega) (hK.tr (hfr.mono (by decide) (by decide))) (fun a b ha hb h => by rw [hfr.1 108 (by decide) (by decide)]; exact hI a b ha hb h)
  · skip
    have hst2 : l < Y.length ∧ pasM LF σ (finM σ m) (Y.getD l.toNat 0) (c + l) l = false := by rcases hst with q | q; exact q.2; exact absurd q.1 (by omega)
    refine z_lload dX9_findSaid_74 rfl ?_
    refine z_aload_n dX9_findSaid_76 rfl ?_
    refine z_iload_n dX9_findSaid_77 rfl ?_
    refine z_iload_n dX9_findSaid_78 rfl ?_
    refine z_iconst dX9_findSaid_79 ?_
    refine z_iadd dX9_findSaid_80 ?_
    refine z_callVJ (d := d + 5) (av := [_, _]) dX9_findSaid_81 vX9_351 rfl (Nat.le_of_ble_eq_true rfl) rfl rfl rfl (Nat.le_of_ble_eq_true rfl) (Nat.le_refl _) (c_X9_wayAt (by omega) (by omega)) (fun z81 σ81 h81 => ?_)
    obtain ⟨hz, hzr, hs81⟩ := h81
    subst σ81
    have e81 : z81 = wyW (pasM LF σ (finM σ m)) X Y c.toNat (l.toNat + 1) := by rw [hz, hfr.1 108 (by decide) (by decide), show (13 * c + (l + 1)).toNat = 13 * c.toNat + (l.toNat + 1) by omega]; exact hI _ _ (by omega) (by omega) (by omega)
    rw [e81]
    refine z_ladd dX9_findSaid_84 ?_
    refine z_lstore (L' := [_, _, _, _, _, _]) dX9_findSaid_85 (Nat.le_of_ble_eq_true rfl) rfl rfl ?_
    first
      | exact j87_findSaid hl c l hc h0 k14 σ68 _ (by rw [er, if_pos ⟨by omega, hst2.2⟩]) (hK.tr (hfr.mono (by decide) (by decide))) (fun a b ha hb h => by rw [hfr.1 108 (by decide) (by decide)]; exact hI a b ha hb h)
      | exact j87_findSaid hl c l hc h0 k14 σ68 _ (by rw [er, if_neg (fun q => by rcases hst with w | w; exact absurd w.1 (by omega); exact w.2 ⟨by omega, q.2⟩)]; omega) (hK.tr (hfr.mono (by decide) (by decide))) (fun a b ha hb h => by rw [hfr.1 108 (by decide) (by decide)]; exact hI a b ha hb h)
set_option maxRecDepth 20000 in
theorem j41_findSaid {d : Nat} {σ : Sto} {LF : LFT} {m : Int} {X Y : List Int} (hW : WM LF σ) (hX : r1M σ X) (hY : reM σ Y) (hm : -1 ≤ m ∧ m < 5) (hl : X.length + Y.length ≤ 12) {Q : Option Value → Sto → Prop} (c l : Int) (hc : 0 ≤ c ∧ c ≤ X.length) (h0 : 0 ≤ l ∧ l ≤ Y.length) (k14 : ∀ τ' : Sto, fsK σ τ' → wyIM τ' (pasM LF σ (finM σ m)) X Y c (l + -1) → Z (z_me cX9_findSaid RX9 6 none (d + 6) Q) 14 [some (zR 9), some (zI m), some (zI c), some (zI (l + -1)), none, none] [] τ') (τ : Sto) (s : Int) (hs : s = (if c.toNat = X.length ∧ l.toNat = Y.length then 1 else 0)) (hK : fsK σ τ) (hI : wyIM τ (pasM LF σ (finM σ m)) X Y c l) : Z (z_me cX9_findSaid RX9 6 none (d + 6) Q) 41 [some (zR 9), some (zI m), some (zI c), some (zI l), some (zJ s), none] [] τ := by
  have n1 := wyW_R (ps := pasM LF σ (finM σ m)) (c := c.toNat + 1) (l := l.toNat) hl
  have hsR : 0 ≤ s ∧ s ≤ 1 := by rw [hs]; split <;> omega
  refine z_aload_n dX9_findSaid_41 rfl ?_
  refine z_iload_n dX9_findSaid_42 rfl ?_
  refine z_iload_n dX9_findSaid_43 rfl ?_
  refine z_iload_n dX9_findSaid_44 rfl ?_
  refine z_callVI (d := d + 5) (av := [_, _, _]) dX9_findSaid_45 vX9_348 rfl (Nat.le_of_ble_eq_true rfl) rfl rfl rfl (Nat.le_of_ble_eq_true rfl) (Nat.le_refl _) (c_X9_comes (LF := LF) (hK.wm hW rfl) (hX.fr hK (by decide) (by decide)) hc (by omega) hm) (fun z45 σ45 h45 => ?_)
  obtain ⟨hst, hfr⟩ := h45
  rw [hK.fi rfl, hK.pm rfl] at hst
  have hr45 : inR z45 := by rcases hst with q | q; rw [q.1]; decide; rw [q.1]; decide
  refine z_if_eq (tgt := 64) dX9_findSaid_48 (by decide) ⟨by omega, by omega⟩ (fun h48 => ?_) (fun h48 => ?_)
  · skip
    first
      | exact j64_findSaid hW hY hm hl c l hc h0 k14 σ45 _ (by rw [if_pos (⟨by omega, hst2.2⟩ : c.toNat < X.length ∧ _), ← hs]) (hK.tr (hfr.mono (by decide) (by decide))) (fun a b ha hb h => by rw [hfr.1 108 (by decide) (by decide)]; exact hI a b ha hb h)
      | exact j64_findSaid hW hY hm hl c l hc h0 k14 σ45 _ (by rw [if_neg (fun q : c.toNat < X.length ∧ pasM LF σ (finM σ m) (X.getD c.toNat 0) (c + l) l = true => by rcases hst with w | w; exact absurd w.1 (by omega); exact w.2 ⟨by omega, q.2⟩), ← hs]; omega) (hK.tr (hfr.mono (by decide) (by decide))) (fun a b ha hb h => by rw [hfr.1 108 (by decide) (by decide)]; exact hI a b ha hb h)
  · skip
    have hst2 : c < X.length ∧ pasM LF σ (finM σ m) (X.getD c.toNat 0) (c + l) l = true := by rcases hst with q | q; exact q.2; exact absurd q.1 (by omega)
    refine z_lload dX9_findSaid_51 rfl ?_
    refine z_aload_n dX9_findSaid_53 rfl ?_
    refine z_iload_n dX9_findSaid_54 rfl ?_
    refine z_iconst dX9_findSaid_55 ?_
    refine z_iadd dX9_findSaid_56 ?_
    refine z_iload_n dX9_findSaid_57 rfl ?_
    refine z_callVJ (d := d + 5) (av := [_, _]) dX9_findSaid_58 vX9_351 rfl (Nat.le_of_ble_eq_true rfl) rfl rfl rfl (Nat.le_of_ble_eq_true rfl) (Nat.le_refl _) (c_X9_wayAt (by omega) (by omega)) (fun z58 σ58 h58 => ?_)
    obtain ⟨hz, hzr, hs58⟩ := h58
    subst σ58
    have e58 : z58 = wyW (pasM LF σ (finM σ m)) X Y (c.toNat + 1) l.toNat := by rw [hz, hfr.1 108 (by decide) (by decide), show (13 * (c + 1) + l).toNat = 13 * (c.toNat + 1) + l.toNat by omega]; exact hI _ _ (by omega) (by omega) (by omega)
    rw [e58]
    refine z_ladd dX9_findSaid_61 ?_
    refine z_lstore (L' := [_, _, _, _, _, _]) dX9_findSaid_62 (Nat.le_of_ble_eq_true rfl) rfl rfl ?_
    first
      | exact j64_findSaid hW hY hm hl c l hc h0 k14 σ45 _ (by rw [if_pos (⟨by omega, hst2.2⟩ : c.toNat < X.length ∧ _), ← hs]) (hK.tr (hfr.mono (by decide) (by decide))) (fun a b ha hb h => by rw [hfr.1 108 (by decide) (by decide)]; exact hI a b ha hb h)
      | exact j64_findSaid hW hY hm hl c l hc h0 k14 σ45 _ (by rw [if_neg (fun q : c.toNat < X.length ∧ pasM LF σ (finM σ m) (X.getD c.toNat 0) (c + l) l = true => by rcases hst with w | w; exact absurd w.1 (by omega); exact w.2 ⟨by omega, q.2⟩), ← hs]; omega) (hK.tr (hfr.mono (by decide) (by decide))) (fun a b ha hb h => by rw [hfr.1 108 (by decide) (by decide)]; exact hI a b ha hb h)
set_option maxRecDepth 20000 in
theorem l2_X9_findSaid {d : Nat} {σ : Sto} {LF : LFT} {m : Int} {X Y : List Int} (hW : WM LF σ) (hX : r1M σ X) (hY : reM σ Y) (hm : -1 ≤ m ∧ m < 5) (hl : X.length + Y.length ≤ 12) {Q : Option Value → Sto → Prop} (c : Int) (hc : 0 ≤ c ∧ c ≤ X.length)
    (kk : ∀ τ : Sto, fsK σ τ → wyIM τ (pasM LF σ (finM σ m)) X Y (c - 1) Y.length → Z (z_me cX9_findSaid RX9 6 none (d + 6) Q) 106 [some (zR 9), some (zI m), some (zI c), some (zI (-1)), none, none] [] τ) :
    ∀ (n : Nat) (τ : Sto) (l : Int), l + 1 = n → l ≤ Y.length → fsK σ τ → wyIM τ (pasM LF σ (finM σ m)) X Y c l → Z (z_me cX9_findSaid RX9 6 none (d + 6) Q) 14 [some (zR 9), some (zI m), some (zI c), some (zI l), none, none] [] τ
  | 0, τ, l, hn, hly, hK, hI => by
    obtain rfl : l = -1 := by omega
    refine z_iload_n dX9_findSaid_14 rfl ?_
    refine z_if_lt (tgt := 106) dX9_findSaid_15 (by decide) ⟨by omega, by omega⟩ (fun h15 => ?_) (fun h15 => ?_)
    · skip
      exact kk τ hK (fun a b ha hb h => hI a b ha hb (by omega))
    · exfalso; omega
  | n + 1, τ, l, hn, hly, hK, hI => by
    have e43 : τ 9 43 = X.length := by rw [hK.2 43 (by decide)]; exact hX.1
    have e46 : τ 9 46 = Y.length := by rw [hK.2 46 (by decide)]; exact hY.1
    refine z_iload_n dX9_findSaid_14 rfl ?_
    refine z_if_lt (tgt := 106) dX9_findSaid_15 (by decide) ⟨by omega, by omega⟩ (fun h15 => ?_) (fun h15 => ?_)
    · exfalso; omega
    · skip
      refine z_iload_n dX9_findSaid_18 rfl ?_
      refine z_aload_n dX9_findSaid_19 rfl ?_
      refine z_getI dX9_findSaid_20 gX9_315 rfl (Nat.le_of_ble_eq_true rfl) rfl (fun hr20 => ?_)
      refine z_icmp_ne (tgt := 38) dX9_findSaid_23 (by decide) ⟨by omega, by omega⟩ ⟨by omega, by omega⟩ (fun h23 => ?_) (fun h23 => ?_)
      · skip
        refine z_lconst (v := 0) dX9_findSaid_38 (by decide +kernel) ?_
        refine z_lstore (L' := [_, _, _, _, _, _]) dX9_findSaid_39 (Nat.le_of_ble_eq_true rfl) rfl rfl ?_
        refine j41_findSaid hW hX hY hm hl c l hc (by omega) (fun τ' h1 h2 => l2_X9_findSaid hW hX hY hm hl c hc kk n τ' (l + -1) (by omega) (by omega) h1 h2) τ _ ?_ hK hI
        first
          | rw [if_pos (by omega)]
          | rw [if_neg (by omega)]
      · skip
        refine z_iload_n dX9_findSaid_26 rfl ?_
        refine z_aload_n dX9_findSaid_27 rfl ?_
        refine z_getI dX9_findSaid_28 gX9_345 rfl (Nat.le_of_ble_eq_true rfl) rfl (fun hr28 => ?_)
        refine z_icmp_ne (tgt := 38) dX9_findSaid_31 (by decide) ⟨by omega, by omega⟩ ⟨by omega, by omega⟩ (fun h31 => ?_) (fun h31 => ?_)
        · skip
          refine z_lconst (v := 0) dX9_findSaid_38 (by decide +kernel) ?_
          refine z_lstore (L' := [_, _, _, _, _, _]) dX9_findSaid_39 (Nat.le_of_ble_eq_true rfl) rfl rfl ?_
          refine j41_findSaid hW hX hY hm hl c l hc (by omega) (fun τ' h1 h2 => l2_X9_findSaid hW hX hY hm hl c hc kk n τ' (l + -1) (by omega) (by omega) h1 h2) τ _ ?_ hK hI
          first
            | rw [if_pos (by omega)]
            | rw [if_neg (by omega)]
        · skip
          refine z_lconst (v := 1) dX9_findSaid_34 (by decide +kernel) ?_
          refine z_goto (tgt := 39) dX9_findSaid_35 (by decide) ?_
          refine z_lstore (L' := [_, _, _, _, _, _]) dX9_findSaid_39 (Nat.le_of_ble_eq_true rfl) rfl rfl ?_
          refine j41_findSaid hW hX hY hm hl c l hc (by omega) (fun τ' h1 h2 => l2_X9_findSaid hW hX hY hm hl c hc kk n τ' (l + -1) (by omega) (by omega) h1 h2) τ _ ?_ hK hI
          first
            | rw [if_pos (by omega)]
            | rw [if_neg (by omega)]
set_option maxRecDepth 20000 in
theorem l1_X9_findSaid {d : Nat} {σ : Sto} {LF : LFT} {m : Int} {X Y : List Int} (hW : WM LF σ) (hX : r1M σ X) (hY : reM σ Y) (hm : -1 ≤ m ∧ m < 5) (hl : X.length + Y.length ≤ 12) :
    ∀ (n : Nat) (τ : Sto) (c : Int), c + 1 = n → c ≤ X.length → fsK σ τ → wyIM τ (pasM LF σ (finM σ m)) X Y c Y.length → Z (z_me cX9_findSaid RX9 6 none (d + 6) (qV fun σ' => fsK σ σ' ∧ wyIM σ' (pasM LF σ (finM σ m)) X Y (-1) Y.length)) 5 [some (zR 9), some (zI m), some (zI c), none, none, none] [] τ
  | 0, τ, c, hn, hcx, hK, hI => by
    obtain rfl : c = -1 := by omega
    refine z_iload_n dX9_findSaid_5 rfl ?_
    refine z_if_lt (tgt := 112) dX9_findSaid_6 (by decide) ⟨by omega, by omega⟩ (fun h6 => ?_) (fun h6 => ?_)
    · skip
      exact z_vret dX9_findSaid_112 ⟨hK, hI⟩
    · exfalso; omega
  | n + 1, τ, c, hn, hcx, hK, hI => by
    have e46 : τ 9 46 = Y.length := by rw [hK.2 46 (by decide)]; exact hY.1
    refine z_iload_n dX9_findSaid_5 rfl ?_
    refine z_if_lt (tgt := 112) dX9_findSaid_6 (by decide) ⟨by omega, by omega⟩ (fun h6 => ?_) (fun h6 => ?_)
    · exfalso; omega
    · skip
      refine z_aload_n dX9_findSaid_9 rfl ?_
      refine z_getI dX9_findSaid_10 gX9_345 rfl (Nat.le_of_ble_eq_true rfl) rfl (fun hr10 => ?_)
      rw [e46]
      refine z_istore_n (L' := [_, _, _, _, _, _]) dX9_findSaid_13 (Nat.le_of_ble_eq_true rfl) rfl rfl ?_
      refine l2_X9_findSaid hW hX hY hm hl c (by omega) (fun τ' h1 h2 => ?_) (Y.length + 1) τ Y.length (by omega) (by omega) hK hI
      refine z_iinc (L' := [_, _, _, _, _, _]) dX9_findSaid_106 (Nat.le_of_ble_eq_true rfl) rfl rfl rfl ?_
      refine z_goto (tgt := 5) dX9_findSaid_109 (by decide) ?_
      refine z_forget [true, true, true, false, false, false] (L' := [_, _, _, _, _, _]) rfl ?_
      exact l1_X9_findSaid hW hX hY hm hl n τ' (c + -1) (by omega) (by omega) h1 (by rw [show c + -1 = c - 1 from rfl]; exact h2)
set_option maxRecDepth 20000 in
theorem c_X9_findSaid {d : Nat} {σ : Sto} {LF : LFT} {m : Int} {X Y : List Int} (hW : WM LF σ) (hX : r1M σ X) (hY : reM σ Y) (hm : -1 ≤ m ∧ m < 5) (hl : X.length + Y.length ≤ 12) : m_X9_findSaid d [zR 9, zI m] σ (qV fun σ' => fsK σ σ' ∧ wyIM σ' (pasM LF σ (finM σ m)) X Y (-1) Y.length) := by
  have e43 : σ 9 43 = X.length := hX.1
  refine z_does (L := [some (zR 9), some (zI m), none, none, none, none]) rfl (by decide +kernel) (Nat.le_of_ble_eq_true rfl) rfl ?_
  refine z_aload_n dX9_findSaid_0 rfl ?_
  refine z_getI dX9_findSaid_1 gX9_315 rfl (Nat.le_of_ble_eq_true rfl) rfl (fun hr1 => ?_)
  rw [e43]
  refine z_istore_n (L' := [_, _, _, _, _, _]) dX9_findSaid_4 (Nat.le_of_ble_eq_true rfl) rfl rfl ?_
  exact l1_X9_findSaid hW hX hY hm hl (X.length + 1) σ X.length (by omega) (by omega) (frM.rf _ _ σ) (fun a b ha hb h => absurd h (by omega))
set_option maxRecDepth 20000 in
theorem c_X9_isMuch {d : Nat} {σ : Sto} {X Y : List Int} (hX : r1M σ X) (hY : reM σ Y) : m_X9_isMuch d [zR 9] σ (qI fun z σ' => σ' = σ ∧ yn z (12 < X.length + Y.length)) := by
  obtain ⟨x1, -, -, x4⟩ := hX
  obtain ⟨y1, -, -, y4⟩ := hY
  refine z_does (L := [some (zR 9)]) rfl (by decide +kernel) (Nat.le_of_ble_eq_true rfl) rfl ?_
  refine z_aload_n dX9_isMuch_0 rfl ?_
  refine z_getI dX9_isMuch_1 gX9_315 rfl (Nat.le_of_ble_eq_true rfl) rfl (fun hr1 => ?_)
  refine z_aload_n dX9_isMuch_4 rfl ?_
  refine z_getI dX9_isMuch_5 gX9_345 rfl (Nat.le_of_ble_eq_true rfl) rfl (fun hr5 => ?_)
  refine z_iadd dX9_isMuch_8 ?_
  refine z_bipush (v := 12) dX9_isMuch_9 (by decide +kernel) ?_
  refine z_icmp_le (tgt := 18) dX9_isMuch_11 (by decide) ⟨by omega, by omega⟩ ⟨by omega, by omega⟩ (fun h11 => ?_) (fun h11 => ?_)
  · skip
    refine z_iconst dX9_isMuch_18 ?_
    exact z_zret dX9_isMuch_19 (by omega) ⟨rfl, by omega⟩
  · skip
    refine z_iconst dX9_isMuch_14 ?_
    refine z_goto (tgt := 19) dX9_isMuch_15 (by decide) ?_
    exact z_zret dX9_isMuch_19 (by omega) ⟨rfl, by omega⟩
