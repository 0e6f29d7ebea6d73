/-! ===== TalkStrainer: of whom, how likely, the game, draws ===== -/
def mnG (hr : Int) (ps : Int → Int → Int → Bool) (A1 A4 : Nat → Int) (X : List Int) (w : Int) : Int :=
  if w < 0 ∨ 1 < w then -1 else if hr ≠ 0 then hr else if w = 0 then mhL (fun p => hlL A4 A1 p (cmL ps X 0 0).2) 6 0 (-2) 0
  else bitL (fun p => decide (hlL A4 A1 p (cmL ps X 0 0).2 > 0) && !anyL A4 p (cmL ps X 0 0).1) 6 0 0
set_option maxRecDepth 20000 in
theorem c_X8_meant {d : Nat} {σ : Sto} {LF : LFT} {s m w : Int} (hW : WC LF σ) (hS : SH σ) (hs : inR s) (hm : inR m) (hw : inR w) : m_X8_meant d [zR 0, zI s, zI m, zI w] σ (qI fun z σ' => z = mnG (hrC σ s m) (pasC LF σ (finC σ m)) (σ 14) (σ 17) (SYC σ s) w ∧ KC σ σ') := by
  have hfR := finC_R (m := m) hW
  have w2 := hW.2.1
  refine z_does (L := [some (zR 0), some (zI s), some (zI m), some (zI w), none]) rfl (by decide +kernel) (Nat.le_of_ble_eq_true rfl) rfl ?_
  refine z_iload_n dX8_meant_0 rfl ?_
  refine z_if_lt (tgt := 9) dX8_meant_1 (by decide) ⟨by omega, by omega⟩ (fun h1 => ?_) (fun h1 => ?_)
  · first
    | exfalso; omega
    | skip
      refine z_iconst dX8_meant_9 ?_
      exact z_iret dX8_meant_10 ⟨by unfold mnG; rw [if_pos (by omega)], KC.rf σ⟩
  · first
    | exfalso; omega
    | skip
      refine z_iload_n dX8_meant_4 rfl ?_
      refine z_iconst dX8_meant_5 ?_
      refine z_icmp_le (tgt := 11) dX8_meant_6 (by decide) ⟨by omega, by omega⟩ ⟨by omega, by omega⟩ (fun h6 => ?_) (fun h6 => ?_)
      · first
        | exfalso; omega
        | skip
          refine z_aload_n dX8_meant_11 rfl ?_
          refine z_iload_n dX8_meant_12 rfl ?_
          refine z_iload_n dX8_meant_13 rfl ?_
          refine z_callVI (d := d + 5) (av := [_, _]) dX8_meant_14 vX8_146 rfl (Nat.le_of_ble_eq_true rfl) rfl rfl rfl (Nat.le_of_ble_eq_true rfl) (Nat.le_refl _) (c_X8_hear (LF := LF) hW hS (by omega) (by omega)) (fun z14 σ14 h14 => ?_)
          have hzr : -12 ≤ z14 ∧ z14 ≤ 12 := by rcases h14 with q | q; have := hrC_n q.1; have := q.2.1; omega; have := q.2.1; have := SYC_len (σ := σ) (s := s); omega
          refine z_istore (L' := [_, _, _, _, _]) dX8_meant_17 (Nat.le_of_ble_eq_true rfl) rfl rfl ?_
          refine z_iload dX8_meant_19 rfl ?_
          refine z_if_ge (tgt := 27) dX8_meant_21 (by decide) ⟨by omega, by omega⟩ (fun h21 => ?_) (fun h21 => ?_)
          · first
            | exfalso; omega
            | skip
              have hh : hrC σ s m = 0 ∧ z14 = (SYC σ s).length ∧ (∀ a, a ≠ 10 → σ14 a = σ a) ∧ Seg σ14 10 0 (SYC σ s) := by rcases h14 with q | q; exfalso; have := q.2.2.1; omega; exact q
              obtain ⟨hh1, hh2, hh3, hh4⟩ := hh
              subst hh2
              obtain ⟨hs6, hm5, h30⟩ := hrC_0 hh1
              have hk := k1.kc hh3 (by decide)
              have hWt := hk.wc hW
              have hx12 := SYC_len (σ := σ) (s := s)
              have hxw := SYC_wok (s := s) hW
              refine z_aload_n dX8_meant_27 rfl ?_
              refine z_getR dX8_meant_28 gX8_42 rfl (Nat.le_of_ble_eq_true rfl) rfl ?_
              refine z_aload_n dX8_meant_31 rfl ?_
              refine z_getR dX8_meant_32 gX8_69 rfl (Nat.le_of_ble_eq_true rfl) rfl ?_
              refine z_iload dX8_meant_35 rfl ?_
              refine z_aload_n dX8_meant_37 rfl ?_
              refine z_iload_n dX8_meant_38 rfl ?_
              refine z_callVI (d := d + 5) (av := [_]) dX8_meant_39 vX8_139 rfl (Nat.le_of_ble_eq_true rfl) rfl rfl rfl (Nat.le_of_ble_eq_true rfl) (Nat.le_refl _) (c_X8_fineOf (by omega)) (fun z39 σ39 h39 => ?_)
              obtain ⟨rfl, hs39⟩ := h39
              subst σ39
              rw [hk.fin]
              refine z_iconst dX8_meant_42 ?_
              refine z_callVV (d := d + 5) (av := [_, _, _, _]) dX8_meant_43 vX8_149 rfl (Nat.le_of_ble_eq_true rfl) rfl rfl rfl (Nat.le_of_ble_eq_true rfl) (Nat.le_refl _) (c_X6_strain (LF := LF) (xs := (SYC σ s)) hWt rfl (Nat.le_of_ble_eq_true rfl) (by decide) (by decide) (by omega) (by omega) rfl hxw hh4 (by omega)) (fun σ43 h43 => ?_)
              obtain ⟨t1, t2, t3, t4, t5⟩ := h43
              rw [hk.ps] at t2 t3 t4 t5
              have hk2 := hk.tr t1.kc
              have hcl := cmL_len (ps := pasC LF σ (finC σ m)) (SYC σ s) 0 0
              have hcw := cmL_wok (ps := pasC LF σ (finC σ m)) (SYC σ s) 0 0 hxw
              have hWu := hk2.wc hW
              refine z_iload_n dX8_meant_46 rfl ?_
              refine z_if_ne (tgt := 60) dX8_meant_47 (by decide) ⟨by omega, by omega⟩ (fun h47 => ?_) (fun h47 => ?_)
              · skip
                refine z_aload_n dX8_meant_60 rfl ?_
                refine z_getR dX8_meant_61 gX8_42 rfl (Nat.le_of_ble_eq_true rfl) rfl ?_
                refine z_callVI (d := d + 5) (av := []) dX8_meant_64 vX8_239 rfl (Nat.le_of_ble_eq_true rfl) rfl rfl rfl (Nat.le_of_ble_eq_true rfl) (Nat.le_refl _) (c_X6_spite (A := (cmL (pasC LF σ (finC σ m)) (SYC σ s) 0 0).1) (B := (cmL (pasC LF σ (finC σ m)) (SYC σ s) 0 0).2) hWu t2 (by omega) t4 hcw.1 t3 (by omega) t5 hcw.2) (fun z64 σ64 h64 => ?_)
                obtain ⟨rfl, hs64⟩ := h64
                subst σ64
                rw [hk2 14 (by omega), hk2 17 (by omega)]
                exact z_iret dX8_meant_67 ⟨by unfold mnG; rw [if_neg (by omega), if_neg (by omega)]; first | rw [if_pos (by omega)] | rw [if_neg (by omega)], hk2⟩
              · skip
                refine z_aload_n dX8_meant_50 rfl ?_
                refine z_getR dX8_meant_51 gX8_42 rfl (Nat.le_of_ble_eq_true rfl) rfl ?_
                refine z_callVI (d := d + 5) (av := []) dX8_meant_54 vX8_236 rfl (Nat.le_of_ble_eq_true rfl) rfl rfl rfl (Nat.le_of_ble_eq_true rfl) (Nat.le_refl _) (c_X6_mostHarmLeftOf (B := (cmL (pasC LF σ (finC σ m)) (SYC σ s) 0 0).2) hWu t3 (by omega) t5 hcw.2) (fun z54 σ54 h54 => ?_)
                obtain ⟨rfl, hs54⟩ := h54
                subst σ54
                rw [hk2 14 (by omega), hk2 17 (by omega)]
                refine z_goto (tgt := 67) dX8_meant_57 (by decide) ?_
                exact z_iret dX8_meant_67 ⟨by unfold mnG; rw [if_neg (by omega), if_neg (by omega)]; first | rw [if_pos (by omega)] | rw [if_neg (by omega)], hk2⟩
          · first
            | exfalso; omega
            | skip
              have hh : hrC σ s m ≠ 0 ∧ z14 = hrC σ s m ∧ σ14 = σ := by rcases h14 with q | q; exact ⟨q.1, q.2.1, q.2.2.2⟩; exfalso; have := q.2.1; omega
              obtain ⟨hh1, hh2, hs⟩ := hh
              subst σ14
              refine z_iload dX8_meant_24 rfl ?_
              exact z_iret dX8_meant_26 ⟨by unfold mnG; rw [if_neg (by omega), if_pos hh1, hh2], KC.rf σ⟩
      · first
        | exfalso; omega
        | skip
          refine z_iconst dX8_meant_9 ?_
          exact z_iret dX8_meant_10 ⟨by unfold mnG; rw [if_pos (by omega)], KC.rf σ⟩
def gcF : Nat → Int → Int → Int
  | 0, a, _ => a
  | n + 1, a, b => if b = 0 then a else gcF n b (a.tmod b)
theorem gcd_em {a b : Int} (ha : 0 ≤ a) (hb : 0 ≤ b) : Int.gcd (a % b) b = Int.gcd a b := by
  obtain ⟨x, rfl⟩ := Int.eq_ofNat_of_zero_le ha
  obtain ⟨y, rfl⟩ := Int.eq_ofNat_of_zero_le hb
  rw [← Int.natCast_emod]
  show Nat.gcd (x % y) y = Nat.gcd x y
  rw [← Nat.gcd_rec, Nat.gcd_comm]
theorem gcF_gcd : ∀ (n : Nat) (a b : Int), 0 ≤ a → 0 ≤ b → b < n → gcF n a b = Int.gcd a b
  | 0, a, b, _, h1, h2 => by omega
  | n + 1, a, b, h0, h1, h2 => by
    rw [gcF]
    by_cases h : b = 0
    · rw [if_pos h, h, Int.gcd_zero_right]; omega
    · rw [if_neg h]
      have e : a.tmod b = a % b := Int.tmod_eq_emod_of_nonneg h0
      have h3 := Int.emod_lt_of_pos a (show 0 < b by omega)
      have h4 := Int.emod_nonneg a h
      rw [e, gcF_gcd n b (a % b) h1 h4 (by omega), Int.gcd_comm b (a % b)]
      congr 1
      exact gcd_em h0 h1
theorem gcF_100 {a b : Int} (ha : 0 ≤ a ∧ a ≤ 117) (hb : 0 ≤ b ∧ b ≤ 117) : gcF 100 a b = Int.gcd a b := by
  by_cases h1 : b < 100
  · exact gcF_gcd 100 a b ha.1 hb.1 (by omega)
  · rw [gcF, if_neg (by omega)]
    have e : a.tmod b = a % b := Int.tmod_eq_emod_of_nonneg ha.1
    have h3 := Int.emod_lt_of_pos a (show 0 < b by omega)
    have h4 := Int.emod_nonneg a (show b ≠ 0 by omega)
    have g1 : (Int.gcd a b : Int) = Int.gcd b (a % b) := by rw [Int.gcd_comm b (a % b)]; congr 1; exact (gcd_em ha.1 hb.1).symm
    by_cases h5 : a % b < 99
    · rw [e, gcF_gcd 99 b (a % b) hb.1 h4 (by omega), g1]
    · rw [e, gcF, if_neg (by omega)]
      have e2 : b.tmod (a % b) = b % (a % b) := Int.tmod_eq_emod_of_nonneg hb.1
      have h6 : b % (a % b) = b - a % b := by
        have : b % (a % b) = (b - a % b) % (a % b) := (Int.sub_emod_right b (a % b)).symm
        rw [this, Int.emod_eq_of_lt (by omega) (by omega)]
      have g2 : (Int.gcd b (a % b) : Int) = Int.gcd (a % b) (b % (a % b)) := by rw [Int.gcd_comm (a % b) (b % (a % b))]; congr 1; exact (gcd_em hb.1 h4).symm
      rw [e2, gcF_gcd 98 (a % b) (b % (a % b)) h4 (by omega) (by omega), g1, g2]
set_option maxRecDepth 20000 in
theorem l_X8_gcd {d : Nat} {σ : Sto} {a0 b0 : Int} :
    ∀ (n : Nat) (a b s : Int), s + n = 100 → 0 ≤ s → (0 ≤ a ∧ a ≤ 1000) → (0 ≤ b ∧ b ≤ 1000) →
    Z (z_me cX8_greatestCommon RX8 6 (some .int) (d + 0) (qI fun z σ' => z = gcF n a b ∧ σ' = σ)) 7 [some (zI a0), some (zI b0), some (zI a), some (zI b), some (zI s), none] [] σ
  | 0, a, b, s, hs, h0, ha, hb => by
    refine z_iload dX8_greatestCommon_7 rfl ?_
    refine z_bipush (v := 100) dX8_greatestCommon_9 (by decide +kernel) ?_
    refine z_icmp_ge (tgt := 34) dX8_greatestCommon_11 (by decide) ⟨by omega, by omega⟩ ⟨by omega, by omega⟩ (fun h11 => ?_) (fun h11 => ?_)
    · skip
      refine z_iload_n dX8_greatestCommon_34 rfl ?_
      exact z_iret dX8_greatestCommon_35 ⟨rfl, rfl⟩
    · exfalso; omega
  | n + 1, a, b, s, hs, h0, ha, hb => by
    have hm : b ≠ 0 → 0 ≤ a.tmod b ∧ a.tmod b ≤ 1000 := fun h => by
      have e : a.tmod b = a % b := Int.tmod_eq_emod_of_nonneg ha.1
      have h3 := Int.emod_lt_of_pos a (show 0 < b by omega)
      have h4 := Int.emod_nonneg a h
      omega
    refine z_iload dX8_greatestCommon_7 rfl ?_
    refine z_bipush (v := 100) dX8_greatestCommon_9 (by decide +kernel) ?_
    refine z_icmp_ge (tgt := 34) dX8_greatestCommon_11 (by decide) ⟨by omega, by omega⟩ ⟨by omega, by omega⟩ (fun h11 => ?_) (fun h11 => ?_)
    · exfalso; omega
    · skip
      refine z_iload_n dX8_greatestCommon_14 rfl ?_
      refine z_if_eq (tgt := 34) dX8_greatestCommon_15 (by decide) ⟨by omega, by omega⟩ (fun h15 => ?_) (fun h15 => ?_)
      · skip
        refine z_iload_n dX8_greatestCommon_34 rfl ?_
        exact z_iret dX8_greatestCommon_35 ⟨by rw [gcF, if_pos h15], rfl⟩
      · skip
        refine z_iload_n dX8_greatestCommon_18 rfl ?_
        refine z_iload_n dX8_greatestCommon_19 rfl ?_
        refine z_irem dX8_greatestCommon_20 ⟨by omega, by omega⟩ ⟨by omega, by omega⟩ (by omega) ?_
        refine z_istore (L' := [_, _, _, _, _, _]) dX8_greatestCommon_21 (Nat.le_of_ble_eq_true rfl) rfl rfl ?_
        refine z_iload_n dX8_greatestCommon_23 rfl ?_
        refine z_istore_n (L' := [_, _, _, _, _, _]) dX8_greatestCommon_24 (Nat.le_of_ble_eq_true rfl) rfl rfl ?_
        refine z_iload dX8_greatestCommon_25 rfl ?_
        refine z_istore_n (L' := [_, _, _, _, _, _]) dX8_greatestCommon_27 (Nat.le_of_ble_eq_true rfl) rfl rfl ?_
        refine z_iinc (L' := [_, _, _, _, _, _]) dX8_greatestCommon_28 (Nat.le_of_ble_eq_true rfl) rfl rfl rfl ?_
        refine z_goto (tgt := 7) dX8_greatestCommon_31 (by decide) ?_
        refine z_forget [true, true, true, true, true, false] (L' := [_, _, _, _, _, _]) rfl ?_
        rw [gcF, if_neg h15]
        exact l_X8_gcd n _ _ (s + 1) (by omega) (by omega) hb (hm h15)
set_option maxRecDepth 20000 in
theorem c_X8_greatestCommon {d : Nat} {σ : Sto} {a b : Int} (ha : 0 ≤ a ∧ a ≤ 117) (hb : 0 ≤ b ∧ b ≤ 117) : m_X8_greatestCommon d [zI a, zI b] σ (qI fun z σ' => z = Int.gcd a b ∧ σ' = σ) := by
  refine z_does (L := [some (zI a), some (zI b), none, none, none, none]) rfl (by decide +kernel) (Nat.le_of_ble_eq_true rfl) rfl ?_
  refine z_iload_n dX8_greatestCommon_0 rfl ?_
  refine z_istore_n (L' := [_, _, _, _, _, _]) dX8_greatestCommon_1 (Nat.le_of_ble_eq_true rfl) rfl rfl ?_
  refine z_iload_n dX8_greatestCommon_2 rfl ?_
  refine z_istore_n (L' := [_, _, _, _, _, _]) dX8_greatestCommon_3 (Nat.le_of_ble_eq_true rfl) rfl rfl ?_
  refine z_iconst dX8_greatestCommon_4 ?_
  refine z_istore (L' := [_, _, _, _, _, _]) dX8_greatestCommon_5 (Nat.le_of_ble_eq_true rfl) rfl rfl ?_
  have h := l_X8_gcd (d := d) (σ := σ) (a0 := a) (b0 := b) 100 a b 0 (by omega) (by omega) (by omega) (by omega)
  rw [gcF_100 ha hb] at h
  exact h
def lkG (hr : Int) (ps : Int → Int → Int → Bool) (A1 A4 : Nat → Int) (X : List Int) (one part : Int) : Int :=
  if one < 0 ∨ 5 < one ∨ part < 0 ∨ 1 < part then minJ else if hr ≠ 0 then minJ
  else if (Int.gcd (hlL A4 A1 one (cmL ps X 0 0).2) (sumL A1 (cmL ps X 0 0).2) : Int) = 0 then part
  else if part = 0 then (hlL A4 A1 one (cmL ps X 0 0).2).tdiv (Int.gcd (hlL A4 A1 one (cmL ps X 0 0).2) (sumL A1 (cmL ps X 0 0).2))
  else (sumL A1 (cmL ps X 0 0).2).tdiv (Int.gcd (hlL A4 A1 one (cmL ps X 0 0).2) (sumL A1 (cmL ps X 0 0).2))
theorem gcd_R {a b : Int} (ha : 0 ≤ a ∧ a ≤ 117) (hb : 0 ≤ b ∧ b ≤ 117) : 0 ≤ (Int.gcd a b : Int) ∧ (Int.gcd a b : Int) ≤ 117 := by
  refine ⟨by omega, ?_⟩
  by_cases h : a = 0
  · subst h; rw [Int.gcd_zero_left]; omega
  · have := Int.gcd_le_natAbs_left b h
    omega
theorem tdiv_R {a g : Int} (ha : 0 ≤ a ∧ a ≤ 117) (hg : 0 ≤ g) : 0 ≤ a.tdiv g ∧ a.tdiv g ≤ 117 := by
  refine ⟨Int.tdiv_nonneg ha.1 hg, ?_⟩
  rw [Int.tdiv_eq_ediv_of_nonneg ha.1]
  exact Int.le_trans (Int.ediv_le_self _ ha.1) ha.2
set_option maxRecDepth 20000 in
set_option maxHeartbeats 1000000 in
theorem c_X8_likely {d : Nat} {σ : Sto} {LF : LFT} {s m one part : Int} (hW : WC LF σ) (hS : SH σ) (hs : inR s) (hm : inR m) (h1 : inR one) (h2 : inR part) : m_X8_likely d [zR 0, zI s, zI m, zI one, zI part] σ (qJ fun z σ' => z = lkG (hrC σ s m) (pasC LF σ (finC σ m)) (σ 14) (σ 17) (SYC σ s) one part ∧ KC σ σ') := by
  have hfR := finC_R (m := m) hW
  have w2 := hW.2.1
  refine z_does (L := [some (zR 0), some (zI s), some (zI m), some (zI one), some (zI part), none, none, none, none]) rfl (by decide +kernel) (Nat.le_of_ble_eq_true rfl) rfl ?_
  refine z_iload_n dX8_likely_0 rfl ?_
  refine z_if_lt (tgt := 20) dX8_likely_1 (by decide) ⟨by omega, by omega⟩ (fun h1 => ?_) (fun h1 => ?_)
  · first
    | exfalso; omega
    | skip
      refine z_ldc2 dX8_likely_20 kX8_215 ?_
      exact z_lret dX8_likely_23 ⟨by unfold lkG; rw [if_pos (by omega)]; rfl, KC.rf σ⟩
  · first
    | exfalso; omega
    | skip
      refine z_iload_n dX8_likely_4 rfl ?_
      refine z_iconst dX8_likely_5 ?_
      refine z_icmp_gt (tgt := 20) dX8_likely_6 (by decide) ⟨by omega, by omega⟩ ⟨by omega, by omega⟩ (fun h6 => ?_) (fun h6 => ?_)
      · first
        | exfalso; omega
        | skip
          refine z_ldc2 dX8_likely_20 kX8_215 ?_
          exact z_lret dX8_likely_23 ⟨by unfold lkG; rw [if_pos (by omega)]; rfl, KC.rf σ⟩
      · first
        | exfalso; omega
        | skip
          refine z_iload dX8_likely_9 rfl ?_
          refine z_if_lt (tgt := 20) dX8_likely_11 (by decide) ⟨by omega, by omega⟩ (fun h11 => ?_) (fun h11 => ?_)
          · first
            | exfalso; omega
            | skip
              refine z_ldc2 dX8_likely_20 kX8_215 ?_
              exact z_lret dX8_likely_23 ⟨by unfold lkG; rw [if_pos (by omega)]; rfl, KC.rf σ⟩
          · first
            | exfalso; omega
            | skip
              refine z_iload dX8_likely_14 rfl ?_
              refine z_iconst dX8_likely_16 ?_
              refine z_icmp_le (tgt := 24) dX8_likely_17 (by decide) ⟨by omega, by omega⟩ ⟨by omega, by omega⟩ (fun h17 => ?_) (fun h17 => ?_)
              · first
                | exfalso; omega
                | skip
                  refine z_aload_n dX8_likely_24 rfl ?_
                  refine z_iload_n dX8_likely_25 rfl ?_
                  refine z_iload_n dX8_likely_26 rfl ?_
                  refine z_callVI (d := d + 5) (av := [_, _]) dX8_likely_27 vX8_146 rfl (Nat.le_of_ble_eq_true rfl) rfl rfl rfl (Nat.le_of_ble_eq_true rfl) (Nat.le_refl _) (c_X8_hear (LF := LF) hW hS (by omega) (by omega)) (fun z27 σ27 h27 => ?_)
                  have hzr : -12 ≤ z27 ∧ z27 ≤ 12 := by rcases h27 with q | q; have := hrC_n q.1; have := q.2.1; omega; have := q.2.1; have := SYC_len (σ := σ) (s := s); omega
                  refine z_istore (L' := [_, _, _, _, _, _, _, _, _]) dX8_likely_30 (Nat.le_of_ble_eq_true rfl) rfl rfl ?_
                  refine z_iload dX8_likely_32 rfl ?_
                  refine z_if_ge (tgt := 41) dX8_likely_34 (by decide) ⟨by omega, by omega⟩ (fun h34 => ?_) (fun h34 => ?_)
                  · first
                    | exfalso; omega
                    | skip
                      have hh : hrC σ s m = 0 ∧ z27 = (SYC σ s).length ∧ (∀ a, a ≠ 10 → σ27 a = σ a) ∧ Seg σ27 10 0 (SYC σ s) := by rcases h27 with q | q; exfalso; have := q.2.2.1; omega; exact q
                      obtain ⟨hh1, hh2, hh3, hh4⟩ := hh
                      subst hh2
                      obtain ⟨hs6, hm5, h30⟩ := hrC_0 hh1
                      have hk := k1.kc hh3 (by decide)
                      have hWt := hk.wc hW
                      have hx12 := SYC_len (σ := σ) (s := s)
                      have hxw := SYC_wok (s := s) hW
                      refine z_aload_n dX8_likely_41 rfl ?_
                      refine z_getR dX8_likely_42 gX8_42 rfl (Nat.le_of_ble_eq_true rfl) rfl ?_
                      refine z_aload_n dX8_likely_45 rfl ?_
                      refine z_getR dX8_likely_46 gX8_69 rfl (Nat.le_of_ble_eq_true rfl) rfl ?_
                      refine z_iload dX8_likely_49 rfl ?_
                      refine z_aload_n dX8_likely_51 rfl ?_
                      refine z_iload_n dX8_likely_52 rfl ?_
                      refine z_callVI (d := d + 5) (av := [_]) dX8_likely_53 vX8_139 rfl (Nat.le_of_ble_eq_true rfl) rfl rfl rfl (Nat.le_of_ble_eq_true rfl) (Nat.le_refl _) (c_X8_fineOf (by omega)) (fun z53 σ53 h53 => ?_)
                      obtain ⟨rfl, hs53⟩ := h53
                      subst σ53
                      rw [hk.fin]
                      refine z_iconst dX8_likely_56 ?_
                      refine z_callVV (d := d + 5) (av := [_, _, _, _]) dX8_likely_57 vX8_149 rfl (Nat.le_of_ble_eq_true rfl) rfl rfl rfl (Nat.le_of_ble_eq_true rfl) (Nat.le_refl _) (c_X6_strain (LF := LF) (xs := (SYC σ s)) hWt rfl (Nat.le_of_ble_eq_true rfl) (by decide) (by decide) (by omega) (by omega) rfl hxw hh4 (by omega)) (fun σ57 h57 => ?_)
                      obtain ⟨t1, t2, t3, t4, t5⟩ := h57
                      rw [hk.ps] at t2 t3 t4 t5
                      have hk2 := hk.tr t1.kc
                      have hcl := cmL_len (ps := pasC LF σ (finC σ m)) (SYC σ s) 0 0
                      have hcw := cmL_wok (ps := pasC LF σ (finC σ m)) (SYC σ s) 0 0 hxw
                      have hWu := hk2.wc hW
                      refine z_aload_n dX8_likely_60 rfl ?_
                      refine z_getR dX8_likely_61 gX8_42 rfl (Nat.le_of_ble_eq_true rfl) rfl ?_
                      refine z_iload_n dX8_likely_64 rfl ?_
                      refine z_callVI (d := d + 5) (av := [_]) dX8_likely_65 vX8_242 rfl (Nat.le_of_ble_eq_true rfl) rfl rfl rfl (Nat.le_of_ble_eq_true rfl) (Nat.le_refl _) (c_X6_harmLeftOf (B := (cmL (pasC LF σ (finC σ m)) (SYC σ s) 0 0).2) hWu (by omega) t3 (by omega) t5 hcw.2) (fun z65 σ65 h65 => ?_)
                      obtain ⟨rfl, hs65⟩ := h65
                      subst σ65
                      rw [hk2 14 (by omega), hk2 17 (by omega)]
                      refine z_istore (L' := [_, _, _, _, _, _, _, _, _]) dX8_likely_68 (Nat.le_of_ble_eq_true rfl) rfl rfl ?_
                      refine z_aload_n dX8_likely_70 rfl ?_
                      refine z_getR dX8_likely_71 gX8_42 rfl (Nat.le_of_ble_eq_true rfl) rfl ?_
                      refine z_aload_n dX8_likely_74 rfl ?_
                      refine z_getR dX8_likely_75 gX8_42 rfl (Nat.le_of_ble_eq_true rfl) rfl ?_
                      refine z_getR dX8_likely_78 gX8_170 rfl (Nat.le_of_ble_eq_true rfl) rfl ?_
                      refine z_aload_n dX8_likely_81 rfl ?_
                      refine z_getR dX8_likely_82 gX8_42 rfl (Nat.le_of_ble_eq_true rfl) rfl ?_
                      refine z_getI dX8_likely_85 gX8_156 rfl (Nat.le_of_ble_eq_true rfl) rfl (fun hr85 => ?_)
                      refine z_iconst dX8_likely_88 ?_
                      rw [t3]
                      refine z_callVI (d := d + 5) (av := [_, _, _]) dX8_likely_89 vX8_173 rfl (Nat.le_of_ble_eq_true rfl) rfl rfl rfl (Nat.le_of_ble_eq_true rfl) (Nat.le_refl _) (c_X6_sumOf (X := (cmL (pasC LF σ (finC σ m)) (SYC σ s) 0 0).2) rfl (Nat.le_of_ble_eq_true rfl) (by decide) hWu.2.2.2.2.1 rfl (by omega) (by decide) t5 hcw.2) (fun z89 σ89 h89 => ?_)
                      obtain ⟨rfl, hs89⟩ := h89
                      subst σ89
                      rw [show σ57 (13 + (1 : Int).toNat) = σ 14 from hk2 14 (by omega)]
                      have r1 := hlL_R hW.2.2.2.2.1 (cmL (pasC LF σ (finC σ m)) (SYC σ s) 0 0).2 (A4 := σ 17) (p := one)
                      have r2 := sumL_R hW.2.2.2.2.1 (cmL (pasC LF σ (finC σ m)) (SYC σ s) 0 0).2
                      have r3 := gcd_R (a := hlL (σ 17) (σ 14) one (cmL (pasC LF σ (finC σ m)) (SYC σ s) 0 0).2) (b := sumL (σ 14) (cmL (pasC LF σ (finC σ m)) (SYC σ s) 0 0).2) (by omega) (by omega)
                      have r4 := tdiv_R (a := hlL (σ 17) (σ 14) one (cmL (pasC LF σ (finC σ m)) (SYC σ s) 0 0).2) (by omega) r3.1
                      have r5 := tdiv_R (a := sumL (σ 14) (cmL (pasC LF σ (finC σ m)) (SYC σ s) 0 0).2) (by omega) r3.1
                      refine z_istore (L' := [_, _, _, _, _, _, _, _, _]) dX8_likely_92 (Nat.le_of_ble_eq_true rfl) rfl rfl ?_
                      refine z_iload dX8_likely_94 rfl ?_
                      refine z_iload dX8_likely_96 rfl ?_
                      refine z_callSI (d := d + 5) (av := [_, _]) dX8_likely_98 sX8_245 rfl rfl (Nat.le_of_ble_eq_true rfl) (Nat.le_refl _) (c_X8_greatestCommon (by omega) (by omega)) (fun z98 σ98 h98 => ?_)
                      obtain ⟨rfl, hs98⟩ := h98
                      subst σ98
                      refine z_istore (L' := [_, _, _, _, _, _, _, _, _]) dX8_likely_101 (Nat.le_of_ble_eq_true rfl) rfl rfl ?_
                      refine z_iload dX8_likely_103 rfl ?_
                      refine z_if_ne (tgt := 112) dX8_likely_105 (by decide) ⟨by omega, by omega⟩ (fun h105 => ?_) (fun h105 => ?_)
                      · skip
                        refine z_iload dX8_likely_112 rfl ?_
                        refine z_if_ne (tgt := 126) dX8_likely_114 (by decide) ⟨by omega, by omega⟩ (fun h114 => ?_) (fun h114 => ?_)
                        · skip
                          refine z_iload dX8_likely_126 rfl ?_
                          refine z_iload dX8_likely_128 rfl ?_
                          refine z_idiv dX8_likely_130 ⟨by omega, by omega⟩ ⟨by omega, by omega⟩ (by omega) ?_
                          refine z_i2l dX8_likely_131 ⟨by omega, by omega⟩ ?_
                          exact z_lret dX8_likely_132 ⟨by unfold lkG; rw [if_neg (by omega), if_neg (by omega), if_neg h105]; first | rw [if_pos (by omega)] | rw [if_neg (by omega)], hk2⟩
                        · skip
                          refine z_iload dX8_likely_117 rfl ?_
                          refine z_iload dX8_likely_119 rfl ?_
                          refine z_idiv dX8_likely_121 ⟨by omega, by omega⟩ ⟨by omega, by omega⟩ (by omega) ?_
                          refine z_i2l dX8_likely_122 ⟨by omega, by omega⟩ ?_
                          refine z_goto (tgt := 132) dX8_likely_123 (by decide) ?_
                          exact z_lret dX8_likely_132 ⟨by unfold lkG; rw [if_neg (by omega), if_neg (by omega), if_neg h105]; first | rw [if_pos (by omega)] | rw [if_neg (by omega)], hk2⟩
                      · skip
                        refine z_iload dX8_likely_108 rfl ?_
                        refine z_i2l dX8_likely_110 ⟨by omega, by omega⟩ ?_
                        exact z_lret dX8_likely_111 ⟨by unfold lkG; rw [if_neg (by omega), if_neg (by omega), if_pos h105], hk2⟩
                  · first
                    | exfalso; omega
                    | skip
                      have hh : hrC σ s m ≠ 0 ∧ z27 = hrC σ s m ∧ σ27 = σ := by rcases h27 with q | q; exact ⟨q.1, q.2.1, q.2.2.2⟩; exfalso; have := q.2.1; omega
                      obtain ⟨hh1, hh2, hs⟩ := hh
                      subst σ27
                      refine z_ldc2 dX8_likely_37 kX8_215 ?_
                      exact z_lret dX8_likely_40 ⟨by unfold lkG; rw [if_neg (by omega), if_pos hh1]; rfl, KC.rf σ⟩
              · first
                | exfalso; omega
                | skip
                  refine z_ldc2 dX8_likely_20 kX8_215 ?_
                  exact z_lret dX8_likely_23 ⟨by unfold lkG; rw [if_pos (by omega)]; rfl, KC.rf σ⟩
def gmG (W M : Int) (ps : Int → Int → Int → Int → Bool) (fin : Int → Int) (m w : Int) : Int :=
  if ¬ (0 ≤ m ∧ m < M) ∨ w < 0 ∨ 1 < w then -1 else if w = 1 then gmF (fun v p => ps (fin m) v p 0) (min W 10).toNat else if gmF (fun v p => ps (fin m) v p 0) (min W 10).toNat = -2 then 0 else 1
set_option maxRecDepth 20000 in
theorem c_X8_game {d : Nat} {σ : Sto} {LF : LFT} {m w : Int} (hW : WC LF σ) (hm : inR m) (h1 : inR w) : m_X8_game d [zR 0, zI m, zI w] σ (qI fun z σ' => z = gmG (σ 1 1) (σ 1 2) (pasC LF σ) (finC σ) m w ∧ KC σ σ') := by
  have hfR := finC_R (m := m) hW
  have w1 := hW.1
  have w2 := hW.2.1
  have hg := wpF_R (ps := fun v p => pasC LF σ (finC σ m) v p 0) (W := wnT (fun v p => pasC LF σ (finC σ m) v p 0) (min (σ 1 1) 10).toNat (2 ^ (min (σ 1 1) 10).toNat - 1)) (s := 0) (min (σ 1 1) 10).toNat 0 (by omega)
  have hg : gmF (fun v p => pasC LF σ (finC σ m) v p 0) (min (σ 1 1) 10).toNat = -2 ∨ (0 ≤ gmF (fun v p => pasC LF σ (finC σ m) v p 0) (min (σ 1 1) 10).toNat ∧ gmF (fun v p => pasC LF σ (finC σ m) v p 0) (min (σ 1 1) 10).toNat < 0 + (min (σ 1 1) 10).toNat) := hg
  refine z_does (L := [some (zR 0), some (zI m), some (zI w), none]) rfl (by decide +kernel) (Nat.le_of_ble_eq_true rfl) rfl ?_
  refine z_aload_n dX8_game_0 rfl ?_
  refine z_iload_n dX8_game_1 rfl ?_
  refine z_callVI (d := d + 3) (av := [_]) dX8_game_2 vX8_119 rfl (Nat.le_of_ble_eq_true rfl) rfl rfl rfl (Nat.le_of_ble_eq_true rfl) (Nat.le_refl _) (c_X8_isMesh (by omega)) (fun z2 σ2 h2 => ?_)
  obtain ⟨hs2, h2⟩ := h2
  subst σ2
  refine z_if_eq (tgt := 17) dX8_game_5 (by decide) ⟨by omega, by omega⟩ (fun h5 => ?_) (fun h5 => ?_)
  · first
    | exfalso; omega
    | skip
      refine z_iconst dX8_game_17 ?_
      exact z_iret dX8_game_18 ⟨by unfold gmG; rw [if_pos (by omega)], KC.rf σ⟩
  · first
    | exfalso; omega
    | skip
      refine z_iload_n dX8_game_8 rfl ?_
      refine z_if_lt (tgt := 17) dX8_game_9 (by decide) ⟨by omega, by omega⟩ (fun h9 => ?_) (fun h9 => ?_)
      · first
        | exfalso; omega
        | skip
          refine z_iconst dX8_game_17 ?_
          exact z_iret dX8_game_18 ⟨by unfold gmG; rw [if_pos (by omega)], KC.rf σ⟩
      · first
        | exfalso; omega
        | skip
          refine z_iload_n dX8_game_12 rfl ?_
          refine z_iconst dX8_game_13 ?_
          refine z_icmp_le (tgt := 19) dX8_game_14 (by decide) ⟨by omega, by omega⟩ ⟨by omega, by omega⟩ (fun h14 => ?_) (fun h14 => ?_)
          · first
            | exfalso; omega
            | skip
              refine z_aload_n dX8_game_19 rfl ?_
              refine z_getR dX8_game_20 gX8_51 rfl (Nat.le_of_ble_eq_true rfl) rfl ?_
              refine z_aload_n dX8_game_23 rfl ?_
              refine z_iload_n dX8_game_24 rfl ?_
              refine z_callVI (d := d + 3) (av := [_]) dX8_game_25 vX8_139 rfl (Nat.le_of_ble_eq_true rfl) rfl rfl rfl (Nat.le_of_ble_eq_true rfl) (Nat.le_refl _) (c_X8_fineOf (by omega)) (fun z25 σ25 h25 => ?_)
              obtain ⟨rfl, hs25⟩ := h25
              subst σ25
              refine z_callVI (d := d + 3) (av := [_]) dX8_game_28 vX8_248 rfl (Nat.le_of_ble_eq_true rfl) rfl rfl rfl (Nat.le_of_ble_eq_true rfl) (Nat.le_refl _) (c_X4_winningWord (LF := LF) hW hfR) (fun z28 σ28 h28 => ?_)
              obtain ⟨rfl, hfr⟩ := h28
              refine z_istore_n (L' := [_, _, _, _]) dX8_game_31 (Nat.le_of_ble_eq_true rfl) rfl rfl ?_
              refine z_iload_n dX8_game_32 rfl ?_
              refine z_iconst dX8_game_33 ?_
              refine z_icmp_ne (tgt := 39) dX8_game_34 (by decide) ⟨by omega, by omega⟩ ⟨by omega, by omega⟩ (fun h34 => ?_) (fun h34 => ?_)
              · skip
                refine z_iload_n dX8_game_39 rfl ?_
                refine z_bipush (v := -2) dX8_game_40 (by decide +kernel) ?_
                refine z_icmp_ne (tgt := 49) dX8_game_42 (by decide) ⟨by omega, by omega⟩ ⟨by omega, by omega⟩ (fun h42 => ?_) (fun h42 => ?_)
                · skip
                  refine z_iconst dX8_game_49 ?_
                  exact z_iret dX8_game_50 ⟨by unfold gmG; rw [if_neg (by omega), if_neg (by omega)]; first | rw [if_pos h42] | rw [if_neg h42], hfr.kc⟩
                · skip
                  refine z_iconst dX8_game_45 ?_
                  refine z_goto (tgt := 50) dX8_game_46 (by decide) ?_
                  exact z_iret dX8_game_50 ⟨by unfold gmG; rw [if_neg (by omega), if_neg (by omega)]; first | rw [if_pos h42] | rw [if_neg h42], hfr.kc⟩
              · skip
                refine z_iload_n dX8_game_37 rfl ?_
                exact z_iret dX8_game_38 ⟨by unfold gmG; rw [if_neg (by omega), if_pos (by omega)], hfr.kc⟩
          · first
            | exfalso; omega
            | skip
              refine z_iconst dX8_game_17 ?_
              exact z_iret dX8_game_18 ⟨by unfold gmG; rw [if_pos (by omega)], KC.rf σ⟩
def dnG (W M : Int) (ps : Int → Int → Int → Int → Bool) (fin : Int → Int) (hu : List Int → Int) (sd nm m w : Int) : Int :=
  if nm < 0 ∨ ¬ (0 ≤ m ∧ m < M) ∨ w < 0 ∨ 1 < w ∨ nm.tdiv 100 < 1 ∨ 30 < nm.tdiv 100 ∨ nm.tmod 100 < 1 ∨ 20 < nm.tmod 100 then -1
  else if W < 1 then 0 else if w = 1 then (deF (ps (fin m)) hu W (nm.tmod 100).toNat (nm.tdiv 100).toNat sd).2 else (deF (ps (fin m)) hu W (nm.tmod 100).toNat (nm.tdiv 100).toNat sd).1
set_option maxRecDepth 20000 in
theorem c_X8_drawn {d : Nat} {σ : Sto} {LF : LFT} {sd nm m w : Int} (hW : WC LF σ) (hn : inR nm) (hm : inR m) (h1 : inR w) : m_X8_drawn d [zR 0, zI sd, zI nm, zI m, zI w] σ (qI fun z σ' => z = dnG (σ 1 1) (σ 1 2) (pasC LF σ) (finC σ) (hurtC σ) sd nm m w ∧ KC σ σ') := by
  have hfR := finC_R (m := m) hW
  have w1 := hW.1
  have w2 := hW.2.1
  have he := dm100 (t := nm)
  refine z_does (L := [some (zR 0), some (zI sd), some (zI nm), some (zI m), some (zI w), none, none]) rfl (by decide +kernel) (Nat.le_of_ble_eq_true rfl) rfl ?_
  refine z_iload_n dX8_drawn_0 rfl ?_
  refine z_if_lt (tgt := 23) dX8_drawn_1 (by decide) ⟨by omega, by omega⟩ (fun h1 => ?_) (fun h1 => ?_)
  · first
    | exfalso; omega
    | skip
      refine z_iconst dX8_drawn_23 ?_
      exact z_iret dX8_drawn_24 ⟨by unfold dnG; rw [if_pos (by omega)], KC.rf σ⟩
  · first
    | exfalso; omega
    | skip
      refine z_aload_n dX8_drawn_4 rfl ?_
      refine z_iload_n dX8_drawn_5 rfl ?_
      refine z_callVI (d := d + 4) (av := [_]) dX8_drawn_6 vX8_119 rfl (Nat.le_of_ble_eq_true rfl) rfl rfl rfl (Nat.le_of_ble_eq_true rfl) (Nat.le_refl _) (c_X8_isMesh (by omega)) (fun z6 σ6 h6 => ?_)
      obtain ⟨hs6, h6⟩ := h6
      subst σ6
      refine z_if_eq (tgt := 23) dX8_drawn_9 (by decide) ⟨by omega, by omega⟩ (fun h9 => ?_) (fun h9 => ?_)
      · first
        | exfalso; omega
        | skip
          refine z_iconst dX8_drawn_23 ?_
          exact z_iret dX8_drawn_24 ⟨by unfold dnG; rw [if_pos (by omega)], KC.rf σ⟩
      · first
        | exfalso; omega
        | skip
          refine z_iload dX8_drawn_12 rfl ?_
          refine z_if_lt (tgt := 23) dX8_drawn_14 (by decide) ⟨by omega, by omega⟩ (fun h14 => ?_) (fun h14 => ?_)
          · first
            | exfalso; omega
            | skip
              refine z_iconst dX8_drawn_23 ?_
              exact z_iret dX8_drawn_24 ⟨by unfold dnG; rw [if_pos (by omega)], KC.rf σ⟩
          · first
            | exfalso; omega
            | skip
              refine z_iload dX8_drawn_17 rfl ?_
              refine z_iconst dX8_drawn_19 ?_
              refine z_icmp_le (tgt := 25) dX8_drawn_20 (by decide) ⟨by omega, by omega⟩ ⟨by omega, by omega⟩ (fun h20 => ?_) (fun h20 => ?_)
              · first
                | exfalso; omega
                | skip
                  have he := he (by omega)
                  refine z_iload_n dX8_drawn_25 rfl ?_
                  refine z_bipush (v := 100) dX8_drawn_26 (by decide +kernel) ?_
                  refine z_idiv dX8_drawn_28 ⟨by omega, by omega⟩ ⟨by omega, by omega⟩ (by omega) ?_
                  refine z_istore (L' := [_, _, _, _, _, _, _]) dX8_drawn_29 (Nat.le_of_ble_eq_true rfl) rfl rfl ?_
                  refine z_iload_n dX8_drawn_31 rfl ?_
                  refine z_bipush (v := 100) dX8_drawn_32 (by decide +kernel) ?_
                  refine z_irem dX8_drawn_34 ⟨by omega, by omega⟩ ⟨by omega, by omega⟩ (by omega) ?_
                  refine z_istore (L' := [_, _, _, _, _, _, _]) dX8_drawn_35 (Nat.le_of_ble_eq_true rfl) rfl rfl ?_
                  refine z_iload dX8_drawn_37 rfl ?_
                  refine z_iconst dX8_drawn_39 ?_
                  refine z_icmp_lt (tgt := 63) dX8_drawn_40 (by decide) ⟨by omega, by omega⟩ ⟨by omega, by omega⟩ (fun h40 => ?_) (fun h40 => ?_)
                  · first
                    | exfalso; omega
                    | skip
                      refine z_iconst dX8_drawn_63 ?_
                      exact z_iret dX8_drawn_64 ⟨by unfold dnG; rw [if_pos (by omega)], KC.rf σ⟩
                  · first
                    | exfalso; omega
                    | skip
                      refine z_iload dX8_drawn_43 rfl ?_
                      refine z_bipush (v := 30) dX8_drawn_45 (by decide +kernel) ?_
                      refine z_icmp_gt (tgt := 63) dX8_drawn_47 (by decide) ⟨by omega, by omega⟩ ⟨by omega, by omega⟩ (fun h47 => ?_) (fun h47 => ?_)
                      · first
                        | exfalso; omega
                        | skip
                          refine z_iconst dX8_drawn_63 ?_
                          exact z_iret dX8_drawn_64 ⟨by unfold dnG; rw [if_pos (by omega)], KC.rf σ⟩
                      · first
                        | exfalso; omega
                        | skip
                          refine z_iload dX8_drawn_50 rfl ?_
                          refine z_iconst dX8_drawn_52 ?_
                          refine z_icmp_lt (tgt := 63) dX8_drawn_53 (by decide) ⟨by omega, by omega⟩ ⟨by omega, by omega⟩ (fun h53 => ?_) (fun h53 => ?_)
                          · first
                            | exfalso; omega
                            | skip
                              refine z_iconst dX8_drawn_63 ?_
                              exact z_iret dX8_drawn_64 ⟨by unfold dnG; rw [if_pos (by omega)], KC.rf σ⟩
                          · first
                            | exfalso; omega
                            | skip
                              refine z_iload dX8_drawn_56 rfl ?_
                              refine z_bipush (v := 20) dX8_drawn_58 (by decide +kernel) ?_
                              refine z_icmp_le (tgt := 65) dX8_drawn_60 (by decide) ⟨by omega, by omega⟩ ⟨by omega, by omega⟩ (fun h60 => ?_) (fun h60 => ?_)
                              · first
                                | exfalso; omega
                                | skip
                                  refine z_aload_n dX8_drawn_65 rfl ?_
                                  refine z_getR dX8_drawn_66 gX8_51 rfl (Nat.le_of_ble_eq_true rfl) rfl ?_
                                  refine z_iload_n dX8_drawn_69 rfl ?_
                                  refine z_iload dX8_drawn_70 rfl ?_
                                  refine z_iload dX8_drawn_72 rfl ?_
                                  refine z_aload_n dX8_drawn_74 rfl ?_
                                  refine z_iload_n dX8_drawn_75 rfl ?_
                                  refine z_callVI (d := d + 4) (av := [_]) dX8_drawn_76 vX8_139 rfl (Nat.le_of_ble_eq_true rfl) rfl rfl rfl (Nat.le_of_ble_eq_true rfl) (Nat.le_refl _) (c_X8_fineOf (by omega)) (fun z76 σ76 h76 => ?_)
                                  obtain ⟨rfl, hs76⟩ := h76
                                  subst σ76
                                  refine z_iload dX8_drawn_79 rfl ?_
                                  refine z_iconst dX8_drawn_81 ?_
                                  refine z_icmp_ne (tgt := 89) dX8_drawn_82 (by decide) ⟨by omega, by omega⟩ ⟨by omega, by omega⟩ (fun h82 => ?_) (fun h82 => ?_)
                                  · skip
                                    refine z_iconst dX8_drawn_89 ?_
                                    refine z_callVI (d := d + 4) (av := [_, _, _, _, _]) dX8_drawn_90 vX8_251 rfl (Nat.le_of_ble_eq_true rfl) rfl rfl rfl (Nat.le_of_ble_eq_true rfl) (Nat.le_refl _) (c_X4_drawnEvenings (LF := LF) hW hfR (by omega) (by omega) (by omega)) (fun z90 σ90 h90 => ?_)
                                    obtain ⟨hz, hfr⟩ := h90
                                    exact z_iret dX8_drawn_93 (by
                                      refine ⟨?_, hfr.kc⟩
                                      unfold dnG
                                      rw [if_neg (by omega)]
                                      rcases hz with ⟨q1, q2⟩ | ⟨q1, q2⟩
                                      · rw [if_pos (by omega)]; exact q2
                                      · rw [if_neg (by omega), q2]
                                        first
                                          | (rw [if_pos (by omega), if_pos (by omega)]; done)
                                          | (rw [if_neg (by omega), if_neg (by omega)]; done))
                                  · skip
                                    refine z_iconst dX8_drawn_85 ?_
                                    refine z_goto (tgt := 90) dX8_drawn_86 (by decide) ?_
                                    refine z_callVI (d := d + 4) (av := [_, _, _, _, _]) dX8_drawn_90 vX8_251 rfl (Nat.le_of_ble_eq_true rfl) rfl rfl rfl (Nat.le_of_ble_eq_true rfl) (Nat.le_refl _) (c_X4_drawnEvenings (LF := LF) hW hfR (by omega) (by omega) (by omega)) (fun z90 σ90 h90 => ?_)
                                    obtain ⟨hz, hfr⟩ := h90
                                    exact z_iret dX8_drawn_93 (by
                                      refine ⟨?_, hfr.kc⟩
                                      unfold dnG
                                      rw [if_neg (by omega)]
                                      rcases hz with ⟨q1, q2⟩ | ⟨q1, q2⟩
                                      · rw [if_pos (by omega)]; exact q2
                                      · rw [if_neg (by omega), q2]
                                        first
                                          | (rw [if_pos (by omega), if_pos (by omega)]; done)
                                          | (rw [if_neg (by omega), if_neg (by omega)]; done))
                              · first
                                | exfalso; omega
                                | skip
                                  refine z_iconst dX8_drawn_63 ?_
                                  exact z_iret dX8_drawn_64 ⟨by unfold dnG; rw [if_pos (by omega)], KC.rf σ⟩
              · first
                | exfalso; omega
                | skip
                  refine z_iconst dX8_drawn_23 ?_
                  exact z_iret dX8_drawn_24 ⟨by unfold dnG; rw [if_pos (by omega)], KC.rf σ⟩
