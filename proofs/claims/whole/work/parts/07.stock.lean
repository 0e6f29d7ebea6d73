/-! ===== Stock ===== -/
abbrev bearR (σ : Sto) (w z : Int) : Prop := (w = 5 ∧ z = σ 1 2) ∨ (w = 6 ∧ z = σ 1 3) ∨ (w = 7 ∧ z = 1) ∨ (w ≠ 5 ∧ w ≠ 6 ∧ w ≠ 7 ∧ z = σ 1 1)
abbrev allowR (w v : Int) : Prop := 0 ≤ w ∧ w < 8 ∧ 0 ≤ v ∧ ((w = 3 ∧ v ≤ 2) ∨ (w = 4 ∧ v ≤ 5) ∨ (w = 7 ∧ v ≤ 20) ∨ (w ≠ 3 ∧ w ≠ 4 ∧ w ≠ 7 ∧ v ≤ 9))
abbrev yn (z : Int) (c : Prop) : Prop := (z = 1 ∧ c) ∨ (z = 0 ∧ ¬ c)
theorem great_tab {w : Int} (hw : 0 ≤ w ∧ w < 8) : (w = 3 ∧ ([9, 9, 9, 2, 5, 9, 9, 20] : List Int).getD w.toNat 0 = 2) ∨ (w = 4 ∧ ([9, 9, 9, 2, 5, 9, 9, 20] : List Int).getD w.toNat 0 = 5) ∨ (w = 7 ∧ ([9, 9, 9, 2, 5, 9, 9, 20] : List Int).getD w.toNat 0 = 20) ∨ (w ≠ 3 ∧ w ≠ 4 ∧ w ≠ 7 ∧ ([9, 9, 9, 2, 5, 9, 9, 20] : List Int).getD w.toNat 0 = 9) := by
  rcases (show w = 0 ∨ w = 1 ∨ w = 2 ∨ w = 3 ∨ w = 4 ∨ w = 5 ∨ w = 6 ∨ w = 7 by omega) with rfl | rfl | rfl | rfl | rfl | rfl | rfl | rfl <;> decide
set_option maxRecDepth 20000 in
theorem c_X7_get {d : Nat} {σ : Sto} {n w : Int} (hn : 0 ≤ n ∧ n < 12) (hw : 0 ≤ w ∧ w < 8) : m_X7_get d [zR 1, zI n, zI w] σ (qI fun z σ' => z = σ (13 + w.toNat) n.toNat ∧ σ' = σ) := by
  refine z_does (L := [some (zR 1), some (zI n), some (zI w)]) rfl (by decide +kernel) (Nat.le_of_ble_eq_true rfl) rfl ?_
  refine z_iload_n dX7_get_0 rfl ?_
  refine z_if_lt (tgt := 20) dX7_get_1 (by decide) ⟨by omega, by omega⟩ (fun h1 => ?_) (fun h1 => ?_)
  · first
    | exfalso; omega
    | skip
      refine z_iconst dX7_get_20 ?_
      exact z_iret dX7_get_21 (by first | exact ⟨rfl, rfl⟩ | exact ⟨by omega, rfl⟩)
  · first
    | exfalso; omega
    | skip
      refine z_iload_n dX7_get_4 rfl ?_
      refine z_bipush (v := 12) dX7_get_5 (by decide +kernel) ?_
      refine z_icmp_ge (tgt := 20) dX7_get_7 (by decide) ⟨by omega, by omega⟩ ⟨by omega, by omega⟩ (fun h7 => ?_) (fun h7 => ?_)
      · first
        | exfalso; omega
        | skip
          refine z_iconst dX7_get_20 ?_
          exact z_iret dX7_get_21 (by first | exact ⟨rfl, rfl⟩ | exact ⟨by omega, rfl⟩)
      · first
        | exfalso; omega
        | skip
          refine z_iload_n dX7_get_10 rfl ?_
          refine z_if_lt (tgt := 20) dX7_get_11 (by decide) ⟨by omega, by omega⟩ (fun h11 => ?_) (fun h11 => ?_)
          · first
            | exfalso; omega
            | skip
              refine z_iconst dX7_get_20 ?_
              exact z_iret dX7_get_21 (by first | exact ⟨rfl, rfl⟩ | exact ⟨by omega, rfl⟩)
          · first
            | exfalso; omega
            | skip
              refine z_iload_n dX7_get_14 rfl ?_
              refine z_bipush (v := 8) dX7_get_15 (by decide +kernel) ?_
              refine z_icmp_lt (tgt := 22) dX7_get_17 (by decide) ⟨by omega, by omega⟩ ⟨by omega, by omega⟩ (fun h17 => ?_) (fun h17 => ?_)
              · first
                | exfalso; omega
                | skip
                  refine z_aload_n dX7_get_22 rfl ?_
                  refine z_getR dX7_get_23 gX7_13 rfl (Nat.le_of_ble_eq_true rfl) rfl ?_
                  refine z_iload_n dX7_get_26 rfl ?_
                  refine z_aald dX7_get_27 rfl (Or.inl rfl) (Nat.le_of_ble_eq_true rfl) (by omega) ?_
                  refine z_iload_n dX7_get_28 rfl ?_
                  refine z_iald dX7_get_29 (lay_numbers _ (by omega)) (show 13 + w.toNat < 121 by omega) (by omega) (fun hr29 => ?_)
                  exact z_iret dX7_get_30 (by first | exact ⟨rfl, rfl⟩ | exact ⟨by omega, rfl⟩)
              · first
                | exfalso; omega
                | skip
                  refine z_iconst dX7_get_20 ?_
                  exact z_iret dX7_get_21 (by first | exact ⟨rfl, rfl⟩ | exact ⟨by omega, rfl⟩)
set_option maxRecDepth 20000 in
theorem c_X7_bearersOf {d : Nat} {σ : Sto} {w : Int} (hw : inR w) : m_X7_bearersOf d [zR 1, zI w] σ (qI fun z σ' => σ' = σ ∧ bearR σ w z ∧ inR z) := by
  refine z_does (L := [some (zR 1), some (zI w)]) rfl (by decide +kernel) (Nat.le_of_ble_eq_true rfl) rfl ?_
  refine z_iload_n dX7_bearersOf_0 rfl ?_
  refine sw_X7_bearersOf_1 ⟨by omega, by omega⟩ (fun h1 => ?_) (fun h1 => ?_) (fun h1 => ?_) (fun h1 => ?_)
  · first
    | exfalso; omega
    | skip
      refine z_aload_n dX7_bearersOf_28 rfl ?_
      refine z_getI dX7_bearersOf_29 gX7_24 rfl (Nat.le_of_ble_eq_true rfl) rfl (fun hr29 => ?_)
      exact z_iret dX7_bearersOf_32 ⟨rfl, by omega, by omega⟩
  · first
    | exfalso; omega
    | skip
      refine z_aload_n dX7_bearersOf_33 rfl ?_
      refine z_getI dX7_bearersOf_34 gX7_27 rfl (Nat.le_of_ble_eq_true rfl) rfl (fun hr34 => ?_)
      exact z_iret dX7_bearersOf_37 ⟨rfl, by omega, by omega⟩
  · first
    | exfalso; omega
    | skip
      refine z_iconst dX7_bearersOf_38 ?_
      exact z_iret dX7_bearersOf_39 ⟨rfl, by omega, by omega⟩
  · first
    | exfalso; omega
    | skip
      refine z_aload_n dX7_bearersOf_40 rfl ?_
      refine z_getI dX7_bearersOf_41 gX7_16 rfl (Nat.le_of_ble_eq_true rfl) rfl (fun hr41 => ?_)
      exact z_iret dX7_bearersOf_44 ⟨rfl, by omega, by omega⟩
set_option maxRecDepth 20000 in
theorem c_X7_allows {d : Nat} {σ : Sto} {w v : Int} (hw : inR w) (hv : inR v) : m_X7_allows d [zR 1, zI w, zI v] σ (qI fun z σ' => σ' = σ ∧ yn z (allowR w v)) := by
  refine z_does (L := [some (zR 1), some (zI w), some (zI v)]) rfl (by decide +kernel) (Nat.le_of_ble_eq_true rfl) rfl ?_
  refine z_iload_n dX7_allows_0 rfl ?_
  refine z_if_lt (tgt := 27) dX7_allows_1 (by decide) ⟨by omega, by omega⟩ (fun h1 => ?_) (fun h1 => ?_)
  · first
    | exfalso; omega
    | skip
      refine z_iconst dX7_allows_27 ?_
      exact z_zret dX7_allows_28 (by omega) ⟨rfl, by omega⟩
  · first
    | exfalso; omega
    | skip
      refine z_iload_n dX7_allows_4 rfl ?_
      refine z_bipush (v := 8) dX7_allows_5 (by decide +kernel) ?_
      refine z_icmp_ge (tgt := 27) dX7_allows_7 (by decide) ⟨by omega, by omega⟩ ⟨by omega, by omega⟩ (fun h7 => ?_) (fun h7 => ?_)
      · first
        | exfalso; omega
        | skip
          refine z_iconst dX7_allows_27 ?_
          exact z_zret dX7_allows_28 (by omega) ⟨rfl, by omega⟩
      · first
        | exfalso; omega
        | skip
          refine z_iload_n dX7_allows_10 rfl ?_
          refine z_if_lt (tgt := 27) dX7_allows_11 (by decide) ⟨by omega, by omega⟩ (fun h11 => ?_) (fun h11 => ?_)
          · first
            | exfalso; omega
            | skip
              refine z_iconst dX7_allows_27 ?_
              exact z_zret dX7_allows_28 (by omega) ⟨rfl, by omega⟩
          · first
            | exfalso; omega
            | skip
              refine z_iload_n dX7_allows_14 rfl ?_
              refine z_gets dX7_allows_15 (List.mem_of_getElem? (i := 0) rfl) tX7_30 ?_
              refine z_iload_n dX7_allows_18 rfl ?_
              refine z_sld dX7_allows_19 (List.mem_of_getElem? (i := 0) rfl) (Nat.le_of_ble_eq_true rfl) (show _ ∧ _ < ((8 : Nat) : Int) by omega) ?_
              have hg := great_tab (w := w) (by omega)
              refine z_icmp_gt (tgt := 27) dX7_allows_20 (by decide) ⟨by omega, by omega⟩ ⟨by omega, by omega⟩ (fun h20 => ?_) (fun h20 => ?_)
              · first
                | exfalso; omega
                | skip
                  refine z_iconst dX7_allows_27 ?_
                  exact z_zret dX7_allows_28 (by omega) ⟨rfl, by omega⟩
              · first
                | exfalso; omega
                | skip
                  refine z_iconst dX7_allows_23 ?_
                  refine z_goto (tgt := 28) dX7_allows_24 (by decide) ?_
                  exact z_zret dX7_allows_28 (by omega) ⟨rfl, by omega⟩
set_option maxRecDepth 20000 in
theorem c_X7_has {d : Nat} {σ : Sto} {n w : Int} (hn : inR n) (hw : inR w) : m_X7_has d [zR 1, zI n, zI w] σ (qI fun z σ' => σ' = σ ∧ yn z (0 ≤ w ∧ w < 8 ∧ 0 ≤ n ∧ ∃ b, bearR σ w b ∧ n < b)) := by
  refine z_does (L := [some (zR 1), some (zI n), some (zI w)]) rfl (by decide +kernel) (Nat.le_of_ble_eq_true rfl) rfl ?_
  refine z_iload_n dX7_has_0 rfl ?_
  refine z_if_lt (tgt := 27) dX7_has_1 (by decide) ⟨by omega, by omega⟩ (fun h1 => ?_) (fun h1 => ?_)
  · first
    | exfalso; omega
    | skip
      refine z_iconst dX7_has_27 ?_
      exact z_zret dX7_has_28 (by omega) ⟨rfl, by first | exact Or.inl ⟨rfl, by omega, by omega, by omega, _, hz, by omega⟩ | exact Or.inr ⟨rfl, fun ⟨q1, q2, q3, b, q4, q5⟩ => by omega⟩⟩
  · first
    | exfalso; omega
    | skip
      refine z_iload_n dX7_has_4 rfl ?_
      refine z_bipush (v := 8) dX7_has_5 (by decide +kernel) ?_
      refine z_icmp_ge (tgt := 27) dX7_has_7 (by decide) ⟨by omega, by omega⟩ ⟨by omega, by omega⟩ (fun h7 => ?_) (fun h7 => ?_)
      · first
        | exfalso; omega
        | skip
          refine z_iconst dX7_has_27 ?_
          exact z_zret dX7_has_28 (by omega) ⟨rfl, by first | exact Or.inl ⟨rfl, by omega, by omega, by omega, _, hz, by omega⟩ | exact Or.inr ⟨rfl, fun ⟨q1, q2, q3, b, q4, q5⟩ => by omega⟩⟩
      · first
        | exfalso; omega
        | skip
          refine z_iload_n dX7_has_10 rfl ?_
          refine z_if_lt (tgt := 27) dX7_has_11 (by decide) ⟨by omega, by omega⟩ (fun h11 => ?_) (fun h11 => ?_)
          · first
            | exfalso; omega
            | skip
              refine z_iconst dX7_has_27 ?_
              exact z_zret dX7_has_28 (by omega) ⟨rfl, by first | exact Or.inl ⟨rfl, by omega, by omega, by omega, _, hz, by omega⟩ | exact Or.inr ⟨rfl, fun ⟨q1, q2, q3, b, q4, q5⟩ => by omega⟩⟩
          · first
            | exfalso; omega
            | skip
              refine z_iload_n dX7_has_14 rfl ?_
              refine z_aload_n dX7_has_15 rfl ?_
              refine z_iload_n dX7_has_16 rfl ?_
              refine z_callVI (d := d + 0) (av := [_]) dX7_has_17 vX7_34 rfl (Nat.le_of_ble_eq_true rfl) rfl rfl rfl (Nat.le_of_ble_eq_true rfl) (Nat.le_refl _) (c_X7_bearersOf (by omega)) (fun z17 σ17 h17 => ?_)
              obtain ⟨hs17, hz, hzr⟩ := h17
              subst σ17
              refine z_icmp_ge (tgt := 27) dX7_has_20 (by decide) ⟨by omega, by omega⟩ ⟨by omega, by omega⟩ (fun h20 => ?_) (fun h20 => ?_)
              · first
                | exfalso; omega
                | skip
                  refine z_iconst dX7_has_27 ?_
                  exact z_zret dX7_has_28 (by omega) ⟨rfl, by first | exact Or.inl ⟨rfl, by omega, by omega, by omega, _, hz, by omega⟩ | exact Or.inr ⟨rfl, fun ⟨q1, q2, q3, b, q4, q5⟩ => by omega⟩⟩
              · first
                | exfalso; omega
                | skip
                  refine z_iconst dX7_has_23 ?_
                  refine z_goto (tgt := 28) dX7_has_24 (by decide) ?_
                  exact z_zret dX7_has_28 (by omega) ⟨rfl, by first | exact Or.inl ⟨rfl, by omega, by omega, by omega, _, hz, by omega⟩ | exact Or.inr ⟨rfl, fun ⟨q1, q2, q3, b, q4, q5⟩ => by omega⟩⟩
set_option maxRecDepth 20000 in
/-- Stock.set of a number that is there -/
theorem c_X7_set {d : Nat} {σ : Sto} {n w v : Int} (hw : 0 ≤ w ∧ w < 8) (hn : 0 ≤ n ∧ n < 12) (hb : ∃ b, bearR σ w b ∧ n < b) (hv : inR v) : m_X7_set d [zR 1, zI n, zI w, zI v] σ (qV fun σ' => σ' = z_put σ (13 + w.toNat) n.toNat v) := by
  refine z_does (L := [some (zR 1), some (zI n), some (zI w), some (zI v)]) rfl (by decide +kernel) (Nat.le_of_ble_eq_true rfl) rfl ?_
  refine z_aload_n dX7_set_0 rfl ?_
  refine z_iload_n dX7_set_1 rfl ?_
  refine z_iload_n dX7_set_2 rfl ?_
  refine z_callVI (d := d + 1) (av := [_, _]) dX7_set_3 vX7_38 rfl (Nat.le_of_ble_eq_true rfl) rfl rfl rfl (Nat.le_of_ble_eq_true rfl) (Nat.le_refl _) (c_X7_has (by omega) (by omega)) (fun z3 σ3 h3 => ?_)
  obtain ⟨hs3, h3⟩ := h3
  subst σ3
  refine z_if_eq (tgt := 18) dX7_set_6 (by decide) ⟨by omega, by omega⟩ (fun h6 => ?_) (fun h6 => ?_)
  · exact h3.elim (fun q => absurd h6 (by omega)) (fun q => absurd ⟨hw.1, hw.2, hn.1, hb⟩ q.2)
  · skip
    refine z_aload_n dX7_set_9 rfl ?_
    refine z_getR dX7_set_10 gX7_13 rfl (Nat.le_of_ble_eq_true rfl) rfl ?_
    refine z_iload_n dX7_set_13 rfl ?_
    refine z_aald dX7_set_14 rfl (Or.inl rfl) (Nat.le_of_ble_eq_true rfl) (by omega) ?_
    refine z_iload_n dX7_set_15 rfl ?_
    refine z_iload_n dX7_set_16 rfl ?_
    refine z_iast dX7_set_17 (lay_numbers _ (by omega)) (show 13 + w.toNat < 121 by omega) (by omega) ⟨by omega, by omega⟩ ?_
    exact z_vret dX7_set_18 rfl
def nwS (σ : Sto) (s h w : Int) : Sto := z_put (z_put (z_put (z_put (z_put σ 1 1 (σ 1 1 + 1)) 13 (σ 1 1).toNat s) 14 (σ 1 1).toNat h) 15 (σ 1 1).toNat w) 16 (σ 1 1).toNat 2
set_option maxRecDepth 20000 in
theorem c_X7_newWord {d : Nat} {σ : Sto} {s h w : Int} (hc : 0 ≤ σ 1 1 ∧ σ 1 1 ≤ 12) (hs : inR s) (hh : inR h) (hw : inR w) : m_X7_newWord d [zR 1, zI s, zI h, zI w] σ (qI fun z σ' => (σ 1 1 = 12 ∧ z = -3 ∧ σ' = σ) ∨ (σ 1 1 < 12 ∧ z = σ 1 1 ∧ σ' = nwS σ s h w)) := by
  refine z_does (L := [some (zR 1), some (zI s), some (zI h), some (zI w), none]) rfl (by decide +kernel) (Nat.le_of_ble_eq_true rfl) rfl ?_
  refine z_aload_n dX7_newWord_0 rfl ?_
  refine z_getI dX7_newWord_1 gX7_16 rfl (Nat.le_of_ble_eq_true rfl) rfl (fun hr1 => ?_)
  refine z_bipush (v := 12) dX7_newWord_4 (by decide +kernel) ?_
  refine z_icmp_lt (tgt := 12) dX7_newWord_6 (by decide) ⟨by omega, by omega⟩ ⟨by omega, by omega⟩ (fun h6 => ?_) (fun h6 => ?_)
  · first
    | exfalso; omega
    | skip
      refine z_aload_n dX7_newWord_12 rfl ?_
      refine z_getI dX7_newWord_13 gX7_16 rfl (Nat.le_of_ble_eq_true rfl) rfl (fun hr13 => ?_)
      refine z_istore (L' := [_, _, _, _, _]) dX7_newWord_16 (Nat.le_of_ble_eq_true rfl) rfl rfl ?_
      refine z_aload_n dX7_newWord_18 rfl ?_
      refine z_dup dX7_newWord_19 rfl ?_
      refine z_getI dX7_newWord_20 gX7_16 rfl (Nat.le_of_ble_eq_true rfl) rfl (fun hr20 => ?_)
      refine z_iconst dX7_newWord_23 ?_
      refine z_iadd dX7_newWord_24 ?_
      refine z_putI dX7_newWord_25 pX7_16 rfl (Nat.le_of_ble_eq_true rfl) rfl ⟨by omega, by omega⟩ ?_
      refine z_aload_n dX7_newWord_28 rfl ?_
      refine z_iload dX7_newWord_29 rfl ?_
      refine z_iconst dX7_newWord_31 ?_
      refine z_iload_n dX7_newWord_32 rfl ?_
      refine z_callVV (d := d + 2) (av := [_, _, _]) dX7_newWord_33 vX7_20 rfl (Nat.le_of_ble_eq_true rfl) rfl rfl rfl (Nat.le_of_ble_eq_true rfl) (Nat.le_refl _) (c_X7_set (by omega) (by omega) (by first | exact ⟨_, Or.inr (Or.inr (Or.inr ⟨by omega, by omega, by omega, rfl⟩)), by simp only [z_rd, Nat.reduceEqDiff, ↓reduceIte, eq_self]; omega⟩ | omega) (by omega)) (fun σ33 h33 => ?_)
      subst h33
      refine z_aload_n dX7_newWord_36 rfl ?_
      refine z_iload dX7_newWord_37 rfl ?_
      refine z_iconst dX7_newWord_39 ?_
      refine z_iload_n dX7_newWord_40 rfl ?_
      refine z_callVV (d := d + 2) (av := [_, _, _]) dX7_newWord_41 vX7_20 rfl (Nat.le_of_ble_eq_true rfl) rfl rfl rfl (Nat.le_of_ble_eq_true rfl) (Nat.le_refl _) (c_X7_set (by omega) (by omega) (by first | exact ⟨_, Or.inr (Or.inr (Or.inr ⟨by omega, by omega, by omega, rfl⟩)), by simp only [z_rd, Nat.reduceEqDiff, ↓reduceIte, eq_self]; omega⟩ | omega) (by omega)) (fun σ41 h41 => ?_)
      subst h41
      refine z_aload_n dX7_newWord_44 rfl ?_
      refine z_iload dX7_newWord_45 rfl ?_
      refine z_iconst dX7_newWord_47 ?_
      refine z_iload_n dX7_newWord_48 rfl ?_
      refine z_callVV (d := d + 2) (av := [_, _, _]) dX7_newWord_49 vX7_20 rfl (Nat.le_of_ble_eq_true rfl) rfl rfl rfl (Nat.le_of_ble_eq_true rfl) (Nat.le_refl _) (c_X7_set (by omega) (by omega) (by first | exact ⟨_, Or.inr (Or.inr (Or.inr ⟨by omega, by omega, by omega, rfl⟩)), by simp only [z_rd, Nat.reduceEqDiff, ↓reduceIte, eq_self]; omega⟩ | omega) (by omega)) (fun σ49 h49 => ?_)
      subst h49
      refine z_aload_n dX7_newWord_52 rfl ?_
      refine z_iload dX7_newWord_53 rfl ?_
      refine z_iconst dX7_newWord_55 ?_
      refine z_iconst dX7_newWord_56 ?_
      refine z_callVV (d := d + 2) (av := [_, _, _]) dX7_newWord_57 vX7_20 rfl (Nat.le_of_ble_eq_true rfl) rfl rfl rfl (Nat.le_of_ble_eq_true rfl) (Nat.le_refl _) (c_X7_set (by omega) (by omega) (by first | exact ⟨_, Or.inr (Or.inr (Or.inr ⟨by omega, by omega, by omega, rfl⟩)), by simp only [z_rd, Nat.reduceEqDiff, ↓reduceIte, eq_self]; omega⟩ | omega) (by omega)) (fun σ57 h57 => ?_)
      subst h57
      refine z_iload dX7_newWord_60 rfl ?_
      exact z_iret dX7_newWord_62 (Or.inr ⟨by omega, rfl, rfl⟩)
  · first
    | exfalso; omega
    | skip
      refine z_bipush (v := -3) dX7_newWord_9 (by decide +kernel) ?_
      exact z_iret dX7_newWord_11 (Or.inl ⟨by omega, rfl, rfl⟩)
set_option maxRecDepth 20000 in
theorem c_X7_newMesh {d : Nat} {σ : Sto} {f : Int} (hc : 0 ≤ σ 1 2 ∧ σ 1 2 ≤ 5) (hf : inR f) : m_X7_newMesh d [zR 1, zI f] σ (qI fun z σ' => (σ 1 2 = 5 ∧ z = -3 ∧ σ' = σ) ∨ (σ 1 2 < 5 ∧ z = σ 1 2 ∧ σ' = z_put (z_put σ 1 2 (σ 1 2 + 1)) 18 (σ 1 2).toNat f)) := by
  refine z_does (L := [some (zR 1), some (zI f), none]) rfl (by decide +kernel) (Nat.le_of_ble_eq_true rfl) rfl ?_
  refine z_aload_n dX7_newMesh_0 rfl ?_
  refine z_getI dX7_newMesh_1 gX7_24 rfl (Nat.le_of_ble_eq_true rfl) rfl (fun hr1 => ?_)
  refine z_iconst dX7_newMesh_4 ?_
  refine z_icmp_lt (tgt := 11) dX7_newMesh_5 (by decide) ⟨by omega, by omega⟩ ⟨by omega, by omega⟩ (fun h5 => ?_) (fun h5 => ?_)
  · first
    | exfalso; omega
    | skip
      refine z_aload_n dX7_newMesh_11 rfl ?_
      refine z_getI dX7_newMesh_12 gX7_24 rfl (Nat.le_of_ble_eq_true rfl) rfl (fun hr12 => ?_)
      refine z_istore_n (L' := [_, _, _]) dX7_newMesh_15 (Nat.le_of_ble_eq_true rfl) rfl rfl ?_
      refine z_aload_n dX7_newMesh_16 rfl ?_
      refine z_dup dX7_newMesh_17 rfl ?_
      refine z_getI dX7_newMesh_18 gX7_24 rfl (Nat.le_of_ble_eq_true rfl) rfl (fun hr18 => ?_)
      refine z_iconst dX7_newMesh_21 ?_
      refine z_iadd dX7_newMesh_22 ?_
      refine z_putI dX7_newMesh_23 pX7_24 rfl (Nat.le_of_ble_eq_true rfl) rfl ⟨by omega, by omega⟩ ?_
      refine z_aload_n dX7_newMesh_26 rfl ?_
      refine z_iload_n dX7_newMesh_27 rfl ?_
      refine z_iconst dX7_newMesh_28 ?_
      refine z_iload_n dX7_newMesh_29 rfl ?_
      refine z_callVV (d := d + 2) (av := [_, _, _]) dX7_newMesh_30 vX7_20 rfl (Nat.le_of_ble_eq_true rfl) rfl rfl rfl (Nat.le_of_ble_eq_true rfl) (Nat.le_refl _) (c_X7_set (by omega) (by omega) ⟨_, Or.inl ⟨rfl, rfl⟩, by simp only [z_rd, Nat.reduceEqDiff, ↓reduceIte, eq_self]; omega⟩ (by omega)) (fun σ30 h30 => ?_)
      subst h30
      refine z_iload_n dX7_newMesh_33 rfl ?_
      exact z_iret dX7_newMesh_34 (by first | exact Or.inl ⟨by omega, rfl, rfl⟩ | exact Or.inr ⟨by omega, rfl, rfl⟩)
  · first
    | exfalso; omega
    | skip
      refine z_bipush (v := -3) dX7_newMesh_8 (by decide +kernel) ?_
      exact z_iret dX7_newMesh_10 (by first | exact Or.inl ⟨by omega, rfl, rfl⟩ | exact Or.inr ⟨by omega, rfl, rfl⟩)
set_option maxRecDepth 20000 in
theorem c_X7_newPerson {d : Nat} {σ : Sto} {f : Int} (hc : 0 ≤ σ 1 3 ∧ σ 1 3 ≤ 6) (hf : inR f) : m_X7_newPerson d [zR 1, zI f] σ (qI fun z σ' => (σ 1 3 = 6 ∧ z = -3 ∧ σ' = σ) ∨ (σ 1 3 < 6 ∧ z = σ 1 3 ∧ σ' = z_put (z_put σ 1 3 (σ 1 3 + 1)) 19 (σ 1 3).toNat f)) := by
  refine z_does (L := [some (zR 1), some (zI f), none]) rfl (by decide +kernel) (Nat.le_of_ble_eq_true rfl) rfl ?_
  refine z_aload_n dX7_newPerson_0 rfl ?_
  refine z_getI dX7_newPerson_1 gX7_27 rfl (Nat.le_of_ble_eq_true rfl) rfl (fun hr1 => ?_)
  refine z_bipush (v := 6) dX7_newPerson_4 (by decide +kernel) ?_
  refine z_icmp_lt (tgt := 12) dX7_newPerson_6 (by decide) ⟨by omega, by omega⟩ ⟨by omega, by omega⟩ (fun h6 => ?_) (fun h6 => ?_)
  · first
    | exfalso; omega
    | skip
      refine z_aload_n dX7_newPerson_12 rfl ?_
      refine z_getI dX7_newPerson_13 gX7_27 rfl (Nat.le_of_ble_eq_true rfl) rfl (fun hr13 => ?_)
      refine z_istore_n (L' := [_, _, _]) dX7_newPerson_16 (Nat.le_of_ble_eq_true rfl) rfl rfl ?_
      refine z_aload_n dX7_newPerson_17 rfl ?_
      refine z_dup dX7_newPerson_18 rfl ?_
      refine z_getI dX7_newPerson_19 gX7_27 rfl (Nat.le_of_ble_eq_true rfl) rfl (fun hr19 => ?_)
      refine z_iconst dX7_newPerson_22 ?_
      refine z_iadd dX7_newPerson_23 ?_
      refine z_putI dX7_newPerson_24 pX7_27 rfl (Nat.le_of_ble_eq_true rfl) rfl ⟨by omega, by omega⟩ ?_
      refine z_aload_n dX7_newPerson_27 rfl ?_
      refine z_iload_n dX7_newPerson_28 rfl ?_
      refine z_bipush (v := 6) dX7_newPerson_29 (by decide +kernel) ?_
      refine z_iload_n dX7_newPerson_31 rfl ?_
      refine z_callVV (d := d + 2) (av := [_, _, _]) dX7_newPerson_32 vX7_20 rfl (Nat.le_of_ble_eq_true rfl) rfl rfl rfl (Nat.le_of_ble_eq_true rfl) (Nat.le_refl _) (c_X7_set (by omega) (by omega) ⟨_, Or.inr (Or.inl ⟨rfl, rfl⟩), by simp only [z_rd, Nat.reduceEqDiff, ↓reduceIte, eq_self]; omega⟩ (by omega)) (fun σ32 h32 => ?_)
      subst h32
      refine z_iload_n dX7_newPerson_35 rfl ?_
      exact z_iret dX7_newPerson_36 (by first | exact Or.inl ⟨by omega, rfl, rfl⟩ | exact Or.inr ⟨by omega, rfl, rfl⟩)
  · first
    | exfalso; omega
    | skip
      refine z_bipush (v := -3) dX7_newPerson_9 (by decide +kernel) ?_
      exact z_iret dX7_newPerson_11 (by first | exact Or.inl ⟨by omega, rfl, rfl⟩ | exact Or.inr ⟨by omega, rfl, rfl⟩)
