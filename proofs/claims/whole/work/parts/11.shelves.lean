/-! ===== Shelves ===== -/
set_option maxRecDepth 20000 in
theorem c_X8_isShelf {d : Nat} {σ : Sto} {s : Int} (hs : inR s) : m_X8_isShelf d [zI s] σ (qI fun z σ' => σ' = σ ∧ yn z (0 ≤ s ∧ s < 6)) := by
  refine z_does (L := [some (zI s)]) rfl (by decide +kernel) (Nat.le_of_ble_eq_true rfl) rfl ?_
  refine z_iload_n dX8_isShelf_0 rfl ?_
  refine z_if_lt (tgt := 14) dX8_isShelf_1 (by decide) ⟨by omega, by omega⟩ (fun h1 => ?_) (fun h1 => ?_)
  · first
    | exfalso; omega
    | skip
      refine z_iconst dX8_isShelf_14 ?_
      exact z_zret dX8_isShelf_15 (by omega) ⟨rfl, by omega⟩
  · first
    | exfalso; omega
    | skip
      refine z_iload_n dX8_isShelf_4 rfl ?_
      refine z_bipush (v := 6) dX8_isShelf_5 (by decide +kernel) ?_
      refine z_icmp_ge (tgt := 14) dX8_isShelf_7 (by decide) ⟨by omega, by omega⟩ ⟨by omega, by omega⟩ (fun h7 => ?_) (fun h7 => ?_)
      · first
        | exfalso; omega
        | skip
          refine z_iconst dX8_isShelf_14 ?_
          exact z_zret dX8_isShelf_15 (by omega) ⟨rfl, by omega⟩
      · first
        | exfalso; omega
        | skip
          refine z_iconst dX8_isShelf_10 ?_
          refine z_goto (tgt := 15) dX8_isShelf_11 (by decide) ?_
          exact z_zret dX8_isShelf_15 (by omega) ⟨rfl, by omega⟩
set_option maxRecDepth 20000 in
theorem c_X5_heldOn {d : Nat} {σ : Sto} {s : Int} (hs : 0 ≤ s ∧ s < 6) : m_X5_heldOn d [zR 4, zI s] σ (qI fun z σ' => z = σ 30 s.toNat ∧ σ' = σ ∧ inR (σ 30 s.toNat)) := by
  refine z_does (L := [some (zR 4), some (zI s)]) rfl (by decide +kernel) (Nat.le_of_ble_eq_true rfl) rfl ?_
  refine z_iload_n dX5_heldOn_0 rfl ?_
  refine z_callSI (d := d + 0) (av := [_]) dX5_heldOn_1 sX5_26 rfl rfl (Nat.le_of_ble_eq_true rfl) (Nat.le_refl _) (c_X8_isShelf (by omega)) (fun z1 σ1 h1 => ?_)
  obtain ⟨hs1, h1⟩ := h1
  subst σ1
  refine z_if_eq (tgt := 16) dX5_heldOn_4 (by decide) ⟨by omega, by omega⟩ (fun h4 => ?_) (fun h4 => ?_)
  · first
    | exfalso; omega
    | skip
      refine z_iconst dX5_heldOn_16 ?_
      exact z_iret dX5_heldOn_17 ⟨rfl, rfl, by omega⟩
  · first
    | exfalso; omega
    | skip
      refine z_aload_n dX5_heldOn_7 rfl ?_
      refine z_getR dX5_heldOn_8 gX5_9 rfl (Nat.le_of_ble_eq_true rfl) rfl ?_
      refine z_iload_n dX5_heldOn_11 rfl ?_
      refine z_iald dX5_heldOn_12 rfl (Nat.le_of_ble_eq_true rfl) (by omega) (fun hr12 => ?_)
      refine z_goto (tgt := 17) dX5_heldOn_13 (by decide) ?_
      exact z_iret dX5_heldOn_17 ⟨rfl, rfl, by omega⟩
set_option maxRecDepth 20000 in
theorem c_X5_isEmpty {d : Nat} {σ : Sto} {s : Int} (hs : 0 ≤ s ∧ s < 6) : m_X5_isEmpty d [zR 4, zI s] σ (qI fun z σ' => σ' = σ ∧ yn z (σ 30 s.toNat = -1)) := by
  refine z_does (L := [some (zR 4), some (zI s)]) rfl (by decide +kernel) (Nat.le_of_ble_eq_true rfl) rfl ?_
  refine z_aload_n dX5_isEmpty_0 rfl ?_
  refine z_iload_n dX5_isEmpty_1 rfl ?_
  refine z_callVI (d := d + 1) (av := [_]) dX5_isEmpty_2 vX5_30 rfl (Nat.le_of_ble_eq_true rfl) rfl rfl rfl (Nat.le_of_ble_eq_true rfl) (Nat.le_refl _) (c_X5_heldOn (by omega)) (fun z2 σ2 h2 => ?_)
  obtain ⟨rfl, hs2, h2⟩ := h2
  subst σ2
  refine z_iconst dX5_isEmpty_5 ?_
  refine z_icmp_ne (tgt := 13) dX5_isEmpty_6 (by decide) ⟨by omega, by omega⟩ ⟨by omega, by omega⟩ (fun h6 => ?_) (fun h6 => ?_)
  · first
    | exfalso; omega
    | skip
      refine z_iconst dX5_isEmpty_13 ?_
      exact z_zret dX5_isEmpty_14 (by omega) ⟨rfl, by omega⟩
  · first
    | exfalso; omega
    | skip
      refine z_iconst dX5_isEmpty_9 ?_
      refine z_goto (tgt := 14) dX5_isEmpty_10 (by decide) ?_
      exact z_zret dX5_isEmpty_14 (by omega) ⟨rfl, by omega⟩
set_option maxRecDepth 20000 in
theorem c_X5_isRow {d : Nat} {σ : Sto} {s : Int} (hs : 0 ≤ s ∧ s < 6) : m_X5_isRow d [zR 4, zI s] σ (qI fun z σ' => σ' = σ ∧ yn z (0 ≤ σ 30 s.toNat)) := by
  refine z_does (L := [some (zR 4), some (zI s)]) rfl (by decide +kernel) (Nat.le_of_ble_eq_true rfl) rfl ?_
  refine z_aload_n dX5_isRow_0 rfl ?_
  refine z_iload_n dX5_isRow_1 rfl ?_
  refine z_callVI (d := d + 1) (av := [_]) dX5_isRow_2 vX5_30 rfl (Nat.le_of_ble_eq_true rfl) rfl rfl rfl (Nat.le_of_ble_eq_true rfl) (Nat.le_refl _) (c_X5_heldOn (by omega)) (fun z2 σ2 h2 => ?_)
  obtain ⟨rfl, hs2, h2⟩ := h2
  subst σ2
  refine z_if_lt (tgt := 12) dX5_isRow_5 (by decide) ⟨by omega, by omega⟩ (fun h5 => ?_) (fun h5 => ?_)
  · first
    | exfalso; omega
    | skip
      refine z_iconst dX5_isRow_12 ?_
      exact z_zret dX5_isRow_13 (by omega) ⟨rfl, by omega⟩
  · first
    | exfalso; omega
    | skip
      refine z_iconst dX5_isRow_8 ?_
      refine z_goto (tgt := 13) dX5_isRow_9 (by decide) ?_
      exact z_zret dX5_isRow_13 (by omega) ⟨rfl, by omega⟩
set_option maxRecDepth 20000 in
theorem c_X5_isAlike {d : Nat} {σ : Sto} {s o : Int} (hs : 0 ≤ s ∧ s < 6) (ho : 0 ≤ o ∧ o < 6) : m_X5_isAlike d [zR 4, zI s, zI o] σ (qI fun z σ' => σ' = σ ∧ yn z (σ 30 s.toNat = σ 30 o.toNat)) := by
  refine z_does (L := [some (zR 4), some (zI s), some (zI o)]) rfl (by decide +kernel) (Nat.le_of_ble_eq_true rfl) rfl ?_
  refine z_aload_n dX5_isAlike_0 rfl ?_
  refine z_iload_n dX5_isAlike_1 rfl ?_
  refine z_callVI (d := d + 1) (av := [_]) dX5_isAlike_2 vX5_30 rfl (Nat.le_of_ble_eq_true rfl) rfl rfl rfl (Nat.le_of_ble_eq_true rfl) (Nat.le_refl _) (c_X5_heldOn (by omega)) (fun z2 σ2 h2 => ?_)
  obtain ⟨rfl, hs2, h2⟩ := h2
  subst σ2
  refine z_aload_n dX5_isAlike_5 rfl ?_
  refine z_iload_n dX5_isAlike_6 rfl ?_
  refine z_callVI (d := d + 1) (av := [_]) dX5_isAlike_7 vX5_30 rfl (Nat.le_of_ble_eq_true rfl) rfl rfl rfl (Nat.le_of_ble_eq_true rfl) (Nat.le_refl _) (c_X5_heldOn (by omega)) (fun z7 σ7 h7 => ?_)
  obtain ⟨rfl, hs7, h7⟩ := h7
  subst σ7
  refine z_icmp_ne (tgt := 17) dX5_isAlike_10 (by decide) ⟨by omega, by omega⟩ ⟨by omega, by omega⟩ (fun h10 => ?_) (fun h10 => ?_)
  · first
    | exfalso; omega
    | skip
      refine z_iconst dX5_isAlike_17 ?_
      exact z_zret dX5_isAlike_18 (by omega) ⟨rfl, by omega⟩
  · first
    | exfalso; omega
    | skip
      refine z_iconst dX5_isAlike_13 ?_
      refine z_goto (tgt := 18) dX5_isAlike_14 (by decide) ?_
      exact z_zret dX5_isAlike_18 (by omega) ⟨rfl, by omega⟩
set_option maxRecDepth 20000 in
theorem c_X5_bytesRefusal {d : Nat} {σ : Sto} {s : Int} (hs : 0 ≤ s ∧ s < 6) : m_X5_bytesRefusal d [zR 4, zI s] σ (qI fun z σ' => σ' = σ ∧ ((σ 30 s.toNat = -1 ∧ z = -11) ∨ (σ 30 s.toNat = 0 ∧ z = 0) ∨ (σ 30 s.toNat ≠ -1 ∧ σ 30 s.toNat ≠ 0 ∧ z = -12))) := by
  refine z_does (L := [some (zR 4), some (zI s)]) rfl (by decide +kernel) (Nat.le_of_ble_eq_true rfl) rfl ?_
  refine z_aload_n dX5_bytesRefusal_0 rfl ?_
  refine z_iload_n dX5_bytesRefusal_1 rfl ?_
  refine z_callVI (d := d + 2) (av := [_]) dX5_bytesRefusal_2 vX5_34 rfl (Nat.le_of_ble_eq_true rfl) rfl rfl rfl (Nat.le_of_ble_eq_true rfl) (Nat.le_refl _) (c_X5_isEmpty (by omega)) (fun z2 σ2 h2 => ?_)
  obtain ⟨hs2, h2⟩ := h2
  subst σ2
  refine z_if_eq (tgt := 11) dX5_bytesRefusal_5 (by decide) ⟨by omega, by omega⟩ (fun h5 => ?_) (fun h5 => ?_)
  · first
    | exfalso; omega
    | skip
      refine z_aload_n dX5_bytesRefusal_11 rfl ?_
      refine z_iload_n dX5_bytesRefusal_12 rfl ?_
      refine z_callVI (d := d + 2) (av := [_]) dX5_bytesRefusal_13 vX5_30 rfl (Nat.le_of_ble_eq_true rfl) rfl rfl rfl (Nat.le_of_ble_eq_true rfl) (Nat.le_refl _) (c_X5_heldOn (by omega)) (fun z13 σ13 h13 => ?_)
      obtain ⟨rfl, hs13, h13⟩ := h13
      subst σ13
      refine z_if_ne (tgt := 23) dX5_bytesRefusal_16 (by decide) ⟨by omega, by omega⟩ (fun h16 => ?_) (fun h16 => ?_)
      · first
        | exfalso; omega
        | skip
          refine z_bipush (v := -12) dX5_bytesRefusal_23 (by decide +kernel) ?_
          exact z_iret dX5_bytesRefusal_25 ⟨rfl, by omega⟩
      · first
        | exfalso; omega
        | skip
          refine z_iconst dX5_bytesRefusal_19 ?_
          refine z_goto (tgt := 25) dX5_bytesRefusal_20 (by decide) ?_
          exact z_iret dX5_bytesRefusal_25 ⟨rfl, by omega⟩
  · first
    | exfalso; omega
    | skip
      refine z_bipush (v := -11) dX5_bytesRefusal_8 (by decide +kernel) ?_
      exact z_iret dX5_bytesRefusal_10 ⟨rfl, by omega⟩
abbrev lenR (σ : Sto) (s l : Int) : Prop := l = σ 32 s.toNat
set_option maxRecDepth 20000 in
theorem c_X5_lengthOf {d : Nat} {σ : Sto} {s : Int} (hs : 0 ≤ s ∧ s < 6) : m_X5_lengthOf d [zR 4, zI s] σ (qI fun z σ' => σ' = σ ∧ lenR σ s z ∧ inR z) := by
  refine z_does (L := [some (zR 4), some (zI s)]) rfl (by decide +kernel) (Nat.le_of_ble_eq_true rfl) rfl ?_
  refine z_iload_n dX5_lengthOf_0 rfl ?_
  refine z_callSI (d := d + 0) (av := [_]) dX5_lengthOf_1 sX5_26 rfl rfl (Nat.le_of_ble_eq_true rfl) (Nat.le_refl _) (c_X8_isShelf (by omega)) (fun z1 σ1 h1 => ?_)
  obtain ⟨hs1, h1⟩ := h1
  subst σ1
  refine z_if_eq (tgt := 16) dX5_lengthOf_4 (by decide) ⟨by omega, by omega⟩ (fun h4 => ?_) (fun h4 => ?_)
  · first
    | exfalso; omega
    | skip
      refine z_iconst dX5_lengthOf_16 ?_
      exact z_iret dX5_lengthOf_17 ⟨rfl, by omega, by omega⟩
  · first
    | exfalso; omega
    | skip
      refine z_aload_n dX5_lengthOf_7 rfl ?_
      refine z_getR dX5_lengthOf_8 gX5_18 rfl (Nat.le_of_ble_eq_true rfl) rfl ?_
      refine z_iload_n dX5_lengthOf_11 rfl ?_
      refine z_iald dX5_lengthOf_12 rfl (Nat.le_of_ble_eq_true rfl) (by omega) (fun hr12 => ?_)
      refine z_goto (tgt := 17) dX5_lengthOf_13 (by decide) ?_
      exact z_iret dX5_lengthOf_17 ⟨rfl, by omega, by omega⟩
set_option maxRecDepth 20000 in
theorem c_X5_bodyOn {d : Nat} {σ : Sto} {s : Int} (hs : 0 ≤ s ∧ s < 6) : m_X5_bodyOn d [zR 4, zI s] σ (qI fun z σ' => σ' = σ ∧ ((σ 30 s.toNat = -2 ∧ z = σ 31 s.toNat) ∨ (σ 30 s.toNat ≠ -2 ∧ z = -1)) ∧ inR z) := by
  refine z_does (L := [some (zR 4), some (zI s)]) rfl (by decide +kernel) (Nat.le_of_ble_eq_true rfl) rfl ?_
  refine z_aload_n dX5_bodyOn_0 rfl ?_
  refine z_iload_n dX5_bodyOn_1 rfl ?_
  refine z_callVI (d := d + 1) (av := [_]) dX5_bodyOn_2 vX5_30 rfl (Nat.le_of_ble_eq_true rfl) rfl rfl rfl (Nat.le_of_ble_eq_true rfl) (Nat.le_refl _) (c_X5_heldOn (by omega)) (fun z2 σ2 h2 => ?_)
  obtain ⟨rfl, hs2, h2⟩ := h2
  subst σ2
  refine z_bipush (v := -2) dX5_bodyOn_5 (by decide +kernel) ?_
  refine z_icmp_ne (tgt := 19) dX5_bodyOn_7 (by decide) ⟨by omega, by omega⟩ ⟨by omega, by omega⟩ (fun h7 => ?_) (fun h7 => ?_)
  · first
    | exfalso; omega
    | skip
      refine z_iconst dX5_bodyOn_19 ?_
      exact z_iret dX5_bodyOn_20 ⟨rfl, by omega, by omega⟩
  · first
    | exfalso; omega
    | skip
      refine z_aload_n dX5_bodyOn_10 rfl ?_
      refine z_getR dX5_bodyOn_11 gX5_15 rfl (Nat.le_of_ble_eq_true rfl) rfl ?_
      refine z_iload_n dX5_bodyOn_14 rfl ?_
      refine z_iald dX5_bodyOn_15 rfl (Nat.le_of_ble_eq_true rfl) (by omega) (fun hr15 => ?_)
      refine z_goto (tgt := 20) dX5_bodyOn_16 (by decide) ?_
      exact z_iret dX5_bodyOn_20 ⟨rfl, by omega, by omega⟩
set_option maxRecDepth 20000 in
theorem c_X5_hasRange {d : Nat} {σ : Sto} {s fr n l : Int} (hs : 0 ≤ s ∧ s < 6) (hl : lenR σ s l) (hl2 : 0 ≤ l) (hf : inR fr) (hn : inR n) : m_X5_hasRange d [zR 4, zI s, zI fr, zI n] σ (qI fun z σ' => σ' = σ ∧ yn z (0 ≤ fr ∧ 0 ≤ n ∧ n ≤ l ∧ fr ≤ l - n)) := by
  refine z_does (L := [some (zR 4), some (zI s), some (zI fr), some (zI n)]) rfl (by decide +kernel) (Nat.le_of_ble_eq_true rfl) rfl ?_
  refine z_iload_n dX5_hasRange_0 rfl ?_
  refine z_if_lt (tgt := 32) dX5_hasRange_1 (by decide) ⟨by omega, by omega⟩ (fun h1 => ?_) (fun h1 => ?_)
  · first
    | exfalso; omega
    | skip
      refine z_iconst dX5_hasRange_32 ?_
      exact z_zret dX5_hasRange_33 (by omega) ⟨rfl, by omega⟩
  · first
    | exfalso; omega
    | skip
      refine z_iload_n dX5_hasRange_4 rfl ?_
      refine z_if_lt (tgt := 32) dX5_hasRange_5 (by decide) ⟨by omega, by omega⟩ (fun h5 => ?_) (fun h5 => ?_)
      · first
        | exfalso; omega
        | skip
          refine z_iconst dX5_hasRange_32 ?_
          exact z_zret dX5_hasRange_33 (by omega) ⟨rfl, by omega⟩
      · first
        | exfalso; omega
        | skip
          refine z_iload_n dX5_hasRange_8 rfl ?_
          refine z_aload_n dX5_hasRange_9 rfl ?_
          refine z_iload_n dX5_hasRange_10 rfl ?_
          refine z_callVI (d := d + 1) (av := [_]) dX5_hasRange_11 vX5_37 rfl (Nat.le_of_ble_eq_true rfl) rfl rfl rfl (Nat.le_of_ble_eq_true rfl) (Nat.le_refl _) (c_X5_lengthOf (by omega)) (fun z11 σ11 h11 => ?_)
          obtain ⟨hs11, h11, h11r⟩ := h11
          subst σ11
          refine z_icmp_gt (tgt := 32) dX5_hasRange_14 (by decide) ⟨by omega, by omega⟩ ⟨by omega, by omega⟩ (fun h14 => ?_) (fun h14 => ?_)
          · first
            | exfalso; omega
            | skip
              refine z_iconst dX5_hasRange_32 ?_
              exact z_zret dX5_hasRange_33 (by omega) ⟨rfl, by omega⟩
          · first
            | exfalso; omega
            | skip
              refine z_iload_n dX5_hasRange_17 rfl ?_
              refine z_aload_n dX5_hasRange_18 rfl ?_
              refine z_iload_n dX5_hasRange_19 rfl ?_
              refine z_callVI (d := d + 1) (av := [_]) dX5_hasRange_20 vX5_37 rfl (Nat.le_of_ble_eq_true rfl) rfl rfl rfl (Nat.le_of_ble_eq_true rfl) (Nat.le_refl _) (c_X5_lengthOf (by omega)) (fun z20 σ20 h20 => ?_)
              obtain ⟨hs20, h20, h20r⟩ := h20
              subst σ20
              refine z_iload_n dX5_hasRange_23 rfl ?_
              refine z_isub dX5_hasRange_24 ?_
              refine z_icmp_gt (tgt := 32) dX5_hasRange_25 (by decide) ⟨by omega, by omega⟩ ⟨by omega, by omega⟩ (fun h25 => ?_) (fun h25 => ?_)
              · first
                | exfalso; omega
                | skip
                  refine z_iconst dX5_hasRange_32 ?_
                  exact z_zret dX5_hasRange_33 (by omega) ⟨rfl, by omega⟩
              · first
                | exfalso; omega
                | skip
                  refine z_iconst dX5_hasRange_28 ?_
                  refine z_goto (tgt := 33) dX5_hasRange_29 (by decide) ?_
                  exact z_zret dX5_hasRange_33 (by omega) ⟨rfl, by omega⟩
def hdS (σ : Sto) (s n : Int) : Sto := z_put (z_put (z_put σ 30 s.toNat (if n < 0 then -1 else -2)) 31 s.toNat n) 32 s.toNat 0
set_option maxRecDepth 20000 in
theorem c_X5_hold {d : Nat} {σ : Sto} {s n : Int} (hs : 0 ≤ s ∧ s < 6) (hn : inR n) : m_X5_hold d [zR 4, zI s, zI n] σ (qV fun σ' => σ' = hdS σ s n) := by
  refine z_does (L := [some (zR 4), some (zI s), some (zI n)]) rfl (by decide +kernel) (Nat.le_of_ble_eq_true rfl) rfl ?_
  refine z_iload_n dX5_hold_0 rfl ?_
  refine z_callSI (d := d + 0) (av := [_]) dX5_hold_1 sX5_26 rfl rfl (Nat.le_of_ble_eq_true rfl) (Nat.le_refl _) (c_X8_isShelf (by omega)) (fun z1 σ1 h1 => ?_)
  obtain ⟨hs1, h1⟩ := h1
  subst σ1
  refine z_if_eq (tgt := 37) dX5_hold_4 (by decide) ⟨by omega, by omega⟩ (fun h4 => ?_) (fun h4 => ?_)
  · first
    | exfalso; omega
    | skip
      exact z_vret dX5_hold_37 (by unfold hdS; first | rw [if_pos (by omega)] | rw [if_neg (by omega)])
  · first
    | exfalso; omega
    | skip
      refine z_aload_n dX5_hold_7 rfl ?_
      refine z_getR dX5_hold_8 gX5_9 rfl (Nat.le_of_ble_eq_true rfl) rfl ?_
      refine z_iload_n dX5_hold_11 rfl ?_
      refine z_iload_n dX5_hold_12 rfl ?_
      refine z_if_ge (tgt := 20) dX5_hold_13 (by decide) ⟨by omega, by omega⟩ (fun h13 => ?_) (fun h13 => ?_)
      · first
        | exfalso; omega
        | skip
          refine z_bipush (v := -2) dX5_hold_20 (by decide +kernel) ?_
          refine z_iast dX5_hold_22 rfl (Nat.le_of_ble_eq_true rfl) (by omega) ⟨by omega, by omega⟩ ?_
          refine z_aload_n dX5_hold_23 rfl ?_
          refine z_getR dX5_hold_24 gX5_15 rfl (Nat.le_of_ble_eq_true rfl) rfl ?_
          refine z_iload_n dX5_hold_27 rfl ?_
          refine z_iload_n dX5_hold_28 rfl ?_
          refine z_iast dX5_hold_29 rfl (Nat.le_of_ble_eq_true rfl) (by omega) ⟨by omega, by omega⟩ ?_
          refine z_aload_n dX5_hold_30 rfl ?_
          refine z_getR dX5_hold_31 gX5_18 rfl (Nat.le_of_ble_eq_true rfl) rfl ?_
          refine z_iload_n dX5_hold_34 rfl ?_
          refine z_iconst dX5_hold_35 ?_
          refine z_iast dX5_hold_36 rfl (Nat.le_of_ble_eq_true rfl) (by omega) ⟨by omega, by omega⟩ ?_
          exact z_vret dX5_hold_37 (by unfold hdS; first | rw [if_pos (by omega)] | rw [if_neg (by omega)])
      · first
        | exfalso; omega
        | skip
          refine z_iconst dX5_hold_16 ?_
          refine z_goto (tgt := 22) dX5_hold_17 (by decide) ?_
          refine z_iast dX5_hold_22 rfl (Nat.le_of_ble_eq_true rfl) (by omega) ⟨by omega, by omega⟩ ?_
          refine z_aload_n dX5_hold_23 rfl ?_
          refine z_getR dX5_hold_24 gX5_15 rfl (Nat.le_of_ble_eq_true rfl) rfl ?_
          refine z_iload_n dX5_hold_27 rfl ?_
          refine z_iload_n dX5_hold_28 rfl ?_
          refine z_iast dX5_hold_29 rfl (Nat.le_of_ble_eq_true rfl) (by omega) ⟨by omega, by omega⟩ ?_
          refine z_aload_n dX5_hold_30 rfl ?_
          refine z_getR dX5_hold_31 gX5_18 rfl (Nat.le_of_ble_eq_true rfl) rfl ?_
          refine z_iload_n dX5_hold_34 rfl ?_
          refine z_iconst dX5_hold_35 ?_
          refine z_iast dX5_hold_36 rfl (Nat.le_of_ble_eq_true rfl) (by omega) ⟨by omega, by omega⟩ ?_
          exact z_vret dX5_hold_37 (by unfold hdS; first | rw [if_pos (by omega)] | rw [if_neg (by omega)])
/-- a cell whose first i elements are 0 -/
def zerS (σ : Sto) (k : Nat) (i : Int) : Sto := fun a b => if a = k ∧ (b : Int) < i then 0 else σ a b
theorem zerS_0 (σ : Sto) (k : Nat) : zerS σ k 0 = σ := by
  funext a b
  unfold zerS
  rw [if_neg (by omega)]
theorem zerS_s {σ : Sto} {k : Nat} {i : Int} (hi : 0 ≤ i) : z_put (zerS σ k i) k i.toNat 0 = zerS σ k (i + 1) := by
  funext a b
  rw [z_rd]
  unfold zerS
  grind
set_option maxRecDepth 20000 in
theorem l_X5_newRow {d : Nat} {σ : Sto} {s so n : Int} (hs : 0 ≤ s ∧ s < 6) (i : Int) (hi : 0 ≤ i ∧ i ≤ 60) : Z (z_me cX5_newRow RX5 5 none (d + 1) (qV fun σ' => σ' = zerS σ (34 + s.toNat) 60)) 25 [some (zR 4), some (zI s), some (zI so), some (zI n), some (zI i)] [] (zerS σ (34 + s.toNat) i) := by
  refine z_iload dX5_newRow_25 rfl ?_
  refine z_bipush (v := 60) dX5_newRow_27 (by decide +kernel) ?_
  refine z_icmp_ge (tgt := 48) dX5_newRow_29 (by decide) ⟨by omega, by omega⟩ ⟨by omega, by omega⟩ (fun h29 => ?_) (fun h29 => ?_)
  · first
    | exfalso; omega
    | skip
      exact z_vret dX5_newRow_48 (by rw [show i = 60 by omega])
  · first
    | exfalso; omega
    | skip
      refine z_aload_n dX5_newRow_32 rfl ?_
      refine z_getR dX5_newRow_33 gX5_23 rfl (Nat.le_of_ble_eq_true rfl) rfl ?_
      refine z_iload_n dX5_newRow_36 rfl ?_
      refine z_aald dX5_newRow_37 rfl (Or.inr rfl) (Nat.le_of_ble_eq_true rfl) (by omega) ?_
      refine z_iload dX5_newRow_38 rfl ?_
      refine z_lconst (v := 0) dX5_newRow_40 (by decide +kernel) ?_
      refine z_last dX5_newRow_41 (lay_rows _ (by omega)) (show 34 + s.toNat < 121 by omega) (by omega) ⟨by omega, by omega⟩ ?_
      rw [zerS_s hi.1]
      refine z_iinc (L' := [_, _, _, _, _]) dX5_newRow_42 (Nat.le_of_ble_eq_true rfl) rfl rfl rfl ?_
      refine z_goto (tgt := 25) dX5_newRow_45 (by decide) ?_
      exact l_X5_newRow hs (i + 1) (by omega)
termination_by (60 - i).toNat
decreasing_by omega
def rowS (σ : Sto) (s so n : Int) : Sto := zerS (z_put (z_put σ 30 s.toNat so) 32 s.toNat n) (34 + s.toNat) 60
set_option maxRecDepth 20000 in
theorem c_X5_newRow {d : Nat} {σ : Sto} {s so n : Int} (hs : 0 ≤ s ∧ s < 6) (ho : inR so) (hn : inR n) : m_X5_newRow d [zR 4, zI s, zI so, zI n] σ (qV fun σ' => σ' = rowS σ s so n) := by
  refine z_does (L := [some (zR 4), some (zI s), some (zI so), some (zI n), none]) rfl (by decide +kernel) (Nat.le_of_ble_eq_true rfl) rfl ?_
  refine z_iload_n dX5_newRow_0 rfl ?_
  refine z_callSI (d := d + 0) (av := [_]) dX5_newRow_1 sX5_26 rfl rfl (Nat.le_of_ble_eq_true rfl) (Nat.le_refl _) (c_X8_isShelf (by omega)) (fun z1 σ1 h1 => ?_)
  obtain ⟨hs1, h1⟩ := h1
  subst σ1
  refine z_if_ne (tgt := 8) dX5_newRow_4 (by decide) ⟨by omega, by omega⟩ (fun h4 => ?_) (fun h4 => ?_)
  · first
    | exfalso; omega
    | skip
      refine z_aload_n dX5_newRow_8 rfl ?_
      refine z_getR dX5_newRow_9 gX5_9 rfl (Nat.le_of_ble_eq_true rfl) rfl ?_
      refine z_iload_n dX5_newRow_12 rfl ?_
      refine z_iload_n dX5_newRow_13 rfl ?_
      refine z_iast dX5_newRow_14 rfl (Nat.le_of_ble_eq_true rfl) (by omega) ⟨by omega, by omega⟩ ?_
      refine z_aload_n dX5_newRow_15 rfl ?_
      refine z_getR dX5_newRow_16 gX5_18 rfl (Nat.le_of_ble_eq_true rfl) rfl ?_
      refine z_iload_n dX5_newRow_19 rfl ?_
      refine z_iload_n dX5_newRow_20 rfl ?_
      refine z_iast dX5_newRow_21 rfl (Nat.le_of_ble_eq_true rfl) (by omega) ⟨by omega, by omega⟩ ?_
      refine z_iconst dX5_newRow_22 ?_
      refine z_istore (L' := [_, _, _, _, _]) dX5_newRow_23 (Nat.le_of_ble_eq_true rfl) rfl rfl ?_
      have h := l_X5_newRow (d := d) (σ := z_put (z_put σ 30 s.toNat so) 32 s.toNat n) (so := so) (n := n) hs 0 (by omega)
      rw [zerS_0] at h
      exact h
  · first
    | exfalso; omega
    | skip
      exact z_vret dX5_newRow_7 (by omega)
set_option maxRecDepth 20000 in
theorem c_X5_valueAt {d : Nat} {σ : Sto} {s a l : Int} (hs : 0 ≤ s ∧ s < 6) (hl : lenR σ s l) (hl2 : 0 ≤ l ∧ l ≤ 60) (ha : inR a) : m_X5_valueAt d [zR 4, zI s, zI a] σ (qJ fun z σ' => σ' = σ ∧ ((0 ≤ a ∧ a < l ∧ z = σ (34 + s.toNat) a.toNat) ∨ ((a < 0 ∨ l ≤ a) ∧ z = 0)) ∧ inJ z) := by
  refine z_does (L := [some (zR 4), some (zI s), some (zI a)]) rfl (by decide +kernel) (Nat.le_of_ble_eq_true rfl) rfl ?_
  refine z_aload_n dX5_valueAt_0 rfl ?_
  refine z_iload_n dX5_valueAt_1 rfl ?_
  refine z_iload_n dX5_valueAt_2 rfl ?_
  refine z_iconst dX5_valueAt_3 ?_
  refine z_callVI (d := d + 2) (av := [_, _, _]) dX5_valueAt_4 vX5_40 rfl (Nat.le_of_ble_eq_true rfl) rfl rfl rfl (Nat.le_of_ble_eq_true rfl) (Nat.le_refl _) (c_X5_hasRange (by omega) (by assumption) (by omega) (by omega) (by omega)) (fun z4 σ4 h4 => ?_)
  obtain ⟨hs4, h4⟩ := h4
  subst σ4
  refine z_if_eq (tgt := 27) dX5_valueAt_7 (by decide) ⟨by omega, by omega⟩ (fun h7 => ?_) (fun h7 => ?_)
  · first
    | exfalso; omega
    | skip
      refine z_lconst (v := 0) dX5_valueAt_27 (by decide +kernel) ?_
      exact z_lret dX5_valueAt_28 ⟨rfl, by omega, by omega⟩
  · first
    | exfalso; omega
    | skip
      refine z_iload_n dX5_valueAt_10 rfl ?_
      refine z_bipush (v := 60) dX5_valueAt_11 (by decide +kernel) ?_
      refine z_icmp_ge (tgt := 27) dX5_valueAt_13 (by decide) ⟨by omega, by omega⟩ ⟨by omega, by omega⟩ (fun h13 => ?_) (fun h13 => ?_)
      · first
        | exfalso; omega
        | skip
          refine z_lconst (v := 0) dX5_valueAt_27 (by decide +kernel) ?_
          exact z_lret dX5_valueAt_28 ⟨rfl, by omega, by omega⟩
      · first
        | exfalso; omega
        | skip
          refine z_aload_n dX5_valueAt_16 rfl ?_
          refine z_getR dX5_valueAt_17 gX5_23 rfl (Nat.le_of_ble_eq_true rfl) rfl ?_
          refine z_iload_n dX5_valueAt_20 rfl ?_
          refine z_aald dX5_valueAt_21 rfl (Or.inr rfl) (Nat.le_of_ble_eq_true rfl) (by omega) ?_
          refine z_iload_n dX5_valueAt_22 rfl ?_
          refine z_lald dX5_valueAt_23 (lay_rows _ (by omega)) (show 34 + s.toNat < 121 by omega) (by omega) (fun hr23 => ?_)
          refine z_goto (tgt := 28) dX5_valueAt_24 (by decide) ?_
          exact z_lret dX5_valueAt_28 ⟨rfl, by omega, by omega⟩
abbrev lowR (so v z : Int) : Prop := (so = 0 ∧ z = z_i2bF v) ∨ (so = 1 ∧ z = z_i2sF v) ∨ (so = 2 ∧ z = wr v) ∨ (so = 3 ∧ z = v) ∨ (so ≠ 0 ∧ so ≠ 1 ∧ so ≠ 2 ∧ so ≠ 3 ∧ ((v ≠ 0 ∧ z = 1) ∨ (v = 0 ∧ z = 0)))
set_option maxRecDepth 20000 in
theorem c_X5_lowestBits {d : Nat} {σ : Sto} {so v : Int} (ho : inR so) (hv : inJ v) : m_X5_lowestBits d [zI so, zJ v] σ (qJ fun z σ' => σ' = σ ∧ lowR so v z ∧ inJ z) := by
  have r1 : inR (z_i2bF v) := z_rng _
  have r2 : inR (z_i2sF v) := z_rng _
  have r3 := wr_R v
  refine z_does (L := [some (zI so), some (zJ v), none]) rfl (by decide +kernel) (Nat.le_of_ble_eq_true rfl) rfl ?_
  refine z_iload_n dX5_lowestBits_0 rfl ?_
  refine sw_X5_lowestBits_1 ⟨by omega, by omega⟩ (fun h1 => ?_) (fun h1 => ?_) (fun h1 => ?_) (fun h1 => ?_) (fun h1 => ?_)
  · first
    | exfalso; omega
    | skip
      refine z_lload_n dX5_lowestBits_32 rfl ?_
      refine z_l2i dX5_lowestBits_33 ?_
      refine z_i2b dX5_lowestBits_34 ?_
      refine z_i2l dX5_lowestBits_35 ⟨by omega, by omega⟩ ?_
      exact z_lret dX5_lowestBits_36 ⟨rfl, by omega, by omega⟩
  · first
    | exfalso; omega
    | skip
      refine z_lload_n dX5_lowestBits_37 rfl ?_
      refine z_l2i dX5_lowestBits_38 ?_
      refine z_i2s dX5_lowestBits_39 ?_
      refine z_i2l dX5_lowestBits_40 ⟨by omega, by omega⟩ ?_
      exact z_lret dX5_lowestBits_41 ⟨rfl, by omega, by omega⟩
  · first
    | exfalso; omega
    | skip
      refine z_lload_n dX5_lowestBits_42 rfl ?_
      refine z_l2i dX5_lowestBits_43 ?_
      refine z_wr ?_
      refine z_i2l dX5_lowestBits_44 ⟨by omega, by omega⟩ ?_
      exact z_lret dX5_lowestBits_45 ⟨rfl, by omega, by omega⟩
  · first
    | exfalso; omega
    | skip
      refine z_lload_n dX5_lowestBits_46 rfl ?_
      exact z_lret dX5_lowestBits_47 ⟨rfl, by omega, by omega⟩
  · first
    | exfalso; omega
    | skip
      refine z_lload_n dX5_lowestBits_48 rfl ?_
      refine z_lconst (v := 0) dX5_lowestBits_49 (by decide +kernel) ?_
      refine z_lc_eq (tgt := 58) dX5_lowestBits_50 dX5_lowestBits_51 (by decide) ⟨by omega, by omega⟩ ⟨by omega, by omega⟩ (fun h50 => ?_) (fun h50 => ?_)
      · first
        | exfalso; omega
        | skip
          refine z_lconst (v := 0) dX5_lowestBits_58 (by decide +kernel) ?_
          exact z_lret dX5_lowestBits_59 ⟨rfl, by omega, by omega⟩
      · first
        | exfalso; omega
        | skip
          refine z_lconst (v := 1) dX5_lowestBits_54 (by decide +kernel) ?_
          refine z_goto (tgt := 59) dX5_lowestBits_55 (by decide) ?_
          exact z_lret dX5_lowestBits_59 ⟨rfl, by omega, by omega⟩
set_option maxRecDepth 20000 in
theorem c_X5_setAt {d : Nat} {σ : Sto} {s a v : Int} (hs : 0 ≤ s ∧ s < 6) (hh : 0 ≤ σ 30 s.toNat) (ha : 0 ≤ a ∧ a < σ 32 s.toNat) (hl : σ 32 s.toNat ≤ 60) (hv : inJ v) : m_X5_setAt d [zR 4, zI s, zI a, zJ v] σ (qV fun σ' => ∃ z, lowR (σ 30 s.toNat) v z ∧ σ' = z_put σ (34 + s.toNat) a.toNat z) := by
  have hlr : lenR σ s (σ 32 s.toNat) := rfl
  refine z_does (L := [some (zR 4), some (zI s), some (zI a), some (zJ v), none]) rfl (by decide +kernel) (Nat.le_of_ble_eq_true rfl) rfl ?_
  refine z_aload_n dX5_setAt_0 rfl ?_
  refine z_iload_n dX5_setAt_1 rfl ?_
  refine z_iload_n dX5_setAt_2 rfl ?_
  refine z_iconst dX5_setAt_3 ?_
  refine z_callVI (d := d + 2) (av := [_, _, _]) dX5_setAt_4 vX5_40 rfl (Nat.le_of_ble_eq_true rfl) rfl rfl rfl (Nat.le_of_ble_eq_true rfl) (Nat.le_refl _) (c_X5_hasRange (by omega) (by assumption) (by omega) (by omega) (by omega)) (fun z4 σ4 h4 => ?_)
  obtain ⟨hs4, h4⟩ := h4
  subst σ4
  refine z_if_eq (tgt := 34) dX5_setAt_7 (by decide) ⟨by omega, by omega⟩ (fun h7 => ?_) (fun h7 => ?_)
  · exfalso; omega
  · skip
    refine z_iload_n dX5_setAt_10 rfl ?_
    refine z_bipush (v := 60) dX5_setAt_11 (by decide +kernel) ?_
    refine z_icmp_ge (tgt := 34) dX5_setAt_13 (by decide) ⟨by omega, by omega⟩ ⟨by omega, by omega⟩ (fun h13 => ?_) (fun h13 => ?_)
    · exfalso; omega
    · skip
      refine z_aload_n dX5_setAt_16 rfl ?_
      refine z_getR dX5_setAt_17 gX5_23 rfl (Nat.le_of_ble_eq_true rfl) rfl ?_
      refine z_iload_n dX5_setAt_20 rfl ?_
      refine z_aald dX5_setAt_21 rfl (Or.inr rfl) (Nat.le_of_ble_eq_true rfl) (by omega) ?_
      refine z_iload_n dX5_setAt_22 rfl ?_
      refine z_aload_n dX5_setAt_23 rfl ?_
      refine z_getR dX5_setAt_24 gX5_9 rfl (Nat.le_of_ble_eq_true rfl) rfl ?_
      refine z_iload_n dX5_setAt_27 rfl ?_
      refine z_iald dX5_setAt_28 rfl (Nat.le_of_ble_eq_true rfl) (by omega) (fun hr28 => ?_)
      refine z_lload_n dX5_setAt_29 rfl ?_
      refine z_callSJ (d := d + 2) (av := [_, _]) dX5_setAt_30 sX5_44 rfl rfl (Nat.le_of_ble_eq_true rfl) (Nat.le_refl _) (c_X5_lowestBits (by omega) (by omega)) (fun z30 σ30 h30 => ?_)
      obtain ⟨hs30, h30, h30r⟩ := h30
      subst σ30
      refine z_last dX5_setAt_33 (lay_rows _ (by omega)) (show 34 + s.toNat < 121 by omega) (by omega) ⟨by omega, by omega⟩ ?_
      exact z_vret dX5_setAt_34 ⟨_, h30, rfl⟩
set_option maxRecDepth 20000 in
theorem c_X5_copyRange {d : Nat} {σ : Sto} {s fr o to n ls lo : Int} (hs : 0 ≤ s ∧ s < 6) (ho : 0 ≤ o ∧ o < 6) (hl : lenR σ s ls) (hl2 : 0 ≤ ls ∧ ls ≤ 60) (hm : lenR σ o lo) (hm2 : 0 ≤ lo ∧ lo ≤ 60) (h1 : 0 ≤ fr ∧ 0 ≤ n ∧ n ≤ ls ∧ fr ≤ ls - n) (h2 : 0 ≤ to ∧ n ≤ lo ∧ to ≤ lo - n) (h3 : 0 ≤ σ 30 s.toNat) (h4 : 0 ≤ σ 30 o.toNat) : m_X5_copyRange d [zR 4, zI s, zI fr, zI o, zI to, zI n] σ (qV fun σ' => σ' = z_cp σ (34 + s.toNat) (34 + o.toNat) fr.toNat to.toNat n.toNat) := by
  refine z_does (L := [some (zR 4), some (zI s), some (zI fr), some (zI o), some (zI to), some (zI n)]) rfl (by decide +kernel) (Nat.le_of_ble_eq_true rfl) rfl ?_
  refine z_aload_n dX5_copyRange_0 rfl ?_
  refine z_iload_n dX5_copyRange_1 rfl ?_
  refine z_callVI (d := d + 2) (av := [_]) dX5_copyRange_2 vX5_48 rfl (Nat.le_of_ble_eq_true rfl) rfl rfl rfl (Nat.le_of_ble_eq_true rfl) (Nat.le_refl _) (c_X5_isRow (by omega)) (fun z2 σ2 h2 => ?_)
  obtain ⟨hs2, h2⟩ := h2
  subst σ2
  refine z_if_eq (tgt := 59) dX5_copyRange_5 (by decide) ⟨by omega, by omega⟩ (fun h5 => ?_) (fun h5 => ?_)
  · exfalso; omega
  · skip
    refine z_aload_n dX5_copyRange_8 rfl ?_
    refine z_iload_n dX5_copyRange_9 rfl ?_
    refine z_callVI (d := d + 2) (av := [_]) dX5_copyRange_10 vX5_48 rfl (Nat.le_of_ble_eq_true rfl) rfl rfl rfl (Nat.le_of_ble_eq_true rfl) (Nat.le_refl _) (c_X5_isRow (by omega)) (fun z10 σ10 h10 => ?_)
    obtain ⟨hs10, h10⟩ := h10
    subst σ10
    refine z_if_eq (tgt := 59) dX5_copyRange_13 (by decide) ⟨by omega, by omega⟩ (fun h13 => ?_) (fun h13 => ?_)
    · exfalso; omega
    · skip
      refine z_aload_n dX5_copyRange_16 rfl ?_
      refine z_iload_n dX5_copyRange_17 rfl ?_
      refine z_iload_n dX5_copyRange_18 rfl ?_
      refine z_iload dX5_copyRange_19 rfl ?_
      refine z_callVI (d := d + 2) (av := [_, _, _]) dX5_copyRange_21 vX5_40 rfl (Nat.le_of_ble_eq_true rfl) rfl rfl rfl (Nat.le_of_ble_eq_true rfl) (Nat.le_refl _) (c_X5_hasRange (by omega) hl (by omega) (by omega) (by omega)) (fun z21 σ21 h21 => ?_)
      obtain ⟨hs21, h21⟩ := h21
      subst σ21
      refine z_if_eq (tgt := 59) dX5_copyRange_24 (by decide) ⟨by omega, by omega⟩ (fun h24 => ?_) (fun h24 => ?_)
      · exfalso; omega
      · skip
        refine z_aload_n dX5_copyRange_27 rfl ?_
        refine z_iload_n dX5_copyRange_28 rfl ?_
        refine z_iload dX5_copyRange_29 rfl ?_
        refine z_iload dX5_copyRange_31 rfl ?_
        refine z_callVI (d := d + 2) (av := [_, _, _]) dX5_copyRange_33 vX5_40 rfl (Nat.le_of_ble_eq_true rfl) rfl rfl rfl (Nat.le_of_ble_eq_true rfl) (Nat.le_refl _) (c_X5_hasRange (by omega) hm (by omega) (by omega) (by omega)) (fun z33 σ33 h33 => ?_)
        obtain ⟨hs33, h33⟩ := h33
        subst σ33
        refine z_if_eq (tgt := 59) dX5_copyRange_36 (by decide) ⟨by omega, by omega⟩ (fun h36 => ?_) (fun h36 => ?_)
        · exfalso; omega
        · skip
          refine z_aload_n dX5_copyRange_39 rfl ?_
          refine z_getR dX5_copyRange_40 gX5_23 rfl (Nat.le_of_ble_eq_true rfl) rfl ?_
          refine z_iload_n dX5_copyRange_43 rfl ?_
          refine z_aald dX5_copyRange_44 rfl (Or.inr rfl) (Nat.le_of_ble_eq_true rfl) (by omega) ?_
          refine z_iload_n dX5_copyRange_45 rfl ?_
          refine z_aload_n dX5_copyRange_46 rfl ?_
          refine z_getR dX5_copyRange_47 gX5_23 rfl (Nat.le_of_ble_eq_true rfl) rfl ?_
          refine z_iload_n dX5_copyRange_50 rfl ?_
          refine z_aald dX5_copyRange_51 rfl (Or.inr rfl) (Nat.le_of_ble_eq_true rfl) (by omega) ?_
          refine z_iload dX5_copyRange_52 rfl ?_
          refine z_iload dX5_copyRange_54 rfl ?_
          refine z_copyJ dX5_copyRange_56 aX5_51 (lay_rows _ (by omega)) (show 34 + s.toNat < 121 by omega) (lay_rows _ (by omega)) (show 34 + o.toNat < 121 by omega) (by omega) (by omega) (by omega) (by omega) (by omega) (Nat.le_of_ble_eq_true rfl) (Nat.le_add_left _ _) ?_
          exact z_vret dX5_copyRange_59 rfl
