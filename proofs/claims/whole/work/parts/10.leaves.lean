/-! ===== Leaves ===== -/
def abv (k : Int) : Int := ([-1, 0, 0, 2, 1, 3, 0, 6] : List Int).getD k.toNat 0
def ownB (p : Int) : Int := ([1, 10, 11, 2, 20, 0, 0, 0, 0, 30, 0, 0, 0, 41, 40, 0, 0, 0, 0, 50, 0, 0, 60, 61, 70, 0, 0, 0, 81, 80, 0, 0] : List Int).getD p.toNat 0
theorem abv_R {k : Int} (h : 0 ≤ k ∧ k < 8) : -1 ≤ abv k ∧ abv k < 8 := by
  rcases (show k = 0 ∨ k = 1 ∨ k = 2 ∨ k = 3 ∨ k = 4 ∨ k = 5 ∨ k = 6 ∨ k = 7 by omega) with rfl | rfl | rfl | rfl | rfl | rfl | rfl | rfl <;> decide
theorem ownB_R : ∀ p : Nat, p < 32 → 0 ≤ ownB p ∧ ownB p < 100 := by decide
def undN : Nat → Int → Int → Bool
  | 0, _, _ => false
  | m + 1, k, u => if 0 ≤ k ∧ k < 8 then (if k = u then true else undN m (abv k) u) else false
def bfN : Nat → Int → Int → Int
  | 0, _, _ => 0
  | m + 1, a, k => if 0 ≤ k ∧ k < 8 then (if 0 ≤ k * 4 + a ∧ k * 4 + a < 32 ∧ ownB (k * 4 + a) ≠ 0 then ownB (k * 4 + a) else bfN m a (abv k)) else 0
theorem undN_out {m : Nat} {k u : Int} (h : ¬ (0 ≤ k ∧ k < 8)) : undN (m + 1) k u = false := by rw [undN, if_neg h]
theorem undN_eq {m : Nat} {k u : Int} (h : 0 ≤ k ∧ k < 8) (h2 : k = u) : undN (m + 1) k u = true := by rw [undN, if_pos h, if_pos h2]
theorem undN_up {m : Nat} {k u : Int} (h : 0 ≤ k ∧ k < 8) (h2 : k ≠ u) : undN (m + 1) k u = undN m (abv k) u := by rw [undN, if_pos h, if_neg h2]
theorem bfN_out {m : Nat} {a k : Int} (h : ¬ (0 ≤ k ∧ k < 8)) : bfN (m + 1) a k = 0 := by rw [bfN, if_neg h]
theorem bfN_hit {m : Nat} {a k : Int} (h : 0 ≤ k ∧ k < 8) (h2 : 0 ≤ k * 4 + a ∧ k * 4 + a < 32 ∧ ownB (k * 4 + a) ≠ 0) : bfN (m + 1) a k = ownB (k * 4 + a) := by rw [bfN, if_pos h, if_pos h2]
theorem bfN_up {m : Nat} {a k : Int} (h : 0 ≤ k ∧ k < 8) (h2 : ¬ (0 ≤ k * 4 + a ∧ k * 4 + a < 32 ∧ ownB (k * 4 + a) ≠ 0)) : bfN (m + 1) a k = bfN m a (abv k) := by rw [bfN, if_pos h, if_neg h2]
set_option maxRecDepth 20000 in
theorem c_X3_keepBody {d : Nat} {σ : Sto} {k : Int} (hb : 0 ≤ σ 8 2 ∧ σ 8 2 ≤ 50) (hk : inR k) : m_X3_keepBody d [zR 8, zI k] σ (qI fun z σ' => (σ 8 2 = 50 ∧ z = -3 ∧ σ' = σ) ∨ (σ 8 2 < 50 ∧ z = σ 8 2 ∧ σ' = z_put (z_put σ 80 (σ 8 2).toNat k) 8 2 (σ 8 2 + 1))) := by
  refine z_does (L := [some (zR 8), some (zI k)]) rfl (by decide +kernel) (Nat.le_of_ble_eq_true rfl) rfl ?_
  refine z_aload_n dX3_keepBody_0 rfl ?_
  refine z_getI dX3_keepBody_1 gX3_18 rfl (Nat.le_of_ble_eq_true rfl) rfl (fun hr1 => ?_)
  refine z_bipush (v := 50) dX3_keepBody_4 (by decide +kernel) ?_
  refine z_icmp_lt (tgt := 12) dX3_keepBody_6 (by decide) ⟨by omega, by omega⟩ ⟨by omega, by omega⟩ (fun h6 => ?_) (fun h6 => ?_)
  · first
    | exfalso; omega
    | skip
      refine z_aload_n dX3_keepBody_12 rfl ?_
      refine z_getR dX3_keepBody_13 gX3_11 rfl (Nat.le_of_ble_eq_true rfl) rfl ?_
      refine z_aload_n dX3_keepBody_16 rfl ?_
      refine z_getI dX3_keepBody_17 gX3_18 rfl (Nat.le_of_ble_eq_true rfl) rfl (fun hr17 => ?_)
      refine z_iload_n dX3_keepBody_20 rfl ?_
      refine z_iast dX3_keepBody_21 rfl (Nat.le_of_ble_eq_true rfl) (by omega) ⟨by omega, by omega⟩ ?_
      refine z_aload_n dX3_keepBody_22 rfl ?_
      refine z_dup dX3_keepBody_23 rfl ?_
      refine z_getI dX3_keepBody_24 gX3_18 rfl (Nat.le_of_ble_eq_true rfl) rfl (fun hr24 => ?_)
      try simp only [z_rd, Nat.reduceEqDiff, ↓reduceIte, eq_self] at hr24 ⊢
      refine z_iconst dX3_keepBody_27 ?_
      refine z_iadd dX3_keepBody_28 ?_
      refine z_putI dX3_keepBody_29 pX3_18 rfl (Nat.le_of_ble_eq_true rfl) rfl ⟨by omega, by omega⟩ ?_
      refine z_aload_n dX3_keepBody_32 rfl ?_
      refine z_getI dX3_keepBody_33 gX3_18 rfl (Nat.le_of_ble_eq_true rfl) rfl (fun hr33 => ?_)
      try simp only [z_rd, Nat.reduceEqDiff, ↓reduceIte, eq_self] at hr33 ⊢
      refine z_iconst dX3_keepBody_36 ?_
      refine z_isub dX3_keepBody_37 ?_
      exact z_iret dX3_keepBody_38 (by first | exact Or.inl ⟨by omega, rfl, rfl⟩ | exact Or.inr ⟨by omega, by omega, rfl⟩)
  · first
    | exfalso; omega
    | skip
      refine z_bipush (v := -3) dX3_keepBody_9 (by decide +kernel) ?_
      exact z_iret dX3_keepBody_11 (by first | exact Or.inl ⟨by omega, rfl, rfl⟩ | exact Or.inr ⟨by omega, by omega, rfl⟩)
set_option maxRecDepth 20000 in
theorem c_X3_kindOf {d : Nat} {σ : Sto} {b : Int} (hb : σ 8 2 ≤ 50) (hr : inR b) : m_X3_kindOf d [zR 8, zI b] σ (qI fun z σ' => σ' = σ ∧ ((0 ≤ b ∧ b < σ 8 2 ∧ z = σ 80 b.toNat) ∨ ((b < 0 ∨ σ 8 2 ≤ b) ∧ z = -1))) := by
  refine z_does (L := [some (zR 8), some (zI b)]) rfl (by decide +kernel) (Nat.le_of_ble_eq_true rfl) rfl ?_
  refine z_iload_n dX3_kindOf_0 rfl ?_
  refine z_if_lt (tgt := 27) dX3_kindOf_1 (by decide) ⟨by omega, by omega⟩ (fun h1 => ?_) (fun h1 => ?_)
  · first
    | exfalso; omega
    | skip
      refine z_iconst dX3_kindOf_27 ?_
      exact z_iret dX3_kindOf_28 ⟨rfl, by omega⟩
  · first
    | exfalso; omega
    | skip
      refine z_iload_n dX3_kindOf_4 rfl ?_
      refine z_aload_n dX3_kindOf_5 rfl ?_
      refine z_getI dX3_kindOf_6 gX3_18 rfl (Nat.le_of_ble_eq_true rfl) rfl (fun hr6 => ?_)
      refine z_icmp_ge (tgt := 27) dX3_kindOf_9 (by decide) ⟨by omega, by omega⟩ ⟨by omega, by omega⟩ (fun h9 => ?_) (fun h9 => ?_)
      · first
        | exfalso; omega
        | skip
          refine z_iconst dX3_kindOf_27 ?_
          exact z_iret dX3_kindOf_28 ⟨rfl, by omega⟩
      · first
        | exfalso; omega
        | skip
          refine z_iload_n dX3_kindOf_12 rfl ?_
          refine z_bipush (v := 50) dX3_kindOf_13 (by decide +kernel) ?_
          refine z_icmp_ge (tgt := 27) dX3_kindOf_15 (by decide) ⟨by omega, by omega⟩ ⟨by omega, by omega⟩ (fun h15 => ?_) (fun h15 => ?_)
          · first
            | exfalso; omega
            | skip
              refine z_iconst dX3_kindOf_27 ?_
              exact z_iret dX3_kindOf_28 ⟨rfl, by omega⟩
          · first
            | exfalso; omega
            | skip
              refine z_aload_n dX3_kindOf_18 rfl ?_
              refine z_getR dX3_kindOf_19 gX3_11 rfl (Nat.le_of_ble_eq_true rfl) rfl ?_
              refine z_iload_n dX3_kindOf_22 rfl ?_
              refine z_iald dX3_kindOf_23 rfl (Nat.le_of_ble_eq_true rfl) (by omega) (fun hr23 => ?_)
              refine z_goto (tgt := 28) dX3_kindOf_24 (by decide) ?_
              exact z_iret dX3_kindOf_28 ⟨rfl, by omega⟩
set_option maxRecDepth 20000 in
theorem c_X3_traceAt {d : Nat} {σ : Sto} {i : Int} (hr : inR i) : m_X3_traceAt d [zR 8, zI i] σ (qI fun z σ' => σ' = σ ∧ ((0 ≤ i ∧ i < σ 8 3 ∧ i < 24 ∧ z = σ 81 i.toNat) ∨ ((i < 0 ∨ σ 8 3 ≤ i ∨ 24 ≤ i) ∧ z = -1))) := by
  refine z_does (L := [some (zR 8), some (zI i)]) rfl (by decide +kernel) (Nat.le_of_ble_eq_true rfl) rfl ?_
  refine z_iload_n dX3_traceAt_0 rfl ?_
  refine z_if_lt (tgt := 27) dX3_traceAt_1 (by decide) ⟨by omega, by omega⟩ (fun h1 => ?_) (fun h1 => ?_)
  · first
    | exfalso; omega
    | skip
      refine z_iconst dX3_traceAt_27 ?_
      exact z_iret dX3_traceAt_28 ⟨rfl, by omega⟩
  · first
    | exfalso; omega
    | skip
      refine z_iload_n dX3_traceAt_4 rfl ?_
      refine z_aload_n dX3_traceAt_5 rfl ?_
      refine z_getI dX3_traceAt_6 gX3_25 rfl (Nat.le_of_ble_eq_true rfl) rfl (fun hr6 => ?_)
      refine z_icmp_ge (tgt := 27) dX3_traceAt_9 (by decide) ⟨by omega, by omega⟩ ⟨by omega, by omega⟩ (fun h9 => ?_) (fun h9 => ?_)
      · first
        | exfalso; omega
        | skip
          refine z_iconst dX3_traceAt_27 ?_
          exact z_iret dX3_traceAt_28 ⟨rfl, by omega⟩
      · first
        | exfalso; omega
        | skip
          refine z_iload_n dX3_traceAt_12 rfl ?_
          refine z_bipush (v := 24) dX3_traceAt_13 (by decide +kernel) ?_
          refine z_icmp_ge (tgt := 27) dX3_traceAt_15 (by decide) ⟨by omega, by omega⟩ ⟨by omega, by omega⟩ (fun h15 => ?_) (fun h15 => ?_)
          · first
            | exfalso; omega
            | skip
              refine z_iconst dX3_traceAt_27 ?_
              exact z_iret dX3_traceAt_28 ⟨rfl, by omega⟩
          · first
            | exfalso; omega
            | skip
              refine z_aload_n dX3_traceAt_18 rfl ?_
              refine z_getR dX3_traceAt_19 gX3_15 rfl (Nat.le_of_ble_eq_true rfl) rfl ?_
              refine z_iload_n dX3_traceAt_22 rfl ?_
              refine z_iald dX3_traceAt_23 rfl (Nat.le_of_ble_eq_true rfl) (by omega) (fun hr23 => ?_)
              refine z_goto (tgt := 28) dX3_traceAt_24 (by decide) ?_
              exact z_iret dX3_traceAt_28 ⟨rfl, by omega⟩
set_option maxRecDepth 20000 in
theorem l_X3_isUnder {d : Nat} {σ : Sto} {lo u : Int} (hu : inR u) (k s : Int) (hs : 0 ≤ s ∧ s ≤ 8) (hk : -1 ≤ k ∧ k < 8) : Z (z_me cX3_isUnder RX3 5 (some .boolean) (d + 0) (qI fun z σ' => z = (if undN (8 - s).toNat k u then 1 else 0) ∧ σ' = σ)) 5 [some (zR 8), some (zI lo), some (zI u), some (zI k), some (zI s)] [] σ := by
  by_cases h8 : s = 8
  · subst h8
    refine z_iload dX3_isUnder_5 rfl ?_
    refine z_bipush (v := 8) dX3_isUnder_7 (by decide +kernel) ?_
    refine z_icmp_ge (tgt := 41) dX3_isUnder_9 (by decide) ⟨by omega, by omega⟩ ⟨by omega, by omega⟩ (fun h9 => ?_) (fun h9 => ?_)
    · skip
      refine z_iconst dX3_isUnder_41 ?_
      exact z_zret dX3_isUnder_42 (by omega) ⟨rfl, rfl⟩
    · exfalso; omega
  · have e : (8 - s).toNat = (8 - (s + 1)).toNat + 1 := by omega
    rw [e]
    refine z_iload dX3_isUnder_5 rfl ?_
    refine z_bipush (v := 8) dX3_isUnder_7 (by decide +kernel) ?_
    refine z_icmp_ge (tgt := 41) dX3_isUnder_9 (by decide) ⟨by omega, by omega⟩ ⟨by omega, by omega⟩ (fun h9 => ?_) (fun h9 => ?_)
    · first
      | exfalso; omega
      | skip
        refine z_iconst dX3_isUnder_41 ?_
        exact z_zret dX3_isUnder_42 (by omega) ⟨by rw [undN_out (by omega)]; rfl, rfl⟩
    · first
      | exfalso; omega
      | skip
        refine z_iload_n dX3_isUnder_12 rfl ?_
        refine z_if_lt (tgt := 41) dX3_isUnder_13 (by decide) ⟨by omega, by omega⟩ (fun h13 => ?_) (fun h13 => ?_)
        · first
          | exfalso; omega
          | skip
            refine z_iconst dX3_isUnder_41 ?_
            exact z_zret dX3_isUnder_42 (by omega) ⟨by rw [undN_out (by omega)]; rfl, rfl⟩
        · first
          | exfalso; omega
          | skip
            refine z_iload_n dX3_isUnder_16 rfl ?_
            refine z_bipush (v := 8) dX3_isUnder_17 (by decide +kernel) ?_
            refine z_icmp_ge (tgt := 41) dX3_isUnder_19 (by decide) ⟨by omega, by omega⟩ ⟨by omega, by omega⟩ (fun h19 => ?_) (fun h19 => ?_)
            · first
              | exfalso; omega
              | skip
                refine z_iconst dX3_isUnder_41 ?_
                exact z_zret dX3_isUnder_42 (by omega) ⟨by rw [undN_out (by omega)]; rfl, rfl⟩
            · first
              | exfalso; omega
              | skip
                refine z_iload_n dX3_isUnder_22 rfl ?_
                refine z_iload_n dX3_isUnder_23 rfl ?_
                refine z_icmp_ne (tgt := 29) dX3_isUnder_24 (by decide) ⟨by omega, by omega⟩ ⟨by omega, by omega⟩ (fun h24 => ?_) (fun h24 => ?_)
                · first
                  | exfalso; omega
                  | skip
                    refine z_gets dX3_isUnder_29 (List.mem_of_getElem? (i := 1) rfl) tX3_22 ?_
                    refine z_iload_n dX3_isUnder_32 rfl ?_
                    refine z_sld dX3_isUnder_33 (List.mem_of_getElem? (i := 1) rfl) (Nat.le_of_ble_eq_true rfl) (show _ ∧ _ < ((8 : Nat) : Int) by omega) ?_
                    refine z_istore_n (L' := [_, _, _, _, _]) dX3_isUnder_34 (Nat.le_of_ble_eq_true rfl) rfl rfl ?_
                    refine z_iinc (L' := [_, _, _, _, _]) dX3_isUnder_35 (Nat.le_of_ble_eq_true rfl) rfl rfl rfl ?_
                    refine z_goto (tgt := 5) dX3_isUnder_38 (by decide) ?_
                    rw [undN_up (by omega) (by omega)]
                    exact l_X3_isUnder hu (abv k) (s + 1) (by omega) (abv_R (by omega))
                · first
                  | exfalso; omega
                  | skip
                    refine z_iconst dX3_isUnder_27 ?_
                    exact z_zret dX3_isUnder_28 (by omega) ⟨by rw [undN_eq (by omega) (by omega)]; rfl, rfl⟩
termination_by (8 - s).toNat
decreasing_by omega
set_option maxRecDepth 20000 in
theorem c_X3_isUnder {d : Nat} {σ : Sto} {lo u : Int} (hl : -1 ≤ lo ∧ lo < 8) (hu : inR u) : m_X3_isUnder d [zR 8, zI lo, zI u] σ (qI fun z σ' => z = (if undN 8 lo u then 1 else 0) ∧ σ' = σ) := by
  refine z_does (L := [some (zR 8), some (zI lo), some (zI u), none, none]) rfl (by decide +kernel) (Nat.le_of_ble_eq_true rfl) rfl ?_
  refine z_iload_n dX3_isUnder_0 rfl ?_
  refine z_istore_n (L' := [_, _, _, _, _]) dX3_isUnder_1 (Nat.le_of_ble_eq_true rfl) rfl rfl ?_
  refine z_iconst dX3_isUnder_2 ?_
  refine z_istore (L' := [_, _, _, _, _]) dX3_isUnder_3 (Nat.le_of_ble_eq_true rfl) rfl rfl ?_
  exact l_X3_isUnder hu lo 0 (by omega) hl
set_option maxRecDepth 20000 in
theorem l_X3_bodyFrom {d : Nat} {σ : Sto} {a fr : Int} (ha : 0 ≤ a ∧ a < 4) (k s : Int) (hs : 0 ≤ s ∧ s ≤ 8) (hk : -1 ≤ k ∧ k < 8) : Z (z_me cX3_bodyFrom RX3 5 (some .int) (d + 0) (qI fun z σ' => z = bfN (8 - s).toNat a k ∧ σ' = σ)) 4 [some (zI a), some (zI fr), some (zI k), some (zI s), none] [] σ := by
  by_cases h8 : s = 8
  · subst h8
    refine z_iload_n dX3_bodyFrom_4 rfl ?_
    refine z_bipush (v := 8) dX3_bodyFrom_5 (by decide +kernel) ?_
    refine z_icmp_ge (tgt := 69) dX3_bodyFrom_7 (by decide) ⟨by omega, by omega⟩ ⟨by omega, by omega⟩ (fun h7 => ?_) (fun h7 => ?_)
    · skip
      refine z_iconst dX3_bodyFrom_69 ?_
      exact z_iret dX3_bodyFrom_70 ⟨rfl, rfl⟩
    · exfalso; omega
  · have e : (8 - s).toNat = (8 - (s + 1)).toNat + 1 := by omega
    rw [e]
    refine z_iload_n dX3_bodyFrom_4 rfl ?_
    refine z_bipush (v := 8) dX3_bodyFrom_5 (by decide +kernel) ?_
    refine z_icmp_ge (tgt := 69) dX3_bodyFrom_7 (by decide) ⟨by omega, by omega⟩ ⟨by omega, by omega⟩ (fun h7 => ?_) (fun h7 => ?_)
    · first
      | exfalso; omega
      | skip
        refine z_iconst dX3_bodyFrom_69 ?_
        exact z_iret dX3_bodyFrom_70 ⟨by rw [bfN_out (by omega)], rfl⟩
    · first
      | exfalso; omega
      | skip
        refine z_iload_n dX3_bodyFrom_10 rfl ?_
        refine z_if_lt (tgt := 69) dX3_bodyFrom_11 (by decide) ⟨by omega, by omega⟩ (fun h11 => ?_) (fun h11 => ?_)
        · first
          | exfalso; omega
          | skip
            refine z_iconst dX3_bodyFrom_69 ?_
            exact z_iret dX3_bodyFrom_70 ⟨by rw [bfN_out (by omega)], rfl⟩
        · first
          | exfalso; omega
          | skip
            refine z_iload_n dX3_bodyFrom_14 rfl ?_
            refine z_bipush (v := 8) dX3_bodyFrom_15 (by decide +kernel) ?_
            refine z_icmp_ge (tgt := 69) dX3_bodyFrom_17 (by decide) ⟨by omega, by omega⟩ ⟨by omega, by omega⟩ (fun h17 => ?_) (fun h17 => ?_)
            · first
              | exfalso; omega
              | skip
                refine z_iconst dX3_bodyFrom_69 ?_
                exact z_iret dX3_bodyFrom_70 ⟨by rw [bfN_out (by omega)], rfl⟩
            · first
              | exfalso; omega
              | skip
                refine z_iload_n dX3_bodyFrom_20 rfl ?_
                refine z_iconst dX3_bodyFrom_21 ?_
                refine z_imul dX3_bodyFrom_22 ?_
                refine z_iload_n dX3_bodyFrom_23 rfl ?_
                refine z_iadd dX3_bodyFrom_24 ?_
                refine z_istore (L' := [_, _, _, _, _]) dX3_bodyFrom_25 (Nat.le_of_ble_eq_true rfl) rfl rfl ?_
                have ho := ownB_R (k * 4 + a).toNat (by omega)
                rw [show (((k * 4 + a).toNat : Nat) : Int) = k * 4 + a by omega] at ho
                unfold ownB at ho
                refine z_iload dX3_bodyFrom_27 rfl ?_
                refine z_if_lt (tgt := 57) dX3_bodyFrom_29 (by decide) ⟨by omega, by omega⟩ (fun h29 => ?_) (fun h29 => ?_)
                · first
                  | exfalso; omega
                  | skip
                    refine z_gets dX3_bodyFrom_57 (List.mem_of_getElem? (i := 1) rfl) tX3_22 ?_
                    refine z_iload_n dX3_bodyFrom_60 rfl ?_
                    refine z_sld dX3_bodyFrom_61 (List.mem_of_getElem? (i := 1) rfl) (Nat.le_of_ble_eq_true rfl) (show _ ∧ _ < ((8 : Nat) : Int) by omega) ?_
                    refine z_istore_n (L' := [_, _, _, _, _]) dX3_bodyFrom_62 (Nat.le_of_ble_eq_true rfl) rfl rfl ?_
                    refine z_iinc (L' := [_, _, _, _, _]) dX3_bodyFrom_63 (Nat.le_of_ble_eq_true rfl) rfl rfl rfl ?_
                    refine z_goto (tgt := 4) dX3_bodyFrom_66 (by decide) ?_
                    refine z_forget [true, true, true, true, false] (L' := [_, _, _, _, _]) rfl ?_
                    rw [bfN_up (by omega) (by unfold ownB; omega)]
                    exact l_X3_bodyFrom ha (abv k) (s + 1) (by omega) (abv_R (by omega))
                · first
                  | exfalso; omega
                  | skip
                    refine z_iload dX3_bodyFrom_32 rfl ?_
                    refine z_gets dX3_bodyFrom_34 (List.mem_of_getElem? (i := 2) rfl) tX3_42 ?_
                    refine z_slen (n := 32) dX3_bodyFrom_37 (List.mem_of_getElem? (i := 2) rfl) rfl ?_
                    refine z_icmp_ge (tgt := 57) dX3_bodyFrom_38 (by decide) ⟨by omega, by omega⟩ ⟨by omega, by omega⟩ (fun h38 => ?_) (fun h38 => ?_)
                    · first
                      | exfalso; omega
                      | skip
                        refine z_gets dX3_bodyFrom_57 (List.mem_of_getElem? (i := 1) rfl) tX3_22 ?_
                        refine z_iload_n dX3_bodyFrom_60 rfl ?_
                        refine z_sld dX3_bodyFrom_61 (List.mem_of_getElem? (i := 1) rfl) (Nat.le_of_ble_eq_true rfl) (show _ ∧ _ < ((8 : Nat) : Int) by omega) ?_
                        refine z_istore_n (L' := [_, _, _, _, _]) dX3_bodyFrom_62 (Nat.le_of_ble_eq_true rfl) rfl rfl ?_
                        refine z_iinc (L' := [_, _, _, _, _]) dX3_bodyFrom_63 (Nat.le_of_ble_eq_true rfl) rfl rfl rfl ?_
                        refine z_goto (tgt := 4) dX3_bodyFrom_66 (by decide) ?_
                        refine z_forget [true, true, true, true, false] (L' := [_, _, _, _, _]) rfl ?_
                        rw [bfN_up (by omega) (by unfold ownB; omega)]
                        exact l_X3_bodyFrom ha (abv k) (s + 1) (by omega) (abv_R (by omega))
                    · first
                      | exfalso; omega
                      | skip
                        refine z_gets dX3_bodyFrom_41 (List.mem_of_getElem? (i := 2) rfl) tX3_42 ?_
                        refine z_iload dX3_bodyFrom_44 rfl ?_
                        refine z_sld dX3_bodyFrom_46 (List.mem_of_getElem? (i := 2) rfl) (Nat.le_of_ble_eq_true rfl) (show _ ∧ _ < ((32 : Nat) : Int) by omega) ?_
                        refine z_if_eq (tgt := 57) dX3_bodyFrom_47 (by decide) ⟨by omega, by omega⟩ (fun h47 => ?_) (fun h47 => ?_)
                        · first
                          | exfalso; omega
                          | skip
                            refine z_gets dX3_bodyFrom_57 (List.mem_of_getElem? (i := 1) rfl) tX3_22 ?_
                            refine z_iload_n dX3_bodyFrom_60 rfl ?_
                            refine z_sld dX3_bodyFrom_61 (List.mem_of_getElem? (i := 1) rfl) (Nat.le_of_ble_eq_true rfl) (show _ ∧ _ < ((8 : Nat) : Int) by omega) ?_
                            refine z_istore_n (L' := [_, _, _, _, _]) dX3_bodyFrom_62 (Nat.le_of_ble_eq_true rfl) rfl rfl ?_
                            refine z_iinc (L' := [_, _, _, _, _]) dX3_bodyFrom_63 (Nat.le_of_ble_eq_true rfl) rfl rfl rfl ?_
                            refine z_goto (tgt := 4) dX3_bodyFrom_66 (by decide) ?_
                            refine z_forget [true, true, true, true, false] (L' := [_, _, _, _, _]) rfl ?_
                            rw [bfN_up (by omega) (by unfold ownB; omega)]
                            exact l_X3_bodyFrom ha (abv k) (s + 1) (by omega) (abv_R (by omega))
                        · first
                          | exfalso; omega
                          | skip
                            refine z_gets dX3_bodyFrom_50 (List.mem_of_getElem? (i := 2) rfl) tX3_42 ?_
                            refine z_iload dX3_bodyFrom_53 rfl ?_
                            refine z_sld dX3_bodyFrom_55 (List.mem_of_getElem? (i := 2) rfl) (Nat.le_of_ble_eq_true rfl) (show _ ∧ _ < ((32 : Nat) : Int) by omega) ?_
                            exact z_iret dX3_bodyFrom_56 ⟨by rw [bfN_hit (by omega) (by unfold ownB; omega)]; rfl, rfl⟩
termination_by (8 - s).toNat
decreasing_by omega
set_option maxRecDepth 20000 in
theorem c_X3_bodyFrom {d : Nat} {σ : Sto} {a fr : Int} (ha : 0 ≤ a ∧ a < 4) (hf : -1 ≤ fr ∧ fr < 8) : m_X3_bodyFrom d [zI a, zI fr] σ (qI fun z σ' => z = bfN 8 a fr ∧ σ' = σ) := by
  refine z_does (L := [some (zI a), some (zI fr), none, none, none]) rfl (by decide +kernel) (Nat.le_of_ble_eq_true rfl) rfl ?_
  refine z_iload_n dX3_bodyFrom_0 rfl ?_
  refine z_istore_n (L' := [_, _, _, _, _]) dX3_bodyFrom_1 (Nat.le_of_ble_eq_true rfl) rfl rfl ?_
  refine z_iconst dX3_bodyFrom_2 ?_
  refine z_istore_n (L' := [_, _, _, _, _]) dX3_bodyFrom_3 (Nat.le_of_ble_eq_true rfl) rfl rfl ?_
  exact l_X3_bodyFrom ha fr 0 (by omega) hf
theorem bfN_R : ∀ a : Nat, a < 4 → ∀ k : Nat, k < 9 → (0 ≤ bfN 8 (a : Int) ((k : Int) - 1) ∧ bfN 8 (a : Int) ((k : Int) - 1) < 100) := by decide +kernel
theorem bfN_RI {a k : Int} (ha : 0 ≤ a ∧ a < 4) (hk : -1 ≤ k ∧ k < 8) : 0 ≤ bfN 8 a k ∧ bfN 8 a k < 100 := by
  have := bfN_R a.toNat (by omega) (k + 1).toNat (by omega)
  rw [show ((a.toNat : Nat) : Int) = a by omega, show (((k + 1).toNat : Nat) : Int) - 1 = k by omega] at this
  exact this
def ntS (σ : Sto) (b : Int) : Sto := z_put (if σ 8 3 < 24 then z_put σ 81 (σ 8 3).toNat b else σ) 8 3 (σ 8 3 + 1)
theorem ntS_3 (σ : Sto) (b : Int) : ntS σ b 8 3 = σ 8 3 + 1 := rfl
theorem ntS_o (σ : Sto) (b : Int) (k j : Nat) (h : k ≠ 81) (h2 : k ≠ 8 ∨ j ≠ 3) : ntS σ b k j = σ k j := by
  unfold ntS
  split <;> simp only [z_rd] <;> grind
def pushT : Sto → List Int → Sto
  | σ, [] => σ
  | σ, b :: l => pushT (ntS σ b) l
theorem pushT_app : ∀ (l m : List Int) (σ : Sto), pushT σ (l ++ m) = pushT (pushT σ l) m
  | [], _, _ => rfl
  | b :: l, m, σ => pushT_app l m (ntS σ b)
theorem pushT_3 : ∀ (l : List Int) (σ : Sto), pushT σ l 8 3 = σ 8 3 + l.length
  | [], σ => by simp [pushT]
  | b :: l, σ => by rw [pushT, pushT_3 l, ntS_3, List.length_cons]; omega
theorem pushT_o : ∀ (l : List Int) (σ : Sto) (k j : Nat), k ≠ 81 → (k ≠ 8 ∨ j ≠ 3) → pushT σ l k j = σ k j
  | [], _, _, _, _, _ => rfl
  | b :: l, σ, k, j, h, h2 => by rw [pushT, pushT_o l _ k j h h2, ntS_o σ b k j h h2]
theorem ntS_4 (σ : Sto) (b : Int) : ntS σ b 8 4 = σ 8 4 := ntS_o σ b 8 4 (by decide) (by decide)
theorem ntS_5 (σ : Sto) (b : Int) : ntS σ b 8 5 = σ 8 5 := ntS_o σ b 8 5 (by decide) (by decide)
theorem pushT_4 (l : List Int) (σ : Sto) : pushT σ l 8 4 = σ 8 4 := pushT_o l σ 8 4 (by decide) (by decide)
theorem pushT_5 (l : List Int) (σ : Sto) : pushT σ l 8 5 = σ 8 5 := pushT_o l σ 8 5 (by decide) (by decide)
set_option maxRecDepth 20000 in
theorem c_X3_noteBody {d : Nat} {σ : Sto} {b : Int} (hr : 0 ≤ σ 8 3 ∧ σ 8 3 ≤ 1000) (hb : inR b) : m_X3_noteBody d [zR 8, zI b] σ (qV fun σ' => σ' = ntS σ b) := by
  refine z_does (L := [some (zR 8), some (zI b)]) rfl (by decide +kernel) (Nat.le_of_ble_eq_true rfl) rfl ?_
  refine z_aload_n dX3_noteBody_0 rfl ?_
  refine z_getI dX3_noteBody_1 gX3_25 rfl (Nat.le_of_ble_eq_true rfl) rfl (fun hr1 => ?_)
  refine z_if_lt (tgt := 26) dX3_noteBody_4 (by decide) ⟨by omega, by omega⟩ (fun h4 => ?_) (fun h4 => ?_)
  · first
    | exfalso; omega
    | skip
      refine z_aload_n dX3_noteBody_26 rfl ?_
      refine z_dup dX3_noteBody_27 rfl ?_
      refine z_getI dX3_noteBody_28 gX3_25 rfl (Nat.le_of_ble_eq_true rfl) rfl (fun hr28 => ?_)
      refine z_iconst dX3_noteBody_31 ?_
      refine z_iadd dX3_noteBody_32 ?_
      refine z_putI dX3_noteBody_33 pX3_25 rfl (Nat.le_of_ble_eq_true rfl) rfl ⟨by omega, by omega⟩ ?_
      exact z_vret dX3_noteBody_36 (by unfold ntS; first | rw [if_pos (by omega)] | rw [if_neg (by omega)])
  · first
    | exfalso; omega
    | skip
      refine z_aload_n dX3_noteBody_7 rfl ?_
      refine z_getI dX3_noteBody_8 gX3_25 rfl (Nat.le_of_ble_eq_true rfl) rfl (fun hr8 => ?_)
      refine z_bipush (v := 24) dX3_noteBody_11 (by decide +kernel) ?_
      refine z_icmp_ge (tgt := 26) dX3_noteBody_13 (by decide) ⟨by omega, by omega⟩ ⟨by omega, by omega⟩ (fun h13 => ?_) (fun h13 => ?_)
      · first
        | exfalso; omega
        | skip
          refine z_aload_n dX3_noteBody_26 rfl ?_
          refine z_dup dX3_noteBody_27 rfl ?_
          refine z_getI dX3_noteBody_28 gX3_25 rfl (Nat.le_of_ble_eq_true rfl) rfl (fun hr28 => ?_)
          refine z_iconst dX3_noteBody_31 ?_
          refine z_iadd dX3_noteBody_32 ?_
          refine z_putI dX3_noteBody_33 pX3_25 rfl (Nat.le_of_ble_eq_true rfl) rfl ⟨by omega, by omega⟩ ?_
          exact z_vret dX3_noteBody_36 (by unfold ntS; first | rw [if_pos (by omega)] | rw [if_neg (by omega)])
      · first
        | exfalso; omega
        | skip
          refine z_aload_n dX3_noteBody_16 rfl ?_
          refine z_getR dX3_noteBody_17 gX3_15 rfl (Nat.le_of_ble_eq_true rfl) rfl ?_
          refine z_aload_n dX3_noteBody_20 rfl ?_
          refine z_getI dX3_noteBody_21 gX3_25 rfl (Nat.le_of_ble_eq_true rfl) rfl (fun hr21 => ?_)
          refine z_iload_n dX3_noteBody_24 rfl ?_
          refine z_iast dX3_noteBody_25 rfl (Nat.le_of_ble_eq_true rfl) (by omega) ⟨by omega, by omega⟩ ?_
          refine z_aload_n dX3_noteBody_26 rfl ?_
          refine z_dup dX3_noteBody_27 rfl ?_
          refine z_getI dX3_noteBody_28 gX3_25 rfl (Nat.le_of_ble_eq_true rfl) rfl (fun hr28 => ?_)
          try simp only [z_rd, Nat.reduceEqDiff, ↓reduceIte, eq_self] at hr28 ⊢
          refine z_iconst dX3_noteBody_31 ?_
          refine z_iadd dX3_noteBody_32 ?_
          refine z_putI dX3_noteBody_33 pX3_25 rfl (Nat.le_of_ble_eq_true rfl) rfl ⟨by omega, by omega⟩ ?_
          exact z_vret dX3_noteBody_36 (by unfold ntS; first | rw [if_pos (by omega)] | rw [if_neg (by omega)])
def runF : Nat → Int → Int → Int → Int → Int → Int × List Int
  | 0, _, _, _, _, _ => (0, [])
  | f + 1, k, n, a, fr, x =>
    if bfN 8 a fr = 1 then (x + n, 1 :: [])
    else if bfN 8 a fr = 2 then ((runF f k n 1 k x).1 - (runF f k n 2 k 1).1, 2 :: ((runF f k n 1 k x).2 ++ (runF f k n 2 k 1).2))
    else if bfN 8 a fr = 10 then ((runF f k n 0 k x).1 * 2, 10 :: ((runF f k n 0 k x).2))
    else if bfN 8 a fr = 11 then (z_ixorF x n, 11 :: [])
    else if bfN 8 a fr = 20 then ((runF f k n 0 0 x).1 + 3, 20 :: ((runF f k n 0 0 x).2))
    else if bfN 8 a fr = 30 then (-(runF f k n 1 0 x).1, 30 :: ((runF f k n 1 0 x).2))
    else if bfN 8 a fr = 40 then ((runF f k n 2 2 x).1 * 3, 40 :: ((runF f k n 2 2 x).2))
    else if bfN 8 a fr = 41 then ((runF f k n 1 2 (x + 1)).1, 41 :: ((runF f k n 1 2 (x + 1)).2))
    else if bfN 8 a fr = 50 then (z_ixorF (runF f k n 3 1 x).1 5, 50 :: ((runF f k n 3 1 x).2))
    else if bfN 8 a fr = 60 then ((runF f k n 2 3 x).1 - (runF f k n 0 k 2).1, 60 :: ((runF f k n 2 3 x).2 ++ (runF f k n 0 k 2).2))
    else if bfN 8 a fr = 61 then ((runF f k n 3 3 x).1 + 1, 61 :: ((runF f k n 3 3 x).2))
    else if bfN 8 a fr = 70 then ((runF f k n 0 0 x).1 * 2, 70 :: ((runF f k n 0 0 x).2))
    else if bfN 8 a fr = 80 then ((runF f k n 1 6 x).1 + (runF f k n 2 k 2).1, 80 :: ((runF f k n 1 6 x).2 ++ (runF f k n 2 k 2).2))
    else if bfN 8 a fr = 81 then ((runF f k n 0 6 x).1 - 1, 81 :: ((runF f k n 0 6 x).2))
    else (0, [bfN 8 a fr])
theorem runF_1 {f : Nat} {k n a fr x : Int} (h : bfN 8 a fr = 1) : runF (f + 1) k n a fr x = (x + n, 1 :: []) := by simp [runF, h]
theorem runF_2 {f : Nat} {k n a fr x : Int} (h : bfN 8 a fr = 2) : runF (f + 1) k n a fr x = ((runF f k n 1 k x).1 - (runF f k n 2 k 1).1, 2 :: ((runF f k n 1 k x).2 ++ (runF f k n 2 k 1).2)) := by simp [runF, h]
theorem runF_10 {f : Nat} {k n a fr x : Int} (h : bfN 8 a fr = 10) : runF (f + 1) k n a fr x = ((runF f k n 0 k x).1 * 2, 10 :: ((runF f k n 0 k x).2)) := by simp [runF, h]
theorem runF_11 {f : Nat} {k n a fr x : Int} (h : bfN 8 a fr = 11) : runF (f + 1) k n a fr x = (z_ixorF x n, 11 :: []) := by simp [runF, h]
theorem runF_20 {f : Nat} {k n a fr x : Int} (h : bfN 8 a fr = 20) : runF (f + 1) k n a fr x = ((runF f k n 0 0 x).1 + 3, 20 :: ((runF f k n 0 0 x).2)) := by simp [runF, h]
theorem runF_30 {f : Nat} {k n a fr x : Int} (h : bfN 8 a fr = 30) : runF (f + 1) k n a fr x = (-(runF f k n 1 0 x).1, 30 :: ((runF f k n 1 0 x).2)) := by simp [runF, h]
theorem runF_40 {f : Nat} {k n a fr x : Int} (h : bfN 8 a fr = 40) : runF (f + 1) k n a fr x = ((runF f k n 2 2 x).1 * 3, 40 :: ((runF f k n 2 2 x).2)) := by simp [runF, h]
theorem runF_41 {f : Nat} {k n a fr x : Int} (h : bfN 8 a fr = 41) : runF (f + 1) k n a fr x = ((runF f k n 1 2 (x + 1)).1, 41 :: ((runF f k n 1 2 (x + 1)).2)) := by simp [runF, h]
theorem runF_50 {f : Nat} {k n a fr x : Int} (h : bfN 8 a fr = 50) : runF (f + 1) k n a fr x = (z_ixorF (runF f k n 3 1 x).1 5, 50 :: ((runF f k n 3 1 x).2)) := by simp [runF, h]
theorem runF_60 {f : Nat} {k n a fr x : Int} (h : bfN 8 a fr = 60) : runF (f + 1) k n a fr x = ((runF f k n 2 3 x).1 - (runF f k n 0 k 2).1, 60 :: ((runF f k n 2 3 x).2 ++ (runF f k n 0 k 2).2)) := by simp [runF, h]
theorem runF_61 {f : Nat} {k n a fr x : Int} (h : bfN 8 a fr = 61) : runF (f + 1) k n a fr x = ((runF f k n 3 3 x).1 + 1, 61 :: ((runF f k n 3 3 x).2)) := by simp [runF, h]
theorem runF_70 {f : Nat} {k n a fr x : Int} (h : bfN 8 a fr = 70) : runF (f + 1) k n a fr x = ((runF f k n 0 0 x).1 * 2, 70 :: ((runF f k n 0 0 x).2)) := by simp [runF, h]
theorem runF_80 {f : Nat} {k n a fr x : Int} (h : bfN 8 a fr = 80) : runF (f + 1) k n a fr x = ((runF f k n 1 6 x).1 + (runF f k n 2 k 2).1, 80 :: ((runF f k n 1 6 x).2 ++ (runF f k n 2 k 2).2)) := by simp [runF, h]
theorem runF_81 {f : Nat} {k n a fr x : Int} (h : bfN 8 a fr = 81) : runF (f + 1) k n a fr x = ((runF f k n 0 6 x).1 - 1, 81 :: ((runF f k n 0 6 x).2)) := by simp [runF, h]
theorem runF_x {f : Nat} {k n a fr x : Int} (h : bfN 8 a fr ≠ 1 ∧ bfN 8 a fr ≠ 2 ∧ bfN 8 a fr ≠ 10 ∧ bfN 8 a fr ≠ 11 ∧ bfN 8 a fr ≠ 20 ∧ bfN 8 a fr ≠ 30 ∧ bfN 8 a fr ≠ 40 ∧ bfN 8 a fr ≠ 41 ∧ bfN 8 a fr ≠ 50 ∧ bfN 8 a fr ≠ 60 ∧ bfN 8 a fr ≠ 61 ∧ bfN 8 a fr ≠ 70 ∧ bfN 8 a fr ≠ 80 ∧ bfN 8 a fr ≠ 81) : runF (f + 1) k n a fr x = (0, [bfN 8 a fr]) := by simp [runF, h]
theorem pushT_c (σ : Sto) (b : Int) (l : List Int) : pushT (ntS σ b) l = pushT σ (b :: l) := rfl
/-- what a body answers, the acts that it asks for run with so much left -/
def ansF (f : Nat) (k n b x : Int) : Int × List Int :=
  if b = 1 then (x + n, [])
  else if b = 2 then ((runF f k n 1 k x).1 - (runF f k n 2 k 1).1, (runF f k n 1 k x).2 ++ (runF f k n 2 k 1).2)
  else if b = 10 then ((runF f k n 0 k x).1 * 2, (runF f k n 0 k x).2)
  else if b = 11 then (z_ixorF x n, [])
  else if b = 20 then ((runF f k n 0 0 x).1 + 3, (runF f k n 0 0 x).2)
  else if b = 30 then (-(runF f k n 1 0 x).1, (runF f k n 1 0 x).2)
  else if b = 40 then ((runF f k n 2 2 x).1 * 3, (runF f k n 2 2 x).2)
  else if b = 41 then ((runF f k n 1 2 (x + 1)).1, (runF f k n 1 2 (x + 1)).2)
  else if b = 50 then (z_ixorF (runF f k n 3 1 x).1 5, (runF f k n 3 1 x).2)
  else if b = 60 then ((runF f k n 2 3 x).1 - (runF f k n 0 k 2).1, (runF f k n 2 3 x).2 ++ (runF f k n 0 k 2).2)
  else if b = 61 then ((runF f k n 3 3 x).1 + 1, (runF f k n 3 3 x).2)
  else if b = 70 then ((runF f k n 0 0 x).1 * 2, (runF f k n 0 0 x).2)
  else if b = 80 then ((runF f k n 1 6 x).1 + (runF f k n 2 k 2).1, (runF f k n 1 6 x).2 ++ (runF f k n 2 k 2).2)
  else if b = 81 then ((runF f k n 0 6 x).1 - 1, (runF f k n 0 6 x).2)
  else (0, [])
theorem ansF_1 {f : Nat} {k n b x : Int} (h : b = 1) : ansF f k n b x = (x + n, []) := by simp [ansF, h]
theorem ansF_2 {f : Nat} {k n b x : Int} (h : b = 2) : ansF f k n b x = ((runF f k n 1 k x).1 - (runF f k n 2 k 1).1, (runF f k n 1 k x).2 ++ (runF f k n 2 k 1).2) := by simp [ansF, h]
theorem ansF_10 {f : Nat} {k n b x : Int} (h : b = 10) : ansF f k n b x = ((runF f k n 0 k x).1 * 2, (runF f k n 0 k x).2) := by simp [ansF, h]
theorem ansF_11 {f : Nat} {k n b x : Int} (h : b = 11) : ansF f k n b x = (z_ixorF x n, []) := by simp [ansF, h]
theorem ansF_20 {f : Nat} {k n b x : Int} (h : b = 20) : ansF f k n b x = ((runF f k n 0 0 x).1 + 3, (runF f k n 0 0 x).2) := by simp [ansF, h]
theorem ansF_30 {f : Nat} {k n b x : Int} (h : b = 30) : ansF f k n b x = (-(runF f k n 1 0 x).1, (runF f k n 1 0 x).2) := by simp [ansF, h]
theorem ansF_40 {f : Nat} {k n b x : Int} (h : b = 40) : ansF f k n b x = ((runF f k n 2 2 x).1 * 3, (runF f k n 2 2 x).2) := by simp [ansF, h]
theorem ansF_41 {f : Nat} {k n b x : Int} (h : b = 41) : ansF f k n b x = ((runF f k n 1 2 (x + 1)).1, (runF f k n 1 2 (x + 1)).2) := by simp [ansF, h]
theorem ansF_50 {f : Nat} {k n b x : Int} (h : b = 50) : ansF f k n b x = (z_ixorF (runF f k n 3 1 x).1 5, (runF f k n 3 1 x).2) := by simp [ansF, h]
theorem ansF_60 {f : Nat} {k n b x : Int} (h : b = 60) : ansF f k n b x = ((runF f k n 2 3 x).1 - (runF f k n 0 k 2).1, (runF f k n 2 3 x).2 ++ (runF f k n 0 k 2).2) := by simp [ansF, h]
theorem ansF_61 {f : Nat} {k n b x : Int} (h : b = 61) : ansF f k n b x = ((runF f k n 3 3 x).1 + 1, (runF f k n 3 3 x).2) := by simp [ansF, h]
theorem ansF_70 {f : Nat} {k n b x : Int} (h : b = 70) : ansF f k n b x = ((runF f k n 0 0 x).1 * 2, (runF f k n 0 0 x).2) := by simp [ansF, h]
theorem ansF_80 {f : Nat} {k n b x : Int} (h : b = 80) : ansF f k n b x = ((runF f k n 1 6 x).1 + (runF f k n 2 k 2).1, (runF f k n 1 6 x).2 ++ (runF f k n 2 k 2).2) := by simp [ansF, h]
theorem ansF_81 {f : Nat} {k n b x : Int} (h : b = 81) : ansF f k n b x = ((runF f k n 0 6 x).1 - 1, (runF f k n 0 6 x).2) := by simp [ansF, h]
theorem ansF_x {f : Nat} {k n b x : Int} (h : b ≠ 1 ∧ b ≠ 2 ∧ b ≠ 10 ∧ b ≠ 11 ∧ b ≠ 20 ∧ b ≠ 30 ∧ b ≠ 40 ∧ b ≠ 41 ∧ b ≠ 50 ∧ b ≠ 60 ∧ b ≠ 61 ∧ b ≠ 70 ∧ b ≠ 80 ∧ b ≠ 81) : ansF f k n b x = (0, []) := by simp [ansF, h]
theorem runF_ans {f : Nat} {k n a fr x : Int} : runF (f + 1) k n a fr x = ((ansF f k n (bfN 8 a fr) x).1, bfN 8 a fr :: (ansF f k n (bfN 8 a fr) x).2) := by
  by_cases h1 : bfN 8 a fr = 1
  · simp [runF, ansF, h1]
  by_cases h2 : bfN 8 a fr = 2
  · simp [runF, ansF, h2]
  by_cases h10 : bfN 8 a fr = 10
  · simp [runF, ansF, h10]
  by_cases h11 : bfN 8 a fr = 11
  · simp [runF, ansF, h11]
  by_cases h20 : bfN 8 a fr = 20
  · simp [runF, ansF, h20]
  by_cases h30 : bfN 8 a fr = 30
  · simp [runF, ansF, h30]
  by_cases h40 : bfN 8 a fr = 40
  · simp [runF, ansF, h40]
  by_cases h41 : bfN 8 a fr = 41
  · simp [runF, ansF, h41]
  by_cases h50 : bfN 8 a fr = 50
  · simp [runF, ansF, h50]
  by_cases h60 : bfN 8 a fr = 60
  · simp [runF, ansF, h60]
  by_cases h61 : bfN 8 a fr = 61
  · simp [runF, ansF, h61]
  by_cases h70 : bfN 8 a fr = 70
  · simp [runF, ansF, h70]
  by_cases h80 : bfN 8 a fr = 80
  · simp [runF, ansF, h80]
  by_cases h81 : bfN 8 a fr = 81
  · simp [runF, ansF, h81]
  simp [runF, ansF, h1, h2, h10, h11, h20, h30, h40, h41, h50, h60, h61, h70, h80, h81]
set_option maxRecDepth 20000 in
set_option maxHeartbeats 1000000 in
theorem c_X3_answerOf {d : Nat} {k n : Int} (hk0 : 0 ≤ k ∧ k < 8) (f : Nat) (hrun : ∀ {σ : Sto} {a fr x dp : Int}, dp + f = 40 → 0 ≤ dp → (0 ≤ a ∧ a < 4) → (-1 ≤ fr ∧ fr < 8) → σ 8 5 = k → σ 8 4 = n → 0 ≤ σ 8 3 → σ 8 3 + ((runF f k n a fr x).2.length : Int) ≤ 1000 →
    Does (d + 2 * f + 1) yX3_run cX3_run 6 (some .int) [zR 8, zI a, zI fr, zI x, zI dp] σ (qI fun z σ' => z = (runF f k n a fr x).1 ∧ σ' = pushT σ (runF f k n a fr x).2)) {σ : Sto} {b x dp : Int} (h1 : dp + f = 40) (h2 : 0 ≤ dp) (hb : inR b) (hk : σ 8 5 = k) (hn : σ 8 4 = n) (hr : 0 ≤ σ 8 3) (hlen : σ 8 3 + ((ansF f k n b x).2.length : Int) ≤ 1000) :
    Does (d + 2 * f + 2) yX3_answerOf cX3_answerOf 4 (some .int) [zR 8, zI b, zI x, zI dp] σ (qI fun z σ' => z = (ansF f k n b x).1 ∧ σ' = pushT σ (ansF f k n b x).2) := by
  refine z_does (L := [some (zR 8), some (zI b), some (zI x), some (zI dp)]) rfl (by decide +kernel) (Nat.le_of_ble_eq_true rfl) rfl ?_
  refine z_iload_n dX3_answerOf_0 rfl ?_
  refine sw_X3_answerOf_1 ⟨by omega, by omega⟩ (fun h1 => ?_) (fun h1 => ?_) (fun h1 => ?_) (fun h1 => ?_) (fun h1 => ?_) (fun h1 => ?_) (fun h1 => ?_) (fun h1 => ?_) (fun h1 => ?_) (fun h1 => ?_) (fun h1 => ?_) (fun h1 => ?_) (fun h1 => ?_) (fun h1 => ?_) (fun h1 => ?_)
  · first
    | exfalso; omega
    | skip
      rw [ansF_1 h1] at hlen ⊢
      refine z_iload_n dX3_answerOf_124 rfl ?_
      refine z_aload_n dX3_answerOf_125 rfl ?_
      refine z_getI dX3_answerOf_126 gX3_28 rfl (Nat.le_of_ble_eq_true rfl) rfl (fun hr126 => ?_)
      try simp only [pushT_5, pushT_4, hk, hn, z_rd, Nat.reduceEqDiff, ↓reduceIte, eq_self] at hr126 ⊢
      refine z_iadd dX3_answerOf_129 ?_
      exact z_iret dX3_answerOf_130 ⟨rfl, by first | rfl | (simp only [pushT_app]; done) | (simp only [pushT_app]; rfl)⟩
  · first
    | exfalso; omega
    | skip
      rw [ansF_2 h1] at hlen ⊢
      refine z_aload_n dX3_answerOf_131 rfl ?_
      refine z_iconst dX3_answerOf_132 ?_
      refine z_aload_n dX3_answerOf_133 rfl ?_
      refine z_getI dX3_answerOf_134 gX3_35 rfl (Nat.le_of_ble_eq_true rfl) rfl (fun hr134 => ?_)
      try simp only [pushT_5, pushT_4, hk, hn, z_rd, Nat.reduceEqDiff, ↓reduceIte, eq_self] at hr134 ⊢
      refine z_iload_n dX3_answerOf_137 rfl ?_
      refine z_iload_n dX3_answerOf_138 rfl ?_
      refine z_callVI (d := d + 2 * f + 1) (av := [_, _, _, _]) dX3_answerOf_139 vX3_38 rfl (Nat.le_of_ble_eq_true rfl) rfl rfl rfl (Nat.le_of_ble_eq_true rfl) (Nat.le_refl _) (hrun (by omega) (by omega) (by omega) (by omega) (by simp only [pushT_5, pushT_4, hk, hn]) (by simp only [pushT_5, pushT_4, hk, hn]) (by (try simp only [pushT_3]); omega) (by (try simp only [List.length_append, List.length_nil] at hlen); (try simp only [pushT_3]); omega)) (fun z139 σ139 h139 => ?_)
      obtain ⟨rfl, hs139⟩ := h139
      subst σ139
      refine z_aload_n dX3_answerOf_142 rfl ?_
      refine z_iconst dX3_answerOf_143 ?_
      refine z_aload_n dX3_answerOf_144 rfl ?_
      refine z_getI dX3_answerOf_145 gX3_35 rfl (Nat.le_of_ble_eq_true rfl) rfl (fun hr145 => ?_)
      try simp only [pushT_5, pushT_4, hk, hn, z_rd, Nat.reduceEqDiff, ↓reduceIte, eq_self] at hr145 ⊢
      refine z_iconst dX3_answerOf_148 ?_
      refine z_iload_n dX3_answerOf_149 rfl ?_
      refine z_callVI (d := d + 2 * f + 1) (av := [_, _, _, _]) dX3_answerOf_150 vX3_38 rfl (Nat.le_of_ble_eq_true rfl) rfl rfl rfl (Nat.le_of_ble_eq_true rfl) (Nat.le_refl _) (hrun (by omega) (by omega) (by omega) (by omega) (by simp only [pushT_5, pushT_4, hk, hn]) (by simp only [pushT_5, pushT_4, hk, hn]) (by (try simp only [pushT_3]); omega) (by (try simp only [List.length_append, List.length_nil] at hlen); (try simp only [pushT_3]); omega)) (fun z150 σ150 h150 => ?_)
      obtain ⟨rfl, hs150⟩ := h150
      subst σ150
      refine z_isub dX3_answerOf_153 ?_
      exact z_iret dX3_answerOf_154 ⟨rfl, by first | rfl | (simp only [pushT_app]; done) | (simp only [pushT_app]; rfl)⟩
  · first
    | exfalso; omega
    | skip
      rw [ansF_10 h1] at hlen ⊢
      refine z_aload_n dX3_answerOf_155 rfl ?_
      refine z_iconst dX3_answerOf_156 ?_
      refine z_aload_n dX3_answerOf_157 rfl ?_
      refine z_getI dX3_answerOf_158 gX3_35 rfl (Nat.le_of_ble_eq_true rfl) rfl (fun hr158 => ?_)
      try simp only [pushT_5, pushT_4, hk, hn, z_rd, Nat.reduceEqDiff, ↓reduceIte, eq_self] at hr158 ⊢
      refine z_iload_n dX3_answerOf_161 rfl ?_
      refine z_iload_n dX3_answerOf_162 rfl ?_
      refine z_callVI (d := d + 2 * f + 1) (av := [_, _, _, _]) dX3_answerOf_163 vX3_38 rfl (Nat.le_of_ble_eq_true rfl) rfl rfl rfl (Nat.le_of_ble_eq_true rfl) (Nat.le_refl _) (hrun (by omega) (by omega) (by omega) (by omega) (by simp only [pushT_5, pushT_4, hk, hn]) (by simp only [pushT_5, pushT_4, hk, hn]) (by (try simp only [pushT_3]); omega) (by (try simp only [List.length_append, List.length_nil] at hlen); (try simp only [pushT_3]); omega)) (fun z163 σ163 h163 => ?_)
      obtain ⟨rfl, hs163⟩ := h163
      subst σ163
      refine z_iconst dX3_answerOf_166 ?_
      refine z_imul dX3_answerOf_167 ?_
      exact z_iret dX3_answerOf_168 ⟨rfl, by first | rfl | (simp only [pushT_app]; done) | (simp only [pushT_app]; rfl)⟩
  · first
    | exfalso; omega
    | skip
      rw [ansF_11 h1] at hlen ⊢
      refine z_iload_n dX3_answerOf_169 rfl ?_
      refine z_aload_n dX3_answerOf_170 rfl ?_
      refine z_getI dX3_answerOf_171 gX3_28 rfl (Nat.le_of_ble_eq_true rfl) rfl (fun hr171 => ?_)
      try simp only [pushT_5, pushT_4, hk, hn, z_rd, Nat.reduceEqDiff, ↓reduceIte, eq_self] at hr171 ⊢
      refine z_ixor dX3_answerOf_174 ?_
      exact z_iret dX3_answerOf_175 ⟨rfl, by first | rfl | (simp only [pushT_app]; done) | (simp only [pushT_app]; rfl)⟩
  · first
    | exfalso; omega
    | skip
      rw [ansF_20 h1] at hlen ⊢
      refine z_aload_n dX3_answerOf_176 rfl ?_
      refine z_iconst dX3_answerOf_177 ?_
      refine z_iconst dX3_answerOf_178 ?_
      refine z_iload_n dX3_answerOf_179 rfl ?_
      refine z_iload_n dX3_answerOf_180 rfl ?_
      refine z_callVI (d := d + 2 * f + 1) (av := [_, _, _, _]) dX3_answerOf_181 vX3_38 rfl (Nat.le_of_ble_eq_true rfl) rfl rfl rfl (Nat.le_of_ble_eq_true rfl) (Nat.le_refl _) (hrun (by omega) (by omega) (by omega) (by omega) (by simp only [pushT_5, pushT_4, hk, hn]) (by simp only [pushT_5, pushT_4, hk, hn]) (by (try simp only [pushT_3]); omega) (by (try simp only [List.length_append, List.length_nil] at hlen); (try simp only [pushT_3]); omega)) (fun z181 σ181 h181 => ?_)
      obtain ⟨rfl, hs181⟩ := h181
      subst σ181
      refine z_iconst dX3_answerOf_184 ?_
      refine z_iadd dX3_answerOf_185 ?_
      exact z_iret dX3_answerOf_186 ⟨rfl, by first | rfl | (simp only [pushT_app]; done) | (simp only [pushT_app]; rfl)⟩
  · first
    | exfalso; omega
    | skip
      rw [ansF_30 h1] at hlen ⊢
      refine z_aload_n dX3_answerOf_187 rfl ?_
      refine z_iconst dX3_answerOf_188 ?_
      refine z_iconst dX3_answerOf_189 ?_
      refine z_iload_n dX3_answerOf_190 rfl ?_
      refine z_iload_n dX3_answerOf_191 rfl ?_
      refine z_callVI (d := d + 2 * f + 1) (av := [_, _, _, _]) dX3_answerOf_192 vX3_38 rfl (Nat.le_of_ble_eq_true rfl) rfl rfl rfl (Nat.le_of_ble_eq_true rfl) (Nat.le_refl _) (hrun (by omega) (by omega) (by omega) (by omega) (by simp only [pushT_5, pushT_4, hk, hn]) (by simp only [pushT_5, pushT_4, hk, hn]) (by (try simp only [pushT_3]); omega) (by (try simp only [List.length_append, List.length_nil] at hlen); (try simp only [pushT_3]); omega)) (fun z192 σ192 h192 => ?_)
      obtain ⟨rfl, hs192⟩ := h192
      subst σ192
      refine z_ineg dX3_answerOf_195 ?_
      exact z_iret dX3_answerOf_196 ⟨rfl, by first | rfl | (simp only [pushT_app]; done) | (simp only [pushT_app]; rfl)⟩
  · first
    | exfalso; omega
    | skip
      rw [ansF_40 h1] at hlen ⊢
      refine z_aload_n dX3_answerOf_197 rfl ?_
      refine z_iconst dX3_answerOf_198 ?_
      refine z_iconst dX3_answerOf_199 ?_
      refine z_iload_n dX3_answerOf_200 rfl ?_
      refine z_iload_n dX3_answerOf_201 rfl ?_
      refine z_callVI (d := d + 2 * f + 1) (av := [_, _, _, _]) dX3_answerOf_202 vX3_38 rfl (Nat.le_of_ble_eq_true rfl) rfl rfl rfl (Nat.le_of_ble_eq_true rfl) (Nat.le_refl _) (hrun (by omega) (by omega) (by omega) (by omega) (by simp only [pushT_5, pushT_4, hk, hn]) (by simp only [pushT_5, pushT_4, hk, hn]) (by (try simp only [pushT_3]); omega) (by (try simp only [List.length_append, List.length_nil] at hlen); (try simp only [pushT_3]); omega)) (fun z202 σ202 h202 => ?_)
      obtain ⟨rfl, hs202⟩ := h202
      subst σ202
      refine z_iconst dX3_answerOf_205 ?_
      refine z_imul dX3_answerOf_206 ?_
      exact z_iret dX3_answerOf_207 ⟨rfl, by first | rfl | (simp only [pushT_app]; done) | (simp only [pushT_app]; rfl)⟩
  · first
    | exfalso; omega
    | skip
      rw [ansF_41 h1] at hlen ⊢
      refine z_aload_n dX3_answerOf_208 rfl ?_
      refine z_iconst dX3_answerOf_209 ?_
      refine z_iconst dX3_answerOf_210 ?_
      refine z_iload_n dX3_answerOf_211 rfl ?_
      refine z_iconst dX3_answerOf_212 ?_
      refine z_iadd dX3_answerOf_213 ?_
      refine z_iload_n dX3_answerOf_214 rfl ?_
      refine z_callVI (d := d + 2 * f + 1) (av := [_, _, _, _]) dX3_answerOf_215 vX3_38 rfl (Nat.le_of_ble_eq_true rfl) rfl rfl rfl (Nat.le_of_ble_eq_true rfl) (Nat.le_refl _) (hrun (by omega) (by omega) (by omega) (by omega) (by simp only [pushT_5, pushT_4, hk, hn]) (by simp only [pushT_5, pushT_4, hk, hn]) (by (try simp only [pushT_3]); omega) (by (try simp only [List.length_append, List.length_nil] at hlen); (try simp only [pushT_3]); omega)) (fun z215 σ215 h215 => ?_)
      obtain ⟨rfl, hs215⟩ := h215
      subst σ215
      exact z_iret dX3_answerOf_218 ⟨rfl, by first | rfl | (simp only [pushT_app]; done) | (simp only [pushT_app]; rfl)⟩
  · first
    | exfalso; omega
    | skip
      rw [ansF_50 h1] at hlen ⊢
      refine z_aload_n dX3_answerOf_219 rfl ?_
      refine z_iconst dX3_answerOf_220 ?_
      refine z_iconst dX3_answerOf_221 ?_
      refine z_iload_n dX3_answerOf_222 rfl ?_
      refine z_iload_n dX3_answerOf_223 rfl ?_
      refine z_callVI (d := d + 2 * f + 1) (av := [_, _, _, _]) dX3_answerOf_224 vX3_38 rfl (Nat.le_of_ble_eq_true rfl) rfl rfl rfl (Nat.le_of_ble_eq_true rfl) (Nat.le_refl _) (hrun (by omega) (by omega) (by omega) (by omega) (by simp only [pushT_5, pushT_4, hk, hn]) (by simp only [pushT_5, pushT_4, hk, hn]) (by (try simp only [pushT_3]); omega) (by (try simp only [List.length_append, List.length_nil] at hlen); (try simp only [pushT_3]); omega)) (fun z224 σ224 h224 => ?_)
      obtain ⟨rfl, hs224⟩ := h224
      subst σ224
      refine z_iconst dX3_answerOf_227 ?_
      refine z_ixor dX3_answerOf_228 ?_
      exact z_iret dX3_answerOf_229 ⟨rfl, by first | rfl | (simp only [pushT_app]; done) | (simp only [pushT_app]; rfl)⟩
  · first
    | exfalso; omega
    | skip
      rw [ansF_60 h1] at hlen ⊢
      refine z_aload_n dX3_answerOf_230 rfl ?_
      refine z_iconst dX3_answerOf_231 ?_
      refine z_iconst dX3_answerOf_232 ?_
      refine z_iload_n dX3_answerOf_233 rfl ?_
      refine z_iload_n dX3_answerOf_234 rfl ?_
      refine z_callVI (d := d + 2 * f + 1) (av := [_, _, _, _]) dX3_answerOf_235 vX3_38 rfl (Nat.le_of_ble_eq_true rfl) rfl rfl rfl (Nat.le_of_ble_eq_true rfl) (Nat.le_refl _) (hrun (by omega) (by omega) (by omega) (by omega) (by simp only [pushT_5, pushT_4, hk, hn]) (by simp only [pushT_5, pushT_4, hk, hn]) (by (try simp only [pushT_3]); omega) (by (try simp only [List.length_append, List.length_nil] at hlen); (try simp only [pushT_3]); omega)) (fun z235 σ235 h235 => ?_)
      obtain ⟨rfl, hs235⟩ := h235
      subst σ235
      refine z_aload_n dX3_answerOf_238 rfl ?_
      refine z_iconst dX3_answerOf_239 ?_
      refine z_aload_n dX3_answerOf_240 rfl ?_
      refine z_getI dX3_answerOf_241 gX3_35 rfl (Nat.le_of_ble_eq_true rfl) rfl (fun hr241 => ?_)
      try simp only [pushT_5, pushT_4, hk, hn, z_rd, Nat.reduceEqDiff, ↓reduceIte, eq_self] at hr241 ⊢
      refine z_iconst dX3_answerOf_244 ?_
      refine z_iload_n dX3_answerOf_245 rfl ?_
      refine z_callVI (d := d + 2 * f + 1) (av := [_, _, _, _]) dX3_answerOf_246 vX3_38 rfl (Nat.le_of_ble_eq_true rfl) rfl rfl rfl (Nat.le_of_ble_eq_true rfl) (Nat.le_refl _) (hrun (by omega) (by omega) (by omega) (by omega) (by simp only [pushT_5, pushT_4, hk, hn]) (by simp only [pushT_5, pushT_4, hk, hn]) (by (try simp only [pushT_3]); omega) (by (try simp only [List.length_append, List.length_nil] at hlen); (try simp only [pushT_3]); omega)) (fun z246 σ246 h246 => ?_)
      obtain ⟨rfl, hs246⟩ := h246
      subst σ246
      refine z_isub dX3_answerOf_249 ?_
      exact z_iret dX3_answerOf_250 ⟨rfl, by first | rfl | (simp only [pushT_app]; done) | (simp only [pushT_app]; rfl)⟩
  · first
    | exfalso; omega
    | skip
      rw [ansF_61 h1] at hlen ⊢
      refine z_aload_n dX3_answerOf_251 rfl ?_
      refine z_iconst dX3_answerOf_252 ?_
      refine z_iconst dX3_answerOf_253 ?_
      refine z_iload_n dX3_answerOf_254 rfl ?_
      refine z_iload_n dX3_answerOf_255 rfl ?_
      refine z_callVI (d := d + 2 * f + 1) (av := [_, _, _, _]) dX3_answerOf_256 vX3_38 rfl (Nat.le_of_ble_eq_true rfl) rfl rfl rfl (Nat.le_of_ble_eq_true rfl) (Nat.le_refl _) (hrun (by omega) (by omega) (by omega) (by omega) (by simp only [pushT_5, pushT_4, hk, hn]) (by simp only [pushT_5, pushT_4, hk, hn]) (by (try simp only [pushT_3]); omega) (by (try simp only [List.length_append, List.length_nil] at hlen); (try simp only [pushT_3]); omega)) (fun z256 σ256 h256 => ?_)
      obtain ⟨rfl, hs256⟩ := h256
      subst σ256
      refine z_iconst dX3_answerOf_259 ?_
      refine z_iadd dX3_answerOf_260 ?_
      exact z_iret dX3_answerOf_261 ⟨rfl, by first | rfl | (simp only [pushT_app]; done) | (simp only [pushT_app]; rfl)⟩
  · first
    | exfalso; omega
    | skip
      rw [ansF_70 h1] at hlen ⊢
      refine z_aload_n dX3_answerOf_262 rfl ?_
      refine z_iconst dX3_answerOf_263 ?_
      refine z_iconst dX3_answerOf_264 ?_
      refine z_iload_n dX3_answerOf_265 rfl ?_
      refine z_iload_n dX3_answerOf_266 rfl ?_
      refine z_callVI (d := d + 2 * f + 1) (av := [_, _, _, _]) dX3_answerOf_267 vX3_38 rfl (Nat.le_of_ble_eq_true rfl) rfl rfl rfl (Nat.le_of_ble_eq_true rfl) (Nat.le_refl _) (hrun (by omega) (by omega) (by omega) (by omega) (by simp only [pushT_5, pushT_4, hk, hn]) (by simp only [pushT_5, pushT_4, hk, hn]) (by (try simp only [pushT_3]); omega) (by (try simp only [List.length_append, List.length_nil] at hlen); (try simp only [pushT_3]); omega)) (fun z267 σ267 h267 => ?_)
      obtain ⟨rfl, hs267⟩ := h267
      subst σ267
      refine z_iconst dX3_answerOf_270 ?_
      refine z_imul dX3_answerOf_271 ?_
      exact z_iret dX3_answerOf_272 ⟨rfl, by first | rfl | (simp only [pushT_app]; done) | (simp only [pushT_app]; rfl)⟩
  · first
    | exfalso; omega
    | skip
      rw [ansF_80 h1] at hlen ⊢
      refine z_aload_n dX3_answerOf_273 rfl ?_
      refine z_iconst dX3_answerOf_274 ?_
      refine z_bipush (v := 6) dX3_answerOf_275 (by decide +kernel) ?_
      refine z_iload_n dX3_answerOf_277 rfl ?_
      refine z_iload_n dX3_answerOf_278 rfl ?_
      refine z_callVI (d := d + 2 * f + 1) (av := [_, _, _, _]) dX3_answerOf_279 vX3_38 rfl (Nat.le_of_ble_eq_true rfl) rfl rfl rfl (Nat.le_of_ble_eq_true rfl) (Nat.le_refl _) (hrun (by omega) (by omega) (by omega) (by omega) (by simp only [pushT_5, pushT_4, hk, hn]) (by simp only [pushT_5, pushT_4, hk, hn]) (by (try simp only [pushT_3]); omega) (by (try simp only [List.length_append, List.length_nil] at hlen); (try simp only [pushT_3]); omega)) (fun z279 σ279 h279 => ?_)
      obtain ⟨rfl, hs279⟩ := h279
      subst σ279
      refine z_aload_n dX3_answerOf_282 rfl ?_
      refine z_iconst dX3_answerOf_283 ?_
      refine z_aload_n dX3_answerOf_284 rfl ?_
      refine z_getI dX3_answerOf_285 gX3_35 rfl (Nat.le_of_ble_eq_true rfl) rfl (fun hr285 => ?_)
      try simp only [pushT_5, pushT_4, hk, hn, z_rd, Nat.reduceEqDiff, ↓reduceIte, eq_self] at hr285 ⊢
      refine z_iconst dX3_answerOf_288 ?_
      refine z_iload_n dX3_answerOf_289 rfl ?_
      refine z_callVI (d := d + 2 * f + 1) (av := [_, _, _, _]) dX3_answerOf_290 vX3_38 rfl (Nat.le_of_ble_eq_true rfl) rfl rfl rfl (Nat.le_of_ble_eq_true rfl) (Nat.le_refl _) (hrun (by omega) (by omega) (by omega) (by omega) (by simp only [pushT_5, pushT_4, hk, hn]) (by simp only [pushT_5, pushT_4, hk, hn]) (by (try simp only [pushT_3]); omega) (by (try simp only [List.length_append, List.length_nil] at hlen); (try simp only [pushT_3]); omega)) (fun z290 σ290 h290 => ?_)
      obtain ⟨rfl, hs290⟩ := h290
      subst σ290
      refine z_iadd dX3_answerOf_293 ?_
      exact z_iret dX3_answerOf_294 ⟨rfl, by first | rfl | (simp only [pushT_app]; done) | (simp only [pushT_app]; rfl)⟩
  · first
    | exfalso; omega
    | skip
      rw [ansF_81 h1] at hlen ⊢
      refine z_aload_n dX3_answerOf_295 rfl ?_
      refine z_iconst dX3_answerOf_296 ?_
      refine z_bipush (v := 6) dX3_answerOf_297 (by decide +kernel) ?_
      refine z_iload_n dX3_answerOf_299 rfl ?_
      refine z_iload_n dX3_answerOf_300 rfl ?_
      refine z_callVI (d := d + 2 * f + 1) (av := [_, _, _, _]) dX3_answerOf_301 vX3_38 rfl (Nat.le_of_ble_eq_true rfl) rfl rfl rfl (Nat.le_of_ble_eq_true rfl) (Nat.le_refl _) (hrun (by omega) (by omega) (by omega) (by omega) (by simp only [pushT_5, pushT_4, hk, hn]) (by simp only [pushT_5, pushT_4, hk, hn]) (by (try simp only [pushT_3]); omega) (by (try simp only [List.length_append, List.length_nil] at hlen); (try simp only [pushT_3]); omega)) (fun z301 σ301 h301 => ?_)
      obtain ⟨rfl, hs301⟩ := h301
      subst σ301
      refine z_iconst dX3_answerOf_304 ?_
      refine z_isub dX3_answerOf_305 ?_
      exact z_iret dX3_answerOf_306 ⟨rfl, by first | rfl | (simp only [pushT_app]; done) | (simp only [pushT_app]; rfl)⟩
  · first
    | exfalso; omega
    | skip
      rw [ansF_x h1] at hlen ⊢
      refine z_iconst dX3_answerOf_307 ?_
      exact z_iret dX3_answerOf_308 ⟨rfl, by first | rfl | (simp only [pushT_app]; done) | (simp only [pushT_app]; rfl)⟩
set_option maxRecDepth 20000 in
set_option maxHeartbeats 1000000 in
theorem c_X3_run {d : Nat} {k n : Int} (hk0 : 0 ≤ k ∧ k < 8) : ∀ (f : Nat) {σ : Sto} {a fr x dp : Int}, dp + f = 40 → 0 ≤ dp → (0 ≤ a ∧ a < 4) → (-1 ≤ fr ∧ fr < 8) → σ 8 5 = k → σ 8 4 = n → 0 ≤ σ 8 3 → σ 8 3 + ((runF f k n a fr x).2.length : Int) ≤ 1000 →
    Does (d + 2 * f + 1) yX3_run cX3_run 6 (some .int) [zR 8, zI a, zI fr, zI x, zI dp] σ (qI fun z σ' => z = (runF f k n a fr x).1 ∧ σ' = pushT σ (runF f k n a fr x).2)
  | 0, σ, a, fr, x, dp, h1, h2, ha, hf, hk, hn, hr, hlen => by
    refine z_does (L := [some (zR 8), some (zI a), some (zI fr), some (zI x), some (zI dp), none]) rfl (by decide +kernel) (Nat.le_of_ble_eq_true rfl) rfl ?_
    refine z_iload dX3_run_0 rfl ?_
    refine z_bipush (v := 40) dX3_run_2 (by decide +kernel) ?_
    refine z_icmp_lt (tgt := 9) dX3_run_4 (by decide) ⟨by omega, by omega⟩ ⟨by omega, by omega⟩ (fun h4 => ?_) (fun h4 => ?_)
    · exfalso; omega
    · skip
      refine z_iconst dX3_run_7 ?_
      exact z_iret dX3_run_8 ⟨rfl, rfl⟩
  | f + 1, σ, a, fr, x, dp, h1, h2, ha, hf, hk, hn, hr, hlen => by
    have hbr := bfN_RI ha hf
    rw [runF_ans] at hlen ⊢
    simp only [List.length_cons] at hlen
    refine z_does (L := [some (zR 8), some (zI a), some (zI fr), some (zI x), some (zI dp), none]) rfl (by decide +kernel) (Nat.le_of_ble_eq_true rfl) rfl ?_
    refine z_iload dX3_run_0 rfl ?_
    refine z_bipush (v := 40) dX3_run_2 (by decide +kernel) ?_
    refine z_icmp_lt (tgt := 9) dX3_run_4 (by decide) ⟨by omega, by omega⟩ ⟨by omega, by omega⟩ (fun h4 => ?_) (fun h4 => ?_)
    · skip
      refine z_iload_n dX3_run_9 rfl ?_
      refine z_iload_n dX3_run_10 rfl ?_
      refine z_callSI (d := d + 2 * f + 2) (av := [_, _]) dX3_run_11 sX3_45 rfl rfl (Nat.le_of_ble_eq_true rfl) (Nat.le_refl _) (c_X3_bodyFrom (by omega) (by omega)) (fun z11 σ11 h11 => ?_)
      obtain ⟨rfl, hs11⟩ := h11
      subst σ11
      refine z_istore (L' := [_, _, _, _, _, _]) dX3_run_14 (Nat.le_of_ble_eq_true rfl) rfl rfl ?_
      refine z_aload_n dX3_run_16 rfl ?_
      refine z_iload dX3_run_17 rfl ?_
      refine z_callVV (d := d + 2 * f + 2) (av := [_]) dX3_run_19 vX3_49 rfl (Nat.le_of_ble_eq_true rfl) rfl rfl rfl (Nat.le_of_ble_eq_true rfl) (Nat.le_refl _) (c_X3_noteBody (by omega) (by omega)) (fun σ19 h19 => ?_)
      subst h19
      refine z_aload_n dX3_run_22 rfl ?_
      refine z_iload dX3_run_23 rfl ?_
      refine z_iload_n dX3_run_25 rfl ?_
      refine z_iload dX3_run_26 rfl ?_
      refine z_iconst dX3_run_28 ?_
      refine z_iadd dX3_run_29 ?_
      refine z_callVI (d := d + 2 * f + 2) (av := [_, _, _]) dX3_run_30 vX3_53 rfl (Nat.le_of_ble_eq_true rfl) rfl rfl rfl (Nat.le_of_ble_eq_true rfl) (Nat.le_refl _) (c_X3_answerOf (d := d) (k := k) (n := n) hk0 f (fun q1 q2 q3 q4 q5 q6 q7 q8 => c_X3_run hk0 f q1 q2 q3 q4 q5 q6 q7 q8) (by omega) (by omega) (by omega) (by rw [ntS_5]; exact hk) (by rw [ntS_4]; exact hn) (by rw [ntS_3]; omega) (by rw [ntS_3]; omega)) (fun z30 σ30 h30 => ?_)
      obtain ⟨rfl, hs30⟩ := h30
      subst σ30
      exact z_iret dX3_run_33 ⟨rfl, rfl⟩
    · exfalso; omega
set_option maxRecDepth 20000 in
theorem c_X3_actOf {d : Nat} {σ : Sto} {b a x : Int} (hb : 0 ≤ σ 8 2 ∧ σ 8 2 ≤ 50) (hr : inR b) (ha : inR a) (hk : 0 ≤ b → b < σ 8 2 → 0 ≤ σ 80 b.toNat ∧ σ 80 b.toNat < 8) (hl : ∀ k n, (runF 40 k n a k x).2.length ≤ 1000) : Does (d + 82) yX3_actOf cX3_actOf 4 (some .int) [zR 8, zI b, zI a, zI x] σ (qI fun z σ' => (0 ≤ b ∧ b < σ 8 2 ∧ 0 ≤ a ∧ a < 4 ∧ z = (runF 40 (σ 80 b.toNat) b a (σ 80 b.toNat) x).1 ∧ σ' = pushT (z_put (z_put (z_put σ 8 3 0) 8 4 b) 8 5 (σ 80 b.toNat)) (runF 40 (σ 80 b.toNat) b a (σ 80 b.toNat) x).2) ∨ ((b < 0 ∨ σ 8 2 ≤ b ∨ a < 0 ∨ 4 ≤ a) ∧ z = 0 ∧ σ' = z_put σ 8 3 0)) := by
  refine z_does (L := [some (zR 8), some (zI b), some (zI a), some (zI x)]) rfl (by decide +kernel) (Nat.le_of_ble_eq_true rfl) rfl ?_
  refine z_aload_n dX3_actOf_0 rfl ?_
  refine z_iconst dX3_actOf_1 ?_
  refine z_putI dX3_actOf_2 pX3_25 rfl (Nat.le_of_ble_eq_true rfl) rfl ⟨by omega, by omega⟩ ?_
  refine z_iload_n dX3_actOf_5 rfl ?_
  refine z_if_lt (tgt := 26) dX3_actOf_6 (by decide) ⟨by omega, by omega⟩ (fun h6 => ?_) (fun h6 => ?_)
  · first
    | exfalso; omega
    | skip
      refine z_iconst dX3_actOf_26 ?_
      exact z_iret dX3_actOf_27 (by first | exact Or.inl ⟨by omega, by omega, by omega, by omega, rfl, rfl⟩ | exact Or.inr ⟨by omega, rfl, rfl⟩)
  · first
    | exfalso; omega
    | skip
      refine z_iload_n dX3_actOf_9 rfl ?_
      refine z_aload_n dX3_actOf_10 rfl ?_
      refine z_getI dX3_actOf_11 gX3_18 rfl (Nat.le_of_ble_eq_true rfl) rfl (fun hr11 => ?_)
      try simp only [z_rd, Nat.reduceEqDiff, ↓reduceIte, eq_self] at hr11 ⊢
      refine z_icmp_ge (tgt := 26) dX3_actOf_14 (by decide) ⟨by omega, by omega⟩ ⟨by omega, by omega⟩ (fun h14 => ?_) (fun h14 => ?_)
      · first
        | exfalso; omega
        | skip
          refine z_iconst dX3_actOf_26 ?_
          exact z_iret dX3_actOf_27 (by first | exact Or.inl ⟨by omega, by omega, by omega, by omega, rfl, rfl⟩ | exact Or.inr ⟨by omega, rfl, rfl⟩)
      · first
        | exfalso; omega
        | skip
          refine z_iload_n dX3_actOf_17 rfl ?_
          refine z_if_lt (tgt := 26) dX3_actOf_18 (by decide) ⟨by omega, by omega⟩ (fun h18 => ?_) (fun h18 => ?_)
          · first
            | exfalso; omega
            | skip
              refine z_iconst dX3_actOf_26 ?_
              exact z_iret dX3_actOf_27 (by first | exact Or.inl ⟨by omega, by omega, by omega, by omega, rfl, rfl⟩ | exact Or.inr ⟨by omega, rfl, rfl⟩)
          · first
            | exfalso; omega
            | skip
              refine z_iload_n dX3_actOf_21 rfl ?_
              refine z_iconst dX3_actOf_22 ?_
              refine z_icmp_lt (tgt := 28) dX3_actOf_23 (by decide) ⟨by omega, by omega⟩ ⟨by omega, by omega⟩ (fun h23 => ?_) (fun h23 => ?_)
              · first
                | exfalso; omega
                | skip
                  obtain ⟨k0, k1⟩ := hk (by omega) (by omega)
                  refine z_aload_n dX3_actOf_28 rfl ?_
                  refine z_iload_n dX3_actOf_29 rfl ?_
                  refine z_putI dX3_actOf_30 pX3_28 rfl (Nat.le_of_ble_eq_true rfl) rfl ⟨by omega, by omega⟩ ?_
                  refine z_aload_n dX3_actOf_33 rfl ?_
                  refine z_aload_n dX3_actOf_34 rfl ?_
                  refine z_iload_n dX3_actOf_35 rfl ?_
                  refine z_callVI (d := d + 81) (av := [_]) dX3_actOf_36 vX3_31 rfl (Nat.le_of_ble_eq_true rfl) rfl rfl rfl (Nat.le_of_ble_eq_true rfl) (Nat.le_refl _) (c_X3_kindOf (d := d + 81) (by simp only [z_rd, Nat.reduceEqDiff, ↓reduceIte, eq_self]; omega) (by omega)) (fun z36 σ36 h36 => ?_)
                  obtain ⟨hs36, h36⟩ := h36
                  subst σ36
                  simp only [z_rd, Nat.reduceEqDiff, ↓reduceIte, eq_self] at h36
                  obtain rfl : z36 = σ 80 b.toNat := by omega
                  refine z_putI dX3_actOf_39 pX3_35 rfl (Nat.le_of_ble_eq_true rfl) rfl ⟨by omega, by omega⟩ ?_
                  refine z_aload_n dX3_actOf_42 rfl ?_
                  refine z_iload_n dX3_actOf_43 rfl ?_
                  refine z_aload_n dX3_actOf_44 rfl ?_
                  refine z_getI dX3_actOf_45 gX3_35 rfl (Nat.le_of_ble_eq_true rfl) rfl (fun hr45 => ?_)
                  try simp only [z_rd, Nat.reduceEqDiff, ↓reduceIte, eq_self] at hr45 ⊢
                  refine z_iload_n dX3_actOf_48 rfl ?_
                  refine z_iconst dX3_actOf_49 ?_
                  refine z_callVI (d := d + 81) (av := [_, _, _, _]) dX3_actOf_50 vX3_38 rfl (Nat.le_of_ble_eq_true rfl) rfl rfl rfl (Nat.le_of_ble_eq_true rfl) (Nat.le_refl _) (c_X3_run (d := d) (k := σ 80 b.toNat) (n := b) (by omega) 40 (by omega) (by omega) (by omega) (by omega) rfl rfl (by simp only [z_rd, Nat.reduceEqDiff, ↓reduceIte, eq_self]; omega) (by have := hl (σ 80 b.toNat) b; simp only [z_rd, Nat.reduceEqDiff, ↓reduceIte, eq_self]; omega)) (fun z50 σ50 h50 => ?_)
                  obtain ⟨rfl, hs50⟩ := h50
                  subst σ50
                  exact z_iret dX3_actOf_53 (by first | exact Or.inl ⟨by omega, by omega, by omega, by omega, rfl, rfl⟩ | exact Or.inr ⟨by omega, rfl, rfl⟩)
              · first
                | exfalso; omega
                | skip
                  refine z_iconst dX3_actOf_26 ?_
                  exact z_iret dX3_actOf_27 (by first | exact Or.inl ⟨by omega, by omega, by omega, by omega, rfl, rfl⟩ | exact Or.inr ⟨by omega, rfl, rfl⟩)
