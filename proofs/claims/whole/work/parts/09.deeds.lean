/-! ===== Deeds ===== -/
set_option maxRecDepth 20000 in
theorem c_X1_lyingIn {d : Nat} {σ : Sto} {m : Int} (hm : 0 ≤ m ∧ m < 5) : m_X1_lyingIn d [zR 7, zI m] σ (qI fun z σ' => z = σ 74 m.toNat ∧ σ' = σ) := by
  refine z_does (L := [some (zR 7), some (zI m)]) rfl (by decide +kernel) (Nat.le_of_ble_eq_true rfl) rfl ?_
  refine z_iload_n dX1_lyingIn_0 rfl ?_
  refine z_if_lt (tgt := 18) dX1_lyingIn_1 (by decide) ⟨by omega, by omega⟩ (fun h1 => ?_) (fun h1 => ?_)
  · first
    | exfalso; omega
    | skip
      refine z_iconst dX1_lyingIn_18 ?_
      exact z_iret dX1_lyingIn_19 (by first | exact ⟨rfl, rfl⟩ | exact ⟨by omega, rfl⟩)
  · first
    | exfalso; omega
    | skip
      refine z_iload_n dX1_lyingIn_4 rfl ?_
      refine z_iconst dX1_lyingIn_5 ?_
      refine z_icmp_ge (tgt := 18) dX1_lyingIn_6 (by decide) ⟨by omega, by omega⟩ ⟨by omega, by omega⟩ (fun h6 => ?_) (fun h6 => ?_)
      · first
        | exfalso; omega
        | skip
          refine z_iconst dX1_lyingIn_18 ?_
          exact z_iret dX1_lyingIn_19 (by first | exact ⟨rfl, rfl⟩ | exact ⟨by omega, rfl⟩)
      · first
        | exfalso; omega
        | skip
          refine z_aload_n dX1_lyingIn_9 rfl ?_
          refine z_getR dX1_lyingIn_10 gX1_11 rfl (Nat.le_of_ble_eq_true rfl) rfl ?_
          refine z_iload_n dX1_lyingIn_13 rfl ?_
          refine z_iald dX1_lyingIn_14 rfl (Nat.le_of_ble_eq_true rfl) (by omega) (fun hr14 => ?_)
          refine z_goto (tgt := 19) dX1_lyingIn_15 (by decide) ?_
          exact z_iret dX1_lyingIn_19 (by first | exact ⟨rfl, rfl⟩ | exact ⟨by omega, rfl⟩)
set_option maxRecDepth 20000 in
theorem c_X1_harmIn {d : Nat} {σ : Sto} {m : Int} (hm : 0 ≤ m ∧ m < 5) : m_X1_harmIn d [zR 7, zI m] σ (qI fun z σ' => z = σ 75 m.toNat ∧ σ' = σ) := by
  refine z_does (L := [some (zR 7), some (zI m)]) rfl (by decide +kernel) (Nat.le_of_ble_eq_true rfl) rfl ?_
  refine z_iload_n dX1_harmIn_0 rfl ?_
  refine z_if_lt (tgt := 18) dX1_harmIn_1 (by decide) ⟨by omega, by omega⟩ (fun h1 => ?_) (fun h1 => ?_)
  · first
    | exfalso; omega
    | skip
      refine z_iconst dX1_harmIn_18 ?_
      exact z_iret dX1_harmIn_19 (by first | exact ⟨rfl, rfl⟩ | exact ⟨by omega, rfl⟩)
  · first
    | exfalso; omega
    | skip
      refine z_iload_n dX1_harmIn_4 rfl ?_
      refine z_iconst dX1_harmIn_5 ?_
      refine z_icmp_ge (tgt := 18) dX1_harmIn_6 (by decide) ⟨by omega, by omega⟩ ⟨by omega, by omega⟩ (fun h6 => ?_) (fun h6 => ?_)
      · first
        | exfalso; omega
        | skip
          refine z_iconst dX1_harmIn_18 ?_
          exact z_iret dX1_harmIn_19 (by first | exact ⟨rfl, rfl⟩ | exact ⟨by omega, rfl⟩)
      · first
        | exfalso; omega
        | skip
          refine z_aload_n dX1_harmIn_9 rfl ?_
          refine z_getR dX1_harmIn_10 gX1_15 rfl (Nat.le_of_ble_eq_true rfl) rfl ?_
          refine z_iload_n dX1_harmIn_13 rfl ?_
          refine z_iald dX1_harmIn_14 rfl (Nat.le_of_ble_eq_true rfl) (by omega) (fun hr14 => ?_)
          refine z_goto (tgt := 19) dX1_harmIn_15 (by decide) ?_
          exact z_iret dX1_harmIn_19 (by first | exact ⟨rfl, rfl⟩ | exact ⟨by omega, rfl⟩)
set_option maxRecDepth 20000 in
theorem c_X1_ledOf {d : Nat} {σ : Sto} {w : Int} (hw : inR w) : m_X1_ledOf d [zR 7, zI w] σ (qI fun z σ' => σ' = σ ∧ ((0 ≤ w ∧ w < 6 ∧ z = σ 76 w.toNat) ∨ ((w < 0 ∨ 6 ≤ w) ∧ z = -1))) := by
  refine z_does (L := [some (zR 7), some (zI w)]) rfl (by decide +kernel) (Nat.le_of_ble_eq_true rfl) rfl ?_
  refine z_iload_n dX1_ledOf_0 rfl ?_
  refine z_if_lt (tgt := 19) dX1_ledOf_1 (by decide) ⟨by omega, by omega⟩ (fun h1 => ?_) (fun h1 => ?_)
  · first
    | exfalso; omega
    | skip
      refine z_iconst dX1_ledOf_19 ?_
      exact z_iret dX1_ledOf_20 ⟨rfl, by omega⟩
  · first
    | exfalso; omega
    | skip
      refine z_iload_n dX1_ledOf_4 rfl ?_
      refine z_bipush (v := 6) dX1_ledOf_5 (by decide +kernel) ?_
      refine z_icmp_ge (tgt := 19) dX1_ledOf_7 (by decide) ⟨by omega, by omega⟩ ⟨by omega, by omega⟩ (fun h7 => ?_) (fun h7 => ?_)
      · first
        | exfalso; omega
        | skip
          refine z_iconst dX1_ledOf_19 ?_
          exact z_iret dX1_ledOf_20 ⟨rfl, by omega⟩
      · first
        | exfalso; omega
        | skip
          refine z_aload_n dX1_ledOf_10 rfl ?_
          refine z_getR dX1_ledOf_11 gX1_18 rfl (Nat.le_of_ble_eq_true rfl) rfl ?_
          refine z_iload_n dX1_ledOf_14 rfl ?_
          refine z_iald dX1_ledOf_15 rfl (Nat.le_of_ble_eq_true rfl) (by omega) (fun hr15 => ?_)
          refine z_goto (tgt := 20) dX1_ledOf_16 (by decide) ?_
          exact z_iret dX1_ledOf_20 ⟨rfl, by omega⟩
def nsS (σ : Sto) (m c l h u : Int) : Sto := z_put (z_put (z_put (z_put (z_put (z_put σ 74 m.toNat (wr (σ 74 m.toNat + l))) 75 m.toNat (wr (σ 75 m.toNat + h))) 76 0 (wr (σ 76 0 + 1))) 76 1 (wr (σ 76 1 + c))) 76 2 (wr (σ 76 2 + l))) 76 3 (wr (σ 76 3 + u))
set_option maxRecDepth 20000 in
theorem c_X1_noteSaying {d : Nat} {σ : Sto} {m c l h u : Int} (hm : 0 ≤ m ∧ m < 5) : m_X1_noteSaying d [zR 7, zI m, zI c, zI l, zI h, zI u] σ (qV fun σ' => σ' = nsS σ m c l h u) := by
  refine z_does (L := [some (zR 7), some (zI m), some (zI c), some (zI l), some (zI h), some (zI u)]) rfl (by decide +kernel) (Nat.le_of_ble_eq_true rfl) rfl ?_
  refine z_iload_n dX1_noteSaying_0 rfl ?_
  refine z_if_lt (tgt := 9) dX1_noteSaying_1 (by decide) ⟨by omega, by omega⟩ (fun h1 => ?_) (fun h1 => ?_)
  · first
    | exfalso; omega
    | skip
      exact z_vret dX1_noteSaying_9 rfl
  · first
    | exfalso; omega
    | skip
      refine z_iload_n dX1_noteSaying_4 rfl ?_
      refine z_iconst dX1_noteSaying_5 ?_
      refine z_icmp_lt (tgt := 10) dX1_noteSaying_6 (by decide) ⟨by omega, by omega⟩ ⟨by omega, by omega⟩ (fun h6 => ?_) (fun h6 => ?_)
      · first
        | exfalso; omega
        | skip
          refine z_aload_n dX1_noteSaying_10 rfl ?_
          refine z_getR dX1_noteSaying_11 gX1_11 rfl (Nat.le_of_ble_eq_true rfl) rfl ?_
          refine z_iload_n dX1_noteSaying_14 rfl ?_
          refine z_dup2 dX1_noteSaying_15 rfl rfl ?_
          refine z_iald dX1_noteSaying_16 rfl (Nat.le_of_ble_eq_true rfl) (by omega) (fun hr16 => ?_)
          refine z_iload_n dX1_noteSaying_17 rfl ?_
          refine z_iadd dX1_noteSaying_18 ?_
          refine z_wr ?_
          refine z_iast dX1_noteSaying_19 rfl (Nat.le_of_ble_eq_true rfl) (by omega) (wr_R _) ?_
          refine z_aload_n dX1_noteSaying_20 rfl ?_
          refine z_getR dX1_noteSaying_21 gX1_15 rfl (Nat.le_of_ble_eq_true rfl) rfl ?_
          refine z_iload_n dX1_noteSaying_24 rfl ?_
          refine z_dup2 dX1_noteSaying_25 rfl rfl ?_
          refine z_iald dX1_noteSaying_26 rfl (Nat.le_of_ble_eq_true rfl) (by omega) (fun hr26 => ?_)
          try simp only [z_rd, Nat.reduceEqDiff, ↓reduceIte, eq_self] at hr26 ⊢
          refine z_iload dX1_noteSaying_27 rfl ?_
          refine z_iadd dX1_noteSaying_29 ?_
          refine z_wr ?_
          refine z_iast dX1_noteSaying_30 rfl (Nat.le_of_ble_eq_true rfl) (by omega) (wr_R _) ?_
          refine z_aload_n dX1_noteSaying_31 rfl ?_
          refine z_getR dX1_noteSaying_32 gX1_18 rfl (Nat.le_of_ble_eq_true rfl) rfl ?_
          refine z_iconst dX1_noteSaying_35 ?_
          refine z_dup2 dX1_noteSaying_36 rfl rfl ?_
          refine z_iald dX1_noteSaying_37 rfl (Nat.le_of_ble_eq_true rfl) (by omega) (fun hr37 => ?_)
          try simp only [z_rd, Nat.reduceEqDiff, ↓reduceIte, eq_self] at hr37 ⊢
          refine z_iconst dX1_noteSaying_38 ?_
          refine z_iadd dX1_noteSaying_39 ?_
          refine z_wr ?_
          refine z_iast dX1_noteSaying_40 rfl (Nat.le_of_ble_eq_true rfl) (by omega) (wr_R _) ?_
          refine z_aload_n dX1_noteSaying_41 rfl ?_
          refine z_getR dX1_noteSaying_42 gX1_18 rfl (Nat.le_of_ble_eq_true rfl) rfl ?_
          refine z_iconst dX1_noteSaying_45 ?_
          refine z_dup2 dX1_noteSaying_46 rfl rfl ?_
          refine z_iald dX1_noteSaying_47 rfl (Nat.le_of_ble_eq_true rfl) (by omega) (fun hr47 => ?_)
          try simp only [z_rd, Nat.reduceEqDiff, ↓reduceIte, eq_self] at hr47 ⊢
          refine z_iload_n dX1_noteSaying_48 rfl ?_
          refine z_iadd dX1_noteSaying_49 ?_
          refine z_wr ?_
          refine z_iast dX1_noteSaying_50 rfl (Nat.le_of_ble_eq_true rfl) (by omega) (wr_R _) ?_
          refine z_aload_n dX1_noteSaying_51 rfl ?_
          refine z_getR dX1_noteSaying_52 gX1_18 rfl (Nat.le_of_ble_eq_true rfl) rfl ?_
          refine z_iconst dX1_noteSaying_55 ?_
          refine z_dup2 dX1_noteSaying_56 rfl rfl ?_
          refine z_iald dX1_noteSaying_57 rfl (Nat.le_of_ble_eq_true rfl) (by omega) (fun hr57 => ?_)
          try simp only [z_rd, Nat.reduceEqDiff, ↓reduceIte, eq_self] at hr57 ⊢
          refine z_iload_n dX1_noteSaying_58 rfl ?_
          refine z_iadd dX1_noteSaying_59 ?_
          refine z_wr ?_
          refine z_iast dX1_noteSaying_60 rfl (Nat.le_of_ble_eq_true rfl) (by omega) (wr_R _) ?_
          refine z_aload_n dX1_noteSaying_61 rfl ?_
          refine z_getR dX1_noteSaying_62 gX1_18 rfl (Nat.le_of_ble_eq_true rfl) rfl ?_
          refine z_iconst dX1_noteSaying_65 ?_
          refine z_dup2 dX1_noteSaying_66 rfl rfl ?_
          refine z_iald dX1_noteSaying_67 rfl (Nat.le_of_ble_eq_true rfl) (by omega) (fun hr67 => ?_)
          try simp only [z_rd, Nat.reduceEqDiff, ↓reduceIte, eq_self] at hr67 ⊢
          refine z_iload dX1_noteSaying_68 rfl ?_
          refine z_iadd dX1_noteSaying_70 ?_
          refine z_wr ?_
          refine z_iast dX1_noteSaying_71 rfl (Nat.le_of_ble_eq_true rfl) (by omega) (wr_R _) ?_
          exact z_vret dX1_noteSaying_72 rfl
      · first
        | exfalso; omega
        | skip
          exact z_vret dX1_noteSaying_9 rfl
def riS (σ : Sto) (m : Int) : Sto := z_put (z_put (z_put (z_put σ 76 4 (wr (σ 76 4 + 1))) 76 5 (wr (σ 76 5 + σ 75 m.toNat))) 74 m.toNat 0) 75 m.toNat 0
set_option maxRecDepth 20000 in
theorem c_X1_rinseOut {d : Nat} {σ : Sto} {m : Int} (hm : 0 ≤ m ∧ m < 5) : m_X1_rinseOut d [zR 7, zI m] σ (qI fun z σ' => z = σ 74 m.toNat ∧ σ' = riS σ m) := by
  refine z_does (L := [some (zR 7), some (zI m), none]) rfl (by decide +kernel) (Nat.le_of_ble_eq_true rfl) rfl ?_
  refine z_iload_n dX1_rinseOut_0 rfl ?_
  refine z_if_lt (tgt := 9) dX1_rinseOut_1 (by decide) ⟨by omega, by omega⟩ (fun h1 => ?_) (fun h1 => ?_)
  · first
    | exfalso; omega
    | skip
      refine z_iconst dX1_rinseOut_9 ?_
      exact z_iret dX1_rinseOut_10 (by first | exact ⟨rfl, rfl⟩ | exact ⟨by omega, rfl⟩)
  · first
    | exfalso; omega
    | skip
      refine z_iload_n dX1_rinseOut_4 rfl ?_
      refine z_iconst dX1_rinseOut_5 ?_
      refine z_icmp_lt (tgt := 11) dX1_rinseOut_6 (by decide) ⟨by omega, by omega⟩ ⟨by omega, by omega⟩ (fun h6 => ?_) (fun h6 => ?_)
      · first
        | exfalso; omega
        | skip
          refine z_aload_n dX1_rinseOut_11 rfl ?_
          refine z_getR dX1_rinseOut_12 gX1_11 rfl (Nat.le_of_ble_eq_true rfl) rfl ?_
          refine z_iload_n dX1_rinseOut_15 rfl ?_
          refine z_iald dX1_rinseOut_16 rfl (Nat.le_of_ble_eq_true rfl) (by omega) (fun hr16 => ?_)
          refine z_istore_n (L' := [_, _, _]) dX1_rinseOut_17 (Nat.le_of_ble_eq_true rfl) rfl rfl ?_
          refine z_aload_n dX1_rinseOut_18 rfl ?_
          refine z_getR dX1_rinseOut_19 gX1_18 rfl (Nat.le_of_ble_eq_true rfl) rfl ?_
          refine z_iconst dX1_rinseOut_22 ?_
          refine z_dup2 dX1_rinseOut_23 rfl rfl ?_
          refine z_iald dX1_rinseOut_24 rfl (Nat.le_of_ble_eq_true rfl) (by omega) (fun hr24 => ?_)
          refine z_iconst dX1_rinseOut_25 ?_
          refine z_iadd dX1_rinseOut_26 ?_
          refine z_wr ?_
          refine z_iast dX1_rinseOut_27 rfl (Nat.le_of_ble_eq_true rfl) (by omega) (wr_R _) ?_
          refine z_aload_n dX1_rinseOut_28 rfl ?_
          refine z_getR dX1_rinseOut_29 gX1_18 rfl (Nat.le_of_ble_eq_true rfl) rfl ?_
          refine z_iconst dX1_rinseOut_32 ?_
          refine z_dup2 dX1_rinseOut_33 rfl rfl ?_
          refine z_iald dX1_rinseOut_34 rfl (Nat.le_of_ble_eq_true rfl) (by omega) (fun hr34 => ?_)
          try simp only [z_rd, Nat.reduceEqDiff, ↓reduceIte, eq_self] at hr34 ⊢
          refine z_aload_n dX1_rinseOut_35 rfl ?_
          refine z_getR dX1_rinseOut_36 gX1_15 rfl (Nat.le_of_ble_eq_true rfl) rfl ?_
          refine z_iload_n dX1_rinseOut_39 rfl ?_
          refine z_iald dX1_rinseOut_40 rfl (Nat.le_of_ble_eq_true rfl) (by omega) (fun hr40 => ?_)
          try simp only [z_rd, Nat.reduceEqDiff, ↓reduceIte, eq_self] at hr40 ⊢
          refine z_iadd dX1_rinseOut_41 ?_
          refine z_wr ?_
          refine z_iast dX1_rinseOut_42 rfl (Nat.le_of_ble_eq_true rfl) (by omega) (wr_R _) ?_
          refine z_aload_n dX1_rinseOut_43 rfl ?_
          refine z_getR dX1_rinseOut_44 gX1_11 rfl (Nat.le_of_ble_eq_true rfl) rfl ?_
          refine z_iload_n dX1_rinseOut_47 rfl ?_
          refine z_iconst dX1_rinseOut_48 ?_
          refine z_iast dX1_rinseOut_49 rfl (Nat.le_of_ble_eq_true rfl) (by omega) ⟨by omega, by omega⟩ ?_
          refine z_aload_n dX1_rinseOut_50 rfl ?_
          refine z_getR dX1_rinseOut_51 gX1_15 rfl (Nat.le_of_ble_eq_true rfl) rfl ?_
          refine z_iload_n dX1_rinseOut_54 rfl ?_
          refine z_iconst dX1_rinseOut_55 ?_
          refine z_iast dX1_rinseOut_56 rfl (Nat.le_of_ble_eq_true rfl) (by omega) ⟨by omega, by omega⟩ ?_
          refine z_iload_n dX1_rinseOut_57 rfl ?_
          exact z_iret dX1_rinseOut_58 (by first | exact ⟨rfl, rfl⟩ | exact ⟨by omega, rfl⟩)
      · first
        | exfalso; omega
        | skip
          refine z_iconst dX1_rinseOut_9 ?_
          exact z_iret dX1_rinseOut_10 (by first | exact ⟨rfl, rfl⟩ | exact ⟨by omega, rfl⟩)
def kiS (σ : Sto) : Sto := z_put (z_cp (z_cp (z_cp σ 74 77 0 0 5) 75 78 0 0 5) 76 79 0 0 6) 7 6 1
set_option maxRecDepth 20000 in
theorem c_X1_keepImage {d : Nat} {σ : Sto} : m_X1_keepImage d [zR 7] σ (qI fun z σ' => z = σ 76 0 ∧ σ' = kiS σ) := by
  refine z_does (L := [some (zR 7)]) rfl (by decide +kernel) (Nat.le_of_ble_eq_true rfl) rfl ?_
  refine z_aload_n dX1_keepImage_0 rfl ?_
  refine z_getR dX1_keepImage_1 gX1_11 rfl (Nat.le_of_ble_eq_true rfl) rfl ?_
  refine z_iconst dX1_keepImage_4 ?_
  refine z_aload_n dX1_keepImage_5 rfl ?_
  refine z_getR dX1_keepImage_6 gX1_21 rfl (Nat.le_of_ble_eq_true rfl) rfl ?_
  refine z_iconst dX1_keepImage_9 ?_
  refine z_iconst dX1_keepImage_10 ?_
  refine z_copyI dX1_keepImage_11 aX1_30 rfl (Nat.le_of_ble_eq_true rfl) rfl (Nat.le_of_ble_eq_true rfl) (by omega) (by omega) (by omega) (by omega) (by omega) (Nat.le_of_ble_eq_true rfl) (Nat.le_add_left _ _) ?_
  refine z_aload_n dX1_keepImage_14 rfl ?_
  refine z_getR dX1_keepImage_15 gX1_15 rfl (Nat.le_of_ble_eq_true rfl) rfl ?_
  refine z_iconst dX1_keepImage_18 ?_
  refine z_aload_n dX1_keepImage_19 rfl ?_
  refine z_getR dX1_keepImage_20 gX1_24 rfl (Nat.le_of_ble_eq_true rfl) rfl ?_
  refine z_iconst dX1_keepImage_23 ?_
  refine z_iconst dX1_keepImage_24 ?_
  refine z_copyI dX1_keepImage_25 aX1_30 rfl (Nat.le_of_ble_eq_true rfl) rfl (Nat.le_of_ble_eq_true rfl) (by omega) (by omega) (by omega) (by omega) (by omega) (Nat.le_of_ble_eq_true rfl) (Nat.le_add_left _ _) ?_
  refine z_aload_n dX1_keepImage_28 rfl ?_
  refine z_getR dX1_keepImage_29 gX1_18 rfl (Nat.le_of_ble_eq_true rfl) rfl ?_
  refine z_iconst dX1_keepImage_32 ?_
  refine z_aload_n dX1_keepImage_33 rfl ?_
  refine z_getR dX1_keepImage_34 gX1_27 rfl (Nat.le_of_ble_eq_true rfl) rfl ?_
  refine z_iconst dX1_keepImage_37 ?_
  refine z_bipush (v := 6) dX1_keepImage_38 (by decide +kernel) ?_
  refine z_copyI dX1_keepImage_40 aX1_30 rfl (Nat.le_of_ble_eq_true rfl) rfl (Nat.le_of_ble_eq_true rfl) (by omega) (by omega) (by omega) (by omega) (by omega) (Nat.le_of_ble_eq_true rfl) (Nat.le_add_left _ _) ?_
  refine z_aload_n dX1_keepImage_43 rfl ?_
  refine z_iconst dX1_keepImage_44 ?_
  refine z_putZ dX1_keepImage_45 pX1_36 rfl (Nat.le_of_ble_eq_true rfl) rfl (by omega) ?_
  refine z_aload_n dX1_keepImage_48 rfl ?_
  refine z_getR dX1_keepImage_49 gX1_18 rfl (Nat.le_of_ble_eq_true rfl) rfl ?_
  refine z_iconst dX1_keepImage_52 ?_
  refine z_iald dX1_keepImage_53 rfl (Nat.le_of_ble_eq_true rfl) (by omega) (fun hr53 => ?_)
  try simp only [z_rd, Nat.reduceEqDiff, ↓reduceIte, eq_self] at hr53 ⊢
  exact z_iret dX1_keepImage_54 (by first | exact ⟨rfl, rfl⟩ | exact ⟨by omega, rfl⟩)
def lbS (σ : Sto) : Sto := z_cp (z_cp (z_cp σ 77 74 0 0 5) 78 75 0 0 5) 79 76 0 0 6
set_option maxRecDepth 20000 in
theorem c_X1_layBack {d : Nat} {σ : Sto} : m_X1_layBack d [zR 7] σ (qI fun z σ' => (σ 7 6 = 0 ∧ z = -5 ∧ σ' = σ) ∨ (σ 7 6 ≠ 0 ∧ z = σ 79 0 ∧ σ' = lbS σ)) := by
  refine z_does (L := [some (zR 7)]) rfl (by decide +kernel) (Nat.le_of_ble_eq_true rfl) rfl ?_
  refine z_aload_n dX1_layBack_0 rfl ?_
  refine z_getI dX1_layBack_1 gX1_36 rfl (Nat.le_of_ble_eq_true rfl) rfl (fun hr1 => ?_)
  refine z_if_ne (tgt := 10) dX1_layBack_4 (by decide) ⟨by omega, by omega⟩ (fun h4 => ?_) (fun h4 => ?_)
  · first
    | exfalso; omega
    | skip
      refine z_aload_n dX1_layBack_10 rfl ?_
      refine z_getR dX1_layBack_11 gX1_21 rfl (Nat.le_of_ble_eq_true rfl) rfl ?_
      refine z_iconst dX1_layBack_14 ?_
      refine z_aload_n dX1_layBack_15 rfl ?_
      refine z_getR dX1_layBack_16 gX1_11 rfl (Nat.le_of_ble_eq_true rfl) rfl ?_
      refine z_iconst dX1_layBack_19 ?_
      refine z_iconst dX1_layBack_20 ?_
      refine z_copyI dX1_layBack_21 aX1_30 rfl (Nat.le_of_ble_eq_true rfl) rfl (Nat.le_of_ble_eq_true rfl) (by omega) (by omega) (by omega) (by omega) (by omega) (Nat.le_of_ble_eq_true rfl) (Nat.le_add_left _ _) ?_
      refine z_aload_n dX1_layBack_24 rfl ?_
      refine z_getR dX1_layBack_25 gX1_24 rfl (Nat.le_of_ble_eq_true rfl) rfl ?_
      refine z_iconst dX1_layBack_28 ?_
      refine z_aload_n dX1_layBack_29 rfl ?_
      refine z_getR dX1_layBack_30 gX1_15 rfl (Nat.le_of_ble_eq_true rfl) rfl ?_
      refine z_iconst dX1_layBack_33 ?_
      refine z_iconst dX1_layBack_34 ?_
      refine z_copyI dX1_layBack_35 aX1_30 rfl (Nat.le_of_ble_eq_true rfl) rfl (Nat.le_of_ble_eq_true rfl) (by omega) (by omega) (by omega) (by omega) (by omega) (Nat.le_of_ble_eq_true rfl) (Nat.le_add_left _ _) ?_
      refine z_aload_n dX1_layBack_38 rfl ?_
      refine z_getR dX1_layBack_39 gX1_27 rfl (Nat.le_of_ble_eq_true rfl) rfl ?_
      refine z_iconst dX1_layBack_42 ?_
      refine z_aload_n dX1_layBack_43 rfl ?_
      refine z_getR dX1_layBack_44 gX1_18 rfl (Nat.le_of_ble_eq_true rfl) rfl ?_
      refine z_iconst dX1_layBack_47 ?_
      refine z_bipush (v := 6) dX1_layBack_48 (by decide +kernel) ?_
      refine z_copyI dX1_layBack_50 aX1_30 rfl (Nat.le_of_ble_eq_true rfl) rfl (Nat.le_of_ble_eq_true rfl) (by omega) (by omega) (by omega) (by omega) (by omega) (Nat.le_of_ble_eq_true rfl) (Nat.le_add_left _ _) ?_
      refine z_aload_n dX1_layBack_53 rfl ?_
      refine z_getR dX1_layBack_54 gX1_18 rfl (Nat.le_of_ble_eq_true rfl) rfl ?_
      refine z_iconst dX1_layBack_57 ?_
      refine z_iald dX1_layBack_58 rfl (Nat.le_of_ble_eq_true rfl) (by omega) (fun hr58 => ?_)
      try simp only [z_rd, Nat.reduceEqDiff, ↓reduceIte, eq_self] at hr58 ⊢
      exact z_iret dX1_layBack_59 (by first | exact Or.inl ⟨by omega, rfl, rfl⟩ | exact Or.inr ⟨by omega, rfl, rfl⟩)
  · first
    | exfalso; omega
    | skip
      refine z_bipush (v := -5) dX1_layBack_7 (by decide +kernel) ?_
      exact z_iret dX1_layBack_9 (by first | exact Or.inl ⟨by omega, rfl, rfl⟩ | exact Or.inr ⟨by omega, rfl, rfl⟩)
