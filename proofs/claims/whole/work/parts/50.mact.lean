/-! ===== The reference: bodies acting ===== -/
def rnM (σ : Sto) (b : Int) : Sto := z_put (if σ 9 56 < 24 then z_put σ 116 (σ 9 56).toNat b else σ) 9 56 (σ 9 56 + 1)
theorem rnM_3 (σ : Sto) (b : Int) : rnM σ b 9 56 = σ 9 56 + 1 := rfl
theorem rnM_o (σ : Sto) (b : Int) (k j : Nat) (h : k ≠ 116) (h2 : k ≠ 9 ∨ j ≠ 56) : rnM σ b k j = σ k j := by
  unfold rnM
  split <;> simp only [z_rd] <;> grind
def pushM : Sto → List Int → Sto
  | σ, [] => σ
  | σ, b :: l => pushM (rnM σ b) l
theorem pushM_app : ∀ (l m : List Int) (σ : Sto), pushM σ (l ++ m) = pushM (pushM σ l) m
  | [], _, _ => rfl
  | b :: l, m, σ => pushM_app l m (rnM σ b)
theorem pushM_3 : ∀ (l : List Int) (σ : Sto), pushM σ l 9 56 = σ 9 56 + l.length
  | [], σ => by simp [pushM]
  | b :: l, σ => by rw [pushM, pushM_3 l, rnM_3, List.length_cons]; omega
theorem pushM_o : ∀ (l : List Int) (σ : Sto) (k j : Nat), k ≠ 116 → (k ≠ 9 ∨ j ≠ 56) → pushM σ l k j = σ k j
  | [], _, _, _, _, _ => rfl
  | b :: l, σ, k, j, h, h2 => by rw [pushM, pushM_o l _ k j h h2, rnM_o σ b k j h h2]
set_option maxRecDepth 20000 in
theorem c_X9_ran {d : Nat} {σ : Sto} {b : Int} (hr : 0 ≤ σ 9 56 ∧ σ 9 56 ≤ 2000000000) (hb : inR b) : m_X9_ran d [zR 9, zI b] σ (qV fun σ' => σ' = rnM σ b) := by
  refine z_does (L := [some (zR 9), some (zI b)]) rfl (by decide +kernel) (Nat.le_of_ble_eq_true rfl) rfl ?_
  refine z_aload_n dX9_ran_0 rfl ?_
  refine z_getI dX9_ran_1 gX9_410 rfl (Nat.le_of_ble_eq_true rfl) rfl (fun hr1 => ?_)
  refine z_bipush (v := 24) dX9_ran_4 (by decide +kernel) ?_
  refine z_icmp_ge (tgt := 19) dX9_ran_6 (by decide) ⟨by omega, by omega⟩ ⟨by omega, by omega⟩ (fun h6 => ?_) (fun h6 => ?_)
  · first
    | exfalso; omega
    | skip
      refine z_aload_n dX9_ran_19 rfl ?_
      refine z_dup dX9_ran_20 rfl ?_
      refine z_getI dX9_ran_21 gX9_410 rfl (Nat.le_of_ble_eq_true rfl) rfl (fun hr21 => ?_)
      refine z_iconst dX9_ran_24 ?_
      refine z_iadd dX9_ran_25 ?_
      refine z_putI dX9_ran_26 pX9_410 rfl (Nat.le_of_ble_eq_true rfl) rfl ⟨by omega, by omega⟩ ?_
      exact z_vret dX9_ran_29 (by unfold rnM; first | rw [if_pos (by omega)] | rw [if_neg (by omega)])
  · first
    | exfalso; omega
    | skip
      refine z_aload_n dX9_ran_9 rfl ?_
      refine z_getR dX9_ran_10 gX9_122 rfl (Nat.le_of_ble_eq_true rfl) rfl ?_
      refine z_aload_n dX9_ran_13 rfl ?_
      refine z_getI dX9_ran_14 gX9_410 rfl (Nat.le_of_ble_eq_true rfl) rfl (fun hr14 => ?_)
      refine z_iload_n dX9_ran_17 rfl ?_
      refine z_iast dX9_ran_18 rfl (Nat.le_of_ble_eq_true rfl) (by omega) ⟨by omega, by omega⟩ ?_
      refine z_aload_n dX9_ran_19 rfl ?_
      refine z_dup dX9_ran_20 rfl ?_
      refine z_getI dX9_ran_21 gX9_410 rfl (Nat.le_of_ble_eq_true rfl) rfl (fun hr21 => ?_)
      try simp only [z_rd, Nat.reduceEqDiff, ↓reduceIte, eq_self] at hr21 ⊢
      refine z_iconst dX9_ran_24 ?_
      refine z_iadd dX9_ran_25 ?_
      refine z_putI dX9_ran_26 pX9_410 rfl (Nat.le_of_ble_eq_true rfl) rfl ⟨by omega, by omega⟩ ?_
      exact z_vret dX9_ran_29 (by unfold rnM; first | rw [if_pos (by omega)] | rw [if_neg (by omega)])
def aM (σ : Sto) (n k : Int) (c : Nat) : Prop := (0 ≤ n ∧ n < 50) ∧ σ 115 n.toNat = k ∧ (0 ≤ k ∧ k < 8) ∧ 0 ≤ σ 9 56 ∧ σ 9 56 + c ≤ 2000000000
theorem aM.rn {σ : Sto} {n k b : Int} {c c' : Nat} (h : aM σ n k c) (hc : c' + 1 ≤ c) : aM (rnM σ b) n k c' := by
  obtain ⟨h1, h2, h3, h4, h5⟩ := h
  refine ⟨h1, by rw [rnM_o _ _ _ _ (by decide) (Or.inl (by decide))]; exact h2, h3, ?_, ?_⟩ <;> rw [rnM_3] <;> omega
theorem aM.push {σ : Sto} {n k : Int} {l : List Int} {c c' m : Nat} (h : aM σ n k c) (hl : l.length ≤ m) (hc : c' + m ≤ c) : aM (pushM σ l) n k c' := by
  obtain ⟨h1, h2, h3, h4, h5⟩ := h
  refine ⟨h1, by rw [pushM_o _ _ _ _ (by decide) (Or.inl (by decide))]; exact h2, h3, ?_, ?_⟩ <;> rw [pushM_3] <;> omega
theorem aM.le {σ : Sto} {n k : Int} {c c' : Nat} (h : aM σ n k c) (hc : c' ≤ c) : aM σ n k c' := by
  obtain ⟨h1, h2, h3, h4, h5⟩ := h
  exact ⟨h1, h2, h3, h4, by omega⟩
theorem aM.r {σ : Sto} {n k : Int} {c : Nat} (h : aM σ n k c) : 0 ≤ σ 9 56 ∧ σ 9 56 ≤ 2000000000 := by
  obtain ⟨h1, h2, h3, h4, h5⟩ := h
  exact ⟨h4, by omega⟩
def plP (n x : Int) : Int × List Int := (x + n, [1])
def maP (n x : Int) : Int × List Int := ((plP n x).1 * 2, 70 :: (plP n x).2)
def paF (k n x : Int) : Int × List Int :=
  if k = 1 ∨ k = 4 then ((plP n x).1 + 3, 20 :: (plP n x).2) else if k = 7 then ((maP n x).1 - 1, 81 :: (maP n x).2) else if k = 6 then maP n x else plP n x
def psF (k n x : Int) : Int × List Int := ((paF k n x).1 * 2, 10 :: (paF k n x).2)
def bsF (k n x : Int) : Int × List Int := (-(psF k n x).1, 30 :: (psF k n x).2)
def phF (n x : Int) : Int × List Int := (z_ixorF x n, [11])
def chF (n x : Int) : Int × List Int := ((phF n x).1 * 3, 40 :: (phF n x).2)
def huF (k n x : Int) : Int × List Int :=
  if k = 5 then ((chF n x).1 - (paF k n 2).1, 60 :: ((chF n x).2 ++ (paF k n 2).2)) else if k = 3 then chF n x else phF n x
def stF (k n x : Int) : Int × List Int :=
  if k = 3 ∨ k = 5 then ((bsF k n (x + 1)).1, 41 :: (bsF k n (x + 1)).2) else if k = 7 then ((psF k n x).1 + (huF k n 2).1, 80 :: ((psF k n x).2 ++ (huF k n 2).2)) else if k = 2 then bsF k n x else psF k n x
def ptF (k n x : Int) : Int × List Int := ((stF k n x).1 - (huF k n 1).1, 2 :: ((stF k n x).2 ++ (huF k n 1).2))
def teF (k n x : Int) : Int × List Int :=
  if k = 4 then (z_ixorF (ptF k n x).1 5, 50 :: (ptF k n x).2) else if k = 5 then ((ptF k n x).1 + 1, 61 :: (ptF k n x).2) else ptF k n x
theorem paF_l (k n x : Int) : (paF k n x).2.length ≤ 3 := by
  unfold paF
  split
  · exact Nat.le_of_ble_eq_true rfl
  · split
    · exact Nat.le_of_ble_eq_true rfl
    · split <;> exact Nat.le_of_ble_eq_true rfl
theorem psF_l (k n x : Int) : (psF k n x).2.length ≤ 4 := Nat.succ_le_succ (paF_l k n x)
theorem bsF_l (k n x : Int) : (bsF k n x).2.length ≤ 5 := Nat.succ_le_succ (psF_l k n x)
theorem huF_l (k n x : Int) : (huF k n x).2.length ≤ 6 := by
  unfold huF
  split
  · have := paF_l k n 2
    show (40 :: 11 :: (paF k n 2).2).length + 1 ≤ 6
    simp only [List.length_cons]
    omega
  · split <;> exact Nat.le_of_ble_eq_true rfl
theorem stF_l (k n x : Int) : (stF k n x).2.length ≤ 11 := by
  have h1 := bsF_l k n (x + 1)
  have h2 := psF_l k n x
  have h3 := huF_l k n 2
  have h4 := bsF_l k n x
  unfold stF
  split
  · simp only [List.length_cons]; omega
  · split
    · simp only [List.length_cons, List.length_append]; omega
    · split <;> omega
set_option maxRecDepth 20000 in
theorem c_X9_plainPasses {d : Nat} {σ : Sto} {n k x : Int} (hA : aM σ n k 1) : m_X9_plainPasses d [zR 9, zI n, zI x] σ (qI fun z σ' => z = (plP n x).1 ∧ σ' = pushM σ (plP n x).2) := by
  refine z_does (L := [some (zR 9), some (zI n), some (zI x)]) rfl (by decide +kernel) (Nat.le_of_ble_eq_true rfl) rfl ?_
  refine z_aload_n dX9_plainPasses_0 rfl ?_
  refine z_iconst dX9_plainPasses_1 ?_
  refine z_callVV (d := d + 0) (av := [_]) dX9_plainPasses_2 vX9_413 rfl (Nat.le_of_ble_eq_true rfl) rfl rfl rfl (Nat.le_of_ble_eq_true rfl) (Nat.le_refl _) (c_X9_ran hA.r (by omega)) (fun σ2 h2 => ?_)
  subst h2
  refine z_iload_n dX9_plainPasses_5 rfl ?_
  refine z_iload_n dX9_plainPasses_6 rfl ?_
  refine z_iadd dX9_plainPasses_7 ?_
  exact z_iret dX9_plainPasses_8 ⟨rfl, rfl⟩
set_option maxRecDepth 20000 in
theorem c_X9_maidPasses {d : Nat} {σ : Sto} {n k x : Int} (hA : aM σ n k 2) : m_X9_maidPasses d [zR 9, zI n, zI x] σ (qI fun z σ' => z = (maP n x).1 ∧ σ' = pushM σ (maP n x).2) := by
  refine z_does (L := [some (zR 9), some (zI n), some (zI x)]) rfl (by decide +kernel) (Nat.le_of_ble_eq_true rfl) rfl ?_
  refine z_aload_n dX9_maidPasses_0 rfl ?_
  refine z_bipush (v := 70) dX9_maidPasses_1 (by decide +kernel) ?_
  refine z_callVV (d := d + 1) (av := [_]) dX9_maidPasses_3 vX9_413 rfl (Nat.le_of_ble_eq_true rfl) rfl rfl rfl (Nat.le_of_ble_eq_true rfl) (Nat.le_refl _) (c_X9_ran hA.r (by omega)) (fun σ3 h3 => ?_)
  subst h3
  refine z_aload_n dX9_maidPasses_6 rfl ?_
  refine z_iload_n dX9_maidPasses_7 rfl ?_
  refine z_iload_n dX9_maidPasses_8 rfl ?_
  refine z_callVI (d := d + 1) (av := [_, _]) dX9_maidPasses_9 vX9_416 rfl (Nat.le_of_ble_eq_true rfl) rfl rfl rfl (Nat.le_of_ble_eq_true rfl) (Nat.le_refl _) (c_X9_plainPasses (k := k) (hA.rn (by decide))) (fun z9 σ9 h9 => ?_)
  obtain ⟨rfl, hs9⟩ := h9
  subst σ9
  refine z_iconst dX9_maidPasses_12 ?_
  refine z_imul dX9_maidPasses_13 ?_
  exact z_iret dX9_maidPasses_14 ⟨rfl, rfl⟩
set_option maxRecDepth 20000 in
theorem c_X9_passing {d : Nat} {σ : Sto} {n k x : Int} (hA : aM σ n k 3) : m_X9_passing d [zR 9, zI n, zI x] σ (qI fun z σ' => z = (paF k n x).1 ∧ σ' = pushM σ (paF k n x).2) := by
  have hn := hA.1
  have hk := hA.2.1
  have hk8 := hA.2.2.1
  refine z_does (L := [some (zR 9), some (zI n), some (zI x)]) rfl (by decide +kernel) (Nat.le_of_ble_eq_true rfl) rfl ?_
  refine z_aload_n dX9_passing_0 rfl ?_
  refine z_getR dX9_passing_1 gX9_119 rfl (Nat.le_of_ble_eq_true rfl) rfl ?_
  refine z_iload_n dX9_passing_4 rfl ?_
  refine z_iald dX9_passing_5 rfl (Nat.le_of_ble_eq_true rfl) (by omega) (fun hr5 => ?_)
  refine z_iconst dX9_passing_6 ?_
  refine z_callSI (d := d + 2) (av := [_, _]) dX9_passing_7 sX9_419 rfl rfl (Nat.le_of_ble_eq_true rfl) (Nat.le_refl _) (c_X9_isUnder (k := σ 115 n.toNat) (u := 1) (by omega) (by decide)) (fun z7 σ7 h7 => ?_)
  obtain ⟨hs7, h7⟩ := h7
  subst σ7
  rw [undN_I (by omega) (by decide)] at h7
  refine z_if_eq (tgt := 28) dX9_passing_10 (by decide) ⟨by omega, by omega⟩ (fun h10 => ?_) (fun h10 => ?_)
  · skip
    refine z_aload_n dX9_passing_28 rfl ?_
    refine z_getR dX9_passing_29 gX9_119 rfl (Nat.le_of_ble_eq_true rfl) rfl ?_
    refine z_iload_n dX9_passing_32 rfl ?_
    refine z_iald dX9_passing_33 rfl (Nat.le_of_ble_eq_true rfl) (by omega) (fun hr33 => ?_)
    refine z_bipush (v := 7) dX9_passing_34 (by decide +kernel) ?_
    refine z_icmp_ne (tgt := 54) dX9_passing_36 (by decide) ⟨by omega, by omega⟩ ⟨by omega, by omega⟩ (fun h36 => ?_) (fun h36 => ?_)
    · skip
      refine z_aload_n dX9_passing_54 rfl ?_
      refine z_getR dX9_passing_55 gX9_119 rfl (Nat.le_of_ble_eq_true rfl) rfl ?_
      refine z_iload_n dX9_passing_58 rfl ?_
      refine z_iald dX9_passing_59 rfl (Nat.le_of_ble_eq_true rfl) (by omega) (fun hr59 => ?_)
      refine z_bipush (v := 6) dX9_passing_60 (by decide +kernel) ?_
      refine z_icmp_ne (tgt := 74) dX9_passing_62 (by decide) ⟨by omega, by omega⟩ ⟨by omega, by omega⟩ (fun h62 => ?_) (fun h62 => ?_)
      · skip
        refine z_aload_n dX9_passing_74 rfl ?_
        refine z_iload_n dX9_passing_75 rfl ?_
        refine z_iload_n dX9_passing_76 rfl ?_
        refine z_callVI (d := d + 2) (av := [_, _]) dX9_passing_77 vX9_416 rfl (Nat.le_of_ble_eq_true rfl) rfl rfl rfl (Nat.le_of_ble_eq_true rfl) (Nat.le_refl _) (c_X9_plainPasses (k := k) (hA.le (by decide))) (fun z77 σ77 h77 => ?_)
        obtain ⟨rfl, hs77⟩ := h77
        subst σ77
        exact z_iret dX9_passing_80 (by
          first
          | (rw [show paF k n x = maP n x by unfold paF; rw [if_neg (by omega), if_neg (by omega), if_pos (by omega)]]; exact ⟨rfl, rfl⟩)
          | (rw [show paF k n x = plP n x by unfold paF; rw [if_neg (by omega), if_neg (by omega), if_neg (by omega)]]; exact ⟨rfl, rfl⟩))
      · skip
        refine z_aload_n dX9_passing_65 rfl ?_
        refine z_iload_n dX9_passing_66 rfl ?_
        refine z_iload_n dX9_passing_67 rfl ?_
        refine z_callVI (d := d + 2) (av := [_, _]) dX9_passing_68 vX9_422 rfl (Nat.le_of_ble_eq_true rfl) rfl rfl rfl (Nat.le_of_ble_eq_true rfl) (Nat.le_refl _) (c_X9_maidPasses (k := k) (hA.le (by decide))) (fun z68 σ68 h68 => ?_)
        obtain ⟨rfl, hs68⟩ := h68
        subst σ68
        refine z_goto (tgt := 80) dX9_passing_71 (by decide) ?_
        exact z_iret dX9_passing_80 (by
          first
          | (rw [show paF k n x = maP n x by unfold paF; rw [if_neg (by omega), if_neg (by omega), if_pos (by omega)]]; exact ⟨rfl, rfl⟩)
          | (rw [show paF k n x = plP n x by unfold paF; rw [if_neg (by omega), if_neg (by omega), if_neg (by omega)]]; exact ⟨rfl, rfl⟩))
    · skip
      refine z_aload_n dX9_passing_39 rfl ?_
      refine z_bipush (v := 81) dX9_passing_40 (by decide +kernel) ?_
      refine z_callVV (d := d + 2) (av := [_]) dX9_passing_42 vX9_413 rfl (Nat.le_of_ble_eq_true rfl) rfl rfl rfl (Nat.le_of_ble_eq_true rfl) (Nat.le_refl _) (c_X9_ran hA.r (by omega)) (fun σ42 h42 => ?_)
      subst h42
      refine z_aload_n dX9_passing_45 rfl ?_
      refine z_iload_n dX9_passing_46 rfl ?_
      refine z_iload_n dX9_passing_47 rfl ?_
      refine z_callVI (d := d + 2) (av := [_, _]) dX9_passing_48 vX9_422 rfl (Nat.le_of_ble_eq_true rfl) rfl rfl rfl (Nat.le_of_ble_eq_true rfl) (Nat.le_refl _) (c_X9_maidPasses (k := k) (hA.rn (by decide))) (fun z48 σ48 h48 => ?_)
      obtain ⟨rfl, hs48⟩ := h48
      subst σ48
      refine z_iconst dX9_passing_51 ?_
      refine z_isub dX9_passing_52 ?_
      exact z_iret dX9_passing_53 (by rw [show paF k n x = ((maP n x).1 - 1, 81 :: (maP n x).2) by unfold paF; rw [if_neg (by omega), if_pos (by omega)]]; exact ⟨rfl, rfl⟩)
  · skip
    refine z_aload_n dX9_passing_13 rfl ?_
    refine z_bipush (v := 20) dX9_passing_14 (by decide +kernel) ?_
    refine z_callVV (d := d + 2) (av := [_]) dX9_passing_16 vX9_413 rfl (Nat.le_of_ble_eq_true rfl) rfl rfl rfl (Nat.le_of_ble_eq_true rfl) (Nat.le_refl _) (c_X9_ran hA.r (by omega)) (fun σ16 h16 => ?_)
    subst h16
    refine z_aload_n dX9_passing_19 rfl ?_
    refine z_iload_n dX9_passing_20 rfl ?_
    refine z_iload_n dX9_passing_21 rfl ?_
    refine z_callVI (d := d + 2) (av := [_, _]) dX9_passing_22 vX9_416 rfl (Nat.le_of_ble_eq_true rfl) rfl rfl rfl (Nat.le_of_ble_eq_true rfl) (Nat.le_refl _) (c_X9_plainPasses (k := k) (hA.rn (by decide))) (fun z22 σ22 h22 => ?_)
    obtain ⟨rfl, hs22⟩ := h22
    subst σ22
    refine z_iconst dX9_passing_25 ?_
    refine z_iadd dX9_passing_26 ?_
    exact z_iret dX9_passing_27 (by rw [show paF k n x = ((plP n x).1 + 3, 20 :: (plP n x).2) by unfold paF; rw [if_pos (by omega)]]; exact ⟨rfl, rfl⟩)
set_option maxRecDepth 20000 in
theorem c_X9_plainStays {d : Nat} {σ : Sto} {n k x : Int} (hA : aM σ n k 4) : m_X9_plainStays d [zR 9, zI n, zI x] σ (qI fun z σ' => z = (psF k n x).1 ∧ σ' = pushM σ (psF k n x).2) := by
  refine z_does (L := [some (zR 9), some (zI n), some (zI x)]) rfl (by decide +kernel) (Nat.le_of_ble_eq_true rfl) rfl ?_
  refine z_aload_n dX9_plainStays_0 rfl ?_
  refine z_bipush (v := 10) dX9_plainStays_1 (by decide +kernel) ?_
  refine z_callVV (d := d + 3) (av := [_]) dX9_plainStays_3 vX9_413 rfl (Nat.le_of_ble_eq_true rfl) rfl rfl rfl (Nat.le_of_ble_eq_true rfl) (Nat.le_refl _) (c_X9_ran hA.r (by omega)) (fun σ3 h3 => ?_)
  subst h3
  refine z_aload_n dX9_plainStays_6 rfl ?_
  refine z_iload_n dX9_plainStays_7 rfl ?_
  refine z_iload_n dX9_plainStays_8 rfl ?_
  refine z_callVI (d := d + 3) (av := [_, _]) dX9_plainStays_9 vX9_425 rfl (Nat.le_of_ble_eq_true rfl) rfl rfl rfl (Nat.le_of_ble_eq_true rfl) (Nat.le_refl _) (c_X9_passing (k := k) (hA.rn (by decide))) (fun z9 σ9 h9 => ?_)
  obtain ⟨rfl, hs9⟩ := h9
  subst σ9
  refine z_iconst dX9_plainStays_12 ?_
  refine z_imul dX9_plainStays_13 ?_
  exact z_iret dX9_plainStays_14 ⟨rfl, rfl⟩
set_option maxRecDepth 20000 in
theorem c_X9_barbStays {d : Nat} {σ : Sto} {n k x : Int} (hA : aM σ n k 5) : m_X9_barbStays d [zR 9, zI n, zI x] σ (qI fun z σ' => z = (bsF k n x).1 ∧ σ' = pushM σ (bsF k n x).2) := by
  refine z_does (L := [some (zR 9), some (zI n), some (zI x)]) rfl (by decide +kernel) (Nat.le_of_ble_eq_true rfl) rfl ?_
  refine z_aload_n dX9_barbStays_0 rfl ?_
  refine z_bipush (v := 30) dX9_barbStays_1 (by decide +kernel) ?_
  refine z_callVV (d := d + 4) (av := [_]) dX9_barbStays_3 vX9_413 rfl (Nat.le_of_ble_eq_true rfl) rfl rfl rfl (Nat.le_of_ble_eq_true rfl) (Nat.le_refl _) (c_X9_ran hA.r (by omega)) (fun σ3 h3 => ?_)
  subst h3
  refine z_aload_n dX9_barbStays_6 rfl ?_
  refine z_iload_n dX9_barbStays_7 rfl ?_
  refine z_iload_n dX9_barbStays_8 rfl ?_
  refine z_callVI (d := d + 4) (av := [_, _]) dX9_barbStays_9 vX9_428 rfl (Nat.le_of_ble_eq_true rfl) rfl rfl rfl (Nat.le_of_ble_eq_true rfl) (Nat.le_refl _) (c_X9_plainStays (k := k) (hA.rn (by decide))) (fun z9 σ9 h9 => ?_)
  obtain ⟨rfl, hs9⟩ := h9
  subst σ9
  refine z_ineg dX9_barbStays_12 ?_
  exact z_iret dX9_barbStays_13 ⟨rfl, rfl⟩
set_option maxRecDepth 20000 in
theorem c_X9_plainHurts {d : Nat} {σ : Sto} {n k x : Int} (hA : aM σ n k 1) : m_X9_plainHurts d [zR 9, zI n, zI x] σ (qI fun z σ' => z = (phF n x).1 ∧ σ' = pushM σ (phF n x).2) := by
  refine z_does (L := [some (zR 9), some (zI n), some (zI x)]) rfl (by decide +kernel) (Nat.le_of_ble_eq_true rfl) rfl ?_
  refine z_aload_n dX9_plainHurts_0 rfl ?_
  refine z_bipush (v := 11) dX9_plainHurts_1 (by decide +kernel) ?_
  refine z_callVV (d := d + 0) (av := [_]) dX9_plainHurts_3 vX9_413 rfl (Nat.le_of_ble_eq_true rfl) rfl rfl rfl (Nat.le_of_ble_eq_true rfl) (Nat.le_refl _) (c_X9_ran hA.r (by omega)) (fun σ3 h3 => ?_)
  subst h3
  refine z_iload_n dX9_plainHurts_6 rfl ?_
  refine z_iload_n dX9_plainHurts_7 rfl ?_
  refine z_ixor dX9_plainHurts_8 ?_
  exact z_iret dX9_plainHurts_9 ⟨rfl, rfl⟩
set_option maxRecDepth 20000 in
theorem c_X9_complimentHurts {d : Nat} {σ : Sto} {n k x : Int} (hA : aM σ n k 2) : m_X9_complimentHurts d [zR 9, zI n, zI x] σ (qI fun z σ' => z = (chF n x).1 ∧ σ' = pushM σ (chF n x).2) := by
  refine z_does (L := [some (zR 9), some (zI n), some (zI x)]) rfl (by decide +kernel) (Nat.le_of_ble_eq_true rfl) rfl ?_
  refine z_aload_n dX9_complimentHurts_0 rfl ?_
  refine z_bipush (v := 40) dX9_complimentHurts_1 (by decide +kernel) ?_
  refine z_callVV (d := d + 1) (av := [_]) dX9_complimentHurts_3 vX9_413 rfl (Nat.le_of_ble_eq_true rfl) rfl rfl rfl (Nat.le_of_ble_eq_true rfl) (Nat.le_refl _) (c_X9_ran hA.r (by omega)) (fun σ3 h3 => ?_)
  subst h3
  refine z_aload_n dX9_complimentHurts_6 rfl ?_
  refine z_iload_n dX9_complimentHurts_7 rfl ?_
  refine z_iload_n dX9_complimentHurts_8 rfl ?_
  refine z_callVI (d := d + 1) (av := [_, _]) dX9_complimentHurts_9 vX9_437 rfl (Nat.le_of_ble_eq_true rfl) rfl rfl rfl (Nat.le_of_ble_eq_true rfl) (Nat.le_refl _) (c_X9_plainHurts (k := k) (hA.rn (by decide))) (fun z9 σ9 h9 => ?_)
  obtain ⟨rfl, hs9⟩ := h9
  subst σ9
  refine z_iconst dX9_complimentHurts_12 ?_
  refine z_imul dX9_complimentHurts_13 ?_
  exact z_iret dX9_complimentHurts_14 ⟨rfl, rfl⟩
set_option maxRecDepth 20000 in
theorem c_X9_hurting {d : Nat} {σ : Sto} {n k x : Int} (hA : aM σ n k 6) : m_X9_hurting d [zR 9, zI n, zI x] σ (qI fun z σ' => z = (huF k n x).1 ∧ σ' = pushM σ (huF k n x).2) := by
  have hn := hA.1
  have hk := hA.2.1
  have hk8 := hA.2.2.1
  refine z_does (L := [some (zR 9), some (zI n), some (zI x), none]) rfl (by decide +kernel) (Nat.le_of_ble_eq_true rfl) rfl ?_
  refine z_aload_n dX9_hurting_0 rfl ?_
  refine z_getR dX9_hurting_1 gX9_119 rfl (Nat.le_of_ble_eq_true rfl) rfl ?_
  refine z_iload_n dX9_hurting_4 rfl ?_
  refine z_iald dX9_hurting_5 rfl (Nat.le_of_ble_eq_true rfl) (by omega) (fun hr5 => ?_)
  refine z_iconst dX9_hurting_6 ?_
  refine z_icmp_ne (tgt := 32) dX9_hurting_7 (by decide) ⟨by omega, by omega⟩ ⟨by omega, by omega⟩ (fun h7 => ?_) (fun h7 => ?_)
  · skip
    refine z_aload_n dX9_hurting_32 rfl ?_
    refine z_getR dX9_hurting_33 gX9_119 rfl (Nat.le_of_ble_eq_true rfl) rfl ?_
    refine z_iload_n dX9_hurting_36 rfl ?_
    refine z_iald dX9_hurting_37 rfl (Nat.le_of_ble_eq_true rfl) (by omega) (fun hr37 => ?_)
    refine z_iconst dX9_hurting_38 ?_
    refine z_icmp_ne (tgt := 51) dX9_hurting_39 (by decide) ⟨by omega, by omega⟩ ⟨by omega, by omega⟩ (fun h39 => ?_) (fun h39 => ?_)
    · skip
      refine z_aload_n dX9_hurting_51 rfl ?_
      refine z_iload_n dX9_hurting_52 rfl ?_
      refine z_iload_n dX9_hurting_53 rfl ?_
      refine z_callVI (d := d + 3) (av := [_, _]) dX9_hurting_54 vX9_437 rfl (Nat.le_of_ble_eq_true rfl) rfl rfl rfl (Nat.le_of_ble_eq_true rfl) (Nat.le_refl _) (c_X9_plainHurts (k := k) (hA.le (by decide))) (fun z54 σ54 h54 => ?_)
      obtain ⟨rfl, hs54⟩ := h54
      subst σ54
      exact z_iret dX9_hurting_57 (by
        first
        | (rw [show huF k n x = chF n x by unfold huF; rw [if_neg (by omega), if_pos (by omega)]]; exact ⟨rfl, rfl⟩)
        | (rw [show huF k n x = phF n x by unfold huF; rw [if_neg (by omega), if_neg (by omega)]]; exact ⟨rfl, rfl⟩))
    · skip
      refine z_aload_n dX9_hurting_42 rfl ?_
      refine z_iload_n dX9_hurting_43 rfl ?_
      refine z_iload_n dX9_hurting_44 rfl ?_
      refine z_callVI (d := d + 3) (av := [_, _]) dX9_hurting_45 vX9_440 rfl (Nat.le_of_ble_eq_true rfl) rfl rfl rfl (Nat.le_of_ble_eq_true rfl) (Nat.le_refl _) (c_X9_complimentHurts (k := k) (hA.le (by decide))) (fun z45 σ45 h45 => ?_)
      obtain ⟨rfl, hs45⟩ := h45
      subst σ45
      refine z_goto (tgt := 57) dX9_hurting_48 (by decide) ?_
      exact z_iret dX9_hurting_57 (by
        first
        | (rw [show huF k n x = chF n x by unfold huF; rw [if_neg (by omega), if_pos (by omega)]]; exact ⟨rfl, rfl⟩)
        | (rw [show huF k n x = phF n x by unfold huF; rw [if_neg (by omega), if_neg (by omega)]]; exact ⟨rfl, rfl⟩))
  · skip
    refine z_aload_n dX9_hurting_10 rfl ?_
    refine z_bipush (v := 60) dX9_hurting_11 (by decide +kernel) ?_
    refine z_callVV (d := d + 3) (av := [_]) dX9_hurting_13 vX9_413 rfl (Nat.le_of_ble_eq_true rfl) rfl rfl rfl (Nat.le_of_ble_eq_true rfl) (Nat.le_refl _) (c_X9_ran hA.r (by omega)) (fun σ13 h13 => ?_)
    subst h13
    refine z_aload_n dX9_hurting_16 rfl ?_
    refine z_iload_n dX9_hurting_17 rfl ?_
    refine z_iload_n dX9_hurting_18 rfl ?_
    refine z_callVI (d := d + 3) (av := [_, _]) dX9_hurting_19 vX9_440 rfl (Nat.le_of_ble_eq_true rfl) rfl rfl rfl (Nat.le_of_ble_eq_true rfl) (Nat.le_refl _) (c_X9_complimentHurts (k := k) (hA.rn (by decide))) (fun z19 σ19 h19 => ?_)
    obtain ⟨rfl, hs19⟩ := h19
    subst σ19
    refine z_istore_n (L' := [_, _, _, _]) dX9_hurting_22 (Nat.le_of_ble_eq_true rfl) rfl rfl ?_
    refine z_iload_n dX9_hurting_23 rfl ?_
    refine z_aload_n dX9_hurting_24 rfl ?_
    refine z_iload_n dX9_hurting_25 rfl ?_
    refine z_iconst dX9_hurting_26 ?_
    refine z_callVI (d := d + 3) (av := [_, _]) dX9_hurting_27 vX9_425 rfl (Nat.le_of_ble_eq_true rfl) rfl rfl rfl (Nat.le_of_ble_eq_true rfl) (Nat.le_refl _) (c_X9_passing (k := k) (aM.push (m := 2) (c := 5) (hA.rn (by decide)) (Nat.le_of_ble_eq_true rfl) (by decide))) (fun z27 σ27 h27 => ?_)
    obtain ⟨rfl, hs27⟩ := h27
    subst σ27
    refine z_isub dX9_hurting_30 ?_
    exact z_iret dX9_hurting_31 (by rw [show huF k n x = ((chF n x).1 - (paF k n 2).1, 60 :: ((chF n x).2 ++ (paF k n 2).2)) by unfold huF; rw [if_pos (by omega)]]; exact ⟨rfl, by rw [pushM, pushM_app]⟩)
set_option maxRecDepth 20000 in
theorem c_X9_staying {d : Nat} {σ : Sto} {n k x : Int} (hA : aM σ n k 11) : m_X9_staying d [zR 9, zI n, zI x] σ (qI fun z σ' => z = (stF k n x).1 ∧ σ' = pushM σ (stF k n x).2) := by
  have hn := hA.1
  have hk := hA.2.1
  have hk8 := hA.2.2.1
  refine z_does (L := [some (zR 9), some (zI n), some (zI x), none]) rfl (by decide +kernel) (Nat.le_of_ble_eq_true rfl) rfl ?_
  refine z_aload_n dX9_staying_0 rfl ?_
  refine z_getR dX9_staying_1 gX9_119 rfl (Nat.le_of_ble_eq_true rfl) rfl ?_
  refine z_iload_n dX9_staying_4 rfl ?_
  refine z_iald dX9_staying_5 rfl (Nat.le_of_ble_eq_true rfl) (by omega) (fun hr5 => ?_)
  refine z_iconst dX9_staying_6 ?_
  refine z_callSI (d := d + 5) (av := [_, _]) dX9_staying_7 sX9_419 rfl rfl (Nat.le_of_ble_eq_true rfl) (Nat.le_refl _) (c_X9_isUnder (k := σ 115 n.toNat) (u := 3) (by omega) (by decide)) (fun z7 σ7 h7 => ?_)
  obtain ⟨hs7, h7⟩ := h7
  subst σ7
  rw [undN_I (by omega) (by decide)] at h7
  refine z_if_eq (tgt := 28) dX9_staying_10 (by decide) ⟨by omega, by omega⟩ (fun h10 => ?_) (fun h10 => ?_)
  · skip
    refine z_aload_n dX9_staying_28 rfl ?_
    refine z_getR dX9_staying_29 gX9_119 rfl (Nat.le_of_ble_eq_true rfl) rfl ?_
    refine z_iload_n dX9_staying_32 rfl ?_
    refine z_iald dX9_staying_33 rfl (Nat.le_of_ble_eq_true rfl) (by omega) (fun hr33 => ?_)
    refine z_bipush (v := 7) dX9_staying_34 (by decide +kernel) ?_
    refine z_icmp_ne (tgt := 61) dX9_staying_36 (by decide) ⟨by omega, by omega⟩ ⟨by omega, by omega⟩ (fun h36 => ?_) (fun h36 => ?_)
    · skip
      refine z_aload_n dX9_staying_61 rfl ?_
      refine z_getR dX9_staying_62 gX9_119 rfl (Nat.le_of_ble_eq_true rfl) rfl ?_
      refine z_iload_n dX9_staying_65 rfl ?_
      refine z_iald dX9_staying_66 rfl (Nat.le_of_ble_eq_true rfl) (by omega) (fun hr66 => ?_)
      refine z_iconst dX9_staying_67 ?_
      refine z_icmp_ne (tgt := 80) dX9_staying_68 (by decide) ⟨by omega, by omega⟩ ⟨by omega, by omega⟩ (fun h68 => ?_) (fun h68 => ?_)
      · skip
        refine z_aload_n dX9_staying_80 rfl ?_
        refine z_iload_n dX9_staying_81 rfl ?_
        refine z_iload_n dX9_staying_82 rfl ?_
        refine z_callVI (d := d + 5) (av := [_, _]) dX9_staying_83 vX9_428 rfl (Nat.le_of_ble_eq_true rfl) rfl rfl rfl (Nat.le_of_ble_eq_true rfl) (Nat.le_refl _) (c_X9_plainStays (k := k) (hA.le (by decide))) (fun z83 σ83 h83 => ?_)
        obtain ⟨rfl, hs83⟩ := h83
        subst σ83
        exact z_iret dX9_staying_86 (by
          first
          | (rw [show stF k n x = bsF k n x by unfold stF; rw [if_neg (by omega), if_neg (by omega), if_pos (by omega)]]; exact ⟨rfl, rfl⟩)
          | (rw [show stF k n x = psF k n x by unfold stF; rw [if_neg (by omega), if_neg (by omega), if_neg (by omega)]]; exact ⟨rfl, rfl⟩))
      · skip
        refine z_aload_n dX9_staying_71 rfl ?_
        refine z_iload_n dX9_staying_72 rfl ?_
        refine z_iload_n dX9_staying_73 rfl ?_
        refine z_callVI (d := d + 5) (av := [_, _]) dX9_staying_74 vX9_431 rfl (Nat.le_of_ble_eq_true rfl) rfl rfl rfl (Nat.le_of_ble_eq_true rfl) (Nat.le_refl _) (c_X9_barbStays (k := k) (hA.le (by decide))) (fun z74 σ74 h74 => ?_)
        obtain ⟨rfl, hs74⟩ := h74
        subst σ74
        refine z_goto (tgt := 86) dX9_staying_77 (by decide) ?_
        exact z_iret dX9_staying_86 (by
          first
          | (rw [show stF k n x = bsF k n x by unfold stF; rw [if_neg (by omega), if_neg (by omega), if_pos (by omega)]]; exact ⟨rfl, rfl⟩)
          | (rw [show stF k n x = psF k n x by unfold stF; rw [if_neg (by omega), if_neg (by omega), if_neg (by omega)]]; exact ⟨rfl, rfl⟩))
    · skip
      refine z_aload_n dX9_staying_39 rfl ?_
      refine z_bipush (v := 80) dX9_staying_40 (by decide +kernel) ?_
      refine z_callVV (d := d + 5) (av := [_]) dX9_staying_42 vX9_413 rfl (Nat.le_of_ble_eq_true rfl) rfl rfl rfl (Nat.le_of_ble_eq_true rfl) (Nat.le_refl _) (c_X9_ran hA.r (by omega)) (fun σ42 h42 => ?_)
      subst h42
      refine z_aload_n dX9_staying_45 rfl ?_
      refine z_iload_n dX9_staying_46 rfl ?_
      refine z_iload_n dX9_staying_47 rfl ?_
      refine z_callVI (d := d + 5) (av := [_, _]) dX9_staying_48 vX9_428 rfl (Nat.le_of_ble_eq_true rfl) rfl rfl rfl (Nat.le_of_ble_eq_true rfl) (Nat.le_refl _) (c_X9_plainStays (k := k) (hA.rn (by decide))) (fun z48 σ48 h48 => ?_)
      obtain ⟨rfl, hs48⟩ := h48
      subst σ48
      refine z_istore_n (L' := [_, _, _, _]) dX9_staying_51 (Nat.le_of_ble_eq_true rfl) rfl rfl ?_
      refine z_iload_n dX9_staying_52 rfl ?_
      refine z_aload_n dX9_staying_53 rfl ?_
      refine z_iload_n dX9_staying_54 rfl ?_
      refine z_iconst dX9_staying_55 ?_
      refine z_callVI (d := d + 5) (av := [_, _]) dX9_staying_56 vX9_434 rfl (Nat.le_of_ble_eq_true rfl) rfl rfl rfl (Nat.le_of_ble_eq_true rfl) (Nat.le_refl _) (c_X9_hurting (k := k) (aM.push (m := 4) (c := 10) (hA.rn (by decide)) (psF_l _ _ _) (by decide))) (fun z56 σ56 h56 => ?_)
      obtain ⟨rfl, hs56⟩ := h56
      subst σ56
      refine z_iadd dX9_staying_59 ?_
      exact z_iret dX9_staying_60 (by rw [show stF k n x = ((psF k n x).1 + (huF k n 2).1, 80 :: ((psF k n x).2 ++ (huF k n 2).2)) by unfold stF; rw [if_neg (by omega), if_pos (by omega)]]; exact ⟨rfl, by rw [pushM, pushM_app]⟩)
  · skip
    refine z_aload_n dX9_staying_13 rfl ?_
    refine z_bipush (v := 41) dX9_staying_14 (by decide +kernel) ?_
    refine z_callVV (d := d + 5) (av := [_]) dX9_staying_16 vX9_413 rfl (Nat.le_of_ble_eq_true rfl) rfl rfl rfl (Nat.le_of_ble_eq_true rfl) (Nat.le_refl _) (c_X9_ran hA.r (by omega)) (fun σ16 h16 => ?_)
    subst h16
    refine z_aload_n dX9_staying_19 rfl ?_
    refine z_iload_n dX9_staying_20 rfl ?_
    refine z_iload_n dX9_staying_21 rfl ?_
    refine z_iconst dX9_staying_22 ?_
    refine z_iadd dX9_staying_23 ?_
    refine z_callVI (d := d + 5) (av := [_, _]) dX9_staying_24 vX9_431 rfl (Nat.le_of_ble_eq_true rfl) rfl rfl rfl (Nat.le_of_ble_eq_true rfl) (Nat.le_refl _) (c_X9_barbStays (k := k) (hA.rn (by decide))) (fun z24 σ24 h24 => ?_)
    obtain ⟨rfl, hs24⟩ := h24
    subst σ24
    exact z_iret dX9_staying_27 (by rw [show stF k n x = ((bsF k n (x + 1)).1, 41 :: (bsF k n (x + 1)).2) by unfold stF; rw [if_pos (by omega)]]; exact ⟨rfl, rfl⟩)
set_option maxRecDepth 20000 in
theorem c_X9_plainTells {d : Nat} {σ : Sto} {n k x : Int} (hA : aM σ n k 18) : m_X9_plainTells d [zR 9, zI n, zI x] σ (qI fun z σ' => z = (ptF k n x).1 ∧ σ' = pushM σ (ptF k n x).2) := by
  refine z_does (L := [some (zR 9), some (zI n), some (zI x), none]) rfl (by decide +kernel) (Nat.le_of_ble_eq_true rfl) rfl ?_
  refine z_aload_n dX9_plainTells_0 rfl ?_
  refine z_iconst dX9_plainTells_1 ?_
  refine z_callVV (d := d + 6) (av := [_]) dX9_plainTells_2 vX9_413 rfl (Nat.le_of_ble_eq_true rfl) rfl rfl rfl (Nat.le_of_ble_eq_true rfl) (Nat.le_refl _) (c_X9_ran hA.r (by omega)) (fun σ2 h2 => ?_)
  subst h2
  refine z_aload_n dX9_plainTells_5 rfl ?_
  refine z_iload_n dX9_plainTells_6 rfl ?_
  refine z_iload_n dX9_plainTells_7 rfl ?_
  refine z_callVI (d := d + 6) (av := [_, _]) dX9_plainTells_8 vX9_443 rfl (Nat.le_of_ble_eq_true rfl) rfl rfl rfl (Nat.le_of_ble_eq_true rfl) (Nat.le_refl _) (c_X9_staying (k := k) (hA.rn (by decide))) (fun z8 σ8 h8 => ?_)
  obtain ⟨rfl, hs8⟩ := h8
  subst σ8
  refine z_istore_n (L' := [_, _, _, _]) dX9_plainTells_11 (Nat.le_of_ble_eq_true rfl) rfl rfl ?_
  refine z_iload_n dX9_plainTells_12 rfl ?_
  refine z_aload_n dX9_plainTells_13 rfl ?_
  refine z_iload_n dX9_plainTells_14 rfl ?_
  refine z_iconst dX9_plainTells_15 ?_
  refine z_callVI (d := d + 6) (av := [_, _]) dX9_plainTells_16 vX9_434 rfl (Nat.le_of_ble_eq_true rfl) rfl rfl rfl (Nat.le_of_ble_eq_true rfl) (Nat.le_refl _) (c_X9_hurting (k := k) (aM.push (m := 11) (c := 17) (hA.rn (by decide)) (stF_l _ _ _) (by decide))) (fun z16 σ16 h16 => ?_)
  obtain ⟨rfl, hs16⟩ := h16
  subst σ16
  refine z_isub dX9_plainTells_19 ?_
  exact z_iret dX9_plainTells_20 ⟨rfl, by unfold ptF; rw [pushM, pushM_app]⟩
theorem ptF_l (k n x : Int) : (ptF k n x).2.length ≤ 18 := by
  have h1 := stF_l k n x
  have h2 := huF_l k n 1
  unfold ptF
  simp only [List.length_cons, List.length_append]
  omega
set_option maxRecDepth 20000 in
theorem c_X9_telling {d : Nat} {σ : Sto} {n k x : Int} (hA : aM σ n k 19) : m_X9_telling d [zR 9, zI n, zI x] σ (qI fun z σ' => z = (teF k n x).1 ∧ σ' = pushM σ (teF k n x).2) := by
  have hn := hA.1
  have hk := hA.2.1
  have hk8 := hA.2.2.1
  refine z_does (L := [some (zR 9), some (zI n), some (zI x)]) rfl (by decide +kernel) (Nat.le_of_ble_eq_true rfl) rfl ?_
  refine z_aload_n dX9_telling_0 rfl ?_
  refine z_getR dX9_telling_1 gX9_119 rfl (Nat.le_of_ble_eq_true rfl) rfl ?_
  refine z_iload_n dX9_telling_4 rfl ?_
  refine z_iald dX9_telling_5 rfl (Nat.le_of_ble_eq_true rfl) (by omega) (fun hr5 => ?_)
  refine z_iconst dX9_telling_6 ?_
  refine z_icmp_ne (tgt := 25) dX9_telling_7 (by decide) ⟨by omega, by omega⟩ ⟨by omega, by omega⟩ (fun h7 => ?_) (fun h7 => ?_)
  · skip
    refine z_aload_n dX9_telling_25 rfl ?_
    refine z_getR dX9_telling_26 gX9_119 rfl (Nat.le_of_ble_eq_true rfl) rfl ?_
    refine z_iload_n dX9_telling_29 rfl ?_
    refine z_iald dX9_telling_30 rfl (Nat.le_of_ble_eq_true rfl) (by omega) (fun hr30 => ?_)
    refine z_iconst dX9_telling_31 ?_
    refine z_icmp_ne (tgt := 50) dX9_telling_32 (by decide) ⟨by omega, by omega⟩ ⟨by omega, by omega⟩ (fun h32 => ?_) (fun h32 => ?_)
    · skip
      refine z_aload_n dX9_telling_50 rfl ?_
      refine z_iload_n dX9_telling_51 rfl ?_
      refine z_iload_n dX9_telling_52 rfl ?_
      refine z_callVI (d := d + 7) (av := [_, _]) dX9_telling_53 vX9_446 rfl (Nat.le_of_ble_eq_true rfl) rfl rfl rfl (Nat.le_of_ble_eq_true rfl) (Nat.le_refl _) (c_X9_plainTells (k := k) (hA.le (by decide))) (fun z53 σ53 h53 => ?_)
      obtain ⟨rfl, hs53⟩ := h53
      subst σ53
      exact z_iret dX9_telling_56 (by rw [show teF k n x = ptF k n x by unfold teF; rw [if_neg (by omega), if_neg (by omega)]]; exact ⟨rfl, rfl⟩)
    · skip
      refine z_aload_n dX9_telling_35 rfl ?_
      refine z_bipush (v := 61) dX9_telling_36 (by decide +kernel) ?_
      refine z_callVV (d := d + 7) (av := [_]) dX9_telling_38 vX9_413 rfl (Nat.le_of_ble_eq_true rfl) rfl rfl rfl (Nat.le_of_ble_eq_true rfl) (Nat.le_refl _) (c_X9_ran hA.r (by omega)) (fun σ38 h38 => ?_)
      subst h38
      refine z_aload_n dX9_telling_41 rfl ?_
      refine z_iload_n dX9_telling_42 rfl ?_
      refine z_iload_n dX9_telling_43 rfl ?_
      refine z_callVI (d := d + 7) (av := [_, _]) dX9_telling_44 vX9_446 rfl (Nat.le_of_ble_eq_true rfl) rfl rfl rfl (Nat.le_of_ble_eq_true rfl) (Nat.le_refl _) (c_X9_plainTells (k := k) (hA.rn (by decide))) (fun z44 σ44 h44 => ?_)
      obtain ⟨rfl, hs44⟩ := h44
      subst σ44
      refine z_iconst dX9_telling_47 ?_
      refine z_iadd dX9_telling_48 ?_
      exact z_iret dX9_telling_49 (by rw [show teF k n x = ((ptF k n x).1 + 1, 61 :: (ptF k n x).2) by unfold teF; rw [if_neg (by omega), if_pos (by omega)]]; exact ⟨rfl, rfl⟩)
  · skip
    refine z_aload_n dX9_telling_10 rfl ?_
    refine z_bipush (v := 50) dX9_telling_11 (by decide +kernel) ?_
    refine z_callVV (d := d + 7) (av := [_]) dX9_telling_13 vX9_413 rfl (Nat.le_of_ble_eq_true rfl) rfl rfl rfl (Nat.le_of_ble_eq_true rfl) (Nat.le_refl _) (c_X9_ran hA.r (by omega)) (fun σ13 h13 => ?_)
    subst h13
    refine z_aload_n dX9_telling_16 rfl ?_
    refine z_iload_n dX9_telling_17 rfl ?_
    refine z_iload_n dX9_telling_18 rfl ?_
    refine z_callVI (d := d + 7) (av := [_, _]) dX9_telling_19 vX9_446 rfl (Nat.le_of_ble_eq_true rfl) rfl rfl rfl (Nat.le_of_ble_eq_true rfl) (Nat.le_refl _) (c_X9_plainTells (k := k) (hA.rn (by decide))) (fun z19 σ19 h19 => ?_)
    obtain ⟨rfl, hs19⟩ := h19
    subst σ19
    refine z_iconst dX9_telling_22 ?_
    refine z_ixor dX9_telling_23 ?_
    exact z_iret dX9_telling_24 (by rw [show teF k n x = (z_ixorF (ptF k n x).1 5, 50 :: (ptF k n x).2) by unfold teF; rw [if_pos (by omega)]]; exact ⟨rfl, rfl⟩)
def acM (k n a x : Int) : Int × List Int := if a = 0 then paF k n x else if a = 1 then stF k n x else if a = 2 then huF k n x else teF k n x
