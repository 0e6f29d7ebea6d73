/-! ===== the constructors' contracts, laid by gen_cons.py ===== -/
theorem bd_norm {M : bd_M} {md : bd_X → Prop} {pc ce sl : Nat} {P : List (Nat × Nat)} {ks : List Nat} {Lv : List (Nat × Value)} {st : List Value} {σ : Sto} (P' : List (Nat × Nat)) (ks' : List Nat) (ce' sl' : Nat) (σ' : Sto) (h0 : P = P') (h1 : ks = ks') (h2 : ce = ce') (h3 : sl = sl') (h4 : σ = σ') (kk : BD M md pc P' ks' Lv st σ' ce' sl') : BD M md pc P ks Lv st σ ce sl := by
  subst h0
  subst h1
  subst h2
  subst h3
  subst h4
  exact kk
theorem bd_lay13 : ∀ i, i < 8 → z_lay (13 + i) = .inr (0, 12, fun _ => 0)
  | 0, _ => rfl
  | 1, _ => rfl
  | 2, _ => rfl
  | 3, _ => rfl
  | 4, _ => rfl
  | 5, _ => rfl
  | 6, _ => rfl
  | 7, _ => rfl
  | n + 8, h => absurd h (by omega)
theorem bd_lay34 : ∀ i, i < 6 → z_lay (34 + i) = .inr (4, 60, fun _ => 0)
  | 0, _ => rfl
  | 1, _ => rfl
  | 2, _ => rfl
  | 3, _ => rfl
  | 4, _ => rfl
  | 5, _ => rfl
  | n + 6, h => absurd h (by omega)
theorem bd_lay47 : ∀ i, i < 11 → z_lay (47 + i) = .inr (0, 11, fun _ => 0)
  | 0, _ => rfl
  | 1, _ => rfl
  | 2, _ => rfl
  | 3, _ => rfl
  | 4, _ => rfl
  | 5, _ => rfl
  | 6, _ => rfl
  | 7, _ => rfl
  | 8, _ => rfl
  | 9, _ => rfl
  | 10, _ => rfl
  | n + 11, h => absurd h (by omega)
theorem bd_lay59 : ∀ i, i < 13 → z_lay (59 + i) = .inr (4, 13, fun _ => 0)
  | 0, _ => rfl
  | 1, _ => rfl
  | 2, _ => rfl
  | 3, _ => rfl
  | 4, _ => rfl
  | 5, _ => rfl
  | 6, _ => rfl
  | 7, _ => rfl
  | 8, _ => rfl
  | 9, _ => rfl
  | 10, _ => rfl
  | 11, _ => rfl
  | 12, _ => rfl
  | n + 13, h => absurd h (by omega)
def FX7_init (σ : Sto) : Sto := z_put σ 20 0 (12)
theorem FX7_init_ne {σ : Sto} {k : Nat} (h : k ≠ 20) : FX7_init σ k = σ k := by
  unfold FX7_init
  rw [z_put_ne h]
set_option maxRecDepth 100000 in
set_option maxHeartbeats 4000000 in
theorem c_X7_init : Cons yX7_init cX7_init 1 1 12 9 104 1 [1] [zR 1] [1, 12, 13, 14, 15, 16, 17, 18, 19, 20] FX7_init := by
  refine bd_cons (own := RX7) (Lv := [(0, zR 1)]) rfl (by decide +kernel) rfl (Nat.le_of_ble_eq_true rfl) rfl (fun σ hz0 => ?_)
  refine bd_aload (i0 := 0) dX7_init_0 rfl rfl ?_
  refine bd_obj dX7_init_1 (z_in (List.mem_append_right _ (List.mem_of_getElem? (i := 27) (by decide +kernel))) rfl) (z_in (List.mem_append_right _ (List.mem_of_getElem? (i := 20) (by decide +kernel))) rfl) (z_in (List.mem_append_right _ (List.mem_of_getElem? (i := 21) (by decide +kernel))) rfl) (by decide) (by decide) ?_
  refine bd_aload (i0 := 0) dX7_init_4 rfl rfl ?_
  refine bd_bipush (v := 8) dX7_init_5 (by decide +kernel) ?_
  refine bd_bipush (v := 12) dX7_init_7 (by decide +kernel) ?_
  refine bd_mna (kA := 12) (b := 13) (ty := .int) dX7_init_9 (z_in (List.mem_append_right _ (List.mem_of_getElem? (i := 28) (by decide +kernel))) rfl) (z_in (List.mem_append_right _ (List.mem_of_getElem? (i := 49) (by decide +kernel))) rfl) (by decide) bd_ty0 (fun _ => rfl) (by decide) rfl (fun _ _ => rfl) rfl rfl rfl bd_lay13 (by decide) (Nat.le_of_ble_eq_true rfl) (Nat.le_of_ble_eq_true rfl) rfl rfl (fun i hi => hz0 (13 + i) ((by decide +kernel : ∀ i, i < 8 → 13 + i ∈ ([1, 12, 13, 14, 15, 16, 17, 18, 19, 20] : List Nat)) i hi) (by omega)) (by decide +kernel) (Nat.le_of_ble_eq_true rfl) (Nat.le_of_ble_eq_true rfl) ?_
  refine bd_norm [(1, 0)] [1, 12, 13, 14, 15, 16, 17, 18, 19, 20] 9 104 σ rfl rfl rfl rfl rfl ?_
  refine bd_put (i := 0) (P' := [(1, 1)]) (ty := tyX7 0) dX7_init_13 rfl (by decide +kernel) rfl rfl uX7 tyX7_ok nmX7 (by decide) (z_in (List.mem_append_right _ (List.mem_of_getElem? (i := 30) (by decide +kernel))) rfl) rfl bd_init rfl (tyX7_ok 0 (by decide)) (fun _ => rfl) (fun _ => rfl) rfl (Nat.le_of_ble_eq_true rfl) (by decide +kernel) rfl (by decide +kernel) ?_
  refine bd_aload (i0 := 0) dX7_init_16 rfl rfl ?_
  refine bd_getR (i := 0) (j := 0) (b := 12) dX7_init_17 rfl rfl rfl uX7 (by decide) (z_in (List.mem_append_right _ (List.mem_of_getElem? (i := 30) (by decide +kernel))) rfl) rfl (Nat.le_of_ble_eq_true rfl) ?_
  refine bd_bipush (v := 7) dX7_init_20 (by decide +kernel) ?_
  refine bd_aald (i0 := 1) dX7_init_22 rfl (by decide) (Nat.le_of_ble_eq_true rfl) rfl (by decide) ?_
  refine bd_iconst dX7_init_23 ?_
  refine bd_bipush (v := 12) dX7_init_24 (by decide +kernel) ?_
  refine bd_iast (i0 := 9) dX7_init_26 rfl (Nat.le_of_ble_eq_true rfl) (by decide +kernel) rfl (by decide) ?_
  refine bd_norm [(1, 1)] [1, 12, 13, 14, 15, 16, 17, 18, 19, 20] 9 104 (z_put σ 20 0 (12)) rfl rfl rfl rfl rfl ?_
  exact bd_ret dX7_init_27 rfl rfl rfl rfl (by decide +kernel)
set_option maxRecDepth 100000 in
set_option maxHeartbeats 4000000 in
theorem c_X0_init : Cons yX0_init cX0_init 1 1 12 4 160 2 [2] [zR 2] [2, 21, 22, 23, 24] (fun σ => σ) := by
  refine bd_cons (own := RX0) (Lv := [(0, zR 2)]) rfl (by decide +kernel) rfl (Nat.le_of_ble_eq_true rfl) rfl (fun σ hz0 => ?_)
  refine bd_aload (i0 := 0) dX0_init_0 rfl rfl ?_
  refine bd_obj dX0_init_1 (z_in (List.mem_append_right _ (List.mem_of_getElem? (i := 55) (by decide +kernel))) rfl) (z_in (List.mem_append_right _ (List.mem_of_getElem? (i := 20) (by decide +kernel))) rfl) (z_in (List.mem_append_right _ (List.mem_of_getElem? (i := 21) (by decide +kernel))) rfl) (by decide) (by decide) ?_
  refine bd_aload (i0 := 0) dX0_init_4 rfl rfl ?_
  refine bd_bipush (v := 40) dX0_init_5 (by decide +kernel) ?_
  refine bd_newa (k := 21) (n := 40) dX0_init_7 (z_in (List.mem_append_right _ (List.mem_of_getElem? (i := 49) (by decide +kernel))) rfl) rfl bd_ty0 rfl (Nat.le_of_ble_eq_true rfl) rfl (fun j => hz0 21 (by decide +kernel) (by decide) j) (by decide +kernel) (Nat.le_of_ble_eq_true rfl) (Nat.le_of_ble_eq_true rfl) ?_
  refine bd_norm [(2, 0)] [2, 21] 1 40 σ rfl rfl rfl rfl rfl ?_
  refine bd_put (i := 0) (P' := [(2, 1)]) (ty := tyX0 0) dX0_init_9 rfl (by decide +kernel) rfl rfl uX0 tyX0_ok nmX0 (by decide) (z_in (List.mem_append_right _ (List.mem_of_getElem? (i := 56) (by decide +kernel))) rfl) rfl bd_init rfl (tyX0_ok 0 (by decide)) (fun _ => rfl) (fun _ => rfl) rfl (Nat.le_of_ble_eq_true rfl) (by decide +kernel) rfl (by decide +kernel) ?_
  refine bd_aload (i0 := 0) dX0_init_12 rfl rfl ?_
  refine bd_bipush (v := 40) dX0_init_13 (by decide +kernel) ?_
  refine bd_newa (k := 22) (n := 40) dX0_init_15 (z_in (List.mem_append_right _ (List.mem_of_getElem? (i := 49) (by decide +kernel))) rfl) rfl bd_ty0 rfl (Nat.le_of_ble_eq_true rfl) rfl (fun j => hz0 22 (by decide +kernel) (by decide) j) (by decide +kernel) (Nat.le_of_ble_eq_true rfl) (Nat.le_of_ble_eq_true rfl) ?_
  refine bd_norm [(2, 1)] [2, 21, 22] 2 80 σ rfl rfl rfl rfl rfl ?_
  refine bd_put (i := 0) (P' := [(2, 2)]) (ty := tyX0 1) dX0_init_17 rfl (by decide +kernel) rfl rfl uX0 tyX0_ok nmX0 (by decide) (z_in (List.mem_append_right _ (List.mem_of_getElem? (i := 57) (by decide +kernel))) rfl) rfl bd_init rfl (tyX0_ok 1 (by decide)) (fun _ => rfl) (fun _ => rfl) rfl (Nat.le_of_ble_eq_true rfl) (by decide +kernel) rfl (by decide +kernel) ?_
  refine bd_aload (i0 := 0) dX0_init_20 rfl rfl ?_
  refine bd_bipush (v := 40) dX0_init_21 (by decide +kernel) ?_
  refine bd_newa (k := 23) (n := 40) dX0_init_23 (z_in (List.mem_append_right _ (List.mem_of_getElem? (i := 49) (by decide +kernel))) rfl) rfl bd_ty0 rfl (Nat.le_of_ble_eq_true rfl) rfl (fun j => hz0 23 (by decide +kernel) (by decide) j) (by decide +kernel) (Nat.le_of_ble_eq_true rfl) (Nat.le_of_ble_eq_true rfl) ?_
  refine bd_norm [(2, 2)] [2, 21, 22, 23] 3 120 σ rfl rfl rfl rfl rfl ?_
  refine bd_put (i := 0) (P' := [(2, 3)]) (ty := tyX0 2) dX0_init_25 rfl (by decide +kernel) rfl rfl uX0 tyX0_ok nmX0 (by decide) (z_in (List.mem_append_right _ (List.mem_of_getElem? (i := 58) (by decide +kernel))) rfl) rfl bd_init rfl (tyX0_ok 2 (by decide)) (fun _ => rfl) (fun _ => rfl) rfl (Nat.le_of_ble_eq_true rfl) (by decide +kernel) rfl (by decide +kernel) ?_
  refine bd_aload (i0 := 0) dX0_init_28 rfl rfl ?_
  refine bd_bipush (v := 40) dX0_init_29 (by decide +kernel) ?_
  refine bd_newa (k := 24) (n := 40) dX0_init_31 (z_in (List.mem_append_right _ (List.mem_of_getElem? (i := 49) (by decide +kernel))) rfl) rfl bd_ty0 rfl (Nat.le_of_ble_eq_true rfl) rfl (fun j => hz0 24 (by decide +kernel) (by decide) j) (by decide +kernel) (Nat.le_of_ble_eq_true rfl) (Nat.le_of_ble_eq_true rfl) ?_
  refine bd_norm [(2, 3)] [2, 21, 22, 23, 24] 4 160 σ rfl rfl rfl rfl rfl ?_
  refine bd_put (i := 0) (P' := [(2, 4)]) (ty := tyX0 3) dX0_init_33 rfl (by decide +kernel) rfl rfl uX0 tyX0_ok nmX0 (by decide) (z_in (List.mem_append_right _ (List.mem_of_getElem? (i := 59) (by decide +kernel))) rfl) rfl bd_init rfl (tyX0_ok 3 (by decide)) (fun _ => rfl) (fun _ => rfl) rfl (Nat.le_of_ble_eq_true rfl) (by decide +kernel) rfl (by decide +kernel) ?_
  exact bd_ret dX0_init_36 rfl rfl rfl rfl (by decide +kernel)
set_option maxRecDepth 100000 in
set_option maxHeartbeats 4000000 in
theorem c_X2_init : Cons yX2_init cX2_init 1 1 12 5 702 3 [3] [zR 3] [3, 25, 26, 27, 28, 29] (fun σ => σ) := by
  refine bd_cons (own := RX2) (Lv := [(0, zR 3)]) rfl (by decide +kernel) rfl (Nat.le_of_ble_eq_true rfl) rfl (fun σ hz0 => ?_)
  refine bd_aload (i0 := 0) dX2_init_0 rfl rfl ?_
  refine bd_obj dX2_init_1 (z_in (List.mem_append_right _ (List.mem_of_getElem? (i := 81) (by decide +kernel))) rfl) (z_in (List.mem_append_right _ (List.mem_of_getElem? (i := 20) (by decide +kernel))) rfl) (z_in (List.mem_append_right _ (List.mem_of_getElem? (i := 21) (by decide +kernel))) rfl) (by decide) (by decide) ?_
  refine bd_aload (i0 := 0) dX2_init_4 rfl rfl ?_
  refine bd_bipush (v := 120) dX2_init_5 (by decide +kernel) ?_
  refine bd_newa (k := 25) (n := 120) dX2_init_7 (z_in (List.mem_append_right _ (List.mem_of_getElem? (i := 49) (by decide +kernel))) rfl) rfl bd_ty0 rfl (Nat.le_of_ble_eq_true rfl) rfl (fun j => hz0 25 (by decide +kernel) (by decide) j) (by decide +kernel) (Nat.le_of_ble_eq_true rfl) (Nat.le_of_ble_eq_true rfl) ?_
  refine bd_norm [(3, 0)] [3, 25] 1 120 σ rfl rfl rfl rfl rfl ?_
  refine bd_put (i := 0) (P' := [(3, 1)]) (ty := tyX2 0) dX2_init_9 rfl (by decide +kernel) rfl rfl uX2 tyX2_ok nmX2 (by decide) (z_in (List.mem_append_right _ (List.mem_of_getElem? (i := 82) (by decide +kernel))) rfl) rfl bd_init rfl (tyX2_ok 0 (by decide)) (fun _ => rfl) (fun _ => rfl) rfl (Nat.le_of_ble_eq_true rfl) (by decide +kernel) rfl (by decide +kernel) ?_
  refine bd_aload (i0 := 0) dX2_init_12 rfl rfl ?_
  refine bd_sipush (v := 256) dX2_init_13 (by decide +kernel) ?_
  refine bd_newa (k := 26) (n := 256) dX2_init_16 (z_in (List.mem_append_right _ (List.mem_of_getElem? (i := 49) (by decide +kernel))) rfl) rfl bd_ty0 rfl (Nat.le_of_ble_eq_true rfl) rfl (fun j => hz0 26 (by decide +kernel) (by decide) j) (by decide +kernel) (Nat.le_of_ble_eq_true rfl) (Nat.le_of_ble_eq_true rfl) ?_
  refine bd_norm [(3, 1)] [3, 25, 26] 2 376 σ rfl rfl rfl rfl rfl ?_
  refine bd_put (i := 0) (P' := [(3, 2)]) (ty := tyX2 1) dX2_init_18 rfl (by decide +kernel) rfl rfl uX2 tyX2_ok nmX2 (by decide) (z_in (List.mem_append_right _ (List.mem_of_getElem? (i := 83) (by decide +kernel))) rfl) rfl bd_init rfl (tyX2_ok 1 (by decide)) (fun _ => rfl) (fun _ => rfl) rfl (Nat.le_of_ble_eq_true rfl) (by decide +kernel) rfl (by decide +kernel) ?_
  refine bd_aload (i0 := 0) dX2_init_21 rfl rfl ?_
  refine bd_sipush (v := 256) dX2_init_22 (by decide +kernel) ?_
  refine bd_newa (k := 27) (n := 256) dX2_init_25 (z_in (List.mem_append_right _ (List.mem_of_getElem? (i := 49) (by decide +kernel))) rfl) rfl bd_ty0 rfl (Nat.le_of_ble_eq_true rfl) rfl (fun j => hz0 27 (by decide +kernel) (by decide) j) (by decide +kernel) (Nat.le_of_ble_eq_true rfl) (Nat.le_of_ble_eq_true rfl) ?_
  refine bd_norm [(3, 2)] [3, 25, 26, 27] 3 632 σ rfl rfl rfl rfl rfl ?_
  refine bd_put (i := 0) (P' := [(3, 3)]) (ty := tyX2 2) dX2_init_27 rfl (by decide +kernel) rfl rfl uX2 tyX2_ok nmX2 (by decide) (z_in (List.mem_append_right _ (List.mem_of_getElem? (i := 84) (by decide +kernel))) rfl) rfl bd_init rfl (tyX2_ok 2 (by decide)) (fun _ => rfl) (fun _ => rfl) rfl (Nat.le_of_ble_eq_true rfl) (by decide +kernel) rfl (by decide +kernel) ?_
  refine bd_aload (i0 := 0) dX2_init_30 rfl rfl ?_
  refine bd_bipush (v := 64) dX2_init_31 (by decide +kernel) ?_
  refine bd_newa (k := 28) (n := 64) dX2_init_33 (z_in (List.mem_append_right _ (List.mem_of_getElem? (i := 49) (by decide +kernel))) rfl) rfl bd_ty0 rfl (Nat.le_of_ble_eq_true rfl) rfl (fun j => hz0 28 (by decide +kernel) (by decide) j) (by decide +kernel) (Nat.le_of_ble_eq_true rfl) (Nat.le_of_ble_eq_true rfl) ?_
  refine bd_norm [(3, 3)] [3, 25, 26, 27, 28] 4 696 σ rfl rfl rfl rfl rfl ?_
  refine bd_put (i := 0) (P' := [(3, 4)]) (ty := tyX2 3) dX2_init_35 rfl (by decide +kernel) rfl rfl uX2 tyX2_ok nmX2 (by decide) (z_in (List.mem_append_right _ (List.mem_of_getElem? (i := 85) (by decide +kernel))) rfl) rfl bd_init rfl (tyX2_ok 3 (by decide)) (fun _ => rfl) (fun _ => rfl) rfl (Nat.le_of_ble_eq_true rfl) (by decide +kernel) rfl (by decide +kernel) ?_
  refine bd_aload (i0 := 0) dX2_init_38 rfl rfl ?_
  refine bd_bipush (v := 6) dX2_init_39 (by decide +kernel) ?_
  refine bd_newa (k := 29) (n := 6) dX2_init_41 (z_in (List.mem_append_right _ (List.mem_of_getElem? (i := 49) (by decide +kernel))) rfl) rfl bd_ty0 rfl (Nat.le_of_ble_eq_true rfl) rfl (fun j => hz0 29 (by decide +kernel) (by decide) j) (by decide +kernel) (Nat.le_of_ble_eq_true rfl) (Nat.le_of_ble_eq_true rfl) ?_
  refine bd_norm [(3, 4)] [3, 25, 26, 27, 28, 29] 5 702 σ rfl rfl rfl rfl rfl ?_
  refine bd_put (i := 0) (P' := [(3, 5)]) (ty := tyX2 4) dX2_init_43 rfl (by decide +kernel) rfl rfl uX2 tyX2_ok nmX2 (by decide) (z_in (List.mem_append_right _ (List.mem_of_getElem? (i := 86) (by decide +kernel))) rfl) rfl bd_init rfl (tyX2_ok 4 (by decide)) (fun _ => rfl) (fun _ => rfl) rfl (Nat.le_of_ble_eq_true rfl) (by decide +kernel) rfl (by decide +kernel) ?_
  exact bd_ret dX2_init_46 rfl rfl rfl rfl (by decide +kernel)
def FX5_init (σ : Sto) : Sto := z_put (z_put (z_put (z_put (z_put (z_put σ 30 0 (-1)) 30 1 (-1)) 30 2 (-1)) 30 3 (-1)) 30 4 (-1)) 30 5 (-1)
theorem FX5_init_ne {σ : Sto} {k : Nat} (h : k ≠ 30) : FX5_init σ k = σ k := by
  unfold FX5_init
  rw [z_put_ne h, z_put_ne h, z_put_ne h, z_put_ne h, z_put_ne h, z_put_ne h]
set_option maxRecDepth 100000 in
set_option maxHeartbeats 4000000 in
theorem c_X5_init : Cons yX5_init cX5_init 2 1 12 10 384 4 [4] [zR 4] [4, 30, 31, 32, 33, 34, 35, 36, 37, 38, 39] FX5_init := by
  refine bd_cons (own := RX5) (Lv := [(0, zR 4)]) rfl (by decide +kernel) rfl (Nat.le_of_ble_eq_true rfl) rfl (fun σ hz0 => ?_)
  refine bd_aload (i0 := 0) dX5_init_0 rfl rfl ?_
  refine bd_obj dX5_init_1 (z_in (List.mem_append_right _ (List.mem_of_getElem? (i := 119) (by decide +kernel))) rfl) (z_in (List.mem_append_right _ (List.mem_of_getElem? (i := 20) (by decide +kernel))) rfl) (z_in (List.mem_append_right _ (List.mem_of_getElem? (i := 21) (by decide +kernel))) rfl) (by decide) (by decide) ?_
  refine bd_aload (i0 := 0) dX5_init_4 rfl rfl ?_
  refine bd_bipush (v := 6) dX5_init_5 (by decide +kernel) ?_
  refine bd_newa (k := 30) (n := 6) dX5_init_7 (z_in (List.mem_append_right _ (List.mem_of_getElem? (i := 49) (by decide +kernel))) rfl) rfl bd_ty0 rfl (Nat.le_of_ble_eq_true rfl) rfl (fun j => hz0 30 (by decide +kernel) (by decide) j) (by decide +kernel) (Nat.le_of_ble_eq_true rfl) (Nat.le_of_ble_eq_true rfl) ?_
  refine bd_norm [(4, 0)] [4, 30] 1 6 σ rfl rfl rfl rfl rfl ?_
  refine bd_put (i := 0) (P' := [(4, 1)]) (ty := tyX5 0) dX5_init_9 rfl (by decide +kernel) rfl rfl uX5 tyX5_ok nmX5 (by decide) (z_in (List.mem_append_right _ (List.mem_of_getElem? (i := 122) (by decide +kernel))) rfl) rfl bd_init rfl (tyX5_ok 0 (by decide)) (fun _ => rfl) (fun _ => rfl) rfl (Nat.le_of_ble_eq_true rfl) (by decide +kernel) rfl (by decide +kernel) ?_
  refine bd_aload (i0 := 0) dX5_init_12 rfl rfl ?_
  refine bd_bipush (v := 6) dX5_init_13 (by decide +kernel) ?_
  refine bd_newa (k := 31) (n := 6) dX5_init_15 (z_in (List.mem_append_right _ (List.mem_of_getElem? (i := 49) (by decide +kernel))) rfl) rfl bd_ty0 rfl (Nat.le_of_ble_eq_true rfl) rfl (fun j => hz0 31 (by decide +kernel) (by decide) j) (by decide +kernel) (Nat.le_of_ble_eq_true rfl) (Nat.le_of_ble_eq_true rfl) ?_
  refine bd_norm [(4, 1)] [4, 30, 31] 2 12 σ rfl rfl rfl rfl rfl ?_
  refine bd_put (i := 0) (P' := [(4, 2)]) (ty := tyX5 1) dX5_init_17 rfl (by decide +kernel) rfl rfl uX5 tyX5_ok nmX5 (by decide) (z_in (List.mem_append_right _ (List.mem_of_getElem? (i := 123) (by decide +kernel))) rfl) rfl bd_init rfl (tyX5_ok 1 (by decide)) (fun _ => rfl) (fun _ => rfl) rfl (Nat.le_of_ble_eq_true rfl) (by decide +kernel) rfl (by decide +kernel) ?_
  refine bd_aload (i0 := 0) dX5_init_20 rfl rfl ?_
  refine bd_bipush (v := 6) dX5_init_21 (by decide +kernel) ?_
  refine bd_newa (k := 32) (n := 6) dX5_init_23 (z_in (List.mem_append_right _ (List.mem_of_getElem? (i := 49) (by decide +kernel))) rfl) rfl bd_ty0 rfl (Nat.le_of_ble_eq_true rfl) rfl (fun j => hz0 32 (by decide +kernel) (by decide) j) (by decide +kernel) (Nat.le_of_ble_eq_true rfl) (Nat.le_of_ble_eq_true rfl) ?_
  refine bd_norm [(4, 2)] [4, 30, 31, 32] 3 18 σ rfl rfl rfl rfl rfl ?_
  refine bd_put (i := 0) (P' := [(4, 3)]) (ty := tyX5 2) dX5_init_25 rfl (by decide +kernel) rfl rfl uX5 tyX5_ok nmX5 (by decide) (z_in (List.mem_append_right _ (List.mem_of_getElem? (i := 124) (by decide +kernel))) rfl) rfl bd_init rfl (tyX5_ok 2 (by decide)) (fun _ => rfl) (fun _ => rfl) rfl (Nat.le_of_ble_eq_true rfl) (by decide +kernel) rfl (by decide +kernel) ?_
  refine bd_aload (i0 := 0) dX5_init_28 rfl rfl ?_
  refine bd_bipush (v := 6) dX5_init_29 (by decide +kernel) ?_
  refine bd_bipush (v := 60) dX5_init_31 (by decide +kernel) ?_
  refine bd_mna (kA := 33) (b := 34) (ty := .long) dX5_init_33 (z_in (List.mem_append_right _ (List.mem_of_getElem? (i := 120) (by decide +kernel))) rfl) (z_in (List.mem_append_right _ (List.mem_of_getElem? (i := 135) (by decide +kernel))) rfl) (by decide) bd_ty4 (fun _ => rfl) (by decide) rfl (fun _ _ => rfl) rfl rfl rfl bd_lay34 (by decide) (Nat.le_of_ble_eq_true rfl) (Nat.le_of_ble_eq_true rfl) rfl rfl (fun i hi => hz0 (34 + i) ((by decide +kernel : ∀ i, i < 6 → 34 + i ∈ ([4, 30, 31, 32, 33, 34, 35, 36, 37, 38, 39] : List Nat)) i hi) (by omega)) (by decide +kernel) (Nat.le_of_ble_eq_true rfl) (Nat.le_of_ble_eq_true rfl) ?_
  refine bd_norm [(4, 3)] [4, 30, 31, 32, 33, 34, 35, 36, 37, 38, 39] 10 384 σ rfl rfl rfl rfl rfl ?_
  refine bd_put (i := 0) (P' := [(4, 4)]) (ty := tyX5 3) dX5_init_37 rfl (by decide +kernel) rfl rfl uX5 tyX5_ok nmX5 (by decide) (z_in (List.mem_append_right _ (List.mem_of_getElem? (i := 125) (by decide +kernel))) rfl) rfl bd_init rfl (tyX5_ok 3 (by decide)) (fun _ => rfl) (fun _ => rfl) rfl (Nat.le_of_ble_eq_true rfl) (by decide +kernel) rfl (by decide +kernel) ?_
  refine bd_iconst dX5_init_40 ?_
  refine bd_istore (Lv' := [(1, zI 0), (0, zR 4)]) dX5_init_41 rfl (Nat.le_of_ble_eq_true rfl) rfl ?_
  refine bd_iload (i0 := 0) (x := 0) dX5_init_42 rfl rfl ?_
  refine bd_bipush (v := 6) dX5_init_43 (by decide +kernel) ?_
  refine bd_geF (tgt := 61) dX5_init_45 (by decide) (by decide +kernel) ?_
  refine bd_aload (i0 := 1) dX5_init_48 rfl rfl ?_
  refine bd_getR (i := 0) (j := 0) (b := 30) dX5_init_49 rfl rfl rfl uX5 (by decide) (z_in (List.mem_append_right _ (List.mem_of_getElem? (i := 122) (by decide +kernel))) rfl) rfl (Nat.le_of_ble_eq_true rfl) ?_
  refine bd_iload (i0 := 0) (x := 0) dX5_init_52 rfl rfl ?_
  refine bd_iconst dX5_init_53 ?_
  refine bd_iast (i0 := 1) dX5_init_54 rfl (Nat.le_of_ble_eq_true rfl) (by decide +kernel) rfl (by decide) ?_
  refine bd_norm [(4, 4)] [4, 30, 31, 32, 33, 34, 35, 36, 37, 38, 39] 10 384 (z_put σ 30 0 (-1)) rfl rfl rfl rfl rfl ?_
  refine bd_iinc (k := 0) (Lv' := [(1, zI 1), (0, zR 4)]) dX5_init_55 rfl (Nat.le_of_ble_eq_true rfl) rfl ?_
  refine bd_goto (tgt := 42) dX5_init_58 (by decide) ?_
  refine bd_iload (i0 := 0) (x := 1) dX5_init_42 rfl rfl ?_
  refine bd_bipush (v := 6) dX5_init_43 (by decide +kernel) ?_
  refine bd_geF (tgt := 61) dX5_init_45 (by decide) (by decide +kernel) ?_
  refine bd_aload (i0 := 1) dX5_init_48 rfl rfl ?_
  refine bd_getR (i := 0) (j := 0) (b := 30) dX5_init_49 rfl rfl rfl uX5 (by decide) (z_in (List.mem_append_right _ (List.mem_of_getElem? (i := 122) (by decide +kernel))) rfl) rfl (Nat.le_of_ble_eq_true rfl) ?_
  refine bd_iload (i0 := 0) (x := 1) dX5_init_52 rfl rfl ?_
  refine bd_iconst dX5_init_53 ?_
  refine bd_iast (i0 := 1) dX5_init_54 rfl (Nat.le_of_ble_eq_true rfl) (by decide +kernel) rfl (by decide) ?_
  refine bd_norm [(4, 4)] [4, 30, 31, 32, 33, 34, 35, 36, 37, 38, 39] 10 384 (z_put (z_put σ 30 0 (-1)) 30 1 (-1)) rfl rfl rfl rfl rfl ?_
  refine bd_iinc (k := 0) (Lv' := [(1, zI 2), (0, zR 4)]) dX5_init_55 rfl (Nat.le_of_ble_eq_true rfl) rfl ?_
  refine bd_goto (tgt := 42) dX5_init_58 (by decide) ?_
  refine bd_iload (i0 := 0) (x := 2) dX5_init_42 rfl rfl ?_
  refine bd_bipush (v := 6) dX5_init_43 (by decide +kernel) ?_
  refine bd_geF (tgt := 61) dX5_init_45 (by decide) (by decide +kernel) ?_
  refine bd_aload (i0 := 1) dX5_init_48 rfl rfl ?_
  refine bd_getR (i := 0) (j := 0) (b := 30) dX5_init_49 rfl rfl rfl uX5 (by decide) (z_in (List.mem_append_right _ (List.mem_of_getElem? (i := 122) (by decide +kernel))) rfl) rfl (Nat.le_of_ble_eq_true rfl) ?_
  refine bd_iload (i0 := 0) (x := 2) dX5_init_52 rfl rfl ?_
  refine bd_iconst dX5_init_53 ?_
  refine bd_iast (i0 := 1) dX5_init_54 rfl (Nat.le_of_ble_eq_true rfl) (by decide +kernel) rfl (by decide) ?_
  refine bd_norm [(4, 4)] [4, 30, 31, 32, 33, 34, 35, 36, 37, 38, 39] 10 384 (z_put (z_put (z_put σ 30 0 (-1)) 30 1 (-1)) 30 2 (-1)) rfl rfl rfl rfl rfl ?_
  refine bd_iinc (k := 0) (Lv' := [(1, zI 3), (0, zR 4)]) dX5_init_55 rfl (Nat.le_of_ble_eq_true rfl) rfl ?_
  refine bd_goto (tgt := 42) dX5_init_58 (by decide) ?_
  refine bd_iload (i0 := 0) (x := 3) dX5_init_42 rfl rfl ?_
  refine bd_bipush (v := 6) dX5_init_43 (by decide +kernel) ?_
  refine bd_geF (tgt := 61) dX5_init_45 (by decide) (by decide +kernel) ?_
  refine bd_aload (i0 := 1) dX5_init_48 rfl rfl ?_
  refine bd_getR (i := 0) (j := 0) (b := 30) dX5_init_49 rfl rfl rfl uX5 (by decide) (z_in (List.mem_append_right _ (List.mem_of_getElem? (i := 122) (by decide +kernel))) rfl) rfl (Nat.le_of_ble_eq_true rfl) ?_
  refine bd_iload (i0 := 0) (x := 3) dX5_init_52 rfl rfl ?_
  refine bd_iconst dX5_init_53 ?_
  refine bd_iast (i0 := 1) dX5_init_54 rfl (Nat.le_of_ble_eq_true rfl) (by decide +kernel) rfl (by decide) ?_
  refine bd_norm [(4, 4)] [4, 30, 31, 32, 33, 34, 35, 36, 37, 38, 39] 10 384 (z_put (z_put (z_put (z_put σ 30 0 (-1)) 30 1 (-1)) 30 2 (-1)) 30 3 (-1)) rfl rfl rfl rfl rfl ?_
  refine bd_iinc (k := 0) (Lv' := [(1, zI 4), (0, zR 4)]) dX5_init_55 rfl (Nat.le_of_ble_eq_true rfl) rfl ?_
  refine bd_goto (tgt := 42) dX5_init_58 (by decide) ?_
  refine bd_iload (i0 := 0) (x := 4) dX5_init_42 rfl rfl ?_
  refine bd_bipush (v := 6) dX5_init_43 (by decide +kernel) ?_
  refine bd_geF (tgt := 61) dX5_init_45 (by decide) (by decide +kernel) ?_
  refine bd_aload (i0 := 1) dX5_init_48 rfl rfl ?_
  refine bd_getR (i := 0) (j := 0) (b := 30) dX5_init_49 rfl rfl rfl uX5 (by decide) (z_in (List.mem_append_right _ (List.mem_of_getElem? (i := 122) (by decide +kernel))) rfl) rfl (Nat.le_of_ble_eq_true rfl) ?_
  refine bd_iload (i0 := 0) (x := 4) dX5_init_52 rfl rfl ?_
  refine bd_iconst dX5_init_53 ?_
  refine bd_iast (i0 := 1) dX5_init_54 rfl (Nat.le_of_ble_eq_true rfl) (by decide +kernel) rfl (by decide) ?_
  refine bd_norm [(4, 4)] [4, 30, 31, 32, 33, 34, 35, 36, 37, 38, 39] 10 384 (z_put (z_put (z_put (z_put (z_put σ 30 0 (-1)) 30 1 (-1)) 30 2 (-1)) 30 3 (-1)) 30 4 (-1)) rfl rfl rfl rfl rfl ?_
  refine bd_iinc (k := 0) (Lv' := [(1, zI 5), (0, zR 4)]) dX5_init_55 rfl (Nat.le_of_ble_eq_true rfl) rfl ?_
  refine bd_goto (tgt := 42) dX5_init_58 (by decide) ?_
  refine bd_iload (i0 := 0) (x := 5) dX5_init_42 rfl rfl ?_
  refine bd_bipush (v := 6) dX5_init_43 (by decide +kernel) ?_
  refine bd_geF (tgt := 61) dX5_init_45 (by decide) (by decide +kernel) ?_
  refine bd_aload (i0 := 1) dX5_init_48 rfl rfl ?_
  refine bd_getR (i := 0) (j := 0) (b := 30) dX5_init_49 rfl rfl rfl uX5 (by decide) (z_in (List.mem_append_right _ (List.mem_of_getElem? (i := 122) (by decide +kernel))) rfl) rfl (Nat.le_of_ble_eq_true rfl) ?_
  refine bd_iload (i0 := 0) (x := 5) dX5_init_52 rfl rfl ?_
  refine bd_iconst dX5_init_53 ?_
  refine bd_iast (i0 := 1) dX5_init_54 rfl (Nat.le_of_ble_eq_true rfl) (by decide +kernel) rfl (by decide) ?_
  refine bd_norm [(4, 4)] [4, 30, 31, 32, 33, 34, 35, 36, 37, 38, 39] 10 384 (z_put (z_put (z_put (z_put (z_put (z_put σ 30 0 (-1)) 30 1 (-1)) 30 2 (-1)) 30 3 (-1)) 30 4 (-1)) 30 5 (-1)) rfl rfl rfl rfl rfl ?_
  refine bd_iinc (k := 0) (Lv' := [(1, zI 6), (0, zR 4)]) dX5_init_55 rfl (Nat.le_of_ble_eq_true rfl) rfl ?_
  refine bd_goto (tgt := 42) dX5_init_58 (by decide) ?_
  refine bd_iload (i0 := 0) (x := 6) dX5_init_42 rfl rfl ?_
  refine bd_bipush (v := 6) dX5_init_43 (by decide +kernel) ?_
  refine bd_geT (tgt := 61) dX5_init_45 (by decide) (by decide +kernel) ?_
  exact bd_ret dX5_init_61 rfl rfl rfl rfl (by decide +kernel)
set_option maxRecDepth 100000 in
set_option maxHeartbeats 4000000 in
theorem c_X6_init : Cons yX6_init cX6_init 3 1 12 3 32 5 [5, 1, 3] [zR 5, zR 1, zR 3] [5, 40, 41, 42] (fun σ => σ) := by
  refine bd_cons (own := RX6) (Lv := [(0, zR 5), (1, zR 1), (2, zR 3)]) rfl (by decide +kernel) rfl (Nat.le_of_ble_eq_true rfl) rfl (fun σ hz0 => ?_)
  refine bd_aload (i0 := 0) dX6_init_0 rfl rfl ?_
  refine bd_obj dX6_init_1 (z_in (List.mem_append_right _ (List.mem_of_getElem? (i := 141) (by decide +kernel))) rfl) (z_in (List.mem_append_right _ (List.mem_of_getElem? (i := 20) (by decide +kernel))) rfl) (z_in (List.mem_append_right _ (List.mem_of_getElem? (i := 21) (by decide +kernel))) rfl) (by decide) (by decide) ?_
  refine bd_aload (i0 := 0) dX6_init_4 rfl rfl ?_
  refine bd_aload (i0 := 1) dX6_init_5 rfl rfl ?_
  refine bd_put (i := 0) (P' := [(5, 1)]) (ty := tyX6 0) dX6_init_6 rfl (by decide +kernel) rfl rfl uX6 tyX6_ok nmX6 (by decide) (z_in (List.mem_append_right _ (List.mem_of_getElem? (i := 142) (by decide +kernel))) rfl) rfl bd_init rfl (tyX6_ok 0 (by decide)) (fun _ => rfl) (fun _ => rfl) rfl (Nat.le_of_ble_eq_true rfl) (by decide +kernel) rfl (by decide +kernel) ?_
  refine bd_aload (i0 := 0) dX6_init_9 rfl rfl ?_
  refine bd_aload (i0 := 2) dX6_init_10 rfl rfl ?_
  refine bd_put (i := 0) (P' := [(5, 2)]) (ty := tyX6 1) dX6_init_11 rfl (by decide +kernel) rfl rfl uX6 tyX6_ok nmX6 (by decide) (z_in (List.mem_append_right _ (List.mem_of_getElem? (i := 143) (by decide +kernel))) rfl) rfl bd_init rfl (tyX6_ok 1 (by decide)) (fun _ => rfl) (fun _ => rfl) rfl (Nat.le_of_ble_eq_true rfl) (by decide +kernel) rfl (by decide +kernel) ?_
  refine bd_aload (i0 := 0) dX6_init_14 rfl rfl ?_
  refine bd_bipush (v := 13) dX6_init_15 (by decide +kernel) ?_
  refine bd_newa (k := 40) (n := 13) dX6_init_17 (z_in (List.mem_append_right _ (List.mem_of_getElem? (i := 49) (by decide +kernel))) rfl) rfl bd_ty0 rfl (Nat.le_of_ble_eq_true rfl) rfl (fun j => hz0 40 (by decide +kernel) (by decide) j) (by decide +kernel) (Nat.le_of_ble_eq_true rfl) (Nat.le_of_ble_eq_true rfl) ?_
  refine bd_norm [(5, 2)] [5, 40] 1 13 σ rfl rfl rfl rfl rfl ?_
  refine bd_put (i := 0) (P' := [(5, 3)]) (ty := tyX6 2) dX6_init_19 rfl (by decide +kernel) rfl rfl uX6 tyX6_ok nmX6 (by decide) (z_in (List.mem_append_right _ (List.mem_of_getElem? (i := 144) (by decide +kernel))) rfl) rfl bd_init rfl (tyX6_ok 2 (by decide)) (fun _ => rfl) (fun _ => rfl) rfl (Nat.le_of_ble_eq_true rfl) (by decide +kernel) rfl (by decide +kernel) ?_
  refine bd_aload (i0 := 0) dX6_init_22 rfl rfl ?_
  refine bd_bipush (v := 13) dX6_init_23 (by decide +kernel) ?_
  refine bd_newa (k := 41) (n := 13) dX6_init_25 (z_in (List.mem_append_right _ (List.mem_of_getElem? (i := 49) (by decide +kernel))) rfl) rfl bd_ty0 rfl (Nat.le_of_ble_eq_true rfl) rfl (fun j => hz0 41 (by decide +kernel) (by decide) j) (by decide +kernel) (Nat.le_of_ble_eq_true rfl) (Nat.le_of_ble_eq_true rfl) ?_
  refine bd_norm [(5, 3)] [5, 40, 41] 2 26 σ rfl rfl rfl rfl rfl ?_
  refine bd_put (i := 0) (P' := [(5, 4)]) (ty := tyX6 3) dX6_init_27 rfl (by decide +kernel) rfl rfl uX6 tyX6_ok nmX6 (by decide) (z_in (List.mem_append_right _ (List.mem_of_getElem? (i := 147) (by decide +kernel))) rfl) rfl bd_init rfl (tyX6_ok 3 (by decide)) (fun _ => rfl) (fun _ => rfl) rfl (Nat.le_of_ble_eq_true rfl) (by decide +kernel) rfl (by decide +kernel) ?_
  refine bd_aload (i0 := 0) dX6_init_30 rfl rfl ?_
  refine bd_bipush (v := 6) dX6_init_31 (by decide +kernel) ?_
  refine bd_newa (k := 42) (n := 6) dX6_init_33 (z_in (List.mem_append_right _ (List.mem_of_getElem? (i := 49) (by decide +kernel))) rfl) rfl bd_ty0 rfl (Nat.le_of_ble_eq_true rfl) rfl (fun j => hz0 42 (by decide +kernel) (by decide) j) (by decide +kernel) (Nat.le_of_ble_eq_true rfl) (Nat.le_of_ble_eq_true rfl) ?_
  refine bd_norm [(5, 4)] [5, 40, 41, 42] 3 32 σ rfl rfl rfl rfl rfl ?_
  refine bd_put (i := 0) (P' := [(5, 5)]) (ty := tyX6 4) dX6_init_35 rfl (by decide +kernel) rfl rfl uX6 tyX6_ok nmX6 (by decide) (z_in (List.mem_append_right _ (List.mem_of_getElem? (i := 149) (by decide +kernel))) rfl) rfl bd_init rfl (tyX6_ok 4 (by decide)) (fun _ => rfl) (fun _ => rfl) rfl (Nat.le_of_ble_eq_true rfl) (by decide +kernel) rfl (by decide +kernel) ?_
  exact bd_ret dX6_init_38 rfl rfl rfl rfl (by decide +kernel)
set_option maxRecDepth 100000 in
set_option maxHeartbeats 4000000 in
theorem c_X4_init : Cons yX4_init cX4_init 3 1 12 31 1388 6 [6, 1, 5] [zR 6, zR 1, zR 5] [6, 43, 44, 45, 46, 47, 48, 49, 50, 51, 52, 53, 54, 55, 56, 57, 58, 59, 60, 61, 62, 63, 64, 65, 66, 67, 68, 69, 70, 71, 72, 73] (fun σ => σ) := by
  refine bd_cons (own := RX4) (Lv := [(0, zR 6), (1, zR 1), (2, zR 5)]) rfl (by decide +kernel) rfl (Nat.le_of_ble_eq_true rfl) rfl (fun σ hz0 => ?_)
  refine bd_aload (i0 := 0) dX4_init_0 rfl rfl ?_
  refine bd_obj dX4_init_1 (z_in (List.mem_append_right _ (List.mem_of_getElem? (i := 176) (by decide +kernel))) rfl) (z_in (List.mem_append_right _ (List.mem_of_getElem? (i := 20) (by decide +kernel))) rfl) (z_in (List.mem_append_right _ (List.mem_of_getElem? (i := 21) (by decide +kernel))) rfl) (by decide) (by decide) ?_
  refine bd_aload (i0 := 0) dX4_init_4 rfl rfl ?_
  refine bd_aload (i0 := 1) dX4_init_5 rfl rfl ?_
  refine bd_put (i := 0) (P' := [(6, 1)]) (ty := tyX4 0) dX4_init_6 rfl (by decide +kernel) rfl rfl uX4 tyX4_ok nmX4 (by decide) (z_in (List.mem_append_right _ (List.mem_of_getElem? (i := 179) (by decide +kernel))) rfl) rfl bd_init rfl (tyX4_ok 0 (by decide)) (fun _ => rfl) (fun _ => rfl) rfl (Nat.le_of_ble_eq_true rfl) (by decide +kernel) rfl (by decide +kernel) ?_
  refine bd_aload (i0 := 0) dX4_init_9 rfl rfl ?_
  refine bd_aload (i0 := 2) dX4_init_10 rfl rfl ?_
  refine bd_put (i := 0) (P' := [(6, 2)]) (ty := tyX4 1) dX4_init_11 rfl (by decide +kernel) rfl rfl uX4 tyX4_ok nmX4 (by decide) (z_in (List.mem_append_right _ (List.mem_of_getElem? (i := 180) (by decide +kernel))) rfl) rfl bd_init rfl (tyX4_ok 1 (by decide)) (fun _ => rfl) (fun _ => rfl) rfl (Nat.le_of_ble_eq_true rfl) (by decide +kernel) rfl (by decide +kernel) ?_
  refine bd_aload (i0 := 0) dX4_init_14 rfl rfl ?_
  refine bd_bipush (v := 13) dX4_init_15 (by decide +kernel) ?_
  refine bd_newa (k := 43) (n := 13) dX4_init_17 (z_in (List.mem_append_right _ (List.mem_of_getElem? (i := 49) (by decide +kernel))) rfl) rfl bd_ty0 rfl (Nat.le_of_ble_eq_true rfl) rfl (fun j => hz0 43 (by decide +kernel) (by decide) j) (by decide +kernel) (Nat.le_of_ble_eq_true rfl) (Nat.le_of_ble_eq_true rfl) ?_
  refine bd_norm [(6, 2)] [6, 43] 1 13 σ rfl rfl rfl rfl rfl ?_
  refine bd_put (i := 0) (P' := [(6, 3)]) (ty := tyX4 2) dX4_init_19 rfl (by decide +kernel) rfl rfl uX4 tyX4_ok nmX4 (by decide) (z_in (List.mem_append_right _ (List.mem_of_getElem? (i := 181) (by decide +kernel))) rfl) rfl bd_init rfl (tyX4_ok 2 (by decide)) (fun _ => rfl) (fun _ => rfl) rfl (Nat.le_of_ble_eq_true rfl) (by decide +kernel) rfl (by decide +kernel) ?_
  refine bd_aload (i0 := 0) dX4_init_22 rfl rfl ?_
  refine bd_bipush (v := 13) dX4_init_23 (by decide +kernel) ?_
  refine bd_newa (k := 44) (n := 13) dX4_init_25 (z_in (List.mem_append_right _ (List.mem_of_getElem? (i := 49) (by decide +kernel))) rfl) rfl bd_ty0 rfl (Nat.le_of_ble_eq_true rfl) rfl (fun j => hz0 44 (by decide +kernel) (by decide) j) (by decide +kernel) (Nat.le_of_ble_eq_true rfl) (Nat.le_of_ble_eq_true rfl) ?_
  refine bd_norm [(6, 3)] [6, 43, 44] 2 26 σ rfl rfl rfl rfl rfl ?_
  refine bd_put (i := 0) (P' := [(6, 4)]) (ty := tyX4 3) dX4_init_27 rfl (by decide +kernel) rfl rfl uX4 tyX4_ok nmX4 (by decide) (z_in (List.mem_append_right _ (List.mem_of_getElem? (i := 182) (by decide +kernel))) rfl) rfl bd_init rfl (tyX4_ok 3 (by decide)) (fun _ => rfl) (fun _ => rfl) rfl (Nat.le_of_ble_eq_true rfl) (by decide +kernel) rfl (by decide +kernel) ?_
  refine bd_aload (i0 := 0) dX4_init_30 rfl rfl ?_
  refine bd_bipush (v := 13) dX4_init_31 (by decide +kernel) ?_
  refine bd_newa (k := 45) (n := 13) dX4_init_33 (z_in (List.mem_append_right _ (List.mem_of_getElem? (i := 49) (by decide +kernel))) rfl) rfl bd_ty0 rfl (Nat.le_of_ble_eq_true rfl) rfl (fun j => hz0 45 (by decide +kernel) (by decide) j) (by decide +kernel) (Nat.le_of_ble_eq_true rfl) (Nat.le_of_ble_eq_true rfl) ?_
  refine bd_norm [(6, 4)] [6, 43, 44, 45] 3 39 σ rfl rfl rfl rfl rfl ?_
  refine bd_put (i := 0) (P' := [(6, 5)]) (ty := tyX4 4) dX4_init_35 rfl (by decide +kernel) rfl rfl uX4 tyX4_ok nmX4 (by decide) (z_in (List.mem_append_right _ (List.mem_of_getElem? (i := 183) (by decide +kernel))) rfl) rfl bd_init rfl (tyX4_ok 4 (by decide)) (fun _ => rfl) (fun _ => rfl) rfl (Nat.le_of_ble_eq_true rfl) (by decide +kernel) rfl (by decide +kernel) ?_
  refine bd_aload (i0 := 0) dX4_init_38 rfl rfl ?_
  refine bd_bipush (v := 11) dX4_init_39 (by decide +kernel) ?_
  refine bd_bipush (v := 11) dX4_init_41 (by decide +kernel) ?_
  refine bd_mna (kA := 46) (b := 47) (ty := .int) dX4_init_43 (z_in (List.mem_append_right _ (List.mem_of_getElem? (i := 177) (by decide +kernel))) rfl) (z_in (List.mem_append_right _ (List.mem_of_getElem? (i := 49) (by decide +kernel))) rfl) (by decide) bd_ty0 (fun _ => rfl) (by decide) rfl (fun _ _ => rfl) rfl rfl rfl bd_lay47 (by decide) (Nat.le_of_ble_eq_true rfl) (Nat.le_of_ble_eq_true rfl) rfl rfl (fun i hi => hz0 (47 + i) ((by decide +kernel : ∀ i, i < 11 → 47 + i ∈ ([6, 43, 44, 45, 46, 47, 48, 49, 50, 51, 52, 53, 54, 55, 56, 57, 58, 59, 60, 61, 62, 63, 64, 65, 66, 67, 68, 69, 70, 71, 72, 73] : List Nat)) i hi) (by omega)) (by decide +kernel) (Nat.le_of_ble_eq_true rfl) (Nat.le_of_ble_eq_true rfl) ?_
  refine bd_norm [(6, 5)] [6, 43, 44, 45, 46, 47, 48, 49, 50, 51, 52, 53, 54, 55, 56, 57] 15 171 σ rfl rfl rfl rfl rfl ?_
  refine bd_put (i := 0) (P' := [(6, 6)]) (ty := tyX4 5) dX4_init_47 rfl (by decide +kernel) rfl rfl uX4 tyX4_ok nmX4 (by decide) (z_in (List.mem_append_right _ (List.mem_of_getElem? (i := 184) (by decide +kernel))) rfl) rfl bd_init rfl (tyX4_ok 5 (by decide)) (fun _ => rfl) (fun _ => rfl) rfl (Nat.le_of_ble_eq_true rfl) (by decide +kernel) rfl (by decide +kernel) ?_
  refine bd_aload (i0 := 0) dX4_init_50 rfl rfl ?_
  refine bd_bipush (v := 13) dX4_init_51 (by decide +kernel) ?_
  refine bd_bipush (v := 13) dX4_init_53 (by decide +kernel) ?_
  refine bd_mna (kA := 58) (b := 59) (ty := .long) dX4_init_55 (z_in (List.mem_append_right _ (List.mem_of_getElem? (i := 178) (by decide +kernel))) rfl) (z_in (List.mem_append_right _ (List.mem_of_getElem? (i := 135) (by decide +kernel))) rfl) (by decide) bd_ty4 (fun _ => rfl) (by decide) rfl (fun _ _ => rfl) rfl rfl rfl bd_lay59 (by decide) (Nat.le_of_ble_eq_true rfl) (Nat.le_of_ble_eq_true rfl) rfl rfl (fun i hi => hz0 (59 + i) ((by decide +kernel : ∀ i, i < 13 → 59 + i ∈ ([6, 43, 44, 45, 46, 47, 48, 49, 50, 51, 52, 53, 54, 55, 56, 57, 58, 59, 60, 61, 62, 63, 64, 65, 66, 67, 68, 69, 70, 71, 72, 73] : List Nat)) i hi) (by omega)) (by decide +kernel) (Nat.le_of_ble_eq_true rfl) (Nat.le_of_ble_eq_true rfl) ?_
  refine bd_norm [(6, 6)] [6, 43, 44, 45, 46, 47, 48, 49, 50, 51, 52, 53, 54, 55, 56, 57, 58, 59, 60, 61, 62, 63, 64, 65, 66, 67, 68, 69, 70, 71] 29 353 σ rfl rfl rfl rfl rfl ?_
  refine bd_put (i := 0) (P' := [(6, 7)]) (ty := tyX4 6) dX4_init_59 rfl (by decide +kernel) rfl rfl uX4 tyX4_ok nmX4 (by decide) (z_in (List.mem_append_right _ (List.mem_of_getElem? (i := 185) (by decide +kernel))) rfl) rfl bd_init rfl (tyX4_ok 6 (by decide)) (fun _ => rfl) (fun _ => rfl) rfl (Nat.le_of_ble_eq_true rfl) (by decide +kernel) rfl (by decide +kernel) ?_
  refine bd_aload (i0 := 0) dX4_init_62 rfl rfl ?_
  refine bd_bipush (v := 11) dX4_init_63 (by decide +kernel) ?_
  refine bd_newa (k := 72) (n := 11) dX4_init_65 (z_in (List.mem_append_right _ (List.mem_of_getElem? (i := 49) (by decide +kernel))) rfl) rfl bd_ty0 rfl (Nat.le_of_ble_eq_true rfl) rfl (fun j => hz0 72 (by decide +kernel) (by decide) j) (by decide +kernel) (Nat.le_of_ble_eq_true rfl) (Nat.le_of_ble_eq_true rfl) ?_
  refine bd_norm [(6, 7)] [6, 43, 44, 45, 46, 47, 48, 49, 50, 51, 52, 53, 54, 55, 56, 57, 58, 59, 60, 61, 62, 63, 64, 65, 66, 67, 68, 69, 70, 71, 72] 30 364 σ rfl rfl rfl rfl rfl ?_
  refine bd_put (i := 0) (P' := [(6, 8)]) (ty := tyX4 7) dX4_init_67 rfl (by decide +kernel) rfl rfl uX4 tyX4_ok nmX4 (by decide) (z_in (List.mem_append_right _ (List.mem_of_getElem? (i := 186) (by decide +kernel))) rfl) rfl bd_init rfl (tyX4_ok 7 (by decide)) (fun _ => rfl) (fun _ => rfl) rfl (Nat.le_of_ble_eq_true rfl) (by decide +kernel) rfl (by decide +kernel) ?_
  refine bd_aload (i0 := 0) dX4_init_70 rfl rfl ?_
  refine bd_sipush (v := 1024) dX4_init_71 (by decide +kernel) ?_
  refine bd_newa (k := 73) (n := 1024) dX4_init_74 (z_in (List.mem_append_right _ (List.mem_of_getElem? (i := 207) (by decide +kernel))) rfl) rfl bd_ty3 rfl (Nat.le_of_ble_eq_true rfl) rfl (fun j => hz0 73 (by decide +kernel) (by decide) j) (by decide +kernel) (Nat.le_of_ble_eq_true rfl) (Nat.le_of_ble_eq_true rfl) ?_
  refine bd_norm [(6, 8)] [6, 43, 44, 45, 46, 47, 48, 49, 50, 51, 52, 53, 54, 55, 56, 57, 58, 59, 60, 61, 62, 63, 64, 65, 66, 67, 68, 69, 70, 71, 72, 73] 31 1388 σ rfl rfl rfl rfl rfl ?_
  refine bd_put (i := 0) (P' := [(6, 9)]) (ty := tyX4 8) dX4_init_76 rfl (by decide +kernel) rfl rfl uX4 tyX4_ok nmX4 (by decide) (z_in (List.mem_append_right _ (List.mem_of_getElem? (i := 187) (by decide +kernel))) rfl) rfl bd_init rfl (tyX4_ok 8 (by decide)) (fun _ => rfl) (fun _ => rfl) rfl (Nat.le_of_ble_eq_true rfl) (by decide +kernel) rfl (by decide +kernel) ?_
  exact bd_ret dX4_init_79 rfl rfl rfl rfl (by decide +kernel)
set_option maxRecDepth 100000 in
set_option maxHeartbeats 4000000 in
theorem c_X1_init : Cons yX1_init cX1_init 1 1 12 6 32 7 [7] [zR 7] [7, 74, 75, 76, 77, 78, 79] (fun σ => σ) := by
  refine bd_cons (own := RX1) (Lv := [(0, zR 7)]) rfl (by decide +kernel) rfl (Nat.le_of_ble_eq_true rfl) rfl (fun σ hz0 => ?_)
  refine bd_aload (i0 := 0) dX1_init_0 rfl rfl ?_
  refine bd_obj dX1_init_1 (z_in (List.mem_append_right _ (List.mem_of_getElem? (i := 213) (by decide +kernel))) rfl) (z_in (List.mem_append_right _ (List.mem_of_getElem? (i := 20) (by decide +kernel))) rfl) (z_in (List.mem_append_right _ (List.mem_of_getElem? (i := 21) (by decide +kernel))) rfl) (by decide) (by decide) ?_
  refine bd_aload (i0 := 0) dX1_init_4 rfl rfl ?_
  refine bd_iconst dX1_init_5 ?_
  refine bd_newa (k := 74) (n := 5) dX1_init_6 (z_in (List.mem_append_right _ (List.mem_of_getElem? (i := 49) (by decide +kernel))) rfl) rfl bd_ty0 rfl (Nat.le_of_ble_eq_true rfl) rfl (fun j => hz0 74 (by decide +kernel) (by decide) j) (by decide +kernel) (Nat.le_of_ble_eq_true rfl) (Nat.le_of_ble_eq_true rfl) ?_
  refine bd_norm [(7, 0)] [7, 74] 1 5 σ rfl rfl rfl rfl rfl ?_
  refine bd_put (i := 0) (P' := [(7, 1)]) (ty := tyX1 0) dX1_init_8 rfl (by decide +kernel) rfl rfl uX1 tyX1_ok nmX1 (by decide) (z_in (List.mem_append_right _ (List.mem_of_getElem? (i := 214) (by decide +kernel))) rfl) rfl bd_init rfl (tyX1_ok 0 (by decide)) (fun _ => rfl) (fun _ => rfl) rfl (Nat.le_of_ble_eq_true rfl) (by decide +kernel) rfl (by decide +kernel) ?_
  refine bd_aload (i0 := 0) dX1_init_11 rfl rfl ?_
  refine bd_iconst dX1_init_12 ?_
  refine bd_newa (k := 75) (n := 5) dX1_init_13 (z_in (List.mem_append_right _ (List.mem_of_getElem? (i := 49) (by decide +kernel))) rfl) rfl bd_ty0 rfl (Nat.le_of_ble_eq_true rfl) rfl (fun j => hz0 75 (by decide +kernel) (by decide) j) (by decide +kernel) (Nat.le_of_ble_eq_true rfl) (Nat.le_of_ble_eq_true rfl) ?_
  refine bd_norm [(7, 1)] [7, 74, 75] 2 10 σ rfl rfl rfl rfl rfl ?_
  refine bd_put (i := 0) (P' := [(7, 2)]) (ty := tyX1 1) dX1_init_15 rfl (by decide +kernel) rfl rfl uX1 tyX1_ok nmX1 (by decide) (z_in (List.mem_append_right _ (List.mem_of_getElem? (i := 215) (by decide +kernel))) rfl) rfl bd_init rfl (tyX1_ok 1 (by decide)) (fun _ => rfl) (fun _ => rfl) rfl (Nat.le_of_ble_eq_true rfl) (by decide +kernel) rfl (by decide +kernel) ?_
  refine bd_aload (i0 := 0) dX1_init_18 rfl rfl ?_
  refine bd_bipush (v := 6) dX1_init_19 (by decide +kernel) ?_
  refine bd_newa (k := 76) (n := 6) dX1_init_21 (z_in (List.mem_append_right _ (List.mem_of_getElem? (i := 49) (by decide +kernel))) rfl) rfl bd_ty0 rfl (Nat.le_of_ble_eq_true rfl) rfl (fun j => hz0 76 (by decide +kernel) (by decide) j) (by decide +kernel) (Nat.le_of_ble_eq_true rfl) (Nat.le_of_ble_eq_true rfl) ?_
  refine bd_norm [(7, 2)] [7, 74, 75, 76] 3 16 σ rfl rfl rfl rfl rfl ?_
  refine bd_put (i := 0) (P' := [(7, 3)]) (ty := tyX1 2) dX1_init_23 rfl (by decide +kernel) rfl rfl uX1 tyX1_ok nmX1 (by decide) (z_in (List.mem_append_right _ (List.mem_of_getElem? (i := 216) (by decide +kernel))) rfl) rfl bd_init rfl (tyX1_ok 2 (by decide)) (fun _ => rfl) (fun _ => rfl) rfl (Nat.le_of_ble_eq_true rfl) (by decide +kernel) rfl (by decide +kernel) ?_
  refine bd_aload (i0 := 0) dX1_init_26 rfl rfl ?_
  refine bd_iconst dX1_init_27 ?_
  refine bd_newa (k := 77) (n := 5) dX1_init_28 (z_in (List.mem_append_right _ (List.mem_of_getElem? (i := 49) (by decide +kernel))) rfl) rfl bd_ty0 rfl (Nat.le_of_ble_eq_true rfl) rfl (fun j => hz0 77 (by decide +kernel) (by decide) j) (by decide +kernel) (Nat.le_of_ble_eq_true rfl) (Nat.le_of_ble_eq_true rfl) ?_
  refine bd_norm [(7, 3)] [7, 74, 75, 76, 77] 4 21 σ rfl rfl rfl rfl rfl ?_
  refine bd_put (i := 0) (P' := [(7, 4)]) (ty := tyX1 3) dX1_init_30 rfl (by decide +kernel) rfl rfl uX1 tyX1_ok nmX1 (by decide) (z_in (List.mem_append_right _ (List.mem_of_getElem? (i := 217) (by decide +kernel))) rfl) rfl bd_init rfl (tyX1_ok 3 (by decide)) (fun _ => rfl) (fun _ => rfl) rfl (Nat.le_of_ble_eq_true rfl) (by decide +kernel) rfl (by decide +kernel) ?_
  refine bd_aload (i0 := 0) dX1_init_33 rfl rfl ?_
  refine bd_iconst dX1_init_34 ?_
  refine bd_newa (k := 78) (n := 5) dX1_init_35 (z_in (List.mem_append_right _ (List.mem_of_getElem? (i := 49) (by decide +kernel))) rfl) rfl bd_ty0 rfl (Nat.le_of_ble_eq_true rfl) rfl (fun j => hz0 78 (by decide +kernel) (by decide) j) (by decide +kernel) (Nat.le_of_ble_eq_true rfl) (Nat.le_of_ble_eq_true rfl) ?_
  refine bd_norm [(7, 4)] [7, 74, 75, 76, 77, 78] 5 26 σ rfl rfl rfl rfl rfl ?_
  refine bd_put (i := 0) (P' := [(7, 5)]) (ty := tyX1 4) dX1_init_37 rfl (by decide +kernel) rfl rfl uX1 tyX1_ok nmX1 (by decide) (z_in (List.mem_append_right _ (List.mem_of_getElem? (i := 218) (by decide +kernel))) rfl) rfl bd_init rfl (tyX1_ok 4 (by decide)) (fun _ => rfl) (fun _ => rfl) rfl (Nat.le_of_ble_eq_true rfl) (by decide +kernel) rfl (by decide +kernel) ?_
  refine bd_aload (i0 := 0) dX1_init_40 rfl rfl ?_
  refine bd_bipush (v := 6) dX1_init_41 (by decide +kernel) ?_
  refine bd_newa (k := 79) (n := 6) dX1_init_43 (z_in (List.mem_append_right _ (List.mem_of_getElem? (i := 49) (by decide +kernel))) rfl) rfl bd_ty0 rfl (Nat.le_of_ble_eq_true rfl) rfl (fun j => hz0 79 (by decide +kernel) (by decide) j) (by decide +kernel) (Nat.le_of_ble_eq_true rfl) (Nat.le_of_ble_eq_true rfl) ?_
  refine bd_norm [(7, 5)] [7, 74, 75, 76, 77, 78, 79] 6 32 σ rfl rfl rfl rfl rfl ?_
  refine bd_put (i := 0) (P' := [(7, 6)]) (ty := tyX1 5) dX1_init_45 rfl (by decide +kernel) rfl rfl uX1 tyX1_ok nmX1 (by decide) (z_in (List.mem_append_right _ (List.mem_of_getElem? (i := 219) (by decide +kernel))) rfl) rfl bd_init rfl (tyX1_ok 5 (by decide)) (fun _ => rfl) (fun _ => rfl) rfl (Nat.le_of_ble_eq_true rfl) (by decide +kernel) rfl (by decide +kernel) ?_
  exact bd_ret dX1_init_48 rfl rfl rfl rfl (by decide +kernel)
set_option maxRecDepth 100000 in
set_option maxHeartbeats 4000000 in
theorem c_X3_init : Cons yX3_init cX3_init 1 1 12 2 74 8 [8] [zR 8] [8, 80, 81] (fun σ => σ) := by
  refine bd_cons (own := RX3) (Lv := [(0, zR 8)]) rfl (by decide +kernel) rfl (Nat.le_of_ble_eq_true rfl) rfl (fun σ hz0 => ?_)
  refine bd_aload (i0 := 0) dX3_init_0 rfl rfl ?_
  refine bd_obj dX3_init_1 (z_in (List.mem_append_right _ (List.mem_of_getElem? (i := 241) (by decide +kernel))) rfl) (z_in (List.mem_append_right _ (List.mem_of_getElem? (i := 20) (by decide +kernel))) rfl) (z_in (List.mem_append_right _ (List.mem_of_getElem? (i := 21) (by decide +kernel))) rfl) (by decide) (by decide) ?_
  refine bd_aload (i0 := 0) dX3_init_4 rfl rfl ?_
  refine bd_bipush (v := 50) dX3_init_5 (by decide +kernel) ?_
  refine bd_newa (k := 80) (n := 50) dX3_init_7 (z_in (List.mem_append_right _ (List.mem_of_getElem? (i := 49) (by decide +kernel))) rfl) rfl bd_ty0 rfl (Nat.le_of_ble_eq_true rfl) rfl (fun j => hz0 80 (by decide +kernel) (by decide) j) (by decide +kernel) (Nat.le_of_ble_eq_true rfl) (Nat.le_of_ble_eq_true rfl) ?_
  refine bd_norm [(8, 0)] [8, 80] 1 50 σ rfl rfl rfl rfl rfl ?_
  refine bd_put (i := 0) (P' := [(8, 1)]) (ty := tyX3 0) dX3_init_9 rfl (by decide +kernel) rfl rfl uX3 tyX3_ok nmX3 (by decide) (z_in (List.mem_append_right _ (List.mem_of_getElem? (i := 242) (by decide +kernel))) rfl) rfl bd_init rfl (tyX3_ok 0 (by decide)) (fun _ => rfl) (fun _ => rfl) rfl (Nat.le_of_ble_eq_true rfl) (by decide +kernel) rfl (by decide +kernel) ?_
  refine bd_aload (i0 := 0) dX3_init_12 rfl rfl ?_
  refine bd_bipush (v := 24) dX3_init_13 (by decide +kernel) ?_
  refine bd_newa (k := 81) (n := 24) dX3_init_15 (z_in (List.mem_append_right _ (List.mem_of_getElem? (i := 49) (by decide +kernel))) rfl) rfl bd_ty0 rfl (Nat.le_of_ble_eq_true rfl) rfl (fun j => hz0 81 (by decide +kernel) (by decide) j) (by decide +kernel) (Nat.le_of_ble_eq_true rfl) (Nat.le_of_ble_eq_true rfl) ?_
  refine bd_norm [(8, 1)] [8, 80, 81] 2 74 σ rfl rfl rfl rfl rfl ?_
  refine bd_put (i := 0) (P' := [(8, 2)]) (ty := tyX3 1) dX3_init_17 rfl (by decide +kernel) rfl rfl uX3 tyX3_ok nmX3 (by decide) (z_in (List.mem_append_right _ (List.mem_of_getElem? (i := 243) (by decide +kernel))) rfl) rfl bd_init rfl (tyX3_ok 1 (by decide)) (fun _ => rfl) (fun _ => rfl) rfl (Nat.le_of_ble_eq_true rfl) (by decide +kernel) rfl (by decide +kernel) ?_
  exact bd_ret dX3_init_20 rfl rfl rfl rfl (by decide +kernel)
theorem bd_ci_X7_init : bd_CI RX8 9 yX7_init cX7_init 1 0 := ⟨z_in (List.mem_append_right _ (List.mem_of_getElem? (i := 24) (by decide +kernel))) rfl, z_in (List.mem_append_right _ (List.mem_of_getElem? (i := 25) (by decide +kernel))) rfl, nI_RX7, wc_X7_init, ⟨by decide +kernel, by decide +kernel, by decide +kernel⟩, rfl⟩
theorem bd_ci_X0_init : bd_CI RX8 18 yX0_init cX0_init 1 0 := ⟨z_in (List.mem_append_right _ (List.mem_of_getElem? (i := 52) (by decide +kernel))) rfl, z_in (List.mem_append_right _ (List.mem_of_getElem? (i := 53) (by decide +kernel))) rfl, nI_RX0, wc_X0_init, ⟨by decide +kernel, by decide +kernel, by decide +kernel⟩, rfl⟩
theorem bd_ci_X2_init : bd_CI RX8 25 yX2_init cX2_init 1 0 := ⟨z_in (List.mem_append_right _ (List.mem_of_getElem? (i := 78) (by decide +kernel))) rfl, z_in (List.mem_append_right _ (List.mem_of_getElem? (i := 79) (by decide +kernel))) rfl, nI_RX2, wc_X2_init, ⟨by decide +kernel, by decide +kernel, by decide +kernel⟩, rfl⟩
theorem bd_ci_X5_init : bd_CI RX8 32 yX5_init cX5_init 2 0 := ⟨z_in (List.mem_append_right _ (List.mem_of_getElem? (i := 116) (by decide +kernel))) rfl, z_in (List.mem_append_right _ (List.mem_of_getElem? (i := 117) (by decide +kernel))) rfl, nI_RX5, wc_X5_init, ⟨by decide +kernel, by decide +kernel, by decide +kernel⟩, rfl⟩
theorem bd_ci_X6_init : bd_CI RX8 39 yX6_init cX6_init 3 2 := ⟨z_in (List.mem_append_right _ (List.mem_of_getElem? (i := 138) (by decide +kernel))) rfl, z_in (List.mem_append_right _ (List.mem_of_getElem? (i := 139) (by decide +kernel))) rfl, nI_RX6, wc_X6_init, ⟨by decide +kernel, by decide +kernel, by decide +kernel⟩, rfl⟩
theorem bd_ci_X4_init : bd_CI RX8 48 yX4_init cX4_init 3 2 := ⟨z_in (List.mem_append_right _ (List.mem_of_getElem? (i := 173) (by decide +kernel))) rfl, z_in (List.mem_append_right _ (List.mem_of_getElem? (i := 174) (by decide +kernel))) rfl, nI_RX4, wc_X4_init, ⟨by decide +kernel, by decide +kernel, by decide +kernel⟩, rfl⟩
theorem bd_ci_X1_init : bd_CI RX8 57 yX1_init cX1_init 1 0 := ⟨z_in (List.mem_append_right _ (List.mem_of_getElem? (i := 210) (by decide +kernel))) rfl, z_in (List.mem_append_right _ (List.mem_of_getElem? (i := 211) (by decide +kernel))) rfl, nI_RX1, wc_X1_init, ⟨by decide +kernel, by decide +kernel, by decide +kernel⟩, rfl⟩
theorem bd_ci_X3_init : bd_CI RX8 64 yX3_init cX3_init 1 0 := ⟨z_in (List.mem_append_right _ (List.mem_of_getElem? (i := 238) (by decide +kernel))) rfl, z_in (List.mem_append_right _ (List.mem_of_getElem? (i := 239) (by decide +kernel))) rfl, nI_RX3, wc_X3_init, ⟨by decide +kernel, by decide +kernel, by decide +kernel⟩, rfl⟩
def FX8_init (σ : Sto) : Sto := FX5_init (FX7_init σ)
set_option maxRecDepth 100000 in
set_option maxHeartbeats 4000000 in
theorem c_X8_init : Cons yX8_init cX8_init 1 2 34 80 2953 0 [0] [zR 0] [0, 1, 12, 13, 14, 15, 16, 17, 18, 19, 20, 2, 21, 22, 23, 24, 3, 25, 26, 27, 28, 29, 4, 30, 31, 32, 33, 34, 35, 36, 37, 38, 39, 5, 40, 41, 42, 6, 43, 44, 45, 46, 47, 48, 49, 50, 51, 52, 53, 54, 55, 56, 57, 58, 59, 60, 61, 62, 63, 64, 65, 66, 67, 68, 69, 70, 71, 72, 73, 7, 74, 75, 76, 77, 78, 79, 8, 80, 81, 10, 11] FX8_init := by
  refine bd_cons (own := RX8) (Lv := [(0, zR 0)]) rfl (by decide +kernel) rfl (Nat.le_of_ble_eq_true rfl) rfl (fun σ hz0 => ?_)
  refine bd_aload (i0 := 0) dX8_init_0 rfl rfl ?_
  refine bd_obj dX8_init_1 (z_in (List.mem_append_right _ (List.mem_of_getElem? (i := 19) (by decide +kernel))) rfl) (z_in (List.mem_append_right _ (List.mem_of_getElem? (i := 20) (by decide +kernel))) rfl) (z_in (List.mem_append_right _ (List.mem_of_getElem? (i := 21) (by decide +kernel))) rfl) (by decide) (by decide) ?_
  refine bd_aload (i0 := 0) dX8_init_4 rfl rfl ?_
  refine bd_new (k := 1) (ty0 := tyX7) dX8_init_5 rfl rfl uX7 tyX7_ok (z_in (List.mem_append_right _ (List.mem_of_getElem? (i := 22) (by decide +kernel))) rfl) (z_in (List.mem_append_right _ (List.mem_of_getElem? (i := 23) (by decide +kernel))) rfl) nI_RX7 (by decide +kernel) (fun j => hz0 1 (by decide +kernel) (by decide) j) (by decide +kernel) (Nat.le_of_ble_eq_true rfl) (Nat.le_of_ble_eq_true rfl) ?_
  refine bd_norm [(1, 0), (0, 0)] [0, 1] 1 4 σ rfl rfl rfl rfl rfl ?_
  refine bd_dup dX8_init_8 ?_
  refine bd_call (w := 1) (iw := 1) (as := []) (kr := [0]) (isR := [0]) (ks' := [1, 12, 13, 14, 15, 16, 17, 18, 19, 20]) (P' := [(0, 0)]) (F := FX7_init) dX8_init_9 c_X7_init bd_ci_X7_init rfl rfl (by decide) (by decide) rfl rfl rfl (by decide +kernel) (by decide +kernel) (by decide +kernel) (by decide) (by decide +kernel) (fun k hk => FX7_init_ne (fun e => hk (by rw [e]; decide +kernel))) (by decide +kernel) (fun k hk hne j => by
    have h1 := (by decide +kernel : ∀ k ∈ ([1, 12, 13, 14, 15, 16, 17, 18, 19, 20] : List Nat), k ∈ ([0, 1, 12, 13, 14, 15, 16, 17, 18, 19, 20, 2, 21, 22, 23, 24, 3, 25, 26, 27, 28, 29, 4, 30, 31, 32, 33, 34, 35, 36, 37, 38, 39, 5, 40, 41, 42, 6, 43, 44, 45, 46, 47, 48, 49, 50, 51, 52, 53, 54, 55, 56, 57, 58, 59, 60, 61, 62, 63, 64, 65, 66, 67, 68, 69, 70, 71, 72, 73, 7, 74, 75, 76, 77, 78, 79, 8, 80, 81, 10, 11] : List Nat) ∧ k ≠ 0) k hk
    exact hz0 k h1.1 h1.2 j) (by decide +kernel) (by decide +kernel) ?_
  refine bd_norm [(0, 0)] [0, 1, 12, 13, 14, 15, 16, 17, 18, 19, 20] 10 108 (FX7_init σ) rfl rfl rfl rfl rfl ?_
  refine bd_put (i := 0) (P' := [(0, 1)]) (ty := tyX8 0) dX8_init_12 rfl (by decide +kernel) rfl rfl uX8 tyX8_ok nmX8 (by decide) (z_in (List.mem_append_right _ (List.mem_of_getElem? (i := 263) (by decide +kernel))) rfl) rfl bd_init rfl (tyX8_ok 0 (by decide)) (fun _ => rfl) (fun _ => rfl) rfl (Nat.le_of_ble_eq_true rfl) (by decide +kernel) rfl (by decide +kernel) ?_
  refine bd_aload (i0 := 0) dX8_init_15 rfl rfl ?_
  refine bd_new (k := 2) (ty0 := tyX0) dX8_init_16 rfl rfl uX0 tyX0_ok (z_in (List.mem_append_right _ (List.mem_of_getElem? (i := 50) (by decide +kernel))) rfl) (z_in (List.mem_append_right _ (List.mem_of_getElem? (i := 51) (by decide +kernel))) rfl) nI_RX0 (by decide +kernel) (fun j => hz0 2 (by decide +kernel) (by decide) j) (by decide +kernel) (Nat.le_of_ble_eq_true rfl) (Nat.le_of_ble_eq_true rfl) ?_
  refine bd_norm [(2, 0), (0, 1)] [0, 1, 12, 13, 14, 15, 16, 17, 18, 19, 20, 2] 11 114 (FX7_init σ) rfl rfl rfl rfl rfl ?_
  refine bd_dup dX8_init_19 ?_
  refine bd_call (w := 2) (iw := 11) (as := []) (kr := [0, 1, 12, 13, 14, 15, 16, 17, 18, 19, 20]) (isR := [0, 1, 2, 3, 4, 5, 6, 7, 8, 9, 10]) (ks' := [2, 21, 22, 23, 24]) (P' := [(0, 1)]) (F := (fun σ => σ)) dX8_init_20 c_X0_init bd_ci_X0_init rfl rfl (by decide) (by decide) rfl rfl rfl (by decide +kernel) (by decide +kernel) (by decide +kernel) (by decide) (by decide +kernel) (fun _ _ => rfl) (by decide +kernel) (fun k hk hne j => by
    have h1 := (by decide +kernel : ∀ k ∈ ([2, 21, 22, 23, 24] : List Nat), k ≠ 20 ∧ k ∈ ([0, 1, 12, 13, 14, 15, 16, 17, 18, 19, 20, 2, 21, 22, 23, 24, 3, 25, 26, 27, 28, 29, 4, 30, 31, 32, 33, 34, 35, 36, 37, 38, 39, 5, 40, 41, 42, 6, 43, 44, 45, 46, 47, 48, 49, 50, 51, 52, 53, 54, 55, 56, 57, 58, 59, 60, 61, 62, 63, 64, 65, 66, 67, 68, 69, 70, 71, 72, 73, 7, 74, 75, 76, 77, 78, 79, 8, 80, 81, 10, 11] : List Nat) ∧ k ≠ 0) k hk
    rw [FX7_init_ne h1.1]
    exact hz0 k h1.2.1 h1.2.2 j) (by decide +kernel) (by decide +kernel) ?_
  refine bd_norm [(0, 1)] [0, 1, 12, 13, 14, 15, 16, 17, 18, 19, 20, 2, 21, 22, 23, 24] 15 274 (FX7_init σ) rfl rfl rfl rfl rfl ?_
  refine bd_put (i := 0) (P' := [(0, 2)]) (ty := tyX8 1) dX8_init_23 rfl (by decide +kernel) rfl rfl uX8 tyX8_ok nmX8 (by decide) (z_in (List.mem_append_right _ (List.mem_of_getElem? (i := 264) (by decide +kernel))) rfl) rfl bd_init rfl (tyX8_ok 1 (by decide)) (fun _ => rfl) (fun _ => rfl) rfl (Nat.le_of_ble_eq_true rfl) (by decide +kernel) rfl (by decide +kernel) ?_
  refine bd_aload (i0 := 0) dX8_init_26 rfl rfl ?_
  refine bd_new (k := 3) (ty0 := tyX2) dX8_init_27 rfl rfl uX2 tyX2_ok (z_in (List.mem_append_right _ (List.mem_of_getElem? (i := 76) (by decide +kernel))) rfl) (z_in (List.mem_append_right _ (List.mem_of_getElem? (i := 77) (by decide +kernel))) rfl) nI_RX2 (by decide +kernel) (fun j => hz0 3 (by decide +kernel) (by decide) j) (by decide +kernel) (Nat.le_of_ble_eq_true rfl) (Nat.le_of_ble_eq_true rfl) ?_
  refine bd_norm [(3, 0), (0, 2)] [0, 1, 12, 13, 14, 15, 16, 17, 18, 19, 20, 2, 21, 22, 23, 24, 3] 16 284 (FX7_init σ) rfl rfl rfl rfl rfl ?_
  refine bd_dup dX8_init_30 ?_
  refine bd_call (w := 3) (iw := 16) (as := []) (kr := [0, 1, 12, 13, 14, 15, 16, 17, 18, 19, 20, 2, 21, 22, 23, 24]) (isR := [0, 1, 2, 3, 4, 5, 6, 7, 8, 9, 10, 11, 12, 13, 14, 15]) (ks' := [3, 25, 26, 27, 28, 29]) (P' := [(0, 2)]) (F := (fun σ => σ)) dX8_init_31 c_X2_init bd_ci_X2_init rfl rfl (by decide) (by decide) rfl rfl rfl (by decide +kernel) (by decide +kernel) (by decide +kernel) (by decide) (by decide +kernel) (fun _ _ => rfl) (by decide +kernel) (fun k hk hne j => by
    have h1 := (by decide +kernel : ∀ k ∈ ([3, 25, 26, 27, 28, 29] : List Nat), k ≠ 20 ∧ k ∈ ([0, 1, 12, 13, 14, 15, 16, 17, 18, 19, 20, 2, 21, 22, 23, 24, 3, 25, 26, 27, 28, 29, 4, 30, 31, 32, 33, 34, 35, 36, 37, 38, 39, 5, 40, 41, 42, 6, 43, 44, 45, 46, 47, 48, 49, 50, 51, 52, 53, 54, 55, 56, 57, 58, 59, 60, 61, 62, 63, 64, 65, 66, 67, 68, 69, 70, 71, 72, 73, 7, 74, 75, 76, 77, 78, 79, 8, 80, 81, 10, 11] : List Nat) ∧ k ≠ 0) k hk
    rw [FX7_init_ne h1.1]
    exact hz0 k h1.2.1 h1.2.2 j) (by decide +kernel) (by decide +kernel) ?_
  refine bd_norm [(0, 2)] [0, 1, 12, 13, 14, 15, 16, 17, 18, 19, 20, 2, 21, 22, 23, 24, 3, 25, 26, 27, 28, 29] 21 986 (FX7_init σ) rfl rfl rfl rfl rfl ?_
  refine bd_put (i := 0) (P' := [(0, 3)]) (ty := tyX8 2) dX8_init_34 rfl (by decide +kernel) rfl rfl uX8 tyX8_ok nmX8 (by decide) (z_in (List.mem_append_right _ (List.mem_of_getElem? (i := 265) (by decide +kernel))) rfl) rfl bd_init rfl (tyX8_ok 2 (by decide)) (fun _ => rfl) (fun _ => rfl) rfl (Nat.le_of_ble_eq_true rfl) (by decide +kernel) rfl (by decide +kernel) ?_
  refine bd_aload (i0 := 0) dX8_init_37 rfl rfl ?_
  refine bd_new (k := 4) (ty0 := tyX5) dX8_init_38 rfl rfl uX5 tyX5_ok (z_in (List.mem_append_right _ (List.mem_of_getElem? (i := 114) (by decide +kernel))) rfl) (z_in (List.mem_append_right _ (List.mem_of_getElem? (i := 115) (by decide +kernel))) rfl) nI_RX5 (by decide +kernel) (fun j => hz0 4 (by decide +kernel) (by decide) j) (by decide +kernel) (Nat.le_of_ble_eq_true rfl) (Nat.le_of_ble_eq_true rfl) ?_
  refine bd_norm [(4, 0), (0, 3)] [0, 1, 12, 13, 14, 15, 16, 17, 18, 19, 20, 2, 21, 22, 23, 24, 3, 25, 26, 27, 28, 29, 4] 22 990 (FX7_init σ) rfl rfl rfl rfl rfl ?_
  refine bd_dup dX8_init_41 ?_
  refine bd_call (w := 4) (iw := 22) (as := []) (kr := [0, 1, 12, 13, 14, 15, 16, 17, 18, 19, 20, 2, 21, 22, 23, 24, 3, 25, 26, 27, 28, 29]) (isR := [0, 1, 2, 3, 4, 5, 6, 7, 8, 9, 10, 11, 12, 13, 14, 15, 16, 17, 18, 19, 20, 21]) (ks' := [4, 30, 31, 32, 33, 34, 35, 36, 37, 38, 39]) (P' := [(0, 3)]) (F := FX5_init) dX8_init_42 c_X5_init bd_ci_X5_init rfl rfl (by decide) (by decide) rfl rfl rfl (by decide +kernel) (by decide +kernel) (by decide +kernel) (by decide) (by decide +kernel) (fun k hk => FX5_init_ne (fun e => hk (by rw [e]; decide +kernel))) (by decide +kernel) (fun k hk hne j => by
    have h1 := (by decide +kernel : ∀ k ∈ ([4, 30, 31, 32, 33, 34, 35, 36, 37, 38, 39] : List Nat), k ≠ 20 ∧ k ∈ ([0, 1, 12, 13, 14, 15, 16, 17, 18, 19, 20, 2, 21, 22, 23, 24, 3, 25, 26, 27, 28, 29, 4, 30, 31, 32, 33, 34, 35, 36, 37, 38, 39, 5, 40, 41, 42, 6, 43, 44, 45, 46, 47, 48, 49, 50, 51, 52, 53, 54, 55, 56, 57, 58, 59, 60, 61, 62, 63, 64, 65, 66, 67, 68, 69, 70, 71, 72, 73, 7, 74, 75, 76, 77, 78, 79, 8, 80, 81, 10, 11] : List Nat) ∧ k ≠ 0) k hk
    rw [FX7_init_ne h1.1]
    exact hz0 k h1.2.1 h1.2.2 j) (by decide +kernel) (by decide +kernel) ?_
  refine bd_norm [(0, 3)] [0, 1, 12, 13, 14, 15, 16, 17, 18, 19, 20, 2, 21, 22, 23, 24, 3, 25, 26, 27, 28, 29, 4, 30, 31, 32, 33, 34, 35, 36, 37, 38, 39] 32 1374 (FX5_init (FX7_init σ)) rfl rfl rfl rfl rfl ?_
  refine bd_put (i := 0) (P' := [(0, 4)]) (ty := tyX8 3) dX8_init_45 rfl (by decide +kernel) rfl rfl uX8 tyX8_ok nmX8 (by decide) (z_in (List.mem_append_right _ (List.mem_of_getElem? (i := 266) (by decide +kernel))) rfl) rfl bd_init rfl (tyX8_ok 3 (by decide)) (fun _ => rfl) (fun _ => rfl) rfl (Nat.le_of_ble_eq_true rfl) (by decide +kernel) rfl (by decide +kernel) ?_
  refine bd_aload (i0 := 0) dX8_init_48 rfl rfl ?_
  refine bd_new (k := 5) (ty0 := tyX6) dX8_init_49 rfl rfl uX6 tyX6_ok (z_in (List.mem_append_right _ (List.mem_of_getElem? (i := 136) (by decide +kernel))) rfl) (z_in (List.mem_append_right _ (List.mem_of_getElem? (i := 137) (by decide +kernel))) rfl) nI_RX6 (by decide +kernel) (fun j => hz0 5 (by decide +kernel) (by decide) j) (by decide +kernel) (Nat.le_of_ble_eq_true rfl) (Nat.le_of_ble_eq_true rfl) ?_
  refine bd_norm [(5, 0), (0, 4)] [0, 1, 12, 13, 14, 15, 16, 17, 18, 19, 20, 2, 21, 22, 23, 24, 3, 25, 26, 27, 28, 29, 4, 30, 31, 32, 33, 34, 35, 36, 37, 38, 39, 5] 33 1381 (FX5_init (FX7_init σ)) rfl rfl rfl rfl rfl ?_
  refine bd_dup dX8_init_52 ?_
  refine bd_aload (i0 := 0) dX8_init_53 rfl rfl ?_
  refine bd_getR (i := 0) (j := 0) (b := 1) dX8_init_54 rfl rfl rfl uX8 (by decide) (z_in (List.mem_append_right _ (List.mem_of_getElem? (i := 263) (by decide +kernel))) rfl) rfl (Nat.le_of_ble_eq_true rfl) ?_
  refine bd_aload (i0 := 0) dX8_init_57 rfl rfl ?_
  refine bd_getR (i := 0) (j := 2) (b := 3) dX8_init_58 rfl rfl rfl uX8 (by decide) (z_in (List.mem_append_right _ (List.mem_of_getElem? (i := 265) (by decide +kernel))) rfl) rfl (Nat.le_of_ble_eq_true rfl) ?_
  refine bd_call (w := 5) (iw := 33) (as := [zR 1, zR 3]) (kr := [0, 1, 12, 13, 14, 15, 16, 17, 18, 19, 20, 2, 21, 22, 23, 24, 3, 25, 26, 27, 28, 29, 4, 30, 31, 32, 33, 34, 35, 36, 37, 38, 39]) (isR := [0, 1, 2, 3, 4, 5, 6, 7, 8, 9, 10, 11, 12, 13, 14, 15, 16, 17, 18, 19, 20, 21, 22, 23, 24, 25, 26, 27, 28, 29, 30, 31, 32]) (ks' := [5, 40, 41, 42]) (P' := [(0, 4)]) (F := (fun σ => σ)) dX8_init_61 c_X6_init bd_ci_X6_init rfl rfl (by decide) (by decide) rfl rfl rfl (by decide +kernel) (by decide +kernel) (by decide +kernel) (by decide) (by decide +kernel) (fun _ _ => rfl) (by decide +kernel) (fun k hk hne j => by
    have h1 := (by decide +kernel : ∀ k ∈ ([5, 40, 41, 42] : List Nat), k ≠ 30 ∧ k ≠ 20 ∧ k ∈ ([0, 1, 12, 13, 14, 15, 16, 17, 18, 19, 20, 2, 21, 22, 23, 24, 3, 25, 26, 27, 28, 29, 4, 30, 31, 32, 33, 34, 35, 36, 37, 38, 39, 5, 40, 41, 42, 6, 43, 44, 45, 46, 47, 48, 49, 50, 51, 52, 53, 54, 55, 56, 57, 58, 59, 60, 61, 62, 63, 64, 65, 66, 67, 68, 69, 70, 71, 72, 73, 7, 74, 75, 76, 77, 78, 79, 8, 80, 81, 10, 11] : List Nat) ∧ k ≠ 0) k hk
    rw [FX5_init_ne h1.1, FX7_init_ne h1.2.1]
    exact hz0 k h1.2.2.1 h1.2.2.2 j) (by decide +kernel) (by decide +kernel) ?_
  refine bd_norm [(0, 4)] [0, 1, 12, 13, 14, 15, 16, 17, 18, 19, 20, 2, 21, 22, 23, 24, 3, 25, 26, 27, 28, 29, 4, 30, 31, 32, 33, 34, 35, 36, 37, 38, 39, 5, 40, 41, 42] 36 1413 (FX5_init (FX7_init σ)) rfl rfl rfl rfl rfl ?_
  refine bd_put (i := 0) (P' := [(0, 5)]) (ty := tyX8 4) dX8_init_64 rfl (by decide +kernel) rfl rfl uX8 tyX8_ok nmX8 (by decide) (z_in (List.mem_append_right _ (List.mem_of_getElem? (i := 267) (by decide +kernel))) rfl) rfl bd_init rfl (tyX8_ok 4 (by decide)) (fun _ => rfl) (fun _ => rfl) rfl (Nat.le_of_ble_eq_true rfl) (by decide +kernel) rfl (by decide +kernel) ?_
  refine bd_aload (i0 := 0) dX8_init_67 rfl rfl ?_
  refine bd_new (k := 6) (ty0 := tyX4) dX8_init_68 rfl rfl uX4 tyX4_ok (z_in (List.mem_append_right _ (List.mem_of_getElem? (i := 171) (by decide +kernel))) rfl) (z_in (List.mem_append_right _ (List.mem_of_getElem? (i := 172) (by decide +kernel))) rfl) nI_RX4 (by decide +kernel) (fun j => hz0 6 (by decide +kernel) (by decide) j) (by decide +kernel) (Nat.le_of_ble_eq_true rfl) (Nat.le_of_ble_eq_true rfl) ?_
  refine bd_norm [(6, 0), (0, 5)] [0, 1, 12, 13, 14, 15, 16, 17, 18, 19, 20, 2, 21, 22, 23, 24, 3, 25, 26, 27, 28, 29, 4, 30, 31, 32, 33, 34, 35, 36, 37, 38, 39, 5, 40, 41, 42, 6] 37 1422 (FX5_init (FX7_init σ)) rfl rfl rfl rfl rfl ?_
  refine bd_dup dX8_init_71 ?_
  refine bd_aload (i0 := 0) dX8_init_72 rfl rfl ?_
  refine bd_getR (i := 0) (j := 0) (b := 1) dX8_init_73 rfl rfl rfl uX8 (by decide) (z_in (List.mem_append_right _ (List.mem_of_getElem? (i := 263) (by decide +kernel))) rfl) rfl (Nat.le_of_ble_eq_true rfl) ?_
  refine bd_aload (i0 := 0) dX8_init_76 rfl rfl ?_
  refine bd_getR (i := 0) (j := 4) (b := 5) dX8_init_77 rfl rfl rfl uX8 (by decide) (z_in (List.mem_append_right _ (List.mem_of_getElem? (i := 267) (by decide +kernel))) rfl) rfl (Nat.le_of_ble_eq_true rfl) ?_
  refine bd_call (w := 6) (iw := 37) (as := [zR 1, zR 5]) (kr := [0, 1, 12, 13, 14, 15, 16, 17, 18, 19, 20, 2, 21, 22, 23, 24, 3, 25, 26, 27, 28, 29, 4, 30, 31, 32, 33, 34, 35, 36, 37, 38, 39, 5, 40, 41, 42]) (isR := [0, 1, 2, 3, 4, 5, 6, 7, 8, 9, 10, 11, 12, 13, 14, 15, 16, 17, 18, 19, 20, 21, 22, 23, 24, 25, 26, 27, 28, 29, 30, 31, 32, 33, 34, 35, 36]) (ks' := [6, 43, 44, 45, 46, 47, 48, 49, 50, 51, 52, 53, 54, 55, 56, 57, 58, 59, 60, 61, 62, 63, 64, 65, 66, 67, 68, 69, 70, 71, 72, 73]) (P' := [(0, 5)]) (F := (fun σ => σ)) dX8_init_80 c_X4_init bd_ci_X4_init rfl rfl (by decide) (by decide) rfl rfl rfl (by decide +kernel) (by decide +kernel) (by decide +kernel) (by decide) (by decide +kernel) (fun _ _ => rfl) (by decide +kernel) (fun k hk hne j => by
    have h1 := (by decide +kernel : ∀ k ∈ ([6, 43, 44, 45, 46, 47, 48, 49, 50, 51, 52, 53, 54, 55, 56, 57, 58, 59, 60, 61, 62, 63, 64, 65, 66, 67, 68, 69, 70, 71, 72, 73] : List Nat), k ≠ 30 ∧ k ≠ 20 ∧ k ∈ ([0, 1, 12, 13, 14, 15, 16, 17, 18, 19, 20, 2, 21, 22, 23, 24, 3, 25, 26, 27, 28, 29, 4, 30, 31, 32, 33, 34, 35, 36, 37, 38, 39, 5, 40, 41, 42, 6, 43, 44, 45, 46, 47, 48, 49, 50, 51, 52, 53, 54, 55, 56, 57, 58, 59, 60, 61, 62, 63, 64, 65, 66, 67, 68, 69, 70, 71, 72, 73, 7, 74, 75, 76, 77, 78, 79, 8, 80, 81, 10, 11] : List Nat) ∧ k ≠ 0) k hk
    rw [FX5_init_ne h1.1, FX7_init_ne h1.2.1]
    exact hz0 k h1.2.2.1 h1.2.2.2 j) (by decide +kernel) (by decide +kernel) ?_
  refine bd_norm [(0, 5)] [0, 1, 12, 13, 14, 15, 16, 17, 18, 19, 20, 2, 21, 22, 23, 24, 3, 25, 26, 27, 28, 29, 4, 30, 31, 32, 33, 34, 35, 36, 37, 38, 39, 5, 40, 41, 42, 6, 43, 44, 45, 46, 47, 48, 49, 50, 51, 52, 53, 54, 55, 56, 57, 58, 59, 60, 61, 62, 63, 64, 65, 66, 67, 68, 69, 70, 71, 72, 73] 68 2810 (FX5_init (FX7_init σ)) rfl rfl rfl rfl rfl ?_
  refine bd_put (i := 0) (P' := [(0, 6)]) (ty := tyX8 5) dX8_init_83 rfl (by decide +kernel) rfl rfl uX8 tyX8_ok nmX8 (by decide) (z_in (List.mem_append_right _ (List.mem_of_getElem? (i := 268) (by decide +kernel))) rfl) rfl bd_init rfl (tyX8_ok 5 (by decide)) (fun _ => rfl) (fun _ => rfl) rfl (Nat.le_of_ble_eq_true rfl) (by decide +kernel) rfl (by decide +kernel) ?_
  refine bd_aload (i0 := 0) dX8_init_86 rfl rfl ?_
  refine bd_new (k := 7) (ty0 := tyX1) dX8_init_87 rfl rfl uX1 tyX1_ok (z_in (List.mem_append_right _ (List.mem_of_getElem? (i := 208) (by decide +kernel))) rfl) (z_in (List.mem_append_right _ (List.mem_of_getElem? (i := 209) (by decide +kernel))) rfl) nI_RX1 (by decide +kernel) (fun j => hz0 7 (by decide +kernel) (by decide) j) (by decide +kernel) (Nat.le_of_ble_eq_true rfl) (Nat.le_of_ble_eq_true rfl) ?_
  refine bd_norm [(7, 0), (0, 6)] [0, 1, 12, 13, 14, 15, 16, 17, 18, 19, 20, 2, 21, 22, 23, 24, 3, 25, 26, 27, 28, 29, 4, 30, 31, 32, 33, 34, 35, 36, 37, 38, 39, 5, 40, 41, 42, 6, 43, 44, 45, 46, 47, 48, 49, 50, 51, 52, 53, 54, 55, 56, 57, 58, 59, 60, 61, 62, 63, 64, 65, 66, 67, 68, 69, 70, 71, 72, 73, 7] 69 2817 (FX5_init (FX7_init σ)) rfl rfl rfl rfl rfl ?_
  refine bd_dup dX8_init_90 ?_
  refine bd_call (w := 7) (iw := 69) (as := []) (kr := [0, 1, 12, 13, 14, 15, 16, 17, 18, 19, 20, 2, 21, 22, 23, 24, 3, 25, 26, 27, 28, 29, 4, 30, 31, 32, 33, 34, 35, 36, 37, 38, 39, 5, 40, 41, 42, 6, 43, 44, 45, 46, 47, 48, 49, 50, 51, 52, 53, 54, 55, 56, 57, 58, 59, 60, 61, 62, 63, 64, 65, 66, 67, 68, 69, 70, 71, 72, 73]) (isR := [0, 1, 2, 3, 4, 5, 6, 7, 8, 9, 10, 11, 12, 13, 14, 15, 16, 17, 18, 19, 20, 21, 22, 23, 24, 25, 26, 27, 28, 29, 30, 31, 32, 33, 34, 35, 36, 37, 38, 39, 40, 41, 42, 43, 44, 45, 46, 47, 48, 49, 50, 51, 52, 53, 54, 55, 56, 57, 58, 59, 60, 61, 62, 63, 64, 65, 66, 67, 68]) (ks' := [7, 74, 75, 76, 77, 78, 79]) (P' := [(0, 6)]) (F := (fun σ => σ)) dX8_init_91 c_X1_init bd_ci_X1_init rfl rfl (by decide) (by decide) rfl rfl rfl (by decide +kernel) (by decide +kernel) (by decide +kernel) (by decide) (by decide +kernel) (fun _ _ => rfl) (by decide +kernel) (fun k hk hne j => by
    have h1 := (by decide +kernel : ∀ k ∈ ([7, 74, 75, 76, 77, 78, 79] : List Nat), k ≠ 30 ∧ k ≠ 20 ∧ k ∈ ([0, 1, 12, 13, 14, 15, 16, 17, 18, 19, 20, 2, 21, 22, 23, 24, 3, 25, 26, 27, 28, 29, 4, 30, 31, 32, 33, 34, 35, 36, 37, 38, 39, 5, 40, 41, 42, 6, 43, 44, 45, 46, 47, 48, 49, 50, 51, 52, 53, 54, 55, 56, 57, 58, 59, 60, 61, 62, 63, 64, 65, 66, 67, 68, 69, 70, 71, 72, 73, 7, 74, 75, 76, 77, 78, 79, 8, 80, 81, 10, 11] : List Nat) ∧ k ≠ 0) k hk
    rw [FX5_init_ne h1.1, FX7_init_ne h1.2.1]
    exact hz0 k h1.2.2.1 h1.2.2.2 j) (by decide +kernel) (by decide +kernel) ?_
  refine bd_norm [(0, 6)] [0, 1, 12, 13, 14, 15, 16, 17, 18, 19, 20, 2, 21, 22, 23, 24, 3, 25, 26, 27, 28, 29, 4, 30, 31, 32, 33, 34, 35, 36, 37, 38, 39, 5, 40, 41, 42, 6, 43, 44, 45, 46, 47, 48, 49, 50, 51, 52, 53, 54, 55, 56, 57, 58, 59, 60, 61, 62, 63, 64, 65, 66, 67, 68, 69, 70, 71, 72, 73, 7, 74, 75, 76, 77, 78, 79] 75 2849 (FX5_init (FX7_init σ)) rfl rfl rfl rfl rfl ?_
  refine bd_put (i := 0) (P' := [(0, 7)]) (ty := tyX8 6) dX8_init_94 rfl (by decide +kernel) rfl rfl uX8 tyX8_ok nmX8 (by decide) (z_in (List.mem_append_right _ (List.mem_of_getElem? (i := 269) (by decide +kernel))) rfl) rfl bd_init rfl (tyX8_ok 6 (by decide)) (fun _ => rfl) (fun _ => rfl) rfl (Nat.le_of_ble_eq_true rfl) (by decide +kernel) rfl (by decide +kernel) ?_
  refine bd_aload (i0 := 0) dX8_init_97 rfl rfl ?_
  refine bd_new (k := 8) (ty0 := tyX3) dX8_init_98 rfl rfl uX3 tyX3_ok (z_in (List.mem_append_right _ (List.mem_of_getElem? (i := 236) (by decide +kernel))) rfl) (z_in (List.mem_append_right _ (List.mem_of_getElem? (i := 237) (by decide +kernel))) rfl) nI_RX3 (by decide +kernel) (fun j => hz0 8 (by decide +kernel) (by decide) j) (by decide +kernel) (Nat.le_of_ble_eq_true rfl) (Nat.le_of_ble_eq_true rfl) ?_
  refine bd_norm [(8, 0), (0, 7)] [0, 1, 12, 13, 14, 15, 16, 17, 18, 19, 20, 2, 21, 22, 23, 24, 3, 25, 26, 27, 28, 29, 4, 30, 31, 32, 33, 34, 35, 36, 37, 38, 39, 5, 40, 41, 42, 6, 43, 44, 45, 46, 47, 48, 49, 50, 51, 52, 53, 54, 55, 56, 57, 58, 59, 60, 61, 62, 63, 64, 65, 66, 67, 68, 69, 70, 71, 72, 73, 7, 74, 75, 76, 77, 78, 79, 8] 76 2855 (FX5_init (FX7_init σ)) rfl rfl rfl rfl rfl ?_
  refine bd_dup dX8_init_101 ?_
  refine bd_call (w := 8) (iw := 76) (as := []) (kr := [0, 1, 12, 13, 14, 15, 16, 17, 18, 19, 20, 2, 21, 22, 23, 24, 3, 25, 26, 27, 28, 29, 4, 30, 31, 32, 33, 34, 35, 36, 37, 38, 39, 5, 40, 41, 42, 6, 43, 44, 45, 46, 47, 48, 49, 50, 51, 52, 53, 54, 55, 56, 57, 58, 59, 60, 61, 62, 63, 64, 65, 66, 67, 68, 69, 70, 71, 72, 73, 7, 74, 75, 76, 77, 78, 79]) (isR := [0, 1, 2, 3, 4, 5, 6, 7, 8, 9, 10, 11, 12, 13, 14, 15, 16, 17, 18, 19, 20, 21, 22, 23, 24, 25, 26, 27, 28, 29, 30, 31, 32, 33, 34, 35, 36, 37, 38, 39, 40, 41, 42, 43, 44, 45, 46, 47, 48, 49, 50, 51, 52, 53, 54, 55, 56, 57, 58, 59, 60, 61, 62, 63, 64, 65, 66, 67, 68, 69, 70, 71, 72, 73, 74, 75]) (ks' := [8, 80, 81]) (P' := [(0, 7)]) (F := (fun σ => σ)) dX8_init_102 c_X3_init bd_ci_X3_init rfl rfl (by decide) (by decide) rfl rfl rfl (by decide +kernel) (by decide +kernel) (by decide +kernel) (by decide) (by decide +kernel) (fun _ _ => rfl) (by decide +kernel) (fun k hk hne j => by
    have h1 := (by decide +kernel : ∀ k ∈ ([8, 80, 81] : List Nat), k ≠ 30 ∧ k ≠ 20 ∧ k ∈ ([0, 1, 12, 13, 14, 15, 16, 17, 18, 19, 20, 2, 21, 22, 23, 24, 3, 25, 26, 27, 28, 29, 4, 30, 31, 32, 33, 34, 35, 36, 37, 38, 39, 5, 40, 41, 42, 6, 43, 44, 45, 46, 47, 48, 49, 50, 51, 52, 53, 54, 55, 56, 57, 58, 59, 60, 61, 62, 63, 64, 65, 66, 67, 68, 69, 70, 71, 72, 73, 7, 74, 75, 76, 77, 78, 79, 8, 80, 81, 10, 11] : List Nat) ∧ k ≠ 0) k hk
    rw [FX5_init_ne h1.1, FX7_init_ne h1.2.1]
    exact hz0 k h1.2.2.1 h1.2.2.2 j) (by decide +kernel) (by decide +kernel) ?_
  refine bd_norm [(0, 7)] [0, 1, 12, 13, 14, 15, 16, 17, 18, 19, 20, 2, 21, 22, 23, 24, 3, 25, 26, 27, 28, 29, 4, 30, 31, 32, 33, 34, 35, 36, 37, 38, 39, 5, 40, 41, 42, 6, 43, 44, 45, 46, 47, 48, 49, 50, 51, 52, 53, 54, 55, 56, 57, 58, 59, 60, 61, 62, 63, 64, 65, 66, 67, 68, 69, 70, 71, 72, 73, 7, 74, 75, 76, 77, 78, 79, 8, 80, 81] 78 2929 (FX5_init (FX7_init σ)) rfl rfl rfl rfl rfl ?_
  refine bd_put (i := 0) (P' := [(0, 8)]) (ty := tyX8 7) dX8_init_105 rfl (by decide +kernel) rfl rfl uX8 tyX8_ok nmX8 (by decide) (z_in (List.mem_append_right _ (List.mem_of_getElem? (i := 270) (by decide +kernel))) rfl) rfl bd_init rfl (tyX8_ok 7 (by decide)) (fun _ => rfl) (fun _ => rfl) rfl (Nat.le_of_ble_eq_true rfl) (by decide +kernel) rfl (by decide +kernel) ?_
  refine bd_aload (i0 := 0) dX8_init_108 rfl rfl ?_
  refine bd_bipush (v := 12) dX8_init_109 (by decide +kernel) ?_
  refine bd_newa (k := 10) (n := 12) dX8_init_111 (z_in (List.mem_append_right _ (List.mem_of_getElem? (i := 49) (by decide +kernel))) rfl) rfl bd_ty0 rfl (Nat.le_of_ble_eq_true rfl) rfl (fun j => hz0 10 (by decide +kernel) (by decide) j) (by decide +kernel) (Nat.le_of_ble_eq_true rfl) (Nat.le_of_ble_eq_true rfl) ?_
  refine bd_norm [(0, 8)] [0, 1, 12, 13, 14, 15, 16, 17, 18, 19, 20, 2, 21, 22, 23, 24, 3, 25, 26, 27, 28, 29, 4, 30, 31, 32, 33, 34, 35, 36, 37, 38, 39, 5, 40, 41, 42, 6, 43, 44, 45, 46, 47, 48, 49, 50, 51, 52, 53, 54, 55, 56, 57, 58, 59, 60, 61, 62, 63, 64, 65, 66, 67, 68, 69, 70, 71, 72, 73, 7, 74, 75, 76, 77, 78, 79, 8, 80, 81, 10] 79 2941 (FX5_init (FX7_init σ)) rfl rfl rfl rfl rfl ?_
  refine bd_put (i := 0) (P' := [(0, 9)]) (ty := tyX8 8) dX8_init_113 rfl (by decide +kernel) rfl rfl uX8 tyX8_ok nmX8 (by decide) (z_in (List.mem_append_right _ (List.mem_of_getElem? (i := 271) (by decide +kernel))) rfl) rfl bd_init rfl (tyX8_ok 8 (by decide)) (fun _ => rfl) (fun _ => rfl) rfl (Nat.le_of_ble_eq_true rfl) (by decide +kernel) rfl (by decide +kernel) ?_
  refine bd_aload (i0 := 0) dX8_init_116 rfl rfl ?_
  refine bd_bipush (v := 12) dX8_init_117 (by decide +kernel) ?_
  refine bd_newa (k := 11) (n := 12) dX8_init_119 (z_in (List.mem_append_right _ (List.mem_of_getElem? (i := 49) (by decide +kernel))) rfl) rfl bd_ty0 rfl (Nat.le_of_ble_eq_true rfl) rfl (fun j => hz0 11 (by decide +kernel) (by decide) j) (by decide +kernel) (Nat.le_of_ble_eq_true rfl) (Nat.le_of_ble_eq_true rfl) ?_
  refine bd_norm [(0, 9)] [0, 1, 12, 13, 14, 15, 16, 17, 18, 19, 20, 2, 21, 22, 23, 24, 3, 25, 26, 27, 28, 29, 4, 30, 31, 32, 33, 34, 35, 36, 37, 38, 39, 5, 40, 41, 42, 6, 43, 44, 45, 46, 47, 48, 49, 50, 51, 52, 53, 54, 55, 56, 57, 58, 59, 60, 61, 62, 63, 64, 65, 66, 67, 68, 69, 70, 71, 72, 73, 7, 74, 75, 76, 77, 78, 79, 8, 80, 81, 10, 11] 80 2953 (FX5_init (FX7_init σ)) rfl rfl rfl rfl rfl ?_
  refine bd_put (i := 0) (P' := [(0, 10)]) (ty := tyX8 9) dX8_init_121 rfl (by decide +kernel) rfl rfl uX8 tyX8_ok nmX8 (by decide) (z_in (List.mem_append_right _ (List.mem_of_getElem? (i := 272) (by decide +kernel))) rfl) rfl bd_init rfl (tyX8_ok 9 (by decide)) (fun _ => rfl) (fun _ => rfl) rfl (Nat.le_of_ble_eq_true rfl) (by decide +kernel) rfl (by decide +kernel) ?_
  exact bd_ret dX8_init_124 rfl rfl rfl rfl (by decide +kernel)
def FX9_init (σ : Sto) : Sto := z_put (z_put (z_put (z_put (z_put (z_put (z_put σ 9 13 (12)) 117 0 (-1)) 117 1 (-1)) 117 2 (-1)) 117 3 (-1)) 117 4 (-1)) 117 5 (-1)
set_option maxRecDepth 100000 in
set_option maxHeartbeats 4000000 in
theorem c_X9_init : Cons yX9_init cX9_init 1 1 12 39 3190 9 [9] [zR 9] [9, 82, 83, 84, 85, 86, 87, 88, 89, 90, 91, 92, 93, 94, 95, 96, 97, 98, 99, 100, 101, 102, 103, 104, 105, 106, 107, 108, 109, 110, 111, 112, 113, 114, 115, 116, 117, 118, 119, 120] FX9_init := by
  refine bd_cons (own := RX9) (Lv := [(0, zR 9)]) rfl (by decide +kernel) rfl (Nat.le_of_ble_eq_true rfl) rfl (fun σ hz0 => ?_)
  refine bd_aload (i0 := 0) dX9_init_0 rfl rfl ?_
  refine bd_obj dX9_init_1 (z_in (List.mem_append_right _ (List.mem_of_getElem? (i := 901) (by decide +kernel))) rfl) (z_in (List.mem_append_right _ (List.mem_of_getElem? (i := 20) (by decide +kernel))) rfl) (z_in (List.mem_append_right _ (List.mem_of_getElem? (i := 21) (by decide +kernel))) rfl) (by decide) (by decide) ?_
  refine bd_aload (i0 := 0) dX9_init_4 rfl rfl ?_
  refine bd_bipush (v := 12) dX9_init_5 (by decide +kernel) ?_
  refine bd_newa (k := 82) (n := 12) dX9_init_7 (z_in (List.mem_append_right _ (List.mem_of_getElem? (i := 49) (by decide +kernel))) rfl) rfl bd_ty0 rfl (Nat.le_of_ble_eq_true rfl) rfl (fun j => hz0 82 (by decide +kernel) (by decide) j) (by decide +kernel) (Nat.le_of_ble_eq_true rfl) (Nat.le_of_ble_eq_true rfl) ?_
  refine bd_norm [(9, 0)] [9, 82] 1 12 σ rfl rfl rfl rfl rfl ?_
  refine bd_put (i := 0) (P' := [(9, 3)]) (ty := tyX9 2) dX9_init_9 rfl (by decide +kernel) rfl rfl uX9 tyX9_ok nmX9 (by decide) (z_in (List.mem_append_right _ (List.mem_of_getElem? (i := 903) (by decide +kernel))) rfl) rfl bd_init rfl (tyX9_ok 2 (by decide)) (fun _ => rfl) (fun _ => rfl) rfl (Nat.le_of_ble_eq_true rfl) (by decide +kernel) rfl (by decide +kernel) ?_
  refine bd_aload (i0 := 0) dX9_init_12 rfl rfl ?_
  refine bd_bipush (v := 12) dX9_init_13 (by decide +kernel) ?_
  refine bd_newa (k := 83) (n := 12) dX9_init_15 (z_in (List.mem_append_right _ (List.mem_of_getElem? (i := 49) (by decide +kernel))) rfl) rfl bd_ty0 rfl (Nat.le_of_ble_eq_true rfl) rfl (fun j => hz0 83 (by decide +kernel) (by decide) j) (by decide +kernel) (Nat.le_of_ble_eq_true rfl) (Nat.le_of_ble_eq_true rfl) ?_
  refine bd_norm [(9, 3)] [9, 82, 83] 2 24 σ rfl rfl rfl rfl rfl ?_
  refine bd_put (i := 0) (P' := [(9, 4)]) (ty := tyX9 3) dX9_init_17 rfl (by decide +kernel) rfl rfl uX9 tyX9_ok nmX9 (by decide) (z_in (List.mem_append_right _ (List.mem_of_getElem? (i := 904) (by decide +kernel))) rfl) rfl bd_init rfl (tyX9_ok 3 (by decide)) (fun _ => rfl) (fun _ => rfl) rfl (Nat.le_of_ble_eq_true rfl) (by decide +kernel) rfl (by decide +kernel) ?_
  refine bd_aload (i0 := 0) dX9_init_20 rfl rfl ?_
  refine bd_bipush (v := 12) dX9_init_21 (by decide +kernel) ?_
  refine bd_newa (k := 84) (n := 12) dX9_init_23 (z_in (List.mem_append_right _ (List.mem_of_getElem? (i := 49) (by decide +kernel))) rfl) rfl bd_ty0 rfl (Nat.le_of_ble_eq_true rfl) rfl (fun j => hz0 84 (by decide +kernel) (by decide) j) (by decide +kernel) (Nat.le_of_ble_eq_true rfl) (Nat.le_of_ble_eq_true rfl) ?_
  refine bd_norm [(9, 4)] [9, 82, 83, 84] 3 36 σ rfl rfl rfl rfl rfl ?_
  refine bd_put (i := 0) (P' := [(9, 5)]) (ty := tyX9 4) dX9_init_25 rfl (by decide +kernel) rfl rfl uX9 tyX9_ok nmX9 (by decide) (z_in (List.mem_append_right _ (List.mem_of_getElem? (i := 905) (by decide +kernel))) rfl) rfl bd_init rfl (tyX9_ok 4 (by decide)) (fun _ => rfl) (fun _ => rfl) rfl (Nat.le_of_ble_eq_true rfl) (by decide +kernel) rfl (by decide +kernel) ?_
  refine bd_aload (i0 := 0) dX9_init_28 rfl rfl ?_
  refine bd_bipush (v := 12) dX9_init_29 (by decide +kernel) ?_
  refine bd_newa (k := 85) (n := 12) dX9_init_31 (z_in (List.mem_append_right _ (List.mem_of_getElem? (i := 49) (by decide +kernel))) rfl) rfl bd_ty0 rfl (Nat.le_of_ble_eq_true rfl) rfl (fun j => hz0 85 (by decide +kernel) (by decide) j) (by decide +kernel) (Nat.le_of_ble_eq_true rfl) (Nat.le_of_ble_eq_true rfl) ?_
  refine bd_norm [(9, 5)] [9, 82, 83, 84, 85] 4 48 σ rfl rfl rfl rfl rfl ?_
  refine bd_put (i := 0) (P' := [(9, 6)]) (ty := tyX9 5) dX9_init_33 rfl (by decide +kernel) rfl rfl uX9 tyX9_ok nmX9 (by decide) (z_in (List.mem_append_right _ (List.mem_of_getElem? (i := 906) (by decide +kernel))) rfl) rfl bd_init rfl (tyX9_ok 5 (by decide)) (fun _ => rfl) (fun _ => rfl) rfl (Nat.le_of_ble_eq_true rfl) (by decide +kernel) rfl (by decide +kernel) ?_
  refine bd_aload (i0 := 0) dX9_init_36 rfl rfl ?_
  refine bd_bipush (v := 12) dX9_init_37 (by decide +kernel) ?_
  refine bd_newa (k := 86) (n := 12) dX9_init_39 (z_in (List.mem_append_right _ (List.mem_of_getElem? (i := 49) (by decide +kernel))) rfl) rfl bd_ty0 rfl (Nat.le_of_ble_eq_true rfl) rfl (fun j => hz0 86 (by decide +kernel) (by decide) j) (by decide +kernel) (Nat.le_of_ble_eq_true rfl) (Nat.le_of_ble_eq_true rfl) ?_
  refine bd_norm [(9, 6)] [9, 82, 83, 84, 85, 86] 5 60 σ rfl rfl rfl rfl rfl ?_
  refine bd_put (i := 0) (P' := [(9, 7)]) (ty := tyX9 6) dX9_init_41 rfl (by decide +kernel) rfl rfl uX9 tyX9_ok nmX9 (by decide) (z_in (List.mem_append_right _ (List.mem_of_getElem? (i := 907) (by decide +kernel))) rfl) rfl bd_init rfl (tyX9_ok 6 (by decide)) (fun _ => rfl) (fun _ => rfl) rfl (Nat.le_of_ble_eq_true rfl) (by decide +kernel) rfl (by decide +kernel) ?_
  refine bd_aload (i0 := 0) dX9_init_44 rfl rfl ?_
  refine bd_iconst dX9_init_45 ?_
  refine bd_newa (k := 87) (n := 5) dX9_init_46 (z_in (List.mem_append_right _ (List.mem_of_getElem? (i := 49) (by decide +kernel))) rfl) rfl bd_ty0 rfl (Nat.le_of_ble_eq_true rfl) rfl (fun j => hz0 87 (by decide +kernel) (by decide) j) (by decide +kernel) (Nat.le_of_ble_eq_true rfl) (Nat.le_of_ble_eq_true rfl) ?_
  refine bd_norm [(9, 7)] [9, 82, 83, 84, 85, 86, 87] 6 65 σ rfl rfl rfl rfl rfl ?_
  refine bd_put (i := 0) (P' := [(9, 9)]) (ty := tyX9 8) dX9_init_48 rfl (by decide +kernel) rfl rfl uX9 tyX9_ok nmX9 (by decide) (z_in (List.mem_append_right _ (List.mem_of_getElem? (i := 909) (by decide +kernel))) rfl) rfl bd_init rfl (tyX9_ok 8 (by decide)) (fun _ => rfl) (fun _ => rfl) rfl (Nat.le_of_ble_eq_true rfl) (by decide +kernel) rfl (by decide +kernel) ?_
  refine bd_aload (i0 := 0) dX9_init_51 rfl rfl ?_
  refine bd_iconst dX9_init_52 ?_
  refine bd_newa (k := 88) (n := 5) dX9_init_53 (z_in (List.mem_append_right _ (List.mem_of_getElem? (i := 49) (by decide +kernel))) rfl) rfl bd_ty0 rfl (Nat.le_of_ble_eq_true rfl) rfl (fun j => hz0 88 (by decide +kernel) (by decide) j) (by decide +kernel) (Nat.le_of_ble_eq_true rfl) (Nat.le_of_ble_eq_true rfl) ?_
  refine bd_norm [(9, 9)] [9, 82, 83, 84, 85, 86, 87, 88] 7 70 σ rfl rfl rfl rfl rfl ?_
  refine bd_put (i := 0) (P' := [(9, 10)]) (ty := tyX9 9) dX9_init_55 rfl (by decide +kernel) rfl rfl uX9 tyX9_ok nmX9 (by decide) (z_in (List.mem_append_right _ (List.mem_of_getElem? (i := 910) (by decide +kernel))) rfl) rfl bd_init rfl (tyX9_ok 9 (by decide)) (fun _ => rfl) (fun _ => rfl) rfl (Nat.le_of_ble_eq_true rfl) (by decide +kernel) rfl (by decide +kernel) ?_
  refine bd_aload (i0 := 0) dX9_init_58 rfl rfl ?_
  refine bd_iconst dX9_init_59 ?_
  refine bd_newa (k := 89) (n := 5) dX9_init_60 (z_in (List.mem_append_right _ (List.mem_of_getElem? (i := 49) (by decide +kernel))) rfl) rfl bd_ty0 rfl (Nat.le_of_ble_eq_true rfl) rfl (fun j => hz0 89 (by decide +kernel) (by decide) j) (by decide +kernel) (Nat.le_of_ble_eq_true rfl) (Nat.le_of_ble_eq_true rfl) ?_
  refine bd_norm [(9, 10)] [9, 82, 83, 84, 85, 86, 87, 88, 89] 8 75 σ rfl rfl rfl rfl rfl ?_
  refine bd_put (i := 0) (P' := [(9, 11)]) (ty := tyX9 10) dX9_init_62 rfl (by decide +kernel) rfl rfl uX9 tyX9_ok nmX9 (by decide) (z_in (List.mem_append_right _ (List.mem_of_getElem? (i := 911) (by decide +kernel))) rfl) rfl bd_init rfl (tyX9_ok 10 (by decide)) (fun _ => rfl) (fun _ => rfl) rfl (Nat.le_of_ble_eq_true rfl) (by decide +kernel) rfl (by decide +kernel) ?_
  refine bd_aload (i0 := 0) dX9_init_65 rfl rfl ?_
  refine bd_bipush (v := 6) dX9_init_66 (by decide +kernel) ?_
  refine bd_newa (k := 90) (n := 6) dX9_init_68 (z_in (List.mem_append_right _ (List.mem_of_getElem? (i := 49) (by decide +kernel))) rfl) rfl bd_ty0 rfl (Nat.le_of_ble_eq_true rfl) rfl (fun j => hz0 90 (by decide +kernel) (by decide) j) (by decide +kernel) (Nat.le_of_ble_eq_true rfl) (Nat.le_of_ble_eq_true rfl) ?_
  refine bd_norm [(9, 11)] [9, 82, 83, 84, 85, 86, 87, 88, 89, 90] 9 81 σ rfl rfl rfl rfl rfl ?_
  refine bd_put (i := 0) (P' := [(9, 13)]) (ty := tyX9 12) dX9_init_70 rfl (by decide +kernel) rfl rfl uX9 tyX9_ok nmX9 (by decide) (z_in (List.mem_append_right _ (List.mem_of_getElem? (i := 913) (by decide +kernel))) rfl) rfl bd_init rfl (tyX9_ok 12 (by decide)) (fun _ => rfl) (fun _ => rfl) rfl (Nat.le_of_ble_eq_true rfl) (by decide +kernel) rfl (by decide +kernel) ?_
  refine bd_aload (i0 := 0) dX9_init_73 rfl rfl ?_
  refine bd_bipush (v := 12) dX9_init_74 (by decide +kernel) ?_
  refine bd_puti (i := 0) dX9_init_76 rfl (by decide +kernel) rfl rfl uX9 tyX9_ok nmX9 (by decide) (z_in (List.mem_append_right _ (List.mem_of_getElem? (i := 914) (by decide +kernel))) rfl) rfl (tyX9_ok 13 (by decide)) rfl ?_
  refine bd_aload (i0 := 0) dX9_init_79 rfl rfl ?_
  refine bd_bipush (v := 40) dX9_init_80 (by decide +kernel) ?_
  refine bd_newa (k := 91) (n := 40) dX9_init_82 (z_in (List.mem_append_right _ (List.mem_of_getElem? (i := 49) (by decide +kernel))) rfl) rfl bd_ty0 rfl (Nat.le_of_ble_eq_true rfl) rfl (fun j => hz0 91 (by decide +kernel) (by decide) j) (by decide +kernel) (Nat.le_of_ble_eq_true rfl) (Nat.le_of_ble_eq_true rfl) ?_
  refine bd_norm [(9, 13)] [9, 82, 83, 84, 85, 86, 87, 88, 89, 90, 91] 10 121 (z_put σ 9 13 (12)) rfl rfl rfl rfl rfl ?_
  refine bd_put (i := 0) (P' := [(9, 17)]) (ty := tyX9 16) dX9_init_84 rfl (by decide +kernel) rfl rfl uX9 tyX9_ok nmX9 (by decide) (z_in (List.mem_append_right _ (List.mem_of_getElem? (i := 917) (by decide +kernel))) rfl) rfl bd_init rfl (tyX9_ok 16 (by decide)) (fun _ => rfl) (fun _ => rfl) rfl (Nat.le_of_ble_eq_true rfl) (by decide +kernel) rfl (by decide +kernel) ?_
  refine bd_aload (i0 := 0) dX9_init_87 rfl rfl ?_
  refine bd_bipush (v := 40) dX9_init_88 (by decide +kernel) ?_
  refine bd_newa (k := 92) (n := 40) dX9_init_90 (z_in (List.mem_append_right _ (List.mem_of_getElem? (i := 49) (by decide +kernel))) rfl) rfl bd_ty0 rfl (Nat.le_of_ble_eq_true rfl) rfl (fun j => hz0 92 (by decide +kernel) (by decide) j) (by decide +kernel) (Nat.le_of_ble_eq_true rfl) (Nat.le_of_ble_eq_true rfl) ?_
  refine bd_norm [(9, 17)] [9, 82, 83, 84, 85, 86, 87, 88, 89, 90, 91, 92] 11 161 (z_put σ 9 13 (12)) rfl rfl rfl rfl rfl ?_
  refine bd_put (i := 0) (P' := [(9, 18)]) (ty := tyX9 17) dX9_init_92 rfl (by decide +kernel) rfl rfl uX9 tyX9_ok nmX9 (by decide) (z_in (List.mem_append_right _ (List.mem_of_getElem? (i := 918) (by decide +kernel))) rfl) rfl bd_init rfl (tyX9_ok 17 (by decide)) (fun _ => rfl) (fun _ => rfl) rfl (Nat.le_of_ble_eq_true rfl) (by decide +kernel) rfl (by decide +kernel) ?_
  refine bd_aload (i0 := 0) dX9_init_95 rfl rfl ?_
  refine bd_bipush (v := 40) dX9_init_96 (by decide +kernel) ?_
  refine bd_newa (k := 93) (n := 40) dX9_init_98 (z_in (List.mem_append_right _ (List.mem_of_getElem? (i := 49) (by decide +kernel))) rfl) rfl bd_ty0 rfl (Nat.le_of_ble_eq_true rfl) rfl (fun j => hz0 93 (by decide +kernel) (by decide) j) (by decide +kernel) (Nat.le_of_ble_eq_true rfl) (Nat.le_of_ble_eq_true rfl) ?_
  refine bd_norm [(9, 18)] [9, 82, 83, 84, 85, 86, 87, 88, 89, 90, 91, 92, 93] 12 201 (z_put σ 9 13 (12)) rfl rfl rfl rfl rfl ?_
  refine bd_put (i := 0) (P' := [(9, 19)]) (ty := tyX9 18) dX9_init_100 rfl (by decide +kernel) rfl rfl uX9 tyX9_ok nmX9 (by decide) (z_in (List.mem_append_right _ (List.mem_of_getElem? (i := 919) (by decide +kernel))) rfl) rfl bd_init rfl (tyX9_ok 18 (by decide)) (fun _ => rfl) (fun _ => rfl) rfl (Nat.le_of_ble_eq_true rfl) (by decide +kernel) rfl (by decide +kernel) ?_
  refine bd_aload (i0 := 0) dX9_init_103 rfl rfl ?_
  refine bd_bipush (v := 40) dX9_init_104 (by decide +kernel) ?_
  refine bd_newa (k := 94) (n := 40) dX9_init_106 (z_in (List.mem_append_right _ (List.mem_of_getElem? (i := 49) (by decide +kernel))) rfl) rfl bd_ty0 rfl (Nat.le_of_ble_eq_true rfl) rfl (fun j => hz0 94 (by decide +kernel) (by decide) j) (by decide +kernel) (Nat.le_of_ble_eq_true rfl) (Nat.le_of_ble_eq_true rfl) ?_
  refine bd_norm [(9, 19)] [9, 82, 83, 84, 85, 86, 87, 88, 89, 90, 91, 92, 93, 94] 13 241 (z_put σ 9 13 (12)) rfl rfl rfl rfl rfl ?_
  refine bd_put (i := 0) (P' := [(9, 20)]) (ty := tyX9 19) dX9_init_108 rfl (by decide +kernel) rfl rfl uX9 tyX9_ok nmX9 (by decide) (z_in (List.mem_append_right _ (List.mem_of_getElem? (i := 920) (by decide +kernel))) rfl) rfl bd_init rfl (tyX9_ok 19 (by decide)) (fun _ => rfl) (fun _ => rfl) rfl (Nat.le_of_ble_eq_true rfl) (by decide +kernel) rfl (by decide +kernel) ?_
  refine bd_aload (i0 := 0) dX9_init_111 rfl rfl ?_
  refine bd_bipush (v := 120) dX9_init_112 (by decide +kernel) ?_
  refine bd_newa (k := 95) (n := 120) dX9_init_114 (z_in (List.mem_append_right _ (List.mem_of_getElem? (i := 1088) (by decide +kernel))) rfl) rfl bd_ty1 rfl (Nat.le_of_ble_eq_true rfl) rfl (fun j => hz0 95 (by decide +kernel) (by decide) j) (by decide +kernel) (Nat.le_of_ble_eq_true rfl) (Nat.le_of_ble_eq_true rfl) ?_
  refine bd_norm [(9, 20)] [9, 82, 83, 84, 85, 86, 87, 88, 89, 90, 91, 92, 93, 94, 95] 14 361 (z_put σ 9 13 (12)) rfl rfl rfl rfl rfl ?_
  refine bd_put (i := 0) (P' := [(9, 21)]) (ty := tyX9 20) dX9_init_116 rfl (by decide +kernel) rfl rfl uX9 tyX9_ok nmX9 (by decide) (z_in (List.mem_append_right _ (List.mem_of_getElem? (i := 921) (by decide +kernel))) rfl) rfl bd_init rfl (tyX9_ok 20 (by decide)) (fun _ => rfl) (fun _ => rfl) rfl (Nat.le_of_ble_eq_true rfl) (by decide +kernel) rfl (by decide +kernel) ?_
  refine bd_aload (i0 := 0) dX9_init_119 rfl rfl ?_
  refine bd_sipush (v := 260) dX9_init_120 (by decide +kernel) ?_
  refine bd_newa (k := 96) (n := 260) dX9_init_123 (z_in (List.mem_append_right _ (List.mem_of_getElem? (i := 1088) (by decide +kernel))) rfl) rfl bd_ty1 rfl (Nat.le_of_ble_eq_true rfl) rfl (fun j => hz0 96 (by decide +kernel) (by decide) j) (by decide +kernel) (Nat.le_of_ble_eq_true rfl) (Nat.le_of_ble_eq_true rfl) ?_
  refine bd_norm [(9, 21)] [9, 82, 83, 84, 85, 86, 87, 88, 89, 90, 91, 92, 93, 94, 95, 96] 15 621 (z_put σ 9 13 (12)) rfl rfl rfl rfl rfl ?_
  refine bd_put (i := 0) (P' := [(9, 27)]) (ty := tyX9 26) dX9_init_125 rfl (by decide +kernel) rfl rfl uX9 tyX9_ok nmX9 (by decide) (z_in (List.mem_append_right _ (List.mem_of_getElem? (i := 927) (by decide +kernel))) rfl) rfl bd_init rfl (tyX9_ok 26 (by decide)) (fun _ => rfl) (fun _ => rfl) rfl (Nat.le_of_ble_eq_true rfl) (by decide +kernel) rfl (by decide +kernel) ?_
  refine bd_aload (i0 := 0) dX9_init_128 rfl rfl ?_
  refine bd_sipush (v := 260) dX9_init_129 (by decide +kernel) ?_
  refine bd_newa (k := 97) (n := 260) dX9_init_132 (z_in (List.mem_append_right _ (List.mem_of_getElem? (i := 49) (by decide +kernel))) rfl) rfl bd_ty0 rfl (Nat.le_of_ble_eq_true rfl) rfl (fun j => hz0 97 (by decide +kernel) (by decide) j) (by decide +kernel) (Nat.le_of_ble_eq_true rfl) (Nat.le_of_ble_eq_true rfl) ?_
  refine bd_norm [(9, 27)] [9, 82, 83, 84, 85, 86, 87, 88, 89, 90, 91, 92, 93, 94, 95, 96, 97] 16 881 (z_put σ 9 13 (12)) rfl rfl rfl rfl rfl ?_
  refine bd_put (i := 0) (P' := [(9, 28)]) (ty := tyX9 27) dX9_init_134 rfl (by decide +kernel) rfl rfl uX9 tyX9_ok nmX9 (by decide) (z_in (List.mem_append_right _ (List.mem_of_getElem? (i := 928) (by decide +kernel))) rfl) rfl bd_init rfl (tyX9_ok 27 (by decide)) (fun _ => rfl) (fun _ => rfl) rfl (Nat.le_of_ble_eq_true rfl) (by decide +kernel) rfl (by decide +kernel) ?_
  refine bd_aload (i0 := 0) dX9_init_137 rfl rfl ?_
  refine bd_iconst dX9_init_138 ?_
  refine bd_newa (k := 98) (n := 2) dX9_init_139 (z_in (List.mem_append_right _ (List.mem_of_getElem? (i := 49) (by decide +kernel))) rfl) rfl bd_ty0 rfl (Nat.le_of_ble_eq_true rfl) rfl (fun j => hz0 98 (by decide +kernel) (by decide) j) (by decide +kernel) (Nat.le_of_ble_eq_true rfl) (Nat.le_of_ble_eq_true rfl) ?_
  refine bd_norm [(9, 28)] [9, 82, 83, 84, 85, 86, 87, 88, 89, 90, 91, 92, 93, 94, 95, 96, 97, 98] 17 883 (z_put σ 9 13 (12)) rfl rfl rfl rfl rfl ?_
  refine bd_put (i := 0) (P' := [(9, 29)]) (ty := tyX9 28) dX9_init_141 rfl (by decide +kernel) rfl rfl uX9 tyX9_ok nmX9 (by decide) (z_in (List.mem_append_right _ (List.mem_of_getElem? (i := 929) (by decide +kernel))) rfl) rfl bd_init rfl (tyX9_ok 28 (by decide)) (fun _ => rfl) (fun _ => rfl) rfl (Nat.le_of_ble_eq_true rfl) (by decide +kernel) rfl (by decide +kernel) ?_
  refine bd_aload (i0 := 0) dX9_init_144 rfl rfl ?_
  refine bd_bipush (v := 122) dX9_init_145 (by decide +kernel) ?_
  refine bd_newa (k := 99) (n := 122) dX9_init_147 (z_in (List.mem_append_right _ (List.mem_of_getElem? (i := 1089) (by decide +kernel))) rfl) rfl bd_ty2 rfl (Nat.le_of_ble_eq_true rfl) rfl (fun j => hz0 99 (by decide +kernel) (by decide) j) (by decide +kernel) (Nat.le_of_ble_eq_true rfl) (Nat.le_of_ble_eq_true rfl) ?_
  refine bd_norm [(9, 29)] [9, 82, 83, 84, 85, 86, 87, 88, 89, 90, 91, 92, 93, 94, 95, 96, 97, 98, 99] 18 1005 (z_put σ 9 13 (12)) rfl rfl rfl rfl rfl ?_
  refine bd_put (i := 0) (P' := [(9, 30)]) (ty := tyX9 29) dX9_init_149 rfl (by decide +kernel) rfl rfl uX9 tyX9_ok nmX9 (by decide) (z_in (List.mem_append_right _ (List.mem_of_getElem? (i := 930) (by decide +kernel))) rfl) rfl bd_init rfl (tyX9_ok 29 (by decide)) (fun _ => rfl) (fun _ => rfl) rfl (Nat.le_of_ble_eq_true rfl) (by decide +kernel) rfl (by decide +kernel) ?_
  refine bd_aload (i0 := 0) dX9_init_152 rfl rfl ?_
  refine bd_bipush (v := 122) dX9_init_153 (by decide +kernel) ?_
  refine bd_newa (k := 100) (n := 122) dX9_init_155 (z_in (List.mem_append_right _ (List.mem_of_getElem? (i := 1089) (by decide +kernel))) rfl) rfl bd_ty2 rfl (Nat.le_of_ble_eq_true rfl) rfl (fun j => hz0 100 (by decide +kernel) (by decide) j) (by decide +kernel) (Nat.le_of_ble_eq_true rfl) (Nat.le_of_ble_eq_true rfl) ?_
  refine bd_norm [(9, 30)] [9, 82, 83, 84, 85, 86, 87, 88, 89, 90, 91, 92, 93, 94, 95, 96, 97, 98, 99, 100] 19 1127 (z_put σ 9 13 (12)) rfl rfl rfl rfl rfl ?_
  refine bd_put (i := 0) (P' := [(9, 31)]) (ty := tyX9 30) dX9_init_157 rfl (by decide +kernel) rfl rfl uX9 tyX9_ok nmX9 (by decide) (z_in (List.mem_append_right _ (List.mem_of_getElem? (i := 931) (by decide +kernel))) rfl) rfl bd_init rfl (tyX9_ok 30 (by decide)) (fun _ => rfl) (fun _ => rfl) rfl (Nat.le_of_ble_eq_true rfl) (by decide +kernel) rfl (by decide +kernel) ?_
  refine bd_aload (i0 := 0) dX9_init_160 rfl rfl ?_
  refine bd_bipush (v := 6) dX9_init_161 (by decide +kernel) ?_
  refine bd_newa (k := 101) (n := 6) dX9_init_163 (z_in (List.mem_append_right _ (List.mem_of_getElem? (i := 49) (by decide +kernel))) rfl) rfl bd_ty0 rfl (Nat.le_of_ble_eq_true rfl) rfl (fun j => hz0 101 (by decide +kernel) (by decide) j) (by decide +kernel) (Nat.le_of_ble_eq_true rfl) (Nat.le_of_ble_eq_true rfl) ?_
  refine bd_norm [(9, 31)] [9, 82, 83, 84, 85, 86, 87, 88, 89, 90, 91, 92, 93, 94, 95, 96, 97, 98, 99, 100, 101] 20 1133 (z_put σ 9 13 (12)) rfl rfl rfl rfl rfl ?_
  refine bd_put (i := 0) (P' := [(9, 32)]) (ty := tyX9 31) dX9_init_165 rfl (by decide +kernel) rfl rfl uX9 tyX9_ok nmX9 (by decide) (z_in (List.mem_append_right _ (List.mem_of_getElem? (i := 932) (by decide +kernel))) rfl) rfl bd_init rfl (tyX9_ok 31 (by decide)) (fun _ => rfl) (fun _ => rfl) rfl (Nat.le_of_ble_eq_true rfl) (by decide +kernel) rfl (by decide +kernel) ?_
  refine bd_aload (i0 := 0) dX9_init_168 rfl rfl ?_
  refine bd_sipush (v := 130) dX9_init_169 (by decide +kernel) ?_
  refine bd_newa (k := 102) (n := 130) dX9_init_172 (z_in (List.mem_append_right _ (List.mem_of_getElem? (i := 49) (by decide +kernel))) rfl) rfl bd_ty0 rfl (Nat.le_of_ble_eq_true rfl) rfl (fun j => hz0 102 (by decide +kernel) (by decide) j) (by decide +kernel) (Nat.le_of_ble_eq_true rfl) (Nat.le_of_ble_eq_true rfl) ?_
  refine bd_norm [(9, 32)] [9, 82, 83, 84, 85, 86, 87, 88, 89, 90, 91, 92, 93, 94, 95, 96, 97, 98, 99, 100, 101, 102] 21 1263 (z_put σ 9 13 (12)) rfl rfl rfl rfl rfl ?_
  refine bd_put (i := 0) (P' := [(9, 33)]) (ty := tyX9 32) dX9_init_174 rfl (by decide +kernel) rfl rfl uX9 tyX9_ok nmX9 (by decide) (z_in (List.mem_append_right _ (List.mem_of_getElem? (i := 933) (by decide +kernel))) rfl) rfl bd_init rfl (tyX9_ok 32 (by decide)) (fun _ => rfl) (fun _ => rfl) rfl (Nat.le_of_ble_eq_true rfl) (by decide +kernel) rfl (by decide +kernel) ?_
  refine bd_aload (i0 := 0) dX9_init_177 rfl rfl ?_
  refine bd_bipush (v := 13) dX9_init_178 (by decide +kernel) ?_
  refine bd_newa (k := 103) (n := 13) dX9_init_180 (z_in (List.mem_append_right _ (List.mem_of_getElem? (i := 49) (by decide +kernel))) rfl) rfl bd_ty0 rfl (Nat.le_of_ble_eq_true rfl) rfl (fun j => hz0 103 (by decide +kernel) (by decide) j) (by decide +kernel) (Nat.le_of_ble_eq_true rfl) (Nat.le_of_ble_eq_true rfl) ?_
  refine bd_norm [(9, 33)] [9, 82, 83, 84, 85, 86, 87, 88, 89, 90, 91, 92, 93, 94, 95, 96, 97, 98, 99, 100, 101, 102, 103] 22 1276 (z_put σ 9 13 (12)) rfl rfl rfl rfl rfl ?_
  refine bd_put (i := 0) (P' := [(9, 35)]) (ty := tyX9 34) dX9_init_182 rfl (by decide +kernel) rfl rfl uX9 tyX9_ok nmX9 (by decide) (z_in (List.mem_append_right _ (List.mem_of_getElem? (i := 935) (by decide +kernel))) rfl) rfl bd_init rfl (tyX9_ok 34 (by decide)) (fun _ => rfl) (fun _ => rfl) rfl (Nat.le_of_ble_eq_true rfl) (by decide +kernel) rfl (by decide +kernel) ?_
  refine bd_aload (i0 := 0) dX9_init_185 rfl rfl ?_
  refine bd_bipush (v := 13) dX9_init_186 (by decide +kernel) ?_
  refine bd_newa (k := 104) (n := 13) dX9_init_188 (z_in (List.mem_append_right _ (List.mem_of_getElem? (i := 49) (by decide +kernel))) rfl) rfl bd_ty0 rfl (Nat.le_of_ble_eq_true rfl) rfl (fun j => hz0 104 (by decide +kernel) (by decide) j) (by decide +kernel) (Nat.le_of_ble_eq_true rfl) (Nat.le_of_ble_eq_true rfl) ?_
  refine bd_norm [(9, 35)] [9, 82, 83, 84, 85, 86, 87, 88, 89, 90, 91, 92, 93, 94, 95, 96, 97, 98, 99, 100, 101, 102, 103, 104] 23 1289 (z_put σ 9 13 (12)) rfl rfl rfl rfl rfl ?_
  refine bd_put (i := 0) (P' := [(9, 37)]) (ty := tyX9 36) dX9_init_190 rfl (by decide +kernel) rfl rfl uX9 tyX9_ok nmX9 (by decide) (z_in (List.mem_append_right _ (List.mem_of_getElem? (i := 937) (by decide +kernel))) rfl) rfl bd_init rfl (tyX9_ok 36 (by decide)) (fun _ => rfl) (fun _ => rfl) rfl (Nat.le_of_ble_eq_true rfl) (by decide +kernel) rfl (by decide +kernel) ?_
  refine bd_aload (i0 := 0) dX9_init_193 rfl rfl ?_
  refine bd_bipush (v := 13) dX9_init_194 (by decide +kernel) ?_
  refine bd_newa (k := 105) (n := 13) dX9_init_196 (z_in (List.mem_append_right _ (List.mem_of_getElem? (i := 49) (by decide +kernel))) rfl) rfl bd_ty0 rfl (Nat.le_of_ble_eq_true rfl) rfl (fun j => hz0 105 (by decide +kernel) (by decide) j) (by decide +kernel) (Nat.le_of_ble_eq_true rfl) (Nat.le_of_ble_eq_true rfl) ?_
  refine bd_norm [(9, 37)] [9, 82, 83, 84, 85, 86, 87, 88, 89, 90, 91, 92, 93, 94, 95, 96, 97, 98, 99, 100, 101, 102, 103, 104, 105] 24 1302 (z_put σ 9 13 (12)) rfl rfl rfl rfl rfl ?_
  refine bd_put (i := 0) (P' := [(9, 39)]) (ty := tyX9 38) dX9_init_198 rfl (by decide +kernel) rfl rfl uX9 tyX9_ok nmX9 (by decide) (z_in (List.mem_append_right _ (List.mem_of_getElem? (i := 939) (by decide +kernel))) rfl) rfl bd_init rfl (tyX9_ok 38 (by decide)) (fun _ => rfl) (fun _ => rfl) rfl (Nat.le_of_ble_eq_true rfl) (by decide +kernel) rfl (by decide +kernel) ?_
  refine bd_aload (i0 := 0) dX9_init_201 rfl rfl ?_
  refine bd_sipush (v := 143) dX9_init_202 (by decide +kernel) ?_
  refine bd_newa (k := 106) (n := 143) dX9_init_205 (z_in (List.mem_append_right _ (List.mem_of_getElem? (i := 207) (by decide +kernel))) rfl) rfl bd_ty3 rfl (Nat.le_of_ble_eq_true rfl) rfl (fun j => hz0 106 (by decide +kernel) (by decide) j) (by decide +kernel) (Nat.le_of_ble_eq_true rfl) (Nat.le_of_ble_eq_true rfl) ?_
  refine bd_norm [(9, 39)] [9, 82, 83, 84, 85, 86, 87, 88, 89, 90, 91, 92, 93, 94, 95, 96, 97, 98, 99, 100, 101, 102, 103, 104, 105, 106] 25 1445 (z_put σ 9 13 (12)) rfl rfl rfl rfl rfl ?_
  refine bd_put (i := 0) (P' := [(9, 41)]) (ty := tyX9 40) dX9_init_207 rfl (by decide +kernel) rfl rfl uX9 tyX9_ok nmX9 (by decide) (z_in (List.mem_append_right _ (List.mem_of_getElem? (i := 941) (by decide +kernel))) rfl) rfl bd_init rfl (tyX9_ok 40 (by decide)) (fun _ => rfl) (fun _ => rfl) rfl (Nat.le_of_ble_eq_true rfl) (by decide +kernel) rfl (by decide +kernel) ?_
  refine bd_aload (i0 := 0) dX9_init_210 rfl rfl ?_
  refine bd_bipush (v := 12) dX9_init_211 (by decide +kernel) ?_
  refine bd_newa (k := 107) (n := 12) dX9_init_213 (z_in (List.mem_append_right _ (List.mem_of_getElem? (i := 49) (by decide +kernel))) rfl) rfl bd_ty0 rfl (Nat.le_of_ble_eq_true rfl) rfl (fun j => hz0 107 (by decide +kernel) (by decide) j) (by decide +kernel) (Nat.le_of_ble_eq_true rfl) (Nat.le_of_ble_eq_true rfl) ?_
  refine bd_norm [(9, 41)] [9, 82, 83, 84, 85, 86, 87, 88, 89, 90, 91, 92, 93, 94, 95, 96, 97, 98, 99, 100, 101, 102, 103, 104, 105, 106, 107] 26 1457 (z_put σ 9 13 (12)) rfl rfl rfl rfl rfl ?_
  refine bd_put (i := 0) (P' := [(9, 43)]) (ty := tyX9 42) dX9_init_215 rfl (by decide +kernel) rfl rfl uX9 tyX9_ok nmX9 (by decide) (z_in (List.mem_append_right _ (List.mem_of_getElem? (i := 943) (by decide +kernel))) rfl) rfl bd_init rfl (tyX9_ok 42 (by decide)) (fun _ => rfl) (fun _ => rfl) rfl (Nat.le_of_ble_eq_true rfl) (by decide +kernel) rfl (by decide +kernel) ?_
  refine bd_aload (i0 := 0) dX9_init_218 rfl rfl ?_
  refine bd_sipush (v := 169) dX9_init_219 (by decide +kernel) ?_
  refine bd_newa (k := 108) (n := 169) dX9_init_222 (z_in (List.mem_append_right _ (List.mem_of_getElem? (i := 135) (by decide +kernel))) rfl) rfl bd_ty4 rfl (Nat.le_of_ble_eq_true rfl) rfl (fun j => hz0 108 (by decide +kernel) (by decide) j) (by decide +kernel) (Nat.le_of_ble_eq_true rfl) (Nat.le_of_ble_eq_true rfl) ?_
  refine bd_norm [(9, 43)] [9, 82, 83, 84, 85, 86, 87, 88, 89, 90, 91, 92, 93, 94, 95, 96, 97, 98, 99, 100, 101, 102, 103, 104, 105, 106, 107, 108] 27 1626 (z_put σ 9 13 (12)) rfl rfl rfl rfl rfl ?_
  refine bd_put (i := 0) (P' := [(9, 45)]) (ty := tyX9 44) dX9_init_224 rfl (by decide +kernel) rfl rfl uX9 tyX9_ok nmX9 (by decide) (z_in (List.mem_append_right _ (List.mem_of_getElem? (i := 945) (by decide +kernel))) rfl) rfl bd_init rfl (tyX9_ok 44 (by decide)) (fun _ => rfl) (fun _ => rfl) rfl (Nat.le_of_ble_eq_true rfl) (by decide +kernel) rfl (by decide +kernel) ?_
  refine bd_aload (i0 := 0) dX9_init_227 rfl rfl ?_
  refine bd_bipush (v := 12) dX9_init_228 (by decide +kernel) ?_
  refine bd_newa (k := 109) (n := 12) dX9_init_230 (z_in (List.mem_append_right _ (List.mem_of_getElem? (i := 49) (by decide +kernel))) rfl) rfl bd_ty0 rfl (Nat.le_of_ble_eq_true rfl) rfl (fun j => hz0 109 (by decide +kernel) (by decide) j) (by decide +kernel) (Nat.le_of_ble_eq_true rfl) (Nat.le_of_ble_eq_true rfl) ?_
  refine bd_norm [(9, 45)] [9, 82, 83, 84, 85, 86, 87, 88, 89, 90, 91, 92, 93, 94, 95, 96, 97, 98, 99, 100, 101, 102, 103, 104, 105, 106, 107, 108, 109] 28 1638 (z_put σ 9 13 (12)) rfl rfl rfl rfl rfl ?_
  refine bd_put (i := 0) (P' := [(9, 46)]) (ty := tyX9 45) dX9_init_232 rfl (by decide +kernel) rfl rfl uX9 tyX9_ok nmX9 (by decide) (z_in (List.mem_append_right _ (List.mem_of_getElem? (i := 946) (by decide +kernel))) rfl) rfl bd_init rfl (tyX9_ok 45 (by decide)) (fun _ => rfl) (fun _ => rfl) rfl (Nat.le_of_ble_eq_true rfl) (by decide +kernel) rfl (by decide +kernel) ?_
  refine bd_aload (i0 := 0) dX9_init_235 rfl rfl ?_
  refine bd_sipush (v := 1024) dX9_init_236 (by decide +kernel) ?_
  refine bd_newa (k := 110) (n := 1024) dX9_init_239 (z_in (List.mem_append_right _ (List.mem_of_getElem? (i := 207) (by decide +kernel))) rfl) rfl bd_ty3 rfl (Nat.le_of_ble_eq_true rfl) rfl (fun j => hz0 110 (by decide +kernel) (by decide) j) (by decide +kernel) (Nat.le_of_ble_eq_true rfl) (Nat.le_of_ble_eq_true rfl) ?_
  refine bd_norm [(9, 46)] [9, 82, 83, 84, 85, 86, 87, 88, 89, 90, 91, 92, 93, 94, 95, 96, 97, 98, 99, 100, 101, 102, 103, 104, 105, 106, 107, 108, 109, 110] 29 2662 (z_put σ 9 13 (12)) rfl rfl rfl rfl rfl ?_
  refine bd_put (i := 0) (P' := [(9, 48)]) (ty := tyX9 47) dX9_init_241 rfl (by decide +kernel) rfl rfl uX9 tyX9_ok nmX9 (by decide) (z_in (List.mem_append_right _ (List.mem_of_getElem? (i := 948) (by decide +kernel))) rfl) rfl bd_init rfl (tyX9_ok 47 (by decide)) (fun _ => rfl) (fun _ => rfl) rfl (Nat.le_of_ble_eq_true rfl) (by decide +kernel) rfl (by decide +kernel) ?_
  refine bd_aload (i0 := 0) dX9_init_244 rfl rfl ?_
  refine bd_bipush (v := 6) dX9_init_245 (by decide +kernel) ?_
  refine bd_newa (k := 111) (n := 6) dX9_init_247 (z_in (List.mem_append_right _ (List.mem_of_getElem? (i := 49) (by decide +kernel))) rfl) rfl bd_ty0 rfl (Nat.le_of_ble_eq_true rfl) rfl (fun j => hz0 111 (by decide +kernel) (by decide) j) (by decide +kernel) (Nat.le_of_ble_eq_true rfl) (Nat.le_of_ble_eq_true rfl) ?_
  refine bd_norm [(9, 48)] [9, 82, 83, 84, 85, 86, 87, 88, 89, 90, 91, 92, 93, 94, 95, 96, 97, 98, 99, 100, 101, 102, 103, 104, 105, 106, 107, 108, 109, 110, 111] 30 2668 (z_put σ 9 13 (12)) rfl rfl rfl rfl rfl ?_
  refine bd_put (i := 0) (P' := [(9, 49)]) (ty := tyX9 48) dX9_init_249 rfl (by decide +kernel) rfl rfl uX9 tyX9_ok nmX9 (by decide) (z_in (List.mem_append_right _ (List.mem_of_getElem? (i := 949) (by decide +kernel))) rfl) rfl bd_init rfl (tyX9_ok 48 (by decide)) (fun _ => rfl) (fun _ => rfl) rfl (Nat.le_of_ble_eq_true rfl) (by decide +kernel) rfl (by decide +kernel) ?_
  refine bd_aload (i0 := 0) dX9_init_252 rfl rfl ?_
  refine bd_iconst dX9_init_253 ?_
  refine bd_newa (k := 112) (n := 5) dX9_init_254 (z_in (List.mem_append_right _ (List.mem_of_getElem? (i := 49) (by decide +kernel))) rfl) rfl bd_ty0 rfl (Nat.le_of_ble_eq_true rfl) rfl (fun j => hz0 112 (by decide +kernel) (by decide) j) (by decide +kernel) (Nat.le_of_ble_eq_true rfl) (Nat.le_of_ble_eq_true rfl) ?_
  refine bd_norm [(9, 49)] [9, 82, 83, 84, 85, 86, 87, 88, 89, 90, 91, 92, 93, 94, 95, 96, 97, 98, 99, 100, 101, 102, 103, 104, 105, 106, 107, 108, 109, 110, 111, 112] 31 2673 (z_put σ 9 13 (12)) rfl rfl rfl rfl rfl ?_
  refine bd_put (i := 0) (P' := [(9, 52)]) (ty := tyX9 51) dX9_init_256 rfl (by decide +kernel) rfl rfl uX9 tyX9_ok nmX9 (by decide) (z_in (List.mem_append_right _ (List.mem_of_getElem? (i := 952) (by decide +kernel))) rfl) rfl bd_init rfl (tyX9_ok 51 (by decide)) (fun _ => rfl) (fun _ => rfl) rfl (Nat.le_of_ble_eq_true rfl) (by decide +kernel) rfl (by decide +kernel) ?_
  refine bd_aload (i0 := 0) dX9_init_259 rfl rfl ?_
  refine bd_iconst dX9_init_260 ?_
  refine bd_newa (k := 113) (n := 5) dX9_init_261 (z_in (List.mem_append_right _ (List.mem_of_getElem? (i := 49) (by decide +kernel))) rfl) rfl bd_ty0 rfl (Nat.le_of_ble_eq_true rfl) rfl (fun j => hz0 113 (by decide +kernel) (by decide) j) (by decide +kernel) (Nat.le_of_ble_eq_true rfl) (Nat.le_of_ble_eq_true rfl) ?_
  refine bd_norm [(9, 52)] [9, 82, 83, 84, 85, 86, 87, 88, 89, 90, 91, 92, 93, 94, 95, 96, 97, 98, 99, 100, 101, 102, 103, 104, 105, 106, 107, 108, 109, 110, 111, 112, 113] 32 2678 (z_put σ 9 13 (12)) rfl rfl rfl rfl rfl ?_
  refine bd_put (i := 0) (P' := [(9, 53)]) (ty := tyX9 52) dX9_init_263 rfl (by decide +kernel) rfl rfl uX9 tyX9_ok nmX9 (by decide) (z_in (List.mem_append_right _ (List.mem_of_getElem? (i := 953) (by decide +kernel))) rfl) rfl bd_init rfl (tyX9_ok 52 (by decide)) (fun _ => rfl) (fun _ => rfl) rfl (Nat.le_of_ble_eq_true rfl) (by decide +kernel) rfl (by decide +kernel) ?_
  refine bd_aload (i0 := 0) dX9_init_266 rfl rfl ?_
  refine bd_bipush (v := 6) dX9_init_267 (by decide +kernel) ?_
  refine bd_newa (k := 114) (n := 6) dX9_init_269 (z_in (List.mem_append_right _ (List.mem_of_getElem? (i := 49) (by decide +kernel))) rfl) rfl bd_ty0 rfl (Nat.le_of_ble_eq_true rfl) rfl (fun j => hz0 114 (by decide +kernel) (by decide) j) (by decide +kernel) (Nat.le_of_ble_eq_true rfl) (Nat.le_of_ble_eq_true rfl) ?_
  refine bd_norm [(9, 53)] [9, 82, 83, 84, 85, 86, 87, 88, 89, 90, 91, 92, 93, 94, 95, 96, 97, 98, 99, 100, 101, 102, 103, 104, 105, 106, 107, 108, 109, 110, 111, 112, 113, 114] 33 2684 (z_put σ 9 13 (12)) rfl rfl rfl rfl rfl ?_
  refine bd_put (i := 0) (P' := [(9, 54)]) (ty := tyX9 53) dX9_init_271 rfl (by decide +kernel) rfl rfl uX9 tyX9_ok nmX9 (by decide) (z_in (List.mem_append_right _ (List.mem_of_getElem? (i := 954) (by decide +kernel))) rfl) rfl bd_init rfl (tyX9_ok 53 (by decide)) (fun _ => rfl) (fun _ => rfl) rfl (Nat.le_of_ble_eq_true rfl) (by decide +kernel) rfl (by decide +kernel) ?_
  refine bd_aload (i0 := 0) dX9_init_274 rfl rfl ?_
  refine bd_bipush (v := 50) dX9_init_275 (by decide +kernel) ?_
  refine bd_newa (k := 115) (n := 50) dX9_init_277 (z_in (List.mem_append_right _ (List.mem_of_getElem? (i := 49) (by decide +kernel))) rfl) rfl bd_ty0 rfl (Nat.le_of_ble_eq_true rfl) rfl (fun j => hz0 115 (by decide +kernel) (by decide) j) (by decide +kernel) (Nat.le_of_ble_eq_true rfl) (Nat.le_of_ble_eq_true rfl) ?_
  refine bd_norm [(9, 54)] [9, 82, 83, 84, 85, 86, 87, 88, 89, 90, 91, 92, 93, 94, 95, 96, 97, 98, 99, 100, 101, 102, 103, 104, 105, 106, 107, 108, 109, 110, 111, 112, 113, 114, 115] 34 2734 (z_put σ 9 13 (12)) rfl rfl rfl rfl rfl ?_
  refine bd_put (i := 0) (P' := [(9, 56)]) (ty := tyX9 55) dX9_init_279 rfl (by decide +kernel) rfl rfl uX9 tyX9_ok nmX9 (by decide) (z_in (List.mem_append_right _ (List.mem_of_getElem? (i := 956) (by decide +kernel))) rfl) rfl bd_init rfl (tyX9_ok 55 (by decide)) (fun _ => rfl) (fun _ => rfl) rfl (Nat.le_of_ble_eq_true rfl) (by decide +kernel) rfl (by decide +kernel) ?_
  refine bd_aload (i0 := 0) dX9_init_282 rfl rfl ?_
  refine bd_bipush (v := 24) dX9_init_283 (by decide +kernel) ?_
  refine bd_newa (k := 116) (n := 24) dX9_init_285 (z_in (List.mem_append_right _ (List.mem_of_getElem? (i := 49) (by decide +kernel))) rfl) rfl bd_ty0 rfl (Nat.le_of_ble_eq_true rfl) rfl (fun j => hz0 116 (by decide +kernel) (by decide) j) (by decide +kernel) (Nat.le_of_ble_eq_true rfl) (Nat.le_of_ble_eq_true rfl) ?_
  refine bd_norm [(9, 56)] [9, 82, 83, 84, 85, 86, 87, 88, 89, 90, 91, 92, 93, 94, 95, 96, 97, 98, 99, 100, 101, 102, 103, 104, 105, 106, 107, 108, 109, 110, 111, 112, 113, 114, 115, 116] 35 2758 (z_put σ 9 13 (12)) rfl rfl rfl rfl rfl ?_
  refine bd_put (i := 0) (P' := [(9, 58)]) (ty := tyX9 57) dX9_init_287 rfl (by decide +kernel) rfl rfl uX9 tyX9_ok nmX9 (by decide) (z_in (List.mem_append_right _ (List.mem_of_getElem? (i := 958) (by decide +kernel))) rfl) rfl bd_init rfl (tyX9_ok 57 (by decide)) (fun _ => rfl) (fun _ => rfl) rfl (Nat.le_of_ble_eq_true rfl) (by decide +kernel) rfl (by decide +kernel) ?_
  refine bd_aload (i0 := 0) dX9_init_290 rfl rfl ?_
  refine bd_bipush (v := 6) dX9_init_291 (by decide +kernel) ?_
  refine bd_newa (k := 117) (n := 6) dX9_init_293 (z_in (List.mem_append_right _ (List.mem_of_getElem? (i := 49) (by decide +kernel))) rfl) rfl bd_ty0 rfl (Nat.le_of_ble_eq_true rfl) rfl (fun j => hz0 117 (by decide +kernel) (by decide) j) (by decide +kernel) (Nat.le_of_ble_eq_true rfl) (Nat.le_of_ble_eq_true rfl) ?_
  refine bd_norm [(9, 58)] [9, 82, 83, 84, 85, 86, 87, 88, 89, 90, 91, 92, 93, 94, 95, 96, 97, 98, 99, 100, 101, 102, 103, 104, 105, 106, 107, 108, 109, 110, 111, 112, 113, 114, 115, 116, 117] 36 2764 (z_put σ 9 13 (12)) rfl rfl rfl rfl rfl ?_
  refine bd_dup dX9_init_295 ?_
  refine bd_iconst dX9_init_296 ?_
  refine bd_iconst dX9_init_297 ?_
  refine bd_iast (i0 := 36) dX9_init_298 rfl (Nat.le_of_ble_eq_true rfl) (by decide +kernel) rfl (by decide) ?_
  refine bd_norm [(9, 58)] [9, 82, 83, 84, 85, 86, 87, 88, 89, 90, 91, 92, 93, 94, 95, 96, 97, 98, 99, 100, 101, 102, 103, 104, 105, 106, 107, 108, 109, 110, 111, 112, 113, 114, 115, 116, 117] 36 2764 (z_put (z_put σ 9 13 (12)) 117 0 (-1)) rfl rfl rfl rfl rfl ?_
  refine bd_dup dX9_init_299 ?_
  refine bd_iconst dX9_init_300 ?_
  refine bd_iconst dX9_init_301 ?_
  refine bd_iast (i0 := 36) dX9_init_302 rfl (Nat.le_of_ble_eq_true rfl) (by decide +kernel) rfl (by decide) ?_
  refine bd_norm [(9, 58)] [9, 82, 83, 84, 85, 86, 87, 88, 89, 90, 91, 92, 93, 94, 95, 96, 97, 98, 99, 100, 101, 102, 103, 104, 105, 106, 107, 108, 109, 110, 111, 112, 113, 114, 115, 116, 117] 36 2764 (z_put (z_put (z_put σ 9 13 (12)) 117 0 (-1)) 117 1 (-1)) rfl rfl rfl rfl rfl ?_
  refine bd_dup dX9_init_303 ?_
  refine bd_iconst dX9_init_304 ?_
  refine bd_iconst dX9_init_305 ?_
  refine bd_iast (i0 := 36) dX9_init_306 rfl (Nat.le_of_ble_eq_true rfl) (by decide +kernel) rfl (by decide) ?_
  refine bd_norm [(9, 58)] [9, 82, 83, 84, 85, 86, 87, 88, 89, 90, 91, 92, 93, 94, 95, 96, 97, 98, 99, 100, 101, 102, 103, 104, 105, 106, 107, 108, 109, 110, 111, 112, 113, 114, 115, 116, 117] 36 2764 (z_put (z_put (z_put (z_put σ 9 13 (12)) 117 0 (-1)) 117 1 (-1)) 117 2 (-1)) rfl rfl rfl rfl rfl ?_
  refine bd_dup dX9_init_307 ?_
  refine bd_iconst dX9_init_308 ?_
  refine bd_iconst dX9_init_309 ?_
  refine bd_iast (i0 := 36) dX9_init_310 rfl (Nat.le_of_ble_eq_true rfl) (by decide +kernel) rfl (by decide) ?_
  refine bd_norm [(9, 58)] [9, 82, 83, 84, 85, 86, 87, 88, 89, 90, 91, 92, 93, 94, 95, 96, 97, 98, 99, 100, 101, 102, 103, 104, 105, 106, 107, 108, 109, 110, 111, 112, 113, 114, 115, 116, 117] 36 2764 (z_put (z_put (z_put (z_put (z_put σ 9 13 (12)) 117 0 (-1)) 117 1 (-1)) 117 2 (-1)) 117 3 (-1)) rfl rfl rfl rfl rfl ?_
  refine bd_dup dX9_init_311 ?_
  refine bd_iconst dX9_init_312 ?_
  refine bd_iconst dX9_init_313 ?_
  refine bd_iast (i0 := 36) dX9_init_314 rfl (Nat.le_of_ble_eq_true rfl) (by decide +kernel) rfl (by decide) ?_
  refine bd_norm [(9, 58)] [9, 82, 83, 84, 85, 86, 87, 88, 89, 90, 91, 92, 93, 94, 95, 96, 97, 98, 99, 100, 101, 102, 103, 104, 105, 106, 107, 108, 109, 110, 111, 112, 113, 114, 115, 116, 117] 36 2764 (z_put (z_put (z_put (z_put (z_put (z_put σ 9 13 (12)) 117 0 (-1)) 117 1 (-1)) 117 2 (-1)) 117 3 (-1)) 117 4 (-1)) rfl rfl rfl rfl rfl ?_
  refine bd_dup dX9_init_315 ?_
  refine bd_iconst dX9_init_316 ?_
  refine bd_iconst dX9_init_317 ?_
  refine bd_iast (i0 := 36) dX9_init_318 rfl (Nat.le_of_ble_eq_true rfl) (by decide +kernel) rfl (by decide) ?_
  refine bd_norm [(9, 58)] [9, 82, 83, 84, 85, 86, 87, 88, 89, 90, 91, 92, 93, 94, 95, 96, 97, 98, 99, 100, 101, 102, 103, 104, 105, 106, 107, 108, 109, 110, 111, 112, 113, 114, 115, 116, 117] 36 2764 (z_put (z_put (z_put (z_put (z_put (z_put (z_put σ 9 13 (12)) 117 0 (-1)) 117 1 (-1)) 117 2 (-1)) 117 3 (-1)) 117 4 (-1)) 117 5 (-1)) rfl rfl rfl rfl rfl ?_
  refine bd_put (i := 0) (P' := [(9, 59)]) (ty := tyX9 58) dX9_init_319 rfl (by decide +kernel) rfl rfl uX9 tyX9_ok nmX9 (by decide) (z_in (List.mem_append_right _ (List.mem_of_getElem? (i := 959) (by decide +kernel))) rfl) rfl bd_init rfl (tyX9_ok 58 (by decide)) (fun _ => rfl) (fun _ => rfl) rfl (Nat.le_of_ble_eq_true rfl) (by decide +kernel) rfl (by decide +kernel) ?_
  refine bd_aload (i0 := 0) dX9_init_322 rfl rfl ?_
  refine bd_bipush (v := 6) dX9_init_323 (by decide +kernel) ?_
  refine bd_newa (k := 118) (n := 6) dX9_init_325 (z_in (List.mem_append_right _ (List.mem_of_getElem? (i := 49) (by decide +kernel))) rfl) rfl bd_ty0 rfl (Nat.le_of_ble_eq_true rfl) rfl (fun j => hz0 118 (by decide +kernel) (by decide) j) (by decide +kernel) (Nat.le_of_ble_eq_true rfl) (Nat.le_of_ble_eq_true rfl) ?_
  refine bd_norm [(9, 59)] [9, 82, 83, 84, 85, 86, 87, 88, 89, 90, 91, 92, 93, 94, 95, 96, 97, 98, 99, 100, 101, 102, 103, 104, 105, 106, 107, 108, 109, 110, 111, 112, 113, 114, 115, 116, 117, 118] 37 2770 (z_put (z_put (z_put (z_put (z_put (z_put (z_put σ 9 13 (12)) 117 0 (-1)) 117 1 (-1)) 117 2 (-1)) 117 3 (-1)) 117 4 (-1)) 117 5 (-1)) rfl rfl rfl rfl rfl ?_
  refine bd_put (i := 0) (P' := [(9, 60)]) (ty := tyX9 59) dX9_init_327 rfl (by decide +kernel) rfl rfl uX9 tyX9_ok nmX9 (by decide) (z_in (List.mem_append_right _ (List.mem_of_getElem? (i := 960) (by decide +kernel))) rfl) rfl bd_init rfl (tyX9_ok 59 (by decide)) (fun _ => rfl) (fun _ => rfl) rfl (Nat.le_of_ble_eq_true rfl) (by decide +kernel) rfl (by decide +kernel) ?_
  refine bd_aload (i0 := 0) dX9_init_330 rfl rfl ?_
  refine bd_sipush (v := 360) dX9_init_331 (by decide +kernel) ?_
  refine bd_newa (k := 119) (n := 360) dX9_init_334 (z_in (List.mem_append_right _ (List.mem_of_getElem? (i := 135) (by decide +kernel))) rfl) rfl bd_ty4 rfl (Nat.le_of_ble_eq_true rfl) rfl (fun j => hz0 119 (by decide +kernel) (by decide) j) (by decide +kernel) (Nat.le_of_ble_eq_true rfl) (Nat.le_of_ble_eq_true rfl) ?_
  refine bd_norm [(9, 60)] [9, 82, 83, 84, 85, 86, 87, 88, 89, 90, 91, 92, 93, 94, 95, 96, 97, 98, 99, 100, 101, 102, 103, 104, 105, 106, 107, 108, 109, 110, 111, 112, 113, 114, 115, 116, 117, 118, 119] 38 3130 (z_put (z_put (z_put (z_put (z_put (z_put (z_put σ 9 13 (12)) 117 0 (-1)) 117 1 (-1)) 117 2 (-1)) 117 3 (-1)) 117 4 (-1)) 117 5 (-1)) rfl rfl rfl rfl rfl ?_
  refine bd_put (i := 0) (P' := [(9, 61)]) (ty := tyX9 60) dX9_init_336 rfl (by decide +kernel) rfl rfl uX9 tyX9_ok nmX9 (by decide) (z_in (List.mem_append_right _ (List.mem_of_getElem? (i := 961) (by decide +kernel))) rfl) rfl bd_init rfl (tyX9_ok 60 (by decide)) (fun _ => rfl) (fun _ => rfl) rfl (Nat.le_of_ble_eq_true rfl) (by decide +kernel) rfl (by decide +kernel) ?_
  refine bd_aload (i0 := 0) dX9_init_339 rfl rfl ?_
  refine bd_bipush (v := 60) dX9_init_340 (by decide +kernel) ?_
  refine bd_newa (k := 120) (n := 60) dX9_init_342 (z_in (List.mem_append_right _ (List.mem_of_getElem? (i := 135) (by decide +kernel))) rfl) rfl bd_ty4 rfl (Nat.le_of_ble_eq_true rfl) rfl (fun j => hz0 120 (by decide +kernel) (by decide) j) (by decide +kernel) (Nat.le_of_ble_eq_true rfl) (Nat.le_of_ble_eq_true rfl) ?_
  refine bd_norm [(9, 61)] [9, 82, 83, 84, 85, 86, 87, 88, 89, 90, 91, 92, 93, 94, 95, 96, 97, 98, 99, 100, 101, 102, 103, 104, 105, 106, 107, 108, 109, 110, 111, 112, 113, 114, 115, 116, 117, 118, 119, 120] 39 3190 (z_put (z_put (z_put (z_put (z_put (z_put (z_put σ 9 13 (12)) 117 0 (-1)) 117 1 (-1)) 117 2 (-1)) 117 3 (-1)) 117 4 (-1)) 117 5 (-1)) rfl rfl rfl rfl rfl ?_
  refine bd_put (i := 0) (P' := [(9, 62)]) (ty := tyX9 61) dX9_init_344 rfl (by decide +kernel) rfl rfl uX9 tyX9_ok nmX9 (by decide) (z_in (List.mem_append_right _ (List.mem_of_getElem? (i := 962) (by decide +kernel))) rfl) rfl bd_init rfl (tyX9_ok 61 (by decide)) (fun _ => rfl) (fun _ => rfl) rfl (Nat.le_of_ble_eq_true rfl) (by decide +kernel) rfl (by decide +kernel) ?_
  exact bd_ret dX9_init_347 rfl rfl rfl rfl (by decide +kernel)
