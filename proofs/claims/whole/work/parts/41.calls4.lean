/-! ===== The class's act, speak, words ===== -/
theorem runF_T (k : Int) : ∀ f : Nat, ∃ T : Int → Int → List Int, ∀ n a fr x, (runF f k n a fr x).2 = T a fr
  | 0 => ⟨fun _ _ => [], fun _ _ _ _ => rfl⟩
  | f + 1 => by
    obtain ⟨T, hT⟩ := runF_T k f
    refine ⟨fun a fr => (runF (f + 1) k 0 a fr 0).2, fun n a fr x => ?_⟩
    simp only [runF, apply_ite Prod.snd, hT]
theorem bfN_0 : ∀ (m : Nat) {a k : Int}, ¬ (-32 < a ∧ a < 32) → bfN m a k = 0
  | 0, _, _, _ => rfl
  | m + 1, a, k, h => by
    by_cases hk : 0 ≤ k ∧ k < 8
    · rw [bfN_up hk (by omega)]; exact bfN_0 m h
    · rw [bfN_out hk]
theorem runF_dec : ∀ k : Nat, k < 8 → ∀ a : Nat, a < 64 → (runF 40 k 0 ((a : Int) - 32) k 0).2.length ≤ 1000 := by decide +kernel
theorem runF_len (k n a x : Int) : (runF 40 k n a k x).2.length ≤ 1000 := by
  obtain ⟨T, hT⟩ := runF_T k 40
  have e : (runF 40 k n a k x).2 = (runF 40 k 0 a k 0).2 := by rw [hT, hT]
  rw [e]
  by_cases hk : 0 ≤ k ∧ k < 8
  · by_cases ha : -32 < a ∧ a < 32
    · have h := runF_dec k.toNat (by omega) (a + 32).toNat (by omega)
      rw [show ((k.toNat : Nat) : Int) = k by omega, show ((a + 32).toNat : Int) - 32 = a by omega] at h
      exact h
    · have h0 : bfN 8 a k = 0 := bfN_0 8 ha
      rw [runF_x (by rw [h0]; decide)]
      exact (by decide : 1 ≤ 1000)
  · have h0 : bfN 8 a k = 0 := bfN_out hk
    rw [runF_x (by rw [h0]; decide)]
    exact (by decide : 1 ≤ 1000)
def acS (σ : Sto) (b a x : Int) : Sto := if 0 ≤ b ∧ b < σ 8 2 ∧ 0 ≤ a ∧ a < 4 then pushT (z_put (z_put (z_put σ 8 3 0) 8 4 b) 8 5 (σ 80 b.toNat)) (runF 40 (σ 80 b.toNat) b a (σ 80 b.toNat) x).2 else z_put σ 8 3 0
def acZ (B : Int) (K : Nat → Int) (b a x : Int) : Int := if 0 ≤ b ∧ b < B ∧ 0 ≤ a ∧ a < 4 then (runF 40 (K b.toNat) b a (K b.toNat) x).1 else 0
set_option maxRecDepth 20000 in
theorem c_X8_act {d : Nat} {σ : Sto} {b a x : Int} (hb : 0 ≤ σ 8 2 ∧ σ 8 2 ≤ 50) (hr : inR b) (ha : inR a) (hk : ∀ j, 0 ≤ σ 80 j ∧ σ 80 j < 8) : Does (d + 83) yX8_act cX8_act 4 (some .int) [zR 0, zI b, zI a, zI x] σ (qI fun z σ' => zI z = zI (acZ (σ 8 2) (σ 80) b a x) ∧ σ' = acS σ b a x) := by
  refine z_does (L := [some (zR 0), some (zI b), some (zI a), some (zI x)]) rfl (by decide +kernel) (Nat.le_of_ble_eq_true rfl) rfl ?_
  refine z_aload_n dX8_act_0 rfl ?_
  refine z_getR dX8_act_1 gX8_65 rfl (Nat.le_of_ble_eq_true rfl) rfl ?_
  refine z_iload_n dX8_act_4 rfl ?_
  refine z_iload_n dX8_act_5 rfl ?_
  refine z_iload_n dX8_act_6 rfl ?_
  refine z_callVI (d := d + 82) (av := [_, _, _]) dX8_act_7 vX8_281 rfl (Nat.le_of_ble_eq_true rfl) rfl rfl rfl (Nat.le_of_ble_eq_true rfl) (Nat.le_refl _) (c_X3_actOf (d := d) hb hr ha (fun _ _ => hk _) (fun k n => runF_len k n a x)) (fun z7 σ7 h7 => ?_)
  skip
  exact z_iret dX8_act_10 (by
    rcases h7 with q | q
    · unfold acZ acS
      rw [if_pos ⟨q.1, q.2.1, q.2.2.1, q.2.2.2.1⟩, if_pos ⟨q.1, q.2.1, q.2.2.1, q.2.2.2.1⟩]
      exact ⟨by rw [q.2.2.2.2.1], q.2.2.2.2.2⟩
    · unfold acZ acS
      rw [if_neg (by omega), if_neg (by omega)]
      exact ⟨by rw [q.2.1], q.2.2⟩)
