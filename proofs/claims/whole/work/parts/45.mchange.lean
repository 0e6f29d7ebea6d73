/-! ===== The reference: changes, tape, deeds ===== -/
def shm (σ : Sto) (i : Int) : Sto := fun a b => if (91 ≤ a ∧ a ≤ 94) ∧ (b : Int) + 1 < i then σ a (b + 1) else σ a b
theorem shm_rd (σ : Sto) (i : Int) (a b : Nat) : shm σ i a b = if (91 ≤ a ∧ a ≤ 94) ∧ (b : Int) + 1 < i then σ a (b + 1) else σ a b := rfl
theorem shm_1 (σ : Sto) : shm σ 1 = σ := by
  funext a b
  rw [shm_rd, if_neg (by omega)]
theorem shm_step {σ : Sto} {i : Int} (hi : 1 ≤ i) : z_put (z_put (z_put (z_put (shm σ i) 91 (i - 1).toNat (shm σ i 91 i.toNat)) 92 (i - 1).toNat (shm σ i 92 i.toNat)) 93 (i - 1).toNat (shm σ i 93 i.toNat)) 94 (i - 1).toNat (shm σ i 94 i.toNat) = shm σ (i + 1) := by
  have e : i.toNat = (i - 1).toNat + 1 := by omega
  funext a b
  simp only [z_rd, shm_rd]
  by_cases hb : b = (i - 1).toNat
  · subst hb
    rw [e]
    grind
  · grind
def noteM (τ : Sto) (k w n b a : Int) : Sto := lyM (z_put (z_put (z_put (z_put (z_put τ 91 k.toNat w) 92 k.toNat n) 93 k.toNat b) 94 k.toNat a) 9 14 (k + 1)) w n a
set_option maxRecDepth 20000 in
set_option maxHeartbeats 1000000 in
theorem t_X9_changes {d : Nat} {σ : Sto} {w n a b k : Int} {x : Option Value} (hw : 0 ≤ w ∧ w < 8) (hn : placM w n) (ha : inR a) (hb : inR b) (hk : 0 ≤ k ∧ k < 40) (h14 : σ 9 14 = k) {Q : Int → Sto → Prop} (hQ : Q b (noteM σ k w n b a)) : Z (z_me cX9_changes RX9 6 (some .int) (d + 1) (qI Q)) 121 [some (zR 9), some (zI w), some (zI n), some (zI a), some (zI b), x] [] σ := by
  subst h14
  refine z_aload_n dX9_changes_121 rfl ?_
  refine z_getR dX9_changes_122 gX9_43 rfl (Nat.le_of_ble_eq_true rfl) rfl ?_
  refine z_aload_n dX9_changes_125 rfl ?_
  refine z_getI dX9_changes_126 gX9_170 rfl (Nat.le_of_ble_eq_true rfl) rfl (fun hr126 => ?_)
  refine z_iload_n dX9_changes_129 rfl ?_
  refine z_iast dX9_changes_130 rfl (Nat.le_of_ble_eq_true rfl) (by omega) ⟨by omega, by omega⟩ ?_
  refine z_aload_n dX9_changes_131 rfl ?_
  refine z_getR dX9_changes_132 gX9_46 rfl (Nat.le_of_ble_eq_true rfl) rfl ?_
  refine z_aload_n dX9_changes_135 rfl ?_
  refine z_getI dX9_changes_136 gX9_170 rfl (Nat.le_of_ble_eq_true rfl) rfl (fun hr136 => ?_)
  try simp only [z_rd, Nat.reduceEqDiff, ↓reduceIte, eq_self] at hr136 ⊢
  refine z_iload_n dX9_changes_139 rfl ?_
  refine z_iast dX9_changes_140 rfl (Nat.le_of_ble_eq_true rfl) (by omega) ⟨by omega, by omega⟩ ?_
  refine z_aload_n dX9_changes_141 rfl ?_
  refine z_getR dX9_changes_142 gX9_49 rfl (Nat.le_of_ble_eq_true rfl) rfl ?_
  refine z_aload_n dX9_changes_145 rfl ?_
  refine z_getI dX9_changes_146 gX9_170 rfl (Nat.le_of_ble_eq_true rfl) rfl (fun hr146 => ?_)
  try simp only [z_rd, Nat.reduceEqDiff, ↓reduceIte, eq_self] at hr146 ⊢
  refine z_iload dX9_changes_149 rfl ?_
  refine z_iast dX9_changes_151 rfl (Nat.le_of_ble_eq_true rfl) (by omega) ⟨by omega, by omega⟩ ?_
  refine z_aload_n dX9_changes_152 rfl ?_
  refine z_getR dX9_changes_153 gX9_52 rfl (Nat.le_of_ble_eq_true rfl) rfl ?_
  refine z_aload_n dX9_changes_156 rfl ?_
  refine z_getI dX9_changes_157 gX9_170 rfl (Nat.le_of_ble_eq_true rfl) rfl (fun hr157 => ?_)
  try simp only [z_rd, Nat.reduceEqDiff, ↓reduceIte, eq_self] at hr157 ⊢
  refine z_iload_n dX9_changes_160 rfl ?_
  refine z_iast dX9_changes_161 rfl (Nat.le_of_ble_eq_true rfl) (by omega) ⟨by omega, by omega⟩ ?_
  refine z_aload_n dX9_changes_162 rfl ?_
  refine z_dup dX9_changes_163 rfl ?_
  refine z_getI dX9_changes_164 gX9_170 rfl (Nat.le_of_ble_eq_true rfl) rfl (fun hr164 => ?_)
  try simp only [z_rd, Nat.reduceEqDiff, ↓reduceIte, eq_self] at hr164 ⊢
  refine z_iconst dX9_changes_167 ?_
  refine z_iadd dX9_changes_168 ?_
  refine z_putI dX9_changes_169 pX9_170 rfl (Nat.le_of_ble_eq_true rfl) rfl ⟨by omega, by omega⟩ ?_
  refine z_aload_n dX9_changes_172 rfl ?_
  refine z_iload_n dX9_changes_173 rfl ?_
  refine z_iload_n dX9_changes_174 rfl ?_
  refine z_iload_n dX9_changes_175 rfl ?_
  refine z_callVV (d := d + 0) (av := [_, _, _]) dX9_changes_176 vX9_173 rfl (Nat.le_of_ble_eq_true rfl) rfl rfl rfl (Nat.le_of_ble_eq_true rfl) (Nat.le_refl _) (c_X9_lays hw hn ha) (fun σ176 h176 => ?_)
  subst h176
  refine z_iload dX9_changes_179 rfl ?_
  exact z_iret dX9_changes_181 hQ
set_option maxRecDepth 20000 in
set_option maxHeartbeats 1000000 in
theorem l_X9_changes {d : Nat} {σ : Sto} {w n a b : Int} (hw : 0 ≤ w ∧ w < 8) (hn : placM w n) (ha : inR a) (hb : inR b) (h14 : σ 9 14 = 40) {Q : Int → Sto → Prop} (hQ : Q b (noteM (z_put (shm σ 40) 9 14 39) 39 w n b a)) (i : Int) (hi : 1 ≤ i ∧ i ≤ 40) : Z (z_me cX9_changes RX9 6 (some .int) (d + 1) (qI Q)) 34 [some (zR 9), some (zI w), some (zI n), some (zI a), some (zI b), some (zI i)] [] (shm σ i) := by
  have q14 : shm σ i 9 14 = 40 := by rw [shm_rd, if_neg (by omega)]; exact h14
  refine z_iload dX9_changes_34 rfl ?_
  refine z_bipush (v := 40) dX9_changes_36 (by decide +kernel) ?_
  refine z_icmp_ge (tgt := 111) dX9_changes_38 (by decide) ⟨by omega, by omega⟩ ⟨by omega, by omega⟩ (fun h38 => ?_) (fun h38 => ?_)
  · first
    | exfalso; omega
    | skip
      obtain rfl : i = 40 := by omega
      refine z_aload_n dX9_changes_111 rfl ?_
      refine z_dup dX9_changes_112 rfl ?_
      refine z_getI dX9_changes_113 gX9_170 rfl (Nat.le_of_ble_eq_true rfl) rfl (fun hr113 => ?_)
      refine z_iconst dX9_changes_116 ?_
      refine z_isub dX9_changes_117 ?_
      refine z_putI dX9_changes_118 pX9_170 rfl (Nat.le_of_ble_eq_true rfl) rfl ⟨by omega, by omega⟩ ?_
      rw [show shm σ 40 9 14 - 1 = 39 by omega]
      exact t_X9_changes (k := 39) hw hn ha hb (by omega) rfl hQ
  · first
    | exfalso; omega
    | skip
      refine z_aload_n dX9_changes_41 rfl ?_
      refine z_getR dX9_changes_42 gX9_43 rfl (Nat.le_of_ble_eq_true rfl) rfl ?_
      refine z_iload dX9_changes_45 rfl ?_
      refine z_iconst dX9_changes_47 ?_
      refine z_isub dX9_changes_48 ?_
      refine z_aload_n dX9_changes_49 rfl ?_
      refine z_getR dX9_changes_50 gX9_43 rfl (Nat.le_of_ble_eq_true rfl) rfl ?_
      refine z_iload dX9_changes_53 rfl ?_
      refine z_iald dX9_changes_55 rfl (Nat.le_of_ble_eq_true rfl) (by omega) (fun hr55 => ?_)
      refine z_iast dX9_changes_56 rfl (Nat.le_of_ble_eq_true rfl) (by omega) ⟨by omega, by omega⟩ ?_
      refine z_aload_n dX9_changes_57 rfl ?_
      refine z_getR dX9_changes_58 gX9_46 rfl (Nat.le_of_ble_eq_true rfl) rfl ?_
      refine z_iload dX9_changes_61 rfl ?_
      refine z_iconst dX9_changes_63 ?_
      refine z_isub dX9_changes_64 ?_
      refine z_aload_n dX9_changes_65 rfl ?_
      refine z_getR dX9_changes_66 gX9_46 rfl (Nat.le_of_ble_eq_true rfl) rfl ?_
      refine z_iload dX9_changes_69 rfl ?_
      refine z_iald dX9_changes_71 rfl (Nat.le_of_ble_eq_true rfl) (by omega) (fun hr71 => ?_)
      try simp only [z_rd, Nat.reduceEqDiff, ↓reduceIte, eq_self] at hr71 ⊢
      refine z_iast dX9_changes_72 rfl (Nat.le_of_ble_eq_true rfl) (by omega) ⟨by omega, by omega⟩ ?_
      refine z_aload_n dX9_changes_73 rfl ?_
      refine z_getR dX9_changes_74 gX9_49 rfl (Nat.le_of_ble_eq_true rfl) rfl ?_
      refine z_iload dX9_changes_77 rfl ?_
      refine z_iconst dX9_changes_79 ?_
      refine z_isub dX9_changes_80 ?_
      refine z_aload_n dX9_changes_81 rfl ?_
      refine z_getR dX9_changes_82 gX9_49 rfl (Nat.le_of_ble_eq_true rfl) rfl ?_
      refine z_iload dX9_changes_85 rfl ?_
      refine z_iald dX9_changes_87 rfl (Nat.le_of_ble_eq_true rfl) (by omega) (fun hr87 => ?_)
      try simp only [z_rd, Nat.reduceEqDiff, ↓reduceIte, eq_self] at hr87 ⊢
      refine z_iast dX9_changes_88 rfl (Nat.le_of_ble_eq_true rfl) (by omega) ⟨by omega, by omega⟩ ?_
      refine z_aload_n dX9_changes_89 rfl ?_
      refine z_getR dX9_changes_90 gX9_52 rfl (Nat.le_of_ble_eq_true rfl) rfl ?_
      refine z_iload dX9_changes_93 rfl ?_
      refine z_iconst dX9_changes_95 ?_
      refine z_isub dX9_changes_96 ?_
      refine z_aload_n dX9_changes_97 rfl ?_
      refine z_getR dX9_changes_98 gX9_52 rfl (Nat.le_of_ble_eq_true rfl) rfl ?_
      refine z_iload dX9_changes_101 rfl ?_
      refine z_iald dX9_changes_103 rfl (Nat.le_of_ble_eq_true rfl) (by omega) (fun hr103 => ?_)
      try simp only [z_rd, Nat.reduceEqDiff, ↓reduceIte, eq_self] at hr103 ⊢
      refine z_iast dX9_changes_104 rfl (Nat.le_of_ble_eq_true rfl) (by omega) ⟨by omega, by omega⟩ ?_
      rw [shm_step hi.1]
      refine z_iinc (L' := [_, _, _, _, _, _]) dX9_changes_105 (Nat.le_of_ble_eq_true rfl) rfl rfl rfl ?_
      refine z_goto (tgt := 34) dX9_changes_108 (by decide) ?_
      exact l_X9_changes hw hn ha hb h14 hQ (i + 1) (by omega)
termination_by (40 - i).toNat
decreasing_by omega
def ntM (σ : Sto) (w n b a : Int) : Sto := if σ 9 14 < 40 then noteM (z_put σ 9 15 0) (σ 9 14) w n b a else noteM (z_put (shm (z_put σ 9 15 0) 40) 9 14 39) 39 w n b a
set_option maxRecDepth 20000 in
theorem c_X9_changes {d : Nat} {σ : Sto} {w n a : Int} (hw : 0 ≤ w ∧ w < 8) (hn : placM w n) (hI : ∀ k j, 82 ≤ k → k ≤ 90 → inR (σ k j)) (hB : inR (σ 9 13)) (ha : inR a) (h14 : 0 ≤ σ 9 14 ∧ σ 9 14 ≤ 40) : m_X9_changes d [zR 9, zI w, zI n, zI a] σ (qI fun z σ' => z = vaM σ w n ∧ ((z = a ∧ σ' = σ) ∨ (z ≠ a ∧ σ' = ntM σ w n z a))) := by
  refine z_does (L := [some (zR 9), some (zI w), some (zI n), some (zI a), none, none]) rfl (by decide +kernel) (Nat.le_of_ble_eq_true rfl) rfl ?_
  refine z_aload_n dX9_changes_0 rfl ?_
  refine z_iload_n dX9_changes_1 rfl ?_
  refine z_iload_n dX9_changes_2 rfl ?_
  refine z_callVI (d := d + 0) (av := [_, _]) dX9_changes_3 vX9_163 rfl (Nat.le_of_ble_eq_true rfl) rfl rfl rfl (Nat.le_of_ble_eq_true rfl) (Nat.le_refl _) (c_X9_valueAt hw hn hI hB) (fun z3 σ3 h3 => ?_)
  obtain ⟨rfl, h3r, hs3⟩ := h3
  subst σ3
  refine z_istore (L' := [_, _, _, _, _, _]) dX9_changes_6 (Nat.le_of_ble_eq_true rfl) rfl rfl ?_
  refine z_iload dX9_changes_8 rfl ?_
  refine z_iload_n dX9_changes_10 rfl ?_
  refine z_icmp_ne (tgt := 17) dX9_changes_11 (by decide) ⟨by omega, by omega⟩ ⟨by omega, by omega⟩ (fun h11 => ?_) (fun h11 => ?_)
  · skip
    refine z_aload_n dX9_changes_17 rfl ?_
    refine z_iconst dX9_changes_18 ?_
    refine z_putI dX9_changes_19 pX9_167 rfl (Nat.le_of_ble_eq_true rfl) rfl ⟨by omega, by omega⟩ ?_
    refine z_aload_n dX9_changes_22 rfl ?_
    refine z_getI dX9_changes_23 gX9_170 rfl (Nat.le_of_ble_eq_true rfl) rfl (fun hr23 => ?_)
    try simp only [z_rd, Nat.reduceEqDiff, ↓reduceIte, eq_self] at hr23 ⊢
    refine z_bipush (v := 40) dX9_changes_26 (by decide +kernel) ?_
    refine z_icmp_ne (tgt := 121) dX9_changes_28 (by decide) ⟨by omega, by omega⟩ ⟨by omega, by omega⟩ (fun h28 => ?_) (fun h28 => ?_)
    · skip
      exact t_X9_changes (σ := z_put σ 9 15 0) hw hn ha h3r (k := σ 9 14) (Q := fun z σ' => z = vaM σ w n ∧ ((z = a ∧ σ' = σ) ∨ (z ≠ a ∧ σ' = ntM σ w n z a))) (by omega) rfl ⟨rfl, Or.inr ⟨h11, by unfold ntM; rw [if_pos (by omega)]⟩⟩
    · skip
      refine z_iconst dX9_changes_31 ?_
      refine z_istore (L' := [_, _, _, _, _, _]) dX9_changes_32 (Nat.le_of_ble_eq_true rfl) rfl rfl ?_
      have e : ntM σ w n (vaM σ w n) a = noteM (z_put (shm (z_put σ 9 15 0) 40) 9 14 39) 39 w n (vaM σ w n) a := by unfold ntM; rw [if_neg (by omega)]
      have h := l_X9_changes (d := d) (σ := z_put σ 9 15 0) (Q := fun z σ' => z = vaM σ w n ∧ ((z = a ∧ σ' = σ) ∨ (z ≠ a ∧ σ' = ntM σ w n z a))) hw hn ha h3r (by show σ 9 14 = 40; omega) ⟨rfl, Or.inr ⟨h11, e.symm⟩⟩ 1 (by omega)
      rw [shm_1] at h
      exact h
  · skip
    refine z_iload dX9_changes_14 rfl ?_
    exact z_iret dX9_changes_16 ⟨rfl, Or.inl ⟨by omega, rfl⟩⟩
set_option maxRecDepth 20000 in
theorem c_X9_mend {d : Nat} {σ : Sto} {n w v : Int} (hc : (0 ≤ σ 9 1 ∧ σ 9 1 ≤ 12) ∧ (0 ≤ σ 9 7 ∧ σ 9 7 ≤ 5) ∧ (0 ≤ σ 9 11 ∧ σ 9 11 ≤ 6)) (hd : 0 ≤ σ 9 14 ∧ σ 9 14 ≤ 40) (hn : inR n) (hw : inR w) (hv : inR v) (hI : ∀ k j, 82 ≤ k → k ≤ 90 → inR (σ k j)) (hB : inR (σ 9 13)) : m_X9_mend d [zR 9, zI n, zI w, zI v] σ (qI fun z σ' => (¬ (hasM σ n w ∧ allowR w v) ∧ z = -1 ∧ σ' = σ) ∨ ((hasM σ n w ∧ allowR w v) ∧ z = vaM σ w n ∧ ((z = v ∧ σ' = σ) ∨ (z ≠ v ∧ σ' = ntM σ w n z v)))) := by
  refine z_does (L := [some (zR 9), some (zI n), some (zI w), some (zI v)]) rfl (by decide +kernel) (Nat.le_of_ble_eq_true rfl) rfl ?_
  refine z_aload_n dX9_mend_0 rfl ?_
  refine z_iload_n dX9_mend_1 rfl ?_
  refine z_iload_n dX9_mend_2 rfl ?_
  refine z_callVI (d := d + 2) (av := [_, _]) dX9_mend_3 vX9_183 rfl (Nat.le_of_ble_eq_true rfl) rfl rfl rfl (Nat.le_of_ble_eq_true rfl) (Nat.le_refl _) (c_X9_isOne hc hn hw) (fun z3 σ3 h3 => ?_)
  obtain ⟨hs3, h3⟩ := h3
  subst σ3
  refine z_if_eq (tgt := 27) dX9_mend_6 (by decide) ⟨by omega, by omega⟩ (fun h6 => ?_) (fun h6 => ?_)
  · skip
    refine z_iconst dX9_mend_27 ?_
    exact z_iret dX9_mend_28 (by
      first
      | exact Or.inr ⟨⟨hh, by omega⟩, h21⟩
      | exact Or.inl ⟨by intro q; first | (rcases h3 with q6 | q6; omega; exact q6.2 q.1) | omega, rfl, rfl⟩)
  · skip
    have hh : hasM σ n w := by rcases h3 with q | q; exact q.2; exfalso; omega
    have hw8 : 0 ≤ w ∧ w < 8 := ⟨hh.1, hh.2.1⟩
    have hpl : placM w n := by
      obtain ⟨q1, q2, q3, q4⟩ := hh
      unfold bearM at q4
      refine ⟨q3, ?_⟩
      by_cases q5 : w = 5
      · rw [if_pos q5] at q4; omega
      · by_cases q6 : w = 6
        · rw [if_neg q5, if_pos q6] at q4; omega
        · by_cases q7 : w = 7
          · rw [if_neg q5, if_neg q6, if_pos q7] at q4; omega
          · rw [if_neg q5, if_neg q6, if_neg q7] at q4; omega
    refine z_iload_n dX9_mend_9 rfl ?_
    refine z_iload_n dX9_mend_10 rfl ?_
    refine z_callSI (d := d + 2) (av := [_, _]) dX9_mend_11 sX9_187 rfl rfl (Nat.le_of_ble_eq_true rfl) (Nat.le_refl _) (c_X9_mayHave hw8 hv) (fun z11 σ11 h11 => ?_)
    obtain ⟨hs11, h11⟩ := h11
    subst σ11
    refine z_if_eq (tgt := 27) dX9_mend_14 (by decide) ⟨by omega, by omega⟩ (fun h14 => ?_) (fun h14 => ?_)
    · skip
      refine z_iconst dX9_mend_27 ?_
      exact z_iret dX9_mend_28 (by
        first
        | exact Or.inr ⟨⟨hh, by omega⟩, h21⟩
        | exact Or.inl ⟨by intro q; first | (rcases h3 with q6 | q6; omega; exact q6.2 q.1) | omega, rfl, rfl⟩)
    · skip
      refine z_aload_n dX9_mend_17 rfl ?_
      refine z_iload_n dX9_mend_18 rfl ?_
      refine z_iload_n dX9_mend_19 rfl ?_
      refine z_iload_n dX9_mend_20 rfl ?_
      refine z_callVI (d := d + 2) (av := [_, _, _]) dX9_mend_21 vX9_190 rfl (Nat.le_of_ble_eq_true rfl) rfl rfl rfl (Nat.le_of_ble_eq_true rfl) (Nat.le_refl _) (c_X9_changes hw8 hpl hI hB hv hd) (fun z21 σ21 h21 => ?_)
      have hr21 : inR z21 := by
        rw [h21.1]
        unfold vaM
        split
        · exact hB
        · exact hI _ _ (by unfold celM; split <;> omega) (by unfold celM; split <;> omega)
      refine z_goto (tgt := 28) dX9_mend_24 (by decide) ?_
      exact z_iret dX9_mend_28 (by
        first
        | exact Or.inr ⟨⟨hh, by omega⟩, h21⟩
        | exact Or.inl ⟨by intro q; first | (rcases h3 with q6 | q6; omega; exact q6.2 q.1) | omega, rfl, rfl⟩)
