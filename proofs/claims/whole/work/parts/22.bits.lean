/-! ===== bits as numbers ===== -/
theorem sh31 : ∀ w : Nat, w < 32 → (((Int32.ofInt (w : Int)) &&& 31).toBitVec.smod 32).toNat = w := by decide +kernel
theorem i32N (n : Nat) : Int32.ofInt (n : Int) = Int32.ofNat n := Int32.ofInt_eq_ofNat
theorem bt_n {s w : Nat} (hs : s < 2147483648) (hw : w < 31) : bt (s : Int) (w : Int) = ((s / 2 ^ w % 2 : Nat) : Int) := by
  unfold bt z_iandF z_ishrF
  have e1 : (Int32.ofInt (s : Int)) >>> (Int32.ofInt (w : Int) &&& 31) = nI (s / 2 ^ w) := by
    rw [i32N s]
    exact pk_shrN hs _ w (sh31 w (by omega))
  have e2 : nI (s / 2 ^ w) &&& Int32.ofInt 1 = nI (s / 2 ^ w % 2) := by
    have := pk_andN (n := s / 2 ^ w) (m := Int32.ofInt 1) (Nat.lt_of_le_of_lt (Nat.div_le_self _ _) (by omega)) 1 (by decide)
    rwa [Nat.pow_one] at this
  rw [Int32.ofInt_toInt, e1, e2, show nI (s / 2 ^ w % 2) = Int32.ofInt ((s / 2 ^ w % 2 : Nat) : Int) from (i32N _).symm]
  exact z_toInt ⟨by omega, by omega⟩
theorem bt_tb {s w : Int} (hs : 0 ≤ s ∧ s < 2147483648) (hw : 0 ≤ w ∧ w < 31) : bt s w = if s.toNat.testBit w.toNat then 1 else 0 := by
  have h := bt_n (s := s.toNat) (w := w.toNat) (by omega) (by omega)
  rw [show ((s.toNat : Nat) : Int) = s by omega, show ((w.toNat : Nat) : Int) = w by omega] at h
  rw [h, Nat.testBit_eq_decide_div_mod_eq]
  by_cases h1 : s.toNat / 2 ^ w.toNat % 2 = 1
  · rw [h1]; rfl
  · rw [if_neg (by simpa using h1)]; omega
theorem z_iorN {a b : Nat} (ha : a < 2147483648) (hb : b < 2147483648) : z_iorF (a : Int) (b : Int) = ((a ||| b : Nat) : Int) := by
  have hor : a ||| b < 2 ^ 31 := Nat.or_lt_two_pow (by omega) (by omega)
  unfold z_iorF
  have e : Int32.ofInt (a : Int) ||| Int32.ofInt (b : Int) = Int32.ofInt ((a ||| b : Nat) : Int) := by
    apply Int32.toBitVec.inj
    rw [Int32.toBitVec_or, Int32.toBitVec_ofInt, Int32.toBitVec_ofInt, Int32.toBitVec_ofInt, BitVec.ofInt_natCast, BitVec.ofInt_natCast, BitVec.ofInt_natCast, BitVec.ofNat_or]
  rw [e]
  exact z_toInt ⟨by omega, by omega⟩
theorem ior_shl {s w : Int} (hs : 0 ≤ s ∧ s < 2147483648) (hw : 0 ≤ w ∧ w < 13) : z_iorF s (z_ishlF 1 w) = ((s.toNat ||| 2 ^ w.toNat : Nat) : Int) := by
  have h1 := shl1I hw
  have h2 : 2 ^ w.toNat ≤ 4096 := pow12 (by omega)
  have h3 := z_iorN (a := s.toNat) (b := 2 ^ w.toNat) (by omega) (by omega)
  rw [show ((s.toNat : Nat) : Int) = s by omega] at h3
  rw [h1]
  exact h3
theorem nand_n {P S : Nat} (hP : P < 2147483648) (hS : S < 2147483648) : z_iandF (P : Int) (z_ixorF (S : Int) (-1)) = ((P &&& (4294967296 - (S + 1)) : Nat) : Int) := by
  have hle : P &&& (4294967296 - (S + 1)) ≤ P := Nat.and_le_left
  unfold z_iandF z_ixorF
  rw [Int32.ofInt_toInt]
  have e : Int32.ofInt (P : Int) &&& (Int32.ofInt (S : Int) ^^^ Int32.ofInt (-1)) = Int32.ofInt ((P &&& (4294967296 - (S + 1)) : Nat) : Int) := by
    apply Int32.toBitVec.inj
    rw [Int32.toBitVec_and, Int32.toBitVec_xor, show (Int32.ofInt (-1)).toBitVec = BitVec.allOnes 32 by decide, Int32.toBitVec_ofInt, Int32.toBitVec_ofInt, Int32.toBitVec_ofInt, BitVec.ofInt_natCast, BitVec.ofInt_natCast, BitVec.ofInt_natCast, BitVec.ofNat_and, BitVec.xor_allOnes]
    congr 1
    apply BitVec.eq_of_toNat_eq
    rw [BitVec.toNat_not, BitVec.toNat_ofNat, BitVec.toNat_ofNat, Nat.mod_eq_of_lt (by omega), Nat.mod_eq_of_lt (by omega)]
    omega
  rw [e]
  exact z_toInt ⟨by omega, by omega⟩
theorem nand_tb {P S w : Nat} (hP : P < 2147483648) (hS : S < 2147483648) (hw : w < 31) : bt (z_iandF (P : Int) (z_ixorF (S : Int) (-1))) (w : Int) ≠ 0 ↔ P.testBit w = true ∧ S.testBit w = false := by
  have hle : P &&& (4294967296 - (S + 1)) ≤ P := Nat.and_le_left
  rw [nand_n hP hS, bt_tb ⟨by omega, by omega⟩ ⟨by omega, by omega⟩]
  have e : ((P &&& (4294967296 - (S + 1)) : Nat) : Int).toNat.testBit (w : Int).toNat = (P.testBit w && !S.testBit w) := by
    rw [Int.toNat_natCast, Int.toNat_natCast, Nat.testBit_and, show (4294967296 : Nat) = 2 ^ 32 from rfl, Nat.testBit_two_pow_sub_succ (by omega)]
    simp only [show w < 32 by omega, decide_true, Bool.true_and]
  rw [e]
  cases P.testBit w <;> cases S.testBit w <;> simp
def bitN (c : Int → Bool) : Nat → Nat → Nat → Nat
  | 0, _, acc => acc
  | m + 1, p, acc => bitN c m (p + 1) (if c p then acc ||| 2 ^ p else acc)
theorem bitL_N {c : Int → Bool} : ∀ (m p acc : Nat), p + m ≤ 12 → acc < 4096 → bitL c m (p : Int) (acc : Int) = ((bitN c m p acc : Nat) : Int) ∧ bitN c m p acc < 4096
  | 0, _, _, _, h => ⟨rfl, h⟩
  | m + 1, p, acc, h, ha => by
    rw [bitL, bitN]
    have h2 : 2 ^ p < 4096 := Nat.lt_of_lt_of_le (Nat.pow_lt_pow_right (by decide) (show p < 12 by omega)) (by decide)
    have h3 : acc ||| 2 ^ p < 2 ^ 12 := Nat.or_lt_two_pow (by omega) h2
    have e := ior_shl (s := (acc : Int)) (w := (p : Int)) (by omega) (by omega)
    rw [Int.toNat_natCast, Int.toNat_natCast] at e
    rw [e]
    by_cases hc : c p = true
    · rw [if_pos hc, if_pos hc]
      exact bitL_N m (p + 1) _ (by omega) h3
    · rw [if_neg hc, if_neg hc]
      exact bitL_N m (p + 1) _ (by omega) ha
theorem bitN_tb {c : Int → Bool} : ∀ (m p acc j : Nat), (bitN c m p acc).testBit j = (acc.testBit j || (decide (p ≤ j ∧ j < p + m) && c j))
  | 0, p, acc, j => by
    rw [bitN, show decide (p ≤ j ∧ j < p + 0) = false from decide_eq_false (by omega)]
    simp
  | m + 1, p, acc, j => by
    rw [bitN, bitN_tb m (p + 1)]
    by_cases hj : j = p
    · subst hj
      rw [show decide (j + 1 ≤ j ∧ j < j + 1 + m) = false from decide_eq_false (by omega), show decide (j ≤ j ∧ j < j + (m + 1)) = true from decide_eq_true (by omega)]
      cases hc : c j
      · simp
      · simp [Nat.testBit_or, Nat.testBit_two_pow_self]
    · rw [show decide (p + 1 ≤ j ∧ j < p + 1 + m) = decide (p ≤ j ∧ j < p + (m + 1)) from decide_eq_decide.mpr (by omega)]
      cases hc : c p
      · simp
      · simp [Nat.testBit_or, Nat.testBit_two_pow_of_ne (Ne.symm hj)]
theorem open_bt {c : Int → Bool} {n : Nat} (hn : n ≤ 10) {s w : Int} (hs : 0 ≤ s ∧ s < 1024) (hw : 0 ≤ w ∧ w < n) : bt (z_iandF (bitL c n 0 0) (z_ixorF s (-1))) w ≠ 0 ↔ (c w = true ∧ bt s w = 0) := by
  obtain ⟨e1, e2⟩ := bitL_N (c := c) n 0 0 (by omega) (by decide)
  have h := nand_tb (P := bitN c n 0 0) (S := s.toNat) (w := w.toNat) (by omega) (by omega) (by omega)
  rw [show ((s.toNat : Nat) : Int) = s by omega, show ((w.toNat : Nat) : Int) = w by omega, bitN_tb, Nat.zero_testBit, show decide (0 ≤ w.toNat ∧ w.toNat < 0 + n) = true from decide_eq_true (by omega), show ((w.toNat : Nat) : Int) = w by omega] at h
  rw [show bitL c n 0 0 = ((bitN c n 0 0 : Nat) : Int) from e1, h, bt_tb (by omega) (by omega)]
  cases s.toNat.testBit w.toNat <;> simp
/-! ===== the game ===== -/
def wpF (ps : Int → Int → Bool) (W : Nat → Int) (s : Int) : Nat → Int → Int
  | 0, _ => -2
  | m + 1, w => if bt s w = 0 ∧ ps w (pcF 12 s.toNat) = true ∧ W (z_iorF s (z_ishlF 1 w)).toNat = 0 then w else wpF ps W s m (w + 1)
theorem wpF_R {ps : Int → Int → Bool} {W : Nat → Int} {s : Int} : ∀ (m : Nat) (w : Int), 0 ≤ w → wpF ps W s m w = -2 ∨ (0 ≤ wpF ps W s m w ∧ wpF ps W s m w < w + m)
  | 0, _, _ => Or.inl rfl
  | m + 1, w, h => by
    rw [wpF]
    split
    · exact Or.inr ⟨h, by omega⟩
    · rcases wpF_R m (w + 1) (by omega) (ps := ps) (W := W) (s := s) with q | q
      · exact Or.inl q
      · exact Or.inr ⟨q.1, by omega⟩
theorem wpF_cong {ps : Int → Int → Bool} {W W' : Nat → Int} {s : Int} : ∀ (m : Nat) (w : Int), (∀ x, w ≤ x → x < w + m → bt s x = 0 → W (z_iorF s (z_ishlF 1 x)).toNat = W' (z_iorF s (z_ishlF 1 x)).toNat) → wpF ps W s m w = wpF ps W' s m w
  | 0, _, _ => rfl
  | m + 1, w, h => by
    rw [wpF, wpF, wpF_cong m (w + 1) (fun x h1 h2 => h x (by omega) (by omega))]
    by_cases hb : bt s w = 0
    · rw [h w (by omega) (by omega) hb]
    · rw [if_neg (fun q => hb q.1), if_neg (fun q => hb q.1)]
def wnT (ps : Int → Int → Bool) (n : Nat) : Nat → Nat → Int
  | 0 => fun _ => 0
  | k + 1 => up (wnT ps n k) (2 ^ n - 1 - k) (if wpF ps (wnT ps n k) ((2 ^ n - 1 - k : Nat) : Int) n 0 = -2 then 0 else 1)
def gmF (ps : Int → Int → Bool) (n : Nat) : Int := wpF ps (wnT ps n (2 ^ n - 1)) 0 n 0
theorem pow10 {n : Nat} (h : n ≤ 10) : 2 ^ n ≤ 1024 := Nat.le_trans (Nat.pow_le_pow_right (by decide) h) (by decide)
/-- the next set is greater, and one of those that there are -/
theorem nxt_R {n : Nat} (hn : n ≤ 10) {s w : Int} (hs : 0 ≤ s ∧ s < (2 ^ n : Nat)) (hw : 0 ≤ w ∧ w < n) : 0 ≤ z_iorF s (z_ishlF 1 w) ∧ z_iorF s (z_ishlF 1 w) < (2 ^ n : Nat) ∧ (bt s w = 0 → s < z_iorF s (z_ishlF 1 w)) := by
  have p := pow10 hn
  have h2 : 2 ^ w.toNat < 2 ^ n := Nat.pow_lt_pow_right (by decide) (by omega)
  have h3 : s.toNat ||| 2 ^ w.toNat < 2 ^ n := Nat.or_lt_two_pow (by omega) h2
  rw [ior_shl (by omega) (by omega)]
  refine ⟨by omega, by omega, fun hb => ?_⟩
  have h4 : s.toNat ≤ s.toNat ||| 2 ^ w.toNat := Nat.left_le_or
  have h5 : s.toNat ≠ s.toNat ||| 2 ^ w.toNat := fun q => by
    have e := congrArg (fun t => Nat.testBit t w.toNat) q
    simp only [Nat.testBit_or, Nat.testBit_two_pow_self, Bool.or_true] at e
    rw [bt_tb (by omega) (by omega), e] at hb
    exact absurd hb (by decide)
  omega
theorem pcF10 : ∀ s : Nat, s < 1024 → pcF 12 s ≤ 10 := by decide +kernel
/-- the table, as far as it is laid: all sets above s -/
def wnI (τ : Nat → Int) (ps : Int → Int → Bool) (n : Nat) (s : Int) : Prop := ∀ j : Nat, s < j → j < 2 ^ n → τ j = wnT ps n (2 ^ n - 1 - s).toNat j
theorem wnI_wp {τ : Nat → Int} {ps : Int → Int → Bool} {n : Nat} (hn : n ≤ 10) {s : Int} (hs : 0 ≤ s ∧ s < (2 ^ n : Nat)) (h : wnI τ ps n s) : wpF ps τ s n 0 = wpF ps (wnT ps n (2 ^ n - 1 - s).toNat) s n 0 := by
  refine wpF_cong n 0 (fun x h1 h2 hb => ?_)
  have := nxt_R hn hs (w := x) (by omega)
  have h3 := this.2.2 hb
  exact h _ (by omega) (by omega)
theorem wnI_up {τ : Nat → Int} {ps : Int → Int → Bool} {n : Nat} {s : Int} (hs : 0 ≤ s ∧ s < (2 ^ n : Nat)) (h : wnI τ ps n s) : wnI (up τ s.toNat (if wpF ps (wnT ps n (2 ^ n - 1 - s).toNat) s n 0 = -2 then 0 else 1)) ps n (s - 1) := by
  intro j h1 h2
  have e1 : (2 ^ n - 1 - (s - 1) : Int).toNat = (2 ^ n - 1 - s : Int).toNat + 1 := by
    have : ((2 ^ n : Nat) : Int) = 2 ^ n := by simp
    omega
  have e2 : 2 ^ n - 1 - (2 ^ n - 1 - s : Int).toNat = s.toNat := by
    have : ((2 ^ n : Nat) : Int) = 2 ^ n := by simp
    omega
  rw [e1, wnT, e2, show ((s.toNat : Nat) : Int) = s by omega]
  unfold up
  by_cases hj : j = s.toNat
  · rw [if_pos hj, if_pos hj]
  · rw [if_neg hj, if_neg hj]
    exact h j (by omega) h2
