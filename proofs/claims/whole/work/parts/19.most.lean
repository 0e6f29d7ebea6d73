/-! ===== counting bits; the greatest harmless set ===== -/
theorem z_ldcw {M : z_M} {pc : Nat} {L : List (Option Value)} {st : List Value} {σ : Sto} {i : Nat} {v : Int} (hd : decode M.1 pc = .ok (.ldc_w i, 3)) (hc : Cond.constant M.2.1 i (Int32.ofInt v) ∈ z_all) (k : Z M (pc + 3) L (zI v :: st) σ) : Z M pc L st σ := by
  rintro ⟨p, l, e, R, s, m, args, below, meth, c, adr, D, aC, A, cells, slots, Fin⟩ hm hf H locs ls hw hl
  obtain ⟨hx, hb, hml, hown, hts, hK, hSt, hA, hAk, hap, hR, hlk, hNs⟩ := id hf
  have kk : W p l e R s m args below meth c H locs cells slots Fin (F0 m (pc + 3) ls (.int (Int32.ofInt v) :: st.map (z_emb adr))) := k (p, l, e, R, s, m, args, below, meth, c, adr, D, aC, A, cells, slots, Fin) hm hf H locs ls hw hl
  exact lv_ldcw hx hb hown (hts _ hc) hd kk
def bcF (i : Int) : Int :=
  let a := i - z_iandF (z_iushrF i 1) 1431655765
  let b := z_iandF a 858993459 + z_iandF (z_iushrF a 2) 858993459
  let c := z_iandF (b + z_iushrF b 4) 252645135
  let e := c + z_iushrF c 8
  let g := e + z_iushrF e 16
  z_iandF g 63
set_option maxRecDepth 20000 in
theorem c_J6_bitCount_0f7a4 {d : Nat} {σ : Sto} {s : Int} : m_J6_bitCount_0f7a4 d [zI s] σ (qI fun z σ' => z = bcF s ∧ σ' = σ) := by
  refine z_does (L := [some (zI s)]) rfl (by decide +kernel) (Nat.le_of_ble_eq_true rfl) rfl ?_
  refine z_iload_n dJ6_bitCount_0f7a4_0 rfl ?_
  refine z_iload_n dJ6_bitCount_0f7a4_1 rfl ?_
  refine z_iconst dJ6_bitCount_0f7a4_2 ?_
  refine z_iushr dJ6_bitCount_0f7a4_3 ?_
  refine z_ldcw dJ6_bitCount_0f7a4_4 kJ6_265 ?_
  refine z_iand dJ6_bitCount_0f7a4_7 ?_
  refine z_isub dJ6_bitCount_0f7a4_8 ?_
  refine z_istore_n (L' := [_]) dJ6_bitCount_0f7a4_9 (Nat.le_of_ble_eq_true rfl) rfl rfl ?_
  refine z_iload_n dJ6_bitCount_0f7a4_10 rfl ?_
  refine z_ldcw dJ6_bitCount_0f7a4_11 kJ6_266 ?_
  refine z_iand dJ6_bitCount_0f7a4_14 ?_
  refine z_iload_n dJ6_bitCount_0f7a4_15 rfl ?_
  refine z_iconst dJ6_bitCount_0f7a4_16 ?_
  refine z_iushr dJ6_bitCount_0f7a4_17 ?_
  refine z_ldcw dJ6_bitCount_0f7a4_18 kJ6_266 ?_
  refine z_iand dJ6_bitCount_0f7a4_21 ?_
  refine z_iadd dJ6_bitCount_0f7a4_22 ?_
  refine z_istore_n (L' := [_]) dJ6_bitCount_0f7a4_23 (Nat.le_of_ble_eq_true rfl) rfl rfl ?_
  refine z_iload_n dJ6_bitCount_0f7a4_24 rfl ?_
  refine z_iload_n dJ6_bitCount_0f7a4_25 rfl ?_
  refine z_iconst dJ6_bitCount_0f7a4_26 ?_
  refine z_iushr dJ6_bitCount_0f7a4_27 ?_
  refine z_iadd dJ6_bitCount_0f7a4_28 ?_
  refine z_ldcw dJ6_bitCount_0f7a4_29 kJ6_267 ?_
  refine z_iand dJ6_bitCount_0f7a4_32 ?_
  refine z_istore_n (L' := [_]) dJ6_bitCount_0f7a4_33 (Nat.le_of_ble_eq_true rfl) rfl rfl ?_
  refine z_iload_n dJ6_bitCount_0f7a4_34 rfl ?_
  refine z_iload_n dJ6_bitCount_0f7a4_35 rfl ?_
  refine z_bipush (v := 8) dJ6_bitCount_0f7a4_36 (by decide +kernel) ?_
  refine z_iushr dJ6_bitCount_0f7a4_38 ?_
  refine z_iadd dJ6_bitCount_0f7a4_39 ?_
  refine z_istore_n (L' := [_]) dJ6_bitCount_0f7a4_40 (Nat.le_of_ble_eq_true rfl) rfl rfl ?_
  refine z_iload_n dJ6_bitCount_0f7a4_41 rfl ?_
  refine z_iload_n dJ6_bitCount_0f7a4_42 rfl ?_
  refine z_bipush (v := 16) dJ6_bitCount_0f7a4_43 (by decide +kernel) ?_
  refine z_iushr dJ6_bitCount_0f7a4_45 ?_
  refine z_iadd dJ6_bitCount_0f7a4_46 ?_
  refine z_istore_n (L' := [_]) dJ6_bitCount_0f7a4_47 (Nat.le_of_ble_eq_true rfl) rfl rfl ?_
  refine z_iload_n dJ6_bitCount_0f7a4_48 rfl ?_
  refine z_bipush (v := 63) dJ6_bitCount_0f7a4_49 (by decide +kernel) ?_
  refine z_iand dJ6_bitCount_0f7a4_51 ?_
  exact z_iret dJ6_bitCount_0f7a4_52 (by first | exact ⟨rfl, rfl⟩ | exact ⟨by omega, rfl⟩)
/-- how many bits of the lowest n are set -/
def pcF : Nat → Nat → Int
  | 0, _ => 0
  | n + 1, s => ((s % 2 : Nat) : Int) + pcF n (s / 2)
theorem bcF_pc2 : ∀ a : Nat, a < 64 → ∀ b : Nat, b < 64 → bcF ((64 * a + b : Nat) : Int) = pcF 12 (64 * a + b) := by decide +kernel
theorem bcF_pc (s : Nat) (h : s < 4096) : bcF s = pcF 12 s := by
  have := bcF_pc2 (s / 64) (by omega) (s % 64) (by omega)
  rwa [show 64 * (s / 64) + s % 64 = s by omega] at this
theorem pcF_R : ∀ (n s : Nat), 0 ≤ pcF n s ∧ pcF n s ≤ n
  | 0, _ => by simp [pcF]
  | n + 1, s => by
    have := pcF_R n (s / 2)
    rw [pcF]
    omega
theorem bcF_pcI {s : Int} (h : 0 ≤ s ∧ s < 4096) : bcF s = pcF 12 s.toNat := by
  have := bcF_pc s.toNat (by omega)
  rwa [show ((s.toNat : Nat) : Int) = s by omega] at this
theorem shl1 : ∀ w : Nat, w < 13 → z_ishlF 1 w = (2 ^ w : Nat) := by decide +kernel
theorem shl1I {w : Int} (h : 0 ≤ w ∧ w < 13) : z_ishlF 1 w = (2 ^ w.toNat : Nat) := by
  have := shl1 w.toNat (by omega)
  rwa [show ((w.toNat : Nat) : Int) = w by omega] at this
theorem pow12 {w : Nat} (h : w ≤ 12) : 2 ^ w ≤ 4096 := Nat.le_trans (Nat.pow_le_pow_right (by decide) h) (by decide)
/-- the greatest harmless set of those s, s + 1 .. (m of them), beside best of size most -/
def ghF (hu : Int → Int) : Nat → Int → Int → Int → Int
  | 0, _, best, _ => best
  | m + 1, s, best, most => if pcF 12 s.toNat > most ∧ hu s = 0 then ghF hu m (s + 1) s (pcF 12 s.toNat) else ghF hu m (s + 1) best most
theorem WC.k42 {LF : LFT} {σ τ : Sto} (h : WC LF σ) (hk : ∀ a, a ≠ 42 → τ a = σ a) : WC LF τ := h.keep (hk 1 (by decide)) (hk 3 (by decide)) (hk 27 (by decide)) (fun a h1 h2 => hk a (by omega))
abbrev huS (σ : Sto) (s : Int) : Int := hurtC σ (setL s (σ 1 1).toNat 0)
theorem hurt_R {A4 A1 A2 th : Nat → Int} {p : Int} {X : List Int} : inR (hurtL A4 A1 A2 th p X) := bitL_R _ ⟨by decide, by decide⟩
set_option maxRecDepth 20000 in
theorem l_X4_greatestHarmlessSet {d : Nat} {σ : Sto} {LF : LFT} (hW : WC LF σ) :
    ∀ (m : Nat) (τ : Sto) (s best most : Int), 0 ≤ s → s + m = (2 ^ (σ 1 1).toNat : Nat) → inR best → inR most → (∀ a, a ≠ 42 → τ a = σ a) →
    Z (z_me cX4_greatestHarmlessSet RX4 6 (some .int) (d + 3) (qI fun z σ' => z = ghF (huS σ) m s best most ∧ ∀ a, a ≠ 42 → σ' a = σ a)) 17 [some (zR 6), some (zI best), some (zI most), some (zI (2 ^ (σ 1 1).toNat : Nat)), some (zI s), none] [] τ
  | 0, τ, s, best, most, h0, hs, hb, hm, hk => by
    have w1 := hW.1
    have p12 := pow12 (show (σ 1 1).toNat ≤ 12 by omega)
    refine z_iload dX4_greatestHarmlessSet_17 rfl ?_
    refine z_iload_n dX4_greatestHarmlessSet_19 rfl ?_
    refine z_icmp_ge (tgt := 60) dX4_greatestHarmlessSet_20 (by decide) ⟨by omega, by omega⟩ ⟨by omega, by omega⟩ (fun h20 => ?_) (fun h20 => ?_)
    · skip
      refine z_iload_n dX4_greatestHarmlessSet_60 rfl ?_
      exact z_iret dX4_greatestHarmlessSet_61 ⟨rfl, hk⟩
    · exfalso; omega
  | m + 1, τ, s, best, most, h0, hs, hb, hm, hk => by
    have w1 := hW.1
    have p12 := pow12 (show (σ 1 1).toNat ≤ 12 by omega)
    have hpc := bcF_pcI (s := s) (by omega)
    have hpr := pcF_R 12 s.toNat
    have hhr : inR (hurtC τ (setL s (τ 1 1).toNat 0)) := hurt_R
    have eh : hurtC τ (setL s (τ 1 1).toNat 0) = huS σ s := by simp only [huS, hurtC]; rw [hk 1 (by decide), hk 17 (by decide), hk 14 (by decide), hk 15 (by decide), hk 19 (by decide)]
    refine z_iload dX4_greatestHarmlessSet_17 rfl ?_
    refine z_iload_n dX4_greatestHarmlessSet_19 rfl ?_
    refine z_icmp_ge (tgt := 60) dX4_greatestHarmlessSet_20 (by decide) ⟨by omega, by omega⟩ ⟨by omega, by omega⟩ (fun h20 => ?_) (fun h20 => ?_)
    · exfalso; omega
    · skip
      refine z_iload dX4_greatestHarmlessSet_23 rfl ?_
      refine z_callSI (d := d + 2) (av := [_]) dX4_greatestHarmlessSet_25 sX4_79 rfl rfl (Nat.le_of_ble_eq_true rfl) (Nat.le_refl _) (c_J6_bitCount_0f7a4) (fun z25 σ25 h25 => ?_)
      obtain ⟨rfl, hs25⟩ := h25
      subst σ25
      rw [hpc]
      refine z_istore (L' := [_, _, _, _, _, _]) dX4_greatestHarmlessSet_28 (Nat.le_of_ble_eq_true rfl) rfl rfl ?_
      refine z_iload dX4_greatestHarmlessSet_30 rfl ?_
      refine z_iload_n dX4_greatestHarmlessSet_32 rfl ?_
      refine z_icmp_le (tgt := 54) dX4_greatestHarmlessSet_33 (by decide) ⟨by omega, by omega⟩ ⟨by omega, by omega⟩ (fun h33 => ?_) (fun h33 => ?_)
      · skip
        refine z_iinc (L' := [_, _, _, _, _, _]) dX4_greatestHarmlessSet_54 (Nat.le_of_ble_eq_true rfl) rfl rfl rfl ?_
        refine z_goto (tgt := 17) dX4_greatestHarmlessSet_57 (by decide) ?_
        refine z_forget [true, true, true, true, true, false] (L' := [_, _, _, _, _, _]) rfl ?_
        rw [ghF]
        first
          | rw [if_neg (by omega)]; exact l_X4_greatestHarmlessSet hW m τ (s + 1) _ _ (by omega) (by omega) (by omega) (by omega) hk
          | rw [if_neg (fun q => h45 (eh.trans q.2))]; exact l_X4_greatestHarmlessSet hW m σ42 (s + 1) _ _ (by omega) (by omega) (by omega) (by omega) (fun a ha => by rw [hfr a ha]; exact hk a ha)
          | rw [if_pos ⟨by omega, eh.symm.trans h45⟩]; exact l_X4_greatestHarmlessSet hW m σ42 (s + 1) _ _ (by omega) (by omega) (by omega) (by omega) (fun a ha => by rw [hfr a ha]; exact hk a ha)
      · skip
        refine z_aload_n dX4_greatestHarmlessSet_36 rfl ?_
        refine z_getR dX4_greatestHarmlessSet_37 gX4_15 rfl (Nat.le_of_ble_eq_true rfl) rfl ?_
        refine z_iload dX4_greatestHarmlessSet_40 rfl ?_
        refine z_callVI (d := d + 2) (av := [_]) dX4_greatestHarmlessSet_42 vX4_85 rfl (Nat.le_of_ble_eq_true rfl) rfl rfl rfl (Nat.le_of_ble_eq_true rfl) (Nat.le_refl _) (c_X6_hurtBySet (LF := LF) (hW.k42 hk)) (fun z42 σ42 h42 => ?_)
        obtain ⟨rfl, hfr⟩ := h42
        refine z_if_ne (tgt := 54) dX4_greatestHarmlessSet_45 (by decide) hhr (fun h45 => ?_) (fun h45 => ?_)
        · skip
          refine z_iinc (L' := [_, _, _, _, _, _]) dX4_greatestHarmlessSet_54 (Nat.le_of_ble_eq_true rfl) rfl rfl rfl ?_
          refine z_goto (tgt := 17) dX4_greatestHarmlessSet_57 (by decide) ?_
          refine z_forget [true, true, true, true, true, false] (L' := [_, _, _, _, _, _]) rfl ?_
          rw [ghF]
          first
            | rw [if_neg (by omega)]; exact l_X4_greatestHarmlessSet hW m τ (s + 1) _ _ (by omega) (by omega) (by omega) (by omega) hk
            | rw [if_neg (fun q => h45 (eh.trans q.2))]; exact l_X4_greatestHarmlessSet hW m σ42 (s + 1) _ _ (by omega) (by omega) (by omega) (by omega) (fun a ha => by rw [hfr a ha]; exact hk a ha)
            | rw [if_pos ⟨by omega, eh.symm.trans h45⟩]; exact l_X4_greatestHarmlessSet hW m σ42 (s + 1) _ _ (by omega) (by omega) (by omega) (by omega) (fun a ha => by rw [hfr a ha]; exact hk a ha)
        · skip
          refine z_iload dX4_greatestHarmlessSet_48 rfl ?_
          refine z_istore_n (L' := [_, _, _, _, _, _]) dX4_greatestHarmlessSet_50 (Nat.le_of_ble_eq_true rfl) rfl rfl ?_
          refine z_iload dX4_greatestHarmlessSet_51 rfl ?_
          refine z_istore_n (L' := [_, _, _, _, _, _]) dX4_greatestHarmlessSet_53 (Nat.le_of_ble_eq_true rfl) rfl rfl ?_
          refine z_iinc (L' := [_, _, _, _, _, _]) dX4_greatestHarmlessSet_54 (Nat.le_of_ble_eq_true rfl) rfl rfl rfl ?_
          refine z_goto (tgt := 17) dX4_greatestHarmlessSet_57 (by decide) ?_
          refine z_forget [true, true, true, true, true, false] (L' := [_, _, _, _, _, _]) rfl ?_
          rw [ghF]
          first
            | rw [if_neg (by omega)]; exact l_X4_greatestHarmlessSet hW m τ (s + 1) _ _ (by omega) (by omega) (by omega) (by omega) hk
            | rw [if_neg (fun q => h45 (eh.trans q.2))]; exact l_X4_greatestHarmlessSet hW m σ42 (s + 1) _ _ (by omega) (by omega) (by omega) (by omega) (fun a ha => by rw [hfr a ha]; exact hk a ha)
            | rw [if_pos ⟨by omega, eh.symm.trans h45⟩]; exact l_X4_greatestHarmlessSet hW m σ42 (s + 1) _ _ (by omega) (by omega) (by omega) (by omega) (fun a ha => by rw [hfr a ha]; exact hk a ha)
set_option maxRecDepth 20000 in
theorem c_X4_greatestHarmlessSet {d : Nat} {σ : Sto} {LF : LFT} (hW : WC LF σ) : m_X4_greatestHarmlessSet d [zR 6] σ (qI fun z σ' => z = ghF (huS σ) (2 ^ (σ 1 1).toNat - 1) 1 0 0 ∧ ∀ a, a ≠ 42 → σ' a = σ a) := by
  have w1 := hW.1
  have p12 := pow12 (show (σ 1 1).toNat ≤ 12 by omega)
  have p1 : 0 < 2 ^ (σ 1 1).toNat := Nat.pow_pos (by decide)
  refine z_does (L := [some (zR 6), none, none, none, none, none]) rfl (by decide +kernel) (Nat.le_of_ble_eq_true rfl) rfl ?_
  refine z_iconst dX4_greatestHarmlessSet_0 ?_
  refine z_istore_n (L' := [_, _, _, _, _, _]) dX4_greatestHarmlessSet_1 (Nat.le_of_ble_eq_true rfl) rfl rfl ?_
  refine z_iconst dX4_greatestHarmlessSet_2 ?_
  refine z_istore_n (L' := [_, _, _, _, _, _]) dX4_greatestHarmlessSet_3 (Nat.le_of_ble_eq_true rfl) rfl rfl ?_
  refine z_iconst dX4_greatestHarmlessSet_4 ?_
  refine z_aload_n dX4_greatestHarmlessSet_5 rfl ?_
  refine z_getR dX4_greatestHarmlessSet_6 gX4_9 rfl (Nat.le_of_ble_eq_true rfl) rfl ?_
  refine z_getI dX4_greatestHarmlessSet_9 gX4_65 rfl (Nat.le_of_ble_eq_true rfl) rfl (fun hr9 => ?_)
  refine z_ishl dX4_greatestHarmlessSet_12 ?_
  rw [shl1I (by omega)]
  refine z_istore_n (L' := [_, _, _, _, _, _]) dX4_greatestHarmlessSet_13 (Nat.le_of_ble_eq_true rfl) rfl rfl ?_
  refine z_iconst dX4_greatestHarmlessSet_14 ?_
  refine z_istore (L' := [_, _, _, _, _, _]) dX4_greatestHarmlessSet_15 (Nat.le_of_ble_eq_true rfl) rfl rfl ?_
  exact l_X4_greatestHarmlessSet hW (2 ^ (σ 1 1).toNat - 1) σ 1 0 0 (by omega) (by omega) (by omega) (by omega) (fun _ _ => rfl)
/-! ===== drawn evenings ===== -/
def nz (z : Int) : Int := z * 1103515245 + 12345
def dw (z n : Int) : Int := (z_iushrF z 10).tmod n
theorem ushr_R (z : Int) : 0 ≤ z_iushrF z 10 ∧ z_iushrF z 10 ≤ 2147483647 := by
  have h := z_rng ((Int32.ofInt z).toUInt32 >>> ((Int32.ofInt 10).toUInt32 &&& Int32.toUInt32 31)).toInt32
  refine ⟨?_, h.2⟩
  have e := pk_ushr (Int32.ofInt z) (Int32.ofInt 10) 10 (by decide)
  unfold z_iushrF
  generalize ((Int32.ofInt z).toUInt32 >>> ((Int32.ofInt 10).toUInt32 &&& Int32.toUInt32 31)).toInt32 = y at e ⊢
  have h1 : (Int32.ofInt z).toBitVec.toNat < 2 ^ 32 := (Int32.ofInt z).toBitVec.isLt
  have h2 : y.toInt = y.toBitVec.toInt := rfl
  rw [h2, BitVec.toInt_eq_toNat_cond]
  split <;> omega
theorem dw_R {z n : Int} (hn : 1 ≤ n ∧ n ≤ 12) : 0 ≤ dw z n ∧ dw z n < n := by
  have h := ushr_R z
  unfold dw
  rw [Int.tmod_eq_emod_of_nonneg h.1]
  exact ⟨Int.emod_nonneg _ (by omega), Int.emod_lt_of_pos _ (by omega)⟩
/-- four words by the draws from z on -/
def dws (z n : Int) : List Int := [dw (nz z) n, dw (nz (nz z)) n, dw (nz (nz (nz z))) n, dw (nz (nz (nz (nz z)))) n]
def nz4 (z : Int) : Int := nz (nz (nz (nz z)))
/-- m sayings in a mesh in which q lie: z behind them, how many are left, how many hurt -/
def dsF (ps : Int → Int → Int → Bool) (hu : List Int → Int) (n : Int) : Nat → Int → Int → Int × Int × Int
  | 0, z, _ => (z, 0, 0)
  | m + 1, z, q =>
    let c := cmL ps (dws z n) 0 q
    let r := dsF ps hu n m (nz4 z) (q + c.2.length)
    (r.1, c.2.length + r.2.1, (if hu c.1 ≠ 0 then 1 else 0) + r.2.2)
def deF (ps : Int → Int → Int → Bool) (hu : List Int → Int) (n : Int) (sy : Nat) : Nat → Int → Int × Int
  | 0, _ => (0, 0)
  | m + 1, z =>
    let r := dsF ps hu n sy z 0
    let t := deF ps hu n sy m r.1
    (r.2.1 + t.1, r.2.2 + t.2)
theorem dsF_R {ps : Int → Int → Int → Bool} {hu : List Int → Int} {n : Int} : ∀ (m : Nat) (z q : Int), (0 ≤ (dsF ps hu n m z q).2.1 ∧ (dsF ps hu n m z q).2.1 ≤ 4 * m) ∧ (0 ≤ (dsF ps hu n m z q).2.2 ∧ (dsF ps hu n m z q).2.2 ≤ m)
  | 0, _, _ => by simp [dsF]
  | m + 1, z, q => by
    have h1 := cmL_len (ps := ps) (dws z n) 0 q
    have h2 := dsF_R m (nz4 z) (q + (cmL ps (dws z n) 0 q).2.length) (ps := ps) (hu := hu) (n := n)
    have h3 : (dws z n).length = 4 := rfl
    simp only [dsF]
    split <;> omega
def drK (σ τ : Sto) : Prop := ∀ a, a ≠ 5 → a ≠ 28 → a ≠ 29 → a ≠ 40 → a ≠ 41 → a ≠ 42 → a ≠ 44 → τ a = σ a
theorem drK.wc {LF : LFT} {σ τ : Sto} (h : drK σ τ) (hW : WC LF σ) : WC LF τ := hW.keep (h 1 (by decide) (by decide) (by decide) (by decide) (by decide) (by decide) (by decide)) (h 3 (by decide) (by decide) (by decide) (by decide) (by decide) (by decide) (by decide)) (h 27 (by decide) (by decide) (by decide) (by decide) (by decide) (by decide) (by decide)) (fun a h1 h2 => h a (by omega) (by omega) (by omega) (by omega) (by omega) (by omega) (by omega))
theorem drK.ps {LF : LFT} {σ τ : Sto} {f : Int} (h : drK σ τ) : pasC LF τ f = pasC LF σ f := pas_cong (h 3 (by decide) (by decide) (by decide) (by decide) (by decide) (by decide) (by decide)) (h 13 (by decide) (by decide) (by decide) (by decide) (by decide) (by decide) (by decide)) (h 14 (by decide) (by decide) (by decide) (by decide) (by decide) (by decide) (by decide)) (h 15 (by decide) (by decide) (by decide) (by decide) (by decide) (by decide) (by decide)) (h 20 (by decide) (by decide) (by decide) (by decide) (by decide) (by decide) (by decide))
theorem drK.e {σ τ : Sto} (h : drK σ τ) {a : Nat} (ha : a ≠ 5 ∧ a ≠ 28 ∧ a ≠ 29 ∧ a ≠ 40 ∧ a ≠ 41 ∧ a ≠ 42 ∧ a ≠ 44) : τ a = σ a := h a ha.1 ha.2.1 ha.2.2.1 ha.2.2.2.1 ha.2.2.2.2.1 ha.2.2.2.2.2.1 ha.2.2.2.2.2.2
theorem drK.hurt {σ τ : Sto} (h : drK σ τ) (X : List Int) : hurtC τ X = hurtC σ X := by
  simp only [hurtC]
  rw [h.e (a := 1) (by decide), h.e (a := 17) (by decide), h.e (a := 14) (by decide), h.e (a := 15) (by decide), h.e (a := 19) (by decide)]
set_option maxRecDepth 20000 in
set_option maxHeartbeats 1000000 in
theorem l_X4_drawn2 {d : Nat} {σ : Sto} {LF : LFT} {f sy sd ev ask lt e : Int} (hW : WC LF σ) (hf : -1 ≤ f ∧ f ≤ 9) (hw : 1 ≤ σ 1 1) (hsy : sy ≤ 20) (ha : ask = 0 ∨ ask = 1) {Q : Option Value → Sto → Prop}
    (L : Int → Int → Int → Int → List (Option Value)) (hL : L = fun z hv q s => [some (zR 6), some (zI sd), some (zI ev), some (zI sy), some (zI f), some (zI ask), some (zI z), some (zI lt), some (zI hv), some (zI e), some (zI q), some (zI s), none]) :
    ∀ (m : Nat) (τ : Sto) (z hv q s : Int), 0 ≤ s → s + m = sy → (0 ≤ q ∧ q ≤ 4 * s) → (0 ≤ hv ∧ hv + m ≤ 100000) → drK σ τ →
    (∀ τ' : Sto, drK σ τ' → Z (z_me cX4_drawnEvenings RX4 13 (some .int) (d + 4) Q) 155 (L (dsF (pasC LF σ f) (hurtC σ) (σ 1 1) m z q).1 (if ask = 1 then hv + (dsF (pasC LF σ f) (hurtC σ) (σ 1 1) m z q).2.2 else hv) (q + (dsF (pasC LF σ f) (hurtC σ) (σ 1 1) m z q).2.1) sy) [] τ') →
    Z (z_me cX4_drawnEvenings RX4 13 (some .int) (d + 4) Q) 37 (L z hv q s) [] τ
  | 0, τ, z, hv, q, s, h0, hs, hq, hh, hK, kk => by
    subst hL
    obtain rfl : s = sy := by omega
    refine z_iload dX4_drawnEvenings_37 rfl ?_
    refine z_iload_n dX4_drawnEvenings_39 rfl ?_
    refine z_icmp_ge (tgt := 155) dX4_drawnEvenings_40 (by decide) ⟨by omega, by omega⟩ ⟨by omega, by omega⟩ (fun h40 => ?_) (fun h40 => ?_)
    · skip
      have h := kk τ hK
      simp only [dsF, Int.add_zero, ite_self] at h
      exact h
    · exfalso; omega
  | m + 1, τ, z, hv, q, s, h0, hs, hq, hh, hK, kk => by
    have w1 := hW.1
    have e1 : τ 1 = σ 1 := hK.e (by decide)
    have r0 := ushr_R (nz z)
    have r1 := ushr_R (nz (nz z))
    have r2 := ushr_R (nz (nz (nz z)))
    have r3 := ushr_R (nz (nz (nz (nz z))))
    have d0 := dw_R (z := nz z) (n := σ 1 1) (by omega)
    have d1 := dw_R (z := nz (nz z)) (n := σ 1 1) (by omega)
    have d2 := dw_R (z := nz (nz (nz z))) (n := σ 1 1) (by omega)
    have d3 := dw_R (z := nz (nz (nz (nz z)))) (n := σ 1 1) (by omega)
    have hxw : wok (dws z (σ 1 1)) := by
      intro w hwm
      simp only [dws, List.mem_cons, List.not_mem_nil, or_false] at hwm
      omega
    have hcl := cmL_len (ps := pasC LF σ f) (dws z (σ 1 1)) 0 q
    have hl4 : (dws z (σ 1 1)).length = 4 := rfl
    have hcw := cmL_wok (ps := pasC LF σ f) (dws z (σ 1 1)) 0 q hxw
    have hhu : inR (hurtC σ (cmL (pasC LF σ f) (dws z (σ 1 1)) 0 q).1) := hurt_R
    subst hL
    refine z_iload dX4_drawnEvenings_37 rfl ?_
    refine z_iload_n dX4_drawnEvenings_39 rfl ?_
    refine z_icmp_ge (tgt := 155) dX4_drawnEvenings_40 (by decide) ⟨by omega, by omega⟩ ⟨by omega, by omega⟩ (fun h40 => ?_) (fun h40 => ?_)
    · exfalso; omega
    · skip
      refine z_iconst dX4_drawnEvenings_43 ?_
      refine z_istore (L' := [_, _, _, _, _, _, _, _, _, _, _, _, _]) dX4_drawnEvenings_44 (Nat.le_of_ble_eq_true rfl) rfl rfl ?_
      refine z_iload dX4_drawnEvenings_46 rfl ?_
      refine z_iconst dX4_drawnEvenings_48 ?_
      refine z_icmp_ge (tgt := 89) dX4_drawnEvenings_49 (by decide) ⟨by omega, by omega⟩ ⟨by omega, by omega⟩ (fun h49 => ?_) (fun h49 => ?_)
      · exfalso; omega
      · skip
        refine z_iload dX4_drawnEvenings_52 rfl ?_
        refine z_ldc dX4_drawnEvenings_54 kX4_110 ?_
        refine z_imul dX4_drawnEvenings_56 ?_
        refine z_sipush (v := 12345) dX4_drawnEvenings_57 (by decide +kernel) ?_
        refine z_iadd dX4_drawnEvenings_60 ?_
        try simp only [show ∀ x : Int, x * 1103515245 + 12345 = nz x from fun _ => rfl]
        refine z_istore (L' := [_, _, _, _, _, _, _, _, _, _, _, _, _]) dX4_drawnEvenings_61 (Nat.le_of_ble_eq_true rfl) rfl rfl ?_
        refine z_aload_n dX4_drawnEvenings_63 rfl ?_
        refine z_getR dX4_drawnEvenings_64 gX4_23 rfl (Nat.le_of_ble_eq_true rfl) rfl ?_
        refine z_iload dX4_drawnEvenings_67 rfl ?_
        refine z_iload dX4_drawnEvenings_69 rfl ?_
        refine z_bipush (v := 10) dX4_drawnEvenings_71 (by decide +kernel) ?_
        refine z_iushr dX4_drawnEvenings_73 ?_
        refine z_aload_n dX4_drawnEvenings_74 rfl ?_
        refine z_getR dX4_drawnEvenings_75 gX4_9 rfl (Nat.le_of_ble_eq_true rfl) rfl ?_
        refine z_getI dX4_drawnEvenings_78 gX4_65 rfl (Nat.le_of_ble_eq_true rfl) rfl (fun hr78 => ?_)
        try simp only [e1, z_rd, Nat.reduceEqDiff, ↓reduceIte, eq_self] at hr78 ⊢
        refine z_irem dX4_drawnEvenings_81 ⟨by omega, by omega⟩ ⟨by omega, by omega⟩ (by omega) ?_
        try simp only [show ∀ x : Int, (z_iushrF x 10).tmod (σ 1 1) = dw x (σ 1 1) from fun _ => rfl]
        refine z_iast dX4_drawnEvenings_82 rfl (Nat.le_of_ble_eq_true rfl) (by omega) ⟨by omega, by omega⟩ ?_
        refine z_iinc (L' := [_, _, _, _, _, _, _, _, _, _, _, _, _]) dX4_drawnEvenings_83 (Nat.le_of_ble_eq_true rfl) rfl rfl rfl ?_
        refine z_goto (tgt := 46) dX4_drawnEvenings_86 (by decide) ?_
        refine z_iload dX4_drawnEvenings_46 rfl ?_
        refine z_iconst dX4_drawnEvenings_48 ?_
        refine z_icmp_ge (tgt := 89) dX4_drawnEvenings_49 (by decide) ⟨by omega, by omega⟩ ⟨by omega, by omega⟩ (fun h49 => ?_) (fun h49 => ?_)
        · exfalso; omega
        · skip
          refine z_iload dX4_drawnEvenings_52 rfl ?_
          refine z_ldc dX4_drawnEvenings_54 kX4_110 ?_
          refine z_imul dX4_drawnEvenings_56 ?_
          refine z_sipush (v := 12345) dX4_drawnEvenings_57 (by decide +kernel) ?_
          refine z_iadd dX4_drawnEvenings_60 ?_
          try simp only [show ∀ x : Int, x * 1103515245 + 12345 = nz x from fun _ => rfl]
          refine z_istore (L' := [_, _, _, _, _, _, _, _, _, _, _, _, _]) dX4_drawnEvenings_61 (Nat.le_of_ble_eq_true rfl) rfl rfl ?_
          refine z_aload_n dX4_drawnEvenings_63 rfl ?_
          refine z_getR dX4_drawnEvenings_64 gX4_23 rfl (Nat.le_of_ble_eq_true rfl) rfl ?_
          refine z_iload dX4_drawnEvenings_67 rfl ?_
          refine z_iload dX4_drawnEvenings_69 rfl ?_
          refine z_bipush (v := 10) dX4_drawnEvenings_71 (by decide +kernel) ?_
          refine z_iushr dX4_drawnEvenings_73 ?_
          refine z_aload_n dX4_drawnEvenings_74 rfl ?_
          refine z_getR dX4_drawnEvenings_75 gX4_9 rfl (Nat.le_of_ble_eq_true rfl) rfl ?_
          refine z_getI dX4_drawnEvenings_78 gX4_65 rfl (Nat.le_of_ble_eq_true rfl) rfl (fun hr78 => ?_)
          try simp only [e1, z_rd, Nat.reduceEqDiff, ↓reduceIte, eq_self] at hr78 ⊢
          refine z_irem dX4_drawnEvenings_81 ⟨by omega, by omega⟩ ⟨by omega, by omega⟩ (by omega) ?_
          try simp only [show ∀ x : Int, (z_iushrF x 10).tmod (σ 1 1) = dw x (σ 1 1) from fun _ => rfl]
          refine z_iast dX4_drawnEvenings_82 rfl (Nat.le_of_ble_eq_true rfl) (by omega) ⟨by omega, by omega⟩ ?_
          refine z_iinc (L' := [_, _, _, _, _, _, _, _, _, _, _, _, _]) dX4_drawnEvenings_83 (Nat.le_of_ble_eq_true rfl) rfl rfl rfl ?_
          refine z_goto (tgt := 46) dX4_drawnEvenings_86 (by decide) ?_
          refine z_iload dX4_drawnEvenings_46 rfl ?_
          refine z_iconst dX4_drawnEvenings_48 ?_
          refine z_icmp_ge (tgt := 89) dX4_drawnEvenings_49 (by decide) ⟨by omega, by omega⟩ ⟨by omega, by omega⟩ (fun h49 => ?_) (fun h49 => ?_)
          · exfalso; omega
          · skip
            refine z_iload dX4_drawnEvenings_52 rfl ?_
            refine z_ldc dX4_drawnEvenings_54 kX4_110 ?_
            refine z_imul dX4_drawnEvenings_56 ?_
            refine z_sipush (v := 12345) dX4_drawnEvenings_57 (by decide +kernel) ?_
            refine z_iadd dX4_drawnEvenings_60 ?_
            try simp only [show ∀ x : Int, x * 1103515245 + 12345 = nz x from fun _ => rfl]
            refine z_istore (L' := [_, _, _, _, _, _, _, _, _, _, _, _, _]) dX4_drawnEvenings_61 (Nat.le_of_ble_eq_true rfl) rfl rfl ?_
            refine z_aload_n dX4_drawnEvenings_63 rfl ?_
            refine z_getR dX4_drawnEvenings_64 gX4_23 rfl (Nat.le_of_ble_eq_true rfl) rfl ?_
            refine z_iload dX4_drawnEvenings_67 rfl ?_
            refine z_iload dX4_drawnEvenings_69 rfl ?_
            refine z_bipush (v := 10) dX4_drawnEvenings_71 (by decide +kernel) ?_
            refine z_iushr dX4_drawnEvenings_73 ?_
            refine z_aload_n dX4_drawnEvenings_74 rfl ?_
            refine z_getR dX4_drawnEvenings_75 gX4_9 rfl (Nat.le_of_ble_eq_true rfl) rfl ?_
            refine z_getI dX4_drawnEvenings_78 gX4_65 rfl (Nat.le_of_ble_eq_true rfl) rfl (fun hr78 => ?_)
            try simp only [e1, z_rd, Nat.reduceEqDiff, ↓reduceIte, eq_self] at hr78 ⊢
            refine z_irem dX4_drawnEvenings_81 ⟨by omega, by omega⟩ ⟨by omega, by omega⟩ (by omega) ?_
            try simp only [show ∀ x : Int, (z_iushrF x 10).tmod (σ 1 1) = dw x (σ 1 1) from fun _ => rfl]
            refine z_iast dX4_drawnEvenings_82 rfl (Nat.le_of_ble_eq_true rfl) (by omega) ⟨by omega, by omega⟩ ?_
            refine z_iinc (L' := [_, _, _, _, _, _, _, _, _, _, _, _, _]) dX4_drawnEvenings_83 (Nat.le_of_ble_eq_true rfl) rfl rfl rfl ?_
            refine z_goto (tgt := 46) dX4_drawnEvenings_86 (by decide) ?_
            refine z_iload dX4_drawnEvenings_46 rfl ?_
            refine z_iconst dX4_drawnEvenings_48 ?_
            refine z_icmp_ge (tgt := 89) dX4_drawnEvenings_49 (by decide) ⟨by omega, by omega⟩ ⟨by omega, by omega⟩ (fun h49 => ?_) (fun h49 => ?_)
            · exfalso; omega
            · skip
              refine z_iload dX4_drawnEvenings_52 rfl ?_
              refine z_ldc dX4_drawnEvenings_54 kX4_110 ?_
              refine z_imul dX4_drawnEvenings_56 ?_
              refine z_sipush (v := 12345) dX4_drawnEvenings_57 (by decide +kernel) ?_
              refine z_iadd dX4_drawnEvenings_60 ?_
              try simp only [show ∀ x : Int, x * 1103515245 + 12345 = nz x from fun _ => rfl]
              refine z_istore (L' := [_, _, _, _, _, _, _, _, _, _, _, _, _]) dX4_drawnEvenings_61 (Nat.le_of_ble_eq_true rfl) rfl rfl ?_
              refine z_aload_n dX4_drawnEvenings_63 rfl ?_
              refine z_getR dX4_drawnEvenings_64 gX4_23 rfl (Nat.le_of_ble_eq_true rfl) rfl ?_
              refine z_iload dX4_drawnEvenings_67 rfl ?_
              refine z_iload dX4_drawnEvenings_69 rfl ?_
              refine z_bipush (v := 10) dX4_drawnEvenings_71 (by decide +kernel) ?_
              refine z_iushr dX4_drawnEvenings_73 ?_
              refine z_aload_n dX4_drawnEvenings_74 rfl ?_
              refine z_getR dX4_drawnEvenings_75 gX4_9 rfl (Nat.le_of_ble_eq_true rfl) rfl ?_
              refine z_getI dX4_drawnEvenings_78 gX4_65 rfl (Nat.le_of_ble_eq_true rfl) rfl (fun hr78 => ?_)
              try simp only [e1, z_rd, Nat.reduceEqDiff, ↓reduceIte, eq_self] at hr78 ⊢
              refine z_irem dX4_drawnEvenings_81 ⟨by omega, by omega⟩ ⟨by omega, by omega⟩ (by omega) ?_
              try simp only [show ∀ x : Int, (z_iushrF x 10).tmod (σ 1 1) = dw x (σ 1 1) from fun _ => rfl]
              refine z_iast dX4_drawnEvenings_82 rfl (Nat.le_of_ble_eq_true rfl) (by omega) ⟨by omega, by omega⟩ ?_
              refine z_iinc (L' := [_, _, _, _, _, _, _, _, _, _, _, _, _]) dX4_drawnEvenings_83 (Nat.le_of_ble_eq_true rfl) rfl rfl rfl ?_
              refine z_goto (tgt := 46) dX4_drawnEvenings_86 (by decide) ?_
              refine z_iload dX4_drawnEvenings_46 rfl ?_
              refine z_iconst dX4_drawnEvenings_48 ?_
              refine z_icmp_ge (tgt := 89) dX4_drawnEvenings_49 (by decide) ⟨by omega, by omega⟩ ⟨by omega, by omega⟩ (fun h49 => ?_) (fun h49 => ?_)
              · skip
                generalize hτ4 : z_put (z_put (z_put (z_put τ 44 _ _) 44 _ _) 44 _ _) 44 _ _ = τ4
                have hK4 : drK σ τ4 := fun a b1 b2 b3 b4 b5 b6 b7 => by rw [← hτ4]; simp only [z_put_ne b7]; exact hK a b1 b2 b3 b4 b5 b6 b7
                have s4 : Seg τ4 44 0 (dws z (σ 1 1)) := by rw [← hτ4]; exact ⟨rfl, rfl, rfl, rfl, trivial⟩
                refine z_aload_n dX4_drawnEvenings_89 rfl ?_
                refine z_getR dX4_drawnEvenings_90 gX4_15 rfl (Nat.le_of_ble_eq_true rfl) rfl ?_
                refine z_aload_n dX4_drawnEvenings_93 rfl ?_
                refine z_getR dX4_drawnEvenings_94 gX4_23 rfl (Nat.le_of_ble_eq_true rfl) rfl ?_
                refine z_iconst dX4_drawnEvenings_97 ?_
                refine z_iload dX4_drawnEvenings_98 rfl ?_
                refine z_iload dX4_drawnEvenings_100 rfl ?_
                refine z_callVV (d := d + 3) (av := [_, _, _, _]) dX4_drawnEvenings_102 vX4_92 rfl (Nat.le_of_ble_eq_true rfl) rfl rfl rfl (Nat.le_of_ble_eq_true rfl) (Nat.le_refl _) (c_X6_strain (LF := LF) (xs := dws z (σ 1 1)) (hK4.wc hW) rfl (Nat.le_of_ble_eq_true rfl) (by decide) (by decide) hf (by omega) rfl hxw s4 (by rw [hl4]; decide)) (fun σ102 h102 => ?_)
                obtain ⟨t1, t2, t3, t4, t5⟩ := h102
                rw [hK4.ps] at t2 t3 t4 t5
                have hK5 : drK σ σ102 := fun a b1 b2 b3 b4 b5 b6 b7 => by rw [t1 a b1 b2 b3 b4 b5]; exact hK4 a b1 b2 b3 b4 b5 b6 b7
                refine z_iload dX4_drawnEvenings_105 rfl ?_
                refine z_aload_n dX4_drawnEvenings_107 rfl ?_
                refine z_getR dX4_drawnEvenings_108 gX4_15 rfl (Nat.le_of_ble_eq_true rfl) rfl ?_
                refine z_getI dX4_drawnEvenings_111 gX4_100 rfl (Nat.le_of_ble_eq_true rfl) rfl (fun hr111 => ?_)
                try simp only [e1, z_rd, Nat.reduceEqDiff, ↓reduceIte, eq_self] at hr111 ⊢
                rw [t3]
                refine z_iadd dX4_drawnEvenings_114 ?_
                refine z_istore (L' := [_, _, _, _, _, _, _, _, _, _, _, _, _]) dX4_drawnEvenings_115 (Nat.le_of_ble_eq_true rfl) rfl rfl ?_
                refine z_iload dX4_drawnEvenings_117 rfl ?_
                refine z_if_eq (tgt := 149) dX4_drawnEvenings_119 (by decide) ⟨by omega, by omega⟩ (fun h119 => ?_) (fun h119 => ?_)
                · skip
                  refine z_iinc (L' := [_, _, _, _, _, _, _, _, _, _, _, _, _]) dX4_drawnEvenings_149 (Nat.le_of_ble_eq_true rfl) rfl rfl rfl ?_
                  refine z_goto (tgt := 37) dX4_drawnEvenings_152 (by decide) ?_
                  refine z_forget [true, true, true, true, true, true, true, true, true, true, true, true, false] (L' := [_, _, _, _, _, _, _, _, _, _, _, _, _]) rfl ?_
                  first
                    | refine l_X4_drawn2 (lt := lt) (e := e) (sd := sd) (ev := ev) hW hf hw hsy ha _ rfl m σ102 (nz4 z) _ _ (s + 1) (by omega) (by omega) (by omega) (by omega) hK5 (fun τ' h1 => ?_)
                    | refine l_X4_drawn2 (lt := lt) (e := e) (sd := sd) (ev := ev) hW hf hw hsy ha _ rfl m σ140 (nz4 z) _ _ (s + 1) (by omega) (by omega) (by omega) (by omega) hK6 (fun τ' h1 => ?_)
                  have h := kk τ' h1
                  simp only [dsF] at h
                  rcases ha with rfl | rfl
                  · simp only [show ((0 : Int) = 1) = False by decide, if_false, ← Int.add_assoc] at h ⊢
                    first | (exfalso; omega) | exact h
                  · simp only [if_true, ← Int.add_assoc] at h ⊢
                    first | (exfalso; omega) | (rw [if_pos h143] at h; exact h) | (rw [if_neg (fun w => w h143), Int.add_zero] at h; exact h)
                · skip
                  refine z_aload_n dX4_drawnEvenings_122 rfl ?_
                  refine z_getR dX4_drawnEvenings_123 gX4_15 rfl (Nat.le_of_ble_eq_true rfl) rfl ?_
                  refine z_aload_n dX4_drawnEvenings_126 rfl ?_
                  refine z_getR dX4_drawnEvenings_127 gX4_15 rfl (Nat.le_of_ble_eq_true rfl) rfl ?_
                  refine z_getR dX4_drawnEvenings_130 gX4_111 rfl (Nat.le_of_ble_eq_true rfl) rfl ?_
                  refine z_aload_n dX4_drawnEvenings_133 rfl ?_
                  refine z_getR dX4_drawnEvenings_134 gX4_15 rfl (Nat.le_of_ble_eq_true rfl) rfl ?_
                  refine z_getI dX4_drawnEvenings_137 gX4_114 rfl (Nat.le_of_ble_eq_true rfl) rfl (fun hr137 => ?_)
                  try simp only [e1, z_rd, Nat.reduceEqDiff, ↓reduceIte, eq_self] at hr137 ⊢
                  rw [t2]
                  refine z_callVI (d := d + 3) (av := [_, _]) dX4_drawnEvenings_140 vX4_117 rfl (Nat.le_of_ble_eq_true rfl) rfl rfl rfl (Nat.le_of_ble_eq_true rfl) (Nat.le_refl _) (c_X6_hurtBy (LF := LF) (X := (cmL (pasC LF σ f) (dws z (σ 1 1)) 0 q).1) (hK5.wc hW) rfl (Nat.le_of_ble_eq_true rfl) (by decide) rfl (by omega) (by decide) t4 hcw.1) (fun z140 σ140 h140 => ?_)
                  obtain ⟨rfl, hf2⟩ := h140
                  rw [hK5.hurt]
                  have hK6 : drK σ σ140 := fun a b1 b2 b3 b4 b5 b6 b7 => by rw [hf2 a b6]; exact hK5 a b1 b2 b3 b4 b5 b6 b7
                  refine z_if_eq (tgt := 149) dX4_drawnEvenings_143 (by decide) hhu (fun h143 => ?_) (fun h143 => ?_)
                  · skip
                    refine z_iinc (L' := [_, _, _, _, _, _, _, _, _, _, _, _, _]) dX4_drawnEvenings_149 (Nat.le_of_ble_eq_true rfl) rfl rfl rfl ?_
                    refine z_goto (tgt := 37) dX4_drawnEvenings_152 (by decide) ?_
                    refine z_forget [true, true, true, true, true, true, true, true, true, true, true, true, false] (L' := [_, _, _, _, _, _, _, _, _, _, _, _, _]) rfl ?_
                    first
                      | refine l_X4_drawn2 (lt := lt) (e := e) (sd := sd) (ev := ev) hW hf hw hsy ha _ rfl m σ102 (nz4 z) _ _ (s + 1) (by omega) (by omega) (by omega) (by omega) hK5 (fun τ' h1 => ?_)
                      | refine l_X4_drawn2 (lt := lt) (e := e) (sd := sd) (ev := ev) hW hf hw hsy ha _ rfl m σ140 (nz4 z) _ _ (s + 1) (by omega) (by omega) (by omega) (by omega) hK6 (fun τ' h1 => ?_)
                    have h := kk τ' h1
                    simp only [dsF] at h
                    rcases ha with rfl | rfl
                    · simp only [show ((0 : Int) = 1) = False by decide, if_false, ← Int.add_assoc] at h ⊢
                      first | (exfalso; omega) | exact h
                    · simp only [if_true, ← Int.add_assoc] at h ⊢
                      first | (exfalso; omega) | (rw [if_pos h143] at h; exact h) | (rw [if_neg (fun w => w h143), Int.add_zero] at h; exact h)
                  · skip
                    refine z_iinc (L' := [_, _, _, _, _, _, _, _, _, _, _, _, _]) dX4_drawnEvenings_146 (Nat.le_of_ble_eq_true rfl) rfl rfl rfl ?_
                    refine z_iinc (L' := [_, _, _, _, _, _, _, _, _, _, _, _, _]) dX4_drawnEvenings_149 (Nat.le_of_ble_eq_true rfl) rfl rfl rfl ?_
                    refine z_goto (tgt := 37) dX4_drawnEvenings_152 (by decide) ?_
                    refine z_forget [true, true, true, true, true, true, true, true, true, true, true, true, false] (L' := [_, _, _, _, _, _, _, _, _, _, _, _, _]) rfl ?_
                    first
                      | refine l_X4_drawn2 (lt := lt) (e := e) (sd := sd) (ev := ev) hW hf hw hsy ha _ rfl m σ102 (nz4 z) _ _ (s + 1) (by omega) (by omega) (by omega) (by omega) hK5 (fun τ' h1 => ?_)
                      | refine l_X4_drawn2 (lt := lt) (e := e) (sd := sd) (ev := ev) hW hf hw hsy ha _ rfl m σ140 (nz4 z) _ _ (s + 1) (by omega) (by omega) (by omega) (by omega) hK6 (fun τ' h1 => ?_)
                    have h := kk τ' h1
                    simp only [dsF] at h
                    rcases ha with rfl | rfl
                    · simp only [show ((0 : Int) = 1) = False by decide, if_false, ← Int.add_assoc] at h ⊢
                      first | (exfalso; omega) | exact h
                    · simp only [if_true, ← Int.add_assoc] at h ⊢
                      first | (exfalso; omega) | (rw [if_pos h143] at h; exact h) | (rw [if_neg (fun w => w h143), Int.add_zero] at h; exact h)
              · exfalso; omega
set_option maxRecDepth 20000 in
theorem l_X4_drawn1 {d : Nat} {σ : Sto} {LF : LFT} {f sy sd ev ask : Int} (hW : WC LF σ) (hf : -1 ≤ f ∧ f ≤ 9) (hw : 1 ≤ σ 1 1) (hsy : 0 ≤ sy ∧ sy ≤ 20) (hev : ev ≤ 30) (ha : ask = 0 ∨ ask = 1) :
    ∀ (m : Nat) (τ : Sto) (z lt hv e : Int), 0 ≤ e → e + m = ev → (0 ≤ lt ∧ lt ≤ 100 * e) → (0 ≤ hv ∧ hv ≤ 100 * e) → drK σ τ →
    Z (z_me cX4_drawnEvenings RX4 13 (some .int) (d + 4) (qI fun r σ' => r = (if ask = 1 then hv + (deF (pasC LF σ f) (hurtC σ) (σ 1 1) sy.toNat m z).2 else lt + (deF (pasC LF σ f) (hurtC σ) (σ 1 1) sy.toNat m z).1) ∧ drK σ σ')) 25 [some (zR 6), some (zI sd), some (zI ev), some (zI sy), some (zI f), some (zI ask), some (zI z), some (zI lt), some (zI hv), some (zI e), none, none, none] [] τ
  | 0, τ, z, lt, hv, e, h0, hs, hl, hh, hK => by
    refine z_iload dX4_drawnEvenings_25 rfl ?_
    refine z_iload_n dX4_drawnEvenings_27 rfl ?_
    refine z_icmp_ge (tgt := 168) dX4_drawnEvenings_28 (by decide) ⟨by omega, by omega⟩ ⟨by omega, by omega⟩ (fun h28 => ?_) (fun h28 => ?_)
    · skip
      refine z_iload dX4_drawnEvenings_168 rfl ?_
      refine z_if_eq (tgt := 178) dX4_drawnEvenings_170 (by decide) ⟨by omega, by omega⟩ (fun h170 => ?_) (fun h170 => ?_)
      · first
        | exfalso; omega
        | skip
          refine z_iload dX4_drawnEvenings_178 rfl ?_
          exact z_iret dX4_drawnEvenings_180 ⟨by first | (rw [if_pos (by omega)]; simp only [deF]; omega) | (rw [if_neg (by omega)]; simp only [deF]; omega), hK⟩
      · first
        | exfalso; omega
        | skip
          refine z_iload dX4_drawnEvenings_173 rfl ?_
          refine z_goto (tgt := 180) dX4_drawnEvenings_175 (by decide) ?_
          exact z_iret dX4_drawnEvenings_180 ⟨by first | (rw [if_pos (by omega)]; simp only [deF]; omega) | (rw [if_neg (by omega)]; simp only [deF]; omega), hK⟩
    · exfalso; omega
  | m + 1, τ, z, lt, hv, e, h0, hs, hl, hh, hK => by
    have hr := dsF_R (ps := pasC LF σ f) (hu := hurtC σ) (n := σ 1 1) sy.toNat z 0
    refine z_iload dX4_drawnEvenings_25 rfl ?_
    refine z_iload_n dX4_drawnEvenings_27 rfl ?_
    refine z_icmp_ge (tgt := 168) dX4_drawnEvenings_28 (by decide) ⟨by omega, by omega⟩ ⟨by omega, by omega⟩ (fun h28 => ?_) (fun h28 => ?_)
    · exfalso; omega
    · skip
      refine z_iconst dX4_drawnEvenings_31 ?_
      refine z_istore (L' := [_, _, _, _, _, _, _, _, _, _, _, _, _]) dX4_drawnEvenings_32 (Nat.le_of_ble_eq_true rfl) rfl rfl ?_
      refine z_iconst dX4_drawnEvenings_34 ?_
      refine z_istore (L' := [_, _, _, _, _, _, _, _, _, _, _, _, _]) dX4_drawnEvenings_35 (Nat.le_of_ble_eq_true rfl) rfl rfl ?_
      refine l_X4_drawn2 (lt := lt) (e := e) (sd := sd) (ev := ev) hW hf hw (by omega) ha _ rfl sy.toNat τ z hv 0 0 (by omega) (by omega) (by omega) (by omega) hK (fun τ' h1 => ?_)
      refine z_iload dX4_drawnEvenings_155 rfl ?_
      refine z_iload dX4_drawnEvenings_157 rfl ?_
      refine z_iadd dX4_drawnEvenings_159 ?_
      refine z_istore (L' := [_, _, _, _, _, _, _, _, _, _, _, _, _]) dX4_drawnEvenings_160 (Nat.le_of_ble_eq_true rfl) rfl rfl ?_
      refine z_iinc (L' := [_, _, _, _, _, _, _, _, _, _, _, _, _]) dX4_drawnEvenings_162 (Nat.le_of_ble_eq_true rfl) rfl rfl rfl ?_
      refine z_goto (tgt := 25) dX4_drawnEvenings_165 (by decide) ?_
      refine z_forget [true, true, true, true, true, true, true, true, true, true, false, false, false] (L' := [_, _, _, _, _, _, _, _, _, _, _, _, _]) rfl ?_
      refine Z.mono (l_X4_drawn1 hW hf hw hsy hev ha m τ' _ _ _ (e + 1) (by omega) (by omega) (by omega) (by split <;> omega) h1) ?_
      rintro r2 σ' ⟨r, q1, q2, q3⟩
      refine ⟨r, q1, ?_, q3⟩
      rw [q2]
      simp only [deF]
      split <;> omega
set_option maxRecDepth 20000 in
theorem c_X4_drawnEvenings {d : Nat} {σ : Sto} {LF : LFT} {sd ev sy f ask : Int} (hW : WC LF σ) (hf : -1 ≤ f ∧ f ≤ 9) (hsy : 0 ≤ sy ∧ sy ≤ 20) (hev : 0 ≤ ev ∧ ev ≤ 30) (ha : ask = 0 ∨ ask = 1) : m_X4_drawnEvenings d [zR 6, zI sd, zI ev, zI sy, zI f, zI ask] σ (qI fun r σ' => ((σ 1 1 = 0 ∧ r = 0) ∨ (1 ≤ σ 1 1 ∧ r = (if ask = 1 then (deF (pasC LF σ f) (hurtC σ) (σ 1 1) sy.toNat ev.toNat sd).2 else (deF (pasC LF σ f) (hurtC σ) (σ 1 1) sy.toNat ev.toNat sd).1))) ∧ drK σ σ') := by
  have w1 := hW.1
  refine z_does (L := [some (zR 6), some (zI sd), some (zI ev), some (zI sy), some (zI f), some (zI ask), none, none, none, none, none, none, none]) rfl (by decide +kernel) (Nat.le_of_ble_eq_true rfl) rfl ?_
  refine z_aload_n dX4_drawnEvenings_0 rfl ?_
  refine z_getR dX4_drawnEvenings_1 gX4_9 rfl (Nat.le_of_ble_eq_true rfl) rfl ?_
  refine z_getI dX4_drawnEvenings_4 gX4_65 rfl (Nat.le_of_ble_eq_true rfl) rfl (fun hr4 => ?_)
  refine z_iconst dX4_drawnEvenings_7 ?_
  refine z_icmp_ge (tgt := 13) dX4_drawnEvenings_8 (by decide) ⟨by omega, by omega⟩ ⟨by omega, by omega⟩ (fun h8 => ?_) (fun h8 => ?_)
  · first
    | exfalso; omega
    | skip
      refine z_iload_n dX4_drawnEvenings_13 rfl ?_
      refine z_istore (L' := [_, _, _, _, _, _, _, _, _, _, _, _, _]) dX4_drawnEvenings_14 (Nat.le_of_ble_eq_true rfl) rfl rfl ?_
      refine z_iconst dX4_drawnEvenings_16 ?_
      refine z_istore (L' := [_, _, _, _, _, _, _, _, _, _, _, _, _]) dX4_drawnEvenings_17 (Nat.le_of_ble_eq_true rfl) rfl rfl ?_
      refine z_iconst dX4_drawnEvenings_19 ?_
      refine z_istore (L' := [_, _, _, _, _, _, _, _, _, _, _, _, _]) dX4_drawnEvenings_20 (Nat.le_of_ble_eq_true rfl) rfl rfl ?_
      refine z_iconst dX4_drawnEvenings_22 ?_
      refine z_istore (L' := [_, _, _, _, _, _, _, _, _, _, _, _, _]) dX4_drawnEvenings_23 (Nat.le_of_ble_eq_true rfl) rfl rfl ?_
      refine Z.mono (l_X4_drawn1 hW hf (by omega) hsy (by omega) ha ev.toNat σ sd 0 0 0 (by omega) (by omega) (by omega) (by omega) (fun _ _ _ _ _ _ _ _ => rfl)) ?_
      rintro r2 σ' ⟨r, q1, q2, q3⟩
      refine ⟨r, q1, Or.inr ⟨by omega, ?_⟩, q3⟩
      rw [q2]
      simp only [Int.zero_add]
  · first
    | exfalso; omega
    | skip
      refine z_iconst dX4_drawnEvenings_11 ?_
      exact z_iret dX4_drawnEvenings_12 ⟨Or.inl ⟨by omega, rfl⟩, fun _ _ _ _ _ _ _ _ => rfl⟩
