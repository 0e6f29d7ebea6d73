/-! ===== the first store ===== -/
def iS0 : Sto := fun _ _ => 0
def iS : Sto := FX9_init (FX8_init iS0)
theorem iS_b {σ : Sto} {k j : Nat} {x : Int} (h : ∀ a b, -1 ≤ σ a b ∧ σ a b ≤ 12) (hx : -1 ≤ x ∧ x ≤ 12) : ∀ a b, -1 ≤ z_put σ k j x a b ∧ z_put σ k j x a b ≤ 12 := by
  intro a b
  unfold z_put
  by_cases h1 : a = k
  · by_cases h2 : b = j
    · rw [if_pos h1, if_pos h2]; exact hx
    · rw [if_pos h1, if_neg h2]; exact h a b
  · rw [if_neg h1]; exact h a b
theorem iS_bd : ∀ a b, -1 ≤ iS a b ∧ iS a b ≤ 12 := by
  have h0 : ∀ a b, -1 ≤ iS0 a b ∧ iS0 a b ≤ 12 := fun a b => by show -1 ≤ (0 : Int) ∧ (0 : Int) ≤ 12; omega
  have h7 : ∀ a b, -1 ≤ FX7_init iS0 a b ∧ FX7_init iS0 a b ≤ 12 := iS_b h0 (by omega)
  have h5 : ∀ a b, -1 ≤ FX5_init (FX7_init iS0) a b ∧ FX5_init (FX7_init iS0) a b ≤ 12 := iS_b (iS_b (iS_b (iS_b (iS_b (iS_b h7 (by omega)) (by omega)) (by omega)) (by omega)) (by omega)) (by omega)
  exact iS_b (iS_b (iS_b (iS_b (iS_b (iS_b (iS_b h5 (by omega)) (by omega)) (by omega)) (by omega)) (by omega)) (by omega)) (by omega)
theorem iS_ok : z_ok iS := fun k j _ => by
  have h := iS_bd k j
  have h1 : inR (iS k j) := ⟨by omega, by omega⟩
  have h2 : inJ (iS k j) := ⟨by omega, by omega⟩
  rcases z_lay k with q | a
  · exact h1
  · show if a.1 = 4 then inJ (iS k j) else inR (iS k j)
    by_cases h4 : a.1 = 4
    · rw [if_pos h4]; exact h2
    · rw [if_neg h4]; exact h1
theorem iS_30 : ∀ n : Nat, n < 6 → iS 30 n = -1 := by decide +kernel
theorem iS_117 : ∀ n : Nat, n < 6 → iS 117 n = -1 := by decide +kernel
theorem iS_34 (j : Nat) : ∀ s : Nat, s < 6 → iS (34 + s) j = 0
  | 0, _ => rfl
  | 1, _ => rfl
  | 2, _ => rfl
  | 3, _ => rfl
  | 4, _ => rfl
  | 5, _ => rfl
  | n + 6, h => absurd h (by omega)
theorem iS_in {a : Int} {x y : Int} (h : a = 0) (h1 : x ≤ 0) (h2 : 0 ≤ y) : x ≤ a ∧ a ≤ y := by subst h; exact ⟨h1, h2⟩
theorem iS_WC : WC (fun _ _ _ _ _ _ => 0) iS := ⟨by decide +kernel, by decide +kernel, by decide +kernel, (fun j => iS_in (a := iS 13 j) rfl (by decide) (by decide)), (fun j => iS_in (a := iS 14 j) rfl (by decide) (by decide)), (fun j => iS_in (a := iS 15 j) rfl (by decide) (by decide)), (fun j => iS_in (a := iS 16 j) rfl (by decide) (by decide)), (fun j => iS_in (a := iS 17 j) rfl (by decide) (by decide)), (fun j => iS_in (a := iS 18 j) rfl (by decide) (by decide)), (fun j => iS_in (a := iS 19 j) rfl (by decide) (by decide)), by decide +kernel, fun h => absurd h (by decide +kernel)⟩
theorem iS_WM : WM (fun _ _ _ _ _ _ => 0) iS := ⟨by decide +kernel, by decide +kernel, by decide +kernel, (fun j => iS_in (a := iS 82 j) rfl (by decide) (by decide)), (fun j => iS_in (a := iS 83 j) rfl (by decide) (by decide)), (fun j => iS_in (a := iS 84 j) rfl (by decide) (by decide)), (fun j => iS_in (a := iS 85 j) rfl (by decide) (by decide)), (fun j => iS_in (a := iS 86 j) rfl (by decide) (by decide)), (fun j => iS_in (a := iS 87 j) rfl (by decide) (by decide)), (fun j => iS_in (a := iS 90 j) rfl (by decide) (by decide)), by decide +kernel, by decide +kernel, fun h => absurd h (by decide +kernel)⟩
theorem iS_I1 : I1 (fun _ _ _ _ _ _ => 0) iS := ⟨iS_WC, iS_WM, by decide +kernel, ⟨(funext fun j => (rfl : iS 82 j = 0).trans (rfl : iS 13 j = 0).symm), (funext fun j => (rfl : iS 83 j = 0).trans (rfl : iS 14 j = 0).symm), (funext fun j => (rfl : iS 84 j = 0).trans (rfl : iS 15 j = 0).symm), (funext fun j => (rfl : iS 85 j = 0).trans (rfl : iS 16 j = 0).symm), (funext fun j => (rfl : iS 86 j = 0).trans (rfl : iS 17 j = 0).symm), (funext fun j => (rfl : iS 87 j = 0).trans (rfl : iS 18 j = 0).symm), (funext fun j => (rfl : iS 90 j = 0).trans (rfl : iS 19 j = 0).symm)⟩, fun j _ => (rfl : iS 17 j = 0), by decide +kernel⟩
theorem iS_I3 : I3 iS := ⟨by decide +kernel, by decide +kernel, ⟨(funext fun j => (rfl : iS 91 j = 0).trans (rfl : iS 22 j = 0).symm), (funext fun j => (rfl : iS 92 j = 0).trans (rfl : iS 21 j = 0).symm), (funext fun j => (rfl : iS 93 j = 0).trans (rfl : iS 23 j = 0).symm), (funext fun j => (rfl : iS 94 j = 0).trans (rfl : iS 24 j = 0).symm)⟩, fun j h => absurd h (by rw [show iS 2 4 = 0 from rfl, show iS 2 5 = 0 from rfl]; omega)⟩
theorem iS_I4 : I4 iS := ⟨⟨by decide +kernel, fun j => iS_in (a := iS 25 j) rfl (by decide) (by decide)⟩, by decide +kernel, fun j => by rw [show iS 95 j = 0 from rfl, show iS 25 j = 0 from rfl]; rfl⟩
theorem iS_I5 : I5 0 iS := ⟨⟨(funext fun j => (rfl : iS 88 j = 0).trans (rfl : iS 74 j = 0).symm), (funext fun j => (rfl : iS 89 j = 0).trans (rfl : iS 75 j = 0).symm), (funext fun j => (rfl : iS 111 j = 0).trans (rfl : iS 76 j = 0).symm)⟩, fun j => ⟨iS_in (a := iS 74 j) rfl (by decide) (by decide), fun _ => ⟨(rfl : iS 74 j = 0), (rfl : iS 75 j = 0)⟩⟩, ⟨by decide +kernel, (funext fun j => (rfl : iS 114 j = 0).trans (rfl : iS 79 j = 0).symm)⟩, by decide +kernel, fun j => ⟨iS_in (a := iS 77 j) rfl (by decide) (by decide), fun h => absurd h (by rw [show iS 9 50 = 0 from rfl]; omega), fun _ => ⟨(rfl : iS 77 j = 0), (rfl : iS 78 j = 0)⟩⟩⟩
theorem iS_I6 : I6 iS := ⟨by decide +kernel, by decide +kernel, ⟨(funext fun j => (rfl : iS 115 j = 0).trans (rfl : iS 80 j = 0).symm), (funext fun j => (rfl : iS 116 j = 0).trans (rfl : iS 81 j = 0).symm)⟩, fun j => by rw [show iS 80 j = 0 from rfl]; decide⟩
theorem iS_I7 : I7 iS := by
  refine ⟨fun s h1 h2 => ⟨Or.inl (iS_30 _ (by omega)), iS_in (a := iS 32 s.toNat) rfl (by decide) (by decide), fun h => ?_⟩, fun s _ => ⟨iS_in (a := iS 118 s) rfl (by decide) (by decide), fun _ => (rfl : iS 118 s = 0).trans (rfl : iS 32 s = 0).symm⟩, fun s hs => Or.inl ⟨iS_30 s hs, iS_117 s hs⟩, fun s j hs _ => by rw [iS_34 j s hs]; rfl, fun s j hs _ => iS_34 j s hs⟩
  rw [iS_30 _ (by omega)] at h
  exact absurd h (by decide)
theorem iS_Inv : Inv 0 iS := ⟨⟨_, iS_I1⟩, iS_I3, iS_I4, iS_I5, iS_I6, iS_I7⟩
/-! ===== the statics ===== -/
theorem ws_len {args : Array Value} {s : State} {t : Term} {v : Value} {b : Nat} {cell : Cell} (hv : (Term.length t).eval args s none [] s = some v) (ht : t.eval args s none [] s = some (.ref b)) (harr : s.arrayAt? b = some cell) : cell.slots.size < 2 ^ 31 := by
  simp only [Term.eval, ht, harr, Option.bind_eq_bind, Option.bind_some] at hv
  by_cases hlt : cell.slots.size < 2147483648
  · exact hlt
  · simp [hlt] at hv
theorem ws_stat {args : Array Value} {s : State} {C n : String} {tab : List Int} (hl : (Cond.laysStatic C n "[I").before args s = true) (hini : (Cond.initialized C).before args s = true) (harr : (Cond.arrayOf (.static C n "[I") .int).before args s = true) (hN : tab.length < 2 ^ 31) (hlen : (Cond.eq (.length (.static C n "[I")) (.int (Int32.ofNat tab.length))).before args s = true) (hel : ∀ j : Nat, j < tab.length → (Cond.eq (.elem (.static C n "[I") (.int (Int32.ofNat j))) (.int (Int32.ofInt (tab.getD j 0)))).before args s = true) : ∃ t : Nat, t < s.heap.size ∧ va_Z C n "[I" (.ref t) (fun q => s.heap.size ≤ q) s s.heap ∧ va_X t tab.length (fun j => Int32.ofInt (tab.getD j 0)) s s.heap := by
  have hv := va_eqt hlen
  obtain ⟨t, ht, cell, h1, h2, h3, h4, h5, h6, h7⟩ := va_Tof (A := fun q => s.heap.size ≤ q) (f := fun j => .int (Int32.ofInt (tab.getD j 0))) hN harr hv (fun j hj => va_eqt (hel j hj)) (fun a ha q => by omega)
  have hlt : t < s.heap.size := (Array.getElem?_eq_some_iff.mp h1).1
  have hsz : cell.slots.size < 2 ^ 31 := by
    obtain ⟨b, cell2, ht2, hat, -⟩ := Term.length_spec hv
    cases ht.symm.trans ht2
    have hc2 := (State.arrayAt?_spec hat).1
    cases h1.symm.trans hc2
    exact ws_len hv ht hat
  have hq : cell.slots.size = tab.length := by
    have h9 := congrArg Int32.toInt h5
    have h10 : (Int32.ofNat cell.slots.size).toInt = (Int32.ofNat tab.length).toInt := h9
    rw [Int32.toInt_ofNat_small hsz, Int32.toInt_ofNat_small hN] at h10
    omega
  exact ⟨t, hlt, va_Zof hl hini ht (fun a ha q => by omega), cell, h1, h2, h3, hq, h6⟩
/-! ===== the law's start ===== -/
def bd_lm (b L : Nat) (xs : Nat → Int32) (x : bd_X) : Prop := match x with
  | (_, _, _, R, s, _, args, below, meth, _, _, _, A, Fin, ad0) => R = room_1 ∧ args = #[Value.ref b] ∧ Fin = lw_Z below #[Value.ref b] s ∧ meth.sig.returnType = ret ∧ va_X b L xs s s.heap ∧ b < s.heap.size ∧ (∀ q, A q → s.heap.size ≤ q) ∧ meth.locks = false ∧ ad0 503 = b ∧ z_Ns s ∧ z_St ad0 A s s.heap
abbrev bd_ML : bd_M := (code, RL, 4, 3, 54, 121, 6215, [500, 501, 502, 503])
abbrev bd_all : List Nat := [0, 1, 12, 13, 14, 15, 16, 17, 18, 19, 20, 2, 21, 22, 23, 24, 3, 25, 26, 27, 28, 29, 4, 30, 31, 32, 33, 34, 35, 36, 37, 38, 39, 5, 40, 41, 42, 6, 43, 44, 45, 46, 47, 48, 49, 50, 51, 52, 53, 54, 55, 56, 57, 58, 59, 60, 61, 62, 63, 64, 65, 66, 67, 68, 69, 70, 71, 72, 73, 7, 74, 75, 76, 77, 78, 79, 8, 80, 81, 10, 11, 9, 82, 83, 84, 85, 86, 87, 88, 89, 90, 91, 92, 93, 94, 95, 96, 97, 98, 99, 100, 101, 102, 103, 104, 105, 106, 107, 108, 109, 110, 111, 112, 113, 114, 115, 116, 117, 118, 119, 120]
theorem bd_mem : ∀ k, k < 121 → k ∈ bd_all := by decide +kernel
theorem bd_sG : ∀ q ∈ z_stats, q.1 ∈ ([500, 501, 502, 503] : List Nat) := by decide +kernel
def bd_ol (q : z_L) : Nat := match q with
  | .inl o => o.2.length
  | .inr _ => 0
theorem bd_olk : ∀ k, k < 121 → bd_ol (z_lay k) ≤ 1000 := by decide +kernel
theorem bd_entz {ad : Nat → Nat} {aC : Nat → ClassId} {f : Nat → Int} {q : z_L} (h : bd_ol q ≤ 1000) : bd_ent ad aC f 1000 q = z_ent ad aC f q := by
  rcases q with o | a
  · show (Sum.inr (o.1, bd_fl ad f 1000 0 o.2) : va_E) = Sum.inr (o.1, z_flds ad f 0 o.2)
    have h' : o.2.length ≤ 1000 := h
    rw [bd_fl_z o.2 0 (by omega)]
  · rfl
theorem bd_toLaw {b L : Nat} {xs : Nat → Int32} (hL : L ≤ 3072) : BD bd_ML (bd_lm b L xs) 18 [] bd_all [(3, zI 0), (2, zR 9), (1, zR 0), (0, zR 503)] [] iS 121 6215 := by
  rintro ⟨p, l, e, R, s, m, args, below, meth, c, D, aC, A, Fin, ad0⟩ hm hf ad H locs ls hw
  obtain ⟨hx, hb, hml, hown, hts, hK, hA, hR, hao⟩ := id hf
  obtain ⟨hP, hD, hS, hG, hl⟩ := id hw
  obtain ⟨m1, m2, m3, m4, m5, m6, m7, m8, m9, m10, m11⟩ := id hm
  have hz := law_loop (b := b) (xs := xs) hL (L + 1) 0 iS (by omega) (by omega) iS_Inv
  have hap : z_apart ad := fun i j hi hj hij => by
    obtain ⟨i', hi'⟩ := List.getElem?_of_mem (bd_mem i hi)
    obtain ⟨j', hj'⟩ := List.getElem?_of_mem (bd_mem j hj)
    have h9 := hD.1 i' j' _ _ (bd_get hi') (bd_get hj') hij
    rw [h9, hj'] at hi'
    exact (Option.some.inj hi').symm
  have hAk : ∀ k, k < z_NC → A (ad k) := fun k hk => by
    obtain ⟨i', hi'⟩ := List.getElem?_of_mem (bd_mem k hk)
    exact hD.2 i' _ (bd_get hi')
  have hwl : va_P D vwCl (z_wl ad aC iS) H := fun k q hq => by
    obtain ⟨hk, rfl⟩ := z_wl_of hq
    have h9 := bd_Pw.mp hP k (bd_mem k hk)
    rw [show bd_pn [] k = 1000 from rfl, bd_entz (bd_olk k hk)] at h9
    exact h9
  have hSt : z_St ad A s s.heap := fun q hq => by
    rw [hG q.1 (bd_sG q hq)]
    exact m11 q hq
  have hR2 : 200 ≤ R.frames ∧ 40 * 200 ≤ R.locals := by
    rw [m1]
    exact ⟨by decide, by decide⟩
  exact hz (p, l, e, R, s, m, args, below, meth, c, ad, D, aC, A, 121, 6215, Fin) ⟨m1, m2, m3, m4, m5, m6, m7, (hG 503 (by decide)).trans m9⟩ ⟨hx, hb, hml, hown, hts, hK, hSt, hA, hAk, hap, ⟨hR2.1, hR2.2, hR.2.2.1, hR.2.2.2⟩, m8, m10⟩ H locs ls ⟨hwl, hS, iS_ok⟩ (lv_sub hl [3, 2, 1, 0] rfl)
theorem bd_ci_X8_init : bd_CI RL 9 yX8_init cX8_init 1 0 := ⟨z_in (List.mem_append_right _ (List.mem_of_getElem? (i := 16) (by decide +kernel))) rfl, z_in (List.mem_append_right _ (List.mem_of_getElem? (i := 17) (by decide +kernel))) rfl, nI_RX8, wc_X8_init, ⟨by decide +kernel, by decide +kernel, by decide +kernel⟩, rfl⟩
theorem bd_ci_X9_init : bd_CI RL 12 yX9_init cX9_init 1 0 := ⟨z_in (List.mem_append_right _ (List.mem_of_getElem? (i := 898) (by decide +kernel))) rfl, z_in (List.mem_append_right _ (List.mem_of_getElem? (i := 899) (by decide +kernel))) rfl, nI_RX9, wc_X9_init, ⟨by decide +kernel, by decide +kernel, by decide +kernel⟩, rfl⟩
set_option maxRecDepth 100000 in
set_option maxHeartbeats 4000000 in
theorem bd_start {b L : Nat} {xs : Nat → Int32} (hL : L ≤ 3072) : BD bd_ML (bd_lm b L xs) 0 [] [] [(0, zR 503)] [] iS0 0 0 := by
  refine bd_new (k := 0) (ty0 := tyX8) dL_law_0 rfl rfl uX8 tyX8_ok (z_in (List.mem_append_right _ (List.mem_of_getElem? (i := 14) (by decide +kernel))) rfl) (z_in (List.mem_append_right _ (List.mem_of_getElem? (i := 15) (by decide +kernel))) rfl) nI_RX8 (by decide +kernel) (fun _ => rfl) (by decide +kernel) (Nat.le_of_ble_eq_true rfl) (Nat.le_of_ble_eq_true rfl) ?_
  refine bd_norm [(0, 0)] [0] 1 10 iS0 rfl rfl rfl rfl rfl ?_
  refine bd_dup dL_law_3 ?_
  refine bd_call (w := 0) (iw := 0) (as := []) (kr := []) (isR := []) (ks' := [0, 1, 12, 13, 14, 15, 16, 17, 18, 19, 20, 2, 21, 22, 23, 24, 3, 25, 26, 27, 28, 29, 4, 30, 31, 32, 33, 34, 35, 36, 37, 38, 39, 5, 40, 41, 42, 6, 43, 44, 45, 46, 47, 48, 49, 50, 51, 52, 53, 54, 55, 56, 57, 58, 59, 60, 61, 62, 63, 64, 65, 66, 67, 68, 69, 70, 71, 72, 73, 7, 74, 75, 76, 77, 78, 79, 8, 80, 81, 10, 11]) (P' := []) (F := FX8_init) dL_law_4 c_X8_init bd_ci_X8_init rfl rfl (by decide) (by decide) rfl rfl rfl (by decide +kernel) (by decide +kernel) (by decide +kernel) (by decide) (by decide +kernel) (fun k hk => by
    have h20 : k ≠ 20 := fun e => hk (by rw [e]; decide +kernel)
    have h30 : k ≠ 30 := fun e => hk (by rw [e]; decide +kernel)
    unfold FX8_init
    rw [FX5_init_ne h30, FX7_init_ne h20]) (by decide +kernel) (fun _ _ _ _ => rfl) (by decide +kernel) (by decide +kernel) ?_
  refine bd_norm [] [0, 1, 12, 13, 14, 15, 16, 17, 18, 19, 20, 2, 21, 22, 23, 24, 3, 25, 26, 27, 28, 29, 4, 30, 31, 32, 33, 34, 35, 36, 37, 38, 39, 5, 40, 41, 42, 6, 43, 44, 45, 46, 47, 48, 49, 50, 51, 52, 53, 54, 55, 56, 57, 58, 59, 60, 61, 62, 63, 64, 65, 66, 67, 68, 69, 70, 71, 72, 73, 7, 74, 75, 76, 77, 78, 79, 8, 80, 81, 10, 11] 81 2963 (FX8_init iS0) rfl rfl rfl rfl rfl ?_
  refine bd_astore (Lv' := [(1, zR 0), (0, zR 503)]) dL_law_7 rfl (Nat.le_of_ble_eq_true rfl) rfl ?_
  refine bd_new (k := 9) (ty0 := tyX9) dL_law_8 rfl rfl uX9 tyX9_ok (z_in (List.mem_append_right _ (List.mem_of_getElem? (i := 896) (by decide +kernel))) rfl) (z_in (List.mem_append_right _ (List.mem_of_getElem? (i := 897) (by decide +kernel))) rfl) nI_RX9 (by decide +kernel) (fun _ => rfl) (by decide +kernel) (Nat.le_of_ble_eq_true rfl) (Nat.le_of_ble_eq_true rfl) ?_
  refine bd_norm [(9, 0)] [0, 1, 12, 13, 14, 15, 16, 17, 18, 19, 20, 2, 21, 22, 23, 24, 3, 25, 26, 27, 28, 29, 4, 30, 31, 32, 33, 34, 35, 36, 37, 38, 39, 5, 40, 41, 42, 6, 43, 44, 45, 46, 47, 48, 49, 50, 51, 52, 53, 54, 55, 56, 57, 58, 59, 60, 61, 62, 63, 64, 65, 66, 67, 68, 69, 70, 71, 72, 73, 7, 74, 75, 76, 77, 78, 79, 8, 80, 81, 10, 11, 9] 82 3025 (FX8_init iS0) rfl rfl rfl rfl rfl ?_
  refine bd_dup dL_law_11 ?_
  refine bd_call (w := 9) (iw := 81) (as := []) (kr := [0, 1, 12, 13, 14, 15, 16, 17, 18, 19, 20, 2, 21, 22, 23, 24, 3, 25, 26, 27, 28, 29, 4, 30, 31, 32, 33, 34, 35, 36, 37, 38, 39, 5, 40, 41, 42, 6, 43, 44, 45, 46, 47, 48, 49, 50, 51, 52, 53, 54, 55, 56, 57, 58, 59, 60, 61, 62, 63, 64, 65, 66, 67, 68, 69, 70, 71, 72, 73, 7, 74, 75, 76, 77, 78, 79, 8, 80, 81, 10, 11]) (isR := [0, 1, 2, 3, 4, 5, 6, 7, 8, 9, 10, 11, 12, 13, 14, 15, 16, 17, 18, 19, 20, 21, 22, 23, 24, 25, 26, 27, 28, 29, 30, 31, 32, 33, 34, 35, 36, 37, 38, 39, 40, 41, 42, 43, 44, 45, 46, 47, 48, 49, 50, 51, 52, 53, 54, 55, 56, 57, 58, 59, 60, 61, 62, 63, 64, 65, 66, 67, 68, 69, 70, 71, 72, 73, 74, 75, 76, 77, 78, 79, 80]) (ks' := [9, 82, 83, 84, 85, 86, 87, 88, 89, 90, 91, 92, 93, 94, 95, 96, 97, 98, 99, 100, 101, 102, 103, 104, 105, 106, 107, 108, 109, 110, 111, 112, 113, 114, 115, 116, 117, 118, 119, 120]) (P' := []) (F := FX9_init) dL_law_12 c_X9_init bd_ci_X9_init rfl rfl (by decide) (by decide) rfl rfl rfl (by decide +kernel) (by decide +kernel) (by decide +kernel) (by decide) (by decide +kernel) (fun k hk => by
    have h9 : k ≠ 9 := fun e => hk (by rw [e]; decide +kernel)
    have h117 : k ≠ 117 := fun e => hk (by rw [e]; decide +kernel)
    unfold FX9_init
    rw [z_put_ne h117, z_put_ne h117, z_put_ne h117, z_put_ne h117, z_put_ne h117, z_put_ne h117, z_put_ne h9]) (by decide +kernel) (fun k hk _ j => by
    have h1 := (by decide +kernel : ∀ k ∈ ([9, 82, 83, 84, 85, 86, 87, 88, 89, 90, 91, 92, 93, 94, 95, 96, 97, 98, 99, 100, 101, 102, 103, 104, 105, 106, 107, 108, 109, 110, 111, 112, 113, 114, 115, 116, 117, 118, 119, 120] : List Nat), k ≠ 20 ∧ k ≠ 30) k hk
    unfold FX8_init
    rw [FX5_init_ne h1.2, FX7_init_ne h1.1]
    rfl) (by decide +kernel) (by decide +kernel) ?_
  refine bd_norm [] [0, 1, 12, 13, 14, 15, 16, 17, 18, 19, 20, 2, 21, 22, 23, 24, 3, 25, 26, 27, 28, 29, 4, 30, 31, 32, 33, 34, 35, 36, 37, 38, 39, 5, 40, 41, 42, 6, 43, 44, 45, 46, 47, 48, 49, 50, 51, 52, 53, 54, 55, 56, 57, 58, 59, 60, 61, 62, 63, 64, 65, 66, 67, 68, 69, 70, 71, 72, 73, 7, 74, 75, 76, 77, 78, 79, 8, 80, 81, 10, 11, 9, 82, 83, 84, 85, 86, 87, 88, 89, 90, 91, 92, 93, 94, 95, 96, 97, 98, 99, 100, 101, 102, 103, 104, 105, 106, 107, 108, 109, 110, 111, 112, 113, 114, 115, 116, 117, 118, 119, 120] 121 6215 iS rfl rfl rfl rfl rfl ?_
  refine bd_astore (Lv' := [(2, zR 9), (1, zR 0), (0, zR 503)]) dL_law_15 rfl (Nat.le_of_ble_eq_true rfl) rfl ?_
  refine bd_iconst dL_law_16 ?_
  refine bd_istore (Lv' := [(3, zI 0), (2, zR 9), (1, zR 0), (0, zR 503)]) dL_law_17 rfl (Nat.le_of_ble_eq_true rfl) rfl ?_
  exact bd_toLaw hL
theorem ws_prim {args : Array Value} {s : State} {ty : FieldType} (h : (Cond.arrayClass ty).before args s = true) : ∃ c : ClassId, ArrOfT s c ty ∧ s.vm.findClass ("[" ++ ty.toString) = some c := by
  obtain ⟨c, k, comp, h1, h2, h3⟩ := Cond.arrayClass_spec h
  exact ⟨c, fun n z => ⟨fun k h => (by cases h), k, h2, comp, h3⟩, h1⟩
theorem ws_over {args : Array Value} {s : State} {ty : FieldType} (h : (Cond.arrayOver (.array ty)).before args s = true) : ∃ c : ClassId, ArrOfT s c (.array ty) ∧ s.vm.findClass ("[" ++ (FieldType.array ty).toString) = some c := by
  obtain ⟨comp, c, k, h1, h2, h3, h4, h5⟩ := arrayOverA_spec h
  exact ⟨c, fun n z => ⟨fun k h => (by cases h), k, h3, comp, h4⟩, h5⟩
theorem ws_ao {args : Array Value} {s : State} {ty : FieldType} (h : (Cond.arrayOver (.array ty)).before args s = true) : (Cond.arrayOver (.array ty)).before #[] s = true := Jvm.Stand.arrayOver_alikeB (Vm.Alike.refl s.vm) h
theorem ws_known {args : Array Value} {s : State} (hts : ∀ w ∈ z_all, w.before args s = true) : ∃ D : va_G, ∀ (k : Nat) (q : vw_C), vwCl[k]? = some q → u_Kn s q.1 q.2.1 q.2.2 (D.1 k) (D.2 k) := by
  have h0 : ∀ k : Nat, ∃ (cC : ClassId) (iS : Nat → Nat), ∀ q : vw_C, vwCl[k]? = some q → u_Kn s q.1 q.2.1 q.2.2 cC iS := by
    intro k
    match k with
    | 0 =>
      obtain ⟨c, i, h⟩ := u_known (C := RX0) (T := TX0) (N := 6) (n := 6) hts uX0 (hts _ (z_in (List.mem_append_right _ (List.mem_of_getElem? (i := 51) (by decide +kernel))) rfl))
      exact ⟨c, i, fun q hq => by cases hq; exact h⟩
    | 1 =>
      obtain ⟨c, i, h⟩ := u_known (C := RX1) (T := TX1) (N := 7) (n := 7) hts uX1 (hts _ (z_in (List.mem_append_right _ (List.mem_of_getElem? (i := 209) (by decide +kernel))) rfl))
      exact ⟨c, i, fun q hq => by cases hq; exact h⟩
    | 2 =>
      obtain ⟨c, i, h⟩ := u_known (C := RX2) (T := TX2) (N := 10) (n := 10) hts uX2 (hts _ (z_in (List.mem_append_right _ (List.mem_of_getElem? (i := 77) (by decide +kernel))) rfl))
      exact ⟨c, i, fun q hq => by cases hq; exact h⟩
    | 3 =>
      obtain ⟨c, i, h⟩ := u_known (C := RX3) (T := TX3) (N := 6) (n := 6) hts uX3 (hts _ (z_in (List.mem_append_right _ (List.mem_of_getElem? (i := 237) (by decide +kernel))) rfl))
      exact ⟨c, i, fun q hq => by cases hq; exact h⟩
    | 4 =>
      obtain ⟨c, i, h⟩ := u_known (C := RX4) (T := TX4) (N := 9) (n := 9) hts uX4 (hts _ (z_in (List.mem_append_right _ (List.mem_of_getElem? (i := 172) (by decide +kernel))) rfl))
      exact ⟨c, i, fun q hq => by cases hq; exact h⟩
    | 5 =>
      obtain ⟨c, i, h⟩ := u_known (C := RX5) (T := TX5) (N := 4) (n := 4) hts uX5 (hts _ (z_in (List.mem_append_right _ (List.mem_of_getElem? (i := 115) (by decide +kernel))) rfl))
      exact ⟨c, i, fun q hq => by cases hq; exact h⟩
    | 6 =>
      obtain ⟨c, i, h⟩ := u_known (C := RX6) (T := TX6) (N := 7) (n := 7) hts uX6 (hts _ (z_in (List.mem_append_right _ (List.mem_of_getElem? (i := 137) (by decide +kernel))) rfl))
      exact ⟨c, i, fun q hq => by cases hq; exact h⟩
    | 7 =>
      obtain ⟨c, i, h⟩ := u_known (C := RX7) (T := TX7) (N := 4) (n := 4) hts uX7 (hts _ (z_in (List.mem_append_right _ (List.mem_of_getElem? (i := 23) (by decide +kernel))) rfl))
      exact ⟨c, i, fun q hq => by cases hq; exact h⟩
    | 8 =>
      obtain ⟨c, i, h⟩ := u_known (C := RX8) (T := TX8) (N := 10) (n := 10) hts uX8 (hts _ (z_in (List.mem_append_right _ (List.mem_of_getElem? (i := 15) (by decide +kernel))) rfl))
      exact ⟨c, i, fun q hq => by cases hq; exact h⟩
    | 9 =>
      obtain ⟨c, i, h⟩ := u_known (C := RX9) (T := TX9) (N := 62) (n := 62) hts uX9 (hts _ (z_in (List.mem_append_right _ (List.mem_of_getElem? (i := 897) (by decide +kernel))) rfl))
      exact ⟨c, i, fun q hq => by cases hq; exact h⟩
    | n + 10 => exact ⟨0, fun _ => 0, fun q hq => by simp at hq⟩
  exact ⟨(fun k => Classical.choose (h0 k), fun k => Classical.choose (Classical.choose_spec (h0 k))), fun k q hq => Classical.choose_spec (Classical.choose_spec (h0 k)) q hq⟩
set_option maxRecDepth 100000 in
set_option maxHeartbeats 4000000 in
theorem whole_start {p : Program} {e : Env} {s : State} {m : MethodId} {below : List Frame} {meth : Method} {c : Code} (l : Launch) (hflags : l.flags = flags0) {b L : Nat} {xs : Nat → Int32} (hL : L ≤ 3072) (C0 : lw_At p s m meth c b L xs) : W p l e room_1 s m #[Value.ref b] below meth c s.heap [] 0 0 (lw_Z below #[Value.ref b] s) (entryFrame m ([Value.ref b] : List Value).toArray 4) := by
  obtain ⟨hx, hb, hr, hml, hown, hts0, hX, hbl, hlk, hgv⟩ := id C0
  have hts : ∀ w ∈ z_all, w.before #[Value.ref b] s = true := fun w hw => hts0 w (List.mem_filter.mp hw).1
  have hs := flat_of_before _ hgv
  have hNs : z_Ns s := fun w hw => by
    have h1 := hts0 w (List.mem_filter.mp hw).1
    have h2 := (List.mem_filter.mp hw).2
    cases w <;> first | exact va_Nw.of rfl h1 | (exact Bool.noConfusion h2)
  obtain ⟨D, hKn⟩ := ws_known hts
  obtain ⟨a0, r0, n0⟩ := ws_prim (ty := .int) (hts _ (z_in (List.mem_append_right _ (List.mem_of_getElem? (i := 49) (by decide +kernel))) rfl))
  obtain ⟨a1, r1, n1⟩ := ws_prim (ty := .byte) (hts _ (z_in (List.mem_append_right _ (List.mem_of_getElem? (i := 1088) (by decide +kernel))) rfl))
  obtain ⟨a2, r2, n2⟩ := ws_prim (ty := .short) (hts _ (z_in (List.mem_append_right _ (List.mem_of_getElem? (i := 1089) (by decide +kernel))) rfl))
  obtain ⟨a3, r3, n3⟩ := ws_prim (ty := .boolean) (hts _ (z_in (List.mem_append_right _ (List.mem_of_getElem? (i := 207) (by decide +kernel))) rfl))
  obtain ⟨a4, r4, n4⟩ := ws_prim (ty := .long) (hts _ (z_in (List.mem_append_right _ (List.mem_of_getElem? (i := 135) (by decide +kernel))) rfl))
  have o5 := hts0 (.arrayOver (.array .int)) (List.mem_append_right _ (List.mem_of_getElem? (i := 29) (by decide +kernel)))
  have o6 := hts0 (.arrayOver (.array .long)) (List.mem_append_right _ (List.mem_of_getElem? (i := 121) (by decide +kernel)))
  obtain ⟨a5, r5, n5⟩ := ws_over o5
  obtain ⟨a6, r6, n6⟩ := ws_over o6
  obtain ⟨aC, q0, q1, q2, q3, q4, q5, q6⟩ : ∃ aC : Nat → ClassId, aC 0 = a0 ∧ aC 1 = a1 ∧ aC 2 = a2 ∧ aC 3 = a3 ∧ aC 4 = a4 ∧ aC 5 = a5 ∧ aC 6 = a6 := ⟨fun k => if k = 0 then a0 else if k = 1 then a1 else if k = 2 then a2 else if k = 3 then a3 else if k = 4 then a4 else if k = 5 then a5 else a6, rfl, rfl, rfl, rfl, rfl, rfl, rfl⟩
  have hK : va_K D vwCl (z_tys aC) s := by
    refine ⟨hKn, fun k q hq => ?_⟩
    unfold z_tys at hq
    rw [q0, q1, q2, q3, q4, q5, q6] at hq
    match k with
    | 0 => cases hq; exact ⟨r0, n0⟩
    | 1 => cases hq; exact ⟨r1, n1⟩
    | 2 => cases hq; exact ⟨r2, n2⟩
    | 3 => cases hq; exact ⟨r3, n3⟩
    | 4 => cases hq; exact ⟨r4, n4⟩
    | 5 => cases hq; exact ⟨r5, n5⟩
    | 6 => cases hq; exact ⟨r6, n6⟩
    | n + 7 => simp at hq
  obtain ⟨t0, u0, v0, w0⟩ := ws_stat (C := "TalkStrainer$Stock") (n := "GREATEST") (tab := [9, 9, 9, 2, 5, 9, 9, 20]) (hts0 _ (List.mem_append_right _ (List.mem_of_getElem? (i := 303) (by decide +kernel)))) (hts _ nI_RX7) (hs _ (by decide +kernel)) (by decide) (hs _ (by decide +kernel)) (fun j hj => hs _ ((by decide +kernel : ∀ j : Nat, j < ([9, 9, 9, 2, 5, 9, 9, 20] : List Int).length → Cond.eq (.elem (.static "TalkStrainer$Stock" "GREATEST" "[I") (.int (Int32.ofNat j))) (.int (Int32.ofInt (([9, 9, 9, 2, 5, 9, 9, 20] : List Int).getD j 0))) ∈ flatC (Jvm.Cond.and given_1 narrow_1)) j hj))
  obtain ⟨t1, u1, v1, w1⟩ := ws_stat (C := "TalkStrainer$Leaves") (n := "ABOVE") (tab := [-1, 0, 0, 2, 1, 3, 0, 6]) (hts0 _ (List.mem_append_right _ (List.mem_of_getElem? (i := 807) (by decide +kernel)))) (hts _ nI_RX3) (hs _ (by decide +kernel)) (by decide) (hs _ (by decide +kernel)) (fun j hj => hs _ ((by decide +kernel : ∀ j : Nat, j < ([-1, 0, 0, 2, 1, 3, 0, 6] : List Int).length → Cond.eq (.elem (.static "TalkStrainer$Leaves" "ABOVE" "[I") (.int (Int32.ofNat j))) (.int (Int32.ofInt (([-1, 0, 0, 2, 1, 3, 0, 6] : List Int).getD j 0))) ∈ flatC (Jvm.Cond.and given_1 narrow_1)) j hj))
  obtain ⟨t2, u2, v2, w2⟩ := ws_stat (C := "TalkStrainer$Leaves") (n := "OWN") (tab := [1, 10, 11, 2, 20, 0, 0, 0, 0, 30, 0, 0, 0, 41, 40, 0, 0, 0, 0, 50, 0, 0, 60, 61, 70, 0, 0, 0, 81, 80, 0, 0]) (hts0 _ (List.mem_append_right _ (List.mem_of_getElem? (i := 805) (by decide +kernel)))) (hts _ nI_RX3) (hs _ (by decide +kernel)) (by decide) (hs _ (by decide +kernel)) (fun j hj => hs _ ((by decide +kernel : ∀ j : Nat, j < ([1, 10, 11, 2, 20, 0, 0, 0, 0, 30, 0, 0, 0, 41, 40, 0, 0, 0, 0, 50, 0, 0, 60, 61, 70, 0, 0, 0, 81, 80, 0, 0] : List Int).length → Cond.eq (.elem (.static "TalkStrainer$Leaves" "OWN" "[I") (.int (Int32.ofNat j))) (.int (Int32.ofInt (([1, 10, 11, 2, 20, 0, 0, 0, 0, 30, 0, 0, 0, 41, 40, 0, 0, 0, 0, 50, 0, 0, 60, 61, 70, 0, 0, 0, 81, 80, 0, 0] : List Int).getD j 0))) ∈ flatC (Jvm.Cond.and given_1 narrow_1)) j hj))
  obtain ⟨ad0, e0, e1, e2, e3⟩ : ∃ ad0 : Nat → Nat, ad0 500 = t0 ∧ ad0 501 = t1 ∧ ad0 502 = t2 ∧ ad0 503 = b := ⟨fun k => if k = 500 then t0 else if k = 501 then t1 else if k = 502 then t2 else b, rfl, rfl, rfl, rfl⟩
  have hSt : z_St ad0 (fun q => s.heap.size ≤ q) s s.heap := fun q hq => by
    rcases List.mem_cons.mp hq with h | hq
    · rw [h]
      show va_Z _ _ "[I" (.ref (ad0 500)) _ s s.heap ∧ va_X (ad0 500) _ _ s s.heap ∧ ad0 500 < s.heap.size ∧ ¬ s.heap.size ≤ ad0 500
      rw [e0]
      exact ⟨v0, w0, u0, by omega⟩
    rcases List.mem_cons.mp hq with h | hq
    · rw [h]
      show va_Z _ _ "[I" (.ref (ad0 501)) _ s s.heap ∧ va_X (ad0 501) _ _ s s.heap ∧ ad0 501 < s.heap.size ∧ ¬ s.heap.size ≤ ad0 501
      rw [e1]
      exact ⟨v1, w1, u1, by omega⟩
    · rw [List.mem_singleton.mp hq]
      show va_Z _ _ "[I" (.ref (ad0 502)) _ s s.heap ∧ va_X (ad0 502) _ _ s s.heap ∧ ad0 502 < s.heap.size ∧ ¬ s.heap.size ≤ ad0 502
      rw [e2]
      exact ⟨v2, w2, u2, by omega⟩
  have hl := lv_entry ([.ref b]) (n := 4) (Nat.le_of_ble_eq_true rfl)
  rw [lg_entry_eq]
  generalize (lg_sl ([.ref b]) ++ List.replicate (4 - (lg_sl ([.ref b])).length) Slot.unset).toArray = ls at hl ⊢
  refine bd_start (b := b) (xs := xs) hL (p, l, e, room_1, s, m, #[Value.ref b], below, meth, c, D, aC, (fun q => s.heap.size ≤ q), lw_Z below #[Value.ref b] s, ad0) ⟨rfl, rfl, rfl, hr, hX, hbl, fun _ h => h, hlk, e3, hNs, hSt⟩ ⟨hx, hb, hml, hown, hts, hK, fun _ h => h, ⟨by decide, by decide, by decide, by decide⟩, ⟨ws_ao o5, ws_ao o6⟩⟩ ad0 s.heap [] ls ⟨fun k q h => by simp [bd_w] at h, ⟨fun i j p q h => by simp [bd_w] at h, fun k q h => by simp [bd_w] at h⟩, va_S.rf, fun _ _ => rfl, ?_⟩
  show lv_has ls 4 [(0, .ref (ad0 503))]
  rw [e3]
  exact hl
