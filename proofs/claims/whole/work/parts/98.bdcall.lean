/-! ===== constructors: grids, calls, contracts ===== -/
section BD4
variable {M : bd_M} {md : bd_X → Prop} {pc ce sl : Nat} {P P' : List (Nat × Nat)} {ks : List Nat} {Lv : List (Nat × Value)} {st : List Value} {σ : Sto}
theorem bd_mna {idx kA b t t5 N K : Nat} {ty : FieldType} {zN zK : Int} {r0 : Nat → Nat} (hd : decode M.1 pc = .ok (.multianewarray idx 2, 4)) (h1 : Cond.classLink M.2.1 idx ("[" ++ (FieldType.array ty).toString) ∈ z_all) (h2 : Cond.arrayClass ty ∈ z_all) (hty : ty = .int ∨ ty = .long) (ht : bd_ty t ty) (ht5 : ∀ aC : Nat → ClassId, (z_tys aC)[t5]? = some (aC t5, .array ty)) (h5 : 5 ≤ t5) (hts : (FieldType.array ty).toString = "[" ++ ty.toString) (hra : ∀ (U : State) (c : ClassId), va_RA U c (.array ty) = (U.vm.findClass ("[" ++ (FieldType.array ty).toString) = some c)) (hfd : fits ty (defaultValue ty) = true) (hdd : (defaultValue ty).isDefault = true)
    (hkA : z_lay kA = .inr (t5, N, fun i => b + i)) (hkI : ∀ i, i < N → z_lay (b + i) = .inr (t, K, r0)) (hA : kA < b) (hnN : N ≤ 2000) (hnK : K ≤ 2000) (hzN : zN = (N : Int)) (hzK : zK = (K : Int)) (hz : ∀ i, i < N → ∀ j, σ (b + i) j = 0) (hfr : ∀ j ∈ bd_kn P ks M.2.2.2.2.2.2.2 Lv st, j ≠ kA ∧ ¬ (b ≤ j ∧ j < b + N)) (hc : ce + 1 + N ≤ M.2.2.2.2.2.1) (hs : sl + N + N * K ≤ M.2.2.2.2.2.2.1)
    (kk : BD M md (pc + 4) P (ks ++ (kA :: (List.range N).map (fun i => b + i))) Lv (zR kA :: st) σ (ce + 1 + N) (sl + N + N * K)) : BD M md pc P ks Lv (zI zK :: zI zN :: st) σ ce sl := by
  rintro ⟨p, l, e, R, s, m, args, below, meth, c, D, aC, A, Fin, ad0⟩ hm hf ad H locs ls hw0
  obtain ⟨hx, hb, hml, hown, htw, hK, hAq, hR, hao⟩ := id hf
  obtain ⟨hP, hD, hS, hG, hl⟩ := id hw0
  subst hzN
  subst hzK
  obtain ⟨t1, t2, t3, t4, t6⟩ := ht
  obtain ⟨b1, b2⟩ := bd_n hnN
  obtain ⟨b3, b4⟩ := bd_n hnK
  have hcy : s.vm.findClass (FieldType.array ty).toString = some (aC t) := by
    have h9 := (hK.2 t _ (t1 aC)).2
    rw [t2] at h9
    rw [hts]
    exact h9
  have hc1 : ce + (1 + N) ≤ R.cells := by
    have := hR.2.2.1
    omega
  have hs1 : sl + (N + N * K) ≤ R.slots := by
    have := hR.2.2.2
    omega
  have hby : K * componentBytes ty ≤ 536870912 := Nat.le_trans (Nat.mul_le_mul hnK t4) (by decide)
  have hPX : va_P D vwCl (bd_w ad aC σ P ks ++ va_pl [] (fun _ => .inl (aC 0, 0, .inl (fun _ => 0)))) H := by
    show va_P D vwCl (bd_w ad aC σ P ks ++ []) H
    rw [List.append_nil]
    exact hP
  have hDX : va_D A (bd_w ad aC σ P ks ++ va_pl [] (fun _ => .inl (aC 0, 0, .inl (fun _ => 0)))) := by
    show va_D A (bd_w ad aC σ P ks ++ [])
    rw [List.append_nil]
    exact hD
  have hcell : ∀ c : ClassId, Jvm.Free.Multi.innerC c K (defaultValue ty) = vp_cell c (K, z_arr (fun _ => 0) (fun _ => 0) t (fun _ => 0)) := fun c => by
    rw [t3]
    show ({ cls := c, slots := Array.replicate K (defaultValue ty), vm := .none } : Cell) = _
    rw [arrV_new]
  refine va_mna (X := bd_w ad aC σ P ks) (L := []) (f := fun _ => .inl (aC 0, 0, .inl (fun _ => 0))) (n := Int32.ofInt (N : Int)) (k := Int32.ofInt (K : Int)) (rest := st.map (z_emb ad)) hx hb hown (htw _ h1) (hao.use hty args) (htw _ h2) hcy hK hPX hDX hS hAq b1 b3 b2 b4 (by omega) hby (by omega) hfd hdd hc1 hs1 hcell hd (fun q r cA H1 hinj _ hK1 hP1 hD1 hS1 => ?_)
  have hcA : cA = aC t5 := by
    have h8 := (hK1.2 7 (cA, .array ty) rfl).2
    have h9 := (hK.2 t5 _ (ht5 aC)).2
    rw [hra] at h8 h9
    exact Option.some.inj (h8.symm.trans h9)
  subst hcA
  obtain ⟨ad', ea, er, hag⟩ : ∃ ad' : Nat → Nat, ad' kA = q ∧ (∀ i, i < N → ad' (b + i) = r i) ∧ ∀ j ∈ bd_kn P ks M.2.2.2.2.2.2.2 Lv st, ad j = ad' j := by
    refine ⟨fun j => if j = kA then q else if b ≤ j ∧ j < b + N then r (j - b) else ad j, if_pos rfl, fun i hi => ?_, fun j hj => ?_⟩
    · have a1 : ¬ b + i = kA := by omega
      have a2 : b ≤ b + i ∧ b + i < b + N := by omega
      show (if b + i = kA then q else if b ≤ b + i ∧ b + i < b + N then r (b + i - b) else ad (b + i)) = r i
      rw [if_neg a1, if_pos a2, Nat.add_sub_cancel_left]
    · show ad j = if j = kA then q else if b ≤ j ∧ j < b + N then r (j - b) else ad j
      rw [if_neg (hfr j hj).1, if_neg (hfr j hj).2]
  have k3 := bd_ext (P' := P) (kn := kA :: (List.range N).map (fun i => b + i)) (st2 := [zR kA]) (ad := ad) (ad' := ad') hm hf hag (bd_Pm.mpr fun w hw => bd_Pm.mp hP1 w (List.mem_append_left _ (List.mem_append_left _ hw))) (fun k' hk' => by
    rcases List.mem_cons.mp hk' with e | h
    · have h9 := bd_Pm.mp hP1 _ (List.mem_append_left _ (List.mem_append_right _ (List.mem_singleton.mpr rfl)))
      rw [e, ea, hkA]
      have n4 : ¬ t5 = 4 := by omega
      have h10 : H1[q]? = some (vp_cell (aC t5) (N, .inr (.inr (.inr (.inr (fun i => if i < N then some (r i) else none)))))) := h9
      show H1[q]? = some (vp_cell (aC t5) (N, z_arr ad' (σ kA) t5 (fun i => b + i)))
      have ez : z_arr ad' (σ kA) t5 (fun i => b + i) = .inr (.inr (.inr (.inr (fun j => some (ad' (b + j)))))) := by
        unfold z_arr
        rw [if_neg n4, if_pos h5]
      rw [h10, ez, vp_cell_q, vp_cell_q]
      exact congrArg some (arrV_cg _ _ (fun j hj => by rw [if_pos hj, er j hj]))
    · obtain ⟨i, hi, rfl⟩ := List.mem_map.mp h
      have hi' := List.mem_range.mp hi
      have hmem : r i ∈ ([] : List Nat) ++ (List.range N).map r := List.mem_append_right _ (List.mem_map.mpr ⟨i, hi, rfl⟩)
      have h9 := bd_Pm.mp hP1 _ (List.mem_append_right _ (List.mem_map.mpr ⟨r i, hmem, rfl⟩))
      rw [vr_up_in (List.mem_map.mpr ⟨i, hi, rfl⟩)] at h9
      have hσ : σ (b + i) = fun _ => 0 := funext (hz i hi')
      rw [er i hi', hkI i hi', hσ]
      show H1[r i]? = some (vp_cell (aC t) (K, z_arr ad' (fun _ => 0) t r0))
      rw [bd_arr t6 (fun _ => 0) (fun _ => 0)]
      exact h9) (fun _ _ => rfl) hD1 (by
    rw [List.map_append, List.map_append, List.map_append, bd_fst]
    have e1 : ks.map ad' = ks.map ad := List.map_congr_left (fun j hj => (hag j (bd_knK hj)).symm)
    have e2 : (va_pl (([] : List Nat) ++ (List.range N).map r) (vr_up (fun _ => .inl (aC 0, 0, .inl (fun _ => 0))) ((List.range N).map r) (.inl (aC t, K, z_arr (fun _ => 0) (fun _ => 0) t (fun _ => 0))))).map Prod.fst = (List.range N).map r := by
      unfold va_pl
      rw [List.map_map, List.nil_append]
      exact (List.map_congr_left (fun _ _ => rfl)).trans (List.map_id _)
    rw [e1, e2, List.append_assoc]
    congr 1
    show ad' kA :: ((List.range N).map (fun i => b + i)).map ad' = q :: (List.range N).map r
    rw [ea, List.map_map]
    congr 1
    exact List.map_congr_left (fun i hi => er i (List.mem_range.mp hi))) hS1 hG hl kk
  have e9 : [zR kA].map (z_emb ad') ++ st.map (z_emb ad) = .ref q :: st.map (z_emb ad) := by
    show Value.ref (ad' kA) :: _ = _
    rw [ea]
    rfl
  rw [e9] at k3
  exact k3
end BD4
/-- A CONSTRUCTOR'S CONTRACT: on the object w, its references null, with the cells ks of the store still nought, it makes the cells ks and the store F -/
def Cons (y : MethodName) (cc : ByteArray) (nL fr lo CE SL w : Nat) (G : List Nat) (av : List Value) (ks : List Nat) (F : Sto → Sto) : Prop :=
  ∀ (l : Launch) (D : va_G) (aC : Nat → ClassId) (ad : Nat → Nat) (sz : Nat) (σ : Sto), (∀ k ∈ ks, k ≠ w → ∀ j, σ k j = 0) →
    Met l y (Cond.code y cc nL none :: z_all) { frames := fr, cells := CE, slots := SL, locals := lo } (va_Pc (av.map (z_emb ad)) (fun U => U.heap.size = sz ∧ va_P D vwCl (bd_w ad aC σ [(w, 0)] [w]) U.heap ∧ va_K D vwCl (z_tys aC) U ∧ va_D (fun _ => True) (bd_w ad aC σ [(w, 0)] [w]) ∧ bd_ao U))
      (va_Qv (fun ad' : Nat → Nat => ∀ k ∈ G, ad' k = ad k) (fun ad' t => va_P D vwCl (bd_w ad' aC (F σ) [] ks) t.heap ∧ va_D (va_A (bd_w ad aC σ [(w, 0)] [w]) sz) (bd_w ad' aC (F σ) [] ks)) (va_A (bd_w ad aC σ [(w, 0)] [w]) sz)) CE SL (va_A (bd_w ad aC σ [(w, 0)] [w]) sz)
def bd_md (CE SL : Nat) (G ks : List Nat) (σ' : Sto) (x : bd_X) : Prop := match x with
  | (_, _, _, _, s, _, args, below, meth, _, D, aC, A, Fin, ad0) => meth.name = "<init>" ∧ meth.sig.returnType = none ∧ meth.locks = false ∧ Fin = MQ below (va_Qv (fun ad' : Nat → Nat => ∀ k ∈ G, ad' k = ad0 k) (fun ad' t => va_P D vwCl (bd_w ad' aC σ' [] ks) t.heap ∧ va_D A (bd_w ad' aC σ' [] ks)) A) args s CE SL A
theorem bd_init {CE SL : Nat} {G ks : List Nat} {σ' : Sto} (x : bd_X) (h : bd_md CE SL G ks σ' x) : x.2.2.2.2.2.2.2.2.1.name = "<init>" := by
  obtain ⟨p, l, e, R, s, m, args, below, meth, c, D, aC, A, Fin, ad0⟩ := x
  exact h.1
theorem lv_argsM {ad : Nat → Nat} : ∀ (av : List Value) (i : Nat), lv_args i (av.map (z_emb ad)) = (lv_args i av).map (fun q => (q.1, z_emb ad q.2))
  | [], _ => rfl
  | v :: l, i => by
    show (i, z_emb ad v) :: lv_args (if (z_emb ad v).category = 2 then i + 2 else i + 1) (l.map (z_emb ad)) = (i, z_emb ad v) :: (lv_args (if v.category = 2 then i + 2 else i + 1) l).map _
    rw [z_emb_cat, lv_argsM l]
theorem bd_cons {y : MethodName} {cc : ByteArray} {nL fr lo CE SL w : Nat} {G : List Nat} {av : List Value} {ks : List Nat} {F : Sto → Sto} {own : String} {Lv : List (Nat × Value)} (hown : y.cls = own) (hpl : plainName y.cls = true) (hn : y.name = "<init>") (hlen : (lg_sl av).length ≤ nL) (hav : lv_args 0 av = Lv)
    (h : ∀ σ : Sto, (∀ k ∈ ks, k ≠ w → ∀ j, σ k j = 0) → BD (cc, own, nL, fr, lo, CE, SL, G) (bd_md CE SL G ks (F σ)) 0 [(w, 0)] [w] Lv [] σ 0 0) : Cons y cc nL fr lo CE SL w G av ks F := by
  intro l D aC ad sz σ hz
  refine Met.ofW (cc := cc) (maxL := nL) (ret := none) hpl rfl ?_
  intro p e s m args below meth c s₁ B hml hv
  obtain ⟨rfl, hsz, hP, hK, hD0, hao⟩ := hv
  subst hsz
  have hts := atoms_spec (ws := Cond.code y cc nL none :: z_all) B.pre
  have hown' : s.vm.findClass own = some m.cls := by rw [← hown]; exact findClass_of_methodNamed B.named
  have hin : meth.name = "<init>" := (name_of_methodNamed B.named B.method).1.trans hn
  have hD := hD0.self (sz := s.heap.size)
  have hl := lv_entry (av.map (z_emb ad)) (n := nL) (by rw [z_sl_len]; exact hlen)
  rw [lg_entry_eq]
  generalize (lg_sl (av.map (z_emb ad)) ++ List.replicate (nL - (lg_sl (av.map (z_emb ad))).length) Slot.unset).toArray = ls at hl ⊢
  refine h σ hz (p, l, e, { frames := fr, cells := CE, slots := SL, locals := lo }, s, m, (av.map (z_emb ad)).toArray, below, meth, c, D, aC, va_A (bd_w ad aC σ [(w, 0)] [w]) s.heap.size, MQ below (va_Qv (fun ad' : Nat → Nat => ∀ k ∈ G, ad' k = ad k) (fun ad' t => va_P D vwCl (bd_w ad' aC (F σ) [] ks) t.heap ∧ va_D (va_A (bd_w ad aC σ [(w, 0)] [w]) s.heap.size) (bd_w ad' aC (F σ) [] ks)) (va_A (bd_w ad aC σ [(w, 0)] [w]) s.heap.size)) (av.map (z_emb ad)).toArray s CE SL (va_A (bd_w ad aC σ [(w, 0)] [w]) s.heap.size), ad) ⟨hin, B.returns, B.notSynchronized, rfl⟩ ⟨B.exec, B.bytes, hml, hown', fun w hw => hts w (List.mem_cons_of_mem _ hw), hK, fun q hq => Or.inr hq, ⟨Nat.le_refl _, Nat.le_refl _, Nat.le_refl _, Nat.le_refl _⟩, hao⟩ ad s.heap [] ls ⟨hP, hD, va_S.rf, fun _ _ => rfl, ?_⟩
  show lv_has ls nL (Lv.map (fun q => (q.1, z_emb ad q.2)))
  rw [← hav, ← lv_argsM]
  exact hl
theorem bd_ret {cc : ByteArray} {own : String} {nL fr lo pc ce sl CE SL : Nat} {P : List (Nat × Nat)} {ks ks0 G : List Nat} {Lv : List (Nat × Value)} {σ σ' : Sto} (hd : decode cc pc = .ok (.return_, 1)) (hce : ce = CE) (hsl : sl = SL) (hks : ks0 = ks) (hσ : σ' = σ) (hdn : ∀ k ∈ ks0, bd_done (bd_pn P k) (z_lay k) = true) : BD (cc, own, nL, fr, lo, CE, SL, G) (bd_md CE SL G ks σ') pc P ks0 Lv [] σ ce sl := by
  subst hce
  subst hsl
  subst hks
  subst hσ
  rintro ⟨p, l, e, R, s, m, args, below, meth, c, D, aC, A, Fin, ad0⟩ ⟨hn, hr, hlk, rfl⟩ hf ad H locs ls hw
  obtain ⟨hx, hb, hml, hown, hts, hK, hA, hR, hao⟩ := id hf
  obtain ⟨hP, hD, hS, hG, hl⟩ := id hw
  rw [bd_wdn hdn] at hP hD
  exact W.vret hx hb hr (fun t ht hW => ⟨⟨ad, rfl, hG, by rw [ht]; exact hP, hD⟩, hS.F ht⟩) hS.2.2 hd
/-- the words of a constructor's call -/
def bd_CI (own : String) (idx : Nat) (y : MethodName) (cc : ByteArray) (nL n : Nat) : Prop := Cond.methodLink own idx y ∈ z_all ∧ Cond.instanceMethod y ∈ z_all ∧ Cond.initialized y.cls ∈ z_all ∧ Cond.code y cc nL none ∈ z_all ∧ (y.cls ≠ "java/lang/invoke/MethodHandle" ∧ y.cls ≠ "java/lang/invoke/VarHandle" ∧ (parseMethodDescriptor y.desc).map (fun d => d.parameters.length) = some n) ∧ y.name = "<init>"
theorem bd_call {M : bd_M} {md : bd_X → Prop} {pc ce sl : Nat} {P P' : List (Nat × Nat)} {ks : List Nat} {Lv : List (Nat × Value)} {rest st0 : List Value} {σ : Sto} {idx n : Nat} {y : MethodName} {cc : ByteArray} {nL fr lo CE SL w iw : Nat} {as : List Value} {G' ks' kr isR : List Nat} {F : Sto → Sto} (hd : decode M.1 pc = .ok (.invokespecial idx, 3)) (h : Cons y cc nL fr lo CE SL w G' (zR w :: as) ks' F) (hc : bd_CI M.2.1 idx y cc nL n) (hst : st0 = as.reverse ++ zR w :: rest) (hlen : as.length = n) (hcat : (rest.map fun v => v.category).sum ≤ 8) (hroom : fr + 1 ≤ M.2.2.2.1 ∧ 8 + (nL + 11) + lo ≤ M.2.2.2.2.1 ∧ ce + CE ≤ M.2.2.2.2.2.1 ∧ sl + SL ≤ M.2.2.2.2.2.2.1)
    (hiw : ks[iw]? = some w) (hpw : bd_pn P w = 0) (hR0 : isR.map (fun i => ks[i]?) = kr.map some) (hnd : va_nd isR = true) (hdis : iw ∉ isR) (hag : ∀ j ∈ bd_kn P kr M.2.2.2.2.2.2.2 Lv rest, j ∈ ks' → j = w) (hwG : w ∈ G') (href : ∀ k ∈ ks', ∀ r ∈ bd_refs 1000 (z_lay k), r ∈ ks' ∨ r ∈ G') (hF : ∀ k, k ∉ ks' → F σ k = σ k) (hkd : ∀ k ∈ kr, k ∉ ks') (hz : ∀ k ∈ ks', k ≠ w → ∀ j, σ k j = 0) (hP1 : ∀ k ∈ kr, bd_pn P' k = bd_pn P k) (hP2 : ∀ k ∈ ks', bd_pn P' k = 1000)
    (kk : BD M md (pc + 3) P' (kr ++ ks') Lv rest (F σ) (ce + CE) (sl + SL)) : BD M md pc P ks Lv st0 σ ce sl := by
  rintro ⟨p, l, e, R, s, m, args, below, meth, c, D, aC, A, Fin, ad0⟩ hm hf ad H locs ls hw0
  obtain ⟨hx, hb, hml, hown, hts, hK, hA, hR, hao⟩ := id hf
  obtain ⟨hP, hD, hS, hG, hl⟩ := id hw0
  subst hst
  obtain ⟨c1, c2, c3, c4, c5, c6⟩ := hc
  have hmap : (as.reverse ++ zR w :: rest).map (z_emb ad) = (as.map (z_emb ad)).reverse ++ .ref (ad w) :: rest.map (z_emb ad) := by
    rw [List.map_append, List.map_reverse]; rfl
  show W p l e R s m args below meth c H locs ce sl Fin (F0 m pc ls ((as.reverse ++ zR w :: rest).map (z_emb ad)))
  rw [hmap]
  have e0 : bd_pn [(w, 0)] w = 0 := if_pos rfl
  have hwc : [iw].map (fun i => (bd_w ad aC σ P ks)[i]?) = (bd_w ad aC σ [(w, 0)] [w]).map some := by
    show [(bd_w ad aC σ P ks)[iw]?] = [some (ad w, bd_ent ad aC (σ w) (bd_pn [(w, 0)] w) (z_lay w))]
    rw [bd_get hiw, hpw, e0]
  have hRR : isR.map (fun i => (bd_w ad aC σ P ks)[i]?) = (bd_w ad aC σ P kr).map some := by
    have e1 : isR.map (fun i => (bd_w ad aC σ P ks)[i]?) = (isR.map (fun i => ks[i]?)).map (Option.map (fun k => (ad k, bd_ent ad aC (σ k) (bd_pn P k) (z_lay k)))) := by
      rw [List.map_map]
      exact List.map_congr_left (fun i _ => by
        show (bd_w ad aC σ P ks)[i]? = (ks[i]?).map _
        unfold bd_w
        rw [List.getElem?_map])
    rw [e1, hR0]
    unfold bd_w
    rw [List.map_map, List.map_map]
    exact List.map_congr_left (fun _ _ => rfl)
  have hFc := va_free (wc := bd_w ad aC σ [(w, 0)] [w]) hD hS hA [iw] hwc
  have hPc : va_P D vwCl (bd_w ad aC σ [(w, 0)] [w]) H := bd_Pw.mpr (fun k hk => by
    rw [List.mem_singleton.mp hk, e0, ← hpw]
    exact bd_Pw.mp hP w (List.mem_of_getElem? hiw))
  have hDc : va_D (fun _ => True) (bd_w ad aC σ [(w, 0)] [w]) := ⟨fun i j p q hi hj _ => by
    have h1 : i < 1 := (List.getElem?_eq_some_iff.mp hi).1
    have h2 : j < 1 := (List.getElem?_eq_some_iff.mp hj).1
    omega, fun _ _ _ => trivial⟩
  refine va_callv (va_runI (Ts := z_all) (As := as.map (z_emb ad)) (b := ad w) (rest := rest.map (z_emb ad)) (g := F0 m pc ls ((as.map (z_emb ad)).reverse ++ .ref (ad w) :: rest.map (z_emb ad))) ⟨hx, hb, hml, hown, hts⟩ (h l D aC ad H.size σ hz) ⟨callB_of n hts (z_good c4) rfl rfl rfl (hts _ c3) (hts _ c1) c5 ⟨?_, ?_⟩, c6, hts _ c2⟩ ⟨?_, ?_⟩ rfl (by rw [List.length_map]; exact hlen) hl.1 rfl ?_ hd ⟨by have := hR.2.2.1; have := hroom.2.2.1; omega, by have := hR.2.2.2; have := hroom.2.2.2; omega⟩) hS (fun q _ h => hFc q h) hFc (fun u t H1 locs1 ht hvm hw hB hz1 hk1 hS1 => ?_)
  · show fr + 1 ≤ R.frames
    have := hR.1
    have := hroom.1
    omega
  · show 8 + (nL + 11) + lo ≤ R.locals
    have := hR.2.1
    have := hroom.2.1
    omega
  · rintro a U g mk ⟨h0, h1, h2, h3, h4, h5⟩
    exact ⟨h0, h1, h2, va_K.moved (u := U) (U := U.calling g mk a) (Vm.Alike.refl U.vm) h3, h4, bd_ao.moved (u := U) (U := U.calling g mk a) (Vm.Alike.refl U.vm) h5⟩
  · intro U hU hW
    exact ⟨rfl, by rw [hU], by rw [hU]; exact hPc, va_K.moved hW.alike hK, hDc, bd_ao.moved hW.alike hao⟩
  · show 2 * 0 + _ ≤ 8
    rw [z_cats]
    omega
  · obtain ⟨hB1, hB2⟩ := hB
    rw [ht] at hB1
    obtain ⟨hP3, hD3⟩ := va_join (wr := bd_w ad aC σ P kr) (w1 := bd_w u aC (F σ) [] ks') hP hD [iw] isR hwc hRR hnd (fun i hi hi2 => hdis (by rw [← List.mem_singleton.mp hi2]; exact hi)) hk1 hFc hB1 hB2
    obtain ⟨ad2, e1, e2⟩ : ∃ ad2 : Nat → Nat, (∀ k, k ∈ ks' → ad2 k = u k) ∧ ∀ k, k ∉ ks' → ad2 k = ad k := ⟨fun k => if k ∈ ks' then u k else ad k, fun k hk => if_pos hk, fun k hk => if_neg hk⟩
    have hag2 : ∀ j ∈ bd_kn P kr M.2.2.2.2.2.2.2 Lv rest, ad j = ad2 j := fun j hj => by
      by_cases hjk : j ∈ ks'
      · have := hag j hj hjk
        rw [e1 j hjk, this, hw w hwG]
      · rw [e2 j hjk]
    have k2 : W p l e R s m args below meth c H1 locs1 (ce + CE) (sl + SL) Fin (F0 m (pc + 3) ls (rest.map (z_emb ad2))) := by
      refine kk (p, l, e, R, s, m, args, below, meth, c, D, aC, A, Fin, ad0) hm hf ad2 H1 locs1 ls ⟨?_, ?_, hS1, ?_, ?_⟩
      · refine bd_Pw.mpr (fun k hk => ?_)
        rcases List.mem_append.mp hk with hk | hk
        · have h9 := bd_Pm.mp hP3 _ (List.mem_append_left _ (List.mem_map.mpr ⟨k, hk, rfl⟩))
          rw [hF k (hkd k hk), hP1 k hk, ← hag2 k (bd_knK hk)]
          exact bd_at_cg (fun r hr => hag2 r (bd_knR hk hr)) h9
        · have h9 := bd_Pm.mp hP3 _ (List.mem_append_right _ (List.mem_map.mpr ⟨k, hk, rfl⟩))
          rw [hP2 k hk, e1 k hk]
          refine bd_at_cg (fun r hr => ?_) h9
          by_cases hrk : r ∈ ks'
          · exact (e1 r hrk).symm
          · rw [e2 r hrk]
            rcases href k hk r hr with q | q
            · exact absurd q hrk
            · exact hw r q
      · refine bd_Dof ?_ hD3
        rw [bd_fst, List.map_append, List.map_append, bd_fst, bd_fst]
        congr 1
        · exact List.map_congr_left (fun j hj => (hag2 j (bd_knK hj)).symm)
        · exact List.map_congr_left (fun j hj => e1 j hj)
      · exact fun k hk => (hag2 k (bd_knG hk)).symm.trans (hG k hk)
      · rw [← bd_embL (ad := ad) (fun r hr => hag2 r (bd_knL hr))]
        exact hl
    rw [← bd_embs (st := rest) (ad := ad) (fun r hr => hag2 r (bd_knS hr))] at k2
    exact k2
