/-! ===== constructors: rows of objects, grids, calls ===== -/
section BD3
variable {M : bd_M} {md : bd_X → Prop} {pc ce sl : Nat} {P P' : List (Nat × Nat)} {ks : List Nat} {Lv : List (Nat × Value)} {st : List Value} {σ : Sto}
theorem bd_set {ad : Nat → Nat} {aC : Nat → ClassId} {σ' : Sto} {i w : Nat} {e : va_E} (hnd : va_nd ks = true) (hi : ks[i]? = some w) (he : e = bd_ent ad aC (σ' w) (bd_pn P' w) (z_lay w)) (ho : ∀ k ∈ ks, k ≠ w → σ' k = σ k ∧ bd_pn P' k = bd_pn P k) : (bd_w ad aC σ P ks).set i (ad w, e) = bd_w ad aC σ' P' ks := by
  subst he
  apply List.ext_getElem?
  intro j
  by_cases hj : j = i
  · subst hj
    have hl : j < (bd_w ad aC σ P ks).length := by
      unfold bd_w
      rw [List.length_map]
      exact (List.getElem?_eq_some_iff.mp hi).1
    rw [List.getElem?_set_self hl, bd_get hi]
  · rw [List.getElem?_set_ne (fun q => hj q.symm)]
    unfold bd_w
    rw [List.getElem?_map, List.getElem?_map]
    cases hk : ks[j]? with
    | none => rfl
    | some k =>
      have hne : k ≠ w := fun h => hj (va_nd_inj ks hnd j i w (by rw [hk, h]) hi)
      obtain ⟨a1, a2⟩ := ho k (List.mem_of_getElem? hk) hne
      show some (ad k, bd_ent ad aC (σ k) (bd_pn P k) (z_lay k)) = some (ad k, bd_ent ad aC (σ' k) (bd_pn P' k) (z_lay k))
      rw [a1, a2]
theorem bd_getR {idx i w ci j b : Nat} {fs : List (Option Nat)} (hd : decode M.1 pc = .ok (.getfield idx, 3)) (hk : z_lay w = .inl (ci, fs)) (hi : ks[i]? = some w) {C : String} {T : u_T} {N : Nat} (hcl : vwCl[ci]? = some (C, T, N)) (hin : ∀ w ∈ u_ws C T N, w ∈ z_all) (hj : j < N) (hlink : Cond.fieldLink M.2.1 idx (T j).1 (T j).2.1 (T j).2.2.1 ∈ z_all) (hfs : fs[j]? = some (some b)) (hn : j < bd_pn P w) (kk : BD M md (pc + 3) P ks Lv (zR b :: st) σ ce sl) : BD M md pc P ks Lv (zR w :: st) σ ce sl := by
  rintro ⟨p, l, e, R, s, m, args, below, meth, c, D, aC, A, Fin, ad0⟩ hm hf ad H locs ls hw
  obtain ⟨hx, hb, hml, hown, hts, hK, hA, hR, hao⟩ := id hf
  obtain ⟨hP, hD, hS, hG, hl⟩ := id hw
  have hq : (bd_w ad aC σ P ks)[i]? = some (ad w, .inr (ci, bd_fl ad (σ w) (bd_pn P w) 0 fs)) := by rw [bd_get hi, hk]; rfl
  have k2 : W p l e R s m args below meth c H locs ce sl Fin (F0 m (pc + 3) ls (.ref (ad b) :: st.map (z_emb ad))) := kk (p, l, e, R, s, m, args, below, meth, c, D, aC, A, Fin, ad0) hm hf ad H locs ls hw
  exact va_get hx hb hts hin hown hK hP i hq hcl j hj (hts _ hlink) (fun _ h9 => h9) (bd_fl_R fs 0 j hfs (by omega)) hd k2
theorem bd_put {idx i w ci j b : Nat} {fs : List (Option Nat)} (hd : decode M.1 pc = .ok (.putfield idx, 3)) (hk : z_lay w = .inl (ci, fs)) (hnd : va_nd ks = true) (hi : ks[i]? = some w) {C : String} {T : u_T} {N : Nat} (hcl : vwCl[ci]? = some (C, T, N)) (hin : ∀ w ∈ u_ws C T N, w ∈ z_all) {ty0 : Nat → FieldType} (hty : ∀ k, k < N → parseFieldDescriptor (T k).2.2.1 = some (ty0 k)) (hnm : ∀ a, a < N → ∀ b, b < N → a ≠ b → (T a).2.1 ≠ (T b).2.1) (hj : j < N) (hlink : Cond.fieldLink M.2.1 idx (T j).1 (T j).2.1 (T j).2.2.1 ∈ z_all) (hfin : (T j).2.2.2 = true) (hini : ∀ x : bd_X, md x → x.2.2.2.2.2.2.2.2.1.name = "<init>") (hdecl : (T j).1 = M.2.1) {ty : FieldType} (hd0 : parseFieldDescriptor (T j).2.2.1 = some ty) (hnar : ∀ a : Nat, narrow ty (.ref a) = .ref a) (hfit : ∀ a : Nat, fits ty (.ref a) = true)
    (hfs : fs[j]? = some (some b)) (hn : bd_pn P w ≤ j) (hgap : ∀ i, i < j → bd_pn P w ≤ i → fs[i]? = some none) (hpw : bd_pn P' w = j + 1) (hpp : ∀ k ∈ ks, k ≠ w → bd_pn P' k = bd_pn P k) (kk : BD M md (pc + 3) P' ks Lv st σ ce sl) : BD M md pc P ks Lv (zR b :: zR w :: st) σ ce sl := by
  rintro ⟨p, l, e, R, s, m, args, below, meth, c, D, aC, A, Fin, ad0⟩ hm hf ad H locs ls hw
  obtain ⟨hx, hb, hml, hown, hts, hK, hA, hR, hao⟩ := id hf
  obtain ⟨hP, hD, hS, hG, hl⟩ := id hw
  have hq : (bd_w ad aC σ P ks)[i]? = some (ad w, .inr (ci, bd_fl ad (σ w) (bd_pn P w) 0 fs)) := by rw [bd_get hi, hk]; rfl
  have hlen : j < (bd_fl ad (σ w) (bd_pn P w) 0 fs).length := by rw [bd_fl_len]; exact (List.getElem?_eq_some_iff.mp hfs).1
  have hset : (bd_w ad aC σ P ks).set i (ad w, .inr (ci, (bd_fl ad (σ w) (bd_pn P w) 0 fs).set j (.ref (ad b)))) = bd_w ad aC σ P' ks := by
    refine bd_set hnd hi ?_ (fun k hk' hne => ⟨rfl, hpp k hk' hne⟩)
    rw [bd_fl_set fs (bd_pn P w) 0 j hfs (by omega) (fun i a1 a2 => hgap i a2 (by omega)), hk, hpw, Nat.zero_add]
    rfl
  refine va_putF (v := .ref (ad b)) (ty := ty) hx hb hts hin ty0 hty hnm hown hK hP hD hS i hq hcl j hj (hts _ hlink) (fun _ h9 => h9) hfin (hini _ hm) hdecl hd0 (hnar _) (hfit _) hlen hd (fun H1 locs1 hP1 hD1 hS1 => ?_)
  rw [hset] at hP1 hD1
  exact kk (p, l, e, R, s, m, args, below, meth, c, D, aC, A, Fin, ad0) hm hf ad H1 locs1 ls ⟨hP1, hD1, hS1, hG, hl⟩
theorem bd_puti {idx i w ci j : Nat} {x : Int} {fs : List (Option Nat)} (hd : decode M.1 pc = .ok (.putfield idx, 3)) (hk : z_lay w = .inl (ci, fs)) (hnd : va_nd ks = true) (hi : ks[i]? = some w) {C : String} {T : u_T} {N : Nat} (hcl : vwCl[ci]? = some (C, T, N)) (hin : ∀ w ∈ u_ws C T N, w ∈ z_all) {ty0 : Nat → FieldType} (hty : ∀ k, k < N → parseFieldDescriptor (T k).2.2.1 = some (ty0 k)) (hnm : ∀ a, a < N → ∀ b, b < N → a ≠ b → (T a).2.1 ≠ (T b).2.1) (hj : j < N) (hlink : Cond.fieldLink M.2.1 idx (T j).1 (T j).2.1 (T j).2.2.1 ∈ z_all) (hfin : (T j).2.2.2 = false) (hd0 : parseFieldDescriptor (T j).2.2.1 = some .int)
    (hfs : fs[j]? = some none) (kk : BD M md (pc + 3) P ks Lv st (z_put σ w j x) ce sl) : BD M md pc P ks Lv (zI x :: zR w :: st) σ ce sl := by
  rintro ⟨p, l, e, R, s, m, args, below, meth, c, D, aC, A, Fin, ad0⟩ hm hf ad H locs ls hw
  obtain ⟨hx, hb, hml, hown, hts, hK, hA, hR, hao⟩ := id hf
  obtain ⟨hP, hD, hS, hG, hl⟩ := id hw
  have hq : (bd_w ad aC σ P ks)[i]? = some (ad w, .inr (ci, bd_fl ad (σ w) (bd_pn P w) 0 fs)) := by rw [bd_get hi, hk]; rfl
  have hlen : j < (bd_fl ad (σ w) (bd_pn P w) 0 fs).length := by rw [bd_fl_len]; exact (List.getElem?_eq_some_iff.mp hfs).1
  have hset : (bd_w ad aC σ P ks).set i (ad w, .inr (ci, (bd_fl ad (σ w) (bd_pn P w) 0 fs).set j (.int (Int32.ofInt x)))) = bd_w ad aC (z_put σ w j x) P ks := by
    refine bd_set hnd hi ?_ (fun k hk' hne => ⟨z_put_ne hne, rfl⟩)
    rw [bd_fl_seti fs 0 j hfs, hk, z_put_self, Nat.zero_add]
    rfl
  refine va_put (v := .int (Int32.ofInt x)) (ty := .int) hx hb hts hin ty0 hty hnm hown hK hP hD hS i hq hcl j hj (hts _ hlink) (fun _ h9 => h9) hfin hd0 rfl rfl hlen hd (fun H1 locs1 hP1 hD1 hS1 => ?_)
  rw [hset] at hP1 hD1
  exact kk (p, l, e, R, s, m, args, below, meth, c, D, aC, A, Fin, ad0) hm hf ad H1 locs1 ls ⟨hP1, hD1, hS1, hG, hl⟩
theorem bd_iast {i0 k n : Nat} {r : Nat → Nat} {i x : Int} (hd : decode M.1 pc = .ok (.iastore, 1)) (hk : z_lay k = .inr (0, n, r)) (hnc : k < z_NC) (hnd : va_nd ks = true) (hi0 : ks[i0]? = some k) (hi : 0 ≤ i ∧ i < n) (kk : BD M md (pc + 1) P ks Lv st (z_put σ k i.toNat x) ce sl) : BD M md pc P ks Lv (zI x :: zI i :: zR k :: st) σ ce sl := by
  rintro ⟨p, l, e, R, s, m, args, below, meth, c, D, aC, A, Fin, ad0⟩ hm hf ad H locs ls hw
  obtain ⟨hx, hb, hml, hown, hts, hK, hA, hR, hao⟩ := id hf
  obtain ⟨hP, hD, hS, hG, hl⟩ := id hw
  have hq : (bd_w ad aC σ P ks)[i0]? = some (ad k, .inl (aC 0, n, .inl (fun j => Int32.ofInt (σ k j)))) := by rw [bd_get hi0, hk]; rfl
  have hi2 := z_inx (z_sm hk hnc) hi
  have hset : (bd_w ad aC σ P ks).set i0 (ad k, .inl (aC 0, n, .inl (upd (fun j => Int32.ofInt (σ k j)) (Int32.ofInt i).toNatClampNeg (Int32.ofInt x)))) = bd_w ad aC (z_put σ k i.toNat x) P ks := by
    refine bd_set hnd hi0 ?_ (fun k hk' hne => ⟨z_put_ne hne, rfl⟩)
    rw [hk, hi2.2, z_upd, z_put_self]
    rfl
  refine va_iast hx hb hK hP hD hS i0 0 hq rfl hi2.1 hd (fun H1 locs1 hP1 hD1 hS1 => ?_)
  rw [hset] at hP1 hD1
  exact kk (p, l, e, R, s, m, args, below, meth, c, D, aC, A, Fin, ad0) hm hf ad H1 locs1 ls ⟨hP1, hD1, hS1, hG, hl⟩
theorem bd_aald {i0 k t n : Nat} {r : Nat → Nat} {i : Int} (hd : decode M.1 pc = .ok (.aaload, 1)) (hk : z_lay k = .inr (t, n, r)) (ht : t = 5 ∨ t = 6) (hnc : k < z_NC) (hi0 : ks[i0]? = some k) (hi : 0 ≤ i ∧ i < n) (kk : BD M md (pc + 1) P ks Lv (zR (r i.toNat) :: st) σ ce sl) : BD M md pc P ks Lv (zI i :: zR k :: st) σ ce sl := by
  rintro ⟨p, l, e, R, s, m, args, below, meth, c, D, aC, A, Fin, ad0⟩ hm hf ad H locs ls hw
  obtain ⟨hx, hb, hml, hown, hts, hK, hA, hR, hao⟩ := id hf
  obtain ⟨hP, hD, hS, hG, hl⟩ := id hw
  have hi2 := z_inx (z_sm hk hnc) hi
  have hq : (bd_w ad aC σ P ks)[i0]? = some (ad k, .inl (aC t, n, .inr (.inr (.inr (.inr (fun j => some (ad (r j)))))))) := by
    rw [bd_get hi0, hk]
    rcases ht with rfl | rfl <;> rfl
  have ht2 : ∃ ty, (z_tys aC)[t]? = some (aC t, ty) ∧ ty.isReference = true := by rcases ht with rfl | rfl <;> exact ⟨_, rfl, rfl⟩
  obtain ⟨ty, ht2, ht3⟩ := ht2
  have k2 : W p l e R s m args below meth c H locs ce sl Fin (F0 m (pc + 1) ls (.ref (ad (r i.toNat)) :: st.map (z_emb ad))) := kk (p, l, e, R, s, m, args, below, meth, c, D, aC, A, Fin, ad0) hm hf ad H locs ls hw
  have hc := hP i0 _ hq
  have hin : ¬ (Int32.ofInt i < 0 ∨ n ≤ (Int32.ofInt i).toNatClampNeg) := hi2.1
  refine W.aald hx hb (v := .ref (ad (r i.toNat))) hc ((hK.2 t _ ht2).1 n (fun j => va_rf (some (ad (r j))))) ht3 (fun q => by cases q) (by show ¬ (_ ∨ (arrV _ _ _).slots.size ≤ _); rw [arrV_size]; exact hin) ?_ rfl rfl hd k2
  show (arrV (aC t) n (fun j => va_rf (some (ad (r j))))).slots[_]? = _
  rw [hi2.2, arrV_read _ _ (by omega)]
  rfl
theorem bd_new {idx k ci : Nat} {fs : List (Option Nat)} {C : String} {T : u_T} {N : Nat} {ty0 : Nat → FieldType} (hd : decode M.1 pc = .ok (.new idx, 3)) (hk : z_lay k = .inl (ci, fs)) (hcl : vwCl[ci]? = some (C, T, N)) (hin : ∀ w ∈ u_ws C T N, w ∈ z_all) (hty : ∀ k, k < N → parseFieldDescriptor (T k).2.2.1 = some (ty0 k)) (h1 : Cond.classLink M.2.1 idx C ∈ z_all) (h2 : Cond.instantiable C N ∈ z_all) (h3 : Cond.initialized C ∈ z_all) (hdef : ∀ j, j < N → defaultValue (ty0 j) = (bd_nl fs).getD j .null) (hz : ∀ j, σ k j = 0) (hfr : k ∉ bd_kn P ks M.2.2.2.2.2.2.2 Lv st) (hc : ce + 1 ≤ M.2.2.2.2.2.1) (hs : sl + N ≤ M.2.2.2.2.2.2.1)
    (kk : BD M md (pc + 3) ((k, 0) :: P) (ks ++ [k]) Lv (zR k :: st) σ (ce + 1) (sl + N)) : BD M md pc P ks Lv st σ ce sl := by
  rintro ⟨p, l, e, R, s, m, args, below, meth, c, D, aC, A, Fin, ad0⟩ hm hf ad H locs ls hw0
  obtain ⟨hx, hb, hml, hown, hts, hK, hA, hR, hao⟩ := id hf
  obtain ⟨hP, hD, hS, hG, hl⟩ := id hw0
  have hσ : σ k = fun _ => 0 := funext hz
  have hc1 : ce + 1 ≤ R.cells := Nat.le_trans hc hR.2.2.1
  have hs1 : sl + N ≤ R.slots := Nat.le_trans hs hR.2.2.2
  refine va_new (fs := bd_nl fs) (ci := ci) hx hb hts hin ty0 hty hown (hts _ h1) (hts _ h2) (hts _ h3) hK hP hD hS hA hcl (fun j hj => hdef j hj) hc1 hs1 hd (fun q H1 hP1 hD1 hS1 => ?_)
  obtain ⟨ad', ea, hag⟩ : ∃ ad' : Nat → Nat, ad' k = q ∧ ∀ j ∈ bd_kn P ks M.2.2.2.2.2.2.2 Lv st, ad j = ad' j := by
    refine ⟨fun j => if j = k then q else ad j, if_pos rfl, fun j hj => ?_⟩
    have hne : ¬ j = k := fun h => hfr (h ▸ hj)
    exact (if_neg hne).symm
  have k3 := bd_ext (P' := (k, 0) :: P) (kn := [k]) (st2 := [zR k]) (ad := ad) (ad' := ad') hm hf hag (bd_Pm.mpr fun w hw => bd_Pm.mp hP1 w (List.mem_append_left _ hw)) (fun k' hk' => by
    have h9 := bd_Pm.mp hP1 (q, .inr (ci, bd_nl fs)) (List.mem_append_right _ (List.mem_singleton.mpr rfl))
    have e0 : bd_pn ((k, 0) :: P) k = 0 := if_pos rfl
    rw [List.mem_singleton.mp hk', ea, hk, e0, hσ]
    show va_at D vwCl (q, .inr (ci, bd_fl ad' (fun _ => 0) 0 0 fs)) H1
    rw [bd_fl_0]
    exact h9) (fun k' hk' => by
    have hne : ¬ k = k' := fun h => hfr (h ▸ bd_knK hk')
    exact if_neg hne) hD1 (by
    rw [List.map_append, List.map_append, bd_fst]
    congr 1
    · exact List.map_congr_left (fun j hj => (hag j (bd_knK hj)).symm)
    · show [ad' k] = [q]
      rw [ea]) hS1 hG hl kk
  have e9 : [zR k].map (z_emb ad') ++ st.map (z_emb ad) = .ref q :: st.map (z_emb ad) := by
    show Value.ref (ad' k) :: _ = _
    rw [ea]
    rfl
  rw [e9] at k3
  exact k3
end BD3
