/-! ===== constructors: rows ===== -/
section BD2
variable {M : bd_M} {md : bd_X → Prop} {pc ce sl : Nat} {P P' : List (Nat × Nat)} {ks : List Nat} {Lv : List (Nat × Value)} {st : List Value} {σ : Sto}
theorem bd_aload {k : Fin 4} {i i0 b : Nat} (hd : decode M.1 pc = .ok (.aload_n k, 1)) (hi : (k : Nat) = i) (hv : Lv[i0]? = some (i, zR b)) (kk : BD M md (pc + 1) P ks Lv (zR b :: st) σ ce sl) : BD M md pc P ks Lv st σ ce sl := by
  rintro ⟨p, l, e, R, s, m, args, below, meth, c, D, aC, A, Fin, ad0⟩ hm hf ad H locs ls hw
  obtain ⟨hx, hb, hml, hown, hts, hK, hA, hR, hao⟩ := id hf
  obtain ⟨hP, hD, hS, hG, hl⟩ := id hw
  exact lv_aload_n (x := ad b) hx hb hd hi (lv_at hl i0 (by rw [List.getElem?_map, hv]; rfl)) (kk _ hm hf ad H locs ls hw)
theorem bd_iload {k : Fin 4} {i i0 : Nat} {x : Int} (hd : decode M.1 pc = .ok (.iload_n k, 1)) (hi : (k : Nat) = i) (hv : Lv[i0]? = some (i, zI x)) (kk : BD M md (pc + 1) P ks Lv (zI x :: st) σ ce sl) : BD M md pc P ks Lv st σ ce sl := by
  rintro ⟨p, l, e, R, s, m, args, below, meth, c, D, aC, A, Fin, ad0⟩ hm hf ad H locs ls hw
  obtain ⟨hx, hb, hml, hown, hts, hK, hA, hR, hao⟩ := id hf
  obtain ⟨hP, hD, hS, hG, hl⟩ := id hw
  exact lv_iload_n hx hb hd hi (lv_at hl i0 (by rw [List.getElem?_map, hv]; rfl)) (kk _ hm hf ad H locs ls hw)
theorem bd_iconst {n : Int} (hd : decode M.1 pc = .ok (.iconst n, 1)) (kk : BD M md (pc + 1) P ks Lv (zI n :: st) σ ce sl) : BD M md pc P ks Lv st σ ce sl := by
  rintro ⟨p, l, e, R, s, m, args, below, meth, c, D, aC, A, Fin, ad0⟩ hm hf ad H locs ls hw
  obtain ⟨hx, hb, hml, hown, hts, hK, hA, hR, hao⟩ := id hf
  exact lv_iconst hx hb hd rfl (kk _ hm hf ad H locs ls hw)
theorem bd_bipush {n v : Int} (hd : decode M.1 pc = .ok (.bipush n, 2)) (hv : (Int8.ofInt n).toInt32 = Int32.ofInt v) (kk : BD M md (pc + 2) P ks Lv (zI v :: st) σ ce sl) : BD M md pc P ks Lv st σ ce sl := by
  rintro ⟨p, l, e, R, s, m, args, below, meth, c, D, aC, A, Fin, ad0⟩ hm hf ad H locs ls hw
  obtain ⟨hx, hb, hml, hown, hts, hK, hA, hR, hao⟩ := id hf
  exact lv_bipush hx hb hd hv (kk _ hm hf ad H locs ls hw)
theorem bd_sipush {n v : Int} (hd : decode M.1 pc = .ok (.sipush n, 3)) (hv : (Int16.ofInt n).toInt32 = Int32.ofInt v) (kk : BD M md (pc + 3) P ks Lv (zI v :: st) σ ce sl) : BD M md pc P ks Lv st σ ce sl := by
  rintro ⟨p, l, e, R, s, m, args, below, meth, c, D, aC, A, Fin, ad0⟩ hm hf ad H locs ls hw
  obtain ⟨hx, hb, hml, hown, hts, hK, hA, hR, hao⟩ := id hf
  exact lv_sipush hx hb hd hv (kk _ hm hf ad H locs ls hw)
theorem bd_dup {k : Nat} (hd : decode M.1 pc = .ok (.dup, 1)) (kk : BD M md (pc + 1) P ks Lv (zR k :: zR k :: st) σ ce sl) : BD M md pc P ks Lv (zR k :: st) σ ce sl := by
  rintro ⟨p, l, e, R, s, m, args, below, meth, c, D, aC, A, Fin, ad0⟩ hm hf ad H locs ls hw
  obtain ⟨hx, hb, hml, hown, hts, hK, hA, hR, hao⟩ := id hf
  exact lv_dup (va := .ref (ad k)) hx hb hd rfl (kk _ hm hf ad H locs ls hw)
theorem bd_goto {off : Int} {tgt : Nat} (hd : decode M.1 pc = .ok (.goto off, 3)) (ht : (pc : Int) + off = (tgt : Int)) (kk : BD M md tgt P ks Lv st σ ce sl) : BD M md pc P ks Lv st σ ce sl := by
  rintro ⟨p, l, e, R, s, m, args, below, meth, c, D, aC, A, Fin, ad0⟩ hm hf ad H locs ls hw
  obtain ⟨hx, hb, hml, hown, hts, hK, hA, hR, hao⟩ := id hf
  exact lv_goto hx hb hd ht (kk _ hm hf ad H locs ls hw)
theorem bd_geT {x y : Int} {off : Int} {tgt : Nat} (hd : decode M.1 pc = .ok (.if_icmp .ge off, 3)) (ht : (pc : Int) + off = (tgt : Int)) (h : Int32.ofInt y ≤ Int32.ofInt x) (kk : BD M md tgt P ks Lv st σ ce sl) : BD M md pc P ks Lv (zI y :: zI x :: st) σ ce sl := by
  rintro ⟨p, l, e, R, s, m, args, below, meth, c, D, aC, A, Fin, ad0⟩ hm hf ad H locs ls hw
  obtain ⟨hx, hb, hml, hown, hts, hK, hA, hR, hao⟩ := id hf
  exact lv_icmp_ge hx hb hd ht (fun _ => kk _ hm hf ad H locs ls hw) (fun q => absurd h q)
theorem bd_geF {x y : Int} {off : Int} {tgt : Nat} (hd : decode M.1 pc = .ok (.if_icmp .ge off, 3)) (ht : (pc : Int) + off = (tgt : Int)) (h : ¬ Int32.ofInt y ≤ Int32.ofInt x) (kk : BD M md (pc + 3) P ks Lv st σ ce sl) : BD M md pc P ks Lv (zI y :: zI x :: st) σ ce sl := by
  rintro ⟨p, l, e, R, s, m, args, below, meth, c, D, aC, A, Fin, ad0⟩ hm hf ad H locs ls hw
  obtain ⟨hx, hb, hml, hown, hts, hK, hA, hR, hao⟩ := id hf
  exact lv_icmp_ge hx hb hd ht (fun q => absurd q h) (fun _ => kk _ hm hf ad H locs ls hw)
def bd_fq (i : Nat) (q : Nat × Value) : Bool := !(q.1 == i) && !(q.1 + 1 == i && q.2.category == 2)
theorem bd_filt {ad : Nat → Nat} {i : Nat} : (Lv.map (fun q => (q.1, z_emb ad q.2))).filter (fun q => !(q.1 == i) && !(q.1 + 1 == i && q.2.category == 2)) = (Lv.filter (bd_fq i)).map (fun q => (q.1, z_emb ad q.2)) := by
  rw [List.filter_map]
  congr 1
  apply List.filter_congr
  intro q _
  show (!(q.1 == i) && !(q.1 + 1 == i && (z_emb ad q.2).category == 2)) = bd_fq i q
  rw [z_emb_cat]
  rfl
theorem bd_istore {k : Fin 4} {i : Nat} {x : Int} {Lv' : List (Nat × Value)} (hd : decode M.1 pc = .ok (.istore_n k, 1)) (hi : (k : Nat) = i) (hn : i < M.2.2.1) (hL : (i, zI x) :: Lv.filter (bd_fq i) = Lv') (kk : BD M md (pc + 1) P ks Lv' st σ ce sl) : BD M md pc P ks Lv (zI x :: st) σ ce sl := by
  rintro ⟨p, l, e, R, s, m, args, below, meth, c, D, aC, A, Fin, ad0⟩ hm hf ad H locs ls hw
  obtain ⟨hx, hb, hml, hown, hts, hK, hA, hR, hao⟩ := id hf
  obtain ⟨hP, hD, hS, hG, hl⟩ := id hw
  refine lv_istore_n (lv' := Lv'.map (fun q => (q.1, z_emb ad q.2))) hx hb hd hi hl hn ?_ (fun ls1 hl1 => kk _ hm hf ad H locs ls1 ⟨hP, hD, hS, hG, hl1⟩)
  rw [bd_filt, ← hL]
  rfl
theorem bd_astore {k : Fin 4} {i b : Nat} {Lv' : List (Nat × Value)} (hd : decode M.1 pc = .ok (.astore_n k, 1)) (hi : (k : Nat) = i) (hn : i < M.2.2.1) (hL : (i, zR b) :: Lv.filter (bd_fq i) = Lv') (kk : BD M md (pc + 1) P ks Lv' st σ ce sl) : BD M md pc P ks Lv (zR b :: st) σ ce sl := by
  rintro ⟨p, l, e, R, s, m, args, below, meth, c, D, aC, A, Fin, ad0⟩ hm hf ad H locs ls hw
  obtain ⟨hx, hb, hml, hown, hts, hK, hA, hR, hao⟩ := id hf
  obtain ⟨hP, hD, hS, hG, hl⟩ := id hw
  refine lv_astore_n (lv' := Lv'.map (fun q => (q.1, z_emb ad q.2))) hx hb hd hi hl hn ?_ (fun ls1 hl1 => kk _ hm hf ad H locs ls1 ⟨hP, hD, hS, hG, hl1⟩)
  rw [bd_filt, ← hL]
  rfl
theorem bd_iinc {i k : Nat} {n x : Int} {Lv' : List (Nat × Value)} (hd : decode M.1 pc = .ok (.iinc i n, 3)) (hk : Lv[k]? = some (i, zI x)) (hn : i < M.2.2.1) (hL : (i, zI (x + n)) :: Lv.filter (bd_fq i) = Lv') (kk : BD M md (pc + 3) P ks Lv' st σ ce sl) : BD M md pc P ks Lv st σ ce sl := by
  rintro ⟨p, l, e, R, s, m, args, below, meth, c, D, aC, A, Fin, ad0⟩ hm hf ad H locs ls hw
  obtain ⟨hx, hb, hml, hown, hts, hK, hA, hR, hao⟩ := id hf
  obtain ⟨hP, hD, hS, hG, hl⟩ := id hw
  refine lv_iinc (k := k) (x := Int32.ofInt x) (v := Int32.ofInt (x + n)) (lv' := Lv'.map (fun q => (q.1, z_emb ad q.2))) hx hb hd hl (by rw [List.getElem?_map, hk]; rfl) (Int32.ofInt_add x n).symm hn ?_ (fun ls1 hl1 => kk _ hm hf ad H locs ls1 ⟨hP, hD, hS, hG, hl1⟩)
  rw [bd_filt, ← hL]
  rfl
theorem bd_obj {idx b : Nat} (hd : decode M.1 pc = .ok (.invokespecial idx, 3)) (h1 : Cond.methodLink M.2.1 idx objectInit ∈ z_all) (h2 : Cond.instanceMethod objectInit ∈ z_all) (h3 : Cond.code objectInit ⟨#[0xb1]⟩ 1 none ∈ z_all) (hfr : 1 ≤ M.2.2.2.1) (hlo : (st.map fun v => v.category).sum + 12 ≤ M.2.2.2.2.1) (kk : BD M md (pc + 3) P ks Lv st σ ce sl) : BD M md pc P ks Lv (zR b :: st) σ ce sl := by
  rintro ⟨p, l, e, R, s, m, args, below, meth, c, D, aC, A, Fin, ad0⟩ hm hf ad H locs ls hw
  obtain ⟨hx, hb, hml, hown, hts, hK, hA, hR, hao⟩ := id hf
  obtain ⟨hP, hD, hS, hG, hl⟩ := id hw
  refine W.objInit hx hb hown (hts _ h1) (hts _ h2) (hts _ h3) (a := ad b) (rest := st.map (z_emb ad)) rfl (by rw [hml]; exact hl.1) rfl hd (Nat.le_trans hfr hR.1) ?_ (kk _ hm hf ad H locs ls hw)
  show 2 * 0 + _ + 12 ≤ R.locals
  rw [z_cats]
  have := hR.2.1
  omega
/-- new cells: the walk goes on with addresses for them -/
theorem bd_ext {p : Program} {l : Launch} {e : Env} {R : Room} {s : State} {m : MethodId} {args : Array Value} {below : List Frame} {meth : Method} {c : Code} {D : va_G} {aC : Nat → ClassId} {A : Nat → Prop} {Fin : State → Prop} {ad0 ad ad' : Nat → Nat} {H : Heap} {locs : List Loc} {ls : Array Slot} {kn : List Nat} {st2 : List Value} {ws : va_W}
    (hm : md (p, l, e, R, s, m, args, below, meth, c, D, aC, A, Fin, ad0)) (hf : bd_Fit M (p, l, e, R, s, m, args, below, meth, c, D, aC, A, Fin, ad0)) (hag : ∀ j ∈ bd_kn P ks M.2.2.2.2.2.2.2 Lv st, ad j = ad' j) (hP : va_P D vwCl (bd_w ad aC σ P ks) H) (hPn : ∀ k ∈ kn, va_at D vwCl (ad' k, bd_ent ad' aC (σ k) (bd_pn P' k) (z_lay k)) H) (hpp : ∀ k ∈ ks, bd_pn P' k = bd_pn P k)
    (hD : va_D A ws) (hDe : (ks ++ kn).map ad' = ws.map Prod.fst) (hS : va_S A s.heap H locs) (hG : ∀ k ∈ M.2.2.2.2.2.2.2, ad k = ad0 k) (hl : lv_has ls M.2.2.1 (Lv.map (fun q => (q.1, z_emb ad q.2))))
    (kk : BD M md pc P' (ks ++ kn) Lv (st2 ++ st) σ ce sl) : W p l e R s m args below meth c H locs ce sl Fin (F0 m pc ls (st2.map (z_emb ad') ++ st.map (z_emb ad))) := by
  have k2 : W p l e R s m args below meth c H locs ce sl Fin (F0 m pc ls ((st2 ++ st).map (z_emb ad'))) := by
    refine kk (p, l, e, R, s, m, args, below, meth, c, D, aC, A, Fin, ad0) hm hf ad' H locs ls ⟨?_, ?_, hS, ?_, ?_⟩
    · refine bd_Pw.mpr (fun k hk => ?_)
      rcases List.mem_append.mp hk with h | h
      · rw [hpp k h, ← hag k (bd_knK h)]
        exact bd_at_cg (fun r hr => hag r (bd_knR h hr)) (bd_Pw.mp hP k h)
      · exact hPn k h
    · exact bd_Dof (by rw [bd_fst]; exact hDe) hD
    · exact fun k hk => (hag k (bd_knG hk)).symm.trans (hG k hk)
    · rw [← bd_embL (ad := ad) (fun r hr => hag r (bd_knL hr))]
      exact hl
  rw [List.map_append, ← bd_embs (st := st) (ad := ad) (fun r hr => hag r (bd_knS hr))] at k2
  exact k2
def bd_ty (t : Nat) (ty : FieldType) : Prop := (∀ aC : Nat → ClassId, (z_tys aC)[t]? = some (aC t, ty)) ∧ (∀ (U : State) (c : ClassId), va_RA U c ty = (U.vm.findClass ("[" ++ ty.toString) = some c)) ∧ (∀ (c : ClassId) (n : Nat), vp_cell c (n, z_arr (fun _ => 0) (fun _ => 0) t (fun _ => 0)) = arrV c n (fun _ => defaultValue ty)) ∧ componentBytes ty ≤ 8 ∧ t < 5
theorem bd_ty0 : bd_ty 0 .int := ⟨fun _ => rfl, fun _ _ => rfl, fun _ _ => rfl, by decide, by decide⟩
theorem bd_ty1 : bd_ty 1 .byte := ⟨fun _ => rfl, fun _ _ => rfl, fun _ _ => rfl, by decide, by decide⟩
theorem bd_ty2 : bd_ty 2 .short := ⟨fun _ => rfl, fun _ _ => rfl, fun _ _ => rfl, by decide, by decide⟩
theorem bd_ty3 : bd_ty 3 .boolean := ⟨fun _ => rfl, fun _ _ => rfl, fun _ _ => rfl, by decide, by decide⟩
theorem bd_ty4 : bd_ty 4 .long := ⟨fun _ => rfl, fun _ _ => rfl, fun _ _ => rfl, by decide, by decide⟩
theorem bd_arr {t : Nat} (ht : t < 5) {ad : Nat → Nat} {f : Nat → Int} {r : Nat → Nat} (ad' : Nat → Nat) (r' : Nat → Nat) : z_arr ad f t r = z_arr ad' f t r' := by
  have a1 : ¬ 5 ≤ t := by omega
  unfold z_arr
  rw [if_neg a1, if_neg a1]
theorem bd_n {n : Nat} (h : n ≤ 2000) : ¬ Int32.ofInt (n : Int) < 0 ∧ (Int32.ofInt (n : Int)).toNatClampNeg = n := by
  have hi : (Int32.ofInt (n : Int)).toInt = n := z_toInt ⟨by omega, by omega⟩
  refine ⟨?_, ?_⟩
  · rw [Int32.lt_iff_toInt_lt, hi]
    have : (0 : Int32).toInt = 0 := rfl
    omega
  · show (Int32.ofInt (n : Int)).toInt.toNat = n
    rw [hi]
    rfl
theorem bd_newa {at' : ArrayType} {ty : FieldType} {k t n : Nat} {r : Nat → Nat} {z : Int} (hd : decode M.1 pc = .ok (.newarray at', 2)) (hw : Cond.arrayClass ty ∈ z_all) (hty : newarray.typeOf at' = ty) (ht : bd_ty t ty) (hk : z_lay k = .inr (t, n, r)) (hnc : k < z_NC) (hzn : z = (n : Int)) (hz : ∀ j, σ k j = 0) (hfr : k ∉ bd_kn P ks M.2.2.2.2.2.2.2 Lv st) (hc : ce + 1 ≤ M.2.2.2.2.2.1) (hs : sl + n ≤ M.2.2.2.2.2.2.1)
    (kk : BD M md (pc + 2) P (ks ++ [k]) Lv (zR k :: st) σ (ce + 1) (sl + n)) : BD M md pc P ks Lv (zI z :: st) σ ce sl := by
  rintro ⟨p, l, e, R, s, m, args, below, meth, c, D, aC, A, Fin, ad0⟩ hm hf ad H locs ls hw0
  obtain ⟨hx, hb, hml, hown, hts, hK, hA, hR, hao⟩ := id hf
  obtain ⟨hP, hD, hS, hG, hl⟩ := id hw0
  subst hty
  subst hzn
  obtain ⟨t1, t2, t3, t4, t5⟩ := ht
  have hn2 : n ≤ 2000 := z_sm hk hnc
  have hσ : σ k = fun _ => 0 := funext hz
  obtain ⟨b1, b2⟩ := bd_n hn2
  have hcell : ∀ cA : ClassId, vp_cell cA (n, z_arr ad (σ k) t r) = arrV cA n (fun _ => defaultValue (newarray.typeOf at')) := fun cA => by
    rw [hσ, bd_arr t5 (fun _ => 0) (fun _ => 0)]
    exact t3 cA n
  have hby : n * componentBytes (newarray.typeOf at') ≤ 536870912 := Nat.le_trans (Nat.mul_le_mul hn2 t4) (by decide)
  have hc1 : ce + 1 ≤ R.cells := Nat.le_trans hc hR.2.2.1
  have hs1 : sl + n ≤ R.slots := Nat.le_trans hs hR.2.2.2
  refine va_newa (a0 := (n, z_arr ad (σ k) t r)) (n := Int32.ofInt (n : Int)) (rest := st.map (z_emb ad)) hx hb (hts _ hw) rfl hK hP hD hS hA hcell b1 b2 hby hc1 hs1 hd (fun q cA H1 hK1 hP1 hD1 hS1 => ?_)
  have hcA : cA = aC t := by
    have h1 := (hK1.2 7 (cA, newarray.typeOf at') rfl).2
    have h2 := (hK.2 t _ (t1 aC)).2
    rw [t2] at h1 h2
    exact Option.some.inj (h1.symm.trans h2)
  subst hcA
  obtain ⟨ad', ea, hag⟩ : ∃ ad' : Nat → Nat, ad' k = q ∧ ∀ j ∈ bd_kn P ks M.2.2.2.2.2.2.2 Lv st, ad j = ad' j := by
    refine ⟨fun j => if j = k then q else ad j, if_pos rfl, fun j hj => ?_⟩
    have hne : ¬ j = k := fun h => hfr (h ▸ hj)
    exact (if_neg hne).symm
  have k3 := bd_ext (P' := P) (kn := [k]) (st2 := [zR k]) (ad := ad) (ad' := ad') hm hf hag (bd_Pm.mpr fun w hw => bd_Pm.mp hP1 w (List.mem_append_left _ hw)) (fun k' hk' => by
    have h9 := bd_Pm.mp hP1 (q, .inl (aC t, n, z_arr ad (σ k) t r)) (List.mem_append_right _ (List.mem_singleton.mpr rfl))
    rw [List.mem_singleton.mp hk', ea, hk]
    show va_at D vwCl (q, .inl (aC t, n, z_arr ad' (σ k) t r)) H1
    rw [bd_arr t5 ad r]
    exact h9) (fun _ _ => rfl) hD1 (by
    rw [List.map_append, List.map_append, bd_fst]
    congr 1
    · exact List.map_congr_left (fun j hj => (hag j (bd_knK hj)).symm)
    · show [ad' k] = [q]
      rw [ea]) hS1 hG hl kk
  have e9 : [zR k].map (z_emb ad') ++ st.map (z_emb ad) = .ref q :: st.map (z_emb ad) := by
    show Value.ref (ad' k) :: _ = _
    rw [ea]
    rfl
  rw [e9] at k3
  exact k3
end BD2
