/-! ===== constructors: the world of some cells; an object's references are null from a place on ===== -/
def bd_fl (ad : Nat → Nat) (f : Nat → Int) (n : Nat) : Nat → List (Option Nat) → List Value
  | _, [] => []
  | j, none :: l => .int (Int32.ofInt (f j)) :: bd_fl ad f n (j + 1) l
  | j, some k :: l => (if j < n then .ref (ad k) else .null) :: bd_fl ad f n (j + 1) l
def bd_ent (ad : Nat → Nat) (aC : Nat → ClassId) (f : Nat → Int) (n : Nat) (q : z_L) : va_E := match q with
  | .inl o => .inr (o.1, bd_fl ad f n 0 o.2)
  | .inr a => .inl (aC a.1, a.2.1, z_arr ad f a.1 a.2.2)
def bd_pn : List (Nat × Nat) → Nat → Nat
  | [], _ => 1000
  | q :: l, k => if q.1 = k then q.2 else bd_pn l k
def bd_w (ad : Nat → Nat) (aC : Nat → ClassId) (σ : Sto) (P : List (Nat × Nat)) (ks : List Nat) : va_W := ks.map (fun k => (ad k, bd_ent ad aC (σ k) (bd_pn P k) (z_lay k)))
def bd_rf (n : Nat) : Nat → List (Option Nat) → List Nat
  | _, [] => []
  | j, none :: l => bd_rf n (j + 1) l
  | j, some k :: l => if j < n then k :: bd_rf n (j + 1) l else bd_rf n (j + 1) l
def bd_refs (n : Nat) (q : z_L) : List Nat := match q with
  | .inl o => bd_rf n 0 o.2
  | .inr a => if 5 ≤ a.1 then (List.range a.2.1).map a.2.2 else []
def bd_vr (v : Value) : List Nat := match v with
  | .ref k => [k]
  | _ => []
/-- the cells that a point of the walk speaks of -/
def bd_kn (P : List (Nat × Nat)) (ks G : List Nat) (Lv : List (Nat × Value)) (st : List Value) : List Nat := ks ++ (ks.flatMap (fun k => bd_refs (bd_pn P k) (z_lay k)) ++ (G ++ ((Lv.map Prod.snd).flatMap bd_vr ++ st.flatMap bd_vr)))
def bd_dn : Nat → Nat → List (Option Nat) → Bool
  | _, _, [] => true
  | n, j, none :: l => bd_dn n (j + 1) l
  | n, j, some _ :: l => decide (j < n) && (decide (j < 1000) && bd_dn n (j + 1) l)
def bd_done (n : Nat) (q : z_L) : Bool := match q with
  | .inl o => bd_dn n 0 o.2
  | .inr _ => true
theorem bd_fl_lo {ad : Nat → Nat} {f : Nat → Int} {n n' : Nat} : ∀ (l : List (Option Nat)) (o : Nat), n ≤ o → n' ≤ o → bd_fl ad f n o l = bd_fl ad f n' o l
  | [], _, _, _ => rfl
  | none :: l, o, h1, h2 => by
    show Value.int (Int32.ofInt (f o)) :: bd_fl ad f n (o + 1) l = Value.int (Int32.ofInt (f o)) :: bd_fl ad f n' (o + 1) l
    rw [bd_fl_lo (n := n) (n' := n') l (o + 1) (by omega) (by omega)]
  | some k :: l, o, h1, h2 => by
    show (if o < n then Value.ref (ad k) else .null) :: bd_fl ad f n (o + 1) l = (if o < n' then Value.ref (ad k) else .null) :: bd_fl ad f n' (o + 1) l
    have a1 : ¬ o < n := by omega
    have a2 : ¬ o < n' := by omega
    rw [if_neg a1, if_neg a2, bd_fl_lo (n := n) (n' := n') l (o + 1) (by omega) (by omega)]
theorem bd_fl_cg {ad ad' : Nat → Nat} {f : Nat → Int} {n : Nat} : ∀ (l : List (Option Nat)) (o : Nat), (∀ r ∈ bd_rf n o l, ad r = ad' r) → bd_fl ad f n o l = bd_fl ad' f n o l
  | [], _, _ => rfl
  | none :: l, o, h => by
    show Value.int (Int32.ofInt (f o)) :: bd_fl ad f n (o + 1) l = Value.int (Int32.ofInt (f o)) :: bd_fl ad' f n (o + 1) l
    rw [bd_fl_cg l (o + 1) h]
  | some k :: l, o, h => by
    have e : bd_rf n o (some k :: l) = if o < n then k :: bd_rf n (o + 1) l else bd_rf n (o + 1) l := rfl
    rw [e] at h
    show (if o < n then Value.ref (ad k) else .null) :: bd_fl ad f n (o + 1) l = (if o < n then Value.ref (ad' k) else .null) :: bd_fl ad' f n (o + 1) l
    by_cases ho : o < n
    · rw [if_pos ho] at h
      rw [if_pos ho, if_pos ho, h k List.mem_cons_self, bd_fl_cg l (o + 1) (fun r hr => h r (List.mem_cons_of_mem _ hr))]
    · rw [if_neg ho] at h
      rw [if_neg ho, if_neg ho, bd_fl_cg l (o + 1) h]
theorem bd_fl_dn {ad : Nat → Nat} {f : Nat → Int} {n : Nat} : ∀ (l : List (Option Nat)) (o : Nat), bd_dn n o l = true → bd_fl ad f n o l = bd_fl ad f 1000 o l
  | [], _, _ => rfl
  | none :: l, o, h => by
    show Value.int (Int32.ofInt (f o)) :: bd_fl ad f n (o + 1) l = Value.int (Int32.ofInt (f o)) :: bd_fl ad f 1000 (o + 1) l
    rw [bd_fl_dn l (o + 1) h]
  | some k :: l, o, h => by
    have e : (decide (o < n) && (decide (o < 1000) && bd_dn n (o + 1) l)) = true := h
    rw [Bool.and_eq_true, Bool.and_eq_true, decide_eq_true_eq, decide_eq_true_eq] at e
    show (if o < n then Value.ref (ad k) else .null) :: bd_fl ad f n (o + 1) l = (if o < 1000 then Value.ref (ad k) else .null) :: bd_fl ad f 1000 (o + 1) l
    rw [if_pos e.1, if_pos e.2.1, bd_fl_dn l (o + 1) e.2.2]
theorem bd_fl_z {ad : Nat → Nat} {f : Nat → Int} : ∀ (l : List (Option Nat)) (o : Nat), o + l.length ≤ 1000 → bd_fl ad f 1000 o l = z_flds ad f o l
  | [], _, _ => rfl
  | none :: l, o, h => by
    show Value.int (Int32.ofInt (f o)) :: bd_fl ad f 1000 (o + 1) l = Value.int (Int32.ofInt (f o)) :: z_flds ad f (o + 1) l
    rw [bd_fl_z l (o + 1) (by rw [List.length_cons] at h; omega)]
  | some k :: l, o, h => by
    rw [List.length_cons] at h
    show (if o < 1000 then Value.ref (ad k) else .null) :: bd_fl ad f 1000 (o + 1) l = Value.ref (ad k) :: z_flds ad f (o + 1) l
    have a1 : o < 1000 := by omega
    rw [if_pos a1, bd_fl_z l (o + 1) (by omega)]
theorem bd_fl_set {ad : Nat → Nat} {f : Nat → Int} {b : Nat} : ∀ (l : List (Option Nat)) (n o j : Nat), l[j]? = some (some b) → n ≤ o + j → (∀ i, n ≤ o + i → i < j → l[i]? = some none) → (bd_fl ad f n o l).set j (.ref (ad b)) = bd_fl ad f (o + j + 1) o l
  | [], _, _, j, h, _, _ => by simp at h
  | none :: l, n, o, 0, h, _, _ => by simp at h
  | some k :: l, n, o, 0, h, h1, _ => by
    have hk : k = b := by simpa using h
    subst hk
    show Value.ref (ad k) :: bd_fl ad f n (o + 1) l = (if o < o + 0 + 1 then Value.ref (ad k) else .null) :: bd_fl ad f (o + 0 + 1) (o + 1) l
    have a1 : o < o + 0 + 1 := by omega
    rw [if_pos a1, bd_fl_lo l (o + 1) (n := n) (n' := o + 0 + 1) (by omega) (by omega)]
  | none :: l, n, o, j + 1, h, h1, h2 => by
    have ih := bd_fl_set (ad := ad) (f := f) l n (o + 1) j (by simpa using h) (by omega) (fun i a1 a2 => by
      have := h2 (i + 1) (by omega) (by omega)
      simpa using this)
    show Value.int (Int32.ofInt (f o)) :: (bd_fl ad f n (o + 1) l).set j (.ref (ad b)) = Value.int (Int32.ofInt (f o)) :: bd_fl ad f (o + (j + 1) + 1) (o + 1) l
    rw [ih, show o + 1 + j + 1 = o + (j + 1) + 1 by omega]
  | some k :: l, n, o, j + 1, h, h1, h2 => by
    have ih := bd_fl_set (ad := ad) (f := f) l n (o + 1) j (by simpa using h) (by omega) (fun i a1 a2 => by
      have := h2 (i + 1) (by omega) (by omega)
      simpa using this)
    have hon : o < n := by
      rcases Nat.lt_or_ge o n with q | q
      · exact q
      · have := h2 0 (by omega) (by omega)
        simp at this
    show (if o < n then Value.ref (ad k) else .null) :: (bd_fl ad f n (o + 1) l).set j (.ref (ad b)) = (if o < o + (j + 1) + 1 then Value.ref (ad k) else .null) :: bd_fl ad f (o + (j + 1) + 1) (o + 1) l
    have a1 : o < o + (j + 1) + 1 := by omega
    rw [ih, show o + 1 + j + 1 = o + (j + 1) + 1 by omega, if_pos hon, if_pos a1]
theorem bd_fl_seti {ad : Nat → Nat} {f : Nat → Int} {n : Nat} {x : Int} : ∀ (l : List (Option Nat)) (o j : Nat), l[j]? = some none → (bd_fl ad f n o l).set j (.int (Int32.ofInt x)) = bd_fl ad (fun b => if b = o + j then x else f b) n o l
  | [], _, j, h => by simp at h
  | some k :: l, o, 0, h => by simp at h
  | none :: l, o, 0, h => by
    show Value.int (Int32.ofInt x) :: bd_fl ad f n (o + 1) l = Value.int (Int32.ofInt (if o = o + 0 then x else f o)) :: bd_fl ad (fun b => if b = o + 0 then x else f b) n (o + 1) l
    rw [if_pos (Nat.add_zero o).symm]
    have h9 : ∀ (l : List (Option Nat)) (q : Nat), o < q → bd_fl ad f n q l = bd_fl ad (fun b => if b = o + 0 then x else f b) n q l := by
      intro l
      induction l with
      | nil => intro q _; rfl
      | cons a l ih =>
        intro q hq
        cases a with
        | none =>
          show Value.int (Int32.ofInt (f q)) :: bd_fl ad f n (q + 1) l = Value.int (Int32.ofInt (if q = o + 0 then x else f q)) :: bd_fl ad (fun b => if b = o + 0 then x else f b) n (q + 1) l
          have a1 : ¬ q = o + 0 := by omega
          rw [if_neg a1, ih (q + 1) (by omega)]
        | some k =>
          show (if q < n then Value.ref (ad k) else .null) :: bd_fl ad f n (q + 1) l = (if q < n then Value.ref (ad k) else .null) :: bd_fl ad (fun b => if b = o + 0 then x else f b) n (q + 1) l
          rw [ih (q + 1) (by omega)]
    rw [h9 l (o + 1) (by omega)]
  | none :: l, o, j + 1, h => by
    have ih := bd_fl_seti (ad := ad) (f := f) (n := n) (x := x) l (o + 1) j (by simpa using h)
    show Value.int (Int32.ofInt (f o)) :: (bd_fl ad f n (o + 1) l).set j (.int (Int32.ofInt x)) = Value.int (Int32.ofInt (if o = o + (j + 1) then x else f o)) :: bd_fl ad (fun b => if b = o + (j + 1) then x else f b) n (o + 1) l
    have a1 : ¬ o = o + (j + 1) := by omega
    rw [ih, if_neg a1, show o + 1 + j = o + (j + 1) by omega]
  | some k :: l, o, j + 1, h => by
    have ih := bd_fl_seti (ad := ad) (f := f) (n := n) (x := x) l (o + 1) j (by simpa using h)
    show (if o < n then Value.ref (ad k) else .null) :: (bd_fl ad f n (o + 1) l).set j (.int (Int32.ofInt x)) = (if o < n then Value.ref (ad k) else .null) :: bd_fl ad (fun b => if b = o + (j + 1) then x else f b) n (o + 1) l
    rw [ih, show o + 1 + j = o + (j + 1) by omega]
theorem bd_fl_R {ad : Nat → Nat} {f : Nat → Int} {n b : Nat} : ∀ (l : List (Option Nat)) (o j : Nat), l[j]? = some (some b) → o + j < n → (bd_fl ad f n o l)[j]? = some (.ref (ad b))
  | [], _, j, h, _ => by simp at h
  | none :: l, o, 0, h, _ => by simp at h
  | some k :: l, o, 0, h, h1 => by
    have hk : k = b := by simpa using h
    subst hk
    show some (if o < n then Value.ref (ad k) else .null) = _
    have a1 : o < n := by omega
    rw [if_pos a1]
  | none :: l, o, j + 1, h, h1 => by
    show (bd_fl ad f n (o + 1) l)[j]? = _
    exact bd_fl_R l (o + 1) j (by simpa using h) (by omega)
  | some k :: l, o, j + 1, h, h1 => by
    show (bd_fl ad f n (o + 1) l)[j]? = _
    exact bd_fl_R l (o + 1) j (by simpa using h) (by omega)
theorem bd_fl_len {ad : Nat → Nat} {f : Nat → Int} {n : Nat} : ∀ (l : List (Option Nat)) (o : Nat), (bd_fl ad f n o l).length = l.length
  | [], _ => rfl
  | none :: l, o => by
    show (bd_fl ad f n (o + 1) l).length + 1 = l.length + 1
    rw [bd_fl_len l (o + 1)]
  | some k :: l, o => by
    show (bd_fl ad f n (o + 1) l).length + 1 = l.length + 1
    rw [bd_fl_len l (o + 1)]
def bd_nl (l : List (Option Nat)) : List Value := l.map (fun q => match q with | none => .int 0 | some _ => .null)
theorem bd_fl_0 {ad : Nat → Nat} : ∀ (l : List (Option Nat)) (o : Nat), bd_fl ad (fun _ => 0) 0 o l = bd_nl l
  | [], _ => rfl
  | none :: l, o => by
    show Value.int (Int32.ofInt 0) :: bd_fl ad (fun _ => 0) 0 (o + 1) l = _
    rw [bd_fl_0 l (o + 1)]
    rfl
  | some k :: l, o => by
    show (if o < 0 then Value.ref (ad k) else .null) :: bd_fl ad (fun _ => 0) 0 (o + 1) l = _
    rw [if_neg (Nat.not_lt_zero o), bd_fl_0 l (o + 1)]
    rfl
/-! worlds -/
section BD1
variable {D : va_G} {H : Heap} {ad ad' : Nat → Nat} {aC : Nat → ClassId} {σ σ' : Sto} {P P' : List (Nat × Nat)} {ks ks' : List Nat} {A : Nat → Prop}
theorem bd_Pm {cl : List vw_C} {ws : va_W} : va_P D cl ws H ↔ ∀ q ∈ ws, va_at D cl q H := ⟨fun h q hq => by obtain ⟨k, hk⟩ := List.getElem?_of_mem hq; exact h k q hk, fun h k q hk => h q (List.mem_of_getElem? hk)⟩
theorem bd_Pw : va_P D vwCl (bd_w ad aC σ P ks) H ↔ ∀ k ∈ ks, va_at D vwCl (ad k, bd_ent ad aC (σ k) (bd_pn P k) (z_lay k)) H :=
  ⟨fun h k hk => bd_Pm.mp h _ (List.mem_map.mpr ⟨k, hk, rfl⟩), fun h => bd_Pm.mpr (fun q hq => by obtain ⟨k, hk, rfl⟩ := List.mem_map.mp hq; exact h k hk)⟩
theorem bd_fst : (bd_w ad aC σ P ks).map Prod.fst = ks.map ad := by
  unfold bd_w
  rw [List.map_map]
  rfl
theorem bd_get {i k : Nat} (h : ks[i]? = some k) : (bd_w ad aC σ P ks)[i]? = some (ad k, bd_ent ad aC (σ k) (bd_pn P k) (z_lay k)) := by
  unfold bd_w
  rw [List.getElem?_map, h]
  rfl
theorem bd_Dof {ws ws' : va_W} (e : ws'.map Prod.fst = ws.map Prod.fst) (h : va_D A ws) : va_D A ws' := by
  have g : ∀ (k : Nat) (q : Nat × va_E), ws'[k]? = some q → ∃ q', ws[k]? = some q' ∧ q'.1 = q.1 := fun k q hq => by
    have h1 : (ws'.map Prod.fst)[k]? = some q.1 := by rw [List.getElem?_map, hq]; rfl
    rw [e, List.getElem?_map] at h1
    cases h2 : ws[k]? with
    | none => rw [h2] at h1; cases h1
    | some q' => rw [h2] at h1; exact ⟨q', rfl, Option.some.inj h1⟩
  refine ⟨fun i j p q hi hj hpq => ?_, fun k q hk => ?_⟩
  · obtain ⟨p', e1, e2⟩ := g i p hi
    obtain ⟨q', e3, e4⟩ := g j q hj
    exact h.1 i j p' q' e1 e3 (by rw [e2, e4]; exact hpq)
  · obtain ⟨q', e1, e2⟩ := g k q hk
    rw [← e2]
    exact h.2 k q' e1
theorem bd_at_cg {f : Nat → Int} {n a : Nat} {q : z_L} (hr : ∀ r ∈ bd_refs n q, ad r = ad' r) (h : va_at D vwCl (a, bd_ent ad aC f n q) H) : va_at D vwCl (a, bd_ent ad' aC f n q) H := by
  rcases q with o | ⟨t, N, r⟩
  · have e : bd_ent ad aC f n (.inl o) = bd_ent ad' aC f n (.inl o) := by
      show (Sum.inr (o.1, bd_fl ad f n 0 o.2) : va_E) = Sum.inr (o.1, bd_fl ad' f n 0 o.2)
      rw [bd_fl_cg o.2 0 hr]
    rw [← e]
    exact h
  · by_cases h5 : 5 ≤ t
    · have hr' : ∀ j, j < N → ad (r j) = ad' (r j) := fun j hj => hr _ (by
        show r j ∈ (if 5 ≤ t then (List.range N).map r else [])
        rw [if_pos h5]
        exact List.mem_map.mpr ⟨j, List.mem_range.mpr hj, rfl⟩)
      have n4 : ¬ t = 4 := by omega
      have e : ∀ ad : Nat → Nat, z_arr ad f t r = .inr (.inr (.inr (.inr (fun j => some (ad (r j)))))) := fun ad => by
        unfold z_arr
        rw [if_neg n4, if_pos h5]
      have h' : H[a]? = some (vp_cell (aC t) (N, z_arr ad f t r)) := h
      show H[a]? = some (vp_cell (aC t) (N, z_arr ad' f t r))
      rw [h', e, e, vp_cell_q, vp_cell_q]
      exact congrArg some (arrV_cg _ _ (fun j hj => by rw [hr' j hj]))
    · have e : z_arr ad f t r = z_arr ad' f t r := by
        unfold z_arr
        rw [if_neg h5, if_neg h5]
      show H[a]? = some (vp_cell (aC t) (N, z_arr ad' f t r))
      rw [← e]
      exact h
theorem bd_emb {v : Value} (h : ∀ r ∈ bd_vr v, ad r = ad' r) : z_emb ad v = z_emb ad' v := by
  cases v with
  | ref k =>
    show Value.ref (ad k) = .ref (ad' k)
    rw [h k (List.mem_singleton.mpr rfl)]
  | _ => rfl
theorem bd_embs {st : List Value} (h : ∀ r ∈ st.flatMap bd_vr, ad r = ad' r) : st.map (z_emb ad) = st.map (z_emb ad') := List.map_congr_left (fun v hv => bd_emb (fun r hr => h r (List.mem_flatMap.mpr ⟨v, hv, hr⟩)))
theorem bd_embL {Lv : List (Nat × Value)} (h : ∀ r ∈ (Lv.map Prod.snd).flatMap bd_vr, ad r = ad' r) : Lv.map (fun q => (q.1, z_emb ad q.2)) = Lv.map (fun q => (q.1, z_emb ad' q.2)) := List.map_congr_left (fun q hq => by
  rw [bd_emb (fun r hr => h r (List.mem_flatMap.mpr ⟨q.2, List.mem_map.mpr ⟨q, hq, rfl⟩, hr⟩))])
theorem bd_dnE {f : Nat → Int} {n : Nat} {q : z_L} (h : bd_done n q = true) : bd_ent ad aC f n q = bd_ent ad aC f 1000 q := by
  rcases q with o | a
  · show (Sum.inr (o.1, bd_fl ad f n 0 o.2) : va_E) = Sum.inr (o.1, bd_fl ad f 1000 0 o.2)
    rw [bd_fl_dn o.2 0 h]
  · rfl
theorem bd_wdn (h : ∀ k ∈ ks, bd_done (bd_pn P k) (z_lay k) = true) : bd_w ad aC σ P ks = bd_w ad aC σ [] ks := by
  unfold bd_w
  exact List.map_congr_left (fun k hk => by rw [bd_dnE (h k hk)]; rfl)
end BD1
theorem bd_knK {P : List (Nat × Nat)} {ks G : List Nat} {Lv : List (Nat × Value)} {st : List Value} {k : Nat} (h : k ∈ ks) : k ∈ bd_kn P ks G Lv st := List.mem_append_left _ h
theorem bd_knR {P : List (Nat × Nat)} {ks G : List Nat} {Lv : List (Nat × Value)} {st : List Value} {k r : Nat} (h : k ∈ ks) (hr : r ∈ bd_refs (bd_pn P k) (z_lay k)) : r ∈ bd_kn P ks G Lv st := List.mem_append_right _ (List.mem_append_left _ (List.mem_flatMap.mpr ⟨k, h, hr⟩))
theorem bd_knG {P : List (Nat × Nat)} {ks G : List Nat} {Lv : List (Nat × Value)} {st : List Value} {k : Nat} (h : k ∈ G) : k ∈ bd_kn P ks G Lv st := List.mem_append_right _ (List.mem_append_right _ (List.mem_append_left _ h))
theorem bd_knL {P : List (Nat × Nat)} {ks G : List Nat} {Lv : List (Nat × Value)} {st : List Value} {k : Nat} (h : k ∈ (Lv.map Prod.snd).flatMap bd_vr) : k ∈ bd_kn P ks G Lv st := List.mem_append_right _ (List.mem_append_right _ (List.mem_append_right _ (List.mem_append_left _ h)))
theorem bd_knS {P : List (Nat × Nat)} {ks G : List Nat} {Lv : List (Nat × Value)} {st : List Value} {k : Nat} (h : k ∈ st.flatMap bd_vr) : k ∈ bd_kn P ks G Lv st := List.mem_append_right _ (List.mem_append_right _ (List.mem_append_right _ (List.mem_append_right _ h)))
/-! the judgement -/
def bd_ao (U : State) : Prop := (Cond.arrayOver (.array .int)).before #[] U = true ∧ (Cond.arrayOver (.array .long)).before #[] U = true
theorem bd_ao.moved {u U : State} (hvm : u.vm.Alike U.vm) (h : bd_ao u) : bd_ao U := ⟨Jvm.Stand.arrayOver_alikeB hvm h.1, Jvm.Stand.arrayOver_alikeB hvm h.2⟩
theorem bd_ao.use {u : State} {ty : FieldType} (h : bd_ao u) (ht : ty = .int ∨ ty = .long) (args : Array Value) : (Cond.arrayOver (.array ty)).before args u = true := by
  rcases ht with rfl | rfl
  · exact Jvm.Stand.arrayOver_alikeB (Vm.Alike.refl u.vm) h.1
  · exact Jvm.Stand.arrayOver_alikeB (Vm.Alike.refl u.vm) h.2
abbrev bd_X : Type := Program × Launch × Env × Room × State × MethodId × Array Value × List Frame × Method × Code × va_G × (Nat → ClassId) × (Nat → Prop) × (State → Prop) × (Nat → Nat)
/-- code, class, locals, frames, room of locals, cells, slots, cells known from without -/
abbrev bd_M : Type := ByteArray × String × Nat × Nat × Nat × Nat × Nat × List Nat
def bd_Fit (M : bd_M) (x : bd_X) : Prop := match x with
  | (p, _, _, R, s, m, args, _, _, c, D, aC, A, _, _) => p.tables.exec = Jvm.exec ∧ c.code = M.1 ∧ c.maxLocals = M.2.2.1 ∧ s.vm.findClass M.2.1 = some m.cls ∧ (∀ w ∈ z_all, w.before args s = true) ∧ va_K D vwCl (z_tys aC) s ∧ (∀ q, s.heap.size ≤ q → A q) ∧ (M.2.2.2.1 ≤ R.frames ∧ M.2.2.2.2.1 ≤ R.locals ∧ M.2.2.2.2.2.1 ≤ R.cells ∧ M.2.2.2.2.2.2.1 ≤ R.slots) ∧ bd_ao s
def bd_HW (M : bd_M) (x : bd_X) (P : List (Nat × Nat)) (ks : List Nat) (Lv : List (Nat × Value)) (σ : Sto) (ad : Nat → Nat) (H : Heap) (locs : List Loc) (ls : Array Slot) : Prop := match x with
  | (_, _, _, _, s, _, _, _, _, _, D, aC, A, _, ad0) => va_P D vwCl (bd_w ad aC σ P ks) H ∧ va_D A (bd_w ad aC σ P ks) ∧ va_S A s.heap H locs ∧ (∀ k ∈ M.2.2.2.2.2.2.2, ad k = ad0 k) ∧ lv_has ls M.2.2.1 (Lv.map (fun q => (q.1, z_emb ad q.2)))
def bd_go (x : bd_X) (ad : Nat → Nat) (H : Heap) (locs : List Loc) (pc : Nat) (ls : Array Slot) (st : List Value) (ce sl : Nat) : Prop := match x with
  | (p, l, e, R, s, m, args, below, meth, c, _, _, _, Fin, _) => W p l e R s m args below meth c H locs ce sl Fin (F0 m pc ls (st.map (z_emb ad)))
def BD (M : bd_M) (md : bd_X → Prop) (pc : Nat) (P : List (Nat × Nat)) (ks : List Nat) (Lv : List (Nat × Value)) (st : List Value) (σ : Sto) (ce sl : Nat) : Prop :=
  ∀ x : bd_X, md x → bd_Fit M x → ∀ (ad : Nat → Nat) (H : Heap) (locs : List Loc) (ls : Array Slot), bd_HW M x P ks Lv σ ad H locs ls → bd_go x ad H locs pc ls st ce sl
