/-! ===== values, the store, the world of all cells ===== -/
def zI (z : Int) : Value := .int (Int32.ofInt z)
def zJ (z : Int) : Value := .long (Int64.ofInt z)
def zR (k : Nat) : Value := .ref k
def z_emb (adr : Nat → Nat) (v : Value) : Value := match v with
  | .ref k => .ref (adr k)
  | .null => .null
  | .int x => .int x
  | .long x => .long x
  | .float x => .float x
  | .double x => .double x
  | .retAddr x => .retAddr x
theorem z_emb_cat (adr : Nat → Nat) (v : Value) : (z_emb adr v).category = v.category := by cases v <;> rfl
abbrev inR (z : Int) : Prop := -2147483648 ≤ z ∧ z ≤ 2147483647
abbrev inJ (z : Int) : Prop := -9223372036854775808 ≤ z ∧ z ≤ 9223372036854775807
abbrev Sto : Type := Nat → Nat → Int
def z_put (σ : Sto) (k j : Nat) (x : Int) : Sto := fun a b => if a = k then (if b = j then x else σ a b) else σ a b
def z_flds (adr : Nat → Nat) (f : Nat → Int) : Nat → List (Option Nat) → List Value
  | _, [] => []
  | j, none :: l => .int (Int32.ofInt (f j)) :: z_flds adr f (j + 1) l
  | j, some k :: l => .ref (adr k) :: z_flds adr f (j + 1) l
def z_arr (adr : Nat → Nat) (f : Nat → Int) (t : Nat) (r : Nat → Nat) : (Nat → Int32) ⊕ (Nat → Int64) ⊕ (Nat → UInt32) ⊕ (Nat → UInt64) ⊕ (Nat → Option Nat) :=
  if t = 4 then .inr (.inl (fun j => Int64.ofInt (f j))) else if 5 ≤ t then .inr (.inr (.inr (.inr (fun j => some (adr (r j)))))) else .inl (fun j => Int32.ofInt (f j))
def z_ent (adr : Nat → Nat) (aC : Nat → ClassId) (f : Nat → Int) (q : z_L) : va_E := match q with
  | .inl o => .inr (o.1, z_flds adr f 0 o.2)
  | .inr a => .inl (aC a.1, a.2.1, z_arr adr f a.1 a.2.2)
def z_wl (adr : Nat → Nat) (aC : Nat → ClassId) (σ : Sto) : va_W := (List.range z_NC).map (fun k => (adr k, z_ent adr aC (σ k) (z_lay k)))
def z_tys (aC : Nat → ClassId) : List (ClassId × FieldType) := [(aC 0, .int), (aC 1, .byte), (aC 2, .short), (aC 3, .boolean), (aC 4, .long), (aC 5, .array .int), (aC 6, .array .long)]
/-- every number is in the range of its cell's type -/
def z_rg (q : z_L) (x : Int) : Prop := match q with
  | .inl _ => inR x
  | .inr a => if a.1 = 4 then inJ x else inR x
def z_ok (σ : Sto) : Prop := ∀ k j, k < z_NC → z_rg (z_lay k) (σ k j)
theorem z_wl_get {adr : Nat → Nat} {aC : Nat → ClassId} {σ : Sto} {k : Nat} (h : k < z_NC) : (z_wl adr aC σ)[k]? = some (adr k, z_ent adr aC (σ k) (z_lay k)) := by
  unfold z_wl
  rw [List.getElem?_map, List.getElem?_range h]
  rfl
theorem z_wl_of {adr : Nat → Nat} {aC : Nat → ClassId} {σ : Sto} {k : Nat} {q : Nat × va_E} (h : (z_wl adr aC σ)[k]? = some q) : k < z_NC ∧ q = (adr k, z_ent adr aC (σ k) (z_lay k)) := by
  have hk : k < z_NC := by
    have h1 := (List.getElem?_eq_some_iff.mp h).1
    unfold z_wl at h1
    rw [List.length_map, List.length_range] at h1
    exact h1
  rw [z_wl_get hk] at h
  exact ⟨hk, (Option.some.inj h).symm⟩
theorem z_wl_set {adr : Nat → Nat} {aC : Nat → ClassId} {σ σ' : Sto} {k : Nat} (h : k < z_NC) {e : va_E} (he : e = z_ent adr aC (σ' k) (z_lay k)) (ho : ∀ j, j ≠ k → σ' j = σ j) : (z_wl adr aC σ).set k (adr k, e) = z_wl adr aC σ' := by
  subst he
  apply List.ext_getElem?
  intro j
  by_cases hj : j < z_NC
  · rw [z_wl_get hj]
    by_cases hjk : j = k
    · subst hjk
      rw [List.getElem?_set_self (by unfold z_wl; rw [List.length_map, List.length_range]; exact hj)]
    · rw [List.getElem?_set_ne (fun q => hjk q.symm), z_wl_get hj, ho j hjk]
  · have n1 : ((z_wl adr aC σ).set k (adr k, z_ent adr aC (σ' k) (z_lay k)))[j]? = none := by
      rw [List.getElem?_eq_none_iff, List.length_set]
      unfold z_wl
      rw [List.length_map, List.length_range]
      omega
    have n2 : (z_wl adr aC σ')[j]? = none := by
      rw [List.getElem?_eq_none_iff]
      unfold z_wl
      rw [List.length_map, List.length_range]
      omega
    rw [n1, n2]
/-- which cells a method may change -/
def z_A (adr : Nat → Nat) (sz : Nat) : Nat → Prop := fun q => (∃ k, k < z_NC ∧ q = adr k) ∨ sz ≤ q
def z_apart (adr : Nat → Nat) : Prop := ∀ i j, i < z_NC → j < z_NC → adr i = adr j → i = j
theorem z_D {adr : Nat → Nat} {aC : Nat → ClassId} {σ : Sto} {A : Nat → Prop} (h : z_apart adr) (hA : ∀ k, k < z_NC → A (adr k)) : va_D A (z_wl adr aC σ) := by
  refine ⟨fun i j p q hi hj hpq => ?_, fun k q hk => ?_⟩
  · obtain ⟨h1, rfl⟩ := z_wl_of hi
    obtain ⟨h2, rfl⟩ := z_wl_of hj
    exact h i j h1 h2 hpq
  · obtain ⟨h1, rfl⟩ := z_wl_of hk
    exact hA k h1
/-- the constant arrays of the class: where they lie and what they hold; none of the cells is one of them -/
def z_St (adr : Nat → Nat) (A : Nat → Prop) (U : State) (H : Heap) : Prop := ∀ q ∈ z_stats, va_Z q.2.1 q.2.2.1 "[I" (.ref (adr q.1)) A U H ∧ va_X (adr q.1) q.2.2.2.length (fun j => Int32.ofInt (q.2.2.2.getD j 0)) U H ∧ adr q.1 < H.size ∧ ¬ A (adr q.1)
theorem z_St.moved {adr : Nat → Nat} {A : Nat → Prop} {u U : State} {H : Heap} (hvm : u.vm.Alike U.vm) (h : z_St adr A u H) : z_St adr A U H := fun q hq => ⟨va_Z.moved hvm (h q hq).1, va_X.moved hvm (h q hq).2.1, (h q hq).2.2⟩
theorem z_St.go {adr : Nat → Nat} {A B : Nat → Prop} {U : State} {H H1 : Heap} (h : z_St adr A U H) (hk : ∀ q : Nat, q < H.size → ¬ A q → H1[q]? = H[q]?) (hz : H.size ≤ H1.size) (hAB : ∀ q, B q → A q) : z_St adr B U H1 := fun q hq =>
  ⟨va_Z.narrow (va_Z.kept (h q hq).1 hk) hAB, va_X.kept (h q hq).2.1 (hk _ (h q hq).2.2.1 (h q hq).2.2.2), Nat.lt_of_lt_of_le (h q hq).2.2.1 hz, fun z => (h q hq).2.2.2 (hAB _ z)⟩
theorem z_good {y : MethodName} {bytes : ByteArray} {maxL : Nat} {ret : Option FieldType} (h : Cond.code y bytes maxL ret ∈ z_all) : GoodIn z_all (Cond.code y bytes maxL ret :: z_all) := fun w hw => by
  have hw' : w ∈ z_all := by
    rcases List.mem_cons.mp hw with rfl | h2
    · exact h
    · exact h2
  exact ⟨hw', good_of_word (List.mem_filter.mp hw').2⟩
def z_Ns (U : State) : Prop := ∀ w ∈ z_nest, va_Nw w U
theorem z_Ns.warm {s U : State} (hW : s.WarmedH U.vm) (h : z_Ns s) : z_Ns U := fun w hw => by
  have h1 := h w hw
  have h2 := (List.mem_filter.mp hw).2
  cases w <;> first | exact va_Nw.warmF hW h1 | exact va_Nw.warmM hW h1 | (exact Bool.noConfusion h2)
theorem z_Ns.same {u U : State} (hv : u.vm = U.vm) (h : z_Ns u) : z_Ns U := fun w hw => by
  have h1 := h w hw
  have h2 := (List.mem_filter.mp hw).2
  cases w <;> first | exact va_Nw.same rfl hv h1 | (exact Bool.noConfusion h2)
def z_room (d : Nat) : Room := { frames := d, cells := 0, slots := 0, locals := 40 * d }
/-- what holds at a method's start and end -/
def z_Pc (av : List Value) (σ : Sto) (adr : Nat → Nat) (D : va_G) (aC : Nat → ClassId) (sz : Nat) : Array Value → State → Prop :=
  va_Pc (av.map (z_emb adr)) (fun U => U.heap.size = sz ∧ va_P D vwCl (z_wl adr aC σ) U.heap ∧ va_K D vwCl (z_tys aC) U ∧ z_apart adr ∧ z_St adr (z_A adr sz) U U.heap ∧ z_Ns U ∧ z_ok σ)
def z_Q (adr : Nat → Nat) (D : va_G) (aC : Nat → ClassId) (P : Option Value → Sto → Prop) (A : Nat → Prop) : Array Value → State → Outcome → State → Prop := fun _ st oc t =>
  (∃ (r : Option Value) (σ' : Sto), oc = .returned (r.map (z_emb adr)) ∧ P r σ' ∧ va_P D vwCl (z_wl adr aC σ') t.heap ∧ z_ok σ') ∧ va_F A st t
/-- A CONTRACT: method y (its code, its locals, its type), called with the values av in the store σ at depth d, returns with P -/
def Does (d : Nat) (y : MethodName) (cc : ByteArray) (nL : Nat) (ret : Option FieldType) (av : List Value) (σ : Sto) (P : Option Value → Sto → Prop) : Prop :=
  ∀ (l : Launch) (adr : Nat → Nat) (D : va_G) (aC : Nat → ClassId) (sz : Nat), Met l y (Cond.code y cc nL ret :: z_all) (z_room d) (z_Pc av σ adr D aC sz) (z_Q adr D aC P (z_A adr sz)) 0 0 (z_A adr sz)
/-! ===== the judgement Z: the method, at pc with locals L and stack st in the store σ, comes to its end as its mode says ===== -/
abbrev z_X : Type := Program × Launch × Env × Room × State × MethodId × Array Value × List Frame × Method × Code × (Nat → Nat) × va_G × (Nat → ClassId) × (Nat → Prop) × Nat × Nat × (State → Prop)
abbrev z_M : Type := ByteArray × String × Nat × Nat × (z_X → Prop)
def z_Fit (M : z_M) (x : z_X) : Prop := match x with
  | (p, _, _, R, s, m, args, _, meth, c, adr, D, aC, A, cells, slots, _) => p.tables.exec = Jvm.exec ∧ c.code = M.1 ∧ c.maxLocals = M.2.2.1 ∧ s.vm.findClass M.2.1 = some m.cls ∧ (∀ w ∈ z_all, w.before args s = true) ∧ va_K D vwCl (z_tys aC) s ∧ z_St adr A s s.heap ∧ (∀ q, s.heap.size ≤ q → A q) ∧ (∀ k, k < z_NC → A (adr k)) ∧ z_apart adr ∧ (M.2.2.2.1 ≤ R.frames ∧ 40 * M.2.2.2.1 ≤ R.locals ∧ cells ≤ R.cells ∧ slots ≤ R.slots) ∧ meth.locks = false ∧ z_Ns s
def z_HW (x : z_X) (σ : Sto) (H : Heap) (locs : List Loc) : Prop := match x with
  | (_, _, _, _, s, _, _, _, _, _, adr, D, aC, A, _, _, _) => va_P D vwCl (z_wl adr aC σ) H ∧ va_S A s.heap H locs ∧ z_ok σ
def z_plf (adr : Nat → Nat) : Nat → List (Option Value) → List (Nat × Value)
  | _, [] => []
  | i, none :: l => z_plf adr (i + 1) l
  | i, some v :: l => (i, z_emb adr v) :: z_plf adr (i + 1) l
def z_LR (x : z_X) (nL : Nat) (L : List (Option Value)) (ls : Array Slot) : Prop := match x with
  | (_, _, _, _, _, _, _, _, _, _, adr, _, _, _, _, _, _) => lv_has ls nL (z_plf adr 0 L)
def z_go (x : z_X) (H : Heap) (locs : List Loc) (pc : Nat) (ls : Array Slot) (st : List Value) : Prop := match x with
  | (p, l, e, R, s, m, args, below, meth, c, adr, _, _, _, cells, slots, Fin) => W p l e R s m args below meth c H locs cells slots Fin (F0 m pc ls (st.map (z_emb adr)))
def Z (M : z_M) (pc : Nat) (L : List (Option Value)) (st : List Value) (σ : Sto) : Prop :=
  ∀ x : z_X, M.2.2.2.2 x → z_Fit M x → ∀ (H : Heap) (locs : List Loc) (ls : Array Slot), z_HW x σ H locs → z_LR x M.2.2.1 L ls → z_go x H locs pc ls st
/-- the mode of a method: its end is P -/
def z_end (ret : Option FieldType) (P : Option Value → Sto → Prop) (x : z_X) : Prop := match x with
  | (_, _, _, _, s, _, args, below, meth, _, adr, D, aC, A, cells, slots, Fin) => meth.sig.returnType = ret ∧ cells = 0 ∧ slots = 0 ∧ Fin = MQ below (z_Q adr D aC P A) args s 0 0 A
abbrev z_me (cc : ByteArray) (own : String) (nL : Nat) (ret : Option FieldType) (d : Nat) (P : Option Value → Sto → Prop) : z_M := (cc, own, nL, d, z_end ret P)
def z_args : List Value → List (Option Value)
  | [] => []
  | v :: l => if v.category = 2 then some v :: none :: z_args l else some v :: z_args l
theorem z_plf_none (adr : Nat → Nat) : ∀ (n i : Nat), z_plf adr i (List.replicate n none) = []
  | 0, _ => rfl
  | n + 1, i => by rw [List.replicate_succ]; exact z_plf_none adr n (i + 1)
theorem z_plf_args (adr : Nat → Nat) (n : Nat) : ∀ (av : List Value) (i : Nat), z_plf adr i (z_args av ++ List.replicate n none) = lv_args i (av.map (z_emb adr))
  | [], i => z_plf_none adr n i
  | v :: l, i => by
    rw [List.map_cons]
    unfold z_args lv_args
    rw [z_emb_cat]
    by_cases h : v.category = 2
    · rw [if_pos h, if_pos h]
      show (i, z_emb adr v) :: z_plf adr (i + 1 + 1) (z_args l ++ _) = _
      rw [z_plf_args adr n l (i + 1 + 1)]
    · rw [if_neg h, if_neg h]
      show (i, z_emb adr v) :: z_plf adr (i + 1) (z_args l ++ _) = _
      rw [z_plf_args adr n l (i + 1)]
theorem z_sl_len (adr : Nat → Nat) : ∀ av : List Value, (lg_sl (av.map (z_emb adr))).length = (lg_sl av).length
  | [] => rfl
  | v :: l => by
    have ih := z_sl_len adr l
    simp only [lg_sl, List.map_cons, List.flatMap_cons, List.length_append, z_emb_cat] at ih ⊢
    rw [ih]
    split <;> rfl
theorem z_does {d : Nat} {y : MethodName} {cc : ByteArray} {nL : Nat} {ret : Option FieldType} {av : List Value} {σ : Sto} {P : Option Value → Sto → Prop} {own : String} {L : List (Option Value)} (hown : y.cls = own) (hpl : plainName y.cls = true) (hlen : (lg_sl av).length ≤ nL)
    (hL : z_args av ++ List.replicate (nL - (z_args av).length) none = L) (h : Z (z_me cc own nL ret d P) 0 L [] σ) : Does d y cc nL ret av σ P := by
  intro l adr D aC sz
  refine Met.ofW (cc := cc) (maxL := nL) (ret := ret) hpl rfl ?_
  intro p e s m args below meth c s₁ B hml hv
  obtain ⟨rfl, hsz, hP, hK, hap, hSt, hNs, hok⟩ := hv
  subst hsz
  have hts := atoms_spec (ws := Cond.code y cc nL ret :: z_all) B.pre
  have hown' : s.vm.findClass own = some m.cls := by rw [← hown]; exact findClass_of_methodNamed B.named
  have hl := lv_entry (av.map (z_emb adr)) (n := nL) (by rw [z_sl_len]; exact hlen)
  rw [lg_entry_eq]
  generalize (lg_sl (av.map (z_emb adr)) ++ List.replicate (nL - (lg_sl (av.map (z_emb adr))).length) Slot.unset).toArray = ls at hl ⊢
  refine h (p, l, e, z_room d, s, m, (av.map (z_emb adr)).toArray, below, meth, c, adr, D, aC, z_A adr s.heap.size, 0, 0, MQ below (z_Q adr D aC P (z_A adr s.heap.size)) (av.map (z_emb adr)).toArray s 0 0 (z_A adr s.heap.size)) ⟨B.returns, rfl, rfl, rfl⟩ ⟨B.exec, B.bytes, hml, hown', fun w hw => hts w (List.mem_cons_of_mem _ hw), hK, hSt, fun q hq => Or.inr hq, fun k hk => Or.inl ⟨k, hk, rfl⟩, hap, ⟨Nat.le_refl _, Nat.le_refl _, Nat.le_refl _, Nat.le_refl _⟩, B.notSynchronized, hNs⟩ s.heap [] ls ⟨hP, va_S.rf, hok⟩ ?_
  show lv_has ls nL (z_plf adr 0 L)
  rw [← hL, z_plf_args]
  exact hl
theorem Does.mono {d : Nat} {y : MethodName} {cc : ByteArray} {nL : Nat} {ret : Option FieldType} {av : List Value} {σ : Sto} {P Q : Option Value → Sto → Prop} (h : Does d y cc nL ret av σ P) (hPQ : ∀ r σ', P r σ' → Q r σ') : Does d y cc nL ret av σ Q := by
  intro l adr D aC sz p e ha hc hk s m args below hf happ hv htr
  obtain ⟨k, o, h1, h2, h3, hQ⟩ := h l adr D aC sz p e ha hc hk s m args below hf happ hv htr
  refine ⟨k, o, h1, h2, h3, ?_⟩
  obtain ⟨⟨⟨r, σ', e1, e2, e3, e3'⟩, e4⟩, e5⟩ := hQ
  exact ⟨⟨⟨r, σ', e1, hPQ r σ' e2, e3, e3'⟩, e4⟩, e5⟩
