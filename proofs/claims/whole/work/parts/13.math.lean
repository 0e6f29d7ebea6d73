/-! ===== lists in arrays, and what is worked out of them ===== -/
def Seg (σ : Sto) (k : Nat) : Nat → List Int → Prop
  | _, [] => True
  | i, w :: r => σ k i = w ∧ Seg σ k (i + 1) r
def wok (xs : List Int) : Prop := ∀ w ∈ xs, 0 ≤ w ∧ w < 12
theorem wok_c {w : Int} {r : List Int} (h : wok (w :: r)) : (0 ≤ w ∧ w < 12) ∧ wok r := ⟨h w List.mem_cons_self, fun x hx => h x (List.mem_cons_of_mem _ hx)⟩
theorem toN_s {i : Int} (h : 0 ≤ i) : (i + 1).toNat = i.toNat + 1 := by omega
theorem Seg.cong {σ τ : Sto} {k : Nat} : ∀ {xs : List Int} {i : Nat}, (∀ j, i ≤ j → j < i + xs.length → τ k j = σ k j) → Seg σ k i xs → Seg τ k i xs
  | [], _, _, _ => trivial
  | w :: r, i, h, hs => ⟨by rw [h i (by omega) (by rw [List.length_cons]; omega)]; exact hs.1, Seg.cong (fun j h1 h2 => h j (by omega) (by rw [List.length_cons]; omega)) hs.2⟩
theorem Seg.row {σ τ : Sto} {k : Nat} {xs : List Int} {i : Nat} (h : τ k = σ k) (hs : Seg σ k i xs) : Seg τ k i xs := Seg.cong (fun j _ _ => by rw [h]) hs
theorem Seg.app {σ : Sto} {k : Nat} : ∀ {xs ys : List Int} {i : Nat}, Seg σ k i xs → Seg σ k (i + xs.length) ys → Seg σ k i (xs ++ ys)
  | [], _, _, _, h => h
  | w :: r, ys, i, h1, h2 => ⟨h1.1, Seg.app h1.2 (by rw [show i + 1 + r.length = i + (w :: r).length by rw [List.length_cons]; omega]; exact h2)⟩
theorem Seg.put {σ : Sto} {k : Nat} {xs : List Int} {x : Int} (h : Seg σ k 0 xs) : Seg (z_put σ k xs.length x) k 0 (xs ++ [x]) :=
  Seg.app (Seg.cong (fun j _ h2 => by rw [z_rd, if_pos rfl, if_neg (by omega)]) h) ⟨by rw [z_rd, if_pos rfl, if_pos (by omega)], trivial⟩
def sumL (f : Nat → Int) : List Int → Int
  | [] => 0
  | w :: r => f w.toNat + sumL f r
def netL (A4 A1 A2 : Nat → Int) (p : Int) : List Int → Int
  | [] => 0
  | w :: r => (if A4 w.toNat = p then A1 w.toNat - A2 w.toNat else 0) + netL A4 A1 A2 p r
def hlL (A4 A1 : Nat → Int) (p : Int) : List Int → Int
  | [] => 0
  | w :: r => (if A4 w.toNat = p then A1 w.toNat else 0) + hlL A4 A1 p r
def anyL (A4 : Nat → Int) (p : Int) : List Int → Bool
  | [] => false
  | w :: r => if A4 w.toNat = p then true else anyL A4 p r
def snsL (A3 : Nat → Int) : Int → List Int → Bool
  | _, [] => true
  | p, w :: r => if A3 w.toNat = min p 2 then snsL A3 (p + 1) r else false
/-- what comes and what is left: ps word place lying -/
def cmL (ps : Int → Int → Int → Bool) : List Int → Int → Int → List Int × List Int
  | [], _, _ => ([], [])
  | w :: r, p, q => if ps w p q then (w :: (cmL ps r (p + 1) q).1, (cmL ps r (p + 1) q).2) else ((cmL ps r (p + 1) (q + 1)).1, w :: (cmL ps r (p + 1) (q + 1)).2)
/-- bits of those p, p + 1 .. (m of them) that have c -/
def bitL (c : Int → Bool) : Nat → Int → Int → Int
  | 0, _, acc => acc
  | m + 1, p, acc => bitL c m (p + 1) (if c p then z_iorF acc (z_ishlF 1 p) else acc)
def bt (s w : Int) : Int := z_iandF (z_ishrF s w) 1
def setL (s : Int) : Nat → Int → List Int
  | 0, _ => []
  | m + 1, w => if bt s w ≠ 0 then w :: setL s m (w + 1) else setL s m (w + 1)
theorem bitL_R {c : Int → Bool} : ∀ (m : Nat) {p acc : Int}, inR acc → inR (bitL c m p acc)
  | 0, _, _, h => h
  | m + 1, p, acc, h => by
    rw [bitL]
    split
    · exact bitL_R m (z_rng _)
    · exact bitL_R m h
theorem bitL_cong {c e : Int → Bool} : ∀ (m : Nat) (p acc : Int), (∀ x, p ≤ x → x < p + m → c x = e x) → bitL c m p acc = bitL e m p acc
  | 0, _, _, _ => rfl
  | m + 1, p, acc, h => by rw [bitL, bitL, h p (by omega) (by omega), bitL_cong m (p + 1) _ (fun x h1 h2 => h x (by omega) (by omega))]
def hurtL (A4 A1 A2 thin : Nat → Int) (ppl : Int) (xs : List Int) : Int := bitL (fun p => decide (netL A4 A1 A2 p xs > 9 - thin p.toNat)) ppl.toNat 0 0
theorem cmL_len {ps : Int → Int → Int → Bool} : ∀ (xs : List Int) (p q : Int), (cmL ps xs p q).1.length + (cmL ps xs p q).2.length = xs.length
  | [], _, _ => rfl
  | w :: r, p, q => by
    rw [cmL]
    split
    · have := cmL_len r (p + 1) q (ps := ps); simp only [List.length_cons]; omega
    · have := cmL_len r (p + 1) (q + 1) (ps := ps); simp only [List.length_cons]; omega
theorem cmL_wok {ps : Int → Int → Int → Bool} : ∀ (xs : List Int) (p q : Int), wok xs → wok (cmL ps xs p q).1 ∧ wok (cmL ps xs p q).2
  | [], _, _, h => ⟨h, h⟩
  | w :: r, p, q, h => by
    obtain ⟨h1, h2⟩ := wok_c h
    rw [cmL]
    split
    · obtain ⟨a, b⟩ := cmL_wok r (p + 1) q h2 (ps := ps)
      exact ⟨fun x hx => (List.mem_cons.mp hx).elim (fun e => e ▸ h1) (a x), b⟩
    · obtain ⟨a, b⟩ := cmL_wok r (p + 1) (q + 1) h2 (ps := ps)
      exact ⟨a, fun x hx => (List.mem_cons.mp hx).elim (fun e => e ▸ h1) (b x)⟩
theorem sumL_R {f : Nat → Int} (hf : ∀ j, 0 ≤ f j ∧ f j ≤ 9) : ∀ xs : List Int, 0 ≤ sumL f xs ∧ sumL f xs ≤ 9 * xs.length
  | [] => by simp [sumL]
  | w :: r => by
    have h1 := hf w.toNat
    have h2 := sumL_R hf r
    rw [sumL, List.length_cons]
    omega
theorem hlL_R {A4 A1 : Nat → Int} (hf : ∀ j, 0 ≤ A1 j ∧ A1 j ≤ 9) {p : Int} : ∀ xs : List Int, 0 ≤ hlL A4 A1 p xs ∧ hlL A4 A1 p xs ≤ 9 * xs.length
  | [] => by simp [hlL]
  | w :: r => by
    have h1 := hf w.toNat
    have h2 := hlL_R hf r (A4 := A4) (p := p)
    rw [hlL, List.length_cons]
    split <;> omega
/-- of whom most harm is -/
def mhL (f : Int → Int) : Nat → Int → Int → Int → Int
  | 0, _, who, _ => who
  | m + 1, p, who, most => if f p > most then mhL f m (p + 1) p (f p) else mhL f m (p + 1) who most
def keepL (ps : Int → Bool) (s : Int) : Nat → Int → Bool
  | 0, _ => true
  | m + 1, w => if ps w = decide (bt s w ≠ 0) then false else keepL ps s m (w + 1)
/-- whether a word passes: the law's worth LF, whether a law is told, sizes, harms, sweets, what bends -/
def pasP (LF : Int → Int → Int → Int → Int → Int → Int) (told : Bool) (A0 A1 A2 : Nat → Int) (bn : Int) (f : Int) (w p q : Int) : Bool :=
  if f = -1 then true else if told then decide (0 < LF (A0 w.toNat) (A1 w.toNat) (A2 w.toNat) f p q) else decide (A0 w.toNat + A1 w.toNat ≤ bn - f)
