/-! ===== The law's loop ===== -/
def z_lawm (b L : Nat) (xs : Nat → Int32) (x : z_X) : Prop := match x with
  | (_, _, _, R, s, _, args, below, meth, _, adr, _, _, A, _, _, Fin) => R = room_1 ∧ args = #[Value.ref b] ∧ Fin = lw_Z below #[Value.ref b] s ∧ meth.sig.returnType = ret ∧ va_X b L xs s s.heap ∧ b < s.heap.size ∧ (∀ q, A q → s.heap.size ≤ q) ∧ adr 503 = b
abbrev ML (b L : Nat) (xs : Nat → Int32) : z_M := (code, RL, 4, 200, z_lawm b L xs)
theorem y_inx {i : Int} {n : Nat} (hn : n ≤ 3072) (hi : 0 ≤ i ∧ i < n) : vp_in (Int32.ofInt i) n ∧ (Int32.ofInt i).toNatClampNeg = i.toNat := by
  have h1 : (Int32.ofInt i).toInt = i := z_toInt ⟨by omega, by omega⟩
  have h2 : (Int32.ofInt i).toNatClampNeg = i.toNat := by rw [show (Int32.ofInt i).toNatClampNeg = (Int32.ofInt i).toInt.toNat from rfl, h1]
  refine ⟨vp_in_iff.mpr ?_, h2⟩
  rw [h1]
  exact hi
theorem y_len {b L : Nat} {xs : Nat → Int32} {pc : Nat} {Lo : List (Option Value)} {st : List Value} {σ : Sto} (hd : decode code pc = .ok (.arraylength, 1)) (kk : Z (ML b L xs) (pc + 1) Lo (zI L :: st) σ) : Z (ML b L xs) pc Lo (zR 503 :: st) σ := by
  rintro ⟨p, l, e, R, s, m, args, below, meth, c, adr, D, aC, A, cells, slots, Fin⟩ hm hf H locs ls hw hl
  obtain ⟨hx, hb, hml, hown, hts, hK, hSt, hA, hAk, hap, hR, hlk, hNs⟩ := id hf
  obtain ⟨hP, hS, hok⟩ := id hw
  obtain ⟨m1, m2, m3, m4, m5, m6, m7, m8⟩ := id hm
  have k2 : W p l e R s m args below meth c H locs cells slots Fin (F0 m (pc + 1) ls (.int (Int32.ofInt (L : Nat)) :: st.map (z_emb adr))) := kk (p, l, e, R, s, m, args, below, meth, c, adr, D, aC, A, cells, slots, Fin) hm hf H locs ls hw hl
  rw [Int32.ofInt_eq_ofNat] at k2
  show W p l e R s m args below meth c H locs cells slots Fin (F0 m pc ls (.ref (adr 503) :: st.map (z_emb adr)))
  rw [m8]
  exact va_slen hx hb m5 m6 (fun q => by have := m7 _ q; omega) hS hd k2
theorem y_ld {b L : Nat} {xs : Nat → Int32} {pc : Nat} {Lo : List (Option Value)} {st : List Value} {σ : Sto} {i : Int} (hL : L ≤ 3072) (hd : decode code pc = .ok (.iaload, 1)) (hi : 0 ≤ i ∧ i < L) (kk : Z (ML b L xs) (pc + 1) Lo (zI (xs i.toNat).toInt :: st) σ) : Z (ML b L xs) pc Lo (zI i :: zR 503 :: st) σ := by
  rintro ⟨p, l, e, R, s, m, args, below, meth, c, adr, D, aC, A, cells, slots, Fin⟩ hm hf H locs ls hw hl
  obtain ⟨hx, hb, hml, hown, hts, hK, hSt, hA, hAk, hap, hR, hlk, hNs⟩ := id hf
  obtain ⟨hP, hS, hok⟩ := id hw
  obtain ⟨m1, m2, m3, m4, m5, m6, m7, m8⟩ := id hm
  have hi2 := y_inx hL hi
  have k2 : W p l e R s m args below meth c H locs cells slots Fin (F0 m (pc + 1) ls (.int (Int32.ofInt (xs i.toNat).toInt) :: st.map (z_emb adr))) := kk (p, l, e, R, s, m, args, below, meth, c, adr, D, aC, A, cells, slots, Fin) hm hf H locs ls hw hl
  rw [Int32.ofInt_toInt] at k2
  show W p l e R s m args below meth c H locs cells slots Fin (F0 m pc ls (.int (Int32.ofInt i) :: .ref (adr 503) :: st.map (z_emb adr)))
  rw [m8]
  exact va_sld hx hb m5 m6 (fun q => by have := m7 _ q; omega) hS hi2.1 hd (by rw [hi2.2]; exact k2)
theorem y_ret {b L : Nat} {xs : Nat → Int32} {pc : Nat} {Lo : List (Option Value)} {σ : Sto} (hd : decode code pc = .ok (.ireturn, 1)) : Z (ML b L xs) pc Lo [zI 1] σ := by
  rintro ⟨p, l, e, R, s, m, args, below, meth, c, adr, D, aC, A, cells, slots, Fin⟩ hm hf H locs ls hw hl
  obtain ⟨hx, hb, hml, hown, hts, hK, hSt, hA, hAk, hap, hR, hlk, hNs⟩ := id hf
  obtain ⟨hP, hS, hok⟩ := id hw
  obtain ⟨rfl, rfl, rfl, m4, m5, m6, m7, m8⟩ := id hm
  show W p l e room_1 s m #[Value.ref b] below meth c H locs cells slots (lw_Z below #[Value.ref b] s) (F0 m pc ls [.int 1])
  refine va_forget (fun q hq => m7 _ (hS.2.2 q hq)) ?_
  refine W.widen (k := 600000) (n := 7302250) hR.2.2.1 hR.2.2.2 ?_
  exact lw_ret hx hb m4 hlk hd
theorem y_ok {M : z_M} {pc : Nat} {Lo : List (Option Value)} {st : List Value} {σ : Sto} (kk : z_ok σ → Z M pc Lo st σ) : Z M pc Lo st σ := by
  intro x hm hf H locs ls hw hl
  exact kk (by obtain ⟨p, l, e, R, s, m, args, below, meth, c, adr, D, aC, A, cells, slots, Fin⟩ := x; exact hw.2.2) x hm hf H locs ls hw hl
theorem y_icmp {M : z_M} {pc : Nat} {Lo : List (Option Value)} {st : List Value} {σ : Sto} {z z' off : Int} {tgt : Nat} (hd : decode M.1 pc = .ok (.if_icmp .eq off, 3)) (ht : (pc : Int) + off = (tgt : Int)) (h : zI z' = zI z) (kt : Z M tgt Lo st σ) : Z M pc Lo (zI z' :: zI z :: st) σ := by
  have e : zI z = zI (Int32.ofInt z).toInt := by unfold zI; rw [Int32.ofInt_toInt]
  rw [h, e]
  exact z_icmp_eq hd ht (z_rng _) (z_rng _) (fun _ => kt) (fun q => absurd rfl q)
theorem y_rngJ (x : Int64) : inJ x.toInt := ⟨by have := Int64.le_toInt x; omega, by have := Int64.toInt_lt x; omega⟩
theorem y_lc {M : z_M} {pc : Nat} {Lo : List (Option Value)} {st : List Value} {σ : Sto} {z z' off : Int} {tgt : Nat} (hd : decode M.1 pc = .ok (.lcmp, 1)) (hd2 : decode M.1 (pc + 1) = .ok (.ifCond .eq off, 3)) (ht : ((pc + 1 : Nat) : Int) + off = (tgt : Int)) (h : zJ z' = zJ z) (kt : Z M tgt Lo st σ) : Z M pc Lo (zJ z' :: zJ z :: st) σ := by
  have e : zJ z = zJ (Int64.ofInt z).toInt := by unfold zJ; rw [Int64.ofInt_toInt]
  rw [h, e]
  exact z_lc_eq hd hd2 ht (y_rngJ _) (y_rngJ _) (fun _ => kt) (fun q => absurd rfl q)

set_option maxRecDepth 20000 in
theorem law_0 {b L n : Nat} {xs : Nat → Int32} {σ : Sto} (hL : L ≤ 3072) (hn : 6 * n + 6 ≤ L) (hI : Inv n σ) (hok : z_ok σ) (kk : ∀ σ2, Inv (n + 1) σ2 → Z (ML b L xs) 1653 [some (zR 503), some (zR 0), some (zR 9), some (zI ((6 * n : Nat) : Int))] [] σ2) : Z (ML b L xs) 220 [some (zR 503), some (zR 0), some (zR 9), some (zI ((6 * n : Nat) : Int))] [] σ := by
  refine z_aload_n dL_law_220 rfl ?_
  refine z_aload_n dL_law_221 rfl ?_
  refine z_iload_n dL_law_222 rfl ?_
  refine z_iconst dL_law_223 ?_
  refine z_iadd dL_law_224 ?_
  refine y_ld hL dL_law_225 (by omega) ?_
  refine z_aload_n dL_law_226 rfl ?_
  refine z_iload_n dL_law_227 rfl ?_
  refine z_iconst dL_law_228 ?_
  refine z_iadd dL_law_229 ?_
  refine y_ld hL dL_law_230 (by omega) ?_
  refine z_callVI (av := [_, _]) dL_law_231 vL_13 rfl (Nat.le_of_ble_eq_true rfl) rfl rfl rfl (Nat.le_of_ble_eq_true rfl) (Nat.le_of_ble_eq_true rfl) (pr_word (d := 0) (e := 0) hI (z_rng _) (z_rng _)) (fun z σ1 h1 => ?_)
  refine z_aload_n dL_law_234 rfl ?_
  refine z_aload_n dL_law_235 rfl ?_
  refine z_iload_n dL_law_236 rfl ?_
  refine z_iconst dL_law_237 ?_
  refine z_iadd dL_law_238 ?_
  refine y_ld hL dL_law_239 (by omega) ?_
  refine z_aload_n dL_law_240 rfl ?_
  refine z_iload_n dL_law_241 rfl ?_
  refine z_iconst dL_law_242 ?_
  refine z_iadd dL_law_243 ?_
  refine y_ld hL dL_law_244 (by omega) ?_
  refine z_callVI (av := [_, _]) dL_law_245 vL_17 rfl (Nat.le_of_ble_eq_true rfl) rfl rfl rfl (Nat.le_of_ble_eq_true rfl) (Nat.le_of_ble_eq_true rfl) h1 (fun z2 σ2 h2 => ?_)
  exact y_icmp (tgt := 1653) dL_law_248 (by decide) h2.1 (kk σ2 h2.2)
set_option maxRecDepth 20000 in
theorem law_1 {b L n : Nat} {xs : Nat → Int32} {σ : Sto} (hL : L ≤ 3072) (hn : 6 * n + 6 ≤ L) (hI : Inv n σ) (hok : z_ok σ) (kk : ∀ σ2, Inv (n + 1) σ2 → Z (ML b L xs) 1653 [some (zR 503), some (zR 0), some (zR 9), some (zI ((6 * n : Nat) : Int))] [] σ2) : Z (ML b L xs) 253 [some (zR 503), some (zR 0), some (zR 9), some (zI ((6 * n : Nat) : Int))] [] σ := by
  refine z_aload_n dL_law_253 rfl ?_
  refine z_aload_n dL_law_254 rfl ?_
  refine z_iload_n dL_law_255 rfl ?_
  refine z_iconst dL_law_256 ?_
  refine z_iadd dL_law_257 ?_
  refine y_ld hL dL_law_258 (by omega) ?_
  refine z_aload_n dL_law_259 rfl ?_
  refine z_iload_n dL_law_260 rfl ?_
  refine z_iconst dL_law_261 ?_
  refine z_iadd dL_law_262 ?_
  refine y_ld hL dL_law_263 (by omega) ?_
  refine z_aload_n dL_law_264 rfl ?_
  refine z_iload_n dL_law_265 rfl ?_
  refine z_iconst dL_law_266 ?_
  refine z_iadd dL_law_267 ?_
  refine y_ld hL dL_law_268 (by omega) ?_
  refine z_callVI (av := [_, _, _]) dL_law_269 vL_18 rfl (Nat.le_of_ble_eq_true rfl) rfl rfl rfl (Nat.le_of_ble_eq_true rfl) (Nat.le_of_ble_eq_true rfl) (pr_words (d := 0) (e := 0) hI (z_rng _) (z_rng _) (z_rng _)) (fun z σ1 h1 => ?_)
  refine z_aload_n dL_law_272 rfl ?_
  refine z_aload_n dL_law_273 rfl ?_
  refine z_iload_n dL_law_274 rfl ?_
  refine z_iconst dL_law_275 ?_
  refine z_iadd dL_law_276 ?_
  refine y_ld hL dL_law_277 (by omega) ?_
  refine z_aload_n dL_law_278 rfl ?_
  refine z_iload_n dL_law_279 rfl ?_
  refine z_iconst dL_law_280 ?_
  refine z_iadd dL_law_281 ?_
  refine y_ld hL dL_law_282 (by omega) ?_
  refine z_aload_n dL_law_283 rfl ?_
  refine z_iload_n dL_law_284 rfl ?_
  refine z_iconst dL_law_285 ?_
  refine z_iadd dL_law_286 ?_
  refine y_ld hL dL_law_287 (by omega) ?_
  refine z_callVI (av := [_, _, _]) dL_law_288 vL_22 rfl (Nat.le_of_ble_eq_true rfl) rfl rfl rfl (Nat.le_of_ble_eq_true rfl) (Nat.le_of_ble_eq_true rfl) h1 (fun z2 σ2 h2 => ?_)
  exact y_icmp (tgt := 1653) dL_law_291 (by decide) h2.1 (kk σ2 h2.2)
set_option maxRecDepth 20000 in
theorem law_2 {b L n : Nat} {xs : Nat → Int32} {σ : Sto} (hL : L ≤ 3072) (hn : 6 * n + 6 ≤ L) (hI : Inv n σ) (hok : z_ok σ) (kk : ∀ σ2, Inv (n + 1) σ2 → Z (ML b L xs) 1653 [some (zR 503), some (zR 0), some (zR 9), some (zI ((6 * n : Nat) : Int))] [] σ2) : Z (ML b L xs) 296 [some (zR 503), some (zR 0), some (zR 9), some (zI ((6 * n : Nat) : Int))] [] σ := by
  refine z_aload_n dL_law_296 rfl ?_
  refine z_aload_n dL_law_297 rfl ?_
  refine z_iload_n dL_law_298 rfl ?_
  refine z_iconst dL_law_299 ?_
  refine z_iadd dL_law_300 ?_
  refine y_ld hL dL_law_301 (by omega) ?_
  refine z_callVI (av := [_]) dL_law_302 vL_23 rfl (Nat.le_of_ble_eq_true rfl) rfl rfl rfl (Nat.le_of_ble_eq_true rfl) (Nat.le_of_ble_eq_true rfl) (pr_mesh (d := 0) (e := 0) hI (z_rng _)) (fun z σ1 h1 => ?_)
  refine z_aload_n dL_law_305 rfl ?_
  refine z_aload_n dL_law_306 rfl ?_
  refine z_iload_n dL_law_307 rfl ?_
  refine z_iconst dL_law_308 ?_
  refine z_iadd dL_law_309 ?_
  refine y_ld hL dL_law_310 (by omega) ?_
  refine z_callVI (av := [_]) dL_law_311 vL_27 rfl (Nat.le_of_ble_eq_true rfl) rfl rfl rfl (Nat.le_of_ble_eq_true rfl) (Nat.le_of_ble_eq_true rfl) h1 (fun z2 σ2 h2 => ?_)
  exact y_icmp (tgt := 1653) dL_law_314 (by decide) h2.1 (kk σ2 h2.2)
set_option maxRecDepth 20000 in
theorem law_3 {b L n : Nat} {xs : Nat → Int32} {σ : Sto} (hL : L ≤ 3072) (hn : 6 * n + 6 ≤ L) (hI : Inv n σ) (hok : z_ok σ) (kk : ∀ σ2, Inv (n + 1) σ2 → Z (ML b L xs) 1653 [some (zR 503), some (zR 0), some (zR 9), some (zI ((6 * n : Nat) : Int))] [] σ2) : Z (ML b L xs) 319 [some (zR 503), some (zR 0), some (zR 9), some (zI ((6 * n : Nat) : Int))] [] σ := by
  refine z_aload_n dL_law_319 rfl ?_
  refine z_aload_n dL_law_320 rfl ?_
  refine z_iload_n dL_law_321 rfl ?_
  refine z_iconst dL_law_322 ?_
  refine z_iadd dL_law_323 ?_
  refine y_ld hL dL_law_324 (by omega) ?_
  refine z_callVI (av := [_]) dL_law_325 vL_28 rfl (Nat.le_of_ble_eq_true rfl) rfl rfl rfl (Nat.le_of_ble_eq_true rfl) (Nat.le_of_ble_eq_true rfl) (pr_person (d := 0) (e := 0) hI (z_rng _)) (fun z σ1 h1 => ?_)
  refine z_aload_n dL_law_328 rfl ?_
  refine z_aload_n dL_law_329 rfl ?_
  refine z_iload_n dL_law_330 rfl ?_
  refine z_iconst dL_law_331 ?_
  refine z_iadd dL_law_332 ?_
  refine y_ld hL dL_law_333 (by omega) ?_
  refine z_callVI (av := [_]) dL_law_334 vL_31 rfl (Nat.le_of_ble_eq_true rfl) rfl rfl rfl (Nat.le_of_ble_eq_true rfl) (Nat.le_of_ble_eq_true rfl) h1 (fun z2 σ2 h2 => ?_)
  exact y_icmp (tgt := 1653) dL_law_337 (by decide) h2.1 (kk σ2 h2.2)
set_option maxRecDepth 20000 in
theorem law_4 {b L n : Nat} {xs : Nat → Int32} {σ : Sto} (hL : L ≤ 3072) (hn : 6 * n + 6 ≤ L) (hI : Inv n σ) (hok : z_ok σ) (kk : ∀ σ2, Inv (n + 1) σ2 → Z (ML b L xs) 1653 [some (zR 503), some (zR 0), some (zR 9), some (zI ((6 * n : Nat) : Int))] [] σ2) : Z (ML b L xs) 342 [some (zR 503), some (zR 0), some (zR 9), some (zI ((6 * n : Nat) : Int))] [] σ := by
  refine z_aload_n dL_law_342 rfl ?_
  refine z_aload_n dL_law_343 rfl ?_
  refine z_iload_n dL_law_344 rfl ?_
  refine z_iconst dL_law_345 ?_
  refine z_iadd dL_law_346 ?_
  refine y_ld hL dL_law_347 (by omega) ?_
  refine z_aload_n dL_law_348 rfl ?_
  refine z_iload_n dL_law_349 rfl ?_
  refine z_iconst dL_law_350 ?_
  refine z_iadd dL_law_351 ?_
  refine y_ld hL dL_law_352 (by omega) ?_
  refine z_aload_n dL_law_353 rfl ?_
  refine z_iload_n dL_law_354 rfl ?_
  refine z_iconst dL_law_355 ?_
  refine z_iadd dL_law_356 ?_
  refine y_ld hL dL_law_357 (by omega) ?_
  refine z_callVI (av := [_, _, _]) dL_law_358 vL_32 rfl (Nat.le_of_ble_eq_true rfl) rfl rfl rfl (Nat.le_of_ble_eq_true rfl) (Nat.le_of_ble_eq_true rfl) (pr_mend (d := 0) (e := 0) hI hok (z_rng _) (z_rng _) (z_rng _)) (fun z σ1 h1 => ?_)
  refine z_aload_n dL_law_361 rfl ?_
  refine z_aload_n dL_law_362 rfl ?_
  refine z_iload_n dL_law_363 rfl ?_
  refine z_iconst dL_law_364 ?_
  refine z_iadd dL_law_365 ?_
  refine y_ld hL dL_law_366 (by omega) ?_
  refine z_aload_n dL_law_367 rfl ?_
  refine z_iload_n dL_law_368 rfl ?_
  refine z_iconst dL_law_369 ?_
  refine z_iadd dL_law_370 ?_
  refine y_ld hL dL_law_371 (by omega) ?_
  refine z_aload_n dL_law_372 rfl ?_
  refine z_iload_n dL_law_373 rfl ?_
  refine z_iconst dL_law_374 ?_
  refine z_iadd dL_law_375 ?_
  refine y_ld hL dL_law_376 (by omega) ?_
  refine z_callVI (av := [_, _, _]) dL_law_377 vL_35 rfl (Nat.le_of_ble_eq_true rfl) rfl rfl rfl (Nat.le_of_ble_eq_true rfl) (Nat.le_of_ble_eq_true rfl) h1 (fun z2 σ2 h2 => ?_)
  exact y_icmp (tgt := 1653) dL_law_380 (by decide) h2.1 (kk σ2 h2.2)
set_option maxRecDepth 20000 in
theorem law_5 {b L n : Nat} {xs : Nat → Int32} {σ : Sto} (hL : L ≤ 3072) (hn : 6 * n + 6 ≤ L) (hI : Inv n σ) (hok : z_ok σ) (kk : ∀ σ2, Inv (n + 1) σ2 → Z (ML b L xs) 1653 [some (zR 503), some (zR 0), some (zR 9), some (zI ((6 * n : Nat) : Int))] [] σ2) : Z (ML b L xs) 385 [some (zR 503), some (zR 0), some (zR 9), some (zI ((6 * n : Nat) : Int))] [] σ := by
  refine z_aload_n dL_law_385 rfl ?_
  refine z_aload_n dL_law_386 rfl ?_
  refine z_iload_n dL_law_387 rfl ?_
  refine z_iconst dL_law_388 ?_
  refine z_iadd dL_law_389 ?_
  refine y_ld hL dL_law_390 (by omega) ?_
  refine z_aload_n dL_law_391 rfl ?_
  refine z_iload_n dL_law_392 rfl ?_
  refine z_iconst dL_law_393 ?_
  refine z_iadd dL_law_394 ?_
  refine y_ld hL dL_law_395 (by omega) ?_
  refine z_callVI (av := [_, _]) dL_law_396 vL_36 rfl (Nat.le_of_ble_eq_true rfl) rfl rfl rfl (Nat.le_of_ble_eq_true rfl) (Nat.le_of_ble_eq_true rfl) (pr_of (d := 0) (e := 0) hI hok (z_rng _) (z_rng _)) (fun z σ1 h1 => ?_)
  refine z_aload_n dL_law_399 rfl ?_
  refine z_aload_n dL_law_400 rfl ?_
  refine z_iload_n dL_law_401 rfl ?_
  refine z_iconst dL_law_402 ?_
  refine z_iadd dL_law_403 ?_
  refine y_ld hL dL_law_404 (by omega) ?_
  refine z_aload_n dL_law_405 rfl ?_
  refine z_iload_n dL_law_406 rfl ?_
  refine z_iconst dL_law_407 ?_
  refine z_iadd dL_law_408 ?_
  refine y_ld hL dL_law_409 (by omega) ?_
  refine z_callVI (av := [_, _]) dL_law_410 vL_39 rfl (Nat.le_of_ble_eq_true rfl) rfl rfl rfl (Nat.le_of_ble_eq_true rfl) (Nat.le_of_ble_eq_true rfl) h1 (fun z2 σ2 h2 => ?_)
  exact y_icmp (tgt := 1653) dL_law_413 (by decide) h2.1 (kk σ2 h2.2)
set_option maxRecDepth 20000 in
theorem law_6 {b L n : Nat} {xs : Nat → Int32} {σ : Sto} (hL : L ≤ 3072) (hn : 6 * n + 6 ≤ L) (hI : Inv n σ) (hok : z_ok σ) (kk : ∀ σ2, Inv (n + 1) σ2 → Z (ML b L xs) 1653 [some (zR 503), some (zR 0), some (zR 9), some (zI ((6 * n : Nat) : Int))] [] σ2) : Z (ML b L xs) 418 [some (zR 503), some (zR 0), some (zR 9), some (zI ((6 * n : Nat) : Int))] [] σ := by
  refine z_aload_n dL_law_418 rfl ?_
  refine z_aload_n dL_law_419 rfl ?_
  refine z_iload_n dL_law_420 rfl ?_
  refine z_iconst dL_law_421 ?_
  refine z_iadd dL_law_422 ?_
  refine y_ld hL dL_law_423 (by omega) ?_
  refine z_callVI (av := [_]) dL_law_424 vL_40 rfl (Nat.le_of_ble_eq_true rfl) rfl rfl rfl (Nat.le_of_ble_eq_true rfl) (Nat.le_of_ble_eq_true rfl) (pr_feed (d := 0) (e := 0) hI (z_rng _)) (fun z σ1 h1 => ?_)
  refine z_aload_n dL_law_427 rfl ?_
  refine z_aload_n dL_law_428 rfl ?_
  refine z_iload_n dL_law_429 rfl ?_
  refine z_iconst dL_law_430 ?_
  refine z_iadd dL_law_431 ?_
  refine y_ld hL dL_law_432 (by omega) ?_
  refine z_callVI (av := [_]) dL_law_433 vL_43 rfl (Nat.le_of_ble_eq_true rfl) rfl rfl rfl (Nat.le_of_ble_eq_true rfl) (Nat.le_of_ble_eq_true rfl) h1 (fun z2 σ2 h2 => ?_)
  exact y_icmp (tgt := 1653) dL_law_436 (by decide) h2.1 (kk σ2 h2.2)
set_option maxRecDepth 20000 in
theorem law_7 {b L n : Nat} {xs : Nat → Int32} {σ : Sto} (hL : L ≤ 3072) (hn : 6 * n + 6 ≤ L) (hI : Inv n σ) (hok : z_ok σ) (kk : ∀ σ2, Inv (n + 1) σ2 → Z (ML b L xs) 1653 [some (zR 503), some (zR 0), some (zR 9), some (zI ((6 * n : Nat) : Int))] [] σ2) : Z (ML b L xs) 441 [some (zR 503), some (zR 0), some (zR 9), some (zI ((6 * n : Nat) : Int))] [] σ := by
  refine z_aload_n dL_law_441 rfl ?_
  refine z_callVI (av := []) dL_law_442 vL_44 rfl (Nat.le_of_ble_eq_true rfl) rfl rfl rfl (Nat.le_of_ble_eq_true rfl) (Nat.le_of_ble_eq_true rfl) (pr_law hI) (fun z σ1 h1 => ?_)
  refine z_aload_n dL_law_445 rfl ?_
  refine z_callVI (av := []) dL_law_446 vL_48 rfl (Nat.le_of_ble_eq_true rfl) rfl rfl rfl (Nat.le_of_ble_eq_true rfl) (Nat.le_of_ble_eq_true rfl) h1 (fun z2 σ2 h2 => ?_)
  exact y_icmp (tgt := 1653) dL_law_449 (by decide) h2.1 (kk σ2 h2.2)
set_option maxRecDepth 20000 in
theorem law_8 {b L n : Nat} {xs : Nat → Int32} {σ : Sto} (hL : L ≤ 3072) (hn : 6 * n + 6 ≤ L) (hI : Inv n σ) (hok : z_ok σ) (kk : ∀ σ2, Inv (n + 1) σ2 → Z (ML b L xs) 1653 [some (zR 503), some (zR 0), some (zR 9), some (zI ((6 * n : Nat) : Int))] [] σ2) : Z (ML b L xs) 454 [some (zR 503), some (zR 0), some (zR 9), some (zI ((6 * n : Nat) : Int))] [] σ := by
  refine z_aload_n dL_law_454 rfl ?_
  refine z_aload_n dL_law_455 rfl ?_
  refine z_iload_n dL_law_456 rfl ?_
  refine z_iconst dL_law_457 ?_
  refine z_iadd dL_law_458 ?_
  refine y_ld hL dL_law_459 (by omega) ?_
  refine z_aload_n dL_law_460 rfl ?_
  refine z_iload_n dL_law_461 rfl ?_
  refine z_iconst dL_law_462 ?_
  refine z_iadd dL_law_463 ?_
  refine y_ld hL dL_law_464 (by omega) ?_
  refine z_callVI (av := [_, _]) dL_law_465 vL_49 rfl (Nat.le_of_ble_eq_true rfl) rfl rfl rfl (Nat.le_of_ble_eq_true rfl) (Nat.le_of_ble_eq_true rfl) (pr_lets (d := 0) (e := 0) hI (z_rng _) (z_rng _)) (fun z σ1 h1 => ?_)
  refine z_aload_n dL_law_468 rfl ?_
  refine z_aload_n dL_law_469 rfl ?_
  refine z_iload_n dL_law_470 rfl ?_
  refine z_iconst dL_law_471 ?_
  refine z_iadd dL_law_472 ?_
  refine y_ld hL dL_law_473 (by omega) ?_
  refine z_aload_n dL_law_474 rfl ?_
  refine z_iload_n dL_law_475 rfl ?_
  refine z_iconst dL_law_476 ?_
  refine z_iadd dL_law_477 ?_
  refine y_ld hL dL_law_478 (by omega) ?_
  refine z_callVI (av := [_, _]) dL_law_479 vL_52 rfl (Nat.le_of_ble_eq_true rfl) rfl rfl rfl (Nat.le_of_ble_eq_true rfl) (Nat.le_of_ble_eq_true rfl) h1 (fun z2 σ2 h2 => ?_)
  exact y_icmp (tgt := 1653) dL_law_482 (by decide) h2.1 (kk σ2 h2.2)
set_option maxRecDepth 20000 in
theorem law_9 {b L n : Nat} {xs : Nat → Int32} {σ : Sto} (hL : L ≤ 3072) (hn : 6 * n + 6 ≤ L) (hI : Inv n σ) (hok : z_ok σ) (kk : ∀ σ2, Inv (n + 1) σ2 → Z (ML b L xs) 1653 [some (zR 503), some (zR 0), some (zR 9), some (zI ((6 * n : Nat) : Int))] [] σ2) : Z (ML b L xs) 487 [some (zR 503), some (zR 0), some (zR 9), some (zI ((6 * n : Nat) : Int))] [] σ := by
  refine z_aload_n dL_law_487 rfl ?_
  refine z_aload_n dL_law_488 rfl ?_
  refine z_iload_n dL_law_489 rfl ?_
  refine z_iconst dL_law_490 ?_
  refine z_iadd dL_law_491 ?_
  refine y_ld hL dL_law_492 (by omega) ?_
  refine z_aload_n dL_law_493 rfl ?_
  refine z_iload_n dL_law_494 rfl ?_
  refine z_iconst dL_law_495 ?_
  refine z_iadd dL_law_496 ?_
  refine y_ld hL dL_law_497 (by omega) ?_
  refine z_aload_n dL_law_498 rfl ?_
  refine z_iload_n dL_law_499 rfl ?_
  refine z_iconst dL_law_500 ?_
  refine z_iadd dL_law_501 ?_
  refine y_ld hL dL_law_502 (by omega) ?_
  refine z_callVI (av := [_, _, _]) dL_law_503 vL_53 rfl (Nat.le_of_ble_eq_true rfl) rfl rfl rfl (Nat.le_of_ble_eq_true rfl) (Nat.le_of_ble_eq_true rfl) (pr_through (d := 0) (e := 0) hI (z_rng _) (z_rng _) (z_rng _)) (fun z σ1 h1 => ?_)
  refine z_aload_n dL_law_506 rfl ?_
  refine z_aload_n dL_law_507 rfl ?_
  refine z_iload_n dL_law_508 rfl ?_
  refine z_iconst dL_law_509 ?_
  refine z_iadd dL_law_510 ?_
  refine y_ld hL dL_law_511 (by omega) ?_
  refine z_aload_n dL_law_512 rfl ?_
  refine z_iload_n dL_law_513 rfl ?_
  refine z_iconst dL_law_514 ?_
  refine z_iadd dL_law_515 ?_
  refine y_ld hL dL_law_516 (by omega) ?_
  refine z_aload_n dL_law_517 rfl ?_
  refine z_iload_n dL_law_518 rfl ?_
  refine z_iconst dL_law_519 ?_
  refine z_iadd dL_law_520 ?_
  refine y_ld hL dL_law_521 (by omega) ?_
  refine z_callVI (av := [_, _, _]) dL_law_522 vL_56 rfl (Nat.le_of_ble_eq_true rfl) rfl rfl rfl (Nat.le_of_ble_eq_true rfl) (Nat.le_of_ble_eq_true rfl) h1 (fun z2 σ2 h2 => ?_)
  exact y_icmp (tgt := 1653) dL_law_525 (by decide) h2.1 (kk σ2 h2.2)
set_option maxRecDepth 20000 in
theorem law_10 {b L n : Nat} {xs : Nat → Int32} {σ : Sto} (hL : L ≤ 3072) (hn : 6 * n + 6 ≤ L) (hI : Inv n σ) (hok : z_ok σ) (kk : ∀ σ2, Inv (n + 1) σ2 → Z (ML b L xs) 1653 [some (zR 503), some (zR 0), some (zR 9), some (zI ((6 * n : Nat) : Int))] [] σ2) : Z (ML b L xs) 530 [some (zR 503), some (zR 0), some (zR 9), some (zI ((6 * n : Nat) : Int))] [] σ := by
  refine z_aload_n dL_law_530 rfl ?_
  refine z_aload_n dL_law_531 rfl ?_
  refine z_iload_n dL_law_532 rfl ?_
  refine z_iconst dL_law_533 ?_
  refine z_iadd dL_law_534 ?_
  refine y_ld hL dL_law_535 (by omega) ?_
  refine z_aload_n dL_law_536 rfl ?_
  refine z_iload_n dL_law_537 rfl ?_
  refine z_iconst dL_law_538 ?_
  refine z_iadd dL_law_539 ?_
  refine y_ld hL dL_law_540 (by omega) ?_
  refine z_aload_n dL_law_541 rfl ?_
  refine z_iload_n dL_law_542 rfl ?_
  refine z_iconst dL_law_543 ?_
  refine z_iadd dL_law_544 ?_
  refine y_ld hL dL_law_545 (by omega) ?_
  refine z_aload_n dL_law_546 rfl ?_
  refine z_iload_n dL_law_547 rfl ?_
  refine z_iconst dL_law_548 ?_
  refine z_iadd dL_law_549 ?_
  refine y_ld hL dL_law_550 (by omega) ?_
  refine z_callVI (av := [_, _, _, _]) dL_law_551 vL_57 rfl (Nat.le_of_ble_eq_true rfl) rfl rfl rfl (Nat.le_of_ble_eq_true rfl) (Nat.le_of_ble_eq_true rfl) (pr_nth (d := 0) (e := 0) hI (z_rng _) (z_rng _) (z_rng _) (z_rng _)) (fun z σ1 h1 => ?_)
  refine z_aload_n dL_law_554 rfl ?_
  refine z_aload_n dL_law_555 rfl ?_
  refine z_iload_n dL_law_556 rfl ?_
  refine z_iconst dL_law_557 ?_
  refine z_iadd dL_law_558 ?_
  refine y_ld hL dL_law_559 (by omega) ?_
  refine z_aload_n dL_law_560 rfl ?_
  refine z_iload_n dL_law_561 rfl ?_
  refine z_iconst dL_law_562 ?_
  refine z_iadd dL_law_563 ?_
  refine y_ld hL dL_law_564 (by omega) ?_
  refine z_aload_n dL_law_565 rfl ?_
  refine z_iload_n dL_law_566 rfl ?_
  refine z_iconst dL_law_567 ?_
  refine z_iadd dL_law_568 ?_
  refine y_ld hL dL_law_569 (by omega) ?_
  refine z_aload_n dL_law_570 rfl ?_
  refine z_iload_n dL_law_571 rfl ?_
  refine z_iconst dL_law_572 ?_
  refine z_iadd dL_law_573 ?_
  refine y_ld hL dL_law_574 (by omega) ?_
  refine z_callVI (av := [_, _, _, _]) dL_law_575 vL_61 rfl (Nat.le_of_ble_eq_true rfl) rfl rfl rfl (Nat.le_of_ble_eq_true rfl) (Nat.le_of_ble_eq_true rfl) h1 (fun z2 σ2 h2 => ?_)
  exact y_icmp (tgt := 1653) dL_law_578 (by decide) h2.1 (kk σ2 h2.2)
set_option maxRecDepth 20000 in
theorem law_11 {b L n : Nat} {xs : Nat → Int32} {σ : Sto} (hL : L ≤ 3072) (hn : 6 * n + 6 ≤ L) (hI : Inv n σ) (hok : z_ok σ) (kk : ∀ σ2, Inv (n + 1) σ2 → Z (ML b L xs) 1653 [some (zR 503), some (zR 0), some (zR 9), some (zI ((6 * n : Nat) : Int))] [] σ2) : Z (ML b L xs) 583 [some (zR 503), some (zR 0), some (zR 9), some (zI ((6 * n : Nat) : Int))] [] σ := by
  refine z_aload_n dL_law_583 rfl ?_
  refine z_aload_n dL_law_584 rfl ?_
  refine z_iload_n dL_law_585 rfl ?_
  refine z_iconst dL_law_586 ?_
  refine z_iadd dL_law_587 ?_
  refine y_ld hL dL_law_588 (by omega) ?_
  refine z_aload_n dL_law_589 rfl ?_
  refine z_iload_n dL_law_590 rfl ?_
  refine z_iconst dL_law_591 ?_
  refine z_iadd dL_law_592 ?_
  refine y_ld hL dL_law_593 (by omega) ?_
  refine z_callVI (av := [_, _]) dL_law_594 vL_62 rfl (Nat.le_of_ble_eq_true rfl) rfl rfl rfl (Nat.le_of_ble_eq_true rfl) (Nat.le_of_ble_eq_true rfl) (pr_several (d := 0) (e := 0) hI (z_rng _) (z_rng _)) (fun z σ1 h1 => ?_)
  refine z_aload_n dL_law_597 rfl ?_
  refine z_aload_n dL_law_598 rfl ?_
  refine z_iload_n dL_law_599 rfl ?_
  refine z_iconst dL_law_600 ?_
  refine z_iadd dL_law_601 ?_
  refine y_ld hL dL_law_602 (by omega) ?_
  refine z_aload_n dL_law_603 rfl ?_
  refine z_iload_n dL_law_604 rfl ?_
  refine z_iconst dL_law_605 ?_
  refine z_iadd dL_law_606 ?_
  refine y_ld hL dL_law_607 (by omega) ?_
  refine z_callVI (av := [_, _]) dL_law_608 vL_65 rfl (Nat.le_of_ble_eq_true rfl) rfl rfl rfl (Nat.le_of_ble_eq_true rfl) (Nat.le_of_ble_eq_true rfl) h1 (fun z2 σ2 h2 => ?_)
  exact y_icmp (tgt := 1653) dL_law_611 (by decide) h2.1 (kk σ2 h2.2)
set_option maxRecDepth 20000 in
theorem law_12 {b L n : Nat} {xs : Nat → Int32} {σ : Sto} (hL : L ≤ 3072) (hn : 6 * n + 6 ≤ L) (hI : Inv n σ) (hok : z_ok σ) (kk : ∀ σ2, Inv (n + 1) σ2 → Z (ML b L xs) 1653 [some (zR 503), some (zR 0), some (zR 9), some (zI ((6 * n : Nat) : Int))] [] σ2) : Z (ML b L xs) 616 [some (zR 503), some (zR 0), some (zR 9), some (zI ((6 * n : Nat) : Int))] [] σ := by
  refine z_aload_n dL_law_616 rfl ?_
  refine z_aload_n dL_law_617 rfl ?_
  refine z_iload_n dL_law_618 rfl ?_
  refine z_iconst dL_law_619 ?_
  refine z_iadd dL_law_620 ?_
  refine y_ld hL dL_law_621 (by omega) ?_
  refine z_aload_n dL_law_622 rfl ?_
  refine z_iload_n dL_law_623 rfl ?_
  refine z_iconst dL_law_624 ?_
  refine z_iadd dL_law_625 ?_
  refine y_ld hL dL_law_626 (by omega) ?_
  refine z_aload_n dL_law_627 rfl ?_
  refine z_iload_n dL_law_628 rfl ?_
  refine z_iconst dL_law_629 ?_
  refine z_iadd dL_law_630 ?_
  refine y_ld hL dL_law_631 (by omega) ?_
  refine z_callVI (av := [_, _, _]) dL_law_632 vL_66 rfl (Nat.le_of_ble_eq_true rfl) rfl rfl rfl (Nat.le_of_ble_eq_true rfl) (Nat.le_of_ble_eq_true rfl) (pr_say (d := 0) (e := 0) hI (z_rng _) (z_rng _) (z_rng _)) (fun z σ1 h1 => ?_)
  refine z_aload_n dL_law_635 rfl ?_
  refine z_aload_n dL_law_636 rfl ?_
  refine z_iload_n dL_law_637 rfl ?_
  refine z_iconst dL_law_638 ?_
  refine z_iadd dL_law_639 ?_
  refine y_ld hL dL_law_640 (by omega) ?_
  refine z_aload_n dL_law_641 rfl ?_
  refine z_iload_n dL_law_642 rfl ?_
  refine z_iconst dL_law_643 ?_
  refine z_iadd dL_law_644 ?_
  refine y_ld hL dL_law_645 (by omega) ?_
  refine z_aload_n dL_law_646 rfl ?_
  refine z_iload_n dL_law_647 rfl ?_
  refine z_iconst dL_law_648 ?_
  refine z_iadd dL_law_649 ?_
  refine y_ld hL dL_law_650 (by omega) ?_
  refine z_callVI (av := [_, _, _]) dL_law_651 vL_69 rfl (Nat.le_of_ble_eq_true rfl) rfl rfl rfl (Nat.le_of_ble_eq_true rfl) (Nat.le_of_ble_eq_true rfl) h1 (fun z2 σ2 h2 => ?_)
  exact y_icmp (tgt := 1653) dL_law_654 (by decide) h2.1 (kk σ2 h2.2)
set_option maxRecDepth 20000 in
theorem law_13 {b L n : Nat} {xs : Nat → Int32} {σ : Sto} (hL : L ≤ 3072) (hn : 6 * n + 6 ≤ L) (hI : Inv n σ) (hok : z_ok σ) (kk : ∀ σ2, Inv (n + 1) σ2 → Z (ML b L xs) 1653 [some (zR 503), some (zR 0), some (zR 9), some (zI ((6 * n : Nat) : Int))] [] σ2) : Z (ML b L xs) 659 [some (zR 503), some (zR 0), some (zR 9), some (zI ((6 * n : Nat) : Int))] [] σ := by
  refine z_aload_n dL_law_659 rfl ?_
  refine z_aload_n dL_law_660 rfl ?_
  refine z_iload_n dL_law_661 rfl ?_
  refine z_iconst dL_law_662 ?_
  refine z_iadd dL_law_663 ?_
  refine y_ld hL dL_law_664 (by omega) ?_
  refine z_callVI (av := [_]) dL_law_665 vL_70 rfl (Nat.le_of_ble_eq_true rfl) rfl rfl rfl (Nat.le_of_ble_eq_true rfl) (Nat.le_of_ble_eq_true rfl) (pr_finest (d := 0) (e := 0) hI (z_rng _)) (fun z σ1 h1 => ?_)
  refine z_aload_n dL_law_668 rfl ?_
  refine z_aload_n dL_law_669 rfl ?_
  refine z_iload_n dL_law_670 rfl ?_
  refine z_iconst dL_law_671 ?_
  refine z_iadd dL_law_672 ?_
  refine y_ld hL dL_law_673 (by omega) ?_
  refine z_callVI (av := [_]) dL_law_674 vL_73 rfl (Nat.le_of_ble_eq_true rfl) rfl rfl rfl (Nat.le_of_ble_eq_true rfl) (Nat.le_of_ble_eq_true rfl) h1 (fun z2 σ2 h2 => ?_)
  exact y_icmp (tgt := 1653) dL_law_677 (by decide) h2.1 (kk σ2 h2.2)
set_option maxRecDepth 20000 in
theorem law_14 {b L n : Nat} {xs : Nat → Int32} {σ : Sto} (hL : L ≤ 3072) (hn : 6 * n + 6 ≤ L) (hI : Inv n σ) (hok : z_ok σ) (kk : ∀ σ2, Inv (n + 1) σ2 → Z (ML b L xs) 1653 [some (zR 503), some (zR 0), some (zR 9), some (zI ((6 * n : Nat) : Int))] [] σ2) : Z (ML b L xs) 682 [some (zR 503), some (zR 0), some (zR 9), some (zI ((6 * n : Nat) : Int))] [] σ := by
  refine z_aload_n dL_law_682 rfl ?_
  refine z_aload_n dL_law_683 rfl ?_
  refine z_iload_n dL_law_684 rfl ?_
  refine z_iconst dL_law_685 ?_
  refine z_iadd dL_law_686 ?_
  refine y_ld hL dL_law_687 (by omega) ?_
  refine z_callVI (av := [_]) dL_law_688 vL_74 rfl (Nat.le_of_ble_eq_true rfl) rfl rfl rfl (Nat.le_of_ble_eq_true rfl) (Nat.le_of_ble_eq_true rfl) (pr_keeps (d := 0) (e := 0) hI (z_rng _)) (fun z σ1 h1 => ?_)
  refine z_aload_n dL_law_691 rfl ?_
  refine z_aload_n dL_law_692 rfl ?_
  refine z_iload_n dL_law_693 rfl ?_
  refine z_iconst dL_law_694 ?_
  refine z_iadd dL_law_695 ?_
  refine y_ld hL dL_law_696 (by omega) ?_
  refine z_callVI (av := [_]) dL_law_697 vL_77 rfl (Nat.le_of_ble_eq_true rfl) rfl rfl rfl (Nat.le_of_ble_eq_true rfl) (Nat.le_of_ble_eq_true rfl) h1 (fun z2 σ2 h2 => ?_)
  exact y_icmp (tgt := 1653) dL_law_700 (by decide) h2.1 (kk σ2 h2.2)
set_option maxRecDepth 20000 in
theorem law_15 {b L n : Nat} {xs : Nat → Int32} {σ : Sto} (hL : L ≤ 3072) (hn : 6 * n + 6 ≤ L) (hI : Inv n σ) (hok : z_ok σ) (kk : ∀ σ2, Inv (n + 1) σ2 → Z (ML b L xs) 1653 [some (zR 503), some (zR 0), some (zR 9), some (zI ((6 * n : Nat) : Int))] [] σ2) : Z (ML b L xs) 705 [some (zR 503), some (zR 0), some (zR 9), some (zI ((6 * n : Nat) : Int))] [] σ := by
  refine z_aload_n dL_law_705 rfl ?_
  refine z_aload_n dL_law_706 rfl ?_
  refine z_iload_n dL_law_707 rfl ?_
  refine z_iconst dL_law_708 ?_
  refine z_iadd dL_law_709 ?_
  refine y_ld hL dL_law_710 (by omega) ?_
  refine z_callVI (av := [_]) dL_law_711 vL_78 rfl (Nat.le_of_ble_eq_true rfl) rfl rfl rfl (Nat.le_of_ble_eq_true rfl) (Nat.le_of_ble_eq_true rfl) (pr_leastLost (d := 0) (e := 0) hI (z_rng _)) (fun z σ1 h1 => ?_)
  refine z_aload_n dL_law_714 rfl ?_
  refine z_aload_n dL_law_715 rfl ?_
  refine z_iload_n dL_law_716 rfl ?_
  refine z_iconst dL_law_717 ?_
  refine z_iadd dL_law_718 ?_
  refine y_ld hL dL_law_719 (by omega) ?_
  refine z_callVI (av := [_]) dL_law_720 vL_81 rfl (Nat.le_of_ble_eq_true rfl) rfl rfl rfl (Nat.le_of_ble_eq_true rfl) (Nat.le_of_ble_eq_true rfl) h1 (fun z2 σ2 h2 => ?_)
  exact y_icmp (tgt := 1653) dL_law_723 (by decide) h2.1 (kk σ2 h2.2)
set_option maxRecDepth 20000 in
theorem law_16 {b L n : Nat} {xs : Nat → Int32} {σ : Sto} (hL : L ≤ 3072) (hn : 6 * n + 6 ≤ L) (hI : Inv n σ) (hok : z_ok σ) (kk : ∀ σ2, Inv (n + 1) σ2 → Z (ML b L xs) 1653 [some (zR 503), some (zR 0), some (zR 9), some (zI ((6 * n : Nat) : Int))] [] σ2) : Z (ML b L xs) 728 [some (zR 503), some (zR 0), some (zR 9), some (zI ((6 * n : Nat) : Int))] [] σ := by
  refine z_aload_n dL_law_728 rfl ?_
  refine z_aload_n dL_law_729 rfl ?_
  refine z_iload_n dL_law_730 rfl ?_
  refine z_iconst dL_law_731 ?_
  refine z_iadd dL_law_732 ?_
  refine y_ld hL dL_law_733 (by omega) ?_
  refine z_callVI (av := [_]) dL_law_734 vL_82 rfl (Nat.le_of_ble_eq_true rfl) rfl rfl rfl (Nat.le_of_ble_eq_true rfl) (Nat.le_of_ble_eq_true rfl) (pr_most (d := 0) (e := 0) hI (z_rng _)) (fun z σ1 h1 => ?_)
  refine z_aload_n dL_law_737 rfl ?_
  refine z_aload_n dL_law_738 rfl ?_
  refine z_iload_n dL_law_739 rfl ?_
  refine z_iconst dL_law_740 ?_
  refine z_iadd dL_law_741 ?_
  refine y_ld hL dL_law_742 (by omega) ?_
  refine z_callVI (av := [_]) dL_law_743 vL_85 rfl (Nat.le_of_ble_eq_true rfl) rfl rfl rfl (Nat.le_of_ble_eq_true rfl) (Nat.le_of_ble_eq_true rfl) h1 (fun z2 σ2 h2 => ?_)
  exact y_icmp (tgt := 1653) dL_law_746 (by decide) h2.1 (kk σ2 h2.2)
set_option maxRecDepth 20000 in
theorem law_17 {b L n : Nat} {xs : Nat → Int32} {σ : Sto} (hL : L ≤ 3072) (hn : 6 * n + 6 ≤ L) (hI : Inv n σ) (hok : z_ok σ) (kk : ∀ σ2, Inv (n + 1) σ2 → Z (ML b L xs) 1653 [some (zR 503), some (zR 0), some (zR 9), some (zI ((6 * n : Nat) : Int))] [] σ2) : Z (ML b L xs) 751 [some (zR 503), some (zR 0), some (zR 9), some (zI ((6 * n : Nat) : Int))] [] σ := by
  refine z_aload_n dL_law_751 rfl ?_
  refine z_aload_n dL_law_752 rfl ?_
  refine z_iload_n dL_law_753 rfl ?_
  refine z_iconst dL_law_754 ?_
  refine z_iadd dL_law_755 ?_
  refine y_ld hL dL_law_756 (by omega) ?_
  refine z_aload_n dL_law_757 rfl ?_
  refine z_iload_n dL_law_758 rfl ?_
  refine z_iconst dL_law_759 ?_
  refine z_iadd dL_law_760 ?_
  refine y_ld hL dL_law_761 (by omega) ?_
  refine z_callVJ (av := [_, _]) dL_law_762 vL_86 rfl (Nat.le_of_ble_eq_true rfl) rfl rfl rfl (Nat.le_of_ble_eq_true rfl) (Nat.le_of_ble_eq_true rfl) (pr_said (d := 0) (e := 0) hI (z_rng _) (z_rng _)) (fun z σ1 h1 => ?_)
  refine z_aload_n dL_law_765 rfl ?_
  refine z_aload_n dL_law_766 rfl ?_
  refine z_iload_n dL_law_767 rfl ?_
  refine z_iconst dL_law_768 ?_
  refine z_iadd dL_law_769 ?_
  refine y_ld hL dL_law_770 (by omega) ?_
  refine z_aload_n dL_law_771 rfl ?_
  refine z_iload_n dL_law_772 rfl ?_
  refine z_iconst dL_law_773 ?_
  refine z_iadd dL_law_774 ?_
  refine y_ld hL dL_law_775 (by omega) ?_
  refine z_callVJ (av := [_, _]) dL_law_776 vL_90 rfl (Nat.le_of_ble_eq_true rfl) rfl rfl rfl (Nat.le_of_ble_eq_true rfl) (Nat.le_of_ble_eq_true rfl) h1 (fun z2 σ2 h2 => ?_)
  exact y_lc (tgt := 1653) dL_law_779 dL_law_780 (by decide) h2.1 (kk σ2 h2.2)
set_option maxRecDepth 20000 in
theorem law_18 {b L n : Nat} {xs : Nat → Int32} {σ : Sto} (hL : L ≤ 3072) (hn : 6 * n + 6 ≤ L) (hI : Inv n σ) (hok : z_ok σ) (kk : ∀ σ2, Inv (n + 1) σ2 → Z (ML b L xs) 1653 [some (zR 503), some (zR 0), some (zR 9), some (zI ((6 * n : Nat) : Int))] [] σ2) : Z (ML b L xs) 785 [some (zR 503), some (zR 0), some (zR 9), some (zI ((6 * n : Nat) : Int))] [] σ := by
  refine z_aload_n dL_law_785 rfl ?_
  refine z_aload_n dL_law_786 rfl ?_
  refine z_iload_n dL_law_787 rfl ?_
  refine z_iconst dL_law_788 ?_
  refine z_iadd dL_law_789 ?_
  refine y_ld hL dL_law_790 (by omega) ?_
  refine z_aload_n dL_law_791 rfl ?_
  refine z_iload_n dL_law_792 rfl ?_
  refine z_iconst dL_law_793 ?_
  refine z_iadd dL_law_794 ?_
  refine y_ld hL dL_law_795 (by omega) ?_
  refine z_aload_n dL_law_796 rfl ?_
  refine z_iload_n dL_law_797 rfl ?_
  refine z_iconst dL_law_798 ?_
  refine z_iadd dL_law_799 ?_
  refine y_ld hL dL_law_800 (by omega) ?_
  refine z_callVI (av := [_, _, _]) dL_law_801 vL_91 rfl (Nat.le_of_ble_eq_true rfl) rfl rfl rfl (Nat.le_of_ble_eq_true rfl) (Nat.le_of_ble_eq_true rfl) (pr_saidAt (d := 0) (e := 0) hI (z_rng _) (z_rng _) (z_rng _)) (fun z σ1 h1 => ?_)
  refine z_aload_n dL_law_804 rfl ?_
  refine z_aload_n dL_law_805 rfl ?_
  refine z_iload_n dL_law_806 rfl ?_
  refine z_iconst dL_law_807 ?_
  refine z_iadd dL_law_808 ?_
  refine y_ld hL dL_law_809 (by omega) ?_
  refine z_aload_n dL_law_810 rfl ?_
  refine z_iload_n dL_law_811 rfl ?_
  refine z_iconst dL_law_812 ?_
  refine z_iadd dL_law_813 ?_
  refine y_ld hL dL_law_814 (by omega) ?_
  refine z_aload_n dL_law_815 rfl ?_
  refine z_iload_n dL_law_816 rfl ?_
  refine z_iconst dL_law_817 ?_
  refine z_iadd dL_law_818 ?_
  refine y_ld hL dL_law_819 (by omega) ?_
  refine z_callVI (av := [_, _, _]) dL_law_820 vL_94 rfl (Nat.le_of_ble_eq_true rfl) rfl rfl rfl (Nat.le_of_ble_eq_true rfl) (Nat.le_of_ble_eq_true rfl) h1 (fun z2 σ2 h2 => ?_)
  exact y_icmp (tgt := 1653) dL_law_823 (by decide) h2.1 (kk σ2 h2.2)
set_option maxRecDepth 20000 in
theorem law_19 {b L n : Nat} {xs : Nat → Int32} {σ : Sto} (hL : L ≤ 3072) (hn : 6 * n + 6 ≤ L) (hI : Inv n σ) (hok : z_ok σ) (kk : ∀ σ2, Inv (n + 1) σ2 → Z (ML b L xs) 1653 [some (zR 503), some (zR 0), some (zR 9), some (zI ((6 * n : Nat) : Int))] [] σ2) : Z (ML b L xs) 828 [some (zR 503), some (zR 0), some (zR 9), some (zI ((6 * n : Nat) : Int))] [] σ := by
  refine z_aload_n dL_law_828 rfl ?_
  refine z_aload_n dL_law_829 rfl ?_
  refine z_iload_n dL_law_830 rfl ?_
  refine z_iconst dL_law_831 ?_
  refine z_iadd dL_law_832 ?_
  refine y_ld hL dL_law_833 (by omega) ?_
  refine z_aload_n dL_law_834 rfl ?_
  refine z_iload_n dL_law_835 rfl ?_
  refine z_iconst dL_law_836 ?_
  refine z_iadd dL_law_837 ?_
  refine y_ld hL dL_law_838 (by omega) ?_
  refine z_aload_n dL_law_839 rfl ?_
  refine z_iload_n dL_law_840 rfl ?_
  refine z_iconst dL_law_841 ?_
  refine z_iadd dL_law_842 ?_
  refine y_ld hL dL_law_843 (by omega) ?_
  refine z_callVJ (av := [_, _, _]) dL_law_844 vL_95 rfl (Nat.le_of_ble_eq_true rfl) rfl rfl rfl (Nat.le_of_ble_eq_true rfl) (Nat.le_of_ble_eq_true rfl) (pr_alone (d := 0) (e := 0) hI (z_rng _) (z_rng _) (z_rng _)) (fun z σ1 h1 => ?_)
  refine z_aload_n dL_law_847 rfl ?_
  refine z_aload_n dL_law_848 rfl ?_
  refine z_iload_n dL_law_849 rfl ?_
  refine z_iconst dL_law_850 ?_
  refine z_iadd dL_law_851 ?_
  refine y_ld hL dL_law_852 (by omega) ?_
  refine z_aload_n dL_law_853 rfl ?_
  refine z_iload_n dL_law_854 rfl ?_
  refine z_iconst dL_law_855 ?_
  refine z_iadd dL_law_856 ?_
  refine y_ld hL dL_law_857 (by omega) ?_
  refine z_aload_n dL_law_858 rfl ?_
  refine z_iload_n dL_law_859 rfl ?_
  refine z_iconst dL_law_860 ?_
  refine z_iadd dL_law_861 ?_
  refine y_ld hL dL_law_862 (by omega) ?_
  refine z_callVJ (av := [_, _, _]) dL_law_863 vL_99 rfl (Nat.le_of_ble_eq_true rfl) rfl rfl rfl (Nat.le_of_ble_eq_true rfl) (Nat.le_of_ble_eq_true rfl) h1 (fun z2 σ2 h2 => ?_)
  exact y_lc (tgt := 1653) dL_law_866 dL_law_867 (by decide) h2.1 (kk σ2 h2.2)
set_option maxRecDepth 20000 in
theorem law_20 {b L n : Nat} {xs : Nat → Int32} {σ : Sto} (hL : L ≤ 3072) (hn : 6 * n + 6 ≤ L) (hI : Inv n σ) (hok : z_ok σ) (kk : ∀ σ2, Inv (n + 1) σ2 → Z (ML b L xs) 1653 [some (zR 503), some (zR 0), some (zR 9), some (zI ((6 * n : Nat) : Int))] [] σ2) : Z (ML b L xs) 872 [some (zR 503), some (zR 0), some (zR 9), some (zI ((6 * n : Nat) : Int))] [] σ := by
  refine z_aload_n dL_law_872 rfl ?_
  refine z_aload_n dL_law_873 rfl ?_
  refine z_iload_n dL_law_874 rfl ?_
  refine z_iconst dL_law_875 ?_
  refine z_iadd dL_law_876 ?_
  refine y_ld hL dL_law_877 (by omega) ?_
  refine z_aload_n dL_law_878 rfl ?_
  refine z_iload_n dL_law_879 rfl ?_
  refine z_iconst dL_law_880 ?_
  refine z_iadd dL_law_881 ?_
  refine y_ld hL dL_law_882 (by omega) ?_
  refine z_callVI (av := [_, _]) dL_law_883 vL_100 rfl (Nat.le_of_ble_eq_true rfl) rfl rfl rfl (Nat.le_of_ble_eq_true rfl) (Nat.le_of_ble_eq_true rfl) (pr_howFine (d := 0) (e := 0) hI (z_rng _) (z_rng _)) (fun z σ1 h1 => ?_)
  refine z_aload_n dL_law_886 rfl ?_
  refine z_aload_n dL_law_887 rfl ?_
  refine z_iload_n dL_law_888 rfl ?_
  refine z_iconst dL_law_889 ?_
  refine z_iadd dL_law_890 ?_
  refine y_ld hL dL_law_891 (by omega) ?_
  refine z_aload_n dL_law_892 rfl ?_
  refine z_iload_n dL_law_893 rfl ?_
  refine z_iconst dL_law_894 ?_
  refine z_iadd dL_law_895 ?_
  refine y_ld hL dL_law_896 (by omega) ?_
  refine z_callVI (av := [_, _]) dL_law_897 vL_103 rfl (Nat.le_of_ble_eq_true rfl) rfl rfl rfl (Nat.le_of_ble_eq_true rfl) (Nat.le_of_ble_eq_true rfl) h1 (fun z2 σ2 h2 => ?_)
  exact y_icmp (tgt := 1653) dL_law_900 (by decide) h2.1 (kk σ2 h2.2)
set_option maxRecDepth 20000 in
theorem law_21 {b L n : Nat} {xs : Nat → Int32} {σ : Sto} (hL : L ≤ 3072) (hn : 6 * n + 6 ≤ L) (hI : Inv n σ) (hok : z_ok σ) (kk : ∀ σ2, Inv (n + 1) σ2 → Z (ML b L xs) 1653 [some (zR 503), some (zR 0), some (zR 9), some (zI ((6 * n : Nat) : Int))] [] σ2) : Z (ML b L xs) 905 [some (zR 503), some (zR 0), some (zR 9), some (zI ((6 * n : Nat) : Int))] [] σ := by
  refine z_aload_n dL_law_905 rfl ?_
  refine z_aload_n dL_law_906 rfl ?_
  refine z_iload_n dL_law_907 rfl ?_
  refine z_iconst dL_law_908 ?_
  refine z_iadd dL_law_909 ?_
  refine y_ld hL dL_law_910 (by omega) ?_
  refine z_aload_n dL_law_911 rfl ?_
  refine z_iload_n dL_law_912 rfl ?_
  refine z_iconst dL_law_913 ?_
  refine z_iadd dL_law_914 ?_
  refine y_ld hL dL_law_915 (by omega) ?_
  refine z_aload_n dL_law_916 rfl ?_
  refine z_iload_n dL_law_917 rfl ?_
  refine z_iconst dL_law_918 ?_
  refine z_iadd dL_law_919 ?_
  refine y_ld hL dL_law_920 (by omega) ?_
  refine z_callVI (av := [_, _, _]) dL_law_921 vL_104 rfl (Nat.le_of_ble_eq_true rfl) rfl rfl rfl (Nat.le_of_ble_eq_true rfl) (Nat.le_of_ble_eq_true rfl) (pr_between (d := 0) (e := 0) hI (z_rng _) (z_rng _) (z_rng _)) (fun z σ1 h1 => ?_)
  refine z_aload_n dL_law_924 rfl ?_
  refine z_aload_n dL_law_925 rfl ?_
  refine z_iload_n dL_law_926 rfl ?_
  refine z_iconst dL_law_927 ?_
  refine z_iadd dL_law_928 ?_
  refine y_ld hL dL_law_929 (by omega) ?_
  refine z_aload_n dL_law_930 rfl ?_
  refine z_iload_n dL_law_931 rfl ?_
  refine z_iconst dL_law_932 ?_
  refine z_iadd dL_law_933 ?_
  refine y_ld hL dL_law_934 (by omega) ?_
  refine z_aload_n dL_law_935 rfl ?_
  refine z_iload_n dL_law_936 rfl ?_
  refine z_iconst dL_law_937 ?_
  refine z_iadd dL_law_938 ?_
  refine y_ld hL dL_law_939 (by omega) ?_
  refine z_callVI (av := [_, _, _]) dL_law_940 vL_107 rfl (Nat.le_of_ble_eq_true rfl) rfl rfl rfl (Nat.le_of_ble_eq_true rfl) (Nat.le_of_ble_eq_true rfl) h1 (fun z2 σ2 h2 => ?_)
  exact y_icmp (tgt := 1653) dL_law_943 (by decide) h2.1 (kk σ2 h2.2)
set_option maxRecDepth 20000 in
theorem law_22 {b L n : Nat} {xs : Nat → Int32} {σ : Sto} (hL : L ≤ 3072) (hn : 6 * n + 6 ≤ L) (hI : Inv n σ) (hok : z_ok σ) (kk : ∀ σ2, Inv (n + 1) σ2 → Z (ML b L xs) 1653 [some (zR 503), some (zR 0), some (zR 9), some (zI ((6 * n : Nat) : Int))] [] σ2) : Z (ML b L xs) 948 [some (zR 503), some (zR 0), some (zR 9), some (zI ((6 * n : Nat) : Int))] [] σ := by
  refine z_aload_n dL_law_948 rfl ?_
  refine z_aload_n dL_law_949 rfl ?_
  refine z_iload_n dL_law_950 rfl ?_
  refine z_iconst dL_law_951 ?_
  refine z_iadd dL_law_952 ?_
  refine y_ld hL dL_law_953 (by omega) ?_
  refine z_aload_n dL_law_954 rfl ?_
  refine z_iload_n dL_law_955 rfl ?_
  refine z_iconst dL_law_956 ?_
  refine z_iadd dL_law_957 ?_
  refine y_ld hL dL_law_958 (by omega) ?_
  refine z_aload_n dL_law_959 rfl ?_
  refine z_iload_n dL_law_960 rfl ?_
  refine z_iconst dL_law_961 ?_
  refine z_iadd dL_law_962 ?_
  refine y_ld hL dL_law_963 (by omega) ?_
  refine z_callVI (av := [_, _, _]) dL_law_964 vL_108 rfl (Nat.le_of_ble_eq_true rfl) rfl rfl rfl (Nat.le_of_ble_eq_true rfl) (Nat.le_of_ble_eq_true rfl) (pr_meant (d := 0) (e := 0) hI (z_rng _) (z_rng _) (z_rng _)) (fun z σ1 h1 => ?_)
  refine z_aload_n dL_law_967 rfl ?_
  refine z_aload_n dL_law_968 rfl ?_
  refine z_iload_n dL_law_969 rfl ?_
  refine z_iconst dL_law_970 ?_
  refine z_iadd dL_law_971 ?_
  refine y_ld hL dL_law_972 (by omega) ?_
  refine z_aload_n dL_law_973 rfl ?_
  refine z_iload_n dL_law_974 rfl ?_
  refine z_iconst dL_law_975 ?_
  refine z_iadd dL_law_976 ?_
  refine y_ld hL dL_law_977 (by omega) ?_
  refine z_aload_n dL_law_978 rfl ?_
  refine z_iload_n dL_law_979 rfl ?_
  refine z_iconst dL_law_980 ?_
  refine z_iadd dL_law_981 ?_
  refine y_ld hL dL_law_982 (by omega) ?_
  refine z_callVI (av := [_, _, _]) dL_law_983 vL_111 rfl (Nat.le_of_ble_eq_true rfl) rfl rfl rfl (Nat.le_of_ble_eq_true rfl) (Nat.le_of_ble_eq_true rfl) h1 (fun z2 σ2 h2 => ?_)
  exact y_icmp (tgt := 1653) dL_law_986 (by decide) h2.1 (kk σ2 h2.2)
set_option maxRecDepth 20000 in
theorem law_23 {b L n : Nat} {xs : Nat → Int32} {σ : Sto} (hL : L ≤ 3072) (hn : 6 * n + 6 ≤ L) (hI : Inv n σ) (hok : z_ok σ) (kk : ∀ σ2, Inv (n + 1) σ2 → Z (ML b L xs) 1653 [some (zR 503), some (zR 0), some (zR 9), some (zI ((6 * n : Nat) : Int))] [] σ2) : Z (ML b L xs) 991 [some (zR 503), some (zR 0), some (zR 9), some (zI ((6 * n : Nat) : Int))] [] σ := by
  refine z_aload_n dL_law_991 rfl ?_
  refine z_aload_n dL_law_992 rfl ?_
  refine z_iload_n dL_law_993 rfl ?_
  refine z_iconst dL_law_994 ?_
  refine z_iadd dL_law_995 ?_
  refine y_ld hL dL_law_996 (by omega) ?_
  refine z_aload_n dL_law_997 rfl ?_
  refine z_iload_n dL_law_998 rfl ?_
  refine z_iconst dL_law_999 ?_
  refine z_iadd dL_law_1000 ?_
  refine y_ld hL dL_law_1001 (by omega) ?_
  refine z_aload_n dL_law_1002 rfl ?_
  refine z_iload_n dL_law_1003 rfl ?_
  refine z_iconst dL_law_1004 ?_
  refine z_iadd dL_law_1005 ?_
  refine y_ld hL dL_law_1006 (by omega) ?_
  refine z_aload_n dL_law_1007 rfl ?_
  refine z_iload_n dL_law_1008 rfl ?_
  refine z_iconst dL_law_1009 ?_
  refine z_iadd dL_law_1010 ?_
  refine y_ld hL dL_law_1011 (by omega) ?_
  refine z_callVJ (av := [_, _, _, _]) dL_law_1012 vL_112 rfl (Nat.le_of_ble_eq_true rfl) rfl rfl rfl (Nat.le_of_ble_eq_true rfl) (Nat.le_of_ble_eq_true rfl) (pr_likely (d := 0) (e := 0) hI (z_rng _) (z_rng _) (z_rng _) (z_rng _)) (fun z σ1 h1 => ?_)
  refine z_aload_n dL_law_1015 rfl ?_
  refine z_aload_n dL_law_1016 rfl ?_
  refine z_iload_n dL_law_1017 rfl ?_
  refine z_iconst dL_law_1018 ?_
  refine z_iadd dL_law_1019 ?_
  refine y_ld hL dL_law_1020 (by omega) ?_
  refine z_aload_n dL_law_1021 rfl ?_
  refine z_iload_n dL_law_1022 rfl ?_
  refine z_iconst dL_law_1023 ?_
  refine z_iadd dL_law_1024 ?_
  refine y_ld hL dL_law_1025 (by omega) ?_
  refine z_aload_n dL_law_1026 rfl ?_
  refine z_iload_n dL_law_1027 rfl ?_
  refine z_iconst dL_law_1028 ?_
  refine z_iadd dL_law_1029 ?_
  refine y_ld hL dL_law_1030 (by omega) ?_
  refine z_aload_n dL_law_1031 rfl ?_
  refine z_iload_n dL_law_1032 rfl ?_
  refine z_iconst dL_law_1033 ?_
  refine z_iadd dL_law_1034 ?_
  refine y_ld hL dL_law_1035 (by omega) ?_
  refine z_callVJ (av := [_, _, _, _]) dL_law_1036 vL_116 rfl (Nat.le_of_ble_eq_true rfl) rfl rfl rfl (Nat.le_of_ble_eq_true rfl) (Nat.le_of_ble_eq_true rfl) h1 (fun z2 σ2 h2 => ?_)
  exact y_lc (tgt := 1653) dL_law_1039 dL_law_1040 (by decide) h2.1 (kk σ2 h2.2)
set_option maxRecDepth 20000 in
theorem law_24 {b L n : Nat} {xs : Nat → Int32} {σ : Sto} (hL : L ≤ 3072) (hn : 6 * n + 6 ≤ L) (hI : Inv n σ) (hok : z_ok σ) (kk : ∀ σ2, Inv (n + 1) σ2 → Z (ML b L xs) 1653 [some (zR 503), some (zR 0), some (zR 9), some (zI ((6 * n : Nat) : Int))] [] σ2) : Z (ML b L xs) 1045 [some (zR 503), some (zR 0), some (zR 9), some (zI ((6 * n : Nat) : Int))] [] σ := by
  refine z_aload_n dL_law_1045 rfl ?_
  refine z_aload_n dL_law_1046 rfl ?_
  refine z_iload_n dL_law_1047 rfl ?_
  refine z_iconst dL_law_1048 ?_
  refine z_iadd dL_law_1049 ?_
  refine y_ld hL dL_law_1050 (by omega) ?_
  refine z_aload_n dL_law_1051 rfl ?_
  refine z_iload_n dL_law_1052 rfl ?_
  refine z_iconst dL_law_1053 ?_
  refine z_iadd dL_law_1054 ?_
  refine y_ld hL dL_law_1055 (by omega) ?_
  refine z_callVI (av := [_, _]) dL_law_1056 vL_117 rfl (Nat.le_of_ble_eq_true rfl) rfl rfl rfl (Nat.le_of_ble_eq_true rfl) (Nat.le_of_ble_eq_true rfl) (pr_game (d := 0) (e := 0) hI (z_rng _) (z_rng _)) (fun z σ1 h1 => ?_)
  refine z_aload_n dL_law_1059 rfl ?_
  refine z_aload_n dL_law_1060 rfl ?_
  refine z_iload_n dL_law_1061 rfl ?_
  refine z_iconst dL_law_1062 ?_
  refine z_iadd dL_law_1063 ?_
  refine y_ld hL dL_law_1064 (by omega) ?_
  refine z_aload_n dL_law_1065 rfl ?_
  refine z_iload_n dL_law_1066 rfl ?_
  refine z_iconst dL_law_1067 ?_
  refine z_iadd dL_law_1068 ?_
  refine y_ld hL dL_law_1069 (by omega) ?_
  refine z_callVI (av := [_, _]) dL_law_1070 vL_120 rfl (Nat.le_of_ble_eq_true rfl) rfl rfl rfl (Nat.le_of_ble_eq_true rfl) (Nat.le_of_ble_eq_true rfl) h1 (fun z2 σ2 h2 => ?_)
  exact y_icmp (tgt := 1653) dL_law_1073 (by decide) h2.1 (kk σ2 h2.2)
set_option maxRecDepth 20000 in
theorem law_25 {b L n : Nat} {xs : Nat → Int32} {σ : Sto} (hL : L ≤ 3072) (hn : 6 * n + 6 ≤ L) (hI : Inv n σ) (hok : z_ok σ) (kk : ∀ σ2, Inv (n + 1) σ2 → Z (ML b L xs) 1653 [some (zR 503), some (zR 0), some (zR 9), some (zI ((6 * n : Nat) : Int))] [] σ2) : Z (ML b L xs) 1078 [some (zR 503), some (zR 0), some (zR 9), some (zI ((6 * n : Nat) : Int))] [] σ := by
  refine z_aload_n dL_law_1078 rfl ?_
  refine z_aload_n dL_law_1079 rfl ?_
  refine z_iload_n dL_law_1080 rfl ?_
  refine z_iconst dL_law_1081 ?_
  refine z_iadd dL_law_1082 ?_
  refine y_ld hL dL_law_1083 (by omega) ?_
  refine z_aload_n dL_law_1084 rfl ?_
  refine z_iload_n dL_law_1085 rfl ?_
  refine z_iconst dL_law_1086 ?_
  refine z_iadd dL_law_1087 ?_
  refine y_ld hL dL_law_1088 (by omega) ?_
  refine z_aload_n dL_law_1089 rfl ?_
  refine z_iload_n dL_law_1090 rfl ?_
  refine z_iconst dL_law_1091 ?_
  refine z_iadd dL_law_1092 ?_
  refine y_ld hL dL_law_1093 (by omega) ?_
  refine z_aload_n dL_law_1094 rfl ?_
  refine z_iload_n dL_law_1095 rfl ?_
  refine z_iconst dL_law_1096 ?_
  refine z_iadd dL_law_1097 ?_
  refine y_ld hL dL_law_1098 (by omega) ?_
  refine z_callVI (av := [_, _, _, _]) dL_law_1099 vL_121 rfl (Nat.le_of_ble_eq_true rfl) rfl rfl rfl (Nat.le_of_ble_eq_true rfl) (Nat.le_of_ble_eq_true rfl) (pr_drawn (d := 0) (e := 0) hI (z_rng _) (z_rng _) (z_rng _) (z_rng _)) (fun z σ1 h1 => ?_)
  refine z_aload_n dL_law_1102 rfl ?_
  refine z_aload_n dL_law_1103 rfl ?_
  refine z_iload_n dL_law_1104 rfl ?_
  refine z_iconst dL_law_1105 ?_
  refine z_iadd dL_law_1106 ?_
  refine y_ld hL dL_law_1107 (by omega) ?_
  refine z_aload_n dL_law_1108 rfl ?_
  refine z_iload_n dL_law_1109 rfl ?_
  refine z_iconst dL_law_1110 ?_
  refine z_iadd dL_law_1111 ?_
  refine y_ld hL dL_law_1112 (by omega) ?_
  refine z_aload_n dL_law_1113 rfl ?_
  refine z_iload_n dL_law_1114 rfl ?_
  refine z_iconst dL_law_1115 ?_
  refine z_iadd dL_law_1116 ?_
  refine y_ld hL dL_law_1117 (by omega) ?_
  refine z_aload_n dL_law_1118 rfl ?_
  refine z_iload_n dL_law_1119 rfl ?_
  refine z_iconst dL_law_1120 ?_
  refine z_iadd dL_law_1121 ?_
  refine y_ld hL dL_law_1122 (by omega) ?_
  refine z_callVI (av := [_, _, _, _]) dL_law_1123 vL_124 rfl (Nat.le_of_ble_eq_true rfl) rfl rfl rfl (Nat.le_of_ble_eq_true rfl) (Nat.le_of_ble_eq_true rfl) h1 (fun z2 σ2 h2 => ?_)
  exact y_icmp (tgt := 1653) dL_law_1126 (by decide) h2.1 (kk σ2 h2.2)
set_option maxRecDepth 20000 in
theorem law_26 {b L n : Nat} {xs : Nat → Int32} {σ : Sto} (hL : L ≤ 3072) (hn : 6 * n + 6 ≤ L) (hI : Inv n σ) (hok : z_ok σ) (kk : ∀ σ2, Inv (n + 1) σ2 → Z (ML b L xs) 1653 [some (zR 503), some (zR 0), some (zR 9), some (zI ((6 * n : Nat) : Int))] [] σ2) : Z (ML b L xs) 1131 [some (zR 503), some (zR 0), some (zR 9), some (zI ((6 * n : Nat) : Int))] [] σ := by
  refine z_aload_n dL_law_1131 rfl ?_
  refine z_aload_n dL_law_1132 rfl ?_
  refine z_iload_n dL_law_1133 rfl ?_
  refine z_iconst dL_law_1134 ?_
  refine z_iadd dL_law_1135 ?_
  refine y_ld hL dL_law_1136 (by omega) ?_
  refine z_aload_n dL_law_1137 rfl ?_
  refine z_iload_n dL_law_1138 rfl ?_
  refine z_iconst dL_law_1139 ?_
  refine z_iadd dL_law_1140 ?_
  refine y_ld hL dL_law_1141 (by omega) ?_
  refine z_callVI (av := [_, _]) dL_law_1142 vL_125 rfl (Nat.le_of_ble_eq_true rfl) rfl rfl rfl (Nat.le_of_ble_eq_true rfl) (Nat.le_of_ble_eq_true rfl) (pr_speak (d := 0) (e := 0) hI (by omega) (z_rng _) (z_rng _)) (fun z σ1 h1 => ?_)
  refine z_aload_n dL_law_1145 rfl ?_
  refine z_aload_n dL_law_1146 rfl ?_
  refine z_iload_n dL_law_1147 rfl ?_
  refine z_iconst dL_law_1148 ?_
  refine z_iadd dL_law_1149 ?_
  refine y_ld hL dL_law_1150 (by omega) ?_
  refine z_aload_n dL_law_1151 rfl ?_
  refine z_iload_n dL_law_1152 rfl ?_
  refine z_iconst dL_law_1153 ?_
  refine z_iadd dL_law_1154 ?_
  refine y_ld hL dL_law_1155 (by omega) ?_
  refine z_callVI (av := [_, _]) dL_law_1156 vL_128 rfl (Nat.le_of_ble_eq_true rfl) rfl rfl rfl (Nat.le_of_ble_eq_true rfl) (Nat.le_of_ble_eq_true rfl) h1 (fun z2 σ2 h2 => ?_)
  exact y_icmp (tgt := 1653) dL_law_1159 (by decide) h2.1 (kk σ2 h2.2)
set_option maxRecDepth 20000 in
theorem law_27 {b L n : Nat} {xs : Nat → Int32} {σ : Sto} (hL : L ≤ 3072) (hn : 6 * n + 6 ≤ L) (hI : Inv n σ) (hok : z_ok σ) (kk : ∀ σ2, Inv (n + 1) σ2 → Z (ML b L xs) 1653 [some (zR 503), some (zR 0), some (zR 9), some (zI ((6 * n : Nat) : Int))] [] σ2) : Z (ML b L xs) 1164 [some (zR 503), some (zR 0), some (zR 9), some (zI ((6 * n : Nat) : Int))] [] σ := by
  refine z_aload_n dL_law_1164 rfl ?_
  refine z_aload_n dL_law_1165 rfl ?_
  refine z_iload_n dL_law_1166 rfl ?_
  refine z_iconst dL_law_1167 ?_
  refine z_iadd dL_law_1168 ?_
  refine y_ld hL dL_law_1169 (by omega) ?_
  refine z_callVI (av := [_]) dL_law_1170 vL_129 rfl (Nat.le_of_ble_eq_true rfl) rfl rfl rfl (Nat.le_of_ble_eq_true rfl) (Nat.le_of_ble_eq_true rfl) (pr_rinse (d := 0) (e := 0) hI hok (z_rng _)) (fun z σ1 h1 => ?_)
  refine z_aload_n dL_law_1173 rfl ?_
  refine z_aload_n dL_law_1174 rfl ?_
  refine z_iload_n dL_law_1175 rfl ?_
  refine z_iconst dL_law_1176 ?_
  refine z_iadd dL_law_1177 ?_
  refine y_ld hL dL_law_1178 (by omega) ?_
  refine z_callVI (av := [_]) dL_law_1179 vL_132 rfl (Nat.le_of_ble_eq_true rfl) rfl rfl rfl (Nat.le_of_ble_eq_true rfl) (Nat.le_of_ble_eq_true rfl) h1 (fun z2 σ2 h2 => ?_)
  exact y_icmp (tgt := 1653) dL_law_1182 (by decide) h2.1 (kk σ2 h2.2)
set_option maxRecDepth 20000 in
theorem law_28 {b L n : Nat} {xs : Nat → Int32} {σ : Sto} (hL : L ≤ 3072) (hn : 6 * n + 6 ≤ L) (hI : Inv n σ) (hok : z_ok σ) (kk : ∀ σ2, Inv (n + 1) σ2 → Z (ML b L xs) 1653 [some (zR 503), some (zR 0), some (zR 9), some (zI ((6 * n : Nat) : Int))] [] σ2) : Z (ML b L xs) 1187 [some (zR 503), some (zR 0), some (zR 9), some (zI ((6 * n : Nat) : Int))] [] σ := by
  refine z_aload_n dL_law_1187 rfl ?_
  refine z_aload_n dL_law_1188 rfl ?_
  refine z_iload_n dL_law_1189 rfl ?_
  refine z_iconst dL_law_1190 ?_
  refine z_iadd dL_law_1191 ?_
  refine y_ld hL dL_law_1192 (by omega) ?_
  refine z_callVI (av := [_]) dL_law_1193 vL_133 rfl (Nat.le_of_ble_eq_true rfl) rfl rfl rfl (Nat.le_of_ble_eq_true rfl) (Nat.le_of_ble_eq_true rfl) (pr_led (d := 0) (e := 0) hI (z_rng _)) (fun z σ1 h1 => ?_)
  refine z_aload_n dL_law_1196 rfl ?_
  refine z_aload_n dL_law_1197 rfl ?_
  refine z_iload_n dL_law_1198 rfl ?_
  refine z_iconst dL_law_1199 ?_
  refine z_iadd dL_law_1200 ?_
  refine y_ld hL dL_law_1201 (by omega) ?_
  refine z_callVI (av := [_]) dL_law_1202 vL_136 rfl (Nat.le_of_ble_eq_true rfl) rfl rfl rfl (Nat.le_of_ble_eq_true rfl) (Nat.le_of_ble_eq_true rfl) h1 (fun z2 σ2 h2 => ?_)
  exact y_icmp (tgt := 1653) dL_law_1205 (by decide) h2.1 (kk σ2 h2.2)
set_option maxRecDepth 20000 in
theorem law_29 {b L n : Nat} {xs : Nat → Int32} {σ : Sto} (hL : L ≤ 3072) (hn : 6 * n + 6 ≤ L) (hI : Inv n σ) (hok : z_ok σ) (kk : ∀ σ2, Inv (n + 1) σ2 → Z (ML b L xs) 1653 [some (zR 503), some (zR 0), some (zR 9), some (zI ((6 * n : Nat) : Int))] [] σ2) : Z (ML b L xs) 1210 [some (zR 503), some (zR 0), some (zR 9), some (zI ((6 * n : Nat) : Int))] [] σ := by
  refine z_aload_n dL_law_1210 rfl ?_
  refine z_callVI (av := []) dL_law_1211 vL_137 rfl (Nat.le_of_ble_eq_true rfl) rfl rfl rfl (Nat.le_of_ble_eq_true rfl) (Nat.le_of_ble_eq_true rfl) (pr_image (d := 0) (e := 0) hI) (fun z σ1 h1 => ?_)
  refine z_aload_n dL_law_1214 rfl ?_
  refine z_callVI (av := []) dL_law_1215 vL_140 rfl (Nat.le_of_ble_eq_true rfl) rfl rfl rfl (Nat.le_of_ble_eq_true rfl) (Nat.le_of_ble_eq_true rfl) h1 (fun z2 σ2 h2 => ?_)
  exact y_icmp (tgt := 1653) dL_law_1218 (by decide) h2.1 (kk σ2 h2.2)
set_option maxRecDepth 20000 in
theorem law_30 {b L n : Nat} {xs : Nat → Int32} {σ : Sto} (hL : L ≤ 3072) (hn : 6 * n + 6 ≤ L) (hI : Inv n σ) (hok : z_ok σ) (kk : ∀ σ2, Inv (n + 1) σ2 → Z (ML b L xs) 1653 [some (zR 503), some (zR 0), some (zR 9), some (zI ((6 * n : Nat) : Int))] [] σ2) : Z (ML b L xs) 1223 [some (zR 503), some (zR 0), some (zR 9), some (zI ((6 * n : Nat) : Int))] [] σ := by
  refine z_aload_n dL_law_1223 rfl ?_
  refine z_callVI (av := []) dL_law_1224 vL_141 rfl (Nat.le_of_ble_eq_true rfl) rfl rfl rfl (Nat.le_of_ble_eq_true rfl) (Nat.le_of_ble_eq_true rfl) (pr_back (d := 0) (e := 0) hI) (fun z σ1 h1 => ?_)
  refine z_aload_n dL_law_1227 rfl ?_
  refine z_callVI (av := []) dL_law_1228 vL_144 rfl (Nat.le_of_ble_eq_true rfl) rfl rfl rfl (Nat.le_of_ble_eq_true rfl) (Nat.le_of_ble_eq_true rfl) h1 (fun z2 σ2 h2 => ?_)
  exact y_icmp (tgt := 1653) dL_law_1231 (by decide) h2.1 (kk σ2 h2.2)
set_option maxRecDepth 20000 in
theorem law_31 {b L n : Nat} {xs : Nat → Int32} {σ : Sto} (hL : L ≤ 3072) (hn : 6 * n + 6 ≤ L) (hI : Inv n σ) (hok : z_ok σ) (kk : ∀ σ2, Inv (n + 1) σ2 → Z (ML b L xs) 1653 [some (zR 503), some (zR 0), some (zR 9), some (zI ((6 * n : Nat) : Int))] [] σ2) : Z (ML b L xs) 1236 [some (zR 503), some (zR 0), some (zR 9), some (zI ((6 * n : Nat) : Int))] [] σ := by
  refine z_aload_n dL_law_1236 rfl ?_
  refine z_callVI (av := []) dL_law_1237 vL_145 rfl (Nat.le_of_ble_eq_true rfl) rfl rfl rfl (Nat.le_of_ble_eq_true rfl) (Nat.le_of_ble_eq_true rfl) (pr_undo (d := 0) (e := 0) hI hok) (fun z σ1 h1 => ?_)
  refine z_aload_n dL_law_1240 rfl ?_
  refine z_callVI (av := []) dL_law_1241 vL_148 rfl (Nat.le_of_ble_eq_true rfl) rfl rfl rfl (Nat.le_of_ble_eq_true rfl) (Nat.le_of_ble_eq_true rfl) h1 (fun z2 σ2 h2 => ?_)
  exact y_icmp (tgt := 1653) dL_law_1244 (by decide) h2.1 (kk σ2 h2.2)
set_option maxRecDepth 20000 in
theorem law_32 {b L n : Nat} {xs : Nat → Int32} {σ : Sto} (hL : L ≤ 3072) (hn : 6 * n + 6 ≤ L) (hI : Inv n σ) (hok : z_ok σ) (kk : ∀ σ2, Inv (n + 1) σ2 → Z (ML b L xs) 1653 [some (zR 503), some (zR 0), some (zR 9), some (zI ((6 * n : Nat) : Int))] [] σ2) : Z (ML b L xs) 1249 [some (zR 503), some (zR 0), some (zR 9), some (zI ((6 * n : Nat) : Int))] [] σ := by
  refine z_aload_n dL_law_1249 rfl ?_
  refine z_callVI (av := []) dL_law_1250 vL_149 rfl (Nat.le_of_ble_eq_true rfl) rfl rfl rfl (Nat.le_of_ble_eq_true rfl) (Nat.le_of_ble_eq_true rfl) (pr_redo (d := 0) (e := 0) hI hok) (fun z σ1 h1 => ?_)
  refine z_aload_n dL_law_1253 rfl ?_
  refine z_callVI (av := []) dL_law_1254 vL_152 rfl (Nat.le_of_ble_eq_true rfl) rfl rfl rfl (Nat.le_of_ble_eq_true rfl) (Nat.le_of_ble_eq_true rfl) h1 (fun z2 σ2 h2 => ?_)
  exact y_icmp (tgt := 1653) dL_law_1257 (by decide) h2.1 (kk σ2 h2.2)
set_option maxRecDepth 20000 in
theorem law_33 {b L n : Nat} {xs : Nat → Int32} {σ : Sto} (hL : L ≤ 3072) (hn : 6 * n + 6 ≤ L) (hI : Inv n σ) (hok : z_ok σ) (kk : ∀ σ2, Inv (n + 1) σ2 → Z (ML b L xs) 1653 [some (zR 503), some (zR 0), some (zR 9), some (zI ((6 * n : Nat) : Int))] [] σ2) : Z (ML b L xs) 1262 [some (zR 503), some (zR 0), some (zR 9), some (zI ((6 * n : Nat) : Int))] [] σ := by
  refine z_aload_n dL_law_1262 rfl ?_
  refine z_aload_n dL_law_1263 rfl ?_
  refine z_iload_n dL_law_1264 rfl ?_
  refine z_iconst dL_law_1265 ?_
  refine z_iadd dL_law_1266 ?_
  refine y_ld hL dL_law_1267 (by omega) ?_
  refine z_callVI (av := [_]) dL_law_1268 vL_153 rfl (Nat.le_of_ble_eq_true rfl) rfl rfl rfl (Nat.le_of_ble_eq_true rfl) (Nat.le_of_ble_eq_true rfl) (pr_body (d := 0) (e := 0) hI (z_rng _)) (fun z σ1 h1 => ?_)
  refine z_aload_n dL_law_1271 rfl ?_
  refine z_aload_n dL_law_1272 rfl ?_
  refine z_iload_n dL_law_1273 rfl ?_
  refine z_iconst dL_law_1274 ?_
  refine z_iadd dL_law_1275 ?_
  refine y_ld hL dL_law_1276 (by omega) ?_
  refine z_callVI (av := [_]) dL_law_1277 vL_156 rfl (Nat.le_of_ble_eq_true rfl) rfl rfl rfl (Nat.le_of_ble_eq_true rfl) (Nat.le_of_ble_eq_true rfl) h1 (fun z2 σ2 h2 => ?_)
  exact y_icmp (tgt := 1653) dL_law_1280 (by decide) h2.1 (kk σ2 h2.2)
set_option maxRecDepth 20000 in
theorem law_34 {b L n : Nat} {xs : Nat → Int32} {σ : Sto} (hL : L ≤ 3072) (hn : 6 * n + 6 ≤ L) (hI : Inv n σ) (hok : z_ok σ) (kk : ∀ σ2, Inv (n + 1) σ2 → Z (ML b L xs) 1653 [some (zR 503), some (zR 0), some (zR 9), some (zI ((6 * n : Nat) : Int))] [] σ2) : Z (ML b L xs) 1285 [some (zR 503), some (zR 0), some (zR 9), some (zI ((6 * n : Nat) : Int))] [] σ := by
  refine z_aload_n dL_law_1285 rfl ?_
  refine z_aload_n dL_law_1286 rfl ?_
  refine z_iload_n dL_law_1287 rfl ?_
  refine z_iconst dL_law_1288 ?_
  refine z_iadd dL_law_1289 ?_
  refine y_ld hL dL_law_1290 (by omega) ?_
  refine z_aload_n dL_law_1291 rfl ?_
  refine z_iload_n dL_law_1292 rfl ?_
  refine z_iconst dL_law_1293 ?_
  refine z_iadd dL_law_1294 ?_
  refine y_ld hL dL_law_1295 (by omega) ?_
  refine z_aload_n dL_law_1296 rfl ?_
  refine z_iload_n dL_law_1297 rfl ?_
  refine z_iconst dL_law_1298 ?_
  refine z_iadd dL_law_1299 ?_
  refine y_ld hL dL_law_1300 (by omega) ?_
  refine z_callVI (av := [_, _, _]) dL_law_1301 vL_157 rfl (Nat.le_of_ble_eq_true rfl) rfl rfl rfl (Nat.le_of_ble_eq_true rfl) (Nat.le_of_ble_eq_true rfl) (pr_act (d := 0) (e := 0) hI (z_rng _) (z_rng _)) (fun z σ1 h1 => ?_)
  refine z_aload_n dL_law_1304 rfl ?_
  refine z_aload_n dL_law_1305 rfl ?_
  refine z_iload_n dL_law_1306 rfl ?_
  refine z_iconst dL_law_1307 ?_
  refine z_iadd dL_law_1308 ?_
  refine y_ld hL dL_law_1309 (by omega) ?_
  refine z_aload_n dL_law_1310 rfl ?_
  refine z_iload_n dL_law_1311 rfl ?_
  refine z_iconst dL_law_1312 ?_
  refine z_iadd dL_law_1313 ?_
  refine y_ld hL dL_law_1314 (by omega) ?_
  refine z_aload_n dL_law_1315 rfl ?_
  refine z_iload_n dL_law_1316 rfl ?_
  refine z_iconst dL_law_1317 ?_
  refine z_iadd dL_law_1318 ?_
  refine y_ld hL dL_law_1319 (by omega) ?_
  refine z_callVI (av := [_, _, _]) dL_law_1320 vL_160 rfl (Nat.le_of_ble_eq_true rfl) rfl rfl rfl (Nat.le_of_ble_eq_true rfl) (Nat.le_of_ble_eq_true rfl) h1 (fun z2 σ2 h2 => ?_)
  exact y_icmp (tgt := 1653) dL_law_1323 (by decide) h2.1 (kk σ2 h2.2)
set_option maxRecDepth 20000 in
theorem law_35 {b L n : Nat} {xs : Nat → Int32} {σ : Sto} (hL : L ≤ 3072) (hn : 6 * n + 6 ≤ L) (hI : Inv n σ) (hok : z_ok σ) (kk : ∀ σ2, Inv (n + 1) σ2 → Z (ML b L xs) 1653 [some (zR 503), some (zR 0), some (zR 9), some (zI ((6 * n : Nat) : Int))] [] σ2) : Z (ML b L xs) 1328 [some (zR 503), some (zR 0), some (zR 9), some (zI ((6 * n : Nat) : Int))] [] σ := by
  refine z_aload_n dL_law_1328 rfl ?_
  refine z_aload_n dL_law_1329 rfl ?_
  refine z_iload_n dL_law_1330 rfl ?_
  refine z_iconst dL_law_1331 ?_
  refine z_iadd dL_law_1332 ?_
  refine y_ld hL dL_law_1333 (by omega) ?_
  refine z_callVI (av := [_]) dL_law_1334 vL_161 rfl (Nat.le_of_ble_eq_true rfl) rfl rfl rfl (Nat.le_of_ble_eq_true rfl) (Nat.le_of_ble_eq_true rfl) (pr_trace (d := 0) (e := 0) hI (z_rng _)) (fun z σ1 h1 => ?_)
  refine z_aload_n dL_law_1337 rfl ?_
  refine z_aload_n dL_law_1338 rfl ?_
  refine z_iload_n dL_law_1339 rfl ?_
  refine z_iconst dL_law_1340 ?_
  refine z_iadd dL_law_1341 ?_
  refine y_ld hL dL_law_1342 (by omega) ?_
  refine z_callVI (av := [_]) dL_law_1343 vL_164 rfl (Nat.le_of_ble_eq_true rfl) rfl rfl rfl (Nat.le_of_ble_eq_true rfl) (Nat.le_of_ble_eq_true rfl) h1 (fun z2 σ2 h2 => ?_)
  exact y_icmp (tgt := 1653) dL_law_1346 (by decide) h2.1 (kk σ2 h2.2)
set_option maxRecDepth 20000 in
theorem law_36 {b L n : Nat} {xs : Nat → Int32} {σ : Sto} (hL : L ≤ 3072) (hn : 6 * n + 6 ≤ L) (hI : Inv n σ) (hok : z_ok σ) (kk : ∀ σ2, Inv (n + 1) σ2 → Z (ML b L xs) 1653 [some (zR 503), some (zR 0), some (zR 9), some (zI ((6 * n : Nat) : Int))] [] σ2) : Z (ML b L xs) 1351 [some (zR 503), some (zR 0), some (zR 9), some (zI ((6 * n : Nat) : Int))] [] σ := by
  refine z_aload_n dL_law_1351 rfl ?_
  refine z_aload_n dL_law_1352 rfl ?_
  refine z_iload_n dL_law_1353 rfl ?_
  refine z_iconst dL_law_1354 ?_
  refine z_iadd dL_law_1355 ?_
  refine y_ld hL dL_law_1356 (by omega) ?_
  refine z_aload_n dL_law_1357 rfl ?_
  refine z_iload_n dL_law_1358 rfl ?_
  refine z_iconst dL_law_1359 ?_
  refine z_iadd dL_law_1360 ?_
  refine y_ld hL dL_law_1361 (by omega) ?_
  refine z_callVI (av := [_, _]) dL_law_1362 vL_165 rfl (Nat.le_of_ble_eq_true rfl) rfl rfl rfl (Nat.le_of_ble_eq_true rfl) (Nat.le_of_ble_eq_true rfl) (pr_keep (d := 0) (e := 0) hI (z_rng _) (z_rng _)) (fun z σ1 h1 => ?_)
  refine z_aload_n dL_law_1365 rfl ?_
  refine z_aload_n dL_law_1366 rfl ?_
  refine z_iload_n dL_law_1367 rfl ?_
  refine z_iconst dL_law_1368 ?_
  refine z_iadd dL_law_1369 ?_
  refine y_ld hL dL_law_1370 (by omega) ?_
  refine z_aload_n dL_law_1371 rfl ?_
  refine z_iload_n dL_law_1372 rfl ?_
  refine z_iconst dL_law_1373 ?_
  refine z_iadd dL_law_1374 ?_
  refine y_ld hL dL_law_1375 (by omega) ?_
  refine z_callVI (av := [_, _]) dL_law_1376 vL_168 rfl (Nat.le_of_ble_eq_true rfl) rfl rfl rfl (Nat.le_of_ble_eq_true rfl) (Nat.le_of_ble_eq_true rfl) h1 (fun z2 σ2 h2 => ?_)
  exact y_icmp (tgt := 1653) dL_law_1379 (by decide) h2.1 (kk σ2 h2.2)
set_option maxRecDepth 20000 in
theorem law_37 {b L n : Nat} {xs : Nat → Int32} {σ : Sto} (hL : L ≤ 3072) (hn : 6 * n + 6 ≤ L) (hI : Inv n σ) (hok : z_ok σ) (kk : ∀ σ2, Inv (n + 1) σ2 → Z (ML b L xs) 1653 [some (zR 503), some (zR 0), some (zR 9), some (zI ((6 * n : Nat) : Int))] [] σ2) : Z (ML b L xs) 1384 [some (zR 503), some (zR 0), some (zR 9), some (zI ((6 * n : Nat) : Int))] [] σ := by
  refine z_aload_n dL_law_1384 rfl ?_
  refine z_aload_n dL_law_1385 rfl ?_
  refine z_iload_n dL_law_1386 rfl ?_
  refine z_iconst dL_law_1387 ?_
  refine z_iadd dL_law_1388 ?_
  refine y_ld hL dL_law_1389 (by omega) ?_
  refine z_aload_n dL_law_1390 rfl ?_
  refine z_iload_n dL_law_1391 rfl ?_
  refine z_iconst dL_law_1392 ?_
  refine z_iadd dL_law_1393 ?_
  refine y_ld hL dL_law_1394 (by omega) ?_
  refine z_aload_n dL_law_1395 rfl ?_
  refine z_iload_n dL_law_1396 rfl ?_
  refine z_iconst dL_law_1397 ?_
  refine z_iadd dL_law_1398 ?_
  refine y_ld hL dL_law_1399 (by omega) ?_
  refine z_callVI (av := [_, _, _]) dL_law_1400 vL_169 rfl (Nat.le_of_ble_eq_true rfl) rfl rfl rfl (Nat.le_of_ble_eq_true rfl) (Nat.le_of_ble_eq_true rfl) (pr_row (d := 0) (e := 0) hI (z_rng _) (z_rng _) (z_rng _)) (fun z σ1 h1 => ?_)
  refine z_aload_n dL_law_1403 rfl ?_
  refine z_aload_n dL_law_1404 rfl ?_
  refine z_iload_n dL_law_1405 rfl ?_
  refine z_iconst dL_law_1406 ?_
  refine z_iadd dL_law_1407 ?_
  refine y_ld hL dL_law_1408 (by omega) ?_
  refine z_aload_n dL_law_1409 rfl ?_
  refine z_iload_n dL_law_1410 rfl ?_
  refine z_iconst dL_law_1411 ?_
  refine z_iadd dL_law_1412 ?_
  refine y_ld hL dL_law_1413 (by omega) ?_
  refine z_aload_n dL_law_1414 rfl ?_
  refine z_iload_n dL_law_1415 rfl ?_
  refine z_iconst dL_law_1416 ?_
  refine z_iadd dL_law_1417 ?_
  refine y_ld hL dL_law_1418 (by omega) ?_
  refine z_callVI (av := [_, _, _]) dL_law_1419 vL_172 rfl (Nat.le_of_ble_eq_true rfl) rfl rfl rfl (Nat.le_of_ble_eq_true rfl) (Nat.le_of_ble_eq_true rfl) h1 (fun z2 σ2 h2 => ?_)
  exact y_icmp (tgt := 1653) dL_law_1422 (by decide) h2.1 (kk σ2 h2.2)
set_option maxRecDepth 20000 in
theorem law_38 {b L n : Nat} {xs : Nat → Int32} {σ : Sto} (hL : L ≤ 3072) (hn : 6 * n + 6 ≤ L) (hI : Inv n σ) (hok : z_ok σ) (kk : ∀ σ2, Inv (n + 1) σ2 → Z (ML b L xs) 1653 [some (zR 503), some (zR 0), some (zR 9), some (zI ((6 * n : Nat) : Int))] [] σ2) : Z (ML b L xs) 1427 [some (zR 503), some (zR 0), some (zR 9), some (zI ((6 * n : Nat) : Int))] [] σ := by
  refine z_aload_n dL_law_1427 rfl ?_
  refine z_aload_n dL_law_1428 rfl ?_
  refine z_iload_n dL_law_1429 rfl ?_
  refine z_iconst dL_law_1430 ?_
  refine z_iadd dL_law_1431 ?_
  refine y_ld hL dL_law_1432 (by omega) ?_
  refine z_aload_n dL_law_1433 rfl ?_
  refine z_iload_n dL_law_1434 rfl ?_
  refine z_iconst dL_law_1435 ?_
  refine z_iadd dL_law_1436 ?_
  refine y_ld hL dL_law_1437 (by omega) ?_
  refine z_aload_n dL_law_1438 rfl ?_
  refine z_iload_n dL_law_1439 rfl ?_
  refine z_iconst dL_law_1440 ?_
  refine z_iadd dL_law_1441 ?_
  refine y_ld hL dL_law_1442 (by omega) ?_
  refine z_i2l dL_law_1443 (z_rng _) ?_
  refine z_bipush (v := 32) dL_law_1444 (by decide +kernel) ?_
  refine z_lshl dL_law_1446 ?_
  refine z_aload_n dL_law_1447 rfl ?_
  refine z_iload_n dL_law_1448 rfl ?_
  refine z_iconst dL_law_1449 ?_
  refine z_iadd dL_law_1450 ?_
  refine y_ld hL dL_law_1451 (by omega) ?_
  refine z_i2l dL_law_1452 (z_rng _) ?_
  refine z_ldc2 dL_law_1453 kL_173 ?_
  refine z_land dL_law_1456 ?_
  refine z_lor dL_law_1457 ?_
  refine z_callVI (av := [_, _, _]) dL_law_1458 vL_175 rfl (Nat.le_of_ble_eq_true rfl) rfl rfl rfl (Nat.le_of_ble_eq_true rfl) (Nat.le_of_ble_eq_true rfl) (pr_put (d := 0) (e := 0) hI (z_rng _) (z_rng _) (y_rngJ _)) (fun z σ1 h1 => ?_)
  refine z_aload_n dL_law_1461 rfl ?_
  refine z_aload_n dL_law_1462 rfl ?_
  refine z_iload_n dL_law_1463 rfl ?_
  refine z_iconst dL_law_1464 ?_
  refine z_iadd dL_law_1465 ?_
  refine y_ld hL dL_law_1466 (by omega) ?_
  refine z_aload_n dL_law_1467 rfl ?_
  refine z_iload_n dL_law_1468 rfl ?_
  refine z_iconst dL_law_1469 ?_
  refine z_iadd dL_law_1470 ?_
  refine y_ld hL dL_law_1471 (by omega) ?_
  refine z_aload_n dL_law_1472 rfl ?_
  refine z_iload_n dL_law_1473 rfl ?_
  refine z_iconst dL_law_1474 ?_
  refine z_iadd dL_law_1475 ?_
  refine y_ld hL dL_law_1476 (by omega) ?_
  refine z_i2l dL_law_1477 (z_rng _) ?_
  refine z_bipush (v := 32) dL_law_1478 (by decide +kernel) ?_
  refine z_lshl dL_law_1480 ?_
  refine z_aload_n dL_law_1481 rfl ?_
  refine z_iload_n dL_law_1482 rfl ?_
  refine z_iconst dL_law_1483 ?_
  refine z_iadd dL_law_1484 ?_
  refine y_ld hL dL_law_1485 (by omega) ?_
  refine z_i2l dL_law_1486 (z_rng _) ?_
  refine z_ldc2 dL_law_1487 kL_173 ?_
  refine z_land dL_law_1490 ?_
  refine z_lor dL_law_1491 ?_
  refine z_callVI (av := [_, _, _]) dL_law_1492 vL_179 rfl (Nat.le_of_ble_eq_true rfl) rfl rfl rfl (Nat.le_of_ble_eq_true rfl) (Nat.le_of_ble_eq_true rfl) h1 (fun z2 σ2 h2 => ?_)
  exact y_icmp (tgt := 1653) dL_law_1495 (by decide) h2.1 (kk σ2 h2.2)
set_option maxRecDepth 20000 in
theorem law_39 {b L n : Nat} {xs : Nat → Int32} {σ : Sto} (hL : L ≤ 3072) (hn : 6 * n + 6 ≤ L) (hI : Inv n σ) (hok : z_ok σ) (kk : ∀ σ2, Inv (n + 1) σ2 → Z (ML b L xs) 1653 [some (zR 503), some (zR 0), some (zR 9), some (zI ((6 * n : Nat) : Int))] [] σ2) : Z (ML b L xs) 1500 [some (zR 503), some (zR 0), some (zR 9), some (zI ((6 * n : Nat) : Int))] [] σ := by
  refine z_aload_n dL_law_1500 rfl ?_
  refine z_aload_n dL_law_1501 rfl ?_
  refine z_iload_n dL_law_1502 rfl ?_
  refine z_iconst dL_law_1503 ?_
  refine z_iadd dL_law_1504 ?_
  refine y_ld hL dL_law_1505 (by omega) ?_
  refine z_aload_n dL_law_1506 rfl ?_
  refine z_iload_n dL_law_1507 rfl ?_
  refine z_iconst dL_law_1508 ?_
  refine z_iadd dL_law_1509 ?_
  refine y_ld hL dL_law_1510 (by omega) ?_
  refine z_callVJ (av := [_, _]) dL_law_1511 vL_180 rfl (Nat.le_of_ble_eq_true rfl) rfl rfl rfl (Nat.le_of_ble_eq_true rfl) (Nat.le_of_ble_eq_true rfl) (pr_element (d := 0) (e := 0) hI (z_rng _) (z_rng _)) (fun z σ1 h1 => ?_)
  refine z_aload_n dL_law_1514 rfl ?_
  refine z_aload_n dL_law_1515 rfl ?_
  refine z_iload_n dL_law_1516 rfl ?_
  refine z_iconst dL_law_1517 ?_
  refine z_iadd dL_law_1518 ?_
  refine y_ld hL dL_law_1519 (by omega) ?_
  refine z_aload_n dL_law_1520 rfl ?_
  refine z_iload_n dL_law_1521 rfl ?_
  refine z_iconst dL_law_1522 ?_
  refine z_iadd dL_law_1523 ?_
  refine y_ld hL dL_law_1524 (by omega) ?_
  refine z_callVJ (av := [_, _]) dL_law_1525 vL_183 rfl (Nat.le_of_ble_eq_true rfl) rfl rfl rfl (Nat.le_of_ble_eq_true rfl) (Nat.le_of_ble_eq_true rfl) h1 (fun z2 σ2 h2 => ?_)
  exact y_lc (tgt := 1653) dL_law_1528 dL_law_1529 (by decide) h2.1 (kk σ2 h2.2)
set_option maxRecDepth 20000 in
theorem law_40 {b L n : Nat} {xs : Nat → Int32} {σ : Sto} (hL : L ≤ 3072) (hn : 6 * n + 6 ≤ L) (hI : Inv n σ) (hok : z_ok σ) (kk : ∀ σ2, Inv (n + 1) σ2 → Z (ML b L xs) 1653 [some (zR 503), some (zR 0), some (zR 9), some (zI ((6 * n : Nat) : Int))] [] σ2) : Z (ML b L xs) 1534 [some (zR 503), some (zR 0), some (zR 9), some (zI ((6 * n : Nat) : Int))] [] σ := by
  refine z_aload_n dL_law_1534 rfl ?_
  refine z_aload_n dL_law_1535 rfl ?_
  refine z_iload_n dL_law_1536 rfl ?_
  refine z_iconst dL_law_1537 ?_
  refine z_iadd dL_law_1538 ?_
  refine y_ld hL dL_law_1539 (by omega) ?_
  refine z_aload_n dL_law_1540 rfl ?_
  refine z_iload_n dL_law_1541 rfl ?_
  refine z_iconst dL_law_1542 ?_
  refine z_iadd dL_law_1543 ?_
  refine y_ld hL dL_law_1544 (by omega) ?_
  refine z_aload_n dL_law_1545 rfl ?_
  refine z_iload_n dL_law_1546 rfl ?_
  refine z_iconst dL_law_1547 ?_
  refine z_iadd dL_law_1548 ?_
  refine y_ld hL dL_law_1549 (by omega) ?_
  refine z_aload_n dL_law_1550 rfl ?_
  refine z_iload_n dL_law_1551 rfl ?_
  refine z_iconst dL_law_1552 ?_
  refine z_iadd dL_law_1553 ?_
  refine y_ld hL dL_law_1554 (by omega) ?_
  refine z_aload_n dL_law_1555 rfl ?_
  refine z_iload_n dL_law_1556 rfl ?_
  refine z_iconst dL_law_1557 ?_
  refine z_iadd dL_law_1558 ?_
  refine y_ld hL dL_law_1559 (by omega) ?_
  refine z_callVI (av := [_, _, _, _, _]) dL_law_1560 vL_184 rfl (Nat.le_of_ble_eq_true rfl) rfl rfl rfl (Nat.le_of_ble_eq_true rfl) (Nat.le_of_ble_eq_true rfl) (pr_shift (d := 0) (e := 0) hI (z_rng _) (z_rng _) (z_rng _) (z_rng _) (z_rng _)) (fun z σ1 h1 => ?_)
  refine z_aload_n dL_law_1563 rfl ?_
  refine z_aload_n dL_law_1564 rfl ?_
  refine z_iload_n dL_law_1565 rfl ?_
  refine z_iconst dL_law_1566 ?_
  refine z_iadd dL_law_1567 ?_
  refine y_ld hL dL_law_1568 (by omega) ?_
  refine z_aload_n dL_law_1569 rfl ?_
  refine z_iload_n dL_law_1570 rfl ?_
  refine z_iconst dL_law_1571 ?_
  refine z_iadd dL_law_1572 ?_
  refine y_ld hL dL_law_1573 (by omega) ?_
  refine z_aload_n dL_law_1574 rfl ?_
  refine z_iload_n dL_law_1575 rfl ?_
  refine z_iconst dL_law_1576 ?_
  refine z_iadd dL_law_1577 ?_
  refine y_ld hL dL_law_1578 (by omega) ?_
  refine z_aload_n dL_law_1579 rfl ?_
  refine z_iload_n dL_law_1580 rfl ?_
  refine z_iconst dL_law_1581 ?_
  refine z_iadd dL_law_1582 ?_
  refine y_ld hL dL_law_1583 (by omega) ?_
  refine z_aload_n dL_law_1584 rfl ?_
  refine z_iload_n dL_law_1585 rfl ?_
  refine z_iconst dL_law_1586 ?_
  refine z_iadd dL_law_1587 ?_
  refine y_ld hL dL_law_1588 (by omega) ?_
  refine z_callVI (av := [_, _, _, _, _]) dL_law_1589 vL_188 rfl (Nat.le_of_ble_eq_true rfl) rfl rfl rfl (Nat.le_of_ble_eq_true rfl) (Nat.le_of_ble_eq_true rfl) h1 (fun z2 σ2 h2 => ?_)
  exact y_icmp (tgt := 1653) dL_law_1592 (by decide) h2.1 (kk σ2 h2.2)
set_option maxRecDepth 20000 in
theorem law_41 {b L n : Nat} {xs : Nat → Int32} {σ : Sto} (hL : L ≤ 3072) (hn : 6 * n + 6 ≤ L) (hI : Inv n σ) (hok : z_ok σ) (kk : ∀ σ2, Inv (n + 1) σ2 → Z (ML b L xs) 1653 [some (zR 503), some (zR 0), some (zR 9), some (zI ((6 * n : Nat) : Int))] [] σ2) : Z (ML b L xs) 1597 [some (zR 503), some (zR 0), some (zR 9), some (zI ((6 * n : Nat) : Int))] [] σ := by
  refine z_aload_n dL_law_1597 rfl ?_
  refine z_aload_n dL_law_1598 rfl ?_
  refine z_iload_n dL_law_1599 rfl ?_
  refine z_iconst dL_law_1600 ?_
  refine z_iadd dL_law_1601 ?_
  refine y_ld hL dL_law_1602 (by omega) ?_
  refine z_aload_n dL_law_1603 rfl ?_
  refine z_iload_n dL_law_1604 rfl ?_
  refine z_iconst dL_law_1605 ?_
  refine z_iadd dL_law_1606 ?_
  refine y_ld hL dL_law_1607 (by omega) ?_
  refine z_callVI (av := [_, _]) dL_law_1608 vL_189 rfl (Nat.le_of_ble_eq_true rfl) rfl rfl rfl (Nat.le_of_ble_eq_true rfl) (Nat.le_of_ble_eq_true rfl) (pr_taken (d := 0) (e := 0) hI (z_rng _) (z_rng _)) (fun z σ1 h1 => ?_)
  refine z_aload_n dL_law_1611 rfl ?_
  refine z_aload_n dL_law_1612 rfl ?_
  refine z_iload_n dL_law_1613 rfl ?_
  refine z_iconst dL_law_1614 ?_
  refine z_iadd dL_law_1615 ?_
  refine y_ld hL dL_law_1616 (by omega) ?_
  refine z_aload_n dL_law_1617 rfl ?_
  refine z_iload_n dL_law_1618 rfl ?_
  refine z_iconst dL_law_1619 ?_
  refine z_iadd dL_law_1620 ?_
  refine y_ld hL dL_law_1621 (by omega) ?_
  refine z_callVI (av := [_, _]) dL_law_1622 vL_192 rfl (Nat.le_of_ble_eq_true rfl) rfl rfl rfl (Nat.le_of_ble_eq_true rfl) (Nat.le_of_ble_eq_true rfl) h1 (fun z2 σ2 h2 => ?_)
  exact y_icmp (tgt := 1653) dL_law_1625 (by decide) h2.1 (kk σ2 h2.2)
set_option maxRecDepth 20000 in
theorem law_42 {b L n : Nat} {xs : Nat → Int32} {σ : Sto} (hL : L ≤ 3072) (hn : 6 * n + 6 ≤ L) (hI : Inv n σ) (hok : z_ok σ) (kk : ∀ σ2, Inv (n + 1) σ2 → Z (ML b L xs) 1653 [some (zR 503), some (zR 0), some (zR 9), some (zI ((6 * n : Nat) : Int))] [] σ2) : Z (ML b L xs) 1630 [some (zR 503), some (zR 0), some (zR 9), some (zI ((6 * n : Nat) : Int))] [] σ := by
  refine z_aload_n dL_law_1630 rfl ?_
  refine z_aload_n dL_law_1631 rfl ?_
  refine z_iload_n dL_law_1632 rfl ?_
  refine z_iconst dL_law_1633 ?_
  refine z_iadd dL_law_1634 ?_
  refine y_ld hL dL_law_1635 (by omega) ?_
  refine z_callVI (av := [_]) dL_law_1636 vL_193 rfl (Nat.le_of_ble_eq_true rfl) rfl rfl rfl (Nat.le_of_ble_eq_true rfl) (Nat.le_of_ble_eq_true rfl) (pr_count (d := 0) (e := 0) hI hok (z_rng _)) (fun z σ1 h1 => ?_)
  refine z_aload_n dL_law_1639 rfl ?_
  refine z_aload_n dL_law_1640 rfl ?_
  refine z_iload_n dL_law_1641 rfl ?_
  refine z_iconst dL_law_1642 ?_
  refine z_iadd dL_law_1643 ?_
  refine y_ld hL dL_law_1644 (by omega) ?_
  refine z_callVI (av := [_]) dL_law_1645 vL_196 rfl (Nat.le_of_ble_eq_true rfl) rfl rfl rfl (Nat.le_of_ble_eq_true rfl) (Nat.le_of_ble_eq_true rfl) h1 (fun z2 σ2 h2 => ?_)
  exact y_icmp (tgt := 1653) dL_law_1648 (by decide) h2.1 (kk σ2 h2.2)
set_option maxRecDepth 20000 in
set_option maxHeartbeats 1000000 in
theorem law_sw {b L n : Nat} {xs : Nat → Int32} {σ : Sto} {a : Int} (hL : L ≤ 3072) (hn : 6 * n + 6 ≤ L) (hI : Inv n σ) (hok : z_ok σ) (ha : inR a) (kk : ∀ σ2, Inv (n + 1) σ2 → Z (ML b L xs) 1653 [some (zR 503), some (zR 0), some (zR 9), some (zI ((6 * n : Nat) : Int))] [] σ2) : Z (ML b L xs) 33 [some (zR 503), some (zR 0), some (zR 9), some (zI ((6 * n : Nat) : Int))] [zI a] σ := by
  by_cases h0 : a < 0 ∨ 42 < a
  · exact z_tabOut (tgt := 1653) dL_law_33 ha h0 (by decide) (kk σ hI.up)
  · rcases (show a = 0 ∨ a = 1 ∨ a = 2 ∨ a = 3 ∨ a = 4 ∨ a = 5 ∨ a = 6 ∨ a = 7 ∨ a = 8 ∨ a = 9 ∨ a = 10 ∨ a = 11 ∨ a = 12 ∨ a = 13 ∨ a = 14 ∨ a = 15 ∨ a = 16 ∨ a = 17 ∨ a = 18 ∨ a = 19 ∨ a = 20 ∨ a = 21 ∨ a = 22 ∨ a = 23 ∨ a = 24 ∨ a = 25 ∨ a = 26 ∨ a = 27 ∨ a = 28 ∨ a = 29 ∨ a = 30 ∨ a = 31 ∨ a = 32 ∨ a = 33 ∨ a = 34 ∨ a = 35 ∨ a = 36 ∨ a = 37 ∨ a = 38 ∨ a = 39 ∨ a = 40 ∨ a = 41 ∨ a = 42 by omega) with rfl | rfl | rfl | rfl | rfl | rfl | rfl | rfl | rfl | rfl | rfl | rfl | rfl | rfl | rfl | rfl | rfl | rfl | rfl | rfl | rfl | rfl | rfl | rfl | rfl | rfl | rfl | rfl | rfl | rfl | rfl | rfl | rfl | rfl | rfl | rfl | rfl | rfl | rfl | rfl | rfl | rfl | rfl
    · exact z_tabIn (tgt := 220) dL_law_33 ha (by decide) (by decide) (by rfl) (by decide) (law_0 hL hn hI hok kk)
    · exact z_tabIn (tgt := 253) dL_law_33 ha (by decide) (by decide) (by rfl) (by decide) (law_1 hL hn hI hok kk)
    · exact z_tabIn (tgt := 296) dL_law_33 ha (by decide) (by decide) (by rfl) (by decide) (law_2 hL hn hI hok kk)
    · exact z_tabIn (tgt := 319) dL_law_33 ha (by decide) (by decide) (by rfl) (by decide) (law_3 hL hn hI hok kk)
    · exact z_tabIn (tgt := 342) dL_law_33 ha (by decide) (by decide) (by rfl) (by decide) (law_4 hL hn hI hok kk)
    · exact z_tabIn (tgt := 385) dL_law_33 ha (by decide) (by decide) (by rfl) (by decide) (law_5 hL hn hI hok kk)
    · exact z_tabIn (tgt := 418) dL_law_33 ha (by decide) (by decide) (by rfl) (by decide) (law_6 hL hn hI hok kk)
    · exact z_tabIn (tgt := 441) dL_law_33 ha (by decide) (by decide) (by rfl) (by decide) (law_7 hL hn hI hok kk)
    · exact z_tabIn (tgt := 454) dL_law_33 ha (by decide) (by decide) (by rfl) (by decide) (law_8 hL hn hI hok kk)
    · exact z_tabIn (tgt := 487) dL_law_33 ha (by decide) (by decide) (by rfl) (by decide) (law_9 hL hn hI hok kk)
    · exact z_tabIn (tgt := 530) dL_law_33 ha (by decide) (by decide) (by rfl) (by decide) (law_10 hL hn hI hok kk)
    · exact z_tabIn (tgt := 583) dL_law_33 ha (by decide) (by decide) (by rfl) (by decide) (law_11 hL hn hI hok kk)
    · exact z_tabIn (tgt := 616) dL_law_33 ha (by decide) (by decide) (by rfl) (by decide) (law_12 hL hn hI hok kk)
    · exact z_tabIn (tgt := 659) dL_law_33 ha (by decide) (by decide) (by rfl) (by decide) (law_13 hL hn hI hok kk)
    · exact z_tabIn (tgt := 682) dL_law_33 ha (by decide) (by decide) (by rfl) (by decide) (law_14 hL hn hI hok kk)
    · exact z_tabIn (tgt := 705) dL_law_33 ha (by decide) (by decide) (by rfl) (by decide) (law_15 hL hn hI hok kk)
    · exact z_tabIn (tgt := 728) dL_law_33 ha (by decide) (by decide) (by rfl) (by decide) (law_16 hL hn hI hok kk)
    · exact z_tabIn (tgt := 751) dL_law_33 ha (by decide) (by decide) (by rfl) (by decide) (law_17 hL hn hI hok kk)
    · exact z_tabIn (tgt := 785) dL_law_33 ha (by decide) (by decide) (by rfl) (by decide) (law_18 hL hn hI hok kk)
    · exact z_tabIn (tgt := 828) dL_law_33 ha (by decide) (by decide) (by rfl) (by decide) (law_19 hL hn hI hok kk)
    · exact z_tabIn (tgt := 872) dL_law_33 ha (by decide) (by decide) (by rfl) (by decide) (law_20 hL hn hI hok kk)
    · exact z_tabIn (tgt := 905) dL_law_33 ha (by decide) (by decide) (by rfl) (by decide) (law_21 hL hn hI hok kk)
    · exact z_tabIn (tgt := 948) dL_law_33 ha (by decide) (by decide) (by rfl) (by decide) (law_22 hL hn hI hok kk)
    · exact z_tabIn (tgt := 991) dL_law_33 ha (by decide) (by decide) (by rfl) (by decide) (law_23 hL hn hI hok kk)
    · exact z_tabIn (tgt := 1045) dL_law_33 ha (by decide) (by decide) (by rfl) (by decide) (law_24 hL hn hI hok kk)
    · exact z_tabIn (tgt := 1078) dL_law_33 ha (by decide) (by decide) (by rfl) (by decide) (law_25 hL hn hI hok kk)
    · exact z_tabIn (tgt := 1131) dL_law_33 ha (by decide) (by decide) (by rfl) (by decide) (law_26 hL hn hI hok kk)
    · exact z_tabIn (tgt := 1164) dL_law_33 ha (by decide) (by decide) (by rfl) (by decide) (law_27 hL hn hI hok kk)
    · exact z_tabIn (tgt := 1187) dL_law_33 ha (by decide) (by decide) (by rfl) (by decide) (law_28 hL hn hI hok kk)
    · exact z_tabIn (tgt := 1210) dL_law_33 ha (by decide) (by decide) (by rfl) (by decide) (law_29 hL hn hI hok kk)
    · exact z_tabIn (tgt := 1223) dL_law_33 ha (by decide) (by decide) (by rfl) (by decide) (law_30 hL hn hI hok kk)
    · exact z_tabIn (tgt := 1236) dL_law_33 ha (by decide) (by decide) (by rfl) (by decide) (law_31 hL hn hI hok kk)
    · exact z_tabIn (tgt := 1249) dL_law_33 ha (by decide) (by decide) (by rfl) (by decide) (law_32 hL hn hI hok kk)
    · exact z_tabIn (tgt := 1262) dL_law_33 ha (by decide) (by decide) (by rfl) (by decide) (law_33 hL hn hI hok kk)
    · exact z_tabIn (tgt := 1285) dL_law_33 ha (by decide) (by decide) (by rfl) (by decide) (law_34 hL hn hI hok kk)
    · exact z_tabIn (tgt := 1328) dL_law_33 ha (by decide) (by decide) (by rfl) (by decide) (law_35 hL hn hI hok kk)
    · exact z_tabIn (tgt := 1351) dL_law_33 ha (by decide) (by decide) (by rfl) (by decide) (law_36 hL hn hI hok kk)
    · exact z_tabIn (tgt := 1384) dL_law_33 ha (by decide) (by decide) (by rfl) (by decide) (law_37 hL hn hI hok kk)
    · exact z_tabIn (tgt := 1427) dL_law_33 ha (by decide) (by decide) (by rfl) (by decide) (law_38 hL hn hI hok kk)
    · exact z_tabIn (tgt := 1500) dL_law_33 ha (by decide) (by decide) (by rfl) (by decide) (law_39 hL hn hI hok kk)
    · exact z_tabIn (tgt := 1534) dL_law_33 ha (by decide) (by decide) (by rfl) (by decide) (law_40 hL hn hI hok kk)
    · exact z_tabIn (tgt := 1597) dL_law_33 ha (by decide) (by decide) (by rfl) (by decide) (law_41 hL hn hI hok kk)
    · exact z_tabIn (tgt := 1630) dL_law_33 ha (by decide) (by decide) (by rfl) (by decide) (law_42 hL hn hI hok kk)
set_option maxRecDepth 20000 in
theorem law_exit {b L : Nat} {xs : Nat → Int32} {n : Nat} {σ : Sto} (hL : L ≤ 3072) (hb : 6 * n ≤ L) (hn : ¬ 6 * n + 6 ≤ L) : Z (ML b L xs) 18 [some (zR 503), some (zR 0), some (zR 9), some (zI ((6 * n : Nat) : Int))] [] σ := by
  refine z_iload_n dL_law_18 rfl ?_
  refine z_aload_n dL_law_19 rfl ?_
  refine y_len dL_law_20 ?_
  refine z_bipush (v := 6) dL_law_21 (by decide +kernel) ?_
  refine z_isub dL_law_23 ?_
  refine z_icmp_gt (tgt := 1659) dL_law_24 (by decide) ⟨by omega, by omega⟩ ⟨by omega, by omega⟩ (fun h => ?_) (fun h => ?_)
  · refine z_iconst dL_law_1659 ?_
    exact y_ret dL_law_1660
  · exfalso; omega
set_option maxRecDepth 20000 in
theorem law_loop {b L : Nat} {xs : Nat → Int32} (hL : L ≤ 3072) : ∀ (f n : Nat) (σ : Sto), L < 6 * (n + f) + 6 → 6 * n ≤ L → Inv n σ → Z (ML b L xs) 18 [some (zR 503), some (zR 0), some (zR 9), some (zI ((6 * n : Nat) : Int))] [] σ
  | 0, n, σ, hf, hb, hI => law_exit hL hb (by omega)
  | f + 1, n, σ, hf, hb, hI => by
    by_cases hn : 6 * n + 6 ≤ L
    · refine z_iload_n dL_law_18 rfl ?_
      refine z_aload_n dL_law_19 rfl ?_
      refine y_len dL_law_20 ?_
      refine z_bipush (v := 6) dL_law_21 (by decide +kernel) ?_
      refine z_isub dL_law_23 ?_
      refine z_icmp_gt (tgt := 1659) dL_law_24 (by decide) ⟨by omega, by omega⟩ ⟨by omega, by omega⟩ (fun h => ?_) (fun h => ?_)
      · exfalso; omega
      · refine z_aload_n dL_law_27 rfl ?_
        refine z_iload_n dL_law_28 rfl ?_
        refine y_ld hL dL_law_29 (by omega) ?_
        refine z_bipush (v := 63) dL_law_30 (by decide +kernel) ?_
        refine z_iand dL_law_32 ?_
        refine y_ok (fun hok => ?_)
        refine law_sw hL hn hI hok (z_rng _) (fun σ2 hI2 => ?_)
        refine z_iinc (L' := [_, _, _, _]) dL_law_1653 (Nat.le_of_ble_eq_true rfl) rfl rfl rfl ?_
        refine z_goto (tgt := 18) dL_law_1656 (by decide) ?_
        have e : ((6 * n : Nat) : Int) + 6 = ((6 * (n + 1) : Nat) : Int) := by omega
        rw [e]
        exact law_loop hL f (n + 1) σ2 (by omega) (by omega) hI2
    · exact law_exit hL hb hn
