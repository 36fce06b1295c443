/-! THE LAW: both sides in one world -/
abbrev mL_law : Md := (yL_law, cL_law, 4, some .boolean)
theorem reg_swap {w : Wd} {a b : Nat} {c1 c2 : Nat → Option va_E} (h : ∀ q, b ≤ q → a ≤ q → c1 (q - a) = none) : reg (reg w b c2) a c1 = reg (reg w a c1) b c2 := by
  funext q
  show (if a ≤ q then (match c1 (q - a) with | some e => some e | none => reg w b c2 q) else reg w b c2 q) = (if b ≤ q then (match c2 (q - b) with | some e => some e | none => reg w a c1 q) else reg w a c1 q)
  by_cases hb : b ≤ q
  · rw [if_pos hb]
    have e1 : (if a ≤ q then (match c1 (q - a) with | some e => some e | none => reg w b c2 q) else reg w b c2 q) = reg w b c2 q := by
      by_cases ha : a ≤ q
      · rw [if_pos ha, h q hb ha]
      · rw [if_neg ha]
    have e2 : reg w a c1 q = w q := by
      show (if a ≤ q then (match c1 (q - a) with | some e => some e | none => w q) else w q) = w q
      by_cases ha : a ≤ q
      · rw [if_pos ha, h q hb ha]
      · rw [if_neg ha]
    rw [e1, e2]
    show (if b ≤ q then (match c2 (q - b) with | some e => some e | none => w q) else w q) = _
    rw [if_pos hb]
  · rw [if_neg hb]
    have e1 : reg w b c2 q = w q := by
      show (if b ≤ q then (match c2 (q - b) with | some e => some e | none => w q) else w q) = w q
      rw [if_neg hb]
    rw [e1]
    rfl
theorem xC_none {K : Kx} {a : Nat} {x : XV} {k : Nat} (h : 46 ≤ k) : xC K a x k = none := by
  unfold xC
  rw [if_neg (by omega), if_neg (by omega), if_neg (by omega), if_neg (by omega), if_neg (by omega), if_neg (by omega), if_neg (by omega)]
theorem xm_swap {K : Kx} {w : Wd} {a b : Nat} {x : XV} {y : MX} (h : a + 46 ≤ b) : putX K (putM K w b y) a x = putM K (putX K w a x) b y := reg_swap fun q hb ha => xC_none (by omega)
theorem tw_x {K : Kx} {w : Wd} {a : Nat} {x : XV} {t : Option Nat} {z : MX} (h : ∀ q, t = some q → a + 46 ≤ q) : putX K (tw K w t z) a x = tw K (putX K w a x) t z := by
  cases t with
  | none => rfl
  | some q => exact xm_swap (h q rfl)
abbrev LM (K : Kx) (w0 : Wd) (a : Nat) (x : XV) (b : Nat) (m : Mst) (k : Option Nat) (kz : MX) (t : Option Nat) (z : MX) : Wd := putM K (tw K (tw K (putX K w0 a x) k kz) t z) b (m.1, wt m.2 t)
def LI (a b sz : Nat) (x : XV) (m : Mst) (k : Option Nat) (kz : MX) (t : Option Nat) : Prop :=
  a + 46 ≤ b ∧ b + 25 ≤ sz ∧ (∀ q, t = some q → b + 25 ≤ q ∧ q + 25 ≤ sz) ∧ (∀ q, k = some q → b + 25 ≤ q ∧ q + 25 ≤ sz) ∧ (∀ q p, t = some q → k = some p → ap25 p q) ∧ m.2.2.2.2.2 = k ∧ Rl x m ∧ okP (x.1 2) ∧ ((x.2.2.2.2.2 = 0 ∧ k = none) ∨ (¬ x.2.2.2.2.2 = 0 ∧ (∃ p, k = some p) ∧ kz.1 = x.1 2 ∧ Iv (x.1 2)))
def GG (b sz : Nat) (t : Option Nat) : Nat → Prop := fun n => b + 25 ≤ n ∧ (t = some n ∨ sz ≤ n)
section LW
variable {K : Kx} {w0 : Wd} {a b sz : Nat} {x : XV} {m : Mst} {k : Option Nat} {kz : MX} {t : Option Nat} {z : MX}
theorem LI.rl (h : LI a b sz x m k kz t) : Rl x m := h.2.2.2.2.2.2.1
theorem LI.okx (h : LI a b sz x m k kz t) : okX x := h.rl.okX h.2.2.2.2.2.2.2.1
theorem LI.okm (h : LI a b sz x m k kz t) : okM (m.1, m.2) := h.rl.okM
theorem LI.tok (h : LI a b sz x m k kz t) : tOk (GG b sz t) b sz t := by
  refine ⟨⟨h.2.1, fun n hn => ⟨by have := h.2.1; omega, Or.inr hn⟩⟩, fun q hq => ⟨Or.inr (h.2.2.1 q hq).1, (h.2.2.1 q hq).1, Or.inl hq⟩⟩
theorem LI.toX (h : LI a b sz x m k kz t) (x' : XV) : putX K (putM K (tw K (tw K w0 k kz) t z) b (m.1, wt m.2 t)) a x' = LM K w0 a x' b m k kz t z := by
  rw [xm_swap h.1, tw_x (fun q hq => by have := (h.2.2.1 q hq).1; have := h.1; omega), tw_x (fun q hq => by have := (h.2.2.2.1 q hq).1; have := h.1; omega)]
theorem Rl.rel (h : Rl x m) {x' : XV} (e : rel x' = rel x) : Rl x' m := by
  have e0 : x'.1 0 = x.1 0 := congrArg (fun q => q.1) e
  have e2 : x'.2.1 = x.2.1 := congrArg (fun q => q.2.2.1) e
  have e3 : x'.2.2.1 = x.2.2.1 := congrArg (fun q => q.2.2.2.1) e
  have e4 : x'.2.2.2.1 = x.2.2.2.1 := congrArg (fun q => q.2.2.2.2.1) e
  unfold Rl at *
  rw [e0, e2, e3, e4]; exact h
theorem LI.step {α : Type} {A : α × XV} {B : α × Mst} {x' : XV} {sz' : Nat} {t' : Option Nat} (h : LI a b sz x m k kz t) (hR : Rs x m A B) (hx : rel x' = rel A.2) (ht : tOk (GG b sz t) b sz' t') (hz : sz ≤ sz') (hb : ∀ q, t' = some q → q + 25 ≤ sz') : LI a b sz' x' B.2 k kz t' := by
  obtain ⟨h1, h2, h3, h4, h5, h6, h7, h8, h9⟩ := h
  obtain ⟨r1, r2, r3, r4, r5⟩ := hR
  have e1 : x'.1 2 = A.2.1 2 := congrArg (fun q => q.2.1) hx
  have e5 : x'.2.2.2.2.2 = A.2.2.2.2.2.2 := congrArg (fun q => q.2.2.2.2.2) hx
  refine ⟨h1, by omega, fun q hq => ⟨(ht.2 q hq).2.1, hb q hq⟩, fun q hq => ⟨(h4 q hq).1, by have := (h4 q hq).2; omega⟩, fun q p hq hp => ?_, by rw [r5]; exact h6, r2.rel hx, by rw [e1, r3]; exact h8, by rw [e1, e5, r3, r4]; exact h9⟩
  rcases (ht.2 q hq).2.2 with z | z
  · exact h5 q p z hp
  · exact Or.inl (by have := (h4 p hp).2; omega)
theorem N.bt {M : Md} {d mc ms : Nat} {Q : Qx} {pc : Nat} {L : List (Option Value)} {st : List Value} {W : Wd} {cc ss : Nat} {v : CV} {E : ME} {G : Nat → Prop} (h : tOk G b sz t) (kk : (∀ q, t = some q → q + 25 ≤ sz) → N K M d mc ms Q pc L st (putM K (tw K W t z) b (v, E)) sz cc ss) : N K M d mc ms Q pc L st (putM K (tw K W t z) b (v, E)) sz cc ss := by
  cases t with
  | none => exact kk (fun q e => by cases e)
  | some q0 => exact N.bnd (tLast (h.2 q0 rfl).1) (fun hlt => kk (fun q e => by cases e; omega))
end LW
theorem N.vi5A {K : Kx} {M M' : Md} {d d' mc ms mc' ms' : Nat} {Q : Qx} {pc idx n a : Nat} {L : List (Option Value)} {rest : List Value} {w : Wd} {sz cc ss ci : Nat} {fs : List Value} {a1 a2 a3 a4 a5 : Value} {P : Int32 → Wd → Nat → Prop} (hd : decode M.2.1 pc = .ok (.invokevirtual idx, 3)) (hM : MV ci n M') (hk : LK M.1.cls idx M'.1) (hS : Sp K M' d' mc' ms' (.ref a :: [a1, a2, a3, a4, a5]) w sz (Qi P)) (hw : w a = some (.inr (ci, fs))) (hn : 5 = n) (hr : (rest.map fun v => v.category).sum ≤ 8) (hdd : d' + 1 ≤ d) (hc : cc + mc' ≤ mc) (hs : ss + ms' ≤ ms) (kk : ∀ (x : Int32) (w' : Wd) (sz' : Nat), P x w' sz' → N K M d mc ms Q (pc + 3) L (.int x :: rest) w' sz' (cc + mc') (ss + ms')) : N K M d mc ms Q pc L (a5 :: a4 :: a3 :: a2 :: a1 :: .ref a :: rest) w sz cc ss := by
  refine N.callV hd hk hM hS hw rfl hn hr hdd hc hs ?_
  rintro r w' sz' ⟨x, rfl, hP⟩; exact kk x w' sz' hP
theorem li_k {i L : Nat} (j : Nat) (h : i + 6 ≤ L) (hj : j < 6) (hL : L ≤ 3072) : vp_in (nI i + nI j) L := by
  rw [nI_add]; exact vp_in_nI (by omega) (by omega)
theorem lg_self {x y : Int64} (h : x = y) : lg_cmp x y = 0 := by
  subst h
  have h1 : ¬ lg_cmp x x < 0 := fun q => absurd ((lg_cmp_lt _ _).mp q) (by rw [Int64.lt_iff_toInt_lt]; omega)
  have h2 : ¬ 0 < lg_cmp x x := fun q => absurd ((lg_cmp_gt _ _).mp q) (by rw [Int64.lt_iff_toInt_lt]; omega)
  exact Int32.le_antisymm (Int32.not_lt.mp h2) (Int32.not_lt.mp h1)
abbrev LL (s0 a b i : Nat) : List (Option Value) := [some (.ref s0), some (.ref a), some (.ref b), some (.int (nI i))]
def CK (K : Kx) (w0 : Wd) (s0 a b i mc ms : Nat) (Q : Qx) (cc ss : Nat) : Prop := ∀ (x' : XV) (m' : Mst) (k' : Option Nat) (kz' : MX) (t' : Option Nat) (z' : MX) (sz' cc' ss' : Nat), LI a b sz' x' m' k' kz' t' → cc' ≤ cc + 50 → ss' ≤ ss + 1510 → N K mL_law 2048 mc ms Q 1682 (LL s0 a b i) [] (LM K w0 a x' b m' k' kz' t' z') sz' cc' ss' 
set_option maxRecDepth 100000 in
theorem cs_row {K : Kx} {w0 : Wd} {s0 a b i L mc ms sz cc ss : Nat} {Q : Qx} {xs : Nat → Int32} {x : XV} {m : Mst} {k : Option Nat} {kz : MX} {t : Option Nat} {z : MX} (hT : va_T .int s0 L (fun j => .int (xs j)) (fr K) (kS K) (kS K).heap) (hL : L ≤ 3072) (hi : i + 6 ≤ L) (hI : LI a b sz x m k kz t) (hcc : cc + 50 ≤ mc) (hss : ss + 1510 ≤ ms) (hK : CK K w0 s0 a b i mc ms Q cc ss) : N K mL_law 2048 mc ms Q 244 (LL s0 a b i) [] (LM K w0 a x b m k kz t z) sz cc ss := by
  refine N.eqW (hI.toX x).symm ?_
  refine N.aload1 dL_law_244 ?_
  refine N.aload0 dL_law_245 ?_
  refine N.iload3 dL_law_246 ?_
  refine N.iconst (v := 1) dL_law_247 (by decide) ?_
  refine N.iadd dL_law_248 ?_
  refine N.ialdT dL_law_249 (fun _ => hT) (li_k 1 hi (by decide) hL) ?_
  refine N.aload0 dL_law_250 ?_
  refine N.iload3 dL_law_251 ?_
  refine N.iconst (v := 2) dL_law_252 (by decide) ?_
  refine N.iadd dL_law_253 ?_
  refine N.ialdT dL_law_254 (fun _ => hT) (li_k 2 hi (by decide) hL) ?_
  refine N.aload0 dL_law_255 ?_
  refine N.iload3 dL_law_256 ?_
  refine N.iconst (v := 3) dL_law_257 (by decide) ?_
  refine N.iadd dL_law_258 ?_
  refine N.ialdT dL_law_259 (fun _ => hT) (li_k 3 hi (by decide) hL) ?_
  refine N.vi3 dL_law_260 vX4_row lkL_13 (s_X4_row _ a _ x _ _ _ hI.okx) xO rfl (Nat.le_of_ble_eq_true rfl) (Nat.le_of_ble_eq_true rfl) (by omega) (by omega) ?_
  rintro _ _ _ ⟨rfl, rfl, x2, rfl, hx2⟩
  refine N.eqW (hI.toX x2) ?_
  refine N.aload2 dL_law_263 ?_
  refine N.aload0 dL_law_264 ?_
  refine N.iload3 dL_law_265 ?_
  refine N.iconst (v := 1) dL_law_266 (by decide) ?_
  refine N.iadd dL_law_267 ?_
  refine N.ialdT dL_law_268 (fun _ => hT) (li_k 1 hi (by decide) hL) ?_
  refine N.aload0 dL_law_269 ?_
  refine N.iload3 dL_law_270 ?_
  refine N.iconst (v := 2) dL_law_271 (by decide) ?_
  refine N.iadd dL_law_272 ?_
  refine N.ialdT dL_law_273 (fun _ => hT) (li_k 2 hi (by decide) hL) ?_
  refine N.aload0 dL_law_274 ?_
  refine N.iload3 dL_law_275 ?_
  refine N.iconst (v := 3) dL_law_276 (by decide) ?_
  refine N.iadd dL_law_277 ?_
  refine N.ialdT dL_law_278 (fun _ => hT) (li_k 3 hi (by decide) hL) ?_
  refine N.vi3A dL_law_279 vX5_row lkL_17 (s_X5_row _ b _ m.1 m.2 t z _ _ _ hI.tok hI.okm) mO rfl (Nat.le_of_ble_eq_true rfl) (Nat.le_of_ble_eq_true rfl) (by have := kc_25 t; omega) (by have := ks_755 t; omega) ?_
  rintro _ _ sz2 ⟨rfl, t2, z2, rfl, ht2, hz2⟩
  refine N.icmp_eq (tgt := 1682) dL_law_282 (by decide) (fun c282 => ?_) (fun c282 => absurd (R_row hI.rl _ _ _).1 c282)
  refine N.bt ht2 (fun hb => ?_)
  exact hK _ _ k kz t2 z2 _ _ _ (hI.step (R_row hI.rl _ _ _) hx2 ht2 hz2 hb) (by have := kc_25 t; omega) (by have := ks_755 t; omega)
set_option maxRecDepth 100000 in
theorem cs_set {K : Kx} {w0 : Wd} {s0 a b i L mc ms sz cc ss : Nat} {Q : Qx} {xs : Nat → Int32} {x : XV} {m : Mst} {k : Option Nat} {kz : MX} {t : Option Nat} {z : MX} (hT : va_T .int s0 L (fun j => .int (xs j)) (fr K) (kS K) (kS K).heap) (hL : L ≤ 3072) (hi : i + 6 ≤ L) (hI : LI a b sz x m k kz t) (hcc : cc + 50 ≤ mc) (hss : ss + 1510 ≤ ms) (hK : CK K w0 s0 a b i mc ms Q cc ss) : N K mL_law 2048 mc ms Q 287 (LL s0 a b i) [] (LM K w0 a x b m k kz t z) sz cc ss := by
  refine N.eqW (hI.toX x).symm ?_
  refine N.aload1 dL_law_287 ?_
  refine N.aload0 dL_law_288 ?_
  refine N.iload3 dL_law_289 ?_
  refine N.iconst (v := 1) dL_law_290 (by decide) ?_
  refine N.iadd dL_law_291 ?_
  refine N.ialdT dL_law_292 (fun _ => hT) (li_k 1 hi (by decide) hL) ?_
  refine N.aload0 dL_law_293 ?_
  refine N.iload3 dL_law_294 ?_
  refine N.iconst (v := 2) dL_law_295 (by decide) ?_
  refine N.iadd dL_law_296 ?_
  refine N.ialdT dL_law_297 (fun _ => hT) (li_k 2 hi (by decide) hL) ?_
  refine N.aload0 dL_law_298 ?_
  refine N.iload3 dL_law_299 ?_
  refine N.iconst (v := 3) dL_law_300 (by decide) ?_
  refine N.iadd dL_law_301 ?_
  refine N.ialdT dL_law_302 (fun _ => hT) (li_k 3 hi (by decide) hL) ?_
  refine N.i2l dL_law_303 ?_
  refine N.bipush (v := 32) dL_law_304 (by decide) ?_
  refine N.lshl dL_law_306 ?_
  refine N.aload0 dL_law_307 ?_
  refine N.iload3 dL_law_308 ?_
  refine N.iconst (v := 4) dL_law_309 (by decide) ?_
  refine N.iadd dL_law_310 ?_
  refine N.ialdT dL_law_311 (fun _ => hT) (li_k 4 hi (by decide) hL) ?_
  refine N.i2l dL_law_312 ?_
  refine N.ldc2 dL_law_313 ctL_18 ?_
  refine N.land dL_law_316 ?_
  refine N.lor dL_law_317 ?_
  refine N.vi3 dL_law_318 vX4_set lkL_20 (s_X4_set _ a _ x _ _ _ hI.okx) xO rfl (Nat.le_of_ble_eq_true rfl) (Nat.le_of_ble_eq_true rfl) (by omega) (by omega) ?_
  rintro _ _ _ ⟨rfl, rfl, x2, rfl, hx2⟩
  refine N.eqW (hI.toX x2) ?_
  refine N.aload2 dL_law_321 ?_
  refine N.aload0 dL_law_322 ?_
  refine N.iload3 dL_law_323 ?_
  refine N.iconst (v := 1) dL_law_324 (by decide) ?_
  refine N.iadd dL_law_325 ?_
  refine N.ialdT dL_law_326 (fun _ => hT) (li_k 1 hi (by decide) hL) ?_
  refine N.aload0 dL_law_327 ?_
  refine N.iload3 dL_law_328 ?_
  refine N.iconst (v := 2) dL_law_329 (by decide) ?_
  refine N.iadd dL_law_330 ?_
  refine N.ialdT dL_law_331 (fun _ => hT) (li_k 2 hi (by decide) hL) ?_
  refine N.aload0 dL_law_332 ?_
  refine N.iload3 dL_law_333 ?_
  refine N.iconst (v := 3) dL_law_334 (by decide) ?_
  refine N.iadd dL_law_335 ?_
  refine N.ialdT dL_law_336 (fun _ => hT) (li_k 3 hi (by decide) hL) ?_
  refine N.i2l dL_law_337 ?_
  refine N.bipush (v := 32) dL_law_338 (by decide) ?_
  refine N.lshl dL_law_340 ?_
  refine N.aload0 dL_law_341 ?_
  refine N.iload3 dL_law_342 ?_
  refine N.iconst (v := 4) dL_law_343 (by decide) ?_
  refine N.iadd dL_law_344 ?_
  refine N.ialdT dL_law_345 (fun _ => hT) (li_k 4 hi (by decide) hL) ?_
  refine N.i2l dL_law_346 ?_
  refine N.ldc2 dL_law_347 ctL_18 ?_
  refine N.land dL_law_350 ?_
  refine N.lor dL_law_351 ?_
  refine N.vi3A dL_law_352 vX5_set lkL_24 (s_X5_set _ b _ m.1 m.2 t z _ _ _ hI.tok hI.okm) mO rfl (Nat.le_of_ble_eq_true rfl) (Nat.le_of_ble_eq_true rfl) (by have := kc_25 t; omega) (by have := ks_755 t; omega) ?_
  rintro _ _ sz2 ⟨rfl, t2, z2, rfl, ht2, hz2⟩
  refine N.icmp_eq (tgt := 1682) dL_law_355 (by decide) (fun c355 => ?_) (fun c355 => absurd (R_set hI.rl _ _ _).1 c355)
  refine N.bt ht2 (fun hb => ?_)
  exact hK _ _ k kz t2 z2 _ _ _ (hI.step (R_set hI.rl _ _ _) hx2 ht2 hz2 hb) (by have := kc_25 t; omega) (by have := ks_755 t; omega)
set_option maxRecDepth 100000 in
theorem cs_copy {K : Kx} {w0 : Wd} {s0 a b i L mc ms sz cc ss : Nat} {Q : Qx} {xs : Nat → Int32} {x : XV} {m : Mst} {k : Option Nat} {kz : MX} {t : Option Nat} {z : MX} (hT : va_T .int s0 L (fun j => .int (xs j)) (fr K) (kS K) (kS K).heap) (hL : L ≤ 3072) (hi : i + 6 ≤ L) (hI : LI a b sz x m k kz t) (hcc : cc + 50 ≤ mc) (hss : ss + 1510 ≤ ms) (hK : CK K w0 s0 a b i mc ms Q cc ss) : N K mL_law 2048 mc ms Q 360 (LL s0 a b i) [] (LM K w0 a x b m k kz t z) sz cc ss := by
  refine N.eqW (hI.toX x).symm ?_
  refine N.aload1 dL_law_360 ?_
  refine N.aload0 dL_law_361 ?_
  refine N.iload3 dL_law_362 ?_
  refine N.iconst (v := 1) dL_law_363 (by decide) ?_
  refine N.iadd dL_law_364 ?_
  refine N.ialdT dL_law_365 (fun _ => hT) (li_k 1 hi (by decide) hL) ?_
  refine N.aload0 dL_law_366 ?_
  refine N.iload3 dL_law_367 ?_
  refine N.iconst (v := 2) dL_law_368 (by decide) ?_
  refine N.iadd dL_law_369 ?_
  refine N.ialdT dL_law_370 (fun _ => hT) (li_k 2 hi (by decide) hL) ?_
  refine N.aload0 dL_law_371 ?_
  refine N.iload3 dL_law_372 ?_
  refine N.iconst (v := 3) dL_law_373 (by decide) ?_
  refine N.iadd dL_law_374 ?_
  refine N.ialdT dL_law_375 (fun _ => hT) (li_k 3 hi (by decide) hL) ?_
  refine N.aload0 dL_law_376 ?_
  refine N.iload3 dL_law_377 ?_
  refine N.iconst (v := 4) dL_law_378 (by decide) ?_
  refine N.iadd dL_law_379 ?_
  refine N.ialdT dL_law_380 (fun _ => hT) (li_k 4 hi (by decide) hL) ?_
  refine N.aload0 dL_law_381 ?_
  refine N.iload3 dL_law_382 ?_
  refine N.iconst (v := 5) dL_law_383 (by decide) ?_
  refine N.iadd dL_law_384 ?_
  refine N.ialdT dL_law_385 (fun _ => hT) (li_k 5 hi (by decide) hL) ?_
  refine N.vi5 dL_law_386 vX4_copy lkL_25 (s_X4_copy _ a _ x _ _ _ _ _ hI.okx) xO rfl (Nat.le_of_ble_eq_true rfl) (Nat.le_of_ble_eq_true rfl) (by omega) (by omega) ?_
  rintro _ _ _ ⟨rfl, rfl, x2, rfl, hx2⟩
  refine N.eqW (hI.toX x2) ?_
  refine N.aload2 dL_law_389 ?_
  refine N.aload0 dL_law_390 ?_
  refine N.iload3 dL_law_391 ?_
  refine N.iconst (v := 1) dL_law_392 (by decide) ?_
  refine N.iadd dL_law_393 ?_
  refine N.ialdT dL_law_394 (fun _ => hT) (li_k 1 hi (by decide) hL) ?_
  refine N.aload0 dL_law_395 ?_
  refine N.iload3 dL_law_396 ?_
  refine N.iconst (v := 2) dL_law_397 (by decide) ?_
  refine N.iadd dL_law_398 ?_
  refine N.ialdT dL_law_399 (fun _ => hT) (li_k 2 hi (by decide) hL) ?_
  refine N.aload0 dL_law_400 ?_
  refine N.iload3 dL_law_401 ?_
  refine N.iconst (v := 3) dL_law_402 (by decide) ?_
  refine N.iadd dL_law_403 ?_
  refine N.ialdT dL_law_404 (fun _ => hT) (li_k 3 hi (by decide) hL) ?_
  refine N.aload0 dL_law_405 ?_
  refine N.iload3 dL_law_406 ?_
  refine N.iconst (v := 4) dL_law_407 (by decide) ?_
  refine N.iadd dL_law_408 ?_
  refine N.ialdT dL_law_409 (fun _ => hT) (li_k 4 hi (by decide) hL) ?_
  refine N.aload0 dL_law_410 ?_
  refine N.iload3 dL_law_411 ?_
  refine N.iconst (v := 5) dL_law_412 (by decide) ?_
  refine N.iadd dL_law_413 ?_
  refine N.ialdT dL_law_414 (fun _ => hT) (li_k 5 hi (by decide) hL) ?_
  refine N.vi5A dL_law_415 vX5_copy lkL_29 (s_X5_copy _ b _ m.1 m.2 t z _ _ _ _ _ hI.tok hI.okm) mO rfl (Nat.le_of_ble_eq_true rfl) (Nat.le_of_ble_eq_true rfl) (by have := kc_25 t; omega) (by have := ks_755 t; omega) ?_
  rintro _ _ sz2 ⟨rfl, t2, z2, rfl, ht2, hz2⟩
  refine N.icmp_eq (tgt := 1682) dL_law_418 (by decide) (fun c418 => ?_) (fun c418 => absurd (R_copy hI.rl _ _ _ _ _).1 c418)
  refine N.bt ht2 (fun hb => ?_)
  exact hK _ _ k kz t2 z2 _ _ _ (hI.step (R_copy hI.rl _ _ _ _ _) hx2 ht2 hz2 hb) (by have := kc_25 t; omega) (by have := ks_755 t; omega)
set_option maxRecDepth 100000 in
theorem cs_element {K : Kx} {w0 : Wd} {s0 a b i L mc ms sz cc ss : Nat} {Q : Qx} {xs : Nat → Int32} {x : XV} {m : Mst} {k : Option Nat} {kz : MX} {t : Option Nat} {z : MX} (hT : va_T .int s0 L (fun j => .int (xs j)) (fr K) (kS K) (kS K).heap) (hL : L ≤ 3072) (hi : i + 6 ≤ L) (hI : LI a b sz x m k kz t) (hcc : cc + 50 ≤ mc) (hss : ss + 1510 ≤ ms) (hK : CK K w0 s0 a b i mc ms Q cc ss) : N K mL_law 2048 mc ms Q 423 (LL s0 a b i) [] (LM K w0 a x b m k kz t z) sz cc ss := by
  refine N.eqW (hI.toX x).symm ?_
  refine N.aload1 dL_law_423 ?_
  refine N.aload0 dL_law_424 ?_
  refine N.iload3 dL_law_425 ?_
  refine N.iconst (v := 1) dL_law_426 (by decide) ?_
  refine N.iadd dL_law_427 ?_
  refine N.ialdT dL_law_428 (fun _ => hT) (li_k 1 hi (by decide) hL) ?_
  refine N.aload0 dL_law_429 ?_
  refine N.iload3 dL_law_430 ?_
  refine N.iconst (v := 2) dL_law_431 (by decide) ?_
  refine N.iadd dL_law_432 ?_
  refine N.ialdT dL_law_433 (fun _ => hT) (li_k 2 hi (by decide) hL) ?_
  refine N.vl2 dL_law_434 vX4_element lkL_30 (s_X4_element _ a _ x _ _ hI.okx) xO rfl (Nat.le_of_ble_eq_true rfl) (Nat.le_of_ble_eq_true rfl) (by omega) (by omega) ?_
  rintro _ _ _ ⟨rfl, rfl, x2, rfl, hx2⟩
  refine N.eqW (hI.toX x2) ?_
  refine N.aload2 dL_law_437 ?_
  refine N.aload0 dL_law_438 ?_
  refine N.iload3 dL_law_439 ?_
  refine N.iconst (v := 1) dL_law_440 (by decide) ?_
  refine N.iadd dL_law_441 ?_
  refine N.ialdT dL_law_442 (fun _ => hT) (li_k 1 hi (by decide) hL) ?_
  refine N.aload0 dL_law_443 ?_
  refine N.iload3 dL_law_444 ?_
  refine N.iconst (v := 2) dL_law_445 (by decide) ?_
  refine N.iadd dL_law_446 ?_
  refine N.ialdT dL_law_447 (fun _ => hT) (li_k 2 hi (by decide) hL) ?_
  refine N.vl2A dL_law_448 vX5_element lkL_34 (s_X5_element _ b _ m.1 m.2 t z _ _ hI.tok hI.okm) mO rfl (Nat.le_of_ble_eq_true rfl) (Nat.le_of_ble_eq_true rfl) (by have := kc_25 t; omega) (by have := ks_755 t; omega) ?_
  rintro _ _ sz2 ⟨rfl, t2, z2, rfl, ht2, hz2⟩
  refine N.lcmp dL_law_451 ?_
  refine N.if_eq (tgt := 1682) dL_law_452 (by decide) (fun c452 => ?_) (fun c452 => absurd (lg_self (R_elem hI.rl _ _).1) c452)
  refine N.bt ht2 (fun hb => ?_)
  exact hK _ _ k kz t2 z2 _ _ _ (hI.step (R_elem hI.rl _ _) hx2 ht2 hz2 hb) (by have := kc_25 t; omega) (by have := ks_755 t; omega)
set_option maxRecDepth 100000 in
theorem cs_holds {K : Kx} {w0 : Wd} {s0 a b i L mc ms sz cc ss : Nat} {Q : Qx} {xs : Nat → Int32} {x : XV} {m : Mst} {k : Option Nat} {kz : MX} {t : Option Nat} {z : MX} (hT : va_T .int s0 L (fun j => .int (xs j)) (fr K) (kS K) (kS K).heap) (hL : L ≤ 3072) (hi : i + 6 ≤ L) (hI : LI a b sz x m k kz t) (hcc : cc + 50 ≤ mc) (hss : ss + 1510 ≤ ms) (hK : CK K w0 s0 a b i mc ms Q cc ss) : N K mL_law 2048 mc ms Q 457 (LL s0 a b i) [] (LM K w0 a x b m k kz t z) sz cc ss := by
  refine N.eqW (hI.toX x).symm ?_
  refine N.aload1 dL_law_457 ?_
  refine N.aload0 dL_law_458 ?_
  refine N.iload3 dL_law_459 ?_
  refine N.iconst (v := 1) dL_law_460 (by decide) ?_
  refine N.iadd dL_law_461 ?_
  refine N.ialdT dL_law_462 (fun _ => hT) (li_k 1 hi (by decide) hL) ?_
  refine N.vi1 dL_law_463 vX4_holds lkL_35 (s_X4_holds _ a _ x _ hI.okx) xO rfl (Nat.le_of_ble_eq_true rfl) (Nat.le_of_ble_eq_true rfl) (by omega) (by omega) ?_
  rintro _ _ _ ⟨rfl, rfl, x2, rfl, hx2⟩
  refine N.eqW (hI.toX x2) ?_
  refine N.aload2 dL_law_466 ?_
  refine N.aload0 dL_law_467 ?_
  refine N.iload3 dL_law_468 ?_
  refine N.iconst (v := 1) dL_law_469 (by decide) ?_
  refine N.iadd dL_law_470 ?_
  refine N.ialdT dL_law_471 (fun _ => hT) (li_k 1 hi (by decide) hL) ?_
  refine N.vi1A dL_law_472 vX5_holds lkL_39 (s_X5_holds _ b _ m.1 m.2 t z _ hI.tok hI.okm) mO rfl (Nat.le_of_ble_eq_true rfl) (Nat.le_of_ble_eq_true rfl) (by have := kc_25 t; omega) (by have := ks_755 t; omega) ?_
  rintro _ _ sz2 ⟨rfl, t2, z2, rfl, ht2, hz2⟩
  refine N.icmp_eq (tgt := 1682) dL_law_475 (by decide) (fun c475 => ?_) (fun c475 => absurd (R_holds hI.rl _).1 c475)
  refine N.bt ht2 (fun hb => ?_)
  exact hK _ _ k kz t2 z2 _ _ _ (hI.step (R_holds hI.rl _) hx2 ht2 hz2 hb) (by have := kc_25 t; omega) (by have := ks_755 t; omega)
set_option maxRecDepth 100000 in
theorem cs_show {K : Kx} {w0 : Wd} {s0 a b i L mc ms sz cc ss : Nat} {Q : Qx} {xs : Nat → Int32} {x : XV} {m : Mst} {k : Option Nat} {kz : MX} {t : Option Nat} {z : MX} (hT : va_T .int s0 L (fun j => .int (xs j)) (fr K) (kS K) (kS K).heap) (hL : L ≤ 3072) (hi : i + 6 ≤ L) (hI : LI a b sz x m k kz t) (hcc : cc + 50 ≤ mc) (hss : ss + 1510 ≤ ms) (hK : CK K w0 s0 a b i mc ms Q cc ss) : N K mL_law 2048 mc ms Q 480 (LL s0 a b i) [] (LM K w0 a x b m k kz t z) sz cc ss := by
  refine N.eqW (hI.toX x).symm ?_
  refine N.aload1 dL_law_480 ?_
  refine N.aload0 dL_law_481 ?_
  refine N.iload3 dL_law_482 ?_
  refine N.iconst (v := 1) dL_law_483 (by decide) ?_
  refine N.iadd dL_law_484 ?_
  refine N.ialdT dL_law_485 (fun _ => hT) (li_k 1 hi (by decide) hL) ?_
  refine N.aload0 dL_law_486 ?_
  refine N.iload3 dL_law_487 ?_
  refine N.iconst (v := 2) dL_law_488 (by decide) ?_
  refine N.iadd dL_law_489 ?_
  refine N.ialdT dL_law_490 (fun _ => hT) (li_k 2 hi (by decide) hL) ?_
  refine N.vi2 dL_law_491 vX4_show lkL_40 (s_X4_show _ a _ x _ _ hI.okx) xO rfl (Nat.le_of_ble_eq_true rfl) (Nat.le_of_ble_eq_true rfl) (by omega) (by omega) ?_
  rintro _ _ _ ⟨rfl, rfl, x2, rfl, hx2⟩
  refine N.eqW (hI.toX x2) ?_
  refine N.aload2 dL_law_494 ?_
  refine N.aload0 dL_law_495 ?_
  refine N.iload3 dL_law_496 ?_
  refine N.iconst (v := 1) dL_law_497 (by decide) ?_
  refine N.iadd dL_law_498 ?_
  refine N.ialdT dL_law_499 (fun _ => hT) (li_k 1 hi (by decide) hL) ?_
  refine N.aload0 dL_law_500 ?_
  refine N.iload3 dL_law_501 ?_
  refine N.iconst (v := 2) dL_law_502 (by decide) ?_
  refine N.iadd dL_law_503 ?_
  refine N.ialdT dL_law_504 (fun _ => hT) (li_k 2 hi (by decide) hL) ?_
  refine N.vi2A dL_law_505 vX5_show lkL_44 (s_X5_show _ b _ m.1 m.2 t z _ _ hI.tok hI.okm) mO rfl (Nat.le_of_ble_eq_true rfl) (Nat.le_of_ble_eq_true rfl) (by have := kc_25 t; omega) (by have := ks_755 t; omega) ?_
  rintro _ _ sz2 ⟨rfl, t2, z2, rfl, ht2, hz2⟩
  refine N.icmp_eq (tgt := 1682) dL_law_508 (by decide) (fun c508 => ?_) (fun c508 => absurd (R_show hI.rl _ _).1 c508)
  refine N.bt ht2 (fun hb => ?_)
  exact hK _ _ k kz t2 z2 _ _ _ (hI.step (R_show hI.rl _ _) hx2 ht2 hz2 hb) (by have := kc_25 t; omega) (by have := ks_755 t; omega)
set_option maxRecDepth 100000 in
theorem cs_says {K : Kx} {w0 : Wd} {s0 a b i L mc ms sz cc ss : Nat} {Q : Qx} {xs : Nat → Int32} {x : XV} {m : Mst} {k : Option Nat} {kz : MX} {t : Option Nat} {z : MX} (hT : va_T .int s0 L (fun j => .int (xs j)) (fr K) (kS K) (kS K).heap) (hL : L ≤ 3072) (hi : i + 6 ≤ L) (hI : LI a b sz x m k kz t) (hcc : cc + 50 ≤ mc) (hss : ss + 1510 ≤ ms) (hK : CK K w0 s0 a b i mc ms Q cc ss) : N K mL_law 2048 mc ms Q 513 (LL s0 a b i) [] (LM K w0 a x b m k kz t z) sz cc ss := by
  refine N.eqW (hI.toX x).symm ?_
  refine N.aload1 dL_law_513 ?_
  refine N.aload0 dL_law_514 ?_
  refine N.iload3 dL_law_515 ?_
  refine N.iconst (v := 1) dL_law_516 (by decide) ?_
  refine N.iadd dL_law_517 ?_
  refine N.ialdT dL_law_518 (fun _ => hT) (li_k 1 hi (by decide) hL) ?_
  refine N.aload0 dL_law_519 ?_
  refine N.iload3 dL_law_520 ?_
  refine N.iconst (v := 2) dL_law_521 (by decide) ?_
  refine N.iadd dL_law_522 ?_
  refine N.ialdT dL_law_523 (fun _ => hT) (li_k 2 hi (by decide) hL) ?_
  refine N.vi2 dL_law_524 vX4_says lkL_45 (s_X4_says _ a _ x _ _ hI.okx) xO rfl (Nat.le_of_ble_eq_true rfl) (Nat.le_of_ble_eq_true rfl) (by omega) (by omega) ?_
  rintro _ _ _ ⟨rfl, rfl, x2, rfl, hx2⟩
  refine N.eqW (hI.toX x2) ?_
  refine N.aload2 dL_law_527 ?_
  refine N.aload0 dL_law_528 ?_
  refine N.iload3 dL_law_529 ?_
  refine N.iconst (v := 1) dL_law_530 (by decide) ?_
  refine N.iadd dL_law_531 ?_
  refine N.ialdT dL_law_532 (fun _ => hT) (li_k 1 hi (by decide) hL) ?_
  refine N.aload0 dL_law_533 ?_
  refine N.iload3 dL_law_534 ?_
  refine N.iconst (v := 2) dL_law_535 (by decide) ?_
  refine N.iadd dL_law_536 ?_
  refine N.ialdT dL_law_537 (fun _ => hT) (li_k 2 hi (by decide) hL) ?_
  refine N.vi2A dL_law_538 vX5_says lkL_48 (s_X5_says _ b _ m.1 m.2 t z _ _ hI.tok hI.okm) mO rfl (Nat.le_of_ble_eq_true rfl) (Nat.le_of_ble_eq_true rfl) (by have := kc_25 t; omega) (by have := ks_755 t; omega) ?_
  rintro _ _ sz2 ⟨rfl, t2, z2, rfl, ht2, hz2⟩
  refine N.icmp_eq (tgt := 1682) dL_law_541 (by decide) (fun c541 => ?_) (fun c541 => absurd (R_says hI.rl _ _).1 c541)
  refine N.bt ht2 (fun hb => ?_)
  exact hK _ _ k kz t2 z2 _ _ _ (hI.step (R_says hI.rl _ _) hx2 ht2 hz2 hb) (by have := kc_25 t; omega) (by have := ks_755 t; omega)
set_option maxRecDepth 100000 in
theorem cs_player {K : Kx} {w0 : Wd} {s0 a b i L mc ms sz cc ss : Nat} {Q : Qx} {xs : Nat → Int32} {x : XV} {m : Mst} {k : Option Nat} {kz : MX} {t : Option Nat} {z : MX} (hT : va_T .int s0 L (fun j => .int (xs j)) (fr K) (kS K) (kS K).heap) (hL : L ≤ 3072) (hi : i + 6 ≤ L) (hI : LI a b sz x m k kz t) (hcc : cc + 50 ≤ mc) (hss : ss + 1510 ≤ ms) (hK : CK K w0 s0 a b i mc ms Q cc ss) : N K mL_law 2048 mc ms Q 546 (LL s0 a b i) [] (LM K w0 a x b m k kz t z) sz cc ss := by
  refine N.eqW (hI.toX x).symm ?_
  refine N.aload1 dL_law_546 ?_
  refine N.aload0 dL_law_547 ?_
  refine N.iload3 dL_law_548 ?_
  refine N.iconst (v := 1) dL_law_549 (by decide) ?_
  refine N.iadd dL_law_550 ?_
  refine N.ialdT dL_law_551 (fun _ => hT) (li_k 1 hi (by decide) hL) ?_
  refine N.aload0 dL_law_552 ?_
  refine N.iload3 dL_law_553 ?_
  refine N.iconst (v := 2) dL_law_554 (by decide) ?_
  refine N.iadd dL_law_555 ?_
  refine N.ialdT dL_law_556 (fun _ => hT) (li_k 2 hi (by decide) hL) ?_
  refine N.aload0 dL_law_557 ?_
  refine N.iload3 dL_law_558 ?_
  refine N.iconst (v := 3) dL_law_559 (by decide) ?_
  refine N.iadd dL_law_560 ?_
  refine N.ialdT dL_law_561 (fun _ => hT) (li_k 3 hi (by decide) hL) ?_
  refine N.vi3 dL_law_562 vX4_player lkL_49 (s_X4_player _ a _ x _ _ _ hI.okx) xO rfl (Nat.le_of_ble_eq_true rfl) (Nat.le_of_ble_eq_true rfl) (by omega) (by omega) ?_
  rintro _ _ _ ⟨rfl, rfl, x2, rfl, hx2⟩
  refine N.eqW (hI.toX x2) ?_
  refine N.aload2 dL_law_565 ?_
  refine N.aload0 dL_law_566 ?_
  refine N.iload3 dL_law_567 ?_
  refine N.iconst (v := 1) dL_law_568 (by decide) ?_
  refine N.iadd dL_law_569 ?_
  refine N.ialdT dL_law_570 (fun _ => hT) (li_k 1 hi (by decide) hL) ?_
  refine N.aload0 dL_law_571 ?_
  refine N.iload3 dL_law_572 ?_
  refine N.iconst (v := 2) dL_law_573 (by decide) ?_
  refine N.iadd dL_law_574 ?_
  refine N.ialdT dL_law_575 (fun _ => hT) (li_k 2 hi (by decide) hL) ?_
  refine N.aload0 dL_law_576 ?_
  refine N.iload3 dL_law_577 ?_
  refine N.iconst (v := 3) dL_law_578 (by decide) ?_
  refine N.iadd dL_law_579 ?_
  refine N.ialdT dL_law_580 (fun _ => hT) (li_k 3 hi (by decide) hL) ?_
  refine N.vi3A dL_law_581 vX5_player lkL_52 (s_X5_player _ b _ m.1 m.2 t z _ _ _ hI.tok hI.okm) mO rfl (Nat.le_of_ble_eq_true rfl) (Nat.le_of_ble_eq_true rfl) (by have := kc_25 t; omega) (by have := ks_755 t; omega) ?_
  rintro _ _ sz2 ⟨rfl, t2, z2, rfl, ht2, hz2⟩
  refine N.icmp_eq (tgt := 1682) dL_law_584 (by decide) (fun c584 => ?_) (fun c584 => absurd (R_player hI.rl _ _ _).1 c584)
  refine N.bt ht2 (fun hb => ?_)
  exact hK _ _ k kz t2 z2 _ _ _ (hI.step (R_player hI.rl _ _ _) hx2 ht2 hz2 hb) (by have := kc_25 t; omega) (by have := ks_755 t; omega)
set_option maxRecDepth 100000 in
theorem cs_tell {K : Kx} {w0 : Wd} {s0 a b i L mc ms sz cc ss : Nat} {Q : Qx} {xs : Nat → Int32} {x : XV} {m : Mst} {k : Option Nat} {kz : MX} {t : Option Nat} {z : MX} (hT : va_T .int s0 L (fun j => .int (xs j)) (fr K) (kS K) (kS K).heap) (hL : L ≤ 3072) (hi : i + 6 ≤ L) (hI : LI a b sz x m k kz t) (hcc : cc + 50 ≤ mc) (hss : ss + 1510 ≤ ms) (hK : CK K w0 s0 a b i mc ms Q cc ss) : N K mL_law 2048 mc ms Q 589 (LL s0 a b i) [] (LM K w0 a x b m k kz t z) sz cc ss := by
  refine N.eqW (hI.toX x).symm ?_
  refine N.aload1 dL_law_589 ?_
  refine N.aload0 dL_law_590 ?_
  refine N.iload3 dL_law_591 ?_
  refine N.iconst (v := 1) dL_law_592 (by decide) ?_
  refine N.iadd dL_law_593 ?_
  refine N.ialdT dL_law_594 (fun _ => hT) (li_k 1 hi (by decide) hL) ?_
  refine N.aload0 dL_law_595 ?_
  refine N.iload3 dL_law_596 ?_
  refine N.iconst (v := 2) dL_law_597 (by decide) ?_
  refine N.iadd dL_law_598 ?_
  refine N.ialdT dL_law_599 (fun _ => hT) (li_k 2 hi (by decide) hL) ?_
  refine N.aload0 dL_law_600 ?_
  refine N.iload3 dL_law_601 ?_
  refine N.iconst (v := 3) dL_law_602 (by decide) ?_
  refine N.iadd dL_law_603 ?_
  refine N.ialdT dL_law_604 (fun _ => hT) (li_k 3 hi (by decide) hL) ?_
  refine N.vi3 dL_law_605 vX4_tell lkL_53 (s_X4_tell _ a _ x _ _ _ hI.okx) xO rfl (Nat.le_of_ble_eq_true rfl) (Nat.le_of_ble_eq_true rfl) (by omega) (by omega) ?_
  rintro _ _ _ ⟨rfl, rfl, x2, rfl, hx2⟩
  refine N.eqW (hI.toX x2) ?_
  refine N.aload2 dL_law_608 ?_
  refine N.aload0 dL_law_609 ?_
  refine N.iload3 dL_law_610 ?_
  refine N.iconst (v := 1) dL_law_611 (by decide) ?_
  refine N.iadd dL_law_612 ?_
  refine N.ialdT dL_law_613 (fun _ => hT) (li_k 1 hi (by decide) hL) ?_
  refine N.aload0 dL_law_614 ?_
  refine N.iload3 dL_law_615 ?_
  refine N.iconst (v := 2) dL_law_616 (by decide) ?_
  refine N.iadd dL_law_617 ?_
  refine N.ialdT dL_law_618 (fun _ => hT) (li_k 2 hi (by decide) hL) ?_
  refine N.aload0 dL_law_619 ?_
  refine N.iload3 dL_law_620 ?_
  refine N.iconst (v := 3) dL_law_621 (by decide) ?_
  refine N.iadd dL_law_622 ?_
  refine N.ialdT dL_law_623 (fun _ => hT) (li_k 3 hi (by decide) hL) ?_
  refine N.vi3A dL_law_624 vX5_tell lkL_56 (s_X5_tell _ b _ m.1 m.2 t z _ _ _ hI.tok hI.okm) mO rfl (Nat.le_of_ble_eq_true rfl) (Nat.le_of_ble_eq_true rfl) (by have := kc_25 t; omega) (by have := ks_755 t; omega) ?_
  rintro _ _ sz2 ⟨rfl, t2, z2, rfl, ht2, hz2⟩
  refine N.icmp_eq (tgt := 1682) dL_law_627 (by decide) (fun c627 => ?_) (fun c627 => absurd (R_tell hI.rl _ _ _).1 c627)
  refine N.bt ht2 (fun hb => ?_)
  exact hK _ _ k kz t2 z2 _ _ _ (hI.step (R_tell hI.rl _ _ _) hx2 ht2 hz2 hb) (by have := kc_25 t; omega) (by have := ks_755 t; omega)
set_option maxRecDepth 100000 in
theorem cs_line {K : Kx} {w0 : Wd} {s0 a b i L mc ms sz cc ss : Nat} {Q : Qx} {xs : Nat → Int32} {x : XV} {m : Mst} {k : Option Nat} {kz : MX} {t : Option Nat} {z : MX} (hT : va_T .int s0 L (fun j => .int (xs j)) (fr K) (kS K) (kS K).heap) (hL : L ≤ 3072) (hi : i + 6 ≤ L) (hI : LI a b sz x m k kz t) (hcc : cc + 50 ≤ mc) (hss : ss + 1510 ≤ ms) (hK : CK K w0 s0 a b i mc ms Q cc ss) : N K mL_law 2048 mc ms Q 632 (LL s0 a b i) [] (LM K w0 a x b m k kz t z) sz cc ss := by
  refine N.eqW (hI.toX x).symm ?_
  refine N.aload1 dL_law_632 ?_
  refine N.aload0 dL_law_633 ?_
  refine N.iload3 dL_law_634 ?_
  refine N.iconst (v := 1) dL_law_635 (by decide) ?_
  refine N.iadd dL_law_636 ?_
  refine N.ialdT dL_law_637 (fun _ => hT) (li_k 1 hi (by decide) hL) ?_
  refine N.aload0 dL_law_638 ?_
  refine N.iload3 dL_law_639 ?_
  refine N.iconst (v := 2) dL_law_640 (by decide) ?_
  refine N.iadd dL_law_641 ?_
  refine N.ialdT dL_law_642 (fun _ => hT) (li_k 2 hi (by decide) hL) ?_
  refine N.vi2 dL_law_643 vX4_line lkL_57 (s_X4_line _ a _ x _ _ hI.okx) xO rfl (Nat.le_of_ble_eq_true rfl) (Nat.le_of_ble_eq_true rfl) (by omega) (by omega) ?_
  rintro _ _ _ ⟨rfl, rfl, x2, rfl, hx2⟩
  refine N.eqW (hI.toX x2) ?_
  refine N.aload2 dL_law_646 ?_
  refine N.aload0 dL_law_647 ?_
  refine N.iload3 dL_law_648 ?_
  refine N.iconst (v := 1) dL_law_649 (by decide) ?_
  refine N.iadd dL_law_650 ?_
  refine N.ialdT dL_law_651 (fun _ => hT) (li_k 1 hi (by decide) hL) ?_
  refine N.aload0 dL_law_652 ?_
  refine N.iload3 dL_law_653 ?_
  refine N.iconst (v := 2) dL_law_654 (by decide) ?_
  refine N.iadd dL_law_655 ?_
  refine N.ialdT dL_law_656 (fun _ => hT) (li_k 2 hi (by decide) hL) ?_
  refine N.vi2A dL_law_657 vX5_line lkL_60 (s_X5_line _ b _ m.1 m.2 t z _ _ hI.tok hI.okm) mO rfl (Nat.le_of_ble_eq_true rfl) (Nat.le_of_ble_eq_true rfl) (by have := kc_25 t; omega) (by have := ks_755 t; omega) ?_
  rintro _ _ sz2 ⟨rfl, t2, z2, rfl, ht2, hz2⟩
  refine N.icmp_eq (tgt := 1682) dL_law_660 (by decide) (fun c660 => ?_) (fun c660 => absurd (R_line hI.rl _ _).1 c660)
  refine N.bt ht2 (fun hb => ?_)
  exact hK _ _ k kz t2 z2 _ _ _ (hI.step (R_line hI.rl _ _) hx2 ht2 hz2 hb) (by have := kc_25 t; omega) (by have := ks_755 t; omega)
set_option maxRecDepth 100000 in
theorem cs_ask {K : Kx} {w0 : Wd} {s0 a b i L mc ms sz cc ss : Nat} {Q : Qx} {xs : Nat → Int32} {x : XV} {m : Mst} {k : Option Nat} {kz : MX} {t : Option Nat} {z : MX} (hT : va_T .int s0 L (fun j => .int (xs j)) (fr K) (kS K) (kS K).heap) (hL : L ≤ 3072) (hi : i + 6 ≤ L) (hI : LI a b sz x m k kz t) (hcc : cc + 50 ≤ mc) (hss : ss + 1510 ≤ ms) (hK : CK K w0 s0 a b i mc ms Q cc ss) : N K mL_law 2048 mc ms Q 665 (LL s0 a b i) [] (LM K w0 a x b m k kz t z) sz cc ss := by
  refine N.eqW (hI.toX x).symm ?_
  refine N.aload1 dL_law_665 ?_
  refine N.aload0 dL_law_666 ?_
  refine N.iload3 dL_law_667 ?_
  refine N.iconst (v := 1) dL_law_668 (by decide) ?_
  refine N.iadd dL_law_669 ?_
  refine N.ialdT dL_law_670 (fun _ => hT) (li_k 1 hi (by decide) hL) ?_
  refine N.aload0 dL_law_671 ?_
  refine N.iload3 dL_law_672 ?_
  refine N.iconst (v := 2) dL_law_673 (by decide) ?_
  refine N.iadd dL_law_674 ?_
  refine N.ialdT dL_law_675 (fun _ => hT) (li_k 2 hi (by decide) hL) ?_
  refine N.vi2 dL_law_676 vX4_ask lkL_61 (s_X4_ask _ a _ x _ _ hI.okx) xO rfl (Nat.le_of_ble_eq_true rfl) (Nat.le_of_ble_eq_true rfl) (by omega) (by omega) ?_
  rintro _ _ _ ⟨rfl, rfl, x2, rfl, hx2⟩
  refine N.eqW (hI.toX x2) ?_
  refine N.aload2 dL_law_679 ?_
  refine N.aload0 dL_law_680 ?_
  refine N.iload3 dL_law_681 ?_
  refine N.iconst (v := 1) dL_law_682 (by decide) ?_
  refine N.iadd dL_law_683 ?_
  refine N.ialdT dL_law_684 (fun _ => hT) (li_k 1 hi (by decide) hL) ?_
  refine N.aload0 dL_law_685 ?_
  refine N.iload3 dL_law_686 ?_
  refine N.iconst (v := 2) dL_law_687 (by decide) ?_
  refine N.iadd dL_law_688 ?_
  refine N.ialdT dL_law_689 (fun _ => hT) (li_k 2 hi (by decide) hL) ?_
  refine N.vi2A dL_law_690 vX5_ask lkL_64 (s_X5_ask _ b _ m.1 m.2 t z _ _ hI.tok hI.okm) mO rfl (Nat.le_of_ble_eq_true rfl) (Nat.le_of_ble_eq_true rfl) (by have := kc_25 t; omega) (by have := ks_755 t; omega) ?_
  rintro _ _ sz2 ⟨rfl, t2, z2, rfl, ht2, hz2⟩
  refine N.icmp_eq (tgt := 1682) dL_law_693 (by decide) (fun c693 => ?_) (fun c693 => absurd (R_ask hI.rl _ _).1 c693)
  refine N.bt ht2 (fun hb => ?_)
  exact hK _ _ k kz t2 z2 _ _ _ (hI.step (R_ask hI.rl _ _) hx2 ht2 hz2 hb) (by have := kc_25 t; omega) (by have := ks_755 t; omega)
set_option maxRecDepth 100000 in
theorem cs_feed {K : Kx} {w0 : Wd} {s0 a b i L mc ms sz cc ss : Nat} {Q : Qx} {xs : Nat → Int32} {x : XV} {m : Mst} {k : Option Nat} {kz : MX} {t : Option Nat} {z : MX} (hT : va_T .int s0 L (fun j => .int (xs j)) (fr K) (kS K) (kS K).heap) (hL : L ≤ 3072) (hi : i + 6 ≤ L) (hI : LI a b sz x m k kz t) (hcc : cc + 50 ≤ mc) (hss : ss + 1510 ≤ ms) (hK : CK K w0 s0 a b i mc ms Q cc ss) : N K mL_law 2048 mc ms Q 698 (LL s0 a b i) [] (LM K w0 a x b m k kz t z) sz cc ss := by
  refine N.eqW (hI.toX x).symm ?_
  refine N.aload1 dL_law_698 ?_
  refine N.aload0 dL_law_699 ?_
  refine N.iload3 dL_law_700 ?_
  refine N.iconst (v := 1) dL_law_701 (by decide) ?_
  refine N.iadd dL_law_702 ?_
  refine N.ialdT dL_law_703 (fun _ => hT) (li_k 1 hi (by decide) hL) ?_
  refine N.vi1 dL_law_704 vX4_feed lkL_65 (s_X4_feed _ a _ x _ hI.okx) xO rfl (Nat.le_of_ble_eq_true rfl) (Nat.le_of_ble_eq_true rfl) (by omega) (by omega) ?_
  rintro _ _ _ ⟨rfl, rfl, x2, rfl, hx2⟩
  refine N.eqW (hI.toX x2) ?_
  refine N.aload2 dL_law_707 ?_
  refine N.aload0 dL_law_708 ?_
  refine N.iload3 dL_law_709 ?_
  refine N.iconst (v := 1) dL_law_710 (by decide) ?_
  refine N.iadd dL_law_711 ?_
  refine N.ialdT dL_law_712 (fun _ => hT) (li_k 1 hi (by decide) hL) ?_
  refine N.vi1A dL_law_713 vX5_feed lkL_68 (s_X5_feed _ b _ m.1 m.2 t z _ hI.tok hI.okm) mO rfl (Nat.le_of_ble_eq_true rfl) (Nat.le_of_ble_eq_true rfl) (by have := kc_25 t; omega) (by have := ks_755 t; omega) ?_
  rintro _ _ sz2 ⟨rfl, t2, z2, rfl, ht2, hz2⟩
  refine N.icmp_eq (tgt := 1682) dL_law_716 (by decide) (fun c716 => ?_) (fun c716 => absurd (R_feed hI.rl _).1 c716)
  refine N.bt ht2 (fun hb => ?_)
  exact hK _ _ k kz t2 z2 _ _ _ (hI.step (R_feed hI.rl _) hx2 ht2 hz2 hb) (by have := kc_25 t; omega) (by have := ks_755 t; omega)
set_option maxRecDepth 100000 in
theorem cs_wipe {K : Kx} {w0 : Wd} {s0 a b i L mc ms sz cc ss : Nat} {Q : Qx} {xs : Nat → Int32} {x : XV} {m : Mst} {k : Option Nat} {kz : MX} {t : Option Nat} {z : MX} (hT : va_T .int s0 L (fun j => .int (xs j)) (fr K) (kS K) (kS K).heap) (hL : L ≤ 3072) (hi : i + 6 ≤ L) (hI : LI a b sz x m k kz t) (hcc : cc + 50 ≤ mc) (hss : ss + 1510 ≤ ms) (hK : CK K w0 s0 a b i mc ms Q cc ss) : N K mL_law 2048 mc ms Q 721 (LL s0 a b i) [] (LM K w0 a x b m k kz t z) sz cc ss := by
  refine N.eqW (hI.toX x).symm ?_
  refine N.aload1 dL_law_721 ?_
  refine N.vi0 dL_law_722 vX4_wipe lkL_69 (s_X4_wipe _ a _ x hI.okx) xO rfl (Nat.le_of_ble_eq_true rfl) (Nat.le_of_ble_eq_true rfl) (by omega) (by omega) ?_
  rintro _ _ _ ⟨rfl, rfl, x2, rfl, hx2⟩
  refine N.eqW (hI.toX x2) ?_
  refine N.aload2 dL_law_725 ?_
  refine N.vi0A dL_law_726 vX5_wipe lkL_73 (s_X5_wipe _ b _ m.1 m.2 t z hI.tok hI.okm) mO rfl (Nat.le_of_ble_eq_true rfl) (Nat.le_of_ble_eq_true rfl) (by have := kc_25 t; omega) (by have := ks_755 t; omega) ?_
  rintro _ _ sz2 ⟨rfl, t2, z2, rfl, ht2, hz2⟩
  refine N.icmp_eq (tgt := 1682) dL_law_729 (by decide) (fun c729 => ?_) (fun c729 => absurd (R_wipe hI.rl).1 c729)
  refine N.bt ht2 (fun hb => ?_)
  exact hK _ _ k kz t2 z2 _ _ _ (hI.step (R_wipe hI.rl) hx2 ht2 hz2 hb) (by have := kc_25 t; omega) (by have := ks_755 t; omega)
set_option maxRecDepth 100000 in
theorem cs_rink {K : Kx} {w0 : Wd} {s0 a b i L mc ms sz cc ss : Nat} {Q : Qx} {xs : Nat → Int32} {x : XV} {m : Mst} {k : Option Nat} {kz : MX} {t : Option Nat} {z : MX} (hT : va_T .int s0 L (fun j => .int (xs j)) (fr K) (kS K) (kS K).heap) (hL : L ≤ 3072) (hi : i + 6 ≤ L) (hI : LI a b sz x m k kz t) (hcc : cc + 50 ≤ mc) (hss : ss + 1510 ≤ ms) (hK : CK K w0 s0 a b i mc ms Q cc ss) : N K mL_law 2048 mc ms Q 734 (LL s0 a b i) [] (LM K w0 a x b m k kz t z) sz cc ss := by
  refine N.eqW (hI.toX x).symm ?_
  refine N.aload1 dL_law_734 ?_
  refine N.vi0 dL_law_735 vX4_rink lkL_74 (s_X4_rink _ a _ x hI.okx) xO rfl (Nat.le_of_ble_eq_true rfl) (Nat.le_of_ble_eq_true rfl) (by omega) (by omega) ?_
  rintro _ _ _ ⟨rfl, rfl, x2, rfl, hx2⟩
  refine N.eqW (hI.toX x2) ?_
  refine N.aload2 dL_law_738 ?_
  refine N.vi0A dL_law_739 vX5_rink lkL_77 (s_X5_rink _ b _ m.1 m.2 t z hI.tok hI.okm) mO rfl (Nat.le_of_ble_eq_true rfl) (Nat.le_of_ble_eq_true rfl) (by have := kc_25 t; omega) (by have := ks_755 t; omega) ?_
  rintro _ _ sz2 ⟨rfl, t2, z2, rfl, ht2, hz2⟩
  refine N.icmp_eq (tgt := 1682) dL_law_742 (by decide) (fun c742 => ?_) (fun c742 => absurd (R_rink hI.rl).1 c742)
  refine N.bt ht2 (fun hb => ?_)
  exact hK _ _ k kz t2 z2 _ _ _ (hI.step (R_rink hI.rl) hx2 ht2 hz2 hb) (by have := kc_25 t; omega) (by have := ks_755 t; omega)
set_option maxRecDepth 100000 in
theorem cs_playerOf {K : Kx} {w0 : Wd} {s0 a b i L mc ms sz cc ss : Nat} {Q : Qx} {xs : Nat → Int32} {x : XV} {m : Mst} {k : Option Nat} {kz : MX} {t : Option Nat} {z : MX} (hT : va_T .int s0 L (fun j => .int (xs j)) (fr K) (kS K) (kS K).heap) (hL : L ≤ 3072) (hi : i + 6 ≤ L) (hI : LI a b sz x m k kz t) (hcc : cc + 50 ≤ mc) (hss : ss + 1510 ≤ ms) (hK : CK K w0 s0 a b i mc ms Q cc ss) : N K mL_law 2048 mc ms Q 747 (LL s0 a b i) [] (LM K w0 a x b m k kz t z) sz cc ss := by
  refine N.eqW (hI.toX x).symm ?_
  refine N.aload1 dL_law_747 ?_
  refine N.aload0 dL_law_748 ?_
  refine N.iload3 dL_law_749 ?_
  refine N.iconst (v := 1) dL_law_750 (by decide) ?_
  refine N.iadd dL_law_751 ?_
  refine N.ialdT dL_law_752 (fun _ => hT) (li_k 1 hi (by decide) hL) ?_
  refine N.aload0 dL_law_753 ?_
  refine N.iload3 dL_law_754 ?_
  refine N.iconst (v := 2) dL_law_755 (by decide) ?_
  refine N.iadd dL_law_756 ?_
  refine N.ialdT dL_law_757 (fun _ => hT) (li_k 2 hi (by decide) hL) ?_
  refine N.vi2 dL_law_758 vX4_playerOf lkL_78 (s_X4_playerOf _ a _ x _ _ hI.okx) xO rfl (Nat.le_of_ble_eq_true rfl) (Nat.le_of_ble_eq_true rfl) (by omega) (by omega) ?_
  rintro _ _ _ ⟨rfl, rfl, x2, rfl, hx2⟩
  refine N.eqW (hI.toX x2) ?_
  refine N.aload2 dL_law_761 ?_
  refine N.aload0 dL_law_762 ?_
  refine N.iload3 dL_law_763 ?_
  refine N.iconst (v := 1) dL_law_764 (by decide) ?_
  refine N.iadd dL_law_765 ?_
  refine N.ialdT dL_law_766 (fun _ => hT) (li_k 1 hi (by decide) hL) ?_
  refine N.aload0 dL_law_767 ?_
  refine N.iload3 dL_law_768 ?_
  refine N.iconst (v := 2) dL_law_769 (by decide) ?_
  refine N.iadd dL_law_770 ?_
  refine N.ialdT dL_law_771 (fun _ => hT) (li_k 2 hi (by decide) hL) ?_
  refine N.vi2A dL_law_772 vX5_playerOf lkL_81 (s_X5_playerOf _ b _ m.1 m.2 t z _ _ hI.tok hI.okm) mO rfl (Nat.le_of_ble_eq_true rfl) (Nat.le_of_ble_eq_true rfl) (by have := kc_25 t; omega) (by have := ks_755 t; omega) ?_
  rintro _ _ sz2 ⟨rfl, t2, z2, rfl, ht2, hz2⟩
  refine N.icmp_eq (tgt := 1682) dL_law_775 (by decide) (fun c775 => ?_) (fun c775 => absurd (R_plof hI.rl _ _).1 c775)
  refine N.bt ht2 (fun hb => ?_)
  exact hK _ _ k kz t2 z2 _ _ _ (hI.step (R_plof hI.rl _ _) hx2 ht2 hz2 hb) (by have := kc_25 t; omega) (by have := ks_755 t; omega)
set_option maxRecDepth 100000 in
theorem cs_lineOf {K : Kx} {w0 : Wd} {s0 a b i L mc ms sz cc ss : Nat} {Q : Qx} {xs : Nat → Int32} {x : XV} {m : Mst} {k : Option Nat} {kz : MX} {t : Option Nat} {z : MX} (hT : va_T .int s0 L (fun j => .int (xs j)) (fr K) (kS K) (kS K).heap) (hL : L ≤ 3072) (hi : i + 6 ≤ L) (hI : LI a b sz x m k kz t) (hcc : cc + 50 ≤ mc) (hss : ss + 1510 ≤ ms) (hK : CK K w0 s0 a b i mc ms Q cc ss) : N K mL_law 2048 mc ms Q 780 (LL s0 a b i) [] (LM K w0 a x b m k kz t z) sz cc ss := by
  refine N.eqW (hI.toX x).symm ?_
  refine N.aload1 dL_law_780 ?_
  refine N.aload0 dL_law_781 ?_
  refine N.iload3 dL_law_782 ?_
  refine N.iconst (v := 1) dL_law_783 (by decide) ?_
  refine N.iadd dL_law_784 ?_
  refine N.ialdT dL_law_785 (fun _ => hT) (li_k 1 hi (by decide) hL) ?_
  refine N.aload0 dL_law_786 ?_
  refine N.iload3 dL_law_787 ?_
  refine N.iconst (v := 2) dL_law_788 (by decide) ?_
  refine N.iadd dL_law_789 ?_
  refine N.ialdT dL_law_790 (fun _ => hT) (li_k 2 hi (by decide) hL) ?_
  refine N.vi2 dL_law_791 vX4_lineOf lkL_82 (s_X4_lineOf _ a _ x _ _ hI.okx) xO rfl (Nat.le_of_ble_eq_true rfl) (Nat.le_of_ble_eq_true rfl) (by omega) (by omega) ?_
  rintro _ _ _ ⟨rfl, rfl, x2, rfl, hx2⟩
  refine N.eqW (hI.toX x2) ?_
  refine N.aload2 dL_law_794 ?_
  refine N.aload0 dL_law_795 ?_
  refine N.iload3 dL_law_796 ?_
  refine N.iconst (v := 1) dL_law_797 (by decide) ?_
  refine N.iadd dL_law_798 ?_
  refine N.ialdT dL_law_799 (fun _ => hT) (li_k 1 hi (by decide) hL) ?_
  refine N.aload0 dL_law_800 ?_
  refine N.iload3 dL_law_801 ?_
  refine N.iconst (v := 2) dL_law_802 (by decide) ?_
  refine N.iadd dL_law_803 ?_
  refine N.ialdT dL_law_804 (fun _ => hT) (li_k 2 hi (by decide) hL) ?_
  refine N.vi2A dL_law_805 vX5_lineOf lkL_85 (s_X5_lineOf _ b _ m.1 m.2 t z _ _ hI.tok hI.okm) mO rfl (Nat.le_of_ble_eq_true rfl) (Nat.le_of_ble_eq_true rfl) (by have := kc_25 t; omega) (by have := ks_755 t; omega) ?_
  rintro _ _ sz2 ⟨rfl, t2, z2, rfl, ht2, hz2⟩
  refine N.icmp_eq (tgt := 1682) dL_law_808 (by decide) (fun c808 => ?_) (fun c808 => absurd (R_lnof hI.rl _ _).1 c808)
  refine N.bt ht2 (fun hb => ?_)
  exact hK _ _ k kz t2 z2 _ _ _ (hI.step (R_lnof hI.rl _ _) hx2 ht2 hz2 hb) (by have := kc_25 t; omega) (by have := ks_755 t; omega)
set_option maxRecDepth 100000 in
theorem cs_power {K : Kx} {w0 : Wd} {s0 a b i L mc ms sz cc ss : Nat} {Q : Qx} {xs : Nat → Int32} {x : XV} {m : Mst} {k : Option Nat} {kz : MX} {t : Option Nat} {z : MX} (hT : va_T .int s0 L (fun j => .int (xs j)) (fr K) (kS K) (kS K).heap) (hL : L ≤ 3072) (hi : i + 6 ≤ L) (hI : LI a b sz x m k kz t) (hcc : cc + 50 ≤ mc) (hss : ss + 1510 ≤ ms) (hK : CK K w0 s0 a b i mc ms Q cc ss) : N K mL_law 2048 mc ms Q 813 (LL s0 a b i) [] (LM K w0 a x b m k kz t z) sz cc ss := by
  refine N.eqW (hI.toX x).symm ?_
  refine N.aload1 dL_law_813 ?_
  refine N.vi0 dL_law_814 vX4_power lkL_86 (s_X4_power _ a _ x hI.okx) xO rfl (Nat.le_of_ble_eq_true rfl) (Nat.le_of_ble_eq_true rfl) (by omega) (by omega) ?_
  rintro _ _ _ ⟨rfl, rfl, x2, rfl, hx2⟩
  refine N.eqW (hI.toX x2) ?_
  refine N.aload2 dL_law_817 ?_
  refine N.vi0A dL_law_818 vX5_power lkL_89 (s_X5_power _ b _ m.1 m.2 t z hI.tok hI.okm) mO rfl (Nat.le_of_ble_eq_true rfl) (Nat.le_of_ble_eq_true rfl) (by have := kc_25 t; omega) (by have := ks_755 t; omega) ?_
  rintro _ _ sz2 ⟨rfl, t2, z2, rfl, ht2, hz2⟩
  refine N.icmp_eq (tgt := 1682) dL_law_821 (by decide) (fun c821 => ?_) (fun c821 => absurd (R_power hI.rl).1 c821)
  refine N.bt ht2 (fun hb => ?_)
  exact hK _ _ k kz t2 z2 _ _ _ (hI.step (R_power hI.rl) hx2 ht2 hz2 hb) (by have := kc_25 t; omega) (by have := ks_755 t; omega)
set_option maxRecDepth 100000 in
theorem cs_odds {K : Kx} {w0 : Wd} {s0 a b i L mc ms sz cc ss : Nat} {Q : Qx} {xs : Nat → Int32} {x : XV} {m : Mst} {k : Option Nat} {kz : MX} {t : Option Nat} {z : MX} (hT : va_T .int s0 L (fun j => .int (xs j)) (fr K) (kS K) (kS K).heap) (hL : L ≤ 3072) (hi : i + 6 ≤ L) (hI : LI a b sz x m k kz t) (hcc : cc + 50 ≤ mc) (hss : ss + 1510 ≤ ms) (hK : CK K w0 s0 a b i mc ms Q cc ss) : N K mL_law 2048 mc ms Q 826 (LL s0 a b i) [] (LM K w0 a x b m k kz t z) sz cc ss := by
  refine N.eqW (hI.toX x).symm ?_
  refine N.aload1 dL_law_826 ?_
  refine N.aload0 dL_law_827 ?_
  refine N.iload3 dL_law_828 ?_
  refine N.iconst (v := 1) dL_law_829 (by decide) ?_
  refine N.iadd dL_law_830 ?_
  refine N.ialdT dL_law_831 (fun _ => hT) (li_k 1 hi (by decide) hL) ?_
  refine N.vi1 dL_law_832 vX4_odds lkL_90 (s_X4_odds _ a _ x _ hI.okx) xO rfl (Nat.le_of_ble_eq_true rfl) (Nat.le_of_ble_eq_true rfl) (by omega) (by omega) ?_
  rintro _ _ _ ⟨rfl, rfl, x2, rfl, hx2⟩
  refine N.eqW (hI.toX x2) ?_
  refine N.aload2 dL_law_835 ?_
  refine N.aload0 dL_law_836 ?_
  refine N.iload3 dL_law_837 ?_
  refine N.iconst (v := 1) dL_law_838 (by decide) ?_
  refine N.iadd dL_law_839 ?_
  refine N.ialdT dL_law_840 (fun _ => hT) (li_k 1 hi (by decide) hL) ?_
  refine N.vi1A dL_law_841 vX5_odds lkL_93 (s_X5_odds _ b _ m.1 m.2 t z _ hI.tok hI.okm) mO rfl (Nat.le_of_ble_eq_true rfl) (Nat.le_of_ble_eq_true rfl) (by have := kc_25 t; omega) (by have := ks_755 t; omega) ?_
  rintro _ _ sz2 ⟨rfl, t2, z2, rfl, ht2, hz2⟩
  refine N.icmp_eq (tgt := 1682) dL_law_844 (by decide) (fun c844 => ?_) (fun c844 => absurd (R_odds hI.rl _).1 c844)
  refine N.bt ht2 (fun hb => ?_)
  exact hK _ _ k kz t2 z2 _ _ _ (hI.step (R_odds hI.rl _) hx2 ht2 hz2 hb) (by have := kc_25 t; omega) (by have := ks_755 t; omega)
set_option maxRecDepth 100000 in
theorem cs_way {K : Kx} {w0 : Wd} {s0 a b i L mc ms sz cc ss : Nat} {Q : Qx} {xs : Nat → Int32} {x : XV} {m : Mst} {k : Option Nat} {kz : MX} {t : Option Nat} {z : MX} (hT : va_T .int s0 L (fun j => .int (xs j)) (fr K) (kS K) (kS K).heap) (hL : L ≤ 3072) (hi : i + 6 ≤ L) (hI : LI a b sz x m k kz t) (hcc : cc + 50 ≤ mc) (hss : ss + 1510 ≤ ms) (hK : CK K w0 s0 a b i mc ms Q cc ss) : N K mL_law 2048 mc ms Q 849 (LL s0 a b i) [] (LM K w0 a x b m k kz t z) sz cc ss := by
  refine N.eqW (hI.toX x).symm ?_
  refine N.aload1 dL_law_849 ?_
  refine N.aload0 dL_law_850 ?_
  refine N.iload3 dL_law_851 ?_
  refine N.iconst (v := 1) dL_law_852 (by decide) ?_
  refine N.iadd dL_law_853 ?_
  refine N.ialdT dL_law_854 (fun _ => hT) (li_k 1 hi (by decide) hL) ?_
  refine N.vi1 dL_law_855 vX4_way lkL_94 (s_X4_way _ a _ x _ hI.okx) xO rfl (Nat.le_of_ble_eq_true rfl) (Nat.le_of_ble_eq_true rfl) (by omega) (by omega) ?_
  rintro _ _ _ ⟨rfl, rfl, x2, rfl, hx2⟩
  refine N.eqW (hI.toX x2) ?_
  refine N.aload2 dL_law_858 ?_
  refine N.aload0 dL_law_859 ?_
  refine N.iload3 dL_law_860 ?_
  refine N.iconst (v := 1) dL_law_861 (by decide) ?_
  refine N.iadd dL_law_862 ?_
  refine N.ialdT dL_law_863 (fun _ => hT) (li_k 1 hi (by decide) hL) ?_
  refine N.vi1A dL_law_864 vX5_way lkL_97 (s_X5_way _ b _ m.1 m.2 t z _ hI.tok hI.okm) mO rfl (Nat.le_of_ble_eq_true rfl) (Nat.le_of_ble_eq_true rfl) (by have := kc_25 t; omega) (by have := ks_755 t; omega) ?_
  rintro _ _ sz2 ⟨rfl, t2, z2, rfl, ht2, hz2⟩
  refine N.icmp_eq (tgt := 1682) dL_law_867 (by decide) (fun c867 => ?_) (fun c867 => absurd (R_way hI.rl _).1 c867)
  refine N.bt ht2 (fun hb => ?_)
  exact hK _ _ k kz t2 z2 _ _ _ (hI.step (R_way hI.rl _) hx2 ht2 hz2 hb) (by have := kc_25 t; omega) (by have := ks_755 t; omega)
set_option maxRecDepth 100000 in
theorem cs_behind {K : Kx} {w0 : Wd} {s0 a b i L mc ms sz cc ss : Nat} {Q : Qx} {xs : Nat → Int32} {x : XV} {m : Mst} {k : Option Nat} {kz : MX} {t : Option Nat} {z : MX} (hT : va_T .int s0 L (fun j => .int (xs j)) (fr K) (kS K) (kS K).heap) (hL : L ≤ 3072) (hi : i + 6 ≤ L) (hI : LI a b sz x m k kz t) (hcc : cc + 50 ≤ mc) (hss : ss + 1510 ≤ ms) (hK : CK K w0 s0 a b i mc ms Q cc ss) : N K mL_law 2048 mc ms Q 872 (LL s0 a b i) [] (LM K w0 a x b m k kz t z) sz cc ss := by
  refine N.eqW (hI.toX x).symm ?_
  refine N.aload1 dL_law_872 ?_
  refine N.aload0 dL_law_873 ?_
  refine N.iload3 dL_law_874 ?_
  refine N.iconst (v := 1) dL_law_875 (by decide) ?_
  refine N.iadd dL_law_876 ?_
  refine N.ialdT dL_law_877 (fun _ => hT) (li_k 1 hi (by decide) hL) ?_
  refine N.aload0 dL_law_878 ?_
  refine N.iload3 dL_law_879 ?_
  refine N.iconst (v := 2) dL_law_880 (by decide) ?_
  refine N.iadd dL_law_881 ?_
  refine N.ialdT dL_law_882 (fun _ => hT) (li_k 2 hi (by decide) hL) ?_
  refine N.vi2 dL_law_883 vX4_behind lkL_98 (s_X4_behind _ a _ x _ _ hI.okx) xO rfl (Nat.le_of_ble_eq_true rfl) (Nat.le_of_ble_eq_true rfl) (by omega) (by omega) ?_
  rintro _ _ _ ⟨rfl, rfl, x2, rfl, hx2⟩
  refine N.eqW (hI.toX x2) ?_
  refine N.aload2 dL_law_886 ?_
  refine N.aload0 dL_law_887 ?_
  refine N.iload3 dL_law_888 ?_
  refine N.iconst (v := 1) dL_law_889 (by decide) ?_
  refine N.iadd dL_law_890 ?_
  refine N.ialdT dL_law_891 (fun _ => hT) (li_k 1 hi (by decide) hL) ?_
  refine N.aload0 dL_law_892 ?_
  refine N.iload3 dL_law_893 ?_
  refine N.iconst (v := 2) dL_law_894 (by decide) ?_
  refine N.iadd dL_law_895 ?_
  refine N.ialdT dL_law_896 (fun _ => hT) (li_k 2 hi (by decide) hL) ?_
  refine N.vi2A dL_law_897 vX5_behind lkL_101 (s_X5_behind _ b _ m.1 m.2 t z _ _ hI.tok hI.okm) mO rfl (Nat.le_of_ble_eq_true rfl) (Nat.le_of_ble_eq_true rfl) (by have := kc_25 t; omega) (by have := ks_755 t; omega) ?_
  rintro _ _ sz2 ⟨rfl, t2, z2, rfl, ht2, hz2⟩
  refine N.icmp_eq (tgt := 1682) dL_law_900 (by decide) (fun c900 => ?_) (fun c900 => absurd (R_behind hI.rl _ _).1 c900)
  refine N.bt ht2 (fun hb => ?_)
  exact hK _ _ k kz t2 z2 _ _ _ (hI.step (R_behind hI.rl _ _) hx2 ht2 hz2 hb) (by have := kc_25 t; omega) (by have := ks_755 t; omega)
set_option maxRecDepth 100000 in
theorem cs_gains {K : Kx} {w0 : Wd} {s0 a b i L mc ms sz cc ss : Nat} {Q : Qx} {xs : Nat → Int32} {x : XV} {m : Mst} {k : Option Nat} {kz : MX} {t : Option Nat} {z : MX} (hT : va_T .int s0 L (fun j => .int (xs j)) (fr K) (kS K) (kS K).heap) (hL : L ≤ 3072) (hi : i + 6 ≤ L) (hI : LI a b sz x m k kz t) (hcc : cc + 50 ≤ mc) (hss : ss + 1510 ≤ ms) (hK : CK K w0 s0 a b i mc ms Q cc ss) : N K mL_law 2048 mc ms Q 905 (LL s0 a b i) [] (LM K w0 a x b m k kz t z) sz cc ss := by
  refine N.eqW (hI.toX x).symm ?_
  refine N.aload1 dL_law_905 ?_
  refine N.aload0 dL_law_906 ?_
  refine N.iload3 dL_law_907 ?_
  refine N.iconst (v := 1) dL_law_908 (by decide) ?_
  refine N.iadd dL_law_909 ?_
  refine N.ialdT dL_law_910 (fun _ => hT) (li_k 1 hi (by decide) hL) ?_
  refine N.vi1 dL_law_911 vX4_gains lkL_102 (s_X4_gains _ a _ x _ hI.okx) xO rfl (Nat.le_of_ble_eq_true rfl) (Nat.le_of_ble_eq_true rfl) (by omega) (by omega) ?_
  rintro _ _ _ ⟨rfl, rfl, x2, rfl, hx2⟩
  refine N.eqW (hI.toX x2) ?_
  refine N.aload2 dL_law_914 ?_
  refine N.aload0 dL_law_915 ?_
  refine N.iload3 dL_law_916 ?_
  refine N.iconst (v := 1) dL_law_917 (by decide) ?_
  refine N.iadd dL_law_918 ?_
  refine N.ialdT dL_law_919 (fun _ => hT) (li_k 1 hi (by decide) hL) ?_
  refine N.vi1A dL_law_920 vX5_gains lkL_105 (s_X5_gains _ b _ m.1 m.2 t z _ hI.tok hI.okm) mO rfl (Nat.le_of_ble_eq_true rfl) (Nat.le_of_ble_eq_true rfl) (by have := kc_25 t; omega) (by have := ks_755 t; omega) ?_
  rintro _ _ sz2 ⟨rfl, t2, z2, rfl, ht2, hz2⟩
  refine N.icmp_eq (tgt := 1682) dL_law_923 (by decide) (fun c923 => ?_) (fun c923 => absurd (R_gains hI.rl _).1 c923)
  refine N.bt ht2 (fun hb => ?_)
  exact hK _ _ k kz t2 z2 _ _ _ (hI.step (R_gains hI.rl _) hx2 ht2 hz2 hb) (by have := kc_25 t; omega) (by have := ks_755 t; omega)
set_option maxRecDepth 100000 in
theorem cs_tiredest {K : Kx} {w0 : Wd} {s0 a b i L mc ms sz cc ss : Nat} {Q : Qx} {xs : Nat → Int32} {x : XV} {m : Mst} {k : Option Nat} {kz : MX} {t : Option Nat} {z : MX} (hT : va_T .int s0 L (fun j => .int (xs j)) (fr K) (kS K) (kS K).heap) (hL : L ≤ 3072) (hi : i + 6 ≤ L) (hI : LI a b sz x m k kz t) (hcc : cc + 50 ≤ mc) (hss : ss + 1510 ≤ ms) (hK : CK K w0 s0 a b i mc ms Q cc ss) : N K mL_law 2048 mc ms Q 928 (LL s0 a b i) [] (LM K w0 a x b m k kz t z) sz cc ss := by
  refine N.eqW (hI.toX x).symm ?_
  refine N.aload1 dL_law_928 ?_
  refine N.aload0 dL_law_929 ?_
  refine N.iload3 dL_law_930 ?_
  refine N.iconst (v := 1) dL_law_931 (by decide) ?_
  refine N.iadd dL_law_932 ?_
  refine N.ialdT dL_law_933 (fun _ => hT) (li_k 1 hi (by decide) hL) ?_
  refine N.vi1 dL_law_934 vX4_tiredest lkL_106 (s_X4_tiredest _ a _ x _ hI.okx) xO rfl (Nat.le_of_ble_eq_true rfl) (Nat.le_of_ble_eq_true rfl) (by omega) (by omega) ?_
  rintro _ _ _ ⟨rfl, rfl, x2, rfl, hx2⟩
  refine N.eqW (hI.toX x2) ?_
  refine N.aload2 dL_law_937 ?_
  refine N.aload0 dL_law_938 ?_
  refine N.iload3 dL_law_939 ?_
  refine N.iconst (v := 1) dL_law_940 (by decide) ?_
  refine N.iadd dL_law_941 ?_
  refine N.ialdT dL_law_942 (fun _ => hT) (li_k 1 hi (by decide) hL) ?_
  refine N.vi1A dL_law_943 vX5_tiredest lkL_109 (s_X5_tiredest _ b _ m.1 m.2 t z _ hI.tok hI.okm) mO rfl (Nat.le_of_ble_eq_true rfl) (Nat.le_of_ble_eq_true rfl) (by have := kc_25 t; omega) (by have := ks_755 t; omega) ?_
  rintro _ _ sz2 ⟨rfl, t2, z2, rfl, ht2, hz2⟩
  refine N.icmp_eq (tgt := 1682) dL_law_946 (by decide) (fun c946 => ?_) (fun c946 => absurd (R_trd hI.rl _).1 c946)
  refine N.bt ht2 (fun hb => ?_)
  exact hK _ _ k kz t2 z2 _ _ _ (hI.step (R_trd hI.rl _) hx2 ht2 hz2 hb) (by have := kc_25 t; omega) (by have := ks_755 t; omega)
set_option maxRecDepth 100000 in
theorem cs_fresh {K : Kx} {w0 : Wd} {s0 a b i L mc ms sz cc ss : Nat} {Q : Qx} {xs : Nat → Int32} {x : XV} {m : Mst} {k : Option Nat} {kz : MX} {t : Option Nat} {z : MX} (hT : va_T .int s0 L (fun j => .int (xs j)) (fr K) (kS K) (kS K).heap) (hL : L ≤ 3072) (hi : i + 6 ≤ L) (hI : LI a b sz x m k kz t) (hcc : cc + 50 ≤ mc) (hss : ss + 1510 ≤ ms) (hK : CK K w0 s0 a b i mc ms Q cc ss) : N K mL_law 2048 mc ms Q 951 (LL s0 a b i) [] (LM K w0 a x b m k kz t z) sz cc ss := by
  refine N.eqW (hI.toX x).symm ?_
  refine N.aload1 dL_law_951 ?_
  refine N.aload0 dL_law_952 ?_
  refine N.iload3 dL_law_953 ?_
  refine N.iconst (v := 1) dL_law_954 (by decide) ?_
  refine N.iadd dL_law_955 ?_
  refine N.ialdT dL_law_956 (fun _ => hT) (li_k 1 hi (by decide) hL) ?_
  refine N.aload0 dL_law_957 ?_
  refine N.iload3 dL_law_958 ?_
  refine N.iconst (v := 2) dL_law_959 (by decide) ?_
  refine N.iadd dL_law_960 ?_
  refine N.ialdT dL_law_961 (fun _ => hT) (li_k 2 hi (by decide) hL) ?_
  refine N.vi2 dL_law_962 vX4_fresh lkL_110 (s_X4_fresh _ a _ x _ _ hI.okx) xO rfl (Nat.le_of_ble_eq_true rfl) (Nat.le_of_ble_eq_true rfl) (by omega) (by omega) ?_
  rintro _ _ _ ⟨rfl, rfl, x2, rfl, hx2⟩
  refine N.eqW (hI.toX x2) ?_
  refine N.aload2 dL_law_965 ?_
  refine N.aload0 dL_law_966 ?_
  refine N.iload3 dL_law_967 ?_
  refine N.iconst (v := 1) dL_law_968 (by decide) ?_
  refine N.iadd dL_law_969 ?_
  refine N.ialdT dL_law_970 (fun _ => hT) (li_k 1 hi (by decide) hL) ?_
  refine N.aload0 dL_law_971 ?_
  refine N.iload3 dL_law_972 ?_
  refine N.iconst (v := 2) dL_law_973 (by decide) ?_
  refine N.iadd dL_law_974 ?_
  refine N.ialdT dL_law_975 (fun _ => hT) (li_k 2 hi (by decide) hL) ?_
  refine N.vi2A dL_law_976 vX5_fresh_ lkL_113 (s_X5_fresh_ _ b _ m.1 m.2 t z _ _ hI.tok hI.okm (fun j hj => by obtain ⟨_, _, _, n, _, hn, en⟩ := hI.rl.2.1.at.2.2.2.2.2.2.2.2.1 j hj; exact ⟨n, hn, en⟩)) mO rfl (Nat.le_of_ble_eq_true rfl) (Nat.le_of_ble_eq_true rfl) (by have := kc_25 t; omega) (by have := ks_755 t; omega) ?_
  rintro _ _ sz2 ⟨rfl, t2, z2, rfl, ht2, hz2⟩
  refine N.icmp_eq (tgt := 1682) dL_law_979 (by decide) (fun c979 => ?_) (fun c979 => absurd (R_fresh hI.rl _ _).1 c979)
  refine N.bt ht2 (fun hb => ?_)
  exact hK _ _ k kz t2 z2 _ _ _ (hI.step (R_fresh hI.rl _ _) hx2 ht2 hz2 hb) (by have := kc_25 t; omega) (by have := ks_755 t; omega)
set_option maxRecDepth 100000 in
theorem cs_third {K : Kx} {w0 : Wd} {s0 a b i L mc ms sz cc ss : Nat} {Q : Qx} {xs : Nat → Int32} {x : XV} {m : Mst} {k : Option Nat} {kz : MX} {t : Option Nat} {z : MX} (hT : va_T .int s0 L (fun j => .int (xs j)) (fr K) (kS K) (kS K).heap) (hL : L ≤ 3072) (hi : i + 6 ≤ L) (hI : LI a b sz x m k kz t) (hcc : cc + 50 ≤ mc) (hss : ss + 1510 ≤ ms) (hK : CK K w0 s0 a b i mc ms Q cc ss) : N K mL_law 2048 mc ms Q 984 (LL s0 a b i) [] (LM K w0 a x b m k kz t z) sz cc ss := by
  refine N.eqW (hI.toX x).symm ?_
  refine N.aload1 dL_law_984 ?_
  refine N.aload0 dL_law_985 ?_
  refine N.iload3 dL_law_986 ?_
  refine N.iconst (v := 1) dL_law_987 (by decide) ?_
  refine N.iadd dL_law_988 ?_
  refine N.ialdT dL_law_989 (fun _ => hT) (li_k 1 hi (by decide) hL) ?_
  refine N.vi1 dL_law_990 vX4_third lkL_114 (s_X4_third _ a _ x _ hI.okx) xO rfl (Nat.le_of_ble_eq_true rfl) (Nat.le_of_ble_eq_true rfl) (by omega) (by omega) ?_
  rintro _ _ _ ⟨rfl, rfl, x2, rfl, hx2⟩
  refine N.eqW (hI.toX x2) ?_
  refine N.aload2 dL_law_993 ?_
  refine N.aload0 dL_law_994 ?_
  refine N.iload3 dL_law_995 ?_
  refine N.iconst (v := 1) dL_law_996 (by decide) ?_
  refine N.iadd dL_law_997 ?_
  refine N.ialdT dL_law_998 (fun _ => hT) (li_k 1 hi (by decide) hL) ?_
  refine N.vi1A dL_law_999 vX5_third lkL_117 (s_X5_third _ b _ m.1 m.2 t z _ hI.tok hI.okm) mO rfl (Nat.le_of_ble_eq_true rfl) (Nat.le_of_ble_eq_true rfl) (by have := kc_25 t; omega) (by have := ks_755 t; omega) ?_
  rintro _ _ sz2 ⟨rfl, t2, z2, rfl, ht2, hz2⟩
  refine N.icmp_eq (tgt := 1682) dL_law_1002 (by decide) (fun c1002 => ?_) (fun c1002 => absurd (R_third hI.rl _).1 c1002)
  refine N.bt ht2 (fun hb => ?_)
  exact hK _ _ k kz t2 z2 _ _ _ (hI.step (R_third hI.rl _) hx2 ht2 hz2 hb) (by have := kc_25 t; omega) (by have := ks_755 t; omega)
set_option maxRecDepth 100000 in
theorem cs_theirsFor {K : Kx} {w0 : Wd} {s0 a b i L mc ms sz cc ss : Nat} {Q : Qx} {xs : Nat → Int32} {x : XV} {m : Mst} {k : Option Nat} {kz : MX} {t : Option Nat} {z : MX} (hT : va_T .int s0 L (fun j => .int (xs j)) (fr K) (kS K) (kS K).heap) (hL : L ≤ 3072) (hi : i + 6 ≤ L) (hI : LI a b sz x m k kz t) (hcc : cc + 50 ≤ mc) (hss : ss + 1510 ≤ ms) (hK : CK K w0 s0 a b i mc ms Q cc ss) : N K mL_law 2048 mc ms Q 1007 (LL s0 a b i) [] (LM K w0 a x b m k kz t z) sz cc ss := by
  refine N.eqW (hI.toX x).symm ?_
  refine N.aload1 dL_law_1007 ?_
  refine N.aload0 dL_law_1008 ?_
  refine N.iload3 dL_law_1009 ?_
  refine N.iconst (v := 1) dL_law_1010 (by decide) ?_
  refine N.iadd dL_law_1011 ?_
  refine N.ialdT dL_law_1012 (fun _ => hT) (li_k 1 hi (by decide) hL) ?_
  refine N.vi1 dL_law_1013 vX4_theirsFor lkL_118 (s_X4_theirsFor _ a _ x _ hI.okx) xO rfl (Nat.le_of_ble_eq_true rfl) (Nat.le_of_ble_eq_true rfl) (by omega) (by omega) ?_
  rintro _ _ _ ⟨rfl, rfl, x2, rfl, hx2⟩
  refine N.eqW (hI.toX x2) ?_
  refine N.aload2 dL_law_1016 ?_
  refine N.aload0 dL_law_1017 ?_
  refine N.iload3 dL_law_1018 ?_
  refine N.iconst (v := 1) dL_law_1019 (by decide) ?_
  refine N.iadd dL_law_1020 ?_
  refine N.ialdT dL_law_1021 (fun _ => hT) (li_k 1 hi (by decide) hL) ?_
  refine N.vi1A dL_law_1022 vX5_theirsFor lkL_121 (s_X5_theirsFor _ b _ m.1 m.2 t z _ hI.tok hI.okm) mO rfl (Nat.le_of_ble_eq_true rfl) (Nat.le_of_ble_eq_true rfl) (by have := kc_25 t; omega) (by have := ks_755 t; omega) ?_
  rintro _ _ sz2 ⟨rfl, t2, z2, rfl, ht2, hz2⟩
  refine N.icmp_eq (tgt := 1682) dL_law_1025 (by decide) (fun c1025 => ?_) (fun c1025 => absurd (R_thr hI.rl _).1 c1025)
  refine N.bt ht2 (fun hb => ?_)
  exact hK _ _ k kz t2 z2 _ _ _ (hI.step (R_thr hI.rl _) hx2 ht2 hz2 hb) (by have := kc_25 t; omega) (by have := ks_755 t; omega)
set_option maxRecDepth 100000 in
theorem cs_five {K : Kx} {w0 : Wd} {s0 a b i L mc ms sz cc ss : Nat} {Q : Qx} {xs : Nat → Int32} {x : XV} {m : Mst} {k : Option Nat} {kz : MX} {t : Option Nat} {z : MX} (hT : va_T .int s0 L (fun j => .int (xs j)) (fr K) (kS K) (kS K).heap) (hL : L ≤ 3072) (hi : i + 6 ≤ L) (hI : LI a b sz x m k kz t) (hcc : cc + 50 ≤ mc) (hss : ss + 1510 ≤ ms) (hK : CK K w0 s0 a b i mc ms Q cc ss) : N K mL_law 2048 mc ms Q 1030 (LL s0 a b i) [] (LM K w0 a x b m k kz t z) sz cc ss := by
  refine N.eqW (hI.toX x).symm ?_
  refine N.aload1 dL_law_1030 ?_
  refine N.vi0 dL_law_1031 vX4_five lkL_122 (s_X4_five _ a _ x hI.okx) xO rfl (Nat.le_of_ble_eq_true rfl) (Nat.le_of_ble_eq_true rfl) (by omega) (by omega) ?_
  rintro _ _ _ ⟨rfl, rfl, x2, rfl, hx2⟩
  refine N.eqW (hI.toX x2) ?_
  refine N.aload2 dL_law_1034 ?_
  refine N.vi0A dL_law_1035 vX5_five lkL_125 (s_X5_five _ b _ m.1 m.2 t z hI.tok hI.okm) mO rfl (Nat.le_of_ble_eq_true rfl) (Nat.le_of_ble_eq_true rfl) (by have := kc_25 t; omega) (by have := ks_755 t; omega) ?_
  rintro _ _ sz2 ⟨rfl, t2, z2, rfl, ht2, hz2⟩
  refine N.icmp_eq (tgt := 1682) dL_law_1038 (by decide) (fun c1038 => ?_) (fun c1038 => absurd (R_five hI.rl).1 c1038)
  refine N.bt ht2 (fun hb => ?_)
  exact hK _ _ k kz t2 z2 _ _ _ (hI.step (R_five hI.rl) hx2 ht2 hz2 hb) (by have := kc_25 t; omega) (by have := ks_755 t; omega)
set_option maxRecDepth 100000 in
theorem cs_two {K : Kx} {w0 : Wd} {s0 a b i L mc ms sz cc ss : Nat} {Q : Qx} {xs : Nat → Int32} {x : XV} {m : Mst} {k : Option Nat} {kz : MX} {t : Option Nat} {z : MX} (hT : va_T .int s0 L (fun j => .int (xs j)) (fr K) (kS K) (kS K).heap) (hL : L ≤ 3072) (hi : i + 6 ≤ L) (hI : LI a b sz x m k kz t) (hcc : cc + 50 ≤ mc) (hss : ss + 1510 ≤ ms) (hK : CK K w0 s0 a b i mc ms Q cc ss) : N K mL_law 2048 mc ms Q 1043 (LL s0 a b i) [] (LM K w0 a x b m k kz t z) sz cc ss := by
  refine N.eqW (hI.toX x).symm ?_
  refine N.aload1 dL_law_1043 ?_
  refine N.aload0 dL_law_1044 ?_
  refine N.iload3 dL_law_1045 ?_
  refine N.iconst (v := 1) dL_law_1046 (by decide) ?_
  refine N.iadd dL_law_1047 ?_
  refine N.ialdT dL_law_1048 (fun _ => hT) (li_k 1 hi (by decide) hL) ?_
  refine N.aload0 dL_law_1049 ?_
  refine N.iload3 dL_law_1050 ?_
  refine N.iconst (v := 2) dL_law_1051 (by decide) ?_
  refine N.iadd dL_law_1052 ?_
  refine N.ialdT dL_law_1053 (fun _ => hT) (li_k 2 hi (by decide) hL) ?_
  refine N.aload0 dL_law_1054 ?_
  refine N.iload3 dL_law_1055 ?_
  refine N.iconst (v := 3) dL_law_1056 (by decide) ?_
  refine N.iadd dL_law_1057 ?_
  refine N.ialdT dL_law_1058 (fun _ => hT) (li_k 3 hi (by decide) hL) ?_
  refine N.vi3 dL_law_1059 vX4_two lkL_126 (s_X4_two _ a _ x _ _ _ hI.okx) xO rfl (Nat.le_of_ble_eq_true rfl) (Nat.le_of_ble_eq_true rfl) (by omega) (by omega) ?_
  rintro _ _ _ ⟨rfl, rfl, x2, rfl, hx2⟩
  refine N.eqW (hI.toX x2) ?_
  refine N.aload2 dL_law_1062 ?_
  refine N.aload0 dL_law_1063 ?_
  refine N.iload3 dL_law_1064 ?_
  refine N.iconst (v := 1) dL_law_1065 (by decide) ?_
  refine N.iadd dL_law_1066 ?_
  refine N.ialdT dL_law_1067 (fun _ => hT) (li_k 1 hi (by decide) hL) ?_
  refine N.aload0 dL_law_1068 ?_
  refine N.iload3 dL_law_1069 ?_
  refine N.iconst (v := 2) dL_law_1070 (by decide) ?_
  refine N.iadd dL_law_1071 ?_
  refine N.ialdT dL_law_1072 (fun _ => hT) (li_k 2 hi (by decide) hL) ?_
  refine N.aload0 dL_law_1073 ?_
  refine N.iload3 dL_law_1074 ?_
  refine N.iconst (v := 3) dL_law_1075 (by decide) ?_
  refine N.iadd dL_law_1076 ?_
  refine N.ialdT dL_law_1077 (fun _ => hT) (li_k 3 hi (by decide) hL) ?_
  refine N.vi3A dL_law_1078 vX5_two lkL_129 (s_X5_two _ b _ m.1 m.2 t z _ _ _ hI.tok hI.okm) mO rfl (Nat.le_of_ble_eq_true rfl) (Nat.le_of_ble_eq_true rfl) (by have := kc_25 t; omega) (by have := ks_755 t; omega) ?_
  rintro _ _ sz2 ⟨rfl, t2, z2, rfl, ht2, hz2⟩
  refine N.icmp_eq (tgt := 1682) dL_law_1081 (by decide) (fun c1081 => ?_) (fun c1081 => absurd (R_two hI.rl _ _ _).1 c1081)
  refine N.bt ht2 (fun hb => ?_)
  exact hK _ _ k kz t2 z2 _ _ _ (hI.step (R_two hI.rl _ _ _) hx2 ht2 hz2 hb) (by have := kc_25 t; omega) (by have := ks_755 t; omega)
set_option maxRecDepth 100000 in
theorem cs_shifts {K : Kx} {w0 : Wd} {s0 a b i L mc ms sz cc ss : Nat} {Q : Qx} {xs : Nat → Int32} {x : XV} {m : Mst} {k : Option Nat} {kz : MX} {t : Option Nat} {z : MX} (hT : va_T .int s0 L (fun j => .int (xs j)) (fr K) (kS K) (kS K).heap) (hL : L ≤ 3072) (hi : i + 6 ≤ L) (hI : LI a b sz x m k kz t) (hcc : cc + 50 ≤ mc) (hss : ss + 1510 ≤ ms) (hK : CK K w0 s0 a b i mc ms Q cc ss) : N K mL_law 2048 mc ms Q 1086 (LL s0 a b i) [] (LM K w0 a x b m k kz t z) sz cc ss := by
  refine N.eqW (hI.toX x).symm ?_
  refine N.aload1 dL_law_1086 ?_
  refine N.aload0 dL_law_1087 ?_
  refine N.iload3 dL_law_1088 ?_
  refine N.iconst (v := 1) dL_law_1089 (by decide) ?_
  refine N.iadd dL_law_1090 ?_
  refine N.ialdT dL_law_1091 (fun _ => hT) (li_k 1 hi (by decide) hL) ?_
  refine N.aload0 dL_law_1092 ?_
  refine N.iload3 dL_law_1093 ?_
  refine N.iconst (v := 2) dL_law_1094 (by decide) ?_
  refine N.iadd dL_law_1095 ?_
  refine N.ialdT dL_law_1096 (fun _ => hT) (li_k 2 hi (by decide) hL) ?_
  refine N.vi2 dL_law_1097 vX4_shifts lkL_130 (s_X4_shifts _ a _ x _ _ hI.okx) xO rfl (Nat.le_of_ble_eq_true rfl) (Nat.le_of_ble_eq_true rfl) (by omega) (by omega) ?_
  rintro _ _ _ ⟨rfl, rfl, x2, rfl, hx2⟩
  refine N.eqW (hI.toX x2) ?_
  refine N.aload2 dL_law_1100 ?_
  refine N.aload0 dL_law_1101 ?_
  refine N.iload3 dL_law_1102 ?_
  refine N.iconst (v := 1) dL_law_1103 (by decide) ?_
  refine N.iadd dL_law_1104 ?_
  refine N.ialdT dL_law_1105 (fun _ => hT) (li_k 1 hi (by decide) hL) ?_
  refine N.aload0 dL_law_1106 ?_
  refine N.iload3 dL_law_1107 ?_
  refine N.iconst (v := 2) dL_law_1108 (by decide) ?_
  refine N.iadd dL_law_1109 ?_
  refine N.ialdT dL_law_1110 (fun _ => hT) (li_k 2 hi (by decide) hL) ?_
  refine N.vi2A dL_law_1111 vX5_shifts lkL_133 (s_X5_shifts _ b _ m.1 m.2 t z _ _ hI.tok hI.okm) mO rfl (Nat.le_of_ble_eq_true rfl) (Nat.le_of_ble_eq_true rfl) (by have := kc_25 t; omega) (by have := ks_755 t; omega) ?_
  rintro _ _ sz2 ⟨rfl, t2, z2, rfl, ht2, hz2⟩
  refine N.icmp_eq (tgt := 1682) dL_law_1114 (by decide) (fun c1114 => ?_) (fun c1114 => absurd (R_shifts hI.rl _ _).1 c1114)
  refine N.bt ht2 (fun hb => ?_)
  exact hK _ _ k kz t2 z2 _ _ _ (hI.step (R_shifts hI.rl _ _) hx2 ht2 hz2 hb) (by have := kc_25 t; omega) (by have := ks_755 t; omega)
set_option maxRecDepth 100000 in
theorem cs_bestShift {K : Kx} {w0 : Wd} {s0 a b i L mc ms sz cc ss : Nat} {Q : Qx} {xs : Nat → Int32} {x : XV} {m : Mst} {k : Option Nat} {kz : MX} {t : Option Nat} {z : MX} (hT : va_T .int s0 L (fun j => .int (xs j)) (fr K) (kS K) (kS K).heap) (hL : L ≤ 3072) (hi : i + 6 ≤ L) (hI : LI a b sz x m k kz t) (hcc : cc + 50 ≤ mc) (hss : ss + 1510 ≤ ms) (hK : CK K w0 s0 a b i mc ms Q cc ss) : N K mL_law 2048 mc ms Q 1119 (LL s0 a b i) [] (LM K w0 a x b m k kz t z) sz cc ss := by
  refine N.eqW (hI.toX x).symm ?_
  refine N.aload1 dL_law_1119 ?_
  refine N.aload0 dL_law_1120 ?_
  refine N.iload3 dL_law_1121 ?_
  refine N.iconst (v := 1) dL_law_1122 (by decide) ?_
  refine N.iadd dL_law_1123 ?_
  refine N.ialdT dL_law_1124 (fun _ => hT) (li_k 1 hi (by decide) hL) ?_
  refine N.vi1 dL_law_1125 vX4_bestShift lkL_134 (s_X4_bestShift _ a _ x _ hI.okx) xO rfl (Nat.le_of_ble_eq_true rfl) (Nat.le_of_ble_eq_true rfl) (by omega) (by omega) ?_
  rintro _ _ _ ⟨rfl, rfl, x2, rfl, hx2⟩
  refine N.eqW (hI.toX x2) ?_
  refine N.aload2 dL_law_1128 ?_
  refine N.aload0 dL_law_1129 ?_
  refine N.iload3 dL_law_1130 ?_
  refine N.iconst (v := 1) dL_law_1131 (by decide) ?_
  refine N.iadd dL_law_1132 ?_
  refine N.ialdT dL_law_1133 (fun _ => hT) (li_k 1 hi (by decide) hL) ?_
  refine N.vi1A dL_law_1134 vX5_bestShift lkL_137 (s_X5_bestShift _ b _ m.1 m.2 t z _ hI.tok hI.okm) mO rfl (Nat.le_of_ble_eq_true rfl) (Nat.le_of_ble_eq_true rfl) (by have := kc_25 t; omega) (by have := ks_755 t; omega) ?_
  rintro _ _ sz2 ⟨rfl, t2, z2, rfl, ht2, hz2⟩
  refine N.icmp_eq (tgt := 1682) dL_law_1137 (by decide) (fun c1137 => ?_) (fun c1137 => absurd (R_bsh hI.rl _).1 c1137)
  refine N.bt ht2 (fun hb => ?_)
  exact hK _ _ k kz t2 z2 _ _ _ (hI.step (R_bsh hI.rl _) hx2 ht2 hz2 hb) (by have := kc_25 t; omega) (by have := ks_755 t; omega)
set_option maxRecDepth 100000 in
theorem cs_changeNow {K : Kx} {w0 : Wd} {s0 a b i L mc ms sz cc ss : Nat} {Q : Qx} {xs : Nat → Int32} {x : XV} {m : Mst} {k : Option Nat} {kz : MX} {t : Option Nat} {z : MX} (hT : va_T .int s0 L (fun j => .int (xs j)) (fr K) (kS K) (kS K).heap) (hL : L ≤ 3072) (hi : i + 6 ≤ L) (hI : LI a b sz x m k kz t) (hcc : cc + 50 ≤ mc) (hss : ss + 1510 ≤ ms) (hK : CK K w0 s0 a b i mc ms Q cc ss) : N K mL_law 2048 mc ms Q 1142 (LL s0 a b i) [] (LM K w0 a x b m k kz t z) sz cc ss := by
  refine N.eqW (hI.toX x).symm ?_
  refine N.aload1 dL_law_1142 ?_
  refine N.aload0 dL_law_1143 ?_
  refine N.iload3 dL_law_1144 ?_
  refine N.iconst (v := 1) dL_law_1145 (by decide) ?_
  refine N.iadd dL_law_1146 ?_
  refine N.ialdT dL_law_1147 (fun _ => hT) (li_k 1 hi (by decide) hL) ?_
  refine N.aload0 dL_law_1148 ?_
  refine N.iload3 dL_law_1149 ?_
  refine N.iconst (v := 2) dL_law_1150 (by decide) ?_
  refine N.iadd dL_law_1151 ?_
  refine N.ialdT dL_law_1152 (fun _ => hT) (li_k 2 hi (by decide) hL) ?_
  refine N.vi2 dL_law_1153 vX4_changeNow lkL_138 (s_X4_changeNow _ a _ x _ _ hI.okx) xO rfl (Nat.le_of_ble_eq_true rfl) (Nat.le_of_ble_eq_true rfl) (by omega) (by omega) ?_
  rintro _ _ _ ⟨rfl, rfl, x2, rfl, hx2⟩
  refine N.eqW (hI.toX x2) ?_
  refine N.aload2 dL_law_1156 ?_
  refine N.aload0 dL_law_1157 ?_
  refine N.iload3 dL_law_1158 ?_
  refine N.iconst (v := 1) dL_law_1159 (by decide) ?_
  refine N.iadd dL_law_1160 ?_
  refine N.ialdT dL_law_1161 (fun _ => hT) (li_k 1 hi (by decide) hL) ?_
  refine N.aload0 dL_law_1162 ?_
  refine N.iload3 dL_law_1163 ?_
  refine N.iconst (v := 2) dL_law_1164 (by decide) ?_
  refine N.iadd dL_law_1165 ?_
  refine N.ialdT dL_law_1166 (fun _ => hT) (li_k 2 hi (by decide) hL) ?_
  refine N.vi2A dL_law_1167 vX5_changeNow lkL_141 (s_X5_changeNow _ b _ m.1 m.2 t z _ _ hI.tok hI.okm) mO rfl (Nat.le_of_ble_eq_true rfl) (Nat.le_of_ble_eq_true rfl) (by have := kc_25 t; omega) (by have := ks_755 t; omega) ?_
  rintro _ _ sz2 ⟨rfl, t2, z2, rfl, ht2, hz2⟩
  refine N.icmp_eq (tgt := 1682) dL_law_1170 (by decide) (fun c1170 => ?_) (fun c1170 => absurd (R_chnow hI.rl _ _).1 c1170)
  refine N.bt ht2 (fun hb => ?_)
  exact hK _ _ k kz t2 z2 _ _ _ (hI.step (R_chnow hI.rl _ _) hx2 ht2 hz2 hb) (by have := kc_25 t; omega) (by have := ks_755 t; omega)
set_option maxRecDepth 100000 in
theorem cs_where {K : Kx} {w0 : Wd} {s0 a b i L mc ms sz cc ss : Nat} {Q : Qx} {xs : Nat → Int32} {x : XV} {m : Mst} {k : Option Nat} {kz : MX} {t : Option Nat} {z : MX} (hT : va_T .int s0 L (fun j => .int (xs j)) (fr K) (kS K) (kS K).heap) (hL : L ≤ 3072) (hi : i + 6 ≤ L) (hI : LI a b sz x m k kz t) (hcc : cc + 50 ≤ mc) (hss : ss + 1510 ≤ ms) (hK : CK K w0 s0 a b i mc ms Q cc ss) : N K mL_law 2048 mc ms Q 1175 (LL s0 a b i) [] (LM K w0 a x b m k kz t z) sz cc ss := by
  refine N.eqW (hI.toX x).symm ?_
  refine N.aload1 dL_law_1175 ?_
  refine N.aload0 dL_law_1176 ?_
  refine N.iload3 dL_law_1177 ?_
  refine N.iconst (v := 1) dL_law_1178 (by decide) ?_
  refine N.iadd dL_law_1179 ?_
  refine N.ialdT dL_law_1180 (fun _ => hT) (li_k 1 hi (by decide) hL) ?_
  refine N.aload0 dL_law_1181 ?_
  refine N.iload3 dL_law_1182 ?_
  refine N.iconst (v := 2) dL_law_1183 (by decide) ?_
  refine N.iadd dL_law_1184 ?_
  refine N.ialdT dL_law_1185 (fun _ => hT) (li_k 2 hi (by decide) hL) ?_
  refine N.vi2 dL_law_1186 vX4_where lkL_142 (s_X4_where _ a _ x _ _ hI.okx) xO rfl (Nat.le_of_ble_eq_true rfl) (Nat.le_of_ble_eq_true rfl) (by omega) (by omega) ?_
  rintro _ _ _ ⟨rfl, rfl, x2, rfl, hx2⟩
  refine N.eqW (hI.toX x2) ?_
  refine N.aload2 dL_law_1189 ?_
  refine N.aload0 dL_law_1190 ?_
  refine N.iload3 dL_law_1191 ?_
  refine N.iconst (v := 1) dL_law_1192 (by decide) ?_
  refine N.iadd dL_law_1193 ?_
  refine N.ialdT dL_law_1194 (fun _ => hT) (li_k 1 hi (by decide) hL) ?_
  refine N.aload0 dL_law_1195 ?_
  refine N.iload3 dL_law_1196 ?_
  refine N.iconst (v := 2) dL_law_1197 (by decide) ?_
  refine N.iadd dL_law_1198 ?_
  refine N.ialdT dL_law_1199 (fun _ => hT) (li_k 2 hi (by decide) hL) ?_
  refine N.vi2A dL_law_1200 vX5_where lkL_145 (s_X5_where _ b _ m.1 m.2 t z _ _ hI.tok hI.okm) mO rfl (Nat.le_of_ble_eq_true rfl) (Nat.le_of_ble_eq_true rfl) (by have := kc_25 t; omega) (by have := ks_755 t; omega) ?_
  rintro _ _ sz2 ⟨rfl, t2, z2, rfl, ht2, hz2⟩
  refine N.icmp_eq (tgt := 1682) dL_law_1203 (by decide) (fun c1203 => ?_) (fun c1203 => absurd (R_where hI.rl _ _).1 c1203)
  refine N.bt ht2 (fun hb => ?_)
  exact hK _ _ k kz t2 z2 _ _ _ (hI.step (R_where hI.rl _ _) hx2 ht2 hz2 hb) (by have := kc_25 t; omega) (by have := ks_755 t; omega)
set_option maxRecDepth 100000 in
theorem cs_meets {K : Kx} {w0 : Wd} {s0 a b i L mc ms sz cc ss : Nat} {Q : Qx} {xs : Nat → Int32} {x : XV} {m : Mst} {k : Option Nat} {kz : MX} {t : Option Nat} {z : MX} (hT : va_T .int s0 L (fun j => .int (xs j)) (fr K) (kS K) (kS K).heap) (hL : L ≤ 3072) (hi : i + 6 ≤ L) (hI : LI a b sz x m k kz t) (hcc : cc + 50 ≤ mc) (hss : ss + 1510 ≤ ms) (hK : CK K w0 s0 a b i mc ms Q cc ss) : N K mL_law 2048 mc ms Q 1208 (LL s0 a b i) [] (LM K w0 a x b m k kz t z) sz cc ss := by
  refine N.eqW (hI.toX x).symm ?_
  refine N.aload1 dL_law_1208 ?_
  refine N.aload0 dL_law_1209 ?_
  refine N.iload3 dL_law_1210 ?_
  refine N.iconst (v := 1) dL_law_1211 (by decide) ?_
  refine N.iadd dL_law_1212 ?_
  refine N.ialdT dL_law_1213 (fun _ => hT) (li_k 1 hi (by decide) hL) ?_
  refine N.aload0 dL_law_1214 ?_
  refine N.iload3 dL_law_1215 ?_
  refine N.iconst (v := 2) dL_law_1216 (by decide) ?_
  refine N.iadd dL_law_1217 ?_
  refine N.ialdT dL_law_1218 (fun _ => hT) (li_k 2 hi (by decide) hL) ?_
  refine N.vi2 dL_law_1219 vX4_meets lkL_146 (s_X4_meets _ a _ x _ _ hI.okx) xO rfl (Nat.le_of_ble_eq_true rfl) (Nat.le_of_ble_eq_true rfl) (by omega) (by omega) ?_
  rintro _ _ _ ⟨rfl, rfl, x2, rfl, hx2⟩
  refine N.eqW (hI.toX x2) ?_
  refine N.aload2 dL_law_1222 ?_
  refine N.aload0 dL_law_1223 ?_
  refine N.iload3 dL_law_1224 ?_
  refine N.iconst (v := 1) dL_law_1225 (by decide) ?_
  refine N.iadd dL_law_1226 ?_
  refine N.ialdT dL_law_1227 (fun _ => hT) (li_k 1 hi (by decide) hL) ?_
  refine N.aload0 dL_law_1228 ?_
  refine N.iload3 dL_law_1229 ?_
  refine N.iconst (v := 2) dL_law_1230 (by decide) ?_
  refine N.iadd dL_law_1231 ?_
  refine N.ialdT dL_law_1232 (fun _ => hT) (li_k 2 hi (by decide) hL) ?_
  refine N.vi2A dL_law_1233 vX5_meets lkL_149 (s_X5_meets _ b _ m.1 m.2 t z _ _ hI.tok hI.okm) mO rfl (Nat.le_of_ble_eq_true rfl) (Nat.le_of_ble_eq_true rfl) (by have := kc_25 t; omega) (by have := ks_755 t; omega) ?_
  rintro _ _ sz2 ⟨rfl, t2, z2, rfl, ht2, hz2⟩
  refine N.icmp_eq (tgt := 1682) dL_law_1236 (by decide) (fun c1236 => ?_) (fun c1236 => absurd (R_meets hI.rl _ _).1 c1236)
  refine N.bt ht2 (fun hb => ?_)
  exact hK _ _ k kz t2 z2 _ _ _ (hI.step (R_meets hI.rl _ _) hx2 ht2 hz2 hb) (by have := kc_25 t; omega) (by have := ks_755 t; omega)
set_option maxRecDepth 100000 in
theorem cs_match {K : Kx} {w0 : Wd} {s0 a b i L mc ms sz cc ss : Nat} {Q : Qx} {xs : Nat → Int32} {x : XV} {m : Mst} {k : Option Nat} {kz : MX} {t : Option Nat} {z : MX} (hT : va_T .int s0 L (fun j => .int (xs j)) (fr K) (kS K) (kS K).heap) (hL : L ≤ 3072) (hi : i + 6 ≤ L) (hI : LI a b sz x m k kz t) (hcc : cc + 50 ≤ mc) (hss : ss + 1510 ≤ ms) (hK : CK K w0 s0 a b i mc ms Q cc ss) : N K mL_law 2048 mc ms Q 1241 (LL s0 a b i) [] (LM K w0 a x b m k kz t z) sz cc ss := by
  refine N.eqW (hI.toX x).symm ?_
  refine N.aload1 dL_law_1241 ?_
  refine N.aload0 dL_law_1242 ?_
  refine N.iload3 dL_law_1243 ?_
  refine N.iconst (v := 1) dL_law_1244 (by decide) ?_
  refine N.iadd dL_law_1245 ?_
  refine N.ialdT dL_law_1246 (fun _ => hT) (li_k 1 hi (by decide) hL) ?_
  refine N.aload0 dL_law_1247 ?_
  refine N.iload3 dL_law_1248 ?_
  refine N.iconst (v := 2) dL_law_1249 (by decide) ?_
  refine N.iadd dL_law_1250 ?_
  refine N.ialdT dL_law_1251 (fun _ => hT) (li_k 2 hi (by decide) hL) ?_
  refine N.aload0 dL_law_1252 ?_
  refine N.iload3 dL_law_1253 ?_
  refine N.iconst (v := 3) dL_law_1254 (by decide) ?_
  refine N.iadd dL_law_1255 ?_
  refine N.ialdT dL_law_1256 (fun _ => hT) (li_k 3 hi (by decide) hL) ?_
  refine N.vi3 dL_law_1257 vX4_match lkL_150 (s_X4_match _ a _ x _ _ _ hI.okx) xO rfl (Nat.le_of_ble_eq_true rfl) (Nat.le_of_ble_eq_true rfl) (by omega) (by omega) ?_
  rintro _ _ _ ⟨rfl, rfl, x2, rfl, hx2⟩
  refine N.eqW (hI.toX x2) ?_
  refine N.aload2 dL_law_1260 ?_
  refine N.aload0 dL_law_1261 ?_
  refine N.iload3 dL_law_1262 ?_
  refine N.iconst (v := 1) dL_law_1263 (by decide) ?_
  refine N.iadd dL_law_1264 ?_
  refine N.ialdT dL_law_1265 (fun _ => hT) (li_k 1 hi (by decide) hL) ?_
  refine N.aload0 dL_law_1266 ?_
  refine N.iload3 dL_law_1267 ?_
  refine N.iconst (v := 2) dL_law_1268 (by decide) ?_
  refine N.iadd dL_law_1269 ?_
  refine N.ialdT dL_law_1270 (fun _ => hT) (li_k 2 hi (by decide) hL) ?_
  refine N.aload0 dL_law_1271 ?_
  refine N.iload3 dL_law_1272 ?_
  refine N.iconst (v := 3) dL_law_1273 (by decide) ?_
  refine N.iadd dL_law_1274 ?_
  refine N.ialdT dL_law_1275 (fun _ => hT) (li_k 3 hi (by decide) hL) ?_
  refine N.vi3A dL_law_1276 vX5_match lkL_153 (s_X5_match _ b _ m.1 m.2 t z _ _ _ hI.tok hI.okm) mO rfl (Nat.le_of_ble_eq_true rfl) (Nat.le_of_ble_eq_true rfl) (by have := kc_25 t; omega) (by have := ks_755 t; omega) ?_
  rintro _ _ sz2 ⟨rfl, t2, z2, rfl, ht2, hz2⟩
  refine N.icmp_eq (tgt := 1682) dL_law_1279 (by decide) (fun c1279 => ?_) (fun c1279 => absurd (R_match hI.rl _ _ _).1 c1279)
  refine N.bt ht2 (fun hb => ?_)
  exact hK _ _ k kz t2 z2 _ _ _ (hI.step (R_match hI.rl _ _ _) hx2 ht2 hz2 hb) (by have := kc_25 t; omega) (by have := ks_755 t; omega)
set_option maxRecDepth 100000 in
theorem cs_pull {K : Kx} {w0 : Wd} {s0 a b i L mc ms sz cc ss : Nat} {Q : Qx} {xs : Nat → Int32} {x : XV} {m : Mst} {k : Option Nat} {kz : MX} {t : Option Nat} {z : MX} (hT : va_T .int s0 L (fun j => .int (xs j)) (fr K) (kS K) (kS K).heap) (hL : L ≤ 3072) (hi : i + 6 ≤ L) (hI : LI a b sz x m k kz t) (hcc : cc + 50 ≤ mc) (hss : ss + 1510 ≤ ms) (hK : CK K w0 s0 a b i mc ms Q cc ss) : N K mL_law 2048 mc ms Q 1284 (LL s0 a b i) [] (LM K w0 a x b m k kz t z) sz cc ss := by
  refine N.eqW (hI.toX x).symm ?_
  refine N.aload1 dL_law_1284 ?_
  refine N.aload0 dL_law_1285 ?_
  refine N.iload3 dL_law_1286 ?_
  refine N.iconst (v := 1) dL_law_1287 (by decide) ?_
  refine N.iadd dL_law_1288 ?_
  refine N.ialdT dL_law_1289 (fun _ => hT) (li_k 1 hi (by decide) hL) ?_
  refine N.aload0 dL_law_1290 ?_
  refine N.iload3 dL_law_1291 ?_
  refine N.iconst (v := 2) dL_law_1292 (by decide) ?_
  refine N.iadd dL_law_1293 ?_
  refine N.ialdT dL_law_1294 (fun _ => hT) (li_k 2 hi (by decide) hL) ?_
  refine N.vi2 dL_law_1295 vX4_pull lkL_154 (s_X4_pull _ a _ x _ _ hI.okx) xO rfl (Nat.le_of_ble_eq_true rfl) (Nat.le_of_ble_eq_true rfl) (by omega) (by omega) ?_
  rintro _ _ _ ⟨rfl, rfl, x2, rfl, hx2⟩
  refine N.eqW (hI.toX x2) ?_
  refine N.aload2 dL_law_1298 ?_
  refine N.aload0 dL_law_1299 ?_
  refine N.iload3 dL_law_1300 ?_
  refine N.iconst (v := 1) dL_law_1301 (by decide) ?_
  refine N.iadd dL_law_1302 ?_
  refine N.ialdT dL_law_1303 (fun _ => hT) (li_k 1 hi (by decide) hL) ?_
  refine N.aload0 dL_law_1304 ?_
  refine N.iload3 dL_law_1305 ?_
  refine N.iconst (v := 2) dL_law_1306 (by decide) ?_
  refine N.iadd dL_law_1307 ?_
  refine N.ialdT dL_law_1308 (fun _ => hT) (li_k 2 hi (by decide) hL) ?_
  refine N.vi2A dL_law_1309 vX5_pull lkL_157 (s_X5_pull _ b _ m.1 m.2 t z _ _ hI.tok hI.okm) mO rfl (Nat.le_of_ble_eq_true rfl) (Nat.le_of_ble_eq_true rfl) (by have := kc_25 t; omega) (by have := ks_755 t; omega) ?_
  rintro _ _ sz2 ⟨rfl, t2, z2, rfl, ht2, hz2⟩
  refine N.icmp_eq (tgt := 1682) dL_law_1312 (by decide) (fun c1312 => ?_) (fun c1312 => absurd (R_pull hI.rl _ _).1 c1312)
  refine N.bt ht2 (fun hb => ?_)
  exact hK _ _ k kz t2 z2 _ _ _ (hI.step (R_pull hI.rl _ _) hx2 ht2 hz2 hb) (by have := kc_25 t; omega) (by have := ks_755 t; omega)
set_option maxRecDepth 100000 in
theorem cs_minutes {K : Kx} {w0 : Wd} {s0 a b i L mc ms sz cc ss : Nat} {Q : Qx} {xs : Nat → Int32} {x : XV} {m : Mst} {k : Option Nat} {kz : MX} {t : Option Nat} {z : MX} (hT : va_T .int s0 L (fun j => .int (xs j)) (fr K) (kS K) (kS K).heap) (hL : L ≤ 3072) (hi : i + 6 ≤ L) (hI : LI a b sz x m k kz t) (hcc : cc + 50 ≤ mc) (hss : ss + 1510 ≤ ms) (hK : CK K w0 s0 a b i mc ms Q cc ss) : N K mL_law 2048 mc ms Q 1317 (LL s0 a b i) [] (LM K w0 a x b m k kz t z) sz cc ss := by
  refine N.eqW (hI.toX x).symm ?_
  refine N.aload1 dL_law_1317 ?_
  refine N.aload0 dL_law_1318 ?_
  refine N.iload3 dL_law_1319 ?_
  refine N.iconst (v := 1) dL_law_1320 (by decide) ?_
  refine N.iadd dL_law_1321 ?_
  refine N.ialdT dL_law_1322 (fun _ => hT) (li_k 1 hi (by decide) hL) ?_
  refine N.vi1 dL_law_1323 vX4_minutes lkL_158 (s_X4_minutes _ a _ x _ hI.okx) xO rfl (Nat.le_of_ble_eq_true rfl) (Nat.le_of_ble_eq_true rfl) (by omega) (by omega) ?_
  rintro _ _ _ ⟨rfl, rfl, x2, rfl, hx2⟩
  refine N.eqW (hI.toX x2) ?_
  refine N.aload2 dL_law_1326 ?_
  refine N.aload0 dL_law_1327 ?_
  refine N.iload3 dL_law_1328 ?_
  refine N.iconst (v := 1) dL_law_1329 (by decide) ?_
  refine N.iadd dL_law_1330 ?_
  refine N.ialdT dL_law_1331 (fun _ => hT) (li_k 1 hi (by decide) hL) ?_
  refine N.vi1A dL_law_1332 vX5_minutes lkL_161 (s_X5_minutes _ b _ m.1 m.2 t z _ hI.tok hI.okm) mO rfl (Nat.le_of_ble_eq_true rfl) (Nat.le_of_ble_eq_true rfl) (by have := kc_25 t; omega) (by have := ks_755 t; omega) ?_
  rintro _ _ sz2 ⟨rfl, t2, z2, rfl, ht2, hz2⟩
  refine N.icmp_eq (tgt := 1682) dL_law_1335 (by decide) (fun c1335 => ?_) (fun c1335 => absurd (R_min hI.rl _).1 c1335)
  refine N.bt ht2 (fun hb => ?_)
  exact hK _ _ k kz t2 z2 _ _ _ (hI.step (R_min hI.rl _) hx2 ht2 hz2 hb) (by have := kc_25 t; omega) (by have := ks_755 t; omega)
set_option maxRecDepth 100000 in
theorem cs_penalty {K : Kx} {w0 : Wd} {s0 a b i L mc ms sz cc ss : Nat} {Q : Qx} {xs : Nat → Int32} {x : XV} {m : Mst} {k : Option Nat} {kz : MX} {t : Option Nat} {z : MX} (hT : va_T .int s0 L (fun j => .int (xs j)) (fr K) (kS K) (kS K).heap) (hL : L ≤ 3072) (hi : i + 6 ≤ L) (hI : LI a b sz x m k kz t) (hcc : cc + 50 ≤ mc) (hss : ss + 1510 ≤ ms) (hK : CK K w0 s0 a b i mc ms Q cc ss) : N K mL_law 2048 mc ms Q 1340 (LL s0 a b i) [] (LM K w0 a x b m k kz t z) sz cc ss := by
  refine N.eqW (hI.toX x).symm ?_
  refine N.aload1 dL_law_1340 ?_
  refine N.aload0 dL_law_1341 ?_
  refine N.iload3 dL_law_1342 ?_
  refine N.iconst (v := 1) dL_law_1343 (by decide) ?_
  refine N.iadd dL_law_1344 ?_
  refine N.ialdT dL_law_1345 (fun _ => hT) (li_k 1 hi (by decide) hL) ?_
  refine N.vi1 dL_law_1346 vX4_penalty lkL_162 (s_X4_penalty _ a _ x _ hI.okx) xO rfl (Nat.le_of_ble_eq_true rfl) (Nat.le_of_ble_eq_true rfl) (by omega) (by omega) ?_
  rintro _ _ _ ⟨rfl, rfl, x2, rfl, hx2⟩
  refine N.eqW (hI.toX x2) ?_
  refine N.aload2 dL_law_1349 ?_
  refine N.aload0 dL_law_1350 ?_
  refine N.iload3 dL_law_1351 ?_
  refine N.iconst (v := 1) dL_law_1352 (by decide) ?_
  refine N.iadd dL_law_1353 ?_
  refine N.ialdT dL_law_1354 (fun _ => hT) (li_k 1 hi (by decide) hL) ?_
  refine N.vi1A dL_law_1355 vX5_penalty lkL_165 (s_X5_penalty _ b _ m.1 m.2 t z _ hI.tok hI.okm) mO rfl (Nat.le_of_ble_eq_true rfl) (Nat.le_of_ble_eq_true rfl) (by omega) (by omega) ?_
  rintro _ _ sz2 ⟨rfl, t2, z2, rfl, ht2, hz2⟩
  refine N.icmp_eq (tgt := 1682) dL_law_1358 (by decide) (fun c1358 => ?_) (fun c1358 => absurd (R_pen hI.rl _).1 c1358)
  refine N.bt ht2 (fun hb => ?_)
  exact hK _ _ k kz t2 z2 _ _ _ (hI.step (R_pen hI.rl _) hx2 ht2 hz2 hb) (by have := kc_25 t; omega) (by have := ks_755 t; omega)
set_option maxRecDepth 100000 in
theorem cs_judge {K : Kx} {w0 : Wd} {s0 a b i L mc ms sz cc ss : Nat} {Q : Qx} {xs : Nat → Int32} {x : XV} {m : Mst} {k : Option Nat} {kz : MX} {t : Option Nat} {z : MX} (hT : va_T .int s0 L (fun j => .int (xs j)) (fr K) (kS K) (kS K).heap) (hL : L ≤ 3072) (hi : i + 6 ≤ L) (hI : LI a b sz x m k kz t) (hcc : cc + 50 ≤ mc) (hss : ss + 1510 ≤ ms) (hK : CK K w0 s0 a b i mc ms Q cc ss) : N K mL_law 2048 mc ms Q 1363 (LL s0 a b i) [] (LM K w0 a x b m k kz t z) sz cc ss := by
  refine N.eqW (hI.toX x).symm ?_
  refine N.aload1 dL_law_1363 ?_
  refine N.aload0 dL_law_1364 ?_
  refine N.iload3 dL_law_1365 ?_
  refine N.iconst (v := 1) dL_law_1366 (by decide) ?_
  refine N.iadd dL_law_1367 ?_
  refine N.ialdT dL_law_1368 (fun _ => hT) (li_k 1 hi (by decide) hL) ?_
  refine N.aload0 dL_law_1369 ?_
  refine N.iload3 dL_law_1370 ?_
  refine N.iconst (v := 2) dL_law_1371 (by decide) ?_
  refine N.iadd dL_law_1372 ?_
  refine N.ialdT dL_law_1373 (fun _ => hT) (li_k 2 hi (by decide) hL) ?_
  refine N.vi2 dL_law_1374 vX4_judge lkL_166 (s_X4_judge _ a _ x _ _ hI.okx) xO rfl (Nat.le_of_ble_eq_true rfl) (Nat.le_of_ble_eq_true rfl) (by omega) (by omega) ?_
  rintro _ _ _ ⟨rfl, rfl, x2, rfl, hx2⟩
  refine N.eqW (hI.toX x2) ?_
  refine N.aload2 dL_law_1377 ?_
  refine N.aload0 dL_law_1378 ?_
  refine N.iload3 dL_law_1379 ?_
  refine N.iconst (v := 1) dL_law_1380 (by decide) ?_
  refine N.iadd dL_law_1381 ?_
  refine N.ialdT dL_law_1382 (fun _ => hT) (li_k 1 hi (by decide) hL) ?_
  refine N.aload0 dL_law_1383 ?_
  refine N.iload3 dL_law_1384 ?_
  refine N.iconst (v := 2) dL_law_1385 (by decide) ?_
  refine N.iadd dL_law_1386 ?_
  refine N.ialdT dL_law_1387 (fun _ => hT) (li_k 2 hi (by decide) hL) ?_
  refine N.vi2A dL_law_1388 vX5_judge lkL_169 (s_X5_judge _ b _ m.1 m.2 t z _ _ hI.tok hI.okm) mO rfl (Nat.le_of_ble_eq_true rfl) (Nat.le_of_ble_eq_true rfl) (by have := kc_25 t; omega) (by have := ks_755 t; omega) ?_
  rintro _ _ sz2 ⟨rfl, t2, z2, rfl, ht2, hz2⟩
  refine N.icmp_eq (tgt := 1682) dL_law_1391 (by decide) (fun c1391 => ?_) (fun c1391 => absurd (R_judge hI.rl _ _).1 c1391)
  refine N.bt ht2 (fun hb => ?_)
  exact hK _ _ k kz t2 z2 _ _ _ (hI.step (R_judge hI.rl _ _) hx2 ht2 hz2 hb) (by have := kc_25 t; omega) (by have := ks_755 t; omega)
set_option maxRecDepth 100000 in
theorem cs_booked {K : Kx} {w0 : Wd} {s0 a b i L mc ms sz cc ss : Nat} {Q : Qx} {xs : Nat → Int32} {x : XV} {m : Mst} {k : Option Nat} {kz : MX} {t : Option Nat} {z : MX} (hT : va_T .int s0 L (fun j => .int (xs j)) (fr K) (kS K) (kS K).heap) (hL : L ≤ 3072) (hi : i + 6 ≤ L) (hI : LI a b sz x m k kz t) (hcc : cc + 50 ≤ mc) (hss : ss + 1510 ≤ ms) (hK : CK K w0 s0 a b i mc ms Q cc ss) : N K mL_law 2048 mc ms Q 1396 (LL s0 a b i) [] (LM K w0 a x b m k kz t z) sz cc ss := by
  refine N.eqW (hI.toX x).symm ?_
  refine N.aload1 dL_law_1396 ?_
  refine N.aload0 dL_law_1397 ?_
  refine N.iload3 dL_law_1398 ?_
  refine N.iconst (v := 1) dL_law_1399 (by decide) ?_
  refine N.iadd dL_law_1400 ?_
  refine N.ialdT dL_law_1401 (fun _ => hT) (li_k 1 hi (by decide) hL) ?_
  refine N.aload0 dL_law_1402 ?_
  refine N.iload3 dL_law_1403 ?_
  refine N.iconst (v := 2) dL_law_1404 (by decide) ?_
  refine N.iadd dL_law_1405 ?_
  refine N.ialdT dL_law_1406 (fun _ => hT) (li_k 2 hi (by decide) hL) ?_
  refine N.aload0 dL_law_1407 ?_
  refine N.iload3 dL_law_1408 ?_
  refine N.iconst (v := 3) dL_law_1409 (by decide) ?_
  refine N.iadd dL_law_1410 ?_
  refine N.ialdT dL_law_1411 (fun _ => hT) (li_k 3 hi (by decide) hL) ?_
  refine N.aload0 dL_law_1412 ?_
  refine N.iload3 dL_law_1413 ?_
  refine N.iconst (v := 4) dL_law_1414 (by decide) ?_
  refine N.iadd dL_law_1415 ?_
  refine N.ialdT dL_law_1416 (fun _ => hT) (li_k 4 hi (by decide) hL) ?_
  refine N.vi4 dL_law_1417 vX4_booked lkL_170 (s_X4_booked _ a _ x _ _ _ _ hI.okx) xO rfl (Nat.le_of_ble_eq_true rfl) (Nat.le_of_ble_eq_true rfl) (by omega) (by omega) ?_
  rintro _ _ _ ⟨rfl, rfl, x2, rfl, hx2⟩
  refine N.eqW (hI.toX x2) ?_
  refine N.aload2 dL_law_1420 ?_
  refine N.aload0 dL_law_1421 ?_
  refine N.iload3 dL_law_1422 ?_
  refine N.iconst (v := 1) dL_law_1423 (by decide) ?_
  refine N.iadd dL_law_1424 ?_
  refine N.ialdT dL_law_1425 (fun _ => hT) (li_k 1 hi (by decide) hL) ?_
  refine N.aload0 dL_law_1426 ?_
  refine N.iload3 dL_law_1427 ?_
  refine N.iconst (v := 2) dL_law_1428 (by decide) ?_
  refine N.iadd dL_law_1429 ?_
  refine N.ialdT dL_law_1430 (fun _ => hT) (li_k 2 hi (by decide) hL) ?_
  refine N.aload0 dL_law_1431 ?_
  refine N.iload3 dL_law_1432 ?_
  refine N.iconst (v := 3) dL_law_1433 (by decide) ?_
  refine N.iadd dL_law_1434 ?_
  refine N.ialdT dL_law_1435 (fun _ => hT) (li_k 3 hi (by decide) hL) ?_
  refine N.aload0 dL_law_1436 ?_
  refine N.iload3 dL_law_1437 ?_
  refine N.iconst (v := 4) dL_law_1438 (by decide) ?_
  refine N.iadd dL_law_1439 ?_
  refine N.ialdT dL_law_1440 (fun _ => hT) (li_k 4 hi (by decide) hL) ?_
  refine N.vi4A dL_law_1441 vX5_booked lkL_174 (s_X5_booked _ b _ m.1 m.2 t z _ _ _ _ hI.tok hI.okm) mO rfl (Nat.le_of_ble_eq_true rfl) (Nat.le_of_ble_eq_true rfl) (by have := kc_25 t; omega) (by have := ks_755 t; omega) ?_
  rintro _ _ sz2 ⟨rfl, t2, z2, rfl, ht2, hz2⟩
  refine N.icmp_eq (tgt := 1682) dL_law_1444 (by decide) (fun c1444 => ?_) (fun c1444 => absurd (R_booked hI.rl _ _ _ _).1 c1444)
  refine N.bt ht2 (fun hb => ?_)
  exact hK _ _ k kz t2 z2 _ _ _ (hI.step (R_booked hI.rl _ _ _ _) hx2 ht2 hz2 hb) (by have := kc_25 t; omega) (by have := ks_755 t; omega)
set_option maxRecDepth 100000 in
theorem cs_best {K : Kx} {w0 : Wd} {s0 a b i L mc ms sz cc ss : Nat} {Q : Qx} {xs : Nat → Int32} {x : XV} {m : Mst} {k : Option Nat} {kz : MX} {t : Option Nat} {z : MX} (hT : va_T .int s0 L (fun j => .int (xs j)) (fr K) (kS K) (kS K).heap) (hL : L ≤ 3072) (hi : i + 6 ≤ L) (hI : LI a b sz x m k kz t) (hcc : cc + 50 ≤ mc) (hss : ss + 1510 ≤ ms) (hK : CK K w0 s0 a b i mc ms Q cc ss) : N K mL_law 2048 mc ms Q 1449 (LL s0 a b i) [] (LM K w0 a x b m k kz t z) sz cc ss := by
  refine N.eqW (hI.toX x).symm ?_
  refine N.aload1 dL_law_1449 ?_
  refine N.aload0 dL_law_1450 ?_
  refine N.iload3 dL_law_1451 ?_
  refine N.iconst (v := 1) dL_law_1452 (by decide) ?_
  refine N.iadd dL_law_1453 ?_
  refine N.ialdT dL_law_1454 (fun _ => hT) (li_k 1 hi (by decide) hL) ?_
  refine N.vi1 dL_law_1455 vX4_best lkL_175 (s_X4_best _ a _ x _ hI.okx) xO rfl (Nat.le_of_ble_eq_true rfl) (Nat.le_of_ble_eq_true rfl) (by omega) (by omega) ?_
  rintro _ _ _ ⟨rfl, rfl, x2, rfl, hx2⟩
  refine N.eqW (hI.toX x2) ?_
  refine N.aload2 dL_law_1458 ?_
  refine N.aload0 dL_law_1459 ?_
  refine N.iload3 dL_law_1460 ?_
  refine N.iconst (v := 1) dL_law_1461 (by decide) ?_
  refine N.iadd dL_law_1462 ?_
  refine N.ialdT dL_law_1463 (fun _ => hT) (li_k 1 hi (by decide) hL) ?_
  refine N.vi1A dL_law_1464 vX5_best lkL_178 (s_X5_best _ b _ m.1 m.2 t z _ hI.tok hI.okm) mO rfl (Nat.le_of_ble_eq_true rfl) (Nat.le_of_ble_eq_true rfl) (by have := kc_25 t; omega) (by have := ks_755 t; omega) ?_
  rintro _ _ sz2 ⟨rfl, t2, z2, rfl, ht2, hz2⟩
  refine N.icmp_eq (tgt := 1682) dL_law_1467 (by decide) (fun c1467 => ?_) (fun c1467 => absurd (R_best hI.rl _).1 c1467)
  refine N.bt ht2 (fun hb => ?_)
  exact hK _ _ k kz t2 z2 _ _ _ (hI.step (R_best hI.rl _) hx2 ht2 hz2 hb) (by have := kc_25 t; omega) (by have := ks_755 t; omega)
set_option maxRecDepth 100000 in
theorem cs_rests {K : Kx} {w0 : Wd} {s0 a b i L mc ms sz cc ss : Nat} {Q : Qx} {xs : Nat → Int32} {x : XV} {m : Mst} {k : Option Nat} {kz : MX} {t : Option Nat} {z : MX} (hT : va_T .int s0 L (fun j => .int (xs j)) (fr K) (kS K) (kS K).heap) (hL : L ≤ 3072) (hi : i + 6 ≤ L) (hI : LI a b sz x m k kz t) (hcc : cc + 50 ≤ mc) (hss : ss + 1510 ≤ ms) (hK : CK K w0 s0 a b i mc ms Q cc ss) : N K mL_law 2048 mc ms Q 1472 (LL s0 a b i) [] (LM K w0 a x b m k kz t z) sz cc ss := by
  refine N.eqW (hI.toX x).symm ?_
  refine N.aload1 dL_law_1472 ?_
  refine N.aload0 dL_law_1473 ?_
  refine N.iload3 dL_law_1474 ?_
  refine N.iconst (v := 1) dL_law_1475 (by decide) ?_
  refine N.iadd dL_law_1476 ?_
  refine N.ialdT dL_law_1477 (fun _ => hT) (li_k 1 hi (by decide) hL) ?_
  refine N.vi1 dL_law_1478 vX4_rests lkL_179 (s_X4_rests _ a _ x _ hI.okx) xO rfl (Nat.le_of_ble_eq_true rfl) (Nat.le_of_ble_eq_true rfl) (by omega) (by omega) ?_
  rintro _ _ _ ⟨rfl, rfl, x2, rfl, hx2⟩
  refine N.eqW (hI.toX x2) ?_
  refine N.aload2 dL_law_1481 ?_
  refine N.aload0 dL_law_1482 ?_
  refine N.iload3 dL_law_1483 ?_
  refine N.iconst (v := 1) dL_law_1484 (by decide) ?_
  refine N.iadd dL_law_1485 ?_
  refine N.ialdT dL_law_1486 (fun _ => hT) (li_k 1 hi (by decide) hL) ?_
  refine N.vi1A dL_law_1487 vX5_rests lkL_182 (s_X5_rests _ b _ m.1 m.2 t z _ hI.tok hI.okm) mO rfl (Nat.le_of_ble_eq_true rfl) (Nat.le_of_ble_eq_true rfl) (by have := kc_25 t; omega) (by have := ks_755 t; omega) ?_
  rintro _ _ sz2 ⟨rfl, t2, z2, rfl, ht2, hz2⟩
  refine N.icmp_eq (tgt := 1682) dL_law_1490 (by decide) (fun c1490 => ?_) (fun c1490 => absurd (R_rests hI.rl _).1 c1490)
  refine N.bt ht2 (fun hb => ?_)
  exact hK _ _ k kz t2 z2 _ _ _ (hI.step (R_rests hI.rl _) hx2 ht2 hz2 hb) (by have := kc_25 t; omega) (by have := ks_755 t; omega)
set_option maxRecDepth 100000 in
theorem cs_whistle {K : Kx} {w0 : Wd} {s0 a b i L mc ms sz cc ss : Nat} {Q : Qx} {xs : Nat → Int32} {x : XV} {m : Mst} {k : Option Nat} {kz : MX} {t : Option Nat} {z : MX} (hT : va_T .int s0 L (fun j => .int (xs j)) (fr K) (kS K) (kS K).heap) (hL : L ≤ 3072) (hi : i + 6 ≤ L) (hI : LI a b sz x m k kz t) (hcc : cc + 50 ≤ mc) (hss : ss + 1510 ≤ ms) (hK : CK K w0 s0 a b i mc ms Q cc ss) : N K mL_law 2048 mc ms Q 1495 (LL s0 a b i) [] (LM K w0 a x b m k kz t z) sz cc ss := by
  refine N.eqW (hI.toX x).symm ?_
  refine N.aload1 dL_law_1495 ?_
  refine N.aload0 dL_law_1496 ?_
  refine N.iload3 dL_law_1497 ?_
  refine N.iconst (v := 1) dL_law_1498 (by decide) ?_
  refine N.iadd dL_law_1499 ?_
  refine N.ialdT dL_law_1500 (fun _ => hT) (li_k 1 hi (by decide) hL) ?_
  refine N.vi1 dL_law_1501 vX4_whistle lkL_183 (s_X4_whistle _ a _ x _ hI.okx) xO rfl (Nat.le_of_ble_eq_true rfl) (Nat.le_of_ble_eq_true rfl) (by omega) (by omega) ?_
  rintro _ _ _ ⟨rfl, rfl, x2, rfl, hx2⟩
  refine N.eqW (hI.toX x2) ?_
  refine N.aload2 dL_law_1504 ?_
  refine N.aload0 dL_law_1505 ?_
  refine N.iload3 dL_law_1506 ?_
  refine N.iconst (v := 1) dL_law_1507 (by decide) ?_
  refine N.iadd dL_law_1508 ?_
  refine N.ialdT dL_law_1509 (fun _ => hT) (li_k 1 hi (by decide) hL) ?_
  refine N.vi1A dL_law_1510 vX5_whistle lkL_186 (s_X5_whistle _ b _ m.1 m.2 t z _ hI.tok hI.okm) mO rfl (Nat.le_of_ble_eq_true rfl) (Nat.le_of_ble_eq_true rfl) (by have := kc_25 t; omega) (by have := ks_755 t; omega) ?_
  rintro _ _ sz2 ⟨rfl, t2, z2, rfl, ht2, hz2⟩
  refine N.icmp_eq (tgt := 1682) dL_law_1513 (by decide) (fun c1513 => ?_) (fun c1513 => absurd (R_whist hI.rl _).1 c1513)
  refine N.bt ht2 (fun hb => ?_)
  exact hK _ _ k kz t2 z2 _ _ _ (hI.step (R_whist hI.rl _) hx2 ht2 hz2 hb) (by have := kc_25 t; omega) (by have := ks_755 t; omega)
set_option maxRecDepth 100000 in
theorem cs_change {K : Kx} {w0 : Wd} {s0 a b i L mc ms sz cc ss : Nat} {Q : Qx} {xs : Nat → Int32} {x : XV} {m : Mst} {k : Option Nat} {kz : MX} {t : Option Nat} {z : MX} (hT : va_T .int s0 L (fun j => .int (xs j)) (fr K) (kS K) (kS K).heap) (hL : L ≤ 3072) (hi : i + 6 ≤ L) (hI : LI a b sz x m k kz t) (hcc : cc + 50 ≤ mc) (hss : ss + 1510 ≤ ms) (hK : CK K w0 s0 a b i mc ms Q cc ss) : N K mL_law 2048 mc ms Q 1518 (LL s0 a b i) [] (LM K w0 a x b m k kz t z) sz cc ss := by
  refine N.eqW (hI.toX x).symm ?_
  refine N.aload1 dL_law_1518 ?_
  refine N.aload0 dL_law_1519 ?_
  refine N.iload3 dL_law_1520 ?_
  refine N.iconst (v := 1) dL_law_1521 (by decide) ?_
  refine N.iadd dL_law_1522 ?_
  refine N.ialdT dL_law_1523 (fun _ => hT) (li_k 1 hi (by decide) hL) ?_
  refine N.vi1 dL_law_1524 vX4_change lkL_187 (s_X4_change _ a _ x _ hI.okx) xO rfl (Nat.le_of_ble_eq_true rfl) (Nat.le_of_ble_eq_true rfl) (by omega) (by omega) ?_
  rintro _ _ _ ⟨rfl, rfl, x2, rfl, hx2⟩
  refine N.eqW (hI.toX x2) ?_
  refine N.aload2 dL_law_1527 ?_
  refine N.aload0 dL_law_1528 ?_
  refine N.iload3 dL_law_1529 ?_
  refine N.iconst (v := 1) dL_law_1530 (by decide) ?_
  refine N.iadd dL_law_1531 ?_
  refine N.ialdT dL_law_1532 (fun _ => hT) (li_k 1 hi (by decide) hL) ?_
  refine N.vi1A dL_law_1533 vX5_change lkL_190 (s_X5_change _ b _ m.1 m.2 t z _ hI.tok hI.okm) mO rfl (Nat.le_of_ble_eq_true rfl) (Nat.le_of_ble_eq_true rfl) (by have := kc_25 t; omega) (by have := ks_755 t; omega) ?_
  rintro _ _ sz2 ⟨rfl, t2, z2, rfl, ht2, hz2⟩
  refine N.icmp_eq (tgt := 1682) dL_law_1536 (by decide) (fun c1536 => ?_) (fun c1536 => absurd (R_change hI.rl _).1 c1536)
  refine N.bt ht2 (fun hb => ?_)
  exact hK _ _ k kz t2 z2 _ _ _ (hI.step (R_change hI.rl _) hx2 ht2 hz2 hb) (by have := kc_25 t; omega) (by have := ks_755 t; omega)
set_option maxRecDepth 100000 in
theorem cs_skate {K : Kx} {w0 : Wd} {s0 a b i L mc ms sz cc ss : Nat} {Q : Qx} {xs : Nat → Int32} {x : XV} {m : Mst} {k : Option Nat} {kz : MX} {t : Option Nat} {z : MX} (hT : va_T .int s0 L (fun j => .int (xs j)) (fr K) (kS K) (kS K).heap) (hL : L ≤ 3072) (hi : i + 6 ≤ L) (hI : LI a b sz x m k kz t) (hcc : cc + 50 ≤ mc) (hss : ss + 1510 ≤ ms) (hK : CK K w0 s0 a b i mc ms Q cc ss) : N K mL_law 2048 mc ms Q 1541 (LL s0 a b i) [] (LM K w0 a x b m k kz t z) sz cc ss := by
  refine N.eqW (hI.toX x).symm ?_
  refine N.aload1 dL_law_1541 ?_
  refine N.aload0 dL_law_1542 ?_
  refine N.iload3 dL_law_1543 ?_
  refine N.iconst (v := 1) dL_law_1544 (by decide) ?_
  refine N.iadd dL_law_1545 ?_
  refine N.ialdT dL_law_1546 (fun _ => hT) (li_k 1 hi (by decide) hL) ?_
  refine N.vi1 dL_law_1547 vX4_skate lkL_191 (s_X4_skate _ a _ x _ hI.okx) xO rfl (Nat.le_of_ble_eq_true rfl) (Nat.le_of_ble_eq_true rfl) (by omega) (by omega) ?_
  rintro _ _ _ ⟨rfl, rfl, x2, rfl, hx2⟩
  refine N.eqW (hI.toX x2) ?_
  refine N.aload2 dL_law_1550 ?_
  refine N.aload0 dL_law_1551 ?_
  refine N.iload3 dL_law_1552 ?_
  refine N.iconst (v := 1) dL_law_1553 (by decide) ?_
  refine N.iadd dL_law_1554 ?_
  refine N.ialdT dL_law_1555 (fun _ => hT) (li_k 1 hi (by decide) hL) ?_
  refine N.vi1A dL_law_1556 vX5_skate lkL_194 (s_X5_skate _ b _ m.1 m.2 t z _ hI.tok hI.okm) mO rfl (Nat.le_of_ble_eq_true rfl) (Nat.le_of_ble_eq_true rfl) (by have := kc_25 t; omega) (by have := ks_755 t; omega) ?_
  rintro _ _ sz2 ⟨rfl, t2, z2, rfl, ht2, hz2⟩
  refine N.icmp_eq (tgt := 1682) dL_law_1559 (by decide) (fun c1559 => ?_) (fun c1559 => absurd (R_skate hI.rl _).1 c1559)
  refine N.bt ht2 (fun hb => ?_)
  exact hK _ _ k kz t2 z2 _ _ _ (hI.step (R_skate hI.rl _) hx2 ht2 hz2 hb) (by have := kc_25 t; omega) (by have := ks_755 t; omega)
set_option maxRecDepth 100000 in
theorem cs_game {K : Kx} {w0 : Wd} {s0 a b i L mc ms sz cc ss : Nat} {Q : Qx} {xs : Nat → Int32} {x : XV} {m : Mst} {k : Option Nat} {kz : MX} {t : Option Nat} {z : MX} (hT : va_T .int s0 L (fun j => .int (xs j)) (fr K) (kS K) (kS K).heap) (hL : L ≤ 3072) (hi : i + 6 ≤ L) (hI : LI a b sz x m k kz t) (hcc : cc + 50 ≤ mc) (hss : ss + 1510 ≤ ms) (hK : CK K w0 s0 a b i mc ms Q cc ss) : N K mL_law 2048 mc ms Q 1564 (LL s0 a b i) [] (LM K w0 a x b m k kz t z) sz cc ss := by
  refine N.eqW (hI.toX x).symm ?_
  refine N.aload1 dL_law_1564 ?_
  refine N.aload0 dL_law_1565 ?_
  refine N.iload3 dL_law_1566 ?_
  refine N.iconst (v := 1) dL_law_1567 (by decide) ?_
  refine N.iadd dL_law_1568 ?_
  refine N.ialdT dL_law_1569 (fun _ => hT) (li_k 1 hi (by decide) hL) ?_
  refine N.vi1 dL_law_1570 vX4_game lkL_195 (s_X4_game _ a _ x _ hI.okx) xO rfl (Nat.le_of_ble_eq_true rfl) (Nat.le_of_ble_eq_true rfl) (by omega) (by omega) ?_
  rintro _ _ _ ⟨rfl, rfl, x2, rfl, hx2⟩
  refine N.eqW (hI.toX x2) ?_
  refine N.aload2 dL_law_1573 ?_
  refine N.aload0 dL_law_1574 ?_
  refine N.iload3 dL_law_1575 ?_
  refine N.iconst (v := 1) dL_law_1576 (by decide) ?_
  refine N.iadd dL_law_1577 ?_
  refine N.ialdT dL_law_1578 (fun _ => hT) (li_k 1 hi (by decide) hL) ?_
  refine N.vi1A dL_law_1579 vX5_game lkL_198 (s_X5_game _ b _ m.1 m.2 t z _ hI.tok hI.okm) mO rfl (Nat.le_of_ble_eq_true rfl) (Nat.le_of_ble_eq_true rfl) (by have := kc_25 t; omega) (by have := ks_755 t; omega) ?_
  rintro _ _ sz2 ⟨rfl, t2, z2, rfl, ht2, hz2⟩
  refine N.icmp_eq (tgt := 1682) dL_law_1582 (by decide) (fun c1582 => ?_) (fun c1582 => absurd (R_game hI.rl _).1 c1582)
  refine N.bt ht2 (fun hb => ?_)
  exact hK _ _ k kz t2 z2 _ _ _ (hI.step (R_game hI.rl _) hx2 ht2 hz2 hb) (by have := kc_25 t; omega) (by have := ks_755 t; omega)
set_option maxRecDepth 100000 in
theorem cs_pause {K : Kx} {w0 : Wd} {s0 a b i L mc ms sz cc ss : Nat} {Q : Qx} {xs : Nat → Int32} {x : XV} {m : Mst} {k : Option Nat} {kz : MX} {t : Option Nat} {z : MX} (hT : va_T .int s0 L (fun j => .int (xs j)) (fr K) (kS K) (kS K).heap) (hL : L ≤ 3072) (hi : i + 6 ≤ L) (hI : LI a b sz x m k kz t) (hcc : cc + 50 ≤ mc) (hss : ss + 1510 ≤ ms) (hK : CK K w0 s0 a b i mc ms Q cc ss) : N K mL_law 2048 mc ms Q 1587 (LL s0 a b i) [] (LM K w0 a x b m k kz t z) sz cc ss := by
  refine N.eqW (hI.toX x).symm ?_
  refine N.aload1 dL_law_1587 ?_
  refine N.aload0 dL_law_1588 ?_
  refine N.iload3 dL_law_1589 ?_
  refine N.iconst (v := 1) dL_law_1590 (by decide) ?_
  refine N.iadd dL_law_1591 ?_
  refine N.ialdT dL_law_1592 (fun _ => hT) (li_k 1 hi (by decide) hL) ?_
  refine N.vi1 dL_law_1593 vX4_pause lkL_199 (s_X4_pause _ a _ x _ hI.okx) xO rfl (Nat.le_of_ble_eq_true rfl) (Nat.le_of_ble_eq_true rfl) (by omega) (by omega) ?_
  rintro _ _ _ ⟨rfl, rfl, x2, rfl, hx2⟩
  refine N.eqW (hI.toX x2) ?_
  refine N.aload2 dL_law_1596 ?_
  refine N.aload0 dL_law_1597 ?_
  refine N.iload3 dL_law_1598 ?_
  refine N.iconst (v := 1) dL_law_1599 (by decide) ?_
  refine N.iadd dL_law_1600 ?_
  refine N.ialdT dL_law_1601 (fun _ => hT) (li_k 1 hi (by decide) hL) ?_
  refine N.vi1A dL_law_1602 vX5_pause lkL_202 (s_X5_pause _ b _ m.1 m.2 t z _ hI.tok hI.okm) mO rfl (Nat.le_of_ble_eq_true rfl) (Nat.le_of_ble_eq_true rfl) (by have := kc_25 t; omega) (by have := ks_755 t; omega) ?_
  rintro _ _ sz2 ⟨rfl, t2, z2, rfl, ht2, hz2⟩
  refine N.icmp_eq (tgt := 1682) dL_law_1605 (by decide) (fun c1605 => ?_) (fun c1605 => absurd (R_pause hI.rl _).1 c1605)
  refine N.bt ht2 (fun hb => ?_)
  exact hK _ _ k kz t2 z2 _ _ _ (hI.step (R_pause hI.rl _) hx2 ht2 hz2 hb) (by have := kc_25 t; omega) (by have := ks_755 t; omega)
set_option maxRecDepth 100000 in
theorem cs_seed {K : Kx} {w0 : Wd} {s0 a b i L mc ms sz cc ss : Nat} {Q : Qx} {xs : Nat → Int32} {x : XV} {m : Mst} {k : Option Nat} {kz : MX} {t : Option Nat} {z : MX} (hT : va_T .int s0 L (fun j => .int (xs j)) (fr K) (kS K) (kS K).heap) (hL : L ≤ 3072) (hi : i + 6 ≤ L) (hI : LI a b sz x m k kz t) (hcc : cc + 50 ≤ mc) (hss : ss + 1510 ≤ ms) (hK : CK K w0 s0 a b i mc ms Q cc ss) : N K mL_law 2048 mc ms Q 1610 (LL s0 a b i) [] (LM K w0 a x b m k kz t z) sz cc ss := by
  refine N.eqW (hI.toX x).symm ?_
  refine N.aload1 dL_law_1610 ?_
  refine N.aload0 dL_law_1611 ?_
  refine N.iload3 dL_law_1612 ?_
  refine N.iconst (v := 1) dL_law_1613 (by decide) ?_
  refine N.iadd dL_law_1614 ?_
  refine N.ialdT dL_law_1615 (fun _ => hT) (li_k 1 hi (by decide) hL) ?_
  refine N.vi1 dL_law_1616 vX4_seed lkL_203 (s_X4_seed _ a _ x _ hI.okx) xO rfl (Nat.le_of_ble_eq_true rfl) (Nat.le_of_ble_eq_true rfl) (by omega) (by omega) ?_
  rintro _ _ _ ⟨rfl, rfl, x2, rfl, hx2⟩
  refine N.eqW (hI.toX x2) ?_
  refine N.aload2 dL_law_1619 ?_
  refine N.aload0 dL_law_1620 ?_
  refine N.iload3 dL_law_1621 ?_
  refine N.iconst (v := 1) dL_law_1622 (by decide) ?_
  refine N.iadd dL_law_1623 ?_
  refine N.ialdT dL_law_1624 (fun _ => hT) (li_k 1 hi (by decide) hL) ?_
  refine N.vi1A dL_law_1625 vX5_seed lkL_206 (s_X5_seed _ b _ m.1 m.2 t z _ hI.tok hI.okm) mO rfl (Nat.le_of_ble_eq_true rfl) (Nat.le_of_ble_eq_true rfl) (by have := kc_25 t; omega) (by have := ks_755 t; omega) ?_
  rintro _ _ sz2 ⟨rfl, t2, z2, rfl, ht2, hz2⟩
  refine N.icmp_eq (tgt := 1682) dL_law_1628 (by decide) (fun c1628 => ?_) (fun c1628 => absurd (R_seed hI.rl _).1 c1628)
  refine N.bt ht2 (fun hb => ?_)
  exact hK _ _ k kz t2 z2 _ _ _ (hI.step (R_seed hI.rl _) hx2 ht2 hz2 hb) (by have := kc_25 t; omega) (by have := ks_755 t; omega)
set_option maxRecDepth 100000 in
theorem cs_status {K : Kx} {w0 : Wd} {s0 a b i L mc ms sz cc ss : Nat} {Q : Qx} {xs : Nat → Int32} {x : XV} {m : Mst} {k : Option Nat} {kz : MX} {t : Option Nat} {z : MX} (hT : va_T .int s0 L (fun j => .int (xs j)) (fr K) (kS K) (kS K).heap) (hL : L ≤ 3072) (hi : i + 6 ≤ L) (hI : LI a b sz x m k kz t) (hcc : cc + 50 ≤ mc) (hss : ss + 1510 ≤ ms) (hK : CK K w0 s0 a b i mc ms Q cc ss) : N K mL_law 2048 mc ms Q 1659 (LL s0 a b i) [] (LM K w0 a x b m k kz t z) sz cc ss := by
  refine N.eqW (hI.toX x).symm ?_
  refine N.aload1 dL_law_1659 ?_
  refine N.aload0 dL_law_1660 ?_
  refine N.iload3 dL_law_1661 ?_
  refine N.iconst (v := 1) dL_law_1662 (by decide) ?_
  refine N.iadd dL_law_1663 ?_
  refine N.ialdT dL_law_1664 (fun _ => hT) (li_k 1 hi (by decide) hL) ?_
  refine N.vi1 dL_law_1665 vX4_status lkL_215 (s_X4_status _ a _ x _ hI.okx) xO rfl (Nat.le_of_ble_eq_true rfl) (Nat.le_of_ble_eq_true rfl) (by omega) (by omega) ?_
  rintro _ _ _ ⟨rfl, rfl, x2, rfl, hx2⟩
  refine N.eqW (hI.toX x2) ?_
  refine N.aload2 dL_law_1668 ?_
  refine N.aload0 dL_law_1669 ?_
  refine N.iload3 dL_law_1670 ?_
  refine N.iconst (v := 1) dL_law_1671 (by decide) ?_
  refine N.iadd dL_law_1672 ?_
  refine N.ialdT dL_law_1673 (fun _ => hT) (li_k 1 hi (by decide) hL) ?_
  refine N.vi1A dL_law_1674 vX5_status lkL_218 (s_X5_status _ b _ m.1 m.2 t z _ hI.tok hI.okm) mO rfl (Nat.le_of_ble_eq_true rfl) (Nat.le_of_ble_eq_true rfl) (by have := kc_25 t; omega) (by have := ks_755 t; omega) ?_
  rintro _ _ sz2 ⟨rfl, t2, z2, rfl, ht2, hz2⟩
  refine N.icmp_eq (tgt := 1682) dL_law_1677 (by decide) (fun c1677 => ?_) (fun c1677 => absurd (R_status hI.rl _).1 c1677)
  refine N.bt ht2 (fun hb => ?_)
  exact hK _ _ k kz t2 z2 _ _ _ (hI.step (R_status hI.rl _) hx2 ht2 hz2 hb) (by have := kc_25 t; omega) (by have := ks_755 t; omega)
