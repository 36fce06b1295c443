/-! rows of N that touch the heap, and calls -/
theorem P1_ {D : va_G} {cl : List vw_C} {a : Nat} {e : va_E} {H : Heap} (h : va_at D cl (a, e) H) : va_P D cl [(a, e)] H := by
  intro k q hk
  have hz : k < 1 := (List.getElem?_eq_some_iff.mp hk).1
  rw [show k = 0 by omega] at hk
  cases hk
  exact h
theorem Kok.k {K : Kx} {U : State} (h : Cx K U) : va_K (kD K) vwCl (kty K) U := h.2.2.2.1.moved h.1
/-- the words of the classes' fields -/
theorem clsW : ∀ (ci : Nat) (C : String) (T : u_T) (n : Nat), vwCl[ci]? = some (C, T, n) → ∀ w ∈ u_ws C T n, w ∈ gT := by
  intro ci C T n h
  match ci, h with
  | 0, h => cases h; decide +kernel
  | 1, h => cases h; decide +kernel
  | 2, h => cases h; decide +kernel
  | 3, h => cases h; decide +kernel
  | 4, h => cases h; decide +kernel
  | 5, h => cases h; decide +kernel
  | k + 6, h => simp [vwCl] at h
def tyOf (ci : Nat) : Nat → FieldType := match ci with
  | 0 => tyX0
  | 1 => tyX1
  | 2 => tyX2
  | 3 => tyX3
  | 4 => tyX4
  | _ => tyX5
theorem clsT : ∀ (ci : Nat) (C : String) (T : u_T) (n : Nat), vwCl[ci]? = some (C, T, n) → (∀ k, k < n → parseFieldDescriptor (T k).2.2.1 = some (tyOf ci k)) ∧ (∀ a, a < n → ∀ b, b < n → a ≠ b → (T a).2.1 ≠ (T b).2.1) := by
  intro ci C T n h
  match ci, h with
  | 0, h => cases h; exact ⟨by decide +kernel, nmX0⟩
  | 1, h => cases h; exact ⟨by decide +kernel, nmX1⟩
  | 2, h => cases h; exact ⟨by decide +kernel, nmX2⟩
  | 3, h => cases h; exact ⟨by decide +kernel, nmX3⟩
  | 4, h => cases h; exact ⟨by decide +kernel, nmX4⟩
  | 5, h => cases h; exact ⟨by decide +kernel, nmX5⟩
  | k + 6, h => simp [vwCl] at h
/-- a field's link: class ci's field k as class own's pool entry idx names it -/
def FL (own : String) (idx ci k : Nat) : Prop := ∃ (C : String) (T : u_T) (n : Nat), vwCl[ci]? = some (C, T, n) ∧ k < n ∧
  (Cond.fieldLink own idx (T k).1 (T k).2.1 (T k).2.2.1 ∈ gT ∨ ∃ h, Cond.fieldLinkNest own idx (T k).1 (T k).2.1 (T k).2.2.1 h ∈ nT)
section FR
variable {K : Kx} {M : Md} {d mc ms : Nat} {Q : Qx} {pc : Nat} {L : List (Option Value)} {st : List Value} {w : Wd} {sz cc ss : Nat}
theorem N.getf {idx ci k a : Nat} {fs : List Value} {v : Value} (hd : decode M.2.1 pc = .ok (.getfield idx, 3)) (hl_ : FL M.1.cls idx ci k) (hw : w a = some (.inr (ci, fs))) (hv : fs[k]? = some v) (kk : N K M d mc ms Q (pc + 3) L (v :: st) w sz cc ss) : N K M d mc ms Q pc L (.ref a :: st) w sz cc ss := by
  intro p e s m args below meth c H locs ls C hW hF hL hl
  obtain ⟨C1, T, n, hc, hk, hlk⟩ := hl_
  have hP := P1_ (hW.2.2 a _ hw).2
  have hts := C.2.2.2.2.2.2.2.1
  have hin : ∀ x ∈ u_ws C1 T n, x ∈ mws M := fun x hx => List.mem_cons_of_mem _ (clsW ci C1 T n hc x hx)
  have kk := kk p e s m args below meth c H locs ls C hW hF hL hl
  rcases hlk with h | ⟨h, hh⟩
  · exact va_get C.1 C.2.1 hts hin C.2.2.2.2.2.1 (Kok.k C.2.2.2.2.2.2.2.2.1) hP 0 rfl hc k hk (hts _ (List.mem_cons_of_mem _ h)) (fun _ h => h) hv hd kk
  · exact va_getN C.1 C.2.1 hts hin C.2.2.2.2.2.1 (Kok.k C.2.2.2.2.2.2.2.2.1) hP 0 rfl hc k hk (va_Nw.use rfl (C.2.2.2.2.2.2.2.2.1.2.1 _ hh)) (fun _ h => h) hv hd kk
theorem N.putf {idx ci k a : Nat} {fs : List Value} {v : Value} (hd : decode M.2.1 pc = .ok (.putfield idx, 3)) (hl_ : FL M.1.cls idx ci k) (hw : w a = some (.inr (ci, fs))) (hlen : k < fs.length) (hfin : ∀ q, vwCl[ci]? = some q → (q.2.1 k).2.2.2 = false) (hn : narrow (tyOf ci k) v = v) (hfit : fits (tyOf ci k) v = true) {w' : Wd} (hw' : upW w a (.inr (ci, fs.set k v)) = w') (kk : N K M d mc ms Q (pc + 3) L st w' sz cc ss) : N K M d mc ms Q pc L (v :: .ref a :: st) w sz cc ss := by
  intro p e s m args below meth c H locs ls C hW hF hL hl
  subst hw'
  obtain ⟨C1, T, n, hc, hk, hlk⟩ := hl_
  have hfin := hfin _ hc
  have hts := C.2.2.2.2.2.2.2.1
  have hown := C.2.2.2.2.2.1
  have hK := Kok.k C.2.2.2.2.2.2.2.2.1
  have hin : ∀ x ∈ u_ws C1 T n, x ∈ mws M := fun x hx => List.mem_cons_of_mem _ (clsW ci C1 T n hc x hx)
  obtain ⟨hty, hnm⟩ := clsT ci C1 T n hc
  have hap := va_apart (own := M.1.cls) hts hin (tyOf ci) hty hnm hK hc
  have hat := (hW.2.2 a _ hw).2
  obtain ⟨r, h1, cell, q1, q2, q3, q4⟩ := id hat
  have hr : r = (C1, T, n) := Option.some.inj (h1.symm.trans hc)
  subst hr
  obtain ⟨hS, hfc, kC, hkC, hkind⟩ := hK.1 ci _ hc
  obtain ⟨cf, kf, fi, f, hi, hsl⟩ := hS k hk
  have hlay := hts _ (hin _ (u_in_lay hk))
  unfold u_lay at hlay
  rw [if_neg (by rw [hfin]; decide)] at hlay
  have hst := (u_facts hfc hkC (u_lays hts hin hk) hi).1
  have h6 := u_store hfc hkC hkind hlay hi (hty k hk) hn hfit
  have go : ∀ H' : Heap, H'[a]? = some (cell.setSlot f.slot v) → H'.size = H.size → (∀ q, q ≠ a → H'[q]? = H[q]?) → W p (kL K) e (rmOf d mc ms) s m args below meth c H' (locs ++ [⟨a, f.slot⟩]) cc ss (MQ below (Qc_ K Q) args s mc ms (fr K)) (F0 m (pc + 3) ls st) := by
    intro H' e1 e2 e3
    rw [hsl] at e1
    refine kk p e s m args below meth c H' _ ls C (hW.set hw ⟨_, hc, t_OB.to (V := updV (vp_V fs) k v) ⟨_, e1, q2, q3, t_set q4 hap hk v⟩ (fun j _ => vp_updV_set hlen v j)⟩ e2 e3) (fun q hq => ?_) hL hl
    rcases List.mem_append.mp hq with h | h
    · exact hF q h
    · rw [List.mem_singleton.mp h]; exact (hW.2.2 a _ hw).1
  rcases hlk with h | ⟨h, hh⟩
  · exact W.putK C.1 C.2.1 (f := f) ⟨hown, hts _ (List.mem_cons_of_mem _ h), ⟨_, _, _, hi⟩, hst⟩ (by rw [q2]; exact h6) q1 q3 (by rw [hsl]; exact k2_hasslot (q4 k hk)) rfl rfl hd go
  · exact va_WputK C.1 C.2.1 (f := f) hown (va_Nw.use rfl (C.2.2.2.2.2.2.2.2.1.2.1 _ hh)) hi hst (by rw [q2]; exact h6) q1 q3 (by rw [hsl]; exact k2_hasslot (q4 k hk)) rfl rfl hd go
/-- a final field, in the constructor of its own class -/
theorem N.putF {idx ci k a : Nat} {fs : List Value} {v : Value} (hd : decode M.2.1 pc = .ok (.putfield idx, 3)) (hl_ : ∃ (C : String) (T : u_T) (n : Nat), vwCl[ci]? = some (C, T, n) ∧ k < n ∧ Cond.fieldLink M.1.cls idx (T k).1 (T k).2.1 (T k).2.2.1 ∈ gT ∧ (T k).2.2.2 = true ∧ (T k).1 = M.1.cls) (hi0 : M.1.name = "<init>") (hw : w a = some (.inr (ci, fs))) (hlen : k < fs.length) (hn : narrow (tyOf ci k) v = v) (hfit : fits (tyOf ci k) v = true) {w' : Wd} (hw' : upW w a (.inr (ci, fs.set k v)) = w') (kk : N K M d mc ms Q (pc + 3) L st w' sz cc ss) : N K M d mc ms Q pc L (v :: .ref a :: st) w sz cc ss := by
  intro p e s m args below meth c H locs ls C hW hF hL hl
  subst hw'
  obtain ⟨C1, T, n, hc, hk, hlk, hfin, hdecl⟩ := hl_
  have hts := C.2.2.2.2.2.2.2.1
  have hown := C.2.2.2.2.2.1
  have hK := Kok.k C.2.2.2.2.2.2.2.2.1
  have hin : ∀ x ∈ u_ws C1 T n, x ∈ mws M := fun x hx => List.mem_cons_of_mem _ (clsW ci C1 T n hc x hx)
  obtain ⟨hty, hnm⟩ := clsT ci C1 T n hc
  have hap := va_apart (own := M.1.cls) hts hin (tyOf ci) hty hnm hK hc
  obtain ⟨r, h1, cell, q1, q2, q3, q4⟩ := (hW.2.2 a _ hw).2
  have hr : r = (C1, T, n) := Option.some.inj (h1.symm.trans hc)
  subst hr
  obtain ⟨hS, hfc, kC, hkC, hkind⟩ := hK.1 ci _ hc
  obtain ⟨cf, kf, fi, f, hi, hsl⟩ := hS k hk
  have hlay := hts _ (hin _ (u_in_lay hk))
  unfold u_lay at hlay
  rw [if_pos hfin] at hlay
  have hst := (u_facts hfc hkC (u_lays hts hin hk) hi).1
  have hcf : m.cls = cf := by
    obtain ⟨_, _, c', _, _, _, -, -, hf', -, -, -, hown2, -⟩ := Cond.laysFinal_spec hlay
    have e1 : c' = cf := by have := hi.symm.trans hf'; simp at this; exact this.1.symm
    rw [hdecl] at hown2
    rw [← e1]; exact Option.some.inj (hown.symm.trans hown2)
  have h6 := u_fits hfc hkC hkind (Or.inr hlay) hi (hty k hk) hn hfit
  refine W.putFinK C.1 C.2.1 hown (hts _ (List.mem_cons_of_mem _ hlk)) hi hst hcf (C.2.2.2.2.2.2.1.trans hi0) (by rw [q2]; exact h6) q1 q3 (by rw [hsl]; exact k2_hasslot (q4 k hk)) rfl rfl hd fun H' e1 e2 e3 => ?_
  rw [hsl] at e1
  refine kk p e s m args below meth c H' _ ls C (hW.set hw ⟨_, hc, t_OB.to (V := updV (vp_V fs) k v) ⟨_, e1, q2, q3, t_set q4 hap hk v⟩ (fun j _ => vp_updV_set hlen v j)⟩ e2 e3) (fun q hq => ?_) hL hl
  rcases List.mem_append.mp hq with h | h
  · exact hF q h
  · rw [List.mem_singleton.mp h]; exact (hW.2.2 a _ hw).1
-- arrays
theorem N.iald {a n : Nat} {f : Nat → Int32} {i : Int32} (hd : decode M.2.1 pc = .ok (.iaload, 1)) (hw : w a = some (.inl (kC K 0, n, .inl f))) (hi : vp_in i n) (kk : N K M d mc ms Q (pc + 1) L (.int (f i.toNatClampNeg) :: st) w sz cc ss) : N K M d mc ms Q pc L (.int i :: .ref a :: st) w sz cc ss := by
  intro p e s m args below meth c H locs ls C hW hF hL hl
  exact va_iald C.1 C.2.1 (Kok.k C.2.2.2.2.2.2.2.2.1) (P1_ (hW.2.2 a _ hw).2) 0 0 rfl rfl hi hd (kk p e s m args below meth c H locs ls C hW hF hL hl)
theorem N.lald {a n : Nat} {f : Nat → Int64} {i : Int32} (hd : decode M.2.1 pc = .ok (.laload, 1)) (hw : w a = some (.inl (kC K 1, n, .inr (.inl f)))) (hi : vp_in i n) (kk : N K M d mc ms Q (pc + 1) L (.long (f i.toNatClampNeg) :: st) w sz cc ss) : N K M d mc ms Q pc L (.int i :: .ref a :: st) w sz cc ss := by
  intro p e s m args below meth c H locs ls C hW hF hL hl
  exact va_lald C.1 C.2.1 (Kok.k C.2.2.2.2.2.2.2.2.1) (P1_ (hW.2.2 a _ hw).2) 0 1 rfl rfl hi hd (kk p e s m args below meth c H locs ls C hW hF hL hl)
theorem N.aald {a n : Nat} {f : Nat → Option Nat} {i : Int32} {v : Value} (hd : decode M.2.1 pc = .ok (.aaload, 1)) (hw : w a = some (.inl (kC K 2, n, .inr (.inr (.inr (.inr f)))))) (hi : vp_in i n) (hv : va_rf (f i.toNatClampNeg) = v) (kk : N K M d mc ms Q (pc + 1) L (v :: st) w sz cc ss) : N K M d mc ms Q pc L (.int i :: .ref a :: st) w sz cc ss := by
  intro p e s m args below meth c H locs ls C hW hF hL hl
  subst hv
  exact va_aldq C.1 C.2.1 (Kok.k C.2.2.2.2.2.2.2.2.1) (P1_ (hW.2.2 a _ hw).2) 0 2 rfl rfl hi hd (kk p e s m args below meth c H locs ls C hW hF hL hl)
/-- an element of an array of arrays -/
theorem N.aaldA {a n : Nat} {f : Nat → Option Nat} {i : Int32} {v : Value} (hd : decode M.2.1 pc = .ok (.aaload, 1)) (hw : w a = some (.inl (kC K 3, n, .inr (.inr (.inr (.inr f)))))) (hi : vp_in i n) (hv : va_rf (f i.toNatClampNeg) = v) (kk : N K M d mc ms Q (pc + 1) L (v :: st) w sz cc ss) : N K M d mc ms Q pc L (.int i :: .ref a :: st) w sz cc ss := by
  intro p e s m args below meth c H locs ls C hW hF hL hl
  subst hv
  have hlt : i.toNatClampNeg < n := Nat.not_le.mp fun q => hi (Or.inr q)
  exact W.aald (v := va_rf (f i.toNatClampNeg)) (ty := .array .long) C.1 C.2.1 (hW.2.2 a _ hw).2 (((Kok.k C.2.2.2.2.2.2.2.2.1).2 3 _ rfl).1 n (fun j => va_rf (f j))) rfl (fun q => by cases q) (by show ¬ (i < 0 ∨ (arrV _ _ _).slots.size ≤ _); rw [arrV_size]; exact hi) (by show (arrV _ _ _).slots[_]? = _; rw [arrV_read _ _ hlt]) rfl rfl hd (kk p e s m args below meth c H locs ls C hW hF hL hl)
theorem fr_app {K : Kx} {locs : List Loc} {a j : Nat} (hF : ∀ q ∈ locs, fr K q.base) (ha : (kS K).heap.size ≤ a) : ∀ q ∈ locs ++ [(⟨a, j⟩ : Loc)], fr K q.base := fun q hq => by
  rcases List.mem_append.mp hq with h | h
  · exact hF q h
  · rw [List.mem_singleton.mp h]; exact ha
theorem N.iast {a n : Nat} {f : Nat → Int32} {i x : Int32} (hd : decode M.2.1 pc = .ok (.iastore, 1)) (hw : w a = some (.inl (kC K 0, n, .inl f))) (hi : vp_in i n) {w' : Wd} (hw' : upW w a (.inl (kC K 0, n, .inl (upd f i.toNatClampNeg x))) = w') (kk : N K M d mc ms Q (pc + 1) L st w' sz cc ss) : N K M d mc ms Q pc L (.int x :: .int i :: .ref a :: st) w sz cc ss := by
  intro p e s m args below meth c H locs ls C hW hF hL hl
  subst hw'
  refine W.iast C.1 C.2.1 (hW.2.2 a _ hw).2 (((Kok.k C.2.2.2.2.2.2.2.2.1).2 0 _ rfl).1 n (fun j => .int (f j))) (fun q => by cases q) (by show ¬ (i < 0 ∨ (arrV _ _ _).slots.size ≤ _); rw [arrV_size]; exact hi) rfl rfl hd fun H1 e1 z oq => ?_
  refine kk p e s m args below meth c H1 _ ls C (hW.set hw ?_ z oq) (fr_app hF (hW.2.2 a _ hw).1) hL hl
  show H1[a]? = some (vp_cell _ _)
  rw [e1, vp_cell_i, vp_cell_i, arrV_store]
  congr 2
  funext q
  by_cases hq : q = i.toNatClampNeg
  · subst hq; simp [updV, upd]
  · simp [updV, upd, hq]
theorem N.last {a n : Nat} {f : Nat → Int64} {i : Int32} {x : Int64} (hd : decode M.2.1 pc = .ok (.lastore, 1)) (hw : w a = some (.inl (kC K 1, n, .inr (.inl f)))) (hi : vp_in i n) {w' : Wd} (hw' : upW w a (.inl (kC K 1, n, .inr (.inl (vp_updL f i.toNatClampNeg x)))) = w') (kk : N K M d mc ms Q (pc + 1) L st w' sz cc ss) : N K M d mc ms Q pc L (.long x :: .int i :: .ref a :: st) w sz cc ss := by
  intro p e s m args below meth c H locs ls C hW hF hL hl
  subst hw'
  refine W.last C.1 C.2.1 (hW.2.2 a _ hw).2 (((Kok.k C.2.2.2.2.2.2.2.2.1).2 1 _ rfl).1 n (fun j => .long (f j))) (fun q => by cases q) (by show ¬ (i < 0 ∨ (arrV _ _ _).slots.size ≤ _); rw [arrV_size]; exact hi) rfl rfl hd fun H1 e1 z oq => ?_
  refine kk p e s m args below meth c H1 _ ls C (hW.set hw ?_ z oq) (fr_app hF (hW.2.2 a _ hw).1) hL hl
  show H1[a]? = some (vp_cell _ _)
  rw [e1, vp_cell_l, vp_cell_l, arrV_store]
  congr 2
  funext q
  by_cases hq : q = i.toNatClampNeg
  · subst hq; simp [updV, vp_updL]
  · simp [updV, vp_updL, hq]
theorem N.alenI {a n : Nat} {f : Nat → Int32} {v : Int32} (hd : decode M.2.1 pc = .ok (.arraylength, 1)) (hw : w a = some (.inl (kC K 0, n, .inl f))) (hv : Int32.ofNat n = v) (kk : N K M d mc ms Q (pc + 1) L (.int v :: st) w sz cc ss) : N K M d mc ms Q pc L (.ref a :: st) w sz cc ss := by
  intro p e s m args below meth c H locs ls C hW hF hL hl
  exact va_alen C.1 C.2.1 (Kok.k C.2.2.2.2.2.2.2.2.1) (P1_ (hW.2.2 a _ hw).2) 0 0 rfl (ty := .int) rfl hv hd (kk p e s m args below meth c H locs ls C hW hF hL hl)
theorem N.alenL {a n : Nat} {f : Nat → Int64} {v : Int32} (hd : decode M.2.1 pc = .ok (.arraylength, 1)) (hw : w a = some (.inl (kC K 1, n, .inr (.inl f)))) (hv : Int32.ofNat n = v) (kk : N K M d mc ms Q (pc + 1) L (.int v :: st) w sz cc ss) : N K M d mc ms Q pc L (.ref a :: st) w sz cc ss := by
  intro p e s m args below meth c H locs ls C hW hF hL hl
  exact va_alen C.1 C.2.1 (Kok.k C.2.2.2.2.2.2.2.2.1) (P1_ (hW.2.2 a _ hw).2) 0 1 rfl (ty := .long) rfl hv hd (kk p e s m args below meth c H locs ls C hW hF hL hl)
-- returns
theorem N.iret {v : Int32} (hd : decode M.2.1 pc = .ok (.ireturn, 1)) (hr : M.2.2.2 = some .int) (hcc : cc ≤ mc) (hss : ss ≤ ms) (hQ : Q (some (.int v)) w sz) : N K M d mc ms Q pc L [.int v] w sz cc ss := by
  intro p e s m args below meth c H locs ls C hW hF hL hl
  exact W.widen hcc hss (W.iret C.1 C.2.1 (C.2.2.1.trans hr) (fun t ht _ => ⟨_, w, sz, rfl, hQ, by rw [ht]; exact hW⟩) hF hd C.2.2.2.1)
theorem N.zret {v : Int32} (hd : decode M.2.1 pc = .ok (.ireturn, 1)) {ty : FieldType} (hr : M.2.2.2 = some ty) (hn : narrow ty (.int v) = .int v) (hcc : cc ≤ mc) (hss : ss ≤ ms) (hQ : Q (some (.int v)) w sz) : N K M d mc ms Q pc L [.int v] w sz cc ss := by
  intro p e s m args below meth c H locs ls C hW hF hL hl
  exact W.widen hcc hss (W.zret C.1 C.2.1 (C.2.2.1.trans hr) hn (fun t ht _ => ⟨_, w, sz, rfl, hQ, by rw [ht]; exact hW⟩) hF hd C.2.2.2.1)
theorem N.lret {v : Int64} (hd : decode M.2.1 pc = .ok (.lreturn, 1)) (hr : M.2.2.2 = some .long) (hcc : cc ≤ mc) (hss : ss ≤ ms) (hQ : Q (some (.long v)) w sz) : N K M d mc ms Q pc L [.long v] w sz cc ss := by
  intro p e s m args below meth c H locs ls C hW hF hL hl
  exact W.widen hcc hss (W.lret C.1 C.2.1 (C.2.2.1.trans hr) (fun t ht _ => ⟨_, w, sz, rfl, hQ, by rw [ht]; exact hW⟩) hF hd C.2.2.2.1)
theorem N.vret (hd : decode M.2.1 pc = .ok (.return_, 1)) (hr : M.2.2.2 = none) (hcc : cc ≤ mc) (hss : ss ≤ ms) (hQ : Q none w sz) : N K M d mc ms Q pc L [] w sz cc ss := by
  intro p e s m args below meth c H locs ls C hW hF hL hl
  exact W.widen hcc hss (W.vret C.1 C.2.1 (C.2.2.1.trans hr) (fun t ht _ => ⟨_, w, sz, rfl, hQ, by rw [ht]; exact hW⟩) hF hd C.2.2.2.1)
theorem N.aret {a : Nat} {nm : String} (hd : decode M.2.1 pc = .ok (.areturn, 1)) (hr : M.2.2.2 = some (.object nm)) (hcc : cc ≤ mc) (hss : ss ≤ ms) (hQ : Q (some (.ref a)) w sz) : N K M d mc ms Q pc L [.ref a] w sz cc ss := by
  intro p e s m args below meth c H locs ls C hW hF hL hl
  exact W.widen hcc hss (W.aret C.1 C.2.1 (C.2.2.1.trans hr) (Or.inl ⟨_, rfl⟩) (Or.inr ⟨_, rfl⟩) (fun t ht _ => ⟨_, w, sz, rfl, hQ, by rw [ht]; exact hW⟩) hF hd C.2.2.2.1)
theorem N.objInit {idx a : Nat} (hd : decode M.2.1 pc = .ok (.invokespecial idx, 3)) (hk : Cond.methodLink M.1.cls idx Lib.objectInit ∈ gT) (hi : Cond.instanceMethod Lib.objectInit ∈ gT) (hc : Cond.code Lib.objectInit ⟨#[0xb1]⟩ 1 none ∈ gT) (h1 : 1 ≤ d) (hr : (st.map fun v => v.category).sum + 12 ≤ 40 * d) (kk : N K M d mc ms Q (pc + 3) L st w sz cc ss) : N K M d mc ms Q pc L (.ref a :: st) w sz cc ss := by
  intro p e s m args below meth c H locs ls C hW hF hL hl
  have hts := C.2.2.2.2.2.2.2.1
  exact W.objInit C.1 C.2.1 C.2.2.2.2.2.1 (hts _ (List.mem_cons_of_mem _ hk)) (hts _ (List.mem_cons_of_mem _ hi)) (hts _ (List.mem_cons_of_mem _ hc)) rfl (by rw [C.2.2.2.2.1]; exact hl.1) rfl hd h1 (by show 2 * 0 + _ + 12 ≤ 40 * d; omega) (kk p e s m args below meth c H locs ls C hW hF hL hl)
end FR
-- calls
theorem Pc_blind {K : Kx} {as : List Value} {w : Wd} {sz : Nat} : FrameBlind (Pc_ K as w sz) := fun a U g mk h => ⟨h.1, h.2.1.same rfl, h.2.2⟩
/-- of a method that is called: its code stands in the tables -/
def MC (n : Nat) (M' : Md) : Prop := Cond.code M'.1 M'.2.1 M'.2.2.1 M'.2.2.2 ∈ gT ∧ M'.2.2.1 ≤ 21 ∧ Cond.initialized M'.1.cls ∈ gT ∧ (M'.1.cls ≠ "java/lang/invoke/MethodHandle" ∧ M'.1.cls ≠ "java/lang/invoke/VarHandle" ∧ (parseMethodDescriptor M'.1.desc).map (fun d => d.parameters.length) = some n)
def MV (ci n : Nat) (M' : Md) : Prop := MC n M' ∧ (∃ (C : String) (T : u_T) (k : Nat), vwCl[ci]? = some (C, T, k) ∧ C = M'.1.cls) ∧ Cond.instanceMethod M'.1 ∈ gT ∧ Cond.selects M'.1.cls M'.1 M'.1 ∈ gT
def MS (n : Nat) (M' : Md) : Prop := MC n M' ∧ Cond.static M'.1 ∈ gT
def MI (n : Nat) (M' : Md) : Prop := MC n M' ∧ Cond.instanceMethod M'.1 ∈ gT ∧ M'.1.name = "<init>" ∧ M'.2.2.2 = none
def LK (own : String) (idx : Nat) (y : MethodName) : Prop := Cond.methodLink own idx y ∈ gT ∨ ∃ h, Cond.methodLinkNest own idx y h ∈ nT
theorem mws_good {M M' : Md} (h : Cond.code M'.1 M'.2.1 M'.2.2.1 M'.2.2.2 ∈ gT) : GoodIn (mws M) (mws M') := by
  intro x hx
  rcases List.mem_cons.mp hx with rfl | hx
  · exact ⟨List.mem_cons_of_mem _ h, (gT_good _ h).2⟩
  · exact ⟨List.mem_cons_of_mem _ hx, (gT_good _ hx).2⟩
section FC
variable {K : Kx} {M M' : Md} {d mc ms d' mc' ms' : Nat} {Q Q' : Qx} {pc idx a : Nat} {L : List (Option Value)} {st0 as rest : List Value} {w : Wd} {sz cc ss n : Nat}
theorem N.ofRun {p : Program} {e : Env} {s : State} {m : MethodId} {args : Array Value} {below : List Frame} {meth : Method} {c : Code} {H : Heap} {locs : List Loc} {ls : Array Slot} {ar : Array Value} (C : Cf K M p s m args meth c) (hF : ∀ q ∈ locs, fr K q.base) (hL : L.length = M.2.2.1) (hl : lv_has ls M.2.2.1 (lpr 0 L))
    (hr : va_Run p (kL K) e (rmOf d mc ms) s m args below meth c H locs cc ss mc' ms' (F0 m pc ls st0) rest (Qc_ K Q' ar) (fr K))
    (kk : ∀ r w' sz', Q' r w' sz' → N K M d mc ms Q (pc + 3) L (r.toList ++ rest) w' sz' (cc + mc') (ss + ms')) :
    W p (kL K) e (rmOf d mc ms) s m args below meth c H locs cc ss (MQ below (Qc_ K Q) args s mc ms (fr K)) (F0 m pc ls st0) := by
  intro T hT X
  obtain ⟨v, st₀, t, T', L', h0, X', hL', e1, e2, ⟨r, w', sz', hv, hq, hw⟩, stp⟩ := hr T hT X
  cases hv
  obtain ⟨t2, a1, b1⟩ := kk _ w' sz' hq p e s m args below meth c T'.heap (locs ++ L') ls C (by rw [e1]; exact hw) (fun q hq => by
    rcases List.mem_append.mp hq with h | h
    · exact hF q h
    · exact hL' q h) hL hl T' rfl X'
  exact ⟨t2, stp t2 a1, b1⟩
theorem rm_ok (hdd : d' + 1 ≤ d) (hm : M'.2.2.1 ≤ 21) : (rmOf d' mc' ms').frames + 1 ≤ (rmOf d mc ms).frames ∧ 8 + (M'.2.2.1 + 11) + (rmOf d' mc' ms').locals ≤ (rmOf d mc ms).locals := by
  refine ⟨hdd, ?_⟩
  show 8 + (M'.2.2.1 + 11) + 40 * d' ≤ 40 * d
  omega
theorem N.callV {ci : Nat} {fs : List Value} (hd : decode M.2.1 pc = .ok (.invokevirtual idx, 3)) (hk : LK M.1.cls idx M'.1) (hM : MV ci n M') (hS : Sp K M' d' mc' ms' (.ref a :: as) w sz Q') (hw : w a = some (.inr (ci, fs))) (hst : st0 = as.reverse ++ .ref a :: rest) (hn : as.length = n) (hr : (rest.map fun v => v.category).sum ≤ 8) (hdd : d' + 1 ≤ d) (hc : cc + mc' ≤ mc) (hs : ss + ms' ≤ ms)
    (kk : ∀ r w' sz', Q' r w' sz' → N K M d mc ms Q (pc + 3) L (r.toList ++ rest) w' sz' (cc + mc') (ss + ms')) : N K M d mc ms Q pc L st0 w sz cc ss := by
  intro p e s m args below meth c H locs ls C hW hF hL hl
  obtain ⟨⟨m1, m2, m3, m4⟩, ⟨C1, T1, k1, hc1, hC1⟩, m5, m6⟩ := hM
  have hts := C.2.2.2.2.2.2.2.1
  have ok : ∀ x ∈ gT, x.before args s = true := fun x hx => hts x (List.mem_cons_of_mem _ hx)
  have hK := Kok.k C.2.2.2.2.2.2.2.2.1
  have S : CallFix p m c M.2.1 M.2.2.1 s args (mws M) M.1.cls := ⟨C.1, C.2.1, C.2.2.2.2.1, C.2.2.2.2.2.1, hts⟩
  have hpre : PreV s H C1 a (Pc_ K (.ref a :: as) w sz) as := ⟨Pc_blind, va_recv hK (P1_ (hW.2.2 a _ hw).2) hc1 (q0 := 0) rfl, fun U hU hWm => ⟨rfl, C.2.2.2.2.2.2.2.2.1.warm hWm, by rw [hU]; exact hW⟩⟩
  rw [hC1] at hpre
  rcases hk with hk | ⟨h, hk⟩
  · exact N.ofRun C hF hL hl (va_runV S hS ⟨callB_of n hts (mws_good m1) rfl rfl rfl (ok _ m3) (ok _ hk) m4 (rm_ok hdd m2), ok _ m5, ok _ m6⟩ hpre rfl hn hl.1 hst (lv_room hr) hd ⟨hc, hs⟩) kk
  · exact N.ofRun C hF hL hl (va_runVN S hS ⟨va_cnB n hts (mws_good m1) rfl rfl rfl (C.2.2.2.2.2.2.2.2.1.2.1 _ hk) (ok _ m3) m4 (rm_ok hdd m2), ok _ m5, ok _ m6⟩ hpre rfl hn hl.1 hst (lv_room hr) hd ⟨hc, hs⟩) kk
theorem N.callS (hd : decode M.2.1 pc = .ok (.invokestatic idx, 3)) (hk : LK M.1.cls idx M'.1) (hM : MS n M') (hS : Sp K M' d' mc' ms' as w sz Q') (hst : st0 = as.reverse ++ rest) (hn : as.length = n) (hr : (rest.map fun v => v.category).sum ≤ 8) (hdd : d' + 1 ≤ d) (hc : cc + mc' ≤ mc) (hs : ss + ms' ≤ ms)
    (kk : ∀ r w' sz', Q' r w' sz' → N K M d mc ms Q (pc + 3) L (r.toList ++ rest) w' sz' (cc + mc') (ss + ms')) : N K M d mc ms Q pc L st0 w sz cc ss := by
  intro p e s m args below meth c H locs ls C hW hF hL hl
  obtain ⟨⟨m1, m2, m3, m4⟩, m5⟩ := hM
  have hts := C.2.2.2.2.2.2.2.1
  have ok : ∀ x ∈ gT, x.before args s = true := fun x hx => hts x (List.mem_cons_of_mem _ hx)
  have S : CallFix p m c M.2.1 M.2.2.1 s args (mws M) M.1.cls := ⟨C.1, C.2.1, C.2.2.2.2.1, C.2.2.2.2.2.1, hts⟩
  have hpre : PreS s H (Pc_ K as w sz) as := ⟨Pc_blind, fun U hU hWm => ⟨rfl, C.2.2.2.2.2.2.2.2.1.warm hWm, by rw [hU]; exact hW⟩⟩
  rcases hk with hk | ⟨h, hk⟩
  · exact N.ofRun C hF hL hl (va_runS S hS ⟨callB_of n hts (mws_good m1) rfl rfl rfl (ok _ m3) (ok _ hk) m4 (rm_ok hdd m2), ok _ m5⟩ hpre rfl hn hl.1 hst (lv_room hr) hd ⟨hc, hs⟩) kk
  · exact N.ofRun C hF hL hl (va_runSN S hS ⟨va_cnB n hts (mws_good m1) rfl rfl rfl (C.2.2.2.2.2.2.2.2.1.2.1 _ hk) (ok _ m3) m4 (rm_ok hdd m2), ok _ m5, trivial⟩ hpre rfl hn hl.1 hst (lv_room hr) hd ⟨hc, hs⟩) kk
theorem N.callI (hd : decode M.2.1 pc = .ok (.invokespecial idx, 3)) (hk : LK M.1.cls idx M'.1) (hM : MI n M') (hS : Sp K M' d' mc' ms' (.ref a :: as) w sz Q') (hst : st0 = as.reverse ++ .ref a :: rest) (hn : as.length = n) (hr : (rest.map fun v => v.category).sum ≤ 8) (hdd : d' + 1 ≤ d) (hc : cc + mc' ≤ mc) (hs : ss + ms' ≤ ms)
    (kk : ∀ r w' sz', Q' r w' sz' → N K M d mc ms Q (pc + 3) L (r.toList ++ rest) w' sz' (cc + mc') (ss + ms')) : N K M d mc ms Q pc L st0 w sz cc ss := by
  intro p e s m args below meth c H locs ls C hW hF hL hl
  obtain ⟨⟨m1, m2, m3, m4⟩, m5, m6, m7⟩ := hM
  have hts := C.2.2.2.2.2.2.2.1
  have ok : ∀ x ∈ gT, x.before args s = true := fun x hx => hts x (List.mem_cons_of_mem _ hx)
  have S : CallFix p m c M.2.1 M.2.2.1 s args (mws M) M.1.cls := ⟨C.1, C.2.1, C.2.2.2.2.1, C.2.2.2.2.2.1, hts⟩
  have hpre : PreS s H (Pc_ K (.ref a :: as) w sz) (.ref a :: as) := ⟨Pc_blind, fun U hU hWm => ⟨rfl, C.2.2.2.2.2.2.2.2.1.warm hWm, by rw [hU]; exact hW⟩⟩
  have hmw : mws M' = Cond.code M'.1 M'.2.1 M'.2.2.1 none :: gT := by unfold mws; rw [m7]
  rcases hk with hk | ⟨h, hk⟩
  · exact N.ofRun C hF hL hl (va_runI S hS ⟨callB_of n hts (mws_good m1) hmw rfl rfl (ok _ m3) (ok _ hk) m4 (rm_ok hdd m2), m6, ok _ m5⟩ hpre rfl hn hl.1 hst (lv_room hr) hd ⟨hc, hs⟩) kk
  · exact N.ofRun C hF hL hl (va_runIN S hS ⟨va_cnB n hts (mws_good m1) hmw rfl rfl (C.2.2.2.2.2.2.2.2.1.2.1 _ hk) (ok _ m3) m4 (rm_ok hdd m2), m6, ok _ m5⟩ hpre rfl hn hl.1 hst (lv_room hr) hd ⟨hc, hs⟩) kk
end FC
