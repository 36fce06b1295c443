/-! regions: a block of cells from an address on -/
section SW
variable {K : Kx} {M : Md} {d mc ms : Nat} {Q : Qx} {pc : Nat} {L : List (Option Value)} {st : List Value} {w : Wd} {sz cc ss : Nat}
theorem N.swc {x : Int32} (z : Int32) (k1 : x = z → N K M d mc ms Q pc L (.int x :: st) w sz cc ss) (k2 : ¬ x = z → N K M d mc ms Q pc L (.int x :: st) w sz cc ss) : N K M d mc ms Q pc L (.int x :: st) w sz cc ss := by
  by_cases h : x = z
  · exact k1 h
  · exact k2 h
end SW
/-- the same for a method of a class of the JDK that isn't plain -/
theorem Sp.ofNF {K : Kx} {M : Md} {d mc ms : Nat} {Q : Qx} {as : List Value} {w : Wd} {sz : Nat} (L : List (Option Value)) (hy : plainFor M.1 = true) (hL : L.length = M.2.2.1) (ha : lpr 0 L = lv_args 0 as) (hn : (lg_sl as).length ≤ M.2.2.1) (k : N K M d mc ms Q 0 L [] w sz 0 0) : Sp K M d mc ms as w sz Q := by
  refine va_MetF (cc := M.2.1) (maxL := M.2.2.1) (ret := M.2.2.2) hy rfl ?_
  intro p e s m args below meth c s₁ B hml hv
  obtain ⟨rfl, hC, hW⟩ := hv
  have hts := atoms_spec (ws := mws M) B.pre
  have hown : s.vm.findClass M.1.cls = some m.cls := findClass_of_methodNamed B.named
  have hl := lv_entry as (n := M.2.2.1) hn
  rw [lg_entry_eq]
  generalize (lg_sl as ++ List.replicate (M.2.2.1 - (lg_sl as).length) Slot.unset).toArray = ls at hl ⊢
  exact k p e s m as.toArray below meth c s.heap [] ls ⟨B.exec, B.bytes, B.returns, B.notSynchronized, hml, hown, (name_of_methodNamed B.named B.method).1, hts, hC, hW.2.1⟩ hW (fun _ h => by cases h) hL (by rw [ha]; exact hl)
theorem sw_ne {x k : Int32} {z : Int} (h : ¬ x = k) (hk : k.toInt = z) : x.toInt ≠ z := fun e => h (Int32.toInt_inj.mp (e.trans hk.symm))
def reg (w : Wd) (a : Nat) (c : Nat → Option va_E) : Wd := fun q => if a ≤ q then (match c (q - a) with | some e => some e | none => w q) else w q
theorem reg_at {w : Wd} {a k : Nat} {c : Nat → Option va_E} {e : va_E} (h : c k = some e) : reg w a c (a + k) = some e := by
  unfold reg
  rw [if_pos (Nat.le_add_right a k), Nat.add_sub_cancel_left, h]
theorem reg_up {w : Wd} {a k : Nat} {c c' : Nat → Option va_E} {e : va_E} (h : ∀ j, c' j = if j = k then some e else c j) : upW (reg w a c) (a + k) e = reg w a c' := by
  funext q
  unfold upW reg
  by_cases hq : q = a + k
  · subst hq
    rw [if_pos rfl, if_pos (Nat.le_add_right a k), Nat.add_sub_cancel_left, h k, if_pos rfl]
  · rw [if_neg hq]
    by_cases hl : a ≤ q
    · rw [if_pos hl, if_pos hl, h (q - a), if_neg (by omega)]
    · rw [if_neg hl, if_neg hl]
/-- a block inside a block: put in again as it was -/
theorem reg_sub {w : Wd} {a o : Nat} {c c2 : Nat → Option va_E} (h : ∀ k e, c2 k = some e → c (o + k) = some e) : reg w a c = reg (reg w a c) (a + o) c2 := by
  funext q
  unfold reg
  by_cases hl : a + o ≤ q
  · rw [if_pos hl, if_pos (by omega)]
    cases h2 : c2 (q - (a + o)) with
    | none => rfl
    | some e =>
      have := h _ _ h2
      rw [show o + (q - (a + o)) = q - a by omega] at this
      rw [this]
  · rw [if_neg hl]
/-- a block inside a block, put in anew -/
theorem reg_rep {w : Wd} {a o : Nat} {c c2 c3 : Nat → Option va_E} (h1 : ∀ k e, c2 k = some e → c3 (o + k) = some e) (h2 : ∀ j, (j < o ∨ c2 (j - o) = none) → c3 j = c j) : reg (reg w a c) (a + o) c2 = reg w a c3 := by
  funext q
  unfold reg
  by_cases hl : a + o ≤ q
  · rw [if_pos hl, if_pos (show a ≤ q by omega)]
    cases hc : c2 (q - (a + o)) with
    | none =>
      have := h2 (q - a) (Or.inr (by rw [show q - a - o = q - (a + o) by omega]; exact hc))
      rw [this, if_pos (show a ≤ q by omega)]
    | some e =>
      have := h1 _ _ hc
      rw [show o + (q - (a + o)) = q - a by omega] at this
      rw [this, if_pos (show a ≤ q by omega)]
  · rw [if_neg hl]
    by_cases ha : a ≤ q
    · rw [if_pos ha, if_pos ha, h2 (q - a) (Or.inl (by omega))]
    · rw [if_neg ha, if_neg ha]
def upA (A : Nat → Nat → Int32) (k : Nat) (f : Nat → Int32) : Nat → Nat → Int32 := fun j => if j = k then f else A j
/-- what a rink holds: whole numbers (players, ice, coming, left, third, half, theirs, keeper, second, minus, ours, against, seed) and rows (kinds, skills, extras, tired, lines) -/
abbrev CV : Type := (Nat → Int32) × (Nat → Nat → Int32)
def rF (b : Nat) (v : CV) : List Value := [.ref (b + 1), .ref (b + 2), .ref (b + 3), .ref (b + 4), .ref (b + 5), .int (v.1 0), .int (v.1 1), .int (v.1 2), .int (v.1 3), .int (v.1 4), .int (v.1 5), .int (v.1 6), .int (v.1 7), .int (v.1 8), .int (v.1 9), .int (v.1 10), .int (v.1 11), .int (v.1 12)]
def rC (K : Kx) (b : Nat) (v : CV) : Nat → Option va_E
  | 0 => some (.inr (1, rF b v))
  | 1 => some (.inl (kC K 0, 10, .inl (v.2 0)))
  | 2 => some (.inl (kC K 0, 10, .inl (v.2 1)))
  | 3 => some (.inl (kC K 0, 10, .inl (v.2 2)))
  | 4 => some (.inl (kC K 0, 10, .inl (v.2 3)))
  | 5 => some (.inl (kC K 0, 4, .inl (v.2 4)))
  | _ => none
abbrev putR (K : Kx) (w : Wd) (b : Nat) (v : CV) : Wd := reg w b (rC K b v)
section RL
variable {K : Kx} {w : Wd} {b : Nat} {v : CV}
theorem rO : putR K w b v b = some (.inr (1, rF b v)) := reg_at (k := 0) rfl
theorem rA0 : putR K w b v (b + 1) = some (.inl (kC K 0, 10, .inl (v.2 0))) := reg_at (k := 1) rfl
theorem rS0 {i : Nat} {x : Int32} : upW (putR K w b v) (b + 1) (.inl (kC K 0, 10, .inl (upd (v.2 0) i x))) = putR K w b (v.1, upA v.2 0 (upd (v.2 0) i x)) := by
  refine reg_up (k := 1) (fun q => ?_)
  match q with
  | 0 => simp [rC, rF, upA]
  | 1 => simp [rC, upA]
  | 2 => simp [rC, rF, upA]
  | 3 => simp [rC, rF, upA]
  | 4 => simp [rC, rF, upA]
  | 5 => simp [rC, rF, upA]
  | n + 6 => simp [rC]
theorem rK0 {f : Nat → Int32} : upW (putR K w b v) (b + 1) (.inl (kC K 0, 10, .inl f)) = putR K w b (v.1, upA v.2 0 f) := by
  refine reg_up (k := 1) (fun q => ?_)
  match q with
  | 0 => simp [rC, rF, upA]
  | 1 => simp [rC, upA]
  | 2 => simp [rC, rF, upA]
  | 3 => simp [rC, rF, upA]
  | 4 => simp [rC, rF, upA]
  | 5 => simp [rC, rF, upA]
  | n + 6 => simp [rC]
theorem rA1 : putR K w b v (b + 2) = some (.inl (kC K 0, 10, .inl (v.2 1))) := reg_at (k := 2) rfl
theorem rS1 {i : Nat} {x : Int32} : upW (putR K w b v) (b + 2) (.inl (kC K 0, 10, .inl (upd (v.2 1) i x))) = putR K w b (v.1, upA v.2 1 (upd (v.2 1) i x)) := by
  refine reg_up (k := 2) (fun q => ?_)
  match q with
  | 0 => simp [rC, rF, upA]
  | 1 => simp [rC, rF, upA]
  | 2 => simp [rC, upA]
  | 3 => simp [rC, rF, upA]
  | 4 => simp [rC, rF, upA]
  | 5 => simp [rC, rF, upA]
  | n + 6 => simp [rC]
theorem rK1 {f : Nat → Int32} : upW (putR K w b v) (b + 2) (.inl (kC K 0, 10, .inl f)) = putR K w b (v.1, upA v.2 1 f) := by
  refine reg_up (k := 2) (fun q => ?_)
  match q with
  | 0 => simp [rC, rF, upA]
  | 1 => simp [rC, rF, upA]
  | 2 => simp [rC, upA]
  | 3 => simp [rC, rF, upA]
  | 4 => simp [rC, rF, upA]
  | 5 => simp [rC, rF, upA]
  | n + 6 => simp [rC]
theorem rA2 : putR K w b v (b + 3) = some (.inl (kC K 0, 10, .inl (v.2 2))) := reg_at (k := 3) rfl
theorem rS2 {i : Nat} {x : Int32} : upW (putR K w b v) (b + 3) (.inl (kC K 0, 10, .inl (upd (v.2 2) i x))) = putR K w b (v.1, upA v.2 2 (upd (v.2 2) i x)) := by
  refine reg_up (k := 3) (fun q => ?_)
  match q with
  | 0 => simp [rC, rF, upA]
  | 1 => simp [rC, rF, upA]
  | 2 => simp [rC, rF, upA]
  | 3 => simp [rC, upA]
  | 4 => simp [rC, rF, upA]
  | 5 => simp [rC, rF, upA]
  | n + 6 => simp [rC]
theorem rK2 {f : Nat → Int32} : upW (putR K w b v) (b + 3) (.inl (kC K 0, 10, .inl f)) = putR K w b (v.1, upA v.2 2 f) := by
  refine reg_up (k := 3) (fun q => ?_)
  match q with
  | 0 => simp [rC, rF, upA]
  | 1 => simp [rC, rF, upA]
  | 2 => simp [rC, rF, upA]
  | 3 => simp [rC, upA]
  | 4 => simp [rC, rF, upA]
  | 5 => simp [rC, rF, upA]
  | n + 6 => simp [rC]
theorem rA3 : putR K w b v (b + 4) = some (.inl (kC K 0, 10, .inl (v.2 3))) := reg_at (k := 4) rfl
theorem rS3 {i : Nat} {x : Int32} : upW (putR K w b v) (b + 4) (.inl (kC K 0, 10, .inl (upd (v.2 3) i x))) = putR K w b (v.1, upA v.2 3 (upd (v.2 3) i x)) := by
  refine reg_up (k := 4) (fun q => ?_)
  match q with
  | 0 => simp [rC, rF, upA]
  | 1 => simp [rC, rF, upA]
  | 2 => simp [rC, rF, upA]
  | 3 => simp [rC, rF, upA]
  | 4 => simp [rC, upA]
  | 5 => simp [rC, rF, upA]
  | n + 6 => simp [rC]
theorem rK3 {f : Nat → Int32} : upW (putR K w b v) (b + 4) (.inl (kC K 0, 10, .inl f)) = putR K w b (v.1, upA v.2 3 f) := by
  refine reg_up (k := 4) (fun q => ?_)
  match q with
  | 0 => simp [rC, rF, upA]
  | 1 => simp [rC, rF, upA]
  | 2 => simp [rC, rF, upA]
  | 3 => simp [rC, rF, upA]
  | 4 => simp [rC, upA]
  | 5 => simp [rC, rF, upA]
  | n + 6 => simp [rC]
theorem rA4 : putR K w b v (b + 5) = some (.inl (kC K 0, 4, .inl (v.2 4))) := reg_at (k := 5) rfl
theorem rS4 {i : Nat} {x : Int32} : upW (putR K w b v) (b + 5) (.inl (kC K 0, 4, .inl (upd (v.2 4) i x))) = putR K w b (v.1, upA v.2 4 (upd (v.2 4) i x)) := by
  refine reg_up (k := 5) (fun q => ?_)
  match q with
  | 0 => simp [rC, rF, upA]
  | 1 => simp [rC, rF, upA]
  | 2 => simp [rC, rF, upA]
  | 3 => simp [rC, rF, upA]
  | 4 => simp [rC, rF, upA]
  | 5 => simp [rC, upA]
  | n + 6 => simp [rC]
theorem rK4 {f : Nat → Int32} : upW (putR K w b v) (b + 5) (.inl (kC K 0, 4, .inl f)) = putR K w b (v.1, upA v.2 4 f) := by
  refine reg_up (k := 5) (fun q => ?_)
  match q with
  | 0 => simp [rC, rF, upA]
  | 1 => simp [rC, rF, upA]
  | 2 => simp [rC, rF, upA]
  | 3 => simp [rC, rF, upA]
  | 4 => simp [rC, rF, upA]
  | 5 => simp [rC, upA]
  | n + 6 => simp [rC]
theorem rP0 {x : Int32} : upW (putR K w b v) b (.inr (1, (rF b v).set 5 (.int x))) = putR K w b (upd v.1 0 x, v.2) := by
  refine reg_up (k := 0) (fun q => ?_)
  match q with
  | 0 => simp [rC, rF, upd]
  | 1 => simp [rC, rF, upd]
  | 2 => simp [rC, rF, upd]
  | 3 => simp [rC, rF, upd]
  | 4 => simp [rC, rF, upd]
  | 5 => simp [rC, rF, upd]
  | n + 6 => simp [rC]
theorem rP1 {x : Int32} : upW (putR K w b v) b (.inr (1, (rF b v).set 6 (.int x))) = putR K w b (upd v.1 1 x, v.2) := by
  refine reg_up (k := 0) (fun q => ?_)
  match q with
  | 0 => simp [rC, rF, upd]
  | 1 => simp [rC, rF, upd]
  | 2 => simp [rC, rF, upd]
  | 3 => simp [rC, rF, upd]
  | 4 => simp [rC, rF, upd]
  | 5 => simp [rC, rF, upd]
  | n + 6 => simp [rC]
theorem rP2 {x : Int32} : upW (putR K w b v) b (.inr (1, (rF b v).set 7 (.int x))) = putR K w b (upd v.1 2 x, v.2) := by
  refine reg_up (k := 0) (fun q => ?_)
  match q with
  | 0 => simp [rC, rF, upd]
  | 1 => simp [rC, rF, upd]
  | 2 => simp [rC, rF, upd]
  | 3 => simp [rC, rF, upd]
  | 4 => simp [rC, rF, upd]
  | 5 => simp [rC, rF, upd]
  | n + 6 => simp [rC]
theorem rP3 {x : Int32} : upW (putR K w b v) b (.inr (1, (rF b v).set 8 (.int x))) = putR K w b (upd v.1 3 x, v.2) := by
  refine reg_up (k := 0) (fun q => ?_)
  match q with
  | 0 => simp [rC, rF, upd]
  | 1 => simp [rC, rF, upd]
  | 2 => simp [rC, rF, upd]
  | 3 => simp [rC, rF, upd]
  | 4 => simp [rC, rF, upd]
  | 5 => simp [rC, rF, upd]
  | n + 6 => simp [rC]
theorem rP4 {x : Int32} : upW (putR K w b v) b (.inr (1, (rF b v).set 9 (.int x))) = putR K w b (upd v.1 4 x, v.2) := by
  refine reg_up (k := 0) (fun q => ?_)
  match q with
  | 0 => simp [rC, rF, upd]
  | 1 => simp [rC, rF, upd]
  | 2 => simp [rC, rF, upd]
  | 3 => simp [rC, rF, upd]
  | 4 => simp [rC, rF, upd]
  | 5 => simp [rC, rF, upd]
  | n + 6 => simp [rC]
theorem rP5 {x : Int32} : upW (putR K w b v) b (.inr (1, (rF b v).set 10 (.int x))) = putR K w b (upd v.1 5 x, v.2) := by
  refine reg_up (k := 0) (fun q => ?_)
  match q with
  | 0 => simp [rC, rF, upd]
  | 1 => simp [rC, rF, upd]
  | 2 => simp [rC, rF, upd]
  | 3 => simp [rC, rF, upd]
  | 4 => simp [rC, rF, upd]
  | 5 => simp [rC, rF, upd]
  | n + 6 => simp [rC]
theorem rP6 {x : Int32} : upW (putR K w b v) b (.inr (1, (rF b v).set 11 (.int x))) = putR K w b (upd v.1 6 x, v.2) := by
  refine reg_up (k := 0) (fun q => ?_)
  match q with
  | 0 => simp [rC, rF, upd]
  | 1 => simp [rC, rF, upd]
  | 2 => simp [rC, rF, upd]
  | 3 => simp [rC, rF, upd]
  | 4 => simp [rC, rF, upd]
  | 5 => simp [rC, rF, upd]
  | n + 6 => simp [rC]
theorem rP7 {x : Int32} : upW (putR K w b v) b (.inr (1, (rF b v).set 12 (.int x))) = putR K w b (upd v.1 7 x, v.2) := by
  refine reg_up (k := 0) (fun q => ?_)
  match q with
  | 0 => simp [rC, rF, upd]
  | 1 => simp [rC, rF, upd]
  | 2 => simp [rC, rF, upd]
  | 3 => simp [rC, rF, upd]
  | 4 => simp [rC, rF, upd]
  | 5 => simp [rC, rF, upd]
  | n + 6 => simp [rC]
theorem rP8 {x : Int32} : upW (putR K w b v) b (.inr (1, (rF b v).set 13 (.int x))) = putR K w b (upd v.1 8 x, v.2) := by
  refine reg_up (k := 0) (fun q => ?_)
  match q with
  | 0 => simp [rC, rF, upd]
  | 1 => simp [rC, rF, upd]
  | 2 => simp [rC, rF, upd]
  | 3 => simp [rC, rF, upd]
  | 4 => simp [rC, rF, upd]
  | 5 => simp [rC, rF, upd]
  | n + 6 => simp [rC]
theorem rP9 {x : Int32} : upW (putR K w b v) b (.inr (1, (rF b v).set 14 (.int x))) = putR K w b (upd v.1 9 x, v.2) := by
  refine reg_up (k := 0) (fun q => ?_)
  match q with
  | 0 => simp [rC, rF, upd]
  | 1 => simp [rC, rF, upd]
  | 2 => simp [rC, rF, upd]
  | 3 => simp [rC, rF, upd]
  | 4 => simp [rC, rF, upd]
  | 5 => simp [rC, rF, upd]
  | n + 6 => simp [rC]
theorem rP10 {x : Int32} : upW (putR K w b v) b (.inr (1, (rF b v).set 15 (.int x))) = putR K w b (upd v.1 10 x, v.2) := by
  refine reg_up (k := 0) (fun q => ?_)
  match q with
  | 0 => simp [rC, rF, upd]
  | 1 => simp [rC, rF, upd]
  | 2 => simp [rC, rF, upd]
  | 3 => simp [rC, rF, upd]
  | 4 => simp [rC, rF, upd]
  | 5 => simp [rC, rF, upd]
  | n + 6 => simp [rC]
theorem rP11 {x : Int32} : upW (putR K w b v) b (.inr (1, (rF b v).set 16 (.int x))) = putR K w b (upd v.1 11 x, v.2) := by
  refine reg_up (k := 0) (fun q => ?_)
  match q with
  | 0 => simp [rC, rF, upd]
  | 1 => simp [rC, rF, upd]
  | 2 => simp [rC, rF, upd]
  | 3 => simp [rC, rF, upd]
  | 4 => simp [rC, rF, upd]
  | 5 => simp [rC, rF, upd]
  | n + 6 => simp [rC]
theorem rP12 {x : Int32} : upW (putR K w b v) b (.inr (1, (rF b v).set 17 (.int x))) = putR K w b (upd v.1 12 x, v.2) := by
  refine reg_up (k := 0) (fun q => ?_)
  match q with
  | 0 => simp [rC, rF, upd]
  | 1 => simp [rC, rF, upd]
  | 2 => simp [rC, rF, upd]
  | 3 => simp [rC, rF, upd]
  | 4 => simp [rC, rF, upd]
  | 5 => simp [rC, rF, upd]
  | n + 6 => simp [rC]
end RL
