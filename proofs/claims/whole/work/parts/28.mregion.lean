/-! the model's object: the same core as a rink; whole numbers (tapeSize, at, token, from, figures, fault, statements, sumOurs, sumAgainst, bestGains, anySpells); rows (shelf, rowSort, rowSize, shown, tape, refused, told, spells, bestSpells); the rows of the shelves; moved; kept; tried -/
abbrev ME : Type := (Nat → Int32) × (Nat → Nat → Int32) × (Nat → Nat → Int64) × (Nat → Int64) × Option Nat × Option Nat
abbrev MX : Type := CV × ME
def rwRef (b : Nat) : Nat → Option Nat := fun i => if i < 8 then some (b + (5 + i)) else none
def mF (b : Nat) (y : MX) : List Value := [.ref (b + 1), .ref (b + 2), .ref (b + 3), .ref (b + 4), .ref (b + 13), .ref (b + 14), .ref (b + 15), .int (y.2.1 0), .ref (b + 16), .int (y.1.1 0), .ref (b + 17), .ref (b + 18), .ref (b + 19), .ref (b + 20), .ref (b + 21), .int (y.1.1 1), .int (y.1.1 2), .int (y.1.1 3), .int (y.1.1 4), .int (y.1.1 5), .int (y.1.1 6), .int (y.1.1 7), .int (y.1.1 8), .int (y.1.1 9), .int (y.1.1 10), .int (y.1.1 11), .int (y.1.1 12), va_rf y.2.2.2.2.2.1, va_rf y.2.2.2.2.2.2, .int (y.2.1 1), .int (y.2.1 2), .int (y.2.1 3), .int (y.2.1 4), .int (y.2.1 5), .ref (b + 22), .int (y.2.1 6), .int (y.2.1 7), .int (y.2.1 8), .ref (b + 23), .ref (b + 24), .int (y.2.1 9), .int (y.2.1 10)]
def mC (K : Kx) (b : Nat) (y : MX) : Nat → Option va_E
  | 0 => some (.inr (5, mF b y))
  | 1 => some (.inl (kC K 0, 8, .inl (y.2.2.1 0)))
  | 2 => some (.inl (kC K 0, 8, .inl (y.2.2.1 1)))
  | 3 => some (.inl (kC K 0, 8, .inl (y.2.2.1 2)))
  | 4 => some (.inl (kC K 3, 8, .inr (.inr (.inr (.inr (rwRef b))))))
  | 5 => some (.inl (kC K 1, 40, .inr (.inl (y.2.2.2.1 0))))
  | 6 => some (.inl (kC K 1, 40, .inr (.inl (y.2.2.2.1 1))))
  | 7 => some (.inl (kC K 1, 40, .inr (.inl (y.2.2.2.1 2))))
  | 8 => some (.inl (kC K 1, 40, .inr (.inl (y.2.2.2.1 3))))
  | 9 => some (.inl (kC K 1, 40, .inr (.inl (y.2.2.2.1 4))))
  | 10 => some (.inl (kC K 1, 40, .inr (.inl (y.2.2.2.1 5))))
  | 11 => some (.inl (kC K 1, 40, .inr (.inl (y.2.2.2.1 6))))
  | 12 => some (.inl (kC K 1, 40, .inr (.inl (y.2.2.2.1 7))))
  | 13 => some (.inl (kC K 1, 40, .inr (.inl y.2.2.2.2.1)))
  | 14 => some (.inl (kC K 0, 8, .inl (y.2.2.1 3)))
  | 15 => some (.inl (kC K 0, 250, .inl (y.2.2.1 4)))
  | 16 => some (.inl (kC K 0, 8, .inl (y.2.2.1 5)))
  | 17 => some (.inl (kC K 0, 10, .inl (y.1.2 0)))
  | 18 => some (.inl (kC K 0, 10, .inl (y.1.2 1)))
  | 19 => some (.inl (kC K 0, 10, .inl (y.1.2 2)))
  | 20 => some (.inl (kC K 0, 10, .inl (y.1.2 3)))
  | 21 => some (.inl (kC K 0, 4, .inl (y.1.2 4)))
  | 22 => some (.inl (kC K 0, 3, .inl (y.2.2.1 6)))
  | 23 => some (.inl (kC K 0, 4, .inl (y.2.2.1 7)))
  | 24 => some (.inl (kC K 0, 4, .inl (y.2.2.1 8)))
  | _ => none
abbrev putM (K : Kx) (w : Wd) (b : Nat) (y : MX) : Wd := reg w b (mC K b y)
def upL (A : Nat → Nat → Int64) (k : Nat) (f : Nat → Int64) : Nat → Nat → Int64 := fun j => if j = k then f else A j
section ML
variable {K : Kx} {w : Wd} {b : Nat} {v : CV} {E : ME} {x : Int32}
theorem mO : putM K w b (v, E) b = some (.inr (5, mF b (v, E))) := reg_at (k := 0) rfl
theorem mW : putM K w b (v, E) (b + 4) = some (.inl (kC K 3, 8, .inr (.inr (.inr (.inr (rwRef b)))))) := reg_at (k := 4) rfl
theorem mMv : putM K w b (v, E) (b + 13) = some (.inl (kC K 1, 40, .inr (.inl E.2.2.2.1))) := reg_at (k := 13) rfl
theorem mA0 : putM K w b (v, E) (b + 17) = some (.inl (kC K 0, 10, .inl (v.2 0))) := reg_at (k := 17) rfl
theorem mK0 {f : Nat → Int32} : upW (putM K w b (v, E)) (b + 17) (.inl (kC K 0, 10, .inl f)) = putM K w b ((v.1, upA v.2 0 f), E) := by
  refine reg_up (k := 17) (fun q => ?_)
  match q with
  | 0 => rfl
  | 1 => rfl
  | 2 => rfl
  | 3 => rfl
  | 4 => rfl
  | 5 => rfl
  | 6 => rfl
  | 7 => rfl
  | 8 => rfl
  | 9 => rfl
  | 10 => rfl
  | 11 => rfl
  | 12 => rfl
  | 13 => rfl
  | 14 => rfl
  | 15 => rfl
  | 16 => rfl
  | 17 => rfl
  | 18 => rfl
  | 19 => rfl
  | 20 => rfl
  | 21 => rfl
  | 22 => rfl
  | 23 => rfl
  | 24 => rfl
  | n + 25 => simp [mC]
theorem mA1 : putM K w b (v, E) (b + 18) = some (.inl (kC K 0, 10, .inl (v.2 1))) := reg_at (k := 18) rfl
theorem mK1 {f : Nat → Int32} : upW (putM K w b (v, E)) (b + 18) (.inl (kC K 0, 10, .inl f)) = putM K w b ((v.1, upA v.2 1 f), E) := by
  refine reg_up (k := 18) (fun q => ?_)
  match q with
  | 0 => rfl
  | 1 => rfl
  | 2 => rfl
  | 3 => rfl
  | 4 => rfl
  | 5 => rfl
  | 6 => rfl
  | 7 => rfl
  | 8 => rfl
  | 9 => rfl
  | 10 => rfl
  | 11 => rfl
  | 12 => rfl
  | 13 => rfl
  | 14 => rfl
  | 15 => rfl
  | 16 => rfl
  | 17 => rfl
  | 18 => rfl
  | 19 => rfl
  | 20 => rfl
  | 21 => rfl
  | 22 => rfl
  | 23 => rfl
  | 24 => rfl
  | n + 25 => simp [mC]
theorem mA2 : putM K w b (v, E) (b + 19) = some (.inl (kC K 0, 10, .inl (v.2 2))) := reg_at (k := 19) rfl
theorem mK2 {f : Nat → Int32} : upW (putM K w b (v, E)) (b + 19) (.inl (kC K 0, 10, .inl f)) = putM K w b ((v.1, upA v.2 2 f), E) := by
  refine reg_up (k := 19) (fun q => ?_)
  match q with
  | 0 => rfl
  | 1 => rfl
  | 2 => rfl
  | 3 => rfl
  | 4 => rfl
  | 5 => rfl
  | 6 => rfl
  | 7 => rfl
  | 8 => rfl
  | 9 => rfl
  | 10 => rfl
  | 11 => rfl
  | 12 => rfl
  | 13 => rfl
  | 14 => rfl
  | 15 => rfl
  | 16 => rfl
  | 17 => rfl
  | 18 => rfl
  | 19 => rfl
  | 20 => rfl
  | 21 => rfl
  | 22 => rfl
  | 23 => rfl
  | 24 => rfl
  | n + 25 => simp [mC]
theorem mA3 : putM K w b (v, E) (b + 20) = some (.inl (kC K 0, 10, .inl (v.2 3))) := reg_at (k := 20) rfl
theorem mK3 {f : Nat → Int32} : upW (putM K w b (v, E)) (b + 20) (.inl (kC K 0, 10, .inl f)) = putM K w b ((v.1, upA v.2 3 f), E) := by
  refine reg_up (k := 20) (fun q => ?_)
  match q with
  | 0 => rfl
  | 1 => rfl
  | 2 => rfl
  | 3 => rfl
  | 4 => rfl
  | 5 => rfl
  | 6 => rfl
  | 7 => rfl
  | 8 => rfl
  | 9 => rfl
  | 10 => rfl
  | 11 => rfl
  | 12 => rfl
  | 13 => rfl
  | 14 => rfl
  | 15 => rfl
  | 16 => rfl
  | 17 => rfl
  | 18 => rfl
  | 19 => rfl
  | 20 => rfl
  | 21 => rfl
  | 22 => rfl
  | 23 => rfl
  | 24 => rfl
  | n + 25 => simp [mC]
theorem mA4 : putM K w b (v, E) (b + 21) = some (.inl (kC K 0, 4, .inl (v.2 4))) := reg_at (k := 21) rfl
theorem mK4 {f : Nat → Int32} : upW (putM K w b (v, E)) (b + 21) (.inl (kC K 0, 4, .inl f)) = putM K w b ((v.1, upA v.2 4 f), E) := by
  refine reg_up (k := 21) (fun q => ?_)
  match q with
  | 0 => rfl
  | 1 => rfl
  | 2 => rfl
  | 3 => rfl
  | 4 => rfl
  | 5 => rfl
  | 6 => rfl
  | 7 => rfl
  | 8 => rfl
  | 9 => rfl
  | 10 => rfl
  | 11 => rfl
  | 12 => rfl
  | 13 => rfl
  | 14 => rfl
  | 15 => rfl
  | 16 => rfl
  | 17 => rfl
  | 18 => rfl
  | 19 => rfl
  | 20 => rfl
  | 21 => rfl
  | 22 => rfl
  | 23 => rfl
  | 24 => rfl
  | n + 25 => simp [mC]
theorem mH0 : putM K w b (v, E) (b + 1) = some (.inl (kC K 0, 8, .inl (E.2.1 0))) := reg_at (k := 1) rfl
theorem mHK0 {f : Nat → Int32} : upW (putM K w b (v, E)) (b + 1) (.inl (kC K 0, 8, .inl f)) = putM K w b (v, E.1, upA E.2.1 0 f, E.2.2) := by
  refine reg_up (k := 1) (fun q => ?_)
  match q with
  | 0 => rfl
  | 1 => rfl
  | 2 => rfl
  | 3 => rfl
  | 4 => rfl
  | 5 => rfl
  | 6 => rfl
  | 7 => rfl
  | 8 => rfl
  | 9 => rfl
  | 10 => rfl
  | 11 => rfl
  | 12 => rfl
  | 13 => rfl
  | 14 => rfl
  | 15 => rfl
  | 16 => rfl
  | 17 => rfl
  | 18 => rfl
  | 19 => rfl
  | 20 => rfl
  | 21 => rfl
  | 22 => rfl
  | 23 => rfl
  | 24 => rfl
  | n + 25 => simp [mC]
theorem mH1 : putM K w b (v, E) (b + 2) = some (.inl (kC K 0, 8, .inl (E.2.1 1))) := reg_at (k := 2) rfl
theorem mHK1 {f : Nat → Int32} : upW (putM K w b (v, E)) (b + 2) (.inl (kC K 0, 8, .inl f)) = putM K w b (v, E.1, upA E.2.1 1 f, E.2.2) := by
  refine reg_up (k := 2) (fun q => ?_)
  match q with
  | 0 => rfl
  | 1 => rfl
  | 2 => rfl
  | 3 => rfl
  | 4 => rfl
  | 5 => rfl
  | 6 => rfl
  | 7 => rfl
  | 8 => rfl
  | 9 => rfl
  | 10 => rfl
  | 11 => rfl
  | 12 => rfl
  | 13 => rfl
  | 14 => rfl
  | 15 => rfl
  | 16 => rfl
  | 17 => rfl
  | 18 => rfl
  | 19 => rfl
  | 20 => rfl
  | 21 => rfl
  | 22 => rfl
  | 23 => rfl
  | 24 => rfl
  | n + 25 => simp [mC]
theorem mH2 : putM K w b (v, E) (b + 3) = some (.inl (kC K 0, 8, .inl (E.2.1 2))) := reg_at (k := 3) rfl
theorem mHK2 {f : Nat → Int32} : upW (putM K w b (v, E)) (b + 3) (.inl (kC K 0, 8, .inl f)) = putM K w b (v, E.1, upA E.2.1 2 f, E.2.2) := by
  refine reg_up (k := 3) (fun q => ?_)
  match q with
  | 0 => rfl
  | 1 => rfl
  | 2 => rfl
  | 3 => rfl
  | 4 => rfl
  | 5 => rfl
  | 6 => rfl
  | 7 => rfl
  | 8 => rfl
  | 9 => rfl
  | 10 => rfl
  | 11 => rfl
  | 12 => rfl
  | 13 => rfl
  | 14 => rfl
  | 15 => rfl
  | 16 => rfl
  | 17 => rfl
  | 18 => rfl
  | 19 => rfl
  | 20 => rfl
  | 21 => rfl
  | 22 => rfl
  | 23 => rfl
  | 24 => rfl
  | n + 25 => simp [mC]
theorem mH3 : putM K w b (v, E) (b + 14) = some (.inl (kC K 0, 8, .inl (E.2.1 3))) := reg_at (k := 14) rfl
theorem mHK3 {f : Nat → Int32} : upW (putM K w b (v, E)) (b + 14) (.inl (kC K 0, 8, .inl f)) = putM K w b (v, E.1, upA E.2.1 3 f, E.2.2) := by
  refine reg_up (k := 14) (fun q => ?_)
  match q with
  | 0 => rfl
  | 1 => rfl
  | 2 => rfl
  | 3 => rfl
  | 4 => rfl
  | 5 => rfl
  | 6 => rfl
  | 7 => rfl
  | 8 => rfl
  | 9 => rfl
  | 10 => rfl
  | 11 => rfl
  | 12 => rfl
  | 13 => rfl
  | 14 => rfl
  | 15 => rfl
  | 16 => rfl
  | 17 => rfl
  | 18 => rfl
  | 19 => rfl
  | 20 => rfl
  | 21 => rfl
  | 22 => rfl
  | 23 => rfl
  | 24 => rfl
  | n + 25 => simp [mC]
theorem mH4 : putM K w b (v, E) (b + 15) = some (.inl (kC K 0, 250, .inl (E.2.1 4))) := reg_at (k := 15) rfl
theorem mHK4 {f : Nat → Int32} : upW (putM K w b (v, E)) (b + 15) (.inl (kC K 0, 250, .inl f)) = putM K w b (v, E.1, upA E.2.1 4 f, E.2.2) := by
  refine reg_up (k := 15) (fun q => ?_)
  match q with
  | 0 => rfl
  | 1 => rfl
  | 2 => rfl
  | 3 => rfl
  | 4 => rfl
  | 5 => rfl
  | 6 => rfl
  | 7 => rfl
  | 8 => rfl
  | 9 => rfl
  | 10 => rfl
  | 11 => rfl
  | 12 => rfl
  | 13 => rfl
  | 14 => rfl
  | 15 => rfl
  | 16 => rfl
  | 17 => rfl
  | 18 => rfl
  | 19 => rfl
  | 20 => rfl
  | 21 => rfl
  | 22 => rfl
  | 23 => rfl
  | 24 => rfl
  | n + 25 => simp [mC]
theorem mH5 : putM K w b (v, E) (b + 16) = some (.inl (kC K 0, 8, .inl (E.2.1 5))) := reg_at (k := 16) rfl
theorem mHK5 {f : Nat → Int32} : upW (putM K w b (v, E)) (b + 16) (.inl (kC K 0, 8, .inl f)) = putM K w b (v, E.1, upA E.2.1 5 f, E.2.2) := by
  refine reg_up (k := 16) (fun q => ?_)
  match q with
  | 0 => rfl
  | 1 => rfl
  | 2 => rfl
  | 3 => rfl
  | 4 => rfl
  | 5 => rfl
  | 6 => rfl
  | 7 => rfl
  | 8 => rfl
  | 9 => rfl
  | 10 => rfl
  | 11 => rfl
  | 12 => rfl
  | 13 => rfl
  | 14 => rfl
  | 15 => rfl
  | 16 => rfl
  | 17 => rfl
  | 18 => rfl
  | 19 => rfl
  | 20 => rfl
  | 21 => rfl
  | 22 => rfl
  | 23 => rfl
  | 24 => rfl
  | n + 25 => simp [mC]
theorem mH6 : putM K w b (v, E) (b + 22) = some (.inl (kC K 0, 3, .inl (E.2.1 6))) := reg_at (k := 22) rfl
theorem mHK6 {f : Nat → Int32} : upW (putM K w b (v, E)) (b + 22) (.inl (kC K 0, 3, .inl f)) = putM K w b (v, E.1, upA E.2.1 6 f, E.2.2) := by
  refine reg_up (k := 22) (fun q => ?_)
  match q with
  | 0 => rfl
  | 1 => rfl
  | 2 => rfl
  | 3 => rfl
  | 4 => rfl
  | 5 => rfl
  | 6 => rfl
  | 7 => rfl
  | 8 => rfl
  | 9 => rfl
  | 10 => rfl
  | 11 => rfl
  | 12 => rfl
  | 13 => rfl
  | 14 => rfl
  | 15 => rfl
  | 16 => rfl
  | 17 => rfl
  | 18 => rfl
  | 19 => rfl
  | 20 => rfl
  | 21 => rfl
  | 22 => rfl
  | 23 => rfl
  | 24 => rfl
  | n + 25 => simp [mC]
theorem mH7 : putM K w b (v, E) (b + 23) = some (.inl (kC K 0, 4, .inl (E.2.1 7))) := reg_at (k := 23) rfl
theorem mHK7 {f : Nat → Int32} : upW (putM K w b (v, E)) (b + 23) (.inl (kC K 0, 4, .inl f)) = putM K w b (v, E.1, upA E.2.1 7 f, E.2.2) := by
  refine reg_up (k := 23) (fun q => ?_)
  match q with
  | 0 => rfl
  | 1 => rfl
  | 2 => rfl
  | 3 => rfl
  | 4 => rfl
  | 5 => rfl
  | 6 => rfl
  | 7 => rfl
  | 8 => rfl
  | 9 => rfl
  | 10 => rfl
  | 11 => rfl
  | 12 => rfl
  | 13 => rfl
  | 14 => rfl
  | 15 => rfl
  | 16 => rfl
  | 17 => rfl
  | 18 => rfl
  | 19 => rfl
  | 20 => rfl
  | 21 => rfl
  | 22 => rfl
  | 23 => rfl
  | 24 => rfl
  | n + 25 => simp [mC]
theorem mH8 : putM K w b (v, E) (b + 24) = some (.inl (kC K 0, 4, .inl (E.2.1 8))) := reg_at (k := 24) rfl
theorem mHK8 {f : Nat → Int32} : upW (putM K w b (v, E)) (b + 24) (.inl (kC K 0, 4, .inl f)) = putM K w b (v, E.1, upA E.2.1 8 f, E.2.2) := by
  refine reg_up (k := 24) (fun q => ?_)
  match q with
  | 0 => rfl
  | 1 => rfl
  | 2 => rfl
  | 3 => rfl
  | 4 => rfl
  | 5 => rfl
  | 6 => rfl
  | 7 => rfl
  | 8 => rfl
  | 9 => rfl
  | 10 => rfl
  | 11 => rfl
  | 12 => rfl
  | 13 => rfl
  | 14 => rfl
  | 15 => rfl
  | 16 => rfl
  | 17 => rfl
  | 18 => rfl
  | 19 => rfl
  | 20 => rfl
  | 21 => rfl
  | 22 => rfl
  | 23 => rfl
  | 24 => rfl
  | n + 25 => simp [mC]
theorem mMK {f : Nat → Int64} : upW (putM K w b (v, E)) (b + 13) (.inl (kC K 1, 40, .inr (.inl f))) = putM K w b (v, E.1, E.2.1, E.2.2.1, f, E.2.2.2.2) := by
  refine reg_up (k := 13) (fun q => ?_)
  match q with
  | 0 => rfl
  | 1 => rfl
  | 2 => rfl
  | 3 => rfl
  | 4 => rfl
  | 5 => rfl
  | 6 => rfl
  | 7 => rfl
  | 8 => rfl
  | 9 => rfl
  | 10 => rfl
  | 11 => rfl
  | 12 => rfl
  | 13 => rfl
  | 14 => rfl
  | 15 => rfl
  | 16 => rfl
  | 17 => rfl
  | 18 => rfl
  | 19 => rfl
  | 20 => rfl
  | 21 => rfl
  | 22 => rfl
  | 23 => rfl
  | 24 => rfl
  | n + 25 => simp [mC]
theorem mP0  : upW (putM K w b (v, E)) b (.inr (5, (mF b (v, E)).set 9 (.int x))) = putM K w b ((upd v.1 0 x, v.2), E) := by
  refine reg_up (k := 0) (fun q => ?_)
  match q with
  | 0 => rfl
  | 1 => rfl
  | 2 => rfl
  | 3 => rfl
  | 4 => rfl
  | 5 => rfl
  | 6 => rfl
  | 7 => rfl
  | 8 => rfl
  | 9 => rfl
  | 10 => rfl
  | 11 => rfl
  | 12 => rfl
  | 13 => rfl
  | 14 => rfl
  | 15 => rfl
  | 16 => rfl
  | 17 => rfl
  | 18 => rfl
  | 19 => rfl
  | 20 => rfl
  | 21 => rfl
  | 22 => rfl
  | 23 => rfl
  | 24 => rfl
  | n + 25 => simp [mC]
theorem mP1  : upW (putM K w b (v, E)) b (.inr (5, (mF b (v, E)).set 15 (.int x))) = putM K w b ((upd v.1 1 x, v.2), E) := by
  refine reg_up (k := 0) (fun q => ?_)
  match q with
  | 0 => rfl
  | 1 => rfl
  | 2 => rfl
  | 3 => rfl
  | 4 => rfl
  | 5 => rfl
  | 6 => rfl
  | 7 => rfl
  | 8 => rfl
  | 9 => rfl
  | 10 => rfl
  | 11 => rfl
  | 12 => rfl
  | 13 => rfl
  | 14 => rfl
  | 15 => rfl
  | 16 => rfl
  | 17 => rfl
  | 18 => rfl
  | 19 => rfl
  | 20 => rfl
  | 21 => rfl
  | 22 => rfl
  | 23 => rfl
  | 24 => rfl
  | n + 25 => simp [mC]
theorem mP2  : upW (putM K w b (v, E)) b (.inr (5, (mF b (v, E)).set 16 (.int x))) = putM K w b ((upd v.1 2 x, v.2), E) := by
  refine reg_up (k := 0) (fun q => ?_)
  match q with
  | 0 => rfl
  | 1 => rfl
  | 2 => rfl
  | 3 => rfl
  | 4 => rfl
  | 5 => rfl
  | 6 => rfl
  | 7 => rfl
  | 8 => rfl
  | 9 => rfl
  | 10 => rfl
  | 11 => rfl
  | 12 => rfl
  | 13 => rfl
  | 14 => rfl
  | 15 => rfl
  | 16 => rfl
  | 17 => rfl
  | 18 => rfl
  | 19 => rfl
  | 20 => rfl
  | 21 => rfl
  | 22 => rfl
  | 23 => rfl
  | 24 => rfl
  | n + 25 => simp [mC]
theorem mP3  : upW (putM K w b (v, E)) b (.inr (5, (mF b (v, E)).set 17 (.int x))) = putM K w b ((upd v.1 3 x, v.2), E) := by
  refine reg_up (k := 0) (fun q => ?_)
  match q with
  | 0 => rfl
  | 1 => rfl
  | 2 => rfl
  | 3 => rfl
  | 4 => rfl
  | 5 => rfl
  | 6 => rfl
  | 7 => rfl
  | 8 => rfl
  | 9 => rfl
  | 10 => rfl
  | 11 => rfl
  | 12 => rfl
  | 13 => rfl
  | 14 => rfl
  | 15 => rfl
  | 16 => rfl
  | 17 => rfl
  | 18 => rfl
  | 19 => rfl
  | 20 => rfl
  | 21 => rfl
  | 22 => rfl
  | 23 => rfl
  | 24 => rfl
  | n + 25 => simp [mC]
theorem mP4  : upW (putM K w b (v, E)) b (.inr (5, (mF b (v, E)).set 18 (.int x))) = putM K w b ((upd v.1 4 x, v.2), E) := by
  refine reg_up (k := 0) (fun q => ?_)
  match q with
  | 0 => rfl
  | 1 => rfl
  | 2 => rfl
  | 3 => rfl
  | 4 => rfl
  | 5 => rfl
  | 6 => rfl
  | 7 => rfl
  | 8 => rfl
  | 9 => rfl
  | 10 => rfl
  | 11 => rfl
  | 12 => rfl
  | 13 => rfl
  | 14 => rfl
  | 15 => rfl
  | 16 => rfl
  | 17 => rfl
  | 18 => rfl
  | 19 => rfl
  | 20 => rfl
  | 21 => rfl
  | 22 => rfl
  | 23 => rfl
  | 24 => rfl
  | n + 25 => simp [mC]
theorem mP5  : upW (putM K w b (v, E)) b (.inr (5, (mF b (v, E)).set 19 (.int x))) = putM K w b ((upd v.1 5 x, v.2), E) := by
  refine reg_up (k := 0) (fun q => ?_)
  match q with
  | 0 => rfl
  | 1 => rfl
  | 2 => rfl
  | 3 => rfl
  | 4 => rfl
  | 5 => rfl
  | 6 => rfl
  | 7 => rfl
  | 8 => rfl
  | 9 => rfl
  | 10 => rfl
  | 11 => rfl
  | 12 => rfl
  | 13 => rfl
  | 14 => rfl
  | 15 => rfl
  | 16 => rfl
  | 17 => rfl
  | 18 => rfl
  | 19 => rfl
  | 20 => rfl
  | 21 => rfl
  | 22 => rfl
  | 23 => rfl
  | 24 => rfl
  | n + 25 => simp [mC]
theorem mP6  : upW (putM K w b (v, E)) b (.inr (5, (mF b (v, E)).set 20 (.int x))) = putM K w b ((upd v.1 6 x, v.2), E) := by
  refine reg_up (k := 0) (fun q => ?_)
  match q with
  | 0 => rfl
  | 1 => rfl
  | 2 => rfl
  | 3 => rfl
  | 4 => rfl
  | 5 => rfl
  | 6 => rfl
  | 7 => rfl
  | 8 => rfl
  | 9 => rfl
  | 10 => rfl
  | 11 => rfl
  | 12 => rfl
  | 13 => rfl
  | 14 => rfl
  | 15 => rfl
  | 16 => rfl
  | 17 => rfl
  | 18 => rfl
  | 19 => rfl
  | 20 => rfl
  | 21 => rfl
  | 22 => rfl
  | 23 => rfl
  | 24 => rfl
  | n + 25 => simp [mC]
theorem mP7  : upW (putM K w b (v, E)) b (.inr (5, (mF b (v, E)).set 21 (.int x))) = putM K w b ((upd v.1 7 x, v.2), E) := by
  refine reg_up (k := 0) (fun q => ?_)
  match q with
  | 0 => rfl
  | 1 => rfl
  | 2 => rfl
  | 3 => rfl
  | 4 => rfl
  | 5 => rfl
  | 6 => rfl
  | 7 => rfl
  | 8 => rfl
  | 9 => rfl
  | 10 => rfl
  | 11 => rfl
  | 12 => rfl
  | 13 => rfl
  | 14 => rfl
  | 15 => rfl
  | 16 => rfl
  | 17 => rfl
  | 18 => rfl
  | 19 => rfl
  | 20 => rfl
  | 21 => rfl
  | 22 => rfl
  | 23 => rfl
  | 24 => rfl
  | n + 25 => simp [mC]
theorem mP8  : upW (putM K w b (v, E)) b (.inr (5, (mF b (v, E)).set 22 (.int x))) = putM K w b ((upd v.1 8 x, v.2), E) := by
  refine reg_up (k := 0) (fun q => ?_)
  match q with
  | 0 => rfl
  | 1 => rfl
  | 2 => rfl
  | 3 => rfl
  | 4 => rfl
  | 5 => rfl
  | 6 => rfl
  | 7 => rfl
  | 8 => rfl
  | 9 => rfl
  | 10 => rfl
  | 11 => rfl
  | 12 => rfl
  | 13 => rfl
  | 14 => rfl
  | 15 => rfl
  | 16 => rfl
  | 17 => rfl
  | 18 => rfl
  | 19 => rfl
  | 20 => rfl
  | 21 => rfl
  | 22 => rfl
  | 23 => rfl
  | 24 => rfl
  | n + 25 => simp [mC]
theorem mP9  : upW (putM K w b (v, E)) b (.inr (5, (mF b (v, E)).set 23 (.int x))) = putM K w b ((upd v.1 9 x, v.2), E) := by
  refine reg_up (k := 0) (fun q => ?_)
  match q with
  | 0 => rfl
  | 1 => rfl
  | 2 => rfl
  | 3 => rfl
  | 4 => rfl
  | 5 => rfl
  | 6 => rfl
  | 7 => rfl
  | 8 => rfl
  | 9 => rfl
  | 10 => rfl
  | 11 => rfl
  | 12 => rfl
  | 13 => rfl
  | 14 => rfl
  | 15 => rfl
  | 16 => rfl
  | 17 => rfl
  | 18 => rfl
  | 19 => rfl
  | 20 => rfl
  | 21 => rfl
  | 22 => rfl
  | 23 => rfl
  | 24 => rfl
  | n + 25 => simp [mC]
theorem mP10  : upW (putM K w b (v, E)) b (.inr (5, (mF b (v, E)).set 24 (.int x))) = putM K w b ((upd v.1 10 x, v.2), E) := by
  refine reg_up (k := 0) (fun q => ?_)
  match q with
  | 0 => rfl
  | 1 => rfl
  | 2 => rfl
  | 3 => rfl
  | 4 => rfl
  | 5 => rfl
  | 6 => rfl
  | 7 => rfl
  | 8 => rfl
  | 9 => rfl
  | 10 => rfl
  | 11 => rfl
  | 12 => rfl
  | 13 => rfl
  | 14 => rfl
  | 15 => rfl
  | 16 => rfl
  | 17 => rfl
  | 18 => rfl
  | 19 => rfl
  | 20 => rfl
  | 21 => rfl
  | 22 => rfl
  | 23 => rfl
  | 24 => rfl
  | n + 25 => simp [mC]
theorem mP11  : upW (putM K w b (v, E)) b (.inr (5, (mF b (v, E)).set 25 (.int x))) = putM K w b ((upd v.1 11 x, v.2), E) := by
  refine reg_up (k := 0) (fun q => ?_)
  match q with
  | 0 => rfl
  | 1 => rfl
  | 2 => rfl
  | 3 => rfl
  | 4 => rfl
  | 5 => rfl
  | 6 => rfl
  | 7 => rfl
  | 8 => rfl
  | 9 => rfl
  | 10 => rfl
  | 11 => rfl
  | 12 => rfl
  | 13 => rfl
  | 14 => rfl
  | 15 => rfl
  | 16 => rfl
  | 17 => rfl
  | 18 => rfl
  | 19 => rfl
  | 20 => rfl
  | 21 => rfl
  | 22 => rfl
  | 23 => rfl
  | 24 => rfl
  | n + 25 => simp [mC]
theorem mP12  : upW (putM K w b (v, E)) b (.inr (5, (mF b (v, E)).set 26 (.int x))) = putM K w b ((upd v.1 12 x, v.2), E) := by
  refine reg_up (k := 0) (fun q => ?_)
  match q with
  | 0 => rfl
  | 1 => rfl
  | 2 => rfl
  | 3 => rfl
  | 4 => rfl
  | 5 => rfl
  | 6 => rfl
  | 7 => rfl
  | 8 => rfl
  | 9 => rfl
  | 10 => rfl
  | 11 => rfl
  | 12 => rfl
  | 13 => rfl
  | 14 => rfl
  | 15 => rfl
  | 16 => rfl
  | 17 => rfl
  | 18 => rfl
  | 19 => rfl
  | 20 => rfl
  | 21 => rfl
  | 22 => rfl
  | 23 => rfl
  | 24 => rfl
  | n + 25 => simp [mC]
theorem mG0  : upW (putM K w b (v, E)) b (.inr (5, (mF b (v, E)).set 7 (.int x))) = putM K w b (v, upd E.1 0 x, E.2) := by
  refine reg_up (k := 0) (fun q => ?_)
  match q with
  | 0 => rfl
  | 1 => rfl
  | 2 => rfl
  | 3 => rfl
  | 4 => rfl
  | 5 => rfl
  | 6 => rfl
  | 7 => rfl
  | 8 => rfl
  | 9 => rfl
  | 10 => rfl
  | 11 => rfl
  | 12 => rfl
  | 13 => rfl
  | 14 => rfl
  | 15 => rfl
  | 16 => rfl
  | 17 => rfl
  | 18 => rfl
  | 19 => rfl
  | 20 => rfl
  | 21 => rfl
  | 22 => rfl
  | 23 => rfl
  | 24 => rfl
  | n + 25 => simp [mC]
theorem mG1  : upW (putM K w b (v, E)) b (.inr (5, (mF b (v, E)).set 29 (.int x))) = putM K w b (v, upd E.1 1 x, E.2) := by
  refine reg_up (k := 0) (fun q => ?_)
  match q with
  | 0 => rfl
  | 1 => rfl
  | 2 => rfl
  | 3 => rfl
  | 4 => rfl
  | 5 => rfl
  | 6 => rfl
  | 7 => rfl
  | 8 => rfl
  | 9 => rfl
  | 10 => rfl
  | 11 => rfl
  | 12 => rfl
  | 13 => rfl
  | 14 => rfl
  | 15 => rfl
  | 16 => rfl
  | 17 => rfl
  | 18 => rfl
  | 19 => rfl
  | 20 => rfl
  | 21 => rfl
  | 22 => rfl
  | 23 => rfl
  | 24 => rfl
  | n + 25 => simp [mC]
theorem mG2  : upW (putM K w b (v, E)) b (.inr (5, (mF b (v, E)).set 30 (.int x))) = putM K w b (v, upd E.1 2 x, E.2) := by
  refine reg_up (k := 0) (fun q => ?_)
  match q with
  | 0 => rfl
  | 1 => rfl
  | 2 => rfl
  | 3 => rfl
  | 4 => rfl
  | 5 => rfl
  | 6 => rfl
  | 7 => rfl
  | 8 => rfl
  | 9 => rfl
  | 10 => rfl
  | 11 => rfl
  | 12 => rfl
  | 13 => rfl
  | 14 => rfl
  | 15 => rfl
  | 16 => rfl
  | 17 => rfl
  | 18 => rfl
  | 19 => rfl
  | 20 => rfl
  | 21 => rfl
  | 22 => rfl
  | 23 => rfl
  | 24 => rfl
  | n + 25 => simp [mC]
theorem mG3  : upW (putM K w b (v, E)) b (.inr (5, (mF b (v, E)).set 31 (.int x))) = putM K w b (v, upd E.1 3 x, E.2) := by
  refine reg_up (k := 0) (fun q => ?_)
  match q with
  | 0 => rfl
  | 1 => rfl
  | 2 => rfl
  | 3 => rfl
  | 4 => rfl
  | 5 => rfl
  | 6 => rfl
  | 7 => rfl
  | 8 => rfl
  | 9 => rfl
  | 10 => rfl
  | 11 => rfl
  | 12 => rfl
  | 13 => rfl
  | 14 => rfl
  | 15 => rfl
  | 16 => rfl
  | 17 => rfl
  | 18 => rfl
  | 19 => rfl
  | 20 => rfl
  | 21 => rfl
  | 22 => rfl
  | 23 => rfl
  | 24 => rfl
  | n + 25 => simp [mC]
theorem mG4  : upW (putM K w b (v, E)) b (.inr (5, (mF b (v, E)).set 32 (.int x))) = putM K w b (v, upd E.1 4 x, E.2) := by
  refine reg_up (k := 0) (fun q => ?_)
  match q with
  | 0 => rfl
  | 1 => rfl
  | 2 => rfl
  | 3 => rfl
  | 4 => rfl
  | 5 => rfl
  | 6 => rfl
  | 7 => rfl
  | 8 => rfl
  | 9 => rfl
  | 10 => rfl
  | 11 => rfl
  | 12 => rfl
  | 13 => rfl
  | 14 => rfl
  | 15 => rfl
  | 16 => rfl
  | 17 => rfl
  | 18 => rfl
  | 19 => rfl
  | 20 => rfl
  | 21 => rfl
  | 22 => rfl
  | 23 => rfl
  | 24 => rfl
  | n + 25 => simp [mC]
theorem mG5  : upW (putM K w b (v, E)) b (.inr (5, (mF b (v, E)).set 33 (.int x))) = putM K w b (v, upd E.1 5 x, E.2) := by
  refine reg_up (k := 0) (fun q => ?_)
  match q with
  | 0 => rfl
  | 1 => rfl
  | 2 => rfl
  | 3 => rfl
  | 4 => rfl
  | 5 => rfl
  | 6 => rfl
  | 7 => rfl
  | 8 => rfl
  | 9 => rfl
  | 10 => rfl
  | 11 => rfl
  | 12 => rfl
  | 13 => rfl
  | 14 => rfl
  | 15 => rfl
  | 16 => rfl
  | 17 => rfl
  | 18 => rfl
  | 19 => rfl
  | 20 => rfl
  | 21 => rfl
  | 22 => rfl
  | 23 => rfl
  | 24 => rfl
  | n + 25 => simp [mC]
theorem mG6  : upW (putM K w b (v, E)) b (.inr (5, (mF b (v, E)).set 35 (.int x))) = putM K w b (v, upd E.1 6 x, E.2) := by
  refine reg_up (k := 0) (fun q => ?_)
  match q with
  | 0 => rfl
  | 1 => rfl
  | 2 => rfl
  | 3 => rfl
  | 4 => rfl
  | 5 => rfl
  | 6 => rfl
  | 7 => rfl
  | 8 => rfl
  | 9 => rfl
  | 10 => rfl
  | 11 => rfl
  | 12 => rfl
  | 13 => rfl
  | 14 => rfl
  | 15 => rfl
  | 16 => rfl
  | 17 => rfl
  | 18 => rfl
  | 19 => rfl
  | 20 => rfl
  | 21 => rfl
  | 22 => rfl
  | 23 => rfl
  | 24 => rfl
  | n + 25 => simp [mC]
theorem mG7  : upW (putM K w b (v, E)) b (.inr (5, (mF b (v, E)).set 36 (.int x))) = putM K w b (v, upd E.1 7 x, E.2) := by
  refine reg_up (k := 0) (fun q => ?_)
  match q with
  | 0 => rfl
  | 1 => rfl
  | 2 => rfl
  | 3 => rfl
  | 4 => rfl
  | 5 => rfl
  | 6 => rfl
  | 7 => rfl
  | 8 => rfl
  | 9 => rfl
  | 10 => rfl
  | 11 => rfl
  | 12 => rfl
  | 13 => rfl
  | 14 => rfl
  | 15 => rfl
  | 16 => rfl
  | 17 => rfl
  | 18 => rfl
  | 19 => rfl
  | 20 => rfl
  | 21 => rfl
  | 22 => rfl
  | 23 => rfl
  | 24 => rfl
  | n + 25 => simp [mC]
theorem mG8  : upW (putM K w b (v, E)) b (.inr (5, (mF b (v, E)).set 37 (.int x))) = putM K w b (v, upd E.1 8 x, E.2) := by
  refine reg_up (k := 0) (fun q => ?_)
  match q with
  | 0 => rfl
  | 1 => rfl
  | 2 => rfl
  | 3 => rfl
  | 4 => rfl
  | 5 => rfl
  | 6 => rfl
  | 7 => rfl
  | 8 => rfl
  | 9 => rfl
  | 10 => rfl
  | 11 => rfl
  | 12 => rfl
  | 13 => rfl
  | 14 => rfl
  | 15 => rfl
  | 16 => rfl
  | 17 => rfl
  | 18 => rfl
  | 19 => rfl
  | 20 => rfl
  | 21 => rfl
  | 22 => rfl
  | 23 => rfl
  | 24 => rfl
  | n + 25 => simp [mC]
theorem mG9  : upW (putM K w b (v, E)) b (.inr (5, (mF b (v, E)).set 40 (.int x))) = putM K w b (v, upd E.1 9 x, E.2) := by
  refine reg_up (k := 0) (fun q => ?_)
  match q with
  | 0 => rfl
  | 1 => rfl
  | 2 => rfl
  | 3 => rfl
  | 4 => rfl
  | 5 => rfl
  | 6 => rfl
  | 7 => rfl
  | 8 => rfl
  | 9 => rfl
  | 10 => rfl
  | 11 => rfl
  | 12 => rfl
  | 13 => rfl
  | 14 => rfl
  | 15 => rfl
  | 16 => rfl
  | 17 => rfl
  | 18 => rfl
  | 19 => rfl
  | 20 => rfl
  | 21 => rfl
  | 22 => rfl
  | 23 => rfl
  | 24 => rfl
  | n + 25 => simp [mC]
theorem mG10  : upW (putM K w b (v, E)) b (.inr (5, (mF b (v, E)).set 41 (.int x))) = putM K w b (v, upd E.1 10 x, E.2) := by
  refine reg_up (k := 0) (fun q => ?_)
  match q with
  | 0 => rfl
  | 1 => rfl
  | 2 => rfl
  | 3 => rfl
  | 4 => rfl
  | 5 => rfl
  | 6 => rfl
  | 7 => rfl
  | 8 => rfl
  | 9 => rfl
  | 10 => rfl
  | 11 => rfl
  | 12 => rfl
  | 13 => rfl
  | 14 => rfl
  | 15 => rfl
  | 16 => rfl
  | 17 => rfl
  | 18 => rfl
  | 19 => rfl
  | 20 => rfl
  | 21 => rfl
  | 22 => rfl
  | 23 => rfl
  | 24 => rfl
  | n + 25 => simp [mC]
theorem mPk {q0 : Nat} : upW (putM K w b (v, E)) b (.inr (5, (mF b (v, E)).set 27 (.ref q0))) = putM K w b (v, E.1, E.2.1, E.2.2.1, E.2.2.2.1, some q0, E.2.2.2.2.2) := by
  refine reg_up (k := 0) (fun q => ?_)
  match q with
  | 0 => rfl
  | 1 => rfl
  | 2 => rfl
  | 3 => rfl
  | 4 => rfl
  | 5 => rfl
  | 6 => rfl
  | 7 => rfl
  | 8 => rfl
  | 9 => rfl
  | 10 => rfl
  | 11 => rfl
  | 12 => rfl
  | 13 => rfl
  | 14 => rfl
  | 15 => rfl
  | 16 => rfl
  | 17 => rfl
  | 18 => rfl
  | 19 => rfl
  | 20 => rfl
  | 21 => rfl
  | 22 => rfl
  | 23 => rfl
  | 24 => rfl
  | n + 25 => simp [mC]
theorem mPt {q0 : Nat} : upW (putM K w b (v, E)) b (.inr (5, (mF b (v, E)).set 28 (.ref q0))) = putM K w b (v, E.1, E.2.1, E.2.2.1, E.2.2.2.1, E.2.2.2.2.1, some q0) := by
  refine reg_up (k := 0) (fun q => ?_)
  match q with
  | 0 => rfl
  | 1 => rfl
  | 2 => rfl
  | 3 => rfl
  | 4 => rfl
  | 5 => rfl
  | 6 => rfl
  | 7 => rfl
  | 8 => rfl
  | 9 => rfl
  | 10 => rfl
  | 11 => rfl
  | 12 => rfl
  | 13 => rfl
  | 14 => rfl
  | 15 => rfl
  | 16 => rfl
  | 17 => rfl
  | 18 => rfl
  | 19 => rfl
  | 20 => rfl
  | 21 => rfl
  | 22 => rfl
  | 23 => rfl
  | 24 => rfl
  | n + 25 => simp [mC]
theorem mR {i : Nat} (hi : i < 8) : putM K w b (v, E) (b + (5 + i)) = some (.inl (kC K 1, 40, .inr (.inl (E.2.2.1 i)))) := by
  refine reg_at (k := 5 + i) ?_
  rcases (show i = 0 ∨ i = 1 ∨ i = 2 ∨ i = 3 ∨ i = 4 ∨ i = 5 ∨ i = 6 ∨ i = 7 by omega) with rfl | rfl | rfl | rfl | rfl | rfl | rfl | rfl <;> rfl
theorem mRK {i : Nat} (hi : i < 8) {f : Nat → Int64} : upW (putM K w b (v, E)) (b + (5 + i)) (.inl (kC K 1, 40, .inr (.inl f))) = putM K w b (v, E.1, E.2.1, upL E.2.2.1 i f, E.2.2.2) := by
  rcases (show i = 0 ∨ i = 1 ∨ i = 2 ∨ i = 3 ∨ i = 4 ∨ i = 5 ∨ i = 6 ∨ i = 7 by omega) with rfl | rfl | rfl | rfl | rfl | rfl | rfl | rfl
  · refine reg_up (k := 5) (fun q => ?_)
    match q with
    | 0 => rfl
    | 1 => rfl
    | 2 => rfl
    | 3 => rfl
    | 4 => rfl
    | 5 => rfl
    | 6 => rfl
    | 7 => rfl
    | 8 => rfl
    | 9 => rfl
    | 10 => rfl
    | 11 => rfl
    | 12 => rfl
    | 13 => rfl
    | 14 => rfl
    | 15 => rfl
    | 16 => rfl
    | 17 => rfl
    | 18 => rfl
    | 19 => rfl
    | 20 => rfl
    | 21 => rfl
    | 22 => rfl
    | 23 => rfl
    | 24 => rfl
    | n + 25 => simp [mC]
  · refine reg_up (k := 6) (fun q => ?_)
    match q with
    | 0 => rfl
    | 1 => rfl
    | 2 => rfl
    | 3 => rfl
    | 4 => rfl
    | 5 => rfl
    | 6 => rfl
    | 7 => rfl
    | 8 => rfl
    | 9 => rfl
    | 10 => rfl
    | 11 => rfl
    | 12 => rfl
    | 13 => rfl
    | 14 => rfl
    | 15 => rfl
    | 16 => rfl
    | 17 => rfl
    | 18 => rfl
    | 19 => rfl
    | 20 => rfl
    | 21 => rfl
    | 22 => rfl
    | 23 => rfl
    | 24 => rfl
    | n + 25 => simp [mC]
  · refine reg_up (k := 7) (fun q => ?_)
    match q with
    | 0 => rfl
    | 1 => rfl
    | 2 => rfl
    | 3 => rfl
    | 4 => rfl
    | 5 => rfl
    | 6 => rfl
    | 7 => rfl
    | 8 => rfl
    | 9 => rfl
    | 10 => rfl
    | 11 => rfl
    | 12 => rfl
    | 13 => rfl
    | 14 => rfl
    | 15 => rfl
    | 16 => rfl
    | 17 => rfl
    | 18 => rfl
    | 19 => rfl
    | 20 => rfl
    | 21 => rfl
    | 22 => rfl
    | 23 => rfl
    | 24 => rfl
    | n + 25 => simp [mC]
  · refine reg_up (k := 8) (fun q => ?_)
    match q with
    | 0 => rfl
    | 1 => rfl
    | 2 => rfl
    | 3 => rfl
    | 4 => rfl
    | 5 => rfl
    | 6 => rfl
    | 7 => rfl
    | 8 => rfl
    | 9 => rfl
    | 10 => rfl
    | 11 => rfl
    | 12 => rfl
    | 13 => rfl
    | 14 => rfl
    | 15 => rfl
    | 16 => rfl
    | 17 => rfl
    | 18 => rfl
    | 19 => rfl
    | 20 => rfl
    | 21 => rfl
    | 22 => rfl
    | 23 => rfl
    | 24 => rfl
    | n + 25 => simp [mC]
  · refine reg_up (k := 9) (fun q => ?_)
    match q with
    | 0 => rfl
    | 1 => rfl
    | 2 => rfl
    | 3 => rfl
    | 4 => rfl
    | 5 => rfl
    | 6 => rfl
    | 7 => rfl
    | 8 => rfl
    | 9 => rfl
    | 10 => rfl
    | 11 => rfl
    | 12 => rfl
    | 13 => rfl
    | 14 => rfl
    | 15 => rfl
    | 16 => rfl
    | 17 => rfl
    | 18 => rfl
    | 19 => rfl
    | 20 => rfl
    | 21 => rfl
    | 22 => rfl
    | 23 => rfl
    | 24 => rfl
    | n + 25 => simp [mC]
  · refine reg_up (k := 10) (fun q => ?_)
    match q with
    | 0 => rfl
    | 1 => rfl
    | 2 => rfl
    | 3 => rfl
    | 4 => rfl
    | 5 => rfl
    | 6 => rfl
    | 7 => rfl
    | 8 => rfl
    | 9 => rfl
    | 10 => rfl
    | 11 => rfl
    | 12 => rfl
    | 13 => rfl
    | 14 => rfl
    | 15 => rfl
    | 16 => rfl
    | 17 => rfl
    | 18 => rfl
    | 19 => rfl
    | 20 => rfl
    | 21 => rfl
    | 22 => rfl
    | 23 => rfl
    | 24 => rfl
    | n + 25 => simp [mC]
  · refine reg_up (k := 11) (fun q => ?_)
    match q with
    | 0 => rfl
    | 1 => rfl
    | 2 => rfl
    | 3 => rfl
    | 4 => rfl
    | 5 => rfl
    | 6 => rfl
    | 7 => rfl
    | 8 => rfl
    | 9 => rfl
    | 10 => rfl
    | 11 => rfl
    | 12 => rfl
    | 13 => rfl
    | 14 => rfl
    | 15 => rfl
    | 16 => rfl
    | 17 => rfl
    | 18 => rfl
    | 19 => rfl
    | 20 => rfl
    | 21 => rfl
    | 22 => rfl
    | 23 => rfl
    | 24 => rfl
    | n + 25 => simp [mC]
  · refine reg_up (k := 12) (fun q => ?_)
    match q with
    | 0 => rfl
    | 1 => rfl
    | 2 => rfl
    | 3 => rfl
    | 4 => rfl
    | 5 => rfl
    | 6 => rfl
    | 7 => rfl
    | 8 => rfl
    | 9 => rfl
    | 10 => rfl
    | 11 => rfl
    | 12 => rfl
    | 13 => rfl
    | 14 => rfl
    | 15 => rfl
    | 16 => rfl
    | 17 => rfl
    | 18 => rfl
    | 19 => rfl
    | 20 => rfl
    | 21 => rfl
    | 22 => rfl
    | 23 => rfl
    | 24 => rfl
    | n + 25 => simp [mC]
theorem mRv {i : Nat} (hi : i < 8) : va_rf (rwRef b i) = .ref (b + (5 + i)) := by
  unfold rwRef
  rw [if_pos hi]; rfl
end ML
theorem mC_none {K : Kx} {b : Nat} {y : MX} {j : Nat} (h : 25 ≤ j) : mC K b y j = none := by
  obtain ⟨i, rfl⟩ : ∃ i, j = i + 25 := ⟨j - 25, by omega⟩
  rfl
theorem m_out {K : Kx} {w : Wd} {b q : Nat} {y : MX} (h : q < b ∨ b + 25 ≤ q) : putM K w b y q = w q := by
  refine reg_out ?_
  rcases h with h | h
  · exact Or.inl h
  · exact Or.inr (mC_none (by omega))
theorem mC_some {K : Kx} {b : Nat} {y : MX} {j : Nat} (h : j < 25) : ∃ e, mC K b y j = some e := by
  rcases (show j = 0 ∨ j = 1 ∨ j = 2 ∨ j = 3 ∨ j = 4 ∨ j = 5 ∨ j = 6 ∨ j = 7 ∨ j = 8 ∨ j = 9 ∨ j = 10 ∨ j = 11 ∨ j = 12 ∨ j = 13 ∨ j = 14 ∨ j = 15 ∨ j = 16 ∨ j = 17 ∨ j = 18 ∨ j = 19 ∨ j = 20 ∨ j = 21 ∨ j = 22 ∨ j = 23 ∨ j = 24 by omega) with rfl | rfl | rfl | rfl | rfl | rfl | rfl | rfl | rfl | rfl | rfl | rfl | rfl | rfl | rfl | rfl | rfl | rfl | rfl | rfl | rfl | rfl | rfl | rfl | rfl <;> exact ⟨_, rfl⟩
/-- two models apart may be put in in either order -/
theorem m_swap {K : Kx} {w : Wd} {b b1 : Nat} {y z : MX} (h : b + 25 ≤ b1 ∨ b1 + 25 ≤ b) : putM K (putM K w b1 z) b y = putM K (putM K w b y) b1 z := by
  funext q
  by_cases h1 : b ≤ q ∧ q < b + 25
  · rw [m_out (b := b1) (by omega)]
    obtain ⟨e, he⟩ := mC_some (K := K) (b := b) (y := y) (j := q - b) (by omega)
    have e1 : q = b + (q - b) := by omega
    rw [e1]
    exact (reg_at he).trans (reg_at he).symm
  · rw [m_out (b := b) (by omega)]
    by_cases h2 : b1 ≤ q ∧ q < b1 + 25
    · obtain ⟨e, he⟩ := mC_some (K := K) (b := b1) (y := z) (j := q - b1) (by omega)
      have e1 : q = b1 + (q - b1) := by omega
      rw [e1]
      exact (reg_at he).trans (reg_at he).symm
    · rw [m_out (b := b1) (by omega), m_out (b := b1) (by omega), m_out (b := b) (by omega)]
def inL (v a b : Int64) : Int32 := if lg_cmp v a < 0 then 0 else if 0 < lg_cmp v b then 0 else 1
theorem i64_lt {x y : Int32} : x.toInt64 < y.toInt64 ↔ x < y := by
  rw [Int64.lt_iff_toInt_lt, Int32.lt_iff_toInt_lt, Int32.toInt_toInt64, Int32.toInt_toInt64]
theorem i64_eq {x y : Int32} : x.toInt64 = y.toInt64 ↔ x = y := by
  constructor
  · intro h
    have := congrArg Int64.toInt h
    rw [Int32.toInt_toInt64, Int32.toInt_toInt64] at this
    exact Int32.toInt_inj.mp this
  · intro h; rw [h]
