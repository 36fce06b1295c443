/-! the object while it thinks: thought is u, pick is p, all else is x -/
def xup (x : XV) (u : CV) (p : Int32 × Int32) : XV := (fun j => if j = 1 then u else x.1 j, x.2.1, x.2.2.1, x.2.2.2.1, p, x.2.2.2.2.2)
def rel (x : XV) : CV × CV × TV × (Nat → SV) × (Nat → Int32) × Int32 := (x.1 0, x.1 2, x.2.1, x.2.2.1, x.2.2.2.1, x.2.2.2.2.2)
theorem xup_self (x : XV) : x = xup x (x.1 1) x.2.2.2.2.1 := by
  unfold xup
  refine Prod.ext (funext fun j => ?_) rfl
  by_cases h : j = 1
  · subst h; rfl
  · exact (if_neg h).symm
theorem xup_1 {x : XV} {u v : CV} {p : Int32 × Int32} : setR (xup x u p) 1 v = xup x v p := by
  unfold setR xup
  refine Prod.ext (funext fun j => ?_) rfl
  by_cases h : j = 1
  · subst h; rfl
  · show (if j = 1 then v else (if j = 1 then u else x.1 j)) = if j = 1 then v else x.1 j
    rw [if_neg h, if_neg h, if_neg h]
theorem xup_0 {x : XV} {u v : CV} {p : Int32 × Int32} : setR (xup x u p) 0 v = xup (setR x 0 v) u p := by
  unfold setR xup
  refine Prod.ext (funext fun j => ?_) rfl
  show (if j = 0 then v else (if j = 1 then u else x.1 j)) = if j = 1 then u else (if j = 0 then v else x.1 j)
  by_cases h : j = 0
  · subst h; rfl
  · rw [if_neg h, if_neg h]
theorem xup_2 {x : XV} {u v : CV} {p : Int32 × Int32} : setR (xup x u p) 2 v = xup (setR x 2 v) u p := by
  unfold setR xup
  refine Prod.ext (funext fun j => ?_) rfl
  show (if j = 2 then v else (if j = 1 then u else x.1 j)) = if j = 1 then u else (if j = 2 then v else x.1 j)
  by_cases h : j = 2
  · subst h; rfl
  · rw [if_neg h, if_neg h]
theorem xup_3 {x : XV} {u v : CV} {p : Int32 × Int32} : setR (xup x u p) 3 v = xup (setR x 3 v) u p := by
  unfold setR xup
  refine Prod.ext (funext fun j => ?_) rfl
  show (if j = 3 then v else (if j = 1 then u else x.1 j)) = if j = 1 then u else (if j = 3 then v else x.1 j)
  by_cases h : j = 3
  · subst h; rfl
  · rw [if_neg h, if_neg h]
section XU
variable {K : Kx} {w : Wd} {a : Nat} {x : XV} {u : CV} {p : Int32 × Int32}
abbrev putU (K : Kx) (w : Wd) (a : Nat) (x : XV) (u : CV) (p : Int32 × Int32) : Wd := putX K w a (xup x u p)
theorem yO : putU K w a x u p a = some (.inr (4, xF a x)) := reg_at (k := 0) rfl
theorem yH : putU K w a x u p (a + 27) = some (.inl (kC K 2, 8, .inr (.inr (.inr (.inr (shRef a)))))) := xH
theorem yE : putU K w a x u p (a + 28) = some (.inl (kC K 0, 5, .inl x.2.2.2.1)) := xE
theorem yEs {f : Nat → Int32} : upW (putU K w a x u p) (a + 28) (.inl (kC K 0, 5, .inl f)) = putU K w a (setRef x f) u p := xEs
theorem yK {y : Int32} : upW (putU K w a x u p) a (.inr (4, (xF a x).set 8 (.int y))) = putU K w a (setKp x y) u p := xK
theorem yP : putU K w a x u p (a + 29) = some (.inr (0, pF p)) := reg_at (k := 29) rfl
theorem yT : putU K w a x u p (a + 25) = some (.inr (3, tF (a + 25) x.2.1)) := reg_at (k := 25) rfl
theorem yTA : putU K w a x u p (a + 26) = some (.inl (kC K 0, 250, .inl x.2.1.1)) := reg_at (k := 26) rfl
theorem yTe : putU K w a x u p = putT K (putU K w a x u p) (a + 25) x.2.1 := xT
theorem yTs {t : TV} : putT K (putU K w a x u p) (a + 25) t = putU K w a (setT x t) u p := xTs
theorem yS {i : Nat} (hi : i < 8) : putU K w a x u p (a + (30 + 2 * i)) = some (.inr (2, sF (a + (30 + 2 * i)) (x.2.2.1 i))) := by
  show putX K w a (xup x u p) _ = _
  rw [xS i hi]; exact shO
theorem ySA {i : Nat} (hi : i < 8) : putU K w a x u p (a + (30 + 2 * i) + 1) = some (.inl (kC K 1, 40, .inr (.inl (x.2.2.1 i).1))) := by
  show putX K w a (xup x u p) _ = _
  rw [xS i hi]; exact shA
theorem ySe {i : Nat} (hi : i < 8) : putU K w a x u p = putS K (putU K w a x u p) (a + (30 + 2 * i)) (x.2.2.1 i) := xS i hi
theorem ySs {i : Nat} (hi : i < 8) {v : SV} : putS K (putU K w a x u p) (a + (30 + 2 * i)) v = putU K w a (setSh x i v) u p := xSs i hi
theorem yPe : putU K w a x u p = putP (putU K w a x u p) (a + 29) p := xP
theorem yPs {q : Int32 × Int32} : putP (putU K w a x u p) (a + 29) q = putU K w a x u q := xPs
theorem yR0 : putU K w a x u p = putR K (putU K w a x u p) (a + 1) (x.1 0) := xR 0 (by decide)
theorem yRs0 {v : CV} : putR K (putU K w a x u p) (a + 1) v = putU K w a (setR x 0 v) u p := (xRs 0 (by decide)).trans (congrArg (putX K w a) xup_0)
theorem yO0 : putU K w a x u p (a + 1) = some (.inr (1, rF (a + 1) (x.1 0))) := reg_at (k := 1) rfl
theorem yP0_0 {y : Int32} : upW (putU K w a x u p) (a + 1) (.inr (1, (rF (a + 1) (x.1 0)).set 5 (.int y))) = putU K w a (setR x 0 (upd (x.1 0).1 0 y, (x.1 0).2)) u p := (congrArg (fun z => upW z (a + 1) _) yR0).trans (rP0.trans yRs0)
theorem yP0_1 {y : Int32} : upW (putU K w a x u p) (a + 1) (.inr (1, (rF (a + 1) (x.1 0)).set 6 (.int y))) = putU K w a (setR x 0 (upd (x.1 0).1 1 y, (x.1 0).2)) u p := (congrArg (fun z => upW z (a + 1) _) yR0).trans (rP1.trans yRs0)
theorem yP0_2 {y : Int32} : upW (putU K w a x u p) (a + 1) (.inr (1, (rF (a + 1) (x.1 0)).set 7 (.int y))) = putU K w a (setR x 0 (upd (x.1 0).1 2 y, (x.1 0).2)) u p := (congrArg (fun z => upW z (a + 1) _) yR0).trans (rP2.trans yRs0)
theorem yP0_3 {y : Int32} : upW (putU K w a x u p) (a + 1) (.inr (1, (rF (a + 1) (x.1 0)).set 8 (.int y))) = putU K w a (setR x 0 (upd (x.1 0).1 3 y, (x.1 0).2)) u p := (congrArg (fun z => upW z (a + 1) _) yR0).trans (rP3.trans yRs0)
theorem yP0_4 {y : Int32} : upW (putU K w a x u p) (a + 1) (.inr (1, (rF (a + 1) (x.1 0)).set 9 (.int y))) = putU K w a (setR x 0 (upd (x.1 0).1 4 y, (x.1 0).2)) u p := (congrArg (fun z => upW z (a + 1) _) yR0).trans (rP4.trans yRs0)
theorem yP0_5 {y : Int32} : upW (putU K w a x u p) (a + 1) (.inr (1, (rF (a + 1) (x.1 0)).set 10 (.int y))) = putU K w a (setR x 0 (upd (x.1 0).1 5 y, (x.1 0).2)) u p := (congrArg (fun z => upW z (a + 1) _) yR0).trans (rP5.trans yRs0)
theorem yP0_6 {y : Int32} : upW (putU K w a x u p) (a + 1) (.inr (1, (rF (a + 1) (x.1 0)).set 11 (.int y))) = putU K w a (setR x 0 (upd (x.1 0).1 6 y, (x.1 0).2)) u p := (congrArg (fun z => upW z (a + 1) _) yR0).trans (rP6.trans yRs0)
theorem yP0_7 {y : Int32} : upW (putU K w a x u p) (a + 1) (.inr (1, (rF (a + 1) (x.1 0)).set 12 (.int y))) = putU K w a (setR x 0 (upd (x.1 0).1 7 y, (x.1 0).2)) u p := (congrArg (fun z => upW z (a + 1) _) yR0).trans (rP7.trans yRs0)
theorem yP0_8 {y : Int32} : upW (putU K w a x u p) (a + 1) (.inr (1, (rF (a + 1) (x.1 0)).set 13 (.int y))) = putU K w a (setR x 0 (upd (x.1 0).1 8 y, (x.1 0).2)) u p := (congrArg (fun z => upW z (a + 1) _) yR0).trans (rP8.trans yRs0)
theorem yP0_9 {y : Int32} : upW (putU K w a x u p) (a + 1) (.inr (1, (rF (a + 1) (x.1 0)).set 14 (.int y))) = putU K w a (setR x 0 (upd (x.1 0).1 9 y, (x.1 0).2)) u p := (congrArg (fun z => upW z (a + 1) _) yR0).trans (rP9.trans yRs0)
theorem yP0_10 {y : Int32} : upW (putU K w a x u p) (a + 1) (.inr (1, (rF (a + 1) (x.1 0)).set 15 (.int y))) = putU K w a (setR x 0 (upd (x.1 0).1 10 y, (x.1 0).2)) u p := (congrArg (fun z => upW z (a + 1) _) yR0).trans (rP10.trans yRs0)
theorem yP0_11 {y : Int32} : upW (putU K w a x u p) (a + 1) (.inr (1, (rF (a + 1) (x.1 0)).set 16 (.int y))) = putU K w a (setR x 0 (upd (x.1 0).1 11 y, (x.1 0).2)) u p := (congrArg (fun z => upW z (a + 1) _) yR0).trans (rP11.trans yRs0)
theorem yP0_12 {y : Int32} : upW (putU K w a x u p) (a + 1) (.inr (1, (rF (a + 1) (x.1 0)).set 17 (.int y))) = putU K w a (setR x 0 (upd (x.1 0).1 12 y, (x.1 0).2)) u p := (congrArg (fun z => upW z (a + 1) _) yR0).trans (rP12.trans yRs0)
theorem yA0_0 : putU K w a x u p (a + 1 + 1) = some (.inl (kC K 0, 10, .inl ((x.1 0).2 0))) := reg_at (k := 2) rfl
theorem yS0_0 {q : Nat} {y : Int32} : upW (putU K w a x u p) (a + 1 + 1) (.inl (kC K 0, 10, .inl (upd ((x.1 0).2 0) q y))) = putU K w a (setR x 0 ((x.1 0).1, upA (x.1 0).2 0 (upd ((x.1 0).2 0) q y))) u p := (congrArg (fun z => upW z (a + 1 + 1) _) yR0).trans (rS0.trans yRs0)
theorem yA0_1 : putU K w a x u p (a + 1 + 2) = some (.inl (kC K 0, 10, .inl ((x.1 0).2 1))) := reg_at (k := 3) rfl
theorem yS0_1 {q : Nat} {y : Int32} : upW (putU K w a x u p) (a + 1 + 2) (.inl (kC K 0, 10, .inl (upd ((x.1 0).2 1) q y))) = putU K w a (setR x 0 ((x.1 0).1, upA (x.1 0).2 1 (upd ((x.1 0).2 1) q y))) u p := (congrArg (fun z => upW z (a + 1 + 2) _) yR0).trans (rS1.trans yRs0)
theorem yA0_2 : putU K w a x u p (a + 1 + 3) = some (.inl (kC K 0, 10, .inl ((x.1 0).2 2))) := reg_at (k := 4) rfl
theorem yS0_2 {q : Nat} {y : Int32} : upW (putU K w a x u p) (a + 1 + 3) (.inl (kC K 0, 10, .inl (upd ((x.1 0).2 2) q y))) = putU K w a (setR x 0 ((x.1 0).1, upA (x.1 0).2 2 (upd ((x.1 0).2 2) q y))) u p := (congrArg (fun z => upW z (a + 1 + 3) _) yR0).trans (rS2.trans yRs0)
theorem yA0_3 : putU K w a x u p (a + 1 + 4) = some (.inl (kC K 0, 10, .inl ((x.1 0).2 3))) := reg_at (k := 5) rfl
theorem yS0_3 {q : Nat} {y : Int32} : upW (putU K w a x u p) (a + 1 + 4) (.inl (kC K 0, 10, .inl (upd ((x.1 0).2 3) q y))) = putU K w a (setR x 0 ((x.1 0).1, upA (x.1 0).2 3 (upd ((x.1 0).2 3) q y))) u p := (congrArg (fun z => upW z (a + 1 + 4) _) yR0).trans (rS3.trans yRs0)
theorem yA0_4 : putU K w a x u p (a + 1 + 5) = some (.inl (kC K 0, 4, .inl ((x.1 0).2 4))) := reg_at (k := 6) rfl
theorem yS0_4 {q : Nat} {y : Int32} : upW (putU K w a x u p) (a + 1 + 5) (.inl (kC K 0, 4, .inl (upd ((x.1 0).2 4) q y))) = putU K w a (setR x 0 ((x.1 0).1, upA (x.1 0).2 4 (upd ((x.1 0).2 4) q y))) u p := (congrArg (fun z => upW z (a + 1 + 5) _) yR0).trans (rS4.trans yRs0)
theorem yR1 : putU K w a x u p = putR K (putU K w a x u p) (a + 7) u := xR 1 (by decide)
theorem yRs1 {v : CV} : putR K (putU K w a x u p) (a + 7) v = putU K w a x v p := (xRs 1 (by decide)).trans (congrArg (putX K w a) xup_1)
theorem yO1 : putU K w a x u p (a + 7) = some (.inr (1, rF (a + 7) u)) := reg_at (k := 7) rfl
theorem yP1_0 {y : Int32} : upW (putU K w a x u p) (a + 7) (.inr (1, (rF (a + 7) u).set 5 (.int y))) = putU K w a x (upd u.1 0 y, u.2) p := (congrArg (fun z => upW z (a + 7) _) yR1).trans (rP0.trans yRs1)
theorem yP1_1 {y : Int32} : upW (putU K w a x u p) (a + 7) (.inr (1, (rF (a + 7) u).set 6 (.int y))) = putU K w a x (upd u.1 1 y, u.2) p := (congrArg (fun z => upW z (a + 7) _) yR1).trans (rP1.trans yRs1)
theorem yP1_2 {y : Int32} : upW (putU K w a x u p) (a + 7) (.inr (1, (rF (a + 7) u).set 7 (.int y))) = putU K w a x (upd u.1 2 y, u.2) p := (congrArg (fun z => upW z (a + 7) _) yR1).trans (rP2.trans yRs1)
theorem yP1_3 {y : Int32} : upW (putU K w a x u p) (a + 7) (.inr (1, (rF (a + 7) u).set 8 (.int y))) = putU K w a x (upd u.1 3 y, u.2) p := (congrArg (fun z => upW z (a + 7) _) yR1).trans (rP3.trans yRs1)
theorem yP1_4 {y : Int32} : upW (putU K w a x u p) (a + 7) (.inr (1, (rF (a + 7) u).set 9 (.int y))) = putU K w a x (upd u.1 4 y, u.2) p := (congrArg (fun z => upW z (a + 7) _) yR1).trans (rP4.trans yRs1)
theorem yP1_5 {y : Int32} : upW (putU K w a x u p) (a + 7) (.inr (1, (rF (a + 7) u).set 10 (.int y))) = putU K w a x (upd u.1 5 y, u.2) p := (congrArg (fun z => upW z (a + 7) _) yR1).trans (rP5.trans yRs1)
theorem yP1_6 {y : Int32} : upW (putU K w a x u p) (a + 7) (.inr (1, (rF (a + 7) u).set 11 (.int y))) = putU K w a x (upd u.1 6 y, u.2) p := (congrArg (fun z => upW z (a + 7) _) yR1).trans (rP6.trans yRs1)
theorem yP1_7 {y : Int32} : upW (putU K w a x u p) (a + 7) (.inr (1, (rF (a + 7) u).set 12 (.int y))) = putU K w a x (upd u.1 7 y, u.2) p := (congrArg (fun z => upW z (a + 7) _) yR1).trans (rP7.trans yRs1)
theorem yP1_8 {y : Int32} : upW (putU K w a x u p) (a + 7) (.inr (1, (rF (a + 7) u).set 13 (.int y))) = putU K w a x (upd u.1 8 y, u.2) p := (congrArg (fun z => upW z (a + 7) _) yR1).trans (rP8.trans yRs1)
theorem yP1_9 {y : Int32} : upW (putU K w a x u p) (a + 7) (.inr (1, (rF (a + 7) u).set 14 (.int y))) = putU K w a x (upd u.1 9 y, u.2) p := (congrArg (fun z => upW z (a + 7) _) yR1).trans (rP9.trans yRs1)
theorem yP1_10 {y : Int32} : upW (putU K w a x u p) (a + 7) (.inr (1, (rF (a + 7) u).set 15 (.int y))) = putU K w a x (upd u.1 10 y, u.2) p := (congrArg (fun z => upW z (a + 7) _) yR1).trans (rP10.trans yRs1)
theorem yP1_11 {y : Int32} : upW (putU K w a x u p) (a + 7) (.inr (1, (rF (a + 7) u).set 16 (.int y))) = putU K w a x (upd u.1 11 y, u.2) p := (congrArg (fun z => upW z (a + 7) _) yR1).trans (rP11.trans yRs1)
theorem yP1_12 {y : Int32} : upW (putU K w a x u p) (a + 7) (.inr (1, (rF (a + 7) u).set 17 (.int y))) = putU K w a x (upd u.1 12 y, u.2) p := (congrArg (fun z => upW z (a + 7) _) yR1).trans (rP12.trans yRs1)
theorem yA1_0 : putU K w a x u p (a + 7 + 1) = some (.inl (kC K 0, 10, .inl (u.2 0))) := reg_at (k := 8) rfl
theorem yS1_0 {q : Nat} {y : Int32} : upW (putU K w a x u p) (a + 7 + 1) (.inl (kC K 0, 10, .inl (upd (u.2 0) q y))) = putU K w a x (u.1, upA u.2 0 (upd (u.2 0) q y)) p := (congrArg (fun z => upW z (a + 7 + 1) _) yR1).trans (rS0.trans yRs1)
theorem yA1_1 : putU K w a x u p (a + 7 + 2) = some (.inl (kC K 0, 10, .inl (u.2 1))) := reg_at (k := 9) rfl
theorem yS1_1 {q : Nat} {y : Int32} : upW (putU K w a x u p) (a + 7 + 2) (.inl (kC K 0, 10, .inl (upd (u.2 1) q y))) = putU K w a x (u.1, upA u.2 1 (upd (u.2 1) q y)) p := (congrArg (fun z => upW z (a + 7 + 2) _) yR1).trans (rS1.trans yRs1)
theorem yA1_2 : putU K w a x u p (a + 7 + 3) = some (.inl (kC K 0, 10, .inl (u.2 2))) := reg_at (k := 10) rfl
theorem yS1_2 {q : Nat} {y : Int32} : upW (putU K w a x u p) (a + 7 + 3) (.inl (kC K 0, 10, .inl (upd (u.2 2) q y))) = putU K w a x (u.1, upA u.2 2 (upd (u.2 2) q y)) p := (congrArg (fun z => upW z (a + 7 + 3) _) yR1).trans (rS2.trans yRs1)
theorem yA1_3 : putU K w a x u p (a + 7 + 4) = some (.inl (kC K 0, 10, .inl (u.2 3))) := reg_at (k := 11) rfl
theorem yS1_3 {q : Nat} {y : Int32} : upW (putU K w a x u p) (a + 7 + 4) (.inl (kC K 0, 10, .inl (upd (u.2 3) q y))) = putU K w a x (u.1, upA u.2 3 (upd (u.2 3) q y)) p := (congrArg (fun z => upW z (a + 7 + 4) _) yR1).trans (rS3.trans yRs1)
theorem yA1_4 : putU K w a x u p (a + 7 + 5) = some (.inl (kC K 0, 4, .inl (u.2 4))) := reg_at (k := 12) rfl
theorem yS1_4 {q : Nat} {y : Int32} : upW (putU K w a x u p) (a + 7 + 5) (.inl (kC K 0, 4, .inl (upd (u.2 4) q y))) = putU K w a x (u.1, upA u.2 4 (upd (u.2 4) q y)) p := (congrArg (fun z => upW z (a + 7 + 5) _) yR1).trans (rS4.trans yRs1)
theorem yR2 : putU K w a x u p = putR K (putU K w a x u p) (a + 13) (x.1 2) := xR 2 (by decide)
theorem yRs2 {v : CV} : putR K (putU K w a x u p) (a + 13) v = putU K w a (setR x 2 v) u p := (xRs 2 (by decide)).trans (congrArg (putX K w a) xup_2)
theorem yO2 : putU K w a x u p (a + 13) = some (.inr (1, rF (a + 13) (x.1 2))) := reg_at (k := 13) rfl
theorem yR3 : putU K w a x u p = putR K (putU K w a x u p) (a + 19) (x.1 3) := xR 3 (by decide)
theorem yRs3 {v : CV} : putR K (putU K w a x u p) (a + 19) v = putU K w a (setR x 3 v) u p := (xRs 3 (by decide)).trans (congrArg (putX K w a) xup_3)
theorem yO3 : putU K w a x u p (a + 19) = some (.inr (1, rF (a + 19) (x.1 3))) := reg_at (k := 19) rfl
variable {M : Md} {d sz : Nat} {as : List Value}
/-- a call on now that leaves it as it is -/
theorem Sp.n0i {r : Int32} (h : ∀ W, Sp K M d 0 0 as (putR K W (a + 1) (x.1 0)) sz (Qi fun r' w' sz' => r' = r ∧ w' = putR K W (a + 1) (x.1 0) ∧ sz' = sz)) : Sp K M d 0 0 as (putU K w a x u p) sz (Qi fun r' w' sz' => r' = r ∧ w' = putU K w a x u p ∧ sz' = sz) :=
  (Sp.eqW yR0 (h _)).mono fun _ _ _ ⟨y, e, e1, e2, e3⟩ => ⟨y, e, e1, e2.trans yR0.symm, e3⟩
theorem Sp.n0c {r : Int32} {v : CV} (h : ∀ W, Sp K M d 0 0 as (putR K W (a + 1) (x.1 0)) sz (Qi fun r' w' sz' => r' = r ∧ w' = putR K W (a + 1) v ∧ sz' = sz)) : Sp K M d 0 0 as (putU K w a x u p) sz (Qi fun r' w' sz' => r' = r ∧ w' = putU K w a (setR x 0 v) u p ∧ sz' = sz) :=
  (Sp.eqW yR0 (h _)).mono fun _ _ _ ⟨y, e, e1, e2, e3⟩ => ⟨y, e, e1, e2.trans yRs0, e3⟩
theorem Sp.n0v {v : CV} (h : ∀ W, Sp K M d 0 0 as (putR K W (a + 1) (x.1 0)) sz (Qv fun w' sz' => w' = putR K W (a + 1) v ∧ sz' = sz)) : Sp K M d 0 0 as (putU K w a x u p) sz (Qv fun w' sz' => w' = putU K w a (setR x 0 v) u p ∧ sz' = sz) :=
  (Sp.eqW yR0 (h _)).mono fun _ _ _ ⟨e, e2, e3⟩ => ⟨e, e2.trans yRs0, e3⟩
theorem Sp.n1i {r : Int32} {v : CV} (h : ∀ W, Sp K M d 0 0 as (putR K W (a + 7) u) sz (Qi fun r' w' sz' => r' = r ∧ w' = putR K W (a + 7) v ∧ sz' = sz)) : Sp K M d 0 0 as (putU K w a x u p) sz (Qi fun r' w' sz' => r' = r ∧ w' = putU K w a x v p ∧ sz' = sz) :=
  (Sp.eqW yR1 (h _)).mono fun _ _ _ ⟨y, e, e1, e2, e3⟩ => ⟨y, e, e1, e2.trans yRs1, e3⟩
theorem Sp.n1v {v : CV} (h : ∀ W, Sp K M d 0 0 as (putR K W (a + 7) u) sz (Qv fun w' sz' => w' = putR K W (a + 7) v ∧ sz' = sz)) : Sp K M d 0 0 as (putU K w a x u p) sz (Qv fun w' sz' => w' = putU K w a x v p ∧ sz' = sz) :=
  (Sp.eqW yR1 (h _)).mono fun _ _ _ ⟨e, e2, e3⟩ => ⟨e, e2.trans yRs1, e3⟩
theorem Sp.pv {q : Int32 × Int32} (h : ∀ W, Sp K M d 0 0 as (putP W (a + 29) p) sz (Qv fun w' sz' => w' = putP W (a + 29) q ∧ sz' = sz)) : Sp K M d 0 0 as (putU K w a x u p) sz (Qv fun w' sz' => w' = putU K w a x u q ∧ sz' = sz) :=
  (Sp.eqW yPe (h _)).mono fun _ _ _ ⟨e, e2, e3⟩ => ⟨e, e2.trans yPs, e3⟩
theorem Sp.shi {r : Int32} {i : Nat} (hi : i < 8) (h : ∀ W, Sp K M d 0 0 as (putS K W (a + (30 + 2 * i)) (x.2.2.1 i)) sz (Qi fun r' w' sz' => r' = r ∧ w' = putS K W (a + (30 + 2 * i)) (x.2.2.1 i) ∧ sz' = sz)) : Sp K M d 0 0 as (putU K w a x u p) sz (Qi fun r' w' sz' => r' = r ∧ w' = putU K w a x u p ∧ sz' = sz) :=
  (Sp.eqW (ySe hi) (h _)).mono fun _ _ _ ⟨y, e, e1, e2, e3⟩ => ⟨y, e, e1, e2.trans (ySe hi).symm, e3⟩
theorem Sp.shv {v : SV} {i : Nat} (hi : i < 8) (h : ∀ W, Sp K M d 0 0 as (putS K W (a + (30 + 2 * i)) (x.2.2.1 i)) sz (Qv fun w' sz' => w' = putS K W (a + (30 + 2 * i)) v ∧ sz' = sz)) : Sp K M d 0 0 as (putU K w a x u p) sz (Qv fun w' sz' => w' = putU K w a (setSh x i v) u p ∧ sz' = sz) :=
  (Sp.eqW (ySe hi) (h _)).mono fun _ _ _ ⟨e, e2, e3⟩ => ⟨e, e2.trans (ySs hi), e3⟩
theorem Sp.ti {r : Int32} {t : TV} (h : ∀ W, Sp K M d 0 0 as (putT K W (a + 25) x.2.1) sz (Qi fun r' w' sz' => r' = r ∧ w' = putT K W (a + 25) t ∧ sz' = sz)) : Sp K M d 0 0 as (putU K w a x u p) sz (Qi fun r' w' sz' => r' = r ∧ w' = putU K w a (setT x t) u p ∧ sz' = sz) :=
  (Sp.eqW yTe (h _)).mono fun _ _ _ ⟨y, e, e1, e2, e3⟩ => ⟨y, e, e1, e2.trans yTs, e3⟩
/-- thought becomes as now is -/
theorem Sp.tk : Sp K mX1_takeFrom 1 0 0 [.ref (a + 7), .ref (a + 1)] (putU K w a x u p) sz (Qv fun w' sz' => w' = putU K w a x (x.1 0) p ∧ sz' = sz) :=
  (Sp.eqW (xRR 1 0 (by decide) (by decide)) (s_X1_takeFrom (putU K w a x u p) (a + 7) (a + 1) sz u (x.1 0) (ap6_x (i := 1) (j := 0) (by decide)))).mono fun _ _ _ ⟨e, e2, e3⟩ => ⟨e, e2.trans ((xRRs 1 0 (by decide) (by decide)).trans (congrArg (putX K w a) xup_1)), e3⟩
/-- kept becomes as now is; now as kept is; ahead as now is; now as ahead is -/
theorem Sp.tk20 : Sp K mX1_takeFrom 1 0 0 [.ref (a + 13), .ref (a + 1)] (putU K w a x u p) sz (Qv fun w' sz' => w' = putU K w a (setR x 2 (x.1 0)) u p ∧ sz' = sz) :=
  (Sp.eqW (xRR 2 0 (by decide) (by decide)) (s_X1_takeFrom (putU K w a x u p) (a + 13) (a + 1) sz (x.1 2) (x.1 0) (ap6_x (i := 2) (j := 0) (by decide)))).mono fun _ _ _ ⟨e, e2, e3⟩ => ⟨e, e2.trans ((xRRs 2 0 (by decide) (by decide)).trans (congrArg (putX K w a) xup_2)), e3⟩
theorem Sp.tk02 : Sp K mX1_takeFrom 1 0 0 [.ref (a + 1), .ref (a + 13)] (putU K w a x u p) sz (Qv fun w' sz' => w' = putU K w a (setR x 0 (x.1 2)) u p ∧ sz' = sz) :=
  (Sp.eqW (xRR 0 2 (by decide) (by decide)) (s_X1_takeFrom (putU K w a x u p) (a + 1) (a + 13) sz (x.1 0) (x.1 2) (ap6_x (i := 0) (j := 2) (by decide)))).mono fun _ _ _ ⟨e, e2, e3⟩ => ⟨e, e2.trans ((xRRs 0 2 (by decide) (by decide)).trans (congrArg (putX K w a) xup_0)), e3⟩
theorem Sp.tk30 : Sp K mX1_takeFrom 1 0 0 [.ref (a + 19), .ref (a + 1)] (putU K w a x u p) sz (Qv fun w' sz' => w' = putU K w a (setR x 3 (x.1 0)) u p ∧ sz' = sz) :=
  (Sp.eqW (xRR 3 0 (by decide) (by decide)) (s_X1_takeFrom (putU K w a x u p) (a + 19) (a + 1) sz (x.1 3) (x.1 0) (ap6_x (i := 3) (j := 0) (by decide)))).mono fun _ _ _ ⟨e, e2, e3⟩ => ⟨e, e2.trans ((xRRs 3 0 (by decide) (by decide)).trans (congrArg (putX K w a) xup_3)), e3⟩
theorem Sp.tk03 : Sp K mX1_takeFrom 1 0 0 [.ref (a + 1), .ref (a + 19)] (putU K w a x u p) sz (Qv fun w' sz' => w' = putU K w a (setR x 0 (x.1 3)) u p ∧ sz' = sz) :=
  (Sp.eqW (xRR 0 3 (by decide) (by decide)) (s_X1_takeFrom (putU K w a x u p) (a + 1) (a + 19) sz (x.1 0) (x.1 3) (ap6_x (i := 0) (j := 3) (by decide)))).mono fun _ _ _ ⟨e, e2, e3⟩ => ⟨e, e2.trans ((xRRs 0 3 (by decide) (by decide)).trans (congrArg (putX K w a) xup_0)), e3⟩
end XU
