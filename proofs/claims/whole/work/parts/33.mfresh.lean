/-! a model that is tried -/
theorem f0M_d : ∀ j, j < 42 → defaultValue (tyOf 5 j) = vp_V f0M j := fun j hj => by
  rcases (show j = 0 ∨ j = 1 ∨ j = 2 ∨ j = 3 ∨ j = 4 ∨ j = 5 ∨ j = 6 ∨ j = 7 ∨ j = 8 ∨ j = 9 ∨ j = 10 ∨ j = 11 ∨ j = 12 ∨ j = 13 ∨ j = 14 ∨ j = 15 ∨ j = 16 ∨ j = 17 ∨ j = 18 ∨ j = 19 ∨ j = 20 ∨ j = 21 ∨ j = 22 ∨ j = 23 ∨ j = 24 ∨ j = 25 ∨ j = 26 ∨ j = 27 ∨ j = 28 ∨ j = 29 ∨ j = 30 ∨ j = 31 ∨ j = 32 ∨ j = 33 ∨ j = 34 ∨ j = 35 ∨ j = 36 ∨ j = 37 ∨ j = 38 ∨ j = 39 ∨ j = 40 ∨ j = 41 by omega) with rfl | rfl | rfl | rfl | rfl | rfl | rfl | rfl | rfl | rfl | rfl | rfl | rfl | rfl | rfl | rfl | rfl | rfl | rfl | rfl | rfl | rfl | rfl | rfl | rfl | rfl | rfl | rfl | rfl | rfl | rfl | rfl | rfl | rfl | rfl | rfl | rfl | rfl | rfl | rfl | rfl | rfl <;> rfl
/-- the world with the model at q, if there is one -/
def tw (K : Kx) (w : Wd) (t : Option Nat) (z : MX) : Wd := match t with
  | none => w
  | some q => putM K w q z
abbrev M5 : Type := (Nat → Int32) × (Nat → Nat → Int32) × (Nat → Nat → Int64) × (Nat → Int64) × Option Nat
/-- all but tried, and tried -/
abbrev wt (e : M5) (t : Option Nat) : ME := (e.1, e.2.1, e.2.2.1, e.2.2.2.1, e.2.2.2.2, t)
def kc (t : Option Nat) : Nat := match t with
  | none => 25
  | some _ => 0
def ks (t : Option Nat) : Nat := match t with
  | none => 755
  | some _ => 0
/-- apart, and in G: the caller chooses what G says of where a tried one may lie -/
def apG (G : Nat → Prop) (q b : Nat) : Prop := ap25 q b ∧ G q
/-- b is old; what is tried lies apart from it -/
def tOk (G : Nat → Prop) (b sz : Nat) (t : Option Nat) : Prop := (b + 25 ≤ sz ∧ ∀ n, sz ≤ n → G n) ∧ ∀ q, t = some q → apG G q b
variable {G : Nat → Prop}
theorem ap25.symm {a b : Nat} (h : ap25 a b) : ap25 b a := Or.symm h
section TK
variable {K : Kx} {w : Wd} {b q sz : Nat} {v u v' : CV} {E E2 E' : ME} {M : Md} {d : Nat} {as : List Value} {r : Int32}
theorem m_sw (h : ap25 q b) {y z : MX} : putM K (putM K w q z) b y = putM K (putM K w b y) q z := m_swap (Or.symm h)
/-- the tried one becomes as the main one is -/
theorem Sp.tkM (h : apG G q b) : Sp K mX5_takeFrom 1 0 0 [.ref q, .ref b] (putM K (putM K w q (u, E2)) b (v, E)) sz (Qv fun w' sz' => w' = putM K (putM K w q (v, E2)) b (v, E) ∧ sz' = sz) :=
  (Sp.eqW (m_sw h.1) (s_X5_takeFrom w q b sz u v E2 E h.1.symm)).mono fun _ _ _ ⟨e, e2, e3⟩ => ⟨e, e2.trans (m_sw h.1).symm, e3⟩
/-- the main one becomes as the tried one is -/
theorem Sp.tkB (h : apG G q b) : Sp K mX5_takeFrom 1 0 0 [.ref b, .ref q] (putM K (putM K w q (u, E2)) b (v, E)) sz (Qv fun w' sz' => w' = putM K (putM K w q (u, E2)) b (u, E) ∧ sz' = sz) := s_X5_takeFrom w b q sz v u E E2 h.1
/-- a call on the tried one -/
theorem Sp.mi (h : apG G q b) (hS : ∀ W, Sp K M d 0 0 as (putM K W q (u, E2)) sz (Qi fun r' w' sz' => r' = r ∧ w' = putM K W q (v', E') ∧ sz' = sz)) : Sp K M d 0 0 as (putM K (putM K w q (u, E2)) b (v, E)) sz (Qi fun r' w' sz' => r' = r ∧ w' = putM K (putM K w q (v', E')) b (v, E) ∧ sz' = sz) :=
  (Sp.eqW (m_sw h.1) (hS _)).mono fun _ _ _ ⟨y, e, e1, e2, e3⟩ => ⟨y, e, e1, e2.trans (m_sw h.1).symm, e3⟩
theorem Sp.mv (h : apG G q b) (hS : ∀ W, Sp K M d 0 0 as (putM K W q (u, E2)) sz (Qv fun w' sz' => w' = putM K W q (v', E') ∧ sz' = sz)) : Sp K M d 0 0 as (putM K (putM K w q (u, E2)) b (v, E)) sz (Qv fun w' sz' => w' = putM K (putM K w q (v', E')) b (v, E) ∧ sz' = sz) :=
  (Sp.eqW (m_sw h.1) (hS _)).mono fun _ _ _ ⟨e, e2, e3⟩ => ⟨e, e2.trans (m_sw h.1).symm, e3⟩
theorem tO (h : apG G q b) : putM K (putM K w q (u, E2)) b (v, E) q = some (.inr (5, mF q (u, E2))) := m2O h.1
theorem tA0 (h : apG G q b) : putM K (putM K w q (u, E2)) b (v, E) (q + 17) = some (.inl (kC K 0, 10, .inl (u.2 0))) := m2A0 h.1
theorem tK0 (h : apG G q b) {f : Nat → Int32} : upW (putM K (putM K w q (u, E2)) b (v, E)) (q + 17) (.inl (kC K 0, 10, .inl f)) = putM K (putM K w q ((u.1, upA u.2 0 f), E2)) b (v, E) := (congrArg (fun z => upW z (q + 17) _) (m_sw h.1)).trans (mK0.trans (m_sw h.1).symm)
theorem tA1 (h : apG G q b) : putM K (putM K w q (u, E2)) b (v, E) (q + 18) = some (.inl (kC K 0, 10, .inl (u.2 1))) := m2A1 h.1
theorem tK1 (h : apG G q b) {f : Nat → Int32} : upW (putM K (putM K w q (u, E2)) b (v, E)) (q + 18) (.inl (kC K 0, 10, .inl f)) = putM K (putM K w q ((u.1, upA u.2 1 f), E2)) b (v, E) := (congrArg (fun z => upW z (q + 18) _) (m_sw h.1)).trans (mK1.trans (m_sw h.1).symm)
theorem tA2 (h : apG G q b) : putM K (putM K w q (u, E2)) b (v, E) (q + 19) = some (.inl (kC K 0, 10, .inl (u.2 2))) := m2A2 h.1
theorem tK2 (h : apG G q b) {f : Nat → Int32} : upW (putM K (putM K w q (u, E2)) b (v, E)) (q + 19) (.inl (kC K 0, 10, .inl f)) = putM K (putM K w q ((u.1, upA u.2 2 f), E2)) b (v, E) := (congrArg (fun z => upW z (q + 19) _) (m_sw h.1)).trans (mK2.trans (m_sw h.1).symm)
theorem tA3 (h : apG G q b) : putM K (putM K w q (u, E2)) b (v, E) (q + 20) = some (.inl (kC K 0, 10, .inl (u.2 3))) := m2A3 h.1
theorem tK3 (h : apG G q b) {f : Nat → Int32} : upW (putM K (putM K w q (u, E2)) b (v, E)) (q + 20) (.inl (kC K 0, 10, .inl f)) = putM K (putM K w q ((u.1, upA u.2 3 f), E2)) b (v, E) := (congrArg (fun z => upW z (q + 20) _) (m_sw h.1)).trans (mK3.trans (m_sw h.1).symm)
theorem tA4 (h : apG G q b) : putM K (putM K w q (u, E2)) b (v, E) (q + 21) = some (.inl (kC K 0, 4, .inl (u.2 4))) := m2A4 h.1
theorem tK4 (h : apG G q b) {f : Nat → Int32} : upW (putM K (putM K w q (u, E2)) b (v, E)) (q + 21) (.inl (kC K 0, 4, .inl f)) = putM K (putM K w q ((u.1, upA u.2 4 f), E2)) b (v, E) := (congrArg (fun z => upW z (q + 21) _) (m_sw h.1)).trans (mK4.trans (m_sw h.1).symm)
theorem tP0 (h : apG G q b) {x : Int32} : upW (putM K (putM K w q (u, E2)) b (v, E)) q (.inr (5, (mF q (u, E2)).set 9 (.int x))) = putM K (putM K w q ((upd u.1 0 x, u.2), E2)) b (v, E) := (congrArg (fun z => upW z q _) (m_sw h.1)).trans (mP0.trans (m_sw h.1).symm)
theorem tP1 (h : apG G q b) {x : Int32} : upW (putM K (putM K w q (u, E2)) b (v, E)) q (.inr (5, (mF q (u, E2)).set 15 (.int x))) = putM K (putM K w q ((upd u.1 1 x, u.2), E2)) b (v, E) := (congrArg (fun z => upW z q _) (m_sw h.1)).trans (mP1.trans (m_sw h.1).symm)
theorem tP2 (h : apG G q b) {x : Int32} : upW (putM K (putM K w q (u, E2)) b (v, E)) q (.inr (5, (mF q (u, E2)).set 16 (.int x))) = putM K (putM K w q ((upd u.1 2 x, u.2), E2)) b (v, E) := (congrArg (fun z => upW z q _) (m_sw h.1)).trans (mP2.trans (m_sw h.1).symm)
theorem tP3 (h : apG G q b) {x : Int32} : upW (putM K (putM K w q (u, E2)) b (v, E)) q (.inr (5, (mF q (u, E2)).set 17 (.int x))) = putM K (putM K w q ((upd u.1 3 x, u.2), E2)) b (v, E) := (congrArg (fun z => upW z q _) (m_sw h.1)).trans (mP3.trans (m_sw h.1).symm)
theorem tP4 (h : apG G q b) {x : Int32} : upW (putM K (putM K w q (u, E2)) b (v, E)) q (.inr (5, (mF q (u, E2)).set 18 (.int x))) = putM K (putM K w q ((upd u.1 4 x, u.2), E2)) b (v, E) := (congrArg (fun z => upW z q _) (m_sw h.1)).trans (mP4.trans (m_sw h.1).symm)
theorem tP5 (h : apG G q b) {x : Int32} : upW (putM K (putM K w q (u, E2)) b (v, E)) q (.inr (5, (mF q (u, E2)).set 19 (.int x))) = putM K (putM K w q ((upd u.1 5 x, u.2), E2)) b (v, E) := (congrArg (fun z => upW z q _) (m_sw h.1)).trans (mP5.trans (m_sw h.1).symm)
theorem tP6 (h : apG G q b) {x : Int32} : upW (putM K (putM K w q (u, E2)) b (v, E)) q (.inr (5, (mF q (u, E2)).set 20 (.int x))) = putM K (putM K w q ((upd u.1 6 x, u.2), E2)) b (v, E) := (congrArg (fun z => upW z q _) (m_sw h.1)).trans (mP6.trans (m_sw h.1).symm)
theorem tP7 (h : apG G q b) {x : Int32} : upW (putM K (putM K w q (u, E2)) b (v, E)) q (.inr (5, (mF q (u, E2)).set 21 (.int x))) = putM K (putM K w q ((upd u.1 7 x, u.2), E2)) b (v, E) := (congrArg (fun z => upW z q _) (m_sw h.1)).trans (mP7.trans (m_sw h.1).symm)
theorem tP8 (h : apG G q b) {x : Int32} : upW (putM K (putM K w q (u, E2)) b (v, E)) q (.inr (5, (mF q (u, E2)).set 22 (.int x))) = putM K (putM K w q ((upd u.1 8 x, u.2), E2)) b (v, E) := (congrArg (fun z => upW z q _) (m_sw h.1)).trans (mP8.trans (m_sw h.1).symm)
theorem tP9 (h : apG G q b) {x : Int32} : upW (putM K (putM K w q (u, E2)) b (v, E)) q (.inr (5, (mF q (u, E2)).set 23 (.int x))) = putM K (putM K w q ((upd u.1 9 x, u.2), E2)) b (v, E) := (congrArg (fun z => upW z q _) (m_sw h.1)).trans (mP9.trans (m_sw h.1).symm)
theorem tP10 (h : apG G q b) {x : Int32} : upW (putM K (putM K w q (u, E2)) b (v, E)) q (.inr (5, (mF q (u, E2)).set 24 (.int x))) = putM K (putM K w q ((upd u.1 10 x, u.2), E2)) b (v, E) := (congrArg (fun z => upW z q _) (m_sw h.1)).trans (mP10.trans (m_sw h.1).symm)
theorem tP11 (h : apG G q b) {x : Int32} : upW (putM K (putM K w q (u, E2)) b (v, E)) q (.inr (5, (mF q (u, E2)).set 25 (.int x))) = putM K (putM K w q ((upd u.1 11 x, u.2), E2)) b (v, E) := (congrArg (fun z => upW z q _) (m_sw h.1)).trans (mP11.trans (m_sw h.1).symm)
theorem tP12 (h : apG G q b) {x : Int32} : upW (putM K (putM K w q (u, E2)) b (v, E)) q (.inr (5, (mF q (u, E2)).set 26 (.int x))) = putM K (putM K w q ((upd u.1 12 x, u.2), E2)) b (v, E) := (congrArg (fun z => upW z q _) (m_sw h.1)).trans (mP12.trans (m_sw h.1).symm)
end TK
set_option maxRecDepth 100000 in
theorem s_fresh_n {K : Kx} (w : Wd) (b sz : Nat) (v : CV) (e : M5) (hb : b + 25 ≤ sz ∧ ∀ n, sz ≤ n → G n) : Sp K mX5_fresh 2 25 755 [.ref b] (putM K w b (v, wt e none)) sz (Qa fun q w' sz' => ∃ z2, w' = putM K (putM K w q (v, z2)) b (v, wt e (some q)) ∧ apG G q b ∧ sz ≤ sz') := by
  refine Sp.ofN [some (.ref b)] rfl rfl rfl (Nat.le_of_ble_eq_true rfl) ?_
  have hd : apG G sz b := ⟨Or.inr hb.1, hb.2 sz (Nat.le_refl _)⟩
  refine N.aload0 dX5_fresh_0 ?_
  refine N.getf (v := .null) dX5_fresh_1 flX5_239 mO rfl ?_
  refine N.ifnonnullN dX5_fresh_4 ?_
  refine N.aload0 dX5_fresh_7 ?_
  refine N.new f0M dX5_fresh_8 (ci := 5) rfl clX5_8 isX5 itX5 f0M_d (Nat.le_of_ble_eq_true rfl) (Nat.le_of_ble_eq_true rfl) ?_
  refine N.eqW cl_1 ?_
  refine N.dup dX5_fresh_11 rfl ?_
  refine N.iv0A dX5_fresh_12 vX5_init lkX5_243 (s_X5_init _ _) rfl (Nat.le_of_ble_eq_true rfl) (Nat.le_of_ble_eq_true rfl) (Nat.le_of_ble_eq_true rfl) (Nat.le_of_ble_eq_true rfl) ?_
  rintro _ _ ⟨rfl, rfl⟩
  refine N.eqW (m_sw hd.1).symm ?_
  refine N.putf dX5_fresh_15 flX5_239 mO (Nat.le_of_ble_eq_true rfl) (fun _ h => by cases h; rfl) rfl rfl (w' := putM K (putM K w sz (v0M, E0M)) b (v, wt e (some sz))) mPt ?_
  refine N.aload0 dX5_fresh_18 ?_
  refine N.getf (v := .ref sz) dX5_fresh_19 flX5_239 mO rfl ?_
  refine N.aload0 dX5_fresh_22 ?_
  refine N.vv1 dX5_fresh_23 vX5_takeFrom lkX5_244 (Sp.tkM hd) (m2O hd.1) rfl (Nat.le_of_ble_eq_true rfl) (Nat.le_of_ble_eq_true rfl) (Nat.le_of_ble_eq_true rfl) (Nat.le_of_ble_eq_true rfl) ?_
  rintro _ _ ⟨rfl, rfl⟩
  refine N.aload0 dX5_fresh_26 ?_
  refine N.getf (v := .ref sz) dX5_fresh_27 flX5_239 mO rfl ?_
  exact N.aret dX5_fresh_30 rfl (Nat.le_of_ble_eq_true rfl) (Nat.le_of_ble_eq_true rfl) ⟨_, rfl, _, rfl, hd, by omega⟩
set_option maxRecDepth 100000 in
theorem s_fresh_s {K : Kx} (w : Wd) (b q0 sz : Nat) (v : CV) (e : M5) (z : MX) (hd : apG G q0 b) : Sp K mX5_fresh 2 0 0 [.ref b] (putM K (putM K w q0 (z.1, z.2)) b (v, wt e (some q0))) sz (Qa fun q w' sz' => ∃ z2, w' = putM K (putM K w q (v, z2)) b (v, wt e (some q)) ∧ apG G q b ∧ sz ≤ sz') := by
  refine Sp.ofN [some (.ref b)] rfl rfl rfl (Nat.le_of_ble_eq_true rfl) ?_
  refine N.aload0 dX5_fresh_0 ?_
  refine N.getf (v := .ref q0) dX5_fresh_1 flX5_239 mO rfl ?_
  refine N.ifnonnull (tgt := 18) dX5_fresh_4 (by decide) ?_
  refine N.aload0 dX5_fresh_18 ?_
  refine N.getf (v := .ref q0) dX5_fresh_19 flX5_239 mO rfl ?_
  refine N.aload0 dX5_fresh_22 ?_
  refine N.vv1 dX5_fresh_23 vX5_takeFrom lkX5_244 (Sp.tkM hd) (m2O hd.1) rfl (Nat.le_of_ble_eq_true rfl) (Nat.le_of_ble_eq_true rfl) (Nat.le_of_ble_eq_true rfl) (Nat.le_of_ble_eq_true rfl) ?_
  rintro _ _ ⟨rfl, rfl⟩
  refine N.aload0 dX5_fresh_26 ?_
  refine N.getf (v := .ref q0) dX5_fresh_27 flX5_239 mO rfl ?_
  exact N.aret dX5_fresh_30 rfl (Nat.le_of_ble_eq_true rfl) (Nat.le_of_ble_eq_true rfl) ⟨_, rfl, _, rfl, hd, by omega⟩
/-- fresh -/
theorem s_X5_fresh {K : Kx} (w : Wd) (b sz : Nat) (v : CV) (e : M5) (t : Option Nat) (z : MX) (h : tOk G b sz t) : Sp K mX5_fresh 2 (kc t) (ks t) [.ref b] (putM K (tw K w t z) b (v, wt e t)) sz (Qa fun q w' sz' => ∃ z2, w' = putM K (putM K w q (v, z2)) b (v, wt e (some q)) ∧ apG G q b ∧ sz ≤ sz') := by
  cases t with
  | none => exact s_fresh_n w b sz v e h.1
  | some q0 => exact s_fresh_s w b q0 sz v e z (h.2 q0 rfl)
