/-! making the class's objects -/
def t0X : TV := (fun _ => 0, fun _ => 0)
def s0X : SV := (fun _ => 0, -1, 0)
def rL (K : Kx) (b : Nat) : List va_E := [.inr (1, rF b v0M), .inl (kC K 0, 10, .inl (v0M.2 0)), .inl (kC K 0, 10, .inl (v0M.2 1)), .inl (kC K 0, 10, .inl (v0M.2 2)), .inl (kC K 0, 10, .inl (v0M.2 3)), .inl (kC K 0, 4, .inl (v0M.2 4))]
theorem rL_c {K : Kx} {b : Nat} : ∀ k, rC K b v0M k = (rL K b)[k]? := by
  intro k
  match k with
  | 0 => rfl
  | 1 => rfl
  | 2 => rfl
  | 3 => rfl
  | 4 => rfl
  | 5 => rfl
  | n + 6 => rfl
theorem tL_c {K : Kx} {b : Nat} : ∀ k, tC K b t0X k = ([.inr (3, tF b t0X), .inl (kC K 0, 250, .inl t0X.1)] : List va_E)[k]? := by
  intro k
  match k with
  | 0 => rfl
  | 1 => rfl
  | n + 2 => rfl
theorem sL_c {K : Kx} {b : Nat} : ∀ k, sC K b s0X k = ([.inr (2, sF b s0X), .inl (kC K 1, 40, .inr (.inl s0X.1))] : List va_E)[k]? := by
  intro k
  match k with
  | 0 => rfl
  | 1 => rfl
  | n + 2 => rfl
theorem pL_c : ∀ k, pC (-1, 0) k = ([.inr (0, pF (-1, 0))] : List va_E)[k]? := by
  intro k
  match k with
  | 0 => rfl
  | n + 1 => rfl
set_option maxRecDepth 100000 in
theorem s_X0_init {K : Kx} (w : Wd) (q : Nat) : Sp K mX0_init 1 0 0 [.ref q] (reg w q (cl [.inr (0, [.int 0, .int 0])])) (q + 1) (Qv fun w' sz' => w' = putP w q (-1, 0) ∧ sz' = q + 1) := by
  refine Sp.ofN [some (.ref q)] rfl rfl rfl (Nat.le_of_ble_eq_true rfl) ?_
  refine N.aload0 dX0_init_0 ?_
  refine N.objInit dX0_init_1 oiX0_3 oiI oiC (Nat.le_of_ble_eq_true rfl) (Nat.le_of_ble_eq_true rfl) ?_
  refine N.aload0 dX0_init_4 ?_
  refine N.iconst (v := -1) dX0_init_5 (by decide) ?_
  refine N.putf dX0_init_6 flX0_9 cl_0 (Nat.le_of_ble_eq_true rfl) (fun _ h => by cases h; rfl) rfl rfl (w' := reg w q (cl [.inr (0, [.int (-1), .int 0])])) cl_set ?_
  refine N.aload0 dX0_init_9 ?_
  refine N.iconst (v := 0) dX0_init_10 (by decide) ?_
  refine N.putf dX0_init_11 flX0_15 cl_0 (Nat.le_of_ble_eq_true rfl) (fun _ h => by cases h; rfl) rfl rfl (w' := reg w q (cl [.inr (0, [.int (-1), .int (0)])])) cl_set ?_
  refine N.eqW (reg_c (c' := pC (-1, 0)) (fun k => ?_)) (N.vret dX0_init_14 rfl (Nat.le_of_ble_eq_true rfl) (Nat.le_of_ble_eq_true rfl) ⟨rfl, rfl, rfl⟩)
  match k with
  | 0 => rfl
  | n + 1 => rfl
set_option maxRecDepth 100000 in
theorem s_X1_init {K : Kx} (w : Wd) (q : Nat) : Sp K mX1_init 1 5 44 [.ref q] (reg w q (cl [.inr (1, [.null, .null, .null, .null, .null, .int 0, .int 0, .int 0, .int 0, .int 0, .int 0, .int 0, .int 0, .int 0, .int 0, .int 0, .int 0, .int 0])])) (q + 1) (Qv fun w' sz' => w' = putR K w q v0M ∧ sz' = q + 6) := by
  refine Sp.ofN [some (.ref q)] rfl rfl rfl (Nat.le_of_ble_eq_true rfl) ?_
  refine N.aload0 dX1_init_0 ?_
  refine N.objInit dX1_init_1 oiX1_3 oiI oiC (Nat.le_of_ble_eq_true rfl) (Nat.le_of_ble_eq_true rfl) ?_
  refine N.aload0 dX1_init_4 ?_
  refine N.bipush (v := 10) dX1_init_5 (by decide) ?_
  refine N.newI (k := 10) dX1_init_7 (by decide) (by decide) (by decide) (Nat.le_of_ble_eq_true rfl) (Nat.le_of_ble_eq_true rfl) ?_
  refine N.eqW (w' := reg w q (cl [.inr (1, [.null, .null, .null, .null, .null, .int 0, .int 0, .int 0, .int 0, .int 0, .int 0, .int 0, .int 0, .int 0, .int 0, .int 0, .int 0, .int 0]), .inl (kC K 0, 10, .inl (fun _ => 0))])) cl_push ?_
  refine N.putF dX1_init_9 (k := 0) ⟨_, _, _, rfl, by decide, gm1 29 (by decide +kernel) rfl, rfl, rfl⟩ rfl cl_0 (Nat.le_of_ble_eq_true rfl) rfl rfl (w' := reg w q (cl [.inr (1, [.ref (q + 1), .null, .null, .null, .null, .int 0, .int 0, .int 0, .int 0, .int 0, .int 0, .int 0, .int 0, .int 0, .int 0, .int 0, .int 0, .int 0]), .inl (kC K 0, 10, .inl (fun _ => 0))])) cl_set ?_
  refine N.aload0 dX1_init_12 ?_
  refine N.bipush (v := 10) dX1_init_13 (by decide) ?_
  refine N.newI (k := 10) dX1_init_15 (by decide) (by decide) (by decide) (Nat.le_of_ble_eq_true rfl) (Nat.le_of_ble_eq_true rfl) ?_
  refine N.eqW (w' := reg w q (cl [.inr (1, [.ref (q + 1), .null, .null, .null, .null, .int 0, .int 0, .int 0, .int 0, .int 0, .int 0, .int 0, .int 0, .int 0, .int 0, .int 0, .int 0, .int 0]), .inl (kC K 0, 10, .inl (fun _ => 0)), .inl (kC K 0, 10, .inl (fun _ => 0))])) cl_push ?_
  refine N.putF dX1_init_17 (k := 1) ⟨_, _, _, rfl, by decide, gm1 31 (by decide +kernel) rfl, rfl, rfl⟩ rfl cl_0 (Nat.le_of_ble_eq_true rfl) rfl rfl (w' := reg w q (cl [.inr (1, [.ref (q + 1), .ref (q + 2), .null, .null, .null, .int 0, .int 0, .int 0, .int 0, .int 0, .int 0, .int 0, .int 0, .int 0, .int 0, .int 0, .int 0, .int 0]), .inl (kC K 0, 10, .inl (fun _ => 0)), .inl (kC K 0, 10, .inl (fun _ => 0))])) cl_set ?_
  refine N.aload0 dX1_init_20 ?_
  refine N.bipush (v := 10) dX1_init_21 (by decide) ?_
  refine N.newI (k := 10) dX1_init_23 (by decide) (by decide) (by decide) (Nat.le_of_ble_eq_true rfl) (Nat.le_of_ble_eq_true rfl) ?_
  refine N.eqW (w' := reg w q (cl [.inr (1, [.ref (q + 1), .ref (q + 2), .null, .null, .null, .int 0, .int 0, .int 0, .int 0, .int 0, .int 0, .int 0, .int 0, .int 0, .int 0, .int 0, .int 0, .int 0]), .inl (kC K 0, 10, .inl (fun _ => 0)), .inl (kC K 0, 10, .inl (fun _ => 0)), .inl (kC K 0, 10, .inl (fun _ => 0))])) cl_push ?_
  refine N.putF dX1_init_25 (k := 2) ⟨_, _, _, rfl, by decide, gm1 33 (by decide +kernel) rfl, rfl, rfl⟩ rfl cl_0 (Nat.le_of_ble_eq_true rfl) rfl rfl (w' := reg w q (cl [.inr (1, [.ref (q + 1), .ref (q + 2), .ref (q + 3), .null, .null, .int 0, .int 0, .int 0, .int 0, .int 0, .int 0, .int 0, .int 0, .int 0, .int 0, .int 0, .int 0, .int 0]), .inl (kC K 0, 10, .inl (fun _ => 0)), .inl (kC K 0, 10, .inl (fun _ => 0)), .inl (kC K 0, 10, .inl (fun _ => 0))])) cl_set ?_
  refine N.aload0 dX1_init_28 ?_
  refine N.bipush (v := 10) dX1_init_29 (by decide) ?_
  refine N.newI (k := 10) dX1_init_31 (by decide) (by decide) (by decide) (Nat.le_of_ble_eq_true rfl) (Nat.le_of_ble_eq_true rfl) ?_
  refine N.eqW (w' := reg w q (cl [.inr (1, [.ref (q + 1), .ref (q + 2), .ref (q + 3), .null, .null, .int 0, .int 0, .int 0, .int 0, .int 0, .int 0, .int 0, .int 0, .int 0, .int 0, .int 0, .int 0, .int 0]), .inl (kC K 0, 10, .inl (fun _ => 0)), .inl (kC K 0, 10, .inl (fun _ => 0)), .inl (kC K 0, 10, .inl (fun _ => 0)), .inl (kC K 0, 10, .inl (fun _ => 0))])) cl_push ?_
  refine N.putF dX1_init_33 (k := 3) ⟨_, _, _, rfl, by decide, gm1 35 (by decide +kernel) rfl, rfl, rfl⟩ rfl cl_0 (Nat.le_of_ble_eq_true rfl) rfl rfl (w' := reg w q (cl [.inr (1, [.ref (q + 1), .ref (q + 2), .ref (q + 3), .ref (q + 4), .null, .int 0, .int 0, .int 0, .int 0, .int 0, .int 0, .int 0, .int 0, .int 0, .int 0, .int 0, .int 0, .int 0]), .inl (kC K 0, 10, .inl (fun _ => 0)), .inl (kC K 0, 10, .inl (fun _ => 0)), .inl (kC K 0, 10, .inl (fun _ => 0)), .inl (kC K 0, 10, .inl (fun _ => 0))])) cl_set ?_
  refine N.aload0 dX1_init_36 ?_
  refine N.iconst (v := 4) dX1_init_37 (by decide) ?_
  refine N.newI (k := 4) dX1_init_38 (by decide) (by decide) (by decide) (Nat.le_of_ble_eq_true rfl) (Nat.le_of_ble_eq_true rfl) ?_
  refine N.eqW (w' := reg w q (cl [.inr (1, [.ref (q + 1), .ref (q + 2), .ref (q + 3), .ref (q + 4), .null, .int 0, .int 0, .int 0, .int 0, .int 0, .int 0, .int 0, .int 0, .int 0, .int 0, .int 0, .int 0, .int 0]), .inl (kC K 0, 10, .inl (fun _ => 0)), .inl (kC K 0, 10, .inl (fun _ => 0)), .inl (kC K 0, 10, .inl (fun _ => 0)), .inl (kC K 0, 10, .inl (fun _ => 0)), .inl (kC K 0, 4, .inl (fun _ => 0))])) cl_push ?_
  refine N.putF dX1_init_40 (k := 4) ⟨_, _, _, rfl, by decide, gm1 37 (by decide +kernel) rfl, rfl, rfl⟩ rfl cl_0 (Nat.le_of_ble_eq_true rfl) rfl rfl (w' := reg w q (cl [.inr (1, [.ref (q + 1), .ref (q + 2), .ref (q + 3), .ref (q + 4), .ref (q + 5), .int 0, .int 0, .int 0, .int 0, .int 0, .int 0, .int 0, .int 0, .int 0, .int 0, .int 0, .int 0, .int 0]), .inl (kC K 0, 10, .inl (fun _ => 0)), .inl (kC K 0, 10, .inl (fun _ => 0)), .inl (kC K 0, 10, .inl (fun _ => 0)), .inl (kC K 0, 10, .inl (fun _ => 0)), .inl (kC K 0, 4, .inl (fun _ => 0))])) cl_set ?_
  refine N.aload0 dX1_init_43 ?_
  refine N.iconst (v := 0) dX1_init_44 (by decide) ?_
  refine N.putf dX1_init_45 flX1_27 cl_0 (Nat.le_of_ble_eq_true rfl) (fun _ h => by cases h; rfl) rfl rfl (w' := reg w q (cl [.inr (1, [.ref (q + 1), .ref (q + 2), .ref (q + 3), .ref (q + 4), .ref (q + 5), .int (0), .int 0, .int 0, .int 0, .int 0, .int 0, .int 0, .int 0, .int 0, .int 0, .int 0, .int 0, .int 0]), .inl (kC K 0, 10, .inl (fun _ => 0)), .inl (kC K 0, 10, .inl (fun _ => 0)), .inl (kC K 0, 10, .inl (fun _ => 0)), .inl (kC K 0, 10, .inl (fun _ => 0)), .inl (kC K 0, 4, .inl (fun _ => 0))])) cl_set ?_
  refine N.aload0 dX1_init_48 ?_
  refine N.iconst (v := 0) dX1_init_49 (by decide) ?_
  refine N.putf dX1_init_50 flX1_31 cl_0 (Nat.le_of_ble_eq_true rfl) (fun _ h => by cases h; rfl) rfl rfl (w' := reg w q (cl [.inr (1, [.ref (q + 1), .ref (q + 2), .ref (q + 3), .ref (q + 4), .ref (q + 5), .int (0), .int (0), .int 0, .int 0, .int 0, .int 0, .int 0, .int 0, .int 0, .int 0, .int 0, .int 0, .int 0]), .inl (kC K 0, 10, .inl (fun _ => 0)), .inl (kC K 0, 10, .inl (fun _ => 0)), .inl (kC K 0, 10, .inl (fun _ => 0)), .inl (kC K 0, 10, .inl (fun _ => 0)), .inl (kC K 0, 4, .inl (fun _ => 0))])) cl_set ?_
  refine N.aload0 dX1_init_53 ?_
  refine N.iconst (v := 0) dX1_init_54 (by decide) ?_
  refine N.putf dX1_init_55 flX1_34 cl_0 (Nat.le_of_ble_eq_true rfl) (fun _ h => by cases h; rfl) rfl rfl (w' := reg w q (cl [.inr (1, [.ref (q + 1), .ref (q + 2), .ref (q + 3), .ref (q + 4), .ref (q + 5), .int (0), .int (0), .int (0), .int 0, .int 0, .int 0, .int 0, .int 0, .int 0, .int 0, .int 0, .int 0, .int 0]), .inl (kC K 0, 10, .inl (fun _ => 0)), .inl (kC K 0, 10, .inl (fun _ => 0)), .inl (kC K 0, 10, .inl (fun _ => 0)), .inl (kC K 0, 10, .inl (fun _ => 0)), .inl (kC K 0, 4, .inl (fun _ => 0))])) cl_set ?_
  refine N.aload0 dX1_init_58 ?_
  refine N.iconst (v := 0) dX1_init_59 (by decide) ?_
  refine N.putf dX1_init_60 flX1_37 cl_0 (Nat.le_of_ble_eq_true rfl) (fun _ h => by cases h; rfl) rfl rfl (w' := reg w q (cl [.inr (1, [.ref (q + 1), .ref (q + 2), .ref (q + 3), .ref (q + 4), .ref (q + 5), .int (0), .int (0), .int (0), .int (0), .int 0, .int 0, .int 0, .int 0, .int 0, .int 0, .int 0, .int 0, .int 0]), .inl (kC K 0, 10, .inl (fun _ => 0)), .inl (kC K 0, 10, .inl (fun _ => 0)), .inl (kC K 0, 10, .inl (fun _ => 0)), .inl (kC K 0, 10, .inl (fun _ => 0)), .inl (kC K 0, 4, .inl (fun _ => 0))])) cl_set ?_
  refine N.aload0 dX1_init_63 ?_
  refine N.iconst (v := 1) dX1_init_64 (by decide) ?_
  refine N.putf dX1_init_65 flX1_40 cl_0 (Nat.le_of_ble_eq_true rfl) (fun _ h => by cases h; rfl) rfl rfl (w' := reg w q (cl [.inr (1, [.ref (q + 1), .ref (q + 2), .ref (q + 3), .ref (q + 4), .ref (q + 5), .int (0), .int (0), .int (0), .int (0), .int (1), .int 0, .int 0, .int 0, .int 0, .int 0, .int 0, .int 0, .int 0]), .inl (kC K 0, 10, .inl (fun _ => 0)), .inl (kC K 0, 10, .inl (fun _ => 0)), .inl (kC K 0, 10, .inl (fun _ => 0)), .inl (kC K 0, 10, .inl (fun _ => 0)), .inl (kC K 0, 4, .inl (fun _ => 0))])) cl_set ?_
  refine N.aload0 dX1_init_68 ?_
  refine N.iconst (v := 0) dX1_init_69 (by decide) ?_
  refine N.putf dX1_init_70 flX1_43 cl_0 (Nat.le_of_ble_eq_true rfl) (fun _ h => by cases h; rfl) rfl rfl (w' := reg w q (cl [.inr (1, [.ref (q + 1), .ref (q + 2), .ref (q + 3), .ref (q + 4), .ref (q + 5), .int (0), .int (0), .int (0), .int (0), .int (1), .int (0), .int 0, .int 0, .int 0, .int 0, .int 0, .int 0, .int 0]), .inl (kC K 0, 10, .inl (fun _ => 0)), .inl (kC K 0, 10, .inl (fun _ => 0)), .inl (kC K 0, 10, .inl (fun _ => 0)), .inl (kC K 0, 10, .inl (fun _ => 0)), .inl (kC K 0, 4, .inl (fun _ => 0))])) cl_set ?_
  refine N.aload0 dX1_init_73 ?_
  refine N.sipush (v := 150) dX1_init_74 (by decide) ?_
  refine N.putf dX1_init_77 flX1_46 cl_0 (Nat.le_of_ble_eq_true rfl) (fun _ h => by cases h; rfl) rfl rfl (w' := reg w q (cl [.inr (1, [.ref (q + 1), .ref (q + 2), .ref (q + 3), .ref (q + 4), .ref (q + 5), .int (0), .int (0), .int (0), .int (0), .int (1), .int (0), .int (150), .int 0, .int 0, .int 0, .int 0, .int 0, .int 0]), .inl (kC K 0, 10, .inl (fun _ => 0)), .inl (kC K 0, 10, .inl (fun _ => 0)), .inl (kC K 0, 10, .inl (fun _ => 0)), .inl (kC K 0, 10, .inl (fun _ => 0)), .inl (kC K 0, 4, .inl (fun _ => 0))])) cl_set ?_
  refine N.aload0 dX1_init_80 ?_
  refine N.iconst (v := 1) dX1_init_81 (by decide) ?_
  refine N.putf dX1_init_82 flX1_49 cl_0 (Nat.le_of_ble_eq_true rfl) (fun _ h => by cases h; rfl) rfl rfl (w' := reg w q (cl [.inr (1, [.ref (q + 1), .ref (q + 2), .ref (q + 3), .ref (q + 4), .ref (q + 5), .int (0), .int (0), .int (0), .int (0), .int (1), .int (0), .int (150), .int (1), .int 0, .int 0, .int 0, .int 0, .int 0]), .inl (kC K 0, 10, .inl (fun _ => 0)), .inl (kC K 0, 10, .inl (fun _ => 0)), .inl (kC K 0, 10, .inl (fun _ => 0)), .inl (kC K 0, 10, .inl (fun _ => 0)), .inl (kC K 0, 4, .inl (fun _ => 0))])) cl_set ?_
  refine N.aload0 dX1_init_85 ?_
  refine N.iconst (v := 0) dX1_init_86 (by decide) ?_
  refine N.putf dX1_init_87 flX1_52 cl_0 (Nat.le_of_ble_eq_true rfl) (fun _ h => by cases h; rfl) rfl rfl (w' := reg w q (cl [.inr (1, [.ref (q + 1), .ref (q + 2), .ref (q + 3), .ref (q + 4), .ref (q + 5), .int (0), .int (0), .int (0), .int (0), .int (1), .int (0), .int (150), .int (1), .int (0), .int 0, .int 0, .int 0, .int 0]), .inl (kC K 0, 10, .inl (fun _ => 0)), .inl (kC K 0, 10, .inl (fun _ => 0)), .inl (kC K 0, 10, .inl (fun _ => 0)), .inl (kC K 0, 10, .inl (fun _ => 0)), .inl (kC K 0, 4, .inl (fun _ => 0))])) cl_set ?_
  refine N.aload0 dX1_init_90 ?_
  refine N.iconst (v := 0) dX1_init_91 (by decide) ?_
  refine N.putf dX1_init_92 flX1_55 cl_0 (Nat.le_of_ble_eq_true rfl) (fun _ h => by cases h; rfl) rfl rfl (w' := reg w q (cl [.inr (1, [.ref (q + 1), .ref (q + 2), .ref (q + 3), .ref (q + 4), .ref (q + 5), .int (0), .int (0), .int (0), .int (0), .int (1), .int (0), .int (150), .int (1), .int (0), .int (0), .int 0, .int 0, .int 0]), .inl (kC K 0, 10, .inl (fun _ => 0)), .inl (kC K 0, 10, .inl (fun _ => 0)), .inl (kC K 0, 10, .inl (fun _ => 0)), .inl (kC K 0, 10, .inl (fun _ => 0)), .inl (kC K 0, 4, .inl (fun _ => 0))])) cl_set ?_
  refine N.aload0 dX1_init_95 ?_
  refine N.iconst (v := 0) dX1_init_96 (by decide) ?_
  refine N.putf dX1_init_97 flX1_58 cl_0 (Nat.le_of_ble_eq_true rfl) (fun _ h => by cases h; rfl) rfl rfl (w' := reg w q (cl [.inr (1, [.ref (q + 1), .ref (q + 2), .ref (q + 3), .ref (q + 4), .ref (q + 5), .int (0), .int (0), .int (0), .int (0), .int (1), .int (0), .int (150), .int (1), .int (0), .int (0), .int (0), .int 0, .int 0]), .inl (kC K 0, 10, .inl (fun _ => 0)), .inl (kC K 0, 10, .inl (fun _ => 0)), .inl (kC K 0, 10, .inl (fun _ => 0)), .inl (kC K 0, 10, .inl (fun _ => 0)), .inl (kC K 0, 4, .inl (fun _ => 0))])) cl_set ?_
  refine N.aload0 dX1_init_100 ?_
  refine N.iconst (v := 0) dX1_init_101 (by decide) ?_
  refine N.putf dX1_init_102 flX1_61 cl_0 (Nat.le_of_ble_eq_true rfl) (fun _ h => by cases h; rfl) rfl rfl (w' := reg w q (cl [.inr (1, [.ref (q + 1), .ref (q + 2), .ref (q + 3), .ref (q + 4), .ref (q + 5), .int (0), .int (0), .int (0), .int (0), .int (1), .int (0), .int (150), .int (1), .int (0), .int (0), .int (0), .int (0), .int 0]), .inl (kC K 0, 10, .inl (fun _ => 0)), .inl (kC K 0, 10, .inl (fun _ => 0)), .inl (kC K 0, 10, .inl (fun _ => 0)), .inl (kC K 0, 10, .inl (fun _ => 0)), .inl (kC K 0, 4, .inl (fun _ => 0))])) cl_set ?_
  refine N.aload0 dX1_init_105 ?_
  refine N.iconst (v := 1) dX1_init_106 (by decide) ?_
  refine N.putf dX1_init_107 flX1_64 cl_0 (Nat.le_of_ble_eq_true rfl) (fun _ h => by cases h; rfl) rfl rfl (w' := reg w q (cl [.inr (1, [.ref (q + 1), .ref (q + 2), .ref (q + 3), .ref (q + 4), .ref (q + 5), .int (0), .int (0), .int (0), .int (0), .int (1), .int (0), .int (150), .int (1), .int (0), .int (0), .int (0), .int (0), .int (1)]), .inl (kC K 0, 10, .inl (fun _ => 0)), .inl (kC K 0, 10, .inl (fun _ => 0)), .inl (kC K 0, 10, .inl (fun _ => 0)), .inl (kC K 0, 10, .inl (fun _ => 0)), .inl (kC K 0, 4, .inl (fun _ => 0))])) cl_set ?_
  refine N.eqW (reg_c (c' := rC K q v0M) (fun k => ?_)) (N.vret dX1_init_110 rfl (Nat.le_of_ble_eq_true rfl) (Nat.le_of_ble_eq_true rfl) ⟨rfl, rfl, rfl⟩)
  match k with
  | 0 => rfl
  | 1 => rfl
  | 2 => rfl
  | 3 => rfl
  | 4 => rfl
  | 5 => rfl
  | n + 6 => rfl
set_option maxRecDepth 100000 in
theorem s_X2_init {K : Kx} (w : Wd) (q : Nat) : Sp K mX2_init 1 1 40 [.ref q] (reg w q (cl [.inr (2, [.null, .int 0, .int 0])])) (q + 1) (Qv fun w' sz' => w' = putS K w q s0X ∧ sz' = q + 2) := by
  refine Sp.ofN [some (.ref q)] rfl rfl rfl (Nat.le_of_ble_eq_true rfl) ?_
  refine N.aload0 dX2_init_0 ?_
  refine N.objInit dX2_init_1 oiX2_3 oiI oiC (Nat.le_of_ble_eq_true rfl) (Nat.le_of_ble_eq_true rfl) ?_
  refine N.aload0 dX2_init_4 ?_
  refine N.bipush (v := 40) dX2_init_5 (by decide) ?_
  refine N.newJ (k := 40) dX2_init_7 (by decide) (by decide) (by decide) (Nat.le_of_ble_eq_true rfl) (Nat.le_of_ble_eq_true rfl) ?_
  refine N.eqW (w' := reg w q (cl [.inr (2, [.null, .int 0, .int 0]), .inl (kC K 1, 40, .inr (.inl (fun _ => 0)))])) cl_push ?_
  refine N.putF dX2_init_9 (k := 0) ⟨_, _, _, rfl, by decide, gm1 154 (by decide +kernel) rfl, rfl, rfl⟩ rfl cl_0 (Nat.le_of_ble_eq_true rfl) rfl rfl (w' := reg w q (cl [.inr (2, [.ref (q + 1), .int 0, .int 0]), .inl (kC K 1, 40, .inr (.inl (fun _ => 0)))])) cl_set ?_
  refine N.aload0 dX2_init_12 ?_
  refine N.iconst (v := -1) dX2_init_13 (by decide) ?_
  refine N.putf dX2_init_14 flX2_15 cl_0 (Nat.le_of_ble_eq_true rfl) (fun _ h => by cases h; rfl) rfl rfl (w' := reg w q (cl [.inr (2, [.ref (q + 1), .int (-1), .int 0]), .inl (kC K 1, 40, .inr (.inl (fun _ => 0)))])) cl_set ?_
  refine N.aload0 dX2_init_17 ?_
  refine N.iconst (v := 0) dX2_init_18 (by decide) ?_
  refine N.putf dX2_init_19 flX2_19 cl_0 (Nat.le_of_ble_eq_true rfl) (fun _ h => by cases h; rfl) rfl rfl (w' := reg w q (cl [.inr (2, [.ref (q + 1), .int (-1), .int (0)]), .inl (kC K 1, 40, .inr (.inl (fun _ => 0)))])) cl_set ?_
  refine N.eqW (reg_c (c' := sC K q s0X) (fun k => ?_)) (N.vret dX2_init_22 rfl (Nat.le_of_ble_eq_true rfl) (Nat.le_of_ble_eq_true rfl) ⟨rfl, rfl, rfl⟩)
  match k with
  | 0 => rfl
  | 1 => rfl
  | n + 2 => rfl
set_option maxRecDepth 100000 in
theorem s_X3_init {K : Kx} (w : Wd) (q : Nat) : Sp K mX3_init 1 1 250 [.ref q] (reg w q (cl [.inr (3, [.null, .int 0, .int 0, .int 0, .int 0])])) (q + 1) (Qv fun w' sz' => w' = putT K w q t0X ∧ sz' = q + 2) := by
  refine Sp.ofN [some (.ref q)] rfl rfl rfl (Nat.le_of_ble_eq_true rfl) ?_
  refine N.aload0 dX3_init_0 ?_
  refine N.objInit dX3_init_1 oiX3_3 oiI oiC (Nat.le_of_ble_eq_true rfl) (Nat.le_of_ble_eq_true rfl) ?_
  refine N.aload0 dX3_init_4 ?_
  refine N.sipush (v := 250) dX3_init_5 (by decide) ?_
  refine N.newI (k := 250) dX3_init_8 (by decide) (by decide) (by decide) (Nat.le_of_ble_eq_true rfl) (Nat.le_of_ble_eq_true rfl) ?_
  refine N.eqW (w' := reg w q (cl [.inr (3, [.null, .int 0, .int 0, .int 0, .int 0]), .inl (kC K 0, 250, .inl (fun _ => 0))])) cl_push ?_
  refine N.putF dX3_init_10 (k := 0) ⟨_, _, _, rfl, by decide, gm1 114 (by decide +kernel) rfl, rfl, rfl⟩ rfl cl_0 (Nat.le_of_ble_eq_true rfl) rfl rfl (w' := reg w q (cl [.inr (3, [.ref (q + 1), .int 0, .int 0, .int 0, .int 0]), .inl (kC K 0, 250, .inl (fun _ => 0))])) cl_set ?_
  refine N.aload0 dX3_init_13 ?_
  refine N.iconst (v := 0) dX3_init_14 (by decide) ?_
  refine N.putf dX3_init_15 flX3_15 cl_0 (Nat.le_of_ble_eq_true rfl) (fun _ h => by cases h; rfl) rfl rfl (w' := reg w q (cl [.inr (3, [.ref (q + 1), .int (0), .int 0, .int 0, .int 0]), .inl (kC K 0, 250, .inl (fun _ => 0))])) cl_set ?_
  refine N.aload0 dX3_init_18 ?_
  refine N.iconst (v := 0) dX3_init_19 (by decide) ?_
  refine N.putf dX3_init_20 flX3_19 cl_0 (Nat.le_of_ble_eq_true rfl) (fun _ h => by cases h; rfl) rfl rfl (w' := reg w q (cl [.inr (3, [.ref (q + 1), .int (0), .int (0), .int 0, .int 0]), .inl (kC K 0, 250, .inl (fun _ => 0))])) cl_set ?_
  refine N.aload0 dX3_init_23 ?_
  refine N.iconst (v := 0) dX3_init_24 (by decide) ?_
  refine N.putf dX3_init_25 flX3_22 cl_0 (Nat.le_of_ble_eq_true rfl) (fun _ h => by cases h; rfl) rfl rfl (w' := reg w q (cl [.inr (3, [.ref (q + 1), .int (0), .int (0), .int (0), .int 0]), .inl (kC K 0, 250, .inl (fun _ => 0))])) cl_set ?_
  refine N.aload0 dX3_init_28 ?_
  refine N.iconst (v := 0) dX3_init_29 (by decide) ?_
  refine N.putf dX3_init_30 flX3_25 cl_0 (Nat.le_of_ble_eq_true rfl) (fun _ h => by cases h; rfl) rfl rfl (w' := reg w q (cl [.inr (3, [.ref (q + 1), .int (0), .int (0), .int (0), .int (0)]), .inl (kC K 0, 250, .inl (fun _ => 0))])) cl_set ?_
  refine N.eqW (reg_c (c' := tC K q t0X) (fun k => ?_)) (N.vret dX3_init_33 rfl (Nat.le_of_ble_eq_true rfl) (Nat.le_of_ble_eq_true rfl) ⟨rfl, rfl, rfl⟩)
  match k with
  | 0 => rfl
  | 1 => rfl
  | n + 2 => rfl
theorem cl_at {w : Wd} {q : Nat} {l : List va_E} {e : va_E} (k : Nat) {l' : List va_E} (h : l.set k e = l') (hk : k < l.length) : upW (reg w q (cl l)) (q + k) e = reg w q (cl l') := by
  subst h
  refine reg_up (fun j => ?_)
  unfold cl
  by_cases hj : j = k
  · subst hj; rw [if_pos rfl]; exact List.getElem?_set_self hk
  · rw [if_neg hj, List.getElem?_set_ne (Ne.symm hj)]
theorem sh27 {K : Kx} {q : Nat} : (some (.inl (kC K 2, 8, .inr (.inr (.inr (.inr (va_up (va_up (va_up (va_up (va_up (va_up (va_up (va_up (fun _ => none) 0 (some (q + 30))) 1 (some (q + 32))) 2 (some (q + 34))) 3 (some (q + 36))) 4 (some (q + 38))) 5 (some (q + 40))) 6 (some (q + 42))) 7 (some (q + 44)))))))) : Option va_E) = some (.inl (kC K 2, 8, .inr (.inr (.inr (.inr (shRef q)))))) := by
  have : ((va_up (va_up (va_up (va_up (va_up (va_up (va_up (va_up (fun _ => none) 0 (some (q + 30))) 1 (some (q + 32))) 2 (some (q + 34))) 3 (some (q + 36))) 4 (some (q + 38))) 5 (some (q + 40))) 6 (some (q + 42))) 7 (some (q + 44)))) = shRef q := by
    funext i
    unfold shRef va_up
    by_cases h : i < 8
    · rw [if_pos h]
      rcases (show i = 0 ∨ i = 1 ∨ i = 2 ∨ i = 3 ∨ i = 4 ∨ i = 5 ∨ i = 6 ∨ i = 7 by omega) with rfl | rfl | rfl | rfl | rfl | rfl | rfl | rfl <;> rfl
    · rw [if_neg h]
      simp [show ¬ i = 0 by omega, show ¬ i = 1 by omega, show ¬ i = 2 by omega, show ¬ i = 3 by omega, show ¬ i = 4 by omega, show ¬ i = 5 by omega, show ¬ i = 6 by omega, show ¬ i = 7 by omega]
  rw [this]
def x0X : XV := (fun _ => v0M, t0X, fun _ => s0X, fun _ => 0, (-1, 0), 0)
theorem xC_out {K : Kx} {q n : Nat} {x : XV} : xC K q x (n + 46) = none := by
  unfold xC
  rw [if_neg (by omega), if_neg (by omega), if_neg (by omega), if_neg (by omega), if_neg (by omega), if_neg (by omega), if_neg (by omega)]
set_option maxRecDepth 100000 in
theorem s_X4_init {K : Kx} (w : Wd) (q : Nat) : Sp K mX4_init 2 45 862 [.ref q] (reg w q (cl [.inr (4, [.null, .null, .null, .null, .null, .null, .null, .null, .int 0])])) (q + 1) (Qv fun w' sz' => w' = putX K w q x0X ∧ sz' = q + 46) := by
  refine Sp.ofN [some (.ref q), none] rfl rfl rfl (Nat.le_of_ble_eq_true rfl) ?_
  refine N.aload0 dX4_init_0 ?_
  refine N.objInit dX4_init_1 oiX4_1 oiI oiC (Nat.le_of_ble_eq_true rfl) (Nat.le_of_ble_eq_true rfl) ?_
  refine N.aload0 dX4_init_4 ?_
  refine N.new [.null, .null, .null, .null, .null, .int 0, .int 0, .int 0, .int 0, .int 0, .int 0, .int 0, .int 0, .int 0, .int 0, .int 0, .int 0, .int 0] dX4_init_5 (ci := 1) rfl clX4_7 isX1 itX1 (fun j hj => by rcases (show j = 0 ∨ j = 1 ∨ j = 2 ∨ j = 3 ∨ j = 4 ∨ j = 5 ∨ j = 6 ∨ j = 7 ∨ j = 8 ∨ j = 9 ∨ j = 10 ∨ j = 11 ∨ j = 12 ∨ j = 13 ∨ j = 14 ∨ j = 15 ∨ j = 16 ∨ j = 17 by omega) with rfl | rfl | rfl | rfl | rfl | rfl | rfl | rfl | rfl | rfl | rfl | rfl | rfl | rfl | rfl | rfl | rfl | rfl <;> rfl) (Nat.le_of_ble_eq_true rfl) (Nat.le_of_ble_eq_true rfl) ?_
  refine N.eqW cl_1 ?_
  refine N.dup dX4_init_8 rfl ?_
  refine N.iv0A dX4_init_9 vX1_init lkX4_9 (s_X1_init _ _) rfl (Nat.le_of_ble_eq_true rfl) (Nat.le_of_ble_eq_true rfl) (Nat.le_of_ble_eq_true rfl) (Nat.le_of_ble_eq_true rfl) ?_
  rintro _ _ ⟨rfl, rfl⟩
  refine N.eqW (w' := reg w q (cl [.inr (4, [.null, .null, .null, .null, .null, .null, .null, .null, .int 0]), .inr (1, rF (q + 1) v0M), .inl (kC K 0, 10, .inl (v0M.2 0)), .inl (kC K 0, 10, .inl (v0M.2 1)), .inl (kC K 0, 10, .inl (v0M.2 2)), .inl (kC K 0, 10, .inl (v0M.2 3)), .inl (kC K 0, 4, .inl (v0M.2 4))])) (cl_app rL_c) ?_
  refine N.putF dX4_init_12 (k := 0) ⟨_, _, _, rfl, by decide, gm1 168 (by decide +kernel) rfl, rfl, rfl⟩ rfl cl_0 (Nat.le_of_ble_eq_true rfl) rfl rfl (w' := reg w q (cl [.inr (4, [.ref (q + 1), .null, .null, .null, .null, .null, .null, .null, .int 0]), .inr (1, rF (q + 1) v0M), .inl (kC K 0, 10, .inl (v0M.2 0)), .inl (kC K 0, 10, .inl (v0M.2 1)), .inl (kC K 0, 10, .inl (v0M.2 2)), .inl (kC K 0, 10, .inl (v0M.2 3)), .inl (kC K 0, 4, .inl (v0M.2 4))])) cl_set ?_
  refine N.aload0 dX4_init_15 ?_
  refine N.new [.null, .null, .null, .null, .null, .int 0, .int 0, .int 0, .int 0, .int 0, .int 0, .int 0, .int 0, .int 0, .int 0, .int 0, .int 0, .int 0] dX4_init_16 (ci := 1) rfl clX4_7 isX1 itX1 (fun j hj => by rcases (show j = 0 ∨ j = 1 ∨ j = 2 ∨ j = 3 ∨ j = 4 ∨ j = 5 ∨ j = 6 ∨ j = 7 ∨ j = 8 ∨ j = 9 ∨ j = 10 ∨ j = 11 ∨ j = 12 ∨ j = 13 ∨ j = 14 ∨ j = 15 ∨ j = 16 ∨ j = 17 by omega) with rfl | rfl | rfl | rfl | rfl | rfl | rfl | rfl | rfl | rfl | rfl | rfl | rfl | rfl | rfl | rfl | rfl | rfl <;> rfl) (Nat.le_of_ble_eq_true rfl) (Nat.le_of_ble_eq_true rfl) ?_
  refine N.eqW cl_1 ?_
  refine N.dup dX4_init_19 rfl ?_
  refine N.iv0A dX4_init_20 vX1_init lkX4_9 (s_X1_init _ _) rfl (Nat.le_of_ble_eq_true rfl) (Nat.le_of_ble_eq_true rfl) (Nat.le_of_ble_eq_true rfl) (Nat.le_of_ble_eq_true rfl) ?_
  rintro _ _ ⟨rfl, rfl⟩
  refine N.eqW (w' := reg w q (cl [.inr (4, [.ref (q + 1), .null, .null, .null, .null, .null, .null, .null, .int 0]), .inr (1, rF (q + 1) v0M), .inl (kC K 0, 10, .inl (v0M.2 0)), .inl (kC K 0, 10, .inl (v0M.2 1)), .inl (kC K 0, 10, .inl (v0M.2 2)), .inl (kC K 0, 10, .inl (v0M.2 3)), .inl (kC K 0, 4, .inl (v0M.2 4)), .inr (1, rF (q + 7) v0M), .inl (kC K 0, 10, .inl (v0M.2 0)), .inl (kC K 0, 10, .inl (v0M.2 1)), .inl (kC K 0, 10, .inl (v0M.2 2)), .inl (kC K 0, 10, .inl (v0M.2 3)), .inl (kC K 0, 4, .inl (v0M.2 4))])) (cl_app rL_c) ?_
  refine N.putF dX4_init_23 (k := 1) ⟨_, _, _, rfl, by decide, gm1 169 (by decide +kernel) rfl, rfl, rfl⟩ rfl cl_0 (Nat.le_of_ble_eq_true rfl) rfl rfl (w' := reg w q (cl [.inr (4, [.ref (q + 1), .ref (q + 7), .null, .null, .null, .null, .null, .null, .int 0]), .inr (1, rF (q + 1) v0M), .inl (kC K 0, 10, .inl (v0M.2 0)), .inl (kC K 0, 10, .inl (v0M.2 1)), .inl (kC K 0, 10, .inl (v0M.2 2)), .inl (kC K 0, 10, .inl (v0M.2 3)), .inl (kC K 0, 4, .inl (v0M.2 4)), .inr (1, rF (q + 7) v0M), .inl (kC K 0, 10, .inl (v0M.2 0)), .inl (kC K 0, 10, .inl (v0M.2 1)), .inl (kC K 0, 10, .inl (v0M.2 2)), .inl (kC K 0, 10, .inl (v0M.2 3)), .inl (kC K 0, 4, .inl (v0M.2 4))])) cl_set ?_
  refine N.aload0 dX4_init_26 ?_
  refine N.new [.null, .null, .null, .null, .null, .int 0, .int 0, .int 0, .int 0, .int 0, .int 0, .int 0, .int 0, .int 0, .int 0, .int 0, .int 0, .int 0] dX4_init_27 (ci := 1) rfl clX4_7 isX1 itX1 (fun j hj => by rcases (show j = 0 ∨ j = 1 ∨ j = 2 ∨ j = 3 ∨ j = 4 ∨ j = 5 ∨ j = 6 ∨ j = 7 ∨ j = 8 ∨ j = 9 ∨ j = 10 ∨ j = 11 ∨ j = 12 ∨ j = 13 ∨ j = 14 ∨ j = 15 ∨ j = 16 ∨ j = 17 by omega) with rfl | rfl | rfl | rfl | rfl | rfl | rfl | rfl | rfl | rfl | rfl | rfl | rfl | rfl | rfl | rfl | rfl | rfl <;> rfl) (Nat.le_of_ble_eq_true rfl) (Nat.le_of_ble_eq_true rfl) ?_
  refine N.eqW cl_1 ?_
  refine N.dup dX4_init_30 rfl ?_
  refine N.iv0A dX4_init_31 vX1_init lkX4_9 (s_X1_init _ _) rfl (Nat.le_of_ble_eq_true rfl) (Nat.le_of_ble_eq_true rfl) (Nat.le_of_ble_eq_true rfl) (Nat.le_of_ble_eq_true rfl) ?_
  rintro _ _ ⟨rfl, rfl⟩
  refine N.eqW (w' := reg w q (cl [.inr (4, [.ref (q + 1), .ref (q + 7), .null, .null, .null, .null, .null, .null, .int 0]), .inr (1, rF (q + 1) v0M), .inl (kC K 0, 10, .inl (v0M.2 0)), .inl (kC K 0, 10, .inl (v0M.2 1)), .inl (kC K 0, 10, .inl (v0M.2 2)), .inl (kC K 0, 10, .inl (v0M.2 3)), .inl (kC K 0, 4, .inl (v0M.2 4)), .inr (1, rF (q + 7) v0M), .inl (kC K 0, 10, .inl (v0M.2 0)), .inl (kC K 0, 10, .inl (v0M.2 1)), .inl (kC K 0, 10, .inl (v0M.2 2)), .inl (kC K 0, 10, .inl (v0M.2 3)), .inl (kC K 0, 4, .inl (v0M.2 4)), .inr (1, rF (q + 13) v0M), .inl (kC K 0, 10, .inl (v0M.2 0)), .inl (kC K 0, 10, .inl (v0M.2 1)), .inl (kC K 0, 10, .inl (v0M.2 2)), .inl (kC K 0, 10, .inl (v0M.2 3)), .inl (kC K 0, 4, .inl (v0M.2 4))])) (cl_app rL_c) ?_
  refine N.putF dX4_init_34 (k := 2) ⟨_, _, _, rfl, by decide, gm1 170 (by decide +kernel) rfl, rfl, rfl⟩ rfl cl_0 (Nat.le_of_ble_eq_true rfl) rfl rfl (w' := reg w q (cl [.inr (4, [.ref (q + 1), .ref (q + 7), .ref (q + 13), .null, .null, .null, .null, .null, .int 0]), .inr (1, rF (q + 1) v0M), .inl (kC K 0, 10, .inl (v0M.2 0)), .inl (kC K 0, 10, .inl (v0M.2 1)), .inl (kC K 0, 10, .inl (v0M.2 2)), .inl (kC K 0, 10, .inl (v0M.2 3)), .inl (kC K 0, 4, .inl (v0M.2 4)), .inr (1, rF (q + 7) v0M), .inl (kC K 0, 10, .inl (v0M.2 0)), .inl (kC K 0, 10, .inl (v0M.2 1)), .inl (kC K 0, 10, .inl (v0M.2 2)), .inl (kC K 0, 10, .inl (v0M.2 3)), .inl (kC K 0, 4, .inl (v0M.2 4)), .inr (1, rF (q + 13) v0M), .inl (kC K 0, 10, .inl (v0M.2 0)), .inl (kC K 0, 10, .inl (v0M.2 1)), .inl (kC K 0, 10, .inl (v0M.2 2)), .inl (kC K 0, 10, .inl (v0M.2 3)), .inl (kC K 0, 4, .inl (v0M.2 4))])) cl_set ?_
  refine N.aload0 dX4_init_37 ?_
  refine N.new [.null, .null, .null, .null, .null, .int 0, .int 0, .int 0, .int 0, .int 0, .int 0, .int 0, .int 0, .int 0, .int 0, .int 0, .int 0, .int 0] dX4_init_38 (ci := 1) rfl clX4_7 isX1 itX1 (fun j hj => by rcases (show j = 0 ∨ j = 1 ∨ j = 2 ∨ j = 3 ∨ j = 4 ∨ j = 5 ∨ j = 6 ∨ j = 7 ∨ j = 8 ∨ j = 9 ∨ j = 10 ∨ j = 11 ∨ j = 12 ∨ j = 13 ∨ j = 14 ∨ j = 15 ∨ j = 16 ∨ j = 17 by omega) with rfl | rfl | rfl | rfl | rfl | rfl | rfl | rfl | rfl | rfl | rfl | rfl | rfl | rfl | rfl | rfl | rfl | rfl <;> rfl) (Nat.le_of_ble_eq_true rfl) (Nat.le_of_ble_eq_true rfl) ?_
  refine N.eqW cl_1 ?_
  refine N.dup dX4_init_41 rfl ?_
  refine N.iv0A dX4_init_42 vX1_init lkX4_9 (s_X1_init _ _) rfl (Nat.le_of_ble_eq_true rfl) (Nat.le_of_ble_eq_true rfl) (Nat.le_of_ble_eq_true rfl) (Nat.le_of_ble_eq_true rfl) ?_
  rintro _ _ ⟨rfl, rfl⟩
  refine N.eqW (w' := reg w q (cl [.inr (4, [.ref (q + 1), .ref (q + 7), .ref (q + 13), .null, .null, .null, .null, .null, .int 0]), .inr (1, rF (q + 1) v0M), .inl (kC K 0, 10, .inl (v0M.2 0)), .inl (kC K 0, 10, .inl (v0M.2 1)), .inl (kC K 0, 10, .inl (v0M.2 2)), .inl (kC K 0, 10, .inl (v0M.2 3)), .inl (kC K 0, 4, .inl (v0M.2 4)), .inr (1, rF (q + 7) v0M), .inl (kC K 0, 10, .inl (v0M.2 0)), .inl (kC K 0, 10, .inl (v0M.2 1)), .inl (kC K 0, 10, .inl (v0M.2 2)), .inl (kC K 0, 10, .inl (v0M.2 3)), .inl (kC K 0, 4, .inl (v0M.2 4)), .inr (1, rF (q + 13) v0M), .inl (kC K 0, 10, .inl (v0M.2 0)), .inl (kC K 0, 10, .inl (v0M.2 1)), .inl (kC K 0, 10, .inl (v0M.2 2)), .inl (kC K 0, 10, .inl (v0M.2 3)), .inl (kC K 0, 4, .inl (v0M.2 4)), .inr (1, rF (q + 19) v0M), .inl (kC K 0, 10, .inl (v0M.2 0)), .inl (kC K 0, 10, .inl (v0M.2 1)), .inl (kC K 0, 10, .inl (v0M.2 2)), .inl (kC K 0, 10, .inl (v0M.2 3)), .inl (kC K 0, 4, .inl (v0M.2 4))])) (cl_app rL_c) ?_
  refine N.putF dX4_init_45 (k := 3) ⟨_, _, _, rfl, by decide, gm1 171 (by decide +kernel) rfl, rfl, rfl⟩ rfl cl_0 (Nat.le_of_ble_eq_true rfl) rfl rfl (w' := reg w q (cl [.inr (4, [.ref (q + 1), .ref (q + 7), .ref (q + 13), .ref (q + 19), .null, .null, .null, .null, .int 0]), .inr (1, rF (q + 1) v0M), .inl (kC K 0, 10, .inl (v0M.2 0)), .inl (kC K 0, 10, .inl (v0M.2 1)), .inl (kC K 0, 10, .inl (v0M.2 2)), .inl (kC K 0, 10, .inl (v0M.2 3)), .inl (kC K 0, 4, .inl (v0M.2 4)), .inr (1, rF (q + 7) v0M), .inl (kC K 0, 10, .inl (v0M.2 0)), .inl (kC K 0, 10, .inl (v0M.2 1)), .inl (kC K 0, 10, .inl (v0M.2 2)), .inl (kC K 0, 10, .inl (v0M.2 3)), .inl (kC K 0, 4, .inl (v0M.2 4)), .inr (1, rF (q + 13) v0M), .inl (kC K 0, 10, .inl (v0M.2 0)), .inl (kC K 0, 10, .inl (v0M.2 1)), .inl (kC K 0, 10, .inl (v0M.2 2)), .inl (kC K 0, 10, .inl (v0M.2 3)), .inl (kC K 0, 4, .inl (v0M.2 4)), .inr (1, rF (q + 19) v0M), .inl (kC K 0, 10, .inl (v0M.2 0)), .inl (kC K 0, 10, .inl (v0M.2 1)), .inl (kC K 0, 10, .inl (v0M.2 2)), .inl (kC K 0, 10, .inl (v0M.2 3)), .inl (kC K 0, 4, .inl (v0M.2 4))])) cl_set ?_
  refine N.aload0 dX4_init_48 ?_
  refine N.new [.null, .int 0, .int 0, .int 0, .int 0] dX4_init_49 (ci := 3) rfl clX4_25 isX3 itX3 (fun j hj => by rcases (show j = 0 ∨ j = 1 ∨ j = 2 ∨ j = 3 ∨ j = 4 by omega) with rfl | rfl | rfl | rfl | rfl <;> rfl) (Nat.le_of_ble_eq_true rfl) (Nat.le_of_ble_eq_true rfl) ?_
  refine N.eqW cl_1 ?_
  refine N.dup dX4_init_52 rfl ?_
  refine N.iv0A dX4_init_53 vX3_init lkX4_27 (s_X3_init _ _) rfl (Nat.le_of_ble_eq_true rfl) (Nat.le_of_ble_eq_true rfl) (Nat.le_of_ble_eq_true rfl) (Nat.le_of_ble_eq_true rfl) ?_
  rintro _ _ ⟨rfl, rfl⟩
  refine N.eqW (w' := reg w q (cl [.inr (4, [.ref (q + 1), .ref (q + 7), .ref (q + 13), .ref (q + 19), .null, .null, .null, .null, .int 0]), .inr (1, rF (q + 1) v0M), .inl (kC K 0, 10, .inl (v0M.2 0)), .inl (kC K 0, 10, .inl (v0M.2 1)), .inl (kC K 0, 10, .inl (v0M.2 2)), .inl (kC K 0, 10, .inl (v0M.2 3)), .inl (kC K 0, 4, .inl (v0M.2 4)), .inr (1, rF (q + 7) v0M), .inl (kC K 0, 10, .inl (v0M.2 0)), .inl (kC K 0, 10, .inl (v0M.2 1)), .inl (kC K 0, 10, .inl (v0M.2 2)), .inl (kC K 0, 10, .inl (v0M.2 3)), .inl (kC K 0, 4, .inl (v0M.2 4)), .inr (1, rF (q + 13) v0M), .inl (kC K 0, 10, .inl (v0M.2 0)), .inl (kC K 0, 10, .inl (v0M.2 1)), .inl (kC K 0, 10, .inl (v0M.2 2)), .inl (kC K 0, 10, .inl (v0M.2 3)), .inl (kC K 0, 4, .inl (v0M.2 4)), .inr (1, rF (q + 19) v0M), .inl (kC K 0, 10, .inl (v0M.2 0)), .inl (kC K 0, 10, .inl (v0M.2 1)), .inl (kC K 0, 10, .inl (v0M.2 2)), .inl (kC K 0, 10, .inl (v0M.2 3)), .inl (kC K 0, 4, .inl (v0M.2 4)), .inr (3, tF (q + 25) t0X), .inl (kC K 0, 250, .inl t0X.1)])) (cl_app tL_c) ?_
  refine N.putF dX4_init_56 (k := 4) ⟨_, _, _, rfl, by decide, gm1 172 (by decide +kernel) rfl, rfl, rfl⟩ rfl cl_0 (Nat.le_of_ble_eq_true rfl) rfl rfl (w' := reg w q (cl [.inr (4, [.ref (q + 1), .ref (q + 7), .ref (q + 13), .ref (q + 19), .ref (q + 25), .null, .null, .null, .int 0]), .inr (1, rF (q + 1) v0M), .inl (kC K 0, 10, .inl (v0M.2 0)), .inl (kC K 0, 10, .inl (v0M.2 1)), .inl (kC K 0, 10, .inl (v0M.2 2)), .inl (kC K 0, 10, .inl (v0M.2 3)), .inl (kC K 0, 4, .inl (v0M.2 4)), .inr (1, rF (q + 7) v0M), .inl (kC K 0, 10, .inl (v0M.2 0)), .inl (kC K 0, 10, .inl (v0M.2 1)), .inl (kC K 0, 10, .inl (v0M.2 2)), .inl (kC K 0, 10, .inl (v0M.2 3)), .inl (kC K 0, 4, .inl (v0M.2 4)), .inr (1, rF (q + 13) v0M), .inl (kC K 0, 10, .inl (v0M.2 0)), .inl (kC K 0, 10, .inl (v0M.2 1)), .inl (kC K 0, 10, .inl (v0M.2 2)), .inl (kC K 0, 10, .inl (v0M.2 3)), .inl (kC K 0, 4, .inl (v0M.2 4)), .inr (1, rF (q + 19) v0M), .inl (kC K 0, 10, .inl (v0M.2 0)), .inl (kC K 0, 10, .inl (v0M.2 1)), .inl (kC K 0, 10, .inl (v0M.2 2)), .inl (kC K 0, 10, .inl (v0M.2 3)), .inl (kC K 0, 4, .inl (v0M.2 4)), .inr (3, tF (q + 25) t0X), .inl (kC K 0, 250, .inl t0X.1)])) cl_set ?_
  refine N.aload0 dX4_init_59 ?_
  refine N.bipush (v := 8) dX4_init_60 (by decide) ?_
  refine N.anew (k := 8) dX4_init_62 clX4_32 (by decide) (by decide) (by decide) (Nat.le_of_ble_eq_true rfl) (Nat.le_of_ble_eq_true rfl) ?_
  refine N.eqW (w' := reg w q (cl [.inr (4, [.ref (q + 1), .ref (q + 7), .ref (q + 13), .ref (q + 19), .ref (q + 25), .null, .null, .null, .int 0]), .inr (1, rF (q + 1) v0M), .inl (kC K 0, 10, .inl (v0M.2 0)), .inl (kC K 0, 10, .inl (v0M.2 1)), .inl (kC K 0, 10, .inl (v0M.2 2)), .inl (kC K 0, 10, .inl (v0M.2 3)), .inl (kC K 0, 4, .inl (v0M.2 4)), .inr (1, rF (q + 7) v0M), .inl (kC K 0, 10, .inl (v0M.2 0)), .inl (kC K 0, 10, .inl (v0M.2 1)), .inl (kC K 0, 10, .inl (v0M.2 2)), .inl (kC K 0, 10, .inl (v0M.2 3)), .inl (kC K 0, 4, .inl (v0M.2 4)), .inr (1, rF (q + 13) v0M), .inl (kC K 0, 10, .inl (v0M.2 0)), .inl (kC K 0, 10, .inl (v0M.2 1)), .inl (kC K 0, 10, .inl (v0M.2 2)), .inl (kC K 0, 10, .inl (v0M.2 3)), .inl (kC K 0, 4, .inl (v0M.2 4)), .inr (1, rF (q + 19) v0M), .inl (kC K 0, 10, .inl (v0M.2 0)), .inl (kC K 0, 10, .inl (v0M.2 1)), .inl (kC K 0, 10, .inl (v0M.2 2)), .inl (kC K 0, 10, .inl (v0M.2 3)), .inl (kC K 0, 4, .inl (v0M.2 4)), .inr (3, tF (q + 25) t0X), .inl (kC K 0, 250, .inl t0X.1), .inl (kC K 2, 8, .inr (.inr (.inr (.inr (fun _ => none)))))])) cl_push ?_
  refine N.putF dX4_init_65 (k := 5) ⟨_, _, _, rfl, by decide, gm1 173 (by decide +kernel) rfl, rfl, rfl⟩ rfl cl_0 (Nat.le_of_ble_eq_true rfl) rfl rfl (w' := reg w q (cl [.inr (4, [.ref (q + 1), .ref (q + 7), .ref (q + 13), .ref (q + 19), .ref (q + 25), .ref (q + 27), .null, .null, .int 0]), .inr (1, rF (q + 1) v0M), .inl (kC K 0, 10, .inl (v0M.2 0)), .inl (kC K 0, 10, .inl (v0M.2 1)), .inl (kC K 0, 10, .inl (v0M.2 2)), .inl (kC K 0, 10, .inl (v0M.2 3)), .inl (kC K 0, 4, .inl (v0M.2 4)), .inr (1, rF (q + 7) v0M), .inl (kC K 0, 10, .inl (v0M.2 0)), .inl (kC K 0, 10, .inl (v0M.2 1)), .inl (kC K 0, 10, .inl (v0M.2 2)), .inl (kC K 0, 10, .inl (v0M.2 3)), .inl (kC K 0, 4, .inl (v0M.2 4)), .inr (1, rF (q + 13) v0M), .inl (kC K 0, 10, .inl (v0M.2 0)), .inl (kC K 0, 10, .inl (v0M.2 1)), .inl (kC K 0, 10, .inl (v0M.2 2)), .inl (kC K 0, 10, .inl (v0M.2 3)), .inl (kC K 0, 4, .inl (v0M.2 4)), .inr (1, rF (q + 19) v0M), .inl (kC K 0, 10, .inl (v0M.2 0)), .inl (kC K 0, 10, .inl (v0M.2 1)), .inl (kC K 0, 10, .inl (v0M.2 2)), .inl (kC K 0, 10, .inl (v0M.2 3)), .inl (kC K 0, 4, .inl (v0M.2 4)), .inr (3, tF (q + 25) t0X), .inl (kC K 0, 250, .inl t0X.1), .inl (kC K 2, 8, .inr (.inr (.inr (.inr (fun _ => none)))))])) cl_set ?_
  refine N.aload0 dX4_init_68 ?_
  refine N.iconst (v := 5) dX4_init_69 (by decide) ?_
  refine N.newI (k := 5) dX4_init_70 (by decide) (by decide) (by decide) (Nat.le_of_ble_eq_true rfl) (Nat.le_of_ble_eq_true rfl) ?_
  refine N.eqW (w' := reg w q (cl [.inr (4, [.ref (q + 1), .ref (q + 7), .ref (q + 13), .ref (q + 19), .ref (q + 25), .ref (q + 27), .null, .null, .int 0]), .inr (1, rF (q + 1) v0M), .inl (kC K 0, 10, .inl (v0M.2 0)), .inl (kC K 0, 10, .inl (v0M.2 1)), .inl (kC K 0, 10, .inl (v0M.2 2)), .inl (kC K 0, 10, .inl (v0M.2 3)), .inl (kC K 0, 4, .inl (v0M.2 4)), .inr (1, rF (q + 7) v0M), .inl (kC K 0, 10, .inl (v0M.2 0)), .inl (kC K 0, 10, .inl (v0M.2 1)), .inl (kC K 0, 10, .inl (v0M.2 2)), .inl (kC K 0, 10, .inl (v0M.2 3)), .inl (kC K 0, 4, .inl (v0M.2 4)), .inr (1, rF (q + 13) v0M), .inl (kC K 0, 10, .inl (v0M.2 0)), .inl (kC K 0, 10, .inl (v0M.2 1)), .inl (kC K 0, 10, .inl (v0M.2 2)), .inl (kC K 0, 10, .inl (v0M.2 3)), .inl (kC K 0, 4, .inl (v0M.2 4)), .inr (1, rF (q + 19) v0M), .inl (kC K 0, 10, .inl (v0M.2 0)), .inl (kC K 0, 10, .inl (v0M.2 1)), .inl (kC K 0, 10, .inl (v0M.2 2)), .inl (kC K 0, 10, .inl (v0M.2 3)), .inl (kC K 0, 4, .inl (v0M.2 4)), .inr (3, tF (q + 25) t0X), .inl (kC K 0, 250, .inl t0X.1), .inl (kC K 2, 8, .inr (.inr (.inr (.inr (fun _ => none))))), .inl (kC K 0, 5, .inl (fun _ => 0))])) cl_push ?_
  refine N.putF dX4_init_72 (k := 6) ⟨_, _, _, rfl, by decide, gm1 174 (by decide +kernel) rfl, rfl, rfl⟩ rfl cl_0 (Nat.le_of_ble_eq_true rfl) rfl rfl (w' := reg w q (cl [.inr (4, [.ref (q + 1), .ref (q + 7), .ref (q + 13), .ref (q + 19), .ref (q + 25), .ref (q + 27), .ref (q + 28), .null, .int 0]), .inr (1, rF (q + 1) v0M), .inl (kC K 0, 10, .inl (v0M.2 0)), .inl (kC K 0, 10, .inl (v0M.2 1)), .inl (kC K 0, 10, .inl (v0M.2 2)), .inl (kC K 0, 10, .inl (v0M.2 3)), .inl (kC K 0, 4, .inl (v0M.2 4)), .inr (1, rF (q + 7) v0M), .inl (kC K 0, 10, .inl (v0M.2 0)), .inl (kC K 0, 10, .inl (v0M.2 1)), .inl (kC K 0, 10, .inl (v0M.2 2)), .inl (kC K 0, 10, .inl (v0M.2 3)), .inl (kC K 0, 4, .inl (v0M.2 4)), .inr (1, rF (q + 13) v0M), .inl (kC K 0, 10, .inl (v0M.2 0)), .inl (kC K 0, 10, .inl (v0M.2 1)), .inl (kC K 0, 10, .inl (v0M.2 2)), .inl (kC K 0, 10, .inl (v0M.2 3)), .inl (kC K 0, 4, .inl (v0M.2 4)), .inr (1, rF (q + 19) v0M), .inl (kC K 0, 10, .inl (v0M.2 0)), .inl (kC K 0, 10, .inl (v0M.2 1)), .inl (kC K 0, 10, .inl (v0M.2 2)), .inl (kC K 0, 10, .inl (v0M.2 3)), .inl (kC K 0, 4, .inl (v0M.2 4)), .inr (3, tF (q + 25) t0X), .inl (kC K 0, 250, .inl t0X.1), .inl (kC K 2, 8, .inr (.inr (.inr (.inr (fun _ => none))))), .inl (kC K 0, 5, .inl (fun _ => 0))])) cl_set ?_
  refine N.aload0 dX4_init_75 ?_
  refine N.new [.int 0, .int 0] dX4_init_76 (ci := 0) rfl clX4_42 isX0 itX0 (fun j hj => by rcases (show j = 0 ∨ j = 1 by omega) with rfl | rfl <;> rfl) (Nat.le_of_ble_eq_true rfl) (Nat.le_of_ble_eq_true rfl) ?_
  refine N.eqW cl_1 ?_
  refine N.dup dX4_init_79 rfl ?_
  refine N.iv0A dX4_init_80 vX0_init lkX4_44 (s_X0_init _ _) rfl (Nat.le_of_ble_eq_true rfl) (Nat.le_of_ble_eq_true rfl) (Nat.le_of_ble_eq_true rfl) (Nat.le_of_ble_eq_true rfl) ?_
  rintro _ _ ⟨rfl, rfl⟩
  refine N.eqW (w' := reg w q (cl [.inr (4, [.ref (q + 1), .ref (q + 7), .ref (q + 13), .ref (q + 19), .ref (q + 25), .ref (q + 27), .ref (q + 28), .null, .int 0]), .inr (1, rF (q + 1) v0M), .inl (kC K 0, 10, .inl (v0M.2 0)), .inl (kC K 0, 10, .inl (v0M.2 1)), .inl (kC K 0, 10, .inl (v0M.2 2)), .inl (kC K 0, 10, .inl (v0M.2 3)), .inl (kC K 0, 4, .inl (v0M.2 4)), .inr (1, rF (q + 7) v0M), .inl (kC K 0, 10, .inl (v0M.2 0)), .inl (kC K 0, 10, .inl (v0M.2 1)), .inl (kC K 0, 10, .inl (v0M.2 2)), .inl (kC K 0, 10, .inl (v0M.2 3)), .inl (kC K 0, 4, .inl (v0M.2 4)), .inr (1, rF (q + 13) v0M), .inl (kC K 0, 10, .inl (v0M.2 0)), .inl (kC K 0, 10, .inl (v0M.2 1)), .inl (kC K 0, 10, .inl (v0M.2 2)), .inl (kC K 0, 10, .inl (v0M.2 3)), .inl (kC K 0, 4, .inl (v0M.2 4)), .inr (1, rF (q + 19) v0M), .inl (kC K 0, 10, .inl (v0M.2 0)), .inl (kC K 0, 10, .inl (v0M.2 1)), .inl (kC K 0, 10, .inl (v0M.2 2)), .inl (kC K 0, 10, .inl (v0M.2 3)), .inl (kC K 0, 4, .inl (v0M.2 4)), .inr (3, tF (q + 25) t0X), .inl (kC K 0, 250, .inl t0X.1), .inl (kC K 2, 8, .inr (.inr (.inr (.inr (fun _ => none))))), .inl (kC K 0, 5, .inl (fun _ => 0)), .inr (0, pF (-1, 0))])) (cl_app pL_c) ?_
  refine N.putF dX4_init_83 (k := 7) ⟨_, _, _, rfl, by decide, gm1 175 (by decide +kernel) rfl, rfl, rfl⟩ rfl cl_0 (Nat.le_of_ble_eq_true rfl) rfl rfl (w' := reg w q (cl [.inr (4, [.ref (q + 1), .ref (q + 7), .ref (q + 13), .ref (q + 19), .ref (q + 25), .ref (q + 27), .ref (q + 28), .ref (q + 29), .int 0]), .inr (1, rF (q + 1) v0M), .inl (kC K 0, 10, .inl (v0M.2 0)), .inl (kC K 0, 10, .inl (v0M.2 1)), .inl (kC K 0, 10, .inl (v0M.2 2)), .inl (kC K 0, 10, .inl (v0M.2 3)), .inl (kC K 0, 4, .inl (v0M.2 4)), .inr (1, rF (q + 7) v0M), .inl (kC K 0, 10, .inl (v0M.2 0)), .inl (kC K 0, 10, .inl (v0M.2 1)), .inl (kC K 0, 10, .inl (v0M.2 2)), .inl (kC K 0, 10, .inl (v0M.2 3)), .inl (kC K 0, 4, .inl (v0M.2 4)), .inr (1, rF (q + 13) v0M), .inl (kC K 0, 10, .inl (v0M.2 0)), .inl (kC K 0, 10, .inl (v0M.2 1)), .inl (kC K 0, 10, .inl (v0M.2 2)), .inl (kC K 0, 10, .inl (v0M.2 3)), .inl (kC K 0, 4, .inl (v0M.2 4)), .inr (1, rF (q + 19) v0M), .inl (kC K 0, 10, .inl (v0M.2 0)), .inl (kC K 0, 10, .inl (v0M.2 1)), .inl (kC K 0, 10, .inl (v0M.2 2)), .inl (kC K 0, 10, .inl (v0M.2 3)), .inl (kC K 0, 4, .inl (v0M.2 4)), .inr (3, tF (q + 25) t0X), .inl (kC K 0, 250, .inl t0X.1), .inl (kC K 2, 8, .inr (.inr (.inr (.inr (fun _ => none))))), .inl (kC K 0, 5, .inl (fun _ => 0)), .inr (0, pF (-1, 0))])) cl_set ?_
  refine N.aload0 dX4_init_86 ?_
  refine N.iconst (v := 0) dX4_init_87 (by decide) ?_
  refine N.putf dX4_init_88 flX4_49 cl_0 (Nat.le_of_ble_eq_true rfl) (fun _ h => by cases h; rfl) rfl rfl (w' := reg w q (cl [.inr (4, [.ref (q + 1), .ref (q + 7), .ref (q + 13), .ref (q + 19), .ref (q + 25), .ref (q + 27), .ref (q + 28), .ref (q + 29), .int (0)]), .inr (1, rF (q + 1) v0M), .inl (kC K 0, 10, .inl (v0M.2 0)), .inl (kC K 0, 10, .inl (v0M.2 1)), .inl (kC K 0, 10, .inl (v0M.2 2)), .inl (kC K 0, 10, .inl (v0M.2 3)), .inl (kC K 0, 4, .inl (v0M.2 4)), .inr (1, rF (q + 7) v0M), .inl (kC K 0, 10, .inl (v0M.2 0)), .inl (kC K 0, 10, .inl (v0M.2 1)), .inl (kC K 0, 10, .inl (v0M.2 2)), .inl (kC K 0, 10, .inl (v0M.2 3)), .inl (kC K 0, 4, .inl (v0M.2 4)), .inr (1, rF (q + 13) v0M), .inl (kC K 0, 10, .inl (v0M.2 0)), .inl (kC K 0, 10, .inl (v0M.2 1)), .inl (kC K 0, 10, .inl (v0M.2 2)), .inl (kC K 0, 10, .inl (v0M.2 3)), .inl (kC K 0, 4, .inl (v0M.2 4)), .inr (1, rF (q + 19) v0M), .inl (kC K 0, 10, .inl (v0M.2 0)), .inl (kC K 0, 10, .inl (v0M.2 1)), .inl (kC K 0, 10, .inl (v0M.2 2)), .inl (kC K 0, 10, .inl (v0M.2 3)), .inl (kC K 0, 4, .inl (v0M.2 4)), .inr (3, tF (q + 25) t0X), .inl (kC K 0, 250, .inl t0X.1), .inl (kC K 2, 8, .inr (.inr (.inr (.inr (fun _ => none))))), .inl (kC K 0, 5, .inl (fun _ => 0)), .inr (0, pF (-1, 0))])) cl_set ?_
  refine N.iconst (v := 0) dX4_init_91 (by decide) ?_
  refine N.istore1 dX4_init_92 rfl ?_
  refine N.iload1 dX4_init_93 ?_
  refine N.bipush (v := 8) dX4_init_94 (by decide) ?_
  refine N.icmp_ge (tgt := 118) dX4_init_96 (by decide) (fun c => absurd c (by decide)) (fun c => ?_)
  refine N.aload0 dX4_init_99 ?_
  refine N.getf dX4_init_100 flX4_34 cl_0 rfl ?_
  refine N.iload1 dX4_init_103 ?_
  refine N.new [.null, .int 0, .int 0] dX4_init_104 (ci := 2) rfl clX4_32 isX2 itX2 (fun j hj => by rcases (show j = 0 ∨ j = 1 ∨ j = 2 by omega) with rfl | rfl | rfl <;> rfl) (Nat.le_of_ble_eq_true rfl) (Nat.le_of_ble_eq_true rfl) ?_
  refine N.eqW cl_1 ?_
  refine N.dup dX4_init_107 rfl ?_
  refine N.iv0A dX4_init_108 vX2_init lkX4_53 (s_X2_init _ _) rfl (Nat.le_of_ble_eq_true rfl) (Nat.le_of_ble_eq_true rfl) (Nat.le_of_ble_eq_true rfl) (Nat.le_of_ble_eq_true rfl) ?_
  rintro _ _ ⟨rfl, rfl⟩
  refine N.eqW (w' := reg w q (cl [.inr (4, [.ref (q + 1), .ref (q + 7), .ref (q + 13), .ref (q + 19), .ref (q + 25), .ref (q + 27), .ref (q + 28), .ref (q + 29), .int (0)]), .inr (1, rF (q + 1) v0M), .inl (kC K 0, 10, .inl (v0M.2 0)), .inl (kC K 0, 10, .inl (v0M.2 1)), .inl (kC K 0, 10, .inl (v0M.2 2)), .inl (kC K 0, 10, .inl (v0M.2 3)), .inl (kC K 0, 4, .inl (v0M.2 4)), .inr (1, rF (q + 7) v0M), .inl (kC K 0, 10, .inl (v0M.2 0)), .inl (kC K 0, 10, .inl (v0M.2 1)), .inl (kC K 0, 10, .inl (v0M.2 2)), .inl (kC K 0, 10, .inl (v0M.2 3)), .inl (kC K 0, 4, .inl (v0M.2 4)), .inr (1, rF (q + 13) v0M), .inl (kC K 0, 10, .inl (v0M.2 0)), .inl (kC K 0, 10, .inl (v0M.2 1)), .inl (kC K 0, 10, .inl (v0M.2 2)), .inl (kC K 0, 10, .inl (v0M.2 3)), .inl (kC K 0, 4, .inl (v0M.2 4)), .inr (1, rF (q + 19) v0M), .inl (kC K 0, 10, .inl (v0M.2 0)), .inl (kC K 0, 10, .inl (v0M.2 1)), .inl (kC K 0, 10, .inl (v0M.2 2)), .inl (kC K 0, 10, .inl (v0M.2 3)), .inl (kC K 0, 4, .inl (v0M.2 4)), .inr (3, tF (q + 25) t0X), .inl (kC K 0, 250, .inl t0X.1), .inl (kC K 2, 8, .inr (.inr (.inr (.inr (fun _ => none))))), .inl (kC K 0, 5, .inl (fun _ => 0)), .inr (0, pF (-1, 0)), .inr (2, sF (q + 30) s0X), .inl (kC K 1, 40, .inr (.inl s0X.1))])) (cl_app sL_c) ?_
  refine N.aast dX4_init_111 (reg_at (k := 27) rfl) (reg_at (k := 30) rfl) (vp_in_nI (n := 0) (by decide) (by decide)) (w' := reg w q (cl [.inr (4, [.ref (q + 1), .ref (q + 7), .ref (q + 13), .ref (q + 19), .ref (q + 25), .ref (q + 27), .ref (q + 28), .ref (q + 29), .int (0)]), .inr (1, rF (q + 1) v0M), .inl (kC K 0, 10, .inl (v0M.2 0)), .inl (kC K 0, 10, .inl (v0M.2 1)), .inl (kC K 0, 10, .inl (v0M.2 2)), .inl (kC K 0, 10, .inl (v0M.2 3)), .inl (kC K 0, 4, .inl (v0M.2 4)), .inr (1, rF (q + 7) v0M), .inl (kC K 0, 10, .inl (v0M.2 0)), .inl (kC K 0, 10, .inl (v0M.2 1)), .inl (kC K 0, 10, .inl (v0M.2 2)), .inl (kC K 0, 10, .inl (v0M.2 3)), .inl (kC K 0, 4, .inl (v0M.2 4)), .inr (1, rF (q + 13) v0M), .inl (kC K 0, 10, .inl (v0M.2 0)), .inl (kC K 0, 10, .inl (v0M.2 1)), .inl (kC K 0, 10, .inl (v0M.2 2)), .inl (kC K 0, 10, .inl (v0M.2 3)), .inl (kC K 0, 4, .inl (v0M.2 4)), .inr (1, rF (q + 19) v0M), .inl (kC K 0, 10, .inl (v0M.2 0)), .inl (kC K 0, 10, .inl (v0M.2 1)), .inl (kC K 0, 10, .inl (v0M.2 2)), .inl (kC K 0, 10, .inl (v0M.2 3)), .inl (kC K 0, 4, .inl (v0M.2 4)), .inr (3, tF (q + 25) t0X), .inl (kC K 0, 250, .inl t0X.1), .inl (kC K 2, 8, .inr (.inr (.inr (.inr (va_up (fun _ => none) 0 (some (q + 30))))))), .inl (kC K 0, 5, .inl (fun _ => 0)), .inr (0, pF (-1, 0)), .inr (2, sF (q + 30) s0X), .inl (kC K 1, 40, .inr (.inl s0X.1))])) (cl_at 27 rfl (Nat.le_of_ble_eq_true rfl)) ?_
  refine N.iinc1 (v := 1) dX4_init_112 rfl (by decide) ?_
  refine N.goto (tgt := 93) dX4_init_115 (by decide) ?_
  refine N.iload1 dX4_init_93 ?_
  refine N.bipush (v := 8) dX4_init_94 (by decide) ?_
  refine N.icmp_ge (tgt := 118) dX4_init_96 (by decide) (fun c => absurd c (by decide)) (fun c => ?_)
  refine N.aload0 dX4_init_99 ?_
  refine N.getf dX4_init_100 flX4_34 cl_0 rfl ?_
  refine N.iload1 dX4_init_103 ?_
  refine N.new [.null, .int 0, .int 0] dX4_init_104 (ci := 2) rfl clX4_32 isX2 itX2 (fun j hj => by rcases (show j = 0 ∨ j = 1 ∨ j = 2 by omega) with rfl | rfl | rfl <;> rfl) (Nat.le_of_ble_eq_true rfl) (Nat.le_of_ble_eq_true rfl) ?_
  refine N.eqW cl_1 ?_
  refine N.dup dX4_init_107 rfl ?_
  refine N.iv0A dX4_init_108 vX2_init lkX4_53 (s_X2_init _ _) rfl (Nat.le_of_ble_eq_true rfl) (Nat.le_of_ble_eq_true rfl) (Nat.le_of_ble_eq_true rfl) (Nat.le_of_ble_eq_true rfl) ?_
  rintro _ _ ⟨rfl, rfl⟩
  refine N.eqW (w' := reg w q (cl [.inr (4, [.ref (q + 1), .ref (q + 7), .ref (q + 13), .ref (q + 19), .ref (q + 25), .ref (q + 27), .ref (q + 28), .ref (q + 29), .int (0)]), .inr (1, rF (q + 1) v0M), .inl (kC K 0, 10, .inl (v0M.2 0)), .inl (kC K 0, 10, .inl (v0M.2 1)), .inl (kC K 0, 10, .inl (v0M.2 2)), .inl (kC K 0, 10, .inl (v0M.2 3)), .inl (kC K 0, 4, .inl (v0M.2 4)), .inr (1, rF (q + 7) v0M), .inl (kC K 0, 10, .inl (v0M.2 0)), .inl (kC K 0, 10, .inl (v0M.2 1)), .inl (kC K 0, 10, .inl (v0M.2 2)), .inl (kC K 0, 10, .inl (v0M.2 3)), .inl (kC K 0, 4, .inl (v0M.2 4)), .inr (1, rF (q + 13) v0M), .inl (kC K 0, 10, .inl (v0M.2 0)), .inl (kC K 0, 10, .inl (v0M.2 1)), .inl (kC K 0, 10, .inl (v0M.2 2)), .inl (kC K 0, 10, .inl (v0M.2 3)), .inl (kC K 0, 4, .inl (v0M.2 4)), .inr (1, rF (q + 19) v0M), .inl (kC K 0, 10, .inl (v0M.2 0)), .inl (kC K 0, 10, .inl (v0M.2 1)), .inl (kC K 0, 10, .inl (v0M.2 2)), .inl (kC K 0, 10, .inl (v0M.2 3)), .inl (kC K 0, 4, .inl (v0M.2 4)), .inr (3, tF (q + 25) t0X), .inl (kC K 0, 250, .inl t0X.1), .inl (kC K 2, 8, .inr (.inr (.inr (.inr (va_up (fun _ => none) 0 (some (q + 30))))))), .inl (kC K 0, 5, .inl (fun _ => 0)), .inr (0, pF (-1, 0)), .inr (2, sF (q + 30) s0X), .inl (kC K 1, 40, .inr (.inl s0X.1)), .inr (2, sF (q + 32) s0X), .inl (kC K 1, 40, .inr (.inl s0X.1))])) (cl_app sL_c) ?_
  refine N.aast dX4_init_111 (reg_at (k := 27) rfl) (reg_at (k := 32) rfl) (vp_in_nI (n := 1) (by decide) (by decide)) (w' := reg w q (cl [.inr (4, [.ref (q + 1), .ref (q + 7), .ref (q + 13), .ref (q + 19), .ref (q + 25), .ref (q + 27), .ref (q + 28), .ref (q + 29), .int (0)]), .inr (1, rF (q + 1) v0M), .inl (kC K 0, 10, .inl (v0M.2 0)), .inl (kC K 0, 10, .inl (v0M.2 1)), .inl (kC K 0, 10, .inl (v0M.2 2)), .inl (kC K 0, 10, .inl (v0M.2 3)), .inl (kC K 0, 4, .inl (v0M.2 4)), .inr (1, rF (q + 7) v0M), .inl (kC K 0, 10, .inl (v0M.2 0)), .inl (kC K 0, 10, .inl (v0M.2 1)), .inl (kC K 0, 10, .inl (v0M.2 2)), .inl (kC K 0, 10, .inl (v0M.2 3)), .inl (kC K 0, 4, .inl (v0M.2 4)), .inr (1, rF (q + 13) v0M), .inl (kC K 0, 10, .inl (v0M.2 0)), .inl (kC K 0, 10, .inl (v0M.2 1)), .inl (kC K 0, 10, .inl (v0M.2 2)), .inl (kC K 0, 10, .inl (v0M.2 3)), .inl (kC K 0, 4, .inl (v0M.2 4)), .inr (1, rF (q + 19) v0M), .inl (kC K 0, 10, .inl (v0M.2 0)), .inl (kC K 0, 10, .inl (v0M.2 1)), .inl (kC K 0, 10, .inl (v0M.2 2)), .inl (kC K 0, 10, .inl (v0M.2 3)), .inl (kC K 0, 4, .inl (v0M.2 4)), .inr (3, tF (q + 25) t0X), .inl (kC K 0, 250, .inl t0X.1), .inl (kC K 2, 8, .inr (.inr (.inr (.inr (va_up (va_up (fun _ => none) 0 (some (q + 30))) 1 (some (q + 32))))))), .inl (kC K 0, 5, .inl (fun _ => 0)), .inr (0, pF (-1, 0)), .inr (2, sF (q + 30) s0X), .inl (kC K 1, 40, .inr (.inl s0X.1)), .inr (2, sF (q + 32) s0X), .inl (kC K 1, 40, .inr (.inl s0X.1))])) (cl_at 27 rfl (Nat.le_of_ble_eq_true rfl)) ?_
  refine N.iinc1 (v := 2) dX4_init_112 rfl (by decide) ?_
  refine N.goto (tgt := 93) dX4_init_115 (by decide) ?_
  refine N.iload1 dX4_init_93 ?_
  refine N.bipush (v := 8) dX4_init_94 (by decide) ?_
  refine N.icmp_ge (tgt := 118) dX4_init_96 (by decide) (fun c => absurd c (by decide)) (fun c => ?_)
  refine N.aload0 dX4_init_99 ?_
  refine N.getf dX4_init_100 flX4_34 cl_0 rfl ?_
  refine N.iload1 dX4_init_103 ?_
  refine N.new [.null, .int 0, .int 0] dX4_init_104 (ci := 2) rfl clX4_32 isX2 itX2 (fun j hj => by rcases (show j = 0 ∨ j = 1 ∨ j = 2 by omega) with rfl | rfl | rfl <;> rfl) (Nat.le_of_ble_eq_true rfl) (Nat.le_of_ble_eq_true rfl) ?_
  refine N.eqW cl_1 ?_
  refine N.dup dX4_init_107 rfl ?_
  refine N.iv0A dX4_init_108 vX2_init lkX4_53 (s_X2_init _ _) rfl (Nat.le_of_ble_eq_true rfl) (Nat.le_of_ble_eq_true rfl) (Nat.le_of_ble_eq_true rfl) (Nat.le_of_ble_eq_true rfl) ?_
  rintro _ _ ⟨rfl, rfl⟩
  refine N.eqW (w' := reg w q (cl [.inr (4, [.ref (q + 1), .ref (q + 7), .ref (q + 13), .ref (q + 19), .ref (q + 25), .ref (q + 27), .ref (q + 28), .ref (q + 29), .int (0)]), .inr (1, rF (q + 1) v0M), .inl (kC K 0, 10, .inl (v0M.2 0)), .inl (kC K 0, 10, .inl (v0M.2 1)), .inl (kC K 0, 10, .inl (v0M.2 2)), .inl (kC K 0, 10, .inl (v0M.2 3)), .inl (kC K 0, 4, .inl (v0M.2 4)), .inr (1, rF (q + 7) v0M), .inl (kC K 0, 10, .inl (v0M.2 0)), .inl (kC K 0, 10, .inl (v0M.2 1)), .inl (kC K 0, 10, .inl (v0M.2 2)), .inl (kC K 0, 10, .inl (v0M.2 3)), .inl (kC K 0, 4, .inl (v0M.2 4)), .inr (1, rF (q + 13) v0M), .inl (kC K 0, 10, .inl (v0M.2 0)), .inl (kC K 0, 10, .inl (v0M.2 1)), .inl (kC K 0, 10, .inl (v0M.2 2)), .inl (kC K 0, 10, .inl (v0M.2 3)), .inl (kC K 0, 4, .inl (v0M.2 4)), .inr (1, rF (q + 19) v0M), .inl (kC K 0, 10, .inl (v0M.2 0)), .inl (kC K 0, 10, .inl (v0M.2 1)), .inl (kC K 0, 10, .inl (v0M.2 2)), .inl (kC K 0, 10, .inl (v0M.2 3)), .inl (kC K 0, 4, .inl (v0M.2 4)), .inr (3, tF (q + 25) t0X), .inl (kC K 0, 250, .inl t0X.1), .inl (kC K 2, 8, .inr (.inr (.inr (.inr (va_up (va_up (fun _ => none) 0 (some (q + 30))) 1 (some (q + 32))))))), .inl (kC K 0, 5, .inl (fun _ => 0)), .inr (0, pF (-1, 0)), .inr (2, sF (q + 30) s0X), .inl (kC K 1, 40, .inr (.inl s0X.1)), .inr (2, sF (q + 32) s0X), .inl (kC K 1, 40, .inr (.inl s0X.1)), .inr (2, sF (q + 34) s0X), .inl (kC K 1, 40, .inr (.inl s0X.1))])) (cl_app sL_c) ?_
  refine N.aast dX4_init_111 (reg_at (k := 27) rfl) (reg_at (k := 34) rfl) (vp_in_nI (n := 2) (by decide) (by decide)) (w' := reg w q (cl [.inr (4, [.ref (q + 1), .ref (q + 7), .ref (q + 13), .ref (q + 19), .ref (q + 25), .ref (q + 27), .ref (q + 28), .ref (q + 29), .int (0)]), .inr (1, rF (q + 1) v0M), .inl (kC K 0, 10, .inl (v0M.2 0)), .inl (kC K 0, 10, .inl (v0M.2 1)), .inl (kC K 0, 10, .inl (v0M.2 2)), .inl (kC K 0, 10, .inl (v0M.2 3)), .inl (kC K 0, 4, .inl (v0M.2 4)), .inr (1, rF (q + 7) v0M), .inl (kC K 0, 10, .inl (v0M.2 0)), .inl (kC K 0, 10, .inl (v0M.2 1)), .inl (kC K 0, 10, .inl (v0M.2 2)), .inl (kC K 0, 10, .inl (v0M.2 3)), .inl (kC K 0, 4, .inl (v0M.2 4)), .inr (1, rF (q + 13) v0M), .inl (kC K 0, 10, .inl (v0M.2 0)), .inl (kC K 0, 10, .inl (v0M.2 1)), .inl (kC K 0, 10, .inl (v0M.2 2)), .inl (kC K 0, 10, .inl (v0M.2 3)), .inl (kC K 0, 4, .inl (v0M.2 4)), .inr (1, rF (q + 19) v0M), .inl (kC K 0, 10, .inl (v0M.2 0)), .inl (kC K 0, 10, .inl (v0M.2 1)), .inl (kC K 0, 10, .inl (v0M.2 2)), .inl (kC K 0, 10, .inl (v0M.2 3)), .inl (kC K 0, 4, .inl (v0M.2 4)), .inr (3, tF (q + 25) t0X), .inl (kC K 0, 250, .inl t0X.1), .inl (kC K 2, 8, .inr (.inr (.inr (.inr (va_up (va_up (va_up (fun _ => none) 0 (some (q + 30))) 1 (some (q + 32))) 2 (some (q + 34))))))), .inl (kC K 0, 5, .inl (fun _ => 0)), .inr (0, pF (-1, 0)), .inr (2, sF (q + 30) s0X), .inl (kC K 1, 40, .inr (.inl s0X.1)), .inr (2, sF (q + 32) s0X), .inl (kC K 1, 40, .inr (.inl s0X.1)), .inr (2, sF (q + 34) s0X), .inl (kC K 1, 40, .inr (.inl s0X.1))])) (cl_at 27 rfl (Nat.le_of_ble_eq_true rfl)) ?_
  refine N.iinc1 (v := 3) dX4_init_112 rfl (by decide) ?_
  refine N.goto (tgt := 93) dX4_init_115 (by decide) ?_
  refine N.iload1 dX4_init_93 ?_
  refine N.bipush (v := 8) dX4_init_94 (by decide) ?_
  refine N.icmp_ge (tgt := 118) dX4_init_96 (by decide) (fun c => absurd c (by decide)) (fun c => ?_)
  refine N.aload0 dX4_init_99 ?_
  refine N.getf dX4_init_100 flX4_34 cl_0 rfl ?_
  refine N.iload1 dX4_init_103 ?_
  refine N.new [.null, .int 0, .int 0] dX4_init_104 (ci := 2) rfl clX4_32 isX2 itX2 (fun j hj => by rcases (show j = 0 ∨ j = 1 ∨ j = 2 by omega) with rfl | rfl | rfl <;> rfl) (Nat.le_of_ble_eq_true rfl) (Nat.le_of_ble_eq_true rfl) ?_
  refine N.eqW cl_1 ?_
  refine N.dup dX4_init_107 rfl ?_
  refine N.iv0A dX4_init_108 vX2_init lkX4_53 (s_X2_init _ _) rfl (Nat.le_of_ble_eq_true rfl) (Nat.le_of_ble_eq_true rfl) (Nat.le_of_ble_eq_true rfl) (Nat.le_of_ble_eq_true rfl) ?_
  rintro _ _ ⟨rfl, rfl⟩
  refine N.eqW (w' := reg w q (cl [.inr (4, [.ref (q + 1), .ref (q + 7), .ref (q + 13), .ref (q + 19), .ref (q + 25), .ref (q + 27), .ref (q + 28), .ref (q + 29), .int (0)]), .inr (1, rF (q + 1) v0M), .inl (kC K 0, 10, .inl (v0M.2 0)), .inl (kC K 0, 10, .inl (v0M.2 1)), .inl (kC K 0, 10, .inl (v0M.2 2)), .inl (kC K 0, 10, .inl (v0M.2 3)), .inl (kC K 0, 4, .inl (v0M.2 4)), .inr (1, rF (q + 7) v0M), .inl (kC K 0, 10, .inl (v0M.2 0)), .inl (kC K 0, 10, .inl (v0M.2 1)), .inl (kC K 0, 10, .inl (v0M.2 2)), .inl (kC K 0, 10, .inl (v0M.2 3)), .inl (kC K 0, 4, .inl (v0M.2 4)), .inr (1, rF (q + 13) v0M), .inl (kC K 0, 10, .inl (v0M.2 0)), .inl (kC K 0, 10, .inl (v0M.2 1)), .inl (kC K 0, 10, .inl (v0M.2 2)), .inl (kC K 0, 10, .inl (v0M.2 3)), .inl (kC K 0, 4, .inl (v0M.2 4)), .inr (1, rF (q + 19) v0M), .inl (kC K 0, 10, .inl (v0M.2 0)), .inl (kC K 0, 10, .inl (v0M.2 1)), .inl (kC K 0, 10, .inl (v0M.2 2)), .inl (kC K 0, 10, .inl (v0M.2 3)), .inl (kC K 0, 4, .inl (v0M.2 4)), .inr (3, tF (q + 25) t0X), .inl (kC K 0, 250, .inl t0X.1), .inl (kC K 2, 8, .inr (.inr (.inr (.inr (va_up (va_up (va_up (fun _ => none) 0 (some (q + 30))) 1 (some (q + 32))) 2 (some (q + 34))))))), .inl (kC K 0, 5, .inl (fun _ => 0)), .inr (0, pF (-1, 0)), .inr (2, sF (q + 30) s0X), .inl (kC K 1, 40, .inr (.inl s0X.1)), .inr (2, sF (q + 32) s0X), .inl (kC K 1, 40, .inr (.inl s0X.1)), .inr (2, sF (q + 34) s0X), .inl (kC K 1, 40, .inr (.inl s0X.1)), .inr (2, sF (q + 36) s0X), .inl (kC K 1, 40, .inr (.inl s0X.1))])) (cl_app sL_c) ?_
  refine N.aast dX4_init_111 (reg_at (k := 27) rfl) (reg_at (k := 36) rfl) (vp_in_nI (n := 3) (by decide) (by decide)) (w' := reg w q (cl [.inr (4, [.ref (q + 1), .ref (q + 7), .ref (q + 13), .ref (q + 19), .ref (q + 25), .ref (q + 27), .ref (q + 28), .ref (q + 29), .int (0)]), .inr (1, rF (q + 1) v0M), .inl (kC K 0, 10, .inl (v0M.2 0)), .inl (kC K 0, 10, .inl (v0M.2 1)), .inl (kC K 0, 10, .inl (v0M.2 2)), .inl (kC K 0, 10, .inl (v0M.2 3)), .inl (kC K 0, 4, .inl (v0M.2 4)), .inr (1, rF (q + 7) v0M), .inl (kC K 0, 10, .inl (v0M.2 0)), .inl (kC K 0, 10, .inl (v0M.2 1)), .inl (kC K 0, 10, .inl (v0M.2 2)), .inl (kC K 0, 10, .inl (v0M.2 3)), .inl (kC K 0, 4, .inl (v0M.2 4)), .inr (1, rF (q + 13) v0M), .inl (kC K 0, 10, .inl (v0M.2 0)), .inl (kC K 0, 10, .inl (v0M.2 1)), .inl (kC K 0, 10, .inl (v0M.2 2)), .inl (kC K 0, 10, .inl (v0M.2 3)), .inl (kC K 0, 4, .inl (v0M.2 4)), .inr (1, rF (q + 19) v0M), .inl (kC K 0, 10, .inl (v0M.2 0)), .inl (kC K 0, 10, .inl (v0M.2 1)), .inl (kC K 0, 10, .inl (v0M.2 2)), .inl (kC K 0, 10, .inl (v0M.2 3)), .inl (kC K 0, 4, .inl (v0M.2 4)), .inr (3, tF (q + 25) t0X), .inl (kC K 0, 250, .inl t0X.1), .inl (kC K 2, 8, .inr (.inr (.inr (.inr (va_up (va_up (va_up (va_up (fun _ => none) 0 (some (q + 30))) 1 (some (q + 32))) 2 (some (q + 34))) 3 (some (q + 36))))))), .inl (kC K 0, 5, .inl (fun _ => 0)), .inr (0, pF (-1, 0)), .inr (2, sF (q + 30) s0X), .inl (kC K 1, 40, .inr (.inl s0X.1)), .inr (2, sF (q + 32) s0X), .inl (kC K 1, 40, .inr (.inl s0X.1)), .inr (2, sF (q + 34) s0X), .inl (kC K 1, 40, .inr (.inl s0X.1)), .inr (2, sF (q + 36) s0X), .inl (kC K 1, 40, .inr (.inl s0X.1))])) (cl_at 27 rfl (Nat.le_of_ble_eq_true rfl)) ?_
  refine N.iinc1 (v := 4) dX4_init_112 rfl (by decide) ?_
  refine N.goto (tgt := 93) dX4_init_115 (by decide) ?_
  refine N.iload1 dX4_init_93 ?_
  refine N.bipush (v := 8) dX4_init_94 (by decide) ?_
  refine N.icmp_ge (tgt := 118) dX4_init_96 (by decide) (fun c => absurd c (by decide)) (fun c => ?_)
  refine N.aload0 dX4_init_99 ?_
  refine N.getf dX4_init_100 flX4_34 cl_0 rfl ?_
  refine N.iload1 dX4_init_103 ?_
  refine N.new [.null, .int 0, .int 0] dX4_init_104 (ci := 2) rfl clX4_32 isX2 itX2 (fun j hj => by rcases (show j = 0 ∨ j = 1 ∨ j = 2 by omega) with rfl | rfl | rfl <;> rfl) (Nat.le_of_ble_eq_true rfl) (Nat.le_of_ble_eq_true rfl) ?_
  refine N.eqW cl_1 ?_
  refine N.dup dX4_init_107 rfl ?_
  refine N.iv0A dX4_init_108 vX2_init lkX4_53 (s_X2_init _ _) rfl (Nat.le_of_ble_eq_true rfl) (Nat.le_of_ble_eq_true rfl) (Nat.le_of_ble_eq_true rfl) (Nat.le_of_ble_eq_true rfl) ?_
  rintro _ _ ⟨rfl, rfl⟩
  refine N.eqW (w' := reg w q (cl [.inr (4, [.ref (q + 1), .ref (q + 7), .ref (q + 13), .ref (q + 19), .ref (q + 25), .ref (q + 27), .ref (q + 28), .ref (q + 29), .int (0)]), .inr (1, rF (q + 1) v0M), .inl (kC K 0, 10, .inl (v0M.2 0)), .inl (kC K 0, 10, .inl (v0M.2 1)), .inl (kC K 0, 10, .inl (v0M.2 2)), .inl (kC K 0, 10, .inl (v0M.2 3)), .inl (kC K 0, 4, .inl (v0M.2 4)), .inr (1, rF (q + 7) v0M), .inl (kC K 0, 10, .inl (v0M.2 0)), .inl (kC K 0, 10, .inl (v0M.2 1)), .inl (kC K 0, 10, .inl (v0M.2 2)), .inl (kC K 0, 10, .inl (v0M.2 3)), .inl (kC K 0, 4, .inl (v0M.2 4)), .inr (1, rF (q + 13) v0M), .inl (kC K 0, 10, .inl (v0M.2 0)), .inl (kC K 0, 10, .inl (v0M.2 1)), .inl (kC K 0, 10, .inl (v0M.2 2)), .inl (kC K 0, 10, .inl (v0M.2 3)), .inl (kC K 0, 4, .inl (v0M.2 4)), .inr (1, rF (q + 19) v0M), .inl (kC K 0, 10, .inl (v0M.2 0)), .inl (kC K 0, 10, .inl (v0M.2 1)), .inl (kC K 0, 10, .inl (v0M.2 2)), .inl (kC K 0, 10, .inl (v0M.2 3)), .inl (kC K 0, 4, .inl (v0M.2 4)), .inr (3, tF (q + 25) t0X), .inl (kC K 0, 250, .inl t0X.1), .inl (kC K 2, 8, .inr (.inr (.inr (.inr (va_up (va_up (va_up (va_up (fun _ => none) 0 (some (q + 30))) 1 (some (q + 32))) 2 (some (q + 34))) 3 (some (q + 36))))))), .inl (kC K 0, 5, .inl (fun _ => 0)), .inr (0, pF (-1, 0)), .inr (2, sF (q + 30) s0X), .inl (kC K 1, 40, .inr (.inl s0X.1)), .inr (2, sF (q + 32) s0X), .inl (kC K 1, 40, .inr (.inl s0X.1)), .inr (2, sF (q + 34) s0X), .inl (kC K 1, 40, .inr (.inl s0X.1)), .inr (2, sF (q + 36) s0X), .inl (kC K 1, 40, .inr (.inl s0X.1)), .inr (2, sF (q + 38) s0X), .inl (kC K 1, 40, .inr (.inl s0X.1))])) (cl_app sL_c) ?_
  refine N.aast dX4_init_111 (reg_at (k := 27) rfl) (reg_at (k := 38) rfl) (vp_in_nI (n := 4) (by decide) (by decide)) (w' := reg w q (cl [.inr (4, [.ref (q + 1), .ref (q + 7), .ref (q + 13), .ref (q + 19), .ref (q + 25), .ref (q + 27), .ref (q + 28), .ref (q + 29), .int (0)]), .inr (1, rF (q + 1) v0M), .inl (kC K 0, 10, .inl (v0M.2 0)), .inl (kC K 0, 10, .inl (v0M.2 1)), .inl (kC K 0, 10, .inl (v0M.2 2)), .inl (kC K 0, 10, .inl (v0M.2 3)), .inl (kC K 0, 4, .inl (v0M.2 4)), .inr (1, rF (q + 7) v0M), .inl (kC K 0, 10, .inl (v0M.2 0)), .inl (kC K 0, 10, .inl (v0M.2 1)), .inl (kC K 0, 10, .inl (v0M.2 2)), .inl (kC K 0, 10, .inl (v0M.2 3)), .inl (kC K 0, 4, .inl (v0M.2 4)), .inr (1, rF (q + 13) v0M), .inl (kC K 0, 10, .inl (v0M.2 0)), .inl (kC K 0, 10, .inl (v0M.2 1)), .inl (kC K 0, 10, .inl (v0M.2 2)), .inl (kC K 0, 10, .inl (v0M.2 3)), .inl (kC K 0, 4, .inl (v0M.2 4)), .inr (1, rF (q + 19) v0M), .inl (kC K 0, 10, .inl (v0M.2 0)), .inl (kC K 0, 10, .inl (v0M.2 1)), .inl (kC K 0, 10, .inl (v0M.2 2)), .inl (kC K 0, 10, .inl (v0M.2 3)), .inl (kC K 0, 4, .inl (v0M.2 4)), .inr (3, tF (q + 25) t0X), .inl (kC K 0, 250, .inl t0X.1), .inl (kC K 2, 8, .inr (.inr (.inr (.inr (va_up (va_up (va_up (va_up (va_up (fun _ => none) 0 (some (q + 30))) 1 (some (q + 32))) 2 (some (q + 34))) 3 (some (q + 36))) 4 (some (q + 38))))))), .inl (kC K 0, 5, .inl (fun _ => 0)), .inr (0, pF (-1, 0)), .inr (2, sF (q + 30) s0X), .inl (kC K 1, 40, .inr (.inl s0X.1)), .inr (2, sF (q + 32) s0X), .inl (kC K 1, 40, .inr (.inl s0X.1)), .inr (2, sF (q + 34) s0X), .inl (kC K 1, 40, .inr (.inl s0X.1)), .inr (2, sF (q + 36) s0X), .inl (kC K 1, 40, .inr (.inl s0X.1)), .inr (2, sF (q + 38) s0X), .inl (kC K 1, 40, .inr (.inl s0X.1))])) (cl_at 27 rfl (Nat.le_of_ble_eq_true rfl)) ?_
  refine N.iinc1 (v := 5) dX4_init_112 rfl (by decide) ?_
  refine N.goto (tgt := 93) dX4_init_115 (by decide) ?_
  refine N.iload1 dX4_init_93 ?_
  refine N.bipush (v := 8) dX4_init_94 (by decide) ?_
  refine N.icmp_ge (tgt := 118) dX4_init_96 (by decide) (fun c => absurd c (by decide)) (fun c => ?_)
  refine N.aload0 dX4_init_99 ?_
  refine N.getf dX4_init_100 flX4_34 cl_0 rfl ?_
  refine N.iload1 dX4_init_103 ?_
  refine N.new [.null, .int 0, .int 0] dX4_init_104 (ci := 2) rfl clX4_32 isX2 itX2 (fun j hj => by rcases (show j = 0 ∨ j = 1 ∨ j = 2 by omega) with rfl | rfl | rfl <;> rfl) (Nat.le_of_ble_eq_true rfl) (Nat.le_of_ble_eq_true rfl) ?_
  refine N.eqW cl_1 ?_
  refine N.dup dX4_init_107 rfl ?_
  refine N.iv0A dX4_init_108 vX2_init lkX4_53 (s_X2_init _ _) rfl (Nat.le_of_ble_eq_true rfl) (Nat.le_of_ble_eq_true rfl) (Nat.le_of_ble_eq_true rfl) (Nat.le_of_ble_eq_true rfl) ?_
  rintro _ _ ⟨rfl, rfl⟩
  refine N.eqW (w' := reg w q (cl [.inr (4, [.ref (q + 1), .ref (q + 7), .ref (q + 13), .ref (q + 19), .ref (q + 25), .ref (q + 27), .ref (q + 28), .ref (q + 29), .int (0)]), .inr (1, rF (q + 1) v0M), .inl (kC K 0, 10, .inl (v0M.2 0)), .inl (kC K 0, 10, .inl (v0M.2 1)), .inl (kC K 0, 10, .inl (v0M.2 2)), .inl (kC K 0, 10, .inl (v0M.2 3)), .inl (kC K 0, 4, .inl (v0M.2 4)), .inr (1, rF (q + 7) v0M), .inl (kC K 0, 10, .inl (v0M.2 0)), .inl (kC K 0, 10, .inl (v0M.2 1)), .inl (kC K 0, 10, .inl (v0M.2 2)), .inl (kC K 0, 10, .inl (v0M.2 3)), .inl (kC K 0, 4, .inl (v0M.2 4)), .inr (1, rF (q + 13) v0M), .inl (kC K 0, 10, .inl (v0M.2 0)), .inl (kC K 0, 10, .inl (v0M.2 1)), .inl (kC K 0, 10, .inl (v0M.2 2)), .inl (kC K 0, 10, .inl (v0M.2 3)), .inl (kC K 0, 4, .inl (v0M.2 4)), .inr (1, rF (q + 19) v0M), .inl (kC K 0, 10, .inl (v0M.2 0)), .inl (kC K 0, 10, .inl (v0M.2 1)), .inl (kC K 0, 10, .inl (v0M.2 2)), .inl (kC K 0, 10, .inl (v0M.2 3)), .inl (kC K 0, 4, .inl (v0M.2 4)), .inr (3, tF (q + 25) t0X), .inl (kC K 0, 250, .inl t0X.1), .inl (kC K 2, 8, .inr (.inr (.inr (.inr (va_up (va_up (va_up (va_up (va_up (fun _ => none) 0 (some (q + 30))) 1 (some (q + 32))) 2 (some (q + 34))) 3 (some (q + 36))) 4 (some (q + 38))))))), .inl (kC K 0, 5, .inl (fun _ => 0)), .inr (0, pF (-1, 0)), .inr (2, sF (q + 30) s0X), .inl (kC K 1, 40, .inr (.inl s0X.1)), .inr (2, sF (q + 32) s0X), .inl (kC K 1, 40, .inr (.inl s0X.1)), .inr (2, sF (q + 34) s0X), .inl (kC K 1, 40, .inr (.inl s0X.1)), .inr (2, sF (q + 36) s0X), .inl (kC K 1, 40, .inr (.inl s0X.1)), .inr (2, sF (q + 38) s0X), .inl (kC K 1, 40, .inr (.inl s0X.1)), .inr (2, sF (q + 40) s0X), .inl (kC K 1, 40, .inr (.inl s0X.1))])) (cl_app sL_c) ?_
  refine N.aast dX4_init_111 (reg_at (k := 27) rfl) (reg_at (k := 40) rfl) (vp_in_nI (n := 5) (by decide) (by decide)) (w' := reg w q (cl [.inr (4, [.ref (q + 1), .ref (q + 7), .ref (q + 13), .ref (q + 19), .ref (q + 25), .ref (q + 27), .ref (q + 28), .ref (q + 29), .int (0)]), .inr (1, rF (q + 1) v0M), .inl (kC K 0, 10, .inl (v0M.2 0)), .inl (kC K 0, 10, .inl (v0M.2 1)), .inl (kC K 0, 10, .inl (v0M.2 2)), .inl (kC K 0, 10, .inl (v0M.2 3)), .inl (kC K 0, 4, .inl (v0M.2 4)), .inr (1, rF (q + 7) v0M), .inl (kC K 0, 10, .inl (v0M.2 0)), .inl (kC K 0, 10, .inl (v0M.2 1)), .inl (kC K 0, 10, .inl (v0M.2 2)), .inl (kC K 0, 10, .inl (v0M.2 3)), .inl (kC K 0, 4, .inl (v0M.2 4)), .inr (1, rF (q + 13) v0M), .inl (kC K 0, 10, .inl (v0M.2 0)), .inl (kC K 0, 10, .inl (v0M.2 1)), .inl (kC K 0, 10, .inl (v0M.2 2)), .inl (kC K 0, 10, .inl (v0M.2 3)), .inl (kC K 0, 4, .inl (v0M.2 4)), .inr (1, rF (q + 19) v0M), .inl (kC K 0, 10, .inl (v0M.2 0)), .inl (kC K 0, 10, .inl (v0M.2 1)), .inl (kC K 0, 10, .inl (v0M.2 2)), .inl (kC K 0, 10, .inl (v0M.2 3)), .inl (kC K 0, 4, .inl (v0M.2 4)), .inr (3, tF (q + 25) t0X), .inl (kC K 0, 250, .inl t0X.1), .inl (kC K 2, 8, .inr (.inr (.inr (.inr (va_up (va_up (va_up (va_up (va_up (va_up (fun _ => none) 0 (some (q + 30))) 1 (some (q + 32))) 2 (some (q + 34))) 3 (some (q + 36))) 4 (some (q + 38))) 5 (some (q + 40))))))), .inl (kC K 0, 5, .inl (fun _ => 0)), .inr (0, pF (-1, 0)), .inr (2, sF (q + 30) s0X), .inl (kC K 1, 40, .inr (.inl s0X.1)), .inr (2, sF (q + 32) s0X), .inl (kC K 1, 40, .inr (.inl s0X.1)), .inr (2, sF (q + 34) s0X), .inl (kC K 1, 40, .inr (.inl s0X.1)), .inr (2, sF (q + 36) s0X), .inl (kC K 1, 40, .inr (.inl s0X.1)), .inr (2, sF (q + 38) s0X), .inl (kC K 1, 40, .inr (.inl s0X.1)), .inr (2, sF (q + 40) s0X), .inl (kC K 1, 40, .inr (.inl s0X.1))])) (cl_at 27 rfl (Nat.le_of_ble_eq_true rfl)) ?_
  refine N.iinc1 (v := 6) dX4_init_112 rfl (by decide) ?_
  refine N.goto (tgt := 93) dX4_init_115 (by decide) ?_
  refine N.iload1 dX4_init_93 ?_
  refine N.bipush (v := 8) dX4_init_94 (by decide) ?_
  refine N.icmp_ge (tgt := 118) dX4_init_96 (by decide) (fun c => absurd c (by decide)) (fun c => ?_)
  refine N.aload0 dX4_init_99 ?_
  refine N.getf dX4_init_100 flX4_34 cl_0 rfl ?_
  refine N.iload1 dX4_init_103 ?_
  refine N.new [.null, .int 0, .int 0] dX4_init_104 (ci := 2) rfl clX4_32 isX2 itX2 (fun j hj => by rcases (show j = 0 ∨ j = 1 ∨ j = 2 by omega) with rfl | rfl | rfl <;> rfl) (Nat.le_of_ble_eq_true rfl) (Nat.le_of_ble_eq_true rfl) ?_
  refine N.eqW cl_1 ?_
  refine N.dup dX4_init_107 rfl ?_
  refine N.iv0A dX4_init_108 vX2_init lkX4_53 (s_X2_init _ _) rfl (Nat.le_of_ble_eq_true rfl) (Nat.le_of_ble_eq_true rfl) (Nat.le_of_ble_eq_true rfl) (Nat.le_of_ble_eq_true rfl) ?_
  rintro _ _ ⟨rfl, rfl⟩
  refine N.eqW (w' := reg w q (cl [.inr (4, [.ref (q + 1), .ref (q + 7), .ref (q + 13), .ref (q + 19), .ref (q + 25), .ref (q + 27), .ref (q + 28), .ref (q + 29), .int (0)]), .inr (1, rF (q + 1) v0M), .inl (kC K 0, 10, .inl (v0M.2 0)), .inl (kC K 0, 10, .inl (v0M.2 1)), .inl (kC K 0, 10, .inl (v0M.2 2)), .inl (kC K 0, 10, .inl (v0M.2 3)), .inl (kC K 0, 4, .inl (v0M.2 4)), .inr (1, rF (q + 7) v0M), .inl (kC K 0, 10, .inl (v0M.2 0)), .inl (kC K 0, 10, .inl (v0M.2 1)), .inl (kC K 0, 10, .inl (v0M.2 2)), .inl (kC K 0, 10, .inl (v0M.2 3)), .inl (kC K 0, 4, .inl (v0M.2 4)), .inr (1, rF (q + 13) v0M), .inl (kC K 0, 10, .inl (v0M.2 0)), .inl (kC K 0, 10, .inl (v0M.2 1)), .inl (kC K 0, 10, .inl (v0M.2 2)), .inl (kC K 0, 10, .inl (v0M.2 3)), .inl (kC K 0, 4, .inl (v0M.2 4)), .inr (1, rF (q + 19) v0M), .inl (kC K 0, 10, .inl (v0M.2 0)), .inl (kC K 0, 10, .inl (v0M.2 1)), .inl (kC K 0, 10, .inl (v0M.2 2)), .inl (kC K 0, 10, .inl (v0M.2 3)), .inl (kC K 0, 4, .inl (v0M.2 4)), .inr (3, tF (q + 25) t0X), .inl (kC K 0, 250, .inl t0X.1), .inl (kC K 2, 8, .inr (.inr (.inr (.inr (va_up (va_up (va_up (va_up (va_up (va_up (fun _ => none) 0 (some (q + 30))) 1 (some (q + 32))) 2 (some (q + 34))) 3 (some (q + 36))) 4 (some (q + 38))) 5 (some (q + 40))))))), .inl (kC K 0, 5, .inl (fun _ => 0)), .inr (0, pF (-1, 0)), .inr (2, sF (q + 30) s0X), .inl (kC K 1, 40, .inr (.inl s0X.1)), .inr (2, sF (q + 32) s0X), .inl (kC K 1, 40, .inr (.inl s0X.1)), .inr (2, sF (q + 34) s0X), .inl (kC K 1, 40, .inr (.inl s0X.1)), .inr (2, sF (q + 36) s0X), .inl (kC K 1, 40, .inr (.inl s0X.1)), .inr (2, sF (q + 38) s0X), .inl (kC K 1, 40, .inr (.inl s0X.1)), .inr (2, sF (q + 40) s0X), .inl (kC K 1, 40, .inr (.inl s0X.1)), .inr (2, sF (q + 42) s0X), .inl (kC K 1, 40, .inr (.inl s0X.1))])) (cl_app sL_c) ?_
  refine N.aast dX4_init_111 (reg_at (k := 27) rfl) (reg_at (k := 42) rfl) (vp_in_nI (n := 6) (by decide) (by decide)) (w' := reg w q (cl [.inr (4, [.ref (q + 1), .ref (q + 7), .ref (q + 13), .ref (q + 19), .ref (q + 25), .ref (q + 27), .ref (q + 28), .ref (q + 29), .int (0)]), .inr (1, rF (q + 1) v0M), .inl (kC K 0, 10, .inl (v0M.2 0)), .inl (kC K 0, 10, .inl (v0M.2 1)), .inl (kC K 0, 10, .inl (v0M.2 2)), .inl (kC K 0, 10, .inl (v0M.2 3)), .inl (kC K 0, 4, .inl (v0M.2 4)), .inr (1, rF (q + 7) v0M), .inl (kC K 0, 10, .inl (v0M.2 0)), .inl (kC K 0, 10, .inl (v0M.2 1)), .inl (kC K 0, 10, .inl (v0M.2 2)), .inl (kC K 0, 10, .inl (v0M.2 3)), .inl (kC K 0, 4, .inl (v0M.2 4)), .inr (1, rF (q + 13) v0M), .inl (kC K 0, 10, .inl (v0M.2 0)), .inl (kC K 0, 10, .inl (v0M.2 1)), .inl (kC K 0, 10, .inl (v0M.2 2)), .inl (kC K 0, 10, .inl (v0M.2 3)), .inl (kC K 0, 4, .inl (v0M.2 4)), .inr (1, rF (q + 19) v0M), .inl (kC K 0, 10, .inl (v0M.2 0)), .inl (kC K 0, 10, .inl (v0M.2 1)), .inl (kC K 0, 10, .inl (v0M.2 2)), .inl (kC K 0, 10, .inl (v0M.2 3)), .inl (kC K 0, 4, .inl (v0M.2 4)), .inr (3, tF (q + 25) t0X), .inl (kC K 0, 250, .inl t0X.1), .inl (kC K 2, 8, .inr (.inr (.inr (.inr (va_up (va_up (va_up (va_up (va_up (va_up (va_up (fun _ => none) 0 (some (q + 30))) 1 (some (q + 32))) 2 (some (q + 34))) 3 (some (q + 36))) 4 (some (q + 38))) 5 (some (q + 40))) 6 (some (q + 42))))))), .inl (kC K 0, 5, .inl (fun _ => 0)), .inr (0, pF (-1, 0)), .inr (2, sF (q + 30) s0X), .inl (kC K 1, 40, .inr (.inl s0X.1)), .inr (2, sF (q + 32) s0X), .inl (kC K 1, 40, .inr (.inl s0X.1)), .inr (2, sF (q + 34) s0X), .inl (kC K 1, 40, .inr (.inl s0X.1)), .inr (2, sF (q + 36) s0X), .inl (kC K 1, 40, .inr (.inl s0X.1)), .inr (2, sF (q + 38) s0X), .inl (kC K 1, 40, .inr (.inl s0X.1)), .inr (2, sF (q + 40) s0X), .inl (kC K 1, 40, .inr (.inl s0X.1)), .inr (2, sF (q + 42) s0X), .inl (kC K 1, 40, .inr (.inl s0X.1))])) (cl_at 27 rfl (Nat.le_of_ble_eq_true rfl)) ?_
  refine N.iinc1 (v := 7) dX4_init_112 rfl (by decide) ?_
  refine N.goto (tgt := 93) dX4_init_115 (by decide) ?_
  refine N.iload1 dX4_init_93 ?_
  refine N.bipush (v := 8) dX4_init_94 (by decide) ?_
  refine N.icmp_ge (tgt := 118) dX4_init_96 (by decide) (fun c => absurd c (by decide)) (fun c => ?_)
  refine N.aload0 dX4_init_99 ?_
  refine N.getf dX4_init_100 flX4_34 cl_0 rfl ?_
  refine N.iload1 dX4_init_103 ?_
  refine N.new [.null, .int 0, .int 0] dX4_init_104 (ci := 2) rfl clX4_32 isX2 itX2 (fun j hj => by rcases (show j = 0 ∨ j = 1 ∨ j = 2 by omega) with rfl | rfl | rfl <;> rfl) (Nat.le_of_ble_eq_true rfl) (Nat.le_of_ble_eq_true rfl) ?_
  refine N.eqW cl_1 ?_
  refine N.dup dX4_init_107 rfl ?_
  refine N.iv0A dX4_init_108 vX2_init lkX4_53 (s_X2_init _ _) rfl (Nat.le_of_ble_eq_true rfl) (Nat.le_of_ble_eq_true rfl) (Nat.le_of_ble_eq_true rfl) (Nat.le_of_ble_eq_true rfl) ?_
  rintro _ _ ⟨rfl, rfl⟩
  refine N.eqW (w' := reg w q (cl [.inr (4, [.ref (q + 1), .ref (q + 7), .ref (q + 13), .ref (q + 19), .ref (q + 25), .ref (q + 27), .ref (q + 28), .ref (q + 29), .int (0)]), .inr (1, rF (q + 1) v0M), .inl (kC K 0, 10, .inl (v0M.2 0)), .inl (kC K 0, 10, .inl (v0M.2 1)), .inl (kC K 0, 10, .inl (v0M.2 2)), .inl (kC K 0, 10, .inl (v0M.2 3)), .inl (kC K 0, 4, .inl (v0M.2 4)), .inr (1, rF (q + 7) v0M), .inl (kC K 0, 10, .inl (v0M.2 0)), .inl (kC K 0, 10, .inl (v0M.2 1)), .inl (kC K 0, 10, .inl (v0M.2 2)), .inl (kC K 0, 10, .inl (v0M.2 3)), .inl (kC K 0, 4, .inl (v0M.2 4)), .inr (1, rF (q + 13) v0M), .inl (kC K 0, 10, .inl (v0M.2 0)), .inl (kC K 0, 10, .inl (v0M.2 1)), .inl (kC K 0, 10, .inl (v0M.2 2)), .inl (kC K 0, 10, .inl (v0M.2 3)), .inl (kC K 0, 4, .inl (v0M.2 4)), .inr (1, rF (q + 19) v0M), .inl (kC K 0, 10, .inl (v0M.2 0)), .inl (kC K 0, 10, .inl (v0M.2 1)), .inl (kC K 0, 10, .inl (v0M.2 2)), .inl (kC K 0, 10, .inl (v0M.2 3)), .inl (kC K 0, 4, .inl (v0M.2 4)), .inr (3, tF (q + 25) t0X), .inl (kC K 0, 250, .inl t0X.1), .inl (kC K 2, 8, .inr (.inr (.inr (.inr (va_up (va_up (va_up (va_up (va_up (va_up (va_up (fun _ => none) 0 (some (q + 30))) 1 (some (q + 32))) 2 (some (q + 34))) 3 (some (q + 36))) 4 (some (q + 38))) 5 (some (q + 40))) 6 (some (q + 42))))))), .inl (kC K 0, 5, .inl (fun _ => 0)), .inr (0, pF (-1, 0)), .inr (2, sF (q + 30) s0X), .inl (kC K 1, 40, .inr (.inl s0X.1)), .inr (2, sF (q + 32) s0X), .inl (kC K 1, 40, .inr (.inl s0X.1)), .inr (2, sF (q + 34) s0X), .inl (kC K 1, 40, .inr (.inl s0X.1)), .inr (2, sF (q + 36) s0X), .inl (kC K 1, 40, .inr (.inl s0X.1)), .inr (2, sF (q + 38) s0X), .inl (kC K 1, 40, .inr (.inl s0X.1)), .inr (2, sF (q + 40) s0X), .inl (kC K 1, 40, .inr (.inl s0X.1)), .inr (2, sF (q + 42) s0X), .inl (kC K 1, 40, .inr (.inl s0X.1)), .inr (2, sF (q + 44) s0X), .inl (kC K 1, 40, .inr (.inl s0X.1))])) (cl_app sL_c) ?_
  refine N.aast dX4_init_111 (reg_at (k := 27) rfl) (reg_at (k := 44) rfl) (vp_in_nI (n := 7) (by decide) (by decide)) (w' := reg w q (cl [.inr (4, [.ref (q + 1), .ref (q + 7), .ref (q + 13), .ref (q + 19), .ref (q + 25), .ref (q + 27), .ref (q + 28), .ref (q + 29), .int (0)]), .inr (1, rF (q + 1) v0M), .inl (kC K 0, 10, .inl (v0M.2 0)), .inl (kC K 0, 10, .inl (v0M.2 1)), .inl (kC K 0, 10, .inl (v0M.2 2)), .inl (kC K 0, 10, .inl (v0M.2 3)), .inl (kC K 0, 4, .inl (v0M.2 4)), .inr (1, rF (q + 7) v0M), .inl (kC K 0, 10, .inl (v0M.2 0)), .inl (kC K 0, 10, .inl (v0M.2 1)), .inl (kC K 0, 10, .inl (v0M.2 2)), .inl (kC K 0, 10, .inl (v0M.2 3)), .inl (kC K 0, 4, .inl (v0M.2 4)), .inr (1, rF (q + 13) v0M), .inl (kC K 0, 10, .inl (v0M.2 0)), .inl (kC K 0, 10, .inl (v0M.2 1)), .inl (kC K 0, 10, .inl (v0M.2 2)), .inl (kC K 0, 10, .inl (v0M.2 3)), .inl (kC K 0, 4, .inl (v0M.2 4)), .inr (1, rF (q + 19) v0M), .inl (kC K 0, 10, .inl (v0M.2 0)), .inl (kC K 0, 10, .inl (v0M.2 1)), .inl (kC K 0, 10, .inl (v0M.2 2)), .inl (kC K 0, 10, .inl (v0M.2 3)), .inl (kC K 0, 4, .inl (v0M.2 4)), .inr (3, tF (q + 25) t0X), .inl (kC K 0, 250, .inl t0X.1), .inl (kC K 2, 8, .inr (.inr (.inr (.inr (va_up (va_up (va_up (va_up (va_up (va_up (va_up (va_up (fun _ => none) 0 (some (q + 30))) 1 (some (q + 32))) 2 (some (q + 34))) 3 (some (q + 36))) 4 (some (q + 38))) 5 (some (q + 40))) 6 (some (q + 42))) 7 (some (q + 44))))))), .inl (kC K 0, 5, .inl (fun _ => 0)), .inr (0, pF (-1, 0)), .inr (2, sF (q + 30) s0X), .inl (kC K 1, 40, .inr (.inl s0X.1)), .inr (2, sF (q + 32) s0X), .inl (kC K 1, 40, .inr (.inl s0X.1)), .inr (2, sF (q + 34) s0X), .inl (kC K 1, 40, .inr (.inl s0X.1)), .inr (2, sF (q + 36) s0X), .inl (kC K 1, 40, .inr (.inl s0X.1)), .inr (2, sF (q + 38) s0X), .inl (kC K 1, 40, .inr (.inl s0X.1)), .inr (2, sF (q + 40) s0X), .inl (kC K 1, 40, .inr (.inl s0X.1)), .inr (2, sF (q + 42) s0X), .inl (kC K 1, 40, .inr (.inl s0X.1)), .inr (2, sF (q + 44) s0X), .inl (kC K 1, 40, .inr (.inl s0X.1))])) (cl_at 27 rfl (Nat.le_of_ble_eq_true rfl)) ?_
  refine N.iinc1 (v := 8) dX4_init_112 rfl (by decide) ?_
  refine N.goto (tgt := 93) dX4_init_115 (by decide) ?_
  refine N.iload1 dX4_init_93 ?_
  refine N.bipush (v := 8) dX4_init_94 (by decide) ?_
  refine N.icmp_ge (tgt := 118) dX4_init_96 (by decide) (fun c => ?_) (fun c => absurd (by decide) c)
  refine N.eqW (reg_c (c' := xC K q x0X) (fun k => ?_)) (N.vret dX4_init_118 rfl (Nat.le_of_ble_eq_true rfl) (Nat.le_of_ble_eq_true rfl) ⟨rfl, rfl, rfl⟩)
  match k with
  | 0 => rfl
  | 1 => rfl
  | 2 => rfl
  | 3 => rfl
  | 4 => rfl
  | 5 => rfl
  | 6 => rfl
  | 7 => rfl
  | 8 => rfl
  | 9 => rfl
  | 10 => rfl
  | 11 => rfl
  | 12 => rfl
  | 13 => rfl
  | 14 => rfl
  | 15 => rfl
  | 16 => rfl
  | 17 => rfl
  | 18 => rfl
  | 19 => rfl
  | 20 => rfl
  | 21 => rfl
  | 22 => rfl
  | 23 => rfl
  | 24 => rfl
  | 25 => rfl
  | 26 => rfl
  | 27 => exact sh27
  | 28 => rfl
  | 29 => rfl
  | 30 => rfl
  | 31 => rfl
  | 32 => rfl
  | 33 => rfl
  | 34 => rfl
  | 35 => rfl
  | 36 => rfl
  | 37 => rfl
  | 38 => rfl
  | 39 => rfl
  | 40 => rfl
  | 41 => rfl
  | 42 => rfl
  | 43 => rfl
  | 44 => rfl
  | 45 => rfl
  | n + 46 => exact xC_out.symm
