/-! THE LAW: its start -/
def e0M : M5 := (fun _ => 0, fun _ _ => 0, fun _ _ => 0, fun _ => 0, none)
theorem nbzz {b : Nat} : nb 0 0 b := ⟨0, Nat.le_refl _, Nat.zero_le _, rfl⟩
theorem iv_0 : Iv v0M := by
  refine ⟨0, by decide, rfl, nbzz, nbzz, ⟨nbzz, Iff.rfl⟩, ⟨1, by decide, by decide, rfl⟩, nbzz, ⟨150, by decide, by decide, rfl⟩, ⟨1, by decide, by decide, rfl⟩, fun l _ => nbzz, fun p hp => absurd hp (Nat.not_lt_zero _), fun p _ h => ?_⟩
  rw [show v0M.1 2 = 0 from rfl, bit_0] at h
  exact absurd h (by decide)
theorem rl_0 : Rl x0X (v0M, e0M) := ⟨rfl, iv_0, fun s _ => Or.inl ⟨rfl, rfl⟩, fun s _ => ⟨0, by decide, rfl⟩, fun s _ => nbzz, rfl, rfl, nbzz, fun k _ => rfl⟩
theorem li_0 {a : Nat} : LI a (a + 46) (a + 46 + 25) x0X (v0M, e0M) none (v0M, E0M) none := ⟨Nat.le_refl _, Nat.le_refl _, fun q h => by (cases h), fun q h => by (cases h), fun q p h => by (cases h), rfl, rl_0, iv_0.ok, Or.inl ⟨rfl, rfl⟩⟩
set_option maxRecDepth 100000 in
theorem law_start {K : Kx} {w0 : Wd} {s0 a L : Nat} {xs : Nat → Int32} (hT : va_T .int s0 L (fun j => .int (xs j)) (fr K) (kS K) (kS K).heap) (hL : L ≤ 3072) : N K mL_law 2048 600000 7302250 (Qi fun r _ _ => r = 1) 0 [some (.ref s0), none, none, none] [] w0 a 0 0 := by
  refine N.new [.null, .null, .null, .null, .null, .null, .null, .null, .int 0] dL_law_0 (ci := 4) rfl clL_7 isX4 itX4 (fun j hj => by rcases (show j = 0 ∨ j = 1 ∨ j = 2 ∨ j = 3 ∨ j = 4 ∨ j = 5 ∨ j = 6 ∨ j = 7 ∨ j = 8 by omega) with rfl | rfl | rfl | rfl | rfl | rfl | rfl | rfl | rfl <;> rfl) (Nat.le_of_ble_eq_true rfl) (Nat.le_of_ble_eq_true rfl) ?_
  refine N.eqW cl_1 ?_
  refine N.dup dL_law_3 rfl ?_
  refine N.iv0A dL_law_4 vX4_init lkL_9 (s_X4_init _ _) rfl (Nat.le_of_ble_eq_true rfl) (Nat.le_of_ble_eq_true rfl) (Nat.le_of_ble_eq_true rfl) (Nat.le_of_ble_eq_true rfl) ?_
  rintro _ _ ⟨rfl, rfl⟩
  refine N.astore1 dL_law_7 rfl ?_
  refine N.new f0M dL_law_8 (ci := 5) rfl clL_10 isX5 itX5 f0M_d (Nat.le_of_ble_eq_true rfl) (Nat.le_of_ble_eq_true rfl) ?_
  refine N.eqW cl_1 ?_
  refine N.dup dL_law_11 rfl ?_
  refine N.iv0A dL_law_12 vX5_init lkL_12 (s_X5_init _ _) rfl (Nat.le_of_ble_eq_true rfl) (Nat.le_of_ble_eq_true rfl) (Nat.le_of_ble_eq_true rfl) (Nat.le_of_ble_eq_true rfl) ?_
  rintro _ _ ⟨rfl, rfl⟩
  refine N.astore2 dL_law_15 rfl ?_
  refine N.iconst (v := 0) dL_law_16 (by decide) ?_
  refine N.istore3 dL_law_17 rfl ?_
  exact l_law hT hL (L / 6) 0 x0X (v0M, e0M) none (v0M, E0M) none (v0M, E0M) _ _ _ (by omega) (by omega) li_0 (by omega) (by omega)
