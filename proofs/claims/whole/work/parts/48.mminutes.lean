variable {G : Nat → Prop}
/-! the shares of the minutes -/
def lf1 (e : M5) (l x : Int32) : M5 := (e.1, upA e.2.1 7 (upd (e.2.1 7) l.toNatClampNeg x), e.2.2)
def spG (v : CV) (e : M5) : Int32 := (spO v 40 (e.2.1 7) 4).2
def lf3 (e : M5) (g : Int32) : M5 := (upd (upd e.1 10 1) 9 g, upA e.2.1 8 (e.2.1 7), e.2.2)
def lf2 (v : CV) (e : M5) : M5 := if e.1 10 = 0 then lf3 e (spG v e) else if spG v e ≤ e.1 9 then e else lf3 e (spG v e)
def lfE (v : CV) (e : M5) (a : Nat) : M5 := if nI a ≤ 0 then lf2 v (lf1 e (nI 3) (nI a)) else if v.2 4 (nI 3).toNatClampNeg = 0 then lf1 e (nI 3) (nI a) else lf2 v (lf1 e (nI 3) (nI a))
def us (v : CV) (l a : Nat) : Prop := a = 0 ∨ ∃ j, l ≤ j ∧ j ≤ 3 ∧ ¬ v.2 4 j = 0
def LC (G : Nat → Prop) (K : Kx) (v : CV) (l d : Nat) (F : M5 → Nat → M5) : Prop :=
  (∀ (w : Wd) (b sz : Nat) (e : M5) (t : Option Nat) (z : MX) (a : Nat), a ≤ 8 → tOk G b sz t → us v l a → Sp K mX5_seekSpells d (kc t) (ks t) [.ref b, .int (nI l), .int (nI a)] (putM K (tw K w t z) b (v, wt e t)) sz (Qv fun w' sz' => ∃ q z', w' = putM K (putM K w q z') b (v, wt (F e a) (some q)) ∧ apG G q b ∧ sz ≤ sz')) ∧
  (∀ (w : Wd) (b sz : Nat) (e : M5) (t : Option Nat) (z : MX) (a : Nat), a ≤ 8 → ¬ us v l a → Sp K mX5_seekSpells d 0 0 [.ref b, .int (nI l), .int (nI a)] (putM K (tw K w t z) b (v, wt e t)) sz (Qv fun w' sz' => w' = putM K (tw K w t z) b (v, wt (F e a) t) ∧ sz' = sz))
theorem us3 {v : CV} {a : Nat} (h : us v 3 a) (h0 : ¬ nI a ≤ 0) : ¬ v.2 4 (nI 3).toNatClampNeg = 0 := by
  rw [nI_clamp (by decide)]
  rcases h with h | ⟨j, h1, h2, h3⟩
  · subst h; exact absurd (by decide) h0
  · obtain rfl : j = 3 := by omega
    exact h3
theorem us3f {v : CV} {a : Nat} (ha : a ≤ 8) (h : ¬ us v 3 a) : ¬ nI a ≤ 0 ∧ v.2 4 (nI 3).toNatClampNeg = 0 := by
  rw [nI_clamp (by decide)]
  refine ⟨fun q => h (Or.inl ?_), Classical.byContradiction fun q => h (Or.inr ⟨3, by decide, by decide, q⟩)⟩
  have := nI_le' (c := 0) (by omega) q
  omega
set_option maxRecDepth 100000 in
theorem sk_leaf {K : Kx} {v : CV} (h : okP v) : LC G K v 3 6 (lfE v) := by
  refine ⟨?_, ?_⟩
  · intro w b sz e t z a ha ht hu
    refine Sp.ofN [some (.ref b), some (.int (nI 3)), some (.int (nI a)), none] rfl rfl rfl (Nat.le_of_ble_eq_true rfl) ?_
    refine N.iload1 dX5_seekSpells_0 ?_
    refine N.iconst (v := 3) dX5_seekSpells_1 (by decide) ?_
    refine N.icmp_ne (tgt := 68) dX5_seekSpells_2 (by decide) (fun c2 => absurd rfl c2) (fun c2 => ?_)
    refine N.aload0 dX5_seekSpells_5 ?_
    refine N.getf dX5_seekSpells_6 flX5_68 mO rfl ?_
    refine N.iload1 dX5_seekSpells_9 ?_
    refine N.iload2 dX5_seekSpells_10 ?_
    refine N.iast dX5_seekSpells_11 mH7 (in4 (k := 3) (by decide)) mHK7 ?_
    refine N.eqW (w' := (putM K (tw K w t z) b (v, wt (lf1 e (nI 3) (nI a)) t))) rfl ?_
    generalize he1 : lf1 e (nI 3) (nI a) = e1
    refine N.iload2 dX5_seekSpells_12 ?_
    refine N.if_le (tgt := 26) dX5_seekSpells_13 (by decide) (fun c13 => ?_) (fun c13 => ?_)
    · refine N.aload0 dX5_seekSpells_26 ?_
      refine N.vi0A dX5_seekSpells_27 vX5_spellGains lkX5_342 (s_X5_spellGains w b _ v e1 t z ht h) mO rfl (Nat.le_of_ble_eq_true rfl) (Nat.le_of_ble_eq_true rfl) (by omega) (by omega) ?_
      rintro _ _ sz2 ⟨rfl, q, y, rfl, hd, hz⟩
      rw [show (spO v 40 (e1.2.1 7) 4).2 = spG v e1 from rfl]
      refine N.istore3 dX5_seekSpells_30 rfl ?_
      refine N.aload0 dX5_seekSpells_31 ?_
      refine N.getf dX5_seekSpells_32 flX5_345 mO rfl ?_
      refine N.if_eq (tgt := 46) dX5_seekSpells_35 (by decide) (fun c35 => ?_) (fun c35 => ?_)
      · refine N.aload0 dX5_seekSpells_46 ?_
        refine N.iconst (v := 1) dX5_seekSpells_47 (by decide) ?_
        refine N.putf dX5_seekSpells_48 flX5_345 mO (Nat.le_of_ble_eq_true rfl) (fun _ h => by cases h; rfl) rfl rfl mG10 ?_
        refine N.aload0 dX5_seekSpells_51 ?_
        refine N.iload3 dX5_seekSpells_52 ?_
        refine N.putf dX5_seekSpells_53 flX5_349 mO (Nat.le_of_ble_eq_true rfl) (fun _ h => by cases h; rfl) rfl rfl mG9 ?_
        refine N.aload0 dX5_seekSpells_56 ?_
        refine N.getf dX5_seekSpells_57 flX5_68 mO rfl ?_
        refine N.aload0 dX5_seekSpells_60 ?_
        refine N.getf dX5_seekSpells_61 flX5_71 mO rfl ?_
        refine N.sv2 dX5_seekSpells_64 vX5_copied lkX5_352 (s_X5_copied _ (b + 23) (b + 24) _ 4 (by decide) _ _ (by omega) mH7 mH8) rfl (Nat.le_of_ble_eq_true rfl) (Nat.le_of_ble_eq_true rfl) (by omega) (by omega) ?_
        rintro _ _ ⟨rfl, rfl⟩
        refine N.eqW mHK8 ?_
        exact N.vret dX5_seekSpells_67 rfl (by omega) (by omega) ⟨rfl, ⟨q, y, by rw [lfE, if_pos c13, he1, lf2, if_pos c35]; try rfl, hd, hz⟩⟩
      · refine N.iload3 dX5_seekSpells_38 ?_
        refine N.aload0 dX5_seekSpells_39 ?_
        refine N.getf dX5_seekSpells_40 flX5_349 mO rfl ?_
        refine N.icmp_le (tgt := 67) dX5_seekSpells_43 (by decide) (fun c43 => ?_) (fun c43 => ?_)
        · exact N.vret dX5_seekSpells_67 rfl (by omega) (by omega) ⟨rfl, ⟨q, y, by rw [lfE, if_pos c13, he1, lf2, if_neg c35, if_pos c43]; try rfl, hd, hz⟩⟩
        · refine N.aload0 dX5_seekSpells_46 ?_
          refine N.iconst (v := 1) dX5_seekSpells_47 (by decide) ?_
          refine N.putf dX5_seekSpells_48 flX5_345 mO (Nat.le_of_ble_eq_true rfl) (fun _ h => by cases h; rfl) rfl rfl mG10 ?_
          refine N.aload0 dX5_seekSpells_51 ?_
          refine N.iload3 dX5_seekSpells_52 ?_
          refine N.putf dX5_seekSpells_53 flX5_349 mO (Nat.le_of_ble_eq_true rfl) (fun _ h => by cases h; rfl) rfl rfl mG9 ?_
          refine N.aload0 dX5_seekSpells_56 ?_
          refine N.getf dX5_seekSpells_57 flX5_68 mO rfl ?_
          refine N.aload0 dX5_seekSpells_60 ?_
          refine N.getf dX5_seekSpells_61 flX5_71 mO rfl ?_
          refine N.sv2 dX5_seekSpells_64 vX5_copied lkX5_352 (s_X5_copied _ (b + 23) (b + 24) _ 4 (by decide) _ _ (by omega) mH7 mH8) rfl (Nat.le_of_ble_eq_true rfl) (Nat.le_of_ble_eq_true rfl) (by omega) (by omega) ?_
          rintro _ _ ⟨rfl, rfl⟩
          refine N.eqW mHK8 ?_
          exact N.vret dX5_seekSpells_67 rfl (by omega) (by omega) ⟨rfl, ⟨q, y, by rw [lfE, if_pos c13, he1, lf2, if_neg c35, if_neg c43]; try rfl, hd, hz⟩⟩
    · refine N.aload0 dX5_seekSpells_16 ?_
      refine N.getf dX5_seekSpells_17 flX5_49 mO rfl ?_
      refine N.iload1 dX5_seekSpells_20 ?_
      refine N.iald dX5_seekSpells_21 mA4 (in4 (k := 3) (by decide)) ?_
      refine N.if_ne (tgt := 26) dX5_seekSpells_22 (by decide) (fun c22 => ?_) (fun c22 => absurd c22 (us3 hu c13))
      refine N.aload0 dX5_seekSpells_26 ?_
      refine N.vi0A dX5_seekSpells_27 vX5_spellGains lkX5_342 (s_X5_spellGains w b _ v e1 t z ht h) mO rfl (Nat.le_of_ble_eq_true rfl) (Nat.le_of_ble_eq_true rfl) (by omega) (by omega) ?_
      rintro _ _ sz2 ⟨rfl, q, y, rfl, hd, hz⟩
      rw [show (spO v 40 (e1.2.1 7) 4).2 = spG v e1 from rfl]
      refine N.istore3 dX5_seekSpells_30 rfl ?_
      refine N.aload0 dX5_seekSpells_31 ?_
      refine N.getf dX5_seekSpells_32 flX5_345 mO rfl ?_
      refine N.if_eq (tgt := 46) dX5_seekSpells_35 (by decide) (fun c35 => ?_) (fun c35 => ?_)
      · refine N.aload0 dX5_seekSpells_46 ?_
        refine N.iconst (v := 1) dX5_seekSpells_47 (by decide) ?_
        refine N.putf dX5_seekSpells_48 flX5_345 mO (Nat.le_of_ble_eq_true rfl) (fun _ h => by cases h; rfl) rfl rfl mG10 ?_
        refine N.aload0 dX5_seekSpells_51 ?_
        refine N.iload3 dX5_seekSpells_52 ?_
        refine N.putf dX5_seekSpells_53 flX5_349 mO (Nat.le_of_ble_eq_true rfl) (fun _ h => by cases h; rfl) rfl rfl mG9 ?_
        refine N.aload0 dX5_seekSpells_56 ?_
        refine N.getf dX5_seekSpells_57 flX5_68 mO rfl ?_
        refine N.aload0 dX5_seekSpells_60 ?_
        refine N.getf dX5_seekSpells_61 flX5_71 mO rfl ?_
        refine N.sv2 dX5_seekSpells_64 vX5_copied lkX5_352 (s_X5_copied _ (b + 23) (b + 24) _ 4 (by decide) _ _ (by omega) mH7 mH8) rfl (Nat.le_of_ble_eq_true rfl) (Nat.le_of_ble_eq_true rfl) (by omega) (by omega) ?_
        rintro _ _ ⟨rfl, rfl⟩
        refine N.eqW mHK8 ?_
        exact N.vret dX5_seekSpells_67 rfl (by omega) (by omega) ⟨rfl, ⟨q, y, by rw [lfE, if_neg c13, if_neg c22, he1, lf2, if_pos c35]; try rfl, hd, hz⟩⟩
      · refine N.iload3 dX5_seekSpells_38 ?_
        refine N.aload0 dX5_seekSpells_39 ?_
        refine N.getf dX5_seekSpells_40 flX5_349 mO rfl ?_
        refine N.icmp_le (tgt := 67) dX5_seekSpells_43 (by decide) (fun c43 => ?_) (fun c43 => ?_)
        · exact N.vret dX5_seekSpells_67 rfl (by omega) (by omega) ⟨rfl, ⟨q, y, by rw [lfE, if_neg c13, if_neg c22, he1, lf2, if_neg c35, if_pos c43]; try rfl, hd, hz⟩⟩
        · refine N.aload0 dX5_seekSpells_46 ?_
          refine N.iconst (v := 1) dX5_seekSpells_47 (by decide) ?_
          refine N.putf dX5_seekSpells_48 flX5_345 mO (Nat.le_of_ble_eq_true rfl) (fun _ h => by cases h; rfl) rfl rfl mG10 ?_
          refine N.aload0 dX5_seekSpells_51 ?_
          refine N.iload3 dX5_seekSpells_52 ?_
          refine N.putf dX5_seekSpells_53 flX5_349 mO (Nat.le_of_ble_eq_true rfl) (fun _ h => by cases h; rfl) rfl rfl mG9 ?_
          refine N.aload0 dX5_seekSpells_56 ?_
          refine N.getf dX5_seekSpells_57 flX5_68 mO rfl ?_
          refine N.aload0 dX5_seekSpells_60 ?_
          refine N.getf dX5_seekSpells_61 flX5_71 mO rfl ?_
          refine N.sv2 dX5_seekSpells_64 vX5_copied lkX5_352 (s_X5_copied _ (b + 23) (b + 24) _ 4 (by decide) _ _ (by omega) mH7 mH8) rfl (Nat.le_of_ble_eq_true rfl) (Nat.le_of_ble_eq_true rfl) (by omega) (by omega) ?_
          rintro _ _ ⟨rfl, rfl⟩
          refine N.eqW mHK8 ?_
          exact N.vret dX5_seekSpells_67 rfl (by omega) (by omega) ⟨rfl, ⟨q, y, by rw [lfE, if_neg c13, if_neg c22, he1, lf2, if_neg c35, if_neg c43]; try rfl, hd, hz⟩⟩
  · intro w b sz e t z a ha hu
    obtain ⟨h1, h2⟩ := us3f ha hu
    refine Sp.ofN [some (.ref b), some (.int (nI 3)), some (.int (nI a)), none] rfl rfl rfl (Nat.le_of_ble_eq_true rfl) ?_
    refine N.iload1 dX5_seekSpells_0 ?_
    refine N.iconst (v := 3) dX5_seekSpells_1 (by decide) ?_
    refine N.icmp_ne (tgt := 68) dX5_seekSpells_2 (by decide) (fun c2 => absurd rfl c2) (fun c2 => ?_)
    refine N.aload0 dX5_seekSpells_5 ?_
    refine N.getf dX5_seekSpells_6 flX5_68 mO rfl ?_
    refine N.iload1 dX5_seekSpells_9 ?_
    refine N.iload2 dX5_seekSpells_10 ?_
    refine N.iast dX5_seekSpells_11 mH7 (in4 (k := 3) (by decide)) mHK7 ?_
    refine N.iload2 dX5_seekSpells_12 ?_
    refine N.if_le (tgt := 26) dX5_seekSpells_13 (by decide) (fun c13 => absurd c13 h1) (fun c13 => ?_)
    refine N.aload0 dX5_seekSpells_16 ?_
    refine N.getf dX5_seekSpells_17 flX5_49 mO rfl ?_
    refine N.iload1 dX5_seekSpells_20 ?_
    refine N.iald dX5_seekSpells_21 mA4 (in4 (k := 3) (by decide)) ?_
    refine N.if_ne (tgt := 26) dX5_seekSpells_22 (by decide) (fun c22 => absurd h2 c22) (fun c22 => ?_)
    exact N.vret dX5_seekSpells_25 rfl (Nat.zero_le _) (Nat.zero_le _) ⟨rfl, ⟨by rw [lfE, if_neg h1, if_pos h2]; rfl, rfl⟩⟩
def ndTo (F : M5 → Nat → M5) (l a : Nat) (e : M5) : Nat → M5
  | 0 => e
  | k + 1 => F (lf1 (ndTo F l a e k) (nI l) (nI k)) (a - k)
def ndE (v : CV) (l : Nat) (F : M5 → Nat → M5) (e : M5) (a : Nat) : M5 := if v.2 4 l = 0 then ndTo F l a e 1 else ndTo F l a e (a + 1)
theorem ndTo_s {F : M5 → Nat → M5} {l a : Nat} {e : M5} {k : Nat} : ndTo F l a e (k + 1) = F (lf1 (ndTo F l a e k) (nI l) (nI k)) (a - k) := by rw [ndTo]
theorem us_s {v : CV} {l a : Nat} (h : v.2 4 l = 0) : us v l a ↔ us v (l + 1) a := by
  constructor
  · rintro (q | ⟨j, h1, h2, h3⟩)
    · exact Or.inl q
    · refine Or.inr ⟨j, Nat.lt_of_le_of_ne h1 (fun e => ?_), h2, h3⟩
      subst e; exact h3 h
  · rintro (q | ⟨j, h1, h2, h3⟩)
    · exact Or.inl q
    · exact Or.inr ⟨j, by omega, h2, h3⟩
theorem nd3 {l : Nat} (hl : l < 3) : ¬ nI l = 3 := by
  rcases (show l = 0 ∨ l = 1 ∨ l = 2 by omega) with rfl | rfl | rfl <;> decide
set_option maxRecDepth 100000 in
theorem l_X5_seekSpells {K : Kx} {v : CV} {l d : Nat} {F : M5 → Nat → M5} (hl : l < 3) (hF : LC G K v (l + 1) d F) (hz : ¬ v.2 4 (nI l).toNatClampNeg = 0) (w : Wd) (b sz0 : Nat) (e : M5) (a : Nat) (ha : a ≤ 8) (mc ms : Nat) (Q : Qx) (hQ : ∀ q z sz, sz0 ≤ sz → apG G q b → Q none (putM K (putM K w q z) b (v, wt (ndTo F l a e (a + 1)) (some q))) sz) : ∀ nn k (t : Option Nat) (z : MX) (sz cc ss : Nat), k + nn = a + 1 → (nn = 0 → ∃ q, t = some q) → tOk G b sz t → sz0 ≤ sz → cc + kc t ≤ mc → ss + ks t ≤ ms → N K mX5_seekSpells (d + 1) mc ms Q 70 [some (.ref b), some (.int (nI l)), some (.int (nI a)), some (.int (nI k))] [] (putM K (tw K w t z) b (v, wt (ndTo F l a e k) t)) sz cc ss := by
  intro nn
  induction nn with
  | zero =>
    intro k t z sz cc ss hk hq ht hz0 hcc hss
    obtain rfl : k = a + 1 := by omega
    obtain ⟨q, rfl⟩ := hq rfl
    refine N.iload3 dX5_seekSpells_70 ?_
    refine N.aload0 dX5_seekSpells_71 ?_
    refine N.getf dX5_seekSpells_72 flX5_49 mO rfl ?_
    refine N.iload1 dX5_seekSpells_75 ?_
    refine N.iald dX5_seekSpells_76 mA4 (in4 (by omega)) ?_
    refine N.if_ne (tgt := 84) dX5_seekSpells_77 (by decide) (fun c77 => ?_) (fun c77 => absurd c77 hz)
    refine N.iload2 dX5_seekSpells_84 ?_
    refine N.icmp_gt (tgt := 111) dX5_seekSpells_85 (by decide) (fun c85 => ?_) (fun c85 => absurd (Int32.not_le.mp (nI_ge (by omega) (by omega))) c85)
    exact N.vret dX5_seekSpells_111 rfl (by omega) (by omega) (hQ _ _ _ hz0 (ht.2 _ rfl))
  | succ nn ih =>
    intro k t z sz cc ss hk hq ht hz0 hcc hss
    by_cases hu : us v (l + 1) (a - k)
    · refine N.iload3 dX5_seekSpells_70 ?_
      refine N.aload0 dX5_seekSpells_71 ?_
      refine N.getf dX5_seekSpells_72 flX5_49 mO rfl ?_
      refine N.iload1 dX5_seekSpells_75 ?_
      refine N.iald dX5_seekSpells_76 mA4 (in4 (by omega)) ?_
      refine N.if_ne (tgt := 84) dX5_seekSpells_77 (by decide) (fun c77 => ?_) (fun c77 => absurd c77 hz)
      refine N.iload2 dX5_seekSpells_84 ?_
      refine N.icmp_gt (tgt := 111) dX5_seekSpells_85 (by decide) (fun c85 => absurd c85 (Int32.not_lt.mpr (nI_le (by omega) (by omega)))) (fun c85 => ?_)
      refine N.aload0 dX5_seekSpells_88 ?_
      refine N.getf dX5_seekSpells_89 flX5_68 mO rfl ?_
      refine N.iload1 dX5_seekSpells_92 ?_
      refine N.iload3 dX5_seekSpells_93 ?_
      refine N.iast dX5_seekSpells_94 mH7 (in4 (by omega)) mHK7 ?_
      refine N.eqW (w' := (putM K (tw K w t z) b (v, wt (lf1 (ndTo F l a e k) (nI l) (nI k)) t))) rfl ?_
      refine N.aload0 dX5_seekSpells_95 ?_
      refine N.iload1 dX5_seekSpells_96 ?_
      refine N.iconst (v := 1) dX5_seekSpells_97 (by decide) ?_
      refine N.iadd dX5_seekSpells_98 ?_
      refine N.iload2 dX5_seekSpells_99 ?_
      refine N.iload3 dX5_seekSpells_100 ?_
      refine N.isub dX5_seekSpells_101 ?_
      refine N.eqS (show _ = [.int (nI (a - k)), .int (nI (l + 1)), .ref b] by rw [nI_sub (by omega), nI_1]) ?_
      refine N.vv2A dX5_seekSpells_102 vX5_seekSpells lkX5_356 (hF.1 w b _ _ t z (a - k) (by omega) ht hu) mO rfl (Nat.le_of_ble_eq_true rfl) (Nat.le_refl _) (by omega) (by omega) ?_
      rintro _ sz2 ⟨q, z2, rfl, hd, hz2⟩
      rw [← ndTo_s (F := F)]
      refine N.iinc3 dX5_seekSpells_105 rfl (nI_inc _) ?_
      refine N.goto (tgt := 70) dX5_seekSpells_108 (by decide) ?_
      exact ih (k + 1) (some q) z2 sz2 _ _ (by omega) (fun _ => ⟨q, rfl⟩) (tOk_s ht hz2 hd) (Nat.le_trans hz0 hz2) (by rw [kc_s]; omega) (by rw [ks_s]; omega)
    · refine N.iload3 dX5_seekSpells_70 ?_
      refine N.aload0 dX5_seekSpells_71 ?_
      refine N.getf dX5_seekSpells_72 flX5_49 mO rfl ?_
      refine N.iload1 dX5_seekSpells_75 ?_
      refine N.iald dX5_seekSpells_76 mA4 (in4 (by omega)) ?_
      refine N.if_ne (tgt := 84) dX5_seekSpells_77 (by decide) (fun c77 => ?_) (fun c77 => absurd c77 hz)
      refine N.iload2 dX5_seekSpells_84 ?_
      refine N.icmp_gt (tgt := 111) dX5_seekSpells_85 (by decide) (fun c85 => absurd c85 (Int32.not_lt.mpr (nI_le (by omega) (by omega)))) (fun c85 => ?_)
      refine N.aload0 dX5_seekSpells_88 ?_
      refine N.getf dX5_seekSpells_89 flX5_68 mO rfl ?_
      refine N.iload1 dX5_seekSpells_92 ?_
      refine N.iload3 dX5_seekSpells_93 ?_
      refine N.iast dX5_seekSpells_94 mH7 (in4 (by omega)) mHK7 ?_
      refine N.eqW (w' := (putM K (tw K w t z) b (v, wt (lf1 (ndTo F l a e k) (nI l) (nI k)) t))) rfl ?_
      refine N.aload0 dX5_seekSpells_95 ?_
      refine N.iload1 dX5_seekSpells_96 ?_
      refine N.iconst (v := 1) dX5_seekSpells_97 (by decide) ?_
      refine N.iadd dX5_seekSpells_98 ?_
      refine N.iload2 dX5_seekSpells_99 ?_
      refine N.iload3 dX5_seekSpells_100 ?_
      refine N.isub dX5_seekSpells_101 ?_
      refine N.eqS (show _ = [.int (nI (a - k)), .int (nI (l + 1)), .ref b] by rw [nI_sub (by omega), nI_1]) ?_
      refine N.vv2A dX5_seekSpells_102 vX5_seekSpells lkX5_356 (hF.2 w b _ _ t z (a - k) (by omega) hu) mO rfl (Nat.le_of_ble_eq_true rfl) (Nat.le_refl _) (by omega) (by omega) ?_
      rintro _ sz2 ⟨rfl, rfl⟩
      rw [← ndTo_s (F := F)]
      refine N.iinc3 dX5_seekSpells_105 rfl (nI_inc _) ?_
      refine N.goto (tgt := 70) dX5_seekSpells_108 (by decide) ?_
      exact ih (k + 1) t z _ _ _ (by omega) (fun hn => absurd (Or.inl (by omega)) hu) ht hz0 (by omega) (by omega)
set_option maxRecDepth 100000 in
theorem sk_node {K : Kx} {v : CV} {l d : Nat} {F : M5 → Nat → M5} (hl : l < 3) (hF : LC G K v (l + 1) d F) : LC G K v l (d + 1) (ndE v l F) := by
  by_cases hz : v.2 4 l = 0
  · have hz' : v.2 4 (nI l).toNatClampNeg = 0 := by rw [nI_clamp (by omega)]; exact hz
    have hG : ∀ e a, ndE v l F e a = F (lf1 e (nI l) (nI 0)) a := fun e a => by rw [ndE, if_pos hz, ndTo_s, ndTo, Nat.sub_zero]
    refine ⟨?_, ?_⟩
    · intro w b sz e t z a ha ht hu
      refine Sp.ofN [some (.ref b), some (.int (nI l)), some (.int (nI a)), none] rfl rfl rfl (Nat.le_of_ble_eq_true rfl) ?_
      refine N.iload1 dX5_seekSpells_0 ?_
      refine N.iconst (v := 3) dX5_seekSpells_1 (by decide) ?_
      refine N.icmp_ne (tgt := 68) dX5_seekSpells_2 (by decide) (fun c2 => ?_) (fun c2 => absurd c2 (nd3 hl))
      refine N.iconst (v := 0) dX5_seekSpells_68 (by decide) ?_
      refine N.istore3 dX5_seekSpells_69 rfl ?_
      refine N.iload3 dX5_seekSpells_70 ?_
      refine N.aload0 dX5_seekSpells_71 ?_
      refine N.getf dX5_seekSpells_72 flX5_49 mO rfl ?_
      refine N.iload1 dX5_seekSpells_75 ?_
      refine N.iald dX5_seekSpells_76 mA4 (in4 (by omega)) ?_
      refine N.if_ne (tgt := 84) dX5_seekSpells_77 (by decide) (fun c77 => absurd hz' c77) (fun c77 => ?_)
      refine N.iconst (v := 0) dX5_seekSpells_80 (by decide) ?_
      refine N.goto (tgt := 85) dX5_seekSpells_81 (by decide) ?_
      refine N.icmp_gt (tgt := 111) dX5_seekSpells_85 (by decide) (fun c85 => absurd c85 (by decide)) (fun c85 => ?_)
      refine N.aload0 dX5_seekSpells_88 ?_
      refine N.getf dX5_seekSpells_89 flX5_68 mO rfl ?_
      refine N.iload1 dX5_seekSpells_92 ?_
      refine N.iload3 dX5_seekSpells_93 ?_
      refine N.iast dX5_seekSpells_94 mH7 (in4 (by omega)) mHK7 ?_
      refine N.eqW (w' := (putM K (tw K w t z) b (v, wt (lf1 e (nI l) (nI 0)) t))) rfl ?_
      refine N.aload0 dX5_seekSpells_95 ?_
      refine N.iload1 dX5_seekSpells_96 ?_
      refine N.iconst (v := 1) dX5_seekSpells_97 (by decide) ?_
      refine N.iadd dX5_seekSpells_98 ?_
      refine N.iload2 dX5_seekSpells_99 ?_
      refine N.iload3 dX5_seekSpells_100 ?_
      refine N.isub dX5_seekSpells_101 ?_
      refine N.eqS (show _ = [.int (nI a), .int (nI (l + 1)), .ref b] by rw [Int32.sub_zero, nI_1]) ?_
      refine N.vv2A dX5_seekSpells_102 vX5_seekSpells lkX5_356 (hF.1 w b _ _ t z a ha ht ((us_s hz).mp hu)) mO rfl (Nat.le_of_ble_eq_true rfl) (Nat.le_refl _) (by omega) (by omega) ?_
      rintro _ sz2 ⟨q, z2, rfl, hd, hz2⟩
      rw [← hG]
      refine N.iinc3 (v := 1) dX5_seekSpells_105 rfl (by decide) ?_
      refine N.goto (tgt := 70) dX5_seekSpells_108 (by decide) ?_
      refine N.iload3 dX5_seekSpells_70 ?_
      refine N.aload0 dX5_seekSpells_71 ?_
      refine N.getf dX5_seekSpells_72 flX5_49 mO rfl ?_
      refine N.iload1 dX5_seekSpells_75 ?_
      refine N.iald dX5_seekSpells_76 mA4 (in4 (by omega)) ?_
      refine N.if_ne (tgt := 84) dX5_seekSpells_77 (by decide) (fun c77 => absurd hz' c77) (fun c77 => ?_)
      refine N.iconst (v := 0) dX5_seekSpells_80 (by decide) ?_
      refine N.goto (tgt := 85) dX5_seekSpells_81 (by decide) ?_
      refine N.icmp_gt (tgt := 111) dX5_seekSpells_85 (by decide) (fun c85 => ?_) (fun c85 => absurd (by decide) c85)
      exact N.vret dX5_seekSpells_111 rfl (by omega) (by omega) ⟨rfl, ⟨q, z2, rfl, hd, hz2⟩⟩
    · intro w b sz e t z a ha hu
      refine Sp.ofN [some (.ref b), some (.int (nI l)), some (.int (nI a)), none] rfl rfl rfl (Nat.le_of_ble_eq_true rfl) ?_
      refine N.iload1 dX5_seekSpells_0 ?_
      refine N.iconst (v := 3) dX5_seekSpells_1 (by decide) ?_
      refine N.icmp_ne (tgt := 68) dX5_seekSpells_2 (by decide) (fun c2 => ?_) (fun c2 => absurd c2 (nd3 hl))
      refine N.iconst (v := 0) dX5_seekSpells_68 (by decide) ?_
      refine N.istore3 dX5_seekSpells_69 rfl ?_
      refine N.iload3 dX5_seekSpells_70 ?_
      refine N.aload0 dX5_seekSpells_71 ?_
      refine N.getf dX5_seekSpells_72 flX5_49 mO rfl ?_
      refine N.iload1 dX5_seekSpells_75 ?_
      refine N.iald dX5_seekSpells_76 mA4 (in4 (by omega)) ?_
      refine N.if_ne (tgt := 84) dX5_seekSpells_77 (by decide) (fun c77 => absurd hz' c77) (fun c77 => ?_)
      refine N.iconst (v := 0) dX5_seekSpells_80 (by decide) ?_
      refine N.goto (tgt := 85) dX5_seekSpells_81 (by decide) ?_
      refine N.icmp_gt (tgt := 111) dX5_seekSpells_85 (by decide) (fun c85 => absurd c85 (by decide)) (fun c85 => ?_)
      refine N.aload0 dX5_seekSpells_88 ?_
      refine N.getf dX5_seekSpells_89 flX5_68 mO rfl ?_
      refine N.iload1 dX5_seekSpells_92 ?_
      refine N.iload3 dX5_seekSpells_93 ?_
      refine N.iast dX5_seekSpells_94 mH7 (in4 (by omega)) mHK7 ?_
      refine N.eqW (w' := (putM K (tw K w t z) b (v, wt (lf1 e (nI l) (nI 0)) t))) rfl ?_
      refine N.aload0 dX5_seekSpells_95 ?_
      refine N.iload1 dX5_seekSpells_96 ?_
      refine N.iconst (v := 1) dX5_seekSpells_97 (by decide) ?_
      refine N.iadd dX5_seekSpells_98 ?_
      refine N.iload2 dX5_seekSpells_99 ?_
      refine N.iload3 dX5_seekSpells_100 ?_
      refine N.isub dX5_seekSpells_101 ?_
      refine N.eqS (show _ = [.int (nI a), .int (nI (l + 1)), .ref b] by rw [Int32.sub_zero, nI_1]) ?_
      refine N.vv2 dX5_seekSpells_102 vX5_seekSpells lkX5_356 (hF.2 w b _ _ t z a ha (fun q => hu ((us_s hz).mpr q))) mO rfl (Nat.le_of_ble_eq_true rfl) (Nat.le_refl _) (Nat.zero_le _) (Nat.zero_le _) ?_
      rintro _ sz2 ⟨rfl, rfl⟩
      rw [← hG]
      refine N.iinc3 (v := 1) dX5_seekSpells_105 rfl (by decide) ?_
      refine N.goto (tgt := 70) dX5_seekSpells_108 (by decide) ?_
      refine N.iload3 dX5_seekSpells_70 ?_
      refine N.aload0 dX5_seekSpells_71 ?_
      refine N.getf dX5_seekSpells_72 flX5_49 mO rfl ?_
      refine N.iload1 dX5_seekSpells_75 ?_
      refine N.iald dX5_seekSpells_76 mA4 (in4 (by omega)) ?_
      refine N.if_ne (tgt := 84) dX5_seekSpells_77 (by decide) (fun c77 => absurd hz' c77) (fun c77 => ?_)
      refine N.iconst (v := 0) dX5_seekSpells_80 (by decide) ?_
      refine N.goto (tgt := 85) dX5_seekSpells_81 (by decide) ?_
      refine N.icmp_gt (tgt := 111) dX5_seekSpells_85 (by decide) (fun c85 => ?_) (fun c85 => absurd (by decide) c85)
      exact N.vret dX5_seekSpells_111 rfl (Nat.zero_le _) (Nat.zero_le _) ⟨rfl, ⟨rfl, rfl⟩⟩
  · have hz' : ¬ v.2 4 (nI l).toNatClampNeg = 0 := by rw [nI_clamp (by omega)]; exact hz
    have hG : ∀ e a, ndE v l F e a = ndTo F l a e (a + 1) := fun e a => by rw [ndE, if_neg hz]
    refine ⟨?_, fun w b sz e t z a ha hu => absurd (Or.inr ⟨l, Nat.le_refl _, by omega, hz⟩) hu⟩
    intro w b sz e t z a ha ht hu
    refine Sp.ofN [some (.ref b), some (.int (nI l)), some (.int (nI a)), none] rfl rfl rfl (Nat.le_of_ble_eq_true rfl) ?_
    refine N.iload1 dX5_seekSpells_0 ?_
    refine N.iconst (v := 3) dX5_seekSpells_1 (by decide) ?_
    refine N.icmp_ne (tgt := 68) dX5_seekSpells_2 (by decide) (fun c2 => ?_) (fun c2 => absurd c2 (nd3 hl))
    refine N.iconst (v := 0) dX5_seekSpells_68 (by decide) ?_
    refine N.istore3 dX5_seekSpells_69 rfl ?_
    exact N.wk (by exact ⟨rfl, rfl, rfl, rfl, trivial⟩) (l_X5_seekSpells hl hF hz' w b _ e a ha _ _ _ (fun q z2 sz2 h1 h2 => ⟨rfl, q, z2, by rw [hG], h2, h1⟩) (a + 1) 0 t z _ _ _ (by omega) (fun q => absurd q (by omega)) ht (Nat.le_refl _) (by omega) (by omega))
def mnE (v : CV) (e : M5) : M5 := ndE v 0 (ndE v 1 (ndE v 2 (lfE v))) e 8
theorem sk_top {K : Kx} {v : CV} (h : okP v) : LC G K v 0 9 (ndE v 0 (ndE v 1 (ndE v 2 (lfE v)))) := sk_node (by decide) (sk_node (by decide) (sk_node (by decide) (sk_leaf h)))
theorem us_top {v : CV} (h : ¬ nlF v = 1) : us v 0 8 := by
  obtain ⟨i, hi, hz⟩ := nl_ex h
  exact Or.inr ⟨i, Nat.zero_le _, by omega, hz⟩
def any0 (e : M5) : M5 := (upd e.1 10 0, e.2)
def mmn2 (m : Mst) (l : Int32) : Int32 × Mst := if nlF m.1 = 0 then (if l = -1 then ((mnE m.1 (any0 m.2)).1 9, m.1, mnE m.1 (any0 m.2)) else ((mnE m.1 (any0 m.2)).2.1 8 l.toNatClampNeg, m.1, mnE m.1 (any0 m.2))) else rn m (-5)
def mmin (m : Mst) (l : Int32) : Int32 × Mst := if l = -1 then mmn2 m l else if isInF l 0 3 = 0 then rn m (-2) else mmn2 m l
set_option maxRecDepth 100000 in
theorem s_X5_minutes {K : Kx} (w : Wd) (b sz : Nat) (v : CV) (e : M5) (t : Option Nat) (z : MX) (l : Int32) (ht : tOk G b sz t) (hM : okM (v, e)) : Sp K mX5_minutes 10 (kc t) (ks t) [.ref b, .int l] (putM K (tw K w t z) b (v, wt e t)) sz (Qi fun r w' sz' => r = (mmin (v, e) l).1 ∧ ∃ t' z', w' = putM K (tw K w t' z') b ((mmin (v, e) l).2.1, wt (mmin (v, e) l).2.2 t') ∧ tOk G b sz' t' ∧ sz ≤ sz') := by
  refine Sp.ofN [some (.ref b), some (.int l)] rfl rfl rfl (Nat.le_of_ble_eq_true rfl) ?_
  have h : okP v := hM.1
  refine N.iload1 dX5_minutes_0 ?_
  refine N.iconst (v := -1) dX5_minutes_1 (by decide) ?_
  refine N.icmp_eq (tgt := 23) dX5_minutes_2 (by decide) (fun c2 => ?_) (fun c2 => ?_)
  · refine N.aload0 dX5_minutes_23 ?_
    refine N.vi0 dX5_minutes_24 vX5_noLines lkX5_329 (s_X5_noLines _ _ _ _ _) mO rfl (Nat.le_of_ble_eq_true rfl) (Nat.le_of_ble_eq_true rfl) (by omega) (by omega) ?_
    rintro _ _ _ ⟨rfl, rfl, rfl⟩
    refine N.if_eq (tgt := 40) dX5_minutes_27 (by decide) (fun c27 => ?_) (fun c27 => ?_)
    · refine N.aload0 dX5_minutes_40 ?_
      refine N.iconst (v := 0) dX5_minutes_41 (by decide) ?_
      refine N.putf dX5_minutes_42 flX5_345 mO (Nat.le_of_ble_eq_true rfl) (fun _ h => by cases h; rfl) rfl rfl mG10 ?_
      refine N.eqW (w' := (putM K (tw K w t z) b (v, wt (any0 e) t))) rfl ?_
      refine N.aload0 dX5_minutes_45 ?_
      refine N.iconst (v := 0) dX5_minutes_46 (by decide) ?_
      refine N.bipush (v := 8) dX5_minutes_47 (by decide) ?_
      refine N.vv2A dX5_minutes_49 vX5_seekSpells lkX5_356 ((sk_top h).1 w b _ (any0 e) t z 8 (by decide) ht (us_top (nl_0 c27))) mO rfl (Nat.le_of_ble_eq_true rfl) (Nat.le_of_ble_eq_true rfl) (by omega) (by omega) ?_
      rintro _ sz2 ⟨q, z2, rfl, hd, hz⟩
      rw [← mnE]
      generalize hm : mnE v (any0 e) = m0
      refine N.iload1 dX5_minutes_52 ?_
      refine N.iconst (v := -1) dX5_minutes_53 (by decide) ?_
      refine N.icmp_ne (tgt := 64) dX5_minutes_54 (by decide) (fun c54 => absurd c2 c54) (fun c54 => ?_)
      refine N.aload0 dX5_minutes_57 ?_
      refine N.getf dX5_minutes_58 flX5_349 mO rfl ?_
      refine N.goto (tgt := 70) dX5_minutes_61 (by decide) ?_
      exact N.iret dX5_minutes_70 rfl (by omega) (by omega) ⟨_, rfl, (mq_ok ht hd hz (by rw [mmin, if_pos c2, mmn2, if_pos c27, if_pos c2, hm]))⟩
    · refine N.aload0 dX5_minutes_30 ?_
      refine N.bipush (v := -5) dX5_minutes_31 (by decide) ?_
      refine N.vi1 dX5_minutes_33 vX5_refuse lkX5_89 (s_X5_refuse _ _ _ _ _ _ rfIn5) mO rfl (Nat.le_of_ble_eq_true rfl) (Nat.le_of_ble_eq_true rfl) (by omega) (by omega) ?_
      rintro _ _ _ ⟨rfl, rfl, rfl⟩
      refine N.si1 dX5_minutes_36 vX5_far lkX5_320 (s_X5_far _ _ _) rfl (Nat.le_of_ble_eq_true rfl) (Nat.le_of_ble_eq_true rfl) (by omega) (by omega) ?_
      rintro _ _ _ ⟨rfl, rfl, rfl⟩
      exact N.iret dX5_minutes_39 rfl (by omega) (by omega) ⟨_, rfl, (by rw [mmin, if_pos c2, mmn2, if_neg c27]; exact rnf_ok ht)⟩
  · refine N.iload1 dX5_minutes_5 ?_
    refine N.i2l dX5_minutes_6 ?_
    refine N.si1 dX5_minutes_7 vX5_isLine lkX5_138 (s_X5_isLine _ _ _) rfl (Nat.le_of_ble_eq_true rfl) (Nat.le_of_ble_eq_true rfl) (by omega) (by omega) ?_
    rintro r1 _ _ ⟨er, rfl, rfl⟩
    obtain rfl := er.trans (inL_i (a := 0) (b := 3) rfl rfl)
    refine N.if_ne (tgt := 23) dX5_minutes_10 (by decide) (fun c10 => ?_) (fun c10 => ?_)
    · refine N.aload0 dX5_minutes_23 ?_
      refine N.vi0 dX5_minutes_24 vX5_noLines lkX5_329 (s_X5_noLines _ _ _ _ _) mO rfl (Nat.le_of_ble_eq_true rfl) (Nat.le_of_ble_eq_true rfl) (by omega) (by omega) ?_
      rintro _ _ _ ⟨rfl, rfl, rfl⟩
      refine N.if_eq (tgt := 40) dX5_minutes_27 (by decide) (fun c27 => ?_) (fun c27 => ?_)
      · refine N.aload0 dX5_minutes_40 ?_
        refine N.iconst (v := 0) dX5_minutes_41 (by decide) ?_
        refine N.putf dX5_minutes_42 flX5_345 mO (Nat.le_of_ble_eq_true rfl) (fun _ h => by cases h; rfl) rfl rfl mG10 ?_
        refine N.eqW (w' := (putM K (tw K w t z) b (v, wt (any0 e) t))) rfl ?_
        refine N.aload0 dX5_minutes_45 ?_
        refine N.iconst (v := 0) dX5_minutes_46 (by decide) ?_
        refine N.bipush (v := 8) dX5_minutes_47 (by decide) ?_
        refine N.vv2A dX5_minutes_49 vX5_seekSpells lkX5_356 ((sk_top h).1 w b _ (any0 e) t z 8 (by decide) ht (us_top (nl_0 c27))) mO rfl (Nat.le_of_ble_eq_true rfl) (Nat.le_of_ble_eq_true rfl) (by omega) (by omega) ?_
        rintro _ sz2 ⟨q, z2, rfl, hd, hz⟩
        rw [← mnE]
        generalize hm : mnE v (any0 e) = m0
        refine N.iload1 dX5_minutes_52 ?_
        refine N.iconst (v := -1) dX5_minutes_53 (by decide) ?_
        refine N.icmp_ne (tgt := 64) dX5_minutes_54 (by decide) (fun c54 => ?_) (fun c54 => absurd c54 c2)
        refine N.aload0 dX5_minutes_64 ?_
        refine N.getf dX5_minutes_65 flX5_71 mO rfl ?_
        refine N.iload1 dX5_minutes_68 ?_
        refine N.iald dX5_minutes_69 mH8 (ln_in c10) ?_
        exact N.iret dX5_minutes_70 rfl (by omega) (by omega) ⟨_, rfl, (mq_ok ht hd hz (by rw [mmin, if_neg c2, if_neg c10, mmn2, if_pos c27, if_neg c2, hm]))⟩
      · refine N.aload0 dX5_minutes_30 ?_
        refine N.bipush (v := -5) dX5_minutes_31 (by decide) ?_
        refine N.vi1 dX5_minutes_33 vX5_refuse lkX5_89 (s_X5_refuse _ _ _ _ _ _ rfIn5) mO rfl (Nat.le_of_ble_eq_true rfl) (Nat.le_of_ble_eq_true rfl) (by omega) (by omega) ?_
        rintro _ _ _ ⟨rfl, rfl, rfl⟩
        refine N.si1 dX5_minutes_36 vX5_far lkX5_320 (s_X5_far _ _ _) rfl (Nat.le_of_ble_eq_true rfl) (Nat.le_of_ble_eq_true rfl) (by omega) (by omega) ?_
        rintro _ _ _ ⟨rfl, rfl, rfl⟩
        exact N.iret dX5_minutes_39 rfl (by omega) (by omega) ⟨_, rfl, (by rw [mmin, if_neg c2, if_neg c10, mmn2, if_neg c27]; exact rnf_ok ht)⟩
    · refine N.aload0 dX5_minutes_13 ?_
      refine N.bipush (v := -2) dX5_minutes_14 (by decide) ?_
      refine N.vi1 dX5_minutes_16 vX5_refuse lkX5_89 (s_X5_refuse _ _ _ _ _ _ rfIn2) mO rfl (Nat.le_of_ble_eq_true rfl) (Nat.le_of_ble_eq_true rfl) (by omega) (by omega) ?_
      rintro _ _ _ ⟨rfl, rfl, rfl⟩
      refine N.si1 dX5_minutes_19 vX5_far lkX5_320 (s_X5_far _ _ _) rfl (Nat.le_of_ble_eq_true rfl) (Nat.le_of_ble_eq_true rfl) (by omega) (by omega) ?_
      rintro _ _ _ ⟨rfl, rfl, rfl⟩
      exact N.iret dX5_minutes_22 rfl (by omega) (by omega) ⟨_, rfl, (by rw [mmin, if_neg c2, if_pos c10]; exact rnf_ok ht)⟩
