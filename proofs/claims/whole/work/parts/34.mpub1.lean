variable {G : Nat → Prop}
/-! the model's public calls -/
abbrev Mst : Type := CV × M5
def reE (E : ME) (y : Int32) : ME := (E.1, upA E.2.1 5 (upd (E.2.1 5) (-y).toNatClampNeg (E.2.1 5 (-y).toNatClampNeg + 1)), E.2.2)
def reM (e : M5) (y : Int32) : M5 := (e.1, upA e.2.1 5 (upd (e.2.1 5) (-y).toNatClampNeg (e.2.1 5 (-y).toNatClampNeg + 1)), e.2.2)
def rm (m : Mst) (y : Int32) : Int32 × Mst := (y, m.1, reM m.2 y)
def rn (m : Mst) (y : Int32) : Int32 × Mst := (-1000000000 + y, m.1, reM m.2 y)
theorem reE_wt {e : M5} {t : Option Nat} {y : Int32} : reE (wt e t) y = wt (reM e y) t := rfl
theorem rmf_ok {K : Kx} {w : Wd} {b sz : Nat} {v : CV} {e : M5} {t : Option Nat} {z : MX} {y : Int32} (ht : tOk G b sz t) : y = (rm (v, e) y).1 ∧ ∃ t' z', putM K (tw K w t z) b (v, reE (wt e t) y) = putM K (tw K w t' z') b ((rm (v, e) y).2.1, wt (rm (v, e) y).2.2 t') ∧ tOk G b sz t' ∧ sz ≤ sz := ⟨rfl, t, z, by rw [reE_wt]; rfl, ht, Nat.le_refl _⟩
theorem rnf_ok {K : Kx} {w : Wd} {b sz : Nat} {v : CV} {e : M5} {t : Option Nat} {z : MX} {y : Int32} (ht : tOk G b sz t) : -1000000000 + y = (rn (v, e) y).1 ∧ ∃ t' z', putM K (tw K w t z) b (v, reE (wt e t) y) = putM K (tw K w t' z') b ((rn (v, e) y).2.1, wt (rn (v, e) y).2.2 t') ∧ tOk G b sz t' ∧ sz ≤ sz := ⟨rfl, t, z, by rw [reE_wt]; rfl, ht, Nat.le_refl _⟩
def okM (m : Mst) : Prop := okP m.1 ∧ (∀ s, s < 8 → ∃ n : Nat, n ≤ 40 ∧ m.2.2.1 2 s = nI n) ∧ (∀ s, s < 8 → (m.2.2.1 0 s = 0 ∨ m.2.2.1 0 s = 1 ∨ m.2.2.1 0 s = 2) ∧ (m.2.2.1 0 s = 2 → ¬ isPlF m.1 (m.2.2.1 3 s) = 0)) ∧ ∃ n : Nat, n ≤ 250 ∧ m.2.1 0 = nI n
theorem rfIn2 : vp_in (- -2 : Int32) 8 := by
  rw [show (- -2 : Int32) = nI 2 by decide]
  exact vp_in_nI (by decide) (by decide)
theorem rfIn3 : vp_in (- -3 : Int32) 8 := by
  rw [show (- -3 : Int32) = nI 3 by decide]
  exact vp_in_nI (by decide) (by decide)
theorem rfIn4 : vp_in (- -4 : Int32) 8 := by
  rw [show (- -4 : Int32) = nI 4 by decide]
  exact vp_in_nI (by decide) (by decide)
theorem rfIn5 : vp_in (- -5 : Int32) 8 := by
  rw [show (- -5 : Int32) = nI 5 by decide]
  exact vp_in_nI (by decide) (by decide)
theorem rfIn6 : vp_in (- -6 : Int32) 8 := by
  rw [show (- -6 : Int32) = nI 6 by decide]
  exact vp_in_nI (by decide) (by decide)
set_option maxRecDepth 100000 in
theorem s_X5_refuse {K : Kx} (w : Wd) (b sz : Nat) (v : CV) (E : ME) (y : Int32) (hy : vp_in (-y) 8) : Sp K mX5_refuse 0 0 0 [.ref b, .int y] (putM K w b (v, E)) sz (Qi fun r w' sz' => r = (y) ∧ w' = putM K w b (v, reE E y) ∧ sz' = sz) := by
  refine Sp.ofN [some (.ref b), some (.int y)] rfl rfl rfl (Nat.le_of_ble_eq_true rfl) ?_
  refine N.aload0 dX5_refuse_0 ?_
  refine N.getf dX5_refuse_1 flX5_34 mO rfl ?_
  refine N.iload1 dX5_refuse_4 ?_
  refine N.ineg dX5_refuse_5 ?_
  refine N.dup2 dX5_refuse_6 rfl rfl ?_
  refine N.iald dX5_refuse_7 mH5 hy ?_
  refine N.iconst (v := 1) dX5_refuse_8 (by decide) ?_
  refine N.iadd dX5_refuse_9 ?_
  refine N.iast dX5_refuse_10 mH5 hy mHK5 ?_
  refine N.iload1 dX5_refuse_11 ?_
  exact N.iret dX5_refuse_12 rfl (Nat.zero_le _) (Nat.zero_le _) ⟨_, rfl, ⟨rfl, rfl, rfl⟩⟩
set_option maxRecDepth 100000 in
theorem s_X5_far {K : Kx} (y : Int32) (w : Wd) (sz : Nat) : Sp K mX5_far 0 0 0 [.int y] w sz (Qi fun r w' sz' => r = -1000000000 + y ∧ w' = w ∧ sz' = sz) := by
  refine Sp.ofN [some (.int y)] rfl rfl rfl (Nat.le_of_ble_eq_true rfl) ?_
  refine N.ldcw dX5_far_0 ctX5_319 ?_
  refine N.iload0 dX5_far_3 ?_
  refine N.iadd dX5_far_4 ?_
  exact N.iret dX5_far_5 rfl (Nat.zero_le _) (Nat.zero_le _) ⟨_, rfl, ⟨rfl, rfl, rfl⟩⟩
set_option maxRecDepth 100000 in
theorem s_X5_isLine {K : Kx} (l : Int64) (w : Wd) (sz : Nat) : Sp K mX5_isLine 1 0 0 [.long l] w sz (Qi fun r w' sz' => r = inL l 0 3 ∧ w' = w ∧ sz' = sz) := by
  refine Sp.ofN [some (.long l), none] rfl rfl rfl (Nat.le_of_ble_eq_true rfl) ?_
  refine N.lload0 dX5_isLine_0 ?_
  refine N.lconst (v := 0) dX5_isLine_1 (by decide) ?_
  refine N.ldc2 dX5_isLine_2 ctX5_81 ?_
  refine N.si3 dX5_isLine_5 vX5_in lkX5_77 (s_X5_in _ _ _ _ _) rfl (Nat.le_of_ble_eq_true rfl) (Nat.le_of_ble_eq_true rfl) (Nat.zero_le _) (Nat.zero_le _) ?_
  rintro _ _ _ ⟨rfl, rfl, rfl⟩
  exact N.zret dX5_isLine_8 rfl (inL_nar _ _ _) (Nat.zero_le _) (Nat.zero_le _) ⟨_, rfl, ⟨rfl, rfl, rfl⟩⟩
set_option maxRecDepth 100000 in
theorem s_X5_isUnder {K : Kx} (x y : Int32) (w : Wd) (sz : Nat) : Sp K mX5_isUnder 0 0 0 [.int x, .int y] w sz (Qi fun r w' sz' => r = isUnderF x y ∧ w' = w ∧ sz' = sz) := by
  refine Sp.ofN [some (.int x), some (.int y)] rfl rfl rfl (Nat.le_of_ble_eq_true rfl) ?_
  refine N.iload1 dX5_isUnder_0 ?_
  refine N.if_eq (tgt := 29) dX5_isUnder_1 (by decide) (fun c1 => ?_) (fun c1 => ?_)
  · refine N.iconst (v := 1) dX5_isUnder_29 (by decide) ?_
    refine N.goto (tgt := 34) dX5_isUnder_30 (by decide) ?_
    exact N.zret dX5_isUnder_34 rfl rfl (Nat.zero_le _) (Nat.zero_le _) ⟨_, rfl, ⟨(by first | (simp_all [isUnderF]; done)), rfl, rfl⟩⟩
  · refine N.iload0 dX5_isUnder_4 ?_
    refine N.iload1 dX5_isUnder_5 ?_
    refine N.icmp_eq (tgt := 29) dX5_isUnder_6 (by decide) (fun c6 => ?_) (fun c6 => ?_)
    · refine N.iconst (v := 1) dX5_isUnder_29 (by decide) ?_
      refine N.goto (tgt := 34) dX5_isUnder_30 (by decide) ?_
      exact N.zret dX5_isUnder_34 rfl rfl (Nat.zero_le _) (Nat.zero_le _) ⟨_, rfl, ⟨(by first | (simp_all [isUnderF]; done)), rfl, rfl⟩⟩
    · refine N.iload1 dX5_isUnder_9 ?_
      refine N.iconst (v := 1) dX5_isUnder_10 (by decide) ?_
      refine N.icmp_ne (tgt := 19) dX5_isUnder_11 (by decide) (fun c11 => ?_) (fun c11 => ?_)
      · refine N.iload1 dX5_isUnder_19 ?_
        refine N.iconst (v := 4) dX5_isUnder_20 (by decide) ?_
        refine N.icmp_ne (tgt := 33) dX5_isUnder_21 (by decide) (fun c21 => ?_) (fun c21 => ?_)
        · refine N.iconst (v := 0) dX5_isUnder_33 (by decide) ?_
          exact N.zret dX5_isUnder_34 rfl rfl (Nat.zero_le _) (Nat.zero_le _) ⟨_, rfl, ⟨(by first | (simp_all [isUnderF]; done)), rfl, rfl⟩⟩
        · refine N.iload0 dX5_isUnder_24 ?_
          refine N.iconst (v := 5) dX5_isUnder_25 (by decide) ?_
          refine N.icmp_ne (tgt := 33) dX5_isUnder_26 (by decide) (fun c26 => ?_) (fun c26 => ?_)
          · refine N.iconst (v := 0) dX5_isUnder_33 (by decide) ?_
            exact N.zret dX5_isUnder_34 rfl rfl (Nat.zero_le _) (Nat.zero_le _) ⟨_, rfl, ⟨(by first | (simp_all [isUnderF]; done)), rfl, rfl⟩⟩
          · refine N.iconst (v := 1) dX5_isUnder_29 (by decide) ?_
            refine N.goto (tgt := 34) dX5_isUnder_30 (by decide) ?_
            exact N.zret dX5_isUnder_34 rfl rfl (Nat.zero_le _) (Nat.zero_le _) ⟨_, rfl, ⟨(by first | (simp_all [isUnderF]; done)), rfl, rfl⟩⟩
      · refine N.iload0 dX5_isUnder_14 ?_
        refine N.iconst (v := 3) dX5_isUnder_15 (by decide) ?_
        refine N.icmp_eq (tgt := 29) dX5_isUnder_16 (by decide) (fun c16 => ?_) (fun c16 => ?_)
        · refine N.iconst (v := 1) dX5_isUnder_29 (by decide) ?_
          refine N.goto (tgt := 34) dX5_isUnder_30 (by decide) ?_
          exact N.zret dX5_isUnder_34 rfl rfl (Nat.zero_le _) (Nat.zero_le _) ⟨_, rfl, ⟨(by first | (simp_all [isUnderF]; done)), rfl, rfl⟩⟩
        · refine N.iload1 dX5_isUnder_19 ?_
          refine N.iconst (v := 4) dX5_isUnder_20 (by decide) ?_
          refine N.icmp_ne (tgt := 33) dX5_isUnder_21 (by decide) (fun c21 => ?_) (fun c21 => ?_)
          · refine N.iconst (v := 0) dX5_isUnder_33 (by decide) ?_
            exact N.zret dX5_isUnder_34 rfl rfl (Nat.zero_le _) (Nat.zero_le _) ⟨_, rfl, ⟨(by first | (simp_all [isUnderF]; done)), rfl, rfl⟩⟩
          · refine N.iload0 dX5_isUnder_24 ?_
            refine N.iconst (v := 5) dX5_isUnder_25 (by decide) ?_
            refine N.icmp_ne (tgt := 33) dX5_isUnder_26 (by decide) (fun c26 => ?_) (fun c26 => ?_)
            · refine N.iconst (v := 0) dX5_isUnder_33 (by decide) ?_
              exact N.zret dX5_isUnder_34 rfl rfl (Nat.zero_le _) (Nat.zero_le _) ⟨_, rfl, ⟨(by first | (simp_all [isUnderF]; done)), rfl, rfl⟩⟩
            · refine N.iconst (v := 1) dX5_isUnder_29 (by decide) ?_
              refine N.goto (tgt := 34) dX5_isUnder_30 (by decide) ?_
              exact N.zret dX5_isUnder_34 rfl rfl (Nat.zero_le _) (Nat.zero_le _) ⟨_, rfl, ⟨(by first | (simp_all [isUnderF]; done)), rfl, rfl⟩⟩
def mholds (m : Mst) (s : Int32) : Int32 × Mst := if isInF s 0 7 = 0 then (-1, m) else if m.2.2.1 0 s.toNatClampNeg = 0 then (-1, m) else if m.2.2.1 0 s.toNatClampNeg = 1 then (m.2.2.1 1 s.toNatClampNeg, m) else (10 + m.2.2.1 3 s.toNatClampNeg, m)
set_option maxRecDepth 100000 in
theorem s_X5_holds {K : Kx} (w : Wd) (b sz : Nat) (v : CV) (e : M5) (t : Option Nat) (z : MX) (s : Int32) (ht : tOk G b sz t) (hM : okM (v, e)) : Sp K mX5_holds 9 (kc t) (ks t) [.ref b, .int s] (putM K (tw K w t z) b (v, wt e t)) sz (Qi fun r w' sz' => r = (mholds (v, e) s).1 ∧ ∃ t' z', w' = putM K (tw K w t' z') b ((mholds (v, e) s).2.1, wt (mholds (v, e) s).2.2 t') ∧ tOk G b sz' t' ∧ sz ≤ sz') := by
  refine Sp.ofN [some (.ref b), some (.int s)] rfl rfl rfl (Nat.le_of_ble_eq_true rfl) ?_
  have h : okP v := hM.1
  refine N.iload1 dX5_holds_0 ?_
  refine N.i2l dX5_holds_1 ?_
  refine N.lconst (v := 0) dX5_holds_2 (by decide) ?_
  refine N.ldc2 dX5_holds_3 ctX5_83 ?_
  refine N.si3 dX5_holds_6 vX5_in lkX5_77 (s_X5_in _ _ _ _ _) rfl (Nat.le_of_ble_eq_true rfl) (Nat.le_of_ble_eq_true rfl) (Nat.zero_le _) (Nat.zero_le _) ?_
  rintro r1 _ _ ⟨er, rfl, rfl⟩
  obtain rfl := er.trans (inL_i (a := (0)) (b := (7)) rfl rfl)
  refine N.if_eq (tgt := 21) dX5_holds_9 (by decide) (fun c9 => ?_) (fun c9 => ?_)
  · refine N.iconst (v := -1) dX5_holds_21 (by decide) ?_
    exact N.iret dX5_holds_22 rfl (Nat.zero_le _) (Nat.zero_le _) ⟨_, rfl, (by rw [mholds, if_pos c9]; exact ⟨rfl, t, z, rfl, ht, Nat.le_refl _⟩)⟩
  · refine N.aload0 dX5_holds_12 ?_
    refine N.getf dX5_holds_13 flX5_7 mO rfl ?_
    refine N.iload1 dX5_holds_16 ?_
    refine N.iald dX5_holds_17 mH0 (sh8v c9) ?_
    refine N.if_ne (tgt := 23) dX5_holds_18 (by decide) (fun c18 => ?_) (fun c18 => ?_)
    · refine N.aload0 dX5_holds_23 ?_
      refine N.getf dX5_holds_24 flX5_7 mO rfl ?_
      refine N.iload1 dX5_holds_27 ?_
      refine N.iald dX5_holds_28 mH0 (sh8v c9) ?_
      refine N.iconst (v := 1) dX5_holds_29 (by decide) ?_
      refine N.icmp_ne (tgt := 42) dX5_holds_30 (by decide) (fun c30 => ?_) (fun c30 => ?_)
      · refine N.bipush (v := 10) dX5_holds_42 (by decide) ?_
        refine N.aload0 dX5_holds_44 ?_
        refine N.getf dX5_holds_45 flX5_28 mO rfl ?_
        refine N.iload1 dX5_holds_48 ?_
        refine N.iald dX5_holds_49 mH3 (sh8v c9) ?_
        refine N.iadd dX5_holds_50 ?_
        exact N.iret dX5_holds_51 rfl (Nat.zero_le _) (Nat.zero_le _) ⟨_, rfl, (by rw [mholds, if_neg c9, if_neg c18, if_neg c30]; exact ⟨rfl, t, z, rfl, ht, Nat.le_refl _⟩)⟩
      · refine N.aload0 dX5_holds_33 ?_
        refine N.getf dX5_holds_34 flX5_13 mO rfl ?_
        refine N.iload1 dX5_holds_37 ?_
        refine N.iald dX5_holds_38 mH1 (sh8v c9) ?_
        refine N.goto (tgt := 51) dX5_holds_39 (by decide) ?_
        exact N.iret dX5_holds_51 rfl (Nat.zero_le _) (Nat.zero_le _) ⟨_, rfl, (by rw [mholds, if_neg c9, if_neg c18, if_pos c30]; exact ⟨rfl, t, z, rfl, ht, Nat.le_refl _⟩)⟩
    · refine N.iconst (v := -1) dX5_holds_21 (by decide) ?_
      exact N.iret dX5_holds_22 rfl (Nat.zero_le _) (Nat.zero_le _) ⟨_, rfl, (by rw [mholds, if_neg c9, if_pos c18]; exact ⟨rfl, t, z, rfl, ht, Nat.le_refl _⟩)⟩
def shM (m : Mst) (s p k : Int32) : Mst := (m.1, m.2.1, upA (upA m.2.2.1 0 (upd (m.2.2.1 0) s.toNatClampNeg k)) 3 (upd (m.2.2.1 3) s.toNatClampNeg p), m.2.2.2)
def mshow (m : Mst) (s p : Int32) : Int32 × Mst := if isInF s 0 7 = 0 then rm m (-2) else if p = -1 then (1, shM m s p 0) else if isPlF m.1 p = 0 then rm m (-2) else (1, shM m s p 2)
set_option maxRecDepth 100000 in
theorem s_X5_show {K : Kx} (w : Wd) (b sz : Nat) (v : CV) (e : M5) (t : Option Nat) (z : MX) (s : Int32) (p : Int32) (ht : tOk G b sz t) (hM : okM (v, e)) : Sp K mX5_show 9 (kc t) (ks t) [.ref b, .int s, .int p] (putM K (tw K w t z) b (v, wt e t)) sz (Qi fun r w' sz' => r = (mshow (v, e) s p).1 ∧ ∃ t' z', w' = putM K (tw K w t' z') b ((mshow (v, e) s p).2.1, wt (mshow (v, e) s p).2.2 t') ∧ tOk G b sz' t' ∧ sz ≤ sz') := by
  refine Sp.ofN [some (.ref b), some (.int s), some (.int p)] rfl rfl rfl (Nat.le_of_ble_eq_true rfl) ?_
  have h : okP v := hM.1
  refine N.iload1 dX5_show_0 ?_
  refine N.i2l dX5_show_1 ?_
  refine N.lconst (v := 0) dX5_show_2 (by decide) ?_
  refine N.ldc2 dX5_show_3 ctX5_83 ?_
  refine N.si3 dX5_show_6 vX5_in lkX5_77 (s_X5_in _ _ _ _ _) rfl (Nat.le_of_ble_eq_true rfl) (Nat.le_of_ble_eq_true rfl) (Nat.zero_le _) (Nat.zero_le _) ?_
  rintro r1 _ _ ⟨er, rfl, rfl⟩
  obtain rfl := er.trans (inL_i (a := (0)) (b := (7)) rfl rfl)
  refine N.if_eq (tgt := 25) dX5_show_9 (by decide) (fun c9 => ?_) (fun c9 => ?_)
  · refine N.aload0 dX5_show_25 ?_
    refine N.bipush (v := -2) dX5_show_26 (by decide) ?_
    refine N.vi1 dX5_show_28 vX5_refuse lkX5_89 (s_X5_refuse _ _ _ _ _ _ rfIn2) mO rfl (Nat.le_of_ble_eq_true rfl) (Nat.le_of_ble_eq_true rfl) (Nat.zero_le _) (Nat.zero_le _) ?_
    rintro _ _ _ ⟨rfl, rfl, rfl⟩
    exact N.iret dX5_show_31 rfl (Nat.zero_le _) (Nat.zero_le _) ⟨_, rfl, (by rw [mshow, if_pos c9]; exact rmf_ok ht)⟩
  · refine N.iload2 dX5_show_12 ?_
    refine N.iconst (v := -1) dX5_show_13 (by decide) ?_
    refine N.icmp_eq (tgt := 32) dX5_show_14 (by decide) (fun c14 => ?_) (fun c14 => ?_)
    · refine N.aload0 dX5_show_32 ?_
      refine N.getf dX5_show_33 flX5_7 mO rfl ?_
      refine N.iload1 dX5_show_36 ?_
      refine N.iload2 dX5_show_37 ?_
      refine N.iconst (v := -1) dX5_show_38 (by decide) ?_
      refine N.icmp_ne (tgt := 46) dX5_show_39 (by decide) (fun c39 => absurd c14 c39) (fun c39 => ?_)
      refine N.iconst (v := 0) dX5_show_42 (by decide) ?_
      refine N.goto (tgt := 47) dX5_show_43 (by decide) ?_
      refine N.iast dX5_show_47 mH0 (sh8v c9) mHK0 ?_
      refine N.aload0 dX5_show_48 ?_
      refine N.getf dX5_show_49 flX5_28 mO rfl ?_
      refine N.iload1 dX5_show_52 ?_
      refine N.iload2 dX5_show_53 ?_
      refine N.iast dX5_show_54 mH3 (sh8v c9) mHK3 ?_
      refine N.iconst (v := 1) dX5_show_55 (by decide) ?_
      exact N.iret dX5_show_56 rfl (Nat.zero_le _) (Nat.zero_le _) ⟨_, rfl, (by rw [mshow, if_neg c9, if_pos c14]; exact ⟨rfl, t, z, rfl, ht, Nat.le_refl _⟩)⟩
    · refine N.aload0 dX5_show_17 ?_
      refine N.iload2 dX5_show_18 ?_
      refine N.vi1 dX5_show_19 vX5_isPlayer lkX5_100 (s_X5_isPlayer _ _ _ _ _ _) mO rfl (Nat.le_of_ble_eq_true rfl) (Nat.le_of_ble_eq_true rfl) (Nat.zero_le _) (Nat.zero_le _) ?_
      rintro _ _ _ ⟨rfl, rfl, rfl⟩
      refine N.if_ne (tgt := 32) dX5_show_22 (by decide) (fun c22 => ?_) (fun c22 => ?_)
      · refine N.aload0 dX5_show_32 ?_
        refine N.getf dX5_show_33 flX5_7 mO rfl ?_
        refine N.iload1 dX5_show_36 ?_
        refine N.iload2 dX5_show_37 ?_
        refine N.iconst (v := -1) dX5_show_38 (by decide) ?_
        refine N.icmp_ne (tgt := 46) dX5_show_39 (by decide) (fun c39 => ?_) (fun c39 => absurd c39 c14)
        refine N.iconst (v := 2) dX5_show_46 (by decide) ?_
        refine N.iast dX5_show_47 mH0 (sh8v c9) mHK0 ?_
        refine N.aload0 dX5_show_48 ?_
        refine N.getf dX5_show_49 flX5_28 mO rfl ?_
        refine N.iload1 dX5_show_52 ?_
        refine N.iload2 dX5_show_53 ?_
        refine N.iast dX5_show_54 mH3 (sh8v c9) mHK3 ?_
        refine N.iconst (v := 1) dX5_show_55 (by decide) ?_
        exact N.iret dX5_show_56 rfl (Nat.zero_le _) (Nat.zero_le _) ⟨_, rfl, (by rw [mshow, if_neg c9, if_neg c14, if_neg c22]; exact ⟨rfl, t, z, rfl, ht, Nat.le_refl _⟩)⟩
      · refine N.aload0 dX5_show_25 ?_
        refine N.bipush (v := -2) dX5_show_26 (by decide) ?_
        refine N.vi1 dX5_show_28 vX5_refuse lkX5_89 (s_X5_refuse _ _ _ _ _ _ rfIn2) mO rfl (Nat.le_of_ble_eq_true rfl) (Nat.le_of_ble_eq_true rfl) (Nat.zero_le _) (Nat.zero_le _) ?_
        rintro _ _ _ ⟨rfl, rfl, rfl⟩
        exact N.iret dX5_show_31 rfl (Nat.zero_le _) (Nat.zero_le _) ⟨_, rfl, (by rw [mshow, if_neg c9, if_neg c14, if_pos c22]; exact rmf_ok ht)⟩
def mwipe (m : Mst) : Int32 × Mst := (m.2.1 0, m.1, upd m.2.1 0 0, m.2.2)
set_option maxRecDepth 100000 in
theorem s_X5_wipe {K : Kx} (w : Wd) (b sz : Nat) (v : CV) (e : M5) (t : Option Nat) (z : MX) (ht : tOk G b sz t) (hM : okM (v, e)) : Sp K mX5_wipe 9 (kc t) (ks t) [.ref b] (putM K (tw K w t z) b (v, wt e t)) sz (Qi fun r w' sz' => r = (mwipe (v, e)).1 ∧ ∃ t' z', w' = putM K (tw K w t' z') b ((mwipe (v, e)).2.1, wt (mwipe (v, e)).2.2 t') ∧ tOk G b sz' t' ∧ sz ≤ sz') := by
  refine Sp.ofN [some (.ref b), none] rfl rfl rfl (Nat.le_of_ble_eq_true rfl) ?_
  have h : okP v := hM.1
  refine N.aload0 dX5_wipe_0 ?_
  refine N.getf dX5_wipe_1 flX5_158 mO rfl ?_
  refine N.istore1 dX5_wipe_4 rfl ?_
  refine N.aload0 dX5_wipe_5 ?_
  refine N.iconst (v := 0) dX5_wipe_6 (by decide) ?_
  refine N.putf dX5_wipe_7 flX5_158 mO (Nat.le_of_ble_eq_true rfl) (fun _ h => by cases h; rfl) rfl rfl mG0 ?_
  refine N.iload1 dX5_wipe_10 ?_
  exact N.iret dX5_wipe_11 rfl (Nat.zero_le _) (Nat.zero_le _) ⟨_, rfl, (by rw [mwipe]; exact ⟨rfl, t, z, rfl, ht, Nat.le_refl _⟩)⟩
def mseed (m : Mst) (x : Int32) : Int32 × Mst := (m.1.1 12, (upd m.1.1 12 x, m.1.2), m.2)
set_option maxRecDepth 100000 in
theorem s_X5_seed {K : Kx} (w : Wd) (b sz : Nat) (v : CV) (e : M5) (t : Option Nat) (z : MX) (x : Int32) (ht : tOk G b sz t) (hM : okM (v, e)) : Sp K mX5_seed 9 (kc t) (ks t) [.ref b, .int x] (putM K (tw K w t z) b (v, wt e t)) sz (Qi fun r w' sz' => r = (mseed (v, e) x).1 ∧ ∃ t' z', w' = putM K (tw K w t' z') b ((mseed (v, e) x).2.1, wt (mseed (v, e) x).2.2 t') ∧ tOk G b sz' t' ∧ sz ≤ sz') := by
  refine Sp.ofN [some (.ref b), some (.int x), none] rfl rfl rfl (Nat.le_of_ble_eq_true rfl) ?_
  have h : okP v := hM.1
  refine N.aload0 dX5_seed_0 ?_
  refine N.getf dX5_seed_1 flX5_62 mO rfl ?_
  refine N.istore2 dX5_seed_4 rfl ?_
  refine N.aload0 dX5_seed_5 ?_
  refine N.iload1 dX5_seed_6 ?_
  refine N.putf dX5_seed_7 flX5_62 mO (Nat.le_of_ble_eq_true rfl) (fun _ h => by cases h; rfl) rfl rfl mP12 ?_
  refine N.iload2 dX5_seed_10 ?_
  exact N.iret dX5_seed_11 rfl (Nat.zero_le _) (Nat.zero_le _) ⟨_, rfl, (by rw [mseed]; exact ⟨rfl, t, z, rfl, ht, Nat.le_refl _⟩)⟩
def mpower (m : Mst) : Int32 × Mst := (powAM m.1, m)
set_option maxRecDepth 100000 in
theorem s_X5_power {K : Kx} (w : Wd) (b sz : Nat) (v : CV) (e : M5) (t : Option Nat) (z : MX) (ht : tOk G b sz t) (hM : okM (v, e)) : Sp K mX5_power 9 (kc t) (ks t) [.ref b] (putM K (tw K w t z) b (v, wt e t)) sz (Qi fun r w' sz' => r = (mpower (v, e)).1 ∧ ∃ t' z', w' = putM K (tw K w t' z') b ((mpower (v, e)).2.1, wt (mpower (v, e)).2.2 t') ∧ tOk G b sz' t' ∧ sz ≤ sz') := by
  refine Sp.ofN [some (.ref b)] rfl rfl rfl (Nat.le_of_ble_eq_true rfl) ?_
  have h : okP v := hM.1
  refine N.aload0 dX5_power_0 ?_
  refine N.vi0 dX5_power_1 vX5_powerNow lkX5_258 (s_X5_powerNow _ _ _ _ _ h) mO rfl (Nat.le_of_ble_eq_true rfl) (Nat.le_of_ble_eq_true rfl) (Nat.zero_le _) (Nat.zero_le _) ?_
  rintro _ _ _ ⟨rfl, rfl, rfl⟩
  exact N.iret dX5_power_4 rfl (Nat.zero_le _) (Nat.zero_le _) ⟨_, rfl, (by rw [mpower]; exact ⟨rfl, t, z, rfl, ht, Nat.le_refl _⟩)⟩
def modds (m : Mst) (x : Int32) : Int32 × Mst := if x = 0 then (oddsOF m.1 (powAM m.1), m) else if x = 1 then (oddsAF m.1, m) else rm m (-2)
set_option maxRecDepth 100000 in
theorem s_X5_odds {K : Kx} (w : Wd) (b sz : Nat) (v : CV) (e : M5) (t : Option Nat) (z : MX) (x : Int32) (ht : tOk G b sz t) (hM : okM (v, e)) : Sp K mX5_odds 9 (kc t) (ks t) [.ref b, .int x] (putM K (tw K w t z) b (v, wt e t)) sz (Qi fun r w' sz' => r = (modds (v, e) x).1 ∧ ∃ t' z', w' = putM K (tw K w t' z') b ((modds (v, e) x).2.1, wt (modds (v, e) x).2.2 t') ∧ tOk G b sz' t' ∧ sz ≤ sz') := by
  refine Sp.ofN [some (.ref b), some (.int x)] rfl rfl rfl (Nat.le_of_ble_eq_true rfl) ?_
  have h : okP v := hM.1
  refine N.iload1 dX5_odds_0 ?_
  refine N.if_ne (tgt := 11) dX5_odds_1 (by decide) (fun c1 => ?_) (fun c1 => ?_)
  · refine N.iload1 dX5_odds_11 ?_
    refine N.iconst (v := 1) dX5_odds_12 (by decide) ?_
    refine N.icmp_ne (tgt := 23) dX5_odds_13 (by decide) (fun c13 => ?_) (fun c13 => ?_)
    · refine N.aload0 dX5_odds_23 ?_
      refine N.bipush (v := -2) dX5_odds_24 (by decide) ?_
      refine N.vi1 dX5_odds_26 vX5_refuse lkX5_89 (s_X5_refuse _ _ _ _ _ _ rfIn2) mO rfl (Nat.le_of_ble_eq_true rfl) (Nat.le_of_ble_eq_true rfl) (Nat.zero_le _) (Nat.zero_le _) ?_
      rintro _ _ _ ⟨rfl, rfl, rfl⟩
      exact N.iret dX5_odds_29 rfl (Nat.zero_le _) (Nat.zero_le _) ⟨_, rfl, (by rw [modds, if_neg c1, if_neg c13]; exact rmf_ok ht)⟩
    · refine N.aload0 dX5_odds_16 ?_
      refine N.vi0 dX5_odds_17 vX5_oddsAgainst lkX5_280 (s_X5_oddsAgainst _ _ _ _ _) mO rfl (Nat.le_of_ble_eq_true rfl) (Nat.le_of_ble_eq_true rfl) (Nat.zero_le _) (Nat.zero_le _) ?_
      rintro _ _ _ ⟨rfl, rfl, rfl⟩
      refine N.goto (tgt := 29) dX5_odds_20 (by decide) ?_
      exact N.iret dX5_odds_29 rfl (Nat.zero_le _) (Nat.zero_le _) ⟨_, rfl, (by rw [modds, if_neg c1, if_pos c13]; exact ⟨rfl, t, z, rfl, ht, Nat.le_refl _⟩)⟩
  · refine N.aload0 dX5_odds_4 ?_
    refine N.vi0 dX5_odds_5 vX5_oddsOurs lkX5_277 (s_X5_oddsOurs _ _ _ _ _ h) mO rfl (Nat.le_of_ble_eq_true rfl) (Nat.le_of_ble_eq_true rfl) (Nat.zero_le _) (Nat.zero_le _) ?_
    rintro _ _ _ ⟨rfl, rfl, rfl⟩
    refine N.goto (tgt := 29) dX5_odds_8 (by decide) ?_
    exact N.iret dX5_odds_29 rfl (Nat.zero_le _) (Nat.zero_le _) ⟨_, rfl, (by rw [modds, if_pos c1]; exact ⟨rfl, t, z, rfl, ht, Nat.le_refl _⟩)⟩
def mway (m : Mst) (l : Int32) : Int32 × Mst := if isInF l 0 3 = 0 then rm m (-2) else if m.1.2 4 l.toNatClampNeg = 0 then rm m (-5) else (wayM m.1 l, m)
set_option maxRecDepth 100000 in
theorem s_X5_way {K : Kx} (w : Wd) (b sz : Nat) (v : CV) (e : M5) (t : Option Nat) (z : MX) (l : Int32) (ht : tOk G b sz t) (hM : okM (v, e)) : Sp K mX5_way 9 (kc t) (ks t) [.ref b, .int l] (putM K (tw K w t z) b (v, wt e t)) sz (Qi fun r w' sz' => r = (mway (v, e) l).1 ∧ ∃ t' z', w' = putM K (tw K w t' z') b ((mway (v, e) l).2.1, wt (mway (v, e) l).2.2 t') ∧ tOk G b sz' t' ∧ sz ≤ sz') := by
  refine Sp.ofN [some (.ref b), some (.int l)] rfl rfl rfl (Nat.le_of_ble_eq_true rfl) ?_
  have h : okP v := hM.1
  refine N.iload1 dX5_way_0 ?_
  refine N.i2l dX5_way_1 ?_
  refine N.si1 dX5_way_2 vX5_isLine lkX5_138 (s_X5_isLine _ _ _) rfl (Nat.le_of_ble_eq_true rfl) (Nat.le_of_ble_eq_true rfl) (Nat.zero_le _) (Nat.zero_le _) ?_
  rintro r1 _ _ ⟨er, rfl, rfl⟩
  obtain rfl := er.trans (inL_i (a := 0) (b := 3) rfl rfl)
  refine N.if_ne (tgt := 15) dX5_way_5 (by decide) (fun c5 => ?_) (fun c5 => ?_)
  · refine N.aload0 dX5_way_15 ?_
    refine N.getf dX5_way_16 flX5_49 mO rfl ?_
    refine N.iload1 dX5_way_19 ?_
    refine N.iald dX5_way_20 mA4 (ln_in c5) ?_
    refine N.if_ne (tgt := 33) dX5_way_21 (by decide) (fun c21 => ?_) (fun c21 => ?_)
    · have hl := ln_in c5
      refine N.aload0 dX5_way_33 ?_
      refine N.iload1 dX5_way_34 ?_
      refine N.vi1 dX5_way_35 vX5_wayTo lkX5_302 (s_X5_wayTo _ _ _ _ _ _ hl h) mO rfl (Nat.le_of_ble_eq_true rfl) (Nat.le_of_ble_eq_true rfl) (Nat.zero_le _) (Nat.zero_le _) ?_
      rintro _ _ _ ⟨rfl, rfl, rfl⟩
      exact N.iret dX5_way_38 rfl (Nat.zero_le _) (Nat.zero_le _) ⟨_, rfl, (by rw [mway, if_neg c5, if_neg c21]; exact ⟨rfl, t, z, rfl, ht, Nat.le_refl _⟩)⟩
    · refine N.aload0 dX5_way_24 ?_
      refine N.bipush (v := -5) dX5_way_25 (by decide) ?_
      refine N.vi1 dX5_way_27 vX5_refuse lkX5_89 (s_X5_refuse _ _ _ _ _ _ rfIn5) mO rfl (Nat.le_of_ble_eq_true rfl) (Nat.le_of_ble_eq_true rfl) (Nat.zero_le _) (Nat.zero_le _) ?_
      rintro _ _ _ ⟨rfl, rfl, rfl⟩
      refine N.goto (tgt := 38) dX5_way_30 (by decide) ?_
      exact N.iret dX5_way_38 rfl (Nat.zero_le _) (Nat.zero_le _) ⟨_, rfl, (by rw [mway, if_neg c5, if_pos c21]; exact rmf_ok ht)⟩
  · refine N.aload0 dX5_way_8 ?_
    refine N.bipush (v := -2) dX5_way_9 (by decide) ?_
    refine N.vi1 dX5_way_11 vX5_refuse lkX5_89 (s_X5_refuse _ _ _ _ _ _ rfIn2) mO rfl (Nat.le_of_ble_eq_true rfl) (Nat.le_of_ble_eq_true rfl) (Nat.zero_le _) (Nat.zero_le _) ?_
    rintro _ _ _ ⟨rfl, rfl, rfl⟩
    exact N.iret dX5_way_14 rfl (Nat.zero_le _) (Nat.zero_le _) ⟨_, rfl, (by rw [mway, if_pos c5]; exact rmf_ok ht)⟩
def mchange (m : Mst) (l : Int32) : Int32 × Mst := if isInF l 0 3 = 0 then rm m (-2) else if m.1.2 4 l.toNatClampNeg = 0 then rm m (-5) else (wayM m.1 l, chM m.1 l, m.2)
set_option maxRecDepth 100000 in
theorem s_X5_change {K : Kx} (w : Wd) (b sz : Nat) (v : CV) (e : M5) (t : Option Nat) (z : MX) (l : Int32) (ht : tOk G b sz t) (hM : okM (v, e)) : Sp K mX5_change 9 (kc t) (ks t) [.ref b, .int l] (putM K (tw K w t z) b (v, wt e t)) sz (Qi fun r w' sz' => r = (mchange (v, e) l).1 ∧ ∃ t' z', w' = putM K (tw K w t' z') b ((mchange (v, e) l).2.1, wt (mchange (v, e) l).2.2 t') ∧ tOk G b sz' t' ∧ sz ≤ sz') := by
  refine Sp.ofN [some (.ref b), some (.int l)] rfl rfl rfl (Nat.le_of_ble_eq_true rfl) ?_
  have h : okP v := hM.1
  refine N.iload1 dX5_change_0 ?_
  refine N.i2l dX5_change_1 ?_
  refine N.si1 dX5_change_2 vX5_isLine lkX5_138 (s_X5_isLine _ _ _) rfl (Nat.le_of_ble_eq_true rfl) (Nat.le_of_ble_eq_true rfl) (Nat.zero_le _) (Nat.zero_le _) ?_
  rintro r1 _ _ ⟨er, rfl, rfl⟩
  obtain rfl := er.trans (inL_i (a := 0) (b := 3) rfl rfl)
  refine N.if_ne (tgt := 15) dX5_change_5 (by decide) (fun c5 => ?_) (fun c5 => ?_)
  · refine N.aload0 dX5_change_15 ?_
    refine N.getf dX5_change_16 flX5_49 mO rfl ?_
    refine N.iload1 dX5_change_19 ?_
    refine N.iald dX5_change_20 mA4 (ln_in c5) ?_
    refine N.if_ne (tgt := 33) dX5_change_21 (by decide) (fun c21 => ?_) (fun c21 => ?_)
    · have hl := ln_in c5
      refine N.aload0 dX5_change_33 ?_
      refine N.iload1 dX5_change_34 ?_
      refine N.vi1 dX5_change_35 vX5_changes lkX5_323 (s_X5_changes _ _ _ _ _ _ hl h) mO rfl (Nat.le_of_ble_eq_true rfl) (Nat.le_of_ble_eq_true rfl) (Nat.zero_le _) (Nat.zero_le _) ?_
      rintro _ _ _ ⟨rfl, rfl, rfl⟩
      exact N.iret dX5_change_38 rfl (Nat.zero_le _) (Nat.zero_le _) ⟨_, rfl, (by rw [mchange, if_neg c5, if_neg c21]; exact ⟨rfl, t, z, rfl, ht, Nat.le_refl _⟩)⟩
    · refine N.aload0 dX5_change_24 ?_
      refine N.bipush (v := -5) dX5_change_25 (by decide) ?_
      refine N.vi1 dX5_change_27 vX5_refuse lkX5_89 (s_X5_refuse _ _ _ _ _ _ rfIn5) mO rfl (Nat.le_of_ble_eq_true rfl) (Nat.le_of_ble_eq_true rfl) (Nat.zero_le _) (Nat.zero_le _) ?_
      rintro _ _ _ ⟨rfl, rfl, rfl⟩
      refine N.goto (tgt := 38) dX5_change_30 (by decide) ?_
      exact N.iret dX5_change_38 rfl (Nat.zero_le _) (Nat.zero_le _) ⟨_, rfl, (by rw [mchange, if_neg c5, if_pos c21]; exact rmf_ok ht)⟩
  · refine N.aload0 dX5_change_8 ?_
    refine N.bipush (v := -2) dX5_change_9 (by decide) ?_
    refine N.vi1 dX5_change_11 vX5_refuse lkX5_89 (s_X5_refuse _ _ _ _ _ _ rfIn2) mO rfl (Nat.le_of_ble_eq_true rfl) (Nat.le_of_ble_eq_true rfl) (Nat.zero_le _) (Nat.zero_le _) ?_
    rintro _ _ _ ⟨rfl, rfl, rfl⟩
    exact N.iret dX5_change_14 rfl (Nat.zero_le _) (Nat.zero_le _) ⟨_, rfl, (by rw [mchange, if_pos c5]; exact rmf_ok ht)⟩
def mwhist (m : Mst) (l : Int32) : Int32 × Mst := if isInF l 0 3 = 0 then rm m (-2) else if m.1.2 4 l.toNatClampNeg = 0 then rm m (-5) else (powAM (putOnV m.1 (m.1.2 4 l.toNatClampNeg)), putOnV m.1 (m.1.2 4 l.toNatClampNeg), m.2)
set_option maxRecDepth 100000 in
theorem s_X5_whistle {K : Kx} (w : Wd) (b sz : Nat) (v : CV) (e : M5) (t : Option Nat) (z : MX) (l : Int32) (ht : tOk G b sz t) (hM : okM (v, e)) : Sp K mX5_whistle 9 (kc t) (ks t) [.ref b, .int l] (putM K (tw K w t z) b (v, wt e t)) sz (Qi fun r w' sz' => r = (mwhist (v, e) l).1 ∧ ∃ t' z', w' = putM K (tw K w t' z') b ((mwhist (v, e) l).2.1, wt (mwhist (v, e) l).2.2 t') ∧ tOk G b sz' t' ∧ sz ≤ sz') := by
  refine Sp.ofN [some (.ref b), some (.int l)] rfl rfl rfl (Nat.le_of_ble_eq_true rfl) ?_
  have h : okP v := hM.1
  refine N.iload1 dX5_whistle_0 ?_
  refine N.i2l dX5_whistle_1 ?_
  refine N.si1 dX5_whistle_2 vX5_isLine lkX5_138 (s_X5_isLine _ _ _) rfl (Nat.le_of_ble_eq_true rfl) (Nat.le_of_ble_eq_true rfl) (Nat.zero_le _) (Nat.zero_le _) ?_
  rintro r1 _ _ ⟨er, rfl, rfl⟩
  obtain rfl := er.trans (inL_i (a := 0) (b := 3) rfl rfl)
  refine N.if_ne (tgt := 15) dX5_whistle_5 (by decide) (fun c5 => ?_) (fun c5 => ?_)
  · refine N.aload0 dX5_whistle_15 ?_
    refine N.getf dX5_whistle_16 flX5_49 mO rfl ?_
    refine N.iload1 dX5_whistle_19 ?_
    refine N.iald dX5_whistle_20 mA4 (ln_in c5) ?_
    refine N.if_ne (tgt := 31) dX5_whistle_21 (by decide) (fun c21 => ?_) (fun c21 => ?_)
    · have hl := ln_in c5
      refine N.aload0 dX5_whistle_31 ?_
      refine N.iload1 dX5_whistle_32 ?_
      have hl := ln_in c5
      refine N.vv1 dX5_whistle_33 vX5_whistles lkX5_218 (s_X5_whistles _ _ _ _ _ _ hl) mO rfl (Nat.le_of_ble_eq_true rfl) (Nat.le_of_ble_eq_true rfl) (Nat.zero_le _) (Nat.zero_le _) ?_
      rintro _ _ ⟨rfl, rfl⟩
      refine N.aload0 dX5_whistle_36 ?_
      refine N.vi0 dX5_whistle_37 vX5_powerNow lkX5_258 (s_X5_powerNow _ _ _ _ _ (h.on _)) mO rfl (Nat.le_of_ble_eq_true rfl) (Nat.le_of_ble_eq_true rfl) (Nat.zero_le _) (Nat.zero_le _) ?_
      rintro _ _ _ ⟨rfl, rfl, rfl⟩
      exact N.iret dX5_whistle_40 rfl (Nat.zero_le _) (Nat.zero_le _) ⟨_, rfl, (by rw [mwhist, if_neg c5, if_neg c21]; exact ⟨rfl, t, z, rfl, ht, Nat.le_refl _⟩)⟩
    · refine N.aload0 dX5_whistle_24 ?_
      refine N.bipush (v := -5) dX5_whistle_25 (by decide) ?_
      refine N.vi1 dX5_whistle_27 vX5_refuse lkX5_89 (s_X5_refuse _ _ _ _ _ _ rfIn5) mO rfl (Nat.le_of_ble_eq_true rfl) (Nat.le_of_ble_eq_true rfl) (Nat.zero_le _) (Nat.zero_le _) ?_
      rintro _ _ _ ⟨rfl, rfl, rfl⟩
      exact N.iret dX5_whistle_30 rfl (Nat.zero_le _) (Nat.zero_le _) ⟨_, rfl, (by rw [mwhist, if_neg c5, if_pos c21]; exact rmf_ok ht)⟩
  · refine N.aload0 dX5_whistle_8 ?_
    refine N.bipush (v := -2) dX5_whistle_9 (by decide) ?_
    refine N.vi1 dX5_whistle_11 vX5_refuse lkX5_89 (s_X5_refuse _ _ _ _ _ _ rfIn2) mO rfl (Nat.le_of_ble_eq_true rfl) (Nat.le_of_ble_eq_true rfl) (Nat.zero_le _) (Nat.zero_le _) ?_
    rintro _ _ _ ⟨rfl, rfl, rfl⟩
    exact N.iret dX5_whistle_14 rfl (Nat.zero_le _) (Nat.zero_le _) ⟨_, rfl, (by rw [mwhist, if_pos c5]; exact rmf_ok ht)⟩
def mline (m : Mst) (l s : Int32) : Int32 × Mst := if isInF l 0 3 = 0 then rm m (-2) else if s < 0 then rm m (-2) else if s >>> (m.1.1 0 &&& 31) = 0 then (if bitsF s ≤ 5 then (m.1.2 4 l.toNatClampNeg, (m.1.1, upA m.1.2 4 (upd (m.1.2 4) l.toNatClampNeg s)), m.2) else rm m (-2)) else rm m (-2)
set_option maxRecDepth 100000 in
theorem s_X5_line {K : Kx} (w : Wd) (b sz : Nat) (v : CV) (e : M5) (t : Option Nat) (z : MX) (l : Int32) (s : Int32) (ht : tOk G b sz t) (hM : okM (v, e)) : Sp K mX5_line 9 (kc t) (ks t) [.ref b, .int l, .int s] (putM K (tw K w t z) b (v, wt e t)) sz (Qi fun r w' sz' => r = (mline (v, e) l s).1 ∧ ∃ t' z', w' = putM K (tw K w t' z') b ((mline (v, e) l s).2.1, wt (mline (v, e) l s).2.2 t') ∧ tOk G b sz' t' ∧ sz ≤ sz') := by
  refine Sp.ofN [some (.ref b), some (.int l), some (.int s), none] rfl rfl rfl (Nat.le_of_ble_eq_true rfl) ?_
  have h : okP v := hM.1
  refine N.iload1 dX5_line_0 ?_
  refine N.i2l dX5_line_1 ?_
  refine N.si1 dX5_line_2 vX5_isLine lkX5_138 (s_X5_isLine _ _ _) rfl (Nat.le_of_ble_eq_true rfl) (Nat.le_of_ble_eq_true rfl) (Nat.zero_le _) (Nat.zero_le _) ?_
  rintro r1 _ _ ⟨er, rfl, rfl⟩
  obtain rfl := er.trans (inL_i (a := 0) (b := 3) rfl rfl)
  refine N.if_eq (tgt := 29) dX5_line_5 (by decide) (fun c5 => ?_) (fun c5 => ?_)
  · refine N.aload0 dX5_line_29 ?_
    refine N.bipush (v := -2) dX5_line_30 (by decide) ?_
    refine N.vi1 dX5_line_32 vX5_refuse lkX5_89 (s_X5_refuse _ _ _ _ _ _ rfIn2) mO rfl (Nat.le_of_ble_eq_true rfl) (Nat.le_of_ble_eq_true rfl) (Nat.zero_le _) (Nat.zero_le _) ?_
    rintro _ _ _ ⟨rfl, rfl, rfl⟩
    exact N.iret dX5_line_35 rfl (Nat.zero_le _) (Nat.zero_le _) ⟨_, rfl, (by rw [mline, if_pos c5]; exact rmf_ok ht)⟩
  · refine N.iload2 dX5_line_8 ?_
    refine N.if_lt (tgt := 29) dX5_line_9 (by decide) (fun c9 => ?_) (fun c9 => ?_)
    · refine N.aload0 dX5_line_29 ?_
      refine N.bipush (v := -2) dX5_line_30 (by decide) ?_
      refine N.vi1 dX5_line_32 vX5_refuse lkX5_89 (s_X5_refuse _ _ _ _ _ _ rfIn2) mO rfl (Nat.le_of_ble_eq_true rfl) (Nat.le_of_ble_eq_true rfl) (Nat.zero_le _) (Nat.zero_le _) ?_
      rintro _ _ _ ⟨rfl, rfl, rfl⟩
      exact N.iret dX5_line_35 rfl (Nat.zero_le _) (Nat.zero_le _) ⟨_, rfl, (by rw [mline, if_neg c5, if_pos c9]; exact rmf_ok ht)⟩
    · refine N.iload2 dX5_line_12 ?_
      refine N.aload0 dX5_line_13 ?_
      refine N.getf dX5_line_14 flX5_74 mO rfl ?_
      refine N.ishr dX5_line_17 ?_
      refine N.if_ne (tgt := 29) dX5_line_18 (by decide) (fun c18 => ?_) (fun c18 => ?_)
      · refine N.aload0 dX5_line_29 ?_
        refine N.bipush (v := -2) dX5_line_30 (by decide) ?_
        refine N.vi1 dX5_line_32 vX5_refuse lkX5_89 (s_X5_refuse _ _ _ _ _ _ rfIn2) mO rfl (Nat.le_of_ble_eq_true rfl) (Nat.le_of_ble_eq_true rfl) (Nat.zero_le _) (Nat.zero_le _) ?_
        rintro _ _ _ ⟨rfl, rfl, rfl⟩
        exact N.iret dX5_line_35 rfl (Nat.zero_le _) (Nat.zero_le _) ⟨_, rfl, (by rw [mline, if_neg c5, if_neg c9, if_neg c18]; exact rmf_ok ht)⟩
      · refine N.iload2 dX5_line_21 ?_
        refine N.si1 dX5_line_22 vX5_bits lkX5_122 (s_X5_bits _ _ _) rfl (Nat.le_of_ble_eq_true rfl) (Nat.le_of_ble_eq_true rfl) (Nat.zero_le _) (Nat.zero_le _) ?_
        rintro _ _ _ ⟨rfl, rfl, rfl⟩
        refine N.iconst (v := 5) dX5_line_25 (by decide) ?_
        refine N.icmp_le (tgt := 36) dX5_line_26 (by decide) (fun c26 => ?_) (fun c26 => ?_)
        · refine N.aload0 dX5_line_36 ?_
          refine N.getf dX5_line_37 flX5_49 mO rfl ?_
          refine N.iload1 dX5_line_40 ?_
          refine N.iald dX5_line_41 mA4 (ln_in c5) ?_
          refine N.istore3 dX5_line_42 rfl ?_
          refine N.aload0 dX5_line_43 ?_
          refine N.getf dX5_line_44 flX5_49 mO rfl ?_
          refine N.iload1 dX5_line_47 ?_
          refine N.iload2 dX5_line_48 ?_
          refine N.iast dX5_line_49 mA4 (ln_in c5) mK4 ?_
          refine N.iload3 dX5_line_50 ?_
          exact N.iret dX5_line_51 rfl (Nat.zero_le _) (Nat.zero_le _) ⟨_, rfl, (by rw [mline, if_neg c5, if_neg c9, if_pos c18, if_pos c26]; exact ⟨rfl, t, z, rfl, ht, Nat.le_refl _⟩)⟩
        · refine N.aload0 dX5_line_29 ?_
          refine N.bipush (v := -2) dX5_line_30 (by decide) ?_
          refine N.vi1 dX5_line_32 vX5_refuse lkX5_89 (s_X5_refuse _ _ _ _ _ _ rfIn2) mO rfl (Nat.le_of_ble_eq_true rfl) (Nat.le_of_ble_eq_true rfl) (Nat.zero_le _) (Nat.zero_le _) ?_
          rintro _ _ _ ⟨rfl, rfl, rfl⟩
          exact N.iret dX5_line_35 rfl (Nat.zero_le _) (Nat.zero_le _) ⟨_, rfl, (by rw [mline, if_neg c5, if_neg c9, if_pos c18, if_neg c26]; exact rmf_ok ht)⟩
