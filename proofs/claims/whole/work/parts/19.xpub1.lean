/-! what the calls answer: a pair of the answer and what there is behind it -/
def rf (x : XV) (y : Int32) : Int32 × XV := (y, refX x y)
def rg (x : XV) (y : Int32) : Int32 × XV := (-1000000000 + y, refX x y)
theorem rel_xup {x : XV} {u : CV} {p : Int32 × Int32} : rel (xup x u p) = rel x := rfl
theorem in_n {v b : Int32} {N' : Nat} (hb : b.toInt = N') (h : ¬ isInF v 0 b = 0) : ∃ m, m ≤ N' ∧ v = nI m := by
  obtain ⟨h1, h2⟩ := isIn_ne h
  exact nI_of2 hb h1 (Int32.not_lt.mp h2)
theorem in_n1 {v b : Int32} {N' : Nat} (hb : b.toInt = N') (h : ¬ isInF v 1 b = 0) : ∃ m, m ≤ N' ∧ 1 ≤ m ∧ v = nI m := by
  obtain ⟨h1, h2⟩ := isIn_ne h
  have h0 : ¬ v < 0 := fun q => h1 (by
    rw [Int32.lt_iff_toInt_lt] at q ⊢
    have e1 : (0 : Int32).toInt = 0 := rfl
    have e2 : (1 : Int32).toInt = 1 := rfl
    omega)
  obtain ⟨m, hm, e⟩ := nI_of2 hb h0 (Int32.not_lt.mp h2)
  refine ⟨m, hm, ?_, e⟩
  rcases Nat.lt_or_ge m 1 with q | q
  · obtain rfl : m = 0 := by omega
    exact absurd (by rw [e]; decide) h1
  · exact q
theorem pl_in {v : CV} (h : okP v) {q : Int32} (c : ¬ isPlF v q = 0) : vp_in q 10 := by
  obtain ⟨P, hP, e⟩ := h
  unfold isPlF at c
  refine isIn_vp (n := 10) ?_ c
  rw [e]
  by_cases h0 : P = 0
  · subst h0; decide
  · obtain ⟨Q, rfl⟩ : ∃ Q, P = Q + 1 := ⟨P - 1, by omega⟩
    rw [nI_pred, nI_toInt (by omega)]
    omega
theorem hl_in {v : CV} {l : Int32} (c : ¬ hasPlF v l = 0) : vp_in l 4 := by
  unfold hasPlF at c
  by_cases h : isInF l 0 3 = 0
  · rw [if_pos h] at c; exact absurd rfl c
  · exact isIn_vp (by decide) h
theorem ln_in {l : Int32} (c : ¬ isInF l 0 3 = 0) : vp_in l 4 := isIn_vp (by decide) c
theorem sh8 {s : Int32} (c : ¬ isInF s 0 7 = 0) : s.toNatClampNeg < 8 := Nat.not_le.mp fun q => (isIn_vp (n := 8) (by decide) c) (Or.inr q)
theorem sh8v {s : Int32} (c : ¬ isInF s 0 7 = 0) : vp_in s 8 := isIn_vp (n := 8) (by decide) c
theorem rf_1 {x : XV} {y : Int32} : (rf x y).1 = y := rfl
theorem rf_2 {x : XV} {y : Int32} : (rf x y).2 = refX x y := by dsimp only [rf]
theorem rg_1 {x : XV} {y : Int32} : (rg x y).1 = -1000000000 + y := rfl
theorem rg_2 {x : XV} {y : Int32} : (rg x y).2 = refX x y := by dsimp only [rg]
theorem rf_ok {K : Kx} {w : Wd} {a sz : Nat} {x : XV} {y : Int32} {u : CV} {p : Int32 × Int32} : y = (rf x y).1 ∧ sz = sz ∧ ∃ x', putU K w a (refX x y) u p = putX K w a x' ∧ rel x' = rel (rf x y).2 := ⟨rf_1.symm, rfl, xup (refX x y) u p, rfl, rel_xup.trans (congrArg rel rf_2.symm)⟩
theorem rg_ok {K : Kx} {w : Wd} {a sz : Nat} {x : XV} {y : Int32} {u : CV} {p : Int32 × Int32} : -1000000000 + y = (rg x y).1 ∧ sz = sz ∧ ∃ x', putU K w a (refX x y) u p = putX K w a x' ∧ rel x' = rel (rg x y).2 := ⟨rg_1.symm, rfl, xup (refX x y) u p, rfl, rel_xup.trans (congrArg rel rg_2.symm)⟩
def szOk (v : SV) : Prop := ∃ n : Nat, n ≤ 40 ∧ v.2.2 = nI n
theorem sz_in {v : SV} (h : szOk v) {i : Int32} (c : ¬ isInF i 0 (v.2.2 - 1) = 0) : vp_in i 40 := by
  obtain ⟨P, hP, e⟩ := h
  refine isIn_vp (n := 40) ?_ c
  rw [e]
  by_cases h0 : P = 0
  · subst h0; decide
  · obtain ⟨Q, rfl⟩ : ∃ Q, P = Q + 1 := ⟨P - 1, by omega⟩
    rw [nI_pred, nI_toInt (by omega)]
    omega
def okX (x : XV) : Prop := okP (x.1 0) ∧ okP (x.1 2) ∧ (∀ i, i < 8 → szOk (x.2.2.1 i)) ∧ ∃ n : Nat, n ≤ 250 ∧ x.2.1.2 0 = nI n
def xrow (x : XV) (s t n : Int32) : Int32 × XV := if isInF s 0 7 = 0 then rf x (-2) else if isInF t 0 4 = 0 then rf x (-2) else if isInF n 0 40 = 0 then rf x (-2) else (1, setSh x s.toNatClampNeg (fun _ => 0, t, n))
set_option maxRecDepth 100000 in
theorem s_X4_row {K : Kx} (w : Wd) (a sz : Nat) (x : XV) (s : Int32) (t : Int32) (n : Int32) (hX : okX x)  : Sp K mX4_row 9 0 0 [.ref a, .int s, .int t, .int n] (putX K w a x) sz (Qi fun r w' sz' => r = (xrow x s t n).1 ∧ sz' = sz ∧ ∃ x', w' = putX K w a x' ∧ rel x' = rel (xrow x s t n).2) := by
  refine Sp.ofN [some (.ref a), some (.int s), some (.int t), some (.int n)] rfl rfl rfl (Nat.le_of_ble_eq_true rfl) ?_
  have h : okP (x.1 0) := hX.1
  refine N.eqW (congrArg (putX K w a) (xup_self x)) ?_
  generalize x.1 1 = u0
  generalize x.2.2.2.2.1 = p0
  refine N.iload1 dX4_row_0 ?_
  refine N.si1 dX4_row_1 vX4_isShelf lkX4_54 (s_X4_isShelf _ _ _) rfl (Nat.le_of_ble_eq_true rfl) (Nat.le_of_ble_eq_true rfl) (Nat.zero_le _) (Nat.zero_le _) ?_
  rintro _ _ _ ⟨rfl, rfl, rfl⟩
  refine N.if_eq (tgt := 26) dX4_row_4 (by decide) (fun c4 => ?_) (fun c4 => ?_)
  · refine N.aload0 dX4_row_26 ?_
    refine N.bipush (v := -2) dX4_row_27 (by decide) ?_
    refine N.vi1 dX4_row_29 vX4_refuse lkX4_62 (s_X4_refuse _ _ _ _ _ _ _) yO rfl (Nat.le_of_ble_eq_true rfl) (Nat.le_of_ble_eq_true rfl) (Nat.zero_le _) (Nat.zero_le _) ?_
    rintro _ _ _ ⟨rfl, rfl, rfl⟩
    exact N.iret dX4_row_32 rfl (Nat.zero_le _) (Nat.zero_le _) ⟨_, rfl, (by rw [xrow, if_pos c4]; exact rf_ok)⟩
  · refine N.iload2 dX4_row_7 ?_
    refine N.iconst (v := 0) dX4_row_8 (by decide) ?_
    refine N.iconst (v := 4) dX4_row_9 (by decide) ?_
    refine N.si3 dX4_row_10 vX4_isIn lkX4_58 (s_X4_isIn _ _ _ _ _) rfl (Nat.le_of_ble_eq_true rfl) (Nat.le_of_ble_eq_true rfl) (Nat.zero_le _) (Nat.zero_le _) ?_
    rintro _ _ _ ⟨rfl, rfl, rfl⟩
    refine N.if_eq (tgt := 26) dX4_row_13 (by decide) (fun c13 => ?_) (fun c13 => ?_)
    · refine N.aload0 dX4_row_26 ?_
      refine N.bipush (v := -2) dX4_row_27 (by decide) ?_
      refine N.vi1 dX4_row_29 vX4_refuse lkX4_62 (s_X4_refuse _ _ _ _ _ _ _) yO rfl (Nat.le_of_ble_eq_true rfl) (Nat.le_of_ble_eq_true rfl) (Nat.zero_le _) (Nat.zero_le _) ?_
      rintro _ _ _ ⟨rfl, rfl, rfl⟩
      exact N.iret dX4_row_32 rfl (Nat.zero_le _) (Nat.zero_le _) ⟨_, rfl, (by rw [xrow, if_neg c4, if_pos c13]; exact rf_ok)⟩
    · refine N.iload3 dX4_row_16 ?_
      refine N.iconst (v := 0) dX4_row_17 (by decide) ?_
      refine N.bipush (v := 40) dX4_row_18 (by decide) ?_
      refine N.si3 dX4_row_20 vX4_isIn lkX4_58 (s_X4_isIn _ _ _ _ _) rfl (Nat.le_of_ble_eq_true rfl) (Nat.le_of_ble_eq_true rfl) (Nat.zero_le _) (Nat.zero_le _) ?_
      rintro _ _ _ ⟨rfl, rfl, rfl⟩
      refine N.if_ne (tgt := 33) dX4_row_23 (by decide) (fun c23 => ?_) (fun c23 => ?_)
      · have hs := sh8 c4
        refine N.aload0 dX4_row_33 ?_
        refine N.getf dX4_row_34 flX4_34 yO rfl ?_
        refine N.iload1 dX4_row_37 ?_
        refine N.aald dX4_row_38 yH (sh8v c4) (xShv hs) ?_
        refine N.iload2 dX4_row_39 ?_
        refine N.iload3 dX4_row_40 ?_
        refine N.vv2 dX4_row_41 vX2_becomeRow lkX4_66 (Sp.shv hs fun W => s_X2_becomeRow W _ _ _ _ _) (yS hs) rfl (Nat.le_of_ble_eq_true rfl) (Nat.le_of_ble_eq_true rfl) (Nat.zero_le _) (Nat.zero_le _) ?_
        rintro _ _ ⟨rfl, rfl⟩
        refine N.iconst (v := 1) dX4_row_44 (by decide) ?_
        exact N.iret dX4_row_45 rfl (Nat.zero_le _) (Nat.zero_le _) ⟨_, rfl, (by rw [xrow, if_neg c4, if_neg c13, if_neg c23]; exact ⟨rfl, rfl, _, rfl, rel_xup⟩)⟩
      · refine N.aload0 dX4_row_26 ?_
        refine N.bipush (v := -2) dX4_row_27 (by decide) ?_
        refine N.vi1 dX4_row_29 vX4_refuse lkX4_62 (s_X4_refuse _ _ _ _ _ _ _) yO rfl (Nat.le_of_ble_eq_true rfl) (Nat.le_of_ble_eq_true rfl) (Nat.zero_le _) (Nat.zero_le _) ?_
        rintro _ _ _ ⟨rfl, rfl, rfl⟩
        exact N.iret dX4_row_32 rfl (Nat.zero_le _) (Nat.zero_le _) ⟨_, rfl, (by rw [xrow, if_neg c4, if_neg c13, if_pos c23]; exact rf_ok)⟩
def xset (x : XV) (s i : Int32) (y : Int64) : Int32 × XV := if isInF s 0 7 = 0 then rf x (-2) else if isRowF (x.2.2.1 s.toNatClampNeg) = 0 then rf x (whyF (x.2.2.1 s.toNatClampNeg)) else if isInF i 0 ((x.2.2.1 s.toNatClampNeg).2.2 - 1) = 0 then rf x (-2) else (1, setSh x s.toNatClampNeg (vp_updL (x.2.2.1 s.toNatClampNeg).1 i.toNatClampNeg (fitF (x.2.2.1 s.toNatClampNeg).2.1 y), (x.2.2.1 s.toNatClampNeg).2))
set_option maxRecDepth 100000 in
theorem s_X4_set {K : Kx} (w : Wd) (a sz : Nat) (x : XV) (s : Int32) (i : Int32) (y : Int64) (hX : okX x)  : Sp K mX4_set 9 0 0 [.ref a, .int s, .int i, .long y] (putX K w a x) sz (Qi fun r w' sz' => r = (xset x s i y).1 ∧ sz' = sz ∧ ∃ x', w' = putX K w a x' ∧ rel x' = rel (xset x s i y).2) := by
  refine Sp.ofN [some (.ref a), some (.int s), some (.int i), some (.long y), none, none] rfl rfl rfl (Nat.le_of_ble_eq_true rfl) ?_
  have h : okP (x.1 0) := hX.1
  refine N.eqW (congrArg (putX K w a) (xup_self x)) ?_
  generalize x.1 1 = u0
  generalize x.2.2.2.2.1 = p0
  refine N.iload1 dX4_set_0 ?_
  refine N.si1 dX4_set_1 vX4_isShelf lkX4_54 (s_X4_isShelf _ _ _) rfl (Nat.le_of_ble_eq_true rfl) (Nat.le_of_ble_eq_true rfl) (Nat.zero_le _) (Nat.zero_le _) ?_
  rintro _ _ _ ⟨rfl, rfl, rfl⟩
  refine N.if_ne (tgt := 14) dX4_set_4 (by decide) (fun c4 => ?_) (fun c4 => ?_)
  · have hs := sh8 c4
    refine N.aload0 dX4_set_14 ?_
    refine N.getf dX4_set_15 flX4_34 yO rfl ?_
    refine N.iload1 dX4_set_18 ?_
    refine N.aald dX4_set_19 yH (sh8v c4) (xShv hs) ?_
    refine N.astore5 dX4_set_20 rfl ?_
    refine N.aload5 dX4_set_22 ?_
    refine N.vi0 dX4_set_24 vX2_isRow lkX4_70 (Sp.shi hs fun W => s_X2_isRow W _ _ _) (yS hs) rfl (Nat.le_of_ble_eq_true rfl) (Nat.le_of_ble_eq_true rfl) (Nat.zero_le _) (Nat.zero_le _) ?_
    rintro _ _ _ ⟨rfl, rfl, rfl⟩
    refine N.if_ne (tgt := 40) dX4_set_27 (by decide) (fun c27 => ?_) (fun c27 => ?_)
    · refine N.iload2 dX4_set_40 ?_
      refine N.iconst (v := 0) dX4_set_41 (by decide) ?_
      refine N.aload5 dX4_set_42 ?_
      refine N.getf dX4_set_44 flX4_78 (yS hs) rfl ?_
      refine N.iconst (v := 1) dX4_set_47 (by decide) ?_
      refine N.isub dX4_set_48 ?_
      refine N.si3 dX4_set_49 vX4_isIn lkX4_58 (s_X4_isIn _ _ _ _ _) rfl (Nat.le_of_ble_eq_true rfl) (Nat.le_of_ble_eq_true rfl) (Nat.zero_le _) (Nat.zero_le _) ?_
      rintro _ _ _ ⟨rfl, rfl, rfl⟩
      refine N.if_ne (tgt := 62) dX4_set_52 (by decide) (fun c52 => ?_) (fun c52 => ?_)
      · refine N.aload5 dX4_set_62 ?_
        refine N.iload2 dX4_set_64 ?_
        refine N.lload3 dX4_set_65 ?_
        refine N.vv2 dX4_set_66 vX2_put lkX4_82 (Sp.shv hs fun W => s_X2_put W _ _ _ _ _ (sz_in (hX.2.2.1 _ hs) c52)) (yS hs) rfl (Nat.le_of_ble_eq_true rfl) (Nat.le_of_ble_eq_true rfl) (Nat.zero_le _) (Nat.zero_le _) ?_
        rintro _ _ ⟨rfl, rfl⟩
        refine N.iconst (v := 1) dX4_set_69 (by decide) ?_
        exact N.iret dX4_set_70 rfl (Nat.zero_le _) (Nat.zero_le _) ⟨_, rfl, (by rw [xset, if_neg c4, if_neg c27, if_neg c52]; exact ⟨rfl, rfl, _, rfl, rel_xup⟩)⟩
      · refine N.aload0 dX4_set_55 ?_
        refine N.bipush (v := -2) dX4_set_56 (by decide) ?_
        refine N.vi1 dX4_set_58 vX4_refuse lkX4_62 (s_X4_refuse _ _ _ _ _ _ _) yO rfl (Nat.le_of_ble_eq_true rfl) (Nat.le_of_ble_eq_true rfl) (Nat.zero_le _) (Nat.zero_le _) ?_
        rintro _ _ _ ⟨rfl, rfl, rfl⟩
        exact N.iret dX4_set_61 rfl (Nat.zero_le _) (Nat.zero_le _) ⟨_, rfl, (by rw [xset, if_neg c4, if_neg c27, if_pos c52]; exact rf_ok)⟩
    · refine N.aload0 dX4_set_30 ?_
      refine N.aload5 dX4_set_31 ?_
      refine N.vi0 dX4_set_33 vX2_whyNoRow lkX4_74 (Sp.shi hs fun W => s_X2_whyNoRow W _ _ _) (yS hs) rfl (Nat.le_of_ble_eq_true rfl) (Nat.le_of_ble_eq_true rfl) (Nat.zero_le _) (Nat.zero_le _) ?_
      rintro _ _ _ ⟨rfl, rfl, rfl⟩
      refine N.vi1 dX4_set_36 vX4_refuse lkX4_62 (s_X4_refuse _ _ _ _ _ _ _) yO rfl (Nat.le_of_ble_eq_true rfl) (Nat.le_of_ble_eq_true rfl) (Nat.zero_le _) (Nat.zero_le _) ?_
      rintro _ _ _ ⟨rfl, rfl, rfl⟩
      exact N.iret dX4_set_39 rfl (Nat.zero_le _) (Nat.zero_le _) ⟨_, rfl, (by rw [xset, if_neg c4, if_pos c27]; exact rf_ok)⟩
  · refine N.aload0 dX4_set_7 ?_
    refine N.bipush (v := -2) dX4_set_8 (by decide) ?_
    refine N.vi1 dX4_set_10 vX4_refuse lkX4_62 (s_X4_refuse _ _ _ _ _ _ _) yO rfl (Nat.le_of_ble_eq_true rfl) (Nat.le_of_ble_eq_true rfl) (Nat.zero_le _) (Nat.zero_le _) ?_
    rintro _ _ _ ⟨rfl, rfl, rfl⟩
    exact N.iret dX4_set_13 rfl (Nat.zero_le _) (Nat.zero_le _) ⟨_, rfl, (by rw [xset, if_pos c4]; exact rf_ok)⟩
def xelem (x : XV) (s i : Int32) : Int64 × XV := if isInF s 0 7 = 0 then (0, x) else if isRowF (x.2.2.1 s.toNatClampNeg) = 0 then (0, x) else if isInF i 0 ((x.2.2.1 s.toNatClampNeg).2.2 - 1) = 0 then (0, x) else ((x.2.2.1 s.toNatClampNeg).1 i.toNatClampNeg, x)
set_option maxRecDepth 100000 in
theorem s_X4_element {K : Kx} (w : Wd) (a sz : Nat) (x : XV) (s : Int32) (i : Int32) (hX : okX x)  : Sp K mX4_element 9 0 0 [.ref a, .int s, .int i] (putX K w a x) sz (Ql fun r w' sz' => r = (xelem x s i).1 ∧ sz' = sz ∧ ∃ x', w' = putX K w a x' ∧ rel x' = rel (xelem x s i).2) := by
  refine Sp.ofN [some (.ref a), some (.int s), some (.int i)] rfl rfl rfl (Nat.le_of_ble_eq_true rfl) ?_
  have h : okP (x.1 0) := hX.1
  refine N.eqW (congrArg (putX K w a) (xup_self x)) ?_
  generalize x.1 1 = u0
  generalize x.2.2.2.2.1 = p0
  refine N.iload1 dX4_element_0 ?_
  refine N.si1 dX4_element_1 vX4_isShelf lkX4_54 (s_X4_isShelf _ _ _) rfl (Nat.le_of_ble_eq_true rfl) (Nat.le_of_ble_eq_true rfl) (Nat.zero_le _) (Nat.zero_le _) ?_
  rintro _ _ _ ⟨rfl, rfl, rfl⟩
  refine N.if_eq (tgt := 38) dX4_element_4 (by decide) (fun c4 => ?_) (fun c4 => ?_)
  · refine N.lconst (v := 0) dX4_element_38 (by decide) ?_
    exact N.lret dX4_element_39 rfl (Nat.zero_le _) (Nat.zero_le _) ⟨_, rfl, (by rw [xelem, if_pos c4]; exact ⟨rfl, rfl, _, rfl, rel_xup⟩)⟩
  · have hs := sh8 c4
    refine N.aload0 dX4_element_7 ?_
    refine N.getf dX4_element_8 flX4_34 yO rfl ?_
    refine N.iload1 dX4_element_11 ?_
    refine N.aald dX4_element_12 yH (sh8v c4) (xShv hs) ?_
    refine N.vi0 dX4_element_13 vX2_isRow lkX4_70 (Sp.shi hs fun W => s_X2_isRow W _ _ _) (yS hs) rfl (Nat.le_of_ble_eq_true rfl) (Nat.le_of_ble_eq_true rfl) (Nat.zero_le _) (Nat.zero_le _) ?_
    rintro _ _ _ ⟨rfl, rfl, rfl⟩
    refine N.if_eq (tgt := 38) dX4_element_16 (by decide) (fun c16 => ?_) (fun c16 => ?_)
    · refine N.lconst (v := 0) dX4_element_38 (by decide) ?_
      exact N.lret dX4_element_39 rfl (Nat.zero_le _) (Nat.zero_le _) ⟨_, rfl, (by rw [xelem, if_neg c4, if_pos c16]; exact ⟨rfl, rfl, _, rfl, rel_xup⟩)⟩
    · refine N.iload2 dX4_element_19 ?_
      refine N.iconst (v := 0) dX4_element_20 (by decide) ?_
      refine N.aload0 dX4_element_21 ?_
      refine N.getf dX4_element_22 flX4_34 yO rfl ?_
      refine N.iload1 dX4_element_25 ?_
      refine N.aald dX4_element_26 yH (sh8v c4) (xShv hs) ?_
      refine N.getf dX4_element_27 flX4_78 (yS hs) rfl ?_
      refine N.iconst (v := 1) dX4_element_30 (by decide) ?_
      refine N.isub dX4_element_31 ?_
      refine N.si3 dX4_element_32 vX4_isIn lkX4_58 (s_X4_isIn _ _ _ _ _) rfl (Nat.le_of_ble_eq_true rfl) (Nat.le_of_ble_eq_true rfl) (Nat.zero_le _) (Nat.zero_le _) ?_
      rintro _ _ _ ⟨rfl, rfl, rfl⟩
      refine N.if_ne (tgt := 40) dX4_element_35 (by decide) (fun c35 => ?_) (fun c35 => ?_)
      · refine N.aload0 dX4_element_40 ?_
        refine N.getf dX4_element_41 flX4_34 yO rfl ?_
        refine N.iload1 dX4_element_44 ?_
        refine N.aald dX4_element_45 yH (sh8v c4) (xShv hs) ?_
        refine N.getf dX4_element_46 flX4_96 (yS hs) rfl ?_
        refine N.iload2 dX4_element_49 ?_
        refine N.lald dX4_element_50 (ySA hs) (sz_in (hX.2.2.1 _ hs) c35) ?_
        exact N.lret dX4_element_51 rfl (Nat.zero_le _) (Nat.zero_le _) ⟨_, rfl, (by rw [xelem, if_neg c4, if_neg c16, if_neg c35]; exact ⟨rfl, rfl, _, rfl, rel_xup⟩)⟩
      · refine N.lconst (v := 0) dX4_element_38 (by decide) ?_
        exact N.lret dX4_element_39 rfl (Nat.zero_le _) (Nat.zero_le _) ⟨_, rfl, (by rw [xelem, if_neg c4, if_neg c16, if_pos c35]; exact ⟨rfl, rfl, _, rfl, rel_xup⟩)⟩
def xholds (x : XV) (s : Int32) : Int32 × XV := if isInF s 0 7 = 0 then (-1, x) else ((x.2.2.1 s.toNatClampNeg).2.1, x)
set_option maxRecDepth 100000 in
theorem s_X4_holds {K : Kx} (w : Wd) (a sz : Nat) (x : XV) (s : Int32) (hX : okX x)  : Sp K mX4_holds 9 0 0 [.ref a, .int s] (putX K w a x) sz (Qi fun r w' sz' => r = (xholds x s).1 ∧ sz' = sz ∧ ∃ x', w' = putX K w a x' ∧ rel x' = rel (xholds x s).2) := by
  refine Sp.ofN [some (.ref a), some (.int s)] rfl rfl rfl (Nat.le_of_ble_eq_true rfl) ?_
  have h : okP (x.1 0) := hX.1
  refine N.eqW (congrArg (putX K w a) (xup_self x)) ?_
  generalize x.1 1 = u0
  generalize x.2.2.2.2.1 = p0
  refine N.iload1 dX4_holds_0 ?_
  refine N.si1 dX4_holds_1 vX4_isShelf lkX4_54 (s_X4_isShelf _ _ _) rfl (Nat.le_of_ble_eq_true rfl) (Nat.le_of_ble_eq_true rfl) (Nat.zero_le _) (Nat.zero_le _) ?_
  rintro _ _ _ ⟨rfl, rfl, rfl⟩
  refine N.if_eq (tgt := 19) dX4_holds_4 (by decide) (fun c4 => ?_) (fun c4 => ?_)
  · refine N.iconst (v := -1) dX4_holds_19 (by decide) ?_
    exact N.iret dX4_holds_20 rfl (Nat.zero_le _) (Nat.zero_le _) ⟨_, rfl, (by rw [xholds, if_pos c4]; exact ⟨rfl, rfl, _, rfl, rel_xup⟩)⟩
  · have hs := sh8 c4
    refine N.aload0 dX4_holds_7 ?_
    refine N.getf dX4_holds_8 flX4_34 yO rfl ?_
    refine N.iload1 dX4_holds_11 ?_
    refine N.aald dX4_holds_12 yH (sh8v c4) (xShv hs) ?_
    refine N.getf dX4_holds_13 flX4_86 (yS hs) rfl ?_
    refine N.goto (tgt := 20) dX4_holds_16 (by decide) ?_
    exact N.iret dX4_holds_20 rfl (Nat.zero_le _) (Nat.zero_le _) ⟨_, rfl, (by rw [xholds, if_neg c4]; exact ⟨rfl, rfl, _, rfl, rel_xup⟩)⟩
theorem yShP {K : Kx} {w : Wd} {a : Nat} {x : XV} {u : CV} {p : Int32 × Int32} {i : Nat} (hi : i < 8) {y : Int32} : upW (putU K w a x u p) (a + (30 + 2 * i)) (.inr (2, (sF (a + (30 + 2 * i)) (x.2.2.1 i)).set 1 (.int y))) = putU K w a (setSh x i ((x.2.2.1 i).1, y, (x.2.2.1 i).2.2)) u p := (congrArg (fun z => upW z (a + (30 + 2 * i)) _) (ySe hi)).trans (shP1.trans (ySs hi))
def shC (x : XV) (s y : Int32) : XV := setSh x s.toNatClampNeg ((x.2.2.1 s.toNatClampNeg).1, y, (x.2.2.1 s.toNatClampNeg).2.2)
def xshow (x : XV) (s q : Int32) : Int32 × XV := if isInF s 0 7 = 0 then rf x (-2) else if q = -1 then (1, shC x s (-1)) else if isPlF (x.1 0) q = 0 then rf x (-2) else (1, shC x s (10 + q))
set_option maxRecDepth 100000 in
theorem s_X4_show {K : Kx} (w : Wd) (a sz : Nat) (x : XV) (s : Int32) (q : Int32) (hX : okX x)  : Sp K mX4_show 9 0 0 [.ref a, .int s, .int q] (putX K w a x) sz (Qi fun r w' sz' => r = (xshow x s q).1 ∧ sz' = sz ∧ ∃ x', w' = putX K w a x' ∧ rel x' = rel (xshow x s q).2) := by
  refine Sp.ofN [some (.ref a), some (.int s), some (.int q)] rfl rfl rfl (Nat.le_of_ble_eq_true rfl) ?_
  have h : okP (x.1 0) := hX.1
  refine N.eqW (congrArg (putX K w a) (xup_self x)) ?_
  generalize x.1 1 = u0
  generalize x.2.2.2.2.1 = p0
  refine N.iload1 dX4_show_0 ?_
  refine N.si1 dX4_show_1 vX4_isShelf lkX4_54 (s_X4_isShelf _ _ _) rfl (Nat.le_of_ble_eq_true rfl) (Nat.le_of_ble_eq_true rfl) (Nat.zero_le _) (Nat.zero_le _) ?_
  rintro _ _ _ ⟨rfl, rfl, rfl⟩
  refine N.if_eq (tgt := 23) dX4_show_4 (by decide) (fun c4 => ?_) (fun c4 => ?_)
  · refine N.aload0 dX4_show_23 ?_
    refine N.bipush (v := -2) dX4_show_24 (by decide) ?_
    refine N.vi1 dX4_show_26 vX4_refuse lkX4_62 (s_X4_refuse _ _ _ _ _ _ _) yO rfl (Nat.le_of_ble_eq_true rfl) (Nat.le_of_ble_eq_true rfl) (Nat.zero_le _) (Nat.zero_le _) ?_
    rintro _ _ _ ⟨rfl, rfl, rfl⟩
    exact N.iret dX4_show_29 rfl (Nat.zero_le _) (Nat.zero_le _) ⟨_, rfl, (by rw [xshow, if_pos c4]; exact rf_ok)⟩
  · refine N.iload2 dX4_show_7 ?_
    refine N.iconst (v := -1) dX4_show_8 (by decide) ?_
    refine N.icmp_eq (tgt := 30) dX4_show_9 (by decide) (fun c9 => ?_) (fun c9 => ?_)
    · have hs := sh8 c4
      refine N.aload0 dX4_show_30 ?_
      refine N.getf dX4_show_31 flX4_34 yO rfl ?_
      refine N.iload1 dX4_show_34 ?_
      refine N.aald dX4_show_35 yH (sh8v c4) (xShv hs) ?_
      refine N.iload2 dX4_show_36 ?_
      refine N.iconst (v := -1) dX4_show_37 (by decide) ?_
      refine N.icmp_ne (tgt := 45) dX4_show_38 (by decide) (fun c38 => ?_) (fun c38 => ?_)
      · refine N.bipush (v := 10) dX4_show_45 (by decide) ?_
        refine N.iload2 dX4_show_47 ?_
        refine N.iadd dX4_show_48 ?_
        refine N.putf dX4_show_49 flX4_86 (yS hs) (Nat.le_of_ble_eq_true rfl) (fun _ h => by cases h; rfl) rfl rfl (yShP hs) ?_
        refine N.iconst (v := 1) dX4_show_52 (by decide) ?_
        exact N.iret dX4_show_53 rfl (Nat.zero_le _) (Nat.zero_le _) ⟨_, rfl, (by rw [xshow, if_neg c4, if_pos c9]; first | exact ⟨rfl, rfl, _, rfl, rel_xup⟩ | exact absurd c9 c38 | exact absurd c38 c9)⟩
      · refine N.iconst (v := -1) dX4_show_41 (by decide) ?_
        refine N.goto (tgt := 49) dX4_show_42 (by decide) ?_
        refine N.putf dX4_show_49 flX4_86 (yS hs) (Nat.le_of_ble_eq_true rfl) (fun _ h => by cases h; rfl) rfl rfl (yShP hs) ?_
        refine N.iconst (v := 1) dX4_show_52 (by decide) ?_
        exact N.iret dX4_show_53 rfl (Nat.zero_le _) (Nat.zero_le _) ⟨_, rfl, (by rw [xshow, if_neg c4, if_pos c9]; first | exact ⟨rfl, rfl, _, rfl, rel_xup⟩ | exact absurd c9 c38 | exact absurd c38 c9)⟩
    · refine N.aload0 dX4_show_12 ?_
      refine N.getf dX4_show_13 flX4_10 yO rfl ?_
      refine N.iload2 dX4_show_16 ?_
      refine N.vi1 dX4_show_17 vX1_isPlayer lkX4_106 (Sp.n0i fun W => s_X1_isPlayer W _ _ _ _) yO0 rfl (Nat.le_of_ble_eq_true rfl) (Nat.le_of_ble_eq_true rfl) (Nat.zero_le _) (Nat.zero_le _) ?_
      rintro _ _ _ ⟨rfl, rfl, rfl⟩
      refine N.if_ne (tgt := 30) dX4_show_20 (by decide) (fun c20 => ?_) (fun c20 => ?_)
      · have hs := sh8 c4
        refine N.aload0 dX4_show_30 ?_
        refine N.getf dX4_show_31 flX4_34 yO rfl ?_
        refine N.iload1 dX4_show_34 ?_
        refine N.aald dX4_show_35 yH (sh8v c4) (xShv hs) ?_
        refine N.iload2 dX4_show_36 ?_
        refine N.iconst (v := -1) dX4_show_37 (by decide) ?_
        refine N.icmp_ne (tgt := 45) dX4_show_38 (by decide) (fun c38 => ?_) (fun c38 => ?_)
        · refine N.bipush (v := 10) dX4_show_45 (by decide) ?_
          refine N.iload2 dX4_show_47 ?_
          refine N.iadd dX4_show_48 ?_
          refine N.putf dX4_show_49 flX4_86 (yS hs) (Nat.le_of_ble_eq_true rfl) (fun _ h => by cases h; rfl) rfl rfl (yShP hs) ?_
          refine N.iconst (v := 1) dX4_show_52 (by decide) ?_
          exact N.iret dX4_show_53 rfl (Nat.zero_le _) (Nat.zero_le _) ⟨_, rfl, (by rw [xshow, if_neg c4, if_neg c9, if_neg c20]; first | exact ⟨rfl, rfl, _, rfl, rel_xup⟩ | exact absurd c9 c38 | exact absurd c38 c9)⟩
        · refine N.iconst (v := -1) dX4_show_41 (by decide) ?_
          refine N.goto (tgt := 49) dX4_show_42 (by decide) ?_
          refine N.putf dX4_show_49 flX4_86 (yS hs) (Nat.le_of_ble_eq_true rfl) (fun _ h => by cases h; rfl) rfl rfl (yShP hs) ?_
          refine N.iconst (v := 1) dX4_show_52 (by decide) ?_
          exact N.iret dX4_show_53 rfl (Nat.zero_le _) (Nat.zero_le _) ⟨_, rfl, (by rw [xshow, if_neg c4, if_neg c9, if_neg c20]; first | exact ⟨rfl, rfl, _, rfl, rel_xup⟩ | exact absurd c9 c38 | exact absurd c38 c9)⟩
      · refine N.aload0 dX4_show_23 ?_
        refine N.bipush (v := -2) dX4_show_24 (by decide) ?_
        refine N.vi1 dX4_show_26 vX4_refuse lkX4_62 (s_X4_refuse _ _ _ _ _ _ _) yO rfl (Nat.le_of_ble_eq_true rfl) (Nat.le_of_ble_eq_true rfl) (Nat.zero_le _) (Nat.zero_le _) ?_
        rintro _ _ _ ⟨rfl, rfl, rfl⟩
        exact N.iret dX4_show_29 rfl (Nat.zero_le _) (Nat.zero_le _) ⟨_, rfl, (by rw [xshow, if_neg c4, if_neg c9, if_pos c20]; exact rf_ok)⟩
def xsays (x : XV) (s k : Int32) : Int32 × XV := if isInF s 0 7 = 0 then rf x (-2) else if isInF k 0 5 = 0 then rf x (-2) else if (x.2.2.1 s.toNatClampNeg).2.1 = -1 then rf x (-4) else if isPlF (x.1 0) ((x.2.2.1 s.toNatClampNeg).2.1 - 10) = 0 then rf x (-3) else if isUnderF ((x.1 0).2 0 ((x.2.2.1 s.toNatClampNeg).2.1 - 10).toNatClampNeg) k = 0 then rf x (-3) else (saidF (x.1 0) k ((x.2.2.1 s.toNatClampNeg).2.1 - 10), x)
set_option maxRecDepth 100000 in
theorem s_X4_says {K : Kx} (w : Wd) (a sz : Nat) (x : XV) (s : Int32) (k : Int32) (hX : okX x)  : Sp K mX4_says 9 0 0 [.ref a, .int s, .int k] (putX K w a x) sz (Qi fun r w' sz' => r = (xsays x s k).1 ∧ sz' = sz ∧ ∃ x', w' = putX K w a x' ∧ rel x' = rel (xsays x s k).2) := by
  refine Sp.ofN [some (.ref a), some (.int s), some (.int k), none, none] rfl rfl rfl (Nat.le_of_ble_eq_true rfl) ?_
  have h : okP (x.1 0) := hX.1
  refine N.eqW (congrArg (putX K w a) (xup_self x)) ?_
  generalize x.1 1 = u0
  generalize x.2.2.2.2.1 = p0
  refine N.iload1 dX4_says_0 ?_
  refine N.si1 dX4_says_1 vX4_isShelf lkX4_54 (s_X4_isShelf _ _ _) rfl (Nat.le_of_ble_eq_true rfl) (Nat.le_of_ble_eq_true rfl) (Nat.zero_le _) (Nat.zero_le _) ?_
  rintro _ _ _ ⟨rfl, rfl, rfl⟩
  refine N.if_eq (tgt := 16) dX4_says_4 (by decide) (fun c4 => ?_) (fun c4 => ?_)
  · refine N.aload0 dX4_says_16 ?_
    refine N.bipush (v := -2) dX4_says_17 (by decide) ?_
    refine N.vi1 dX4_says_19 vX4_refuse lkX4_62 (s_X4_refuse _ _ _ _ _ _ _) yO rfl (Nat.le_of_ble_eq_true rfl) (Nat.le_of_ble_eq_true rfl) (Nat.zero_le _) (Nat.zero_le _) ?_
    rintro _ _ _ ⟨rfl, rfl, rfl⟩
    exact N.iret dX4_says_22 rfl (Nat.zero_le _) (Nat.zero_le _) ⟨_, rfl, (by rw [xsays, if_pos c4]; exact rf_ok)⟩
  · refine N.iload2 dX4_says_7 ?_
    refine N.iconst (v := 0) dX4_says_8 (by decide) ?_
    refine N.iconst (v := 5) dX4_says_9 (by decide) ?_
    refine N.si3 dX4_says_10 vX4_isIn lkX4_58 (s_X4_isIn _ _ _ _ _) rfl (Nat.le_of_ble_eq_true rfl) (Nat.le_of_ble_eq_true rfl) (Nat.zero_le _) (Nat.zero_le _) ?_
    rintro _ _ _ ⟨rfl, rfl, rfl⟩
    refine N.if_ne (tgt := 23) dX4_says_13 (by decide) (fun c13 => ?_) (fun c13 => ?_)
    · have hs := sh8 c4
      refine N.aload0 dX4_says_23 ?_
      refine N.getf dX4_says_24 flX4_34 yO rfl ?_
      refine N.iload1 dX4_says_27 ?_
      refine N.aald dX4_says_28 yH (sh8v c4) (xShv hs) ?_
      refine N.astore3 dX4_says_29 rfl ?_
      refine N.aload3 dX4_says_30 ?_
      refine N.getf dX4_says_31 flX4_86 (yS hs) rfl ?_
      refine N.iconst (v := -1) dX4_says_34 (by decide) ?_
      refine N.icmp_ne (tgt := 45) dX4_says_35 (by decide) (fun c35 => ?_) (fun c35 => ?_)
      · refine N.aload3 dX4_says_45 ?_
        refine N.getf dX4_says_46 flX4_86 (yS hs) rfl ?_
        refine N.bipush (v := 10) dX4_says_49 (by decide) ?_
        refine N.isub dX4_says_51 ?_
        refine N.istore4 dX4_says_52 rfl ?_
        refine N.aload0 dX4_says_54 ?_
        refine N.getf dX4_says_55 flX4_10 yO rfl ?_
        refine N.iload4 dX4_says_58 ?_
        refine N.vi1 dX4_says_60 vX1_isPlayer lkX4_106 (Sp.n0i fun W => s_X1_isPlayer W _ _ _ _) yO0 rfl (Nat.le_of_ble_eq_true rfl) (Nat.le_of_ble_eq_true rfl) (Nat.zero_le _) (Nat.zero_le _) ?_
        rintro _ _ _ ⟨rfl, rfl, rfl⟩
        refine N.if_eq (tgt := 83) dX4_says_63 (by decide) (fun c63 => ?_) (fun c63 => ?_)
        · refine N.aload0 dX4_says_83 ?_
          refine N.bipush (v := -3) dX4_says_84 (by decide) ?_
          refine N.vi1 dX4_says_86 vX4_refuse lkX4_62 (s_X4_refuse _ _ _ _ _ _ _) yO rfl (Nat.le_of_ble_eq_true rfl) (Nat.le_of_ble_eq_true rfl) (Nat.zero_le _) (Nat.zero_le _) ?_
          rintro _ _ _ ⟨rfl, rfl, rfl⟩
          exact N.iret dX4_says_89 rfl (Nat.zero_le _) (Nat.zero_le _) ⟨_, rfl, (by rw [xsays, if_neg c4, if_neg c13, if_neg c35, if_pos c63]; exact rf_ok)⟩
        · have hp := pl_in h c63
          refine N.aload0 dX4_says_66 ?_
          refine N.getf dX4_says_67 flX4_10 yO rfl ?_
          refine N.getf dX4_says_70 flX4_108 yO0 rfl ?_
          refine N.iload4 dX4_says_73 ?_
          refine N.iald dX4_says_75 yA0_0 hp ?_
          refine N.iload2 dX4_says_76 ?_
          refine N.si2 dX4_says_77 vX4_isUnder lkX4_111 (s_X4_isUnder _ _ _ _) rfl (Nat.le_of_ble_eq_true rfl) (Nat.le_of_ble_eq_true rfl) (Nat.zero_le _) (Nat.zero_le _) ?_
          rintro _ _ _ ⟨rfl, rfl, rfl⟩
          refine N.if_ne (tgt := 90) dX4_says_80 (by decide) (fun c80 => ?_) (fun c80 => ?_)
          · refine N.aload0 dX4_says_90 ?_
            refine N.getf dX4_says_91 flX4_10 yO rfl ?_
            refine N.iload2 dX4_says_94 ?_
            refine N.iload4 dX4_says_95 ?_
            refine N.vi2 dX4_says_97 vX1_saidAs lkX4_114 (Sp.n0i fun W => s_X1_saidAs W _ _ _ _ _ hp) yO0 rfl (Nat.le_of_ble_eq_true rfl) (Nat.le_of_ble_eq_true rfl) (Nat.zero_le _) (Nat.zero_le _) ?_
            rintro _ _ _ ⟨rfl, rfl, rfl⟩
            exact N.iret dX4_says_100 rfl (Nat.zero_le _) (Nat.zero_le _) ⟨_, rfl, (by rw [xsays, if_neg c4, if_neg c13, if_neg c35, if_neg c63, if_neg c80]; exact ⟨rfl, rfl, _, rfl, rel_xup⟩)⟩
          · refine N.aload0 dX4_says_83 ?_
            refine N.bipush (v := -3) dX4_says_84 (by decide) ?_
            refine N.vi1 dX4_says_86 vX4_refuse lkX4_62 (s_X4_refuse _ _ _ _ _ _ _) yO rfl (Nat.le_of_ble_eq_true rfl) (Nat.le_of_ble_eq_true rfl) (Nat.zero_le _) (Nat.zero_le _) ?_
            rintro _ _ _ ⟨rfl, rfl, rfl⟩
            exact N.iret dX4_says_89 rfl (Nat.zero_le _) (Nat.zero_le _) ⟨_, rfl, (by rw [xsays, if_neg c4, if_neg c13, if_neg c35, if_neg c63, if_pos c80]; exact rf_ok)⟩
      · refine N.aload0 dX4_says_38 ?_
        refine N.bipush (v := -4) dX4_says_39 (by decide) ?_
        refine N.vi1 dX4_says_41 vX4_refuse lkX4_62 (s_X4_refuse _ _ _ _ _ _ _) yO rfl (Nat.le_of_ble_eq_true rfl) (Nat.le_of_ble_eq_true rfl) (Nat.zero_le _) (Nat.zero_le _) ?_
        rintro _ _ _ ⟨rfl, rfl, rfl⟩
        exact N.iret dX4_says_44 rfl (Nat.zero_le _) (Nat.zero_le _) ⟨_, rfl, (by rw [xsays, if_neg c4, if_neg c13, if_pos c35]; exact rf_ok)⟩
    · refine N.aload0 dX4_says_16 ?_
      refine N.bipush (v := -2) dX4_says_17 (by decide) ?_
      refine N.vi1 dX4_says_19 vX4_refuse lkX4_62 (s_X4_refuse _ _ _ _ _ _ _) yO rfl (Nat.le_of_ble_eq_true rfl) (Nat.le_of_ble_eq_true rfl) (Nat.zero_le _) (Nat.zero_le _) ?_
      rintro _ _ _ ⟨rfl, rfl, rfl⟩
      exact N.iret dX4_says_22 rfl (Nat.zero_le _) (Nat.zero_le _) ⟨_, rfl, (by rw [xsays, if_neg c4, if_pos c13]; exact rf_ok)⟩
def xplayer (x : XV) (k s e : Int32) : Int32 × XV := if isInF k 0 5 = 0 then rf x (-2) else if isInF s 1 99 = 0 then rf x (-2) else if isInF e 0 9 = 0 then rf x (-2) else if hasRoomF (x.1 0) = 0 then rf x (-6) else ((x.1 0).1 0, setR x 0 (addV (x.1 0) k s e))
set_option maxRecDepth 100000 in
theorem s_X4_player {K : Kx} (w : Wd) (a sz : Nat) (x : XV) (k : Int32) (s : Int32) (e : Int32) (hX : okX x)  : Sp K mX4_player 9 0 0 [.ref a, .int k, .int s, .int e] (putX K w a x) sz (Qi fun r w' sz' => r = (xplayer x k s e).1 ∧ sz' = sz ∧ ∃ x', w' = putX K w a x' ∧ rel x' = rel (xplayer x k s e).2) := by
  refine Sp.ofN [some (.ref a), some (.int k), some (.int s), some (.int e), none] rfl rfl rfl (Nat.le_of_ble_eq_true rfl) ?_
  have h : okP (x.1 0) := hX.1
  refine N.eqW (congrArg (putX K w a) (xup_self x)) ?_
  generalize x.1 1 = u0
  generalize x.2.2.2.2.1 = p0
  refine N.iload1 dX4_player_0 ?_
  refine N.iconst (v := 0) dX4_player_1 (by decide) ?_
  refine N.iconst (v := 5) dX4_player_2 (by decide) ?_
  refine N.si3 dX4_player_3 vX4_isIn lkX4_58 (s_X4_isIn _ _ _ _ _) rfl (Nat.le_of_ble_eq_true rfl) (Nat.le_of_ble_eq_true rfl) (Nat.zero_le _) (Nat.zero_le _) ?_
  rintro _ _ _ ⟨rfl, rfl, rfl⟩
  refine N.if_eq (tgt := 33) dX4_player_6 (by decide) (fun c6 => ?_) (fun c6 => ?_)
  · refine N.iconst (v := 0) dX4_player_33 (by decide) ?_
    refine N.istore4 dX4_player_34 rfl ?_
    refine N.iload4 dX4_player_36 ?_
    refine N.if_ne (tgt := 48) dX4_player_38 (by decide) (fun c38 => absurd (by decide) c38) (fun c38 => ?_)
    refine N.aload0 dX4_player_41 ?_
    refine N.bipush (v := -2) dX4_player_42 (by decide) ?_
    refine N.vi1 dX4_player_44 vX4_refuse lkX4_62 (s_X4_refuse _ _ _ _ _ _ _) yO rfl (Nat.le_of_ble_eq_true rfl) (Nat.le_of_ble_eq_true rfl) (Nat.zero_le _) (Nat.zero_le _) ?_
    rintro _ _ _ ⟨rfl, rfl, rfl⟩
    exact N.iret dX4_player_47 rfl (Nat.zero_le _) (Nat.zero_le _) ⟨_, rfl, (by rw [xplayer, if_pos c6]; exact rf_ok)⟩
  · refine N.iload2 dX4_player_9 ?_
    refine N.iconst (v := 1) dX4_player_10 (by decide) ?_
    refine N.bipush (v := 99) dX4_player_11 (by decide) ?_
    refine N.si3 dX4_player_13 vX4_isIn lkX4_58 (s_X4_isIn _ _ _ _ _) rfl (Nat.le_of_ble_eq_true rfl) (Nat.le_of_ble_eq_true rfl) (Nat.zero_le _) (Nat.zero_le _) ?_
    rintro _ _ _ ⟨rfl, rfl, rfl⟩
    refine N.if_eq (tgt := 33) dX4_player_16 (by decide) (fun c16 => ?_) (fun c16 => ?_)
    · refine N.iconst (v := 0) dX4_player_33 (by decide) ?_
      refine N.istore4 dX4_player_34 rfl ?_
      refine N.iload4 dX4_player_36 ?_
      refine N.if_ne (tgt := 48) dX4_player_38 (by decide) (fun c38 => absurd (by decide) c38) (fun c38 => ?_)
      refine N.aload0 dX4_player_41 ?_
      refine N.bipush (v := -2) dX4_player_42 (by decide) ?_
      refine N.vi1 dX4_player_44 vX4_refuse lkX4_62 (s_X4_refuse _ _ _ _ _ _ _) yO rfl (Nat.le_of_ble_eq_true rfl) (Nat.le_of_ble_eq_true rfl) (Nat.zero_le _) (Nat.zero_le _) ?_
      rintro _ _ _ ⟨rfl, rfl, rfl⟩
      exact N.iret dX4_player_47 rfl (Nat.zero_le _) (Nat.zero_le _) ⟨_, rfl, (by rw [xplayer, if_neg c6, if_pos c16]; exact rf_ok)⟩
    · refine N.iload3 dX4_player_19 ?_
      refine N.iconst (v := 0) dX4_player_20 (by decide) ?_
      refine N.bipush (v := 9) dX4_player_21 (by decide) ?_
      refine N.si3 dX4_player_23 vX4_isIn lkX4_58 (s_X4_isIn _ _ _ _ _) rfl (Nat.le_of_ble_eq_true rfl) (Nat.le_of_ble_eq_true rfl) (Nat.zero_le _) (Nat.zero_le _) ?_
      rintro _ _ _ ⟨rfl, rfl, rfl⟩
      refine N.if_eq (tgt := 33) dX4_player_26 (by decide) (fun c26 => ?_) (fun c26 => ?_)
      · refine N.iconst (v := 0) dX4_player_33 (by decide) ?_
        refine N.istore4 dX4_player_34 rfl ?_
        refine N.iload4 dX4_player_36 ?_
        refine N.if_ne (tgt := 48) dX4_player_38 (by decide) (fun c38 => absurd (by decide) c38) (fun c38 => ?_)
        refine N.aload0 dX4_player_41 ?_
        refine N.bipush (v := -2) dX4_player_42 (by decide) ?_
        refine N.vi1 dX4_player_44 vX4_refuse lkX4_62 (s_X4_refuse _ _ _ _ _ _ _) yO rfl (Nat.le_of_ble_eq_true rfl) (Nat.le_of_ble_eq_true rfl) (Nat.zero_le _) (Nat.zero_le _) ?_
        rintro _ _ _ ⟨rfl, rfl, rfl⟩
        exact N.iret dX4_player_47 rfl (Nat.zero_le _) (Nat.zero_le _) ⟨_, rfl, (by rw [xplayer, if_neg c6, if_neg c16, if_pos c26]; exact rf_ok)⟩
      · refine N.iconst (v := 1) dX4_player_29 (by decide) ?_
        refine N.goto (tgt := 34) dX4_player_30 (by decide) ?_
        refine N.istore4 dX4_player_34 rfl ?_
        refine N.iload4 dX4_player_36 ?_
        refine N.if_ne (tgt := 48) dX4_player_38 (by decide) (fun c38 => ?_) (fun c38 => absurd c38 (by decide))
        refine N.aload0 dX4_player_48 ?_
        refine N.getf dX4_player_49 flX4_10 yO rfl ?_
        refine N.vi0 dX4_player_52 vX1_hasRoom lkX4_118 (Sp.n0i fun W => s_X1_hasRoom W _ _ _) yO0 rfl (Nat.le_of_ble_eq_true rfl) (Nat.le_of_ble_eq_true rfl) (Nat.zero_le _) (Nat.zero_le _) ?_
        rintro _ _ _ ⟨rfl, rfl, rfl⟩
        refine N.if_ne (tgt := 65) dX4_player_55 (by decide) (fun c55 => ?_) (fun c55 => ?_)
        · refine N.aload0 dX4_player_65 ?_
          refine N.getf dX4_player_66 flX4_10 yO rfl ?_
          refine N.iload1 dX4_player_69 ?_
          refine N.iload2 dX4_player_70 ?_
          refine N.iload3 dX4_player_71 ?_
          refine N.vi3 dX4_player_72 vX1_addPlayer lkX4_121 (Sp.n0c fun W => s_X1_addPlayer W _ _ _ _ _ _ h) yO0 rfl (Nat.le_of_ble_eq_true rfl) (Nat.le_of_ble_eq_true rfl) (Nat.zero_le _) (Nat.zero_le _) ?_
          rintro _ _ _ ⟨rfl, rfl, rfl⟩
          rw [if_neg c55, if_neg c55]
          exact N.iret dX4_player_75 rfl (Nat.zero_le _) (Nat.zero_le _) ⟨_, rfl, (by rw [xplayer, if_neg c6, if_neg c16, if_neg c26, if_neg c55]; exact ⟨rfl, rfl, _, rfl, rel_xup⟩)⟩
        · refine N.aload0 dX4_player_58 ?_
          refine N.bipush (v := -6) dX4_player_59 (by decide) ?_
          refine N.vi1 dX4_player_61 vX4_refuse lkX4_62 (s_X4_refuse _ _ _ _ _ _ _) yO rfl (Nat.le_of_ble_eq_true rfl) (Nat.le_of_ble_eq_true rfl) (Nat.zero_le _) (Nat.zero_le _) ?_
          rintro _ _ _ ⟨rfl, rfl, rfl⟩
          exact N.iret dX4_player_64 rfl (Nat.zero_le _) (Nat.zero_le _) ⟨_, rfl, (by rw [xplayer, if_neg c6, if_neg c16, if_neg c26, if_pos c55]; exact rf_ok)⟩
def tellB (x : XV) (q t y : Int32) : Int32 × XV := if t = 1 then (if isInF y 0 100 = 0 then rf x (-2) else ((x.1 0).2 3 q.toNatClampNeg, setR x 0 ((x.1 0).1, upA (x.1 0).2 3 (upd ((x.1 0).2 3) q.toNatClampNeg y)))) else rf x (-2)
def xtell (x : XV) (q t y : Int32) : Int32 × XV := if isPlF (x.1 0) q = 0 then rf x (-2) else if t = 0 then (if isInF y 1 99 = 0 then tellB x q t y else ((x.1 0).2 1 q.toNatClampNeg, setR x 0 ((x.1 0).1, upA (x.1 0).2 1 (upd ((x.1 0).2 1) q.toNatClampNeg y)))) else tellB x q t y
set_option maxRecDepth 100000 in
theorem s_X4_tell {K : Kx} (w : Wd) (a sz : Nat) (x : XV) (q : Int32) (t : Int32) (y : Int32) (hX : okX x)  : Sp K mX4_tell 9 0 0 [.ref a, .int q, .int t, .int y] (putX K w a x) sz (Qi fun r w' sz' => r = (xtell x q t y).1 ∧ sz' = sz ∧ ∃ x', w' = putX K w a x' ∧ rel x' = rel (xtell x q t y).2) := by
  refine Sp.ofN [some (.ref a), some (.int q), some (.int t), some (.int y), none] rfl rfl rfl (Nat.le_of_ble_eq_true rfl) ?_
  have h : okP (x.1 0) := hX.1
  refine N.eqW (congrArg (putX K w a) (xup_self x)) ?_
  generalize x.1 1 = u0
  generalize x.2.2.2.2.1 = p0
  refine N.aload0 dX4_tell_0 ?_
  refine N.getf dX4_tell_1 flX4_10 yO rfl ?_
  refine N.iload1 dX4_tell_4 ?_
  refine N.vi1 dX4_tell_5 vX1_isPlayer lkX4_106 (Sp.n0i fun W => s_X1_isPlayer W _ _ _ _) yO0 rfl (Nat.le_of_ble_eq_true rfl) (Nat.le_of_ble_eq_true rfl) (Nat.zero_le _) (Nat.zero_le _) ?_
  rintro _ _ _ ⟨rfl, rfl, rfl⟩
  refine N.if_ne (tgt := 18) dX4_tell_8 (by decide) (fun c8 => ?_) (fun c8 => ?_)
  · have hp := pl_in h c8
    refine N.iload2 dX4_tell_18 ?_
    refine N.if_ne (tgt := 56) dX4_tell_19 (by decide) (fun c19 => ?_) (fun c19 => ?_)
    · refine N.iload2 dX4_tell_56 ?_
      refine N.iconst (v := 1) dX4_tell_57 (by decide) ?_
      refine N.icmp_ne (tgt := 95) dX4_tell_58 (by decide) (fun c58 => ?_) (fun c58 => ?_)
      · refine N.aload0 dX4_tell_95 ?_
        refine N.bipush (v := -2) dX4_tell_96 (by decide) ?_
        refine N.vi1 dX4_tell_98 vX4_refuse lkX4_62 (s_X4_refuse _ _ _ _ _ _ _) yO rfl (Nat.le_of_ble_eq_true rfl) (Nat.le_of_ble_eq_true rfl) (Nat.zero_le _) (Nat.zero_le _) ?_
        rintro _ _ _ ⟨rfl, rfl, rfl⟩
        exact N.iret dX4_tell_101 rfl (Nat.zero_le _) (Nat.zero_le _) ⟨_, rfl, (by rw [xtell, if_neg c8, if_neg c19, tellB, if_neg c58]; exact rf_ok)⟩
      · refine N.iload3 dX4_tell_61 ?_
        refine N.iconst (v := 0) dX4_tell_62 (by decide) ?_
        refine N.bipush (v := 100) dX4_tell_63 (by decide) ?_
        refine N.si3 dX4_tell_65 vX4_isIn lkX4_58 (s_X4_isIn _ _ _ _ _) rfl (Nat.le_of_ble_eq_true rfl) (Nat.le_of_ble_eq_true rfl) (Nat.zero_le _) (Nat.zero_le _) ?_
        rintro _ _ _ ⟨rfl, rfl, rfl⟩
        refine N.if_eq (tgt := 95) dX4_tell_68 (by decide) (fun c68 => ?_) (fun c68 => ?_)
        · refine N.aload0 dX4_tell_95 ?_
          refine N.bipush (v := -2) dX4_tell_96 (by decide) ?_
          refine N.vi1 dX4_tell_98 vX4_refuse lkX4_62 (s_X4_refuse _ _ _ _ _ _ _) yO rfl (Nat.le_of_ble_eq_true rfl) (Nat.le_of_ble_eq_true rfl) (Nat.zero_le _) (Nat.zero_le _) ?_
          rintro _ _ _ ⟨rfl, rfl, rfl⟩
          exact N.iret dX4_tell_101 rfl (Nat.zero_le _) (Nat.zero_le _) ⟨_, rfl, (by rw [xtell, if_neg c8, if_neg c19, tellB, if_pos c58, if_pos c68]; exact rf_ok)⟩
        · refine N.aload0 dX4_tell_71 ?_
          refine N.getf dX4_tell_72 flX4_10 yO rfl ?_
          refine N.getf dX4_tell_75 flX4_128 yO0 rfl ?_
          refine N.iload1 dX4_tell_78 ?_
          refine N.iald dX4_tell_79 yA0_3 hp ?_
          refine N.istore4 dX4_tell_80 rfl ?_
          refine N.aload0 dX4_tell_82 ?_
          refine N.getf dX4_tell_83 flX4_10 yO rfl ?_
          refine N.getf dX4_tell_86 flX4_128 yO0 rfl ?_
          refine N.iload1 dX4_tell_89 ?_
          refine N.iload3 dX4_tell_90 ?_
          refine N.iast dX4_tell_91 yA0_3 hp yS0_3 ?_
          refine N.iload4 dX4_tell_92 ?_
          exact N.iret dX4_tell_94 rfl (Nat.zero_le _) (Nat.zero_le _) ⟨_, rfl, (by rw [xtell, if_neg c8, if_neg c19, tellB, if_pos c58, if_neg c68]; exact ⟨rfl, rfl, _, rfl, rel_xup⟩)⟩
    · refine N.iload3 dX4_tell_22 ?_
      refine N.iconst (v := 1) dX4_tell_23 (by decide) ?_
      refine N.bipush (v := 99) dX4_tell_24 (by decide) ?_
      refine N.si3 dX4_tell_26 vX4_isIn lkX4_58 (s_X4_isIn _ _ _ _ _) rfl (Nat.le_of_ble_eq_true rfl) (Nat.le_of_ble_eq_true rfl) (Nat.zero_le _) (Nat.zero_le _) ?_
      rintro _ _ _ ⟨rfl, rfl, rfl⟩
      refine N.if_eq (tgt := 56) dX4_tell_29 (by decide) (fun c29 => ?_) (fun c29 => ?_)
      · refine N.iload2 dX4_tell_56 ?_
        refine N.iconst (v := 1) dX4_tell_57 (by decide) ?_
        refine N.icmp_ne (tgt := 95) dX4_tell_58 (by decide) (fun c58 => ?_) (fun c58 => ?_)
        · refine N.aload0 dX4_tell_95 ?_
          refine N.bipush (v := -2) dX4_tell_96 (by decide) ?_
          refine N.vi1 dX4_tell_98 vX4_refuse lkX4_62 (s_X4_refuse _ _ _ _ _ _ _) yO rfl (Nat.le_of_ble_eq_true rfl) (Nat.le_of_ble_eq_true rfl) (Nat.zero_le _) (Nat.zero_le _) ?_
          rintro _ _ _ ⟨rfl, rfl, rfl⟩
          exact N.iret dX4_tell_101 rfl (Nat.zero_le _) (Nat.zero_le _) ⟨_, rfl, (by rw [xtell, if_neg c8, if_pos c19, if_pos c29, tellB, if_neg c58]; exact rf_ok)⟩
        · refine N.iload3 dX4_tell_61 ?_
          refine N.iconst (v := 0) dX4_tell_62 (by decide) ?_
          refine N.bipush (v := 100) dX4_tell_63 (by decide) ?_
          refine N.si3 dX4_tell_65 vX4_isIn lkX4_58 (s_X4_isIn _ _ _ _ _) rfl (Nat.le_of_ble_eq_true rfl) (Nat.le_of_ble_eq_true rfl) (Nat.zero_le _) (Nat.zero_le _) ?_
          rintro _ _ _ ⟨rfl, rfl, rfl⟩
          refine N.if_eq (tgt := 95) dX4_tell_68 (by decide) (fun c68 => ?_) (fun c68 => ?_)
          · refine N.aload0 dX4_tell_95 ?_
            refine N.bipush (v := -2) dX4_tell_96 (by decide) ?_
            refine N.vi1 dX4_tell_98 vX4_refuse lkX4_62 (s_X4_refuse _ _ _ _ _ _ _) yO rfl (Nat.le_of_ble_eq_true rfl) (Nat.le_of_ble_eq_true rfl) (Nat.zero_le _) (Nat.zero_le _) ?_
            rintro _ _ _ ⟨rfl, rfl, rfl⟩
            exact N.iret dX4_tell_101 rfl (Nat.zero_le _) (Nat.zero_le _) ⟨_, rfl, (by rw [xtell, if_neg c8, if_pos c19, if_pos c29, tellB, if_pos c58, if_pos c68]; exact rf_ok)⟩
          · refine N.aload0 dX4_tell_71 ?_
            refine N.getf dX4_tell_72 flX4_10 yO rfl ?_
            refine N.getf dX4_tell_75 flX4_128 yO0 rfl ?_
            refine N.iload1 dX4_tell_78 ?_
            refine N.iald dX4_tell_79 yA0_3 hp ?_
            refine N.istore4 dX4_tell_80 rfl ?_
            refine N.aload0 dX4_tell_82 ?_
            refine N.getf dX4_tell_83 flX4_10 yO rfl ?_
            refine N.getf dX4_tell_86 flX4_128 yO0 rfl ?_
            refine N.iload1 dX4_tell_89 ?_
            refine N.iload3 dX4_tell_90 ?_
            refine N.iast dX4_tell_91 yA0_3 hp yS0_3 ?_
            refine N.iload4 dX4_tell_92 ?_
            exact N.iret dX4_tell_94 rfl (Nat.zero_le _) (Nat.zero_le _) ⟨_, rfl, (by rw [xtell, if_neg c8, if_pos c19, if_pos c29, tellB, if_pos c58, if_neg c68]; exact ⟨rfl, rfl, _, rfl, rel_xup⟩)⟩
      · refine N.aload0 dX4_tell_32 ?_
        refine N.getf dX4_tell_33 flX4_10 yO rfl ?_
        refine N.getf dX4_tell_36 flX4_125 yO0 rfl ?_
        refine N.iload1 dX4_tell_39 ?_
        refine N.iald dX4_tell_40 yA0_1 hp ?_
        refine N.istore4 dX4_tell_41 rfl ?_
        refine N.aload0 dX4_tell_43 ?_
        refine N.getf dX4_tell_44 flX4_10 yO rfl ?_
        refine N.getf dX4_tell_47 flX4_125 yO0 rfl ?_
        refine N.iload1 dX4_tell_50 ?_
        refine N.iload3 dX4_tell_51 ?_
        refine N.iast dX4_tell_52 yA0_1 hp yS0_1 ?_
        refine N.iload4 dX4_tell_53 ?_
        exact N.iret dX4_tell_55 rfl (Nat.zero_le _) (Nat.zero_le _) ⟨_, rfl, (by rw [xtell, if_neg c8, if_pos c19, if_neg c29]; exact ⟨rfl, rfl, _, rfl, rel_xup⟩)⟩
  · refine N.aload0 dX4_tell_11 ?_
    refine N.bipush (v := -2) dX4_tell_12 (by decide) ?_
    refine N.vi1 dX4_tell_14 vX4_refuse lkX4_62 (s_X4_refuse _ _ _ _ _ _ _) yO rfl (Nat.le_of_ble_eq_true rfl) (Nat.le_of_ble_eq_true rfl) (Nat.zero_le _) (Nat.zero_le _) ?_
    rintro _ _ _ ⟨rfl, rfl, rfl⟩
    exact N.iret dX4_tell_17 rfl (Nat.zero_le _) (Nat.zero_le _) ⟨_, rfl, (by rw [xtell, if_pos c8]; exact rf_ok)⟩
