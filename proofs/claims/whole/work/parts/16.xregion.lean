set_option maxRecDepth 100000 in
theorem l_X2_areAllIn {K : Kx} (w : Wd) (b sz : Nat) (v : SV) (n : Int32) (lo hi : Int64) (m : Nat) (hm : m ≤ 40) (hn : n = nI m) (R : Int32) : ∀ nn k, k + nn = m → allF v.1 lo hi k nn = R → N K mX2_areAllIn 0 0 0 (Qi fun r w' sz' => r = R ∧ w' = putS K w b v ∧ sz' = sz) 3 [some (.ref b), some (.int n), some (.long lo), none, some (.long hi), none, some (.int (nI k))] [] (putS K w b v) sz 0 0 := by
  intro nn
  induction nn with
  | zero =>
    intro k hk hR
    obtain rfl : k = m := by omega
    refine N.iload6 dX2_areAllIn_3 ?_
    refine N.iload1 dX2_areAllIn_5 ?_
    refine N.icmp_ge (tgt := 42) dX2_areAllIn_6 (by decide) (fun c6 => ?_) (fun c6 => absurd (pl_ge hn (by omega) (by omega)) c6)
    refine N.iconst (v := 1) dX2_areAllIn_42 (by decide) ?_
    exact N.zret dX2_areAllIn_43 rfl rfl (Nat.zero_le _) (Nat.zero_le _) ⟨_, rfl, ⟨hR, rfl, rfl⟩⟩
  | succ nn ih =>
    intro k hk hR
    refine N.iload6 dX2_areAllIn_3 ?_
    refine N.iload1 dX2_areAllIn_5 ?_
    refine N.icmp_ge (tgt := 42) dX2_areAllIn_6 (by decide) (fun c6 => absurd c6 (by rw [hn]; exact nI_ge (by omega) (by omega))) (fun c6 => ?_)
    refine N.aload0 dX2_areAllIn_9 ?_
    refine N.getf dX2_areAllIn_10 flX2_9 shO rfl ?_
    refine N.iload6 dX2_areAllIn_13 ?_
    refine N.lald dX2_areAllIn_15 shA (vp_in_nI (by omega) (by omega)) ?_
    refine N.lload2 dX2_areAllIn_16 ?_
    refine N.lcmp dX2_areAllIn_17 ?_
    refine N.if_lt (tgt := 34) dX2_areAllIn_18 (by decide) (fun c18 => ?_) (fun c18 => ?_)
    · refine N.iconst (v := 0) dX2_areAllIn_34 (by decide) ?_
      exact N.zret dX2_areAllIn_35 rfl rfl (Nat.zero_le _) (Nat.zero_le _) ⟨_, rfl, ⟨by rw [← hR, allF, if_pos c18], rfl, rfl⟩⟩
    · refine N.aload0 dX2_areAllIn_21 ?_
      refine N.getf dX2_areAllIn_22 flX2_9 shO rfl ?_
      refine N.iload6 dX2_areAllIn_25 ?_
      refine N.lald dX2_areAllIn_27 shA (vp_in_nI (by omega) (by omega)) ?_
      refine N.lload4 dX2_areAllIn_28 ?_
      refine N.lcmp dX2_areAllIn_30 ?_
      refine N.if_le (tgt := 36) dX2_areAllIn_31 (by decide) (fun c31 => ?_) (fun c31 => ?_)
      · refine N.iinc6 dX2_areAllIn_36 rfl (nI_inc k) ?_
        refine N.goto (tgt := 3) dX2_areAllIn_39 (by decide) ?_
        exact ih (k + 1) (by omega) (by rw [← hR, allF, if_neg c18, if_pos c31])
      · refine N.iconst (v := 0) dX2_areAllIn_34 (by decide) ?_
        exact N.zret dX2_areAllIn_35 rfl rfl (Nat.zero_le _) (Nat.zero_le _) ⟨_, rfl, ⟨by rw [← hR, allF, if_neg c18, if_neg c31], rfl, rfl⟩⟩
set_option maxRecDepth 100000 in
theorem s_X2_areAllIn {K : Kx} (w : Wd) (b sz : Nat) (v : SV) (n : Int32) (lo hi : Int64) (m : Nat) (hm : m ≤ 40) (hn : n = nI m) : Sp K mX2_areAllIn 0 0 0 [.ref b, .int n, .long lo, .long hi] (putS K w b v) sz (Qi fun r w' sz' => r = (allF v.1 lo hi 0 m) ∧ w' = putS K w b v ∧ sz' = sz) := by
  refine Sp.ofN [some (.ref b), some (.int n), some (.long lo), none, some (.long hi), none, none] rfl rfl rfl (Nat.le_of_ble_eq_true rfl) ?_
  refine N.iconst (v := 0) dX2_areAllIn_0 (by decide) ?_
  refine N.istore6 dX2_areAllIn_1 rfl ?_
  exact l_X2_areAllIn w b sz v n lo hi m hm hn _ m 0 (by omega) rfl
set_option maxRecDepth 100000 in
theorem l_X2_greatestOf {K : Kx} (w : Wd) (b sz : Nat) (v : SV) (n : Int32) (m : Nat) (hm : m ≤ 40) (hn : n = nI m) : ∀ nn k, k + nn = m → N K mX2_greatestOf 1 0 0 (Qi fun r w' sz' => r = ((grF v.1 m).toInt32) ∧ w' = putS K w b v ∧ sz' = sz) 5 [some (.ref b), some (.int n), some (.long (grF v.1 k)), none, some (.int (nI k))] [] (putS K w b v) sz 0 0 := by
  intro nn
  induction nn with
  | zero =>
    intro k hk
    obtain rfl : k = m := by omega
    refine N.iload4 dX2_greatestOf_5 ?_
    refine N.iload1 dX2_greatestOf_7 ?_
    refine N.icmp_ge (tgt := 29) dX2_greatestOf_8 (by decide) (fun c8 => ?_) (fun c8 => absurd (pl_ge hn (by omega) (by omega)) c8)
    refine N.lload2 dX2_greatestOf_29 ?_
    refine N.l2i dX2_greatestOf_30 ?_
    exact N.iret dX2_greatestOf_31 rfl (Nat.zero_le _) (Nat.zero_le _) ⟨_, rfl, ⟨rfl, rfl, rfl⟩⟩
  | succ nn ih =>
    intro k hk
    refine N.iload4 dX2_greatestOf_5 ?_
    refine N.iload1 dX2_greatestOf_7 ?_
    refine N.icmp_ge (tgt := 29) dX2_greatestOf_8 (by decide) (fun c8 => absurd c8 (by rw [hn]; exact nI_ge (by omega) (by omega))) (fun c8 => ?_)
    refine N.lload2 dX2_greatestOf_11 ?_
    refine N.aload0 dX2_greatestOf_12 ?_
    refine N.getf dX2_greatestOf_13 flX2_9 shO rfl ?_
    refine N.iload4 dX2_greatestOf_16 ?_
    refine N.lald dX2_greatestOf_18 shA (vp_in_nI (by omega) (by omega)) ?_
    refine N.mmaxL dX2_greatestOf_19 mkX2_36 (Nat.le_of_ble_eq_true rfl) (Nat.le_of_ble_eq_true rfl) (Nat.zero_le _) (Nat.zero_le _) ?_
    refine N.lstore2 dX2_greatestOf_22 rfl ?_
    refine N.iinc4 dX2_greatestOf_23 rfl (nI_inc k) ?_
    refine N.goto (tgt := 5) dX2_greatestOf_26 (by decide) ?_
    exact ih (k + 1) (by omega)
set_option maxRecDepth 100000 in
theorem s_X2_greatestOf {K : Kx} (w : Wd) (b sz : Nat) (v : SV) (n : Int32) (m : Nat) (hm : m ≤ 40) (hn : n = nI m) : Sp K mX2_greatestOf 1 0 0 [.ref b, .int n] (putS K w b v) sz (Qi fun r w' sz' => r = ((grF v.1 m).toInt32) ∧ w' = putS K w b v ∧ sz' = sz) := by
  refine Sp.ofN [some (.ref b), some (.int n), none, none, none] rfl rfl rfl (Nat.le_of_ble_eq_true rfl) ?_
  refine N.lconst (v := 0) dX2_greatestOf_0 (by decide) ?_
  refine N.lstore2 dX2_greatestOf_1 rfl ?_
  refine N.iconst (v := 0) dX2_greatestOf_2 (by decide) ?_
  refine N.istore4 dX2_greatestOf_3 rfl ?_
  exact l_X2_greatestOf w b sz v n m hm hn m 0 (by omega)
/-! the whole object: rinks, tape, shelves, refusals, pick, kept -/
abbrev XV : Type := (Nat → CV) × TV × (Nat → SV) × (Nat → Int32) × (Int32 × Int32) × Int32
def xF (a : Nat) (x : XV) : List Value := [.ref (a + 1), .ref (a + 7), .ref (a + 13), .ref (a + 19), .ref (a + 25), .ref (a + 27), .ref (a + 28), .ref (a + 29), .int x.2.2.2.2.2]
def shRef (a : Nat) : Nat → Option Nat := fun i => if i < 8 then some (a + (30 + 2 * i)) else none
def xC (K : Kx) (a : Nat) (x : XV) : Nat → Option va_E := fun k =>
  if k = 0 then some (.inr (4, xF a x)) else if k < 25 then rC K (a + (1 + 6 * ((k - 1) / 6))) (x.1 ((k - 1) / 6)) ((k - 1) % 6) else if k < 27 then tC K (a + 25) x.2.1 (k - 25) else if k = 27 then some (.inl (kC K 2, 8, .inr (.inr (.inr (.inr (shRef a)))))) else if k = 28 then some (.inl (kC K 0, 5, .inl x.2.2.2.1)) else if k = 29 then some (.inr (0, pF x.2.2.2.2.1)) else if k < 46 then sC K (a + (30 + 2 * ((k - 30) / 2))) (x.2.2.1 ((k - 30) / 2)) ((k - 30) % 2) else none
abbrev putX (K : Kx) (w : Wd) (a : Nat) (x : XV) : Wd := reg w a (xC K a x)
def setR (x : XV) (i : Nat) (v : CV) : XV := (fun j => if j = i then v else x.1 j, x.2)
def setT (x : XV) (t : TV) : XV := (x.1, t, x.2.2)
def setSh (x : XV) (i : Nat) (v : SV) : XV := (x.1, x.2.1, (fun j => if j = i then v else x.2.2.1 j), x.2.2.2)
def setRef (x : XV) (f : Nat → Int32) : XV := (x.1, x.2.1, x.2.2.1, f, x.2.2.2.2)
def setPk (x : XV) (p : Int32 × Int32) : XV := (x.1, x.2.1, x.2.2.1, x.2.2.2.1, p, x.2.2.2.2.2)
def setKp (x : XV) (y : Int32) : XV := (x.1, x.2.1, x.2.2.1, x.2.2.2.1, x.2.2.2.2.1, y)
theorem setR_eq {x : XV} {i : Nat} {v : CV} : (setR x i v).1 i = v := if_pos rfl
theorem setR_ne {x : XV} {i j : Nat} {v : CV} (h : j ≠ i) : (setR x i v).1 j = x.1 j := if_neg h
theorem setSh_eq {x : XV} {i : Nat} {v : SV} : (setSh x i v).2.2.1 i = v := if_pos rfl
theorem setSh_ne {x : XV} {i j : Nat} {v : SV} (h : j ≠ i) : (setSh x i v).2.2.1 j = x.2.2.1 j := if_neg h
theorem rC_lt {K : Kx} {b : Nat} {v : CV} {k : Nat} {e : va_E} (h : rC K b v k = some e) : k < 6 := by
  rcases Nat.lt_or_ge k 6 with q | q
  · exact q
  · rw [rC_none q] at h; cases h
theorem rC_ge {K : Kx} {b : Nat} {v : CV} {k : Nat} (h : rC K b v k = none) : 6 ≤ k := by
  rcases Nat.lt_or_ge k 6 with q | q
  · match k, q with
    | 0, _ => cases h
    | 1, _ => cases h
    | 2, _ => cases h
    | 3, _ => cases h
    | 4, _ => cases h
    | 5, _ => cases h
  · exact q
theorem sC_lt {K : Kx} {b : Nat} {v : SV} {k : Nat} {e : va_E} (h : sC K b v k = some e) : k < 2 := by
  match k, h with
  | 0, _ => omega
  | 1, _ => omega
  | n + 2, h => cases h
theorem sC_ge {K : Kx} {b : Nat} {v : SV} {k : Nat} (h : sC K b v k = none) : 2 ≤ k := by
  match k, h with
  | 0, h => cases h
  | 1, h => cases h
  | n + 2, _ => omega
theorem tC_lt {K : Kx} {b : Nat} {v : TV} {k : Nat} {e : va_E} (h : tC K b v k = some e) : k < 2 := by
  match k, h with
  | 0, _ => omega
  | 1, _ => omega
  | n + 2, h => cases h
theorem tC_ge {K : Kx} {b : Nat} {v : TV} {k : Nat} (h : tC K b v k = none) : 2 ≤ k := by
  match k, h with
  | 0, h => cases h
  | 1, h => cases h
  | n + 2, _ => omega
theorem pC_lt {v : Int32 × Int32} {k : Nat} {e : va_E} (h : pC v k = some e) : k = 0 := by
  match k, h with
  | 0, _ => rfl
  | n + 1, h => cases h
theorem pC_ge {v : Int32 × Int32} {k : Nat} (h : pC v k = none) : 1 ≤ k := by
  match k, h with
  | 0, h => cases h
  | n + 1, _ => omega
section XL
variable {K : Kx} {w : Wd} {a : Nat} {x : XV}
theorem xC_r {i k : Nat} (hi : i < 4) (hk : k < 6) : xC K a x (1 + 6 * i + k) = rC K (a + (1 + 6 * i)) (x.1 i) k := by
  unfold xC
  rw [if_neg (by omega), if_pos (by omega), show (1 + 6 * i + k - 1) / 6 = i by omega, show (1 + 6 * i + k - 1) % 6 = k by omega]
theorem xR (i : Nat) (hi : i < 4) : putX K w a x = putR K (putX K w a x) (a + (1 + 6 * i)) (x.1 i) :=
  reg_sub fun k e h => by rw [xC_r hi (rC_lt h)]; exact h
theorem xRs (i : Nat) (hi : i < 4) {v : CV} : putR K (putX K w a x) (a + (1 + 6 * i)) v = putX K w a (setR x i v) := by
  refine reg_rep (fun k e h => ?_) (fun j hj => ?_)
  · rw [xC_r hi (rC_lt h), setR_eq]
    exact h
  · have hne : j < 1 + 6 * i ∨ 6 ≤ j - (1 + 6 * i) := by
      rcases hj with h | h
      · exact Or.inl h
      · exact Or.inr (rC_ge h)
    unfold xC
    by_cases h0 : j = 0
    · rw [if_pos h0, if_pos h0]; rfl
    · rw [if_neg h0, if_neg h0]
      by_cases h1 : j < 25
      · rw [if_pos h1, if_pos h1]
        rw [setR_ne (by omega)]
      · rw [if_neg h1, if_neg h1]; rfl
theorem xRR (i j : Nat) (hi : i < 4) (hj : j < 4) : putX K w a x = putR K (putR K (putX K w a x) (a + (1 + 6 * j)) (x.1 j)) (a + (1 + 6 * i)) (x.1 i) := by
  rw [← xR j hj]; exact xR i hi
theorem xRRs (i j : Nat) (hi : i < 4) (hj : j < 4) {v : CV} : putR K (putR K (putX K w a x) (a + (1 + 6 * j)) (x.1 j)) (a + (1 + 6 * i)) v = putX K w a (setR x i v) := by
  rw [← xR j hj]; exact xRs i hi
theorem xT : putX K w a x = putT K (putX K w a x) (a + 25) x.2.1 :=
  reg_sub fun k e h => by
    have := tC_lt h
    unfold xC
    rw [if_neg (by omega), if_neg (by omega), if_pos (by omega), Nat.add_sub_cancel_left]
    exact h
theorem xTs {t : TV} : putT K (putX K w a x) (a + 25) t = putX K w a (setT x t) := by
  refine reg_rep (fun k e h => ?_) (fun j hj => ?_)
  · have := tC_lt h
    unfold xC
    rw [if_neg (by omega), if_neg (by omega), if_pos (by omega), Nat.add_sub_cancel_left]
    exact h
  · have hne : j < 25 ∨ 2 ≤ j - 25 := by
      rcases hj with h | h
      · exact Or.inl h
      · exact Or.inr (tC_ge h)
    unfold xC
    by_cases h0 : j = 0
    · rw [if_pos h0, if_pos h0]; rfl
    · rw [if_neg h0, if_neg h0]
      by_cases h1 : j < 25
      · rw [if_pos h1, if_pos h1]; rfl
      · have h2 : ¬ j < 27 := by omega
        rw [if_neg h1, if_neg h1, if_neg h2, if_neg h2]; rfl
theorem xC_s {i k : Nat} (hi : i < 8) (hk : k < 2) : xC K a x (30 + 2 * i + k) = sC K (a + (30 + 2 * i)) (x.2.2.1 i) k := by
  unfold xC
  rw [if_neg (by omega), if_neg (by omega), if_neg (by omega), if_neg (by omega), if_neg (by omega), if_neg (by omega), if_pos (by omega), show (30 + 2 * i + k - 30) / 2 = i by omega, show (30 + 2 * i + k - 30) % 2 = k by omega]
theorem xS (i : Nat) (hi : i < 8) : putX K w a x = putS K (putX K w a x) (a + (30 + 2 * i)) (x.2.2.1 i) :=
  reg_sub fun k e h => by rw [xC_s hi (sC_lt h)]; exact h
theorem xSs (i : Nat) (hi : i < 8) {v : SV} : putS K (putX K w a x) (a + (30 + 2 * i)) v = putX K w a (setSh x i v) := by
  refine reg_rep (fun k e h => ?_) (fun j hj => ?_)
  · rw [xC_s hi (sC_lt h), setSh_eq]
    exact h
  · have hne : j < 30 + 2 * i ∨ 2 ≤ j - (30 + 2 * i) := by
      rcases hj with h | h
      · exact Or.inl h
      · exact Or.inr (sC_ge h)
    unfold xC
    by_cases h0 : j = 0
    · rw [if_pos h0, if_pos h0]; rfl
    · rw [if_neg h0, if_neg h0]
      by_cases h1 : j < 25
      · rw [if_pos h1, if_pos h1]; rfl
      · rw [if_neg h1, if_neg h1]
        by_cases h2 : j < 27
        · rw [if_pos h2, if_pos h2]; rfl
        · rw [if_neg h2, if_neg h2]
          by_cases h3 : j < 30
          · by_cases h4 : j = 27
            · rw [if_pos h4, if_pos h4]
            · rw [if_neg h4, if_neg h4]
              by_cases h5 : j = 28
              · rw [if_pos h5, if_pos h5]; rfl
              · have h9 : j = 29 := by omega
                rw [if_neg h5, if_neg h5, if_pos h9, if_pos h9]; rfl
          · have h7 : ¬ j = 27 := by omega
            have h8 : ¬ j = 28 := by omega
            have h9 : ¬ j = 29 := by omega
            rw [if_neg h7, if_neg h7, if_neg h8, if_neg h8, if_neg h9, if_neg h9]
            by_cases h6 : j < 46
            · rw [if_pos h6, if_pos h6]
              rw [setSh_ne (by omega)]
            · rw [if_neg h6, if_neg h6]
theorem xSS (i j : Nat) (hi : i < 8) (hj : j < 8) : putX K w a x = putS K (putS K (putX K w a x) (a + (30 + 2 * j)) (x.2.2.1 j)) (a + (30 + 2 * i)) (x.2.2.1 i) := by
  rw [← xS j hj]; exact xS i hi
theorem xP : putX K w a x = putP (putX K w a x) (a + 29) x.2.2.2.2.1 :=
  reg_sub fun k e h => by
    obtain rfl := pC_lt h
    exact h
theorem xPs {p : Int32 × Int32} : putP (putX K w a x) (a + 29) p = putX K w a (setPk x p) := by
  refine reg_rep (fun k e h => ?_) (fun j hj => ?_)
  · obtain rfl := pC_lt h
    exact h
  · have hne : j ≠ 29 := by
      rcases hj with h | h
      · omega
      · have := pC_ge h; omega
    unfold xC
    by_cases h0 : j = 0
    · rw [if_pos h0, if_pos h0]; rfl
    · rw [if_neg h0, if_neg h0]
      by_cases h1 : j < 25
      · rw [if_pos h1, if_pos h1]; rfl
      · rw [if_neg h1, if_neg h1]
        by_cases h2 : j < 27
        · rw [if_pos h2, if_pos h2]; rfl
        · rw [if_neg h2, if_neg h2]
          by_cases h4 : j = 27
          · rw [if_pos h4, if_pos h4]
          · rw [if_neg h4, if_neg h4]
            by_cases h5 : j = 28
            · rw [if_pos h5, if_pos h5]; rfl
            · rw [if_neg h5, if_neg h5, if_neg hne, if_neg hne]; rfl
theorem xO : putX K w a x a = some (.inr (4, xF a x)) := reg_at (k := 0) rfl
theorem xH : putX K w a x (a + 27) = some (.inl (kC K 2, 8, .inr (.inr (.inr (.inr (shRef a)))))) := reg_at (k := 27) rfl
theorem xE : putX K w a x (a + 28) = some (.inl (kC K 0, 5, .inl x.2.2.2.1)) := reg_at (k := 28) rfl
theorem xEs {f : Nat → Int32} : upW (putX K w a x) (a + 28) (.inl (kC K 0, 5, .inl f)) = putX K w a (setRef x f) := by
  refine reg_up (fun j => ?_)
  by_cases h : j = 28
  · subst h; rfl
  · rw [if_neg h]
    unfold xC
    by_cases h0 : j = 0
    · rw [if_pos h0, if_pos h0]; rfl
    · rw [if_neg h0, if_neg h0]
      by_cases h1 : j < 25
      · rw [if_pos h1, if_pos h1]; rfl
      · rw [if_neg h1, if_neg h1]
        by_cases h2 : j < 27
        · rw [if_pos h2, if_pos h2]; rfl
        · rw [if_neg h2, if_neg h2]
          by_cases h4 : j = 27
          · rw [if_pos h4, if_pos h4]
          · rw [if_neg h4, if_neg h4, if_neg h, if_neg h]; rfl
theorem xK {y : Int32} : upW (putX K w a x) a (.inr (4, (xF a x).set 8 (.int y))) = putX K w a (setKp x y) := by
  refine reg_up (k := 0) (fun j => ?_)
  by_cases h : j = 0
  · subst h; rfl
  · rw [if_neg h]
    unfold xC
    rw [if_neg h, if_neg h]; rfl
theorem xShv {i : Nat} (hi : i < 8) : va_rf (shRef a i) = .ref (a + (30 + 2 * i)) := by
  unfold shRef
  rw [if_pos hi]; rfl
theorem ap6_x {i j : Nat} (h : i ≠ j) : ap6 (a + (1 + 6 * j)) (a + (1 + 6 * i)) := by unfold ap6; omega
end XL
