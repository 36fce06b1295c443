def frsh (l : Nat) (y : Int32) : Nat → Nat → CV → Int32
  | 0, k, _ => nI k
  | n + 1, k, u => if tiredF u (u.2 4 l) ≤ y then nI k else frsh l y n (k + 1) (passV 1 u)
set_option maxRecDepth 100000 in
theorem l_X4_fresh {K : Kx} (w : Wd) (a sz : Nat) (x : XV) (l y : Int32) (hl : vp_in l 4) (p : Int32 × Int32) (P : Int32 → Wd → Nat → Prop) : ∀ (nn : Nat) (k : Nat) (u : CV), okP u → k + nn = 100 → (∀ u' p', P (frsh l.toNatClampNeg y nn k u) (putU K w a x u' p') sz) → N K mX4_fresh 9 0 0 (Qi P) 64 [some (.ref a), some (.int l), some (.int y), some (.int (nI k))] [] (putU K w a x u p) sz 0 0 := by
  intro nn
  induction nn with
  | zero =>
    intro k u ho hk hP
    obtain rfl : k = 100 := by omega
    refine N.iload3 dX4_fresh_64 ?_
    refine N.bipush (v := 100) dX4_fresh_65 (by decide) ?_
    refine N.icmp_ge (tgt := 104) dX4_fresh_67 (by decide) (fun c67 => ?_) (fun c67 => absurd (by decide) c67)
    refine N.iload3 dX4_fresh_104 ?_
    exact N.iret dX4_fresh_105 rfl (Nat.zero_le _) (Nat.zero_le _) ⟨_, rfl, (hP _ _)⟩
  | succ nn ih =>
    intro k u ho hk hP
    refine N.iload3 dX4_fresh_64 ?_
    refine N.bipush (v := 100) dX4_fresh_65 (by decide) ?_
    refine N.icmp_ge (tgt := 104) dX4_fresh_67 (by decide) (fun c67 => absurd c67 (nI_ge (a := k) (b := 100) (by omega) (by omega))) (fun c67 => ?_)
    refine N.aload0 dX4_fresh_70 ?_
    refine N.getf dX4_fresh_71 flX4_16 yO rfl ?_
    refine N.aload0 dX4_fresh_74 ?_
    refine N.getf dX4_fresh_75 flX4_16 yO rfl ?_
    refine N.getf dX4_fresh_78 flX4_142 yO1 rfl ?_
    refine N.iload1 dX4_fresh_81 ?_
    refine N.iald dX4_fresh_82 yA1_4 hl ?_
    refine N.vi1 dX4_fresh_83 vX1_tiredTogether lkX4_190 (Sp.n1i fun W => s_X1_tiredTogether W _ _ _ _ ho) yO1 rfl (Nat.le_of_ble_eq_true rfl) (Nat.le_of_ble_eq_true rfl) (Nat.zero_le _) (Nat.zero_le _) ?_
    rintro _ _ _ ⟨rfl, rfl, rfl⟩
    refine N.iload2 dX4_fresh_86 ?_
    refine N.icmp_le (tgt := 104) dX4_fresh_87 (by decide) (fun c87 => ?_) (fun c87 => ?_)
    · refine N.iload3 dX4_fresh_104 ?_
      exact N.iret dX4_fresh_105 rfl (Nat.zero_le _) (Nat.zero_le _) ⟨_, rfl, (by have hQ := fun u' p' => hP u' p'; rw [frsh, if_pos c87] at hQ; exact hQ _ _)⟩
    · refine N.aload0 dX4_fresh_90 ?_
      refine N.getf dX4_fresh_91 flX4_16 yO rfl ?_
      refine N.iconst (v := 1) dX4_fresh_94 (by decide) ?_
      refine N.vv1 dX4_fresh_95 vX1_passSeconds lkX4_246 (Sp.n1v fun W => s_X1_passSeconds W _ _ _ _ ho) yO1 rfl (Nat.le_of_ble_eq_true rfl) (Nat.le_of_ble_eq_true rfl) (Nat.zero_le _) (Nat.zero_le _) ?_
      rintro _ _ ⟨rfl, rfl⟩
      refine N.iinc3 dX4_fresh_98 rfl (nI_inc _) ?_
      refine N.goto (tgt := 64) dX4_fresh_101 (by decide) ?_
      exact ih (k + 1) _ (ho.pass 1) (by omega) (by rw [frsh, if_neg c87] at hP; exact hP)
def xfresh (x : XV) (l y : Int32) : Int32 × XV := if isInF l 0 3 = 0 then rf x (-2) else if isInF y 0 600 = 0 then rf x (-2) else if hasPlF (x.1 0) l = 0 then rf x (-5) else (frsh l.toNatClampNeg y 100 0 (putOnV (x.1 0) 0), x)
set_option maxRecDepth 100000 in
theorem s_X4_fresh {K : Kx} (w : Wd) (a sz : Nat) (x : XV) (l : Int32) (y : Int32) (hX : okX x)  : Sp K mX4_fresh 9 0 0 [.ref a, .int l, .int y] (putX K w a x) sz (Qi fun r w' sz' => r = (xfresh x l y).1 ∧ sz' = sz ∧ ∃ x', w' = putX K w a x' ∧ rel x' = rel (xfresh x l y).2) := by
  refine Sp.ofN [some (.ref a), some (.int l), some (.int y), none] rfl rfl rfl (Nat.le_of_ble_eq_true rfl) ?_
  have h : okP (x.1 0) := hX.1
  refine N.eqW (congrArg (putX K w a) (xup_self x)) ?_
  generalize x.1 1 = u0
  generalize x.2.2.2.2.1 = p0
  refine N.iload1 dX4_fresh_0 ?_
  refine N.si1 dX4_fresh_1 vX4_isLine lkX4_131 (s_X4_isLine _ _ _) rfl (Nat.le_of_ble_eq_true rfl) (Nat.le_of_ble_eq_true rfl) (Nat.zero_le _) (Nat.zero_le _) ?_
  rintro _ _ _ ⟨rfl, rfl, rfl⟩
  refine N.if_eq (tgt := 18) dX4_fresh_4 (by decide) (fun c4 => ?_) (fun c4 => ?_)
  · refine N.aload0 dX4_fresh_18 ?_
    refine N.bipush (v := -2) dX4_fresh_19 (by decide) ?_
    refine N.vi1 dX4_fresh_21 vX4_refuse lkX4_62 (s_X4_refuse _ _ _ _ _ _ _) yO rfl (Nat.le_of_ble_eq_true rfl) (Nat.le_of_ble_eq_true rfl) (Nat.zero_le _) (Nat.zero_le _) ?_
    rintro _ _ _ ⟨rfl, rfl, rfl⟩
    exact N.iret dX4_fresh_24 rfl (Nat.zero_le _) (Nat.zero_le _) ⟨_, rfl, (by rw [xfresh, if_pos c4]; exact rf_ok)⟩
  · refine N.iload2 dX4_fresh_7 ?_
    refine N.iconst (v := 0) dX4_fresh_8 (by decide) ?_
    refine N.sipush (v := 600) dX4_fresh_9 (by decide) ?_
    refine N.si3 dX4_fresh_12 vX4_isIn lkX4_58 (s_X4_isIn _ _ _ _ _) rfl (Nat.le_of_ble_eq_true rfl) (Nat.le_of_ble_eq_true rfl) (Nat.zero_le _) (Nat.zero_le _) ?_
    rintro _ _ _ ⟨rfl, rfl, rfl⟩
    refine N.if_ne (tgt := 25) dX4_fresh_15 (by decide) (fun c15 => ?_) (fun c15 => ?_)
    · refine N.aload0 dX4_fresh_25 ?_
      refine N.getf dX4_fresh_26 flX4_10 yO rfl ?_
      refine N.iload1 dX4_fresh_29 ?_
      refine N.vi1 dX4_fresh_30 vX1_hasPlayers lkX4_208 (Sp.n0i fun W => s_X1_hasPlayers W _ _ _ _) yO0 rfl (Nat.le_of_ble_eq_true rfl) (Nat.le_of_ble_eq_true rfl) (Nat.zero_le _) (Nat.zero_le _) ?_
      rintro _ _ _ ⟨rfl, rfl, rfl⟩
      refine N.if_ne (tgt := 43) dX4_fresh_33 (by decide) (fun c33 => ?_) (fun c33 => ?_)
      · refine N.aload0 dX4_fresh_43 ?_
        refine N.getf dX4_fresh_44 flX4_16 yO rfl ?_
        refine N.aload0 dX4_fresh_47 ?_
        refine N.getf dX4_fresh_48 flX4_10 yO rfl ?_
        refine N.vv1 dX4_fresh_51 vX1_takeFrom lkX4_161 (Sp.tk) yO1 rfl (Nat.le_of_ble_eq_true rfl) (Nat.le_of_ble_eq_true rfl) (Nat.zero_le _) (Nat.zero_le _) ?_
        rintro _ _ ⟨rfl, rfl⟩
        refine N.aload0 dX4_fresh_54 ?_
        refine N.getf dX4_fresh_55 flX4_16 yO rfl ?_
        refine N.iconst (v := 0) dX4_fresh_58 (by decide) ?_
        refine N.vv1 dX4_fresh_59 vX1_putOn lkX4_256 (Sp.n1v fun W => s_X1_putOn W _ _ _ _) yO1 rfl (Nat.le_of_ble_eq_true rfl) (Nat.le_of_ble_eq_true rfl) (Nat.zero_le _) (Nat.zero_le _) ?_
        rintro _ _ ⟨rfl, rfl⟩
        refine N.iconst (v := 0) dX4_fresh_62 (by decide) ?_
        refine N.istore3 dX4_fresh_63 rfl ?_
        exact N.wk (by exact ⟨rfl, rfl, rfl, rfl, trivial⟩) (l_X4_fresh w a _ x l y (ln_in c4) _ _ 100 0 _ (h.on 0) (by omega) (fun _ _ => pub_ok (by rw [xfresh, if_neg c4, if_neg c15, if_neg c33])))
      · refine N.aload0 dX4_fresh_36 ?_
        refine N.bipush (v := -5) dX4_fresh_37 (by decide) ?_
        refine N.vi1 dX4_fresh_39 vX4_refuse lkX4_62 (s_X4_refuse _ _ _ _ _ _ _) yO rfl (Nat.le_of_ble_eq_true rfl) (Nat.le_of_ble_eq_true rfl) (Nat.zero_le _) (Nat.zero_le _) ?_
        rintro _ _ _ ⟨rfl, rfl, rfl⟩
        exact N.iret dX4_fresh_42 rfl (Nat.zero_le _) (Nat.zero_le _) ⟨_, rfl, (by rw [xfresh, if_neg c4, if_neg c15, if_pos c33]; exact rf_ok)⟩
    · refine N.aload0 dX4_fresh_18 ?_
      refine N.bipush (v := -2) dX4_fresh_19 (by decide) ?_
      refine N.vi1 dX4_fresh_21 vX4_refuse lkX4_62 (s_X4_refuse _ _ _ _ _ _ _) yO rfl (Nat.le_of_ble_eq_true rfl) (Nat.le_of_ble_eq_true rfl) (Nat.zero_le _) (Nat.zero_le _) ?_
      rintro _ _ _ ⟨rfl, rfl, rfl⟩
      exact N.iret dX4_fresh_24 rfl (Nat.zero_le _) (Nat.zero_le _) ⟨_, rfl, (by rw [xfresh, if_neg c4, if_pos c15]; exact rf_ok)⟩
def thr (f : Int32) (n : Int32) (u : CV) : Nat → Int32
  | 0 => 0
  | k + 1 => if f < n * oddsAF (setS u 6 (nI (k + 1))) then thr f n u k else nI (k + 1)
theorem upd_upd {α : Type} {f : Nat → α} {j : Nat} {y z : α} : (fun q => if q = j then z else (fun q => if q = j then y else f q) q) = fun q => if q = j then z else f q := by
  funext q
  by_cases h : q = j
  · simp [h]
  · simp [h]
theorem setS2 {u : CV} {j : Nat} {y z : Int32} : setS (setS u j y) j z = setS u j z := by
  unfold setS
  refine Prod.ext (funext fun q => ?_) rfl
  unfold upd
  by_cases h : q = j
  · simp [h]
  · simp [h]
theorem thr_t {f n : Int32} {u u0 : CV} {k : Nat} (he : ∀ z, setS u 6 z = setS u0 6 z) (c : f < n * oddsAF (upd u.1 6 (nI (k + 1)), u.2)) : thr f n u0 (k + 1) = thr f n u0 k := by
  rw [thr, if_pos (by rw [← he]; exact c)]
theorem thr_f {f n : Int32} {u u0 : CV} {k : Nat} (he : ∀ z, setS u 6 z = setS u0 6 z) (c : ¬ f < n * oddsAF (upd u.1 6 (nI (k + 1)), u.2)) : thr f n u0 (k + 1) = nI (k + 1) := by
  rw [thr, if_neg (by rw [← he]; exact c)]
set_option maxRecDepth 100000 in
theorem l_X4_theirsFor {K : Kx} (w : Wd) (a sz : Nat) (x : XV) (n f : Int32) (u0 : CV) (p : Int32 × Int32) (P : Int32 → Wd → Nat → Prop) : ∀ (nn : Nat) (u : CV), (∀ z, setS u 6 z = setS u0 6 z) → nn ≤ 999 → (∀ u' p', P (thr f n u0 nn) (putU K w a x u' p') sz) → N K mX4_theirsFor 9 0 0 (Qi P) 42 [some (.ref a), some (.int n), some (.int f), some (.int (nI nn))] [] (putU K w a x u p) sz 0 0 := by
  intro nn
  induction nn with
  | zero =>
    intro u he hk hP
    refine N.iload3 dX4_theirsFor_42 ?_
    refine N.iconst (v := 1) dX4_theirsFor_43 (by decide) ?_
    refine N.icmp_lt (tgt := 75) dX4_theirsFor_44 (by decide) (fun c44 => ?_) (fun c44 => absurd (by decide) c44)
    refine N.iconst (v := 0) dX4_theirsFor_75 (by decide) ?_
    exact N.iret dX4_theirsFor_76 rfl (Nat.zero_le _) (Nat.zero_le _) ⟨_, rfl, (hP _ _)⟩
  | succ nn ih =>
    intro u he hk hP
    refine N.iload3 dX4_theirsFor_42 ?_
    refine N.iconst (v := 1) dX4_theirsFor_43 (by decide) ?_
    refine N.icmp_lt (tgt := 75) dX4_theirsFor_44 (by decide) (fun c44 => absurd c44 (nI_nlt (a := nn + 1) (b := 1) (by omega) (by omega))) (fun c44 => ?_)
    refine N.aload0 dX4_theirsFor_47 ?_
    refine N.getf dX4_theirsFor_48 flX4_16 yO rfl ?_
    refine N.iload3 dX4_theirsFor_51 ?_
    refine N.putf dX4_theirsFor_52 flX4_151 yO1 (Nat.le_of_ble_eq_true rfl) (fun _ h => by cases h; rfl) rfl rfl yP1_6 ?_
    refine N.iload2 dX4_theirsFor_55 ?_
    refine N.aload0 dX4_theirsFor_56 ?_
    refine N.getf dX4_theirsFor_57 flX4_16 yO rfl ?_
    refine N.iload1 dX4_theirsFor_60 ?_
    refine N.vi1 dX4_theirsFor_61 vX1_againstIn lkX4_262 (Sp.n1i fun W => s_X1_againstIn W _ _ _ _) yO1 rfl (Nat.le_of_ble_eq_true rfl) (Nat.le_of_ble_eq_true rfl) (Nat.zero_le _) (Nat.zero_le _) ?_
    rintro _ _ _ ⟨rfl, rfl, rfl⟩
    refine N.icmp_lt (tgt := 69) dX4_theirsFor_64 (by decide) (fun c64 => ?_) (fun c64 => ?_)
    · refine N.iinc3 dX4_theirsFor_69 rfl (nI_dec _) ?_
      refine N.goto (tgt := 42) dX4_theirsFor_72 (by decide) ?_
      exact ih _ (fun z => setS2.trans (he z)) (by omega) (by rw [thr_t he c64] at hP; exact hP)
    · refine N.iload3 dX4_theirsFor_67 ?_
      exact N.iret dX4_theirsFor_68 rfl (Nat.zero_le _) (Nat.zero_le _) ⟨_, rfl, (by rw [thr_f he c64] at hP; exact hP _ _)⟩
def xthr (x : XV) (n : Int32) : Int32 × XV := if isInF n 0 600 = 0 then rf x (-2) else (thr (oursF (x.1 0) n) n (oursV (x.1 0) n) 999, x)
set_option maxRecDepth 100000 in
theorem s_X4_theirsFor {K : Kx} (w : Wd) (a sz : Nat) (x : XV) (n : Int32) (hX : okX x)  : Sp K mX4_theirsFor 9 0 0 [.ref a, .int n] (putX K w a x) sz (Qi fun r w' sz' => r = (xthr x n).1 ∧ sz' = sz ∧ ∃ x', w' = putX K w a x' ∧ rel x' = rel (xthr x n).2) := by
  refine Sp.ofN [some (.ref a), some (.int n), none, none] rfl rfl rfl (Nat.le_of_ble_eq_true rfl) ?_
  have h : okP (x.1 0) := hX.1
  refine N.eqW (congrArg (putX K w a) (xup_self x)) ?_
  generalize x.1 1 = u0
  generalize x.2.2.2.2.1 = p0
  refine N.iload1 dX4_theirsFor_0 ?_
  refine N.iconst (v := 0) dX4_theirsFor_1 (by decide) ?_
  refine N.sipush (v := 600) dX4_theirsFor_2 (by decide) ?_
  refine N.si3 dX4_theirsFor_5 vX4_isIn lkX4_58 (s_X4_isIn _ _ _ _ _) rfl (Nat.le_of_ble_eq_true rfl) (Nat.le_of_ble_eq_true rfl) (Nat.zero_le _) (Nat.zero_le _) ?_
  rintro _ _ _ ⟨rfl, rfl, rfl⟩
  refine N.if_ne (tgt := 18) dX4_theirsFor_8 (by decide) (fun c8 => ?_) (fun c8 => ?_)
  · obtain ⟨m, hm, hn⟩ := in_n (N' := 600) (by decide) c8
    have ho := h
    refine N.aload0 dX4_theirsFor_18 ?_
    refine N.getf dX4_theirsFor_19 flX4_16 yO rfl ?_
    refine N.aload0 dX4_theirsFor_22 ?_
    refine N.getf dX4_theirsFor_23 flX4_10 yO rfl ?_
    refine N.vv1 dX4_theirsFor_26 vX1_takeFrom lkX4_161 (Sp.tk) yO1 rfl (Nat.le_of_ble_eq_true rfl) (Nat.le_of_ble_eq_true rfl) (Nat.zero_le _) (Nat.zero_le _) ?_
    rintro _ _ ⟨rfl, rfl⟩
    refine N.aload0 dX4_theirsFor_29 ?_
    refine N.getf dX4_theirsFor_30 flX4_16 yO rfl ?_
    refine N.iload1 dX4_theirsFor_33 ?_
    refine N.vi1 dX4_theirsFor_34 vX1_oursIn lkX4_259 (Sp.n1i fun W => s_X1_oursIn W _ _ _ _ m hm hn ho) yO1 rfl (Nat.le_of_ble_eq_true rfl) (Nat.le_of_ble_eq_true rfl) (Nat.zero_le _) (Nat.zero_le _) ?_
    rintro _ _ _ ⟨rfl, rfl, rfl⟩
    refine N.istore2 dX4_theirsFor_37 rfl ?_
    refine N.sipush (v := 999) dX4_theirsFor_38 (by decide) ?_
    refine N.istore3 dX4_theirsFor_41 rfl ?_
    exact N.wk (by exact ⟨rfl, rfl, rfl, rfl, trivial⟩) (l_X4_theirsFor w a _ x n _ _ _ _ 999 _ (fun _ => rfl) (by omega) (fun _ _ => pub_ok (by rw [xthr, if_neg c8]; rfl)))
  · refine N.aload0 dX4_theirsFor_11 ?_
    refine N.bipush (v := -2) dX4_theirsFor_12 (by decide) ?_
    refine N.vi1 dX4_theirsFor_14 vX4_refuse lkX4_62 (s_X4_refuse _ _ _ _ _ _ _) yO rfl (Nat.le_of_ble_eq_true rfl) (Nat.le_of_ble_eq_true rfl) (Nat.zero_le _) (Nat.zero_le _) ?_
    rintro _ _ _ ⟨rfl, rfl, rfl⟩
    exact N.iret dX4_theirsFor_17 rfl (Nat.zero_le _) (Nat.zero_le _) ⟨_, rfl, (by rw [xthr, if_pos c8]; exact rf_ok)⟩
def sfU (g : Nat) (u : CV) (l : Int32) : CV := if nI g ≤ 0 then u else chgV u (nextLF u l)
def sfL (g : Nat) (u : CV) (l : Int32) : Int32 := if nI g ≤ 0 then l else nextLF u l
def shf (kk nn : Nat) : Nat → Nat → CV → Int32 → Int32 → Int32
  | 0, _, _, _, s => s
  | f + 1, g, u, l, s => if nn ≤ g then s else shf kk nn f (g + kk) (oursV (sfU g u l) (nI (min kk (nn - g)))) (sfL g u l) (s + gainsF (sfU g u l) (nI (min kk (nn - g))))
def shfF (v : CV) (k n : Int32) : Int32 := shf k.toNatClampNeg n.toNatClampNeg (n.toNatClampNeg + 1) 0 (putOnV v (v.2 4 (firstLF v).toNatClampNeg)) (firstLF v) 0
theorem nI_sub {a b : Nat} (h : b ≤ a) : nI a - nI b = nI (a - b) := by
  have := nI_add (a - b) b
  rw [Nat.sub_add_cancel h] at this
  rw [← this, Int32.add_sub_cancel]
theorem min_n {k n g : Nat} (hk : k < 2 ^ 31) (hn : n < 2 ^ 31) (h : g ≤ n) : minF (nI k) (nI n - nI g) = nI (min k (n - g)) := by
  unfold minF
  rw [nI_sub h]
  by_cases c : n - g < k
  · rw [if_pos (nI_lt c hk), Nat.min_eq_right (by omega)]
  · rw [if_neg (nI_nlt (by omega) (by omega)), Nat.min_eq_left (by omega)]
theorem max_5 {k : Nat} (h : 5 ≤ k) (hk : k < 2 ^ 31) : maxF 5 (nI k) = nI k := by
  unfold maxF
  rcases Nat.lt_or_ge 5 k with q | q
  · exact if_pos (nI_lt (a := 5) q hk)
  · obtain rfl : k = 5 := by omega
    rfl
theorem sfU_ok {g : Nat} {u : CV} {l : Int32} (h : okP u) : okP (sfU g u l) := by
  unfold sfU
  split
  · exact h
  · exact h.chg _
theorem sfL_in {g : Nat} {u : CV} {l : Int32} (h : vp_in l 4) : vp_in (sfL g u l) 4 := by
  unfold sfL
  split
  · exact h
  · exact next_in h
theorem N.eqI {K : Kx} {M : Md} {d mc ms : Nat} {Q : Qx} {pc : Nat} {L : List (Option Value)} {st : List Value} {w : Wd} {sz cc ss : Nat} {i j : Int32} (h : i = j) (k : N K M d mc ms Q pc L (.int j :: st) w sz cc ss) : N K M d mc ms Q pc L (.int i :: st) w sz cc ss := h ▸ k
set_option maxRecDepth 100000 in
theorem l_X4_gainsOfShifts {K : Kx} (w : Wd) (a sz : Nat) (x : XV) (kk nn0 : Nat) (hkk : 5 ≤ kk) (hkm : kk ≤ 99) (hnn : nn0 ≤ 600) (p : Int32 × Int32) (P : Int32 → Wd → Nat → Prop) : ∀ (nn : Nat) (g : Nat) (u : CV) (l s : Int32), okP u → vp_in l 4 → nn0 < g + nn → g ≤ 700 → (∀ u', P (shf kk nn0 nn g u l s) (putU K w a x u' p) sz) → N K mX4_gainsOfShifts 6 0 0 (Qi P) 41 [some (.ref a), some (.int (nI kk)), some (.int (nI nn0)), some (.int l), some (.int s), some (.int (nI g))] [] (putU K w a x u p) sz 0 0 := by
  intro nn
  induction nn with
  | zero =>
    intro g u l s ho hl hk hg hP
    refine N.iload5 dX4_gainsOfShifts_41 ?_
    refine N.iload2 dX4_gainsOfShifts_43 ?_
    refine N.icmp_ge (tgt := 103) dX4_gainsOfShifts_44 (by decide) (fun c44 => ?_) (fun c44 => absurd (nI_le (by omega) (by omega)) c44)
    refine N.iload4 dX4_gainsOfShifts_103 ?_
    exact N.iret dX4_gainsOfShifts_105 rfl (Nat.zero_le _) (Nat.zero_le _) ⟨_, rfl, (hP _)⟩
  | succ nn ih =>
    intro g u l s ho hl hk hg hP
    refine N.iload5 dX4_gainsOfShifts_41 ?_
    refine N.iload2 dX4_gainsOfShifts_43 ?_
    refine N.icmp_ge (tgt := 103) dX4_gainsOfShifts_44 (by decide) (fun c44 => ?_) (fun c44 => ?_)
    · refine N.iload4 dX4_gainsOfShifts_103 ?_
      exact N.iret dX4_gainsOfShifts_105 rfl (Nat.zero_le _) (Nat.zero_le _) ⟨_, rfl, (by rw [shf, if_pos ((nI_leI (by omega) (by omega)).mp c44)] at hP; exact hP _)⟩
    · refine N.iload5 dX4_gainsOfShifts_47 ?_
      refine N.if_le (tgt := 70) dX4_gainsOfShifts_49 (by decide) (fun c49 => ?_) (fun c49 => ?_)
      · have c44b : ¬ nn0 ≤ g := fun q => c44 ((nI_leI (by omega) (by omega)).mpr q)
        have eU : sfU g u l = u := by rw [sfU, if_pos c49]
        have eL : sfL g u l = l := by rw [sfL, if_pos c49]
        have hU : okP (u) := eU ▸ sfU_ok ho
        refine N.iload4 dX4_gainsOfShifts_70 ?_
        refine N.aload0 dX4_gainsOfShifts_72 ?_
        refine N.getf dX4_gainsOfShifts_73 flX4_16 yO rfl ?_
        refine N.iload1 dX4_gainsOfShifts_76 ?_
        refine N.iload2 dX4_gainsOfShifts_77 ?_
        refine N.iload5 dX4_gainsOfShifts_78 ?_
        refine N.isub dX4_gainsOfShifts_80 ?_
        refine N.mmin dX4_gainsOfShifts_81 mkX4_232 (Nat.le_of_ble_eq_true rfl) (Nat.le_of_ble_eq_true rfl) (Nat.zero_le _) (Nat.zero_le _) ?_
        refine N.eqI (min_n (by omega) (by omega) (by omega)) ?_
        refine N.vi1 dX4_gainsOfShifts_84 vX1_gainsIn lkX4_253 (Sp.n1i fun W => s_X1_gainsIn W _ _ _ _ (min kk (nn0 - g)) (by omega) rfl hU) yO1 rfl (Nat.le_of_ble_eq_true rfl) (Nat.le_of_ble_eq_true rfl) (Nat.zero_le _) (Nat.zero_le _) ?_
        rintro _ _ _ ⟨rfl, rfl, rfl⟩
        refine N.iadd dX4_gainsOfShifts_87 ?_
        refine N.istore4 dX4_gainsOfShifts_88 rfl ?_
        refine N.iload5 dX4_gainsOfShifts_90 ?_
        refine N.iconst (v := 5) dX4_gainsOfShifts_92 (by decide) ?_
        refine N.iload1 dX4_gainsOfShifts_93 ?_
        refine N.mmax dX4_gainsOfShifts_94 mkX4_327 (Nat.le_of_ble_eq_true rfl) (Nat.le_of_ble_eq_true rfl) (Nat.zero_le _) (Nat.zero_le _) ?_
        refine N.eqI (max_5 hkk (by omega)) ?_
        refine N.iadd dX4_gainsOfShifts_97 ?_
        refine N.istore5 dX4_gainsOfShifts_98 rfl ?_
        refine N.goto (tgt := 41) dX4_gainsOfShifts_100 (by decide) ?_
        rw [shf, if_neg c44b, eU, eL] at hP
        exact N.eqL (by rw [nI_add]) (ih (g + kk) _ _ _ (okP.oursV hU _) (eL ▸ sfL_in hl) (by omega) (by omega) hP)
      · refine N.aload0 dX4_gainsOfShifts_52 ?_
        refine N.getf dX4_gainsOfShifts_53 flX4_16 yO rfl ?_
        refine N.iload3 dX4_gainsOfShifts_56 ?_
        refine N.vi1 dX4_gainsOfShifts_57 vX1_nextLine lkX4_346 (Sp.n1i fun W => s_X1_nextLine W _ _ _ _) yO1 rfl (Nat.le_of_ble_eq_true rfl) (Nat.le_of_ble_eq_true rfl) (Nat.zero_le _) (Nat.zero_le _) ?_
        rintro _ _ _ ⟨rfl, rfl, rfl⟩
        refine N.istore3 dX4_gainsOfShifts_60 rfl ?_
        refine N.aload0 dX4_gainsOfShifts_61 ?_
        refine N.getf dX4_gainsOfShifts_62 flX4_16 yO rfl ?_
        refine N.iload3 dX4_gainsOfShifts_65 ?_
        refine N.vi1 dX4_gainsOfShifts_66 vX1_beginChange lkX4_265 (Sp.n1i fun W => s_X1_beginChange W _ _ _ _ (next_in hl) ho) yO1 rfl (Nat.le_of_ble_eq_true rfl) (Nat.le_of_ble_eq_true rfl) (Nat.zero_le _) (Nat.zero_le _) ?_
        rintro _ _ _ ⟨rfl, rfl, rfl⟩
        refine N.pop dX4_gainsOfShifts_69 rfl ?_
        have c44b : ¬ nn0 ≤ g := fun q => c44 ((nI_leI (by omega) (by omega)).mpr q)
        have eU : sfU g u l = chgV u (nextLF u l) := by rw [sfU, if_neg c49]
        have eL : sfL g u l = nextLF u l := by rw [sfL, if_neg c49]
        have hU : okP (chgV u (nextLF u l)) := eU ▸ sfU_ok ho
        refine N.iload4 dX4_gainsOfShifts_70 ?_
        refine N.aload0 dX4_gainsOfShifts_72 ?_
        refine N.getf dX4_gainsOfShifts_73 flX4_16 yO rfl ?_
        refine N.iload1 dX4_gainsOfShifts_76 ?_
        refine N.iload2 dX4_gainsOfShifts_77 ?_
        refine N.iload5 dX4_gainsOfShifts_78 ?_
        refine N.isub dX4_gainsOfShifts_80 ?_
        refine N.mmin dX4_gainsOfShifts_81 mkX4_232 (Nat.le_of_ble_eq_true rfl) (Nat.le_of_ble_eq_true rfl) (Nat.zero_le _) (Nat.zero_le _) ?_
        refine N.eqI (min_n (by omega) (by omega) (by omega)) ?_
        refine N.vi1 dX4_gainsOfShifts_84 vX1_gainsIn lkX4_253 (Sp.n1i fun W => s_X1_gainsIn W _ _ _ _ (min kk (nn0 - g)) (by omega) rfl hU) yO1 rfl (Nat.le_of_ble_eq_true rfl) (Nat.le_of_ble_eq_true rfl) (Nat.zero_le _) (Nat.zero_le _) ?_
        rintro _ _ _ ⟨rfl, rfl, rfl⟩
        refine N.iadd dX4_gainsOfShifts_87 ?_
        refine N.istore4 dX4_gainsOfShifts_88 rfl ?_
        refine N.iload5 dX4_gainsOfShifts_90 ?_
        refine N.iconst (v := 5) dX4_gainsOfShifts_92 (by decide) ?_
        refine N.iload1 dX4_gainsOfShifts_93 ?_
        refine N.mmax dX4_gainsOfShifts_94 mkX4_327 (Nat.le_of_ble_eq_true rfl) (Nat.le_of_ble_eq_true rfl) (Nat.zero_le _) (Nat.zero_le _) ?_
        refine N.eqI (max_5 hkk (by omega)) ?_
        refine N.iadd dX4_gainsOfShifts_97 ?_
        refine N.istore5 dX4_gainsOfShifts_98 rfl ?_
        refine N.goto (tgt := 41) dX4_gainsOfShifts_100 (by decide) ?_
        rw [shf, if_neg c44b, eU, eL] at hP
        exact N.eqL (by rw [nI_add]) (ih (g + kk) _ _ _ (okP.oursV hU _) (eL ▸ sfL_in hl) (by omega) (by omega) hP)
set_option maxRecDepth 100000 in
theorem s_X4_gainsOfShifts {K : Kx} (w : Wd) (a sz : Nat) (x : XV) (u : CV) (p : Int32 × Int32) (k n : Int32) (h : okP (x.1 0)) (hf : ¬ firstLF (x.1 0) = -1) (kk nn0 : Nat) (hkk : 5 ≤ kk) (hkm : kk ≤ 99) (hnn : nn0 ≤ 600) (ek : k = nI kk) (en : n = nI nn0) : Sp K mX4_gainsOfShifts 6 0 0 [.ref a, .int k, .int n] (putU K w a x u p) sz (Qi fun r w' sz' => r = shfF (x.1 0) k n ∧ sz' = sz ∧ ∃ u', w' = putU K w a x u' p) := by
  refine Sp.ofN [some (.ref a), some (.int k), some (.int n), none, none, none] rfl rfl rfl (Nat.le_of_ble_eq_true rfl) ?_
  subst ek en
  refine N.aload0 dX4_gainsOfShifts_0 ?_
  refine N.getf dX4_gainsOfShifts_1 flX4_16 yO rfl ?_
  refine N.aload0 dX4_gainsOfShifts_4 ?_
  refine N.getf dX4_gainsOfShifts_5 flX4_10 yO rfl ?_
  refine N.vv1 dX4_gainsOfShifts_8 vX1_takeFrom lkX4_161 (Sp.tk) yO1 rfl (Nat.le_of_ble_eq_true rfl) (Nat.le_of_ble_eq_true rfl) (Nat.zero_le _) (Nat.zero_le _) ?_
  rintro _ _ ⟨rfl, rfl⟩
  refine N.aload0 dX4_gainsOfShifts_11 ?_
  refine N.getf dX4_gainsOfShifts_12 flX4_16 yO rfl ?_
  refine N.vi0 dX4_gainsOfShifts_15 vX1_firstLine lkX4_217 (Sp.n1i fun W => s_X1_firstLine W _ _ _) yO1 rfl (Nat.le_of_ble_eq_true rfl) (Nat.le_of_ble_eq_true rfl) (Nat.zero_le _) (Nat.zero_le _) ?_
  rintro _ _ _ ⟨rfl, rfl, rfl⟩
  refine N.istore3 dX4_gainsOfShifts_18 rfl ?_
  refine N.aload0 dX4_gainsOfShifts_19 ?_
  refine N.getf dX4_gainsOfShifts_20 flX4_16 yO rfl ?_
  refine N.aload0 dX4_gainsOfShifts_23 ?_
  refine N.getf dX4_gainsOfShifts_24 flX4_16 yO rfl ?_
  refine N.getf dX4_gainsOfShifts_27 flX4_142 yO1 rfl ?_
  refine N.iload3 dX4_gainsOfShifts_30 ?_
  refine N.iald dX4_gainsOfShifts_31 yA1_4 (first_in hf) ?_
  refine N.vv1 dX4_gainsOfShifts_32 vX1_putOn lkX4_256 (Sp.n1v fun W => s_X1_putOn W _ _ _ _) yO1 rfl (Nat.le_of_ble_eq_true rfl) (Nat.le_of_ble_eq_true rfl) (Nat.zero_le _) (Nat.zero_le _) ?_
  rintro _ _ ⟨rfl, rfl⟩
  refine N.iconst (v := 0) dX4_gainsOfShifts_35 (by decide) ?_
  refine N.istore4 dX4_gainsOfShifts_36 rfl ?_
  refine N.iconst (v := 0) dX4_gainsOfShifts_38 (by decide) ?_
  refine N.istore5 dX4_gainsOfShifts_39 rfl ?_
  exact N.wk (by exact ⟨rfl, rfl, rfl, rfl, rfl, rfl, trivial⟩) (l_X4_gainsOfShifts w a _ x kk nn0 hkk hkm hnn _ _ (nn0 + 1) 0 _ _ _ (h.on _) (first_in hf) (by omega) (by omega) (fun _ => ⟨(by rw [shfF, nI_clamp (by omega), nI_clamp (by omega)]), rfl, _, rfl⟩))
theorem in_n5 {v : Int32} (h : ¬ isInF v 5 99 = 0) : ∃ m, 5 ≤ m ∧ m ≤ 99 ∧ v = nI m := by
  obtain ⟨h1, h2⟩ := isIn_ne h
  have h0 : ¬ v < 0 := fun q => h1 (by
    rw [Int32.lt_iff_toInt_lt] at q ⊢
    have e1 : (0 : Int32).toInt = 0 := rfl
    have e2 : (5 : Int32).toInt = 5 := rfl
    omega)
  obtain ⟨m, hm, e⟩ := nI_of2 (M := 99) (n := 99) (by decide) h0 (Int32.not_lt.mp h2)
  refine ⟨m, ?_, hm, e⟩
  rcases Nat.lt_or_ge m 5 with q | q
  · exact absurd (by rw [e]; exact nI_lt (b := 5) q (by omega)) h1
  · exact q
def bshP (v : CV) (n : Int32) : Nat → Int32 × Int32 := pkA (fun k => nI (k + 5)) (fun k => shfF v (nI (k + 5)) n)
def xshifts (x : XV) (k n : Int32) : Int32 × XV := if isInF k 5 99 = 0 then rg x (-2) else if isInF n 0 600 = 0 then rg x (-2) else if firstLF (x.1 0) = -1 then rg x (-5) else (shfF (x.1 0) k n, x)
set_option maxRecDepth 100000 in
theorem s_X4_shifts {K : Kx} (w : Wd) (a sz : Nat) (x : XV) (k : Int32) (n : Int32) (hX : okX x)  : Sp K mX4_shifts 9 0 0 [.ref a, .int k, .int n] (putX K w a x) sz (Qi fun r w' sz' => r = (xshifts x k n).1 ∧ sz' = sz ∧ ∃ x', w' = putX K w a x' ∧ rel x' = rel (xshifts x k n).2) := by
  refine Sp.ofN [some (.ref a), some (.int k), some (.int n)] rfl rfl rfl (Nat.le_of_ble_eq_true rfl) ?_
  have h : okP (x.1 0) := hX.1
  refine N.eqW (congrArg (putX K w a) (xup_self x)) ?_
  generalize x.1 1 = u0
  generalize x.2.2.2.2.1 = p0
  refine N.iload1 dX4_shifts_0 ?_
  refine N.iconst (v := 5) dX4_shifts_1 (by decide) ?_
  refine N.bipush (v := 99) dX4_shifts_2 (by decide) ?_
  refine N.si3 dX4_shifts_4 vX4_isIn lkX4_58 (s_X4_isIn _ _ _ _ _) rfl (Nat.le_of_ble_eq_true rfl) (Nat.le_of_ble_eq_true rfl) (Nat.zero_le _) (Nat.zero_le _) ?_
  rintro _ _ _ ⟨rfl, rfl, rfl⟩
  refine N.if_eq (tgt := 21) dX4_shifts_7 (by decide) (fun c7 => ?_) (fun c7 => ?_)
  · refine N.aload0 dX4_shifts_21 ?_
    refine N.bipush (v := -2) dX4_shifts_22 (by decide) ?_
    refine N.vi1 dX4_shifts_24 vX4_refuseGains lkX4_250 (s_X4_refuseGains _ _ _ _ _ _ _) yO rfl (Nat.le_of_ble_eq_true rfl) (Nat.le_of_ble_eq_true rfl) (Nat.zero_le _) (Nat.zero_le _) ?_
    rintro _ _ _ ⟨rfl, rfl, rfl⟩
    exact N.iret dX4_shifts_27 rfl (Nat.zero_le _) (Nat.zero_le _) ⟨_, rfl, (by rw [xshifts, if_pos c7]; exact rg_ok)⟩
  · refine N.iload2 dX4_shifts_10 ?_
    refine N.iconst (v := 0) dX4_shifts_11 (by decide) ?_
    refine N.sipush (v := 600) dX4_shifts_12 (by decide) ?_
    refine N.si3 dX4_shifts_15 vX4_isIn lkX4_58 (s_X4_isIn _ _ _ _ _) rfl (Nat.le_of_ble_eq_true rfl) (Nat.le_of_ble_eq_true rfl) (Nat.zero_le _) (Nat.zero_le _) ?_
    rintro _ _ _ ⟨rfl, rfl, rfl⟩
    refine N.if_ne (tgt := 28) dX4_shifts_18 (by decide) (fun c18 => ?_) (fun c18 => ?_)
    · refine N.aload0 dX4_shifts_28 ?_
      refine N.getf dX4_shifts_29 flX4_10 yO rfl ?_
      refine N.vi0 dX4_shifts_32 vX1_firstLine lkX4_217 (Sp.n0i fun W => s_X1_firstLine W _ _ _) yO0 rfl (Nat.le_of_ble_eq_true rfl) (Nat.le_of_ble_eq_true rfl) (Nat.zero_le _) (Nat.zero_le _) ?_
      rintro _ _ _ ⟨rfl, rfl, rfl⟩
      refine N.iconst (v := -1) dX4_shifts_35 (by decide) ?_
      refine N.icmp_ne (tgt := 46) dX4_shifts_36 (by decide) (fun c36 => ?_) (fun c36 => ?_)
      · obtain ⟨kk, hk5, hk9, ek⟩ := in_n5 c7
        obtain ⟨m, hm, hn⟩ := in_n (N' := 600) (by decide) c18
        refine N.aload0 dX4_shifts_46 ?_
        refine N.iload1 dX4_shifts_47 ?_
        refine N.iload2 dX4_shifts_48 ?_
        refine N.vi2 dX4_shifts_49 vX4_gainsOfShifts lkX4_268 (s_X4_gainsOfShifts _ _ _ _ _ _ _ _ h c36 kk m hk5 hk9 hm ek hn) yO rfl (Nat.le_of_ble_eq_true rfl) (Nat.le_of_ble_eq_true rfl) (Nat.zero_le _) (Nat.zero_le _) ?_
        rintro _ _ _ ⟨rfl, rfl, u2, rfl⟩
        exact N.iret dX4_shifts_52 rfl (Nat.zero_le _) (Nat.zero_le _) ⟨_, rfl, (by rw [xshifts, if_neg c7, if_neg c18, if_neg c36]; exact ⟨rfl, rfl, _, rfl, rel_xup⟩)⟩
      · refine N.aload0 dX4_shifts_39 ?_
        refine N.bipush (v := -5) dX4_shifts_40 (by decide) ?_
        refine N.vi1 dX4_shifts_42 vX4_refuseGains lkX4_250 (s_X4_refuseGains _ _ _ _ _ _ _) yO rfl (Nat.le_of_ble_eq_true rfl) (Nat.le_of_ble_eq_true rfl) (Nat.zero_le _) (Nat.zero_le _) ?_
        rintro _ _ _ ⟨rfl, rfl, rfl⟩
        exact N.iret dX4_shifts_45 rfl (Nat.zero_le _) (Nat.zero_le _) ⟨_, rfl, (by rw [xshifts, if_neg c7, if_neg c18, if_pos c36]; exact rg_ok)⟩
    · refine N.aload0 dX4_shifts_21 ?_
      refine N.bipush (v := -2) dX4_shifts_22 (by decide) ?_
      refine N.vi1 dX4_shifts_24 vX4_refuseGains lkX4_250 (s_X4_refuseGains _ _ _ _ _ _ _) yO rfl (Nat.le_of_ble_eq_true rfl) (Nat.le_of_ble_eq_true rfl) (Nat.zero_le _) (Nat.zero_le _) ?_
      rintro _ _ _ ⟨rfl, rfl, rfl⟩
      exact N.iret dX4_shifts_27 rfl (Nat.zero_le _) (Nat.zero_le _) ⟨_, rfl, (by rw [xshifts, if_neg c7, if_pos c18]; exact rg_ok)⟩
set_option maxRecDepth 100000 in
theorem l_X4_bestShift {K : Kx} (w : Wd) (a sz : Nat) (x : XV) (n : Int32) (hf : ¬ firstLF (x.1 0) = -1) (h : okP (x.1 0)) (m : Nat) (hm : m ≤ 600) (hn : n = nI m) (P : Int32 → Wd → Nat → Prop) (hP : ∀ u' p', P ((bshP (x.1 0) n 95).1) (putU K w a x u' p') sz) : ∀ (nn k : Nat) (u : CV), k + nn = 95 → N K mX4_bestShift 9 0 0 (Qi P) 45 [some (.ref a), some (.int n), some (.int (nI (k + 5)))] [] (putU K w a x u (bshP (x.1 0) n k)) sz 0 0 := by
  intro nn
  induction nn with
  | zero =>
    intro k u hk
    obtain rfl : k = 95 := by omega
    refine N.iload2 dX4_bestShift_45 ?_
    refine N.bipush (v := 99) dX4_bestShift_46 (by decide) ?_
    refine N.icmp_gt (tgt := 71) dX4_bestShift_48 (by decide) (fun c48 => ?_) (fun c48 => absurd (by decide) c48)
    refine N.aload0 dX4_bestShift_71 ?_
    refine N.getf dX4_bestShift_72 flX4_45 yO rfl ?_
    refine N.getf dX4_bestShift_75 flX4_243 yP rfl ?_
    exact N.iret dX4_bestShift_78 rfl (Nat.zero_le _) (Nat.zero_le _) ⟨_, rfl, (hP _ _)⟩
  | succ nn ih =>
    intro k u hk
    refine N.iload2 dX4_bestShift_45 ?_
    refine N.bipush (v := 99) dX4_bestShift_46 (by decide) ?_
    refine N.icmp_gt (tgt := 71) dX4_bestShift_48 (by decide) (fun c48 => absurd c48 (nI_nlt (a := 99) (b := k + 5) (by omega) (by omega))) (fun c48 => ?_)
    refine N.aload0 dX4_bestShift_51 ?_
    refine N.getf dX4_bestShift_52 flX4_45 yO rfl ?_
    refine N.iload2 dX4_bestShift_55 ?_
    refine N.aload0 dX4_bestShift_56 ?_
    refine N.iload2 dX4_bestShift_57 ?_
    refine N.iload1 dX4_bestShift_58 ?_
    refine N.vi2 dX4_bestShift_59 vX4_gainsOfShifts lkX4_268 (s_X4_gainsOfShifts _ _ _ _ _ _ _ _ h hf (k + 5) m (by omega) (by omega) hm rfl hn) yO rfl (Nat.le_of_ble_eq_true rfl) (Nat.le_of_ble_eq_true rfl) (Nat.zero_le _) (Nat.zero_le _) ?_
    rintro _ _ _ ⟨rfl, rfl, u2, rfl⟩
    refine N.vv2 dX4_bestShift_62 vX0_offer lkX4_240 (Sp.pv fun W => s_X0_offer W _ _ _ _ _) yP rfl (Nat.le_of_ble_eq_true rfl) (Nat.le_of_ble_eq_true rfl) (Nat.zero_le _) (Nat.zero_le _) ?_
    rintro _ _ ⟨rfl, rfl⟩
    refine N.iinc2 dX4_bestShift_65 rfl (nI_inc _) ?_
    refine N.goto (tgt := 45) dX4_bestShift_68 (by decide) ?_
    exact ih (k + 1) _ (by omega)
def xbsh (x : XV) (n : Int32) : Int32 × XV := if isInF n 0 600 = 0 then rf x (-2) else if firstLF (x.1 0) = -1 then rf x (-5) else ((bshP (x.1 0) n 95).1, x)
set_option maxRecDepth 100000 in
theorem s_X4_bestShift {K : Kx} (w : Wd) (a sz : Nat) (x : XV) (n : Int32) (hX : okX x)  : Sp K mX4_bestShift 9 0 0 [.ref a, .int n] (putX K w a x) sz (Qi fun r w' sz' => r = (xbsh x n).1 ∧ sz' = sz ∧ ∃ x', w' = putX K w a x' ∧ rel x' = rel (xbsh x n).2) := by
  refine Sp.ofN [some (.ref a), some (.int n), none] rfl rfl rfl (Nat.le_of_ble_eq_true rfl) ?_
  have h : okP (x.1 0) := hX.1
  refine N.eqW (congrArg (putX K w a) (xup_self x)) ?_
  generalize x.1 1 = u0
  generalize x.2.2.2.2.1 = p0
  refine N.iload1 dX4_bestShift_0 ?_
  refine N.iconst (v := 0) dX4_bestShift_1 (by decide) ?_
  refine N.sipush (v := 600) dX4_bestShift_2 (by decide) ?_
  refine N.si3 dX4_bestShift_5 vX4_isIn lkX4_58 (s_X4_isIn _ _ _ _ _) rfl (Nat.le_of_ble_eq_true rfl) (Nat.le_of_ble_eq_true rfl) (Nat.zero_le _) (Nat.zero_le _) ?_
  rintro _ _ _ ⟨rfl, rfl, rfl⟩
  refine N.if_ne (tgt := 18) dX4_bestShift_8 (by decide) (fun c8 => ?_) (fun c8 => ?_)
  · refine N.aload0 dX4_bestShift_18 ?_
    refine N.getf dX4_bestShift_19 flX4_10 yO rfl ?_
    refine N.vi0 dX4_bestShift_22 vX1_firstLine lkX4_217 (Sp.n0i fun W => s_X1_firstLine W _ _ _) yO0 rfl (Nat.le_of_ble_eq_true rfl) (Nat.le_of_ble_eq_true rfl) (Nat.zero_le _) (Nat.zero_le _) ?_
    rintro _ _ _ ⟨rfl, rfl, rfl⟩
    refine N.iconst (v := -1) dX4_bestShift_25 (by decide) ?_
    refine N.icmp_ne (tgt := 36) dX4_bestShift_26 (by decide) (fun c26 => ?_) (fun c26 => ?_)
    · obtain ⟨m, hm, hn⟩ := in_n (N' := 600) (by decide) c8
      have ho := h
      refine N.aload0 dX4_bestShift_36 ?_
      refine N.getf dX4_bestShift_37 flX4_45 yO rfl ?_
      refine N.vv0 dX4_bestShift_40 vX0_begin lkX4_237 (Sp.pv fun W => s_X0_begin W _ _ _) yP rfl (Nat.le_of_ble_eq_true rfl) (Nat.le_of_ble_eq_true rfl) (Nat.zero_le _) (Nat.zero_le _) ?_
      rintro _ _ ⟨rfl, rfl⟩
      refine N.iconst (v := 5) dX4_bestShift_43 (by decide) ?_
      refine N.istore2 dX4_bestShift_44 rfl ?_
      exact N.wk (by exact ⟨rfl, rfl, rfl, trivial⟩) (l_X4_bestShift w a _ x n c26 h m hm hn _ (fun _ _ => (pub_ok (by rw [xbsh, if_neg c8, if_neg c26]))) 95 0 _ (by omega))
    · refine N.aload0 dX4_bestShift_29 ?_
      refine N.bipush (v := -5) dX4_bestShift_30 (by decide) ?_
      refine N.vi1 dX4_bestShift_32 vX4_refuse lkX4_62 (s_X4_refuse _ _ _ _ _ _ _) yO rfl (Nat.le_of_ble_eq_true rfl) (Nat.le_of_ble_eq_true rfl) (Nat.zero_le _) (Nat.zero_le _) ?_
      rintro _ _ _ ⟨rfl, rfl, rfl⟩
      exact N.iret dX4_bestShift_35 rfl (Nat.zero_le _) (Nat.zero_le _) ⟨_, rfl, (by rw [xbsh, if_neg c8, if_pos c26]; exact rf_ok)⟩
  · refine N.aload0 dX4_bestShift_11 ?_
    refine N.bipush (v := -2) dX4_bestShift_12 (by decide) ?_
    refine N.vi1 dX4_bestShift_14 vX4_refuse lkX4_62 (s_X4_refuse _ _ _ _ _ _ _) yO rfl (Nat.le_of_ble_eq_true rfl) (Nat.le_of_ble_eq_true rfl) (Nat.zero_le _) (Nat.zero_le _) ?_
    rintro _ _ _ ⟨rfl, rfl, rfl⟩
    exact N.iret dX4_bestShift_17 rfl (Nat.zero_le _) (Nat.zero_le _) ⟨_, rfl, (by rw [xbsh, if_pos c8]; exact rf_ok)⟩
def mchP (v : CV) (t : Int32) : Nat → Int32 × Int32 := pk (fun k => ¬ hasPlF v (nI k) = 0) nI (fun k => meetG v (nI k) t)
def mchG (v : CV) (t q : Int32) : Int32 := if q = 0 then (mchP v t 4).1 else (mchP v t 4).2
theorem hp_le {v : SV} (h : szOk v) {n : Int32} (c : ¬ isInF n 1 40 = 0) : ∃ m, m ≤ 40 ∧ n = nI m := by
  obtain ⟨m, hm, _, e⟩ := in_n1 (N' := 40) (by decide) c
  exact ⟨m, hm, e⟩
def mchA (x : XV) (s n : Int32) : Int32 := allF (x.2.2.1 s.toNatClampNeg).1 1 999 0 n.toNatClampNeg
theorem mchA_n {x : XV} {s n : Int32} {m : Nat} (hm : m ≤ 40) (e : n = nI m) : allF (x.2.2.1 s.toNatClampNeg).1 1 999 0 m = mchA x s n := by rw [mchA, e, nI_clamp (by omega)]
set_option maxRecDepth 100000 in
theorem l_X4_match {K : Kx} (w : Wd) (a sz : Nat) (x : XV) (s n q t : Int32) (rr : Nat) (h : okP (x.1 0)) (P : Int32 → Wd → Nat → Prop) (hP : ∀ u' p', P (mchG (x.1 0) t q) (putU K w a x u' p') sz) : ∀ (nn k : Nat) (u : CV), k + nn = 4 → N K mX4_match 9 0 0 (Qi P) 125 [some (.ref a), some (.int s), some (.int n), some (.int q), some (.ref rr), some (.int t), some (.int (nI k))] [] (putU K w a x u (mchP (x.1 0) t k)) sz 0 0 := by
  intro nn
  induction nn with
  | zero =>
    intro k u hk
    obtain rfl : k = 4 := by omega
    refine N.iload6 dX4_match_125 ?_
    refine N.iconst (v := 4) dX4_match_127 (by decide) ?_
    refine N.icmp_ge (tgt := 166) dX4_match_128 (by decide) (fun c128 => ?_) (fun c128 => absurd (by decide) c128)
    refine N.iload3 dX4_match_166 ?_
    refine N.if_ne (tgt := 180) dX4_match_167 (by decide) (fun c167 => ?_) (fun c167 => ?_)
    · refine N.aload0 dX4_match_180 ?_
      refine N.getf dX4_match_181 flX4_45 yO rfl ?_
      refine N.getf dX4_match_184 flX4_286 yP rfl ?_
      exact N.iret dX4_match_187 rfl (Nat.zero_le _) (Nat.zero_le _) ⟨_, rfl, (by have hQ := fun u' p' => hP u' p'; rw [mchG, if_neg c167] at hQ; exact hQ _ _)⟩
    · refine N.aload0 dX4_match_170 ?_
      refine N.getf dX4_match_171 flX4_45 yO rfl ?_
      refine N.getf dX4_match_174 flX4_243 yP rfl ?_
      refine N.goto (tgt := 187) dX4_match_177 (by decide) ?_
      exact N.iret dX4_match_187 rfl (Nat.zero_le _) (Nat.zero_le _) ⟨_, rfl, (by have hQ := fun u' p' => hP u' p'; rw [mchG, if_pos c167] at hQ; exact hQ _ _)⟩
  | succ nn ih =>
    intro k u hk
    refine N.iload6 dX4_match_125 ?_
    refine N.iconst (v := 4) dX4_match_127 (by decide) ?_
    refine N.icmp_ge (tgt := 166) dX4_match_128 (by decide) (fun c128 => absurd c128 (nI_ge (a := k) (b := 4) (by omega) (by omega))) (fun c128 => ?_)
    refine N.aload0 dX4_match_131 ?_
    refine N.getf dX4_match_132 flX4_10 yO rfl ?_
    refine N.iload6 dX4_match_135 ?_
    refine N.vi1 dX4_match_137 vX1_hasPlayers lkX4_208 (Sp.n0i fun W => s_X1_hasPlayers W _ _ _ _) yO0 rfl (Nat.le_of_ble_eq_true rfl) (Nat.le_of_ble_eq_true rfl) (Nat.zero_le _) (Nat.zero_le _) ?_
    rintro _ _ _ ⟨rfl, rfl, rfl⟩
    refine N.if_eq (tgt := 160) dX4_match_140 (by decide) (fun c140 => ?_) (fun c140 => ?_)
    · refine N.iinc6 dX4_match_160 rfl (nI_inc _) ?_
      refine N.goto (tgt := 125) dX4_match_163 (by decide) ?_
      exact N.eqW (congrArg (putU K w a x _) (pk_f (not_not_intro c140))) (N.wk (by exact ⟨rfl, rfl, rfl, rfl, rfl, rfl, rfl, trivial⟩) (ih (k + 1) _ (by omega)))
    · refine N.aload0 dX4_match_143 ?_
      refine N.getf dX4_match_144 flX4_45 yO rfl ?_
      refine N.iload6 dX4_match_147 ?_
      refine N.aload0 dX4_match_149 ?_
      refine N.iload6 dX4_match_150 ?_
      refine N.iload5 dX4_match_152 ?_
      refine N.vi2 dX4_match_154 vX4_gainsOfMeeting lkX4_274 (s_X4_gainsOfMeeting _ _ _ _ _ _ _ _ h (in4 (by omega))) yO rfl (Nat.le_of_ble_eq_true rfl) (Nat.le_of_ble_eq_true rfl) (Nat.zero_le _) (Nat.zero_le _) ?_
      rintro _ _ _ ⟨rfl, rfl, rfl⟩
      refine N.vv2 dX4_match_157 vX0_offer lkX4_240 (Sp.pv fun W => s_X0_offer W _ _ _ _ _) yP rfl (Nat.le_of_ble_eq_true rfl) (Nat.le_of_ble_eq_true rfl) (Nat.zero_le _) (Nat.zero_le _) ?_
      rintro _ _ ⟨rfl, rfl⟩
      refine N.iinc6 dX4_match_160 rfl (nI_inc _) ?_
      refine N.goto (tgt := 125) dX4_match_163 (by decide) ?_
      exact N.eqW (congrArg (putU K w a x _) (pk_t c140)) (N.wk (by exact ⟨rfl, rfl, rfl, rfl, rfl, rfl, rfl, trivial⟩) (ih (k + 1) _ (by omega)))
def xmatch (x : XV) (s n q : Int32) : Int32 × XV := if isInF s 0 7 = 0 then rg x (-2) else if isInF n 1 40 = 0 then rg x (-2) else if isInF q 0 1 = 0 then rg x (-2) else if isRowF (x.2.2.1 s.toNatClampNeg) = 0 then rg x (whyF (x.2.2.1 s.toNatClampNeg)) else if hasPF (x.2.2.1 s.toNatClampNeg) 0 n = 0 then rg x (-2) else if mchA x s n = 0 then rg x (-2) else if firstLF (x.1 0) = -1 then rg x (-5) else (mchG (x.1 0) (grF (x.2.2.1 s.toNatClampNeg).1 n.toNatClampNeg).toInt32 q, x)
set_option maxRecDepth 100000 in
theorem s_X4_match {K : Kx} (w : Wd) (a sz : Nat) (x : XV) (s : Int32) (n : Int32) (q : Int32) (hX : okX x)  : Sp K mX4_match 9 0 0 [.ref a, .int s, .int n, .int q] (putX K w a x) sz (Qi fun r w' sz' => r = (xmatch x s n q).1 ∧ sz' = sz ∧ ∃ x', w' = putX K w a x' ∧ rel x' = rel (xmatch x s n q).2) := by
  refine Sp.ofN [some (.ref a), some (.int s), some (.int n), some (.int q), none, none, none] rfl rfl rfl (Nat.le_of_ble_eq_true rfl) ?_
  have h : okP (x.1 0) := hX.1
  refine N.eqW (congrArg (putX K w a) (xup_self x)) ?_
  generalize x.1 1 = u0
  generalize x.2.2.2.2.1 = p0
  refine N.iload1 dX4_match_0 ?_
  refine N.si1 dX4_match_1 vX4_isShelf lkX4_54 (s_X4_isShelf _ _ _) rfl (Nat.le_of_ble_eq_true rfl) (Nat.le_of_ble_eq_true rfl) (Nat.zero_le _) (Nat.zero_le _) ?_
  rintro _ _ _ ⟨rfl, rfl, rfl⟩
  refine N.if_eq (tgt := 26) dX4_match_4 (by decide) (fun c4 => ?_) (fun c4 => ?_)
  · refine N.aload0 dX4_match_26 ?_
    refine N.bipush (v := -2) dX4_match_27 (by decide) ?_
    refine N.vi1 dX4_match_29 vX4_refuseGains lkX4_250 (s_X4_refuseGains _ _ _ _ _ _ _) yO rfl (Nat.le_of_ble_eq_true rfl) (Nat.le_of_ble_eq_true rfl) (Nat.zero_le _) (Nat.zero_le _) ?_
    rintro _ _ _ ⟨rfl, rfl, rfl⟩
    exact N.iret dX4_match_32 rfl (Nat.zero_le _) (Nat.zero_le _) ⟨_, rfl, (by rw [xmatch, if_pos c4]; exact rg_ok)⟩
  · refine N.iload2 dX4_match_7 ?_
    refine N.iconst (v := 1) dX4_match_8 (by decide) ?_
    refine N.bipush (v := 40) dX4_match_9 (by decide) ?_
    refine N.si3 dX4_match_11 vX4_isIn lkX4_58 (s_X4_isIn _ _ _ _ _) rfl (Nat.le_of_ble_eq_true rfl) (Nat.le_of_ble_eq_true rfl) (Nat.zero_le _) (Nat.zero_le _) ?_
    rintro _ _ _ ⟨rfl, rfl, rfl⟩
    refine N.if_eq (tgt := 26) dX4_match_14 (by decide) (fun c14 => ?_) (fun c14 => ?_)
    · refine N.aload0 dX4_match_26 ?_
      refine N.bipush (v := -2) dX4_match_27 (by decide) ?_
      refine N.vi1 dX4_match_29 vX4_refuseGains lkX4_250 (s_X4_refuseGains _ _ _ _ _ _ _) yO rfl (Nat.le_of_ble_eq_true rfl) (Nat.le_of_ble_eq_true rfl) (Nat.zero_le _) (Nat.zero_le _) ?_
      rintro _ _ _ ⟨rfl, rfl, rfl⟩
      exact N.iret dX4_match_32 rfl (Nat.zero_le _) (Nat.zero_le _) ⟨_, rfl, (by rw [xmatch, if_neg c4, if_pos c14]; exact rg_ok)⟩
    · refine N.iload3 dX4_match_17 ?_
      refine N.iconst (v := 0) dX4_match_18 (by decide) ?_
      refine N.iconst (v := 1) dX4_match_19 (by decide) ?_
      refine N.si3 dX4_match_20 vX4_isIn lkX4_58 (s_X4_isIn _ _ _ _ _) rfl (Nat.le_of_ble_eq_true rfl) (Nat.le_of_ble_eq_true rfl) (Nat.zero_le _) (Nat.zero_le _) ?_
      rintro _ _ _ ⟨rfl, rfl, rfl⟩
      refine N.if_ne (tgt := 33) dX4_match_23 (by decide) (fun c23 => ?_) (fun c23 => ?_)
      · have hs := sh8 c4
        obtain ⟨m, hm, hn⟩ := hp_le (hX.2.2.1 _ hs) c14
        refine N.aload0 dX4_match_33 ?_
        refine N.getf dX4_match_34 flX4_34 yO rfl ?_
        refine N.iload1 dX4_match_37 ?_
        refine N.aald dX4_match_38 yH (sh8v c4) (xShv hs) ?_
        refine N.astore4 dX4_match_39 rfl ?_
        refine N.aload4 dX4_match_41 ?_
        refine N.vi0 dX4_match_43 vX2_isRow lkX4_70 (Sp.shi hs fun W => s_X2_isRow W _ _ _) (yS hs) rfl (Nat.le_of_ble_eq_true rfl) (Nat.le_of_ble_eq_true rfl) (Nat.zero_le _) (Nat.zero_le _) ?_
        rintro _ _ _ ⟨rfl, rfl, rfl⟩
        refine N.if_ne (tgt := 59) dX4_match_46 (by decide) (fun c46 => ?_) (fun c46 => ?_)
        · refine N.aload4 dX4_match_59 ?_
          refine N.iconst (v := 0) dX4_match_61 (by decide) ?_
          refine N.iload2 dX4_match_62 ?_
          refine N.vi2 dX4_match_63 vX2_hasPlaces lkX4_92 (Sp.shi hs fun W => s_X2_hasPlaces W _ _ _ _ _) (yS hs) rfl (Nat.le_of_ble_eq_true rfl) (Nat.le_of_ble_eq_true rfl) (Nat.zero_le _) (Nat.zero_le _) ?_
          rintro _ _ _ ⟨rfl, rfl, rfl⟩
          refine N.if_eq (tgt := 82) dX4_match_66 (by decide) (fun c66 => ?_) (fun c66 => ?_)
          · refine N.aload0 dX4_match_82 ?_
            refine N.bipush (v := -2) dX4_match_83 (by decide) ?_
            refine N.vi1 dX4_match_85 vX4_refuseGains lkX4_250 (s_X4_refuseGains _ _ _ _ _ _ _) yO rfl (Nat.le_of_ble_eq_true rfl) (Nat.le_of_ble_eq_true rfl) (Nat.zero_le _) (Nat.zero_le _) ?_
            rintro _ _ _ ⟨rfl, rfl, rfl⟩
            exact N.iret dX4_match_88 rfl (Nat.zero_le _) (Nat.zero_le _) ⟨_, rfl, (by rw [xmatch, if_neg c4, if_neg c14, if_neg c23, if_neg c46, if_pos c66]; exact rg_ok)⟩
          · refine N.aload4 dX4_match_69 ?_
            refine N.iload2 dX4_match_71 ?_
            refine N.lconst (v := 1) dX4_match_72 (by decide) ?_
            refine N.ldc2 dX4_match_73 ctX4_277 ?_
            refine N.vi3 dX4_match_76 vX2_areAllIn lkX4_279 (Sp.shi hs fun W => s_X2_areAllIn W _ _ _ _ _ _ m hm hn) (yS hs) rfl (Nat.le_of_ble_eq_true rfl) (Nat.le_of_ble_eq_true rfl) (Nat.zero_le _) (Nat.zero_le _) ?_
            rintro r1 _ _ ⟨er, rfl, rfl⟩
            obtain rfl : r1 = mchA x s n := er.trans (mchA_n hm hn)
            refine N.if_ne (tgt := 89) dX4_match_79 (by decide) (fun c79 => ?_) (fun c79 => ?_)
            · refine N.aload0 dX4_match_89 ?_
              refine N.getf dX4_match_90 flX4_10 yO rfl ?_
              refine N.vi0 dX4_match_93 vX1_firstLine lkX4_217 (Sp.n0i fun W => s_X1_firstLine W _ _ _) yO0 rfl (Nat.le_of_ble_eq_true rfl) (Nat.le_of_ble_eq_true rfl) (Nat.zero_le _) (Nat.zero_le _) ?_
              rintro _ _ _ ⟨rfl, rfl, rfl⟩
              refine N.iconst (v := -1) dX4_match_96 (by decide) ?_
              refine N.icmp_ne (tgt := 107) dX4_match_97 (by decide) (fun c97 => ?_) (fun c97 => ?_)
              · refine N.aload4 dX4_match_107 ?_
                refine N.iload2 dX4_match_109 ?_
                refine N.vi1 dX4_match_110 vX2_greatestOf lkX4_283 (Sp.shi hs fun W => s_X2_greatestOf W _ _ _ _ m hm hn) (yS hs) rfl (Nat.le_of_ble_eq_true rfl) (Nat.le_of_ble_eq_true rfl) (Nat.zero_le _) (Nat.zero_le _) ?_
                rintro _ _ _ ⟨rfl, rfl, rfl⟩
                refine N.istore5 dX4_match_113 rfl ?_
                refine N.aload0 dX4_match_115 ?_
                refine N.getf dX4_match_116 flX4_45 yO rfl ?_
                refine N.vv0 dX4_match_119 vX0_begin lkX4_237 (Sp.pv fun W => s_X0_begin W _ _ _) yP rfl (Nat.le_of_ble_eq_true rfl) (Nat.le_of_ble_eq_true rfl) (Nat.zero_le _) (Nat.zero_le _) ?_
                rintro _ _ ⟨rfl, rfl⟩
                refine N.iconst (v := 0) dX4_match_122 (by decide) ?_
                refine N.istore6 dX4_match_123 rfl ?_
                exact N.wk (by exact ⟨rfl, rfl, rfl, rfl, rfl, rfl, rfl, trivial⟩) (l_X4_match w a _ x s n q _ _ h _ (fun _ _ => pub_ok (by rw [xmatch, if_neg c4, if_neg c14, if_neg c23, if_neg c46, if_neg c66, if_neg c79, if_neg c97, hn, nI_clamp (by omega)])) 4 0 _ (by omega))
              · refine N.aload0 dX4_match_100 ?_
                refine N.bipush (v := -5) dX4_match_101 (by decide) ?_
                refine N.vi1 dX4_match_103 vX4_refuseGains lkX4_250 (s_X4_refuseGains _ _ _ _ _ _ _) yO rfl (Nat.le_of_ble_eq_true rfl) (Nat.le_of_ble_eq_true rfl) (Nat.zero_le _) (Nat.zero_le _) ?_
                rintro _ _ _ ⟨rfl, rfl, rfl⟩
                exact N.iret dX4_match_106 rfl (Nat.zero_le _) (Nat.zero_le _) ⟨_, rfl, (by rw [xmatch, if_neg c4, if_neg c14, if_neg c23, if_neg c46, if_neg c66, if_neg c79, if_pos c97]; exact rg_ok)⟩
            · refine N.aload0 dX4_match_82 ?_
              refine N.bipush (v := -2) dX4_match_83 (by decide) ?_
              refine N.vi1 dX4_match_85 vX4_refuseGains lkX4_250 (s_X4_refuseGains _ _ _ _ _ _ _) yO rfl (Nat.le_of_ble_eq_true rfl) (Nat.le_of_ble_eq_true rfl) (Nat.zero_le _) (Nat.zero_le _) ?_
              rintro _ _ _ ⟨rfl, rfl, rfl⟩
              exact N.iret dX4_match_88 rfl (Nat.zero_le _) (Nat.zero_le _) ⟨_, rfl, (by rw [xmatch, if_neg c4, if_neg c14, if_neg c23, if_neg c46, if_neg c66, if_pos c79]; exact rg_ok)⟩
        · refine N.aload0 dX4_match_49 ?_
          refine N.aload4 dX4_match_50 ?_
          refine N.vi0 dX4_match_52 vX2_whyNoRow lkX4_74 (Sp.shi hs fun W => s_X2_whyNoRow W _ _ _) (yS hs) rfl (Nat.le_of_ble_eq_true rfl) (Nat.le_of_ble_eq_true rfl) (Nat.zero_le _) (Nat.zero_le _) ?_
          rintro _ _ _ ⟨rfl, rfl, rfl⟩
          refine N.vi1 dX4_match_55 vX4_refuseGains lkX4_250 (s_X4_refuseGains _ _ _ _ _ _ _) yO rfl (Nat.le_of_ble_eq_true rfl) (Nat.le_of_ble_eq_true rfl) (Nat.zero_le _) (Nat.zero_le _) ?_
          rintro _ _ _ ⟨rfl, rfl, rfl⟩
          exact N.iret dX4_match_58 rfl (Nat.zero_le _) (Nat.zero_le _) ⟨_, rfl, (by rw [xmatch, if_neg c4, if_neg c14, if_neg c23, if_pos c46]; exact rg_ok)⟩
      · refine N.aload0 dX4_match_26 ?_
        refine N.bipush (v := -2) dX4_match_27 (by decide) ?_
        refine N.vi1 dX4_match_29 vX4_refuseGains lkX4_250 (s_X4_refuseGains _ _ _ _ _ _ _) yO rfl (Nat.le_of_ble_eq_true rfl) (Nat.le_of_ble_eq_true rfl) (Nat.zero_le _) (Nat.zero_le _) ?_
        rintro _ _ _ ⟨rfl, rfl, rfl⟩
        exact N.iret dX4_match_32 rfl (Nat.zero_le _) (Nat.zero_le _) ⟨_, rfl, (by rw [xmatch, if_neg c4, if_neg c14, if_pos c23]; exact rg_ok)⟩
