theorem yTP0 {K : Kx} {w : Wd} {a : Nat} {x : XV} {u : CV} {p : Int32 × Int32} {y : Int32} : upW (putU K w a x u p) (a + 25) (.inr (3, (tF (a + 25) x.2.1).set 1 (.int y))) = putU K w a (setT x (x.2.1.1, upd x.2.1.2 0 y)) u p := (congrArg (fun z => upW z (a + 25) _) yTe).trans (taP0.trans yTs)
theorem rests_ne (k : Int32) : ¬ restsF k = 0 := by
  unfold restsF
  split <;> decide
def rS (x : XV) (j : Nat) (y : Int32) : XV := setR x 0 (upd (x.1 0).1 j y, (x.1 0).2)
def xline (x : XV) (l s : Int32) : Int32 × XV := if isInF l 0 3 = 0 then rf x (-2) else if isInF s 0 (everyF (x.1 0)) = 0 then rf x (-2) else if 5 < bcF s then rf x (-2) else ((x.1 0).2 4 l.toNatClampNeg, setR x 0 ((x.1 0).1, upA (x.1 0).2 4 (upd ((x.1 0).2 4) l.toNatClampNeg s)))
set_option maxRecDepth 100000 in
theorem s_X4_line {K : Kx} (w : Wd) (a sz : Nat) (x : XV) (l : Int32) (s : Int32) (hX : okX x)  : Sp K mX4_line 9 0 0 [.ref a, .int l, .int s] (putX K w a x) sz (Qi fun r w' sz' => r = (xline x l s).1 ∧ sz' = sz ∧ ∃ x', w' = putX K w a x' ∧ rel x' = rel (xline x l s).2) := by
  refine Sp.ofN [some (.ref a), some (.int l), some (.int s), none, none] rfl rfl rfl (Nat.le_of_ble_eq_true rfl) ?_
  have h : okP (x.1 0) := hX.1
  refine N.eqW (congrArg (putX K w a) (xup_self x)) ?_
  generalize x.1 1 = u0
  generalize x.2.2.2.2.1 = p0
  refine N.iload1 dX4_line_0 ?_
  refine N.si1 dX4_line_1 vX4_isLine lkX4_131 (s_X4_isLine _ _ _) rfl (Nat.le_of_ble_eq_true rfl) (Nat.le_of_ble_eq_true rfl) (Nat.zero_le _) (Nat.zero_le _) ?_
  rintro _ _ _ ⟨rfl, rfl, rfl⟩
  refine N.if_eq (tgt := 34) dX4_line_4 (by decide) (fun c4 => ?_) (fun c4 => ?_)
  · refine N.iconst (v := 0) dX4_line_34 (by decide) ?_
    refine N.istore3 dX4_line_35 rfl ?_
    refine N.iload3 dX4_line_36 ?_
    refine N.if_ne (tgt := 47) dX4_line_37 (by decide) (fun c37 => absurd (by decide) c37) (fun c37 => ?_)
    refine N.aload0 dX4_line_40 ?_
    refine N.bipush (v := -2) dX4_line_41 (by decide) ?_
    refine N.vi1 dX4_line_43 vX4_refuse lkX4_62 (s_X4_refuse _ _ _ _ _ _ _) yO rfl (Nat.le_of_ble_eq_true rfl) (Nat.le_of_ble_eq_true rfl) (Nat.zero_le _) (Nat.zero_le _) ?_
    rintro _ _ _ ⟨rfl, rfl, rfl⟩
    exact N.iret dX4_line_46 rfl (Nat.zero_le _) (Nat.zero_le _) ⟨_, rfl, (by rw [xline, if_pos c4]; exact rf_ok)⟩
  · refine N.iload2 dX4_line_7 ?_
    refine N.iconst (v := 0) dX4_line_8 (by decide) ?_
    refine N.aload0 dX4_line_9 ?_
    refine N.getf dX4_line_10 flX4_10 yO rfl ?_
    refine N.vi0 dX4_line_13 vX1_everybody lkX4_134 (Sp.n0i fun W => s_X1_everybody W _ _ _) yO0 rfl (Nat.le_of_ble_eq_true rfl) (Nat.le_of_ble_eq_true rfl) (Nat.zero_le _) (Nat.zero_le _) ?_
    rintro _ _ _ ⟨rfl, rfl, rfl⟩
    refine N.si3 dX4_line_16 vX4_isIn lkX4_58 (s_X4_isIn _ _ _ _ _) rfl (Nat.le_of_ble_eq_true rfl) (Nat.le_of_ble_eq_true rfl) (Nat.zero_le _) (Nat.zero_le _) ?_
    rintro _ _ _ ⟨rfl, rfl, rfl⟩
    refine N.if_eq (tgt := 34) dX4_line_19 (by decide) (fun c19 => ?_) (fun c19 => ?_)
    · refine N.iconst (v := 0) dX4_line_34 (by decide) ?_
      refine N.istore3 dX4_line_35 rfl ?_
      refine N.iload3 dX4_line_36 ?_
      refine N.if_ne (tgt := 47) dX4_line_37 (by decide) (fun c37 => absurd (by decide) c37) (fun c37 => ?_)
      refine N.aload0 dX4_line_40 ?_
      refine N.bipush (v := -2) dX4_line_41 (by decide) ?_
      refine N.vi1 dX4_line_43 vX4_refuse lkX4_62 (s_X4_refuse _ _ _ _ _ _ _) yO rfl (Nat.le_of_ble_eq_true rfl) (Nat.le_of_ble_eq_true rfl) (Nat.zero_le _) (Nat.zero_le _) ?_
      rintro _ _ _ ⟨rfl, rfl, rfl⟩
      exact N.iret dX4_line_46 rfl (Nat.zero_le _) (Nat.zero_le _) ⟨_, rfl, (by rw [xline, if_neg c4, if_pos c19]; exact rf_ok)⟩
    · refine N.iload2 dX4_line_22 ?_
      refine N.si1 dX4_line_23 vJ6_bitCount_0f7a4 lkX4_137 (s_J6_bitCount_0f7a4 _ _ _) rfl (Nat.le_of_ble_eq_true rfl) (Nat.le_of_ble_eq_true rfl) (Nat.zero_le _) (Nat.zero_le _) ?_
      rintro _ _ _ ⟨rfl, rfl, rfl⟩
      refine N.iconst (v := 5) dX4_line_26 (by decide) ?_
      refine N.icmp_gt (tgt := 34) dX4_line_27 (by decide) (fun c27 => ?_) (fun c27 => ?_)
      · refine N.iconst (v := 0) dX4_line_34 (by decide) ?_
        refine N.istore3 dX4_line_35 rfl ?_
        refine N.iload3 dX4_line_36 ?_
        refine N.if_ne (tgt := 47) dX4_line_37 (by decide) (fun c37 => absurd (by decide) c37) (fun c37 => ?_)
        refine N.aload0 dX4_line_40 ?_
        refine N.bipush (v := -2) dX4_line_41 (by decide) ?_
        refine N.vi1 dX4_line_43 vX4_refuse lkX4_62 (s_X4_refuse _ _ _ _ _ _ _) yO rfl (Nat.le_of_ble_eq_true rfl) (Nat.le_of_ble_eq_true rfl) (Nat.zero_le _) (Nat.zero_le _) ?_
        rintro _ _ _ ⟨rfl, rfl, rfl⟩
        exact N.iret dX4_line_46 rfl (Nat.zero_le _) (Nat.zero_le _) ⟨_, rfl, (by rw [xline, if_neg c4, if_neg c19, if_pos c27]; exact rf_ok)⟩
      · refine N.iconst (v := 1) dX4_line_30 (by decide) ?_
        refine N.goto (tgt := 35) dX4_line_31 (by decide) ?_
        refine N.istore3 dX4_line_35 rfl ?_
        refine N.iload3 dX4_line_36 ?_
        refine N.if_ne (tgt := 47) dX4_line_37 (by decide) (fun c37 => ?_) (fun c37 => absurd c37 (by decide))
        refine N.aload0 dX4_line_47 ?_
        refine N.getf dX4_line_48 flX4_10 yO rfl ?_
        refine N.getf dX4_line_51 flX4_142 yO0 rfl ?_
        refine N.iload1 dX4_line_54 ?_
        refine N.iald dX4_line_55 yA0_4 (ln_in c4) ?_
        refine N.istore4 dX4_line_56 rfl ?_
        refine N.aload0 dX4_line_58 ?_
        refine N.getf dX4_line_59 flX4_10 yO rfl ?_
        refine N.getf dX4_line_62 flX4_142 yO0 rfl ?_
        refine N.iload1 dX4_line_65 ?_
        refine N.iload2 dX4_line_66 ?_
        refine N.iast dX4_line_67 yA0_4 (ln_in c4) yS0_4 ?_
        refine N.iload4 dX4_line_68 ?_
        exact N.iret dX4_line_70 rfl (Nat.zero_le _) (Nat.zero_le _) ⟨_, rfl, (by rw [xline, if_neg c4, if_neg c19, if_neg c27]; exact ⟨rfl, rfl, _, rfl, rel_xup⟩)⟩
def xask3 (x : XV) (t y : Int32) : Int32 × XV := if t = 3 then (if isInF y 0 1 = 0 then rf x (-2) else ((x.1 0).1 7, rS x 7 y)) else rf x (-2)
def xask2 (x : XV) (t y : Int32) : Int32 × XV := if t = 2 then (if isInF y 1 999 = 0 then xask3 x t y else ((x.1 0).1 6, rS x 6 y)) else xask3 x t y
def xask1 (x : XV) (t y : Int32) : Int32 × XV := if t = 1 then (if isInF y 0 1 = 0 then xask2 x t y else ((x.1 0).1 5, rS x 5 y)) else xask2 x t y
def xask (x : XV) (t y : Int32) : Int32 × XV := if t = 0 then (if isInF y 0 2 = 0 then xask1 x t y else ((x.1 0).1 4, rS x 4 y)) else xask1 x t y
set_option maxRecDepth 100000 in
theorem s_X4_ask {K : Kx} (w : Wd) (a sz : Nat) (x : XV) (t : Int32) (y : Int32) (hX : okX x)  : Sp K mX4_ask 9 0 0 [.ref a, .int t, .int y] (putX K w a x) sz (Qi fun r w' sz' => r = (xask x t y).1 ∧ sz' = sz ∧ ∃ x', w' = putX K w a x' ∧ rel x' = rel (xask x t y).2) := by
  refine Sp.ofN [some (.ref a), some (.int t), some (.int y), none] rfl rfl rfl (Nat.le_of_ble_eq_true rfl) ?_
  have h : okP (x.1 0) := hX.1
  refine N.eqW (congrArg (putX K w a) (xup_self x)) ?_
  generalize x.1 1 = u0
  generalize x.2.2.2.2.1 = p0
  refine N.iload1 dX4_ask_0 ?_
  refine N.if_ne (tgt := 32) dX4_ask_1 (by decide) (fun c1 => ?_) (fun c1 => ?_)
  · refine N.iload1 dX4_ask_32 ?_
    refine N.iconst (v := 1) dX4_ask_33 (by decide) ?_
    refine N.icmp_ne (tgt := 65) dX4_ask_34 (by decide) (fun c34 => ?_) (fun c34 => ?_)
    · refine N.iload1 dX4_ask_65 ?_
      refine N.iconst (v := 2) dX4_ask_66 (by decide) ?_
      refine N.icmp_ne (tgt := 100) dX4_ask_67 (by decide) (fun c67 => ?_) (fun c67 => ?_)
      · refine N.iload1 dX4_ask_100 ?_
        refine N.iconst (v := 3) dX4_ask_101 (by decide) ?_
        refine N.icmp_ne (tgt := 133) dX4_ask_102 (by decide) (fun c102 => ?_) (fun c102 => ?_)
        · refine N.aload0 dX4_ask_133 ?_
          refine N.bipush (v := -2) dX4_ask_134 (by decide) ?_
          refine N.vi1 dX4_ask_136 vX4_refuse lkX4_62 (s_X4_refuse _ _ _ _ _ _ _) yO rfl (Nat.le_of_ble_eq_true rfl) (Nat.le_of_ble_eq_true rfl) (Nat.zero_le _) (Nat.zero_le _) ?_
          rintro _ _ _ ⟨rfl, rfl, rfl⟩
          refine N.istore3 dX4_ask_139 rfl ?_
          refine N.iload3 dX4_ask_140 ?_
          exact N.iret dX4_ask_141 rfl (Nat.zero_le _) (Nat.zero_le _) ⟨_, rfl, (by rw [xask, if_neg c1, xask1, if_neg c34, xask2, if_neg c67, xask3, if_neg c102]; exact rf_ok)⟩
        · refine N.iload2 dX4_ask_105 ?_
          refine N.iconst (v := 0) dX4_ask_106 (by decide) ?_
          refine N.iconst (v := 1) dX4_ask_107 (by decide) ?_
          refine N.si3 dX4_ask_108 vX4_isIn lkX4_58 (s_X4_isIn _ _ _ _ _) rfl (Nat.le_of_ble_eq_true rfl) (Nat.le_of_ble_eq_true rfl) (Nat.zero_le _) (Nat.zero_le _) ?_
          rintro _ _ _ ⟨rfl, rfl, rfl⟩
          refine N.if_eq (tgt := 133) dX4_ask_111 (by decide) (fun c111 => ?_) (fun c111 => ?_)
          · refine N.aload0 dX4_ask_133 ?_
            refine N.bipush (v := -2) dX4_ask_134 (by decide) ?_
            refine N.vi1 dX4_ask_136 vX4_refuse lkX4_62 (s_X4_refuse _ _ _ _ _ _ _) yO rfl (Nat.le_of_ble_eq_true rfl) (Nat.le_of_ble_eq_true rfl) (Nat.zero_le _) (Nat.zero_le _) ?_
            rintro _ _ _ ⟨rfl, rfl, rfl⟩
            refine N.istore3 dX4_ask_139 rfl ?_
            refine N.iload3 dX4_ask_140 ?_
            exact N.iret dX4_ask_141 rfl (Nat.zero_le _) (Nat.zero_le _) ⟨_, rfl, (by rw [xask, if_neg c1, xask1, if_neg c34, xask2, if_neg c67, xask3, if_pos c102, if_pos c111]; exact rf_ok)⟩
          · refine N.aload0 dX4_ask_114 ?_
            refine N.getf dX4_ask_115 flX4_10 yO rfl ?_
            refine N.getf dX4_ask_118 flX4_154 yO0 rfl ?_
            refine N.istore3 dX4_ask_121 rfl ?_
            refine N.aload0 dX4_ask_122 ?_
            refine N.getf dX4_ask_123 flX4_10 yO rfl ?_
            refine N.iload2 dX4_ask_126 ?_
            refine N.putf dX4_ask_127 flX4_154 yO0 (Nat.le_of_ble_eq_true rfl) (fun _ h => by cases h; rfl) rfl rfl yP0_7 ?_
            refine N.goto (tgt := 140) dX4_ask_130 (by decide) ?_
            refine N.iload3 dX4_ask_140 ?_
            exact N.iret dX4_ask_141 rfl (Nat.zero_le _) (Nat.zero_le _) ⟨_, rfl, (by rw [xask, if_neg c1, xask1, if_neg c34, xask2, if_neg c67, xask3, if_pos c102, if_neg c111]; exact ⟨rfl, rfl, _, rfl, rel_xup⟩)⟩
      · refine N.iload2 dX4_ask_70 ?_
        refine N.iconst (v := 1) dX4_ask_71 (by decide) ?_
        refine N.sipush (v := 999) dX4_ask_72 (by decide) ?_
        refine N.si3 dX4_ask_75 vX4_isIn lkX4_58 (s_X4_isIn _ _ _ _ _) rfl (Nat.le_of_ble_eq_true rfl) (Nat.le_of_ble_eq_true rfl) (Nat.zero_le _) (Nat.zero_le _) ?_
        rintro _ _ _ ⟨rfl, rfl, rfl⟩
        refine N.if_eq (tgt := 100) dX4_ask_78 (by decide) (fun c78 => ?_) (fun c78 => ?_)
        · refine N.iload1 dX4_ask_100 ?_
          refine N.iconst (v := 3) dX4_ask_101 (by decide) ?_
          refine N.icmp_ne (tgt := 133) dX4_ask_102 (by decide) (fun c102 => ?_) (fun c102 => ?_)
          · refine N.aload0 dX4_ask_133 ?_
            refine N.bipush (v := -2) dX4_ask_134 (by decide) ?_
            refine N.vi1 dX4_ask_136 vX4_refuse lkX4_62 (s_X4_refuse _ _ _ _ _ _ _) yO rfl (Nat.le_of_ble_eq_true rfl) (Nat.le_of_ble_eq_true rfl) (Nat.zero_le _) (Nat.zero_le _) ?_
            rintro _ _ _ ⟨rfl, rfl, rfl⟩
            refine N.istore3 dX4_ask_139 rfl ?_
            refine N.iload3 dX4_ask_140 ?_
            exact N.iret dX4_ask_141 rfl (Nat.zero_le _) (Nat.zero_le _) ⟨_, rfl, (by rw [xask, if_neg c1, xask1, if_neg c34, xask2, if_pos c67, if_pos c78, xask3, if_neg c102]; exact rf_ok)⟩
          · refine N.iload2 dX4_ask_105 ?_
            refine N.iconst (v := 0) dX4_ask_106 (by decide) ?_
            refine N.iconst (v := 1) dX4_ask_107 (by decide) ?_
            refine N.si3 dX4_ask_108 vX4_isIn lkX4_58 (s_X4_isIn _ _ _ _ _) rfl (Nat.le_of_ble_eq_true rfl) (Nat.le_of_ble_eq_true rfl) (Nat.zero_le _) (Nat.zero_le _) ?_
            rintro _ _ _ ⟨rfl, rfl, rfl⟩
            refine N.if_eq (tgt := 133) dX4_ask_111 (by decide) (fun c111 => ?_) (fun c111 => ?_)
            · refine N.aload0 dX4_ask_133 ?_
              refine N.bipush (v := -2) dX4_ask_134 (by decide) ?_
              refine N.vi1 dX4_ask_136 vX4_refuse lkX4_62 (s_X4_refuse _ _ _ _ _ _ _) yO rfl (Nat.le_of_ble_eq_true rfl) (Nat.le_of_ble_eq_true rfl) (Nat.zero_le _) (Nat.zero_le _) ?_
              rintro _ _ _ ⟨rfl, rfl, rfl⟩
              refine N.istore3 dX4_ask_139 rfl ?_
              refine N.iload3 dX4_ask_140 ?_
              exact N.iret dX4_ask_141 rfl (Nat.zero_le _) (Nat.zero_le _) ⟨_, rfl, (by rw [xask, if_neg c1, xask1, if_neg c34, xask2, if_pos c67, if_pos c78, xask3, if_pos c102, if_pos c111]; exact rf_ok)⟩
            · refine N.aload0 dX4_ask_114 ?_
              refine N.getf dX4_ask_115 flX4_10 yO rfl ?_
              refine N.getf dX4_ask_118 flX4_154 yO0 rfl ?_
              refine N.istore3 dX4_ask_121 rfl ?_
              refine N.aload0 dX4_ask_122 ?_
              refine N.getf dX4_ask_123 flX4_10 yO rfl ?_
              refine N.iload2 dX4_ask_126 ?_
              refine N.putf dX4_ask_127 flX4_154 yO0 (Nat.le_of_ble_eq_true rfl) (fun _ h => by cases h; rfl) rfl rfl yP0_7 ?_
              refine N.goto (tgt := 140) dX4_ask_130 (by decide) ?_
              refine N.iload3 dX4_ask_140 ?_
              exact N.iret dX4_ask_141 rfl (Nat.zero_le _) (Nat.zero_le _) ⟨_, rfl, (by rw [xask, if_neg c1, xask1, if_neg c34, xask2, if_pos c67, if_pos c78, xask3, if_pos c102, if_neg c111]; exact ⟨rfl, rfl, _, rfl, rel_xup⟩)⟩
        · refine N.aload0 dX4_ask_81 ?_
          refine N.getf dX4_ask_82 flX4_10 yO rfl ?_
          refine N.getf dX4_ask_85 flX4_151 yO0 rfl ?_
          refine N.istore3 dX4_ask_88 rfl ?_
          refine N.aload0 dX4_ask_89 ?_
          refine N.getf dX4_ask_90 flX4_10 yO rfl ?_
          refine N.iload2 dX4_ask_93 ?_
          refine N.putf dX4_ask_94 flX4_151 yO0 (Nat.le_of_ble_eq_true rfl) (fun _ h => by cases h; rfl) rfl rfl yP0_6 ?_
          refine N.goto (tgt := 140) dX4_ask_97 (by decide) ?_
          refine N.iload3 dX4_ask_140 ?_
          exact N.iret dX4_ask_141 rfl (Nat.zero_le _) (Nat.zero_le _) ⟨_, rfl, (by rw [xask, if_neg c1, xask1, if_neg c34, xask2, if_pos c67, if_neg c78]; exact ⟨rfl, rfl, _, rfl, rel_xup⟩)⟩
    · refine N.iload2 dX4_ask_37 ?_
      refine N.iconst (v := 0) dX4_ask_38 (by decide) ?_
      refine N.iconst (v := 1) dX4_ask_39 (by decide) ?_
      refine N.si3 dX4_ask_40 vX4_isIn lkX4_58 (s_X4_isIn _ _ _ _ _) rfl (Nat.le_of_ble_eq_true rfl) (Nat.le_of_ble_eq_true rfl) (Nat.zero_le _) (Nat.zero_le _) ?_
      rintro _ _ _ ⟨rfl, rfl, rfl⟩
      refine N.if_eq (tgt := 65) dX4_ask_43 (by decide) (fun c43 => ?_) (fun c43 => ?_)
      · refine N.iload1 dX4_ask_65 ?_
        refine N.iconst (v := 2) dX4_ask_66 (by decide) ?_
        refine N.icmp_ne (tgt := 100) dX4_ask_67 (by decide) (fun c67 => ?_) (fun c67 => ?_)
        · refine N.iload1 dX4_ask_100 ?_
          refine N.iconst (v := 3) dX4_ask_101 (by decide) ?_
          refine N.icmp_ne (tgt := 133) dX4_ask_102 (by decide) (fun c102 => ?_) (fun c102 => ?_)
          · refine N.aload0 dX4_ask_133 ?_
            refine N.bipush (v := -2) dX4_ask_134 (by decide) ?_
            refine N.vi1 dX4_ask_136 vX4_refuse lkX4_62 (s_X4_refuse _ _ _ _ _ _ _) yO rfl (Nat.le_of_ble_eq_true rfl) (Nat.le_of_ble_eq_true rfl) (Nat.zero_le _) (Nat.zero_le _) ?_
            rintro _ _ _ ⟨rfl, rfl, rfl⟩
            refine N.istore3 dX4_ask_139 rfl ?_
            refine N.iload3 dX4_ask_140 ?_
            exact N.iret dX4_ask_141 rfl (Nat.zero_le _) (Nat.zero_le _) ⟨_, rfl, (by rw [xask, if_neg c1, xask1, if_pos c34, if_pos c43, xask2, if_neg c67, xask3, if_neg c102]; exact rf_ok)⟩
          · refine N.iload2 dX4_ask_105 ?_
            refine N.iconst (v := 0) dX4_ask_106 (by decide) ?_
            refine N.iconst (v := 1) dX4_ask_107 (by decide) ?_
            refine N.si3 dX4_ask_108 vX4_isIn lkX4_58 (s_X4_isIn _ _ _ _ _) rfl (Nat.le_of_ble_eq_true rfl) (Nat.le_of_ble_eq_true rfl) (Nat.zero_le _) (Nat.zero_le _) ?_
            rintro _ _ _ ⟨rfl, rfl, rfl⟩
            refine N.if_eq (tgt := 133) dX4_ask_111 (by decide) (fun c111 => ?_) (fun c111 => ?_)
            · refine N.aload0 dX4_ask_133 ?_
              refine N.bipush (v := -2) dX4_ask_134 (by decide) ?_
              refine N.vi1 dX4_ask_136 vX4_refuse lkX4_62 (s_X4_refuse _ _ _ _ _ _ _) yO rfl (Nat.le_of_ble_eq_true rfl) (Nat.le_of_ble_eq_true rfl) (Nat.zero_le _) (Nat.zero_le _) ?_
              rintro _ _ _ ⟨rfl, rfl, rfl⟩
              refine N.istore3 dX4_ask_139 rfl ?_
              refine N.iload3 dX4_ask_140 ?_
              exact N.iret dX4_ask_141 rfl (Nat.zero_le _) (Nat.zero_le _) ⟨_, rfl, (by rw [xask, if_neg c1, xask1, if_pos c34, if_pos c43, xask2, if_neg c67, xask3, if_pos c102, if_pos c111]; exact rf_ok)⟩
            · refine N.aload0 dX4_ask_114 ?_
              refine N.getf dX4_ask_115 flX4_10 yO rfl ?_
              refine N.getf dX4_ask_118 flX4_154 yO0 rfl ?_
              refine N.istore3 dX4_ask_121 rfl ?_
              refine N.aload0 dX4_ask_122 ?_
              refine N.getf dX4_ask_123 flX4_10 yO rfl ?_
              refine N.iload2 dX4_ask_126 ?_
              refine N.putf dX4_ask_127 flX4_154 yO0 (Nat.le_of_ble_eq_true rfl) (fun _ h => by cases h; rfl) rfl rfl yP0_7 ?_
              refine N.goto (tgt := 140) dX4_ask_130 (by decide) ?_
              refine N.iload3 dX4_ask_140 ?_
              exact N.iret dX4_ask_141 rfl (Nat.zero_le _) (Nat.zero_le _) ⟨_, rfl, (by rw [xask, if_neg c1, xask1, if_pos c34, if_pos c43, xask2, if_neg c67, xask3, if_pos c102, if_neg c111]; exact ⟨rfl, rfl, _, rfl, rel_xup⟩)⟩
        · refine N.iload2 dX4_ask_70 ?_
          refine N.iconst (v := 1) dX4_ask_71 (by decide) ?_
          refine N.sipush (v := 999) dX4_ask_72 (by decide) ?_
          refine N.si3 dX4_ask_75 vX4_isIn lkX4_58 (s_X4_isIn _ _ _ _ _) rfl (Nat.le_of_ble_eq_true rfl) (Nat.le_of_ble_eq_true rfl) (Nat.zero_le _) (Nat.zero_le _) ?_
          rintro _ _ _ ⟨rfl, rfl, rfl⟩
          refine N.if_eq (tgt := 100) dX4_ask_78 (by decide) (fun c78 => ?_) (fun c78 => ?_)
          · refine N.iload1 dX4_ask_100 ?_
            refine N.iconst (v := 3) dX4_ask_101 (by decide) ?_
            refine N.icmp_ne (tgt := 133) dX4_ask_102 (by decide) (fun c102 => ?_) (fun c102 => ?_)
            · refine N.aload0 dX4_ask_133 ?_
              refine N.bipush (v := -2) dX4_ask_134 (by decide) ?_
              refine N.vi1 dX4_ask_136 vX4_refuse lkX4_62 (s_X4_refuse _ _ _ _ _ _ _) yO rfl (Nat.le_of_ble_eq_true rfl) (Nat.le_of_ble_eq_true rfl) (Nat.zero_le _) (Nat.zero_le _) ?_
              rintro _ _ _ ⟨rfl, rfl, rfl⟩
              refine N.istore3 dX4_ask_139 rfl ?_
              refine N.iload3 dX4_ask_140 ?_
              exact N.iret dX4_ask_141 rfl (Nat.zero_le _) (Nat.zero_le _) ⟨_, rfl, (by rw [xask, if_neg c1, xask1, if_pos c34, if_pos c43, xask2, if_pos c67, if_pos c78, xask3, if_neg c102]; exact rf_ok)⟩
            · refine N.iload2 dX4_ask_105 ?_
              refine N.iconst (v := 0) dX4_ask_106 (by decide) ?_
              refine N.iconst (v := 1) dX4_ask_107 (by decide) ?_
              refine N.si3 dX4_ask_108 vX4_isIn lkX4_58 (s_X4_isIn _ _ _ _ _) rfl (Nat.le_of_ble_eq_true rfl) (Nat.le_of_ble_eq_true rfl) (Nat.zero_le _) (Nat.zero_le _) ?_
              rintro _ _ _ ⟨rfl, rfl, rfl⟩
              refine N.if_eq (tgt := 133) dX4_ask_111 (by decide) (fun c111 => ?_) (fun c111 => ?_)
              · refine N.aload0 dX4_ask_133 ?_
                refine N.bipush (v := -2) dX4_ask_134 (by decide) ?_
                refine N.vi1 dX4_ask_136 vX4_refuse lkX4_62 (s_X4_refuse _ _ _ _ _ _ _) yO rfl (Nat.le_of_ble_eq_true rfl) (Nat.le_of_ble_eq_true rfl) (Nat.zero_le _) (Nat.zero_le _) ?_
                rintro _ _ _ ⟨rfl, rfl, rfl⟩
                refine N.istore3 dX4_ask_139 rfl ?_
                refine N.iload3 dX4_ask_140 ?_
                exact N.iret dX4_ask_141 rfl (Nat.zero_le _) (Nat.zero_le _) ⟨_, rfl, (by rw [xask, if_neg c1, xask1, if_pos c34, if_pos c43, xask2, if_pos c67, if_pos c78, xask3, if_pos c102, if_pos c111]; exact rf_ok)⟩
              · refine N.aload0 dX4_ask_114 ?_
                refine N.getf dX4_ask_115 flX4_10 yO rfl ?_
                refine N.getf dX4_ask_118 flX4_154 yO0 rfl ?_
                refine N.istore3 dX4_ask_121 rfl ?_
                refine N.aload0 dX4_ask_122 ?_
                refine N.getf dX4_ask_123 flX4_10 yO rfl ?_
                refine N.iload2 dX4_ask_126 ?_
                refine N.putf dX4_ask_127 flX4_154 yO0 (Nat.le_of_ble_eq_true rfl) (fun _ h => by cases h; rfl) rfl rfl yP0_7 ?_
                refine N.goto (tgt := 140) dX4_ask_130 (by decide) ?_
                refine N.iload3 dX4_ask_140 ?_
                exact N.iret dX4_ask_141 rfl (Nat.zero_le _) (Nat.zero_le _) ⟨_, rfl, (by rw [xask, if_neg c1, xask1, if_pos c34, if_pos c43, xask2, if_pos c67, if_pos c78, xask3, if_pos c102, if_neg c111]; exact ⟨rfl, rfl, _, rfl, rel_xup⟩)⟩
          · refine N.aload0 dX4_ask_81 ?_
            refine N.getf dX4_ask_82 flX4_10 yO rfl ?_
            refine N.getf dX4_ask_85 flX4_151 yO0 rfl ?_
            refine N.istore3 dX4_ask_88 rfl ?_
            refine N.aload0 dX4_ask_89 ?_
            refine N.getf dX4_ask_90 flX4_10 yO rfl ?_
            refine N.iload2 dX4_ask_93 ?_
            refine N.putf dX4_ask_94 flX4_151 yO0 (Nat.le_of_ble_eq_true rfl) (fun _ h => by cases h; rfl) rfl rfl yP0_6 ?_
            refine N.goto (tgt := 140) dX4_ask_97 (by decide) ?_
            refine N.iload3 dX4_ask_140 ?_
            exact N.iret dX4_ask_141 rfl (Nat.zero_le _) (Nat.zero_le _) ⟨_, rfl, (by rw [xask, if_neg c1, xask1, if_pos c34, if_pos c43, xask2, if_pos c67, if_neg c78]; exact ⟨rfl, rfl, _, rfl, rel_xup⟩)⟩
      · refine N.aload0 dX4_ask_46 ?_
        refine N.getf dX4_ask_47 flX4_10 yO rfl ?_
        refine N.getf dX4_ask_50 flX4_148 yO0 rfl ?_
        refine N.istore3 dX4_ask_53 rfl ?_
        refine N.aload0 dX4_ask_54 ?_
        refine N.getf dX4_ask_55 flX4_10 yO rfl ?_
        refine N.iload2 dX4_ask_58 ?_
        refine N.putf dX4_ask_59 flX4_148 yO0 (Nat.le_of_ble_eq_true rfl) (fun _ h => by cases h; rfl) rfl rfl yP0_5 ?_
        refine N.goto (tgt := 140) dX4_ask_62 (by decide) ?_
        refine N.iload3 dX4_ask_140 ?_
        exact N.iret dX4_ask_141 rfl (Nat.zero_le _) (Nat.zero_le _) ⟨_, rfl, (by rw [xask, if_neg c1, xask1, if_pos c34, if_neg c43]; exact ⟨rfl, rfl, _, rfl, rel_xup⟩)⟩
  · refine N.iload2 dX4_ask_4 ?_
    refine N.iconst (v := 0) dX4_ask_5 (by decide) ?_
    refine N.iconst (v := 2) dX4_ask_6 (by decide) ?_
    refine N.si3 dX4_ask_7 vX4_isIn lkX4_58 (s_X4_isIn _ _ _ _ _) rfl (Nat.le_of_ble_eq_true rfl) (Nat.le_of_ble_eq_true rfl) (Nat.zero_le _) (Nat.zero_le _) ?_
    rintro _ _ _ ⟨rfl, rfl, rfl⟩
    refine N.if_eq (tgt := 32) dX4_ask_10 (by decide) (fun c10 => ?_) (fun c10 => ?_)
    · refine N.iload1 dX4_ask_32 ?_
      refine N.iconst (v := 1) dX4_ask_33 (by decide) ?_
      refine N.icmp_ne (tgt := 65) dX4_ask_34 (by decide) (fun c34 => ?_) (fun c34 => ?_)
      · refine N.iload1 dX4_ask_65 ?_
        refine N.iconst (v := 2) dX4_ask_66 (by decide) ?_
        refine N.icmp_ne (tgt := 100) dX4_ask_67 (by decide) (fun c67 => ?_) (fun c67 => ?_)
        · refine N.iload1 dX4_ask_100 ?_
          refine N.iconst (v := 3) dX4_ask_101 (by decide) ?_
          refine N.icmp_ne (tgt := 133) dX4_ask_102 (by decide) (fun c102 => ?_) (fun c102 => ?_)
          · refine N.aload0 dX4_ask_133 ?_
            refine N.bipush (v := -2) dX4_ask_134 (by decide) ?_
            refine N.vi1 dX4_ask_136 vX4_refuse lkX4_62 (s_X4_refuse _ _ _ _ _ _ _) yO rfl (Nat.le_of_ble_eq_true rfl) (Nat.le_of_ble_eq_true rfl) (Nat.zero_le _) (Nat.zero_le _) ?_
            rintro _ _ _ ⟨rfl, rfl, rfl⟩
            refine N.istore3 dX4_ask_139 rfl ?_
            refine N.iload3 dX4_ask_140 ?_
            exact N.iret dX4_ask_141 rfl (Nat.zero_le _) (Nat.zero_le _) ⟨_, rfl, (by rw [xask, if_pos c1, if_pos c10, xask1, if_neg c34, xask2, if_neg c67, xask3, if_neg c102]; exact rf_ok)⟩
          · refine N.iload2 dX4_ask_105 ?_
            refine N.iconst (v := 0) dX4_ask_106 (by decide) ?_
            refine N.iconst (v := 1) dX4_ask_107 (by decide) ?_
            refine N.si3 dX4_ask_108 vX4_isIn lkX4_58 (s_X4_isIn _ _ _ _ _) rfl (Nat.le_of_ble_eq_true rfl) (Nat.le_of_ble_eq_true rfl) (Nat.zero_le _) (Nat.zero_le _) ?_
            rintro _ _ _ ⟨rfl, rfl, rfl⟩
            refine N.if_eq (tgt := 133) dX4_ask_111 (by decide) (fun c111 => ?_) (fun c111 => ?_)
            · refine N.aload0 dX4_ask_133 ?_
              refine N.bipush (v := -2) dX4_ask_134 (by decide) ?_
              refine N.vi1 dX4_ask_136 vX4_refuse lkX4_62 (s_X4_refuse _ _ _ _ _ _ _) yO rfl (Nat.le_of_ble_eq_true rfl) (Nat.le_of_ble_eq_true rfl) (Nat.zero_le _) (Nat.zero_le _) ?_
              rintro _ _ _ ⟨rfl, rfl, rfl⟩
              refine N.istore3 dX4_ask_139 rfl ?_
              refine N.iload3 dX4_ask_140 ?_
              exact N.iret dX4_ask_141 rfl (Nat.zero_le _) (Nat.zero_le _) ⟨_, rfl, (by rw [xask, if_pos c1, if_pos c10, xask1, if_neg c34, xask2, if_neg c67, xask3, if_pos c102, if_pos c111]; exact rf_ok)⟩
            · refine N.aload0 dX4_ask_114 ?_
              refine N.getf dX4_ask_115 flX4_10 yO rfl ?_
              refine N.getf dX4_ask_118 flX4_154 yO0 rfl ?_
              refine N.istore3 dX4_ask_121 rfl ?_
              refine N.aload0 dX4_ask_122 ?_
              refine N.getf dX4_ask_123 flX4_10 yO rfl ?_
              refine N.iload2 dX4_ask_126 ?_
              refine N.putf dX4_ask_127 flX4_154 yO0 (Nat.le_of_ble_eq_true rfl) (fun _ h => by cases h; rfl) rfl rfl yP0_7 ?_
              refine N.goto (tgt := 140) dX4_ask_130 (by decide) ?_
              refine N.iload3 dX4_ask_140 ?_
              exact N.iret dX4_ask_141 rfl (Nat.zero_le _) (Nat.zero_le _) ⟨_, rfl, (by rw [xask, if_pos c1, if_pos c10, xask1, if_neg c34, xask2, if_neg c67, xask3, if_pos c102, if_neg c111]; exact ⟨rfl, rfl, _, rfl, rel_xup⟩)⟩
        · refine N.iload2 dX4_ask_70 ?_
          refine N.iconst (v := 1) dX4_ask_71 (by decide) ?_
          refine N.sipush (v := 999) dX4_ask_72 (by decide) ?_
          refine N.si3 dX4_ask_75 vX4_isIn lkX4_58 (s_X4_isIn _ _ _ _ _) rfl (Nat.le_of_ble_eq_true rfl) (Nat.le_of_ble_eq_true rfl) (Nat.zero_le _) (Nat.zero_le _) ?_
          rintro _ _ _ ⟨rfl, rfl, rfl⟩
          refine N.if_eq (tgt := 100) dX4_ask_78 (by decide) (fun c78 => ?_) (fun c78 => ?_)
          · refine N.iload1 dX4_ask_100 ?_
            refine N.iconst (v := 3) dX4_ask_101 (by decide) ?_
            refine N.icmp_ne (tgt := 133) dX4_ask_102 (by decide) (fun c102 => ?_) (fun c102 => ?_)
            · refine N.aload0 dX4_ask_133 ?_
              refine N.bipush (v := -2) dX4_ask_134 (by decide) ?_
              refine N.vi1 dX4_ask_136 vX4_refuse lkX4_62 (s_X4_refuse _ _ _ _ _ _ _) yO rfl (Nat.le_of_ble_eq_true rfl) (Nat.le_of_ble_eq_true rfl) (Nat.zero_le _) (Nat.zero_le _) ?_
              rintro _ _ _ ⟨rfl, rfl, rfl⟩
              refine N.istore3 dX4_ask_139 rfl ?_
              refine N.iload3 dX4_ask_140 ?_
              exact N.iret dX4_ask_141 rfl (Nat.zero_le _) (Nat.zero_le _) ⟨_, rfl, (by rw [xask, if_pos c1, if_pos c10, xask1, if_neg c34, xask2, if_pos c67, if_pos c78, xask3, if_neg c102]; exact rf_ok)⟩
            · refine N.iload2 dX4_ask_105 ?_
              refine N.iconst (v := 0) dX4_ask_106 (by decide) ?_
              refine N.iconst (v := 1) dX4_ask_107 (by decide) ?_
              refine N.si3 dX4_ask_108 vX4_isIn lkX4_58 (s_X4_isIn _ _ _ _ _) rfl (Nat.le_of_ble_eq_true rfl) (Nat.le_of_ble_eq_true rfl) (Nat.zero_le _) (Nat.zero_le _) ?_
              rintro _ _ _ ⟨rfl, rfl, rfl⟩
              refine N.if_eq (tgt := 133) dX4_ask_111 (by decide) (fun c111 => ?_) (fun c111 => ?_)
              · refine N.aload0 dX4_ask_133 ?_
                refine N.bipush (v := -2) dX4_ask_134 (by decide) ?_
                refine N.vi1 dX4_ask_136 vX4_refuse lkX4_62 (s_X4_refuse _ _ _ _ _ _ _) yO rfl (Nat.le_of_ble_eq_true rfl) (Nat.le_of_ble_eq_true rfl) (Nat.zero_le _) (Nat.zero_le _) ?_
                rintro _ _ _ ⟨rfl, rfl, rfl⟩
                refine N.istore3 dX4_ask_139 rfl ?_
                refine N.iload3 dX4_ask_140 ?_
                exact N.iret dX4_ask_141 rfl (Nat.zero_le _) (Nat.zero_le _) ⟨_, rfl, (by rw [xask, if_pos c1, if_pos c10, xask1, if_neg c34, xask2, if_pos c67, if_pos c78, xask3, if_pos c102, if_pos c111]; exact rf_ok)⟩
              · refine N.aload0 dX4_ask_114 ?_
                refine N.getf dX4_ask_115 flX4_10 yO rfl ?_
                refine N.getf dX4_ask_118 flX4_154 yO0 rfl ?_
                refine N.istore3 dX4_ask_121 rfl ?_
                refine N.aload0 dX4_ask_122 ?_
                refine N.getf dX4_ask_123 flX4_10 yO rfl ?_
                refine N.iload2 dX4_ask_126 ?_
                refine N.putf dX4_ask_127 flX4_154 yO0 (Nat.le_of_ble_eq_true rfl) (fun _ h => by cases h; rfl) rfl rfl yP0_7 ?_
                refine N.goto (tgt := 140) dX4_ask_130 (by decide) ?_
                refine N.iload3 dX4_ask_140 ?_
                exact N.iret dX4_ask_141 rfl (Nat.zero_le _) (Nat.zero_le _) ⟨_, rfl, (by rw [xask, if_pos c1, if_pos c10, xask1, if_neg c34, xask2, if_pos c67, if_pos c78, xask3, if_pos c102, if_neg c111]; exact ⟨rfl, rfl, _, rfl, rel_xup⟩)⟩
          · refine N.aload0 dX4_ask_81 ?_
            refine N.getf dX4_ask_82 flX4_10 yO rfl ?_
            refine N.getf dX4_ask_85 flX4_151 yO0 rfl ?_
            refine N.istore3 dX4_ask_88 rfl ?_
            refine N.aload0 dX4_ask_89 ?_
            refine N.getf dX4_ask_90 flX4_10 yO rfl ?_
            refine N.iload2 dX4_ask_93 ?_
            refine N.putf dX4_ask_94 flX4_151 yO0 (Nat.le_of_ble_eq_true rfl) (fun _ h => by cases h; rfl) rfl rfl yP0_6 ?_
            refine N.goto (tgt := 140) dX4_ask_97 (by decide) ?_
            refine N.iload3 dX4_ask_140 ?_
            exact N.iret dX4_ask_141 rfl (Nat.zero_le _) (Nat.zero_le _) ⟨_, rfl, (by rw [xask, if_pos c1, if_pos c10, xask1, if_neg c34, xask2, if_pos c67, if_neg c78]; exact ⟨rfl, rfl, _, rfl, rel_xup⟩)⟩
      · refine N.iload2 dX4_ask_37 ?_
        refine N.iconst (v := 0) dX4_ask_38 (by decide) ?_
        refine N.iconst (v := 1) dX4_ask_39 (by decide) ?_
        refine N.si3 dX4_ask_40 vX4_isIn lkX4_58 (s_X4_isIn _ _ _ _ _) rfl (Nat.le_of_ble_eq_true rfl) (Nat.le_of_ble_eq_true rfl) (Nat.zero_le _) (Nat.zero_le _) ?_
        rintro _ _ _ ⟨rfl, rfl, rfl⟩
        refine N.if_eq (tgt := 65) dX4_ask_43 (by decide) (fun c43 => ?_) (fun c43 => ?_)
        · refine N.iload1 dX4_ask_65 ?_
          refine N.iconst (v := 2) dX4_ask_66 (by decide) ?_
          refine N.icmp_ne (tgt := 100) dX4_ask_67 (by decide) (fun c67 => ?_) (fun c67 => ?_)
          · refine N.iload1 dX4_ask_100 ?_
            refine N.iconst (v := 3) dX4_ask_101 (by decide) ?_
            refine N.icmp_ne (tgt := 133) dX4_ask_102 (by decide) (fun c102 => ?_) (fun c102 => ?_)
            · refine N.aload0 dX4_ask_133 ?_
              refine N.bipush (v := -2) dX4_ask_134 (by decide) ?_
              refine N.vi1 dX4_ask_136 vX4_refuse lkX4_62 (s_X4_refuse _ _ _ _ _ _ _) yO rfl (Nat.le_of_ble_eq_true rfl) (Nat.le_of_ble_eq_true rfl) (Nat.zero_le _) (Nat.zero_le _) ?_
              rintro _ _ _ ⟨rfl, rfl, rfl⟩
              refine N.istore3 dX4_ask_139 rfl ?_
              refine N.iload3 dX4_ask_140 ?_
              exact N.iret dX4_ask_141 rfl (Nat.zero_le _) (Nat.zero_le _) ⟨_, rfl, (by rw [xask, if_pos c1, if_pos c10, xask1, if_pos c34, if_pos c43, xask2, if_neg c67, xask3, if_neg c102]; exact rf_ok)⟩
            · refine N.iload2 dX4_ask_105 ?_
              refine N.iconst (v := 0) dX4_ask_106 (by decide) ?_
              refine N.iconst (v := 1) dX4_ask_107 (by decide) ?_
              refine N.si3 dX4_ask_108 vX4_isIn lkX4_58 (s_X4_isIn _ _ _ _ _) rfl (Nat.le_of_ble_eq_true rfl) (Nat.le_of_ble_eq_true rfl) (Nat.zero_le _) (Nat.zero_le _) ?_
              rintro _ _ _ ⟨rfl, rfl, rfl⟩
              refine N.if_eq (tgt := 133) dX4_ask_111 (by decide) (fun c111 => ?_) (fun c111 => ?_)
              · refine N.aload0 dX4_ask_133 ?_
                refine N.bipush (v := -2) dX4_ask_134 (by decide) ?_
                refine N.vi1 dX4_ask_136 vX4_refuse lkX4_62 (s_X4_refuse _ _ _ _ _ _ _) yO rfl (Nat.le_of_ble_eq_true rfl) (Nat.le_of_ble_eq_true rfl) (Nat.zero_le _) (Nat.zero_le _) ?_
                rintro _ _ _ ⟨rfl, rfl, rfl⟩
                refine N.istore3 dX4_ask_139 rfl ?_
                refine N.iload3 dX4_ask_140 ?_
                exact N.iret dX4_ask_141 rfl (Nat.zero_le _) (Nat.zero_le _) ⟨_, rfl, (by rw [xask, if_pos c1, if_pos c10, xask1, if_pos c34, if_pos c43, xask2, if_neg c67, xask3, if_pos c102, if_pos c111]; exact rf_ok)⟩
              · refine N.aload0 dX4_ask_114 ?_
                refine N.getf dX4_ask_115 flX4_10 yO rfl ?_
                refine N.getf dX4_ask_118 flX4_154 yO0 rfl ?_
                refine N.istore3 dX4_ask_121 rfl ?_
                refine N.aload0 dX4_ask_122 ?_
                refine N.getf dX4_ask_123 flX4_10 yO rfl ?_
                refine N.iload2 dX4_ask_126 ?_
                refine N.putf dX4_ask_127 flX4_154 yO0 (Nat.le_of_ble_eq_true rfl) (fun _ h => by cases h; rfl) rfl rfl yP0_7 ?_
                refine N.goto (tgt := 140) dX4_ask_130 (by decide) ?_
                refine N.iload3 dX4_ask_140 ?_
                exact N.iret dX4_ask_141 rfl (Nat.zero_le _) (Nat.zero_le _) ⟨_, rfl, (by rw [xask, if_pos c1, if_pos c10, xask1, if_pos c34, if_pos c43, xask2, if_neg c67, xask3, if_pos c102, if_neg c111]; exact ⟨rfl, rfl, _, rfl, rel_xup⟩)⟩
          · refine N.iload2 dX4_ask_70 ?_
            refine N.iconst (v := 1) dX4_ask_71 (by decide) ?_
            refine N.sipush (v := 999) dX4_ask_72 (by decide) ?_
            refine N.si3 dX4_ask_75 vX4_isIn lkX4_58 (s_X4_isIn _ _ _ _ _) rfl (Nat.le_of_ble_eq_true rfl) (Nat.le_of_ble_eq_true rfl) (Nat.zero_le _) (Nat.zero_le _) ?_
            rintro _ _ _ ⟨rfl, rfl, rfl⟩
            refine N.if_eq (tgt := 100) dX4_ask_78 (by decide) (fun c78 => ?_) (fun c78 => ?_)
            · refine N.iload1 dX4_ask_100 ?_
              refine N.iconst (v := 3) dX4_ask_101 (by decide) ?_
              refine N.icmp_ne (tgt := 133) dX4_ask_102 (by decide) (fun c102 => ?_) (fun c102 => ?_)
              · refine N.aload0 dX4_ask_133 ?_
                refine N.bipush (v := -2) dX4_ask_134 (by decide) ?_
                refine N.vi1 dX4_ask_136 vX4_refuse lkX4_62 (s_X4_refuse _ _ _ _ _ _ _) yO rfl (Nat.le_of_ble_eq_true rfl) (Nat.le_of_ble_eq_true rfl) (Nat.zero_le _) (Nat.zero_le _) ?_
                rintro _ _ _ ⟨rfl, rfl, rfl⟩
                refine N.istore3 dX4_ask_139 rfl ?_
                refine N.iload3 dX4_ask_140 ?_
                exact N.iret dX4_ask_141 rfl (Nat.zero_le _) (Nat.zero_le _) ⟨_, rfl, (by rw [xask, if_pos c1, if_pos c10, xask1, if_pos c34, if_pos c43, xask2, if_pos c67, if_pos c78, xask3, if_neg c102]; exact rf_ok)⟩
              · refine N.iload2 dX4_ask_105 ?_
                refine N.iconst (v := 0) dX4_ask_106 (by decide) ?_
                refine N.iconst (v := 1) dX4_ask_107 (by decide) ?_
                refine N.si3 dX4_ask_108 vX4_isIn lkX4_58 (s_X4_isIn _ _ _ _ _) rfl (Nat.le_of_ble_eq_true rfl) (Nat.le_of_ble_eq_true rfl) (Nat.zero_le _) (Nat.zero_le _) ?_
                rintro _ _ _ ⟨rfl, rfl, rfl⟩
                refine N.if_eq (tgt := 133) dX4_ask_111 (by decide) (fun c111 => ?_) (fun c111 => ?_)
                · refine N.aload0 dX4_ask_133 ?_
                  refine N.bipush (v := -2) dX4_ask_134 (by decide) ?_
                  refine N.vi1 dX4_ask_136 vX4_refuse lkX4_62 (s_X4_refuse _ _ _ _ _ _ _) yO rfl (Nat.le_of_ble_eq_true rfl) (Nat.le_of_ble_eq_true rfl) (Nat.zero_le _) (Nat.zero_le _) ?_
                  rintro _ _ _ ⟨rfl, rfl, rfl⟩
                  refine N.istore3 dX4_ask_139 rfl ?_
                  refine N.iload3 dX4_ask_140 ?_
                  exact N.iret dX4_ask_141 rfl (Nat.zero_le _) (Nat.zero_le _) ⟨_, rfl, (by rw [xask, if_pos c1, if_pos c10, xask1, if_pos c34, if_pos c43, xask2, if_pos c67, if_pos c78, xask3, if_pos c102, if_pos c111]; exact rf_ok)⟩
                · refine N.aload0 dX4_ask_114 ?_
                  refine N.getf dX4_ask_115 flX4_10 yO rfl ?_
                  refine N.getf dX4_ask_118 flX4_154 yO0 rfl ?_
                  refine N.istore3 dX4_ask_121 rfl ?_
                  refine N.aload0 dX4_ask_122 ?_
                  refine N.getf dX4_ask_123 flX4_10 yO rfl ?_
                  refine N.iload2 dX4_ask_126 ?_
                  refine N.putf dX4_ask_127 flX4_154 yO0 (Nat.le_of_ble_eq_true rfl) (fun _ h => by cases h; rfl) rfl rfl yP0_7 ?_
                  refine N.goto (tgt := 140) dX4_ask_130 (by decide) ?_
                  refine N.iload3 dX4_ask_140 ?_
                  exact N.iret dX4_ask_141 rfl (Nat.zero_le _) (Nat.zero_le _) ⟨_, rfl, (by rw [xask, if_pos c1, if_pos c10, xask1, if_pos c34, if_pos c43, xask2, if_pos c67, if_pos c78, xask3, if_pos c102, if_neg c111]; exact ⟨rfl, rfl, _, rfl, rel_xup⟩)⟩
            · refine N.aload0 dX4_ask_81 ?_
              refine N.getf dX4_ask_82 flX4_10 yO rfl ?_
              refine N.getf dX4_ask_85 flX4_151 yO0 rfl ?_
              refine N.istore3 dX4_ask_88 rfl ?_
              refine N.aload0 dX4_ask_89 ?_
              refine N.getf dX4_ask_90 flX4_10 yO rfl ?_
              refine N.iload2 dX4_ask_93 ?_
              refine N.putf dX4_ask_94 flX4_151 yO0 (Nat.le_of_ble_eq_true rfl) (fun _ h => by cases h; rfl) rfl rfl yP0_6 ?_
              refine N.goto (tgt := 140) dX4_ask_97 (by decide) ?_
              refine N.iload3 dX4_ask_140 ?_
              exact N.iret dX4_ask_141 rfl (Nat.zero_le _) (Nat.zero_le _) ⟨_, rfl, (by rw [xask, if_pos c1, if_pos c10, xask1, if_pos c34, if_pos c43, xask2, if_pos c67, if_neg c78]; exact ⟨rfl, rfl, _, rfl, rel_xup⟩)⟩
        · refine N.aload0 dX4_ask_46 ?_
          refine N.getf dX4_ask_47 flX4_10 yO rfl ?_
          refine N.getf dX4_ask_50 flX4_148 yO0 rfl ?_
          refine N.istore3 dX4_ask_53 rfl ?_
          refine N.aload0 dX4_ask_54 ?_
          refine N.getf dX4_ask_55 flX4_10 yO rfl ?_
          refine N.iload2 dX4_ask_58 ?_
          refine N.putf dX4_ask_59 flX4_148 yO0 (Nat.le_of_ble_eq_true rfl) (fun _ h => by cases h; rfl) rfl rfl yP0_5 ?_
          refine N.goto (tgt := 140) dX4_ask_62 (by decide) ?_
          refine N.iload3 dX4_ask_140 ?_
          exact N.iret dX4_ask_141 rfl (Nat.zero_le _) (Nat.zero_le _) ⟨_, rfl, (by rw [xask, if_pos c1, if_pos c10, xask1, if_pos c34, if_neg c43]; exact ⟨rfl, rfl, _, rfl, rel_xup⟩)⟩
    · refine N.aload0 dX4_ask_13 ?_
      refine N.getf dX4_ask_14 flX4_10 yO rfl ?_
      refine N.getf dX4_ask_17 flX4_145 yO0 rfl ?_
      refine N.istore3 dX4_ask_20 rfl ?_
      refine N.aload0 dX4_ask_21 ?_
      refine N.getf dX4_ask_22 flX4_10 yO rfl ?_
      refine N.iload2 dX4_ask_25 ?_
      refine N.putf dX4_ask_26 flX4_145 yO0 (Nat.le_of_ble_eq_true rfl) (fun _ h => by cases h; rfl) rfl rfl yP0_4 ?_
      refine N.goto (tgt := 140) dX4_ask_29 (by decide) ?_
      refine N.iload3 dX4_ask_140 ?_
      exact N.iret dX4_ask_141 rfl (Nat.zero_le _) (Nat.zero_le _) ⟨_, rfl, (by rw [xask, if_pos c1, if_neg c10]; exact ⟨rfl, rfl, _, rfl, rel_xup⟩)⟩
def xwipe (x : XV) : Int32 × XV := (x.2.1.2 0, setT x (x.2.1.1, upd x.2.1.2 0 0))
set_option maxRecDepth 100000 in
theorem s_X4_wipe {K : Kx} (w : Wd) (a sz : Nat) (x : XV) (hX : okX x)  : Sp K mX4_wipe 9 0 0 [.ref a] (putX K w a x) sz (Qi fun r w' sz' => r = (xwipe x).1 ∧ sz' = sz ∧ ∃ x', w' = putX K w a x' ∧ rel x' = rel (xwipe x).2) := by
  refine Sp.ofN [some (.ref a), none] rfl rfl rfl (Nat.le_of_ble_eq_true rfl) ?_
  have h : okP (x.1 0) := hX.1
  refine N.eqW (congrArg (putX K w a) (xup_self x)) ?_
  generalize x.1 1 = u0
  generalize x.2.2.2.2.1 = p0
  refine N.aload0 dX4_wipe_0 ?_
  refine N.getf dX4_wipe_1 flX4_28 yO rfl ?_
  refine N.getf dX4_wipe_4 flX4_157 yT rfl ?_
  refine N.istore1 dX4_wipe_7 rfl ?_
  refine N.aload0 dX4_wipe_8 ?_
  refine N.getf dX4_wipe_9 flX4_28 yO rfl ?_
  refine N.iconst (v := 0) dX4_wipe_12 (by decide) ?_
  refine N.putf dX4_wipe_13 flX4_157 yT (Nat.le_of_ble_eq_true rfl) (fun _ h => by cases h; rfl) rfl rfl yTP0 ?_
  refine N.iload1 dX4_wipe_16 ?_
  exact N.iret dX4_wipe_17 rfl (Nat.zero_le _) (Nat.zero_le _) ⟨_, rfl, (by rw [xwipe]; exact ⟨rfl, rfl, _, rfl, rel_xup⟩)⟩
def xplof (x : XV) (q t : Int32) : Int32 × XV := if isPlF (x.1 0) q = 0 then rf x (-2) else if t = 0 then ((x.1 0).2 0 q.toNatClampNeg, x) else if t = 1 then ((x.1 0).2 1 q.toNatClampNeg, x) else if t = 2 then ((x.1 0).2 2 q.toNatClampNeg, x) else if t = 3 then ((x.1 0).2 3 q.toNatClampNeg, x) else if t = 4 then (bitF ((x.1 0).1 1) q, x) else if t = 5 then (bitF ((x.1 0).1 2) q, x) else if t = 6 then (legsF (x.1 0) q, x) else if t = 7 then (powF (x.1 0) q, x) else rf x (-2)
set_option maxRecDepth 100000 in
theorem s_X4_playerOf {K : Kx} (w : Wd) (a sz : Nat) (x : XV) (q : Int32) (t : Int32) (hX : okX x)  : Sp K mX4_playerOf 9 0 0 [.ref a, .int q, .int t] (putX K w a x) sz (Qi fun r w' sz' => r = (xplof x q t).1 ∧ sz' = sz ∧ ∃ x', w' = putX K w a x' ∧ rel x' = rel (xplof x q t).2) := by
  refine Sp.ofN [some (.ref a), some (.int q), some (.int t)] rfl rfl rfl (Nat.le_of_ble_eq_true rfl) ?_
  have h : okP (x.1 0) := hX.1
  refine N.eqW (congrArg (putX K w a) (xup_self x)) ?_
  generalize x.1 1 = u0
  generalize x.2.2.2.2.1 = p0
  refine N.aload0 dX4_playerOf_0 ?_
  refine N.getf dX4_playerOf_1 flX4_10 yO rfl ?_
  refine N.iload1 dX4_playerOf_4 ?_
  refine N.vi1 dX4_playerOf_5 vX1_isPlayer lkX4_106 (Sp.n0i fun W => s_X1_isPlayer W _ _ _ _) yO0 rfl (Nat.le_of_ble_eq_true rfl) (Nat.le_of_ble_eq_true rfl) (Nat.zero_le _) (Nat.zero_le _) ?_
  rintro _ _ _ ⟨rfl, rfl, rfl⟩
  refine N.if_ne (tgt := 18) dX4_playerOf_8 (by decide) (fun c8 => ?_) (fun c8 => ?_)
  · have hp := pl_in h c8
    refine N.iload2 dX4_playerOf_18 ?_
    refine N.swc 0 (fun t19_0 => ?_) (fun t19_0 => ?_)
    · refine N.tsIn (off := 45) (tgt := 64) 0 t19_0 dX4_playerOf_19 (by decide) (by decide) (by decide) (by decide) ?_
      refine N.aload0 dX4_playerOf_64 ?_
      refine N.getf dX4_playerOf_65 flX4_10 yO rfl ?_
      refine N.getf dX4_playerOf_68 flX4_108 yO0 rfl ?_
      refine N.iload1 dX4_playerOf_71 ?_
      refine N.iald dX4_playerOf_72 yA0_0 hp ?_
      exact N.iret dX4_playerOf_73 rfl (Nat.zero_le _) (Nat.zero_le _) ⟨_, rfl, (by rw [xplof, if_neg c8, if_pos t19_0]; exact ⟨rfl, rfl, _, rfl, rel_xup⟩)⟩
    refine N.swc 1 (fun t19_1 => ?_) (fun t19_1 => ?_)
    · refine N.tsIn (off := 55) (tgt := 74) 1 t19_1 dX4_playerOf_19 (by decide) (by decide) (by decide) (by decide) ?_
      refine N.aload0 dX4_playerOf_74 ?_
      refine N.getf dX4_playerOf_75 flX4_10 yO rfl ?_
      refine N.getf dX4_playerOf_78 flX4_125 yO0 rfl ?_
      refine N.iload1 dX4_playerOf_81 ?_
      refine N.iald dX4_playerOf_82 yA0_1 hp ?_
      exact N.iret dX4_playerOf_83 rfl (Nat.zero_le _) (Nat.zero_le _) ⟨_, rfl, (by rw [xplof, if_neg c8, if_neg t19_0, if_pos t19_1]; exact ⟨rfl, rfl, _, rfl, rel_xup⟩)⟩
    refine N.swc 2 (fun t19_2 => ?_) (fun t19_2 => ?_)
    · refine N.tsIn (off := 65) (tgt := 84) 2 t19_2 dX4_playerOf_19 (by decide) (by decide) (by decide) (by decide) ?_
      refine N.aload0 dX4_playerOf_84 ?_
      refine N.getf dX4_playerOf_85 flX4_10 yO rfl ?_
      refine N.getf dX4_playerOf_88 flX4_172 yO0 rfl ?_
      refine N.iload1 dX4_playerOf_91 ?_
      refine N.iald dX4_playerOf_92 yA0_2 hp ?_
      exact N.iret dX4_playerOf_93 rfl (Nat.zero_le _) (Nat.zero_le _) ⟨_, rfl, (by rw [xplof, if_neg c8, if_neg t19_0, if_neg t19_1, if_pos t19_2]; exact ⟨rfl, rfl, _, rfl, rel_xup⟩)⟩
    refine N.swc 3 (fun t19_3 => ?_) (fun t19_3 => ?_)
    · refine N.tsIn (off := 75) (tgt := 94) 3 t19_3 dX4_playerOf_19 (by decide) (by decide) (by decide) (by decide) ?_
      refine N.aload0 dX4_playerOf_94 ?_
      refine N.getf dX4_playerOf_95 flX4_10 yO rfl ?_
      refine N.getf dX4_playerOf_98 flX4_128 yO0 rfl ?_
      refine N.iload1 dX4_playerOf_101 ?_
      refine N.iald dX4_playerOf_102 yA0_3 hp ?_
      exact N.iret dX4_playerOf_103 rfl (Nat.zero_le _) (Nat.zero_le _) ⟨_, rfl, (by rw [xplof, if_neg c8, if_neg t19_0, if_neg t19_1, if_neg t19_2, if_pos t19_3]; exact ⟨rfl, rfl, _, rfl, rel_xup⟩)⟩
    refine N.swc 4 (fun t19_4 => ?_) (fun t19_4 => ?_)
    · refine N.tsIn (off := 85) (tgt := 104) 4 t19_4 dX4_playerOf_19 (by decide) (by decide) (by decide) (by decide) ?_
      refine N.aload0 dX4_playerOf_104 ?_
      refine N.getf dX4_playerOf_105 flX4_10 yO rfl ?_
      refine N.getf dX4_playerOf_108 flX4_175 yO0 rfl ?_
      refine N.iload1 dX4_playerOf_111 ?_
      refine N.si2 dX4_playerOf_112 vX4_bit lkX4_178 (s_X4_bit _ _ _ _) rfl (Nat.le_of_ble_eq_true rfl) (Nat.le_of_ble_eq_true rfl) (Nat.zero_le _) (Nat.zero_le _) ?_
      rintro _ _ _ ⟨rfl, rfl, rfl⟩
      exact N.iret dX4_playerOf_115 rfl (Nat.zero_le _) (Nat.zero_le _) ⟨_, rfl, (by rw [xplof, if_neg c8, if_neg t19_0, if_neg t19_1, if_neg t19_2, if_neg t19_3, if_pos t19_4]; exact ⟨rfl, rfl, _, rfl, rel_xup⟩)⟩
    refine N.swc 5 (fun t19_5 => ?_) (fun t19_5 => ?_)
    · refine N.tsIn (off := 97) (tgt := 116) 5 t19_5 dX4_playerOf_19 (by decide) (by decide) (by decide) (by decide) ?_
      refine N.aload0 dX4_playerOf_116 ?_
      refine N.getf dX4_playerOf_117 flX4_10 yO rfl ?_
      refine N.getf dX4_playerOf_120 flX4_181 yO0 rfl ?_
      refine N.iload1 dX4_playerOf_123 ?_
      refine N.si2 dX4_playerOf_124 vX4_bit lkX4_178 (s_X4_bit _ _ _ _) rfl (Nat.le_of_ble_eq_true rfl) (Nat.le_of_ble_eq_true rfl) (Nat.zero_le _) (Nat.zero_le _) ?_
      rintro _ _ _ ⟨rfl, rfl, rfl⟩
      exact N.iret dX4_playerOf_127 rfl (Nat.zero_le _) (Nat.zero_le _) ⟨_, rfl, (by rw [xplof, if_neg c8, if_neg t19_0, if_neg t19_1, if_neg t19_2, if_neg t19_3, if_neg t19_4, if_pos t19_5]; exact ⟨rfl, rfl, _, rfl, rel_xup⟩)⟩
    refine N.swc 6 (fun t19_6 => ?_) (fun t19_6 => ?_)
    · refine N.tsIn (off := 109) (tgt := 128) 6 t19_6 dX4_playerOf_19 (by decide) (by decide) (by decide) (by decide) ?_
      refine N.aload0 dX4_playerOf_128 ?_
      refine N.getf dX4_playerOf_129 flX4_10 yO rfl ?_
      refine N.iload1 dX4_playerOf_132 ?_
      refine N.vi1 dX4_playerOf_133 vX1_legsOf lkX4_184 (Sp.n0i fun W => s_X1_legsOf W _ _ _ _ hp) yO0 rfl (Nat.le_of_ble_eq_true rfl) (Nat.le_of_ble_eq_true rfl) (Nat.zero_le _) (Nat.zero_le _) ?_
      rintro _ _ _ ⟨rfl, rfl, rfl⟩
      exact N.iret dX4_playerOf_136 rfl (Nat.zero_le _) (Nat.zero_le _) ⟨_, rfl, (by rw [xplof, if_neg c8, if_neg t19_0, if_neg t19_1, if_neg t19_2, if_neg t19_3, if_neg t19_4, if_neg t19_5, if_pos t19_6]; exact ⟨rfl, rfl, _, rfl, rel_xup⟩)⟩
    refine N.swc 7 (fun t19_7 => ?_) (fun t19_7 => ?_)
    · refine N.tsIn (off := 118) (tgt := 137) 7 t19_7 dX4_playerOf_19 (by decide) (by decide) (by decide) (by decide) ?_
      refine N.aload0 dX4_playerOf_137 ?_
      refine N.getf dX4_playerOf_138 flX4_10 yO rfl ?_
      refine N.iload1 dX4_playerOf_141 ?_
      refine N.vi1 dX4_playerOf_142 vX1_powerOf lkX4_187 (Sp.n0i fun W => s_X1_powerOf W _ _ _ _ hp) yO0 rfl (Nat.le_of_ble_eq_true rfl) (Nat.le_of_ble_eq_true rfl) (Nat.zero_le _) (Nat.zero_le _) ?_
      rintro _ _ _ ⟨rfl, rfl, rfl⟩
      exact N.iret dX4_playerOf_145 rfl (Nat.zero_le _) (Nat.zero_le _) ⟨_, rfl, (by rw [xplof, if_neg c8, if_neg t19_0, if_neg t19_1, if_neg t19_2, if_neg t19_3, if_neg t19_4, if_neg t19_5, if_neg t19_6, if_pos t19_7]; exact ⟨rfl, rfl, _, rfl, rel_xup⟩)⟩
    refine N.tsOut (tgt := 146) dX4_playerOf_19 (by have h0 := sw_ne t19_0 (z := 0) (by decide); have h1 := sw_ne t19_1 (z := 1) (by decide); have h2 := sw_ne t19_2 (z := 2) (by decide); have h3 := sw_ne t19_3 (z := 3) (by decide); have h4 := sw_ne t19_4 (z := 4) (by decide); have h5 := sw_ne t19_5 (z := 5) (by decide); have h6 := sw_ne t19_6 (z := 6) (by decide); have h7 := sw_ne t19_7 (z := 7) (by decide); omega) (by decide) ?_
    refine N.aload0 dX4_playerOf_146 ?_
    refine N.bipush (v := -2) dX4_playerOf_147 (by decide) ?_
    refine N.vi1 dX4_playerOf_149 vX4_refuse lkX4_62 (s_X4_refuse _ _ _ _ _ _ _) yO rfl (Nat.le_of_ble_eq_true rfl) (Nat.le_of_ble_eq_true rfl) (Nat.zero_le _) (Nat.zero_le _) ?_
    rintro _ _ _ ⟨rfl, rfl, rfl⟩
    exact N.iret dX4_playerOf_152 rfl (Nat.zero_le _) (Nat.zero_le _) ⟨_, rfl, (by rw [xplof, if_neg c8, if_neg t19_0, if_neg t19_1, if_neg t19_2, if_neg t19_3, if_neg t19_4, if_neg t19_5, if_neg t19_6, if_neg t19_7]; exact rf_ok)⟩
  · refine N.aload0 dX4_playerOf_11 ?_
    refine N.bipush (v := -2) dX4_playerOf_12 (by decide) ?_
    refine N.vi1 dX4_playerOf_14 vX4_refuse lkX4_62 (s_X4_refuse _ _ _ _ _ _ _) yO rfl (Nat.le_of_ble_eq_true rfl) (Nat.le_of_ble_eq_true rfl) (Nat.zero_le _) (Nat.zero_le _) ?_
    rintro _ _ _ ⟨rfl, rfl, rfl⟩
    exact N.iret dX4_playerOf_17 rfl (Nat.zero_le _) (Nat.zero_le _) ⟨_, rfl, (by rw [xplof, if_pos c8]; exact rf_ok)⟩
def xlnof (x : XV) (l t : Int32) : Int32 × XV := if isInF l 0 3 = 0 then rf x (-2) else if t = 0 then ((x.1 0).2 4 l.toNatClampNeg, x) else if t = 1 then (tiredF (x.1 0) ((x.1 0).2 4 l.toNatClampNeg), x) else if t = 2 then (skillF (x.1 0) ((x.1 0).2 4 l.toNatClampNeg), x) else if t = 3 then (powAll (putOnV (x.1 0) ((x.1 0).2 4 l.toNatClampNeg)), x) else rf x (-2)
set_option maxRecDepth 100000 in
theorem s_X4_lineOf {K : Kx} (w : Wd) (a sz : Nat) (x : XV) (l : Int32) (t : Int32) (hX : okX x)  : Sp K mX4_lineOf 9 0 0 [.ref a, .int l, .int t] (putX K w a x) sz (Qi fun r w' sz' => r = (xlnof x l t).1 ∧ sz' = sz ∧ ∃ x', w' = putX K w a x' ∧ rel x' = rel (xlnof x l t).2) := by
  refine Sp.ofN [some (.ref a), some (.int l), some (.int t), none] rfl rfl rfl (Nat.le_of_ble_eq_true rfl) ?_
  have h : okP (x.1 0) := hX.1
  refine N.eqW (congrArg (putX K w a) (xup_self x)) ?_
  generalize x.1 1 = u0
  generalize x.2.2.2.2.1 = p0
  refine N.iload1 dX4_lineOf_0 ?_
  refine N.si1 dX4_lineOf_1 vX4_isLine lkX4_131 (s_X4_isLine _ _ _) rfl (Nat.le_of_ble_eq_true rfl) (Nat.le_of_ble_eq_true rfl) (Nat.zero_le _) (Nat.zero_le _) ?_
  rintro _ _ _ ⟨rfl, rfl, rfl⟩
  refine N.if_ne (tgt := 14) dX4_lineOf_4 (by decide) (fun c4 => ?_) (fun c4 => ?_)
  · refine N.aload0 dX4_lineOf_14 ?_
    refine N.getf dX4_lineOf_15 flX4_10 yO rfl ?_
    refine N.getf dX4_lineOf_18 flX4_142 yO0 rfl ?_
    refine N.iload1 dX4_lineOf_21 ?_
    refine N.iald dX4_lineOf_22 yA0_4 (ln_in c4) ?_
    refine N.istore3 dX4_lineOf_23 rfl ?_
    refine N.iload2 dX4_lineOf_24 ?_
    refine N.swc 0 (fun t25_0 => ?_) (fun t25_0 => ?_)
    · refine N.tsIn (off := 31) (tgt := 56) 0 t25_0 dX4_lineOf_25 (by decide) (by decide) (by decide) (by decide) ?_
      refine N.iload3 dX4_lineOf_56 ?_
      exact N.iret dX4_lineOf_57 rfl (Nat.zero_le _) (Nat.zero_le _) ⟨_, rfl, (by rw [xlnof, if_neg c4, if_pos t25_0]; exact ⟨rfl, rfl, _, rfl, rel_xup⟩)⟩
    refine N.swc 1 (fun t25_1 => ?_) (fun t25_1 => ?_)
    · refine N.tsIn (off := 33) (tgt := 58) 1 t25_1 dX4_lineOf_25 (by decide) (by decide) (by decide) (by decide) ?_
      refine N.aload0 dX4_lineOf_58 ?_
      refine N.getf dX4_lineOf_59 flX4_10 yO rfl ?_
      refine N.iload3 dX4_lineOf_62 ?_
      refine N.vi1 dX4_lineOf_63 vX1_tiredTogether lkX4_190 (Sp.n0i fun W => s_X1_tiredTogether W _ _ _ _ h) yO0 rfl (Nat.le_of_ble_eq_true rfl) (Nat.le_of_ble_eq_true rfl) (Nat.zero_le _) (Nat.zero_le _) ?_
      rintro _ _ _ ⟨rfl, rfl, rfl⟩
      exact N.iret dX4_lineOf_66 rfl (Nat.zero_le _) (Nat.zero_le _) ⟨_, rfl, (by rw [xlnof, if_neg c4, if_neg t25_0, if_pos t25_1]; exact ⟨rfl, rfl, _, rfl, rel_xup⟩)⟩
    refine N.swc 2 (fun t25_2 => ?_) (fun t25_2 => ?_)
    · refine N.tsIn (off := 42) (tgt := 67) 2 t25_2 dX4_lineOf_25 (by decide) (by decide) (by decide) (by decide) ?_
      refine N.aload0 dX4_lineOf_67 ?_
      refine N.getf dX4_lineOf_68 flX4_10 yO rfl ?_
      refine N.iload3 dX4_lineOf_71 ?_
      refine N.vi1 dX4_lineOf_72 vX1_skillTogether lkX4_193 (Sp.n0i fun W => s_X1_skillTogether W _ _ _ _ h) yO0 rfl (Nat.le_of_ble_eq_true rfl) (Nat.le_of_ble_eq_true rfl) (Nat.zero_le _) (Nat.zero_le _) ?_
      rintro _ _ _ ⟨rfl, rfl, rfl⟩
      exact N.iret dX4_lineOf_75 rfl (Nat.zero_le _) (Nat.zero_le _) ⟨_, rfl, (by rw [xlnof, if_neg c4, if_neg t25_0, if_neg t25_1, if_pos t25_2]; exact ⟨rfl, rfl, _, rfl, rel_xup⟩)⟩
    refine N.swc 3 (fun t25_3 => ?_) (fun t25_3 => ?_)
    · refine N.tsIn (off := 51) (tgt := 76) 3 t25_3 dX4_lineOf_25 (by decide) (by decide) (by decide) (by decide) ?_
      refine N.aload0 dX4_lineOf_76 ?_
      refine N.iload3 dX4_lineOf_77 ?_
      refine N.vi1 dX4_lineOf_78 vX4_powerWith lkX4_196 (s_X4_powerWith _ _ _ _ _ _ _ h) yO rfl (Nat.le_of_ble_eq_true rfl) (Nat.le_of_ble_eq_true rfl) (Nat.zero_le _) (Nat.zero_le _) ?_
      rintro _ _ _ ⟨rfl, rfl, rfl⟩
      exact N.iret dX4_lineOf_81 rfl (Nat.zero_le _) (Nat.zero_le _) ⟨_, rfl, (by rw [xlnof, if_neg c4, if_neg t25_0, if_neg t25_1, if_neg t25_2, if_pos t25_3]; exact ⟨rfl, rfl, _, rfl, rel_xup⟩)⟩
    refine N.tsOut (tgt := 82) dX4_lineOf_25 (by have h0 := sw_ne t25_0 (z := 0) (by decide); have h1 := sw_ne t25_1 (z := 1) (by decide); have h2 := sw_ne t25_2 (z := 2) (by decide); have h3 := sw_ne t25_3 (z := 3) (by decide); omega) (by decide) ?_
    refine N.aload0 dX4_lineOf_82 ?_
    refine N.bipush (v := -2) dX4_lineOf_83 (by decide) ?_
    refine N.vi1 dX4_lineOf_85 vX4_refuse lkX4_62 (s_X4_refuse _ _ _ _ _ _ _) yO rfl (Nat.le_of_ble_eq_true rfl) (Nat.le_of_ble_eq_true rfl) (Nat.zero_le _) (Nat.zero_le _) ?_
    rintro _ _ _ ⟨rfl, rfl, rfl⟩
    exact N.iret dX4_lineOf_88 rfl (Nat.zero_le _) (Nat.zero_le _) ⟨_, rfl, (by rw [xlnof, if_neg c4, if_neg t25_0, if_neg t25_1, if_neg t25_2, if_neg t25_3]; exact rf_ok)⟩
  · refine N.aload0 dX4_lineOf_7 ?_
    refine N.bipush (v := -2) dX4_lineOf_8 (by decide) ?_
    refine N.vi1 dX4_lineOf_10 vX4_refuse lkX4_62 (s_X4_refuse _ _ _ _ _ _ _) yO rfl (Nat.le_of_ble_eq_true rfl) (Nat.le_of_ble_eq_true rfl) (Nat.zero_le _) (Nat.zero_le _) ?_
    rintro _ _ _ ⟨rfl, rfl, rfl⟩
    exact N.iret dX4_lineOf_13 rfl (Nat.zero_le _) (Nat.zero_le _) ⟨_, rfl, (by rw [xlnof, if_pos c4]; exact rf_ok)⟩
def xpower (x : XV) : Int32 × XV := (powAll (x.1 0), x)
set_option maxRecDepth 100000 in
theorem s_X4_power {K : Kx} (w : Wd) (a sz : Nat) (x : XV) (hX : okX x)  : Sp K mX4_power 9 0 0 [.ref a] (putX K w a x) sz (Qi fun r w' sz' => r = (xpower x).1 ∧ sz' = sz ∧ ∃ x', w' = putX K w a x' ∧ rel x' = rel (xpower x).2) := by
  refine Sp.ofN [some (.ref a)] rfl rfl rfl (Nat.le_of_ble_eq_true rfl) ?_
  have h : okP (x.1 0) := hX.1
  refine N.eqW (congrArg (putX K w a) (xup_self x)) ?_
  generalize x.1 1 = u0
  generalize x.2.2.2.2.1 = p0
  refine N.aload0 dX4_power_0 ?_
  refine N.getf dX4_power_1 flX4_10 yO rfl ?_
  refine N.vi0 dX4_power_4 vX1_powerOfAll lkX4_199 (Sp.n0i fun W => s_X1_powerOfAll W _ _ _ h) yO0 rfl (Nat.le_of_ble_eq_true rfl) (Nat.le_of_ble_eq_true rfl) (Nat.zero_le _) (Nat.zero_le _) ?_
  rintro _ _ _ ⟨rfl, rfl, rfl⟩
  exact N.iret dX4_power_7 rfl (Nat.zero_le _) (Nat.zero_le _) ⟨_, rfl, (by rw [xpower]; exact ⟨rfl, rfl, _, rfl, rel_xup⟩)⟩
def xodds (x : XV) (t : Int32) : Int32 × XV := if t = 0 then (oddsOF (x.1 0) (powAll (x.1 0)), x) else if t = 1 then (oddsAF (x.1 0), x) else rf x (-2)
set_option maxRecDepth 100000 in
theorem s_X4_odds {K : Kx} (w : Wd) (a sz : Nat) (x : XV) (t : Int32) (hX : okX x)  : Sp K mX4_odds 9 0 0 [.ref a, .int t] (putX K w a x) sz (Qi fun r w' sz' => r = (xodds x t).1 ∧ sz' = sz ∧ ∃ x', w' = putX K w a x' ∧ rel x' = rel (xodds x t).2) := by
  refine Sp.ofN [some (.ref a), some (.int t)] rfl rfl rfl (Nat.le_of_ble_eq_true rfl) ?_
  have h : okP (x.1 0) := hX.1
  refine N.eqW (congrArg (putX K w a) (xup_self x)) ?_
  generalize x.1 1 = u0
  generalize x.2.2.2.2.1 = p0
  refine N.iload1 dX4_odds_0 ?_
  refine N.swc 0 (fun t0 => ?_) (fun t0 => ?_)
  · refine N.lsw (off := 27) (tgt := 28) dX4_odds_1 (by decide) (by rw [t0]; decide) (by decide) ?_
    refine N.aload0 dX4_odds_28 ?_
    refine N.getf dX4_odds_29 flX4_10 yO rfl ?_
    refine N.aload0 dX4_odds_32 ?_
    refine N.getf dX4_odds_33 flX4_10 yO rfl ?_
    refine N.vi0 dX4_odds_36 vX1_powerOfAll lkX4_199 (Sp.n0i fun W => s_X1_powerOfAll W _ _ _ h) yO0 rfl (Nat.le_of_ble_eq_true rfl) (Nat.le_of_ble_eq_true rfl) (Nat.zero_le _) (Nat.zero_le _) ?_
    rintro _ _ _ ⟨rfl, rfl, rfl⟩
    refine N.vi1 dX4_odds_39 vX1_oddsOurs lkX4_202 (Sp.n0i fun W => s_X1_oddsOurs W _ _ _ _) yO0 rfl (Nat.le_of_ble_eq_true rfl) (Nat.le_of_ble_eq_true rfl) (Nat.zero_le _) (Nat.zero_le _) ?_
    rintro _ _ _ ⟨rfl, rfl, rfl⟩
    exact N.iret dX4_odds_42 rfl (Nat.zero_le _) (Nat.zero_le _) ⟨_, rfl, (by rw [xodds, if_pos t0]; exact ⟨rfl, rfl, _, rfl, rel_xup⟩)⟩
  refine N.swc 1 (fun t1 => ?_) (fun t1 => ?_)
  · refine N.lsw (off := 42) (tgt := 43) dX4_odds_1 (by decide) (by rw [t1]; decide) (by decide) ?_
    refine N.aload0 dX4_odds_43 ?_
    refine N.getf dX4_odds_44 flX4_10 yO rfl ?_
    refine N.vi0 dX4_odds_47 vX1_oddsAgainst lkX4_205 (Sp.n0i fun W => s_X1_oddsAgainst W _ _ _) yO0 rfl (Nat.le_of_ble_eq_true rfl) (Nat.le_of_ble_eq_true rfl) (Nat.zero_le _) (Nat.zero_le _) ?_
    rintro _ _ _ ⟨rfl, rfl, rfl⟩
    exact N.iret dX4_odds_50 rfl (Nat.zero_le _) (Nat.zero_le _) ⟨_, rfl, (by rw [xodds, if_neg t0, if_pos t1]; exact ⟨rfl, rfl, _, rfl, rel_xup⟩)⟩
  refine N.lsw (off := 50) (tgt := 51) dX4_odds_1 (by decide) (by rw [show (#[(0, 27), (1, 42)] : Array (Int × Int)).toList = [(0, 27), (1, 42)] from rfl, lv_osw t0 (by decide), lv_osw t1 (by decide)]; rfl) (by decide) ?_
  refine N.aload0 dX4_odds_51 ?_
  refine N.bipush (v := -2) dX4_odds_52 (by decide) ?_
  refine N.vi1 dX4_odds_54 vX4_refuse lkX4_62 (s_X4_refuse _ _ _ _ _ _ _) yO rfl (Nat.le_of_ble_eq_true rfl) (Nat.le_of_ble_eq_true rfl) (Nat.zero_le _) (Nat.zero_le _) ?_
  rintro _ _ _ ⟨rfl, rfl, rfl⟩
  exact N.iret dX4_odds_57 rfl (Nat.zero_le _) (Nat.zero_le _) ⟨_, rfl, (by rw [xodds, if_neg t0, if_neg t1]; exact rf_ok)⟩
def xway (x : XV) (l : Int32) : Int32 × XV := if hasPlF (x.1 0) l = 0 then rf x (noLF l) else (wayF (x.1 0) l, x)
set_option maxRecDepth 100000 in
theorem s_X4_way {K : Kx} (w : Wd) (a sz : Nat) (x : XV) (l : Int32) (hX : okX x)  : Sp K mX4_way 9 0 0 [.ref a, .int l] (putX K w a x) sz (Qi fun r w' sz' => r = (xway x l).1 ∧ sz' = sz ∧ ∃ x', w' = putX K w a x' ∧ rel x' = rel (xway x l).2) := by
  refine Sp.ofN [some (.ref a), some (.int l)] rfl rfl rfl (Nat.le_of_ble_eq_true rfl) ?_
  have h : okP (x.1 0) := hX.1
  refine N.eqW (congrArg (putX K w a) (xup_self x)) ?_
  generalize x.1 1 = u0
  generalize x.2.2.2.2.1 = p0
  refine N.aload0 dX4_way_0 ?_
  refine N.getf dX4_way_1 flX4_10 yO rfl ?_
  refine N.iload1 dX4_way_4 ?_
  refine N.vi1 dX4_way_5 vX1_hasPlayers lkX4_208 (Sp.n0i fun W => s_X1_hasPlayers W _ _ _ _) yO0 rfl (Nat.le_of_ble_eq_true rfl) (Nat.le_of_ble_eq_true rfl) (Nat.zero_le _) (Nat.zero_le _) ?_
  rintro _ _ _ ⟨rfl, rfl, rfl⟩
  refine N.if_ne (tgt := 21) dX4_way_8 (by decide) (fun c8 => ?_) (fun c8 => ?_)
  · have hl := hl_in c8
    refine N.aload0 dX4_way_21 ?_
    refine N.getf dX4_way_22 flX4_10 yO rfl ?_
    refine N.iload1 dX4_way_25 ?_
    refine N.vi1 dX4_way_26 vX1_wayTo lkX4_214 (Sp.n0i fun W => s_X1_wayTo W _ _ _ _ hl h) yO0 rfl (Nat.le_of_ble_eq_true rfl) (Nat.le_of_ble_eq_true rfl) (Nat.zero_le _) (Nat.zero_le _) ?_
    rintro _ _ _ ⟨rfl, rfl, rfl⟩
    exact N.iret dX4_way_29 rfl (Nat.zero_le _) (Nat.zero_le _) ⟨_, rfl, (by rw [xway, if_neg c8]; exact ⟨rfl, rfl, _, rfl, rel_xup⟩)⟩
  · refine N.aload0 dX4_way_11 ?_
    refine N.aload0 dX4_way_12 ?_
    refine N.iload1 dX4_way_13 ?_
    refine N.vi1 dX4_way_14 vX4_whyNoLine lkX4_211 (s_X4_whyNoLine _ _ _ _ _ _ _) yO rfl (Nat.le_of_ble_eq_true rfl) (Nat.le_of_ble_eq_true rfl) (Nat.zero_le _) (Nat.zero_le _) ?_
    rintro _ _ _ ⟨rfl, rfl, rfl⟩
    refine N.vi1 dX4_way_17 vX4_refuse lkX4_62 (s_X4_refuse _ _ _ _ _ _ _) yO rfl (Nat.le_of_ble_eq_true rfl) (Nat.le_of_ble_eq_true rfl) (Nat.zero_le _) (Nat.zero_le _) ?_
    rintro _ _ _ ⟨rfl, rfl, rfl⟩
    exact N.iret dX4_way_20 rfl (Nat.zero_le _) (Nat.zero_le _) ⟨_, rfl, (by rw [xway, if_pos c8]; exact rf_ok)⟩
def xrests (x : XV) (q : Int32) : Int32 × XV := if isPlF (x.1 0) q = 0 then rf x (-2) else (((x.1 0).2 3 q.toNatClampNeg + restsF ((x.1 0).2 0 q.toNatClampNeg) - 1) / restsF ((x.1 0).2 0 q.toNatClampNeg), x)
set_option maxRecDepth 100000 in
theorem s_X4_rests {K : Kx} (w : Wd) (a sz : Nat) (x : XV) (q : Int32) (hX : okX x)  : Sp K mX4_rests 9 0 0 [.ref a, .int q] (putX K w a x) sz (Qi fun r w' sz' => r = (xrests x q).1 ∧ sz' = sz ∧ ∃ x', w' = putX K w a x' ∧ rel x' = rel (xrests x q).2) := by
  refine Sp.ofN [some (.ref a), some (.int q), none] rfl rfl rfl (Nat.le_of_ble_eq_true rfl) ?_
  have h : okP (x.1 0) := hX.1
  refine N.eqW (congrArg (putX K w a) (xup_self x)) ?_
  generalize x.1 1 = u0
  generalize x.2.2.2.2.1 = p0
  refine N.aload0 dX4_rests_0 ?_
  refine N.getf dX4_rests_1 flX4_10 yO rfl ?_
  refine N.iload1 dX4_rests_4 ?_
  refine N.vi1 dX4_rests_5 vX1_isPlayer lkX4_106 (Sp.n0i fun W => s_X1_isPlayer W _ _ _ _) yO0 rfl (Nat.le_of_ble_eq_true rfl) (Nat.le_of_ble_eq_true rfl) (Nat.zero_le _) (Nat.zero_le _) ?_
  rintro _ _ _ ⟨rfl, rfl, rfl⟩
  refine N.if_ne (tgt := 18) dX4_rests_8 (by decide) (fun c8 => ?_) (fun c8 => ?_)
  · have hp := pl_in h c8
    refine N.aload0 dX4_rests_18 ?_
    refine N.getf dX4_rests_19 flX4_10 yO rfl ?_
    refine N.getf dX4_rests_22 flX4_108 yO0 rfl ?_
    refine N.iload1 dX4_rests_25 ?_
    refine N.iald dX4_rests_26 yA0_0 hp ?_
    refine N.si1 dX4_rests_27 vX4_restsBy lkX4_226 (s_X4_restsBy _ _ _) rfl (Nat.le_of_ble_eq_true rfl) (Nat.le_of_ble_eq_true rfl) (Nat.zero_le _) (Nat.zero_le _) ?_
    rintro _ _ _ ⟨rfl, rfl, rfl⟩
    refine N.istore2 dX4_rests_30 rfl ?_
    refine N.aload0 dX4_rests_31 ?_
    refine N.getf dX4_rests_32 flX4_10 yO rfl ?_
    refine N.getf dX4_rests_35 flX4_128 yO0 rfl ?_
    refine N.iload1 dX4_rests_38 ?_
    refine N.iald dX4_rests_39 yA0_3 hp ?_
    refine N.iload2 dX4_rests_40 ?_
    refine N.iadd dX4_rests_41 ?_
    refine N.iconst (v := 1) dX4_rests_42 (by decide) ?_
    refine N.isub dX4_rests_43 ?_
    refine N.iload2 dX4_rests_44 ?_
    refine N.idiv dX4_rests_45 (rests_ne _) ?_
    exact N.iret dX4_rests_46 rfl (Nat.zero_le _) (Nat.zero_le _) ⟨_, rfl, (by rw [xrests, if_neg c8]; exact ⟨rfl, rfl, _, rfl, rel_xup⟩)⟩
  · refine N.aload0 dX4_rests_11 ?_
    refine N.bipush (v := -2) dX4_rests_12 (by decide) ?_
    refine N.vi1 dX4_rests_14 vX4_refuse lkX4_62 (s_X4_refuse _ _ _ _ _ _ _) yO rfl (Nat.le_of_ble_eq_true rfl) (Nat.le_of_ble_eq_true rfl) (Nat.zero_le _) (Nat.zero_le _) ?_
    rintro _ _ _ ⟨rfl, rfl, rfl⟩
    exact N.iret dX4_rests_17 rfl (Nat.zero_le _) (Nat.zero_le _) ⟨_, rfl, (by rw [xrests, if_pos c8]; exact rf_ok)⟩
def xbehind (x : XV) (n q : Int32) : Int32 × XV := if isInF n 0 600 = 0 then rf x (-2) else if q = -1 then (powAll (passV n (x.1 0)), x) else if isPlF (x.1 0) q = 0 then rf x (-2) else ((passV n (x.1 0)).2 3 q.toNatClampNeg, x)
set_option maxRecDepth 100000 in
theorem s_X4_behind {K : Kx} (w : Wd) (a sz : Nat) (x : XV) (n : Int32) (q : Int32) (hX : okX x)  : Sp K mX4_behind 9 0 0 [.ref a, .int n, .int q] (putX K w a x) sz (Qi fun r w' sz' => r = (xbehind x n q).1 ∧ sz' = sz ∧ ∃ x', w' = putX K w a x' ∧ rel x' = rel (xbehind x n q).2) := by
  refine Sp.ofN [some (.ref a), some (.int n), some (.int q)] rfl rfl rfl (Nat.le_of_ble_eq_true rfl) ?_
  have h : okP (x.1 0) := hX.1
  refine N.eqW (congrArg (putX K w a) (xup_self x)) ?_
  generalize x.1 1 = u0
  generalize x.2.2.2.2.1 = p0
  refine N.iload1 dX4_behind_0 ?_
  refine N.iconst (v := 0) dX4_behind_1 (by decide) ?_
  refine N.sipush (v := 600) dX4_behind_2 (by decide) ?_
  refine N.si3 dX4_behind_5 vX4_isIn lkX4_58 (s_X4_isIn _ _ _ _ _) rfl (Nat.le_of_ble_eq_true rfl) (Nat.le_of_ble_eq_true rfl) (Nat.zero_le _) (Nat.zero_le _) ?_
  rintro _ _ _ ⟨rfl, rfl, rfl⟩
  refine N.if_eq (tgt := 27) dX4_behind_8 (by decide) (fun c8 => ?_) (fun c8 => ?_)
  · refine N.aload0 dX4_behind_27 ?_
    refine N.bipush (v := -2) dX4_behind_28 (by decide) ?_
    refine N.vi1 dX4_behind_30 vX4_refuse lkX4_62 (s_X4_refuse _ _ _ _ _ _ _) yO rfl (Nat.le_of_ble_eq_true rfl) (Nat.le_of_ble_eq_true rfl) (Nat.zero_le _) (Nat.zero_le _) ?_
    rintro _ _ _ ⟨rfl, rfl, rfl⟩
    exact N.iret dX4_behind_33 rfl (Nat.zero_le _) (Nat.zero_le _) ⟨_, rfl, (by rw [xbehind, if_pos c8]; exact rf_ok)⟩
  · refine N.iload2 dX4_behind_11 ?_
    refine N.iconst (v := -1) dX4_behind_12 (by decide) ?_
    refine N.icmp_eq (tgt := 34) dX4_behind_13 (by decide) (fun c13 => ?_) (fun c13 => ?_)
    · have ho := h
      refine N.aload0 dX4_behind_34 ?_
      refine N.getf dX4_behind_35 flX4_16 yO rfl ?_
      refine N.aload0 dX4_behind_38 ?_
      refine N.getf dX4_behind_39 flX4_10 yO rfl ?_
      refine N.vv1 dX4_behind_42 vX1_takeFrom lkX4_161 (Sp.tk) yO1 rfl (Nat.le_of_ble_eq_true rfl) (Nat.le_of_ble_eq_true rfl) (Nat.zero_le _) (Nat.zero_le _) ?_
      rintro _ _ ⟨rfl, rfl⟩
      refine N.aload0 dX4_behind_45 ?_
      refine N.getf dX4_behind_46 flX4_16 yO rfl ?_
      refine N.iload1 dX4_behind_49 ?_
      refine N.vv1 dX4_behind_50 vX1_passSeconds lkX4_246 (Sp.n1v fun W => s_X1_passSeconds W _ _ _ _ ho) yO1 rfl (Nat.le_of_ble_eq_true rfl) (Nat.le_of_ble_eq_true rfl) (Nat.zero_le _) (Nat.zero_le _) ?_
      rintro _ _ ⟨rfl, rfl⟩
      refine N.iload2 dX4_behind_53 ?_
      refine N.iconst (v := -1) dX4_behind_54 (by decide) ?_
      refine N.icmp_ne (tgt := 68) dX4_behind_55 (by decide) (fun c55 => absurd c13 c55) (fun c55 => ?_)
      refine N.aload0 dX4_behind_58 ?_
      refine N.getf dX4_behind_59 flX4_16 yO rfl ?_
      refine N.vi0 dX4_behind_62 vX1_powerOfAll lkX4_199 (Sp.n1i fun W => s_X1_powerOfAll W _ _ _ (h.pass n)) yO1 rfl (Nat.le_of_ble_eq_true rfl) (Nat.le_of_ble_eq_true rfl) (Nat.zero_le _) (Nat.zero_le _) ?_
      rintro _ _ _ ⟨rfl, rfl, rfl⟩
      refine N.goto (tgt := 77) dX4_behind_65 (by decide) ?_
      exact N.iret dX4_behind_77 rfl (Nat.zero_le _) (Nat.zero_le _) ⟨_, rfl, (by rw [xbehind, if_neg c8, if_pos c13]; exact ⟨rfl, rfl, _, rfl, rel_xup⟩)⟩
    · refine N.aload0 dX4_behind_16 ?_
      refine N.getf dX4_behind_17 flX4_10 yO rfl ?_
      refine N.iload2 dX4_behind_20 ?_
      refine N.vi1 dX4_behind_21 vX1_isPlayer lkX4_106 (Sp.n0i fun W => s_X1_isPlayer W _ _ _ _) yO0 rfl (Nat.le_of_ble_eq_true rfl) (Nat.le_of_ble_eq_true rfl) (Nat.zero_le _) (Nat.zero_le _) ?_
      rintro _ _ _ ⟨rfl, rfl, rfl⟩
      refine N.if_ne (tgt := 34) dX4_behind_24 (by decide) (fun c24 => ?_) (fun c24 => ?_)
      · have ho := h
        refine N.aload0 dX4_behind_34 ?_
        refine N.getf dX4_behind_35 flX4_16 yO rfl ?_
        refine N.aload0 dX4_behind_38 ?_
        refine N.getf dX4_behind_39 flX4_10 yO rfl ?_
        refine N.vv1 dX4_behind_42 vX1_takeFrom lkX4_161 (Sp.tk) yO1 rfl (Nat.le_of_ble_eq_true rfl) (Nat.le_of_ble_eq_true rfl) (Nat.zero_le _) (Nat.zero_le _) ?_
        rintro _ _ ⟨rfl, rfl⟩
        refine N.aload0 dX4_behind_45 ?_
        refine N.getf dX4_behind_46 flX4_16 yO rfl ?_
        refine N.iload1 dX4_behind_49 ?_
        refine N.vv1 dX4_behind_50 vX1_passSeconds lkX4_246 (Sp.n1v fun W => s_X1_passSeconds W _ _ _ _ ho) yO1 rfl (Nat.le_of_ble_eq_true rfl) (Nat.le_of_ble_eq_true rfl) (Nat.zero_le _) (Nat.zero_le _) ?_
        rintro _ _ ⟨rfl, rfl⟩
        refine N.iload2 dX4_behind_53 ?_
        refine N.iconst (v := -1) dX4_behind_54 (by decide) ?_
        refine N.icmp_ne (tgt := 68) dX4_behind_55 (by decide) (fun c55 => ?_) (fun c55 => absurd c55 c13)
        refine N.aload0 dX4_behind_68 ?_
        refine N.getf dX4_behind_69 flX4_16 yO rfl ?_
        refine N.getf dX4_behind_72 flX4_128 yO1 rfl ?_
        refine N.iload2 dX4_behind_75 ?_
        refine N.iald dX4_behind_76 yA1_3 (pl_in h c24) ?_
        exact N.iret dX4_behind_77 rfl (Nat.zero_le _) (Nat.zero_le _) ⟨_, rfl, (by rw [xbehind, if_neg c8, if_neg c13, if_neg c24]; exact ⟨rfl, rfl, _, rfl, rel_xup⟩)⟩
      · refine N.aload0 dX4_behind_27 ?_
        refine N.bipush (v := -2) dX4_behind_28 (by decide) ?_
        refine N.vi1 dX4_behind_30 vX4_refuse lkX4_62 (s_X4_refuse _ _ _ _ _ _ _) yO rfl (Nat.le_of_ble_eq_true rfl) (Nat.le_of_ble_eq_true rfl) (Nat.zero_le _) (Nat.zero_le _) ?_
        rintro _ _ _ ⟨rfl, rfl, rfl⟩
        exact N.iret dX4_behind_33 rfl (Nat.zero_le _) (Nat.zero_le _) ⟨_, rfl, (by rw [xbehind, if_neg c8, if_neg c13, if_pos c24]; exact rf_ok)⟩
def xgains (x : XV) (n : Int32) : Int32 × XV := if isInF n 0 600 = 0 then rg x (-2) else (gainsF (x.1 0) n, x)
set_option maxRecDepth 100000 in
theorem s_X4_gains {K : Kx} (w : Wd) (a sz : Nat) (x : XV) (n : Int32) (hX : okX x)  : Sp K mX4_gains 9 0 0 [.ref a, .int n] (putX K w a x) sz (Qi fun r w' sz' => r = (xgains x n).1 ∧ sz' = sz ∧ ∃ x', w' = putX K w a x' ∧ rel x' = rel (xgains x n).2) := by
  refine Sp.ofN [some (.ref a), some (.int n)] rfl rfl rfl (Nat.le_of_ble_eq_true rfl) ?_
  have h : okP (x.1 0) := hX.1
  refine N.eqW (congrArg (putX K w a) (xup_self x)) ?_
  generalize x.1 1 = u0
  generalize x.2.2.2.2.1 = p0
  refine N.iload1 dX4_gains_0 ?_
  refine N.iconst (v := 0) dX4_gains_1 (by decide) ?_
  refine N.sipush (v := 600) dX4_gains_2 (by decide) ?_
  refine N.si3 dX4_gains_5 vX4_isIn lkX4_58 (s_X4_isIn _ _ _ _ _) rfl (Nat.le_of_ble_eq_true rfl) (Nat.le_of_ble_eq_true rfl) (Nat.zero_le _) (Nat.zero_le _) ?_
  rintro _ _ _ ⟨rfl, rfl, rfl⟩
  refine N.if_ne (tgt := 18) dX4_gains_8 (by decide) (fun c8 => ?_) (fun c8 => ?_)
  · obtain ⟨m, hm, hn⟩ := in_n (N' := 600) (by decide) c8
    have ho := h
    refine N.aload0 dX4_gains_18 ?_
    refine N.getf dX4_gains_19 flX4_16 yO rfl ?_
    refine N.aload0 dX4_gains_22 ?_
    refine N.getf dX4_gains_23 flX4_10 yO rfl ?_
    refine N.vv1 dX4_gains_26 vX1_takeFrom lkX4_161 (Sp.tk) yO1 rfl (Nat.le_of_ble_eq_true rfl) (Nat.le_of_ble_eq_true rfl) (Nat.zero_le _) (Nat.zero_le _) ?_
    rintro _ _ ⟨rfl, rfl⟩
    refine N.aload0 dX4_gains_29 ?_
    refine N.getf dX4_gains_30 flX4_16 yO rfl ?_
    refine N.iload1 dX4_gains_33 ?_
    refine N.vi1 dX4_gains_34 vX1_gainsIn lkX4_253 (Sp.n1i fun W => s_X1_gainsIn W _ _ _ _ m hm hn ho) yO1 rfl (Nat.le_of_ble_eq_true rfl) (Nat.le_of_ble_eq_true rfl) (Nat.zero_le _) (Nat.zero_le _) ?_
    rintro _ _ _ ⟨rfl, rfl, rfl⟩
    exact N.iret dX4_gains_37 rfl (Nat.zero_le _) (Nat.zero_le _) ⟨_, rfl, (by rw [xgains, if_neg c8]; exact ⟨rfl, rfl, _, rfl, rel_xup⟩)⟩
  · refine N.aload0 dX4_gains_11 ?_
    refine N.bipush (v := -2) dX4_gains_12 (by decide) ?_
    refine N.vi1 dX4_gains_14 vX4_refuseGains lkX4_250 (s_X4_refuseGains _ _ _ _ _ _ _) yO rfl (Nat.le_of_ble_eq_true rfl) (Nat.le_of_ble_eq_true rfl) (Nat.zero_le _) (Nat.zero_le _) ?_
    rintro _ _ _ ⟨rfl, rfl, rfl⟩
    exact N.iret dX4_gains_17 rfl (Nat.zero_le _) (Nat.zero_le _) ⟨_, rfl, (by rw [xgains, if_pos c8]; exact rg_ok)⟩
def twoG (v : CV) (l k n : Int32) : Int32 := gainsF (putOnV v (v.2 4 l.toNatClampNeg)) n + gainsF (chgV (oursV (putOnV v (v.2 4 l.toNatClampNeg)) n) k) n
def xtwo (x : XV) (l k n : Int32) : Int32 × XV := if isInF l 0 3 = 0 then rg x (-2) else if isInF k 0 3 = 0 then rg x (-2) else if isInF n 0 600 = 0 then rg x (-2) else if hasPlF (x.1 0) l = 0 then rg x (-5) else if hasPlF (x.1 0) k = 0 then rg x (-5) else (twoG (x.1 0) l k n, x)
set_option maxRecDepth 100000 in
theorem s_X4_two {K : Kx} (w : Wd) (a sz : Nat) (x : XV) (l : Int32) (k : Int32) (n : Int32) (hX : okX x)  : Sp K mX4_two 9 0 0 [.ref a, .int l, .int k, .int n] (putX K w a x) sz (Qi fun r w' sz' => r = (xtwo x l k n).1 ∧ sz' = sz ∧ ∃ x', w' = putX K w a x' ∧ rel x' = rel (xtwo x l k n).2) := by
  refine Sp.ofN [some (.ref a), some (.int l), some (.int k), some (.int n), none] rfl rfl rfl (Nat.le_of_ble_eq_true rfl) ?_
  have h : okP (x.1 0) := hX.1
  refine N.eqW (congrArg (putX K w a) (xup_self x)) ?_
  generalize x.1 1 = u0
  generalize x.2.2.2.2.1 = p0
  refine N.iload1 dX4_two_0 ?_
  refine N.si1 dX4_two_1 vX4_isLine lkX4_131 (s_X4_isLine _ _ _) rfl (Nat.le_of_ble_eq_true rfl) (Nat.le_of_ble_eq_true rfl) (Nat.zero_le _) (Nat.zero_le _) ?_
  rintro _ _ _ ⟨rfl, rfl, rfl⟩
  refine N.if_eq (tgt := 25) dX4_two_4 (by decide) (fun c4 => ?_) (fun c4 => ?_)
  · refine N.aload0 dX4_two_25 ?_
    refine N.bipush (v := -2) dX4_two_26 (by decide) ?_
    refine N.vi1 dX4_two_28 vX4_refuseGains lkX4_250 (s_X4_refuseGains _ _ _ _ _ _ _) yO rfl (Nat.le_of_ble_eq_true rfl) (Nat.le_of_ble_eq_true rfl) (Nat.zero_le _) (Nat.zero_le _) ?_
    rintro _ _ _ ⟨rfl, rfl, rfl⟩
    exact N.iret dX4_two_31 rfl (Nat.zero_le _) (Nat.zero_le _) ⟨_, rfl, (by rw [xtwo, if_pos c4]; exact rg_ok)⟩
  · refine N.iload2 dX4_two_7 ?_
    refine N.si1 dX4_two_8 vX4_isLine lkX4_131 (s_X4_isLine _ _ _) rfl (Nat.le_of_ble_eq_true rfl) (Nat.le_of_ble_eq_true rfl) (Nat.zero_le _) (Nat.zero_le _) ?_
    rintro _ _ _ ⟨rfl, rfl, rfl⟩
    refine N.if_eq (tgt := 25) dX4_two_11 (by decide) (fun c11 => ?_) (fun c11 => ?_)
    · refine N.aload0 dX4_two_25 ?_
      refine N.bipush (v := -2) dX4_two_26 (by decide) ?_
      refine N.vi1 dX4_two_28 vX4_refuseGains lkX4_250 (s_X4_refuseGains _ _ _ _ _ _ _) yO rfl (Nat.le_of_ble_eq_true rfl) (Nat.le_of_ble_eq_true rfl) (Nat.zero_le _) (Nat.zero_le _) ?_
      rintro _ _ _ ⟨rfl, rfl, rfl⟩
      exact N.iret dX4_two_31 rfl (Nat.zero_le _) (Nat.zero_le _) ⟨_, rfl, (by rw [xtwo, if_neg c4, if_pos c11]; exact rg_ok)⟩
    · refine N.iload3 dX4_two_14 ?_
      refine N.iconst (v := 0) dX4_two_15 (by decide) ?_
      refine N.sipush (v := 600) dX4_two_16 (by decide) ?_
      refine N.si3 dX4_two_19 vX4_isIn lkX4_58 (s_X4_isIn _ _ _ _ _) rfl (Nat.le_of_ble_eq_true rfl) (Nat.le_of_ble_eq_true rfl) (Nat.zero_le _) (Nat.zero_le _) ?_
      rintro _ _ _ ⟨rfl, rfl, rfl⟩
      refine N.if_ne (tgt := 32) dX4_two_22 (by decide) (fun c22 => ?_) (fun c22 => ?_)
      · refine N.aload0 dX4_two_32 ?_
        refine N.getf dX4_two_33 flX4_10 yO rfl ?_
        refine N.iload1 dX4_two_36 ?_
        refine N.vi1 dX4_two_37 vX1_hasPlayers lkX4_208 (Sp.n0i fun W => s_X1_hasPlayers W _ _ _ _) yO0 rfl (Nat.le_of_ble_eq_true rfl) (Nat.le_of_ble_eq_true rfl) (Nat.zero_le _) (Nat.zero_le _) ?_
        rintro _ _ _ ⟨rfl, rfl, rfl⟩
        refine N.if_eq (tgt := 54) dX4_two_40 (by decide) (fun c40 => ?_) (fun c40 => ?_)
        · refine N.aload0 dX4_two_54 ?_
          refine N.bipush (v := -5) dX4_two_55 (by decide) ?_
          refine N.vi1 dX4_two_57 vX4_refuseGains lkX4_250 (s_X4_refuseGains _ _ _ _ _ _ _) yO rfl (Nat.le_of_ble_eq_true rfl) (Nat.le_of_ble_eq_true rfl) (Nat.zero_le _) (Nat.zero_le _) ?_
          rintro _ _ _ ⟨rfl, rfl, rfl⟩
          exact N.iret dX4_two_60 rfl (Nat.zero_le _) (Nat.zero_le _) ⟨_, rfl, (by rw [xtwo, if_neg c4, if_neg c11, if_neg c22, if_pos c40]; exact rg_ok)⟩
        · refine N.aload0 dX4_two_43 ?_
          refine N.getf dX4_two_44 flX4_10 yO rfl ?_
          refine N.iload2 dX4_two_47 ?_
          refine N.vi1 dX4_two_48 vX1_hasPlayers lkX4_208 (Sp.n0i fun W => s_X1_hasPlayers W _ _ _ _) yO0 rfl (Nat.le_of_ble_eq_true rfl) (Nat.le_of_ble_eq_true rfl) (Nat.zero_le _) (Nat.zero_le _) ?_
          rintro _ _ _ ⟨rfl, rfl, rfl⟩
          refine N.if_ne (tgt := 61) dX4_two_51 (by decide) (fun c51 => ?_) (fun c51 => ?_)
          · obtain ⟨m, hm, hn⟩ := in_n (N' := 600) (by decide) c22
            have ho := h
            refine N.aload0 dX4_two_61 ?_
            refine N.getf dX4_two_62 flX4_16 yO rfl ?_
            refine N.aload0 dX4_two_65 ?_
            refine N.getf dX4_two_66 flX4_10 yO rfl ?_
            refine N.vv1 dX4_two_69 vX1_takeFrom lkX4_161 (Sp.tk) yO1 rfl (Nat.le_of_ble_eq_true rfl) (Nat.le_of_ble_eq_true rfl) (Nat.zero_le _) (Nat.zero_le _) ?_
            rintro _ _ ⟨rfl, rfl⟩
            refine N.aload0 dX4_two_72 ?_
            refine N.getf dX4_two_73 flX4_16 yO rfl ?_
            refine N.aload0 dX4_two_76 ?_
            refine N.getf dX4_two_77 flX4_16 yO rfl ?_
            refine N.getf dX4_two_80 flX4_142 yO1 rfl ?_
            refine N.iload1 dX4_two_83 ?_
            refine N.iald dX4_two_84 yA1_4 (ln_in c4) ?_
            refine N.vv1 dX4_two_85 vX1_putOn lkX4_256 (Sp.n1v fun W => s_X1_putOn W _ _ _ _) yO1 rfl (Nat.le_of_ble_eq_true rfl) (Nat.le_of_ble_eq_true rfl) (Nat.zero_le _) (Nat.zero_le _) ?_
            rintro _ _ ⟨rfl, rfl⟩
            refine N.aload0 dX4_two_88 ?_
            refine N.getf dX4_two_89 flX4_16 yO rfl ?_
            refine N.iload3 dX4_two_92 ?_
            refine N.vi1 dX4_two_93 vX1_gainsIn lkX4_253 (Sp.n1i fun W => s_X1_gainsIn W _ _ _ _ m hm hn (h.on _)) yO1 rfl (Nat.le_of_ble_eq_true rfl) (Nat.le_of_ble_eq_true rfl) (Nat.zero_le _) (Nat.zero_le _) ?_
            rintro _ _ _ ⟨rfl, rfl, rfl⟩
            refine N.istore4 dX4_two_96 rfl ?_
            refine N.aload0 dX4_two_98 ?_
            refine N.getf dX4_two_99 flX4_16 yO rfl ?_
            refine N.iload2 dX4_two_102 ?_
            refine N.vi1 dX4_two_103 vX1_beginChange lkX4_265 (Sp.n1i fun W => s_X1_beginChange W _ _ _ _ (ln_in c11) ((h.on _).oursV n)) yO1 rfl (Nat.le_of_ble_eq_true rfl) (Nat.le_of_ble_eq_true rfl) (Nat.zero_le _) (Nat.zero_le _) ?_
            rintro _ _ _ ⟨rfl, rfl, rfl⟩
            refine N.pop dX4_two_106 rfl ?_
            refine N.iload4 dX4_two_107 ?_
            refine N.aload0 dX4_two_109 ?_
            refine N.getf dX4_two_110 flX4_16 yO rfl ?_
            refine N.iload3 dX4_two_113 ?_
            refine N.vi1 dX4_two_114 vX1_gainsIn lkX4_253 (Sp.n1i fun W => s_X1_gainsIn W _ _ _ _ m hm hn (((h.on _).oursV n).chg k)) yO1 rfl (Nat.le_of_ble_eq_true rfl) (Nat.le_of_ble_eq_true rfl) (Nat.zero_le _) (Nat.zero_le _) ?_
            rintro _ _ _ ⟨rfl, rfl, rfl⟩
            refine N.iadd dX4_two_117 ?_
            exact N.iret dX4_two_118 rfl (Nat.zero_le _) (Nat.zero_le _) ⟨_, rfl, (by rw [xtwo, if_neg c4, if_neg c11, if_neg c22, if_neg c40, if_neg c51]; exact ⟨rfl, rfl, _, rfl, rel_xup⟩)⟩
          · refine N.aload0 dX4_two_54 ?_
            refine N.bipush (v := -5) dX4_two_55 (by decide) ?_
            refine N.vi1 dX4_two_57 vX4_refuseGains lkX4_250 (s_X4_refuseGains _ _ _ _ _ _ _) yO rfl (Nat.le_of_ble_eq_true rfl) (Nat.le_of_ble_eq_true rfl) (Nat.zero_le _) (Nat.zero_le _) ?_
            rintro _ _ _ ⟨rfl, rfl, rfl⟩
            exact N.iret dX4_two_60 rfl (Nat.zero_le _) (Nat.zero_le _) ⟨_, rfl, (by rw [xtwo, if_neg c4, if_neg c11, if_neg c22, if_neg c40, if_pos c51]; exact rg_ok)⟩
      · refine N.aload0 dX4_two_25 ?_
        refine N.bipush (v := -2) dX4_two_26 (by decide) ?_
        refine N.vi1 dX4_two_28 vX4_refuseGains lkX4_250 (s_X4_refuseGains _ _ _ _ _ _ _) yO rfl (Nat.le_of_ble_eq_true rfl) (Nat.le_of_ble_eq_true rfl) (Nat.zero_le _) (Nat.zero_le _) ?_
        rintro _ _ _ ⟨rfl, rfl, rfl⟩
        exact N.iret dX4_two_31 rfl (Nat.zero_le _) (Nat.zero_le _) ⟨_, rfl, (by rw [xtwo, if_neg c4, if_neg c11, if_pos c22]; exact rg_ok)⟩
def xchnow (x : XV) (l n : Int32) : Int32 × XV := if isInF l 0 3 = 0 then rg x (-2) else if isInF n 0 600 = 0 then rg x (-2) else if hasPlF (x.1 0) l = 0 then rg x (-5) else (chgG (x.1 0) l n ((x.1 0).1 4), x)
set_option maxRecDepth 100000 in
theorem s_X4_changeNow {K : Kx} (w : Wd) (a sz : Nat) (x : XV) (l : Int32) (n : Int32) (hX : okX x)  : Sp K mX4_changeNow 9 0 0 [.ref a, .int l, .int n] (putX K w a x) sz (Qi fun r w' sz' => r = (xchnow x l n).1 ∧ sz' = sz ∧ ∃ x', w' = putX K w a x' ∧ rel x' = rel (xchnow x l n).2) := by
  refine Sp.ofN [some (.ref a), some (.int l), some (.int n)] rfl rfl rfl (Nat.le_of_ble_eq_true rfl) ?_
  have h : okP (x.1 0) := hX.1
  refine N.eqW (congrArg (putX K w a) (xup_self x)) ?_
  generalize x.1 1 = u0
  generalize x.2.2.2.2.1 = p0
  refine N.iload1 dX4_changeNow_0 ?_
  refine N.si1 dX4_changeNow_1 vX4_isLine lkX4_131 (s_X4_isLine _ _ _) rfl (Nat.le_of_ble_eq_true rfl) (Nat.le_of_ble_eq_true rfl) (Nat.zero_le _) (Nat.zero_le _) ?_
  rintro _ _ _ ⟨rfl, rfl, rfl⟩
  refine N.if_eq (tgt := 18) dX4_changeNow_4 (by decide) (fun c4 => ?_) (fun c4 => ?_)
  · refine N.aload0 dX4_changeNow_18 ?_
    refine N.bipush (v := -2) dX4_changeNow_19 (by decide) ?_
    refine N.vi1 dX4_changeNow_21 vX4_refuseGains lkX4_250 (s_X4_refuseGains _ _ _ _ _ _ _) yO rfl (Nat.le_of_ble_eq_true rfl) (Nat.le_of_ble_eq_true rfl) (Nat.zero_le _) (Nat.zero_le _) ?_
    rintro _ _ _ ⟨rfl, rfl, rfl⟩
    exact N.iret dX4_changeNow_24 rfl (Nat.zero_le _) (Nat.zero_le _) ⟨_, rfl, (by rw [xchnow, if_pos c4]; exact rg_ok)⟩
  · refine N.iload2 dX4_changeNow_7 ?_
    refine N.iconst (v := 0) dX4_changeNow_8 (by decide) ?_
    refine N.sipush (v := 600) dX4_changeNow_9 (by decide) ?_
    refine N.si3 dX4_changeNow_12 vX4_isIn lkX4_58 (s_X4_isIn _ _ _ _ _) rfl (Nat.le_of_ble_eq_true rfl) (Nat.le_of_ble_eq_true rfl) (Nat.zero_le _) (Nat.zero_le _) ?_
    rintro _ _ _ ⟨rfl, rfl, rfl⟩
    refine N.if_ne (tgt := 25) dX4_changeNow_15 (by decide) (fun c15 => ?_) (fun c15 => ?_)
    · refine N.aload0 dX4_changeNow_25 ?_
      refine N.getf dX4_changeNow_26 flX4_10 yO rfl ?_
      refine N.iload1 dX4_changeNow_29 ?_
      refine N.vi1 dX4_changeNow_30 vX1_hasPlayers lkX4_208 (Sp.n0i fun W => s_X1_hasPlayers W _ _ _ _) yO0 rfl (Nat.le_of_ble_eq_true rfl) (Nat.le_of_ble_eq_true rfl) (Nat.zero_le _) (Nat.zero_le _) ?_
      rintro _ _ _ ⟨rfl, rfl, rfl⟩
      refine N.if_ne (tgt := 43) dX4_changeNow_33 (by decide) (fun c33 => ?_) (fun c33 => ?_)
      · obtain ⟨m, hm, hn⟩ := in_n (N' := 600) (by decide) c15
        have ho := h
        refine N.aload0 dX4_changeNow_43 ?_
        refine N.iload1 dX4_changeNow_44 ?_
        refine N.iload2 dX4_changeNow_45 ?_
        refine N.aload0 dX4_changeNow_46 ?_
        refine N.getf dX4_changeNow_47 flX4_10 yO rfl ?_
        refine N.getf dX4_changeNow_50 flX4_145 yO0 rfl ?_
        refine N.vi3 dX4_changeNow_53 vX4_gainsOfChange lkX4_271 (s_X4_gainsOfChange _ _ _ _ _ _ _ _ _ h (ln_in c4) m hm hn) yO rfl (Nat.le_of_ble_eq_true rfl) (Nat.le_of_ble_eq_true rfl) (Nat.zero_le _) (Nat.zero_le _) ?_
        rintro _ _ _ ⟨rfl, rfl, rfl⟩
        exact N.iret dX4_changeNow_56 rfl (Nat.zero_le _) (Nat.zero_le _) ⟨_, rfl, (by rw [xchnow, if_neg c4, if_neg c15, if_neg c33]; exact ⟨rfl, rfl, _, rfl, rel_xup⟩)⟩
      · refine N.aload0 dX4_changeNow_36 ?_
        refine N.bipush (v := -5) dX4_changeNow_37 (by decide) ?_
        refine N.vi1 dX4_changeNow_39 vX4_refuseGains lkX4_250 (s_X4_refuseGains _ _ _ _ _ _ _) yO rfl (Nat.le_of_ble_eq_true rfl) (Nat.le_of_ble_eq_true rfl) (Nat.zero_le _) (Nat.zero_le _) ?_
        rintro _ _ _ ⟨rfl, rfl, rfl⟩
        exact N.iret dX4_changeNow_42 rfl (Nat.zero_le _) (Nat.zero_le _) ⟨_, rfl, (by rw [xchnow, if_neg c4, if_neg c15, if_pos c33]; exact rg_ok)⟩
    · refine N.aload0 dX4_changeNow_18 ?_
      refine N.bipush (v := -2) dX4_changeNow_19 (by decide) ?_
      refine N.vi1 dX4_changeNow_21 vX4_refuseGains lkX4_250 (s_X4_refuseGains _ _ _ _ _ _ _) yO rfl (Nat.le_of_ble_eq_true rfl) (Nat.le_of_ble_eq_true rfl) (Nat.zero_le _) (Nat.zero_le _) ?_
      rintro _ _ _ ⟨rfl, rfl, rfl⟩
      exact N.iret dX4_changeNow_24 rfl (Nat.zero_le _) (Nat.zero_le _) ⟨_, rfl, (by rw [xchnow, if_neg c4, if_pos c15]; exact rg_ok)⟩
def xmeets (x : XV) (l y : Int32) : Int32 × XV := if isInF l 0 3 = 0 then rg x (-2) else if isInF y 1 999 = 0 then rg x (-2) else if hasPlF (x.1 0) l = 0 then rg x (-5) else (meetG (x.1 0) l y, x)
set_option maxRecDepth 100000 in
theorem s_X4_meets {K : Kx} (w : Wd) (a sz : Nat) (x : XV) (l : Int32) (y : Int32) (hX : okX x)  : Sp K mX4_meets 9 0 0 [.ref a, .int l, .int y] (putX K w a x) sz (Qi fun r w' sz' => r = (xmeets x l y).1 ∧ sz' = sz ∧ ∃ x', w' = putX K w a x' ∧ rel x' = rel (xmeets x l y).2) := by
  refine Sp.ofN [some (.ref a), some (.int l), some (.int y)] rfl rfl rfl (Nat.le_of_ble_eq_true rfl) ?_
  have h : okP (x.1 0) := hX.1
  refine N.eqW (congrArg (putX K w a) (xup_self x)) ?_
  generalize x.1 1 = u0
  generalize x.2.2.2.2.1 = p0
  refine N.iload1 dX4_meets_0 ?_
  refine N.si1 dX4_meets_1 vX4_isLine lkX4_131 (s_X4_isLine _ _ _) rfl (Nat.le_of_ble_eq_true rfl) (Nat.le_of_ble_eq_true rfl) (Nat.zero_le _) (Nat.zero_le _) ?_
  rintro _ _ _ ⟨rfl, rfl, rfl⟩
  refine N.if_eq (tgt := 18) dX4_meets_4 (by decide) (fun c4 => ?_) (fun c4 => ?_)
  · refine N.aload0 dX4_meets_18 ?_
    refine N.bipush (v := -2) dX4_meets_19 (by decide) ?_
    refine N.vi1 dX4_meets_21 vX4_refuseGains lkX4_250 (s_X4_refuseGains _ _ _ _ _ _ _) yO rfl (Nat.le_of_ble_eq_true rfl) (Nat.le_of_ble_eq_true rfl) (Nat.zero_le _) (Nat.zero_le _) ?_
    rintro _ _ _ ⟨rfl, rfl, rfl⟩
    exact N.iret dX4_meets_24 rfl (Nat.zero_le _) (Nat.zero_le _) ⟨_, rfl, (by rw [xmeets, if_pos c4]; exact rg_ok)⟩
  · refine N.iload2 dX4_meets_7 ?_
    refine N.iconst (v := 1) dX4_meets_8 (by decide) ?_
    refine N.sipush (v := 999) dX4_meets_9 (by decide) ?_
    refine N.si3 dX4_meets_12 vX4_isIn lkX4_58 (s_X4_isIn _ _ _ _ _) rfl (Nat.le_of_ble_eq_true rfl) (Nat.le_of_ble_eq_true rfl) (Nat.zero_le _) (Nat.zero_le _) ?_
    rintro _ _ _ ⟨rfl, rfl, rfl⟩
    refine N.if_ne (tgt := 25) dX4_meets_15 (by decide) (fun c15 => ?_) (fun c15 => ?_)
    · refine N.aload0 dX4_meets_25 ?_
      refine N.getf dX4_meets_26 flX4_10 yO rfl ?_
      refine N.iload1 dX4_meets_29 ?_
      refine N.vi1 dX4_meets_30 vX1_hasPlayers lkX4_208 (Sp.n0i fun W => s_X1_hasPlayers W _ _ _ _) yO0 rfl (Nat.le_of_ble_eq_true rfl) (Nat.le_of_ble_eq_true rfl) (Nat.zero_le _) (Nat.zero_le _) ?_
      rintro _ _ _ ⟨rfl, rfl, rfl⟩
      refine N.if_ne (tgt := 43) dX4_meets_33 (by decide) (fun c33 => ?_) (fun c33 => ?_)
      · refine N.aload0 dX4_meets_43 ?_
        refine N.iload1 dX4_meets_44 ?_
        refine N.iload2 dX4_meets_45 ?_
        refine N.vi2 dX4_meets_46 vX4_gainsOfMeeting lkX4_274 (s_X4_gainsOfMeeting _ _ _ _ _ _ _ _ h (ln_in c4)) yO rfl (Nat.le_of_ble_eq_true rfl) (Nat.le_of_ble_eq_true rfl) (Nat.zero_le _) (Nat.zero_le _) ?_
        rintro _ _ _ ⟨rfl, rfl, rfl⟩
        exact N.iret dX4_meets_49 rfl (Nat.zero_le _) (Nat.zero_le _) ⟨_, rfl, (by rw [xmeets, if_neg c4, if_neg c15, if_neg c33]; exact ⟨rfl, rfl, _, rfl, rel_xup⟩)⟩
      · refine N.aload0 dX4_meets_36 ?_
        refine N.bipush (v := -5) dX4_meets_37 (by decide) ?_
        refine N.vi1 dX4_meets_39 vX4_refuseGains lkX4_250 (s_X4_refuseGains _ _ _ _ _ _ _) yO rfl (Nat.le_of_ble_eq_true rfl) (Nat.le_of_ble_eq_true rfl) (Nat.zero_le _) (Nat.zero_le _) ?_
        rintro _ _ _ ⟨rfl, rfl, rfl⟩
        exact N.iret dX4_meets_42 rfl (Nat.zero_le _) (Nat.zero_le _) ⟨_, rfl, (by rw [xmeets, if_neg c4, if_neg c15, if_pos c33]; exact rg_ok)⟩
    · refine N.aload0 dX4_meets_18 ?_
      refine N.bipush (v := -2) dX4_meets_19 (by decide) ?_
      refine N.vi1 dX4_meets_21 vX4_refuseGains lkX4_250 (s_X4_refuseGains _ _ _ _ _ _ _) yO rfl (Nat.le_of_ble_eq_true rfl) (Nat.le_of_ble_eq_true rfl) (Nat.zero_le _) (Nat.zero_le _) ?_
      rintro _ _ _ ⟨rfl, rfl, rfl⟩
      exact N.iret dX4_meets_24 rfl (Nat.zero_le _) (Nat.zero_le _) ⟨_, rfl, (by rw [xmeets, if_neg c4, if_pos c15]; exact rg_ok)⟩
def pullG (v : CV) (n y : Int32) : Int32 := oursF (setS v 7 0) n - oursF (setS v 7 1) n - y * (n * oddsAF (oursV (setS v 7 0) n) - n * oddsAF (oursV (setS v 7 1) n)) / 100
def xpull (x : XV) (n y : Int32) : Int32 × XV := if isInF n 0 600 = 0 then rg x (-2) else if isInF y 0 100 = 0 then rg x (-2) else (pullG (x.1 0) n y, x)
set_option maxRecDepth 100000 in
theorem s_X4_pull {K : Kx} (w : Wd) (a sz : Nat) (x : XV) (n : Int32) (y : Int32) (hX : okX x)  : Sp K mX4_pull 9 0 0 [.ref a, .int n, .int y] (putX K w a x) sz (Qi fun r w' sz' => r = (xpull x n y).1 ∧ sz' = sz ∧ ∃ x', w' = putX K w a x' ∧ rel x' = rel (xpull x n y).2) := by
  refine Sp.ofN [some (.ref a), some (.int n), some (.int y), none, none, none, none] rfl rfl rfl (Nat.le_of_ble_eq_true rfl) ?_
  have h : okP (x.1 0) := hX.1
  refine N.eqW (congrArg (putX K w a) (xup_self x)) ?_
  generalize x.1 1 = u0
  generalize x.2.2.2.2.1 = p0
  refine N.iload1 dX4_pull_0 ?_
  refine N.iconst (v := 0) dX4_pull_1 (by decide) ?_
  refine N.sipush (v := 600) dX4_pull_2 (by decide) ?_
  refine N.si3 dX4_pull_5 vX4_isIn lkX4_58 (s_X4_isIn _ _ _ _ _) rfl (Nat.le_of_ble_eq_true rfl) (Nat.le_of_ble_eq_true rfl) (Nat.zero_le _) (Nat.zero_le _) ?_
  rintro _ _ _ ⟨rfl, rfl, rfl⟩
  refine N.if_eq (tgt := 21) dX4_pull_8 (by decide) (fun c8 => ?_) (fun c8 => ?_)
  · refine N.aload0 dX4_pull_21 ?_
    refine N.bipush (v := -2) dX4_pull_22 (by decide) ?_
    refine N.vi1 dX4_pull_24 vX4_refuseGains lkX4_250 (s_X4_refuseGains _ _ _ _ _ _ _) yO rfl (Nat.le_of_ble_eq_true rfl) (Nat.le_of_ble_eq_true rfl) (Nat.zero_le _) (Nat.zero_le _) ?_
    rintro _ _ _ ⟨rfl, rfl, rfl⟩
    exact N.iret dX4_pull_27 rfl (Nat.zero_le _) (Nat.zero_le _) ⟨_, rfl, (by rw [xpull, if_pos c8]; exact rg_ok)⟩
  · refine N.iload2 dX4_pull_11 ?_
    refine N.iconst (v := 0) dX4_pull_12 (by decide) ?_
    refine N.bipush (v := 100) dX4_pull_13 (by decide) ?_
    refine N.si3 dX4_pull_15 vX4_isIn lkX4_58 (s_X4_isIn _ _ _ _ _) rfl (Nat.le_of_ble_eq_true rfl) (Nat.le_of_ble_eq_true rfl) (Nat.zero_le _) (Nat.zero_le _) ?_
    rintro _ _ _ ⟨rfl, rfl, rfl⟩
    refine N.if_ne (tgt := 28) dX4_pull_18 (by decide) (fun c18 => ?_) (fun c18 => ?_)
    · obtain ⟨m, hm, hn⟩ := in_n (N' := 600) (by decide) c8
      have ho := h
      refine N.aload0 dX4_pull_28 ?_
      refine N.getf dX4_pull_29 flX4_16 yO rfl ?_
      refine N.aload0 dX4_pull_32 ?_
      refine N.getf dX4_pull_33 flX4_10 yO rfl ?_
      refine N.vv1 dX4_pull_36 vX1_takeFrom lkX4_161 (Sp.tk) yO1 rfl (Nat.le_of_ble_eq_true rfl) (Nat.le_of_ble_eq_true rfl) (Nat.zero_le _) (Nat.zero_le _) ?_
      rintro _ _ ⟨rfl, rfl⟩
      refine N.aload0 dX4_pull_39 ?_
      refine N.getf dX4_pull_40 flX4_16 yO rfl ?_
      refine N.iconst (v := 1) dX4_pull_43 (by decide) ?_
      refine N.putf dX4_pull_44 flX4_154 yO1 (Nat.le_of_ble_eq_true rfl) (fun _ h => by cases h; rfl) rfl rfl yP1_7 ?_
      refine N.aload0 dX4_pull_47 ?_
      refine N.getf dX4_pull_48 flX4_16 yO rfl ?_
      refine N.iload1 dX4_pull_51 ?_
      refine N.vi1 dX4_pull_52 vX1_oursIn lkX4_259 (Sp.n1i fun W => s_X1_oursIn W _ _ _ _ m hm hn (h.set (by decide) 1)) yO1 rfl (Nat.le_of_ble_eq_true rfl) (Nat.le_of_ble_eq_true rfl) (Nat.zero_le _) (Nat.zero_le _) ?_
      rintro _ _ _ ⟨rfl, rfl, rfl⟩
      refine N.istore3 dX4_pull_55 rfl ?_
      refine N.aload0 dX4_pull_56 ?_
      refine N.getf dX4_pull_57 flX4_16 yO rfl ?_
      refine N.iload1 dX4_pull_60 ?_
      refine N.vi1 dX4_pull_61 vX1_againstIn lkX4_262 (Sp.n1i fun W => s_X1_againstIn W _ _ _ _) yO1 rfl (Nat.le_of_ble_eq_true rfl) (Nat.le_of_ble_eq_true rfl) (Nat.zero_le _) (Nat.zero_le _) ?_
      rintro _ _ _ ⟨rfl, rfl, rfl⟩
      refine N.istore4 dX4_pull_64 rfl ?_
      refine N.aload0 dX4_pull_66 ?_
      refine N.getf dX4_pull_67 flX4_16 yO rfl ?_
      refine N.aload0 dX4_pull_70 ?_
      refine N.getf dX4_pull_71 flX4_10 yO rfl ?_
      refine N.vv1 dX4_pull_74 vX1_takeFrom lkX4_161 (Sp.tk) yO1 rfl (Nat.le_of_ble_eq_true rfl) (Nat.le_of_ble_eq_true rfl) (Nat.zero_le _) (Nat.zero_le _) ?_
      rintro _ _ ⟨rfl, rfl⟩
      refine N.aload0 dX4_pull_77 ?_
      refine N.getf dX4_pull_78 flX4_16 yO rfl ?_
      refine N.iconst (v := 0) dX4_pull_81 (by decide) ?_
      refine N.putf dX4_pull_82 flX4_154 yO1 (Nat.le_of_ble_eq_true rfl) (fun _ h => by cases h; rfl) rfl rfl yP1_7 ?_
      refine N.aload0 dX4_pull_85 ?_
      refine N.getf dX4_pull_86 flX4_16 yO rfl ?_
      refine N.iload1 dX4_pull_89 ?_
      refine N.vi1 dX4_pull_90 vX1_oursIn lkX4_259 (Sp.n1i fun W => s_X1_oursIn W _ _ _ _ m hm hn (h.set (by decide) 0)) yO1 rfl (Nat.le_of_ble_eq_true rfl) (Nat.le_of_ble_eq_true rfl) (Nat.zero_le _) (Nat.zero_le _) ?_
      rintro _ _ _ ⟨rfl, rfl, rfl⟩
      refine N.istore5 dX4_pull_93 rfl ?_
      refine N.aload0 dX4_pull_95 ?_
      refine N.getf dX4_pull_96 flX4_16 yO rfl ?_
      refine N.iload1 dX4_pull_99 ?_
      refine N.vi1 dX4_pull_100 vX1_againstIn lkX4_262 (Sp.n1i fun W => s_X1_againstIn W _ _ _ _) yO1 rfl (Nat.le_of_ble_eq_true rfl) (Nat.le_of_ble_eq_true rfl) (Nat.zero_le _) (Nat.zero_le _) ?_
      rintro _ _ _ ⟨rfl, rfl, rfl⟩
      refine N.istore6 dX4_pull_103 rfl ?_
      refine N.iload5 dX4_pull_105 ?_
      refine N.iload3 dX4_pull_107 ?_
      refine N.isub dX4_pull_108 ?_
      refine N.iload2 dX4_pull_109 ?_
      refine N.iload6 dX4_pull_110 ?_
      refine N.iload4 dX4_pull_112 ?_
      refine N.isub dX4_pull_114 ?_
      refine N.imul dX4_pull_115 ?_
      refine N.bipush (v := 100) dX4_pull_116 (by decide) ?_
      refine N.idiv dX4_pull_118 (by decide) ?_
      refine N.isub dX4_pull_119 ?_
      exact N.iret dX4_pull_120 rfl (Nat.zero_le _) (Nat.zero_le _) ⟨_, rfl, (by rw [xpull, if_neg c8, if_neg c18]; exact ⟨rfl, rfl, _, rfl, rel_xup⟩)⟩
    · refine N.aload0 dX4_pull_21 ?_
      refine N.bipush (v := -2) dX4_pull_22 (by decide) ?_
      refine N.vi1 dX4_pull_24 vX4_refuseGains lkX4_250 (s_X4_refuseGains _ _ _ _ _ _ _) yO rfl (Nat.le_of_ble_eq_true rfl) (Nat.le_of_ble_eq_true rfl) (Nat.zero_le _) (Nat.zero_le _) ?_
      rintro _ _ _ ⟨rfl, rfl, rfl⟩
      exact N.iret dX4_pull_27 rfl (Nat.zero_le _) (Nat.zero_le _) ⟨_, rfl, (by rw [xpull, if_neg c8, if_pos c18]; exact rg_ok)⟩
def xwhist (x : XV) (l : Int32) : Int32 × XV := if hasPlF (x.1 0) l = 0 then rf x (noLF l) else (powAll (putOnV (x.1 0) ((x.1 0).2 4 l.toNatClampNeg)), setR x 0 (putOnV (x.1 0) ((x.1 0).2 4 l.toNatClampNeg)))
set_option maxRecDepth 100000 in
theorem s_X4_whistle {K : Kx} (w : Wd) (a sz : Nat) (x : XV) (l : Int32) (hX : okX x)  : Sp K mX4_whistle 9 0 0 [.ref a, .int l] (putX K w a x) sz (Qi fun r w' sz' => r = (xwhist x l).1 ∧ sz' = sz ∧ ∃ x', w' = putX K w a x' ∧ rel x' = rel (xwhist x l).2) := by
  refine Sp.ofN [some (.ref a), some (.int l)] rfl rfl rfl (Nat.le_of_ble_eq_true rfl) ?_
  have h : okP (x.1 0) := hX.1
  refine N.eqW (congrArg (putX K w a) (xup_self x)) ?_
  generalize x.1 1 = u0
  generalize x.2.2.2.2.1 = p0
  refine N.aload0 dX4_whistle_0 ?_
  refine N.getf dX4_whistle_1 flX4_10 yO rfl ?_
  refine N.iload1 dX4_whistle_4 ?_
  refine N.vi1 dX4_whistle_5 vX1_hasPlayers lkX4_208 (Sp.n0i fun W => s_X1_hasPlayers W _ _ _ _) yO0 rfl (Nat.le_of_ble_eq_true rfl) (Nat.le_of_ble_eq_true rfl) (Nat.zero_le _) (Nat.zero_le _) ?_
  rintro _ _ _ ⟨rfl, rfl, rfl⟩
  refine N.if_ne (tgt := 21) dX4_whistle_8 (by decide) (fun c8 => ?_) (fun c8 => ?_)
  · refine N.aload0 dX4_whistle_21 ?_
    refine N.getf dX4_whistle_22 flX4_10 yO rfl ?_
    refine N.aload0 dX4_whistle_25 ?_
    refine N.getf dX4_whistle_26 flX4_10 yO rfl ?_
    refine N.getf dX4_whistle_29 flX4_142 yO0 rfl ?_
    refine N.iload1 dX4_whistle_32 ?_
    refine N.iald dX4_whistle_33 yA0_4 (hl_in c8) ?_
    refine N.vv1 dX4_whistle_34 vX1_putOn lkX4_256 (Sp.n0v fun W => s_X1_putOn W _ _ _ _) yO0 rfl (Nat.le_of_ble_eq_true rfl) (Nat.le_of_ble_eq_true rfl) (Nat.zero_le _) (Nat.zero_le _) ?_
    rintro _ _ ⟨rfl, rfl⟩
    refine N.aload0 dX4_whistle_37 ?_
    refine N.getf dX4_whistle_38 flX4_10 yO rfl ?_
    refine N.vi0 dX4_whistle_41 vX1_powerOfAll lkX4_199 (Sp.n0i fun W => s_X1_powerOfAll W _ _ _ (h.on _)) yO0 rfl (Nat.le_of_ble_eq_true rfl) (Nat.le_of_ble_eq_true rfl) (Nat.zero_le _) (Nat.zero_le _) ?_
    rintro _ _ _ ⟨rfl, rfl, rfl⟩
    exact N.iret dX4_whistle_44 rfl (Nat.zero_le _) (Nat.zero_le _) ⟨_, rfl, (by rw [xwhist, if_neg c8]; exact ⟨rfl, rfl, _, rfl, rel_xup⟩)⟩
  · refine N.aload0 dX4_whistle_11 ?_
    refine N.aload0 dX4_whistle_12 ?_
    refine N.iload1 dX4_whistle_13 ?_
    refine N.vi1 dX4_whistle_14 vX4_whyNoLine lkX4_211 (s_X4_whyNoLine _ _ _ _ _ _ _) yO rfl (Nat.le_of_ble_eq_true rfl) (Nat.le_of_ble_eq_true rfl) (Nat.zero_le _) (Nat.zero_le _) ?_
    rintro _ _ _ ⟨rfl, rfl, rfl⟩
    refine N.vi1 dX4_whistle_17 vX4_refuse lkX4_62 (s_X4_refuse _ _ _ _ _ _ _) yO rfl (Nat.le_of_ble_eq_true rfl) (Nat.le_of_ble_eq_true rfl) (Nat.zero_le _) (Nat.zero_le _) ?_
    rintro _ _ _ ⟨rfl, rfl, rfl⟩
    exact N.iret dX4_whistle_20 rfl (Nat.zero_le _) (Nat.zero_le _) ⟨_, rfl, (by rw [xwhist, if_pos c8]; exact rf_ok)⟩
def xchange (x : XV) (l : Int32) : Int32 × XV := if hasPlF (x.1 0) l = 0 then rf x (noLF l) else (wayF (x.1 0) l, setR x 0 (chgV (x.1 0) l))
set_option maxRecDepth 100000 in
theorem s_X4_change {K : Kx} (w : Wd) (a sz : Nat) (x : XV) (l : Int32) (hX : okX x)  : Sp K mX4_change 9 0 0 [.ref a, .int l] (putX K w a x) sz (Qi fun r w' sz' => r = (xchange x l).1 ∧ sz' = sz ∧ ∃ x', w' = putX K w a x' ∧ rel x' = rel (xchange x l).2) := by
  refine Sp.ofN [some (.ref a), some (.int l)] rfl rfl rfl (Nat.le_of_ble_eq_true rfl) ?_
  have h : okP (x.1 0) := hX.1
  refine N.eqW (congrArg (putX K w a) (xup_self x)) ?_
  generalize x.1 1 = u0
  generalize x.2.2.2.2.1 = p0
  refine N.aload0 dX4_change_0 ?_
  refine N.getf dX4_change_1 flX4_10 yO rfl ?_
  refine N.iload1 dX4_change_4 ?_
  refine N.vi1 dX4_change_5 vX1_hasPlayers lkX4_208 (Sp.n0i fun W => s_X1_hasPlayers W _ _ _ _) yO0 rfl (Nat.le_of_ble_eq_true rfl) (Nat.le_of_ble_eq_true rfl) (Nat.zero_le _) (Nat.zero_le _) ?_
  rintro _ _ _ ⟨rfl, rfl, rfl⟩
  refine N.if_ne (tgt := 21) dX4_change_8 (by decide) (fun c8 => ?_) (fun c8 => ?_)
  · have hl := hl_in c8
    refine N.aload0 dX4_change_21 ?_
    refine N.getf dX4_change_22 flX4_10 yO rfl ?_
    refine N.iload1 dX4_change_25 ?_
    refine N.vi1 dX4_change_26 vX1_beginChange lkX4_265 (Sp.n0c fun W => s_X1_beginChange W _ _ _ _ hl h) yO0 rfl (Nat.le_of_ble_eq_true rfl) (Nat.le_of_ble_eq_true rfl) (Nat.zero_le _) (Nat.zero_le _) ?_
    rintro _ _ _ ⟨rfl, rfl, rfl⟩
    exact N.iret dX4_change_29 rfl (Nat.zero_le _) (Nat.zero_le _) ⟨_, rfl, (by rw [xchange, if_neg c8]; exact ⟨rfl, rfl, _, rfl, rel_xup⟩)⟩
  · refine N.aload0 dX4_change_11 ?_
    refine N.aload0 dX4_change_12 ?_
    refine N.iload1 dX4_change_13 ?_
    refine N.vi1 dX4_change_14 vX4_whyNoLine lkX4_211 (s_X4_whyNoLine _ _ _ _ _ _ _) yO rfl (Nat.le_of_ble_eq_true rfl) (Nat.le_of_ble_eq_true rfl) (Nat.zero_le _) (Nat.zero_le _) ?_
    rintro _ _ _ ⟨rfl, rfl, rfl⟩
    refine N.vi1 dX4_change_17 vX4_refuse lkX4_62 (s_X4_refuse _ _ _ _ _ _ _) yO rfl (Nat.le_of_ble_eq_true rfl) (Nat.le_of_ble_eq_true rfl) (Nat.zero_le _) (Nat.zero_le _) ?_
    rintro _ _ _ ⟨rfl, rfl, rfl⟩
    exact N.iret dX4_change_20 rfl (Nat.zero_le _) (Nat.zero_le _) ⟨_, rfl, (by rw [xchange, if_pos c8]; exact rf_ok)⟩
def xskate (x : XV) (n : Int32) : Int32 × XV := if isInF n 1 300 = 0 then rf x (-2) else (playF (x.1 0) n, setR x 0 (playTo (x.1 0) n.toNatClampNeg))
set_option maxRecDepth 100000 in
theorem s_X4_skate {K : Kx} (w : Wd) (a sz : Nat) (x : XV) (n : Int32) (hX : okX x)  : Sp K mX4_skate 9 0 0 [.ref a, .int n] (putX K w a x) sz (Qi fun r w' sz' => r = (xskate x n).1 ∧ sz' = sz ∧ ∃ x', w' = putX K w a x' ∧ rel x' = rel (xskate x n).2) := by
  refine Sp.ofN [some (.ref a), some (.int n)] rfl rfl rfl (Nat.le_of_ble_eq_true rfl) ?_
  have h : okP (x.1 0) := hX.1
  refine N.eqW (congrArg (putX K w a) (xup_self x)) ?_
  generalize x.1 1 = u0
  generalize x.2.2.2.2.1 = p0
  refine N.iload1 dX4_skate_0 ?_
  refine N.iconst (v := 1) dX4_skate_1 (by decide) ?_
  refine N.sipush (v := 300) dX4_skate_2 (by decide) ?_
  refine N.si3 dX4_skate_5 vX4_isIn lkX4_58 (s_X4_isIn _ _ _ _ _) rfl (Nat.le_of_ble_eq_true rfl) (Nat.le_of_ble_eq_true rfl) (Nat.zero_le _) (Nat.zero_le _) ?_
  rintro _ _ _ ⟨rfl, rfl, rfl⟩
  refine N.if_ne (tgt := 18) dX4_skate_8 (by decide) (fun c8 => ?_) (fun c8 => ?_)
  · obtain ⟨m, hm, hm1, hn⟩ := in_n1 (N' := 300) (by decide) c8
    refine N.aload0 dX4_skate_18 ?_
    refine N.getf dX4_skate_19 flX4_10 yO rfl ?_
    refine N.iload1 dX4_skate_22 ?_
    refine N.vi1 dX4_skate_23 vX1_playSeconds lkX4_315 (Sp.n0c fun W => s_X1_playSeconds W _ _ _ _ m (by omega) hn h) yO0 rfl (Nat.le_of_ble_eq_true rfl) (Nat.le_of_ble_eq_true rfl) (Nat.zero_le _) (Nat.zero_le _) ?_
    rintro _ _ _ ⟨rfl, rfl, rfl⟩
    exact N.iret dX4_skate_26 rfl (Nat.zero_le _) (Nat.zero_le _) ⟨_, rfl, (by rw [xskate, if_neg c8]; exact ⟨rfl, rfl, _, rfl, rel_xup⟩)⟩
  · refine N.aload0 dX4_skate_11 ?_
    refine N.bipush (v := -2) dX4_skate_12 (by decide) ?_
    refine N.vi1 dX4_skate_14 vX4_refuse lkX4_62 (s_X4_refuse _ _ _ _ _ _ _) yO rfl (Nat.le_of_ble_eq_true rfl) (Nat.le_of_ble_eq_true rfl) (Nat.zero_le _) (Nat.zero_le _) ?_
    rintro _ _ _ ⟨rfl, rfl, rfl⟩
    exact N.iret dX4_skate_17 rfl (Nat.zero_le _) (Nat.zero_le _) ⟨_, rfl, (by rw [xskate, if_pos c8]; exact rf_ok)⟩
def xseed (x : XV) (y : Int32) : Int32 × XV := ((x.1 0).1 12, rS x 12 y)
set_option maxRecDepth 100000 in
theorem s_X4_seed {K : Kx} (w : Wd) (a sz : Nat) (x : XV) (y : Int32) (hX : okX x)  : Sp K mX4_seed 9 0 0 [.ref a, .int y] (putX K w a x) sz (Qi fun r w' sz' => r = (xseed x y).1 ∧ sz' = sz ∧ ∃ x', w' = putX K w a x' ∧ rel x' = rel (xseed x y).2) := by
  refine Sp.ofN [some (.ref a), some (.int y), none] rfl rfl rfl (Nat.le_of_ble_eq_true rfl) ?_
  have h : okP (x.1 0) := hX.1
  refine N.eqW (congrArg (putX K w a) (xup_self x)) ?_
  generalize x.1 1 = u0
  generalize x.2.2.2.2.1 = p0
  refine N.aload0 dX4_seed_0 ?_
  refine N.getf dX4_seed_1 flX4_10 yO rfl ?_
  refine N.getf dX4_seed_4 flX4_330 yO0 rfl ?_
  refine N.istore2 dX4_seed_7 rfl ?_
  refine N.aload0 dX4_seed_8 ?_
  refine N.getf dX4_seed_9 flX4_10 yO rfl ?_
  refine N.iload1 dX4_seed_12 ?_
  refine N.putf dX4_seed_13 flX4_330 yO0 (Nat.le_of_ble_eq_true rfl) (fun _ h => by cases h; rfl) rfl rfl yP0_12 ?_
  refine N.iload2 dX4_seed_16 ?_
  exact N.iret dX4_seed_17 rfl (Nat.zero_le _) (Nat.zero_le _) ⟨_, rfl, (by rw [xseed]; exact ⟨rfl, rfl, _, rfl, rel_xup⟩)⟩
def ximage (x : XV) : Int32 × XV := (1, setKp (setR x 2 (x.1 0)) 1)
set_option maxRecDepth 100000 in
theorem s_X4_image {K : Kx} (w : Wd) (a sz : Nat) (x : XV) (hX : okX x)  : Sp K mX4_image 9 0 0 [.ref a] (putX K w a x) sz (Qi fun r w' sz' => r = (ximage x).1 ∧ sz' = sz ∧ ∃ x', w' = putX K w a x' ∧ rel x' = rel (ximage x).2) := by
  refine Sp.ofN [some (.ref a)] rfl rfl rfl (Nat.le_of_ble_eq_true rfl) ?_
  have h : okP (x.1 0) := hX.1
  refine N.eqW (congrArg (putX K w a) (xup_self x)) ?_
  generalize x.1 1 = u0
  generalize x.2.2.2.2.1 = p0
  refine N.aload0 dX4_image_0 ?_
  refine N.getf dX4_image_1 flX4_19 yO rfl ?_
  refine N.aload0 dX4_image_4 ?_
  refine N.getf dX4_image_5 flX4_10 yO rfl ?_
  refine N.vv1 dX4_image_8 vX1_takeFrom lkX4_161 (Sp.tk20) yO2 rfl (Nat.le_of_ble_eq_true rfl) (Nat.le_of_ble_eq_true rfl) (Nat.zero_le _) (Nat.zero_le _) ?_
  rintro _ _ ⟨rfl, rfl⟩
  refine N.aload0 dX4_image_11 ?_
  refine N.iconst (v := 1) dX4_image_12 (by decide) ?_
  refine N.putf dX4_image_13 flX4_49 yO (Nat.le_of_ble_eq_true rfl) (fun _ h => by cases h; rfl) rfl rfl yK ?_
  refine N.iconst (v := 1) dX4_image_16 (by decide) ?_
  exact N.iret dX4_image_17 rfl (Nat.zero_le _) (Nat.zero_le _) ⟨_, rfl, (by rw [ximage]; exact ⟨rfl, rfl, _, rfl, rel_xup⟩)⟩
