variable {G : Nat → Prop}
def b1F (x p : Int32) : Int32 := if bitF x p = 0 then 0 else 1
def mplof (m : Mst) (p x : Int32) : Int32 × Mst := if isPlF m.1 p = 0 then rm m (-2) else if x = 0 then (m.1.2 0 p.toNatClampNeg, m) else if x = 1 then (m.1.2 1 p.toNatClampNeg, m) else if x = 2 then (m.1.2 2 p.toNatClampNeg, m) else if x = 3 then (m.1.2 3 p.toNatClampNeg, m) else if x = 4 then (if bitF (m.1.1 1) p = 0 then (0, m) else (1, m)) else if x = 5 then (if bitF (m.1.1 2) p = 0 then (0, m) else (1, m)) else if x = 6 then (legsF m.1 p, m) else if x = 7 then (powM m.1 p, m) else rm m (-2)
set_option maxRecDepth 100000 in
theorem s_X5_playerOf {K : Kx} (w : Wd) (b sz : Nat) (v : CV) (e : M5) (t : Option Nat) (z : MX) (p : Int32) (x : Int32) (ht : tOk G b sz t) (hM : okM (v, e)) : Sp K mX5_playerOf 9 (kc t) (ks t) [.ref b, .int p, .int x] (putM K (tw K w t z) b (v, wt e t)) sz (Qi fun r w' sz' => r = (mplof (v, e) p x).1 ∧ ∃ t' z', w' = putM K (tw K w t' z') b ((mplof (v, e) p x).2.1, wt (mplof (v, e) p x).2.2 t') ∧ tOk G b sz' t' ∧ sz ≤ sz') := by
  refine Sp.ofN [some (.ref b), some (.int p), some (.int x)] rfl rfl rfl (Nat.le_of_ble_eq_true rfl) ?_
  have h : okP v := hM.1
  refine N.aload0 dX5_playerOf_0 ?_
  refine N.iload1 dX5_playerOf_1 ?_
  refine N.vi1 dX5_playerOf_2 vX5_isPlayer lkX5_100 (s_X5_isPlayer _ _ _ _ _ _) mO rfl (Nat.le_of_ble_eq_true rfl) (Nat.le_of_ble_eq_true rfl) (Nat.zero_le _) (Nat.zero_le _) ?_
  rintro _ _ _ ⟨rfl, rfl, rfl⟩
  refine N.if_ne (tgt := 15) dX5_playerOf_5 (by decide) (fun c5 => ?_) (fun c5 => ?_)
  · have hp := pl_in h c5
    refine N.iload2 dX5_playerOf_15 ?_
    refine N.swc 0 (fun t16_0 => ?_) (fun t16_0 => ?_)
    · refine N.tsIn (off := 48) (tgt := 64) 0 t16_0 dX5_playerOf_16 (by decide) (by decide) (by decide) (by decide) ?_
      refine N.aload0 dX5_playerOf_64 ?_
      refine N.getf dX5_playerOf_65 flX5_37 mO rfl ?_
      refine N.iload1 dX5_playerOf_68 ?_
      refine N.iald dX5_playerOf_69 mA0 hp ?_
      exact N.iret dX5_playerOf_70 rfl (Nat.zero_le _) (Nat.zero_le _) ⟨_, rfl, (by rw [mplof, if_neg c5, if_pos t16_0]; exact ⟨rfl, t, z, rfl, ht, Nat.le_refl _⟩)⟩
    refine N.swc 1 (fun t16_1 => ?_) (fun t16_1 => ?_)
    · refine N.tsIn (off := 55) (tgt := 71) 1 t16_1 dX5_playerOf_16 (by decide) (by decide) (by decide) (by decide) ?_
      refine N.aload0 dX5_playerOf_71 ?_
      refine N.getf dX5_playerOf_72 flX5_40 mO rfl ?_
      refine N.iload1 dX5_playerOf_75 ?_
      refine N.iald dX5_playerOf_76 mA1 hp ?_
      exact N.iret dX5_playerOf_77 rfl (Nat.zero_le _) (Nat.zero_le _) ⟨_, rfl, (by rw [mplof, if_neg c5, if_neg t16_0, if_pos t16_1]; exact ⟨rfl, t, z, rfl, ht, Nat.le_refl _⟩)⟩
    refine N.swc 2 (fun t16_2 => ?_) (fun t16_2 => ?_)
    · refine N.tsIn (off := 62) (tgt := 78) 2 t16_2 dX5_playerOf_16 (by decide) (by decide) (by decide) (by decide) ?_
      refine N.aload0 dX5_playerOf_78 ?_
      refine N.getf dX5_playerOf_79 flX5_43 mO rfl ?_
      refine N.iload1 dX5_playerOf_82 ?_
      refine N.iald dX5_playerOf_83 mA2 hp ?_
      exact N.iret dX5_playerOf_84 rfl (Nat.zero_le _) (Nat.zero_le _) ⟨_, rfl, (by rw [mplof, if_neg c5, if_neg t16_0, if_neg t16_1, if_pos t16_2]; exact ⟨rfl, t, z, rfl, ht, Nat.le_refl _⟩)⟩
    refine N.swc 3 (fun t16_3 => ?_) (fun t16_3 => ?_)
    · refine N.tsIn (off := 69) (tgt := 85) 3 t16_3 dX5_playerOf_16 (by decide) (by decide) (by decide) (by decide) ?_
      refine N.aload0 dX5_playerOf_85 ?_
      refine N.getf dX5_playerOf_86 flX5_46 mO rfl ?_
      refine N.iload1 dX5_playerOf_89 ?_
      refine N.iald dX5_playerOf_90 mA3 hp ?_
      exact N.iret dX5_playerOf_91 rfl (Nat.zero_le _) (Nat.zero_le _) ⟨_, rfl, (by rw [mplof, if_neg c5, if_neg t16_0, if_neg t16_1, if_neg t16_2, if_pos t16_3]; exact ⟨rfl, t, z, rfl, ht, Nat.le_refl _⟩)⟩
    refine N.swc 4 (fun t16_4 => ?_) (fun t16_4 => ?_)
    · refine N.tsIn (off := 76) (tgt := 92) 4 t16_4 dX5_playerOf_16 (by decide) (by decide) (by decide) (by decide) ?_
      refine N.aload0 dX5_playerOf_92 ?_
      refine N.getf dX5_playerOf_93 flX5_116 mO rfl ?_
      refine N.iload1 dX5_playerOf_96 ?_
      refine N.si2 dX5_playerOf_97 vX5_has lkX5_119 (s_X5_has _ _ _ _) rfl (Nat.le_of_ble_eq_true rfl) (Nat.le_of_ble_eq_true rfl) (Nat.zero_le _) (Nat.zero_le _) ?_
      rintro _ _ _ ⟨rfl, rfl, rfl⟩
      refine N.if_eq (tgt := 107) dX5_playerOf_100 (by decide) (fun c100 => ?_) (fun c100 => ?_)
      · refine N.iconst (v := 0) dX5_playerOf_107 (by decide) ?_
        exact N.iret dX5_playerOf_108 rfl (Nat.zero_le _) (Nat.zero_le _) ⟨_, rfl, (by rw [mplof, if_neg c5, if_neg t16_0, if_neg t16_1, if_neg t16_2, if_neg t16_3, if_pos t16_4, if_pos c100]; exact ⟨rfl, t, z, rfl, ht, Nat.le_refl _⟩)⟩
      · refine N.iconst (v := 1) dX5_playerOf_103 (by decide) ?_
        refine N.goto (tgt := 108) dX5_playerOf_104 (by decide) ?_
        exact N.iret dX5_playerOf_108 rfl (Nat.zero_le _) (Nat.zero_le _) ⟨_, rfl, (by rw [mplof, if_neg c5, if_neg t16_0, if_neg t16_1, if_neg t16_2, if_neg t16_3, if_pos t16_4, if_neg c100]; exact ⟨rfl, t, z, rfl, ht, Nat.le_refl _⟩)⟩
    refine N.swc 5 (fun t16_5 => ?_) (fun t16_5 => ?_)
    · refine N.tsIn (off := 93) (tgt := 109) 5 t16_5 dX5_playerOf_16 (by decide) (by decide) (by decide) (by decide) ?_
      refine N.aload0 dX5_playerOf_109 ?_
      refine N.getf dX5_playerOf_110 flX5_255 mO rfl ?_
      refine N.iload1 dX5_playerOf_113 ?_
      refine N.si2 dX5_playerOf_114 vX5_has lkX5_119 (s_X5_has _ _ _ _) rfl (Nat.le_of_ble_eq_true rfl) (Nat.le_of_ble_eq_true rfl) (Nat.zero_le _) (Nat.zero_le _) ?_
      rintro _ _ _ ⟨rfl, rfl, rfl⟩
      refine N.if_eq (tgt := 124) dX5_playerOf_117 (by decide) (fun c117 => ?_) (fun c117 => ?_)
      · refine N.iconst (v := 0) dX5_playerOf_124 (by decide) ?_
        exact N.iret dX5_playerOf_125 rfl (Nat.zero_le _) (Nat.zero_le _) ⟨_, rfl, (by rw [mplof, if_neg c5, if_neg t16_0, if_neg t16_1, if_neg t16_2, if_neg t16_3, if_neg t16_4, if_pos t16_5, if_pos c117]; exact ⟨rfl, t, z, rfl, ht, Nat.le_refl _⟩)⟩
      · refine N.iconst (v := 1) dX5_playerOf_120 (by decide) ?_
        refine N.goto (tgt := 125) dX5_playerOf_121 (by decide) ?_
        exact N.iret dX5_playerOf_125 rfl (Nat.zero_le _) (Nat.zero_le _) ⟨_, rfl, (by rw [mplof, if_neg c5, if_neg t16_0, if_neg t16_1, if_neg t16_2, if_neg t16_3, if_neg t16_4, if_pos t16_5, if_neg c117]; exact ⟨rfl, t, z, rfl, ht, Nat.le_refl _⟩)⟩
    refine N.swc 6 (fun t16_6 => ?_) (fun t16_6 => ?_)
    · refine N.tsIn (off := 110) (tgt := 126) 6 t16_6 dX5_playerOf_16 (by decide) (by decide) (by decide) (by decide) ?_
      refine N.aload0 dX5_playerOf_126 ?_
      refine N.iload1 dX5_playerOf_127 ?_
      refine N.vi1 dX5_playerOf_128 vX5_legs lkX5_110 (s_X5_legs _ _ _ _ _ _ hp) mO rfl (Nat.le_of_ble_eq_true rfl) (Nat.le_of_ble_eq_true rfl) (Nat.zero_le _) (Nat.zero_le _) ?_
      rintro _ _ _ ⟨rfl, rfl, rfl⟩
      exact N.iret dX5_playerOf_131 rfl (Nat.zero_le _) (Nat.zero_le _) ⟨_, rfl, (by rw [mplof, if_neg c5, if_neg t16_0, if_neg t16_1, if_neg t16_2, if_neg t16_3, if_neg t16_4, if_neg t16_5, if_pos t16_6]; exact ⟨rfl, t, z, rfl, ht, Nat.le_refl _⟩)⟩
    refine N.swc 7 (fun t16_7 => ?_) (fun t16_7 => ?_)
    · refine N.tsIn (off := 116) (tgt := 132) 7 t16_7 dX5_playerOf_16 (by decide) (by decide) (by decide) (by decide) ?_
      refine N.aload0 dX5_playerOf_132 ?_
      refine N.iload1 dX5_playerOf_133 ?_
      refine N.vi1 dX5_playerOf_134 vX5_powerOf lkX5_113 (s_X5_powerOf _ _ _ _ _ _ hp) mO rfl (Nat.le_of_ble_eq_true rfl) (Nat.le_of_ble_eq_true rfl) (Nat.zero_le _) (Nat.zero_le _) ?_
      rintro _ _ _ ⟨rfl, rfl, rfl⟩
      exact N.iret dX5_playerOf_137 rfl (Nat.zero_le _) (Nat.zero_le _) ⟨_, rfl, (by rw [mplof, if_neg c5, if_neg t16_0, if_neg t16_1, if_neg t16_2, if_neg t16_3, if_neg t16_4, if_neg t16_5, if_neg t16_6, if_pos t16_7]; exact ⟨rfl, t, z, rfl, ht, Nat.le_refl _⟩)⟩
    refine N.tsOut (tgt := 138) dX5_playerOf_16 (by have h0 := sw_ne t16_0 (z := 0) (by decide); have h1 := sw_ne t16_1 (z := 1) (by decide); have h2 := sw_ne t16_2 (z := 2) (by decide); have h3 := sw_ne t16_3 (z := 3) (by decide); have h4 := sw_ne t16_4 (z := 4) (by decide); have h5 := sw_ne t16_5 (z := 5) (by decide); have h6 := sw_ne t16_6 (z := 6) (by decide); have h7 := sw_ne t16_7 (z := 7) (by decide); omega) (by decide) ?_
    refine N.aload0 dX5_playerOf_138 ?_
    refine N.bipush (v := -2) dX5_playerOf_139 (by decide) ?_
    refine N.vi1 dX5_playerOf_141 vX5_refuse lkX5_89 (s_X5_refuse _ _ _ _ _ _ rfIn2) mO rfl (Nat.le_of_ble_eq_true rfl) (Nat.le_of_ble_eq_true rfl) (Nat.zero_le _) (Nat.zero_le _) ?_
    rintro _ _ _ ⟨rfl, rfl, rfl⟩
    exact N.iret dX5_playerOf_144 rfl (Nat.zero_le _) (Nat.zero_le _) ⟨_, rfl, (by rw [mplof, if_neg c5, if_neg t16_0, if_neg t16_1, if_neg t16_2, if_neg t16_3, if_neg t16_4, if_neg t16_5, if_neg t16_6, if_neg t16_7]; exact rmf_ok ht)⟩
  · refine N.aload0 dX5_playerOf_8 ?_
    refine N.bipush (v := -2) dX5_playerOf_9 (by decide) ?_
    refine N.vi1 dX5_playerOf_11 vX5_refuse lkX5_89 (s_X5_refuse _ _ _ _ _ _ rfIn2) mO rfl (Nat.le_of_ble_eq_true rfl) (Nat.le_of_ble_eq_true rfl) (Nat.zero_le _) (Nat.zero_le _) ?_
    rintro _ _ _ ⟨rfl, rfl, rfl⟩
    exact N.iret dX5_playerOf_14 rfl (Nat.zero_le _) (Nat.zero_le _) ⟨_, rfl, (by rw [mplof, if_pos c5]; exact rmf_ok ht)⟩
def msays (m : Mst) (s x : Int32) : Int32 × Mst := if isInF s 0 7 = 0 then rm m (-2) else if isInF x 0 5 = 0 then rm m (-2) else if m.2.2.1 0 s.toNatClampNeg = 1 then rm m (-3) else if m.2.2.1 0 s.toNatClampNeg = 2 then (if isUnderF (m.1.2 0 (m.2.2.1 3 s.toNatClampNeg).toNatClampNeg) x = 0 then rm m (-3) else if x = 0 then (legsF m.1 (m.2.2.1 3 s.toNatClampNeg), m) else if x = 1 then (tiresF (m.1.2 0 (m.2.2.1 3 s.toNatClampNeg).toNatClampNeg), m) else if x = 2 then (powM m.1 (m.2.2.1 3 s.toNatClampNeg), m) else if x = 3 then (tiresF (m.1.2 0 (m.2.2.1 3 s.toNatClampNeg).toNatClampNeg), m) else if x = 4 then (if bitF (m.1.1 1) (m.2.2.1 3 s.toNatClampNeg) = 0 then (0, m) else (1, m)) else if x = 5 then (bitsF (m.1.1 1 &&& notI ((1 : Int32) <<< ((m.2.2.1 3 s.toNatClampNeg) &&& 31))), m) else (tiresF (m.1.2 0 (m.2.2.1 3 s.toNatClampNeg).toNatClampNeg), m)) else rm m (-4)
set_option maxRecDepth 100000 in
theorem s_X5_says {K : Kx} (w : Wd) (b sz : Nat) (v : CV) (e : M5) (t : Option Nat) (z : MX) (s : Int32) (x : Int32) (ht : tOk G b sz t) (hM : okM (v, e)) : Sp K mX5_says 9 (kc t) (ks t) [.ref b, .int s, .int x] (putM K (tw K w t z) b (v, wt e t)) sz (Qi fun r w' sz' => r = (msays (v, e) s x).1 ∧ ∃ t' z', w' = putM K (tw K w t' z') b ((msays (v, e) s x).2.1, wt (msays (v, e) s x).2.2 t') ∧ tOk G b sz' t' ∧ sz ≤ sz') := by
  refine Sp.ofN [some (.ref b), some (.int s), some (.int x), none] rfl rfl rfl (Nat.le_of_ble_eq_true rfl) ?_
  have h : okP v := hM.1
  refine N.iload1 dX5_says_0 ?_
  refine N.i2l dX5_says_1 ?_
  refine N.lconst (v := 0) dX5_says_2 (by decide) ?_
  refine N.ldc2 dX5_says_3 ctX5_83 ?_
  refine N.si3 dX5_says_6 vX5_in lkX5_77 (s_X5_in _ _ _ _ _) rfl (Nat.le_of_ble_eq_true rfl) (Nat.le_of_ble_eq_true rfl) (Nat.zero_le _) (Nat.zero_le _) ?_
  rintro r1 _ _ ⟨er, rfl, rfl⟩
  obtain rfl := er.trans (inL_i (a := (0)) (b := (7)) rfl rfl)
  refine N.if_eq (tgt := 24) dX5_says_9 (by decide) (fun c9 => ?_) (fun c9 => ?_)
  · refine N.aload0 dX5_says_24 ?_
    refine N.bipush (v := -2) dX5_says_25 (by decide) ?_
    refine N.vi1 dX5_says_27 vX5_refuse lkX5_89 (s_X5_refuse _ _ _ _ _ _ rfIn2) mO rfl (Nat.le_of_ble_eq_true rfl) (Nat.le_of_ble_eq_true rfl) (Nat.zero_le _) (Nat.zero_le _) ?_
    rintro _ _ _ ⟨rfl, rfl, rfl⟩
    exact N.iret dX5_says_30 rfl (Nat.zero_le _) (Nat.zero_le _) ⟨_, rfl, (by rw [msays, if_pos c9]; exact rmf_ok ht)⟩
  · refine N.iload2 dX5_says_12 ?_
    refine N.i2l dX5_says_13 ?_
    refine N.lconst (v := 0) dX5_says_14 (by decide) ?_
    refine N.ldc2 dX5_says_15 ctX5_104 ?_
    refine N.si3 dX5_says_18 vX5_in lkX5_77 (s_X5_in _ _ _ _ _) rfl (Nat.le_of_ble_eq_true rfl) (Nat.le_of_ble_eq_true rfl) (Nat.zero_le _) (Nat.zero_le _) ?_
    rintro r1 _ _ ⟨er, rfl, rfl⟩
    obtain rfl := er.trans (inL_i (a := (0)) (b := (5)) rfl rfl)
    refine N.if_ne (tgt := 31) dX5_says_21 (by decide) (fun c21 => ?_) (fun c21 => ?_)
    · have hs := sh8 c9
      refine N.aload0 dX5_says_31 ?_
      refine N.getf dX5_says_32 flX5_7 mO rfl ?_
      refine N.iload1 dX5_says_35 ?_
      refine N.iald dX5_says_36 mH0 (sh8v c9) ?_
      refine N.iconst (v := 1) dX5_says_37 (by decide) ?_
      refine N.icmp_eq (tgt := 69) dX5_says_38 (by decide) (fun c38 => ?_) (fun c38 => ?_)
      · refine N.aload0 dX5_says_69 ?_
        refine N.bipush (v := -3) dX5_says_70 (by decide) ?_
        refine N.vi1 dX5_says_72 vX5_refuse lkX5_89 (s_X5_refuse _ _ _ _ _ _ rfIn3) mO rfl (Nat.le_of_ble_eq_true rfl) (Nat.le_of_ble_eq_true rfl) (Nat.zero_le _) (Nat.zero_le _) ?_
        rintro _ _ _ ⟨rfl, rfl, rfl⟩
        exact N.iret dX5_says_75 rfl (Nat.zero_le _) (Nat.zero_le _) ⟨_, rfl, (by rw [msays, if_neg c9, if_neg c21, if_pos c38]; exact rmf_ok ht)⟩
      · refine N.aload0 dX5_says_41 ?_
        refine N.getf dX5_says_42 flX5_7 mO rfl ?_
        refine N.iload1 dX5_says_45 ?_
        refine N.iald dX5_says_46 mH0 (sh8v c9) ?_
        refine N.iconst (v := 2) dX5_says_47 (by decide) ?_
        refine N.icmp_ne (tgt := 76) dX5_says_48 (by decide) (fun c48 => ?_) (fun c48 => ?_)
        · refine N.aload0 dX5_says_76 ?_
          refine N.getf dX5_says_77 flX5_7 mO rfl ?_
          refine N.iload1 dX5_says_80 ?_
          refine N.iald dX5_says_81 mH0 (sh8v c9) ?_
          refine N.if_ne (tgt := 92) dX5_says_82 (by decide) (fun c82 => absurd ((hM.2.2.1 _ hs).1) (fun q => q.elim c82 (fun q => q.elim c38 c48))) (fun c82 => ?_)
          refine N.aload0 dX5_says_85 ?_
          refine N.bipush (v := -4) dX5_says_86 (by decide) ?_
          refine N.vi1 dX5_says_88 vX5_refuse lkX5_89 (s_X5_refuse _ _ _ _ _ _ rfIn4) mO rfl (Nat.le_of_ble_eq_true rfl) (Nat.le_of_ble_eq_true rfl) (Nat.zero_le _) (Nat.zero_le _) ?_
          rintro _ _ _ ⟨rfl, rfl, rfl⟩
          exact N.iret dX5_says_91 rfl (Nat.zero_le _) (Nat.zero_le _) ⟨_, rfl, (by rw [msays, if_neg c9, if_neg c21, if_neg c38, if_neg c48]; exact rmf_ok ht)⟩
        · have hp := pl_in h ((hM.2.2.1 _ hs).2 c48)
          refine N.aload0 dX5_says_51 ?_
          refine N.getf dX5_says_52 flX5_37 mO rfl ?_
          refine N.aload0 dX5_says_55 ?_
          refine N.getf dX5_says_56 flX5_28 mO rfl ?_
          refine N.iload1 dX5_says_59 ?_
          refine N.iald dX5_says_60 mH3 (sh8v c9) ?_
          refine N.iald dX5_says_61 mA0 hp ?_
          refine N.iload2 dX5_says_62 ?_
          refine N.si2 dX5_says_63 vX5_isUnder lkX5_106 (s_X5_isUnder _ _ _ _) rfl (Nat.le_of_ble_eq_true rfl) (Nat.le_of_ble_eq_true rfl) (Nat.zero_le _) (Nat.zero_le _) ?_
          rintro _ _ _ ⟨rfl, rfl, rfl⟩
          refine N.if_ne (tgt := 76) dX5_says_66 (by decide) (fun c66 => ?_) (fun c66 => ?_)
          · refine N.aload0 dX5_says_76 ?_
            refine N.getf dX5_says_77 flX5_7 mO rfl ?_
            refine N.iload1 dX5_says_80 ?_
            refine N.iald dX5_says_81 mH0 (sh8v c9) ?_
            refine N.if_ne (tgt := 92) dX5_says_82 (by decide) (fun c82 => ?_) (fun c82 => absurd (c48.symm.trans c82) (by decide))
            refine N.aload0 dX5_says_92 ?_
            refine N.getf dX5_says_93 flX5_28 mO rfl ?_
            refine N.iload1 dX5_says_96 ?_
            refine N.iald dX5_says_97 mH3 (sh8v c9) ?_
            refine N.istore3 dX5_says_98 rfl ?_
            refine N.iload2 dX5_says_99 ?_
            refine N.swc 0 (fun t100_0 => ?_) (fun t100_0 => ?_)
            · refine N.tsIn (off := 40) (tgt := 140) 0 t100_0 dX5_says_100 (by decide) (by decide) (by decide) (by decide) ?_
              refine N.aload0 dX5_says_140 ?_
              refine N.iload3 dX5_says_141 ?_
              refine N.vi1 dX5_says_142 vX5_legs lkX5_110 (s_X5_legs _ _ _ _ _ _ hp) mO rfl (Nat.le_of_ble_eq_true rfl) (Nat.le_of_ble_eq_true rfl) (Nat.zero_le _) (Nat.zero_le _) ?_
              rintro _ _ _ ⟨rfl, rfl, rfl⟩
              exact N.iret dX5_says_145 rfl (Nat.zero_le _) (Nat.zero_le _) ⟨_, rfl, (by rw [msays, if_neg c9, if_neg c21, if_neg c38, if_pos c48, if_neg c66, if_pos t100_0]; exact ⟨rfl, t, z, rfl, ht, Nat.le_refl _⟩)⟩
            refine N.swc 1 (fun t100_1 => ?_) (fun t100_1 => ?_)
            · refine N.tsIn (off := 83) (tgt := 183) 1 t100_1 dX5_says_100 (by decide) (by decide) (by decide) (by decide) ?_
              refine N.aload0 dX5_says_183 ?_
              refine N.iload3 dX5_says_184 ?_
              refine N.vi1 dX5_says_185 vX5_tires lkX5_125 (s_X5_tires _ _ _ _ _ _ hp) mO rfl (Nat.le_of_ble_eq_true rfl) (Nat.le_of_ble_eq_true rfl) (Nat.zero_le _) (Nat.zero_le _) ?_
              rintro _ _ _ ⟨rfl, rfl, rfl⟩
              exact N.iret dX5_says_188 rfl (Nat.zero_le _) (Nat.zero_le _) ⟨_, rfl, (by rw [msays, if_neg c9, if_neg c21, if_neg c38, if_pos c48, if_neg c66, if_neg t100_0, if_pos t100_1]; exact ⟨rfl, t, z, rfl, ht, Nat.le_refl _⟩)⟩
            refine N.swc 2 (fun t100_2 => ?_) (fun t100_2 => ?_)
            · refine N.tsIn (off := 46) (tgt := 146) 2 t100_2 dX5_says_100 (by decide) (by decide) (by decide) (by decide) ?_
              refine N.aload0 dX5_says_146 ?_
              refine N.iload3 dX5_says_147 ?_
              refine N.vi1 dX5_says_148 vX5_powerOf lkX5_113 (s_X5_powerOf _ _ _ _ _ _ hp) mO rfl (Nat.le_of_ble_eq_true rfl) (Nat.le_of_ble_eq_true rfl) (Nat.zero_le _) (Nat.zero_le _) ?_
              rintro _ _ _ ⟨rfl, rfl, rfl⟩
              exact N.iret dX5_says_151 rfl (Nat.zero_le _) (Nat.zero_le _) ⟨_, rfl, (by rw [msays, if_neg c9, if_neg c21, if_neg c38, if_pos c48, if_neg c66, if_neg t100_0, if_neg t100_1, if_pos t100_2]; exact ⟨rfl, t, z, rfl, ht, Nat.le_refl _⟩)⟩
            refine N.swc 3 (fun t100_3 => ?_) (fun t100_3 => ?_)
            · refine N.tsIn (off := 83) (tgt := 183) 3 t100_3 dX5_says_100 (by decide) (by decide) (by decide) (by decide) ?_
              refine N.aload0 dX5_says_183 ?_
              refine N.iload3 dX5_says_184 ?_
              refine N.vi1 dX5_says_185 vX5_tires lkX5_125 (s_X5_tires _ _ _ _ _ _ hp) mO rfl (Nat.le_of_ble_eq_true rfl) (Nat.le_of_ble_eq_true rfl) (Nat.zero_le _) (Nat.zero_le _) ?_
              rintro _ _ _ ⟨rfl, rfl, rfl⟩
              exact N.iret dX5_says_188 rfl (Nat.zero_le _) (Nat.zero_le _) ⟨_, rfl, (by rw [msays, if_neg c9, if_neg c21, if_neg c38, if_pos c48, if_neg c66, if_neg t100_0, if_neg t100_1, if_neg t100_2, if_pos t100_3]; exact ⟨rfl, t, z, rfl, ht, Nat.le_refl _⟩)⟩
            refine N.swc 4 (fun t100_4 => ?_) (fun t100_4 => ?_)
            · refine N.tsIn (off := 52) (tgt := 152) 4 t100_4 dX5_says_100 (by decide) (by decide) (by decide) (by decide) ?_
              refine N.aload0 dX5_says_152 ?_
              refine N.getf dX5_says_153 flX5_116 mO rfl ?_
              refine N.iload3 dX5_says_156 ?_
              refine N.si2 dX5_says_157 vX5_has lkX5_119 (s_X5_has _ _ _ _) rfl (Nat.le_of_ble_eq_true rfl) (Nat.le_of_ble_eq_true rfl) (Nat.zero_le _) (Nat.zero_le _) ?_
              rintro _ _ _ ⟨rfl, rfl, rfl⟩
              refine N.if_eq (tgt := 167) dX5_says_160 (by decide) (fun c160 => ?_) (fun c160 => ?_)
              · refine N.iconst (v := 0) dX5_says_167 (by decide) ?_
                exact N.iret dX5_says_168 rfl (Nat.zero_le _) (Nat.zero_le _) ⟨_, rfl, (by rw [msays, if_neg c9, if_neg c21, if_neg c38, if_pos c48, if_neg c66, if_neg t100_0, if_neg t100_1, if_neg t100_2, if_neg t100_3, if_pos t100_4, if_pos c160]; exact ⟨rfl, t, z, rfl, ht, Nat.le_refl _⟩)⟩
              · refine N.iconst (v := 1) dX5_says_163 (by decide) ?_
                refine N.goto (tgt := 168) dX5_says_164 (by decide) ?_
                exact N.iret dX5_says_168 rfl (Nat.zero_le _) (Nat.zero_le _) ⟨_, rfl, (by rw [msays, if_neg c9, if_neg c21, if_neg c38, if_pos c48, if_neg c66, if_neg t100_0, if_neg t100_1, if_neg t100_2, if_neg t100_3, if_pos t100_4, if_neg c160]; exact ⟨rfl, t, z, rfl, ht, Nat.le_refl _⟩)⟩
            refine N.swc 5 (fun t100_5 => ?_) (fun t100_5 => ?_)
            · refine N.tsIn (off := 69) (tgt := 169) 5 t100_5 dX5_says_100 (by decide) (by decide) (by decide) (by decide) ?_
              refine N.aload0 dX5_says_169 ?_
              refine N.getf dX5_says_170 flX5_116 mO rfl ?_
              refine N.iconst (v := 1) dX5_says_173 (by decide) ?_
              refine N.iload3 dX5_says_174 ?_
              refine N.ishl dX5_says_175 ?_
              refine N.iconst (v := -1) dX5_says_176 (by decide) ?_
              refine N.ixor dX5_says_177 ?_
              refine N.iand dX5_says_178 ?_
              refine N.si1 dX5_says_179 vX5_bits lkX5_122 (s_X5_bits _ _ _) rfl (Nat.le_of_ble_eq_true rfl) (Nat.le_of_ble_eq_true rfl) (Nat.zero_le _) (Nat.zero_le _) ?_
              rintro _ _ _ ⟨rfl, rfl, rfl⟩
              exact N.iret dX5_says_182 rfl (Nat.zero_le _) (Nat.zero_le _) ⟨_, rfl, (by rw [msays, if_neg c9, if_neg c21, if_neg c38, if_pos c48, if_neg c66, if_neg t100_0, if_neg t100_1, if_neg t100_2, if_neg t100_3, if_neg t100_4, if_pos t100_5]; exact ⟨rfl, t, z, rfl, ht, Nat.le_refl _⟩)⟩
            refine N.tsOut (tgt := 183) dX5_says_100 (by have h0 := sw_ne t100_0 (z := 0) (by decide); have h1 := sw_ne t100_1 (z := 1) (by decide); have h2 := sw_ne t100_2 (z := 2) (by decide); have h3 := sw_ne t100_3 (z := 3) (by decide); have h4 := sw_ne t100_4 (z := 4) (by decide); have h5 := sw_ne t100_5 (z := 5) (by decide); omega) (by decide) ?_
            refine N.aload0 dX5_says_183 ?_
            refine N.iload3 dX5_says_184 ?_
            refine N.vi1 dX5_says_185 vX5_tires lkX5_125 (s_X5_tires _ _ _ _ _ _ hp) mO rfl (Nat.le_of_ble_eq_true rfl) (Nat.le_of_ble_eq_true rfl) (Nat.zero_le _) (Nat.zero_le _) ?_
            rintro _ _ _ ⟨rfl, rfl, rfl⟩
            exact N.iret dX5_says_188 rfl (Nat.zero_le _) (Nat.zero_le _) ⟨_, rfl, (by rw [msays, if_neg c9, if_neg c21, if_neg c38, if_pos c48, if_neg c66, if_neg t100_0, if_neg t100_1, if_neg t100_2, if_neg t100_3, if_neg t100_4, if_neg t100_5]; exact ⟨rfl, t, z, rfl, ht, Nat.le_refl _⟩)⟩
          · refine N.aload0 dX5_says_69 ?_
            refine N.bipush (v := -3) dX5_says_70 (by decide) ?_
            refine N.vi1 dX5_says_72 vX5_refuse lkX5_89 (s_X5_refuse _ _ _ _ _ _ rfIn3) mO rfl (Nat.le_of_ble_eq_true rfl) (Nat.le_of_ble_eq_true rfl) (Nat.zero_le _) (Nat.zero_le _) ?_
            rintro _ _ _ ⟨rfl, rfl, rfl⟩
            exact N.iret dX5_says_75 rfl (Nat.zero_le _) (Nat.zero_le _) ⟨_, rfl, (by rw [msays, if_neg c9, if_neg c21, if_neg c38, if_pos c48, if_pos c66]; exact rmf_ok ht)⟩
    · refine N.aload0 dX5_says_24 ?_
      refine N.bipush (v := -2) dX5_says_25 (by decide) ?_
      refine N.vi1 dX5_says_27 vX5_refuse lkX5_89 (s_X5_refuse _ _ _ _ _ _ rfIn2) mO rfl (Nat.le_of_ble_eq_true rfl) (Nat.le_of_ble_eq_true rfl) (Nat.zero_le _) (Nat.zero_le _) ?_
      rintro _ _ _ ⟨rfl, rfl, rfl⟩
      exact N.iret dX5_says_30 rfl (Nat.zero_le _) (Nat.zero_le _) ⟨_, rfl, (by rw [msays, if_neg c9, if_pos c21]; exact rmf_ok ht)⟩
def skTo (v : CV) : Nat → CV × Int32
  | 0 => (v, 0)
  | k + 1 => (secM (skTo v k).1, (skTo v k).2 + (if secG (skTo v k).1 = 0 then 0 else 1))
theorem skTo_ok {v : CV} (h : okP v) : ∀ k, okP (skTo v k).1
  | 0 => h
  | k + 1 => (skTo_ok h k).secm
set_option maxRecDepth 100000 in
theorem l_X5_skate {K : Kx} (w : Wd) (b sz : Nat) (v : CV) (E : ME) (mc ms : Nat) (n : Int32) (h : okP v) (m : Nat) (hm : m ≤ 600) (hn : n = nI m) (P : Int32 → Wd → Nat → Prop) (hP : P (skTo v m).2 (putM K w b ((skTo v m).1, E)) sz) : ∀ nn k, k + nn = m → N K mX5_skate 9 mc ms (Qi P) 23 [some (.ref b), some (.int n), some (.int (skTo v k).2), some (.int (nI k))] [] (putM K w b ((skTo v k).1, E)) sz 0 0 := by
  intro nn
  induction nn with
  | zero =>
    intro k hk
    obtain rfl : k = m := by omega
    refine N.iload3 dX5_skate_23 ?_
    refine N.iload1 dX5_skate_24 ?_
    refine N.icmp_ge (tgt := 49) dX5_skate_25 (by decide) (fun c25 => ?_) (fun c25 => absurd (pl_ge hn (by omega) (by omega)) c25)
    refine N.iload2 dX5_skate_49 ?_
    exact N.iret dX5_skate_50 rfl (Nat.zero_le _) (Nat.zero_le _) ⟨_, rfl, hP⟩
  | succ nn ih =>
    intro k hk
    refine N.iload3 dX5_skate_23 ?_
    refine N.iload1 dX5_skate_24 ?_
    refine N.icmp_ge (tgt := 49) dX5_skate_25 (by decide) (fun c25 => absurd c25 (by rw [hn]; exact nI_ge (by omega) (by omega))) (fun c25 => ?_)
    refine N.iload2 dX5_skate_28 ?_
    refine N.aload0 dX5_skate_29 ?_
    refine N.vi0 dX5_skate_30 vX5_secondTruly lkX5_230 (s_X5_secondTruly _ _ _ _ _ (skTo_ok h k)) mO rfl (Nat.le_of_ble_eq_true rfl) (Nat.le_of_ble_eq_true rfl) (Nat.zero_le _) (Nat.zero_le _) ?_
    rintro _ _ _ ⟨rfl, rfl, rfl⟩
    refine N.if_eq (tgt := 40) dX5_skate_33 (by decide) (fun c33 => ?_) (fun c33 => ?_)
    · refine N.iconst (v := 0) dX5_skate_40 (by decide) ?_
      refine N.iadd dX5_skate_41 ?_
      refine N.istore2 dX5_skate_42 rfl ?_
      refine N.iinc3 dX5_skate_43 rfl (nI_inc _) ?_
      refine N.goto (tgt := 23) dX5_skate_46 (by decide) ?_
      exact N.wk (by rw [skTo, if_pos c33]; exact ⟨rfl, rfl, rfl, rfl, trivial⟩) (ih (k + 1) (by omega))
    · refine N.iconst (v := 1) dX5_skate_36 (by decide) ?_
      refine N.goto (tgt := 41) dX5_skate_37 (by decide) ?_
      refine N.iadd dX5_skate_41 ?_
      refine N.istore2 dX5_skate_42 rfl ?_
      refine N.iinc3 dX5_skate_43 rfl (nI_inc _) ?_
      refine N.goto (tgt := 23) dX5_skate_46 (by decide) ?_
      exact N.wk (by rw [skTo, if_neg c33]; exact ⟨rfl, rfl, rfl, rfl, trivial⟩) (ih (k + 1) (by omega))
theorem mp_ok {K : Kx} {w : Wd} {b sz : Nat} {v : CV} {e : M5} {t : Option Nat} {z : MX} {g : Int32 × Mst} {r : Int32} (ht : tOk G b sz t) (eg : g = (r, v, e)) : r = g.1 ∧ ∃ t' z', putM K (tw K w t z) b (v, wt e t) = putM K (tw K w t' z') b (g.2.1, wt g.2.2 t') ∧ tOk G b sz t' ∧ sz ≤ sz := by
  subst eg
  exact ⟨rfl, t, z, rfl, ht, Nat.le_refl _⟩
def mskate (m : Mst) (n : Int32) : Int32 × Mst := if isInF n 1 300 = 0 then rm m (-2) else ((skTo m.1 n.toNatClampNeg).2, (skTo m.1 n.toNatClampNeg).1, m.2)
set_option maxRecDepth 100000 in
theorem s_X5_skate {K : Kx} (w : Wd) (b sz : Nat) (v : CV) (e : M5) (t : Option Nat) (z : MX) (n : Int32) (ht : tOk G b sz t) (hM : okM (v, e)) : Sp K mX5_skate 9 (kc t) (ks t) [.ref b, .int n] (putM K (tw K w t z) b (v, wt e t)) sz (Qi fun r w' sz' => r = (mskate (v, e) n).1 ∧ ∃ t' z', w' = putM K (tw K w t' z') b ((mskate (v, e) n).2.1, wt (mskate (v, e) n).2.2 t') ∧ tOk G b sz' t' ∧ sz ≤ sz') := by
  refine Sp.ofN [some (.ref b), some (.int n), none, none] rfl rfl rfl (Nat.le_of_ble_eq_true rfl) ?_
  have h : okP v := hM.1
  refine N.iload1 dX5_skate_0 ?_
  refine N.i2l dX5_skate_1 ?_
  refine N.lconst (v := 1) dX5_skate_2 (by decide) ?_
  refine N.ldc2 dX5_skate_3 ctX5_381 ?_
  refine N.si3 dX5_skate_6 vX5_in lkX5_77 (s_X5_in _ _ _ _ _) rfl (Nat.le_of_ble_eq_true rfl) (Nat.le_of_ble_eq_true rfl) (Nat.zero_le _) (Nat.zero_le _) ?_
  rintro r1 _ _ ⟨er, rfl, rfl⟩
  obtain rfl := er.trans (inL_i (a := (1)) (b := (300)) rfl rfl)
  refine N.if_ne (tgt := 19) dX5_skate_9 (by decide) (fun c9 => ?_) (fun c9 => ?_)
  · obtain ⟨k0, hk0, hk1, hn⟩ := in_n1 (N' := 300) (by decide) c9
    refine N.iconst (v := 0) dX5_skate_19 (by decide) ?_
    refine N.istore2 dX5_skate_20 rfl ?_
    refine N.iconst (v := 0) dX5_skate_21 (by decide) ?_
    refine N.istore3 dX5_skate_22 rfl ?_
    exact N.wk (by exact ⟨rfl, rfl, rfl, rfl, trivial⟩) (l_X5_skate _ b _ v (wt e t) _ _ n h k0 (by omega) hn _ (mp_ok ht (by rw [mskate, if_neg c9, show n.toNatClampNeg = k0 by rw [hn, nI_clamp (by omega)]])) k0 0 (by omega))
  · refine N.aload0 dX5_skate_12 ?_
    refine N.bipush (v := -2) dX5_skate_13 (by decide) ?_
    refine N.vi1 dX5_skate_15 vX5_refuse lkX5_89 (s_X5_refuse _ _ _ _ _ _ rfIn2) mO rfl (Nat.le_of_ble_eq_true rfl) (Nat.le_of_ble_eq_true rfl) (Nat.zero_le _) (Nat.zero_le _) ?_
    rintro _ _ _ ⟨rfl, rfl, rfl⟩
    exact N.iret dX5_skate_18 rfl (Nat.zero_le _) (Nat.zero_le _) ⟨_, rfl, (by rw [mskate, if_pos c9]; exact rmf_ok ht)⟩
