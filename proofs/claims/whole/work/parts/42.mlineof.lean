variable {G : Nat → Prop}
def skM (v : CV) (l : Nat) : Nat → Int32
  | 0 => 0
  | k + 1 => if bitF (v.2 4 l) (nI k) = 0 then skM v l k + 0 else skM v l k + v.2 1 (nI k).toNatClampNeg
set_option maxRecDepth 100000 in
theorem l_X5_lineOf {K : Kx} (w : Wd) (b sz : Nat) (v : CV) (E : ME) (mc ms : Nat) (l x : Int32) (hl : vp_in l 4) (P0 : Nat) (hP0 : P0 ≤ 10) (e0 : v.1 0 = nI P0) (P : Int32 → Wd → Nat → Prop) (hP : P (skM v l.toNatClampNeg P0) (putM K w b (v, E)) sz) : ∀ nn k, k + nn = P0 → N K mX5_lineOf 9 mc ms (Qi P) 72 [some (.ref b), some (.int l), some (.int x), some (.int (skM v l.toNatClampNeg k)), some (.int (nI k))] [] (putM K w b (v, E)) sz 0 0 := by
  intro nn
  induction nn with
  | zero =>
    intro k hk
    obtain rfl : k = P0 := by omega
    refine N.iload4 dX5_lineOf_72 ?_
    refine N.aload0 dX5_lineOf_74 ?_
    refine N.getf dX5_lineOf_75 flX5_74 mO rfl ?_
    refine N.icmp_ge (tgt := 115) dX5_lineOf_78 (by decide) (fun c78 => ?_) (fun c78 => absurd (pl_ge e0 (by omega) (by omega)) c78)
    refine N.iload3 dX5_lineOf_115 ?_
    exact N.iret dX5_lineOf_116 rfl (Nat.zero_le _) (Nat.zero_le _) ⟨_, rfl, hP⟩
  | succ nn ih =>
    intro k hk
    refine N.iload4 dX5_lineOf_72 ?_
    refine N.aload0 dX5_lineOf_74 ?_
    refine N.getf dX5_lineOf_75 flX5_74 mO rfl ?_
    refine N.icmp_ge (tgt := 115) dX5_lineOf_78 (by decide) (fun c78 => absurd c78 (pl_nge e0 (by omega) (by omega))) (fun c78 => ?_)
    refine N.iload3 dX5_lineOf_81 ?_
    refine N.aload0 dX5_lineOf_82 ?_
    refine N.getf dX5_lineOf_83 flX5_49 mO rfl ?_
    refine N.iload1 dX5_lineOf_86 ?_
    refine N.iald dX5_lineOf_87 mA4 hl ?_
    refine N.iload4 dX5_lineOf_88 ?_
    refine N.si2 dX5_lineOf_90 vX5_has lkX5_119 (s_X5_has _ _ _ _) rfl (Nat.le_of_ble_eq_true rfl) (Nat.le_of_ble_eq_true rfl) (Nat.zero_le _) (Nat.zero_le _) ?_
    rintro _ _ _ ⟨rfl, rfl, rfl⟩
    refine N.if_eq (tgt := 106) dX5_lineOf_93 (by decide) (fun c93 => ?_) (fun c93 => ?_)
    · refine N.iconst (v := 0) dX5_lineOf_106 (by decide) ?_
      refine N.iadd dX5_lineOf_107 ?_
      refine N.istore3 dX5_lineOf_108 rfl ?_
      refine N.iinc4 dX5_lineOf_109 rfl (nI_inc _) ?_
      refine N.goto (tgt := 72) dX5_lineOf_112 (by decide) ?_
      exact N.wk (by rw [skM, if_pos c93]; exact ⟨rfl, rfl, rfl, rfl, rfl, trivial⟩) (ih (k + 1) (by omega))
    · refine N.aload0 dX5_lineOf_96 ?_
      refine N.getf dX5_lineOf_97 flX5_40 mO rfl ?_
      refine N.iload4 dX5_lineOf_100 ?_
      refine N.iald dX5_lineOf_102 mA1 (in10 (by omega)) ?_
      refine N.goto (tgt := 107) dX5_lineOf_103 (by decide) ?_
      refine N.iadd dX5_lineOf_107 ?_
      refine N.istore3 dX5_lineOf_108 rfl ?_
      refine N.iinc4 dX5_lineOf_109 rfl (nI_inc _) ?_
      refine N.goto (tgt := 72) dX5_lineOf_112 (by decide) ?_
      exact N.wk (by rw [skM, if_neg c93]; exact ⟨rfl, rfl, rfl, rfl, rfl, trivial⟩) (ih (k + 1) (by omega))
def mlnof (m : Mst) (l x : Int32) : Int32 × Mst := if isInF l 0 3 = 0 then rm m (-2) else if isInF x 0 3 = 0 then rm m (-2) else if x = 0 then (m.1.2 4 l.toNatClampNeg, m) else if x = 1 then (tdM m.1 l, m) else if x = 2 then (skM m.1 l.toNatClampNeg (np m.1), m) else (powAM (putOnV m.1 (m.1.2 4 l.toNatClampNeg)), m)
set_option maxRecDepth 100000 in
theorem s_X5_lineOf {K : Kx} (w : Wd) (b sz : Nat) (v : CV) (e : M5) (t : Option Nat) (z : MX) (l : Int32) (x : Int32) (ht : tOk G b sz t) (hM : okM (v, e)) : Sp K mX5_lineOf 9 (kc t) (ks t) [.ref b, .int l, .int x] (putM K (tw K w t z) b (v, wt e t)) sz (Qi fun r w' sz' => r = (mlnof (v, e) l x).1 ∧ ∃ t' z', w' = putM K (tw K w t' z') b ((mlnof (v, e) l x).2.1, wt (mlnof (v, e) l x).2.2 t') ∧ tOk G b sz' t' ∧ sz ≤ sz') := by
  refine Sp.ofN [some (.ref b), some (.int l), some (.int x), none, none] rfl rfl rfl (Nat.le_of_ble_eq_true rfl) ?_
  have h : okP v := hM.1
  refine N.iload1 dX5_lineOf_0 ?_
  refine N.i2l dX5_lineOf_1 ?_
  refine N.si1 dX5_lineOf_2 vX5_isLine lkX5_138 (s_X5_isLine _ _ _) rfl (Nat.le_of_ble_eq_true rfl) (Nat.le_of_ble_eq_true rfl) (by omega) (by omega) ?_
  rintro r1 _ _ ⟨er, rfl, rfl⟩
  obtain rfl := er.trans (inL_i (a := 0) (b := 3) rfl rfl)
  refine N.if_eq (tgt := 20) dX5_lineOf_5 (by decide) (fun c5 => ?_) (fun c5 => ?_)
  · refine N.aload0 dX5_lineOf_20 ?_
    refine N.bipush (v := -2) dX5_lineOf_21 (by decide) ?_
    refine N.vi1 dX5_lineOf_23 vX5_refuse lkX5_89 (s_X5_refuse _ _ _ _ _ _ rfIn2) mO rfl (Nat.le_of_ble_eq_true rfl) (Nat.le_of_ble_eq_true rfl) (by omega) (by omega) ?_
    rintro _ _ _ ⟨rfl, rfl, rfl⟩
    exact N.iret dX5_lineOf_26 rfl (by omega) (by omega) ⟨_, rfl, (by rw [mlnof, if_pos c5]; exact rmf_ok ht)⟩
  · refine N.iload2 dX5_lineOf_8 ?_
    refine N.i2l dX5_lineOf_9 ?_
    refine N.lconst (v := 0) dX5_lineOf_10 (by decide) ?_
    refine N.ldc2 dX5_lineOf_11 ctX5_81 ?_
    refine N.si3 dX5_lineOf_14 vX5_in lkX5_77 (s_X5_in _ _ _ _ _) rfl (Nat.le_of_ble_eq_true rfl) (Nat.le_of_ble_eq_true rfl) (by omega) (by omega) ?_
    rintro r1 _ _ ⟨er, rfl, rfl⟩
    obtain rfl := er.trans (inL_i (a := (0)) (b := (3)) rfl rfl)
    refine N.if_ne (tgt := 27) dX5_lineOf_17 (by decide) (fun c17 => ?_) (fun c17 => ?_)
    · refine N.iconst (v := 0) dX5_lineOf_27 (by decide) ?_
      refine N.istore3 dX5_lineOf_28 rfl ?_
      refine N.iload2 dX5_lineOf_29 ?_
      refine N.swc 0 (fun t30_0 => ?_) (fun t30_0 => ?_)
      · refine N.tsIn (off := 26) (tgt := 56) 0 t30_0 dX5_lineOf_30 (by decide) (by decide) (by decide) (by decide) ?_
        refine N.aload0 dX5_lineOf_56 ?_
        refine N.getf dX5_lineOf_57 flX5_49 mO rfl ?_
        refine N.iload1 dX5_lineOf_60 ?_
        refine N.iald dX5_lineOf_61 mA4 (ln_in c5) ?_
        exact N.iret dX5_lineOf_62 rfl (by omega) (by omega) ⟨_, rfl, (by rw [mlnof, if_neg c5, if_neg c17, if_pos t30_0]; exact ⟨rfl, t, z, rfl, ht, Nat.le_refl _⟩)⟩
      refine N.swc 1 (fun t30_1 => ?_) (fun t30_1 => ?_)
      · refine N.tsIn (off := 33) (tgt := 63) 1 t30_1 dX5_lineOf_30 (by decide) (by decide) (by decide) (by decide) ?_
        refine N.aload0 dX5_lineOf_63 ?_
        refine N.iload1 dX5_lineOf_64 ?_
        refine N.vi1 dX5_lineOf_65 vX5_tiredOf lkX5_308 (s_X5_tiredOf _ _ _ _ _ _ h (ln_in c5)) mO rfl (Nat.le_of_ble_eq_true rfl) (Nat.le_of_ble_eq_true rfl) (by omega) (by omega) ?_
        rintro _ _ _ ⟨rfl, rfl, rfl⟩
        exact N.iret dX5_lineOf_68 rfl (by omega) (by omega) ⟨_, rfl, (by rw [mlnof, if_neg c5, if_neg c17, if_neg t30_0, if_pos t30_1]; exact ⟨rfl, t, z, rfl, ht, Nat.le_refl _⟩)⟩
      refine N.swc 2 (fun t30_2 => ?_) (fun t30_2 => ?_)
      · refine N.tsIn (off := 39) (tgt := 69) 2 t30_2 dX5_lineOf_30 (by decide) (by decide) (by decide) (by decide) ?_
        refine N.iconst (v := 0) dX5_lineOf_69 (by decide) ?_
        refine N.istore4 dX5_lineOf_70 rfl ?_
        obtain ⟨P0, hP0, e0, e1⟩ := np_ex h
        exact N.wk (by exact ⟨rfl, rfl, rfl, rfl, rfl, trivial⟩) (l_X5_lineOf _ b _ v (wt e t) _ _ l x (ln_in c5) P0 hP0 e0 _ (mp_ok ht (by rw [mlnof, if_neg c5, if_neg c17, if_neg t30_0, if_neg t30_1, if_pos t30_2, e1])) P0 0 (by omega))
      refine N.tsOut (tgt := 117) dX5_lineOf_30 (by have h0 := sw_ne t30_0 (z := 0) (by decide); have h1 := sw_ne t30_1 (z := 1) (by decide); have h2 := sw_ne t30_2 (z := 2) (by decide); omega) (by decide) ?_
      refine N.aload0 dX5_lineOf_117 ?_
      refine N.aload0 dX5_lineOf_118 ?_
      refine N.getf dX5_lineOf_119 flX5_49 mO rfl ?_
      refine N.iload1 dX5_lineOf_122 ?_
      refine N.iald dX5_lineOf_123 mA4 (ln_in c5) ?_
      refine N.vi1A dX5_lineOf_124 vX5_powerBy lkX5_311 (s_X5_powerBy w b _ v e t z _ ht h) mO rfl (Nat.le_of_ble_eq_true rfl) (Nat.le_of_ble_eq_true rfl) (by omega) (by omega) ?_
      rintro _ _ sz2 ⟨rfl, q, y, rfl, hd, hz⟩
      exact N.iret dX5_lineOf_127 rfl (by omega) (by omega) ⟨_, rfl, (by rw [mlnof, if_neg c5, if_neg c17, if_neg t30_0, if_neg t30_1, if_neg t30_2]; exact mq_ok ht hd hz rfl)⟩
    · refine N.aload0 dX5_lineOf_20 ?_
      refine N.bipush (v := -2) dX5_lineOf_21 (by decide) ?_
      refine N.vi1 dX5_lineOf_23 vX5_refuse lkX5_89 (s_X5_refuse _ _ _ _ _ _ rfIn2) mO rfl (Nat.le_of_ble_eq_true rfl) (Nat.le_of_ble_eq_true rfl) (by omega) (by omega) ?_
      rintro _ _ _ ⟨rfl, rfl, rfl⟩
      exact N.iret dX5_lineOf_26 rfl (by omega) (by omega) ⟨_, rfl, (by rw [mlnof, if_neg c5, if_pos c17]; exact rmf_ok ht)⟩
