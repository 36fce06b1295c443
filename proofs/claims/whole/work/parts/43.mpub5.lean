variable {G : Nat → Prop}
def rsTo (k : Int32) : Nat → Int32 → Int32
  | 0, _ => 0
  | n + 1, y => if y ≤ 0 then 0 else rsTo k n (rstM k y) + 1
theorem pos_ex {y : Int32} (h : ¬ y ≤ 0) : ∃ m, m + 1 < 2 ^ 31 ∧ y = nI (m + 1) := by
  have h0 := Int32.not_le.mp h
  obtain ⟨m, hm, rfl⟩ := nI_of (x := y) (fun q => Int32.lt_irrefl (Int32.lt_trans q h0))
  cases m with
  | zero => exact absurd h0 (by decide)
  | succ m => exact ⟨m, hm, rfl⟩
theorem rst_lt {k y : Int32} {n : Nat} (h : ¬ y ≤ 0) (hn : y.toNatClampNeg ≤ n + 1) : (rstM k y).toNatClampNeg ≤ n := by
  obtain ⟨m, hm, rfl⟩ := pos_ex h
  rw [nI_clamp hm] at hn
  unfold rstM
  split
  · split
    · exact Nat.zero_le _
    · cases m with
      | zero => rename_i q; exact absurd (show nI (0 + 1) - 2 ≤ 0 by decide) q
      | succ m => rw [show nI (m + 1 + 1) - 2 = nI (m + 1 + 1) - nI 2 from rfl, nI_sub (by omega), nI_clamp (by omega)]; omega
  · split
    · exact Nat.zero_le _
    · rw [show nI (m + 1) - 1 = nI (m + 1) - nI 1 from rfl, nI_sub (by omega), nI_clamp (by omega)]; omega
theorem clamp_0 {y : Int32} (h : y.toNatClampNeg ≤ 0) : y ≤ 0 := by
  refine Classical.byContradiction fun q => ?_
  obtain ⟨m, hm, rfl⟩ := pos_ex q
  rw [nI_clamp hm] at h
  omega
set_option maxRecDepth 100000 in
theorem l_X5_rests {K : Kx} (w : Wd) (b sz : Nat) (v : CV) (E : ME) (mc ms : Nat) (p : Int32) (hp : vp_in p 10) (P : Int32 → Wd → Nat → Prop) (R : Int32) (hP : P R (putM K w b (v, E)) sz) : ∀ nn (c y : Int32), y.toNatClampNeg ≤ nn → c + rsTo (v.2 0 p.toNatClampNeg) nn y = R → N K mX5_rests 9 mc ms (Qi P) 24 [some (.ref b), some (.int p), some (.int c), some (.int y)] [] (putM K w b (v, E)) sz 0 0 := by
  intro nn
  induction nn with
  | zero =>
    intro c y hy hR
    refine N.iload3 dX5_rests_24 ?_
    refine N.if_le (tgt := 41) dX5_rests_25 (by decide) (fun c25 => ?_) (fun c25 => absurd (clamp_0 hy) c25)
    refine N.iload2 dX5_rests_41 ?_
    exact N.iret dX5_rests_42 rfl (Nat.zero_le _) (Nat.zero_le _) ⟨_, rfl, (by rw [← hR, rsTo, Int32.add_zero] at hP; exact hP)⟩
  | succ nn ih =>
    intro c y hy hR
    refine N.iload3 dX5_rests_24 ?_
    refine N.if_le (tgt := 41) dX5_rests_25 (by decide) (fun c25 => ?_) (fun c25 => ?_)
    · refine N.iload2 dX5_rests_41 ?_
      exact N.iret dX5_rests_42 rfl (Nat.zero_le _) (Nat.zero_le _) ⟨_, rfl, (by rw [← hR, rsTo, if_pos c25, Int32.add_zero] at hP; exact hP)⟩
    · refine N.aload0 dX5_rests_28 ?_
      refine N.iload1 dX5_rests_29 ?_
      refine N.iload3 dX5_rests_30 ?_
      refine N.vi2 dX5_rests_31 vX5_rested lkX5_261 (s_X5_rested _ _ _ _ _ _ _ hp) mO rfl (Nat.le_of_ble_eq_true rfl) (Nat.le_of_ble_eq_true rfl) (Nat.zero_le _) (Nat.zero_le _) ?_
      rintro _ _ _ ⟨rfl, rfl, rfl⟩
      refine N.istore3 dX5_rests_34 rfl ?_
      refine N.iinc2 dX5_rests_35 rfl rfl ?_
      refine N.goto (tgt := 24) dX5_rests_38 (by decide) ?_
      exact ih _ _ (rst_lt c25 hy) (by rw [← hR, rsTo, if_neg c25]; show c + 1 + _ = _; rw [Int32.add_assoc, Int32.add_comm 1])
def mrests (m : Mst) (p : Int32) : Int32 × Mst := if isPlF m.1 p = 0 then rm m (-2) else (rsTo (m.1.2 0 p.toNatClampNeg) (m.1.2 3 p.toNatClampNeg).toNatClampNeg (m.1.2 3 p.toNatClampNeg), m)
set_option maxRecDepth 100000 in
theorem s_X5_rests {K : Kx} (w : Wd) (b sz : Nat) (v : CV) (e : M5) (t : Option Nat) (z : MX) (p : Int32) (ht : tOk G b sz t) (hM : okM (v, e)) : Sp K mX5_rests 9 (kc t) (ks t) [.ref b, .int p] (putM K (tw K w t z) b (v, wt e t)) sz (Qi fun r w' sz' => r = (mrests (v, e) p).1 ∧ ∃ t' z', w' = putM K (tw K w t' z') b ((mrests (v, e) p).2.1, wt (mrests (v, e) p).2.2 t') ∧ tOk G b sz' t' ∧ sz ≤ sz') := by
  refine Sp.ofN [some (.ref b), some (.int p), none, none] rfl rfl rfl (Nat.le_of_ble_eq_true rfl) ?_
  have h : okP v := hM.1
  refine N.aload0 dX5_rests_0 ?_
  refine N.iload1 dX5_rests_1 ?_
  refine N.vi1 dX5_rests_2 vX5_isPlayer lkX5_100 (s_X5_isPlayer _ _ _ _ _ _) mO rfl (Nat.le_of_ble_eq_true rfl) (Nat.le_of_ble_eq_true rfl) (Nat.zero_le _) (Nat.zero_le _) ?_
  rintro _ _ _ ⟨rfl, rfl, rfl⟩
  refine N.if_ne (tgt := 15) dX5_rests_5 (by decide) (fun c5 => ?_) (fun c5 => ?_)
  · have hp := pl_in h c5
    refine N.iconst (v := 0) dX5_rests_15 (by decide) ?_
    refine N.istore2 dX5_rests_16 rfl ?_
    refine N.aload0 dX5_rests_17 ?_
    refine N.getf dX5_rests_18 flX5_46 mO rfl ?_
    refine N.iload1 dX5_rests_21 ?_
    refine N.iald dX5_rests_22 mA3 hp ?_
    refine N.istore3 dX5_rests_23 rfl ?_
    exact N.wk (by exact ⟨rfl, rfl, rfl, rfl, trivial⟩) (l_X5_rests _ b _ v (wt e t) _ _ p hp _ _ (mp_ok ht (by rw [mrests, if_neg c5])) _ 0 _ (Nat.le_refl _) (Int32.zero_add _))
  · refine N.aload0 dX5_rests_8 ?_
    refine N.bipush (v := -2) dX5_rests_9 (by decide) ?_
    refine N.vi1 dX5_rests_11 vX5_refuse lkX5_89 (s_X5_refuse _ _ _ _ _ _ rfIn2) mO rfl (Nat.le_of_ble_eq_true rfl) (Nat.le_of_ble_eq_true rfl) (Nat.zero_le _) (Nat.zero_le _) ?_
    rintro _ _ _ ⟨rfl, rfl, rfl⟩
    exact N.iret dX5_rests_14 rfl (Nat.zero_le _) (Nat.zero_le _) ⟨_, rfl, (by rw [mrests, if_pos c5]; exact rmf_ok ht)⟩
def nbF (A : Nat → Nat → Int32) (s n : Int32) : Int32 := if isInF s 0 7 = 0 then -2 else if isInF n 0 40 = 0 then -2 else if nrF A s = 0 then (if n ≤ A 2 s.toNatClampNeg then 0 else -2) else nrF A s
def nbE (E : ME) (s n : Int32) : ME := if isInF s 0 7 = 0 then reE E (-2) else if isInF n 0 40 = 0 then reE E (-2) else if nrF E.2.1 s = 0 then (if n ≤ E.2.1 2 s.toNatClampNeg then E else reE E (-2)) else nrE E s
def nbM (e : M5) (s n : Int32) : M5 := if isInF s 0 7 = 0 then reM e (-2) else if isInF n 0 40 = 0 then reM e (-2) else if nrF e.2.1 s = 0 then (if n ≤ e.2.1 2 s.toNatClampNeg then e else reM e (-2)) else nrM e s
theorem nbE_wt {e : M5} {t : Option Nat} {s n : Int32} : nbE (wt e t) s n = wt (nbM e s n) t := by
  unfold nbE nbM
  split
  · rfl
  · split
    · rfl
    · split
      · split <;> rfl
      · exact nrE_wt
theorem nb_0 {E : ME} {s n : Int32} (c : nbF E.2.1 s n = 0) : ¬ isInF s 0 7 = 0 ∧ ¬ isInF n 0 40 = 0 ∧ nrF E.2.1 s = 0 ∧ n ≤ E.2.1 2 s.toNatClampNeg ∧ nbE E s n = E := by
  unfold nbF at c
  unfold nbE
  by_cases h1 : isInF s 0 7 = 0
  · rw [if_pos h1] at c; exact absurd c (by decide)
  · rw [if_neg h1] at c ⊢
    by_cases h2 : isInF n 0 40 = 0
    · rw [if_pos h2] at c; exact absurd c (by decide)
    · rw [if_neg h2] at c ⊢
      by_cases h3 : nrF E.2.1 s = 0
      · rw [if_pos h3] at c ⊢
        by_cases h4 : n ≤ E.2.1 2 s.toNatClampNeg
        · rw [if_pos h4]; exact ⟨h1, h2, h3, h4, rfl⟩
        · rw [if_neg h4] at c; exact absurd c (by decide)
      · rw [if_neg h3] at c; exact absurd c h3
set_option maxRecDepth 100000 in
theorem s_X5_noBook {K : Kx} (w : Wd) (b sz : Nat) (v : CV) (E : ME) (s n : Int32)  : Sp K mX5_noBook 2 0 0 [.ref b, .int s, .int n] (putM K w b (v, E)) sz (Qi fun r w' sz' => r = (nbF E.2.1 s n) ∧ w' = putM K w b (v, nbE E s n) ∧ sz' = sz) := by
  refine Sp.ofN [some (.ref b), some (.int s), some (.int n), none] rfl rfl rfl (Nat.le_of_ble_eq_true rfl) ?_
  refine N.iload1 dX5_noBook_0 ?_
  refine N.i2l dX5_noBook_1 ?_
  refine N.lconst (v := 0) dX5_noBook_2 (by decide) ?_
  refine N.ldc2 dX5_noBook_3 ctX5_83 ?_
  refine N.si3 dX5_noBook_6 vX5_in lkX5_77 (s_X5_in _ _ _ _ _) rfl (Nat.le_of_ble_eq_true rfl) (Nat.le_of_ble_eq_true rfl) (Nat.zero_le _) (Nat.zero_le _) ?_
  rintro r1 _ _ ⟨er, rfl, rfl⟩
  obtain rfl := er.trans (inL_i (a := (0)) (b := (7)) rfl rfl)
  refine N.if_eq (tgt := 24) dX5_noBook_9 (by decide) (fun c9 => ?_) (fun c9 => ?_)
  · refine N.aload0 dX5_noBook_24 ?_
    refine N.bipush (v := -2) dX5_noBook_25 (by decide) ?_
    refine N.vi1 dX5_noBook_27 vX5_refuse lkX5_89 (s_X5_refuse _ _ _ _ _ _ rfIn2) mO rfl (Nat.le_of_ble_eq_true rfl) (Nat.le_of_ble_eq_true rfl) (Nat.zero_le _) (Nat.zero_le _) ?_
    rintro _ _ _ ⟨rfl, rfl, rfl⟩
    exact N.iret dX5_noBook_30 rfl (Nat.zero_le _) (Nat.zero_le _) ⟨_, rfl, ⟨(by rw [nbF, if_pos c9]), (by rw [nbE, if_pos c9]), rfl⟩⟩
  · refine N.iload2 dX5_noBook_12 ?_
    refine N.i2l dX5_noBook_13 ?_
    refine N.lconst (v := 0) dX5_noBook_14 (by decide) ?_
    refine N.ldc2 dX5_noBook_15 ctX5_87 ?_
    refine N.si3 dX5_noBook_18 vX5_in lkX5_77 (s_X5_in _ _ _ _ _) rfl (Nat.le_of_ble_eq_true rfl) (Nat.le_of_ble_eq_true rfl) (Nat.zero_le _) (Nat.zero_le _) ?_
    rintro r1 _ _ ⟨er, rfl, rfl⟩
    obtain rfl := er.trans (inL_i (a := (0)) (b := (40)) rfl rfl)
    refine N.if_ne (tgt := 31) dX5_noBook_21 (by decide) (fun c21 => ?_) (fun c21 => ?_)
    · refine N.aload0 dX5_noBook_31 ?_
      refine N.iload1 dX5_noBook_32 ?_
      refine N.vi1 dX5_noBook_33 vX5_noRow lkX5_93 (s_X5_noRow _ _ _ _ _ _) mO rfl (Nat.le_of_ble_eq_true rfl) (Nat.le_of_ble_eq_true rfl) (Nat.zero_le _) (Nat.zero_le _) ?_
      rintro _ _ _ ⟨rfl, rfl, rfl⟩
      refine N.istore3 dX5_noBook_36 rfl ?_
      refine N.iload3 dX5_noBook_37 ?_
      refine N.if_eq (tgt := 43) dX5_noBook_38 (by decide) (fun c38 => ?_) (fun c38 => ?_)
      · have en := (nr_0 c38).2
        refine N.eqW (congrArg (fun z_ => putM K w b (v, z_)) en) ?_
        refine N.aload0 dX5_noBook_43 ?_
        refine N.getf dX5_noBook_44 flX5_16 mO rfl ?_
        refine N.iload1 dX5_noBook_47 ?_
        refine N.iald dX5_noBook_48 mH2 (sh8v c9) ?_
        refine N.iload2 dX5_noBook_49 ?_
        refine N.icmp_ge (tgt := 62) dX5_noBook_50 (by decide) (fun c50 => ?_) (fun c50 => ?_)
        · refine N.iconst (v := 0) dX5_noBook_62 (by decide) ?_
          exact N.iret dX5_noBook_63 rfl (Nat.zero_le _) (Nat.zero_le _) ⟨_, rfl, ⟨(by rw [nbF, if_neg c9, if_neg c21, if_pos c38, if_pos c50]), (by rw [nbE, if_neg c9, if_neg c21, if_pos c38, if_pos c50]), rfl⟩⟩
        · refine N.aload0 dX5_noBook_53 ?_
          refine N.bipush (v := -2) dX5_noBook_54 (by decide) ?_
          refine N.vi1 dX5_noBook_56 vX5_refuse lkX5_89 (s_X5_refuse _ _ _ _ _ _ rfIn2) mO rfl (Nat.le_of_ble_eq_true rfl) (Nat.le_of_ble_eq_true rfl) (Nat.zero_le _) (Nat.zero_le _) ?_
          rintro _ _ _ ⟨rfl, rfl, rfl⟩
          refine N.goto (tgt := 63) dX5_noBook_59 (by decide) ?_
          exact N.iret dX5_noBook_63 rfl (Nat.zero_le _) (Nat.zero_le _) ⟨_, rfl, ⟨(by rw [nbF, if_neg c9, if_neg c21, if_pos c38, if_neg c50]), (by rw [nbE, if_neg c9, if_neg c21, if_pos c38, if_neg c50]), rfl⟩⟩
      · refine N.iload3 dX5_noBook_41 ?_
        exact N.iret dX5_noBook_42 rfl (Nat.zero_le _) (Nat.zero_le _) ⟨_, rfl, ⟨(by rw [nbF, if_neg c9, if_neg c21, if_neg c38]), (by rw [nbE, if_neg c9, if_neg c21, if_neg c38]), rfl⟩⟩
    · refine N.aload0 dX5_noBook_24 ?_
      refine N.bipush (v := -2) dX5_noBook_25 (by decide) ?_
      refine N.vi1 dX5_noBook_27 vX5_refuse lkX5_89 (s_X5_refuse _ _ _ _ _ _ rfIn2) mO rfl (Nat.le_of_ble_eq_true rfl) (Nat.le_of_ble_eq_true rfl) (Nat.zero_le _) (Nat.zero_le _) ?_
      rintro _ _ _ ⟨rfl, rfl, rfl⟩
      exact N.iret dX5_noBook_30 rfl (Nat.zero_le _) (Nat.zero_le _) ⟨_, rfl, ⟨(by rw [nbF, if_neg c9, if_pos c21]), (by rw [nbE, if_neg c9, if_pos c21]), rfl⟩⟩
def wiF (v : CV) (f : Nat → Int64) : Nat → Nat → Int32
  | 0, _ => -1
  | n + 1, k => if inL (f (nI k).toNatClampNeg) 0 3 = 0 then nI k else if v.2 4 (f (nI k).toNatClampNeg).toInt32.toNatClampNeg = 0 then nI k else wiF v f n (k + 1)
theorem inL_vp {x : Int64} (h : ¬ inL x 0 3 = 0) : vp_in x.toInt32 4 := by
  unfold inL at h
  by_cases h1 : lg_cmp x 0 < 0
  · rw [if_pos h1] at h; exact absurd rfl h
  · rw [if_neg h1] at h
    by_cases h2 : 0 < lg_cmp x 3
    · rw [if_pos h2] at h; exact absurd rfl h
    · have a1 : ¬ x < 0 := fun q => h1 ((lg_cmp_lt _ _).mpr q)
      have a2 : ¬ 3 < x := fun q => h2 ((lg_cmp_gt _ _).mpr q)
      rw [Int64.lt_iff_toInt_lt] at a1 a2
      have b1 : (0 : Int64).toInt = 0 := rfl
      have b2 : (3 : Int64).toInt = 3 := rfl
      rw [b1] at a1
      rw [b2] at a2
      rw [vp_in_iff, Int64.toInt_toInt32, Int.bmod_eq_of_le (by omega) (by omega)]
      omega
set_option maxRecDepth 100000 in
theorem l_X5_wrongIn {K : Kx} (w : Wd) (b sz : Nat) (v : CV) (E : ME) (i : Nat) (hs : i < 8) (n : Int32) (m : Nat) (hm : m ≤ 40) (hn : n = nI m) : ∀ nn k, k + nn = m → wiF v (E.2.2.1 i) nn k = wiF v (E.2.2.1 i) m 0 → N K mX5_wrongIn 2 0 0 (Qi fun r w' sz' => r = (wiF v (E.2.2.1 i) m 0) ∧ w' = putM K w b (v, E) ∧ sz' = sz) 2 [some (.ref b), some (.ref (b + (5 + i))), some (.int n), some (.int (nI k))] [] (putM K w b (v, E)) sz 0 0 := by
  intro nn
  induction nn with
  | zero =>
    intro k hk hR
    obtain rfl : k = m := by omega
    refine N.iload3 dX5_wrongIn_2 ?_
    refine N.iload2 dX5_wrongIn_3 ?_
    refine N.icmp_ge (tgt := 36) dX5_wrongIn_4 (by decide) (fun c4 => ?_) (fun c4 => absurd (pl_ge hn (by omega) (by omega)) c4)
    refine N.iconst (v := -1) dX5_wrongIn_36 (by decide) ?_
    exact N.iret dX5_wrongIn_37 rfl (Nat.zero_le _) (Nat.zero_le _) ⟨_, rfl, ⟨hR, rfl, rfl⟩⟩
  | succ nn ih =>
    intro k hk hR
    refine N.iload3 dX5_wrongIn_2 ?_
    refine N.iload2 dX5_wrongIn_3 ?_
    refine N.icmp_ge (tgt := 36) dX5_wrongIn_4 (by decide) (fun c4 => absurd c4 (by rw [hn]; exact nI_ge (by omega) (by omega))) (fun c4 => ?_)
    refine N.aload1 dX5_wrongIn_7 ?_
    refine N.iload3 dX5_wrongIn_8 ?_
    refine N.lald dX5_wrongIn_9 (mR hs) (in40 (by omega)) ?_
    refine N.si1 dX5_wrongIn_10 vX5_isLine lkX5_138 (s_X5_isLine _ _ _) rfl (Nat.le_of_ble_eq_true rfl) (Nat.le_of_ble_eq_true rfl) (Nat.zero_le _) (Nat.zero_le _) ?_
    rintro _ _ _ ⟨rfl, rfl, rfl⟩
    refine N.if_eq (tgt := 28) dX5_wrongIn_13 (by decide) (fun c13 => ?_) (fun c13 => ?_)
    · refine N.iload3 dX5_wrongIn_28 ?_
      exact N.iret dX5_wrongIn_29 rfl (Nat.zero_le _) (Nat.zero_le _) ⟨_, rfl, ⟨by rw [← hR, wiF, if_pos c13], rfl, rfl⟩⟩
    · refine N.aload0 dX5_wrongIn_16 ?_
      refine N.getf dX5_wrongIn_17 flX5_49 mO rfl ?_
      refine N.aload1 dX5_wrongIn_20 ?_
      refine N.iload3 dX5_wrongIn_21 ?_
      refine N.lald dX5_wrongIn_22 (mR hs) (in40 (by omega)) ?_
      refine N.l2i dX5_wrongIn_23 ?_
      refine N.iald dX5_wrongIn_24 mA4 (inL_vp c13) ?_
      refine N.if_ne (tgt := 30) dX5_wrongIn_25 (by decide) (fun c25 => ?_) (fun c25 => ?_)
      · refine N.iinc3 dX5_wrongIn_30 rfl (nI_inc _) ?_
        refine N.goto (tgt := 2) dX5_wrongIn_33 (by decide) ?_
        exact ih (k + 1) (by omega) (by rw [← hR, wiF, if_neg c13, if_neg c25])
      · refine N.iload3 dX5_wrongIn_28 ?_
        exact N.iret dX5_wrongIn_29 rfl (Nat.zero_le _) (Nat.zero_le _) ⟨_, rfl, ⟨by rw [← hR, wiF, if_neg c13, if_pos c25], rfl, rfl⟩⟩
set_option maxRecDepth 100000 in
theorem s_X5_wrongIn {K : Kx} (w : Wd) (b sz : Nat) (v : CV) (E : ME) (i : Nat) (hs : i < 8) (n : Int32) (m : Nat) (hm : m ≤ 40) (hn : n = nI m) : Sp K mX5_wrongIn 2 0 0 [.ref b, .ref (b + (5 + i)), .int n] (putM K w b (v, E)) sz (Qi fun r w' sz' => r = (wiF v (E.2.2.1 i) m 0) ∧ w' = putM K w b (v, E) ∧ sz' = sz) := by
  refine Sp.ofN [some (.ref b), some (.ref (b + (5 + i))), some (.int n), none] rfl rfl rfl (Nat.le_of_ble_eq_true rfl) ?_
  refine N.iconst (v := 0) dX5_wrongIn_0 (by decide) ?_
  refine N.istore3 dX5_wrongIn_1 rfl ?_
  exact N.wk (by exact ⟨rfl, rfl, rfl, rfl, trivial⟩) (l_X5_wrongIn w b _ v E i hs n m hm hn m 0 (by omega) rfl)
def mjudge (m : Mst) (s n : Int32) : Int32 × Mst := if nbF m.2.2.1 s n = 0 then (wiF m.1 (m.2.2.2.1 s.toNatClampNeg) n.toNatClampNeg 0, m) else (nbF m.2.2.1 s n, m.1, nbM m.2 s n)
set_option maxRecDepth 100000 in
theorem s_X5_judge {K : Kx} (w : Wd) (b sz : Nat) (v : CV) (e : M5) (t : Option Nat) (z : MX) (s : Int32) (n : Int32) (ht : tOk G b sz t) (hM : okM (v, e)) : Sp K mX5_judge 9 (kc t) (ks t) [.ref b, .int s, .int n] (putM K (tw K w t z) b (v, wt e t)) sz (Qi fun r w' sz' => r = (mjudge (v, e) s n).1 ∧ ∃ t' z', w' = putM K (tw K w t' z') b ((mjudge (v, e) s n).2.1, wt (mjudge (v, e) s n).2.2 t') ∧ tOk G b sz' t' ∧ sz ≤ sz') := by
  refine Sp.ofN [some (.ref b), some (.int s), some (.int n), none] rfl rfl rfl (Nat.le_of_ble_eq_true rfl) ?_
  have h : okP v := hM.1
  refine N.aload0 dX5_judge_0 ?_
  refine N.iload1 dX5_judge_1 ?_
  refine N.iload2 dX5_judge_2 ?_
  refine N.vi2 dX5_judge_3 vX5_noBook lkX5_367 (s_X5_noBook _ _ _ _ _ _ _) mO rfl (Nat.le_of_ble_eq_true rfl) (Nat.le_of_ble_eq_true rfl) (Nat.zero_le _) (Nat.zero_le _) ?_
  rintro _ _ _ ⟨rfl, rfl, rfl⟩
  refine N.istore3 dX5_judge_6 rfl ?_
  refine N.iload3 dX5_judge_7 ?_
  refine N.if_eq (tgt := 15) dX5_judge_8 (by decide) (fun c8 => ?_) (fun c8 => ?_)
  · obtain ⟨hs0, hn0, hr0, hle, en⟩ := nb_0 c8
    refine N.eqW (congrArg (fun z_ => putM K (tw K w t z) b (v, z_)) en) ?_
    have hs := sh8 hs0
    obtain ⟨m, hm, hn⟩ := in_n (N' := 40) (by decide) hn0
    refine N.aload0 dX5_judge_15 ?_
    refine N.aload0 dX5_judge_16 ?_
    refine N.getf dX5_judge_17 flX5_21 mO rfl ?_
    refine N.iload1 dX5_judge_20 ?_
    refine N.aaldA dX5_judge_21 mW (sh8v hs0) (mRv hs) ?_
    refine N.iload2 dX5_judge_22 ?_
    refine N.vi2 dX5_judge_23 vX5_wrongIn lkX5_370 (s_X5_wrongIn _ _ _ _ _ _ hs _ m hm hn) mO rfl (Nat.le_of_ble_eq_true rfl) (Nat.le_of_ble_eq_true rfl) (Nat.zero_le _) (Nat.zero_le _) ?_
    rintro _ _ _ ⟨rfl, rfl, rfl⟩
    exact N.iret dX5_judge_26 rfl (Nat.zero_le _) (Nat.zero_le _) ⟨_, rfl, (by rw [mjudge, if_pos (show nbF e.2.1 s n = 0 from c8), show n.toNatClampNeg = m by rw [hn, nI_clamp (by omega)]]; exact ⟨rfl, t, z, rfl, ht, Nat.le_refl _⟩)⟩
  · refine N.iload3 dX5_judge_11 ?_
    refine N.goto (tgt := 26) dX5_judge_12 (by decide) ?_
    exact N.iret dX5_judge_26 rfl (Nat.zero_le _) (Nat.zero_le _) ⟨_, rfl, (by rw [mjudge, if_neg (show ¬ nbF e.2.1 s n = 0 from c8)]; exact ⟨rfl, t, z, by rw [nbE_wt], ht, Nat.le_refl _⟩)⟩
def txTo (u : CV) : Nat → Int32
  | 0 => 0
  | k + 1 => if u.2 3 (nI (k + 1)).toNatClampNeg ≤ u.2 3 (txTo u k).toNatClampNeg then txTo u k else nI (k + 1)
theorem tx_in {u : CV} : ∀ {k}, k ≤ 9 → vp_in (txTo u k) 10
  | 0, _ => in10 (k := 0) (by decide)
  | k + 1, h => by
    rw [txTo]
    split
    · exact tx_in (by omega)
    · exact in10 (by omega)
set_option maxRecDepth 100000 in
theorem l_X5_tiredest {K : Kx} (w : Wd) (b sz : Nat) (v : CV) (E : ME) (mc ms : Nat) (n : Int32) (q : Nat) (hd : apG G q b) (u : CV) (E2 : ME) (cc ss : Nat) (hcc : cc ≤ mc) (hss : ss ≤ ms) (P0 : Nat) (hP0 : P0 + 1 ≤ 10) (e0 : v.1 0 = nI (P0 + 1)) (P : Int32 → Wd → Nat → Prop) (hP : P (txTo u P0) (putM K (putM K w q (u, E2)) b (v, E)) sz) : ∀ nn k, k + nn = P0 → N K mX5_tiredest 9 mc ms (Qi P) 49 [some (.ref b), some (.int n), some (.ref q), some (.int (txTo u k)), some (.int (nI (k + 1)))] [] (putM K (putM K w q (u, E2)) b (v, E)) sz cc ss := by
  intro nn
  induction nn with
  | zero =>
    intro k hk
    obtain rfl : k = P0 := by omega
    refine N.iload4 dX5_tiredest_49 ?_
    refine N.aload0 dX5_tiredest_51 ?_
    refine N.getf dX5_tiredest_52 flX5_74 mO rfl ?_
    refine N.icmp_ge (tgt := 87) dX5_tiredest_55 (by decide) (fun c55 => ?_) (fun c55 => absurd (pl_ge e0 (by omega) (by omega)) c55)
    refine N.iload3 dX5_tiredest_87 ?_
    exact N.iret dX5_tiredest_88 rfl (by omega) (by omega) ⟨_, rfl, hP⟩
  | succ nn ih =>
    intro k hk
    refine N.iload4 dX5_tiredest_49 ?_
    refine N.aload0 dX5_tiredest_51 ?_
    refine N.getf dX5_tiredest_52 flX5_74 mO rfl ?_
    refine N.icmp_ge (tgt := 87) dX5_tiredest_55 (by decide) (fun c55 => absurd c55 (pl_nge e0 (by omega) (by omega))) (fun c55 => ?_)
    refine N.aload2 dX5_tiredest_58 ?_
    refine N.getf dX5_tiredest_59 flX5_46 (tO hd) rfl ?_
    refine N.iload4 dX5_tiredest_62 ?_
    refine N.iald dX5_tiredest_64 (tA3 hd) (in10 (by omega)) ?_
    refine N.aload2 dX5_tiredest_65 ?_
    refine N.getf dX5_tiredest_66 flX5_46 (tO hd) rfl ?_
    refine N.iload3 dX5_tiredest_69 ?_
    refine N.iald dX5_tiredest_70 (tA3 hd) (tx_in (by omega)) ?_
    refine N.icmp_le (tgt := 79) dX5_tiredest_71 (by decide) (fun c71 => ?_) (fun c71 => ?_)
    · refine N.iload3 dX5_tiredest_79 ?_
      refine N.istore3 dX5_tiredest_80 rfl ?_
      refine N.iinc4 dX5_tiredest_81 rfl (nI_inc _) ?_
      refine N.goto (tgt := 49) dX5_tiredest_84 (by decide) ?_
      exact N.wk (by rw [txTo, if_pos c71]; exact ⟨rfl, rfl, rfl, rfl, rfl, trivial⟩) (ih (k + 1) (by omega))
    · refine N.iload4 dX5_tiredest_74 ?_
      refine N.goto (tgt := 80) dX5_tiredest_76 (by decide) ?_
      refine N.istore3 dX5_tiredest_80 rfl ?_
      refine N.iinc4 dX5_tiredest_81 rfl (nI_inc _) ?_
      refine N.goto (tgt := 49) dX5_tiredest_84 (by decide) ?_
      exact N.wk (by rw [txTo, if_neg c71]; exact ⟨rfl, rfl, rfl, rfl, rfl, trivial⟩) (ih (k + 1) (by omega))
def mtrd (m : Mst) (n : Int32) : Int32 × Mst := if isInF n 0 600 = 0 then rm m (-2) else if m.1.1 0 = 0 then rm m (-5) else (txTo (goV m.1 n) (np m.1 - 1), m)
set_option maxRecDepth 100000 in
theorem s_X5_tiredest {K : Kx} (w : Wd) (b sz : Nat) (v : CV) (e : M5) (t : Option Nat) (z : MX) (n : Int32) (ht : tOk G b sz t) (hM : okM (v, e)) : Sp K mX5_tiredest 9 (kc t) (ks t) [.ref b, .int n] (putM K (tw K w t z) b (v, wt e t)) sz (Qi fun r w' sz' => r = (mtrd (v, e) n).1 ∧ ∃ t' z', w' = putM K (tw K w t' z') b ((mtrd (v, e) n).2.1, wt (mtrd (v, e) n).2.2 t') ∧ tOk G b sz' t' ∧ sz ≤ sz') := by
  refine Sp.ofN [some (.ref b), some (.int n), none, none, none] rfl rfl rfl (Nat.le_of_ble_eq_true rfl) ?_
  have h : okP v := hM.1
  refine N.iload1 dX5_tiredest_0 ?_
  refine N.i2l dX5_tiredest_1 ?_
  refine N.lconst (v := 0) dX5_tiredest_2 (by decide) ?_
  refine N.ldc2 dX5_tiredest_3 ctX5_314 ?_
  refine N.si3 dX5_tiredest_6 vX5_in lkX5_77 (s_X5_in _ _ _ _ _) rfl (Nat.le_of_ble_eq_true rfl) (Nat.le_of_ble_eq_true rfl) (by omega) (by omega) ?_
  rintro r1 _ _ ⟨er, rfl, rfl⟩
  obtain rfl := er.trans (inL_i (a := (0)) (b := (600)) rfl rfl)
  refine N.if_ne (tgt := 19) dX5_tiredest_9 (by decide) (fun c9 => ?_) (fun c9 => ?_)
  · refine N.aload0 dX5_tiredest_19 ?_
    refine N.getf dX5_tiredest_20 flX5_74 mO rfl ?_
    refine N.if_ne (tgt := 33) dX5_tiredest_23 (by decide) (fun c23 => ?_) (fun c23 => ?_)
    · obtain ⟨m, hm, hn⟩ := in_n (N' := 600) (by decide) c9
      refine N.aload0 dX5_tiredest_33 ?_
      refine N.va0A dX5_tiredest_34 vX5_fresh lkX5_248 (s_X5_fresh w b _ v e t z ht) mO rfl (Nat.le_of_ble_eq_true rfl) (Nat.le_of_ble_eq_true rfl) (by omega) (by omega) ?_
      rintro q _ sz2 ⟨z2, rfl, hd, hz⟩
      refine N.astore2 dX5_tiredest_37 rfl ?_
      refine N.aload2 dX5_tiredest_38 ?_
      refine N.iload1 dX5_tiredest_39 ?_
      refine N.vi1 dX5_tiredest_40 vX5_goes lkX5_316 (Sp.mi hd fun W => s_X5_goes W _ _ _ _ _ (h) m hm hn) (tO hd) rfl (Nat.le_of_ble_eq_true rfl) (Nat.le_of_ble_eq_true rfl) (by omega) (by omega) ?_
      rintro _ _ _ ⟨rfl, rfl, rfl⟩
      refine N.pop dX5_tiredest_43 rfl ?_
      refine N.iconst (v := 0) dX5_tiredest_44 (by decide) ?_
      refine N.istore3 dX5_tiredest_45 rfl ?_
      refine N.iconst (v := 1) dX5_tiredest_46 (by decide) ?_
      refine N.istore4 dX5_tiredest_47 rfl ?_
      obtain ⟨P0, hP0, e0, e1⟩ := np_ex h
      cases P0 with
      | zero => exact absurd e0 c23
      | succ P0 => exact N.wk (by exact ⟨rfl, rfl, rfl, rfl, rfl, trivial⟩) (l_X5_tiredest w b _ v (wt e (some q)) _ _ n q hd _ _ _ _ (by omega) (by omega) P0 hP0 e0 _ (mq_ok ht hd hz (by rw [mtrd, if_neg c9, if_neg c23, e1, Nat.add_sub_cancel])) P0 0 (by omega))
    · refine N.aload0 dX5_tiredest_26 ?_
      refine N.bipush (v := -5) dX5_tiredest_27 (by decide) ?_
      refine N.vi1 dX5_tiredest_29 vX5_refuse lkX5_89 (s_X5_refuse _ _ _ _ _ _ rfIn5) mO rfl (Nat.le_of_ble_eq_true rfl) (Nat.le_of_ble_eq_true rfl) (by omega) (by omega) ?_
      rintro _ _ _ ⟨rfl, rfl, rfl⟩
      exact N.iret dX5_tiredest_32 rfl (by omega) (by omega) ⟨_, rfl, (by rw [mtrd, if_neg c9, if_pos c23]; exact rmf_ok ht)⟩
  · refine N.aload0 dX5_tiredest_12 ?_
    refine N.bipush (v := -2) dX5_tiredest_13 (by decide) ?_
    refine N.vi1 dX5_tiredest_15 vX5_refuse lkX5_89 (s_X5_refuse _ _ _ _ _ _ rfIn2) mO rfl (Nat.le_of_ble_eq_true rfl) (Nat.le_of_ble_eq_true rfl) (by omega) (by omega) ?_
    rintro _ _ _ ⟨rfl, rfl, rfl⟩
    exact N.iret dX5_tiredest_18 rfl (by omega) (by omega) ⟨_, rfl, (by rw [mtrd, if_pos c9]; exact rmf_ok ht)⟩
