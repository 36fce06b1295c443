variable {G : Nat → Prop}
def nrF (A : Nat → Nat → Int32) (s : Int32) : Int32 := if isInF s 0 7 = 0 then -2 else if A 0 s.toNatClampNeg = 2 then -3 else if A 0 s.toNatClampNeg = 0 then -4 else 0
def nrE (E : ME) (s : Int32) : ME := if isInF s 0 7 = 0 then reE E (-2) else if E.2.1 0 s.toNatClampNeg = 2 then reE E (-3) else if E.2.1 0 s.toNatClampNeg = 0 then reE E (-4) else E
def nrM (e : M5) (s : Int32) : M5 := if isInF s 0 7 = 0 then reM e (-2) else if e.2.1 0 s.toNatClampNeg = 2 then reM e (-3) else if e.2.1 0 s.toNatClampNeg = 0 then reM e (-4) else e
theorem nrE_wt {e : M5} {t : Option Nat} {s : Int32} : nrE (wt e t) s = wt (nrM e s) t := by
  unfold nrE nrM
  split
  · rfl
  · split
    · rfl
    · split <;> rfl
theorem nr_0 {E : ME} {s : Int32} (c : nrF E.2.1 s = 0) : ¬ isInF s 0 7 = 0 ∧ nrE E s = E := by
  unfold nrF at c
  unfold nrE
  by_cases h1 : isInF s 0 7 = 0
  · rw [if_pos h1] at c; exact absurd c (by decide)
  · rw [if_neg h1] at c ⊢
    by_cases h2 : E.2.1 0 s.toNatClampNeg = 2
    · rw [if_pos h2] at c; exact absurd c (by decide)
    · rw [if_neg h2] at c ⊢
      by_cases h3 : E.2.1 0 s.toNatClampNeg = 0
      · rw [if_pos h3] at c; exact absurd c (by decide)
      · rw [if_neg h3]; exact ⟨h1, rfl⟩
def fitM (c : Int32) (x : Int64) : Int64 := if c = 0 then x.toInt32.toInt8.toInt32.toInt64 else if c = 1 then x.toInt32.toInt16.toInt32.toInt64 else if c = 2 then x.toInt32.toInt64 else if c = 3 then x else (if lg_cmp x 0 = 0 then 0 else 1)
def askM (x y : Int32) : Int32 := if x = 0 then isInF y 0 2 else if x = 1 then isInF y 0 1 else if x = 3 then isInF y 0 1 else if x = 2 then (if isInF y 1 999 = 0 then 0 else 1) else 0
def becM (v : CV) (x y : Int32) : CV := (upd (upd (upd (upd v.1 4 (if x = 0 then y else v.1 4)) 5 (if x = 1 then y else v.1 5)) 6 (if x = 2 then y else v.1 6)) 7 (if x = 3 then y else v.1 7), v.2)
set_option maxRecDepth 100000 in
theorem s_X5_noRow {K : Kx} (w : Wd) (b sz : Nat) (v : CV) (E : ME) (s : Int32)  : Sp K mX5_noRow 1 0 0 [.ref b, .int s] (putM K w b (v, E)) sz (Qi fun r w' sz' => r = (nrF E.2.1 s) ∧ w' = putM K w b (v, nrE E s) ∧ sz' = sz) := by
  refine Sp.ofN [some (.ref b), some (.int s)] rfl rfl rfl (Nat.le_of_ble_eq_true rfl) ?_
  refine N.iload1 dX5_noRow_0 ?_
  refine N.i2l dX5_noRow_1 ?_
  refine N.lconst (v := 0) dX5_noRow_2 (by decide) ?_
  refine N.ldc2 dX5_noRow_3 ctX5_83 ?_
  refine N.si3 dX5_noRow_6 vX5_in lkX5_77 (s_X5_in _ _ _ _ _) rfl (Nat.le_of_ble_eq_true rfl) (Nat.le_of_ble_eq_true rfl) (Nat.zero_le _) (Nat.zero_le _) ?_
  rintro r1 _ _ ⟨er, rfl, rfl⟩
  obtain rfl := er.trans (inL_i (a := (0)) (b := (7)) rfl rfl)
  refine N.if_ne (tgt := 19) dX5_noRow_9 (by decide) (fun c9 => ?_) (fun c9 => ?_)
  · refine N.aload0 dX5_noRow_19 ?_
    refine N.getf dX5_noRow_20 flX5_7 mO rfl ?_
    refine N.iload1 dX5_noRow_23 ?_
    refine N.iald dX5_noRow_24 mH0 (sh8v c9) ?_
    refine N.iconst (v := 2) dX5_noRow_25 (by decide) ?_
    refine N.icmp_ne (tgt := 36) dX5_noRow_26 (by decide) (fun c26 => ?_) (fun c26 => ?_)
    · refine N.aload0 dX5_noRow_36 ?_
      refine N.getf dX5_noRow_37 flX5_7 mO rfl ?_
      refine N.iload1 dX5_noRow_40 ?_
      refine N.iald dX5_noRow_41 mH0 (sh8v c9) ?_
      refine N.if_ne (tgt := 54) dX5_noRow_42 (by decide) (fun c42 => ?_) (fun c42 => ?_)
      · refine N.iconst (v := 0) dX5_noRow_54 (by decide) ?_
        exact N.iret dX5_noRow_55 rfl (Nat.zero_le _) (Nat.zero_le _) ⟨_, rfl, ⟨by rw [nrF, if_neg c9, if_neg c26, if_neg c42], by rw [nrE, if_neg c9, if_neg c26, if_neg c42], rfl⟩⟩
      · refine N.aload0 dX5_noRow_45 ?_
        refine N.bipush (v := -4) dX5_noRow_46 (by decide) ?_
        refine N.vi1 dX5_noRow_48 vX5_refuse lkX5_89 (s_X5_refuse _ _ _ _ _ _ rfIn4) mO rfl (Nat.le_of_ble_eq_true rfl) (Nat.le_of_ble_eq_true rfl) (Nat.zero_le _) (Nat.zero_le _) ?_
        rintro _ _ _ ⟨rfl, rfl, rfl⟩
        refine N.goto (tgt := 55) dX5_noRow_51 (by decide) ?_
        exact N.iret dX5_noRow_55 rfl (Nat.zero_le _) (Nat.zero_le _) ⟨_, rfl, ⟨by rw [nrF, if_neg c9, if_neg c26, if_pos c42], by rw [nrE, if_neg c9, if_neg c26, if_pos c42], rfl⟩⟩
    · refine N.aload0 dX5_noRow_29 ?_
      refine N.bipush (v := -3) dX5_noRow_30 (by decide) ?_
      refine N.vi1 dX5_noRow_32 vX5_refuse lkX5_89 (s_X5_refuse _ _ _ _ _ _ rfIn3) mO rfl (Nat.le_of_ble_eq_true rfl) (Nat.le_of_ble_eq_true rfl) (Nat.zero_le _) (Nat.zero_le _) ?_
      rintro _ _ _ ⟨rfl, rfl, rfl⟩
      exact N.iret dX5_noRow_35 rfl (Nat.zero_le _) (Nat.zero_le _) ⟨_, rfl, ⟨by rw [nrF, if_neg c9, if_pos c26], by rw [nrE, if_neg c9, if_pos c26], rfl⟩⟩
  · refine N.aload0 dX5_noRow_12 ?_
    refine N.bipush (v := -2) dX5_noRow_13 (by decide) ?_
    refine N.vi1 dX5_noRow_15 vX5_refuse lkX5_89 (s_X5_refuse _ _ _ _ _ _ rfIn2) mO rfl (Nat.le_of_ble_eq_true rfl) (Nat.le_of_ble_eq_true rfl) (Nat.zero_le _) (Nat.zero_le _) ?_
    rintro _ _ _ ⟨rfl, rfl, rfl⟩
    exact N.iret dX5_noRow_18 rfl (Nat.zero_le _) (Nat.zero_le _) ⟨_, rfl, ⟨by rw [nrF, if_pos c9], by rw [nrE, if_pos c9], rfl⟩⟩
set_option maxRecDepth 100000 in
theorem s_X5_fit {K : Kx} (c : Int32) (x : Int64) (w : Wd) (sz : Nat) : Sp K mX5_fit 0 0 0 [.int c, .long x] w sz (Ql fun r w' sz' => r = fitM c x ∧ w' = w ∧ sz' = sz) := by
  refine Sp.ofN [some (.int c), some (.long x), none] rfl rfl rfl (Nat.le_of_ble_eq_true rfl) ?_
  refine N.iload0 dX5_fit_0 ?_
  refine N.swc 0 (fun t1_0 => ?_) (fun t1_0 => ?_)
  · refine N.tsIn (off := 31) (tgt := 32) 0 t1_0 dX5_fit_1 (by decide) (by decide) (by decide) (by decide) ?_
    refine N.lload1 dX5_fit_32 ?_
    refine N.l2i dX5_fit_33 ?_
    refine N.i2b dX5_fit_34 ?_
    refine N.i2l dX5_fit_35 ?_
    exact N.lret dX5_fit_36 rfl (Nat.zero_le _) (Nat.zero_le _) ⟨_, rfl, ⟨(by first | (simp only [fitM, t1_0, ↓reduceIte]; done) | (simp_all [fitM]; done)), rfl, rfl⟩⟩
  refine N.swc 1 (fun t1_1 => ?_) (fun t1_1 => ?_)
  · refine N.tsIn (off := 36) (tgt := 37) 1 t1_1 dX5_fit_1 (by decide) (by decide) (by decide) (by decide) ?_
    refine N.lload1 dX5_fit_37 ?_
    refine N.l2i dX5_fit_38 ?_
    refine N.i2s dX5_fit_39 ?_
    refine N.i2l dX5_fit_40 ?_
    exact N.lret dX5_fit_41 rfl (Nat.zero_le _) (Nat.zero_le _) ⟨_, rfl, ⟨(by first | (simp only [fitM, t1_0, t1_1, ↓reduceIte]; done) | (simp_all [fitM]; done)), rfl, rfl⟩⟩
  refine N.swc 2 (fun t1_2 => ?_) (fun t1_2 => ?_)
  · refine N.tsIn (off := 41) (tgt := 42) 2 t1_2 dX5_fit_1 (by decide) (by decide) (by decide) (by decide) ?_
    refine N.lload1 dX5_fit_42 ?_
    refine N.l2i dX5_fit_43 ?_
    refine N.i2l dX5_fit_44 ?_
    exact N.lret dX5_fit_45 rfl (Nat.zero_le _) (Nat.zero_le _) ⟨_, rfl, ⟨(by first | (simp only [fitM, t1_0, t1_1, t1_2, ↓reduceIte]; done) | (simp_all [fitM]; done)), rfl, rfl⟩⟩
  refine N.swc 3 (fun t1_3 => ?_) (fun t1_3 => ?_)
  · refine N.tsIn (off := 45) (tgt := 46) 3 t1_3 dX5_fit_1 (by decide) (by decide) (by decide) (by decide) ?_
    refine N.lload1 dX5_fit_46 ?_
    exact N.lret dX5_fit_47 rfl (Nat.zero_le _) (Nat.zero_le _) ⟨_, rfl, ⟨(by first | (simp only [fitM, t1_0, t1_1, t1_2, t1_3, ↓reduceIte]; done) | (simp_all [fitM]; done)), rfl, rfl⟩⟩
  refine N.tsOut (tgt := 48) dX5_fit_1 (by have h0 := sw_ne t1_0 (z := 0) (by decide); have h1 := sw_ne t1_1 (z := 1) (by decide); have h2 := sw_ne t1_2 (z := 2) (by decide); have h3 := sw_ne t1_3 (z := 3) (by decide); omega) (by decide) ?_
  refine N.lload1 dX5_fit_48 ?_
  refine N.lconst (v := 0) dX5_fit_49 (by decide) ?_
  refine N.lcmp dX5_fit_50 ?_
  refine N.if_eq (tgt := 58) dX5_fit_51 (by decide) (fun c51 => ?_) (fun c51 => ?_)
  · refine N.lconst (v := 0) dX5_fit_58 (by decide) ?_
    exact N.lret dX5_fit_59 rfl (Nat.zero_le _) (Nat.zero_le _) ⟨_, rfl, ⟨(by first | (simp only [fitM, t1_0, t1_1, t1_2, t1_3, c51, ↓reduceIte]; done) | (simp_all [fitM]; done)), rfl, rfl⟩⟩
  · refine N.lconst (v := 1) dX5_fit_54 (by decide) ?_
    refine N.goto (tgt := 59) dX5_fit_55 (by decide) ?_
    exact N.lret dX5_fit_59 rfl (Nat.zero_le _) (Nat.zero_le _) ⟨_, rfl, ⟨(by first | (simp only [fitM, t1_0, t1_1, t1_2, t1_3, c51, ↓reduceIte]; done) | (simp_all [fitM]; done)), rfl, rfl⟩⟩
set_option maxRecDepth 100000 in
theorem s_X5_mayAsk {K : Kx} (x y : Int32) (w : Wd) (sz : Nat) : Sp K mX5_mayAsk 1 0 0 [.int x, .int y] w sz (Qi fun r w' sz' => r = askM x y ∧ w' = w ∧ sz' = sz) := by
  refine Sp.ofN [some (.int x), some (.int y)] rfl rfl rfl (Nat.le_of_ble_eq_true rfl) ?_
  refine N.iload0 dX5_mayAsk_0 ?_
  refine N.swc 0 (fun t1_0 => ?_) (fun t1_0 => ?_)
  · refine N.tsIn (off := 31) (tgt := 32) 0 t1_0 dX5_mayAsk_1 (by decide) (by decide) (by decide) (by decide) ?_
    refine N.iload1 dX5_mayAsk_32 ?_
    refine N.i2l dX5_mayAsk_33 ?_
    refine N.lconst (v := 0) dX5_mayAsk_34 (by decide) ?_
    refine N.ldc2 dX5_mayAsk_35 ctX5_142 ?_
    refine N.si3 dX5_mayAsk_38 vX5_in lkX5_77 (s_X5_in _ _ _ _ _) rfl (Nat.le_of_ble_eq_true rfl) (Nat.le_of_ble_eq_true rfl) (Nat.zero_le _) (Nat.zero_le _) ?_
    rintro r1 _ _ ⟨er, rfl, rfl⟩
    obtain rfl := er.trans (inL_i (a := (0)) (b := (2)) rfl rfl)
    exact N.zret dX5_mayAsk_41 rfl (isIn_nar _ _ _) (Nat.zero_le _) (Nat.zero_le _) ⟨_, rfl, ⟨(by first | (simp only [askM, t1_0, ↓reduceIte]; done) | (simp_all [askM]; done)), rfl, rfl⟩⟩
  refine N.swc 1 (fun t1_1 => ?_) (fun t1_1 => ?_)
  · refine N.tsIn (off := 41) (tgt := 42) 1 t1_1 dX5_mayAsk_1 (by decide) (by decide) (by decide) (by decide) ?_
    refine N.iload1 dX5_mayAsk_42 ?_
    refine N.i2l dX5_mayAsk_43 ?_
    refine N.lconst (v := 0) dX5_mayAsk_44 (by decide) ?_
    refine N.lconst (v := 1) dX5_mayAsk_45 (by decide) ?_
    refine N.si3 dX5_mayAsk_46 vX5_in lkX5_77 (s_X5_in _ _ _ _ _) rfl (Nat.le_of_ble_eq_true rfl) (Nat.le_of_ble_eq_true rfl) (Nat.zero_le _) (Nat.zero_le _) ?_
    rintro r1 _ _ ⟨er, rfl, rfl⟩
    obtain rfl := er.trans (inL_i (a := (0)) (b := (1)) rfl rfl)
    exact N.zret dX5_mayAsk_49 rfl (isIn_nar _ _ _) (Nat.zero_le _) (Nat.zero_le _) ⟨_, rfl, ⟨(by first | (simp only [askM, t1_0, t1_1, ↓reduceIte]; done) | (simp_all [askM]; done)), rfl, rfl⟩⟩
  refine N.swc 2 (fun t1_2 => ?_) (fun t1_2 => ?_)
  · refine N.tsIn (off := 49) (tgt := 50) 2 t1_2 dX5_mayAsk_1 (by decide) (by decide) (by decide) (by decide) ?_
    refine N.iload0 dX5_mayAsk_50 ?_
    refine N.iconst (v := 2) dX5_mayAsk_51 (by decide) ?_
    refine N.icmp_ne (tgt := 71) dX5_mayAsk_52 (by decide) (fun c52 => absurd t1_2 c52) (fun c52 => ?_)
    refine N.iload1 dX5_mayAsk_55 ?_
    refine N.i2l dX5_mayAsk_56 ?_
    refine N.lconst (v := 1) dX5_mayAsk_57 (by decide) ?_
    refine N.ldc2 dX5_mayAsk_58 ctX5_144 ?_
    refine N.si3 dX5_mayAsk_61 vX5_in lkX5_77 (s_X5_in _ _ _ _ _) rfl (Nat.le_of_ble_eq_true rfl) (Nat.le_of_ble_eq_true rfl) (Nat.zero_le _) (Nat.zero_le _) ?_
    rintro r1 _ _ ⟨er, rfl, rfl⟩
    obtain rfl := er.trans (inL_i (a := (1)) (b := (999)) rfl rfl)
    refine N.if_eq (tgt := 71) dX5_mayAsk_64 (by decide) (fun c64 => ?_) (fun c64 => ?_)
    · refine N.iconst (v := 0) dX5_mayAsk_71 (by decide) ?_
      exact N.zret dX5_mayAsk_72 rfl rfl (Nat.zero_le _) (Nat.zero_le _) ⟨_, rfl, ⟨(by rw [askM, if_neg t1_0, if_neg t1_1, if_neg (fun q => absurd (t1_2.symm.trans q) (by decide)), if_pos t1_2, if_pos c64]), rfl, rfl⟩⟩
    · refine N.iconst (v := 1) dX5_mayAsk_67 (by decide) ?_
      refine N.goto (tgt := 72) dX5_mayAsk_68 (by decide) ?_
      exact N.zret dX5_mayAsk_72 rfl rfl (Nat.zero_le _) (Nat.zero_le _) ⟨_, rfl, ⟨(by rw [askM, if_neg t1_0, if_neg t1_1, if_neg (fun q => absurd (t1_2.symm.trans q) (by decide)), if_pos t1_2, if_neg c64]), rfl, rfl⟩⟩
  refine N.swc 3 (fun t1_3 => ?_) (fun t1_3 => ?_)
  · refine N.tsIn (off := 41) (tgt := 42) 3 t1_3 dX5_mayAsk_1 (by decide) (by decide) (by decide) (by decide) ?_
    refine N.iload1 dX5_mayAsk_42 ?_
    refine N.i2l dX5_mayAsk_43 ?_
    refine N.lconst (v := 0) dX5_mayAsk_44 (by decide) ?_
    refine N.lconst (v := 1) dX5_mayAsk_45 (by decide) ?_
    refine N.si3 dX5_mayAsk_46 vX5_in lkX5_77 (s_X5_in _ _ _ _ _) rfl (Nat.le_of_ble_eq_true rfl) (Nat.le_of_ble_eq_true rfl) (Nat.zero_le _) (Nat.zero_le _) ?_
    rintro r1 _ _ ⟨er, rfl, rfl⟩
    obtain rfl := er.trans (inL_i (a := (0)) (b := (1)) rfl rfl)
    exact N.zret dX5_mayAsk_49 rfl (isIn_nar _ _ _) (Nat.zero_le _) (Nat.zero_le _) ⟨_, rfl, ⟨(by first | (simp only [askM, t1_0, t1_1, t1_2, t1_3, ↓reduceIte]; done) | (simp_all [askM]; done)), rfl, rfl⟩⟩
  refine N.tsOut (tgt := 50) dX5_mayAsk_1 (by have h0 := sw_ne t1_0 (z := 0) (by decide); have h1 := sw_ne t1_1 (z := 1) (by decide); have h2 := sw_ne t1_2 (z := 2) (by decide); have h3 := sw_ne t1_3 (z := 3) (by decide); omega) (by decide) ?_
  refine N.iload0 dX5_mayAsk_50 ?_
  refine N.iconst (v := 2) dX5_mayAsk_51 (by decide) ?_
  refine N.icmp_ne (tgt := 71) dX5_mayAsk_52 (by decide) (fun c52 => ?_) (fun c52 => absurd c52 t1_2)
  refine N.iconst (v := 0) dX5_mayAsk_71 (by decide) ?_
  exact N.zret dX5_mayAsk_72 rfl rfl (Nat.zero_le _) (Nat.zero_le _) ⟨_, rfl, ⟨(by rw [askM, if_neg t1_0, if_neg t1_1, if_neg t1_3, if_neg t1_2]), rfl, rfl⟩⟩
set_option maxRecDepth 100000 in
theorem s_X5_becomes {K : Kx} (w : Wd) (b sz : Nat) (v : CV) (E : ME) (x y : Int32)  : Sp K mX5_becomes 0 0 0 [.ref b, .int x, .int y] (putM K w b (v, E)) sz (Qv fun w' sz' => w' = putM K w b (becM v x y, E) ∧ sz' = sz) := by
  refine Sp.ofN [some (.ref b), some (.int x), some (.int y)] rfl rfl rfl (Nat.le_of_ble_eq_true rfl) ?_
  refine N.aload0 dX5_becomes_0 ?_
  refine N.iload1 dX5_becomes_1 ?_
  refine N.if_ne (tgt := 9) dX5_becomes_2 (by decide) (fun c2 => ?_) (fun c2 => ?_)
  · refine N.aload0 dX5_becomes_9 ?_
    refine N.getf dX5_becomes_10 flX5_52 mO rfl ?_
    refine N.putf dX5_becomes_13 flX5_52 mO (Nat.le_of_ble_eq_true rfl) (fun _ h => by cases h; rfl) rfl rfl mP4 ?_
    refine N.aload0 dX5_becomes_16 ?_
    refine N.iload1 dX5_becomes_17 ?_
    refine N.iconst (v := 1) dX5_becomes_18 (by decide) ?_
    refine N.icmp_ne (tgt := 26) dX5_becomes_19 (by decide) (fun c19 => ?_) (fun c19 => ?_)
    · refine N.aload0 dX5_becomes_26 ?_
      refine N.getf dX5_becomes_27 flX5_146 mO rfl ?_
      refine N.putf dX5_becomes_30 flX5_146 mO (Nat.le_of_ble_eq_true rfl) (fun _ h => by cases h; rfl) rfl rfl mP5 ?_
      refine N.aload0 dX5_becomes_33 ?_
      refine N.iload1 dX5_becomes_34 ?_
      refine N.iconst (v := 2) dX5_becomes_35 (by decide) ?_
      refine N.icmp_ne (tgt := 43) dX5_becomes_36 (by decide) (fun c36 => ?_) (fun c36 => ?_)
      · refine N.aload0 dX5_becomes_43 ?_
        refine N.getf dX5_becomes_44 flX5_56 mO rfl ?_
        refine N.putf dX5_becomes_47 flX5_56 mO (Nat.le_of_ble_eq_true rfl) (fun _ h => by cases h; rfl) rfl rfl mP6 ?_
        refine N.aload0 dX5_becomes_50 ?_
        refine N.iload1 dX5_becomes_51 ?_
        refine N.iconst (v := 3) dX5_becomes_52 (by decide) ?_
        refine N.icmp_ne (tgt := 60) dX5_becomes_53 (by decide) (fun c53 => ?_) (fun c53 => ?_)
        · refine N.aload0 dX5_becomes_60 ?_
          refine N.getf dX5_becomes_61 flX5_59 mO rfl ?_
          refine N.putf dX5_becomes_64 flX5_59 mO (Nat.le_of_ble_eq_true rfl) (fun _ h => by cases h; rfl) rfl rfl mP7 ?_
          exact N.vret dX5_becomes_67 rfl (Nat.zero_le _) (Nat.zero_le _) ⟨rfl, ⟨(by rw [becM, if_neg c2, if_neg c19, if_neg c36, if_neg c53]; try rfl), rfl⟩⟩
        · refine N.iload2 dX5_becomes_56 ?_
          refine N.goto (tgt := 64) dX5_becomes_57 (by decide) ?_
          refine N.putf dX5_becomes_64 flX5_59 mO (Nat.le_of_ble_eq_true rfl) (fun _ h => by cases h; rfl) rfl rfl mP7 ?_
          exact N.vret dX5_becomes_67 rfl (Nat.zero_le _) (Nat.zero_le _) ⟨rfl, ⟨(by rw [becM, if_neg c2, if_neg c19, if_neg c36, if_pos c53]; try rfl), rfl⟩⟩
      · refine N.iload2 dX5_becomes_39 ?_
        refine N.goto (tgt := 47) dX5_becomes_40 (by decide) ?_
        refine N.putf dX5_becomes_47 flX5_56 mO (Nat.le_of_ble_eq_true rfl) (fun _ h => by cases h; rfl) rfl rfl mP6 ?_
        refine N.aload0 dX5_becomes_50 ?_
        refine N.iload1 dX5_becomes_51 ?_
        refine N.iconst (v := 3) dX5_becomes_52 (by decide) ?_
        refine N.icmp_ne (tgt := 60) dX5_becomes_53 (by decide) (fun c53 => ?_) (fun c53 => ?_)
        · refine N.aload0 dX5_becomes_60 ?_
          refine N.getf dX5_becomes_61 flX5_59 mO rfl ?_
          refine N.putf dX5_becomes_64 flX5_59 mO (Nat.le_of_ble_eq_true rfl) (fun _ h => by cases h; rfl) rfl rfl mP7 ?_
          exact N.vret dX5_becomes_67 rfl (Nat.zero_le _) (Nat.zero_le _) ⟨rfl, ⟨(by rw [becM, if_neg c2, if_neg c19, if_pos c36, if_neg c53]; try rfl), rfl⟩⟩
        · refine N.iload2 dX5_becomes_56 ?_
          refine N.goto (tgt := 64) dX5_becomes_57 (by decide) ?_
          refine N.putf dX5_becomes_64 flX5_59 mO (Nat.le_of_ble_eq_true rfl) (fun _ h => by cases h; rfl) rfl rfl mP7 ?_
          exact N.vret dX5_becomes_67 rfl (Nat.zero_le _) (Nat.zero_le _) ⟨rfl, ⟨(by rw [becM, if_neg c2, if_neg c19, if_pos c36, if_pos c53]; try rfl), rfl⟩⟩
    · refine N.iload2 dX5_becomes_22 ?_
      refine N.goto (tgt := 30) dX5_becomes_23 (by decide) ?_
      refine N.putf dX5_becomes_30 flX5_146 mO (Nat.le_of_ble_eq_true rfl) (fun _ h => by cases h; rfl) rfl rfl mP5 ?_
      refine N.aload0 dX5_becomes_33 ?_
      refine N.iload1 dX5_becomes_34 ?_
      refine N.iconst (v := 2) dX5_becomes_35 (by decide) ?_
      refine N.icmp_ne (tgt := 43) dX5_becomes_36 (by decide) (fun c36 => ?_) (fun c36 => ?_)
      · refine N.aload0 dX5_becomes_43 ?_
        refine N.getf dX5_becomes_44 flX5_56 mO rfl ?_
        refine N.putf dX5_becomes_47 flX5_56 mO (Nat.le_of_ble_eq_true rfl) (fun _ h => by cases h; rfl) rfl rfl mP6 ?_
        refine N.aload0 dX5_becomes_50 ?_
        refine N.iload1 dX5_becomes_51 ?_
        refine N.iconst (v := 3) dX5_becomes_52 (by decide) ?_
        refine N.icmp_ne (tgt := 60) dX5_becomes_53 (by decide) (fun c53 => ?_) (fun c53 => ?_)
        · refine N.aload0 dX5_becomes_60 ?_
          refine N.getf dX5_becomes_61 flX5_59 mO rfl ?_
          refine N.putf dX5_becomes_64 flX5_59 mO (Nat.le_of_ble_eq_true rfl) (fun _ h => by cases h; rfl) rfl rfl mP7 ?_
          exact N.vret dX5_becomes_67 rfl (Nat.zero_le _) (Nat.zero_le _) ⟨rfl, ⟨(by rw [becM, if_neg c2, if_pos c19, if_neg c36, if_neg c53]; try rfl), rfl⟩⟩
        · refine N.iload2 dX5_becomes_56 ?_
          refine N.goto (tgt := 64) dX5_becomes_57 (by decide) ?_
          refine N.putf dX5_becomes_64 flX5_59 mO (Nat.le_of_ble_eq_true rfl) (fun _ h => by cases h; rfl) rfl rfl mP7 ?_
          exact N.vret dX5_becomes_67 rfl (Nat.zero_le _) (Nat.zero_le _) ⟨rfl, ⟨(by rw [becM, if_neg c2, if_pos c19, if_neg c36, if_pos c53]; try rfl), rfl⟩⟩
      · refine N.iload2 dX5_becomes_39 ?_
        refine N.goto (tgt := 47) dX5_becomes_40 (by decide) ?_
        refine N.putf dX5_becomes_47 flX5_56 mO (Nat.le_of_ble_eq_true rfl) (fun _ h => by cases h; rfl) rfl rfl mP6 ?_
        refine N.aload0 dX5_becomes_50 ?_
        refine N.iload1 dX5_becomes_51 ?_
        refine N.iconst (v := 3) dX5_becomes_52 (by decide) ?_
        refine N.icmp_ne (tgt := 60) dX5_becomes_53 (by decide) (fun c53 => ?_) (fun c53 => ?_)
        · refine N.aload0 dX5_becomes_60 ?_
          refine N.getf dX5_becomes_61 flX5_59 mO rfl ?_
          refine N.putf dX5_becomes_64 flX5_59 mO (Nat.le_of_ble_eq_true rfl) (fun _ h => by cases h; rfl) rfl rfl mP7 ?_
          exact N.vret dX5_becomes_67 rfl (Nat.zero_le _) (Nat.zero_le _) ⟨rfl, ⟨(by rw [becM, if_neg c2, if_pos c19, if_pos c36, if_neg c53]; try rfl), rfl⟩⟩
        · refine N.iload2 dX5_becomes_56 ?_
          refine N.goto (tgt := 64) dX5_becomes_57 (by decide) ?_
          refine N.putf dX5_becomes_64 flX5_59 mO (Nat.le_of_ble_eq_true rfl) (fun _ h => by cases h; rfl) rfl rfl mP7 ?_
          exact N.vret dX5_becomes_67 rfl (Nat.zero_le _) (Nat.zero_le _) ⟨rfl, ⟨(by rw [becM, if_neg c2, if_pos c19, if_pos c36, if_pos c53]; try rfl), rfl⟩⟩
  · refine N.iload2 dX5_becomes_5 ?_
    refine N.goto (tgt := 13) dX5_becomes_6 (by decide) ?_
    refine N.putf dX5_becomes_13 flX5_52 mO (Nat.le_of_ble_eq_true rfl) (fun _ h => by cases h; rfl) rfl rfl mP4 ?_
    refine N.aload0 dX5_becomes_16 ?_
    refine N.iload1 dX5_becomes_17 ?_
    refine N.iconst (v := 1) dX5_becomes_18 (by decide) ?_
    refine N.icmp_ne (tgt := 26) dX5_becomes_19 (by decide) (fun c19 => ?_) (fun c19 => ?_)
    · refine N.aload0 dX5_becomes_26 ?_
      refine N.getf dX5_becomes_27 flX5_146 mO rfl ?_
      refine N.putf dX5_becomes_30 flX5_146 mO (Nat.le_of_ble_eq_true rfl) (fun _ h => by cases h; rfl) rfl rfl mP5 ?_
      refine N.aload0 dX5_becomes_33 ?_
      refine N.iload1 dX5_becomes_34 ?_
      refine N.iconst (v := 2) dX5_becomes_35 (by decide) ?_
      refine N.icmp_ne (tgt := 43) dX5_becomes_36 (by decide) (fun c36 => ?_) (fun c36 => ?_)
      · refine N.aload0 dX5_becomes_43 ?_
        refine N.getf dX5_becomes_44 flX5_56 mO rfl ?_
        refine N.putf dX5_becomes_47 flX5_56 mO (Nat.le_of_ble_eq_true rfl) (fun _ h => by cases h; rfl) rfl rfl mP6 ?_
        refine N.aload0 dX5_becomes_50 ?_
        refine N.iload1 dX5_becomes_51 ?_
        refine N.iconst (v := 3) dX5_becomes_52 (by decide) ?_
        refine N.icmp_ne (tgt := 60) dX5_becomes_53 (by decide) (fun c53 => ?_) (fun c53 => ?_)
        · refine N.aload0 dX5_becomes_60 ?_
          refine N.getf dX5_becomes_61 flX5_59 mO rfl ?_
          refine N.putf dX5_becomes_64 flX5_59 mO (Nat.le_of_ble_eq_true rfl) (fun _ h => by cases h; rfl) rfl rfl mP7 ?_
          exact N.vret dX5_becomes_67 rfl (Nat.zero_le _) (Nat.zero_le _) ⟨rfl, ⟨(by rw [becM, if_pos c2, if_neg c19, if_neg c36, if_neg c53]; try rfl), rfl⟩⟩
        · refine N.iload2 dX5_becomes_56 ?_
          refine N.goto (tgt := 64) dX5_becomes_57 (by decide) ?_
          refine N.putf dX5_becomes_64 flX5_59 mO (Nat.le_of_ble_eq_true rfl) (fun _ h => by cases h; rfl) rfl rfl mP7 ?_
          exact N.vret dX5_becomes_67 rfl (Nat.zero_le _) (Nat.zero_le _) ⟨rfl, ⟨(by rw [becM, if_pos c2, if_neg c19, if_neg c36, if_pos c53]; try rfl), rfl⟩⟩
      · refine N.iload2 dX5_becomes_39 ?_
        refine N.goto (tgt := 47) dX5_becomes_40 (by decide) ?_
        refine N.putf dX5_becomes_47 flX5_56 mO (Nat.le_of_ble_eq_true rfl) (fun _ h => by cases h; rfl) rfl rfl mP6 ?_
        refine N.aload0 dX5_becomes_50 ?_
        refine N.iload1 dX5_becomes_51 ?_
        refine N.iconst (v := 3) dX5_becomes_52 (by decide) ?_
        refine N.icmp_ne (tgt := 60) dX5_becomes_53 (by decide) (fun c53 => ?_) (fun c53 => ?_)
        · refine N.aload0 dX5_becomes_60 ?_
          refine N.getf dX5_becomes_61 flX5_59 mO rfl ?_
          refine N.putf dX5_becomes_64 flX5_59 mO (Nat.le_of_ble_eq_true rfl) (fun _ h => by cases h; rfl) rfl rfl mP7 ?_
          exact N.vret dX5_becomes_67 rfl (Nat.zero_le _) (Nat.zero_le _) ⟨rfl, ⟨(by rw [becM, if_pos c2, if_neg c19, if_pos c36, if_neg c53]; try rfl), rfl⟩⟩
        · refine N.iload2 dX5_becomes_56 ?_
          refine N.goto (tgt := 64) dX5_becomes_57 (by decide) ?_
          refine N.putf dX5_becomes_64 flX5_59 mO (Nat.le_of_ble_eq_true rfl) (fun _ h => by cases h; rfl) rfl rfl mP7 ?_
          exact N.vret dX5_becomes_67 rfl (Nat.zero_le _) (Nat.zero_le _) ⟨rfl, ⟨(by rw [becM, if_pos c2, if_neg c19, if_pos c36, if_pos c53]; try rfl), rfl⟩⟩
    · refine N.iload2 dX5_becomes_22 ?_
      refine N.goto (tgt := 30) dX5_becomes_23 (by decide) ?_
      refine N.putf dX5_becomes_30 flX5_146 mO (Nat.le_of_ble_eq_true rfl) (fun _ h => by cases h; rfl) rfl rfl mP5 ?_
      refine N.aload0 dX5_becomes_33 ?_
      refine N.iload1 dX5_becomes_34 ?_
      refine N.iconst (v := 2) dX5_becomes_35 (by decide) ?_
      refine N.icmp_ne (tgt := 43) dX5_becomes_36 (by decide) (fun c36 => ?_) (fun c36 => ?_)
      · refine N.aload0 dX5_becomes_43 ?_
        refine N.getf dX5_becomes_44 flX5_56 mO rfl ?_
        refine N.putf dX5_becomes_47 flX5_56 mO (Nat.le_of_ble_eq_true rfl) (fun _ h => by cases h; rfl) rfl rfl mP6 ?_
        refine N.aload0 dX5_becomes_50 ?_
        refine N.iload1 dX5_becomes_51 ?_
        refine N.iconst (v := 3) dX5_becomes_52 (by decide) ?_
        refine N.icmp_ne (tgt := 60) dX5_becomes_53 (by decide) (fun c53 => ?_) (fun c53 => ?_)
        · refine N.aload0 dX5_becomes_60 ?_
          refine N.getf dX5_becomes_61 flX5_59 mO rfl ?_
          refine N.putf dX5_becomes_64 flX5_59 mO (Nat.le_of_ble_eq_true rfl) (fun _ h => by cases h; rfl) rfl rfl mP7 ?_
          exact N.vret dX5_becomes_67 rfl (Nat.zero_le _) (Nat.zero_le _) ⟨rfl, ⟨(by rw [becM, if_pos c2, if_pos c19, if_neg c36, if_neg c53]; try rfl), rfl⟩⟩
        · refine N.iload2 dX5_becomes_56 ?_
          refine N.goto (tgt := 64) dX5_becomes_57 (by decide) ?_
          refine N.putf dX5_becomes_64 flX5_59 mO (Nat.le_of_ble_eq_true rfl) (fun _ h => by cases h; rfl) rfl rfl mP7 ?_
          exact N.vret dX5_becomes_67 rfl (Nat.zero_le _) (Nat.zero_le _) ⟨rfl, ⟨(by rw [becM, if_pos c2, if_pos c19, if_neg c36, if_pos c53]; try rfl), rfl⟩⟩
      · refine N.iload2 dX5_becomes_39 ?_
        refine N.goto (tgt := 47) dX5_becomes_40 (by decide) ?_
        refine N.putf dX5_becomes_47 flX5_56 mO (Nat.le_of_ble_eq_true rfl) (fun _ h => by cases h; rfl) rfl rfl mP6 ?_
        refine N.aload0 dX5_becomes_50 ?_
        refine N.iload1 dX5_becomes_51 ?_
        refine N.iconst (v := 3) dX5_becomes_52 (by decide) ?_
        refine N.icmp_ne (tgt := 60) dX5_becomes_53 (by decide) (fun c53 => ?_) (fun c53 => ?_)
        · refine N.aload0 dX5_becomes_60 ?_
          refine N.getf dX5_becomes_61 flX5_59 mO rfl ?_
          refine N.putf dX5_becomes_64 flX5_59 mO (Nat.le_of_ble_eq_true rfl) (fun _ h => by cases h; rfl) rfl rfl mP7 ?_
          exact N.vret dX5_becomes_67 rfl (Nat.zero_le _) (Nat.zero_le _) ⟨rfl, ⟨(by rw [becM, if_pos c2, if_pos c19, if_pos c36, if_neg c53]; try rfl), rfl⟩⟩
        · refine N.iload2 dX5_becomes_56 ?_
          refine N.goto (tgt := 64) dX5_becomes_57 (by decide) ?_
          refine N.putf dX5_becomes_64 flX5_59 mO (Nat.le_of_ble_eq_true rfl) (fun _ h => by cases h; rfl) rfl rfl mP7 ?_
          exact N.vret dX5_becomes_67 rfl (Nat.zero_le _) (Nat.zero_le _) ⟨rfl, ⟨(by rw [becM, if_pos c2, if_pos c19, if_pos c36, if_pos c53]; try rfl), rfl⟩⟩
set_option maxRecDepth 100000 in
theorem s_X5_addPlayer {K : Kx} (w : Wd) (b sz : Nat) (v : CV) (E : ME) (k s a : Int32) (hp : vp_in (v.1 0) 10) : Sp K mX5_addPlayer 0 0 0 [.ref b, .int k, .int s, .int a] (putM K w b (v, E)) sz (Qv fun w' sz' => w' = putM K w b (addV v k s a, E) ∧ sz' = sz) := by
  refine Sp.ofN [some (.ref b), some (.int k), some (.int s), some (.int a)] rfl rfl rfl (Nat.le_of_ble_eq_true rfl) ?_
  refine N.aload0 dX5_addPlayer_0 ?_
  refine N.getf dX5_addPlayer_1 flX5_37 mO rfl ?_
  refine N.aload0 dX5_addPlayer_4 ?_
  refine N.getf dX5_addPlayer_5 flX5_74 mO rfl ?_
  refine N.iload1 dX5_addPlayer_8 ?_
  refine N.iast dX5_addPlayer_9 mA0 hp mK0 ?_
  refine N.aload0 dX5_addPlayer_10 ?_
  refine N.getf dX5_addPlayer_11 flX5_40 mO rfl ?_
  refine N.aload0 dX5_addPlayer_14 ?_
  refine N.getf dX5_addPlayer_15 flX5_74 mO rfl ?_
  refine N.iload2 dX5_addPlayer_18 ?_
  refine N.iast dX5_addPlayer_19 mA1 hp mK1 ?_
  refine N.aload0 dX5_addPlayer_20 ?_
  refine N.getf dX5_addPlayer_21 flX5_43 mO rfl ?_
  refine N.aload0 dX5_addPlayer_24 ?_
  refine N.getf dX5_addPlayer_25 flX5_74 mO rfl ?_
  refine N.iload3 dX5_addPlayer_28 ?_
  refine N.iast dX5_addPlayer_29 mA2 hp mK2 ?_
  refine N.aload0 dX5_addPlayer_30 ?_
  refine N.getf dX5_addPlayer_31 flX5_46 mO rfl ?_
  refine N.aload0 dX5_addPlayer_34 ?_
  refine N.getf dX5_addPlayer_35 flX5_74 mO rfl ?_
  refine N.iconst (v := 0) dX5_addPlayer_38 (by decide) ?_
  refine N.iast dX5_addPlayer_39 mA3 hp mK3 ?_
  refine N.aload0 dX5_addPlayer_40 ?_
  refine N.dup dX5_addPlayer_41 rfl ?_
  refine N.getf dX5_addPlayer_42 flX5_74 mO rfl ?_
  refine N.iconst (v := 1) dX5_addPlayer_45 (by decide) ?_
  refine N.iadd dX5_addPlayer_46 ?_
  refine N.putf dX5_addPlayer_47 flX5_74 mO (Nat.le_of_ble_eq_true rfl) (fun _ h => by cases h; rfl) rfl rfl mP0 ?_
  exact N.vret dX5_addPlayer_50 rfl (Nat.zero_le _) (Nat.zero_le _) ⟨rfl, ⟨rfl, rfl⟩⟩
theorem rw_in {v : CV} {e : M5} (hM : okM (v, e)) {s : Int32} (hs : s.toNatClampNeg < 8) {i : Int32} (c : ¬ isInF i 0 (e.2.1 2 s.toNatClampNeg - 1) = 0) : vp_in i 40 := by
  obtain ⟨P, hP, e1⟩ := hM.2.1 _ hs
  refine isIn_vp (n := 40) ?_ c
  rw [show e.2.1 2 s.toNatClampNeg = nI P from e1]
  by_cases h0 : P = 0
  · subst h0; decide
  · obtain ⟨Q, rfl⟩ : ∃ Q, P = Q + 1 := ⟨P - 1, by omega⟩
    rw [nI_pred, nI_toInt (by omega)]
    omega
theorem pl_room {v : CV} (h : okP v) (c : ¬ v.1 0 = 10) : vp_in (v.1 0) 10 := by
  obtain ⟨P, hP, e⟩ := h
  rw [e] at c ⊢
  exact in10 (by
    rcases Nat.lt_or_ge P 10 with q | q
    · exact q
    · obtain rfl : P = 10 := by omega
      exact absurd rfl c)
theorem tp_room {v : CV} {e : M5} (hM : okM (v, e)) (c : ¬ e.1 0 = 250) : vp_in (e.1 0) 250 := by
  obtain ⟨P, hP, e1⟩ := hM.2.2.2
  have e2 : e.1 0 = nI P := e1
  rw [e2] at c ⊢
  exact in250 (by
    rcases Nat.lt_or_ge P 250 with q | q
    · exact q
    · obtain rfl : P = 250 := by omega
      exact absurd rfl c)
def mplayer (m : Mst) (k s a : Int32) : Int32 × Mst := if isInF k 0 5 = 0 then rm m (-2) else if isInF s 1 99 = 0 then rm m (-2) else if isInF a 0 9 = 0 then rm m (-2) else if m.1.1 0 = 10 then rm m (-6) else ((addV m.1 k s a).1 0 - 1, addV m.1 k s a, m.2)
set_option maxRecDepth 100000 in
theorem s_X5_player {K : Kx} (w : Wd) (b sz : Nat) (v : CV) (e : M5) (t : Option Nat) (z : MX) (k : Int32) (s : Int32) (a : Int32) (ht : tOk G b sz t) (hM : okM (v, e)) : Sp K mX5_player 9 (kc t) (ks t) [.ref b, .int k, .int s, .int a] (putM K (tw K w t z) b (v, wt e t)) sz (Qi fun r w' sz' => r = (mplayer (v, e) k s a).1 ∧ ∃ t' z', w' = putM K (tw K w t' z') b ((mplayer (v, e) k s a).2.1, wt (mplayer (v, e) k s a).2.2 t') ∧ tOk G b sz' t' ∧ sz ≤ sz') := by
  refine Sp.ofN [some (.ref b), some (.int k), some (.int s), some (.int a)] rfl rfl rfl (Nat.le_of_ble_eq_true rfl) ?_
  have h : okP v := hM.1
  refine N.iload1 dX5_player_0 ?_
  refine N.i2l dX5_player_1 ?_
  refine N.lconst (v := 0) dX5_player_2 (by decide) ?_
  refine N.ldc2 dX5_player_3 ctX5_104 ?_
  refine N.si3 dX5_player_6 vX5_in lkX5_77 (s_X5_in _ _ _ _ _) rfl (Nat.le_of_ble_eq_true rfl) (Nat.le_of_ble_eq_true rfl) (Nat.zero_le _) (Nat.zero_le _) ?_
  rintro r1 _ _ ⟨er, rfl, rfl⟩
  obtain rfl := er.trans (inL_i (a := (0)) (b := (5)) rfl rfl)
  refine N.if_eq (tgt := 36) dX5_player_9 (by decide) (fun c9 => ?_) (fun c9 => ?_)
  · refine N.aload0 dX5_player_36 ?_
    refine N.bipush (v := -2) dX5_player_37 (by decide) ?_
    refine N.vi1 dX5_player_39 vX5_refuse lkX5_89 (s_X5_refuse _ _ _ _ _ _ rfIn2) mO rfl (Nat.le_of_ble_eq_true rfl) (Nat.le_of_ble_eq_true rfl) (Nat.zero_le _) (Nat.zero_le _) ?_
    rintro _ _ _ ⟨rfl, rfl, rfl⟩
    exact N.iret dX5_player_42 rfl (Nat.zero_le _) (Nat.zero_le _) ⟨_, rfl, (by rw [mplayer, if_pos c9]; exact rmf_ok ht)⟩
  · refine N.iload2 dX5_player_12 ?_
    refine N.i2l dX5_player_13 ?_
    refine N.lconst (v := 1) dX5_player_14 (by decide) ?_
    refine N.ldc2 dX5_player_15 ctX5_128 ?_
    refine N.si3 dX5_player_18 vX5_in lkX5_77 (s_X5_in _ _ _ _ _) rfl (Nat.le_of_ble_eq_true rfl) (Nat.le_of_ble_eq_true rfl) (Nat.zero_le _) (Nat.zero_le _) ?_
    rintro r1 _ _ ⟨er, rfl, rfl⟩
    obtain rfl := er.trans (inL_i (a := (1)) (b := (99)) rfl rfl)
    refine N.if_eq (tgt := 36) dX5_player_21 (by decide) (fun c21 => ?_) (fun c21 => ?_)
    · refine N.aload0 dX5_player_36 ?_
      refine N.bipush (v := -2) dX5_player_37 (by decide) ?_
      refine N.vi1 dX5_player_39 vX5_refuse lkX5_89 (s_X5_refuse _ _ _ _ _ _ rfIn2) mO rfl (Nat.le_of_ble_eq_true rfl) (Nat.le_of_ble_eq_true rfl) (Nat.zero_le _) (Nat.zero_le _) ?_
      rintro _ _ _ ⟨rfl, rfl, rfl⟩
      exact N.iret dX5_player_42 rfl (Nat.zero_le _) (Nat.zero_le _) ⟨_, rfl, (by rw [mplayer, if_neg c9, if_pos c21]; exact rmf_ok ht)⟩
    · refine N.iload3 dX5_player_24 ?_
      refine N.i2l dX5_player_25 ?_
      refine N.lconst (v := 0) dX5_player_26 (by decide) ?_
      refine N.ldc2 dX5_player_27 ctX5_130 ?_
      refine N.si3 dX5_player_30 vX5_in lkX5_77 (s_X5_in _ _ _ _ _) rfl (Nat.le_of_ble_eq_true rfl) (Nat.le_of_ble_eq_true rfl) (Nat.zero_le _) (Nat.zero_le _) ?_
      rintro r1 _ _ ⟨er, rfl, rfl⟩
      obtain rfl := er.trans (inL_i (a := (0)) (b := (9)) rfl rfl)
      refine N.if_ne (tgt := 43) dX5_player_33 (by decide) (fun c33 => ?_) (fun c33 => ?_)
      · refine N.aload0 dX5_player_43 ?_
        refine N.getf dX5_player_44 flX5_74 mO rfl ?_
        refine N.bipush (v := 10) dX5_player_47 (by decide) ?_
        refine N.icmp_ne (tgt := 59) dX5_player_49 (by decide) (fun c49 => ?_) (fun c49 => ?_)
        · refine N.aload0 dX5_player_59 ?_
          refine N.iload1 dX5_player_60 ?_
          refine N.iload2 dX5_player_61 ?_
          refine N.iload3 dX5_player_62 ?_
          refine N.vv3 dX5_player_63 vX5_addPlayer lkX5_132 (s_X5_addPlayer _ _ _ _ _ _ _ _ (pl_room h c49)) mO rfl (Nat.le_of_ble_eq_true rfl) (Nat.le_of_ble_eq_true rfl) (Nat.zero_le _) (Nat.zero_le _) ?_
          rintro _ _ ⟨rfl, rfl⟩
          refine N.aload0 dX5_player_66 ?_
          refine N.getf dX5_player_67 flX5_74 mO rfl ?_
          refine N.iconst (v := 1) dX5_player_70 (by decide) ?_
          refine N.isub dX5_player_71 ?_
          exact N.iret dX5_player_72 rfl (Nat.zero_le _) (Nat.zero_le _) ⟨_, rfl, (by rw [mplayer, if_neg c9, if_neg c21, if_neg c33, if_neg c49]; exact ⟨rfl, t, z, rfl, ht, Nat.le_refl _⟩)⟩
        · refine N.aload0 dX5_player_52 ?_
          refine N.bipush (v := -6) dX5_player_53 (by decide) ?_
          refine N.vi1 dX5_player_55 vX5_refuse lkX5_89 (s_X5_refuse _ _ _ _ _ _ rfIn6) mO rfl (Nat.le_of_ble_eq_true rfl) (Nat.le_of_ble_eq_true rfl) (Nat.zero_le _) (Nat.zero_le _) ?_
          rintro _ _ _ ⟨rfl, rfl, rfl⟩
          exact N.iret dX5_player_58 rfl (Nat.zero_le _) (Nat.zero_le _) ⟨_, rfl, (by rw [mplayer, if_neg c9, if_neg c21, if_neg c33, if_pos c49]; exact rmf_ok ht)⟩
      · refine N.aload0 dX5_player_36 ?_
        refine N.bipush (v := -2) dX5_player_37 (by decide) ?_
        refine N.vi1 dX5_player_39 vX5_refuse lkX5_89 (s_X5_refuse _ _ _ _ _ _ rfIn2) mO rfl (Nat.le_of_ble_eq_true rfl) (Nat.le_of_ble_eq_true rfl) (Nat.zero_le _) (Nat.zero_le _) ?_
        rintro _ _ _ ⟨rfl, rfl, rfl⟩
        exact N.iret dX5_player_42 rfl (Nat.zero_le _) (Nat.zero_le _) ⟨_, rfl, (by rw [mplayer, if_neg c9, if_neg c21, if_pos c33]; exact rmf_ok ht)⟩
def mtell (m : Mst) (p x y : Int32) : Int32 × Mst := if isPlF m.1 p = 0 then rm m (-2) else if x = 0 then (if isInF y 1 99 = 0 then rm m (-2) else (m.1.2 1 p.toNatClampNeg, (m.1.1, upA m.1.2 1 (upd (m.1.2 1) p.toNatClampNeg y)), m.2)) else if x = 1 then (if isInF y 0 100 = 0 then rm m (-2) else (m.1.2 3 p.toNatClampNeg, (m.1.1, upA m.1.2 3 (upd (m.1.2 3) p.toNatClampNeg y)), m.2)) else rm m (-2)
set_option maxRecDepth 100000 in
theorem s_X5_tell {K : Kx} (w : Wd) (b sz : Nat) (v : CV) (e : M5) (t : Option Nat) (z : MX) (p : Int32) (x : Int32) (y : Int32) (ht : tOk G b sz t) (hM : okM (v, e)) : Sp K mX5_tell 9 (kc t) (ks t) [.ref b, .int p, .int x, .int y] (putM K (tw K w t z) b (v, wt e t)) sz (Qi fun r w' sz' => r = (mtell (v, e) p x y).1 ∧ ∃ t' z', w' = putM K (tw K w t' z') b ((mtell (v, e) p x y).2.1, wt (mtell (v, e) p x y).2.2 t') ∧ tOk G b sz' t' ∧ sz ≤ sz') := by
  refine Sp.ofN [some (.ref b), some (.int p), some (.int x), some (.int y), none, none] rfl rfl rfl (Nat.le_of_ble_eq_true rfl) ?_
  have h : okP v := hM.1
  refine N.aload0 dX5_tell_0 ?_
  refine N.iload1 dX5_tell_1 ?_
  refine N.vi1 dX5_tell_2 vX5_isPlayer lkX5_100 (s_X5_isPlayer _ _ _ _ _ _) mO rfl (Nat.le_of_ble_eq_true rfl) (Nat.le_of_ble_eq_true rfl) (Nat.zero_le _) (Nat.zero_le _) ?_
  rintro _ _ _ ⟨rfl, rfl, rfl⟩
  refine N.if_eq (tgt := 41) dX5_tell_5 (by decide) (fun c5 => ?_) (fun c5 => ?_)
  · refine N.aload0 dX5_tell_41 ?_
    refine N.bipush (v := -2) dX5_tell_42 (by decide) ?_
    refine N.vi1 dX5_tell_44 vX5_refuse lkX5_89 (s_X5_refuse _ _ _ _ _ _ rfIn2) mO rfl (Nat.le_of_ble_eq_true rfl) (Nat.le_of_ble_eq_true rfl) (Nat.zero_le _) (Nat.zero_le _) ?_
    rintro _ _ _ ⟨rfl, rfl, rfl⟩
    exact N.iret dX5_tell_47 rfl (Nat.zero_le _) (Nat.zero_le _) ⟨_, rfl, (by rw [mtell, if_pos c5]; exact rmf_ok ht)⟩
  · refine N.iload2 dX5_tell_8 ?_
    refine N.if_ne (tgt := 24) dX5_tell_9 (by decide) (fun c9 => ?_) (fun c9 => ?_)
    · refine N.iload2 dX5_tell_24 ?_
      refine N.iconst (v := 1) dX5_tell_25 (by decide) ?_
      refine N.icmp_ne (tgt := 41) dX5_tell_26 (by decide) (fun c26 => ?_) (fun c26 => ?_)
      · refine N.aload0 dX5_tell_41 ?_
        refine N.bipush (v := -2) dX5_tell_42 (by decide) ?_
        refine N.vi1 dX5_tell_44 vX5_refuse lkX5_89 (s_X5_refuse _ _ _ _ _ _ rfIn2) mO rfl (Nat.le_of_ble_eq_true rfl) (Nat.le_of_ble_eq_true rfl) (Nat.zero_le _) (Nat.zero_le _) ?_
        rintro _ _ _ ⟨rfl, rfl, rfl⟩
        exact N.iret dX5_tell_47 rfl (Nat.zero_le _) (Nat.zero_le _) ⟨_, rfl, (by rw [mtell, if_neg c5, if_neg c9, if_neg c26]; exact rmf_ok ht)⟩
      · refine N.iload3 dX5_tell_29 ?_
        refine N.i2l dX5_tell_30 ?_
        refine N.lconst (v := 0) dX5_tell_31 (by decide) ?_
        refine N.ldc2 dX5_tell_32 ctX5_136 ?_
        refine N.si3 dX5_tell_35 vX5_in lkX5_77 (s_X5_in _ _ _ _ _) rfl (Nat.le_of_ble_eq_true rfl) (Nat.le_of_ble_eq_true rfl) (Nat.zero_le _) (Nat.zero_le _) ?_
        rintro r1 _ _ ⟨er, rfl, rfl⟩
        obtain rfl := er.trans (inL_i (a := (0)) (b := (100)) rfl rfl)
        refine N.if_ne (tgt := 48) dX5_tell_38 (by decide) (fun c38 => ?_) (fun c38 => ?_)
        · have hp := pl_in h c5
          refine N.iload2 dX5_tell_48 ?_
          refine N.if_ne (tgt := 59) dX5_tell_49 (by decide) (fun c49 => ?_) (fun c49 => absurd c49 c9)
          refine N.aload0 dX5_tell_59 ?_
          refine N.getf dX5_tell_60 flX5_46 mO rfl ?_
          refine N.astore4 dX5_tell_63 rfl ?_
          refine N.aload4 dX5_tell_65 ?_
          refine N.iload1 dX5_tell_67 ?_
          refine N.iald dX5_tell_68 mA3 hp ?_
          refine N.istore5 dX5_tell_69 rfl ?_
          refine N.aload4 dX5_tell_71 ?_
          refine N.iload1 dX5_tell_73 ?_
          refine N.iload3 dX5_tell_74 ?_
          refine N.iast dX5_tell_75 mA3 hp mK3 ?_
          refine N.iload5 dX5_tell_76 ?_
          exact N.iret dX5_tell_78 rfl (Nat.zero_le _) (Nat.zero_le _) ⟨_, rfl, (by rw [mtell, if_neg c5, if_neg c9, if_pos c26, if_neg c38]; exact ⟨rfl, t, z, rfl, ht, Nat.le_refl _⟩)⟩
        · refine N.aload0 dX5_tell_41 ?_
          refine N.bipush (v := -2) dX5_tell_42 (by decide) ?_
          refine N.vi1 dX5_tell_44 vX5_refuse lkX5_89 (s_X5_refuse _ _ _ _ _ _ rfIn2) mO rfl (Nat.le_of_ble_eq_true rfl) (Nat.le_of_ble_eq_true rfl) (Nat.zero_le _) (Nat.zero_le _) ?_
          rintro _ _ _ ⟨rfl, rfl, rfl⟩
          exact N.iret dX5_tell_47 rfl (Nat.zero_le _) (Nat.zero_le _) ⟨_, rfl, (by rw [mtell, if_neg c5, if_neg c9, if_pos c26, if_pos c38]; exact rmf_ok ht)⟩
    · refine N.iload3 dX5_tell_12 ?_
      refine N.i2l dX5_tell_13 ?_
      refine N.lconst (v := 1) dX5_tell_14 (by decide) ?_
      refine N.ldc2 dX5_tell_15 ctX5_128 ?_
      refine N.si3 dX5_tell_18 vX5_in lkX5_77 (s_X5_in _ _ _ _ _) rfl (Nat.le_of_ble_eq_true rfl) (Nat.le_of_ble_eq_true rfl) (Nat.zero_le _) (Nat.zero_le _) ?_
      rintro r1 _ _ ⟨er, rfl, rfl⟩
      obtain rfl := er.trans (inL_i (a := (1)) (b := (99)) rfl rfl)
      refine N.if_ne (tgt := 48) dX5_tell_21 (by decide) (fun c21 => ?_) (fun c21 => ?_)
      · have hp := pl_in h c5
        refine N.iload2 dX5_tell_48 ?_
        refine N.if_ne (tgt := 59) dX5_tell_49 (by decide) (fun c49 => absurd c9 c49) (fun c49 => ?_)
        refine N.aload0 dX5_tell_52 ?_
        refine N.getf dX5_tell_53 flX5_40 mO rfl ?_
        refine N.goto (tgt := 63) dX5_tell_56 (by decide) ?_
        refine N.astore4 dX5_tell_63 rfl ?_
        refine N.aload4 dX5_tell_65 ?_
        refine N.iload1 dX5_tell_67 ?_
        refine N.iald dX5_tell_68 mA1 hp ?_
        refine N.istore5 dX5_tell_69 rfl ?_
        refine N.aload4 dX5_tell_71 ?_
        refine N.iload1 dX5_tell_73 ?_
        refine N.iload3 dX5_tell_74 ?_
        refine N.iast dX5_tell_75 mA1 hp mK1 ?_
        refine N.iload5 dX5_tell_76 ?_
        exact N.iret dX5_tell_78 rfl (Nat.zero_le _) (Nat.zero_le _) ⟨_, rfl, (by rw [mtell, if_neg c5, if_pos c9, if_neg c21]; exact ⟨rfl, t, z, rfl, ht, Nat.le_refl _⟩)⟩
      · refine N.iload2 dX5_tell_24 ?_
        refine N.iconst (v := 1) dX5_tell_25 (by decide) ?_
        refine N.icmp_ne (tgt := 41) dX5_tell_26 (by decide) (fun c26 => ?_) (fun c26 => absurd (c9.symm.trans c26) (by decide))
        refine N.aload0 dX5_tell_41 ?_
        refine N.bipush (v := -2) dX5_tell_42 (by decide) ?_
        refine N.vi1 dX5_tell_44 vX5_refuse lkX5_89 (s_X5_refuse _ _ _ _ _ _ rfIn2) mO rfl (Nat.le_of_ble_eq_true rfl) (Nat.le_of_ble_eq_true rfl) (Nat.zero_le _) (Nat.zero_le _) ?_
        rintro _ _ _ ⟨rfl, rfl, rfl⟩
        exact N.iret dX5_tell_47 rfl (Nat.zero_le _) (Nat.zero_le _) ⟨_, rfl, (by rw [mtell, if_neg c5, if_pos c9, if_pos c21]; exact rmf_ok ht)⟩
def mask (m : Mst) (x y : Int32) : Int32 × Mst := if askM x y = 0 then rm m (-2) else if x = 0 then (m.1.1 4, becM m.1 x y, m.2) else if x = 1 then (m.1.1 5, becM m.1 x y, m.2) else if x = 2 then (m.1.1 6, becM m.1 x y, m.2) else (m.1.1 7, becM m.1 x y, m.2)
set_option maxRecDepth 100000 in
theorem s_X5_ask {K : Kx} (w : Wd) (b sz : Nat) (v : CV) (e : M5) (t : Option Nat) (z : MX) (x : Int32) (y : Int32) (ht : tOk G b sz t) (hM : okM (v, e)) : Sp K mX5_ask 9 (kc t) (ks t) [.ref b, .int x, .int y] (putM K (tw K w t z) b (v, wt e t)) sz (Qi fun r w' sz' => r = (mask (v, e) x y).1 ∧ ∃ t' z', w' = putM K (tw K w t' z') b ((mask (v, e) x y).2.1, wt (mask (v, e) x y).2.2 t') ∧ tOk G b sz' t' ∧ sz ≤ sz') := by
  refine Sp.ofN [some (.ref b), some (.int x), some (.int y), none] rfl rfl rfl (Nat.le_of_ble_eq_true rfl) ?_
  have h : okP v := hM.1
  refine N.iload1 dX5_ask_0 ?_
  refine N.iload2 dX5_ask_1 ?_
  refine N.si2 dX5_ask_2 vX5_mayAsk lkX5_149 (s_X5_mayAsk _ _ _ _) rfl (Nat.le_of_ble_eq_true rfl) (Nat.le_of_ble_eq_true rfl) (Nat.zero_le _) (Nat.zero_le _) ?_
  rintro _ _ _ ⟨rfl, rfl, rfl⟩
  refine N.if_ne (tgt := 15) dX5_ask_5 (by decide) (fun c5 => ?_) (fun c5 => ?_)
  · refine N.iload1 dX5_ask_15 ?_
    refine N.if_ne (tgt := 26) dX5_ask_16 (by decide) (fun c16 => ?_) (fun c16 => ?_)
    · refine N.iload1 dX5_ask_26 ?_
      refine N.iconst (v := 1) dX5_ask_27 (by decide) ?_
      refine N.icmp_ne (tgt := 38) dX5_ask_28 (by decide) (fun c28 => ?_) (fun c28 => ?_)
      · refine N.iload1 dX5_ask_38 ?_
        refine N.iconst (v := 2) dX5_ask_39 (by decide) ?_
        refine N.icmp_ne (tgt := 50) dX5_ask_40 (by decide) (fun c40 => ?_) (fun c40 => ?_)
        · refine N.aload0 dX5_ask_50 ?_
          refine N.getf dX5_ask_51 flX5_59 mO rfl ?_
          refine N.istore3 dX5_ask_54 rfl ?_
          refine N.aload0 dX5_ask_55 ?_
          refine N.iload1 dX5_ask_56 ?_
          refine N.iload2 dX5_ask_57 ?_
          refine N.vv2 dX5_ask_58 vX5_becomes lkX5_152 (s_X5_becomes _ _ _ _ _ _ _) mO rfl (Nat.le_of_ble_eq_true rfl) (Nat.le_of_ble_eq_true rfl) (Nat.zero_le _) (Nat.zero_le _) ?_
          rintro _ _ ⟨rfl, rfl⟩
          refine N.iload3 dX5_ask_61 ?_
          exact N.iret dX5_ask_62 rfl (Nat.zero_le _) (Nat.zero_le _) ⟨_, rfl, (by rw [mask, if_neg c5, if_neg c16, if_neg c28, if_neg c40]; exact ⟨rfl, t, z, rfl, ht, Nat.le_refl _⟩)⟩
        · refine N.aload0 dX5_ask_43 ?_
          refine N.getf dX5_ask_44 flX5_56 mO rfl ?_
          refine N.goto (tgt := 54) dX5_ask_47 (by decide) ?_
          refine N.istore3 dX5_ask_54 rfl ?_
          refine N.aload0 dX5_ask_55 ?_
          refine N.iload1 dX5_ask_56 ?_
          refine N.iload2 dX5_ask_57 ?_
          refine N.vv2 dX5_ask_58 vX5_becomes lkX5_152 (s_X5_becomes _ _ _ _ _ _ _) mO rfl (Nat.le_of_ble_eq_true rfl) (Nat.le_of_ble_eq_true rfl) (Nat.zero_le _) (Nat.zero_le _) ?_
          rintro _ _ ⟨rfl, rfl⟩
          refine N.iload3 dX5_ask_61 ?_
          exact N.iret dX5_ask_62 rfl (Nat.zero_le _) (Nat.zero_le _) ⟨_, rfl, (by rw [mask, if_neg c5, if_neg c16, if_neg c28, if_pos c40]; exact ⟨rfl, t, z, rfl, ht, Nat.le_refl _⟩)⟩
      · refine N.aload0 dX5_ask_31 ?_
        refine N.getf dX5_ask_32 flX5_146 mO rfl ?_
        refine N.goto (tgt := 54) dX5_ask_35 (by decide) ?_
        refine N.istore3 dX5_ask_54 rfl ?_
        refine N.aload0 dX5_ask_55 ?_
        refine N.iload1 dX5_ask_56 ?_
        refine N.iload2 dX5_ask_57 ?_
        refine N.vv2 dX5_ask_58 vX5_becomes lkX5_152 (s_X5_becomes _ _ _ _ _ _ _) mO rfl (Nat.le_of_ble_eq_true rfl) (Nat.le_of_ble_eq_true rfl) (Nat.zero_le _) (Nat.zero_le _) ?_
        rintro _ _ ⟨rfl, rfl⟩
        refine N.iload3 dX5_ask_61 ?_
        exact N.iret dX5_ask_62 rfl (Nat.zero_le _) (Nat.zero_le _) ⟨_, rfl, (by rw [mask, if_neg c5, if_neg c16, if_pos c28]; exact ⟨rfl, t, z, rfl, ht, Nat.le_refl _⟩)⟩
    · refine N.aload0 dX5_ask_19 ?_
      refine N.getf dX5_ask_20 flX5_52 mO rfl ?_
      refine N.goto (tgt := 54) dX5_ask_23 (by decide) ?_
      refine N.istore3 dX5_ask_54 rfl ?_
      refine N.aload0 dX5_ask_55 ?_
      refine N.iload1 dX5_ask_56 ?_
      refine N.iload2 dX5_ask_57 ?_
      refine N.vv2 dX5_ask_58 vX5_becomes lkX5_152 (s_X5_becomes _ _ _ _ _ _ _) mO rfl (Nat.le_of_ble_eq_true rfl) (Nat.le_of_ble_eq_true rfl) (Nat.zero_le _) (Nat.zero_le _) ?_
      rintro _ _ ⟨rfl, rfl⟩
      refine N.iload3 dX5_ask_61 ?_
      exact N.iret dX5_ask_62 rfl (Nat.zero_le _) (Nat.zero_le _) ⟨_, rfl, (by rw [mask, if_neg c5, if_pos c16]; exact ⟨rfl, t, z, rfl, ht, Nat.le_refl _⟩)⟩
  · refine N.aload0 dX5_ask_8 ?_
    refine N.bipush (v := -2) dX5_ask_9 (by decide) ?_
    refine N.vi1 dX5_ask_11 vX5_refuse lkX5_89 (s_X5_refuse _ _ _ _ _ _ rfIn2) mO rfl (Nat.le_of_ble_eq_true rfl) (Nat.le_of_ble_eq_true rfl) (Nat.zero_le _) (Nat.zero_le _) ?_
    rintro _ _ _ ⟨rfl, rfl, rfl⟩
    exact N.iret dX5_ask_14 rfl (Nat.zero_le _) (Nat.zero_le _) ⟨_, rfl, (by rw [mask, if_pos c5]; exact rmf_ok ht)⟩
def mfeed (m : Mst) (l : Int32) : Int32 × Mst := if isInF l 0 255 = 0 then rm m (-2) else if m.2.1 0 = 250 then rm m (-6) else (m.2.1 0 + 1, m.1, upd m.2.1 0 (m.2.1 0 + 1), upA m.2.2.1 4 (upd (m.2.2.1 4) (m.2.1 0).toNatClampNeg l), m.2.2.2)
set_option maxRecDepth 100000 in
theorem s_X5_feed {K : Kx} (w : Wd) (b sz : Nat) (v : CV) (e : M5) (t : Option Nat) (z : MX) (l : Int32) (ht : tOk G b sz t) (hM : okM (v, e)) : Sp K mX5_feed 9 (kc t) (ks t) [.ref b, .int l] (putM K (tw K w t z) b (v, wt e t)) sz (Qi fun r w' sz' => r = (mfeed (v, e) l).1 ∧ ∃ t' z', w' = putM K (tw K w t' z') b ((mfeed (v, e) l).2.1, wt (mfeed (v, e) l).2.2 t') ∧ tOk G b sz' t' ∧ sz ≤ sz') := by
  refine Sp.ofN [some (.ref b), some (.int l)] rfl rfl rfl (Nat.le_of_ble_eq_true rfl) ?_
  have h : okP v := hM.1
  refine N.iload1 dX5_feed_0 ?_
  refine N.i2l dX5_feed_1 ?_
  refine N.lconst (v := 0) dX5_feed_2 (by decide) ?_
  refine N.ldc2 dX5_feed_3 ctX5_156 ?_
  refine N.si3 dX5_feed_6 vX5_in lkX5_77 (s_X5_in _ _ _ _ _) rfl (Nat.le_of_ble_eq_true rfl) (Nat.le_of_ble_eq_true rfl) (Nat.zero_le _) (Nat.zero_le _) ?_
  rintro r1 _ _ ⟨er, rfl, rfl⟩
  obtain rfl := er.trans (inL_i (a := (0)) (b := (255)) rfl rfl)
  refine N.if_ne (tgt := 19) dX5_feed_9 (by decide) (fun c9 => ?_) (fun c9 => ?_)
  · refine N.aload0 dX5_feed_19 ?_
    refine N.getf dX5_feed_20 flX5_158 mO rfl ?_
    refine N.sipush (v := 250) dX5_feed_23 (by decide) ?_
    refine N.icmp_ne (tgt := 36) dX5_feed_26 (by decide) (fun c26 => ?_) (fun c26 => ?_)
    · refine N.aload0 dX5_feed_36 ?_
      refine N.getf dX5_feed_37 flX5_31 mO rfl ?_
      refine N.aload0 dX5_feed_40 ?_
      refine N.dup dX5_feed_41 rfl ?_
      refine N.getf dX5_feed_42 flX5_158 mO rfl ?_
      refine N.dup_x1 dX5_feed_45 rfl rfl ?_
      refine N.iconst (v := 1) dX5_feed_46 (by decide) ?_
      refine N.iadd dX5_feed_47 ?_
      refine N.putf dX5_feed_48 flX5_158 mO (Nat.le_of_ble_eq_true rfl) (fun _ h => by cases h; rfl) rfl rfl mG0 ?_
      refine N.iload1 dX5_feed_51 ?_
      refine N.iast dX5_feed_52 mH4 (tp_room hM c26) mHK4 ?_
      refine N.aload0 dX5_feed_53 ?_
      refine N.getf dX5_feed_54 flX5_158 mO rfl ?_
      exact N.iret dX5_feed_57 rfl (Nat.zero_le _) (Nat.zero_le _) ⟨_, rfl, (by rw [mfeed, if_neg c9, if_neg c26]; exact ⟨rfl, t, z, rfl, ht, Nat.le_refl _⟩)⟩
    · refine N.aload0 dX5_feed_29 ?_
      refine N.bipush (v := -6) dX5_feed_30 (by decide) ?_
      refine N.vi1 dX5_feed_32 vX5_refuse lkX5_89 (s_X5_refuse _ _ _ _ _ _ rfIn6) mO rfl (Nat.le_of_ble_eq_true rfl) (Nat.le_of_ble_eq_true rfl) (Nat.zero_le _) (Nat.zero_le _) ?_
      rintro _ _ _ ⟨rfl, rfl, rfl⟩
      exact N.iret dX5_feed_35 rfl (Nat.zero_le _) (Nat.zero_le _) ⟨_, rfl, (by rw [mfeed, if_neg c9, if_pos c26]; exact rmf_ok ht)⟩
  · refine N.aload0 dX5_feed_12 ?_
    refine N.bipush (v := -2) dX5_feed_13 (by decide) ?_
    refine N.vi1 dX5_feed_15 vX5_refuse lkX5_89 (s_X5_refuse _ _ _ _ _ _ rfIn2) mO rfl (Nat.le_of_ble_eq_true rfl) (Nat.le_of_ble_eq_true rfl) (Nat.zero_le _) (Nat.zero_le _) ?_
    rintro _ _ _ ⟨rfl, rfl, rfl⟩
    exact N.iret dX5_feed_18 rfl (Nat.zero_le _) (Nat.zero_le _) ⟨_, rfl, (by rw [mfeed, if_pos c9]; exact rmf_ok ht)⟩
def melem (m : Mst) (s i : Int32) : Int64 × Mst := if isInF s 0 7 = 0 then (0, m) else if m.2.2.1 0 s.toNatClampNeg = 1 then (if isInF i 0 (m.2.2.1 2 s.toNatClampNeg - 1) = 0 then (0, m) else (m.2.2.2.1 s.toNatClampNeg i.toNatClampNeg, m)) else (0, m)
set_option maxRecDepth 100000 in
theorem s_X5_element {K : Kx} (w : Wd) (b sz : Nat) (v : CV) (e : M5) (t : Option Nat) (z : MX) (s : Int32) (i : Int32) (ht : tOk G b sz t) (hM : okM (v, e)) : Sp K mX5_element 9 (kc t) (ks t) [.ref b, .int s, .int i] (putM K (tw K w t z) b (v, wt e t)) sz (Ql fun r w' sz' => r = (melem (v, e) s i).1 ∧ ∃ t' z', w' = putM K (tw K w t' z') b ((melem (v, e) s i).2.1, wt (melem (v, e) s i).2.2 t') ∧ tOk G b sz' t' ∧ sz ≤ sz') := by
  refine Sp.ofN [some (.ref b), some (.int s), some (.int i)] rfl rfl rfl (Nat.le_of_ble_eq_true rfl) ?_
  have h : okP v := hM.1
  refine N.iload1 dX5_element_0 ?_
  refine N.i2l dX5_element_1 ?_
  refine N.lconst (v := 0) dX5_element_2 (by decide) ?_
  refine N.ldc2 dX5_element_3 ctX5_83 ?_
  refine N.si3 dX5_element_6 vX5_in lkX5_77 (s_X5_in _ _ _ _ _) rfl (Nat.le_of_ble_eq_true rfl) (Nat.le_of_ble_eq_true rfl) (Nat.zero_le _) (Nat.zero_le _) ?_
  rintro r1 _ _ ⟨er, rfl, rfl⟩
  obtain rfl := er.trans (inL_i (a := (0)) (b := (7)) rfl rfl)
  refine N.if_eq (tgt := 51) dX5_element_9 (by decide) (fun c9 => ?_) (fun c9 => ?_)
  · refine N.lconst (v := 0) dX5_element_51 (by decide) ?_
    exact N.lret dX5_element_52 rfl (Nat.zero_le _) (Nat.zero_le _) ⟨_, rfl, (by rw [melem, if_pos c9]; exact ⟨rfl, t, z, rfl, ht, Nat.le_refl _⟩)⟩
  · refine N.aload0 dX5_element_12 ?_
    refine N.getf dX5_element_13 flX5_7 mO rfl ?_
    refine N.iload1 dX5_element_16 ?_
    refine N.iald dX5_element_17 mH0 (sh8v c9) ?_
    refine N.iconst (v := 1) dX5_element_18 (by decide) ?_
    refine N.icmp_ne (tgt := 51) dX5_element_19 (by decide) (fun c19 => ?_) (fun c19 => ?_)
    · refine N.lconst (v := 0) dX5_element_51 (by decide) ?_
      exact N.lret dX5_element_52 rfl (Nat.zero_le _) (Nat.zero_le _) ⟨_, rfl, (by rw [melem, if_neg c9, if_neg c19]; exact ⟨rfl, t, z, rfl, ht, Nat.le_refl _⟩)⟩
    · refine N.iload2 dX5_element_22 ?_
      refine N.i2l dX5_element_23 ?_
      refine N.lconst (v := 0) dX5_element_24 (by decide) ?_
      refine N.aload0 dX5_element_25 ?_
      refine N.getf dX5_element_26 flX5_16 mO rfl ?_
      refine N.iload1 dX5_element_29 ?_
      refine N.iald dX5_element_30 mH2 (sh8v c9) ?_
      refine N.iconst (v := 1) dX5_element_31 (by decide) ?_
      refine N.isub dX5_element_32 ?_
      refine N.i2l dX5_element_33 ?_
      refine N.si3 dX5_element_34 vX5_in lkX5_77 (s_X5_in _ _ _ _ _) rfl (Nat.le_of_ble_eq_true rfl) (Nat.le_of_ble_eq_true rfl) (Nat.zero_le _) (Nat.zero_le _) ?_
      rintro r1 _ _ ⟨er, rfl, rfl⟩
      obtain rfl := er.trans (inL_i (a := (0)) (b := _) rfl rfl)
      refine N.if_eq (tgt := 51) dX5_element_37 (by decide) (fun c37 => ?_) (fun c37 => ?_)
      · refine N.lconst (v := 0) dX5_element_51 (by decide) ?_
        exact N.lret dX5_element_52 rfl (Nat.zero_le _) (Nat.zero_le _) ⟨_, rfl, (by rw [melem, if_neg c9, if_pos c19, if_pos c37]; exact ⟨rfl, t, z, rfl, ht, Nat.le_refl _⟩)⟩
      · have hs := sh8 c9
        refine N.aload0 dX5_element_40 ?_
        refine N.getf dX5_element_41 flX5_21 mO rfl ?_
        refine N.iload1 dX5_element_44 ?_
        refine N.aaldA dX5_element_45 mW (sh8v c9) (mRv hs) ?_
        refine N.iload2 dX5_element_46 ?_
        refine N.lald dX5_element_47 (mR hs) (rw_in hM hs c37) ?_
        refine N.goto (tgt := 52) dX5_element_48 (by decide) ?_
        exact N.lret dX5_element_52 rfl (Nat.zero_le _) (Nat.zero_le _) ⟨_, rfl, (by rw [melem, if_neg c9, if_pos c19, if_neg c37]; exact ⟨rfl, t, z, rfl, ht, Nat.le_refl _⟩)⟩
def mset (m : Mst) (s i : Int32) (x : Int64) : Int32 × Mst := if nrF m.2.2.1 s = 0 then (if isInF i 0 (m.2.2.1 2 s.toNatClampNeg - 1) = 0 then rm m (-2) else (1, m.1, m.2.1, m.2.2.1, upL m.2.2.2.1 s.toNatClampNeg (vp_updL (m.2.2.2.1 s.toNatClampNeg) i.toNatClampNeg (fitM (m.2.2.1 1 s.toNatClampNeg) x)), m.2.2.2.2)) else (nrF m.2.2.1 s, m.1, nrM m.2 s)
set_option maxRecDepth 100000 in
theorem s_X5_set {K : Kx} (w : Wd) (b sz : Nat) (v : CV) (e : M5) (t : Option Nat) (z : MX) (s : Int32) (i : Int32) (x : Int64) (ht : tOk G b sz t) (hM : okM (v, e)) : Sp K mX5_set 9 (kc t) (ks t) [.ref b, .int s, .int i, .long x] (putM K (tw K w t z) b (v, wt e t)) sz (Qi fun r w' sz' => r = (mset (v, e) s i x).1 ∧ ∃ t' z', w' = putM K (tw K w t' z') b ((mset (v, e) s i x).2.1, wt (mset (v, e) s i x).2.2 t') ∧ tOk G b sz' t' ∧ sz ≤ sz') := by
  refine Sp.ofN [some (.ref b), some (.int s), some (.int i), some (.long x), none, none] rfl rfl rfl (Nat.le_of_ble_eq_true rfl) ?_
  have h : okP v := hM.1
  refine N.aload0 dX5_set_0 ?_
  refine N.iload1 dX5_set_1 ?_
  refine N.vi1 dX5_set_2 vX5_noRow lkX5_93 (s_X5_noRow _ _ _ _ _ _) mO rfl (Nat.le_of_ble_eq_true rfl) (Nat.le_of_ble_eq_true rfl) (Nat.zero_le _) (Nat.zero_le _) ?_
  rintro _ _ _ ⟨rfl, rfl, rfl⟩
  refine N.istore5 dX5_set_5 rfl ?_
  refine N.iload5 dX5_set_7 ?_
  refine N.if_eq (tgt := 15) dX5_set_9 (by decide) (fun c9 => ?_) (fun c9 => ?_)
  · obtain ⟨hs0, en⟩ := nr_0 c9
    refine N.eqW (congrArg (fun z_ => putM K (tw K w t z) b (v, z_)) en) ?_
    refine N.iload2 dX5_set_15 ?_
    refine N.i2l dX5_set_16 ?_
    refine N.lconst (v := 0) dX5_set_17 (by decide) ?_
    refine N.aload0 dX5_set_18 ?_
    refine N.getf dX5_set_19 flX5_16 mO rfl ?_
    refine N.iload1 dX5_set_22 ?_
    refine N.iald dX5_set_23 mH2 (sh8v hs0) ?_
    refine N.iconst (v := 1) dX5_set_24 (by decide) ?_
    refine N.isub dX5_set_25 ?_
    refine N.i2l dX5_set_26 ?_
    refine N.si3 dX5_set_27 vX5_in lkX5_77 (s_X5_in _ _ _ _ _) rfl (Nat.le_of_ble_eq_true rfl) (Nat.le_of_ble_eq_true rfl) (Nat.zero_le _) (Nat.zero_le _) ?_
    rintro r1 _ _ ⟨er, rfl, rfl⟩
    obtain rfl := er.trans (inL_i (a := (0)) (b := _) rfl rfl)
    refine N.if_ne (tgt := 40) dX5_set_30 (by decide) (fun c30 => ?_) (fun c30 => ?_)
    · have hs := sh8 hs0
      refine N.aload0 dX5_set_40 ?_
      refine N.getf dX5_set_41 flX5_21 mO rfl ?_
      refine N.iload1 dX5_set_44 ?_
      refine N.aaldA dX5_set_45 mW (sh8v hs0) (mRv hs) ?_
      refine N.iload2 dX5_set_46 ?_
      refine N.aload0 dX5_set_47 ?_
      refine N.getf dX5_set_48 flX5_13 mO rfl ?_
      refine N.iload1 dX5_set_51 ?_
      refine N.iald dX5_set_52 mH1 (sh8v hs0) ?_
      refine N.lload3 dX5_set_53 ?_
      refine N.sl2 dX5_set_54 vX5_fit lkX5_96 (s_X5_fit _ _ _ _) rfl (Nat.le_of_ble_eq_true rfl) (Nat.le_of_ble_eq_true rfl) (Nat.zero_le _) (Nat.zero_le _) ?_
      rintro _ _ _ ⟨rfl, rfl, rfl⟩
      refine N.last dX5_set_57 (mR hs) (rw_in hM hs c30) (mRK hs) ?_
      refine N.iconst (v := 1) dX5_set_58 (by decide) ?_
      exact N.iret dX5_set_59 rfl (Nat.zero_le _) (Nat.zero_le _) ⟨_, rfl, (by rw [mset, if_pos c9, if_neg c30]; exact ⟨rfl, t, z, rfl, ht, Nat.le_refl _⟩)⟩
    · refine N.aload0 dX5_set_33 ?_
      refine N.bipush (v := -2) dX5_set_34 (by decide) ?_
      refine N.vi1 dX5_set_36 vX5_refuse lkX5_89 (s_X5_refuse _ _ _ _ _ _ rfIn2) mO rfl (Nat.le_of_ble_eq_true rfl) (Nat.le_of_ble_eq_true rfl) (Nat.zero_le _) (Nat.zero_le _) ?_
      rintro _ _ _ ⟨rfl, rfl, rfl⟩
      exact N.iret dX5_set_39 rfl (Nat.zero_le _) (Nat.zero_le _) ⟨_, rfl, (by rw [mset, if_pos c9, if_pos c30]; exact rmf_ok ht)⟩
  · refine N.iload5 dX5_set_12 ?_
    exact N.iret dX5_set_14 rfl (Nat.zero_le _) (Nat.zero_le _) ⟨_, rfl, (by rw [mset, if_neg (show ¬ nrF e.2.1 s = 0 from c9)]; exact ⟨rfl, t, z, by rw [nrE_wt], ht, Nat.le_refl _⟩)⟩
