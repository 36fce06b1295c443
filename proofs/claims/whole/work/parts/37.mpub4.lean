variable {G : Nat → Prop}
def pz1 (n : Int32) (v : CV) (k : Nat) : CV := (v.1, upA v.2 3 (upd (v.2 3) (nI k).toNatClampNeg (if v.2 3 (nI k).toNatClampNeg ≤ n then 0 else v.2 3 (nI k).toNatClampNeg - n)))
def pzTo (n : Int32) (v : CV) : Nat → CV × Int32
  | 0 => (v, 0)
  | k + 1 => (pz1 n (pzTo n v k).1 k, (pzTo n v k).2 + (if (pz1 n (pzTo n v k).1 k).2 3 (nI k).toNatClampNeg ≤ 0 then 0 else 1))
theorem pzTo_1 {n : Int32} {v : CV} : ∀ k, (pzTo n v k).1.1 = v.1
  | 0 => rfl
  | k + 1 => pzTo_1 k
set_option maxRecDepth 100000 in
theorem l_X5_pause {K : Kx} (w : Wd) (b sz : Nat) (v : CV) (E : ME) (mc ms : Nat) (n : Int32) (P0 : Nat) (hP0 : P0 ≤ 10) (e0 : v.1 0 = nI P0) (P : Int32 → Wd → Nat → Prop) (hP : P (pzTo n v P0).2 (putM K w b ((pzTo n v P0).1, E)) sz) : ∀ nn k, k + nn = P0 → N K mX5_pause 9 mc ms (Qi P) 23 [some (.ref b), some (.int n), some (.int (pzTo n v k).2), some (.int (nI k))] [] (putM K w b ((pzTo n v k).1, E)) sz 0 0 := by
  intro nn
  induction nn with
  | zero =>
    intro k hk
    obtain rfl : k = P0 := by omega
    have e1 : (pzTo n v k).1.1 0 = nI k := by rw [pzTo_1]; exact e0
    refine N.iload3 dX5_pause_23 ?_
    refine N.aload0 dX5_pause_24 ?_
    refine N.getf dX5_pause_25 flX5_74 mO rfl ?_
    refine N.icmp_ge (tgt := 82) dX5_pause_28 (by decide) (fun c28 => ?_) (fun c28 => absurd (pl_ge e1 (by omega) (by omega)) c28)
    refine N.iload2 dX5_pause_82 ?_
    exact N.iret dX5_pause_83 rfl (Nat.zero_le _) (Nat.zero_le _) ⟨_, rfl, hP⟩
  | succ nn ih =>
    intro k hk
    have e1 : (pzTo n v k).1.1 0 = nI P0 := by rw [pzTo_1]; exact e0
    refine N.iload3 dX5_pause_23 ?_
    refine N.aload0 dX5_pause_24 ?_
    refine N.getf dX5_pause_25 flX5_74 mO rfl ?_
    refine N.icmp_ge (tgt := 82) dX5_pause_28 (by decide) (fun c28 => absurd c28 (pl_nge e1 (by omega) (by omega))) (fun c28 => ?_)
    refine N.aload0 dX5_pause_31 ?_
    refine N.getf dX5_pause_32 flX5_46 mO rfl ?_
    refine N.iload3 dX5_pause_35 ?_
    refine N.aload0 dX5_pause_36 ?_
    refine N.getf dX5_pause_37 flX5_46 mO rfl ?_
    refine N.iload3 dX5_pause_40 ?_
    refine N.iald dX5_pause_41 mA3 (in10 (by omega)) ?_
    refine N.iload1 dX5_pause_42 ?_
    refine N.icmp_le (tgt := 57) dX5_pause_43 (by decide) (fun c43 => ?_) (fun c43 => ?_)
    · refine N.iconst (v := 0) dX5_pause_57 (by decide) ?_
      refine N.iast dX5_pause_58 mA3 (in10 (by omega)) mK3 ?_
      refine N.eqW (w' := putM K w b (pz1 n (pzTo n v k).1 k, E)) (by rw [pz1, if_pos c43]) ?_
      refine N.iload2 dX5_pause_59 ?_
      refine N.aload0 dX5_pause_60 ?_
      refine N.getf dX5_pause_61 flX5_46 mO rfl ?_
      refine N.iload3 dX5_pause_64 ?_
      refine N.iald dX5_pause_65 mA3 (in10 (by omega)) ?_
      refine N.if_le (tgt := 73) dX5_pause_66 (by decide) (fun c66 => ?_) (fun c66 => ?_)
      · refine N.iconst (v := 0) dX5_pause_73 (by decide) ?_
        refine N.iadd dX5_pause_74 ?_
        refine N.istore2 dX5_pause_75 rfl ?_
        refine N.iinc3 dX5_pause_76 rfl (nI_inc _) ?_
        refine N.goto (tgt := 23) dX5_pause_79 (by decide) ?_
        exact N.wk (by rw [pzTo, if_pos (show (pz1 n (pzTo n v k).1 k).2 3 (nI k).toNatClampNeg ≤ 0 from c66)]; exact ⟨rfl, rfl, rfl, rfl, trivial⟩) (ih (k + 1) (by omega))
      · refine N.iconst (v := 1) dX5_pause_69 (by decide) ?_
        refine N.goto (tgt := 74) dX5_pause_70 (by decide) ?_
        refine N.iadd dX5_pause_74 ?_
        refine N.istore2 dX5_pause_75 rfl ?_
        refine N.iinc3 dX5_pause_76 rfl (nI_inc _) ?_
        refine N.goto (tgt := 23) dX5_pause_79 (by decide) ?_
        exact N.wk (by rw [pzTo, if_neg (show ¬ (pz1 n (pzTo n v k).1 k).2 3 (nI k).toNatClampNeg ≤ 0 from c66)]; exact ⟨rfl, rfl, rfl, rfl, trivial⟩) (ih (k + 1) (by omega))
    · refine N.aload0 dX5_pause_46 ?_
      refine N.getf dX5_pause_47 flX5_46 mO rfl ?_
      refine N.iload3 dX5_pause_50 ?_
      refine N.iald dX5_pause_51 mA3 (in10 (by omega)) ?_
      refine N.iload1 dX5_pause_52 ?_
      refine N.isub dX5_pause_53 ?_
      refine N.goto (tgt := 58) dX5_pause_54 (by decide) ?_
      refine N.iast dX5_pause_58 mA3 (in10 (by omega)) mK3 ?_
      refine N.eqW (w' := putM K w b (pz1 n (pzTo n v k).1 k, E)) (by rw [pz1, if_neg c43]) ?_
      refine N.iload2 dX5_pause_59 ?_
      refine N.aload0 dX5_pause_60 ?_
      refine N.getf dX5_pause_61 flX5_46 mO rfl ?_
      refine N.iload3 dX5_pause_64 ?_
      refine N.iald dX5_pause_65 mA3 (in10 (by omega)) ?_
      refine N.if_le (tgt := 73) dX5_pause_66 (by decide) (fun c66 => ?_) (fun c66 => ?_)
      · refine N.iconst (v := 0) dX5_pause_73 (by decide) ?_
        refine N.iadd dX5_pause_74 ?_
        refine N.istore2 dX5_pause_75 rfl ?_
        refine N.iinc3 dX5_pause_76 rfl (nI_inc _) ?_
        refine N.goto (tgt := 23) dX5_pause_79 (by decide) ?_
        exact N.wk (by rw [pzTo, if_pos (show (pz1 n (pzTo n v k).1 k).2 3 (nI k).toNatClampNeg ≤ 0 from c66)]; exact ⟨rfl, rfl, rfl, rfl, trivial⟩) (ih (k + 1) (by omega))
      · refine N.iconst (v := 1) dX5_pause_69 (by decide) ?_
        refine N.goto (tgt := 74) dX5_pause_70 (by decide) ?_
        refine N.iadd dX5_pause_74 ?_
        refine N.istore2 dX5_pause_75 rfl ?_
        refine N.iinc3 dX5_pause_76 rfl (nI_inc _) ?_
        refine N.goto (tgt := 23) dX5_pause_79 (by decide) ?_
        exact N.wk (by rw [pzTo, if_neg (show ¬ (pz1 n (pzTo n v k).1 k).2 3 (nI k).toNatClampNeg ≤ 0 from c66)]; exact ⟨rfl, rfl, rfl, rfl, trivial⟩) (ih (k + 1) (by omega))
theorem pzn {n : Int32} {v : CV} {P : Nat} (e : np v = P) : pzTo n v (np v) = pzTo n v P := by rw [e]
def mpause (m : Mst) (n : Int32) : Int32 × Mst := if isInF n 1 100 = 0 then rm m (-2) else ((pzTo n m.1 (np m.1)).2, (pzTo n m.1 (np m.1)).1, m.2)
set_option maxRecDepth 100000 in
theorem s_X5_pause {K : Kx} (w : Wd) (b sz : Nat) (v : CV) (e : M5) (t : Option Nat) (z : MX) (n : Int32) (ht : tOk G b sz t) (hM : okM (v, e)) : Sp K mX5_pause 9 (kc t) (ks t) [.ref b, .int n] (putM K (tw K w t z) b (v, wt e t)) sz (Qi fun r w' sz' => r = (mpause (v, e) n).1 ∧ ∃ t' z', w' = putM K (tw K w t' z') b ((mpause (v, e) n).2.1, wt (mpause (v, e) n).2.2 t') ∧ tOk G b sz' t' ∧ sz ≤ sz') := by
  refine Sp.ofN [some (.ref b), some (.int n), none, none] rfl rfl rfl (Nat.le_of_ble_eq_true rfl) ?_
  have h : okP v := hM.1
  refine N.iload1 dX5_pause_0 ?_
  refine N.i2l dX5_pause_1 ?_
  refine N.lconst (v := 1) dX5_pause_2 (by decide) ?_
  refine N.ldc2 dX5_pause_3 ctX5_136 ?_
  refine N.si3 dX5_pause_6 vX5_in lkX5_77 (s_X5_in _ _ _ _ _) rfl (Nat.le_of_ble_eq_true rfl) (Nat.le_of_ble_eq_true rfl) (Nat.zero_le _) (Nat.zero_le _) ?_
  rintro r1 _ _ ⟨er, rfl, rfl⟩
  obtain rfl := er.trans (inL_i (a := (1)) (b := (100)) rfl rfl)
  refine N.if_ne (tgt := 19) dX5_pause_9 (by decide) (fun c9 => ?_) (fun c9 => ?_)
  · obtain ⟨P0, hP0, e0, e1⟩ := np_ex h
    refine N.iconst (v := 0) dX5_pause_19 (by decide) ?_
    refine N.istore2 dX5_pause_20 rfl ?_
    refine N.iconst (v := 0) dX5_pause_21 (by decide) ?_
    refine N.istore3 dX5_pause_22 rfl ?_
    exact N.wk (by exact ⟨rfl, rfl, rfl, rfl, trivial⟩) (l_X5_pause _ b _ v (wt e t) _ _ n P0 hP0 e0 _ (mp_ok ht (by rw [mpause, if_neg c9, pzn e1])) P0 0 (by omega))
  · refine N.aload0 dX5_pause_12 ?_
    refine N.bipush (v := -2) dX5_pause_13 (by decide) ?_
    refine N.vi1 dX5_pause_15 vX5_refuse lkX5_89 (s_X5_refuse _ _ _ _ _ _ rfIn2) mO rfl (Nat.le_of_ble_eq_true rfl) (Nat.le_of_ble_eq_true rfl) (Nat.zero_le _) (Nat.zero_le _) ?_
    rintro _ _ _ ⟨rfl, rfl, rfl⟩
    exact N.iret dX5_pause_18 rfl (Nat.zero_le _) (Nat.zero_le _) ⟨_, rfl, (by rw [mpause, if_pos c9]; exact rmf_ok ht)⟩
def fsTo (A : Nat → Nat → Int32) : Nat → Int32
  | 0 => 0
  | k + 1 => fsTo A k + (if A 0 (nI k).toNatClampNeg = 0 then 0 else 1)
theorem st8 {t : Int32} (c : ¬ isInF t 12 16 = 0) : vp_in (t - 10) 8 := by
  obtain ⟨h1, h2⟩ := isIn_ne c
  have e1 := Int32.not_lt.mp h1
  have e2 := Int32.not_lt.mp h2
  rw [vp_in_iff]
  rw [Int32.le_iff_toInt_le] at e1 e2
  have a1 : (12 : Int32).toInt = 12 := rfl
  have a2 : (16 : Int32).toInt = 16 := rfl
  have a3 : (10 : Int32).toInt = 10 := rfl
  rw [Int32.toInt_sub, a3, Int.bmod_eq_of_le (by omega) (by omega)]
  omega
def sdM (m : Mst) (x : Int32) : Int32 × Mst := if isInF x 12 16 = 0 then (-1, m) else (m.2.2.1 5 (x - 10).toNatClampNeg, m)
set_option maxRecDepth 100000 in
theorem l_X5_status {K : Kx} (w : Wd) (b sz : Nat) (v : CV) (E : ME) (mc ms : Nat) (x : Int32) (P : Int32 → Wd → Nat → Prop) (hP : P (fsTo E.2.1 8) (putM K w b (v, E)) sz) : ∀ nn k, k + nn = 8 → N K mX5_status 9 mc ms (Qi P) 179 [some (.ref b), some (.int x), some (.int (fsTo E.2.1 k)), some (.int (nI k))] [] (putM K w b (v, E)) sz 0 0 := by
  intro nn
  induction nn with
  | zero =>
    intro k hk
    obtain rfl : k = 8 := by omega
    refine N.iload3 dX5_status_179 ?_
    refine N.bipush (v := 8) dX5_status_180 (by decide) ?_
    refine N.icmp_ge (tgt := 208) dX5_status_182 (by decide) (fun c182 => ?_) (fun c182 => absurd (by decide) c182)
    refine N.iload2 dX5_status_208 ?_
    exact N.iret dX5_status_209 rfl (Nat.zero_le _) (Nat.zero_le _) ⟨_, rfl, hP⟩
  | succ nn ih =>
    intro k hk
    refine N.iload3 dX5_status_179 ?_
    refine N.bipush (v := 8) dX5_status_180 (by decide) ?_
    refine N.icmp_ge (tgt := 208) dX5_status_182 (by decide) (fun c182 => absurd c182 (nI_ge (a := k) (b := 8) (by omega) (by omega))) (fun c182 => ?_)
    refine N.iload2 dX5_status_185 ?_
    refine N.aload0 dX5_status_186 ?_
    refine N.getf dX5_status_187 flX5_7 mO rfl ?_
    refine N.iload3 dX5_status_190 ?_
    refine N.iald dX5_status_191 mH0 (nI8 (by omega)) ?_
    refine N.if_eq (tgt := 199) dX5_status_192 (by decide) (fun c192 => ?_) (fun c192 => ?_)
    · refine N.iconst (v := 0) dX5_status_199 (by decide) ?_
      refine N.iadd dX5_status_200 ?_
      refine N.istore2 dX5_status_201 rfl ?_
      refine N.iinc3 dX5_status_202 rfl (nI_inc _) ?_
      refine N.goto (tgt := 179) dX5_status_205 (by decide) ?_
      exact N.wk (by rw [fsTo, if_pos c192]; exact ⟨rfl, rfl, rfl, rfl, trivial⟩) (ih (k + 1) (by omega))
    · refine N.iconst (v := 1) dX5_status_195 (by decide) ?_
      refine N.goto (tgt := 200) dX5_status_196 (by decide) ?_
      refine N.iadd dX5_status_200 ?_
      refine N.istore2 dX5_status_201 rfl ?_
      refine N.iinc3 dX5_status_202 rfl (nI_inc _) ?_
      refine N.goto (tgt := 179) dX5_status_205 (by decide) ?_
      exact N.wk (by rw [fsTo, if_neg c192]; exact ⟨rfl, rfl, rfl, rfl, trivial⟩) (ih (k + 1) (by omega))
def mstatus (m : Mst) (x : Int32) : Int32 × Mst := if x = 0 then (m.1.1 0, m) else if x = 1 then (m.1.1 1, m) else if x = 2 then (m.1.1 2, m) else if x = 3 then (if m.1.1 2 = 0 then (0, m) else (m.1.1 3, m)) else if x = 4 then (m.1.1 4, m) else if x = 5 then (m.1.1 5, m) else if x = 6 then (m.1.1 6, m) else if x = 7 then (m.1.1 7, m) else if x = 8 then (m.1.1 8, m) else if x = 9 then (m.1.1 9, m) else if x = 10 then (m.1.1 10, m) else if x = 11 then (m.1.1 11, m) else if x = 12 then sdM m x else if x = 13 then sdM m x else if x = 14 then sdM m x else if x = 15 then sdM m x else if x = 16 then sdM m x else if x = 17 then (m.2.1 0, m) else if x = 18 then (m.1.1 12, m) else if x = 19 then (fsTo m.2.2.1 8, m) else sdM m x
set_option maxRecDepth 100000 in
theorem s_X5_status {K : Kx} (w : Wd) (b sz : Nat) (v : CV) (e : M5) (t : Option Nat) (z : MX) (x : Int32) (ht : tOk G b sz t) (hM : okM (v, e)) : Sp K mX5_status 9 (kc t) (ks t) [.ref b, .int x] (putM K (tw K w t z) b (v, wt e t)) sz (Qi fun r w' sz' => r = (mstatus (v, e) x).1 ∧ ∃ t' z', w' = putM K (tw K w t' z') b ((mstatus (v, e) x).2.1, wt (mstatus (v, e) x).2.2 t') ∧ tOk G b sz' t' ∧ sz ≤ sz') := by
  refine Sp.ofN [some (.ref b), some (.int x), none, none] rfl rfl rfl (Nat.le_of_ble_eq_true rfl) ?_
  have h : okP v := hM.1
  refine N.iconst (v := 0) dX5_status_0 (by decide) ?_
  refine N.istore2 dX5_status_1 rfl ?_
  refine N.iload1 dX5_status_2 ?_
  refine N.swc 0 (fun t3_0 => ?_) (fun t3_0 => ?_)
  · refine N.tsIn (off := 93) (tgt := 96) 0 t3_0 dX5_status_3 (by decide) (by decide) (by decide) (by decide) ?_
    refine N.aload0 dX5_status_96 ?_
    refine N.getf dX5_status_97 flX5_74 mO rfl ?_
    exact N.iret dX5_status_100 rfl (Nat.zero_le _) (Nat.zero_le _) ⟨_, rfl, (by rw [mstatus, if_pos t3_0]; exact ⟨rfl, t, z, rfl, ht, Nat.le_refl _⟩)⟩
  refine N.swc 1 (fun t3_1 => ?_) (fun t3_1 => ?_)
  · refine N.tsIn (off := 98) (tgt := 101) 1 t3_1 dX5_status_3 (by decide) (by decide) (by decide) (by decide) ?_
    refine N.aload0 dX5_status_101 ?_
    refine N.getf dX5_status_102 flX5_116 mO rfl ?_
    exact N.iret dX5_status_105 rfl (Nat.zero_le _) (Nat.zero_le _) ⟨_, rfl, (by rw [mstatus, if_neg t3_0, if_pos t3_1]; exact ⟨rfl, t, z, rfl, ht, Nat.le_refl _⟩)⟩
  refine N.swc 2 (fun t3_2 => ?_) (fun t3_2 => ?_)
  · refine N.tsIn (off := 103) (tgt := 106) 2 t3_2 dX5_status_3 (by decide) (by decide) (by decide) (by decide) ?_
    refine N.aload0 dX5_status_106 ?_
    refine N.getf dX5_status_107 flX5_255 mO rfl ?_
    exact N.iret dX5_status_110 rfl (Nat.zero_le _) (Nat.zero_le _) ⟨_, rfl, (by rw [mstatus, if_neg t3_0, if_neg t3_1, if_pos t3_2]; exact ⟨rfl, t, z, rfl, ht, Nat.le_refl _⟩)⟩
  refine N.swc 3 (fun t3_3 => ?_) (fun t3_3 => ?_)
  · refine N.tsIn (off := 108) (tgt := 111) 3 t3_3 dX5_status_3 (by decide) (by decide) (by decide) (by decide) ?_
    refine N.aload0 dX5_status_111 ?_
    refine N.getf dX5_status_112 flX5_255 mO rfl ?_
    refine N.if_ne (tgt := 122) dX5_status_115 (by decide) (fun c115 => ?_) (fun c115 => ?_)
    · refine N.aload0 dX5_status_122 ?_
      refine N.getf dX5_status_123 flX5_265 mO rfl ?_
      exact N.iret dX5_status_126 rfl (Nat.zero_le _) (Nat.zero_le _) ⟨_, rfl, (by rw [mstatus, if_neg t3_0, if_neg t3_1, if_neg t3_2, if_pos t3_3, if_neg c115]; exact ⟨rfl, t, z, rfl, ht, Nat.le_refl _⟩)⟩
    · refine N.iconst (v := 0) dX5_status_118 (by decide) ?_
      refine N.goto (tgt := 126) dX5_status_119 (by decide) ?_
      exact N.iret dX5_status_126 rfl (Nat.zero_le _) (Nat.zero_le _) ⟨_, rfl, (by rw [mstatus, if_neg t3_0, if_neg t3_1, if_neg t3_2, if_pos t3_3, if_pos c115]; exact ⟨rfl, t, z, rfl, ht, Nat.le_refl _⟩)⟩
  refine N.swc 4 (fun t3_4 => ?_) (fun t3_4 => ?_)
  · refine N.tsIn (off := 124) (tgt := 127) 4 t3_4 dX5_status_3 (by decide) (by decide) (by decide) (by decide) ?_
    refine N.aload0 dX5_status_127 ?_
    refine N.getf dX5_status_128 flX5_52 mO rfl ?_
    exact N.iret dX5_status_131 rfl (Nat.zero_le _) (Nat.zero_le _) ⟨_, rfl, (by rw [mstatus, if_neg t3_0, if_neg t3_1, if_neg t3_2, if_neg t3_3, if_pos t3_4]; exact ⟨rfl, t, z, rfl, ht, Nat.le_refl _⟩)⟩
  refine N.swc 5 (fun t3_5 => ?_) (fun t3_5 => ?_)
  · refine N.tsIn (off := 129) (tgt := 132) 5 t3_5 dX5_status_3 (by decide) (by decide) (by decide) (by decide) ?_
    refine N.aload0 dX5_status_132 ?_
    refine N.getf dX5_status_133 flX5_146 mO rfl ?_
    exact N.iret dX5_status_136 rfl (Nat.zero_le _) (Nat.zero_le _) ⟨_, rfl, (by rw [mstatus, if_neg t3_0, if_neg t3_1, if_neg t3_2, if_neg t3_3, if_neg t3_4, if_pos t3_5]; exact ⟨rfl, t, z, rfl, ht, Nat.le_refl _⟩)⟩
  refine N.swc 6 (fun t3_6 => ?_) (fun t3_6 => ?_)
  · refine N.tsIn (off := 134) (tgt := 137) 6 t3_6 dX5_status_3 (by decide) (by decide) (by decide) (by decide) ?_
    refine N.aload0 dX5_status_137 ?_
    refine N.getf dX5_status_138 flX5_56 mO rfl ?_
    exact N.iret dX5_status_141 rfl (Nat.zero_le _) (Nat.zero_le _) ⟨_, rfl, (by rw [mstatus, if_neg t3_0, if_neg t3_1, if_neg t3_2, if_neg t3_3, if_neg t3_4, if_neg t3_5, if_pos t3_6]; exact ⟨rfl, t, z, rfl, ht, Nat.le_refl _⟩)⟩
  refine N.swc 7 (fun t3_7 => ?_) (fun t3_7 => ?_)
  · refine N.tsIn (off := 139) (tgt := 142) 7 t3_7 dX5_status_3 (by decide) (by decide) (by decide) (by decide) ?_
    refine N.aload0 dX5_status_142 ?_
    refine N.getf dX5_status_143 flX5_59 mO rfl ?_
    exact N.iret dX5_status_146 rfl (Nat.zero_le _) (Nat.zero_le _) ⟨_, rfl, (by rw [mstatus, if_neg t3_0, if_neg t3_1, if_neg t3_2, if_neg t3_3, if_neg t3_4, if_neg t3_5, if_neg t3_6, if_pos t3_7]; exact ⟨rfl, t, z, rfl, ht, Nat.le_refl _⟩)⟩
  refine N.swc 8 (fun t3_8 => ?_) (fun t3_8 => ?_)
  · refine N.tsIn (off := 144) (tgt := 147) 8 t3_8 dX5_status_3 (by decide) (by decide) (by decide) (by decide) ?_
    refine N.aload0 dX5_status_147 ?_
    refine N.getf dX5_status_148 flX5_286 mO rfl ?_
    exact N.iret dX5_status_151 rfl (Nat.zero_le _) (Nat.zero_le _) ⟨_, rfl, (by rw [mstatus, if_neg t3_0, if_neg t3_1, if_neg t3_2, if_neg t3_3, if_neg t3_4, if_neg t3_5, if_neg t3_6, if_neg t3_7, if_pos t3_8]; exact ⟨rfl, t, z, rfl, ht, Nat.le_refl _⟩)⟩
  refine N.swc 9 (fun t3_9 => ?_) (fun t3_9 => ?_)
  · refine N.tsIn (off := 149) (tgt := 152) 9 t3_9 dX5_status_3 (by decide) (by decide) (by decide) (by decide) ?_
    refine N.aload0 dX5_status_152 ?_
    refine N.getf dX5_status_153 flX5_289 mO rfl ?_
    exact N.iret dX5_status_156 rfl (Nat.zero_le _) (Nat.zero_le _) ⟨_, rfl, (by rw [mstatus, if_neg t3_0, if_neg t3_1, if_neg t3_2, if_neg t3_3, if_neg t3_4, if_neg t3_5, if_neg t3_6, if_neg t3_7, if_neg t3_8, if_pos t3_9]; exact ⟨rfl, t, z, rfl, ht, Nat.le_refl _⟩)⟩
  refine N.swc 10 (fun t3_10 => ?_) (fun t3_10 => ?_)
  · refine N.tsIn (off := 154) (tgt := 157) 10 t3_10 dX5_status_3 (by decide) (by decide) (by decide) (by decide) ?_
    refine N.aload0 dX5_status_157 ?_
    refine N.getf dX5_status_158 flX5_296 mO rfl ?_
    exact N.iret dX5_status_161 rfl (Nat.zero_le _) (Nat.zero_le _) ⟨_, rfl, (by rw [mstatus, if_neg t3_0, if_neg t3_1, if_neg t3_2, if_neg t3_3, if_neg t3_4, if_neg t3_5, if_neg t3_6, if_neg t3_7, if_neg t3_8, if_neg t3_9, if_pos t3_10]; exact ⟨rfl, t, z, rfl, ht, Nat.le_refl _⟩)⟩
  refine N.swc 11 (fun t3_11 => ?_) (fun t3_11 => ?_)
  · refine N.tsIn (off := 159) (tgt := 162) 11 t3_11 dX5_status_3 (by decide) (by decide) (by decide) (by decide) ?_
    refine N.aload0 dX5_status_162 ?_
    refine N.getf dX5_status_163 flX5_299 mO rfl ?_
    exact N.iret dX5_status_166 rfl (Nat.zero_le _) (Nat.zero_le _) ⟨_, rfl, (by rw [mstatus, if_neg t3_0, if_neg t3_1, if_neg t3_2, if_neg t3_3, if_neg t3_4, if_neg t3_5, if_neg t3_6, if_neg t3_7, if_neg t3_8, if_neg t3_9, if_neg t3_10, if_pos t3_11]; exact ⟨rfl, t, z, rfl, ht, Nat.le_refl _⟩)⟩
  refine N.swc 12 (fun t3_12 => ?_) (fun t3_12 => ?_)
  · refine N.tsIn (off := 207) (tgt := 210) 12 t3_12 dX5_status_3 (by decide) (by decide) (by decide) (by decide) ?_
    refine N.iload1 dX5_status_210 ?_
    refine N.i2l dX5_status_211 ?_
    refine N.ldc2 dX5_status_212 ctX5_388 ?_
    refine N.ldc2 dX5_status_215 ctX5_390 ?_
    refine N.si3 dX5_status_218 vX5_in lkX5_77 (s_X5_in _ _ _ _ _) rfl (Nat.le_of_ble_eq_true rfl) (Nat.le_of_ble_eq_true rfl) (Nat.zero_le _) (Nat.zero_le _) ?_
    rintro r1 _ _ ⟨er, rfl, rfl⟩
    obtain rfl := er.trans (inL_i (a := (12)) (b := (16)) rfl rfl)
    refine N.if_eq (tgt := 236) dX5_status_221 (by decide) (fun c221 => ?_) (fun c221 => ?_)
    · refine N.iconst (v := -1) dX5_status_236 (by decide) ?_
      exact N.iret dX5_status_237 rfl (Nat.zero_le _) (Nat.zero_le _) ⟨_, rfl, (by rw [mstatus, if_neg t3_0, if_neg t3_1, if_neg t3_2, if_neg t3_3, if_neg t3_4, if_neg t3_5, if_neg t3_6, if_neg t3_7, if_neg t3_8, if_neg t3_9, if_neg t3_10, if_neg t3_11, if_pos t3_12, sdM, if_pos c221]; exact ⟨rfl, t, z, rfl, ht, Nat.le_refl _⟩)⟩
    · refine N.aload0 dX5_status_224 ?_
      refine N.getf dX5_status_225 flX5_34 mO rfl ?_
      refine N.iload1 dX5_status_228 ?_
      refine N.bipush (v := 10) dX5_status_229 (by decide) ?_
      refine N.isub dX5_status_231 ?_
      refine N.iald dX5_status_232 mH5 (st8 c221) ?_
      refine N.goto (tgt := 237) dX5_status_233 (by decide) ?_
      exact N.iret dX5_status_237 rfl (Nat.zero_le _) (Nat.zero_le _) ⟨_, rfl, (by rw [mstatus, if_neg t3_0, if_neg t3_1, if_neg t3_2, if_neg t3_3, if_neg t3_4, if_neg t3_5, if_neg t3_6, if_neg t3_7, if_neg t3_8, if_neg t3_9, if_neg t3_10, if_neg t3_11, if_pos t3_12, sdM, if_neg c221]; exact ⟨rfl, t, z, rfl, ht, Nat.le_refl _⟩)⟩
  refine N.swc 13 (fun t3_13 => ?_) (fun t3_13 => ?_)
  · refine N.tsIn (off := 207) (tgt := 210) 13 t3_13 dX5_status_3 (by decide) (by decide) (by decide) (by decide) ?_
    refine N.iload1 dX5_status_210 ?_
    refine N.i2l dX5_status_211 ?_
    refine N.ldc2 dX5_status_212 ctX5_388 ?_
    refine N.ldc2 dX5_status_215 ctX5_390 ?_
    refine N.si3 dX5_status_218 vX5_in lkX5_77 (s_X5_in _ _ _ _ _) rfl (Nat.le_of_ble_eq_true rfl) (Nat.le_of_ble_eq_true rfl) (Nat.zero_le _) (Nat.zero_le _) ?_
    rintro r1 _ _ ⟨er, rfl, rfl⟩
    obtain rfl := er.trans (inL_i (a := (12)) (b := (16)) rfl rfl)
    refine N.if_eq (tgt := 236) dX5_status_221 (by decide) (fun c221 => ?_) (fun c221 => ?_)
    · refine N.iconst (v := -1) dX5_status_236 (by decide) ?_
      exact N.iret dX5_status_237 rfl (Nat.zero_le _) (Nat.zero_le _) ⟨_, rfl, (by rw [mstatus, if_neg t3_0, if_neg t3_1, if_neg t3_2, if_neg t3_3, if_neg t3_4, if_neg t3_5, if_neg t3_6, if_neg t3_7, if_neg t3_8, if_neg t3_9, if_neg t3_10, if_neg t3_11, if_neg t3_12, if_pos t3_13, sdM, if_pos c221]; exact ⟨rfl, t, z, rfl, ht, Nat.le_refl _⟩)⟩
    · refine N.aload0 dX5_status_224 ?_
      refine N.getf dX5_status_225 flX5_34 mO rfl ?_
      refine N.iload1 dX5_status_228 ?_
      refine N.bipush (v := 10) dX5_status_229 (by decide) ?_
      refine N.isub dX5_status_231 ?_
      refine N.iald dX5_status_232 mH5 (st8 c221) ?_
      refine N.goto (tgt := 237) dX5_status_233 (by decide) ?_
      exact N.iret dX5_status_237 rfl (Nat.zero_le _) (Nat.zero_le _) ⟨_, rfl, (by rw [mstatus, if_neg t3_0, if_neg t3_1, if_neg t3_2, if_neg t3_3, if_neg t3_4, if_neg t3_5, if_neg t3_6, if_neg t3_7, if_neg t3_8, if_neg t3_9, if_neg t3_10, if_neg t3_11, if_neg t3_12, if_pos t3_13, sdM, if_neg c221]; exact ⟨rfl, t, z, rfl, ht, Nat.le_refl _⟩)⟩
  refine N.swc 14 (fun t3_14 => ?_) (fun t3_14 => ?_)
  · refine N.tsIn (off := 207) (tgt := 210) 14 t3_14 dX5_status_3 (by decide) (by decide) (by decide) (by decide) ?_
    refine N.iload1 dX5_status_210 ?_
    refine N.i2l dX5_status_211 ?_
    refine N.ldc2 dX5_status_212 ctX5_388 ?_
    refine N.ldc2 dX5_status_215 ctX5_390 ?_
    refine N.si3 dX5_status_218 vX5_in lkX5_77 (s_X5_in _ _ _ _ _) rfl (Nat.le_of_ble_eq_true rfl) (Nat.le_of_ble_eq_true rfl) (Nat.zero_le _) (Nat.zero_le _) ?_
    rintro r1 _ _ ⟨er, rfl, rfl⟩
    obtain rfl := er.trans (inL_i (a := (12)) (b := (16)) rfl rfl)
    refine N.if_eq (tgt := 236) dX5_status_221 (by decide) (fun c221 => ?_) (fun c221 => ?_)
    · refine N.iconst (v := -1) dX5_status_236 (by decide) ?_
      exact N.iret dX5_status_237 rfl (Nat.zero_le _) (Nat.zero_le _) ⟨_, rfl, (by rw [mstatus, if_neg t3_0, if_neg t3_1, if_neg t3_2, if_neg t3_3, if_neg t3_4, if_neg t3_5, if_neg t3_6, if_neg t3_7, if_neg t3_8, if_neg t3_9, if_neg t3_10, if_neg t3_11, if_neg t3_12, if_neg t3_13, if_pos t3_14, sdM, if_pos c221]; exact ⟨rfl, t, z, rfl, ht, Nat.le_refl _⟩)⟩
    · refine N.aload0 dX5_status_224 ?_
      refine N.getf dX5_status_225 flX5_34 mO rfl ?_
      refine N.iload1 dX5_status_228 ?_
      refine N.bipush (v := 10) dX5_status_229 (by decide) ?_
      refine N.isub dX5_status_231 ?_
      refine N.iald dX5_status_232 mH5 (st8 c221) ?_
      refine N.goto (tgt := 237) dX5_status_233 (by decide) ?_
      exact N.iret dX5_status_237 rfl (Nat.zero_le _) (Nat.zero_le _) ⟨_, rfl, (by rw [mstatus, if_neg t3_0, if_neg t3_1, if_neg t3_2, if_neg t3_3, if_neg t3_4, if_neg t3_5, if_neg t3_6, if_neg t3_7, if_neg t3_8, if_neg t3_9, if_neg t3_10, if_neg t3_11, if_neg t3_12, if_neg t3_13, if_pos t3_14, sdM, if_neg c221]; exact ⟨rfl, t, z, rfl, ht, Nat.le_refl _⟩)⟩
  refine N.swc 15 (fun t3_15 => ?_) (fun t3_15 => ?_)
  · refine N.tsIn (off := 207) (tgt := 210) 15 t3_15 dX5_status_3 (by decide) (by decide) (by decide) (by decide) ?_
    refine N.iload1 dX5_status_210 ?_
    refine N.i2l dX5_status_211 ?_
    refine N.ldc2 dX5_status_212 ctX5_388 ?_
    refine N.ldc2 dX5_status_215 ctX5_390 ?_
    refine N.si3 dX5_status_218 vX5_in lkX5_77 (s_X5_in _ _ _ _ _) rfl (Nat.le_of_ble_eq_true rfl) (Nat.le_of_ble_eq_true rfl) (Nat.zero_le _) (Nat.zero_le _) ?_
    rintro r1 _ _ ⟨er, rfl, rfl⟩
    obtain rfl := er.trans (inL_i (a := (12)) (b := (16)) rfl rfl)
    refine N.if_eq (tgt := 236) dX5_status_221 (by decide) (fun c221 => ?_) (fun c221 => ?_)
    · refine N.iconst (v := -1) dX5_status_236 (by decide) ?_
      exact N.iret dX5_status_237 rfl (Nat.zero_le _) (Nat.zero_le _) ⟨_, rfl, (by rw [mstatus, if_neg t3_0, if_neg t3_1, if_neg t3_2, if_neg t3_3, if_neg t3_4, if_neg t3_5, if_neg t3_6, if_neg t3_7, if_neg t3_8, if_neg t3_9, if_neg t3_10, if_neg t3_11, if_neg t3_12, if_neg t3_13, if_neg t3_14, if_pos t3_15, sdM, if_pos c221]; exact ⟨rfl, t, z, rfl, ht, Nat.le_refl _⟩)⟩
    · refine N.aload0 dX5_status_224 ?_
      refine N.getf dX5_status_225 flX5_34 mO rfl ?_
      refine N.iload1 dX5_status_228 ?_
      refine N.bipush (v := 10) dX5_status_229 (by decide) ?_
      refine N.isub dX5_status_231 ?_
      refine N.iald dX5_status_232 mH5 (st8 c221) ?_
      refine N.goto (tgt := 237) dX5_status_233 (by decide) ?_
      exact N.iret dX5_status_237 rfl (Nat.zero_le _) (Nat.zero_le _) ⟨_, rfl, (by rw [mstatus, if_neg t3_0, if_neg t3_1, if_neg t3_2, if_neg t3_3, if_neg t3_4, if_neg t3_5, if_neg t3_6, if_neg t3_7, if_neg t3_8, if_neg t3_9, if_neg t3_10, if_neg t3_11, if_neg t3_12, if_neg t3_13, if_neg t3_14, if_pos t3_15, sdM, if_neg c221]; exact ⟨rfl, t, z, rfl, ht, Nat.le_refl _⟩)⟩
  refine N.swc 16 (fun t3_16 => ?_) (fun t3_16 => ?_)
  · refine N.tsIn (off := 207) (tgt := 210) 16 t3_16 dX5_status_3 (by decide) (by decide) (by decide) (by decide) ?_
    refine N.iload1 dX5_status_210 ?_
    refine N.i2l dX5_status_211 ?_
    refine N.ldc2 dX5_status_212 ctX5_388 ?_
    refine N.ldc2 dX5_status_215 ctX5_390 ?_
    refine N.si3 dX5_status_218 vX5_in lkX5_77 (s_X5_in _ _ _ _ _) rfl (Nat.le_of_ble_eq_true rfl) (Nat.le_of_ble_eq_true rfl) (Nat.zero_le _) (Nat.zero_le _) ?_
    rintro r1 _ _ ⟨er, rfl, rfl⟩
    obtain rfl := er.trans (inL_i (a := (12)) (b := (16)) rfl rfl)
    refine N.if_eq (tgt := 236) dX5_status_221 (by decide) (fun c221 => ?_) (fun c221 => ?_)
    · refine N.iconst (v := -1) dX5_status_236 (by decide) ?_
      exact N.iret dX5_status_237 rfl (Nat.zero_le _) (Nat.zero_le _) ⟨_, rfl, (by rw [mstatus, if_neg t3_0, if_neg t3_1, if_neg t3_2, if_neg t3_3, if_neg t3_4, if_neg t3_5, if_neg t3_6, if_neg t3_7, if_neg t3_8, if_neg t3_9, if_neg t3_10, if_neg t3_11, if_neg t3_12, if_neg t3_13, if_neg t3_14, if_neg t3_15, if_pos t3_16, sdM, if_pos c221]; exact ⟨rfl, t, z, rfl, ht, Nat.le_refl _⟩)⟩
    · refine N.aload0 dX5_status_224 ?_
      refine N.getf dX5_status_225 flX5_34 mO rfl ?_
      refine N.iload1 dX5_status_228 ?_
      refine N.bipush (v := 10) dX5_status_229 (by decide) ?_
      refine N.isub dX5_status_231 ?_
      refine N.iald dX5_status_232 mH5 (st8 c221) ?_
      refine N.goto (tgt := 237) dX5_status_233 (by decide) ?_
      exact N.iret dX5_status_237 rfl (Nat.zero_le _) (Nat.zero_le _) ⟨_, rfl, (by rw [mstatus, if_neg t3_0, if_neg t3_1, if_neg t3_2, if_neg t3_3, if_neg t3_4, if_neg t3_5, if_neg t3_6, if_neg t3_7, if_neg t3_8, if_neg t3_9, if_neg t3_10, if_neg t3_11, if_neg t3_12, if_neg t3_13, if_neg t3_14, if_neg t3_15, if_pos t3_16, sdM, if_neg c221]; exact ⟨rfl, t, z, rfl, ht, Nat.le_refl _⟩)⟩
  refine N.swc 17 (fun t3_17 => ?_) (fun t3_17 => ?_)
  · refine N.tsIn (off := 164) (tgt := 167) 17 t3_17 dX5_status_3 (by decide) (by decide) (by decide) (by decide) ?_
    refine N.aload0 dX5_status_167 ?_
    refine N.getf dX5_status_168 flX5_158 mO rfl ?_
    exact N.iret dX5_status_171 rfl (Nat.zero_le _) (Nat.zero_le _) ⟨_, rfl, (by rw [mstatus, if_neg t3_0, if_neg t3_1, if_neg t3_2, if_neg t3_3, if_neg t3_4, if_neg t3_5, if_neg t3_6, if_neg t3_7, if_neg t3_8, if_neg t3_9, if_neg t3_10, if_neg t3_11, if_neg t3_12, if_neg t3_13, if_neg t3_14, if_neg t3_15, if_neg t3_16, if_pos t3_17]; exact ⟨rfl, t, z, rfl, ht, Nat.le_refl _⟩)⟩
  refine N.swc 18 (fun t3_18 => ?_) (fun t3_18 => ?_)
  · refine N.tsIn (off := 169) (tgt := 172) 18 t3_18 dX5_status_3 (by decide) (by decide) (by decide) (by decide) ?_
    refine N.aload0 dX5_status_172 ?_
    refine N.getf dX5_status_173 flX5_62 mO rfl ?_
    exact N.iret dX5_status_176 rfl (Nat.zero_le _) (Nat.zero_le _) ⟨_, rfl, (by rw [mstatus, if_neg t3_0, if_neg t3_1, if_neg t3_2, if_neg t3_3, if_neg t3_4, if_neg t3_5, if_neg t3_6, if_neg t3_7, if_neg t3_8, if_neg t3_9, if_neg t3_10, if_neg t3_11, if_neg t3_12, if_neg t3_13, if_neg t3_14, if_neg t3_15, if_neg t3_16, if_neg t3_17, if_pos t3_18]; exact ⟨rfl, t, z, rfl, ht, Nat.le_refl _⟩)⟩
  refine N.swc 19 (fun t3_19 => ?_) (fun t3_19 => ?_)
  · refine N.tsIn (off := 174) (tgt := 177) 19 t3_19 dX5_status_3 (by decide) (by decide) (by decide) (by decide) ?_
    refine N.iconst (v := 0) dX5_status_177 (by decide) ?_
    refine N.istore3 dX5_status_178 rfl ?_
    exact N.wk (by exact ⟨rfl, rfl, rfl, rfl, trivial⟩) (l_X5_status _ b _ v (wt e t) _ _ x _ (mp_ok ht (by rw [mstatus, if_neg t3_0, if_neg t3_1, if_neg t3_2, if_neg t3_3, if_neg t3_4, if_neg t3_5, if_neg t3_6, if_neg t3_7, if_neg t3_8, if_neg t3_9, if_neg t3_10, if_neg t3_11, if_neg t3_12, if_neg t3_13, if_neg t3_14, if_neg t3_15, if_neg t3_16, if_neg t3_17, if_neg t3_18, if_pos t3_19])) 8 0 (by omega))
  refine N.tsOut (tgt := 210) dX5_status_3 (by have h0 := sw_ne t3_0 (z := 0) (by decide); have h1 := sw_ne t3_1 (z := 1) (by decide); have h2 := sw_ne t3_2 (z := 2) (by decide); have h3 := sw_ne t3_3 (z := 3) (by decide); have h4 := sw_ne t3_4 (z := 4) (by decide); have h5 := sw_ne t3_5 (z := 5) (by decide); have h6 := sw_ne t3_6 (z := 6) (by decide); have h7 := sw_ne t3_7 (z := 7) (by decide); have h8 := sw_ne t3_8 (z := 8) (by decide); have h9 := sw_ne t3_9 (z := 9) (by decide); have h10 := sw_ne t3_10 (z := 10) (by decide); have h11 := sw_ne t3_11 (z := 11) (by decide); have h12 := sw_ne t3_12 (z := 12) (by decide); have h13 := sw_ne t3_13 (z := 13) (by decide); have h14 := sw_ne t3_14 (z := 14) (by decide); have h15 := sw_ne t3_15 (z := 15) (by decide); have h16 := sw_ne t3_16 (z := 16) (by decide); have h17 := sw_ne t3_17 (z := 17) (by decide); have h18 := sw_ne t3_18 (z := 18) (by decide); have h19 := sw_ne t3_19 (z := 19) (by decide); omega) (by decide) ?_
  refine N.iload1 dX5_status_210 ?_
  refine N.i2l dX5_status_211 ?_
  refine N.ldc2 dX5_status_212 ctX5_388 ?_
  refine N.ldc2 dX5_status_215 ctX5_390 ?_
  refine N.si3 dX5_status_218 vX5_in lkX5_77 (s_X5_in _ _ _ _ _) rfl (Nat.le_of_ble_eq_true rfl) (Nat.le_of_ble_eq_true rfl) (Nat.zero_le _) (Nat.zero_le _) ?_
  rintro r1 _ _ ⟨er, rfl, rfl⟩
  obtain rfl := er.trans (inL_i (a := (12)) (b := (16)) rfl rfl)
  refine N.if_eq (tgt := 236) dX5_status_221 (by decide) (fun c221 => ?_) (fun c221 => ?_)
  · refine N.iconst (v := -1) dX5_status_236 (by decide) ?_
    exact N.iret dX5_status_237 rfl (Nat.zero_le _) (Nat.zero_le _) ⟨_, rfl, (by rw [mstatus, if_neg t3_0, if_neg t3_1, if_neg t3_2, if_neg t3_3, if_neg t3_4, if_neg t3_5, if_neg t3_6, if_neg t3_7, if_neg t3_8, if_neg t3_9, if_neg t3_10, if_neg t3_11, if_neg t3_12, if_neg t3_13, if_neg t3_14, if_neg t3_15, if_neg t3_16, if_neg t3_17, if_neg t3_18, if_neg t3_19, sdM, if_pos c221]; exact ⟨rfl, t, z, rfl, ht, Nat.le_refl _⟩)⟩
  · refine N.aload0 dX5_status_224 ?_
    refine N.getf dX5_status_225 flX5_34 mO rfl ?_
    refine N.iload1 dX5_status_228 ?_
    refine N.bipush (v := 10) dX5_status_229 (by decide) ?_
    refine N.isub dX5_status_231 ?_
    refine N.iald dX5_status_232 mH5 (st8 c221) ?_
    refine N.goto (tgt := 237) dX5_status_233 (by decide) ?_
    exact N.iret dX5_status_237 rfl (Nat.zero_le _) (Nat.zero_le _) ⟨_, rfl, (by rw [mstatus, if_neg t3_0, if_neg t3_1, if_neg t3_2, if_neg t3_3, if_neg t3_4, if_neg t3_5, if_neg t3_6, if_neg t3_7, if_neg t3_8, if_neg t3_9, if_neg t3_10, if_neg t3_11, if_neg t3_12, if_neg t3_13, if_neg t3_14, if_neg t3_15, if_neg t3_16, if_neg t3_17, if_neg t3_18, if_neg t3_19, sdM, if_neg c221]; exact ⟨rfl, t, z, rfl, ht, Nat.le_refl _⟩)⟩
def zrT (f : Nat → Int64) : Nat → (Nat → Int64)
  | 0 => f
  | k + 1 => vp_updL (zrT f k) (nI k).toNatClampNeg 0
theorem zrT_lt (f : Nat → Int64) : ∀ k j, k < 2 ^ 31 → j < k → zrT f k j = 0
  | 0, j, _, h => absurd h (Nat.not_lt_zero _)
  | k + 1, j, hk, h => by
    rw [zrT, nI_clamp (by omega)]
    unfold vp_updL
    by_cases e : j = k
    · rw [if_pos e]
    · rw [if_neg e]; exact zrT_lt f k j (by omega) (by omega)
theorem upL_at {A : Nat → Nat → Int64} {k : Nat} {f : Nat → Int64} : upL A k f k = f := if_pos rfl
theorem upL_up {A : Nat → Nat → Int64} {k : Nat} {f g : Nat → Int64} : upL (upL A k f) k g = upL A k g := by
  funext j
  unfold upL
  by_cases h : j = k
  · rw [if_pos h, if_pos h]
  · rw [if_neg h, if_neg h, if_neg h]
theorem upL_id {A : Nat → Nat → Int64} {k : Nat} : A = upL A k (A k) := by
  funext j
  unfold upL
  by_cases h : j = k
  · rw [if_pos h, h]
  · rw [if_neg h]
def rwE (E : ME) (i : Nat) (f : Nat → Int64) : ME := (E.1, E.2.1, upL E.2.2.1 i f, E.2.2.2)
theorem mRz {K : Kx} {w : Wd} {b i : Nat} {v : CV} {E : ME} {f : Nat → Int64} (hi : i < 8) : putM K w b (v, rwE E i f) (b + (5 + i)) = some (.inl (kC K 1, 40, .inr (.inl f))) := (mR hi).trans (congrArg (fun q => (some (.inl (kC K 1, 40, .inr (.inl q))) : Option va_E)) upL_at)
theorem mRKz {K : Kx} {w : Wd} {b i : Nat} {v : CV} {E : ME} {f g : Nat → Int64} (hi : i < 8) : upW (putM K w b (v, rwE E i f)) (b + (5 + i)) (.inl (kC K 1, 40, .inr (.inl g))) = putM K w b (v, rwE E i g) := (mRK hi).trans (congrArg (fun q => putM K w b (v, E.1, E.2.1, q, E.2.2.2)) upL_up)
theorem HW.rwz {K : Kx} {w : Wd} {b i sz : Nat} {v : CV} {E : ME} {f g : Nat → Int64} (hi : i < 8) (h : ∀ j, j < 40 → f j = g j) : ∀ H, HW K (putM K w b (v, rwE E i f)) sz H → HW K (putM K w b (v, rwE E i g)) sz H := by
  intro H hH
  rw [← mRKz (f := fun _ => 0) hi] at hH ⊢
  exact HW.arrL h H hH
set_option maxRecDepth 100000 in
theorem l_X5_row {K : Kx} (w : Wd) (b sz : Nat) (v : CV) (E : ME) (mc ms : Nat) (s y n : Int32) (c9 : ¬ isInF s 0 7 = 0) (hs : s.toNatClampNeg < 8) (f : Nat → Int64) (P : Int32 → Wd → Nat → Prop) (hP : P 1 (putM K w b (v, rwE E s.toNatClampNeg (fun _ => 0))) sz) : ∀ nn k, k + nn = 40 → N K mX5_row 9 mc ms (Qi P) 67 [some (.ref b), some (.int s), some (.int y), some (.int n), some (.int (nI k))] [] (putM K w b (v, rwE E s.toNatClampNeg (zrT f k))) sz 0 0 := by
  intro nn
  induction nn with
  | zero =>
    intro k hk
    obtain rfl : k = 40 := by omega
    refine N.hw (HW.rwz hs (fun j hj => zrT_lt f 40 j (by omega) hj)) ?_
    refine N.iload4 dX5_row_67 ?_
    refine N.bipush (v := 40) dX5_row_69 (by decide) ?_
    refine N.icmp_ge (tgt := 90) dX5_row_71 (by decide) (fun c71 => ?_) (fun c71 => absurd (by decide) c71)
    refine N.iconst (v := 1) dX5_row_90 (by decide) ?_
    exact N.iret dX5_row_91 rfl (Nat.zero_le _) (Nat.zero_le _) ⟨_, rfl, hP⟩
  | succ nn ih =>
    intro k hk
    refine N.iload4 dX5_row_67 ?_
    refine N.bipush (v := 40) dX5_row_69 (by decide) ?_
    refine N.icmp_ge (tgt := 90) dX5_row_71 (by decide) (fun c71 => absurd c71 (nI_ge (a := k) (b := 40) (by omega) (by omega))) (fun c71 => ?_)
    refine N.aload0 dX5_row_74 ?_
    refine N.getf dX5_row_75 flX5_21 mO rfl ?_
    refine N.iload1 dX5_row_78 ?_
    refine N.aaldA dX5_row_79 mW (sh8v c9) (mRv hs) ?_
    refine N.iload4 dX5_row_80 ?_
    refine N.lconst (v := 0) dX5_row_82 (by decide) ?_
    refine N.last dX5_row_83 (mRz hs) (in40 (by omega)) (mRKz hs) ?_
    refine N.iinc4 dX5_row_84 rfl (nI_inc _) ?_
    refine N.goto (tgt := 67) dX5_row_87 (by decide) ?_
    exact ih (k + 1) (by omega)
def rowA (A : Nat → Nat → Int32) (s y n : Int32) : Nat → Nat → Int32 := upA (upA (upA A 0 (upd (A 0) s.toNatClampNeg 1)) 1 (upd (A 1) s.toNatClampNeg y)) 2 (upd (A 2) s.toNatClampNeg n)
def mrow (m : Mst) (s y n : Int32) : Int32 × Mst := if isInF s 0 7 = 0 then rm m (-2) else if isInF y 0 4 = 0 then rm m (-2) else if isInF n 0 40 = 0 then rm m (-2) else (1, m.1, m.2.1, rowA m.2.2.1 s y n, upL m.2.2.2.1 s.toNatClampNeg (fun _ => 0), m.2.2.2.2)
set_option maxRecDepth 100000 in
theorem s_X5_row {K : Kx} (w : Wd) (b sz : Nat) (v : CV) (e : M5) (t : Option Nat) (z : MX) (s : Int32) (y : Int32) (n : Int32) (ht : tOk G b sz t) (hM : okM (v, e)) : Sp K mX5_row 9 (kc t) (ks t) [.ref b, .int s, .int y, .int n] (putM K (tw K w t z) b (v, wt e t)) sz (Qi fun r w' sz' => r = (mrow (v, e) s y n).1 ∧ ∃ t' z', w' = putM K (tw K w t' z') b ((mrow (v, e) s y n).2.1, wt (mrow (v, e) s y n).2.2 t') ∧ tOk G b sz' t' ∧ sz ≤ sz') := by
  refine Sp.ofN [some (.ref b), some (.int s), some (.int y), some (.int n), none] rfl rfl rfl (Nat.le_of_ble_eq_true rfl) ?_
  have h : okP v := hM.1
  refine N.iload1 dX5_row_0 ?_
  refine N.i2l dX5_row_1 ?_
  refine N.lconst (v := 0) dX5_row_2 (by decide) ?_
  refine N.ldc2 dX5_row_3 ctX5_83 ?_
  refine N.si3 dX5_row_6 vX5_in lkX5_77 (s_X5_in _ _ _ _ _) rfl (Nat.le_of_ble_eq_true rfl) (Nat.le_of_ble_eq_true rfl) (Nat.zero_le _) (Nat.zero_le _) ?_
  rintro r1 _ _ ⟨er, rfl, rfl⟩
  obtain rfl := er.trans (inL_i (a := (0)) (b := (7)) rfl rfl)
  refine N.if_eq (tgt := 36) dX5_row_9 (by decide) (fun c9 => ?_) (fun c9 => ?_)
  · refine N.aload0 dX5_row_36 ?_
    refine N.bipush (v := -2) dX5_row_37 (by decide) ?_
    refine N.vi1 dX5_row_39 vX5_refuse lkX5_89 (s_X5_refuse _ _ _ _ _ _ rfIn2) mO rfl (Nat.le_of_ble_eq_true rfl) (Nat.le_of_ble_eq_true rfl) (Nat.zero_le _) (Nat.zero_le _) ?_
    rintro _ _ _ ⟨rfl, rfl, rfl⟩
    exact N.iret dX5_row_42 rfl (Nat.zero_le _) (Nat.zero_le _) ⟨_, rfl, (by rw [mrow, if_pos c9]; exact rmf_ok ht)⟩
  · refine N.iload2 dX5_row_12 ?_
    refine N.i2l dX5_row_13 ?_
    refine N.lconst (v := 0) dX5_row_14 (by decide) ?_
    refine N.ldc2 dX5_row_15 ctX5_85 ?_
    refine N.si3 dX5_row_18 vX5_in lkX5_77 (s_X5_in _ _ _ _ _) rfl (Nat.le_of_ble_eq_true rfl) (Nat.le_of_ble_eq_true rfl) (Nat.zero_le _) (Nat.zero_le _) ?_
    rintro r1 _ _ ⟨er, rfl, rfl⟩
    obtain rfl := er.trans (inL_i (a := (0)) (b := (4)) rfl rfl)
    refine N.if_eq (tgt := 36) dX5_row_21 (by decide) (fun c21 => ?_) (fun c21 => ?_)
    · refine N.aload0 dX5_row_36 ?_
      refine N.bipush (v := -2) dX5_row_37 (by decide) ?_
      refine N.vi1 dX5_row_39 vX5_refuse lkX5_89 (s_X5_refuse _ _ _ _ _ _ rfIn2) mO rfl (Nat.le_of_ble_eq_true rfl) (Nat.le_of_ble_eq_true rfl) (Nat.zero_le _) (Nat.zero_le _) ?_
      rintro _ _ _ ⟨rfl, rfl, rfl⟩
      exact N.iret dX5_row_42 rfl (Nat.zero_le _) (Nat.zero_le _) ⟨_, rfl, (by rw [mrow, if_neg c9, if_pos c21]; exact rmf_ok ht)⟩
    · refine N.iload3 dX5_row_24 ?_
      refine N.i2l dX5_row_25 ?_
      refine N.lconst (v := 0) dX5_row_26 (by decide) ?_
      refine N.ldc2 dX5_row_27 ctX5_87 ?_
      refine N.si3 dX5_row_30 vX5_in lkX5_77 (s_X5_in _ _ _ _ _) rfl (Nat.le_of_ble_eq_true rfl) (Nat.le_of_ble_eq_true rfl) (Nat.zero_le _) (Nat.zero_le _) ?_
      rintro r1 _ _ ⟨er, rfl, rfl⟩
      obtain rfl := er.trans (inL_i (a := (0)) (b := (40)) rfl rfl)
      refine N.if_ne (tgt := 43) dX5_row_33 (by decide) (fun c33 => ?_) (fun c33 => ?_)
      · refine N.aload0 dX5_row_43 ?_
        refine N.getf dX5_row_44 flX5_7 mO rfl ?_
        refine N.iload1 dX5_row_47 ?_
        refine N.iconst (v := 1) dX5_row_48 (by decide) ?_
        refine N.iast dX5_row_49 mH0 (sh8v c9) mHK0 ?_
        refine N.aload0 dX5_row_50 ?_
        refine N.getf dX5_row_51 flX5_13 mO rfl ?_
        refine N.iload1 dX5_row_54 ?_
        refine N.iload2 dX5_row_55 ?_
        refine N.iast dX5_row_56 mH1 (sh8v c9) mHK1 ?_
        refine N.aload0 dX5_row_57 ?_
        refine N.getf dX5_row_58 flX5_16 mO rfl ?_
        refine N.iload1 dX5_row_61 ?_
        refine N.iload3 dX5_row_62 ?_
        refine N.iast dX5_row_63 mH2 (sh8v c9) mHK2 ?_
        have hs := sh8 c9
        refine N.iconst (v := 0) dX5_row_64 (by decide) ?_
        refine N.istore4 dX5_row_65 rfl ?_
        exact N.eqW (w' := putM K (tw K w t z) b (v, rwE (e.1, rowA e.2.1 s y n, e.2.2.1, e.2.2.2.1, e.2.2.2.2, t) s.toNatClampNeg (e.2.2.1 s.toNatClampNeg))) (congrArg (fun q => putM K (tw K w t z) b (v, e.1, rowA e.2.1 s y n, q, e.2.2.2.1, e.2.2.2.2, t)) upL_id) (N.wk (by exact ⟨rfl, rfl, rfl, rfl, rfl, trivial⟩) (l_X5_row _ b _ v (e.1, rowA e.2.1 s y n, e.2.2.1, e.2.2.2.1, e.2.2.2.2, t) _ _ s y n c9 hs _ _ (mp_ok (e := (e.1, rowA e.2.1 s y n, upL e.2.2.1 s.toNatClampNeg (fun _ => 0), e.2.2.2)) ht (by rw [mrow, if_neg c9, if_neg c21, if_neg c33])) 40 0 (by omega)))
      · refine N.aload0 dX5_row_36 ?_
        refine N.bipush (v := -2) dX5_row_37 (by decide) ?_
        refine N.vi1 dX5_row_39 vX5_refuse lkX5_89 (s_X5_refuse _ _ _ _ _ _ rfIn2) mO rfl (Nat.le_of_ble_eq_true rfl) (Nat.le_of_ble_eq_true rfl) (Nat.zero_le _) (Nat.zero_le _) ?_
        rintro _ _ _ ⟨rfl, rfl, rfl⟩
        exact N.iret dX5_row_42 rfl (Nat.zero_le _) (Nat.zero_le _) ⟨_, rfl, (by rw [mrow, if_neg c9, if_neg c21, if_pos c33]; exact rmf_ok ht)⟩
