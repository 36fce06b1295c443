variable {G : Nat → Prop}
def sfR (v : CV) (c : Int32) : Nat → CV → Int32 → Int32 → Int32 → Int32
  | 0, u, _, s, y => s + goG u y
  | f + 1, u, l, s, y => if y ≤ c then s + goG u y else sfR v c f (chM (goV u c) (nlM v l)) (nlM v l) (s + goG u c) (y - c)
def sfM (v : CV) (c n : Int32) : Int32 := sfR v c n.toNatClampNeg (putOnV v (v.2 4 (nlM v 3).toNatClampNeg)) (nlM v 3) 0 n
theorem nx_vp {v : CV} : ∀ n j, j < 4 → vp_in (nxM v n (nI j)) 4
  | 0, j, h => in4 h
  | n + 1, j, h => by
    rw [nxM]
    split
    · rw [nx4_n j h]; exact nx_vp n _ (by omega)
    · exact in4 h
theorem nl_vp {v : CV} {l : Int32} (hl : vp_in l 4) : vp_in (nlM v l) 4 := by
  obtain ⟨j, hj, rfl⟩ := vp4 hl
  rw [nlM, nx4_n j hj]
  exact nx_vp _ _ (by omega)
set_option maxRecDepth 100000 in
theorem l_X5_shiftsOf {K : Kx} (w : Wd) (b sz : Nat) (v : CV) (E : ME) (mc ms : Nat) (c n : Int32) (q : Nat) (hd : apG G q b) (cc ss : Nat) (hcc : cc ≤ mc) (hss : ss ≤ ms) (c0 : Nat) (hc0 : 1 ≤ c0) (hc1 : c0 ≤ 600) (hc : c = nI c0) (hf : ¬ nlF v = 1) (P : Int32 → Wd → Nat → Prop) (R : Int32) (hP : ∀ y, P R (putM K (putM K w q y) b (v, E)) sz) : ∀ nn (a : Nat) (u : CV) (E2 : ME) (l s : Int32), a ≤ nn → a ≤ 600 → okP u → vp_in l 4 → sfR v c nn u l s (nI a) = R → N K mX5_shiftsOf 5 mc ms (Qi P) 24 [some (.ref b), some (.int c), some (.int n), some (.ref q), some (.int l), some (.int s), some (.int (nI a))] [] (putM K (putM K w q (u, E2)) b (v, E)) sz cc ss := by
  intro nn
  induction nn with
  | zero =>
    intro a u E2 l s ha ha6 ho hl hR
    obtain rfl : a = 0 := by omega
    refine N.iload6 dX5_shiftsOf_24 ?_
    refine N.iload1 dX5_shiftsOf_26 ?_
    refine N.icmp_le (tgt := 64) dX5_shiftsOf_27 (by decide) (fun c27 => ?_) (fun c27 => absurd (by rw [hc]; exact nI_le (by omega) (by omega)) c27)
    refine N.iload5 dX5_shiftsOf_64 ?_
    refine N.aload3 dX5_shiftsOf_66 ?_
    refine N.iload6 dX5_shiftsOf_67 ?_
    refine N.vi1 dX5_shiftsOf_69 vX5_goes lkX5_316 (Sp.mi hd fun W => s_X5_goes W _ _ _ _ _ ho 0 (by omega) rfl) (tO hd) rfl (Nat.le_of_ble_eq_true rfl) (Nat.le_of_ble_eq_true rfl) (by omega) (by omega) ?_
    rintro _ _ _ ⟨rfl, rfl, rfl⟩
    refine N.iadd dX5_shiftsOf_72 ?_
    exact N.iret dX5_shiftsOf_73 rfl (by omega) (by omega) ⟨_, rfl, (by rw [← hR, sfR] at hP; exact hP _)⟩
  | succ nn ih =>
    intro a u E2 l s ha ha6 ho hl hR
    refine N.iload6 dX5_shiftsOf_24 ?_
    refine N.iload1 dX5_shiftsOf_26 ?_
    refine N.icmp_le (tgt := 64) dX5_shiftsOf_27 (by decide) (fun c27 => ?_) (fun c27 => ?_)
    · refine N.iload5 dX5_shiftsOf_64 ?_
      refine N.aload3 dX5_shiftsOf_66 ?_
      refine N.iload6 dX5_shiftsOf_67 ?_
      refine N.vi1 dX5_shiftsOf_69 vX5_goes lkX5_316 (Sp.mi hd fun W => s_X5_goes W _ _ _ _ _ ho a ha6 rfl) (tO hd) rfl (Nat.le_of_ble_eq_true rfl) (Nat.le_of_ble_eq_true rfl) (by omega) (by omega) ?_
      rintro _ _ _ ⟨rfl, rfl, rfl⟩
      refine N.iadd dX5_shiftsOf_72 ?_
      exact N.iret dX5_shiftsOf_73 rfl (by omega) (by omega) ⟨_, rfl, (by rw [← hR, sfR, if_pos c27] at hP; exact hP _)⟩
    · refine N.iload5 dX5_shiftsOf_30 ?_
      refine N.aload3 dX5_shiftsOf_32 ?_
      refine N.iload1 dX5_shiftsOf_33 ?_
      refine N.vi1 dX5_shiftsOf_34 vX5_goes lkX5_316 (Sp.mi hd fun W => s_X5_goes W _ _ _ _ _ ho c0 hc1 hc) (tO hd) rfl (Nat.le_of_ble_eq_true rfl) (Nat.le_of_ble_eq_true rfl) (by omega) (by omega) ?_
      rintro _ _ _ ⟨rfl, rfl, rfl⟩
      refine N.iadd dX5_shiftsOf_37 ?_
      refine N.istore5 dX5_shiftsOf_38 rfl ?_
      refine N.iload6 dX5_shiftsOf_40 ?_
      refine N.iload1 dX5_shiftsOf_42 ?_
      refine N.isub dX5_shiftsOf_43 ?_
      refine N.istore6 dX5_shiftsOf_44 rfl ?_
      refine N.aload0 dX5_shiftsOf_46 ?_
      refine N.iload4 dX5_shiftsOf_47 ?_
      refine N.vi1 dX5_shiftsOf_49 vX5_nextLine lkX5_326 (s_X5_nextLine _ _ _ _ _ _ hl hf) mO rfl (Nat.le_of_ble_eq_true rfl) (Nat.le_of_ble_eq_true rfl) (by omega) (by omega) ?_
      rintro _ _ _ ⟨rfl, rfl, rfl⟩
      refine N.istore4 dX5_shiftsOf_52 rfl ?_
      refine N.aload3 dX5_shiftsOf_54 ?_
      refine N.iload4 dX5_shiftsOf_55 ?_
      refine N.vi1 dX5_shiftsOf_57 vX5_changes lkX5_323 (Sp.mi hd fun W => s_X5_changes W _ _ _ _ _ (nl_vp hl) (goM_ok ho _)) (tO hd) rfl (Nat.le_of_ble_eq_true rfl) (Nat.le_of_ble_eq_true rfl) (by omega) (by omega) ?_
      rintro _ _ _ ⟨rfl, rfl, rfl⟩
      refine N.pop dX5_shiftsOf_60 rfl ?_
      refine N.goto (tgt := 24) dX5_shiftsOf_61 (by decide) ?_
      have hlt : ¬ a ≤ c0 := fun q => c27 (by rw [hc]; exact nI_le q (by omega))
      have ey : nI a - c = nI (a - c0) := by rw [hc]; exact nI_sub (by omega)
      refine N.eqL (show _ = [some (.ref b), some (.int c), some (.int n), some (.ref q), some (.int (nlM v l)), some (.int (s + goG u c)), some (.int (nI (a - c0)))] by rw [← ey]) (ih (a - c0) _ _ _ _ (by omega) (by omega) (okP.chm (goM_ok ho _) _) (nl_vp hl) ?_)
      rw [← hR, sfR, if_neg c27, ey]
set_option maxRecDepth 100000 in
theorem s_X5_shiftsOf {K : Kx} (w : Wd) (b sz : Nat) (v : CV) (e : M5) (t : Option Nat) (z : MX) (c : Int32) (n : Int32) (ht : tOk G b sz t) (h : okP v) (c0 : Nat) (hc0 : 1 ≤ c0) (hc1 : c0 ≤ 600) (hc : c = nI c0) (hf : ¬ nlF v = 1) (m : Nat) (hm : m ≤ 600) (hn : n = nI m) : Sp K mX5_shiftsOf 5 (kc t) (ks t) [.ref b, .int c, .int n] (putM K (tw K w t z) b (v, wt e t)) sz (Qi fun r w' sz' => r = sfM v c n ∧ ∃ q y, w' = putM K (putM K w q y) b (v, wt e (some q)) ∧ apG G q b ∧ sz ≤ sz') := by
  refine Sp.ofN [some (.ref b), some (.int c), some (.int n), none, none, none, none] rfl rfl rfl (Nat.le_of_ble_eq_true rfl) ?_
  refine N.aload0 dX5_shiftsOf_0 ?_
  refine N.va0A dX5_shiftsOf_1 vX5_fresh lkX5_248 (s_X5_fresh w b _ v e t z ht) mO rfl (Nat.le_of_ble_eq_true rfl) (Nat.le_of_ble_eq_true rfl) (by omega) (by omega) ?_
  rintro q _ sz2 ⟨z2, rfl, hd, hz⟩
  refine N.astore3 dX5_shiftsOf_4 rfl ?_
  refine N.aload0 dX5_shiftsOf_5 ?_
  refine N.iconst (v := 3) dX5_shiftsOf_6 (by decide) ?_
  refine N.vi1 dX5_shiftsOf_7 vX5_nextLine lkX5_326 (s_X5_nextLine _ _ _ _ _ _ (in4 (k := 3) (by decide)) hf) mO rfl (Nat.le_of_ble_eq_true rfl) (Nat.le_of_ble_eq_true rfl) (by omega) (by omega) ?_
  rintro _ _ _ ⟨rfl, rfl, rfl⟩
  refine N.istore4 dX5_shiftsOf_10 rfl ?_
  refine N.aload3 dX5_shiftsOf_12 ?_
  refine N.iload4 dX5_shiftsOf_13 ?_
  refine N.vv1 dX5_shiftsOf_15 vX5_whistles lkX5_218 (Sp.mv hd fun W => s_X5_whistles W _ _ _ _ _ (nl_vp (in4 (k := 3) (by decide)))) (tO hd) rfl (Nat.le_of_ble_eq_true rfl) (Nat.le_of_ble_eq_true rfl) (by omega) (by omega) ?_
  rintro _ _ ⟨rfl, rfl⟩
  obtain rfl : n = nI m := hn
  refine N.iconst (v := 0) dX5_shiftsOf_18 (by decide) ?_
  refine N.istore5 dX5_shiftsOf_19 rfl ?_
  refine N.iload2 dX5_shiftsOf_21 ?_
  refine N.istore6 dX5_shiftsOf_22 rfl ?_
  exact N.wk (by exact ⟨rfl, rfl, rfl, rfl, rfl, rfl, rfl, trivial⟩) (l_X5_shiftsOf w b _ v (wt e (some q)) _ _ c (nI m) q hd _ _ (by omega) (by omega) c0 hc0 hc1 hc hf _ _ (fun y => ⟨rfl, q, y, rfl, hd, hz⟩) (nI m).toNatClampNeg m _ _ _ 0 (by rw [nI_clamp (by omega)]; exact Nat.le_refl _) hm (h.on _) (nl_vp (in4 (k := 3) (by decide))) rfl)
theorem in5_99 {c : Int32} (h : ¬ isInF c 5 99 = 0) : ∃ c0, 1 ≤ c0 ∧ c0 ≤ 600 ∧ c = nI c0 := by
  obtain ⟨h1, h2⟩ := isIn_ne h
  have e1 := Int32.not_lt.mp h1
  have e2 := Int32.not_lt.mp h2
  obtain ⟨m, hm, rfl⟩ := nI_of (x := c) (fun q => absurd (show (5 : Int32) < 0 from Int32.lt_of_le_of_lt e1 q) (by decide))
  have a1 := nI_le' (a := 5) (by decide) e1
  have a2 := nI_le' (c := 99) hm e2
  exact ⟨m, by omega, by omega, rfl⟩
def mshifts (m : Mst) (c n : Int32) : Int32 × Mst := if isInF c 5 99 = 0 then rn m (-2) else if isInF n 0 600 = 0 then rn m (-2) else if nlF m.1 = 0 then (sfM m.1 c n, m) else rn m (-5)
set_option maxRecDepth 100000 in
theorem s_X5_shifts {K : Kx} (w : Wd) (b sz : Nat) (v : CV) (e : M5) (t : Option Nat) (z : MX) (c : Int32) (n : Int32) (ht : tOk G b sz t) (hM : okM (v, e)) : Sp K mX5_shifts 9 (kc t) (ks t) [.ref b, .int c, .int n] (putM K (tw K w t z) b (v, wt e t)) sz (Qi fun r w' sz' => r = (mshifts (v, e) c n).1 ∧ ∃ t' z', w' = putM K (tw K w t' z') b ((mshifts (v, e) c n).2.1, wt (mshifts (v, e) c n).2.2 t') ∧ tOk G b sz' t' ∧ sz ≤ sz') := by
  refine Sp.ofN [some (.ref b), some (.int c), some (.int n)] rfl rfl rfl (Nat.le_of_ble_eq_true rfl) ?_
  have h : okP v := hM.1
  refine N.iload1 dX5_shifts_0 ?_
  refine N.i2l dX5_shifts_1 ?_
  refine N.ldc2 dX5_shifts_2 ctX5_104 ?_
  refine N.ldc2 dX5_shifts_5 ctX5_128 ?_
  refine N.si3 dX5_shifts_8 vX5_in lkX5_77 (s_X5_in _ _ _ _ _) rfl (Nat.le_of_ble_eq_true rfl) (Nat.le_of_ble_eq_true rfl) (by omega) (by omega) ?_
  rintro r1 _ _ ⟨er, rfl, rfl⟩
  obtain rfl := er.trans (inL_i (a := (5)) (b := (99)) rfl rfl)
  refine N.if_eq (tgt := 26) dX5_shifts_11 (by decide) (fun c11 => ?_) (fun c11 => ?_)
  · refine N.aload0 dX5_shifts_26 ?_
    refine N.bipush (v := -2) dX5_shifts_27 (by decide) ?_
    refine N.vi1 dX5_shifts_29 vX5_refuse lkX5_89 (s_X5_refuse _ _ _ _ _ _ rfIn2) mO rfl (Nat.le_of_ble_eq_true rfl) (Nat.le_of_ble_eq_true rfl) (by omega) (by omega) ?_
    rintro _ _ _ ⟨rfl, rfl, rfl⟩
    refine N.si1 dX5_shifts_32 vX5_far lkX5_320 (s_X5_far _ _ _) rfl (Nat.le_of_ble_eq_true rfl) (Nat.le_of_ble_eq_true rfl) (by omega) (by omega) ?_
    rintro _ _ _ ⟨rfl, rfl, rfl⟩
    exact N.iret dX5_shifts_35 rfl (by omega) (by omega) ⟨_, rfl, (by rw [mshifts, if_pos c11]; exact rnf_ok ht)⟩
  · refine N.iload2 dX5_shifts_14 ?_
    refine N.i2l dX5_shifts_15 ?_
    refine N.lconst (v := 0) dX5_shifts_16 (by decide) ?_
    refine N.ldc2 dX5_shifts_17 ctX5_314 ?_
    refine N.si3 dX5_shifts_20 vX5_in lkX5_77 (s_X5_in _ _ _ _ _) rfl (Nat.le_of_ble_eq_true rfl) (Nat.le_of_ble_eq_true rfl) (by omega) (by omega) ?_
    rintro r1 _ _ ⟨er, rfl, rfl⟩
    obtain rfl := er.trans (inL_i (a := (0)) (b := (600)) rfl rfl)
    refine N.if_ne (tgt := 36) dX5_shifts_23 (by decide) (fun c23 => ?_) (fun c23 => ?_)
    · refine N.aload0 dX5_shifts_36 ?_
      refine N.vi0 dX5_shifts_37 vX5_noLines lkX5_329 (s_X5_noLines _ _ _ _ _) mO rfl (Nat.le_of_ble_eq_true rfl) (Nat.le_of_ble_eq_true rfl) (by omega) (by omega) ?_
      rintro _ _ _ ⟨rfl, rfl, rfl⟩
      refine N.if_eq (tgt := 55) dX5_shifts_40 (by decide) (fun c40 => ?_) (fun c40 => ?_)
      · obtain ⟨m, hm, hn⟩ := in_n (N' := 600) (by decide) c23
        obtain ⟨c0, hc0, hc1, hc⟩ := in5_99 c11
        refine N.aload0 dX5_shifts_55 ?_
        refine N.iload1 dX5_shifts_56 ?_
        refine N.iload2 dX5_shifts_57 ?_
        refine N.vi2A dX5_shifts_58 vX5_shiftsOf lkX5_332 (s_X5_shiftsOf w b _ v e t z _ _ ht h c0 hc0 hc1 hc (nl_0 c40) m hm hn) mO rfl (Nat.le_of_ble_eq_true rfl) (Nat.le_of_ble_eq_true rfl) (by omega) (by omega) ?_
        rintro _ _ sz2 ⟨rfl, q, y, rfl, hd, hz⟩
        exact N.iret dX5_shifts_61 rfl (by omega) (by omega) ⟨_, rfl, (by rw [mshifts, if_neg c11, if_neg c23, if_pos c40]; exact mq_ok ht hd hz rfl)⟩
      · refine N.aload0 dX5_shifts_43 ?_
        refine N.bipush (v := -5) dX5_shifts_44 (by decide) ?_
        refine N.vi1 dX5_shifts_46 vX5_refuse lkX5_89 (s_X5_refuse _ _ _ _ _ _ rfIn5) mO rfl (Nat.le_of_ble_eq_true rfl) (Nat.le_of_ble_eq_true rfl) (by omega) (by omega) ?_
        rintro _ _ _ ⟨rfl, rfl, rfl⟩
        refine N.si1 dX5_shifts_49 vX5_far lkX5_320 (s_X5_far _ _ _) rfl (Nat.le_of_ble_eq_true rfl) (Nat.le_of_ble_eq_true rfl) (by omega) (by omega) ?_
        rintro _ _ _ ⟨rfl, rfl, rfl⟩
        refine N.goto (tgt := 61) dX5_shifts_52 (by decide) ?_
        exact N.iret dX5_shifts_61 rfl (by omega) (by omega) ⟨_, rfl, (by rw [mshifts, if_neg c11, if_neg c23, if_neg c40]; exact rnf_ok ht)⟩
    · refine N.aload0 dX5_shifts_26 ?_
      refine N.bipush (v := -2) dX5_shifts_27 (by decide) ?_
      refine N.vi1 dX5_shifts_29 vX5_refuse lkX5_89 (s_X5_refuse _ _ _ _ _ _ rfIn2) mO rfl (Nat.le_of_ble_eq_true rfl) (Nat.le_of_ble_eq_true rfl) (by omega) (by omega) ?_
      rintro _ _ _ ⟨rfl, rfl, rfl⟩
      refine N.si1 dX5_shifts_32 vX5_far lkX5_320 (s_X5_far _ _ _) rfl (Nat.le_of_ble_eq_true rfl) (Nat.le_of_ble_eq_true rfl) (by omega) (by omega) ?_
      rintro _ _ _ ⟨rfl, rfl, rfl⟩
      exact N.iret dX5_shifts_35 rfl (by omega) (by omega) ⟨_, rfl, (by rw [mshifts, if_neg c11, if_pos c23]; exact rnf_ok ht)⟩
def bsTo (v : CV) (n : Int32) : Nat → Int32 × Int32
  | 0 => (-1, 0)
  | k + 1 => if (bsTo v n k).1 = -1 then (nI (k + 5), sfM v (nI (k + 5)) n) else if sfM v (nI (k + 5)) n ≤ (bsTo v n k).2 then bsTo v n k else (nI (k + 5), sfM v (nI (k + 5)) n)
set_option maxRecDepth 100000 in
theorem l_X5_bestShift {K : Kx} (w : Wd) (b sz0 : Nat) (v : CV) (e : M5) (mc ms : Nat) (n : Int32) (h : okP v) (hf : ¬ nlF v = 1) (m : Nat) (hm : m ≤ 600) (hn : n = nI m) (P : Int32 → Wd → Nat → Prop) (hP : ∀ t z sz, tOk G b sz t → sz0 ≤ sz → P ((bsTo v n 95).1) (putM K (tw K w t z) b (v, wt e t)) sz) : ∀ nn k (t : Option Nat) (z : MX) (sz cc ss : Nat), k + nn = 95 → tOk G b sz t → sz0 ≤ sz → cc + kc t ≤ mc → ss + ks t ≤ ms → N K mX5_bestShift 9 mc ms (Qi P) 40 [some (.ref b), some (.int n), some (.int (bsTo v n k).1), some (.int (bsTo v n k).2), some (.int (nI (k + 5))), none] [] (putM K (tw K w t z) b (v, wt e t)) sz cc ss := by
  intro nn
  induction nn with
  | zero =>
    intro k t z sz cc ss hk ht hz0 hcc hss
    obtain rfl : k = 95 := by omega
    refine N.iload4 dX5_bestShift_40 ?_
    refine N.bipush (v := 99) dX5_bestShift_42 (by decide) ?_
    refine N.icmp_gt (tgt := 79) dX5_bestShift_44 (by decide) (fun c44 => ?_) (fun c44 => absurd (by decide) c44)
    refine N.iload2 dX5_bestShift_79 ?_
    exact N.iret dX5_bestShift_80 rfl (by omega) (by omega) ⟨_, rfl, (hP _ _ _ ht hz0)⟩
  | succ nn ih =>
    intro k t z sz cc ss hk ht hz0 hcc hss
    refine N.iload4 dX5_bestShift_40 ?_
    refine N.bipush (v := 99) dX5_bestShift_42 (by decide) ?_
    refine N.icmp_gt (tgt := 79) dX5_bestShift_44 (by decide) (fun c44 => absurd c44 (Int32.not_lt.mpr (nI_le (a := k + 5) (b := 99) (by omega) (by omega)))) (fun c44 => ?_)
    refine N.aload0 dX5_bestShift_47 ?_
    refine N.iload4 dX5_bestShift_48 ?_
    refine N.iload1 dX5_bestShift_50 ?_
    refine N.vi2A dX5_bestShift_51 vX5_shiftsOf lkX5_332 (s_X5_shiftsOf w b _ v e t z _ _ ht h (k + 5) (by omega) (by omega) rfl hf m hm hn) mO rfl (Nat.le_of_ble_eq_true rfl) (Nat.le_of_ble_eq_true rfl) (by omega) (by omega) ?_
    rintro _ _ sz2 ⟨rfl, q, y, rfl, hd, hz⟩
    generalize hg : sfM v (nI (k + 5)) n = g0
    refine N.istore5 dX5_bestShift_54 rfl ?_
    refine N.iload2 dX5_bestShift_56 ?_
    refine N.iconst (v := -1) dX5_bestShift_57 (by decide) ?_
    refine N.icmp_eq (tgt := 67) dX5_bestShift_58 (by decide) (fun c58 => ?_) (fun c58 => ?_)
    · refine N.iload4 dX5_bestShift_67 ?_
      refine N.istore2 dX5_bestShift_69 rfl ?_
      refine N.iload5 dX5_bestShift_70 ?_
      refine N.istore3 dX5_bestShift_72 rfl ?_
      refine N.iinc4 dX5_bestShift_73 rfl (nI_inc _) ?_
      refine N.goto (tgt := 40) dX5_bestShift_76 (by decide) ?_
      exact N.wk (by rw [bsTo, hg, if_pos c58]; exact ⟨rfl, rfl, rfl, rfl, rfl, trivial⟩) (ih (k + 1) (some q) _ _ _ _ (by omega) (tOk_s ht hz hd) (Nat.le_trans hz0 hz) (by rw [kc_s]; omega) (by rw [ks_s]; omega))
    · refine N.iload5 dX5_bestShift_61 ?_
      refine N.iload3 dX5_bestShift_63 ?_
      refine N.icmp_le (tgt := 73) dX5_bestShift_64 (by decide) (fun c64 => ?_) (fun c64 => ?_)
      · refine N.iinc4 dX5_bestShift_73 rfl (nI_inc _) ?_
        refine N.goto (tgt := 40) dX5_bestShift_76 (by decide) ?_
        exact N.wk (by rw [bsTo, hg, if_neg c58, if_pos c64]; exact ⟨rfl, rfl, rfl, rfl, rfl, trivial⟩) (ih (k + 1) (some q) _ _ _ _ (by omega) (tOk_s ht hz hd) (Nat.le_trans hz0 hz) (by rw [kc_s]; omega) (by rw [ks_s]; omega))
      · refine N.iload4 dX5_bestShift_67 ?_
        refine N.istore2 dX5_bestShift_69 rfl ?_
        refine N.iload5 dX5_bestShift_70 ?_
        refine N.istore3 dX5_bestShift_72 rfl ?_
        refine N.iinc4 dX5_bestShift_73 rfl (nI_inc _) ?_
        refine N.goto (tgt := 40) dX5_bestShift_76 (by decide) ?_
        exact N.wk (by rw [bsTo, hg, if_neg c58, if_neg c64]; exact ⟨rfl, rfl, rfl, rfl, rfl, trivial⟩) (ih (k + 1) (some q) _ _ _ _ (by omega) (tOk_s ht hz hd) (Nat.le_trans hz0 hz) (by rw [kc_s]; omega) (by rw [ks_s]; omega))
def mbsh (m : Mst) (n : Int32) : Int32 × Mst := if isInF n 0 600 = 0 then rm m (-2) else if nlF m.1 = 0 then ((bsTo m.1 n 95).1, m) else rm m (-5)
set_option maxRecDepth 100000 in
theorem s_X5_bestShift {K : Kx} (w : Wd) (b sz : Nat) (v : CV) (e : M5) (t : Option Nat) (z : MX) (n : Int32) (ht : tOk G b sz t) (hM : okM (v, e)) : Sp K mX5_bestShift 9 (kc t) (ks t) [.ref b, .int n] (putM K (tw K w t z) b (v, wt e t)) sz (Qi fun r w' sz' => r = (mbsh (v, e) n).1 ∧ ∃ t' z', w' = putM K (tw K w t' z') b ((mbsh (v, e) n).2.1, wt (mbsh (v, e) n).2.2 t') ∧ tOk G b sz' t' ∧ sz ≤ sz') := by
  refine Sp.ofN [some (.ref b), some (.int n), none, none, none, none] rfl rfl rfl (Nat.le_of_ble_eq_true rfl) ?_
  have h : okP v := hM.1
  refine N.iload1 dX5_bestShift_0 ?_
  refine N.i2l dX5_bestShift_1 ?_
  refine N.lconst (v := 0) dX5_bestShift_2 (by decide) ?_
  refine N.ldc2 dX5_bestShift_3 ctX5_314 ?_
  refine N.si3 dX5_bestShift_6 vX5_in lkX5_77 (s_X5_in _ _ _ _ _) rfl (Nat.le_of_ble_eq_true rfl) (Nat.le_of_ble_eq_true rfl) (by omega) (by omega) ?_
  rintro r1 _ _ ⟨er, rfl, rfl⟩
  obtain rfl := er.trans (inL_i (a := (0)) (b := (600)) rfl rfl)
  refine N.if_ne (tgt := 19) dX5_bestShift_9 (by decide) (fun c9 => ?_) (fun c9 => ?_)
  · refine N.aload0 dX5_bestShift_19 ?_
    refine N.vi0 dX5_bestShift_20 vX5_noLines lkX5_329 (s_X5_noLines _ _ _ _ _) mO rfl (Nat.le_of_ble_eq_true rfl) (Nat.le_of_ble_eq_true rfl) (by omega) (by omega) ?_
    rintro _ _ _ ⟨rfl, rfl, rfl⟩
    refine N.if_eq (tgt := 33) dX5_bestShift_23 (by decide) (fun c23 => ?_) (fun c23 => ?_)
    · obtain ⟨m, hm, hn⟩ := in_n (N' := 600) (by decide) c9
      refine N.iconst (v := -1) dX5_bestShift_33 (by decide) ?_
      refine N.istore2 dX5_bestShift_34 rfl ?_
      refine N.iconst (v := 0) dX5_bestShift_35 (by decide) ?_
      refine N.istore3 dX5_bestShift_36 rfl ?_
      refine N.iconst (v := 5) dX5_bestShift_37 (by decide) ?_
      refine N.istore4 dX5_bestShift_38 rfl ?_
      exact N.wk (by exact ⟨rfl, rfl, rfl, rfl, rfl, trivial⟩) (l_X5_bestShift w b _ v e _ _ n h (nl_0 c23) m hm hn _ (fun t2 z2 sz2 ht2 hz2 => md_ok ht2 hz2 (by rw [mbsh, if_neg c9, if_pos c23])) 95 0 t z _ _ _ (by omega) ht (Nat.le_refl _) (by omega) (by omega))
    · refine N.aload0 dX5_bestShift_26 ?_
      refine N.bipush (v := -5) dX5_bestShift_27 (by decide) ?_
      refine N.vi1 dX5_bestShift_29 vX5_refuse lkX5_89 (s_X5_refuse _ _ _ _ _ _ rfIn5) mO rfl (Nat.le_of_ble_eq_true rfl) (Nat.le_of_ble_eq_true rfl) (by omega) (by omega) ?_
      rintro _ _ _ ⟨rfl, rfl, rfl⟩
      exact N.iret dX5_bestShift_32 rfl (by omega) (by omega) ⟨_, rfl, (by rw [mbsh, if_neg c9, if_neg c23]; exact rmf_ok ht)⟩
  · refine N.aload0 dX5_bestShift_12 ?_
    refine N.bipush (v := -2) dX5_bestShift_13 (by decide) ?_
    refine N.vi1 dX5_bestShift_15 vX5_refuse lkX5_89 (s_X5_refuse _ _ _ _ _ _ rfIn2) mO rfl (Nat.le_of_ble_eq_true rfl) (Nat.le_of_ble_eq_true rfl) (by omega) (by omega) ?_
    rintro _ _ _ ⟨rfl, rfl, rfl⟩
    exact N.iret dX5_bestShift_18 rfl (by omega) (by omega) ⟨_, rfl, (by rw [mbsh, if_pos c9]; exact rmf_ok ht)⟩
def plM (v : CV) (n y : Int32) : Int32 := goO (setS v 7 0) n - goO (setS v 7 1) n - (y.toInt64 * (goA (setS v 7 0) n - goA (setS v 7 1) n).toInt64 / 100).toInt32
def mpull (m : Mst) (n y : Int32) : Int32 × Mst := if isInF n 0 600 = 0 then rn m (-2) else if isInF y 0 100 = 0 then rn m (-2) else (plM m.1 n y, m)
set_option maxRecDepth 100000 in
theorem s_X5_pull {K : Kx} (w : Wd) (b sz : Nat) (v : CV) (e : M5) (t : Option Nat) (z : MX) (n : Int32) (y : Int32) (ht : tOk G b sz t) (hM : okM (v, e)) : Sp K mX5_pull 9 (kc t) (ks t) [.ref b, .int n, .int y] (putM K (tw K w t z) b (v, wt e t)) sz (Qi fun r w' sz' => r = (mpull (v, e) n y).1 ∧ ∃ t' z', w' = putM K (tw K w t' z') b ((mpull (v, e) n y).2.1, wt (mpull (v, e) n y).2.2 t') ∧ tOk G b sz' t' ∧ sz ≤ sz') := by
  refine Sp.ofN [some (.ref b), some (.int n), some (.int y), none, none, none] rfl rfl rfl (Nat.le_of_ble_eq_true rfl) ?_
  have h : okP v := hM.1
  refine N.iload1 dX5_pull_0 ?_
  refine N.i2l dX5_pull_1 ?_
  refine N.lconst (v := 0) dX5_pull_2 (by decide) ?_
  refine N.ldc2 dX5_pull_3 ctX5_314 ?_
  refine N.si3 dX5_pull_6 vX5_in lkX5_77 (s_X5_in _ _ _ _ _) rfl (Nat.le_of_ble_eq_true rfl) (Nat.le_of_ble_eq_true rfl) (by omega) (by omega) ?_
  rintro r1 _ _ ⟨er, rfl, rfl⟩
  obtain rfl := er.trans (inL_i (a := (0)) (b := (600)) rfl rfl)
  refine N.if_eq (tgt := 24) dX5_pull_9 (by decide) (fun c9 => ?_) (fun c9 => ?_)
  · refine N.aload0 dX5_pull_24 ?_
    refine N.bipush (v := -2) dX5_pull_25 (by decide) ?_
    refine N.vi1 dX5_pull_27 vX5_refuse lkX5_89 (s_X5_refuse _ _ _ _ _ _ rfIn2) mO rfl (Nat.le_of_ble_eq_true rfl) (Nat.le_of_ble_eq_true rfl) (by omega) (by omega) ?_
    rintro _ _ _ ⟨rfl, rfl, rfl⟩
    refine N.si1 dX5_pull_30 vX5_far lkX5_320 (s_X5_far _ _ _) rfl (Nat.le_of_ble_eq_true rfl) (Nat.le_of_ble_eq_true rfl) (by omega) (by omega) ?_
    rintro _ _ _ ⟨rfl, rfl, rfl⟩
    exact N.iret dX5_pull_33 rfl (by omega) (by omega) ⟨_, rfl, (by rw [mpull, if_pos c9]; exact rnf_ok ht)⟩
  · refine N.iload2 dX5_pull_12 ?_
    refine N.i2l dX5_pull_13 ?_
    refine N.lconst (v := 0) dX5_pull_14 (by decide) ?_
    refine N.ldc2 dX5_pull_15 ctX5_136 ?_
    refine N.si3 dX5_pull_18 vX5_in lkX5_77 (s_X5_in _ _ _ _ _) rfl (Nat.le_of_ble_eq_true rfl) (Nat.le_of_ble_eq_true rfl) (by omega) (by omega) ?_
    rintro r1 _ _ ⟨er, rfl, rfl⟩
    obtain rfl := er.trans (inL_i (a := (0)) (b := (100)) rfl rfl)
    refine N.if_ne (tgt := 34) dX5_pull_21 (by decide) (fun c21 => ?_) (fun c21 => ?_)
    · obtain ⟨m, hm, hn⟩ := in_n (N' := 600) (by decide) c9
      refine N.aload0 dX5_pull_34 ?_
      refine N.va0A dX5_pull_35 vX5_fresh lkX5_248 (s_X5_fresh w b _ v e t z ht) mO rfl (Nat.le_of_ble_eq_true rfl) (Nat.le_of_ble_eq_true rfl) (by omega) (by omega) ?_
      rintro q _ sz2 ⟨z2, rfl, hd, hz⟩
      refine N.astore3 dX5_pull_38 rfl ?_
      refine N.aload3 dX5_pull_39 ?_
      refine N.iconst (v := 0) dX5_pull_40 (by decide) ?_
      refine N.putf dX5_pull_41 flX5_59 (tO hd) (Nat.le_of_ble_eq_true rfl) (fun _ h => by cases h; rfl) rfl rfl (tP7 hd) ?_
      refine N.aload3 dX5_pull_44 ?_
      refine N.iload1 dX5_pull_45 ?_
      refine N.vi1 dX5_pull_46 vX5_goes lkX5_316 (Sp.mi hd fun W => s_X5_goes W _ _ _ _ _ (h.set (by decide) _) m hm hn) (tO hd) rfl (Nat.le_of_ble_eq_true rfl) (Nat.le_of_ble_eq_true rfl) (by omega) (by omega) ?_
      rintro _ _ _ ⟨rfl, rfl, rfl⟩
      refine N.pop dX5_pull_49 rfl ?_
      refine N.aload3 dX5_pull_50 ?_
      refine N.getf dX5_pull_51 flX5_268 (tO hd) rfl ?_
      refine N.istore4 dX5_pull_54 rfl ?_
      refine N.aload3 dX5_pull_56 ?_
      refine N.getf dX5_pull_57 flX5_271 (tO hd) rfl ?_
      refine N.istore5 dX5_pull_60 rfl ?_
      refine N.aload0 dX5_pull_62 ?_
      refine N.va0 dX5_pull_63 vX5_fresh lkX5_248 (s_fresh_s w b q _ v e (_, _) hd) mO rfl (Nat.le_of_ble_eq_true rfl) (Nat.le_of_ble_eq_true rfl) (by omega) (by omega) ?_
      rintro q2 _ sz3 ⟨z3, rfl, hd2, hz2⟩
      replace hz := Nat.le_trans hz hz2
      clear hz2
      replace hd := hd2
      refine N.astore3 dX5_pull_66 rfl ?_
      refine N.aload3 dX5_pull_67 ?_
      refine N.iconst (v := 1) dX5_pull_68 (by decide) ?_
      refine N.putf dX5_pull_69 flX5_59 (tO hd) (Nat.le_of_ble_eq_true rfl) (fun _ h => by cases h; rfl) rfl rfl (tP7 hd) ?_
      refine N.aload3 dX5_pull_72 ?_
      refine N.iload1 dX5_pull_73 ?_
      refine N.vi1 dX5_pull_74 vX5_goes lkX5_316 (Sp.mi hd fun W => s_X5_goes W _ _ _ _ _ (h.set (by decide) _) m hm hn) (tO hd) rfl (Nat.le_of_ble_eq_true rfl) (Nat.le_of_ble_eq_true rfl) (by omega) (by omega) ?_
      rintro _ _ _ ⟨rfl, rfl, rfl⟩
      refine N.pop dX5_pull_77 rfl ?_
      refine N.iload4 dX5_pull_78 ?_
      refine N.aload3 dX5_pull_80 ?_
      refine N.getf dX5_pull_81 flX5_268 (tO hd) rfl ?_
      refine N.isub dX5_pull_84 ?_
      refine N.iload2 dX5_pull_85 ?_
      refine N.i2l dX5_pull_86 ?_
      refine N.iload5 dX5_pull_87 ?_
      refine N.aload3 dX5_pull_89 ?_
      refine N.getf dX5_pull_90 flX5_271 (tO hd) rfl ?_
      refine N.isub dX5_pull_93 ?_
      refine N.i2l dX5_pull_94 ?_
      refine N.lmul dX5_pull_95 ?_
      refine N.ldc2 dX5_pull_96 ctX5_136 ?_
      refine N.ldiv dX5_pull_99 (by decide) ?_
      refine N.l2i dX5_pull_100 ?_
      refine N.isub dX5_pull_101 ?_
      exact N.iret dX5_pull_102 rfl (by omega) (by omega) ⟨_, rfl, (by rw [mpull, if_neg c9, if_neg c21]; exact mq_ok ht hd hz rfl)⟩
    · refine N.aload0 dX5_pull_24 ?_
      refine N.bipush (v := -2) dX5_pull_25 (by decide) ?_
      refine N.vi1 dX5_pull_27 vX5_refuse lkX5_89 (s_X5_refuse _ _ _ _ _ _ rfIn2) mO rfl (Nat.le_of_ble_eq_true rfl) (Nat.le_of_ble_eq_true rfl) (by omega) (by omega) ?_
      rintro _ _ _ ⟨rfl, rfl, rfl⟩
      refine N.si1 dX5_pull_30 vX5_far lkX5_320 (s_X5_far _ _ _) rfl (Nat.le_of_ble_eq_true rfl) (Nat.le_of_ble_eq_true rfl) (by omega) (by omega) ?_
      rintro _ _ _ ⟨rfl, rfl, rfl⟩
      exact N.iret dX5_pull_33 rfl (by omega) (by omega) ⟨_, rfl, (by rw [mpull, if_neg c9, if_pos c21]; exact rnf_ok ht)⟩
def woTo (v : CV) : Nat → Int32 × Int32
  | 0 => (-1, 0)
  | k + 1 => if bitF (v.1 1) (nI k) = 0 then woTo v k else if (woTo v k).1 = -1 then (nI k, powAM (offM v (nI k))) else if powAM (offM v (nI k)) ≤ (woTo v k).2 then woTo v k else (nI k, powAM (offM v (nI k)))
def woM (v : CV) : Int32 := (woTo v (np v)).1
theorem okP.offm {v : CV} (h : okP v) (p : Int32) : okP (offM v p) := by
  unfold okP offM at *
  simpa [upd] using h
set_option maxRecDepth 100000 in
theorem l_X5_worstOne {K : Kx} (w : Wd) (b sz0 : Nat) (v : CV) (e : M5) (mc ms : Nat) (h : okP v) (m : Nat) (hm : m ≤ 10) (hn : v.1 0 = nI m) (P : Int32 → Wd → Nat → Prop) (hP : ∀ t z sz, tOk G b sz t → sz0 ≤ sz → P ((woTo v m).1) (putM K (tw K w t z) b (v, wt e t)) sz) : ∀ nn k (t : Option Nat) (z : MX) (sz cc ss : Nat), k + nn = m → tOk G b sz t → sz0 ≤ sz → cc + kc t ≤ mc → ss + ks t ≤ ms → N K mX5_worstOne 5 mc ms (Qi P) 6 [some (.ref b), some (.int (woTo v k).1), some (.int (woTo v k).2), some (.int (nI k)), none] [] (putM K (tw K w t z) b (v, wt e t)) sz cc ss := by
  intro nn
  induction nn with
  | zero =>
    intro k t z sz cc ss hk ht hz0 hcc hss
    obtain rfl : k = m := by omega
    refine N.iload3 dX5_worstOne_6 ?_
    refine N.aload0 dX5_worstOne_7 ?_
    refine N.getf dX5_worstOne_8 flX5_74 mO rfl ?_
    refine N.icmp_ge (tgt := 65) dX5_worstOne_11 (by decide) (fun c11 => ?_) (fun c11 => absurd (pl_ge hn (by omega) (by omega)) c11)
    refine N.iload1 dX5_worstOne_65 ?_
    exact N.iret dX5_worstOne_66 rfl (by omega) (by omega) ⟨_, rfl, (hP _ _ _ ht hz0)⟩
  | succ nn ih =>
    intro k t z sz cc ss hk ht hz0 hcc hss
    refine N.iload3 dX5_worstOne_6 ?_
    refine N.aload0 dX5_worstOne_7 ?_
    refine N.getf dX5_worstOne_8 flX5_74 mO rfl ?_
    refine N.icmp_ge (tgt := 65) dX5_worstOne_11 (by decide) (fun c11 => absurd c11 (pl_nge hn (by omega) (by omega))) (fun c11 => ?_)
    refine N.aload0 dX5_worstOne_14 ?_
    refine N.getf dX5_worstOne_15 flX5_116 mO rfl ?_
    refine N.iload3 dX5_worstOne_18 ?_
    refine N.si2 dX5_worstOne_19 vX5_has lkX5_119 (s_X5_has _ _ _ _) rfl (Nat.le_of_ble_eq_true rfl) (Nat.le_of_ble_eq_true rfl) (by omega) (by omega) ?_
    rintro _ _ _ ⟨rfl, rfl, rfl⟩
    refine N.if_eq (tgt := 59) dX5_worstOne_22 (by decide) (fun c22 => ?_) (fun c22 => ?_)
    · refine N.iinc3 dX5_worstOne_59 rfl (nI_inc _) ?_
      refine N.goto (tgt := 6) dX5_worstOne_62 (by decide) ?_
      exact N.wk (by rw [woTo, if_pos c22]; exact ⟨rfl, rfl, rfl, rfl, trivial⟩) (ih (k + 1) t _ _ _ _ (by omega) ht hz0 (by omega) (by omega))
    · refine N.aload0 dX5_worstOne_25 ?_
      refine N.va0A dX5_worstOne_26 vX5_fresh lkX5_248 (s_X5_fresh w b _ v e t z ht) mO rfl (Nat.le_of_ble_eq_true rfl) (Nat.le_of_ble_eq_true rfl) (by omega) (by omega) ?_
      rintro q _ sz2 ⟨z2, rfl, hd, hz⟩
      refine N.astore4 dX5_worstOne_29 rfl ?_
      refine N.aload4 dX5_worstOne_31 ?_
      refine N.iload3 dX5_worstOne_33 ?_
      refine N.vv1 dX5_worstOne_34 vX5_sendOff lkX5_359 (Sp.mv hd fun W => s_X5_sendOff W _ _ _ _ _) (tO hd) rfl (Nat.le_of_ble_eq_true rfl) (Nat.le_of_ble_eq_true rfl) (by omega) (by omega) ?_
      rintro _ _ ⟨rfl, rfl⟩
      generalize hg : powAM (offM v (nI k)) = g0
      refine N.iload1 dX5_worstOne_37 ?_
      refine N.iconst (v := -1) dX5_worstOne_38 (by decide) ?_
      refine N.icmp_eq (tgt := 51) dX5_worstOne_39 (by decide) (fun c39 => ?_) (fun c39 => ?_)
      · refine N.iload3 dX5_worstOne_51 ?_
        refine N.istore1 dX5_worstOne_52 rfl ?_
        refine N.aload4 dX5_worstOne_53 ?_
        refine N.vi0 dX5_worstOne_55 vX5_powerNow lkX5_258 (Sp.mi hd fun W => s_X5_powerNow W _ _ _ _ (h.offm _)) (tO hd) rfl (Nat.le_of_ble_eq_true rfl) (Nat.le_of_ble_eq_true rfl) (by omega) (by omega) ?_
        rintro _ _ _ ⟨rfl, rfl, rfl⟩
        rw [hg]
        refine N.istore2 dX5_worstOne_58 rfl ?_
        refine N.iinc3 dX5_worstOne_59 rfl (nI_inc _) ?_
        refine N.goto (tgt := 6) dX5_worstOne_62 (by decide) ?_
        exact N.wk (by rw [woTo, if_neg c22, hg, if_pos c39]; exact ⟨rfl, rfl, rfl, rfl, trivial⟩) (ih (k + 1) (some q) _ _ _ _ (by omega) (tOk_s ht hz hd) (Nat.le_trans hz0 hz) (by rw [kc_s]; omega) (by rw [ks_s]; omega))
      · refine N.aload4 dX5_worstOne_42 ?_
        refine N.vi0 dX5_worstOne_44 vX5_powerNow lkX5_258 (Sp.mi hd fun W => s_X5_powerNow W _ _ _ _ (h.offm _)) (tO hd) rfl (Nat.le_of_ble_eq_true rfl) (Nat.le_of_ble_eq_true rfl) (by omega) (by omega) ?_
        rintro _ _ _ ⟨rfl, rfl, rfl⟩
        rw [hg]
        refine N.iload2 dX5_worstOne_47 ?_
        refine N.icmp_le (tgt := 59) dX5_worstOne_48 (by decide) (fun c48 => ?_) (fun c48 => ?_)
        · refine N.iinc3 dX5_worstOne_59 rfl (nI_inc _) ?_
          refine N.goto (tgt := 6) dX5_worstOne_62 (by decide) ?_
          exact N.wk (by rw [woTo, if_neg c22, hg, if_neg c39, if_pos c48]; exact ⟨rfl, rfl, rfl, rfl, trivial⟩) (ih (k + 1) (some q) _ _ _ _ (by omega) (tOk_s ht hz hd) (Nat.le_trans hz0 hz) (by rw [kc_s]; omega) (by rw [ks_s]; omega))
        · refine N.iload3 dX5_worstOne_51 ?_
          refine N.istore1 dX5_worstOne_52 rfl ?_
          refine N.aload4 dX5_worstOne_53 ?_
          refine N.vi0 dX5_worstOne_55 vX5_powerNow lkX5_258 (Sp.mi hd fun W => s_X5_powerNow W _ _ _ _ (h.offm _)) (tO hd) rfl (Nat.le_of_ble_eq_true rfl) (Nat.le_of_ble_eq_true rfl) (by omega) (by omega) ?_
          rintro _ _ _ ⟨rfl, rfl, rfl⟩
          rw [hg]
          refine N.istore2 dX5_worstOne_58 rfl ?_
          refine N.iinc3 dX5_worstOne_59 rfl (nI_inc _) ?_
          refine N.goto (tgt := 6) dX5_worstOne_62 (by decide) ?_
          exact N.wk (by rw [woTo, if_neg c22, hg, if_neg c39, if_neg c48]; exact ⟨rfl, rfl, rfl, rfl, trivial⟩) (ih (k + 1) (some q) _ _ _ _ (by omega) (tOk_s ht hz hd) (Nat.le_trans hz0 hz) (by rw [kc_s]; omega) (by rw [ks_s]; omega))
set_option maxRecDepth 100000 in
theorem s_X5_worstOne {K : Kx} (w : Wd) (b sz : Nat) (v : CV) (e : M5) (t : Option Nat) (z : MX) (ht : tOk G b sz t) (h : okP v) : Sp K mX5_worstOne 5 (kc t) (ks t) [.ref b] (putM K (tw K w t z) b (v, wt e t)) sz (Qi fun r w' sz' => r = woM v ∧ ∃ t' z', w' = putM K (tw K w t' z') b (v, wt e t') ∧ tOk G b sz' t' ∧ sz ≤ sz') := by
  refine Sp.ofN [some (.ref b), none, none, none, none] rfl rfl rfl (Nat.le_of_ble_eq_true rfl) ?_
  refine N.iconst (v := -1) dX5_worstOne_0 (by decide) ?_
  refine N.istore1 dX5_worstOne_1 rfl ?_
  refine N.iconst (v := 0) dX5_worstOne_2 (by decide) ?_
  refine N.istore2 dX5_worstOne_3 rfl ?_
  refine N.iconst (v := 0) dX5_worstOne_4 (by decide) ?_
  refine N.istore3 dX5_worstOne_5 rfl ?_
  obtain ⟨P0, hP0, e0, e1⟩ := np_ex h
  exact N.wk (by exact ⟨rfl, rfl, rfl, rfl, trivial⟩) (l_X5_worstOne w b _ v e _ _ h P0 hP0 e0 _ (fun t2 z2 sz2 ht2 hz2 => ⟨by rw [woM, e1], t2, z2, rfl, ht2, hz2⟩) P0 0 t z _ _ _ (by omega) ht (Nat.le_refl _) (by omega) (by omega))
theorem kc_25 (t : Option Nat) : kc t ≤ 25 := by
  cases t
  · exact Nat.le_refl _
  · exact Nat.zero_le _
theorem ks_755 (t : Option Nat) : ks t ≤ 755 := by
  cases t
  · exact Nat.le_refl _
  · exact Nat.zero_le _
theorem inm1 {n : Int32} (h : ¬ isInF n (-1) 600 = 0) (hn : ¬ n = -1) : ∃ m, m ≤ 600 ∧ n = nI m := by
  obtain ⟨h1, h2⟩ := isIn_ne h
  have e1 := Int32.not_lt.mp h1
  have e2 := Int32.not_lt.mp h2
  have h0 : ¬ n < 0 := fun q => by
    rw [Int32.le_iff_toInt_le] at e1
    rw [Int32.lt_iff_toInt_lt] at q
    have a1 : (-1 : Int32).toInt = -1 := rfl
    have a2 : (0 : Int32).toInt = 0 := rfl
    exact hn (Int32.toInt_inj.mp (by omega))
  obtain ⟨m, hm, rfl⟩ := nI_of h0
  exact ⟨m, nI_le' (c := 600) hm e2, rfl⟩
def mpen (m : Mst) (n : Int32) : Int32 × Mst := if isInF n (-1) 600 = 0 then rn m (-2) else if m.1.1 1 = 0 then rn m (-5) else if n = -1 then (woM m.1, m) else (goG (offM m.1 (woM m.1)) n, m)
set_option maxRecDepth 100000 in
theorem s_X5_penalty {K : Kx} (w : Wd) (b sz : Nat) (v : CV) (e : M5) (t : Option Nat) (z : MX) (n : Int32) (ht : tOk G b sz t) (hM : okM (v, e)) : Sp K mX5_penalty 9 50 1510 [.ref b, .int n] (putM K (tw K w t z) b (v, wt e t)) sz (Qi fun r w' sz' => r = (mpen (v, e) n).1 ∧ ∃ t' z', w' = putM K (tw K w t' z') b ((mpen (v, e) n).2.1, wt (mpen (v, e) n).2.2 t') ∧ tOk G b sz' t' ∧ sz ≤ sz') := by
  refine Sp.ofN [some (.ref b), some (.int n), none, none] rfl rfl rfl (Nat.le_of_ble_eq_true rfl) ?_
  have h : okP v := hM.1
  have k1 := kc_25 t
  have k3 := ks_755 t
  refine N.iload1 dX5_penalty_0 ?_
  refine N.i2l dX5_penalty_1 ?_
  refine N.ldc2 dX5_penalty_2 ctX5_362 ?_
  refine N.ldc2 dX5_penalty_5 ctX5_314 ?_
  refine N.si3 dX5_penalty_8 vX5_in lkX5_77 (s_X5_in _ _ _ _ _) rfl (Nat.le_of_ble_eq_true rfl) (Nat.le_of_ble_eq_true rfl) (by omega) (by omega) ?_
  rintro r1 _ _ ⟨er, rfl, rfl⟩
  obtain rfl := er.trans (inL_i (a := (-1)) (b := (600)) rfl rfl)
  refine N.if_ne (tgt := 24) dX5_penalty_11 (by decide) (fun c11 => ?_) (fun c11 => ?_)
  · refine N.aload0 dX5_penalty_24 ?_
    refine N.getf dX5_penalty_25 flX5_116 mO rfl ?_
    refine N.if_ne (tgt := 41) dX5_penalty_28 (by decide) (fun c28 => ?_) (fun c28 => ?_)
    · refine N.aload0 dX5_penalty_41 ?_
      refine N.vi0A dX5_penalty_42 vX5_worstOne lkX5_364 (s_X5_worstOne w b _ v e t z ht h) mO rfl (Nat.le_of_ble_eq_true rfl) (Nat.le_of_ble_eq_true rfl) (by omega) (by omega) ?_
      rintro _ _ sz1 ⟨rfl, t1, z1, rfl, ht1, hz1⟩
      have k2 := kc_25 t1
      have k4 := ks_755 t1
      refine N.istore2 dX5_penalty_45 rfl ?_
      refine N.iload1 dX5_penalty_46 ?_
      refine N.iconst (v := -1) dX5_penalty_47 (by decide) ?_
      refine N.icmp_ne (tgt := 53) dX5_penalty_48 (by decide) (fun c48 => ?_) (fun c48 => ?_)
      · obtain ⟨m, hm, hn⟩ := inm1 c11 c48
        refine N.aload0 dX5_penalty_53 ?_
        refine N.va0A dX5_penalty_54 vX5_fresh lkX5_248 (s_X5_fresh w b _ v e t1 z1 ht1) mO rfl (Nat.le_of_ble_eq_true rfl) (Nat.le_of_ble_eq_true rfl) (by omega) (by omega) ?_
        rintro q _ sz2 ⟨z2, rfl, hd, hz⟩
        replace hz := Nat.le_trans hz1 hz
        refine N.astore3 dX5_penalty_57 rfl ?_
        refine N.aload3 dX5_penalty_58 ?_
        refine N.iload2 dX5_penalty_59 ?_
        refine N.vv1 dX5_penalty_60 vX5_sendOff lkX5_359 (Sp.mv hd fun W => s_X5_sendOff W _ _ _ _ _) (tO hd) rfl (Nat.le_of_ble_eq_true rfl) (Nat.le_of_ble_eq_true rfl) (by omega) (by omega) ?_
        rintro _ _ ⟨rfl, rfl⟩
        refine N.aload3 dX5_penalty_63 ?_
        refine N.iload1 dX5_penalty_64 ?_
        refine N.vi1 dX5_penalty_65 vX5_goes lkX5_316 (Sp.mi hd fun W => s_X5_goes W _ _ _ _ _ (h.offm _) m hm hn) (tO hd) rfl (Nat.le_of_ble_eq_true rfl) (Nat.le_of_ble_eq_true rfl) (by omega) (by omega) ?_
        rintro _ _ _ ⟨rfl, rfl, rfl⟩
        exact N.iret dX5_penalty_68 rfl (by omega) (by omega) ⟨_, rfl, (by rw [mpen, if_neg c11, if_neg c28, if_neg c48]; exact mq_ok ht hd hz rfl)⟩
      · refine N.iload2 dX5_penalty_51 ?_
        exact N.iret dX5_penalty_52 rfl (by omega) (by omega) ⟨_, rfl, (by rw [mpen, if_neg c11, if_neg c28, if_pos c48]; exact ⟨rfl, t1, z1, rfl, ht1, hz1⟩)⟩
    · refine N.aload0 dX5_penalty_31 ?_
      refine N.bipush (v := -5) dX5_penalty_32 (by decide) ?_
      refine N.vi1 dX5_penalty_34 vX5_refuse lkX5_89 (s_X5_refuse _ _ _ _ _ _ rfIn5) mO rfl (Nat.le_of_ble_eq_true rfl) (Nat.le_of_ble_eq_true rfl) (by omega) (by omega) ?_
      rintro _ _ _ ⟨rfl, rfl, rfl⟩
      refine N.si1 dX5_penalty_37 vX5_far lkX5_320 (s_X5_far _ _ _) rfl (Nat.le_of_ble_eq_true rfl) (Nat.le_of_ble_eq_true rfl) (by omega) (by omega) ?_
      rintro _ _ _ ⟨rfl, rfl, rfl⟩
      exact N.iret dX5_penalty_40 rfl (by omega) (by omega) ⟨_, rfl, (by rw [mpen, if_neg c11, if_pos c28]; exact rnf_ok ht)⟩
  · refine N.aload0 dX5_penalty_14 ?_
    refine N.bipush (v := -2) dX5_penalty_15 (by decide) ?_
    refine N.vi1 dX5_penalty_17 vX5_refuse lkX5_89 (s_X5_refuse _ _ _ _ _ _ rfIn2) mO rfl (Nat.le_of_ble_eq_true rfl) (Nat.le_of_ble_eq_true rfl) (by omega) (by omega) ?_
    rintro _ _ _ ⟨rfl, rfl, rfl⟩
    refine N.si1 dX5_penalty_20 vX5_far lkX5_320 (s_X5_far _ _ _) rfl (Nat.le_of_ble_eq_true rfl) (Nat.le_of_ble_eq_true rfl) (by omega) (by omega) ?_
    rintro _ _ _ ⟨rfl, rfl, rfl⟩
    exact N.iret dX5_penalty_23 rfl (by omega) (by omega) ⟨_, rfl, (by rw [mpen, if_pos c11]; exact rnf_ok ht)⟩
def sgTo (v : CV) : Nat → Int32
  | 0 => -1
  | k + 1 => if v.2 4 (nI k).toNatClampNeg = 0 then sgTo v k else if sgTo v k = -1 then nI k else if powAM (putOnV v (v.2 4 (nI k).toNatClampNeg)) ≤ powAM (putOnV v (v.2 4 (sgTo v k).toNatClampNeg)) then sgTo v k else nI k
theorem sg_in {v : CV} : ∀ {k}, k ≤ 4 → ¬ sgTo v k = -1 → vp_in (sgTo v k) 4
  | 0, _, h => absurd rfl h
  | k + 1, hk, h => by
    rw [sgTo] at h ⊢
    by_cases c1 : v.2 4 (nI k).toNatClampNeg = 0
    · rw [if_pos c1] at h ⊢; exact sg_in (by omega) h
    · rw [if_neg c1] at h ⊢
      by_cases c2 : sgTo v k = -1
      · rw [if_pos c2]; exact in4 (by omega)
      · rw [if_neg c2]
        split
        · exact sg_in (by omega) c2
        · exact in4 (by omega)
set_option maxRecDepth 100000 in
theorem l_X5_strongest {K : Kx} (w : Wd) (b sz0 : Nat) (v : CV) (e : M5) (mc ms : Nat) (h : okP v)  (P : Int32 → Wd → Nat → Prop) (hP : ∀ t z sz, tOk G b sz t → sz0 ≤ sz → P (sgTo v 4) (putM K (tw K w t z) b (v, wt e t)) sz) : ∀ nn k (t : Option Nat) (z : MX) (sz cc ss : Nat), k + nn = 4 → tOk G b sz t → sz0 ≤ sz → cc + kc t ≤ mc → ss + ks t ≤ ms → N K mX5_strongest 5 mc ms (Qi P) 4 [some (.ref b), some (.int (sgTo v k)), some (.int (nI k))] [] (putM K (tw K w t z) b (v, wt e t)) sz cc ss := by
  intro nn
  induction nn with
  | zero =>
    intro k t z sz cc ss hk ht hz0 hcc hss
    obtain rfl : k = 4 := by omega
    refine N.iload2 dX5_strongest_4 ?_
    refine N.iconst (v := 4) dX5_strongest_5 (by decide) ?_
    refine N.icmp_ge (tgt := 54) dX5_strongest_6 (by decide) (fun c6 => ?_) (fun c6 => absurd (by decide) c6)
    refine N.iload1 dX5_strongest_54 ?_
    exact N.iret dX5_strongest_55 rfl (by omega) (by omega) ⟨_, rfl, (hP _ _ _ ht hz0)⟩
  | succ nn ih =>
    intro k t z sz cc ss hk ht hz0 hcc hss
    refine N.iload2 dX5_strongest_4 ?_
    refine N.iconst (v := 4) dX5_strongest_5 (by decide) ?_
    refine N.icmp_ge (tgt := 54) dX5_strongest_6 (by decide) (fun c6 => absurd c6 (nI_ge (a := k) (b := 4) (by omega) (by omega))) (fun c6 => ?_)
    refine N.aload0 dX5_strongest_9 ?_
    refine N.getf dX5_strongest_10 flX5_49 mO rfl ?_
    refine N.iload2 dX5_strongest_13 ?_
    refine N.iald dX5_strongest_14 mA4 (in4 (by omega)) ?_
    refine N.if_eq (tgt := 48) dX5_strongest_15 (by decide) (fun c15 => ?_) (fun c15 => ?_)
    · refine N.iinc2 dX5_strongest_48 rfl (nI_inc _) ?_
      refine N.goto (tgt := 4) dX5_strongest_51 (by decide) ?_
      exact N.wk (by rw [sgTo, if_pos c15]; exact ⟨rfl, rfl, rfl, trivial⟩) (ih (k + 1) t _ _ _ _ (by omega) ht hz0 (by omega) (by omega))
    · refine N.iload1 dX5_strongest_18 ?_
      refine N.iconst (v := -1) dX5_strongest_19 (by decide) ?_
      refine N.icmp_eq (tgt := 46) dX5_strongest_20 (by decide) (fun c20 => ?_) (fun c20 => ?_)
      · refine N.iload2 dX5_strongest_46 ?_
        refine N.istore1 dX5_strongest_47 rfl ?_
        refine N.iinc2 dX5_strongest_48 rfl (nI_inc _) ?_
        refine N.goto (tgt := 4) dX5_strongest_51 (by decide) ?_
        exact N.wk (by rw [sgTo, if_neg c15, if_pos c20]; exact ⟨rfl, rfl, rfl, trivial⟩) (ih (k + 1) t _ _ _ _ (by omega) ht hz0 (by omega) (by omega))
      · refine N.aload0 dX5_strongest_23 ?_
        refine N.aload0 dX5_strongest_24 ?_
        refine N.getf dX5_strongest_25 flX5_49 mO rfl ?_
        refine N.iload2 dX5_strongest_28 ?_
        refine N.iald dX5_strongest_29 mA4 (in4 (by omega)) ?_
        refine N.vi1A dX5_strongest_30 vX5_powerBy lkX5_311 (s_X5_powerBy w b _ v e t z _ ht h) mO rfl (Nat.le_of_ble_eq_true rfl) (Nat.le_of_ble_eq_true rfl) (by omega) (by omega) ?_
        rintro _ _ sz2 ⟨rfl, q, y, rfl, hd, hz⟩
        refine N.aload0 dX5_strongest_33 ?_
        refine N.aload0 dX5_strongest_34 ?_
        refine N.getf dX5_strongest_35 flX5_49 mO rfl ?_
        refine N.iload1 dX5_strongest_38 ?_
        refine N.iald dX5_strongest_39 mA4 (sg_in (by omega) c20) ?_
        refine N.vi1A dX5_strongest_40 vX5_powerBy lkX5_311 (s_X5_powerBy w b _ v e (some q) y _ (tOk_s ht hz hd) h) mO rfl (Nat.le_of_ble_eq_true rfl) (Nat.le_of_ble_eq_true rfl) (by rw [kc_s]; omega) (by rw [ks_s]; omega) ?_
        rintro _ _ sz3 ⟨rfl, q2, y2, rfl, hd2, hz2⟩
        have hk1 := kc_s (q := q)
        have hk2 := ks_s (q := q)
        have hk3 := kc_s (q := q2)
        have hk4 := ks_s (q := q2)
        replace hd := hd2
        replace hz := Nat.le_trans hz hz2
        refine N.icmp_le (tgt := 48) dX5_strongest_43 (by decide) (fun c43 => ?_) (fun c43 => ?_)
        · refine N.iinc2 dX5_strongest_48 rfl (nI_inc _) ?_
          refine N.goto (tgt := 4) dX5_strongest_51 (by decide) ?_
          exact N.wk (by rw [sgTo, if_neg c15, if_neg c20, if_pos c43]; exact ⟨rfl, rfl, rfl, trivial⟩) (ih (k + 1) (some q2) _ _ _ _ (by omega) (tOk_s ht hz hd) (Nat.le_trans hz0 hz) (by omega) (by omega))
        · refine N.iload2 dX5_strongest_46 ?_
          refine N.istore1 dX5_strongest_47 rfl ?_
          refine N.iinc2 dX5_strongest_48 rfl (nI_inc _) ?_
          refine N.goto (tgt := 4) dX5_strongest_51 (by decide) ?_
          exact N.wk (by rw [sgTo, if_neg c15, if_neg c20, if_neg c43]; exact ⟨rfl, rfl, rfl, trivial⟩) (ih (k + 1) (some q2) _ _ _ _ (by omega) (tOk_s ht hz hd) (Nat.le_trans hz0 hz) (by omega) (by omega))
set_option maxRecDepth 100000 in
theorem s_X5_strongest {K : Kx} (w : Wd) (b sz : Nat) (v : CV) (e : M5) (t : Option Nat) (z : MX) (ht : tOk G b sz t) (h : okP v) : Sp K mX5_strongest 5 (kc t) (ks t) [.ref b] (putM K (tw K w t z) b (v, wt e t)) sz (Qi fun r w' sz' => r = sgTo v 4 ∧ ∃ t' z', w' = putM K (tw K w t' z') b (v, wt e t') ∧ tOk G b sz' t' ∧ sz ≤ sz') := by
  refine Sp.ofN [some (.ref b), none, none] rfl rfl rfl (Nat.le_of_ble_eq_true rfl) ?_
  refine N.iconst (v := -1) dX5_strongest_0 (by decide) ?_
  refine N.istore1 dX5_strongest_1 rfl ?_
  refine N.iconst (v := 0) dX5_strongest_2 (by decide) ?_
  refine N.istore2 dX5_strongest_3 rfl ?_
  exact N.wk (by exact ⟨rfl, rfl, rfl, trivial⟩) (l_X5_strongest w b _ v e _ _ h _ (fun t2 z2 sz2 ht2 hz2 => ⟨rfl, t2, z2, rfl, ht2, hz2⟩) 4 0 t z _ _ _ (by omega) ht (Nat.le_refl _) (by omega) (by omega))
def mbest (m : Mst) (x : Int32) : Int32 × Mst := if isInF x 0 1 = 0 then rm m (-2) else if nlF m.1 = 0 then (if x = 0 then (fmF m.1, m) else (sgTo m.1 4, m)) else rm m (-5)
set_option maxRecDepth 100000 in
theorem s_X5_best {K : Kx} (w : Wd) (b sz : Nat) (v : CV) (e : M5) (t : Option Nat) (z : MX) (x : Int32) (ht : tOk G b sz t) (hM : okM (v, e)) : Sp K mX5_best 9 (kc t) (ks t) [.ref b, .int x] (putM K (tw K w t z) b (v, wt e t)) sz (Qi fun r w' sz' => r = (mbest (v, e) x).1 ∧ ∃ t' z', w' = putM K (tw K w t' z') b ((mbest (v, e) x).2.1, wt (mbest (v, e) x).2.2 t') ∧ tOk G b sz' t' ∧ sz ≤ sz') := by
  refine Sp.ofN [some (.ref b), some (.int x)] rfl rfl rfl (Nat.le_of_ble_eq_true rfl) ?_
  have h : okP v := hM.1
  refine N.iload1 dX5_best_0 ?_
  refine N.i2l dX5_best_1 ?_
  refine N.lconst (v := 0) dX5_best_2 (by decide) ?_
  refine N.lconst (v := 1) dX5_best_3 (by decide) ?_
  refine N.si3 dX5_best_4 vX5_in lkX5_77 (s_X5_in _ _ _ _ _) rfl (Nat.le_of_ble_eq_true rfl) (Nat.le_of_ble_eq_true rfl) (by omega) (by omega) ?_
  rintro r1 _ _ ⟨er, rfl, rfl⟩
  obtain rfl := er.trans (inL_i (a := (0)) (b := (1)) rfl rfl)
  refine N.if_ne (tgt := 17) dX5_best_7 (by decide) (fun c7 => ?_) (fun c7 => ?_)
  · refine N.aload0 dX5_best_17 ?_
    refine N.vi0 dX5_best_18 vX5_noLines lkX5_329 (s_X5_noLines _ _ _ _ _) mO rfl (Nat.le_of_ble_eq_true rfl) (Nat.le_of_ble_eq_true rfl) (by omega) (by omega) ?_
    rintro _ _ _ ⟨rfl, rfl, rfl⟩
    refine N.if_eq (tgt := 31) dX5_best_21 (by decide) (fun c21 => ?_) (fun c21 => ?_)
    · refine N.iload1 dX5_best_31 ?_
      refine N.if_ne (tgt := 42) dX5_best_32 (by decide) (fun c32 => ?_) (fun c32 => ?_)
      · refine N.aload0 dX5_best_42 ?_
        refine N.vi0A dX5_best_43 vX5_strongest lkX5_377 (s_X5_strongest w b _ v e t z ht h) mO rfl (Nat.le_of_ble_eq_true rfl) (Nat.le_of_ble_eq_true rfl) (by omega) (by omega) ?_
        rintro _ _ sz1 ⟨rfl, t1, z1, rfl, ht1, hz1⟩
        exact N.iret dX5_best_46 rfl (by omega) (by omega) ⟨_, rfl, (by rw [mbest, if_neg c7, if_pos c21, if_neg c32]; exact ⟨rfl, t1, z1, rfl, ht1, hz1⟩)⟩
      · refine N.aload0 dX5_best_35 ?_
        refine N.vi0 dX5_best_36 vX5_freshest lkX5_374 (s_X5_freshest _ _ _ _ _ h) mO rfl (Nat.le_of_ble_eq_true rfl) (Nat.le_of_ble_eq_true rfl) (by omega) (by omega) ?_
        rintro _ _ _ ⟨rfl, rfl, rfl⟩
        refine N.goto (tgt := 46) dX5_best_39 (by decide) ?_
        exact N.iret dX5_best_46 rfl (by omega) (by omega) ⟨_, rfl, (by rw [mbest, if_neg c7, if_pos c21, if_pos c32]; exact ⟨rfl, t, z, rfl, ht, Nat.le_refl _⟩)⟩
    · refine N.aload0 dX5_best_24 ?_
      refine N.bipush (v := -5) dX5_best_25 (by decide) ?_
      refine N.vi1 dX5_best_27 vX5_refuse lkX5_89 (s_X5_refuse _ _ _ _ _ _ rfIn5) mO rfl (Nat.le_of_ble_eq_true rfl) (Nat.le_of_ble_eq_true rfl) (by omega) (by omega) ?_
      rintro _ _ _ ⟨rfl, rfl, rfl⟩
      exact N.iret dX5_best_30 rfl (by omega) (by omega) ⟨_, rfl, (by rw [mbest, if_neg c7, if_neg c21]; exact rmf_ok ht)⟩
  · refine N.aload0 dX5_best_10 ?_
    refine N.bipush (v := -2) dX5_best_11 (by decide) ?_
    refine N.vi1 dX5_best_13 vX5_refuse lkX5_89 (s_X5_refuse _ _ _ _ _ _ rfIn2) mO rfl (Nat.le_of_ble_eq_true rfl) (Nat.le_of_ble_eq_true rfl) (by omega) (by omega) ?_
    rintro _ _ _ ⟨rfl, rfl, rfl⟩
    exact N.iret dX5_best_16 rfl (by omega) (by omega) ⟨_, rfl, (by rw [mbest, if_pos c7]; exact rmf_ok ht)⟩
