variable {G : Nat → Prop}
/-! the model in thought -/
theorem mq_ok {K : Kx} {w : Wd} {b q sz sz' : Nat} {v : CV} {e : M5} {t : Option Nat} {y : MX} {g : Int32 × Mst} {r : Int32} (ht : tOk G b sz t) (hd : apG G q b) (hz : sz ≤ sz') (eg : g = (r, v, e)) : r = g.1 ∧ ∃ t' z', putM K (putM K w q y) b (v, wt e (some q)) = putM K (tw K w t' z') b (g.2.1, wt g.2.2 t') ∧ tOk G b sz' t' ∧ sz ≤ sz' := by
  subst eg
  exact ⟨rfl, some q, y, rfl, ⟨⟨Nat.le_trans ht.1.1 hz, fun n hn => ht.1.2 n (Nat.le_trans hz hn)⟩, fun q' e => by cases e; exact hd⟩, hz⟩
set_option maxRecDepth 100000 in
theorem s_X5_powerBy {K : Kx} (w : Wd) (b sz : Nat) (v : CV) (e : M5) (t : Option Nat) (z : MX) (s : Int32) (ht : tOk G b sz t) (h : okP v)  : Sp K mX5_powerBy 3 (kc t) (ks t) [.ref b, .int s] (putM K (tw K w t z) b (v, wt e t)) sz (Qi fun r w' sz' => r = powAM (putOnV v s) ∧ ∃ q y, w' = putM K (putM K w q y) b (v, wt e (some q)) ∧ apG G q b ∧ sz ≤ sz') := by
  refine Sp.ofN [some (.ref b), some (.int s), none] rfl rfl rfl (Nat.le_of_ble_eq_true rfl) ?_
  refine N.aload0 dX5_powerBy_0 ?_
  refine N.va0A dX5_powerBy_1 vX5_fresh lkX5_248 (s_X5_fresh w b _ v e t z ht) mO rfl (Nat.le_of_ble_eq_true rfl) (Nat.le_of_ble_eq_true rfl) (by omega) (by omega) ?_
  rintro q _ sz2 ⟨z2, rfl, hd, hz⟩
  refine N.astore2 dX5_powerBy_4 rfl ?_
  refine N.aload2 dX5_powerBy_5 ?_
  refine N.iload1 dX5_powerBy_6 ?_
  refine N.vv1 dX5_powerBy_7 vX5_stand lkX5_305 (Sp.mv hd fun W => s_X5_stand W _ _ _ _ _) (tO hd) rfl (Nat.le_of_ble_eq_true rfl) (Nat.le_of_ble_eq_true rfl) (by omega) (by omega) ?_
  rintro _ _ ⟨rfl, rfl⟩
  refine N.aload2 dX5_powerBy_10 ?_
  refine N.vi0 dX5_powerBy_11 vX5_powerNow lkX5_258 (Sp.mi hd fun W => s_X5_powerNow W _ _ _ _ (h.on _)) (tO hd) rfl (Nat.le_of_ble_eq_true rfl) (Nat.le_of_ble_eq_true rfl) (by omega) (by omega) ?_
  rintro _ _ _ ⟨rfl, rfl, rfl⟩
  exact N.iret dX5_powerBy_14 rfl (by omega) (by omega) ⟨_, rfl, ⟨rfl, _, _, rfl, hd, hz⟩⟩
def mtM (v : CV) (l x : Int32) : Int32 := goG (putOnV (setS v 6 x) (v.2 4 l.toNatClampNeg)) 40
set_option maxRecDepth 100000 in
theorem s_X5_meetsOf {K : Kx} (w : Wd) (b sz : Nat) (v : CV) (e : M5) (t : Option Nat) (z : MX) (l : Int32) (x : Int32) (ht : tOk G b sz t) (h : okP v) (hl : vp_in l 4) : Sp K mX5_meetsOf 5 (kc t) (ks t) [.ref b, .int l, .int x] (putM K (tw K w t z) b (v, wt e t)) sz (Qi fun r w' sz' => r = mtM v l x ∧ ∃ q y, w' = putM K (putM K w q y) b (v, wt e (some q)) ∧ apG G q b ∧ sz ≤ sz') := by
  refine Sp.ofN [some (.ref b), some (.int l), some (.int x), none] rfl rfl rfl (Nat.le_of_ble_eq_true rfl) ?_
  refine N.aload0 dX5_meetsOf_0 ?_
  refine N.va0A dX5_meetsOf_1 vX5_fresh lkX5_248 (s_X5_fresh w b _ v e t z ht) mO rfl (Nat.le_of_ble_eq_true rfl) (Nat.le_of_ble_eq_true rfl) (by omega) (by omega) ?_
  rintro q _ sz2 ⟨z2, rfl, hd, hz⟩
  refine N.astore3 dX5_meetsOf_4 rfl ?_
  refine N.aload3 dX5_meetsOf_5 ?_
  refine N.iload2 dX5_meetsOf_6 ?_
  refine N.putf dX5_meetsOf_7 flX5_56 (tO hd) (Nat.le_of_ble_eq_true rfl) (fun _ h => by cases h; rfl) rfl rfl (tP6 hd) ?_
  refine N.aload3 dX5_meetsOf_10 ?_
  refine N.iload1 dX5_meetsOf_11 ?_
  refine N.vv1 dX5_meetsOf_12 vX5_whistles lkX5_218 (Sp.mv hd fun W => s_X5_whistles W _ _ _ _ _ hl) (tO hd) rfl (Nat.le_of_ble_eq_true rfl) (Nat.le_of_ble_eq_true rfl) (by omega) (by omega) ?_
  rintro _ _ ⟨rfl, rfl⟩
  refine N.aload3 dX5_meetsOf_15 ?_
  refine N.bipush (v := 40) dX5_meetsOf_16 (by decide) ?_
  refine N.vi1 dX5_meetsOf_18 vX5_goes lkX5_316 (Sp.mi hd fun W => s_X5_goes W _ _ _ _ _ ((h.set (by decide) x).on _) 40 (by decide) rfl) (tO hd) rfl (Nat.le_of_ble_eq_true rfl) (Nat.le_of_ble_eq_true rfl) (by omega) (by omega) ?_
  rintro _ _ _ ⟨rfl, rfl, rfl⟩
  exact N.iret dX5_meetsOf_21 rfl (by omega) (by omega) ⟨_, rfl, ⟨rfl, _, _, rfl, hd, hz⟩⟩
def cgM (v : CV) (l n x : Int32) : Int32 := goG (chM (setS v 4 x) l) n - goG (setS v 4 x) n
set_option maxRecDepth 100000 in
theorem s_X5_changeIn {K : Kx} (w : Wd) (b sz : Nat) (v : CV) (e : M5) (t : Option Nat) (z : MX) (l : Int32) (n : Int32) (x : Int32) (ht : tOk G b sz t) (h : okP v) (hl : vp_in l 4) (m : Nat) (hm : m ≤ 600) (hn : n = nI m) : Sp K mX5_changeIn 5 (kc t) (ks t) [.ref b, .int l, .int n, .int x] (putM K (tw K w t z) b (v, wt e t)) sz (Qi fun r w' sz' => r = cgM v l n x ∧ ∃ q y, w' = putM K (putM K w q y) b (v, wt e (some q)) ∧ apG G q b ∧ sz ≤ sz') := by
  refine Sp.ofN [some (.ref b), some (.int l), some (.int n), some (.int x), none, none] rfl rfl rfl (Nat.le_of_ble_eq_true rfl) ?_
  refine N.aload0 dX5_changeIn_0 ?_
  refine N.va0A dX5_changeIn_1 vX5_fresh lkX5_248 (s_X5_fresh w b _ v e t z ht) mO rfl (Nat.le_of_ble_eq_true rfl) (Nat.le_of_ble_eq_true rfl) (by omega) (by omega) ?_
  rintro q _ sz2 ⟨z2, rfl, hd, hz⟩
  refine N.astore4 dX5_changeIn_4 rfl ?_
  refine N.aload4 dX5_changeIn_6 ?_
  refine N.iload3 dX5_changeIn_8 ?_
  refine N.putf dX5_changeIn_9 flX5_52 (tO hd) (Nat.le_of_ble_eq_true rfl) (fun _ h => by cases h; rfl) rfl rfl (tP4 hd) ?_
  refine N.aload4 dX5_changeIn_12 ?_
  refine N.iload1 dX5_changeIn_14 ?_
  refine N.vi1 dX5_changeIn_15 vX5_changes lkX5_323 (Sp.mi hd fun W => s_X5_changes W _ _ _ _ _ hl (h.set (by decide) x)) (tO hd) rfl (Nat.le_of_ble_eq_true rfl) (Nat.le_of_ble_eq_true rfl) (by omega) (by omega) ?_
  rintro _ _ _ ⟨rfl, rfl, rfl⟩
  refine N.pop dX5_changeIn_18 rfl ?_
  refine N.aload4 dX5_changeIn_19 ?_
  refine N.iload2 dX5_changeIn_21 ?_
  refine N.vi1 dX5_changeIn_22 vX5_goes lkX5_316 (Sp.mi hd fun W => s_X5_goes W _ _ _ _ _ (okP.chm (h.set (by decide) x) l) m hm hn) (tO hd) rfl (Nat.le_of_ble_eq_true rfl) (Nat.le_of_ble_eq_true rfl) (by omega) (by omega) ?_
  rintro _ _ _ ⟨rfl, rfl, rfl⟩
  refine N.istore5 dX5_changeIn_25 rfl ?_
  refine N.aload0 dX5_changeIn_27 ?_
  refine N.va0 dX5_changeIn_28 vX5_fresh lkX5_248 (s_fresh_s w b q _ v e (_, _) hd) mO rfl (Nat.le_of_ble_eq_true rfl) (Nat.le_of_ble_eq_true rfl) (by omega) (by omega) ?_
  rintro q2 _ sz3 ⟨z3, rfl, hd2, hz2⟩
  replace hz := Nat.le_trans hz hz2
  clear hz2
  replace hd := hd2
  refine N.astore4 dX5_changeIn_31 rfl ?_
  refine N.aload4 dX5_changeIn_33 ?_
  refine N.iload3 dX5_changeIn_35 ?_
  refine N.putf dX5_changeIn_36 flX5_52 (tO hd) (Nat.le_of_ble_eq_true rfl) (fun _ h => by cases h; rfl) rfl rfl (tP4 hd) ?_
  refine N.iload5 dX5_changeIn_39 ?_
  refine N.aload4 dX5_changeIn_41 ?_
  refine N.iload2 dX5_changeIn_43 ?_
  refine N.vi1 dX5_changeIn_44 vX5_goes lkX5_316 (Sp.mi hd fun W => s_X5_goes W _ _ _ _ _ (h.set (by decide) x) m hm hn) (tO hd) rfl (Nat.le_of_ble_eq_true rfl) (Nat.le_of_ble_eq_true rfl) (by omega) (by omega) ?_
  rintro _ _ _ ⟨rfl, rfl, rfl⟩
  refine N.isub dX5_changeIn_47 ?_
  exact N.iret dX5_changeIn_48 rfl (by omega) (by omega) ⟨_, rfl, ⟨rfl, _, _, rfl, hd, hz⟩⟩
def mmeets (m : Mst) (l x : Int32) : Int32 × Mst := if isInF l 0 3 = 0 then rn m (-2) else if isInF x 1 999 = 0 then rn m (-2) else if m.1.2 4 l.toNatClampNeg = 0 then rn m (-5) else (mtM m.1 l x, m)
set_option maxRecDepth 100000 in
theorem s_X5_meets {K : Kx} (w : Wd) (b sz : Nat) (v : CV) (e : M5) (t : Option Nat) (z : MX) (l : Int32) (x : Int32) (ht : tOk G b sz t) (hM : okM (v, e)) : Sp K mX5_meets 9 (kc t) (ks t) [.ref b, .int l, .int x] (putM K (tw K w t z) b (v, wt e t)) sz (Qi fun r w' sz' => r = (mmeets (v, e) l x).1 ∧ ∃ t' z', w' = putM K (tw K w t' z') b ((mmeets (v, e) l x).2.1, wt (mmeets (v, e) l x).2.2 t') ∧ tOk G b sz' t' ∧ sz ≤ sz') := by
  refine Sp.ofN [some (.ref b), some (.int l), some (.int x)] rfl rfl rfl (Nat.le_of_ble_eq_true rfl) ?_
  have h : okP v := hM.1
  refine N.iload1 dX5_meets_0 ?_
  refine N.i2l dX5_meets_1 ?_
  refine N.si1 dX5_meets_2 vX5_isLine lkX5_138 (s_X5_isLine _ _ _) rfl (Nat.le_of_ble_eq_true rfl) (Nat.le_of_ble_eq_true rfl) (by omega) (by omega) ?_
  rintro r1 _ _ ⟨er, rfl, rfl⟩
  obtain rfl := er.trans (inL_i (a := 0) (b := 3) rfl rfl)
  refine N.if_eq (tgt := 20) dX5_meets_5 (by decide) (fun c5 => ?_) (fun c5 => ?_)
  · refine N.aload0 dX5_meets_20 ?_
    refine N.bipush (v := -2) dX5_meets_21 (by decide) ?_
    refine N.vi1 dX5_meets_23 vX5_refuse lkX5_89 (s_X5_refuse _ _ _ _ _ _ rfIn2) mO rfl (Nat.le_of_ble_eq_true rfl) (Nat.le_of_ble_eq_true rfl) (by omega) (by omega) ?_
    rintro _ _ _ ⟨rfl, rfl, rfl⟩
    refine N.si1 dX5_meets_26 vX5_far lkX5_320 (s_X5_far _ _ _) rfl (Nat.le_of_ble_eq_true rfl) (Nat.le_of_ble_eq_true rfl) (by omega) (by omega) ?_
    rintro _ _ _ ⟨rfl, rfl, rfl⟩
    exact N.iret dX5_meets_29 rfl (by omega) (by omega) ⟨_, rfl, (by rw [mmeets, if_pos c5]; exact rnf_ok ht)⟩
  · refine N.iload2 dX5_meets_8 ?_
    refine N.i2l dX5_meets_9 ?_
    refine N.lconst (v := 1) dX5_meets_10 (by decide) ?_
    refine N.ldc2 dX5_meets_11 ctX5_144 ?_
    refine N.si3 dX5_meets_14 vX5_in lkX5_77 (s_X5_in _ _ _ _ _) rfl (Nat.le_of_ble_eq_true rfl) (Nat.le_of_ble_eq_true rfl) (by omega) (by omega) ?_
    rintro r1 _ _ ⟨er, rfl, rfl⟩
    obtain rfl := er.trans (inL_i (a := (1)) (b := (999)) rfl rfl)
    refine N.if_ne (tgt := 30) dX5_meets_17 (by decide) (fun c17 => ?_) (fun c17 => ?_)
    · refine N.aload0 dX5_meets_30 ?_
      refine N.getf dX5_meets_31 flX5_49 mO rfl ?_
      refine N.iload1 dX5_meets_34 ?_
      refine N.iald dX5_meets_35 mA4 (ln_in c5) ?_
      refine N.if_ne (tgt := 51) dX5_meets_36 (by decide) (fun c36 => ?_) (fun c36 => ?_)
      · refine N.aload0 dX5_meets_51 ?_
        refine N.iload1 dX5_meets_52 ?_
        refine N.iload2 dX5_meets_53 ?_
        refine N.vi2A dX5_meets_54 vX5_meetsOf lkX5_339 (s_X5_meetsOf w b _ v e t z _ _ ht h (ln_in c5)) mO rfl (Nat.le_of_ble_eq_true rfl) (Nat.le_of_ble_eq_true rfl) (by omega) (by omega) ?_
        rintro _ _ sz2 ⟨rfl, q, y, rfl, hd, hz⟩
        exact N.iret dX5_meets_57 rfl (by omega) (by omega) ⟨_, rfl, (by rw [mmeets, if_neg c5, if_neg c17, if_neg c36]; exact mq_ok ht hd hz rfl)⟩
      · refine N.aload0 dX5_meets_39 ?_
        refine N.bipush (v := -5) dX5_meets_40 (by decide) ?_
        refine N.vi1 dX5_meets_42 vX5_refuse lkX5_89 (s_X5_refuse _ _ _ _ _ _ rfIn5) mO rfl (Nat.le_of_ble_eq_true rfl) (Nat.le_of_ble_eq_true rfl) (by omega) (by omega) ?_
        rintro _ _ _ ⟨rfl, rfl, rfl⟩
        refine N.si1 dX5_meets_45 vX5_far lkX5_320 (s_X5_far _ _ _) rfl (Nat.le_of_ble_eq_true rfl) (Nat.le_of_ble_eq_true rfl) (by omega) (by omega) ?_
        rintro _ _ _ ⟨rfl, rfl, rfl⟩
        refine N.goto (tgt := 57) dX5_meets_48 (by decide) ?_
        exact N.iret dX5_meets_57 rfl (by omega) (by omega) ⟨_, rfl, (by rw [mmeets, if_neg c5, if_neg c17, if_pos c36]; exact rnf_ok ht)⟩
    · refine N.aload0 dX5_meets_20 ?_
      refine N.bipush (v := -2) dX5_meets_21 (by decide) ?_
      refine N.vi1 dX5_meets_23 vX5_refuse lkX5_89 (s_X5_refuse _ _ _ _ _ _ rfIn2) mO rfl (Nat.le_of_ble_eq_true rfl) (Nat.le_of_ble_eq_true rfl) (by omega) (by omega) ?_
      rintro _ _ _ ⟨rfl, rfl, rfl⟩
      refine N.si1 dX5_meets_26 vX5_far lkX5_320 (s_X5_far _ _ _) rfl (Nat.le_of_ble_eq_true rfl) (Nat.le_of_ble_eq_true rfl) (by omega) (by omega) ?_
      rintro _ _ _ ⟨rfl, rfl, rfl⟩
      exact N.iret dX5_meets_29 rfl (by omega) (by omega) ⟨_, rfl, (by rw [mmeets, if_neg c5, if_pos c17]; exact rnf_ok ht)⟩
def mchnow (m : Mst) (l n : Int32) : Int32 × Mst := if isInF l 0 3 = 0 then rn m (-2) else if isInF n 0 600 = 0 then rn m (-2) else if m.1.2 4 l.toNatClampNeg = 0 then rn m (-5) else (cgM m.1 l n (m.1.1 4), m)
set_option maxRecDepth 100000 in
theorem s_X5_changeNow {K : Kx} (w : Wd) (b sz : Nat) (v : CV) (e : M5) (t : Option Nat) (z : MX) (l : Int32) (n : Int32) (ht : tOk G b sz t) (hM : okM (v, e)) : Sp K mX5_changeNow 9 (kc t) (ks t) [.ref b, .int l, .int n] (putM K (tw K w t z) b (v, wt e t)) sz (Qi fun r w' sz' => r = (mchnow (v, e) l n).1 ∧ ∃ t' z', w' = putM K (tw K w t' z') b ((mchnow (v, e) l n).2.1, wt (mchnow (v, e) l n).2.2 t') ∧ tOk G b sz' t' ∧ sz ≤ sz') := by
  refine Sp.ofN [some (.ref b), some (.int l), some (.int n)] rfl rfl rfl (Nat.le_of_ble_eq_true rfl) ?_
  have h : okP v := hM.1
  refine N.iload1 dX5_changeNow_0 ?_
  refine N.i2l dX5_changeNow_1 ?_
  refine N.si1 dX5_changeNow_2 vX5_isLine lkX5_138 (s_X5_isLine _ _ _) rfl (Nat.le_of_ble_eq_true rfl) (Nat.le_of_ble_eq_true rfl) (by omega) (by omega) ?_
  rintro r1 _ _ ⟨er, rfl, rfl⟩
  obtain rfl := er.trans (inL_i (a := 0) (b := 3) rfl rfl)
  refine N.if_eq (tgt := 20) dX5_changeNow_5 (by decide) (fun c5 => ?_) (fun c5 => ?_)
  · refine N.aload0 dX5_changeNow_20 ?_
    refine N.bipush (v := -2) dX5_changeNow_21 (by decide) ?_
    refine N.vi1 dX5_changeNow_23 vX5_refuse lkX5_89 (s_X5_refuse _ _ _ _ _ _ rfIn2) mO rfl (Nat.le_of_ble_eq_true rfl) (Nat.le_of_ble_eq_true rfl) (by omega) (by omega) ?_
    rintro _ _ _ ⟨rfl, rfl, rfl⟩
    refine N.si1 dX5_changeNow_26 vX5_far lkX5_320 (s_X5_far _ _ _) rfl (Nat.le_of_ble_eq_true rfl) (Nat.le_of_ble_eq_true rfl) (by omega) (by omega) ?_
    rintro _ _ _ ⟨rfl, rfl, rfl⟩
    exact N.iret dX5_changeNow_29 rfl (by omega) (by omega) ⟨_, rfl, (by rw [mchnow, if_pos c5]; exact rnf_ok ht)⟩
  · refine N.iload2 dX5_changeNow_8 ?_
    refine N.i2l dX5_changeNow_9 ?_
    refine N.lconst (v := 0) dX5_changeNow_10 (by decide) ?_
    refine N.ldc2 dX5_changeNow_11 ctX5_314 ?_
    refine N.si3 dX5_changeNow_14 vX5_in lkX5_77 (s_X5_in _ _ _ _ _) rfl (Nat.le_of_ble_eq_true rfl) (Nat.le_of_ble_eq_true rfl) (by omega) (by omega) ?_
    rintro r1 _ _ ⟨er, rfl, rfl⟩
    obtain rfl := er.trans (inL_i (a := (0)) (b := (600)) rfl rfl)
    refine N.if_ne (tgt := 30) dX5_changeNow_17 (by decide) (fun c17 => ?_) (fun c17 => ?_)
    · refine N.aload0 dX5_changeNow_30 ?_
      refine N.getf dX5_changeNow_31 flX5_49 mO rfl ?_
      refine N.iload1 dX5_changeNow_34 ?_
      refine N.iald dX5_changeNow_35 mA4 (ln_in c5) ?_
      refine N.if_ne (tgt := 51) dX5_changeNow_36 (by decide) (fun c36 => ?_) (fun c36 => ?_)
      · obtain ⟨m, hm, hn⟩ := in_n (N' := 600) (by decide) c17
        refine N.aload0 dX5_changeNow_51 ?_
        refine N.iload1 dX5_changeNow_52 ?_
        refine N.iload2 dX5_changeNow_53 ?_
        refine N.aload0 dX5_changeNow_54 ?_
        refine N.getf dX5_changeNow_55 flX5_52 mO rfl ?_
        refine N.vi3A dX5_changeNow_58 vX5_changeIn lkX5_335 (s_X5_changeIn w b _ v e t z _ _ _ ht h (ln_in c5) m hm hn) mO rfl (Nat.le_of_ble_eq_true rfl) (Nat.le_of_ble_eq_true rfl) (by omega) (by omega) ?_
        rintro _ _ sz2 ⟨rfl, q, y, rfl, hd, hz⟩
        exact N.iret dX5_changeNow_61 rfl (by omega) (by omega) ⟨_, rfl, (by rw [mchnow, if_neg c5, if_neg c17, if_neg c36]; exact mq_ok ht hd hz rfl)⟩
      · refine N.aload0 dX5_changeNow_39 ?_
        refine N.bipush (v := -5) dX5_changeNow_40 (by decide) ?_
        refine N.vi1 dX5_changeNow_42 vX5_refuse lkX5_89 (s_X5_refuse _ _ _ _ _ _ rfIn5) mO rfl (Nat.le_of_ble_eq_true rfl) (Nat.le_of_ble_eq_true rfl) (by omega) (by omega) ?_
        rintro _ _ _ ⟨rfl, rfl, rfl⟩
        refine N.si1 dX5_changeNow_45 vX5_far lkX5_320 (s_X5_far _ _ _) rfl (Nat.le_of_ble_eq_true rfl) (Nat.le_of_ble_eq_true rfl) (by omega) (by omega) ?_
        rintro _ _ _ ⟨rfl, rfl, rfl⟩
        refine N.goto (tgt := 61) dX5_changeNow_48 (by decide) ?_
        exact N.iret dX5_changeNow_61 rfl (by omega) (by omega) ⟨_, rfl, (by rw [mchnow, if_neg c5, if_neg c17, if_pos c36]; exact rnf_ok ht)⟩
    · refine N.aload0 dX5_changeNow_20 ?_
      refine N.bipush (v := -2) dX5_changeNow_21 (by decide) ?_
      refine N.vi1 dX5_changeNow_23 vX5_refuse lkX5_89 (s_X5_refuse _ _ _ _ _ _ rfIn2) mO rfl (Nat.le_of_ble_eq_true rfl) (Nat.le_of_ble_eq_true rfl) (by omega) (by omega) ?_
      rintro _ _ _ ⟨rfl, rfl, rfl⟩
      refine N.si1 dX5_changeNow_26 vX5_far lkX5_320 (s_X5_far _ _ _) rfl (Nat.le_of_ble_eq_true rfl) (Nat.le_of_ble_eq_true rfl) (by omega) (by omega) ?_
      rintro _ _ _ ⟨rfl, rfl, rfl⟩
      exact N.iret dX5_changeNow_29 rfl (by omega) (by omega) ⟨_, rfl, (by rw [mchnow, if_neg c5, if_pos c17]; exact rnf_ok ht)⟩
def mgains (m : Mst) (n : Int32) : Int32 × Mst := if isInF n 0 600 = 0 then rn m (-2) else (goG m.1 n, m)
set_option maxRecDepth 100000 in
theorem s_X5_gains {K : Kx} (w : Wd) (b sz : Nat) (v : CV) (e : M5) (t : Option Nat) (z : MX) (n : Int32) (ht : tOk G b sz t) (hM : okM (v, e)) : Sp K mX5_gains 9 (kc t) (ks t) [.ref b, .int n] (putM K (tw K w t z) b (v, wt e t)) sz (Qi fun r w' sz' => r = (mgains (v, e) n).1 ∧ ∃ t' z', w' = putM K (tw K w t' z') b ((mgains (v, e) n).2.1, wt (mgains (v, e) n).2.2 t') ∧ tOk G b sz' t' ∧ sz ≤ sz') := by
  refine Sp.ofN [some (.ref b), some (.int n)] rfl rfl rfl (Nat.le_of_ble_eq_true rfl) ?_
  have h : okP v := hM.1
  refine N.iload1 dX5_gains_0 ?_
  refine N.i2l dX5_gains_1 ?_
  refine N.lconst (v := 0) dX5_gains_2 (by decide) ?_
  refine N.ldc2 dX5_gains_3 ctX5_314 ?_
  refine N.si3 dX5_gains_6 vX5_in lkX5_77 (s_X5_in _ _ _ _ _) rfl (Nat.le_of_ble_eq_true rfl) (Nat.le_of_ble_eq_true rfl) (by omega) (by omega) ?_
  rintro r1 _ _ ⟨er, rfl, rfl⟩
  obtain rfl := er.trans (inL_i (a := (0)) (b := (600)) rfl rfl)
  refine N.if_eq (tgt := 23) dX5_gains_9 (by decide) (fun c9 => ?_) (fun c9 => ?_)
  · refine N.ldcw dX5_gains_23 ctX5_319 ?_
    refine N.aload0 dX5_gains_26 ?_
    refine N.bipush (v := -2) dX5_gains_27 (by decide) ?_
    refine N.vi1 dX5_gains_29 vX5_refuse lkX5_89 (s_X5_refuse _ _ _ _ _ _ rfIn2) mO rfl (Nat.le_of_ble_eq_true rfl) (Nat.le_of_ble_eq_true rfl) (by omega) (by omega) ?_
    rintro _ _ _ ⟨rfl, rfl, rfl⟩
    refine N.iadd dX5_gains_32 ?_
    exact N.iret dX5_gains_33 rfl (by omega) (by omega) ⟨_, rfl, (by rw [mgains, if_pos c9]; exact rnf_ok ht)⟩
  · obtain ⟨m, hm, hn⟩ := in_n (N' := 600) (by decide) c9
    refine N.aload0 dX5_gains_12 ?_
    refine N.va0A dX5_gains_13 vX5_fresh lkX5_248 (s_X5_fresh w b _ v e t z ht) mO rfl (Nat.le_of_ble_eq_true rfl) (Nat.le_of_ble_eq_true rfl) (by omega) (by omega) ?_
    rintro q _ sz2 ⟨z2, rfl, hd, hz⟩
    refine N.iload1 dX5_gains_16 ?_
    refine N.vi1 dX5_gains_17 vX5_goes lkX5_316 (Sp.mi hd fun W => s_X5_goes W _ _ _ _ _ (h) m hm hn) (tO hd) rfl (Nat.le_of_ble_eq_true rfl) (Nat.le_of_ble_eq_true rfl) (by omega) (by omega) ?_
    rintro _ _ _ ⟨rfl, rfl, rfl⟩
    refine N.goto (tgt := 33) dX5_gains_20 (by decide) ?_
    exact N.iret dX5_gains_33 rfl (by omega) (by omega) ⟨_, rfl, (by rw [mgains, if_neg c9]; exact mq_ok ht hd hz rfl)⟩
def mbehind (m : Mst) (n p : Int32) : Int32 × Mst := if isInF n 0 600 = 0 then rm m (-2) else if p = -1 then (powAM (goV m.1 n), m) else if isPlF m.1 p = 0 then rm m (-2) else ((goV m.1 n).2 3 p.toNatClampNeg, m)
set_option maxRecDepth 100000 in
theorem s_X5_behind {K : Kx} (w : Wd) (b sz : Nat) (v : CV) (e : M5) (t : Option Nat) (z : MX) (n : Int32) (p : Int32) (ht : tOk G b sz t) (hM : okM (v, e)) : Sp K mX5_behind 9 (kc t) (ks t) [.ref b, .int n, .int p] (putM K (tw K w t z) b (v, wt e t)) sz (Qi fun r w' sz' => r = (mbehind (v, e) n p).1 ∧ ∃ t' z', w' = putM K (tw K w t' z') b ((mbehind (v, e) n p).2.1, wt (mbehind (v, e) n p).2.2 t') ∧ tOk G b sz' t' ∧ sz ≤ sz') := by
  refine Sp.ofN [some (.ref b), some (.int n), some (.int p), none] rfl rfl rfl (Nat.le_of_ble_eq_true rfl) ?_
  have h : okP v := hM.1
  refine N.iload1 dX5_behind_0 ?_
  refine N.i2l dX5_behind_1 ?_
  refine N.lconst (v := 0) dX5_behind_2 (by decide) ?_
  refine N.ldc2 dX5_behind_3 ctX5_314 ?_
  refine N.si3 dX5_behind_6 vX5_in lkX5_77 (s_X5_in _ _ _ _ _) rfl (Nat.le_of_ble_eq_true rfl) (Nat.le_of_ble_eq_true rfl) (by omega) (by omega) ?_
  rintro r1 _ _ ⟨er, rfl, rfl⟩
  obtain rfl := er.trans (inL_i (a := (0)) (b := (600)) rfl rfl)
  refine N.if_eq (tgt := 25) dX5_behind_9 (by decide) (fun c9 => ?_) (fun c9 => ?_)
  · refine N.aload0 dX5_behind_25 ?_
    refine N.bipush (v := -2) dX5_behind_26 (by decide) ?_
    refine N.vi1 dX5_behind_28 vX5_refuse lkX5_89 (s_X5_refuse _ _ _ _ _ _ rfIn2) mO rfl (Nat.le_of_ble_eq_true rfl) (Nat.le_of_ble_eq_true rfl) (by omega) (by omega) ?_
    rintro _ _ _ ⟨rfl, rfl, rfl⟩
    exact N.iret dX5_behind_31 rfl (by omega) (by omega) ⟨_, rfl, (by rw [mbehind, if_pos c9]; exact rmf_ok ht)⟩
  · refine N.iload2 dX5_behind_12 ?_
    refine N.iconst (v := -1) dX5_behind_13 (by decide) ?_
    refine N.icmp_eq (tgt := 32) dX5_behind_14 (by decide) (fun c14 => ?_) (fun c14 => ?_)
    · obtain ⟨m, hm, hn⟩ := in_n (N' := 600) (by decide) c9
      refine N.aload0 dX5_behind_32 ?_
      refine N.va0A dX5_behind_33 vX5_fresh lkX5_248 (s_X5_fresh w b _ v e t z ht) mO rfl (Nat.le_of_ble_eq_true rfl) (Nat.le_of_ble_eq_true rfl) (by omega) (by omega) ?_
      rintro q _ sz2 ⟨z2, rfl, hd, hz⟩
      refine N.astore3 dX5_behind_36 rfl ?_
      refine N.aload3 dX5_behind_37 ?_
      refine N.iload1 dX5_behind_38 ?_
      refine N.vi1 dX5_behind_39 vX5_goes lkX5_316 (Sp.mi hd fun W => s_X5_goes W _ _ _ _ _ (h) m hm hn) (tO hd) rfl (Nat.le_of_ble_eq_true rfl) (Nat.le_of_ble_eq_true rfl) (by omega) (by omega) ?_
      rintro _ _ _ ⟨rfl, rfl, rfl⟩
      refine N.pop dX5_behind_42 rfl ?_
      refine N.iload2 dX5_behind_43 ?_
      refine N.iconst (v := -1) dX5_behind_44 (by decide) ?_
      refine N.icmp_ne (tgt := 55) dX5_behind_45 (by decide) (fun c45 => absurd c14 c45) (fun c45 => ?_)
      refine N.aload3 dX5_behind_48 ?_
      refine N.vi0 dX5_behind_49 vX5_powerNow lkX5_258 (Sp.mi hd fun W => s_X5_powerNow W _ _ _ _ (goM_ok h _)) (tO hd) rfl (Nat.le_of_ble_eq_true rfl) (Nat.le_of_ble_eq_true rfl) (by omega) (by omega) ?_
      rintro _ _ _ ⟨rfl, rfl, rfl⟩
      refine N.goto (tgt := 61) dX5_behind_52 (by decide) ?_
      exact N.iret dX5_behind_61 rfl (by omega) (by omega) ⟨_, rfl, (by rw [mbehind, if_neg c9, if_pos c14]; exact mq_ok ht hd hz rfl)⟩
    · refine N.aload0 dX5_behind_17 ?_
      refine N.iload2 dX5_behind_18 ?_
      refine N.vi1 dX5_behind_19 vX5_isPlayer lkX5_100 (s_X5_isPlayer _ _ _ _ _ _) mO rfl (Nat.le_of_ble_eq_true rfl) (Nat.le_of_ble_eq_true rfl) (by omega) (by omega) ?_
      rintro _ _ _ ⟨rfl, rfl, rfl⟩
      refine N.if_ne (tgt := 32) dX5_behind_22 (by decide) (fun c22 => ?_) (fun c22 => ?_)
      · obtain ⟨m, hm, hn⟩ := in_n (N' := 600) (by decide) c9
        refine N.aload0 dX5_behind_32 ?_
        refine N.va0A dX5_behind_33 vX5_fresh lkX5_248 (s_X5_fresh w b _ v e t z ht) mO rfl (Nat.le_of_ble_eq_true rfl) (Nat.le_of_ble_eq_true rfl) (by omega) (by omega) ?_
        rintro q _ sz2 ⟨z2, rfl, hd, hz⟩
        refine N.astore3 dX5_behind_36 rfl ?_
        refine N.aload3 dX5_behind_37 ?_
        refine N.iload1 dX5_behind_38 ?_
        refine N.vi1 dX5_behind_39 vX5_goes lkX5_316 (Sp.mi hd fun W => s_X5_goes W _ _ _ _ _ (h) m hm hn) (tO hd) rfl (Nat.le_of_ble_eq_true rfl) (Nat.le_of_ble_eq_true rfl) (by omega) (by omega) ?_
        rintro _ _ _ ⟨rfl, rfl, rfl⟩
        refine N.pop dX5_behind_42 rfl ?_
        refine N.iload2 dX5_behind_43 ?_
        refine N.iconst (v := -1) dX5_behind_44 (by decide) ?_
        refine N.icmp_ne (tgt := 55) dX5_behind_45 (by decide) (fun c45 => ?_) (fun c45 => absurd c45 c14)
        refine N.aload3 dX5_behind_55 ?_
        refine N.getf dX5_behind_56 flX5_46 (tO hd) rfl ?_
        refine N.iload2 dX5_behind_59 ?_
        refine N.iald dX5_behind_60 (tA3 hd) (pl_in h c22) ?_
        exact N.iret dX5_behind_61 rfl (by omega) (by omega) ⟨_, rfl, (by rw [mbehind, if_neg c9, if_neg c14, if_neg c22]; exact mq_ok ht hd hz rfl)⟩
      · refine N.aload0 dX5_behind_25 ?_
        refine N.bipush (v := -2) dX5_behind_26 (by decide) ?_
        refine N.vi1 dX5_behind_28 vX5_refuse lkX5_89 (s_X5_refuse _ _ _ _ _ _ rfIn2) mO rfl (Nat.le_of_ble_eq_true rfl) (Nat.le_of_ble_eq_true rfl) (by omega) (by omega) ?_
        rintro _ _ _ ⟨rfl, rfl, rfl⟩
        exact N.iret dX5_behind_31 rfl (by omega) (by omega) ⟨_, rfl, (by rw [mbehind, if_neg c9, if_neg c14, if_pos c22]; exact rmf_ok ht)⟩
def twM (v : CV) (l k n : Int32) : Int32 := goG (putOnV v (v.2 4 l.toNatClampNeg)) n + goG (chM (goV (putOnV v (v.2 4 l.toNatClampNeg)) n) k) n
def mtwo (m : Mst) (l k n : Int32) : Int32 × Mst := if isInF l 0 3 = 0 then rn m (-2) else if isInF k 0 3 = 0 then rn m (-2) else if isInF n 0 600 = 0 then rn m (-2) else if m.1.2 4 l.toNatClampNeg = 0 then rn m (-5) else if m.1.2 4 k.toNatClampNeg = 0 then rn m (-5) else (twM m.1 l k n, m)
set_option maxRecDepth 100000 in
theorem s_X5_two {K : Kx} (w : Wd) (b sz : Nat) (v : CV) (e : M5) (t : Option Nat) (z : MX) (l : Int32) (k : Int32) (n : Int32) (ht : tOk G b sz t) (hM : okM (v, e)) : Sp K mX5_two 9 (kc t) (ks t) [.ref b, .int l, .int k, .int n] (putM K (tw K w t z) b (v, wt e t)) sz (Qi fun r w' sz' => r = (mtwo (v, e) l k n).1 ∧ ∃ t' z', w' = putM K (tw K w t' z') b ((mtwo (v, e) l k n).2.1, wt (mtwo (v, e) l k n).2.2 t') ∧ tOk G b sz' t' ∧ sz ≤ sz') := by
  refine Sp.ofN [some (.ref b), some (.int l), some (.int k), some (.int n), none, none] rfl rfl rfl (Nat.le_of_ble_eq_true rfl) ?_
  have h : okP v := hM.1
  refine N.iload1 dX5_two_0 ?_
  refine N.i2l dX5_two_1 ?_
  refine N.si1 dX5_two_2 vX5_isLine lkX5_138 (s_X5_isLine _ _ _) rfl (Nat.le_of_ble_eq_true rfl) (Nat.le_of_ble_eq_true rfl) (by omega) (by omega) ?_
  rintro r1 _ _ ⟨er, rfl, rfl⟩
  obtain rfl := er.trans (inL_i (a := 0) (b := 3) rfl rfl)
  refine N.if_eq (tgt := 28) dX5_two_5 (by decide) (fun c5 => ?_) (fun c5 => ?_)
  · refine N.aload0 dX5_two_28 ?_
    refine N.bipush (v := -2) dX5_two_29 (by decide) ?_
    refine N.vi1 dX5_two_31 vX5_refuse lkX5_89 (s_X5_refuse _ _ _ _ _ _ rfIn2) mO rfl (Nat.le_of_ble_eq_true rfl) (Nat.le_of_ble_eq_true rfl) (by omega) (by omega) ?_
    rintro _ _ _ ⟨rfl, rfl, rfl⟩
    refine N.si1 dX5_two_34 vX5_far lkX5_320 (s_X5_far _ _ _) rfl (Nat.le_of_ble_eq_true rfl) (Nat.le_of_ble_eq_true rfl) (by omega) (by omega) ?_
    rintro _ _ _ ⟨rfl, rfl, rfl⟩
    exact N.iret dX5_two_37 rfl (by omega) (by omega) ⟨_, rfl, (by rw [mtwo, if_pos c5]; exact rnf_ok ht)⟩
  · refine N.iload2 dX5_two_8 ?_
    refine N.i2l dX5_two_9 ?_
    refine N.si1 dX5_two_10 vX5_isLine lkX5_138 (s_X5_isLine _ _ _) rfl (Nat.le_of_ble_eq_true rfl) (Nat.le_of_ble_eq_true rfl) (by omega) (by omega) ?_
    rintro r1 _ _ ⟨er, rfl, rfl⟩
    obtain rfl := er.trans (inL_i (a := 0) (b := 3) rfl rfl)
    refine N.if_eq (tgt := 28) dX5_two_13 (by decide) (fun c13 => ?_) (fun c13 => ?_)
    · refine N.aload0 dX5_two_28 ?_
      refine N.bipush (v := -2) dX5_two_29 (by decide) ?_
      refine N.vi1 dX5_two_31 vX5_refuse lkX5_89 (s_X5_refuse _ _ _ _ _ _ rfIn2) mO rfl (Nat.le_of_ble_eq_true rfl) (Nat.le_of_ble_eq_true rfl) (by omega) (by omega) ?_
      rintro _ _ _ ⟨rfl, rfl, rfl⟩
      refine N.si1 dX5_two_34 vX5_far lkX5_320 (s_X5_far _ _ _) rfl (Nat.le_of_ble_eq_true rfl) (Nat.le_of_ble_eq_true rfl) (by omega) (by omega) ?_
      rintro _ _ _ ⟨rfl, rfl, rfl⟩
      exact N.iret dX5_two_37 rfl (by omega) (by omega) ⟨_, rfl, (by rw [mtwo, if_neg c5, if_pos c13]; exact rnf_ok ht)⟩
    · refine N.iload3 dX5_two_16 ?_
      refine N.i2l dX5_two_17 ?_
      refine N.lconst (v := 0) dX5_two_18 (by decide) ?_
      refine N.ldc2 dX5_two_19 ctX5_314 ?_
      refine N.si3 dX5_two_22 vX5_in lkX5_77 (s_X5_in _ _ _ _ _) rfl (Nat.le_of_ble_eq_true rfl) (Nat.le_of_ble_eq_true rfl) (by omega) (by omega) ?_
      rintro r1 _ _ ⟨er, rfl, rfl⟩
      obtain rfl := er.trans (inL_i (a := (0)) (b := (600)) rfl rfl)
      refine N.if_ne (tgt := 38) dX5_two_25 (by decide) (fun c25 => ?_) (fun c25 => ?_)
      · refine N.aload0 dX5_two_38 ?_
        refine N.getf dX5_two_39 flX5_49 mO rfl ?_
        refine N.iload1 dX5_two_42 ?_
        refine N.iald dX5_two_43 mA4 (ln_in c5) ?_
        refine N.if_eq (tgt := 56) dX5_two_44 (by decide) (fun c44 => ?_) (fun c44 => ?_)
        · refine N.aload0 dX5_two_56 ?_
          refine N.bipush (v := -5) dX5_two_57 (by decide) ?_
          refine N.vi1 dX5_two_59 vX5_refuse lkX5_89 (s_X5_refuse _ _ _ _ _ _ rfIn5) mO rfl (Nat.le_of_ble_eq_true rfl) (Nat.le_of_ble_eq_true rfl) (by omega) (by omega) ?_
          rintro _ _ _ ⟨rfl, rfl, rfl⟩
          refine N.si1 dX5_two_62 vX5_far lkX5_320 (s_X5_far _ _ _) rfl (Nat.le_of_ble_eq_true rfl) (Nat.le_of_ble_eq_true rfl) (by omega) (by omega) ?_
          rintro _ _ _ ⟨rfl, rfl, rfl⟩
          exact N.iret dX5_two_65 rfl (by omega) (by omega) ⟨_, rfl, (by rw [mtwo, if_neg c5, if_neg c13, if_neg c25, if_pos c44]; exact rnf_ok ht)⟩
        · refine N.aload0 dX5_two_47 ?_
          refine N.getf dX5_two_48 flX5_49 mO rfl ?_
          refine N.iload2 dX5_two_51 ?_
          refine N.iald dX5_two_52 mA4 (ln_in c13) ?_
          refine N.if_ne (tgt := 66) dX5_two_53 (by decide) (fun c53 => ?_) (fun c53 => ?_)
          · obtain ⟨m, hm, hn⟩ := in_n (N' := 600) (by decide) c25
            refine N.aload0 dX5_two_66 ?_
            refine N.va0A dX5_two_67 vX5_fresh lkX5_248 (s_X5_fresh w b _ v e t z ht) mO rfl (Nat.le_of_ble_eq_true rfl) (Nat.le_of_ble_eq_true rfl) (by omega) (by omega) ?_
            rintro q _ sz2 ⟨z2, rfl, hd, hz⟩
            refine N.astore4 dX5_two_70 rfl ?_
            refine N.aload4 dX5_two_72 ?_
            refine N.iload1 dX5_two_74 ?_
            refine N.vv1 dX5_two_75 vX5_whistles lkX5_218 (Sp.mv hd fun W => s_X5_whistles W _ _ _ _ _ (ln_in c5)) (tO hd) rfl (Nat.le_of_ble_eq_true rfl) (Nat.le_of_ble_eq_true rfl) (by omega) (by omega) ?_
            rintro _ _ ⟨rfl, rfl⟩
            refine N.aload4 dX5_two_78 ?_
            refine N.iload3 dX5_two_80 ?_
            refine N.vi1 dX5_two_81 vX5_goes lkX5_316 (Sp.mi hd fun W => s_X5_goes W _ _ _ _ _ (h.on _) m hm hn) (tO hd) rfl (Nat.le_of_ble_eq_true rfl) (Nat.le_of_ble_eq_true rfl) (by omega) (by omega) ?_
            rintro _ _ _ ⟨rfl, rfl, rfl⟩
            refine N.istore5 dX5_two_84 rfl ?_
            refine N.aload4 dX5_two_86 ?_
            refine N.iload2 dX5_two_88 ?_
            refine N.vi1 dX5_two_89 vX5_changes lkX5_323 (Sp.mi hd fun W => s_X5_changes W _ _ _ _ _ (ln_in c13) (goM_ok (h.on _) _)) (tO hd) rfl (Nat.le_of_ble_eq_true rfl) (Nat.le_of_ble_eq_true rfl) (by omega) (by omega) ?_
            rintro _ _ _ ⟨rfl, rfl, rfl⟩
            refine N.pop dX5_two_92 rfl ?_
            refine N.iload5 dX5_two_93 ?_
            refine N.aload4 dX5_two_95 ?_
            refine N.iload3 dX5_two_97 ?_
            refine N.vi1 dX5_two_98 vX5_goes lkX5_316 (Sp.mi hd fun W => s_X5_goes W _ _ _ _ _ (okP.chm (goM_ok (h.on _) _) _) m hm hn) (tO hd) rfl (Nat.le_of_ble_eq_true rfl) (Nat.le_of_ble_eq_true rfl) (by omega) (by omega) ?_
            rintro _ _ _ ⟨rfl, rfl, rfl⟩
            refine N.iadd dX5_two_101 ?_
            exact N.iret dX5_two_102 rfl (by omega) (by omega) ⟨_, rfl, (by rw [mtwo, if_neg c5, if_neg c13, if_neg c25, if_neg c44, if_neg c53]; exact mq_ok ht hd hz rfl)⟩
          · refine N.aload0 dX5_two_56 ?_
            refine N.bipush (v := -5) dX5_two_57 (by decide) ?_
            refine N.vi1 dX5_two_59 vX5_refuse lkX5_89 (s_X5_refuse _ _ _ _ _ _ rfIn5) mO rfl (Nat.le_of_ble_eq_true rfl) (Nat.le_of_ble_eq_true rfl) (by omega) (by omega) ?_
            rintro _ _ _ ⟨rfl, rfl, rfl⟩
            refine N.si1 dX5_two_62 vX5_far lkX5_320 (s_X5_far _ _ _) rfl (Nat.le_of_ble_eq_true rfl) (Nat.le_of_ble_eq_true rfl) (by omega) (by omega) ?_
            rintro _ _ _ ⟨rfl, rfl, rfl⟩
            exact N.iret dX5_two_65 rfl (by omega) (by omega) ⟨_, rfl, (by rw [mtwo, if_neg c5, if_neg c13, if_neg c25, if_neg c44, if_pos c53]; exact rnf_ok ht)⟩
      · refine N.aload0 dX5_two_28 ?_
        refine N.bipush (v := -2) dX5_two_29 (by decide) ?_
        refine N.vi1 dX5_two_31 vX5_refuse lkX5_89 (s_X5_refuse _ _ _ _ _ _ rfIn2) mO rfl (Nat.le_of_ble_eq_true rfl) (Nat.le_of_ble_eq_true rfl) (by omega) (by omega) ?_
        rintro _ _ _ ⟨rfl, rfl, rfl⟩
        refine N.si1 dX5_two_34 vX5_far lkX5_320 (s_X5_far _ _ _) rfl (Nat.le_of_ble_eq_true rfl) (Nat.le_of_ble_eq_true rfl) (by omega) (by omega) ?_
        rintro _ _ _ ⟨rfl, rfl, rfl⟩
        exact N.iret dX5_two_37 rfl (by omega) (by omega) ⟨_, rfl, (by rw [mtwo, if_neg c5, if_neg c13, if_pos c25]; exact rnf_ok ht)⟩
