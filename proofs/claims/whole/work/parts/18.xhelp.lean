/-! the object's own helpers -/
def refX (x : XV) (y : Int32) : XV := if isInF (-2 - y) 0 (5 - 1) = 0 then x else setRef x (upd x.2.2.2.1 (-2 - y).toNatClampNeg (x.2.2.2.1 (-2 - y).toNatClampNeg + 1))
def noLF (l : Int32) : Int32 := if isInF l 0 3 = 0 then -2 else -5
def setS (v : CV) (j : Nat) (y : Int32) : CV := (upd v.1 j y, v.2)
def chgG (v : CV) (l n t : Int32) : Int32 := gainsF (chgV (setS v 4 t) l) n - gainsF (setS v 4 t) n
def meetG (v : CV) (l t : Int32) : Int32 := gainsF (putOnV (setS v 6 t) (v.2 4 l.toNatClampNeg)) 40
theorem okP.set {v : CV} (h : okP v) {j : Nat} (hj : j ≠ 0) (y : Int32) : okP (upd v.1 j y, v.2) := by
  unfold okP at *
  simpa [upd, Ne.symm hj] using h
theorem okP.on {v : CV} (h : okP v) (s : Int32) : okP (putOnV v s) := by
  unfold okP putOnV at *
  simpa [upd] using h
theorem okP.chg {v : CV} (h : okP v) (l : Int32) : okP (chgV v l) := by
  unfold okP chgV at *
  simpa [upd] using h
theorem okP.off {v : CV} (h : okP v) (q : Int32) : okP (takeOffV v q) := by
  unfold okP takeOffV at *
  split <;> simpa [upd] using h
theorem okP.oursV {v : CV} (h : okP v) (n : Int32) : okP (oursV v n) := (h.ours _).rest _
theorem okP.pass {v : CV} (h : okP v) (n : Int32) : okP (passV n v) := ((h.tire n).rest n).come n
set_option maxRecDepth 100000 in
theorem s_X4_refuse {K : Kx} (w : Wd) (a sz : Nat) (x : XV) (u : CV) (p : Int32 × Int32) (y : Int32)  : Sp K mX4_refuse 1 0 0 [.ref a, .int y] (putU K w a x u p) sz (Qi fun r w' sz' => r = (y) ∧ w' = putU K w a (refX x y) (u) (p) ∧ sz' = sz) := by
  refine Sp.ofN [some (.ref a), some (.int y), none] rfl rfl rfl (Nat.le_of_ble_eq_true rfl) ?_
  refine N.bipush (v := -2) dX4_refuse_0 (by decide) ?_
  refine N.iload1 dX4_refuse_2 ?_
  refine N.isub dX4_refuse_3 ?_
  refine N.istore2 dX4_refuse_4 rfl ?_
  refine N.iload2 dX4_refuse_5 ?_
  refine N.iconst (v := 0) dX4_refuse_6 (by decide) ?_
  refine N.aload0 dX4_refuse_7 ?_
  refine N.getf dX4_refuse_8 flX4_38 yO rfl ?_
  refine N.alenI dX4_refuse_11 yE (by decide : Int32.ofNat 5 = 5) ?_
  refine N.iconst (v := 1) dX4_refuse_12 (by decide) ?_
  refine N.isub dX4_refuse_13 ?_
  refine N.si3 dX4_refuse_14 vX4_isIn lkX4_58 (s_X4_isIn _ _ _ _ _) rfl (Nat.le_of_ble_eq_true rfl) (Nat.le_of_ble_eq_true rfl) (Nat.zero_le _) (Nat.zero_le _) ?_
  rintro r1 _ _ ⟨e1, rfl, rfl⟩
  refine N.swc (isInF (-2 - y) 0 (5 - 1)) (fun e2 => ?_) (fun e2 => absurd e1 e2)
  rw [e1]
  refine N.if_eq (tgt := 30) dX4_refuse_17 (by decide) (fun c17 => ?_) (fun c17 => ?_)
  · refine N.iload1 dX4_refuse_30 ?_
    exact N.iret dX4_refuse_31 rfl (Nat.zero_le _) (Nat.zero_le _) ⟨_, rfl, ⟨rfl, (by rw [refX, if_pos c17]), rfl⟩⟩
  · refine N.aload0 dX4_refuse_20 ?_
    refine N.getf dX4_refuse_21 flX4_38 yO rfl ?_
    refine N.iload2 dX4_refuse_24 ?_
    refine N.dup2 dX4_refuse_25 rfl rfl ?_
    refine N.iald dX4_refuse_26 yE (isIn_vp (by decide) c17) ?_
    refine N.iconst (v := 1) dX4_refuse_27 (by decide) ?_
    refine N.iadd dX4_refuse_28 ?_
    refine N.iast dX4_refuse_29 yE (isIn_vp (by decide) c17) yEs ?_
    refine N.iload1 dX4_refuse_30 ?_
    exact N.iret dX4_refuse_31 rfl (Nat.zero_le _) (Nat.zero_le _) ⟨_, rfl, ⟨rfl, (by rw [refX, if_neg c17]), rfl⟩⟩
set_option maxRecDepth 100000 in
theorem s_X4_refuseGains {K : Kx} (w : Wd) (a sz : Nat) (x : XV) (u : CV) (p : Int32 × Int32) (y : Int32)  : Sp K mX4_refuseGains 2 0 0 [.ref a, .int y] (putU K w a x u p) sz (Qi fun r w' sz' => r = (-1000000000 + y) ∧ w' = putU K w a (refX x y) (u) (p) ∧ sz' = sz) := by
  refine Sp.ofN [some (.ref a), some (.int y)] rfl rfl rfl (Nat.le_of_ble_eq_true rfl) ?_
  refine N.ldcw dX4_refuseGains_0 ctX4_345 ?_
  refine N.aload0 dX4_refuseGains_3 ?_
  refine N.iload1 dX4_refuseGains_4 ?_
  refine N.vi1 dX4_refuseGains_5 vX4_refuse lkX4_62 (s_X4_refuse _ _ _ _ _ _ _) yO rfl (Nat.le_of_ble_eq_true rfl) (Nat.le_of_ble_eq_true rfl) (Nat.zero_le _) (Nat.zero_le _) ?_
  rintro _ _ _ ⟨rfl, rfl, rfl⟩
  refine N.iadd dX4_refuseGains_8 ?_
  exact N.iret dX4_refuseGains_9 rfl (Nat.zero_le _) (Nat.zero_le _) ⟨_, rfl, ⟨rfl, rfl, rfl⟩⟩
set_option maxRecDepth 100000 in
theorem s_X4_whyNoLine {K : Kx} (w : Wd) (a sz : Nat) (x : XV) (u : CV) (p : Int32 × Int32) (l : Int32)  : Sp K mX4_whyNoLine 2 0 0 [.ref a, .int l] (putU K w a x u p) sz (Qi fun r w' sz' => r = (noLF l) ∧ w' = putU K w a (x) (u) (p) ∧ sz' = sz) := by
  refine Sp.ofN [some (.ref a), some (.int l)] rfl rfl rfl (Nat.le_of_ble_eq_true rfl) ?_
  refine N.iload1 dX4_whyNoLine_0 ?_
  refine N.si1 dX4_whyNoLine_1 vX4_isLine lkX4_131 (s_X4_isLine _ _ _) rfl (Nat.le_of_ble_eq_true rfl) (Nat.le_of_ble_eq_true rfl) (Nat.zero_le _) (Nat.zero_le _) ?_
  rintro _ _ _ ⟨rfl, rfl, rfl⟩
  refine N.if_eq (tgt := 12) dX4_whyNoLine_4 (by decide) (fun c4 => ?_) (fun c4 => ?_)
  · refine N.bipush (v := -2) dX4_whyNoLine_12 (by decide) ?_
    exact N.iret dX4_whyNoLine_14 rfl (Nat.zero_le _) (Nat.zero_le _) ⟨_, rfl, ⟨(by first | (simp only [noLF, c4, ↓reduceIte]; done) | (simp_all [noLF]; done)), rfl, rfl⟩⟩
  · refine N.bipush (v := -5) dX4_whyNoLine_7 (by decide) ?_
    refine N.goto (tgt := 14) dX4_whyNoLine_9 (by decide) ?_
    exact N.iret dX4_whyNoLine_14 rfl (Nat.zero_le _) (Nat.zero_le _) ⟨_, rfl, ⟨(by first | (simp only [noLF, c4, ↓reduceIte]; done) | (simp_all [noLF]; done)), rfl, rfl⟩⟩
set_option maxRecDepth 100000 in
theorem s_X4_powerWith {K : Kx} (w : Wd) (a sz : Nat) (x : XV) (u : CV) (p : Int32 × Int32) (s : Int32) (h : okP (x.1 0)) : Sp K mX4_powerWith 4 0 0 [.ref a, .int s] (putU K w a x u p) sz (Qi fun r w' sz' => r = (powAll (putOnV (x.1 0) s)) ∧ w' = putU K w a (x) (putOnV (x.1 0) s) (p) ∧ sz' = sz) := by
  refine Sp.ofN [some (.ref a), some (.int s)] rfl rfl rfl (Nat.le_of_ble_eq_true rfl) ?_
  refine N.aload0 dX4_powerWith_0 ?_
  refine N.getf dX4_powerWith_1 flX4_16 yO rfl ?_
  refine N.aload0 dX4_powerWith_4 ?_
  refine N.getf dX4_powerWith_5 flX4_10 yO rfl ?_
  refine N.vv1 dX4_powerWith_8 vX1_takeFrom lkX4_161 (Sp.tk) yO1 rfl (Nat.le_of_ble_eq_true rfl) (Nat.le_of_ble_eq_true rfl) (Nat.zero_le _) (Nat.zero_le _) ?_
  rintro _ _ ⟨rfl, rfl⟩
  refine N.aload0 dX4_powerWith_11 ?_
  refine N.getf dX4_powerWith_12 flX4_16 yO rfl ?_
  refine N.iload1 dX4_powerWith_15 ?_
  refine N.vv1 dX4_powerWith_16 vX1_putOn lkX4_256 (Sp.n1v fun W => s_X1_putOn W _ _ _ _) yO1 rfl (Nat.le_of_ble_eq_true rfl) (Nat.le_of_ble_eq_true rfl) (Nat.zero_le _) (Nat.zero_le _) ?_
  rintro _ _ ⟨rfl, rfl⟩
  refine N.aload0 dX4_powerWith_19 ?_
  refine N.getf dX4_powerWith_20 flX4_16 yO rfl ?_
  refine N.vi0 dX4_powerWith_23 vX1_powerOfAll lkX4_199 (Sp.n1i fun W => s_X1_powerOfAll W _ _ _ (h.on s)) yO1 rfl (Nat.le_of_ble_eq_true rfl) (Nat.le_of_ble_eq_true rfl) (Nat.zero_le _) (Nat.zero_le _) ?_
  rintro _ _ _ ⟨rfl, rfl, rfl⟩
  exact N.iret dX4_powerWith_26 rfl (Nat.zero_le _) (Nat.zero_le _) ⟨_, rfl, ⟨rfl, rfl, rfl⟩⟩
set_option maxRecDepth 100000 in
theorem s_X4_gainsOfChange {K : Kx} (w : Wd) (a sz : Nat) (x : XV) (u : CV) (p : Int32 × Int32) (l n t : Int32) (h : okP (x.1 0)) (hl : vp_in l 4) (m : Nat) (hm : m ≤ 600) (hn : n = nI m) : Sp K mX4_gainsOfChange 6 0 0 [.ref a, .int l, .int n, .int t] (putU K w a x u p) sz (Qi fun r w' sz' => r = (chgG (x.1 0) l n t) ∧ w' = putU K w a (x) (oursV (chgV (setS (x.1 0) 4 t) l) n) (p) ∧ sz' = sz) := by
  refine Sp.ofN [some (.ref a), some (.int l), some (.int n), some (.int t), none] rfl rfl rfl (Nat.le_of_ble_eq_true rfl) ?_
  refine N.aload0 dX4_gainsOfChange_0 ?_
  refine N.getf dX4_gainsOfChange_1 flX4_16 yO rfl ?_
  refine N.aload0 dX4_gainsOfChange_4 ?_
  refine N.getf dX4_gainsOfChange_5 flX4_10 yO rfl ?_
  refine N.vv1 dX4_gainsOfChange_8 vX1_takeFrom lkX4_161 (Sp.tk) yO1 rfl (Nat.le_of_ble_eq_true rfl) (Nat.le_of_ble_eq_true rfl) (Nat.zero_le _) (Nat.zero_le _) ?_
  rintro _ _ ⟨rfl, rfl⟩
  refine N.aload0 dX4_gainsOfChange_11 ?_
  refine N.getf dX4_gainsOfChange_12 flX4_16 yO rfl ?_
  refine N.iload3 dX4_gainsOfChange_15 ?_
  refine N.putf dX4_gainsOfChange_16 flX4_145 yO1 (Nat.le_of_ble_eq_true rfl) (fun _ h => by cases h; rfl) rfl rfl yP1_4 ?_
  refine N.aload0 dX4_gainsOfChange_19 ?_
  refine N.getf dX4_gainsOfChange_20 flX4_16 yO rfl ?_
  refine N.iload2 dX4_gainsOfChange_23 ?_
  refine N.vi1 dX4_gainsOfChange_24 vX1_gainsIn lkX4_253 (Sp.n1i fun W => s_X1_gainsIn W _ _ _ _ m hm hn (h.set (by decide) t)) yO1 rfl (Nat.le_of_ble_eq_true rfl) (Nat.le_of_ble_eq_true rfl) (Nat.zero_le _) (Nat.zero_le _) ?_
  rintro _ _ _ ⟨rfl, rfl, rfl⟩
  refine N.istore4 dX4_gainsOfChange_27 rfl ?_
  refine N.aload0 dX4_gainsOfChange_29 ?_
  refine N.getf dX4_gainsOfChange_30 flX4_16 yO rfl ?_
  refine N.aload0 dX4_gainsOfChange_33 ?_
  refine N.getf dX4_gainsOfChange_34 flX4_10 yO rfl ?_
  refine N.vv1 dX4_gainsOfChange_37 vX1_takeFrom lkX4_161 (Sp.tk) yO1 rfl (Nat.le_of_ble_eq_true rfl) (Nat.le_of_ble_eq_true rfl) (Nat.zero_le _) (Nat.zero_le _) ?_
  rintro _ _ ⟨rfl, rfl⟩
  refine N.aload0 dX4_gainsOfChange_40 ?_
  refine N.getf dX4_gainsOfChange_41 flX4_16 yO rfl ?_
  refine N.iload3 dX4_gainsOfChange_44 ?_
  refine N.putf dX4_gainsOfChange_45 flX4_145 yO1 (Nat.le_of_ble_eq_true rfl) (fun _ h => by cases h; rfl) rfl rfl yP1_4 ?_
  refine N.aload0 dX4_gainsOfChange_48 ?_
  refine N.getf dX4_gainsOfChange_49 flX4_16 yO rfl ?_
  refine N.iload1 dX4_gainsOfChange_52 ?_
  refine N.vi1 dX4_gainsOfChange_53 vX1_beginChange lkX4_265 (Sp.n1i fun W => s_X1_beginChange W _ _ _ _ hl (h.set (by decide) t)) yO1 rfl (Nat.le_of_ble_eq_true rfl) (Nat.le_of_ble_eq_true rfl) (Nat.zero_le _) (Nat.zero_le _) ?_
  rintro _ _ _ ⟨rfl, rfl, rfl⟩
  refine N.pop dX4_gainsOfChange_56 rfl ?_
  refine N.aload0 dX4_gainsOfChange_57 ?_
  refine N.getf dX4_gainsOfChange_58 flX4_16 yO rfl ?_
  refine N.iload2 dX4_gainsOfChange_61 ?_
  refine N.vi1 dX4_gainsOfChange_62 vX1_gainsIn lkX4_253 (Sp.n1i fun W => s_X1_gainsIn W _ _ _ _ m hm hn ((h.set (by decide) t).chg l)) yO1 rfl (Nat.le_of_ble_eq_true rfl) (Nat.le_of_ble_eq_true rfl) (Nat.zero_le _) (Nat.zero_le _) ?_
  rintro _ _ _ ⟨rfl, rfl, rfl⟩
  refine N.iload4 dX4_gainsOfChange_65 ?_
  refine N.isub dX4_gainsOfChange_67 ?_
  exact N.iret dX4_gainsOfChange_68 rfl (Nat.zero_le _) (Nat.zero_le _) ⟨_, rfl, ⟨rfl, rfl, rfl⟩⟩
set_option maxRecDepth 100000 in
theorem s_X4_gainsOfMeeting {K : Kx} (w : Wd) (a sz : Nat) (x : XV) (u : CV) (p : Int32 × Int32) (l t : Int32) (h : okP (x.1 0)) (hl : vp_in l 4) : Sp K mX4_gainsOfMeeting 6 0 0 [.ref a, .int l, .int t] (putU K w a x u p) sz (Qi fun r w' sz' => r = (meetG (x.1 0) l t) ∧ w' = putU K w a (x) (oursV (putOnV (setS (x.1 0) 6 t) ((x.1 0).2 4 l.toNatClampNeg)) 40) (p) ∧ sz' = sz) := by
  refine Sp.ofN [some (.ref a), some (.int l), some (.int t)] rfl rfl rfl (Nat.le_of_ble_eq_true rfl) ?_
  refine N.aload0 dX4_gainsOfMeeting_0 ?_
  refine N.getf dX4_gainsOfMeeting_1 flX4_16 yO rfl ?_
  refine N.aload0 dX4_gainsOfMeeting_4 ?_
  refine N.getf dX4_gainsOfMeeting_5 flX4_10 yO rfl ?_
  refine N.vv1 dX4_gainsOfMeeting_8 vX1_takeFrom lkX4_161 (Sp.tk) yO1 rfl (Nat.le_of_ble_eq_true rfl) (Nat.le_of_ble_eq_true rfl) (Nat.zero_le _) (Nat.zero_le _) ?_
  rintro _ _ ⟨rfl, rfl⟩
  refine N.aload0 dX4_gainsOfMeeting_11 ?_
  refine N.getf dX4_gainsOfMeeting_12 flX4_16 yO rfl ?_
  refine N.iload2 dX4_gainsOfMeeting_15 ?_
  refine N.putf dX4_gainsOfMeeting_16 flX4_151 yO1 (Nat.le_of_ble_eq_true rfl) (fun _ h => by cases h; rfl) rfl rfl yP1_6 ?_
  refine N.aload0 dX4_gainsOfMeeting_19 ?_
  refine N.getf dX4_gainsOfMeeting_20 flX4_16 yO rfl ?_
  refine N.aload0 dX4_gainsOfMeeting_23 ?_
  refine N.getf dX4_gainsOfMeeting_24 flX4_16 yO rfl ?_
  refine N.getf dX4_gainsOfMeeting_27 flX4_142 yO1 rfl ?_
  refine N.iload1 dX4_gainsOfMeeting_30 ?_
  refine N.iald dX4_gainsOfMeeting_31 yA1_4 hl ?_
  refine N.vv1 dX4_gainsOfMeeting_32 vX1_putOn lkX4_256 (Sp.n1v fun W => s_X1_putOn W _ _ _ _) yO1 rfl (Nat.le_of_ble_eq_true rfl) (Nat.le_of_ble_eq_true rfl) (Nat.zero_le _) (Nat.zero_le _) ?_
  rintro _ _ ⟨rfl, rfl⟩
  refine N.aload0 dX4_gainsOfMeeting_35 ?_
  refine N.getf dX4_gainsOfMeeting_36 flX4_16 yO rfl ?_
  refine N.bipush (v := 40) dX4_gainsOfMeeting_39 (by decide) ?_
  refine N.vi1 dX4_gainsOfMeeting_41 vX1_gainsIn lkX4_253 (Sp.n1i fun W => s_X1_gainsIn W _ _ _ _ 40 (by decide) rfl ((h.set (by decide) t).on _)) yO1 rfl (Nat.le_of_ble_eq_true rfl) (Nat.le_of_ble_eq_true rfl) (Nat.zero_le _) (Nat.zero_le _) ?_
  rintro _ _ _ ⟨rfl, rfl, rfl⟩
  exact N.iret dX4_gainsOfMeeting_44 rfl (Nat.zero_le _) (Nat.zero_le _) ⟨_, rfl, ⟨rfl, rfl, rfl⟩⟩
