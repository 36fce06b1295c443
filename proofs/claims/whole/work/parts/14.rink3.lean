/-! Rink: seconds one after the other, and copies -/
set_option maxRecDepth 100000 in
theorem l_X1_oursIn {K : Kx} (w : Wd) (b sz : Nat) (v : CV) (n : Int32) (m : Nat) (hm : m ≤ 600) (hn : n = nI m) (h : okP v)  : ∀ nn k, k + nn = m → N K mX1_oursIn 4 0 0 (Qi fun r w' sz' => r = ((oursTo v n.toNatClampNeg).2) ∧ w' = putR K w b (restV n (oursTo v n.toNatClampNeg).1) ∧ sz' = sz) 4 [some (.ref b), some (.int n), some (.int (oursTo v k).2), some (.int (nI k))] [] (putR K w b (oursTo v k).1) sz 0 0 := by
  intro nn
  induction nn with
  | zero =>
    intro k hk
    obtain rfl : k = m := by omega
    have hcl : n.toNatClampNeg = k := by rw [hn, nI_clamp (by omega)]
    have ho := h.ours k
    refine N.iload3 dX1_oursIn_4 ?_
    refine N.iload1 dX1_oursIn_5 ?_
    refine N.icmp_ge (tgt := 36) dX1_oursIn_6 (by decide) (fun c6 => ?_) (fun c6 => absurd (pl_ge hn (by omega) (by omega)) c6)
    refine N.aload0 dX1_oursIn_36 ?_
    refine N.iload1 dX1_oursIn_37 ?_
    refine N.vv1 dX1_oursIn_38 vX1_restBench lkX1_135 (s_X1_restBench _ _ _ _ _ ho) rO rfl (Nat.le_of_ble_eq_true rfl) (Nat.le_of_ble_eq_true rfl) (Nat.zero_le _) (Nat.zero_le _) ?_
    rintro _ _ ⟨rfl, rfl⟩
    refine N.iload2 dX1_oursIn_41 ?_
    exact N.iret dX1_oursIn_42 rfl (Nat.zero_le _) (Nat.zero_le _) ⟨_, rfl, ⟨by rw [hcl], by rw [hcl], rfl⟩⟩
  | succ nn ih =>
    intro k hk
    have ho := h.ours k
    refine N.iload3 dX1_oursIn_4 ?_
    refine N.iload1 dX1_oursIn_5 ?_
    refine N.icmp_ge (tgt := 36) dX1_oursIn_6 (by decide) (fun c6 => absurd c6 (by rw [hn]; exact nI_ge (by omega) (by omega))) (fun c6 => ?_)
    refine N.aload0 dX1_oursIn_9 ?_
    refine N.iconst (v := 1) dX1_oursIn_10 (by decide) ?_
    refine N.vv1 dX1_oursIn_11 vX1_tireIce lkX1_131 (s_X1_tireIce _ _ _ _ _ ho) rO rfl (Nat.le_of_ble_eq_true rfl) (Nat.le_of_ble_eq_true rfl) (Nat.zero_le _) (Nat.zero_le _) ?_
    rintro _ _ ⟨rfl, rfl⟩
    refine N.iload2 dX1_oursIn_14 ?_
    refine N.aload0 dX1_oursIn_15 ?_
    refine N.aload0 dX1_oursIn_16 ?_
    refine N.vi0 dX1_oursIn_17 vX1_powerOfAll lkX1_141 (s_X1_powerOfAll _ _ _ _ (ho.tire 1)) rO rfl (Nat.le_of_ble_eq_true rfl) (Nat.le_of_ble_eq_true rfl) (Nat.zero_le _) (Nat.zero_le _) ?_
    rintro _ _ _ ⟨rfl, rfl, rfl⟩
    refine N.vi1 dX1_oursIn_20 vX1_oddsOurs lkX1_145 (s_X1_oddsOurs _ _ _ _ _) rO rfl (Nat.le_of_ble_eq_true rfl) (Nat.le_of_ble_eq_true rfl) (Nat.zero_le _) (Nat.zero_le _) ?_
    rintro _ _ _ ⟨rfl, rfl, rfl⟩
    refine N.iadd dX1_oursIn_23 ?_
    refine N.istore2 dX1_oursIn_24 rfl ?_
    refine N.aload0 dX1_oursIn_25 ?_
    refine N.iconst (v := 1) dX1_oursIn_26 (by decide) ?_
    refine N.vv1 dX1_oursIn_27 vX1_comeNearer lkX1_138 (s_X1_comeNearer _ _ _ _ _) rO rfl (Nat.le_of_ble_eq_true rfl) (Nat.le_of_ble_eq_true rfl) (Nat.zero_le _) (Nat.zero_le _) ?_
    rintro _ _ ⟨rfl, rfl⟩
    refine N.iinc3 dX1_oursIn_30 rfl (nI_inc k) ?_
    refine N.goto (tgt := 4) dX1_oursIn_33 (by decide) ?_
    exact ih (k + 1) (by omega)
set_option maxRecDepth 100000 in
theorem s_X1_oursIn {K : Kx} (w : Wd) (b sz : Nat) (v : CV) (n : Int32) (m : Nat) (hm : m ≤ 600) (hn : n = nI m) (h : okP v) : Sp K mX1_oursIn 4 0 0 [.ref b, .int n] (putR K w b v) sz (Qi fun r w' sz' => r = ((oursTo v n.toNatClampNeg).2) ∧ w' = putR K w b (restV n (oursTo v n.toNatClampNeg).1) ∧ sz' = sz) := by
  refine Sp.ofN [some (.ref b), some (.int n), none, none] rfl rfl rfl (Nat.le_of_ble_eq_true rfl) ?_
  refine N.iconst (v := 0) dX1_oursIn_0 (by decide) ?_
  refine N.istore2 dX1_oursIn_1 rfl ?_
  refine N.iconst (v := 0) dX1_oursIn_2 (by decide) ?_
  refine N.istore3 dX1_oursIn_3 rfl ?_
  exact N.wk (by simp [wk, nI_0, oursTo]) (l_X1_oursIn w b sz v n m hm hn h  m 0 (by omega))
set_option maxRecDepth 100000 in
theorem s_X1_againstIn {K : Kx} (w : Wd) (b sz : Nat) (v : CV) (n : Int32)  : Sp K mX1_againstIn 1 0 0 [.ref b, .int n] (putR K w b v) sz (Qi fun r w' sz' => r = (n * oddsAF v) ∧ w' = putR K w b v ∧ sz' = sz) := by
  refine Sp.ofN [some (.ref b), some (.int n)] rfl rfl rfl (Nat.le_of_ble_eq_true rfl) ?_
  refine N.iload1 dX1_againstIn_0 ?_
  refine N.aload0 dX1_againstIn_1 ?_
  refine N.vi0 dX1_againstIn_2 vX1_oddsAgainst lkX1_148 (s_X1_oddsAgainst _ _ _ _) rO rfl (Nat.le_of_ble_eq_true rfl) (Nat.le_of_ble_eq_true rfl) (Nat.zero_le _) (Nat.zero_le _) ?_
  rintro _ _ _ ⟨rfl, rfl, rfl⟩
  refine N.imul dX1_againstIn_5 ?_
  exact N.iret dX1_againstIn_6 rfl (Nat.zero_le _) (Nat.zero_le _) ⟨_, rfl, ⟨rfl, rfl, rfl⟩⟩
def oursF (v : CV) (n : Int32) : Int32 := (oursTo v n.toNatClampNeg).2
def oursV (v : CV) (n : Int32) : CV := restV n (oursTo v n.toNatClampNeg).1
def gainsF (v : CV) (n : Int32) : Int32 := oursF v n - n * oddsAF (oursV v n)
set_option maxRecDepth 100000 in
theorem s_X1_gainsIn {K : Kx} (w : Wd) (b sz : Nat) (v : CV) (n : Int32) (m : Nat) (hm : m ≤ 600) (hn : n = nI m) (h : okP v) : Sp K mX1_gainsIn 5 0 0 [.ref b, .int n] (putR K w b v) sz (Qi fun r w' sz' => r = (gainsF v n) ∧ w' = putR K w b (oursV v n) ∧ sz' = sz) := by
  refine Sp.ofN [some (.ref b), some (.int n)] rfl rfl rfl (Nat.le_of_ble_eq_true rfl) ?_
  refine N.aload0 dX1_gainsIn_0 ?_
  refine N.iload1 dX1_gainsIn_1 ?_
  refine N.vi1 dX1_gainsIn_2 vX1_oursIn lkX1_151 (s_X1_oursIn _ _ _ _ _ m hm hn h) rO rfl (Nat.le_of_ble_eq_true rfl) (Nat.le_of_ble_eq_true rfl) (Nat.zero_le _) (Nat.zero_le _) ?_
  rintro _ _ _ ⟨rfl, rfl, rfl⟩
  refine N.aload0 dX1_gainsIn_5 ?_
  refine N.iload1 dX1_gainsIn_6 ?_
  refine N.vi1 dX1_gainsIn_7 vX1_againstIn lkX1_154 (s_X1_againstIn _ _ _ _ _) rO rfl (Nat.le_of_ble_eq_true rfl) (Nat.le_of_ble_eq_true rfl) (Nat.zero_le _) (Nat.zero_le _) ?_
  rintro _ _ _ ⟨rfl, rfl, rfl⟩
  refine N.isub dX1_gainsIn_10 ?_
  exact N.iret dX1_gainsIn_11 rfl (Nat.zero_le _) (Nat.zero_le _) ⟨_, rfl, ⟨rfl, rfl, rfl⟩⟩
def playF (v : CV) (n : Int32) : Int32 := (playTo v n.toNatClampNeg).1 10 + (playTo v n.toNatClampNeg).1 11 - (v.1 10 + v.1 11)
set_option maxRecDepth 100000 in
theorem l_X1_playSeconds {K : Kx} (w : Wd) (b sz : Nat) (v : CV) (n : Int32) (m : Nat) (hm : m ≤ 600) (hn : n = nI m) (h : okP v)  : ∀ nn k, k + nn = m → N K mX1_playSeconds 4 0 0 (Qi fun r w' sz' => r = (playF v n) ∧ w' = putR K w b (playTo v n.toNatClampNeg) ∧ sz' = sz) 12 [some (.ref b), some (.int n), some (.int (v.1 10 + v.1 11)), some (.int (nI k)), none, none] [] (putR K w b (playTo v k)) sz 0 0 := by
  intro nn
  induction nn with
  | zero =>
    intro k hk
    obtain rfl : k = m := by omega
    have hcl : n.toNatClampNeg = k := by rw [hn, nI_clamp (by omega)]
    have ho := h.play k
    refine N.iload3 dX1_playSeconds_12 ?_
    refine N.iload1 dX1_playSeconds_13 ?_
    refine N.icmp_ge (tgt := 98) dX1_playSeconds_14 (by decide) (fun c14 => ?_) (fun c14 => absurd (pl_ge hn (by omega) (by omega)) c14)
    refine N.aload0 dX1_playSeconds_98 ?_
    refine N.getf dX1_playSeconds_99 flX1_58 rO rfl ?_
    refine N.aload0 dX1_playSeconds_102 ?_
    refine N.getf dX1_playSeconds_103 flX1_61 rO rfl ?_
    refine N.iadd dX1_playSeconds_106 ?_
    refine N.iload2 dX1_playSeconds_107 ?_
    refine N.isub dX1_playSeconds_108 ?_
    exact N.iret dX1_playSeconds_109 rfl (Nat.zero_le _) (Nat.zero_le _) ⟨_, rfl, ⟨by unfold playF; rw [hcl], by rw [hcl], rfl⟩⟩
  | succ nn ih =>
    intro k hk
    have ho := h.play k
    refine N.iload3 dX1_playSeconds_12 ?_
    refine N.iload1 dX1_playSeconds_13 ?_
    refine N.icmp_ge (tgt := 98) dX1_playSeconds_14 (by decide) (fun c14 => absurd c14 (by rw [hn]; exact nI_ge (by omega) (by omega))) (fun c14 => ?_)
    refine N.aload0 dX1_playSeconds_17 ?_
    refine N.iconst (v := 1) dX1_playSeconds_18 (by decide) ?_
    refine N.vv1 dX1_playSeconds_19 vX1_tireIce lkX1_131 (s_X1_tireIce _ _ _ _ _ ho) rO rfl (Nat.le_of_ble_eq_true rfl) (Nat.le_of_ble_eq_true rfl) (Nat.zero_le _) (Nat.zero_le _) ?_
    rintro _ _ ⟨rfl, rfl⟩
    refine N.aload0 dX1_playSeconds_22 ?_
    refine N.iconst (v := 1) dX1_playSeconds_23 (by decide) ?_
    refine N.vv1 dX1_playSeconds_24 vX1_restBench lkX1_135 (s_X1_restBench _ _ _ _ _ (ho.tire 1)) rO rfl (Nat.le_of_ble_eq_true rfl) (Nat.le_of_ble_eq_true rfl) (Nat.zero_le _) (Nat.zero_le _) ?_
    rintro _ _ ⟨rfl, rfl⟩
    refine N.aload0 dX1_playSeconds_27 ?_
    refine N.aload0 dX1_playSeconds_28 ?_
    refine N.vi0 dX1_playSeconds_29 vX1_powerOfAll lkX1_141 (s_X1_powerOfAll _ _ _ _ ((ho.tire 1).rest 1)) rO rfl (Nat.le_of_ble_eq_true rfl) (Nat.le_of_ble_eq_true rfl) (Nat.zero_le _) (Nat.zero_le _) ?_
    rintro _ _ _ ⟨rfl, rfl, rfl⟩
    refine N.vi1 dX1_playSeconds_32 vX1_oddsOurs lkX1_145 (s_X1_oddsOurs _ _ _ _ _) rO rfl (Nat.le_of_ble_eq_true rfl) (Nat.le_of_ble_eq_true rfl) (Nat.zero_le _) (Nat.zero_le _) ?_
    rintro _ _ _ ⟨rfl, rfl, rfl⟩
    refine N.istore4 dX1_playSeconds_35 rfl ?_
    refine N.iload4 dX1_playSeconds_37 ?_
    refine N.aload0 dX1_playSeconds_39 ?_
    refine N.vi0 dX1_playSeconds_40 vX1_oddsAgainst lkX1_148 (s_X1_oddsAgainst _ _ _ _) rO rfl (Nat.le_of_ble_eq_true rfl) (Nat.le_of_ble_eq_true rfl) (Nat.zero_le _) (Nat.zero_le _) ?_
    rintro _ _ _ ⟨rfl, rfl, rfl⟩
    refine N.iadd dX1_playSeconds_43 ?_
    refine N.istore5 dX1_playSeconds_44 rfl ?_
    refine N.aload0 dX1_playSeconds_46 ?_
    refine N.dup dX1_playSeconds_47 rfl ?_
    refine N.getf dX1_playSeconds_48 flX1_52 rO rfl ?_
    refine N.iconst (v := 1) dX1_playSeconds_51 (by decide) ?_
    refine N.iadd dX1_playSeconds_52 ?_
    refine N.putf dX1_playSeconds_53 flX1_52 rO (Nat.le_of_ble_eq_true rfl) (fun _ h => by cases h; rfl) rfl rfl rP8 ?_
    refine N.aload0 dX1_playSeconds_56 ?_
    refine N.getf dX1_playSeconds_57 flX1_34 rO rfl ?_
    refine N.if_eq (tgt := 73) dX1_playSeconds_60 (by decide) (fun c60 => ?_) (fun c60 => ?_)
    · refine N.aload0 dX1_playSeconds_73 ?_
      refine N.iconst (v := 1) dX1_playSeconds_74 (by decide) ?_
      refine N.vv1 dX1_playSeconds_75 vX1_comeNearer lkX1_138 (s_X1_comeNearer _ _ _ _ _) rO rfl (Nat.le_of_ble_eq_true rfl) (Nat.le_of_ble_eq_true rfl) (Nat.zero_le _) (Nat.zero_le _) ?_
      rintro _ _ ⟨rfl, rfl⟩
      refine N.aload0 dX1_playSeconds_78 ?_
      refine N.aload0 dX1_playSeconds_79 ?_
      refine N.ldc dX1_playSeconds_80 ctX1_157 ?_
      refine N.vi1 dX1_playSeconds_82 vX1_drawBelow lkX1_158 (s_X1_drawBelow _ _ _ _ _ (by decide) (by decide)) rO rfl (Nat.le_of_ble_eq_true rfl) (Nat.le_of_ble_eq_true rfl) (Nat.zero_le _) (Nat.zero_le _) ?_
      rintro _ _ _ ⟨rfl, rfl, rfl⟩
      refine N.iload4 dX1_playSeconds_85 ?_
      refine N.iload5 dX1_playSeconds_87 ?_
      refine N.vv3 dX1_playSeconds_89 vX1_score lkX1_161 (s_X1_score _ _ _ _ _ _ _) rO rfl (Nat.le_of_ble_eq_true rfl) (Nat.le_of_ble_eq_true rfl) (Nat.zero_le _) (Nat.zero_le _) ?_
      rintro _ _ ⟨rfl, rfl⟩
      refine N.iinc3 dX1_playSeconds_92 rfl (nI_inc k) ?_
      refine N.goto (tgt := 12) dX1_playSeconds_95 (by decide) ?_
      exact N.eqW (by rw [playTo, playV1, secV, if_pos (show  (restV 1 (tireV 1 (playTo v k))).1 2 = 0 from c60)]; try rfl) (N.wk (by exact ⟨rfl, rfl, rfl, rfl, trivial⟩) (ih (k + 1) (by omega)))
    · refine N.aload0 dX1_playSeconds_63 ?_
      refine N.dup dX1_playSeconds_64 rfl ?_
      refine N.getf dX1_playSeconds_65 flX1_55 rO rfl ?_
      refine N.iconst (v := 1) dX1_playSeconds_68 (by decide) ?_
      refine N.iadd dX1_playSeconds_69 ?_
      refine N.putf dX1_playSeconds_70 flX1_55 rO (Nat.le_of_ble_eq_true rfl) (fun _ h => by cases h; rfl) rfl rfl rP9 ?_
      refine N.aload0 dX1_playSeconds_73 ?_
      refine N.iconst (v := 1) dX1_playSeconds_74 (by decide) ?_
      refine N.vv1 dX1_playSeconds_75 vX1_comeNearer lkX1_138 (s_X1_comeNearer _ _ _ _ _) rO rfl (Nat.le_of_ble_eq_true rfl) (Nat.le_of_ble_eq_true rfl) (Nat.zero_le _) (Nat.zero_le _) ?_
      rintro _ _ ⟨rfl, rfl⟩
      refine N.aload0 dX1_playSeconds_78 ?_
      refine N.aload0 dX1_playSeconds_79 ?_
      refine N.ldc dX1_playSeconds_80 ctX1_157 ?_
      refine N.vi1 dX1_playSeconds_82 vX1_drawBelow lkX1_158 (s_X1_drawBelow _ _ _ _ _ (by decide) (by decide)) rO rfl (Nat.le_of_ble_eq_true rfl) (Nat.le_of_ble_eq_true rfl) (Nat.zero_le _) (Nat.zero_le _) ?_
      rintro _ _ _ ⟨rfl, rfl, rfl⟩
      refine N.iload4 dX1_playSeconds_85 ?_
      refine N.iload5 dX1_playSeconds_87 ?_
      refine N.vv3 dX1_playSeconds_89 vX1_score lkX1_161 (s_X1_score _ _ _ _ _ _ _) rO rfl (Nat.le_of_ble_eq_true rfl) (Nat.le_of_ble_eq_true rfl) (Nat.zero_le _) (Nat.zero_le _) ?_
      rintro _ _ ⟨rfl, rfl⟩
      refine N.iinc3 dX1_playSeconds_92 rfl (nI_inc k) ?_
      refine N.goto (tgt := 12) dX1_playSeconds_95 (by decide) ?_
      exact N.eqW (by rw [playTo, playV1, secV, if_neg (show ¬ (restV 1 (tireV 1 (playTo v k))).1 2 = 0 from c60)]; try rfl) (N.wk (by exact ⟨rfl, rfl, rfl, rfl, trivial⟩) (ih (k + 1) (by omega)))
set_option maxRecDepth 100000 in
theorem s_X1_playSeconds {K : Kx} (w : Wd) (b sz : Nat) (v : CV) (n : Int32) (m : Nat) (hm : m ≤ 600) (hn : n = nI m) (h : okP v) : Sp K mX1_playSeconds 4 0 0 [.ref b, .int n] (putR K w b v) sz (Qi fun r w' sz' => r = (playF v n) ∧ w' = putR K w b (playTo v n.toNatClampNeg) ∧ sz' = sz) := by
  refine Sp.ofN [some (.ref b), some (.int n), none, none, none, none] rfl rfl rfl (Nat.le_of_ble_eq_true rfl) ?_
  refine N.aload0 dX1_playSeconds_0 ?_
  refine N.getf dX1_playSeconds_1 flX1_58 rO rfl ?_
  refine N.aload0 dX1_playSeconds_4 ?_
  refine N.getf dX1_playSeconds_5 flX1_61 rO rfl ?_
  refine N.iadd dX1_playSeconds_8 ?_
  refine N.istore2 dX1_playSeconds_9 rfl ?_
  refine N.iconst (v := 0) dX1_playSeconds_10 (by decide) ?_
  refine N.istore3 dX1_playSeconds_11 rfl ?_
  exact N.wk (by simp [wk, nI_0]) (l_X1_playSeconds w b sz v n m hm hn h  m 0 (by omega))
set_option maxRecDepth 100000 in
theorem l_X1_freshestLine {K : Kx} (w : Wd) (b sz : Nat) (v : CV) (h : okP v) : ∀ nn k, k + nn = 4 → N K mX1_freshestLine 2 0 0 (Qi fun r w' sz' => r = (freshF v) ∧ w' = putR K w b v ∧ sz' = sz) 6 [some (.ref b), some (.int (frTo v k).1), some (.int (frTo v k).2), some (.int (nI k)), none] [] (putR K w b v) sz 0 0 := by
  intro nn
  induction nn with
  | zero =>
    intro k hk
    obtain rfl : k = 4 := by omega
    refine N.iload3 dX1_freshestLine_6 ?_
    refine N.iconst (v := 4) dX1_freshestLine_7 (by decide) ?_
    refine N.icmp_ge (tgt := 54) dX1_freshestLine_8 (by decide) (fun c8 => ?_) (fun c8 => absurd (by decide) c8)
    refine N.iload1 dX1_freshestLine_54 ?_
    exact N.iret dX1_freshestLine_55 rfl (Nat.zero_le _) (Nat.zero_le _) ⟨_, rfl, ⟨rfl, rfl, rfl⟩⟩
  | succ nn ih =>
    intro k hk
    refine N.iload3 dX1_freshestLine_6 ?_
    refine N.iconst (v := 4) dX1_freshestLine_7 (by decide) ?_
    refine N.icmp_ge (tgt := 54) dX1_freshestLine_8 (by decide) (fun c8 => absurd c8 (nI_ge (a := k) (b := 4) (by omega) (by omega))) (fun c8 => ?_)
    refine N.aload0 dX1_freshestLine_11 ?_
    refine N.aload0 dX1_freshestLine_12 ?_
    refine N.getf dX1_freshestLine_13 flX1_24 rO rfl ?_
    refine N.iload3 dX1_freshestLine_16 ?_
    refine N.iald dX1_freshestLine_17 rA4 (in4 (by omega)) ?_
    refine N.vi1 dX1_freshestLine_18 vX1_tiredTogether lkX1_88 (s_X1_tiredTogether _ _ _ _ _ h) rO rfl (Nat.le_of_ble_eq_true rfl) (Nat.le_of_ble_eq_true rfl) (Nat.zero_le _) (Nat.zero_le _) ?_
    rintro _ _ _ ⟨rfl, rfl, rfl⟩
    refine N.istore4 dX1_freshestLine_21 rfl ?_
    refine N.aload0 dX1_freshestLine_23 ?_
    refine N.getf dX1_freshestLine_24 flX1_24 rO rfl ?_
    refine N.iload3 dX1_freshestLine_27 ?_
    refine N.iald dX1_freshestLine_28 rA4 (in4 (by omega)) ?_
    refine N.if_eq (tgt := 48) dX1_freshestLine_29 (by decide) (fun c29 => ?_) (fun c29 => ?_)
    · refine N.iinc3 dX1_freshestLine_48 rfl (nI_inc k) ?_
      refine N.goto (tgt := 6) dX1_freshestLine_51 (by decide) ?_
      exact N.wk (by rw [frTo, if_pos c29]; exact ⟨rfl, rfl, rfl, rfl, trivial⟩) (ih (k + 1) (by omega))
    · refine N.iload1 dX1_freshestLine_32 ?_
      refine N.iconst (v := -1) dX1_freshestLine_33 (by decide) ?_
      refine N.icmp_eq (tgt := 43) dX1_freshestLine_34 (by decide) (fun c34 => ?_) (fun c34 => ?_)
      · refine N.iload3 dX1_freshestLine_43 ?_
        refine N.istore1 dX1_freshestLine_44 rfl ?_
        refine N.iload4 dX1_freshestLine_45 ?_
        refine N.istore2 dX1_freshestLine_47 rfl ?_
        refine N.iinc3 dX1_freshestLine_48 rfl (nI_inc k) ?_
        refine N.goto (tgt := 6) dX1_freshestLine_51 (by decide) ?_
        exact N.wk (by rw [frTo, if_neg c29, if_pos c34]; exact ⟨rfl, rfl, rfl, rfl, trivial⟩) (ih (k + 1) (by omega))
      · refine N.iload4 dX1_freshestLine_37 ?_
        refine N.iload2 dX1_freshestLine_39 ?_
        refine N.icmp_ge (tgt := 48) dX1_freshestLine_40 (by decide) (fun c40 => ?_) (fun c40 => ?_)
        · refine N.iinc3 dX1_freshestLine_48 rfl (nI_inc k) ?_
          refine N.goto (tgt := 6) dX1_freshestLine_51 (by decide) ?_
          exact N.wk (by rw [frTo, if_neg c29, if_neg c34, if_pos c40]; exact ⟨rfl, rfl, rfl, rfl, trivial⟩) (ih (k + 1) (by omega))
        · refine N.iload3 dX1_freshestLine_43 ?_
          refine N.istore1 dX1_freshestLine_44 rfl ?_
          refine N.iload4 dX1_freshestLine_45 ?_
          refine N.istore2 dX1_freshestLine_47 rfl ?_
          refine N.iinc3 dX1_freshestLine_48 rfl (nI_inc k) ?_
          refine N.goto (tgt := 6) dX1_freshestLine_51 (by decide) ?_
          exact N.wk (by rw [frTo, if_neg c29, if_neg c34, if_neg c40]; exact ⟨rfl, rfl, rfl, rfl, trivial⟩) (ih (k + 1) (by omega))
set_option maxRecDepth 100000 in
theorem s_X1_freshestLine {K : Kx} (w : Wd) (b sz : Nat) (v : CV) (h : okP v) : Sp K mX1_freshestLine 2 0 0 [.ref b] (putR K w b v) sz (Qi fun r w' sz' => r = (freshF v) ∧ w' = putR K w b v ∧ sz' = sz) := by
  refine Sp.ofN [some (.ref b), none, none, none, none] rfl rfl rfl (Nat.le_of_ble_eq_true rfl) ?_
  refine N.iconst (v := -1) dX1_freshestLine_0 (by decide) ?_
  refine N.istore1 dX1_freshestLine_1 rfl ?_
  refine N.iconst (v := 0) dX1_freshestLine_2 (by decide) ?_
  refine N.istore2 dX1_freshestLine_3 rfl ?_
  refine N.iconst (v := 0) dX1_freshestLine_4 (by decide) ?_
  refine N.istore3 dX1_freshestLine_5 rfl ?_
  exact N.wk (by simp [wk, nI_0, frTo]) (l_X1_freshestLine w b sz v h 4 0 (by omega))
theorem reg_out {w : Wd} {a q : Nat} {c : Nat → Option va_E} (h : q < a ∨ c (q - a) = none) : reg w a c q = w q := by
  unfold reg
  rcases h with h | h
  · rw [if_neg (by omega)]
  · by_cases hl : a ≤ q
    · rw [if_pos hl, h]
    · rw [if_neg hl]
theorem rC_none {K : Kx} {b : Nat} {v : CV} {j : Nat} (h : 6 ≤ j) : rC K b v j = none := by
  obtain ⟨i, rfl⟩ : ∃ i, j = i + 6 := ⟨j - 6, by omega⟩
  rfl
theorem r_out {K : Kx} {w : Wd} {b q : Nat} {v : CV} (h : q < b ∨ b + 6 ≤ q) : putR K w b v q = w q := by
  refine reg_out ?_
  rcases h with h | h
  · exact Or.inl h
  · exact Or.inr (rC_none (by omega))
/-- two rinks apart -/
def ap6 (a b : Nat) : Prop := a + 6 ≤ b ∨ b + 6 ≤ a
section TF
variable {K : Kx} {w : Wd} {b b2 : Nat} {v u : CV}
theorem r2O (h : ap6 b2 b) : putR K (putR K w b2 u) b v b2 = some (.inr (1, rF b2 u)) := by
  rw [r_out (by unfold ap6 at h; omega)]; exact rO
theorem r2A0 (h : ap6 b2 b) : putR K (putR K w b2 u) b v (b2 + 1) = some (.inl (kC K 0, 10, .inl (u.2 0))) := by
  rw [r_out (by unfold ap6 at h; omega)]; exact rA0
theorem r2A1 (h : ap6 b2 b) : putR K (putR K w b2 u) b v (b2 + 2) = some (.inl (kC K 0, 10, .inl (u.2 1))) := by
  rw [r_out (by unfold ap6 at h; omega)]; exact rA1
theorem r2A2 (h : ap6 b2 b) : putR K (putR K w b2 u) b v (b2 + 3) = some (.inl (kC K 0, 10, .inl (u.2 2))) := by
  rw [r_out (by unfold ap6 at h; omega)]; exact rA2
theorem r2A3 (h : ap6 b2 b) : putR K (putR K w b2 u) b v (b2 + 4) = some (.inl (kC K 0, 10, .inl (u.2 3))) := by
  rw [r_out (by unfold ap6 at h; omega)]; exact rA3
theorem r2A4 (h : ap6 b2 b) : putR K (putR K w b2 u) b v (b2 + 5) = some (.inl (kC K 0, 4, .inl (u.2 4))) := by
  rw [r_out (by unfold ap6 at h; omega)]; exact rA4
end TF
theorem acX1_67 : Cond.methodLink RX1 67 arraycopyName ∈ gT := gm2 115 (by decide +kernel) rfl
theorem acX4_100 : Cond.methodLink RX4 100 arraycopyName ∈ gT := gm2 7 (by decide +kernel) rfl
theorem acN : Cond.native arraycopyName ∈ gT := gm2 9 (by decide +kernel) rfl
theorem acS : Cond.static arraycopyName ∈ gT := gm2 8 (by decide +kernel) rfl
theorem acY : Cond.initialized "java/lang/System" ∈ gT := gm1 8 (by decide +kernel) rfl
theorem arr_eq {cA : ClassId} {n : Nat} {f g : Nat → Int32} (h : ∀ j, j < n → f j = g j) : vp_cell cA (n, .inl f) = vp_cell cA (n, .inl g) := by
  rw [vp_cell_i, vp_cell_i]
  unfold arrV
  congr 2
  funext j
  show Value.int (f j.1) = Value.int (g j.1)
  rw [h j.1 j.2]
/-- a rink whose rows agree as far as they reach holds the same cells -/
theorem r_hw {K : Kx} {w : Wd} {b sz : Nat} {s s' : Nat → Int32} {A A' : Nat → Nat → Int32} (hs : ∀ j, j < 13 → s j = s' j) (h : ∀ k, k < 4 → ∀ j, j < 10 → A k j = A' k j) (h4 : ∀ j, j < 4 → A 4 j = A' 4 j) : ∀ H, HW K (putR K w b (s, A)) sz H → HW K (putR K w b (s', A')) sz H := by
  intro H hW
  refine ⟨hW.1, hW.2.1, fun a e ha => ?_⟩
  by_cases hl : b ≤ a ∧ a - b < 6
  · obtain ⟨j, rfl⟩ : ∃ j, a = b + j := ⟨a - b, by omega⟩
    have hj : j < 6 := by omega
    have key : ∀ e', rC K b (s, A) j = some e' → va_at (kD K) vwCl (b + j, e') H ∧ (kS K).heap.size ≤ b + j := fun e' he => ⟨(hW.2.2 _ _ (reg_at he)).2, (hW.2.2 _ _ (reg_at he)).1⟩
    match j, hj with
    | 0, _ =>
      have e1 := (rO (K := K) (w := w) (b := b) (v := (s', A'))).symm.trans ha
      cases e1
      have er : rF b (s', A') = rF b (s, A) := by simp only [rF, hs 0 (by omega), hs 1 (by omega), hs 2 (by omega), hs 3 (by omega), hs 4 (by omega), hs 5 (by omega), hs 6 (by omega), hs 7 (by omega), hs 8 (by omega), hs 9 (by omega), hs 10 (by omega), hs 11 (by omega), hs 12 (by omega)]
      rw [er]
      exact ⟨(key _ rfl).2, (key _ rfl).1⟩
    | 1, _ =>
      have e1 := (rA0 (K := K) (w := w) (b := b) (v := (s', A'))).symm.trans ha
      cases e1
      refine ⟨(key _ rfl).2, ?_⟩
      have := (key _ rfl).1
      show H[b + 1]? = _
      rw [← arr_eq (fun j hj => h 0 (by omega) j hj)]; exact this
    | 2, _ =>
      have e1 := (rA1 (K := K) (w := w) (b := b) (v := (s', A'))).symm.trans ha
      cases e1
      refine ⟨(key _ rfl).2, ?_⟩
      have := (key _ rfl).1
      show H[b + 2]? = _
      rw [← arr_eq (fun j hj => h 1 (by omega) j hj)]; exact this
    | 3, _ =>
      have e1 := (rA2 (K := K) (w := w) (b := b) (v := (s', A'))).symm.trans ha
      cases e1
      refine ⟨(key _ rfl).2, ?_⟩
      have := (key _ rfl).1
      show H[b + 3]? = _
      rw [← arr_eq (fun j hj => h 2 (by omega) j hj)]; exact this
    | 4, _ =>
      have e1 := (rA3 (K := K) (w := w) (b := b) (v := (s', A'))).symm.trans ha
      cases e1
      refine ⟨(key _ rfl).2, ?_⟩
      have := (key _ rfl).1
      show H[b + 4]? = _
      rw [← arr_eq (fun j hj => h 3 (by omega) j hj)]; exact this
    | 5, _ =>
      have e1 := (rA4 (K := K) (w := w) (b := b) (v := (s', A'))).symm.trans ha
      cases e1
      refine ⟨(key _ rfl).2, ?_⟩
      have := (key _ rfl).1
      show H[b + 5]? = _
      rw [← arr_eq (fun j hj => h4 j hj)]; exact this
  · have hq : a < b ∨ b + 6 ≤ a := by omega
    have h1 : putR K w b (s', A') a = w a := r_out hq
    have h2 : putR K w b (s, A) a = w a := r_out hq
    exact hW.2.2 a e (h2.trans (h1.symm.trans ha))
set_option maxRecDepth 100000 in
theorem s_X1_takeFrom {K : Kx} (w : Wd) (b b2 sz : Nat) (v u : CV) (hd : ap6 b2 b) : Sp K mX1_takeFrom 1 0 0 [.ref b, .ref b2] (putR K (putR K w b2 u) b v) sz (Qv fun w' sz' => w' = putR K (putR K w b2 u) b u ∧ sz' = sz) := by
  refine Sp.ofN [some (.ref b), some (.ref b2)] rfl rfl rfl (Nat.le_of_ble_eq_true rfl) ?_
  refine N.aload1 dX1_takeFrom_0 ?_
  refine N.getf dX1_takeFrom_1 flX1_9 (r2O hd) rfl ?_
  refine N.iconst (v := 0) dX1_takeFrom_4 (by decide) ?_
  refine N.aload0 dX1_takeFrom_5 ?_
  refine N.getf dX1_takeFrom_6 flX1_9 rO rfl ?_
  refine N.iconst (v := 0) dX1_takeFrom_9 (by decide) ?_
  refine N.bipush (v := 10) dX1_takeFrom_10 (by decide) ?_
  refine N.acpI dX1_takeFrom_12 acX1_67 acN acS acY (r2A0 hd) rA0 (by decide) (by decide) (by decide) (by decide) (by decide) (Nat.le_of_ble_eq_true rfl) (by decide) (by decide) rK0 ?_
  refine N.aload1 dX1_takeFrom_15 ?_
  refine N.getf dX1_takeFrom_16 flX1_15 (r2O hd) rfl ?_
  refine N.iconst (v := 0) dX1_takeFrom_19 (by decide) ?_
  refine N.aload0 dX1_takeFrom_20 ?_
  refine N.getf dX1_takeFrom_21 flX1_15 rO rfl ?_
  refine N.iconst (v := 0) dX1_takeFrom_24 (by decide) ?_
  refine N.bipush (v := 10) dX1_takeFrom_25 (by decide) ?_
  refine N.acpI dX1_takeFrom_27 acX1_67 acN acS acY (r2A1 hd) rA1 (by decide) (by decide) (by decide) (by decide) (by decide) (Nat.le_of_ble_eq_true rfl) (by decide) (by decide) rK1 ?_
  refine N.aload1 dX1_takeFrom_30 ?_
  refine N.getf dX1_takeFrom_31 flX1_18 (r2O hd) rfl ?_
  refine N.iconst (v := 0) dX1_takeFrom_34 (by decide) ?_
  refine N.aload0 dX1_takeFrom_35 ?_
  refine N.getf dX1_takeFrom_36 flX1_18 rO rfl ?_
  refine N.iconst (v := 0) dX1_takeFrom_39 (by decide) ?_
  refine N.bipush (v := 10) dX1_takeFrom_40 (by decide) ?_
  refine N.acpI dX1_takeFrom_42 acX1_67 acN acS acY (r2A2 hd) rA2 (by decide) (by decide) (by decide) (by decide) (by decide) (Nat.le_of_ble_eq_true rfl) (by decide) (by decide) rK2 ?_
  refine N.aload1 dX1_takeFrom_45 ?_
  refine N.getf dX1_takeFrom_46 flX1_21 (r2O hd) rfl ?_
  refine N.iconst (v := 0) dX1_takeFrom_49 (by decide) ?_
  refine N.aload0 dX1_takeFrom_50 ?_
  refine N.getf dX1_takeFrom_51 flX1_21 rO rfl ?_
  refine N.iconst (v := 0) dX1_takeFrom_54 (by decide) ?_
  refine N.bipush (v := 10) dX1_takeFrom_55 (by decide) ?_
  refine N.acpI dX1_takeFrom_57 acX1_67 acN acS acY (r2A3 hd) rA3 (by decide) (by decide) (by decide) (by decide) (by decide) (Nat.le_of_ble_eq_true rfl) (by decide) (by decide) rK3 ?_
  refine N.aload1 dX1_takeFrom_60 ?_
  refine N.getf dX1_takeFrom_61 flX1_24 (r2O hd) rfl ?_
  refine N.iconst (v := 0) dX1_takeFrom_64 (by decide) ?_
  refine N.aload0 dX1_takeFrom_65 ?_
  refine N.getf dX1_takeFrom_66 flX1_24 rO rfl ?_
  refine N.iconst (v := 0) dX1_takeFrom_69 (by decide) ?_
  refine N.iconst (v := 4) dX1_takeFrom_70 (by decide) ?_
  refine N.acpI dX1_takeFrom_71 acX1_67 acN acS acY (r2A4 hd) rA4 (by decide) (by decide) (by decide) (by decide) (by decide) (Nat.le_of_ble_eq_true rfl) (by decide) (by decide) rK4 ?_
  refine N.aload0 dX1_takeFrom_74 ?_
  refine N.aload1 dX1_takeFrom_75 ?_
  refine N.getf dX1_takeFrom_76 flX1_27 (r2O hd) rfl ?_
  refine N.putf dX1_takeFrom_79 flX1_27 rO (Nat.le_of_ble_eq_true rfl) (fun _ h => by cases h; rfl) rfl rfl rP0 ?_
  refine N.aload0 dX1_takeFrom_82 ?_
  refine N.aload1 dX1_takeFrom_83 ?_
  refine N.getf dX1_takeFrom_84 flX1_31 (r2O hd) rfl ?_
  refine N.putf dX1_takeFrom_87 flX1_31 rO (Nat.le_of_ble_eq_true rfl) (fun _ h => by cases h; rfl) rfl rfl rP1 ?_
  refine N.aload0 dX1_takeFrom_90 ?_
  refine N.aload1 dX1_takeFrom_91 ?_
  refine N.getf dX1_takeFrom_92 flX1_34 (r2O hd) rfl ?_
  refine N.putf dX1_takeFrom_95 flX1_34 rO (Nat.le_of_ble_eq_true rfl) (fun _ h => by cases h; rfl) rfl rfl rP2 ?_
  refine N.aload0 dX1_takeFrom_98 ?_
  refine N.aload1 dX1_takeFrom_99 ?_
  refine N.getf dX1_takeFrom_100 flX1_37 (r2O hd) rfl ?_
  refine N.putf dX1_takeFrom_103 flX1_37 rO (Nat.le_of_ble_eq_true rfl) (fun _ h => by cases h; rfl) rfl rfl rP3 ?_
  refine N.aload0 dX1_takeFrom_106 ?_
  refine N.aload1 dX1_takeFrom_107 ?_
  refine N.getf dX1_takeFrom_108 flX1_40 (r2O hd) rfl ?_
  refine N.putf dX1_takeFrom_111 flX1_40 rO (Nat.le_of_ble_eq_true rfl) (fun _ h => by cases h; rfl) rfl rfl rP4 ?_
  refine N.aload0 dX1_takeFrom_114 ?_
  refine N.aload1 dX1_takeFrom_115 ?_
  refine N.getf dX1_takeFrom_116 flX1_43 (r2O hd) rfl ?_
  refine N.putf dX1_takeFrom_119 flX1_43 rO (Nat.le_of_ble_eq_true rfl) (fun _ h => by cases h; rfl) rfl rfl rP5 ?_
  refine N.aload0 dX1_takeFrom_122 ?_
  refine N.aload1 dX1_takeFrom_123 ?_
  refine N.getf dX1_takeFrom_124 flX1_46 (r2O hd) rfl ?_
  refine N.putf dX1_takeFrom_127 flX1_46 rO (Nat.le_of_ble_eq_true rfl) (fun _ h => by cases h; rfl) rfl rfl rP6 ?_
  refine N.aload0 dX1_takeFrom_130 ?_
  refine N.aload1 dX1_takeFrom_131 ?_
  refine N.getf dX1_takeFrom_132 flX1_49 (r2O hd) rfl ?_
  refine N.putf dX1_takeFrom_135 flX1_49 rO (Nat.le_of_ble_eq_true rfl) (fun _ h => by cases h; rfl) rfl rfl rP7 ?_
  refine N.aload0 dX1_takeFrom_138 ?_
  refine N.aload1 dX1_takeFrom_139 ?_
  refine N.getf dX1_takeFrom_140 flX1_52 (r2O hd) rfl ?_
  refine N.putf dX1_takeFrom_143 flX1_52 rO (Nat.le_of_ble_eq_true rfl) (fun _ h => by cases h; rfl) rfl rfl rP8 ?_
  refine N.aload0 dX1_takeFrom_146 ?_
  refine N.aload1 dX1_takeFrom_147 ?_
  refine N.getf dX1_takeFrom_148 flX1_55 (r2O hd) rfl ?_
  refine N.putf dX1_takeFrom_151 flX1_55 rO (Nat.le_of_ble_eq_true rfl) (fun _ h => by cases h; rfl) rfl rfl rP9 ?_
  refine N.aload0 dX1_takeFrom_154 ?_
  refine N.aload1 dX1_takeFrom_155 ?_
  refine N.getf dX1_takeFrom_156 flX1_58 (r2O hd) rfl ?_
  refine N.putf dX1_takeFrom_159 flX1_58 rO (Nat.le_of_ble_eq_true rfl) (fun _ h => by cases h; rfl) rfl rfl rP10 ?_
  refine N.aload0 dX1_takeFrom_162 ?_
  refine N.aload1 dX1_takeFrom_163 ?_
  refine N.getf dX1_takeFrom_164 flX1_61 (r2O hd) rfl ?_
  refine N.putf dX1_takeFrom_167 flX1_61 rO (Nat.le_of_ble_eq_true rfl) (fun _ h => by cases h; rfl) rfl rfl rP11 ?_
  refine N.aload0 dX1_takeFrom_170 ?_
  refine N.aload1 dX1_takeFrom_171 ?_
  refine N.getf dX1_takeFrom_172 flX1_64 (r2O hd) rfl ?_
  refine N.putf dX1_takeFrom_175 flX1_64 rO (Nat.le_of_ble_eq_true rfl) (fun _ h => by cases h; rfl) rfl rfl rP12 ?_
  refine N.hw (w' := putR K (putR K w b2 u) b (u.1, u.2)) ?_ (N.vret dX1_takeFrom_178 rfl (Nat.zero_le _) (Nat.zero_le _) ⟨rfl, rfl, rfl⟩)
  intro H hH
  refine r_hw (fun j hj => ?_) (fun k hk j hj => ?_) (fun j hj => ?_) H hH
  · rcases (show j = 0 ∨ j = 1 ∨ j = 2 ∨ j = 3 ∨ j = 4 ∨ j = 5 ∨ j = 6 ∨ j = 7 ∨ j = 8 ∨ j = 9 ∨ j = 10 ∨ j = 11 ∨ j = 12 by omega) with rfl | rfl | rfl | rfl | rfl | rfl | rfl | rfl | rfl | rfl | rfl | rfl | rfl <;> rfl
  · rcases (show k = 0 ∨ k = 1 ∨ k = 2 ∨ k = 3 by omega) with rfl | rfl | rfl | rfl <;> simp [upA, va_cpy, show (10 : Int32).toNatClampNeg = 10 from by decide, show (0 : Int32).toNatClampNeg = 0 from by decide, hj]
  · simp [upA, va_cpy, show (4 : Int32).toNatClampNeg = 4 from by decide, show (0 : Int32).toNatClampNeg = 0 from by decide, hj]
