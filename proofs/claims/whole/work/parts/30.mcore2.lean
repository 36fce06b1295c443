def fmTo (v : CV) : Nat → Int32
  | 0 => -1
  | k + 1 => if v.2 4 (nI k).toNatClampNeg = 0 then fmTo v k else if fmTo v k = -1 then nI k else if tdM v (fmTo v k) ≤ tdM v (nI k) then fmTo v k else nI k
def fmF (v : CV) : Int32 := fmTo v 4
theorem fm_in {v : CV} : ∀ {k}, k ≤ 4 → ¬ fmTo v k = -1 → vp_in (fmTo v k) 4
  | 0, _, h => absurd rfl h
  | k + 1, hk, h => by
    rw [fmTo] at h ⊢
    by_cases c1 : v.2 4 (nI k).toNatClampNeg = 0
    · rw [if_pos c1] at h ⊢; exact fm_in (by omega) h
    · rw [if_neg c1] at h ⊢
      by_cases c2 : fmTo v k = -1
      · rw [if_pos c2]; exact in4 (by omega)
      · rw [if_neg c2]
        split
        · exact fm_in (by omega) c2
        · exact in4 (by omega)
set_option maxRecDepth 100000 in
theorem l_X5_freshest {K : Kx} (w : Wd) (b sz : Nat) (v : CV) (E : ME) (h : okP v) : ∀ nn k, k + nn = 4 → N K mX5_freshest 2 0 0 (Qi fun r w' sz' => r = (fmF v) ∧ w' = putM K w b (v, E) ∧ sz' = sz) 4 [some (.ref b), some (.int (fmTo v k)), some (.int (nI k))] [] (putM K w b (v, E)) sz 0 0 := by
  intro nn
  induction nn with
  | zero =>
    intro k hk
    obtain rfl : k = 4 := by omega
    refine N.iload2 dX5_freshest_4 ?_
    refine N.iconst (v := 4) dX5_freshest_5 (by decide) ?_
    refine N.icmp_ge (tgt := 44) dX5_freshest_6 (by decide) (fun c6 => ?_) (fun c6 => absurd (by decide) c6)
    refine N.iload1 dX5_freshest_44 ?_
    exact N.iret dX5_freshest_45 rfl (Nat.zero_le _) (Nat.zero_le _) ⟨_, rfl, ⟨rfl, rfl, rfl⟩⟩
  | succ nn ih =>
    intro k hk
    refine N.iload2 dX5_freshest_4 ?_
    refine N.iconst (v := 4) dX5_freshest_5 (by decide) ?_
    refine N.icmp_ge (tgt := 44) dX5_freshest_6 (by decide) (fun c6 => absurd c6 (nI_ge (a := k) (b := 4) (by omega) (by omega))) (fun c6 => ?_)
    refine N.aload0 dX5_freshest_9 ?_
    refine N.getf dX5_freshest_10 flX5_49 mO rfl ?_
    refine N.iload2 dX5_freshest_13 ?_
    refine N.iald dX5_freshest_14 mA4 (in4 (by omega)) ?_
    refine N.if_eq (tgt := 38) dX5_freshest_15 (by decide) (fun c15 => ?_) (fun c15 => ?_)
    · refine N.iinc2 dX5_freshest_38 rfl (nI_inc _) ?_
      refine N.goto (tgt := 4) dX5_freshest_41 (by decide) ?_
      exact N.wk (by rw [fmTo, if_pos c15]; exact ⟨rfl, rfl, rfl, trivial⟩) (ih (k + 1) (by omega))
    · refine N.iload1 dX5_freshest_18 ?_
      refine N.iconst (v := -1) dX5_freshest_19 (by decide) ?_
      refine N.icmp_eq (tgt := 36) dX5_freshest_20 (by decide) (fun c20 => ?_) (fun c20 => ?_)
      · refine N.iload2 dX5_freshest_36 ?_
        refine N.istore1 dX5_freshest_37 rfl ?_
        refine N.iinc2 dX5_freshest_38 rfl (nI_inc _) ?_
        refine N.goto (tgt := 4) dX5_freshest_41 (by decide) ?_
        exact N.wk (by rw [fmTo, if_neg c15, if_pos c20]; exact ⟨rfl, rfl, rfl, trivial⟩) (ih (k + 1) (by omega))
      · refine N.aload0 dX5_freshest_23 ?_
        refine N.iload2 dX5_freshest_24 ?_
        refine N.vi1 dX5_freshest_25 vX5_tiredOf lkX5_308 (s_X5_tiredOf _ _ _ _ _ _ h (in4 (by omega))) mO rfl (Nat.le_of_ble_eq_true rfl) (Nat.le_of_ble_eq_true rfl) (Nat.zero_le _) (Nat.zero_le _) ?_
        rintro _ _ _ ⟨rfl, rfl, rfl⟩
        refine N.aload0 dX5_freshest_28 ?_
        refine N.iload1 dX5_freshest_29 ?_
        refine N.vi1 dX5_freshest_30 vX5_tiredOf lkX5_308 (s_X5_tiredOf _ _ _ _ _ _ h (fm_in (by omega) c20)) mO rfl (Nat.le_of_ble_eq_true rfl) (Nat.le_of_ble_eq_true rfl) (Nat.zero_le _) (Nat.zero_le _) ?_
        rintro _ _ _ ⟨rfl, rfl, rfl⟩
        refine N.icmp_ge (tgt := 38) dX5_freshest_33 (by decide) (fun c33 => ?_) (fun c33 => ?_)
        · refine N.iinc2 dX5_freshest_38 rfl (nI_inc _) ?_
          refine N.goto (tgt := 4) dX5_freshest_41 (by decide) ?_
          exact N.wk (by rw [fmTo, if_neg c15, if_neg c20, if_pos c33]; exact ⟨rfl, rfl, rfl, trivial⟩) (ih (k + 1) (by omega))
        · refine N.iload2 dX5_freshest_36 ?_
          refine N.istore1 dX5_freshest_37 rfl ?_
          refine N.iinc2 dX5_freshest_38 rfl (nI_inc _) ?_
          refine N.goto (tgt := 4) dX5_freshest_41 (by decide) ?_
          exact N.wk (by rw [fmTo, if_neg c15, if_neg c20, if_neg c33]; exact ⟨rfl, rfl, rfl, trivial⟩) (ih (k + 1) (by omega))
set_option maxRecDepth 100000 in
theorem s_X5_freshest {K : Kx} (w : Wd) (b sz : Nat) (v : CV) (E : ME) (h : okP v) : Sp K mX5_freshest 2 0 0 [.ref b] (putM K w b (v, E)) sz (Qi fun r w' sz' => r = (fmF v) ∧ w' = putM K w b (v, E) ∧ sz' = sz) := by
  refine Sp.ofN [some (.ref b), none, none] rfl rfl rfl (Nat.le_of_ble_eq_true rfl) ?_
  refine N.iconst (v := -1) dX5_freshest_0 (by decide) ?_
  refine N.istore1 dX5_freshest_1 rfl ?_
  refine N.iconst (v := 0) dX5_freshest_2 (by decide) ?_
  refine N.istore2 dX5_freshest_3 rfl ?_
  exact N.wk (by exact ⟨rfl, rfl, rfl, trivial⟩) (l_X5_freshest w b _ v E h 4 0 (by omega))
def nxM (v : CV) : Nat → Int32 → Int32
  | 0, q => q
  | n + 1, q => if v.2 4 q.toNatClampNeg = 0 then nxM v n (nx4 q 1) else q
def nlM (v : CV) (l : Int32) : Int32 := nxM v 4 (nx4 l 1)
theorem nx4_n : ∀ j, j < 4 → nx4 (nI j) 1 = nI ((j + 1) % 4) := by decide
theorem nlF_1 {v : CV} (h : ∀ i, i < 4 → v.2 4 i = 0) : nlF v = 1 := by
  unfold nlF
  rw [if_pos (h 0 (by decide)), if_pos (h 1 (by decide)), if_pos (h 2 (by decide)), if_pos (h 3 (by decide))]
theorem nl_ex {v : CV} (h : ¬ nlF v = 1) : ∃ i, i < 4 ∧ ¬ v.2 4 i = 0 := by
  refine Classical.byContradiction fun q => h (nlF_1 fun i hi => Classical.byContradiction fun z => q ⟨i, hi, z⟩)
set_option maxRecDepth 100000 in
theorem l_X5_nextLine {K : Kx} (w : Wd) (b sz : Nat) (v : CV) (E : ME) (l R : Int32) : ∀ nn j, j < 4 → (∃ t, t < nn ∧ ¬ v.2 4 ((j + t) % 4) = 0) → nxM v nn (nI j) = R → N K mX5_nextLine 0 0 0 (Qi fun r w' sz' => r = (R) ∧ w' = putM K w b (v, E) ∧ sz' = sz) 6 [some (.ref b), some (.int l), some (.int (nI j))] [] (putM K w b (v, E)) sz 0 0 := by
  intro nn
  induction nn with
  | zero =>
    intro j hj ht hR
    obtain ⟨t, ht, _⟩ := ht
    exact absurd ht (by omega)
  | succ nn ih =>
    intro j hj ht hR
    refine N.aload0 dX5_nextLine_6 ?_
    refine N.getf dX5_nextLine_7 flX5_49 mO rfl ?_
    refine N.iload2 dX5_nextLine_10 ?_
    refine N.iald dX5_nextLine_11 mA4 (in4 hj) ?_
    refine N.if_ne (tgt := 24) dX5_nextLine_12 (by decide) (fun c12 => ?_) (fun c12 => ?_)
    · refine N.iload2 dX5_nextLine_24 ?_
      exact N.iret dX5_nextLine_25 rfl (Nat.zero_le _) (Nat.zero_le _) ⟨_, rfl, ⟨by rw [← hR, nxM, if_neg c12], rfl, rfl⟩⟩
    · refine N.iload2 dX5_nextLine_15 ?_
      refine N.iconst (v := 1) dX5_nextLine_16 (by decide) ?_
      refine N.iadd dX5_nextLine_17 ?_
      refine N.iconst (v := 4) dX5_nextLine_18 (by decide) ?_
      refine N.irem dX5_nextLine_19 (by decide) ?_
      refine N.istore2 dX5_nextLine_20 rfl ?_
      refine N.goto (tgt := 6) dX5_nextLine_21 (by decide) ?_
      rw [nxM, if_pos c12] at hR
      refine N.eqL (show _ = [some (.ref b), some (.int l), some (.int (nI ((j + 1) % 4)))] by rw [← nx4_n j hj]; rfl) (ih _ (by omega) ?_ (by rw [← nx4_n j hj]; exact hR))
      obtain ⟨t, ht, hz⟩ := ht
      have ht0 : t ≠ 0 := fun q => by
        subst q
        rw [nI_clamp (by omega)] at c12
        rw [Nat.add_zero, Nat.mod_eq_of_lt hj] at hz
        exact hz c12
      refine ⟨t - 1, by omega, ?_⟩
      rw [show ((j + 1) % 4 + (t - 1)) % 4 = (j + t) % 4 by omega]
      exact hz
theorem vp4 {l : Int32} (h : vp_in l 4) : ∃ j, j < 4 ∧ l = nI j := by
  have h1 : ¬ l < 0 := fun q => h (Or.inl q)
  have h2 : l.toNatClampNeg < 4 := Nat.not_le.mp fun q => h (Or.inr q)
  obtain ⟨m, hm, rfl⟩ := nI_of h1
  rw [nI_clamp hm] at h2
  exact ⟨m, h2, rfl⟩
set_option maxRecDepth 100000 in
theorem s_X5_nextLine {K : Kx} (w : Wd) (b sz : Nat) (v : CV) (E : ME) (l : Int32) (hl : vp_in l 4) (hn : ¬ nlF v = 1) : Sp K mX5_nextLine 0 0 0 [.ref b, .int l] (putM K w b (v, E)) sz (Qi fun r w' sz' => r = (nlM v l) ∧ w' = putM K w b (v, E) ∧ sz' = sz) := by
  refine Sp.ofN [some (.ref b), some (.int l), none] rfl rfl rfl (Nat.le_of_ble_eq_true rfl) ?_
  refine N.iload1 dX5_nextLine_0 ?_
  refine N.iconst (v := 1) dX5_nextLine_1 (by decide) ?_
  refine N.iadd dX5_nextLine_2 ?_
  refine N.iconst (v := 4) dX5_nextLine_3 (by decide) ?_
  refine N.irem dX5_nextLine_4 (by decide) ?_
  refine N.istore2 dX5_nextLine_5 rfl ?_
  obtain ⟨j, hj, rfl⟩ := vp4 hl
  obtain ⟨i, hi, hz⟩ := nl_ex hn
  refine N.eqL (show _ = [some (.ref b), some (.int (nI j)), some (.int (nI ((j + 1) % 4)))] by rw [← nx4_n j hj]; rfl) (l_X5_nextLine w b _ v E (nI j) _ 4 ((j + 1) % 4) (by omega) ⟨(i + 7 - j) % 4, by omega, ?_⟩ (by rw [nlM, nx4_n j hj]))
  rw [show ((j + 1) % 4 + (i + 7 - j) % 4) % 4 = i by omega]
  exact hz
def sm2 (u : CV) : CV := (upd (upd u.1 8 (u.1 8 + 1)) 9 (u.1 9 + (if u.1 2 = 0 then 0 else 1)), u.2)
def sA (c : CV) (x : Int32) : CV := (upd c.1 10 (c.1 10 + x), c.2)
def sB (c : CV) (x : Int32) : CV := (upd c.1 11 (c.1 11 + x), c.2)
def sD (c : CV) : CV := (upd c.1 4 1, c.2)
def scM (c : CV) (dr a : Int32) : CV := if a ≤ dr then sD (sB (sA c 0) 1) else sD (sB (sA c 1) 0)
def sgU (F A : Int32) (c : CV) : Int32 := if F + A ≤ drawF c 50000 then 0 else 1
def scU (F A : Int32) (c : CV) : CV := if F + A ≤ drawF c 50000 then drawV c else scM (drawV c) (drawF c 50000) F
def secG (v : CV) : Int32 := sgU (oddsOF (tmV v) (powAM (tmV v))) (oddsAF (tmV v)) (cmV (sm2 (tmV v)))
def secM (v : CV) : CV := scU (oddsOF (tmV v) (powAM (tmV v))) (oddsAF (tmV v)) (cmV (sm2 (tmV v)))
theorem okP.sm2 {v : CV} (h : okP v) : okP (sm2 v) := by
  unfold okP at *
  show ∃ P : Nat, P ≤ 10 ∧ v.1 0 = nI P
  exact h
theorem okP.scu {F A : Int32} {c : CV} (h : okP c) : okP (scU F A c) := by
  unfold scU
  split
  · exact okP.set h (by decide) _
  · unfold scM
    split <;> exact h
theorem okP.secm {v : CV} (h : okP v) : okP (secM v) := okP.scu (okP.cm (h.tm).sm2)
theorem sc_w {K : Kx} {w : Wd} {b : Nat} {d : CV} {E : ME} {x y : Int32} : putM K w b ((upd (upd (upd d.1 10 x, d.2).1 11 y, (upd d.1 10 x, d.2).2).1 4 1, (upd (upd d.1 10 x, d.2).1 11 y, (upd d.1 10 x, d.2).2).2), E) = putM K w b ((upd (upd (upd d.1 10 x) 11 y) 4 1, d.2), E) := rfl
theorem sm2_t {u : CV} (c : u.1 2 = 0) : (upd (upd u.1 8 (u.1 8 + 1)) 9 (u.1 9 + 0), u.2) = sm2 u := by rw [sm2, if_pos c]
theorem sm2_f {u : CV} (c : ¬ u.1 2 = 0) : (upd (upd u.1 8 (u.1 8 + 1)) 9 (u.1 9 + 1), u.2) = sm2 u := by rw [sm2, if_neg c]
set_option maxRecDepth 100000 in
theorem s_X5_secondTruly {K : Kx} (w : Wd) (b sz : Nat) (v : CV) (E : ME) (h : okP v) : Sp K mX5_secondTruly 4 0 0 [.ref b] (putM K w b (v, E)) sz (Qi fun r w' sz' => r = (secG v) ∧ w' = putM K w b (secM v, E) ∧ sz' = sz) := by
  refine Sp.ofN [some (.ref b), none, none, none, none] rfl rfl rfl (Nat.le_of_ble_eq_true rfl) ?_
  unfold secG secM sgU scU
  refine N.aload0 dX5_secondTruly_0 ?_
  refine N.vv0 dX5_secondTruly_1 vX5_tire lkX5_274 (s_X5_tire _ _ _ _ _ h) mO rfl (Nat.le_of_ble_eq_true rfl) (Nat.le_of_ble_eq_true rfl) (Nat.zero_le _) (Nat.zero_le _) ?_
  rintro _ _ ⟨rfl, rfl⟩
  have hu := h.tm
  generalize tmV v = u0 at hu ⊢
  refine N.aload0 dX5_secondTruly_4 ?_
  refine N.vi0 dX5_secondTruly_5 vX5_oddsOurs lkX5_277 (s_X5_oddsOurs _ _ _ _ _ hu) mO rfl (Nat.le_of_ble_eq_true rfl) (Nat.le_of_ble_eq_true rfl) (Nat.zero_le _) (Nat.zero_le _) ?_
  rintro _ _ _ ⟨rfl, rfl, rfl⟩
  generalize oddsOF u0 (powAM u0) = F0
  refine N.istore1 dX5_secondTruly_8 rfl ?_
  refine N.aload0 dX5_secondTruly_9 ?_
  refine N.vi0 dX5_secondTruly_10 vX5_oddsAgainst lkX5_280 (s_X5_oddsAgainst _ _ _ _ _) mO rfl (Nat.le_of_ble_eq_true rfl) (Nat.le_of_ble_eq_true rfl) (Nat.zero_le _) (Nat.zero_le _) ?_
  rintro _ _ _ ⟨rfl, rfl, rfl⟩
  generalize oddsAF u0 = A0
  refine N.istore2 dX5_secondTruly_13 rfl ?_
  refine N.aload0 dX5_secondTruly_14 ?_
  refine N.dup dX5_secondTruly_15 rfl ?_
  refine N.getf dX5_secondTruly_16 flX5_286 mO rfl ?_
  refine N.iconst (v := 1) dX5_secondTruly_19 (by decide) ?_
  refine N.iadd dX5_secondTruly_20 ?_
  refine N.putf dX5_secondTruly_21 flX5_286 mO (Nat.le_of_ble_eq_true rfl) (fun _ h => by cases h; rfl) rfl rfl mP8 ?_
  refine N.aload0 dX5_secondTruly_24 ?_
  refine N.dup dX5_secondTruly_25 rfl ?_
  refine N.getf dX5_secondTruly_26 flX5_289 mO rfl ?_
  refine N.aload0 dX5_secondTruly_29 ?_
  refine N.getf dX5_secondTruly_30 flX5_255 mO rfl ?_
  refine N.if_eq (tgt := 40) dX5_secondTruly_33 (by decide) (fun c33 => ?_) (fun c33 => ?_)
  · refine N.iconst (v := 0) dX5_secondTruly_40 (by decide) ?_
    refine N.iadd dX5_secondTruly_41 ?_
    refine N.putf dX5_secondTruly_42 flX5_289 mO (Nat.le_of_ble_eq_true rfl) (fun _ h => by cases h; rfl) rfl rfl mP9 ?_
    refine N.eqW (w' := putM K w b (sm2 u0, E)) (congrArg (fun z => putM K w b (z, E)) (sm2_t c33)) ?_
    refine N.aload0 dX5_secondTruly_45 ?_
    refine N.vv0 dX5_secondTruly_46 vX5_come lkX5_283 (s_X5_come _ _ _ _ _) mO rfl (Nat.le_of_ble_eq_true rfl) (Nat.le_of_ble_eq_true rfl) (Nat.zero_le _) (Nat.zero_le _) ?_
    rintro _ _ ⟨rfl, rfl⟩
    generalize cmV (sm2 u0) = c0
    refine N.aload0 dX5_secondTruly_49 ?_
    refine N.ldcw dX5_secondTruly_50 ctX5_292 ?_
    refine N.vi1 dX5_secondTruly_53 vX5_below lkX5_293 (s_X5_below _ _ _ _ _ _ (by decide)) mO rfl (Nat.le_of_ble_eq_true rfl) (Nat.le_of_ble_eq_true rfl) (Nat.zero_le _) (Nat.zero_le _) ?_
    rintro _ _ _ ⟨rfl, rfl, rfl⟩
    generalize drawF c0 50000 = D0
    generalize drawV c0 = d0
    refine N.istore3 dX5_secondTruly_56 rfl ?_
    refine N.iload3 dX5_secondTruly_57 ?_
    refine N.iload1 dX5_secondTruly_58 ?_
    refine N.iload2 dX5_secondTruly_59 ?_
    refine N.iadd dX5_secondTruly_60 ?_
    refine N.icmp_ge (tgt := 68) dX5_secondTruly_61 (by decide) (fun c61 => ?_) (fun c61 => ?_)
    · refine N.iconst (v := 0) dX5_secondTruly_68 (by decide) ?_
      refine N.istore4 dX5_secondTruly_69 rfl ?_
      refine N.iload4 dX5_secondTruly_71 ?_
      refine N.if_eq (tgt := 119) dX5_secondTruly_73 (by decide) (fun c73 => ?_) (fun c73 => absurd (by decide) c73)
      refine N.iload4 dX5_secondTruly_119 ?_
      exact N.zret dX5_secondTruly_121 rfl rfl (Nat.zero_le _) (Nat.zero_le _) ⟨_, rfl, ⟨by rw [if_pos c61], by rw [if_pos c61], rfl⟩⟩
    · refine N.iconst (v := 1) dX5_secondTruly_64 (by decide) ?_
      refine N.goto (tgt := 69) dX5_secondTruly_65 (by decide) ?_
      refine N.istore4 dX5_secondTruly_69 rfl ?_
      refine N.iload4 dX5_secondTruly_71 ?_
      refine N.if_eq (tgt := 119) dX5_secondTruly_73 (by decide) (fun c73 => absurd c73 (by decide)) (fun c73 => ?_)
      refine N.aload0 dX5_secondTruly_76 ?_
      refine N.dup dX5_secondTruly_77 rfl ?_
      refine N.getf dX5_secondTruly_78 flX5_296 mO rfl ?_
      refine N.iload3 dX5_secondTruly_81 ?_
      refine N.iload1 dX5_secondTruly_82 ?_
      refine N.icmp_ge (tgt := 90) dX5_secondTruly_83 (by decide) (fun c83 => ?_) (fun c83 => ?_)
      · refine N.iconst (v := 0) dX5_secondTruly_90 (by decide) ?_
        refine N.iadd dX5_secondTruly_91 ?_
        refine N.putf dX5_secondTruly_92 flX5_296 mO (Nat.le_of_ble_eq_true rfl) (fun _ h => by cases h; rfl) rfl rfl mP10 ?_
        refine N.eqW (w' := putM K w b (sA d0 0, E)) rfl ?_
        generalize e1 : sA d0 0 = d1
        refine N.aload0 dX5_secondTruly_95 ?_
        refine N.dup dX5_secondTruly_96 rfl ?_
        refine N.getf dX5_secondTruly_97 flX5_299 mO rfl ?_
        refine N.iload3 dX5_secondTruly_100 ?_
        refine N.iload1 dX5_secondTruly_101 ?_
        refine N.icmp_ge (tgt := 109) dX5_secondTruly_102 (by decide) (fun c102 => ?_) (fun c102 => absurd c83 c102)
        refine N.iconst (v := 1) dX5_secondTruly_109 (by decide) ?_
        refine N.iadd dX5_secondTruly_110 ?_
        refine N.putf dX5_secondTruly_111 flX5_299 mO (Nat.le_of_ble_eq_true rfl) (fun _ h => by cases h; rfl) rfl rfl mP11 ?_
        refine N.eqW (w' := putM K w b (sB d1 1, E)) rfl ?_
        generalize e2 : sB d1 1 = d2
        refine N.aload0 dX5_secondTruly_114 ?_
        refine N.iconst (v := 1) dX5_secondTruly_115 (by decide) ?_
        refine N.putf dX5_secondTruly_116 flX5_52 mO (Nat.le_of_ble_eq_true rfl) (fun _ h => by cases h; rfl) rfl rfl mP4 ?_
        refine N.iload4 dX5_secondTruly_119 ?_
        exact N.zret dX5_secondTruly_121 rfl rfl (Nat.zero_le _) (Nat.zero_le _) ⟨_, rfl, ⟨by rw [if_neg c61], by rw [if_neg c61, scM, if_pos c83, e1, e2]; rfl, rfl⟩⟩
      · refine N.iconst (v := 1) dX5_secondTruly_86 (by decide) ?_
        refine N.goto (tgt := 91) dX5_secondTruly_87 (by decide) ?_
        refine N.iadd dX5_secondTruly_91 ?_
        refine N.putf dX5_secondTruly_92 flX5_296 mO (Nat.le_of_ble_eq_true rfl) (fun _ h => by cases h; rfl) rfl rfl mP10 ?_
        refine N.eqW (w' := putM K w b (sA d0 1, E)) rfl ?_
        generalize e1 : sA d0 1 = d1
        refine N.aload0 dX5_secondTruly_95 ?_
        refine N.dup dX5_secondTruly_96 rfl ?_
        refine N.getf dX5_secondTruly_97 flX5_299 mO rfl ?_
        refine N.iload3 dX5_secondTruly_100 ?_
        refine N.iload1 dX5_secondTruly_101 ?_
        refine N.icmp_ge (tgt := 109) dX5_secondTruly_102 (by decide) (fun c102 => absurd c102 c83) (fun c102 => ?_)
        refine N.iconst (v := 0) dX5_secondTruly_105 (by decide) ?_
        refine N.goto (tgt := 110) dX5_secondTruly_106 (by decide) ?_
        refine N.iadd dX5_secondTruly_110 ?_
        refine N.putf dX5_secondTruly_111 flX5_299 mO (Nat.le_of_ble_eq_true rfl) (fun _ h => by cases h; rfl) rfl rfl mP11 ?_
        refine N.eqW (w' := putM K w b (sB d1 0, E)) rfl ?_
        generalize e2 : sB d1 0 = d2
        refine N.aload0 dX5_secondTruly_114 ?_
        refine N.iconst (v := 1) dX5_secondTruly_115 (by decide) ?_
        refine N.putf dX5_secondTruly_116 flX5_52 mO (Nat.le_of_ble_eq_true rfl) (fun _ h => by cases h; rfl) rfl rfl mP4 ?_
        refine N.iload4 dX5_secondTruly_119 ?_
        exact N.zret dX5_secondTruly_121 rfl rfl (Nat.zero_le _) (Nat.zero_le _) ⟨_, rfl, ⟨by rw [if_neg c61], by rw [if_neg c61, scM, if_neg c83, e1, e2]; rfl, rfl⟩⟩
  · refine N.iconst (v := 1) dX5_secondTruly_36 (by decide) ?_
    refine N.goto (tgt := 41) dX5_secondTruly_37 (by decide) ?_
    refine N.iadd dX5_secondTruly_41 ?_
    refine N.putf dX5_secondTruly_42 flX5_289 mO (Nat.le_of_ble_eq_true rfl) (fun _ h => by cases h; rfl) rfl rfl mP9 ?_
    refine N.eqW (w' := putM K w b (sm2 u0, E)) (congrArg (fun z => putM K w b (z, E)) (sm2_f c33)) ?_
    refine N.aload0 dX5_secondTruly_45 ?_
    refine N.vv0 dX5_secondTruly_46 vX5_come lkX5_283 (s_X5_come _ _ _ _ _) mO rfl (Nat.le_of_ble_eq_true rfl) (Nat.le_of_ble_eq_true rfl) (Nat.zero_le _) (Nat.zero_le _) ?_
    rintro _ _ ⟨rfl, rfl⟩
    generalize cmV (sm2 u0) = c0
    refine N.aload0 dX5_secondTruly_49 ?_
    refine N.ldcw dX5_secondTruly_50 ctX5_292 ?_
    refine N.vi1 dX5_secondTruly_53 vX5_below lkX5_293 (s_X5_below _ _ _ _ _ _ (by decide)) mO rfl (Nat.le_of_ble_eq_true rfl) (Nat.le_of_ble_eq_true rfl) (Nat.zero_le _) (Nat.zero_le _) ?_
    rintro _ _ _ ⟨rfl, rfl, rfl⟩
    generalize drawF c0 50000 = D0
    generalize drawV c0 = d0
    refine N.istore3 dX5_secondTruly_56 rfl ?_
    refine N.iload3 dX5_secondTruly_57 ?_
    refine N.iload1 dX5_secondTruly_58 ?_
    refine N.iload2 dX5_secondTruly_59 ?_
    refine N.iadd dX5_secondTruly_60 ?_
    refine N.icmp_ge (tgt := 68) dX5_secondTruly_61 (by decide) (fun c61 => ?_) (fun c61 => ?_)
    · refine N.iconst (v := 0) dX5_secondTruly_68 (by decide) ?_
      refine N.istore4 dX5_secondTruly_69 rfl ?_
      refine N.iload4 dX5_secondTruly_71 ?_
      refine N.if_eq (tgt := 119) dX5_secondTruly_73 (by decide) (fun c73 => ?_) (fun c73 => absurd (by decide) c73)
      refine N.iload4 dX5_secondTruly_119 ?_
      exact N.zret dX5_secondTruly_121 rfl rfl (Nat.zero_le _) (Nat.zero_le _) ⟨_, rfl, ⟨by rw [if_pos c61], by rw [if_pos c61], rfl⟩⟩
    · refine N.iconst (v := 1) dX5_secondTruly_64 (by decide) ?_
      refine N.goto (tgt := 69) dX5_secondTruly_65 (by decide) ?_
      refine N.istore4 dX5_secondTruly_69 rfl ?_
      refine N.iload4 dX5_secondTruly_71 ?_
      refine N.if_eq (tgt := 119) dX5_secondTruly_73 (by decide) (fun c73 => absurd c73 (by decide)) (fun c73 => ?_)
      refine N.aload0 dX5_secondTruly_76 ?_
      refine N.dup dX5_secondTruly_77 rfl ?_
      refine N.getf dX5_secondTruly_78 flX5_296 mO rfl ?_
      refine N.iload3 dX5_secondTruly_81 ?_
      refine N.iload1 dX5_secondTruly_82 ?_
      refine N.icmp_ge (tgt := 90) dX5_secondTruly_83 (by decide) (fun c83 => ?_) (fun c83 => ?_)
      · refine N.iconst (v := 0) dX5_secondTruly_90 (by decide) ?_
        refine N.iadd dX5_secondTruly_91 ?_
        refine N.putf dX5_secondTruly_92 flX5_296 mO (Nat.le_of_ble_eq_true rfl) (fun _ h => by cases h; rfl) rfl rfl mP10 ?_
        refine N.eqW (w' := putM K w b (sA d0 0, E)) rfl ?_
        generalize e1 : sA d0 0 = d1
        refine N.aload0 dX5_secondTruly_95 ?_
        refine N.dup dX5_secondTruly_96 rfl ?_
        refine N.getf dX5_secondTruly_97 flX5_299 mO rfl ?_
        refine N.iload3 dX5_secondTruly_100 ?_
        refine N.iload1 dX5_secondTruly_101 ?_
        refine N.icmp_ge (tgt := 109) dX5_secondTruly_102 (by decide) (fun c102 => ?_) (fun c102 => absurd c83 c102)
        refine N.iconst (v := 1) dX5_secondTruly_109 (by decide) ?_
        refine N.iadd dX5_secondTruly_110 ?_
        refine N.putf dX5_secondTruly_111 flX5_299 mO (Nat.le_of_ble_eq_true rfl) (fun _ h => by cases h; rfl) rfl rfl mP11 ?_
        refine N.eqW (w' := putM K w b (sB d1 1, E)) rfl ?_
        generalize e2 : sB d1 1 = d2
        refine N.aload0 dX5_secondTruly_114 ?_
        refine N.iconst (v := 1) dX5_secondTruly_115 (by decide) ?_
        refine N.putf dX5_secondTruly_116 flX5_52 mO (Nat.le_of_ble_eq_true rfl) (fun _ h => by cases h; rfl) rfl rfl mP4 ?_
        refine N.iload4 dX5_secondTruly_119 ?_
        exact N.zret dX5_secondTruly_121 rfl rfl (Nat.zero_le _) (Nat.zero_le _) ⟨_, rfl, ⟨by rw [if_neg c61], by rw [if_neg c61, scM, if_pos c83, e1, e2]; rfl, rfl⟩⟩
      · refine N.iconst (v := 1) dX5_secondTruly_86 (by decide) ?_
        refine N.goto (tgt := 91) dX5_secondTruly_87 (by decide) ?_
        refine N.iadd dX5_secondTruly_91 ?_
        refine N.putf dX5_secondTruly_92 flX5_296 mO (Nat.le_of_ble_eq_true rfl) (fun _ h => by cases h; rfl) rfl rfl mP10 ?_
        refine N.eqW (w' := putM K w b (sA d0 1, E)) rfl ?_
        generalize e1 : sA d0 1 = d1
        refine N.aload0 dX5_secondTruly_95 ?_
        refine N.dup dX5_secondTruly_96 rfl ?_
        refine N.getf dX5_secondTruly_97 flX5_299 mO rfl ?_
        refine N.iload3 dX5_secondTruly_100 ?_
        refine N.iload1 dX5_secondTruly_101 ?_
        refine N.icmp_ge (tgt := 109) dX5_secondTruly_102 (by decide) (fun c102 => absurd c102 c83) (fun c102 => ?_)
        refine N.iconst (v := 0) dX5_secondTruly_105 (by decide) ?_
        refine N.goto (tgt := 110) dX5_secondTruly_106 (by decide) ?_
        refine N.iadd dX5_secondTruly_110 ?_
        refine N.putf dX5_secondTruly_111 flX5_299 mO (Nat.le_of_ble_eq_true rfl) (fun _ h => by cases h; rfl) rfl rfl mP11 ?_
        refine N.eqW (w' := putM K w b (sB d1 0, E)) rfl ?_
        generalize e2 : sB d1 0 = d2
        refine N.aload0 dX5_secondTruly_114 ?_
        refine N.iconst (v := 1) dX5_secondTruly_115 (by decide) ?_
        refine N.putf dX5_secondTruly_116 flX5_52 mO (Nat.le_of_ble_eq_true rfl) (fun _ h => by cases h; rfl) rfl rfl mP4 ?_
        refine N.iload4 dX5_secondTruly_119 ?_
        exact N.zret dX5_secondTruly_121 rfl rfl (Nat.zero_le _) (Nat.zero_le _) ⟨_, rfl, ⟨by rw [if_neg c61], by rw [if_neg c61, scM, if_neg c83, e1, e2]; rfl, rfl⟩⟩
def goM (v : CV) : Nat → CV × Int32 × Int32
  | 0 => (v, 0, 0)
  | k + 1 => (cmV (tmV (goM v k).1), (goM v k).2.1 + oddsOF (tmV (goM v k).1) (powAM (tmV (goM v k).1)), (goM v k).2.2 + oddsAF (tmV (goM v k).1))
def gE (E : ME) (x y : Int32) : ME := (upd (upd E.1 7 x) 8 y, E.2)
theorem gE7 {E : ME} {x y z : Int32} : (upd (gE E x y).1 7 z, (gE E x y).2) = gE E z y := by
  unfold gE
  refine Prod.ext (funext fun q => ?_) rfl
  show upd (upd (upd E.1 7 x) 8 y) 7 z q = upd (upd E.1 7 z) 8 y q
  unfold upd
  by_cases h1 : q = 7
  · subst h1; rfl
  · simp [h1]
theorem gE8 {E : ME} {x y z : Int32} : (upd (gE E x y).1 8 z, (gE E x y).2) = gE E x z := by
  unfold gE
  refine Prod.ext (funext fun q => ?_) rfl
  show upd (upd (upd E.1 7 x) 8 y) 8 z q = upd (upd E.1 7 x) 8 z q
  unfold upd
  by_cases h1 : q = 8
  · subst h1; rfl
  · simp [h1]
theorem gEE {E : ME} {x y z t : Int32} : gE (gE E x y) z t = gE E z t := by
  unfold gE
  refine Prod.ext (funext fun q => ?_) rfl
  show upd (upd (upd (upd E.1 7 x) 8 y) 7 z) 8 t q = upd (upd E.1 7 z) 8 t q
  unfold upd
  by_cases h1 : q = 8
  · simp [h1]
  · by_cases h2 : q = 7
    · simp [h2]
    · simp [h1, h2]
theorem goM_ok {v : CV} (h : okP v) : ∀ k, okP (goM v k).1
  | 0 => h
  | k + 1 => ((goM_ok h k).tm).cm
def goV (v : CV) (n : Int32) : CV := (goM v n.toNatClampNeg).1
def goO (v : CV) (n : Int32) : Int32 := (goM v n.toNatClampNeg).2.1
def goA (v : CV) (n : Int32) : Int32 := (goM v n.toNatClampNeg).2.2
def goG (v : CV) (n : Int32) : Int32 := goO v n - goA v n
set_option maxRecDepth 100000 in
theorem l_X5_goes {K : Kx} (w : Wd) (b sz : Nat) (v : CV) (E : ME) (n : Int32) (h : okP v) (m : Nat) (hm : m ≤ 600) (hn : n = nI m) : ∀ nn k, k + nn = m → N K mX5_goes 4 0 0 (Qi fun r w' sz' => r = goG v n ∧ w' = putM K w b (goV v n, gE E (goO v n) (goA v n)) ∧ sz' = sz) 12 [some (.ref b), some (.int n), some (.int (nI k))] [] (putM K w b ((goM v k).1, gE E (goM v k).2.1 (goM v k).2.2)) sz 0 0 := by
  have hcl : n.toNatClampNeg = m := by rw [hn, nI_clamp (by omega)]
  intro nn
  induction nn with
  | zero =>
    intro k hk
    obtain rfl : k = m := by omega
    refine N.iload2 dX5_goes_12 ?_
    refine N.iload1 dX5_goes_13 ?_
    refine N.icmp_ge (tgt := 57) dX5_goes_14 (by decide) (fun c14 => ?_) (fun c14 => absurd (pl_ge hn (by omega) (by omega)) c14)
    refine N.aload0 dX5_goes_57 ?_
    refine N.getf dX5_goes_58 flX5_268 mO rfl ?_
    refine N.aload0 dX5_goes_61 ?_
    refine N.getf dX5_goes_62 flX5_271 mO rfl ?_
    refine N.isub dX5_goes_65 ?_
    exact N.iret dX5_goes_66 rfl (Nat.zero_le _) (Nat.zero_le _) ⟨_, rfl, ⟨by rw [goG, goO, goA, hcl]; rfl, by rw [goV, goO, goA, hcl], rfl⟩⟩
  | succ nn ih =>
    intro k hk
    have hk0 := goM_ok h k
    refine N.iload2 dX5_goes_12 ?_
    refine N.iload1 dX5_goes_13 ?_
    refine N.icmp_ge (tgt := 57) dX5_goes_14 (by decide) (fun c14 => absurd c14 (by rw [hn]; exact nI_ge (by omega) (by omega))) (fun c14 => ?_)
    refine N.aload0 dX5_goes_17 ?_
    refine N.vv0 dX5_goes_18 vX5_tire lkX5_274 (s_X5_tire _ _ _ _ _ hk0) mO rfl (Nat.le_of_ble_eq_true rfl) (Nat.le_of_ble_eq_true rfl) (Nat.zero_le _) (Nat.zero_le _) ?_
    rintro _ _ ⟨rfl, rfl⟩
    refine N.aload0 dX5_goes_21 ?_
    refine N.dup dX5_goes_22 rfl ?_
    refine N.getf dX5_goes_23 flX5_268 mO rfl ?_
    refine N.aload0 dX5_goes_26 ?_
    refine N.vi0 dX5_goes_27 vX5_oddsOurs lkX5_277 (s_X5_oddsOurs _ _ _ _ _ hk0.tm) mO rfl (Nat.le_of_ble_eq_true rfl) (Nat.le_of_ble_eq_true rfl) (Nat.zero_le _) (Nat.zero_le _) ?_
    rintro _ _ _ ⟨rfl, rfl, rfl⟩
    refine N.iadd dX5_goes_30 ?_
    refine N.putf dX5_goes_31 flX5_268 mO (Nat.le_of_ble_eq_true rfl) (fun _ h => by cases h; rfl) rfl rfl mG7 ?_
    refine N.eqW (w' := putM K w b (tmV (goM v k).1, gE E (goM v (k + 1)).2.1 (goM v k).2.2)) (congrArg (fun z => putM K w b (tmV (goM v k).1, z)) gE7) ?_
    refine N.aload0 dX5_goes_34 ?_
    refine N.dup dX5_goes_35 rfl ?_
    refine N.getf dX5_goes_36 flX5_271 mO rfl ?_
    refine N.aload0 dX5_goes_39 ?_
    refine N.vi0 dX5_goes_40 vX5_oddsAgainst lkX5_280 (s_X5_oddsAgainst _ _ _ _ _) mO rfl (Nat.le_of_ble_eq_true rfl) (Nat.le_of_ble_eq_true rfl) (Nat.zero_le _) (Nat.zero_le _) ?_
    rintro _ _ _ ⟨rfl, rfl, rfl⟩
    refine N.iadd dX5_goes_43 ?_
    refine N.putf dX5_goes_44 flX5_271 mO (Nat.le_of_ble_eq_true rfl) (fun _ h => by cases h; rfl) rfl rfl mG8 ?_
    refine N.eqW (w' := putM K w b (tmV (goM v k).1, gE E (goM v (k + 1)).2.1 (goM v (k + 1)).2.2)) (congrArg (fun z => putM K w b (tmV (goM v k).1, z)) gE8) ?_
    refine N.aload0 dX5_goes_47 ?_
    refine N.vv0 dX5_goes_48 vX5_come lkX5_283 (s_X5_come _ _ _ _ _) mO rfl (Nat.le_of_ble_eq_true rfl) (Nat.le_of_ble_eq_true rfl) (Nat.zero_le _) (Nat.zero_le _) ?_
    rintro _ _ ⟨rfl, rfl⟩
    refine N.iinc2 dX5_goes_51 rfl (nI_inc _) ?_
    refine N.goto (tgt := 12) dX5_goes_54 (by decide) ?_
    exact ih (k + 1) (by omega)
set_option maxRecDepth 100000 in
theorem s_X5_goes {K : Kx} (w : Wd) (b sz : Nat) (v : CV) (E : ME) (n : Int32) (h : okP v) (m : Nat) (hm : m ≤ 600) (hn : n = nI m) : Sp K mX5_goes 4 0 0 [.ref b, .int n] (putM K w b (v, E)) sz (Qi fun r w' sz' => r = goG v n ∧ w' = putM K w b (goV v n, gE E (goO v n) (goA v n)) ∧ sz' = sz) := by
  refine Sp.ofN [some (.ref b), some (.int n), none] rfl rfl rfl (Nat.le_of_ble_eq_true rfl) ?_
  refine N.aload0 dX5_goes_0 ?_
  refine N.iconst (v := 0) dX5_goes_1 (by decide) ?_
  refine N.putf dX5_goes_2 flX5_268 mO (Nat.le_of_ble_eq_true rfl) (fun _ h => by cases h; rfl) rfl rfl mG7 ?_
  refine N.aload0 dX5_goes_5 ?_
  refine N.iconst (v := 0) dX5_goes_6 (by decide) ?_
  refine N.putf dX5_goes_7 flX5_271 mO (Nat.le_of_ble_eq_true rfl) (fun _ h => by cases h; rfl) rfl rfl mG8 ?_
  refine N.iconst (v := 0) dX5_goes_10 (by decide) ?_
  refine N.istore2 dX5_goes_11 rfl ?_
  exact N.wk (by exact ⟨rfl, rfl, rfl, trivial⟩) (l_X5_goes w b _ v E n h m hm hn m 0 (by omega))
def cpTo (f g : Nat → Int32) : Nat → (Nat → Int32)
  | 0 => g
  | k + 1 => upd (cpTo f g k) (nI k).toNatClampNeg (f (nI k).toNatClampNeg)
theorem cpTo_lt (f g : Nat → Int32) : ∀ k j, k < 2 ^ 31 → j < k → cpTo f g k j = f j
  | 0, j, _, h => absurd h (Nat.not_lt_zero _)
  | k + 1, j, hk, h => by
    rw [cpTo, nI_clamp (by omega)]
    unfold upd
    by_cases e : j = k
    · rw [if_pos e, e]
    · rw [if_neg e]; exact cpTo_lt f g k j (by omega) (by omega)
theorem upW_ne {w : Wd} {a q : Nat} {e : va_E} (h : q ≠ a) : upW w a e q = w q := if_neg h
set_option maxRecDepth 100000 in
theorem l_X5_copied {K : Kx} (w : Wd) (q1 q2 sz n : Nat) (hn : n ≤ 1000) (f g : Nat → Int32) (hq : q1 ≠ q2) (h1 : w q1 = some (.inl (kC K 0, n, .inl f))) : ∀ nn k, k + nn = n → N K mX5_copied 0 0 0 (Qv fun w' sz' => w' = upW w q2 (.inl (kC K 0, n, .inl f)) ∧ sz' = sz) 2 [some (.ref q1), some (.ref q2), some (.int (nI k))] [] (upW w q2 (.inl (kC K 0, n, .inl (cpTo f g k)))) sz 0 0 := by
  intro nn
  induction nn with
  | zero =>
    intro k hk
    obtain rfl : k = n := by omega
    refine N.iload2 dX5_copied_2 ?_
    refine N.aload0 dX5_copied_3 ?_
    refine N.alenI dX5_copied_4 ((upW_ne hq).trans h1) rfl ?_
    refine N.icmp_ge (tgt := 20) dX5_copied_5 (by decide) (fun c5 => ?_) (fun c5 => absurd (nI_le (Nat.le_refl _) (by omega)) c5)
    exact N.hw (HW.arrI (fun j hj => cpTo_lt f g k j (by omega) hj)) (N.vret dX5_copied_20 rfl (Nat.zero_le _) (Nat.zero_le _) ⟨rfl, rfl, rfl⟩)
  | succ nn ih =>
    intro k hk
    refine N.iload2 dX5_copied_2 ?_
    refine N.aload0 dX5_copied_3 ?_
    refine N.alenI dX5_copied_4 ((upW_ne hq).trans h1) rfl ?_
    refine N.icmp_ge (tgt := 20) dX5_copied_5 (by decide) (fun c5 => absurd c5 (nI_ge (by omega) (by omega))) (fun c5 => ?_)
    refine N.aload1 dX5_copied_8 ?_
    refine N.iload2 dX5_copied_9 ?_
    refine N.aload0 dX5_copied_10 ?_
    refine N.iload2 dX5_copied_11 ?_
    refine N.iald dX5_copied_12 ((upW_ne hq).trans h1) (vp_in_nI (by omega) (by omega)) ?_
    refine N.iast dX5_copied_13 upW_at (vp_in_nI (by omega) (by omega)) upW_up ?_
    refine N.iinc2 dX5_copied_14 rfl (nI_inc _) ?_
    refine N.goto (tgt := 2) dX5_copied_17 (by decide) ?_
    exact ih (k + 1) (by omega)
set_option maxRecDepth 100000 in
theorem s_X5_copied {K : Kx} (w : Wd) (q1 q2 sz n : Nat) (hn : n ≤ 1000) (f g : Nat → Int32) (hq : q1 ≠ q2) (h1 : w q1 = some (.inl (kC K 0, n, .inl f))) (h2 : w q2 = some (.inl (kC K 0, n, .inl g))) : Sp K mX5_copied 0 0 0 [.ref q1, .ref q2] w sz (Qv fun w' sz' => w' = upW w q2 (.inl (kC K 0, n, .inl f)) ∧ sz' = sz) := by
  refine Sp.ofN [some (.ref q1), some (.ref q2), none] rfl rfl rfl (Nat.le_of_ble_eq_true rfl) ?_
  refine N.iconst (v := 0) dX5_copied_0 (by decide) ?_
  refine N.istore2 dX5_copied_1 rfl ?_
  exact N.eqW (upW_id h2) (N.wk (by exact ⟨rfl, rfl, rfl, trivial⟩) (l_X5_copied w q1 q2 _ n hn f g hq h1 n 0 (by omega)))
/-- two models apart -/
def ap25 (a b : Nat) : Prop := a + 25 ≤ b ∨ b + 25 ≤ a
theorem m_cong {K : Kx} {w : Wd} {b : Nat} {y y' : MX} (h : ∀ k, mC K b y k = mC K b y' k) : putM K w b y = putM K w b y' := by
  show reg w b (mC K b y) = reg w b (mC K b y')
  rw [show mC K b y = mC K b y' from funext h]
section MT2
variable {K : Kx} {w : Wd} {b b2 : Nat} {v u : CV} {E E2 : ME}
theorem m2O (h : ap25 b2 b) : putM K (putM K w b2 (u, E2)) b (v, E) b2 = some (.inr (5, mF b2 (u, E2))) := by
  rw [m_out (by unfold ap25 at h; omega)]; exact mO
theorem m2A0 (h : ap25 b2 b) : putM K (putM K w b2 (u, E2)) b (v, E) (b2 + 17) = some (.inl (kC K 0, 10, .inl (u.2 0))) := by
  rw [m_out (by unfold ap25 at h; omega)]; exact mA0
theorem m2A1 (h : ap25 b2 b) : putM K (putM K w b2 (u, E2)) b (v, E) (b2 + 18) = some (.inl (kC K 0, 10, .inl (u.2 1))) := by
  rw [m_out (by unfold ap25 at h; omega)]; exact mA1
theorem m2A2 (h : ap25 b2 b) : putM K (putM K w b2 (u, E2)) b (v, E) (b2 + 19) = some (.inl (kC K 0, 10, .inl (u.2 2))) := by
  rw [m_out (by unfold ap25 at h; omega)]; exact mA2
theorem m2A3 (h : ap25 b2 b) : putM K (putM K w b2 (u, E2)) b (v, E) (b2 + 20) = some (.inl (kC K 0, 10, .inl (u.2 3))) := by
  rw [m_out (by unfold ap25 at h; omega)]; exact mA3
theorem m2A4 (h : ap25 b2 b) : putM K (putM K w b2 (u, E2)) b (v, E) (b2 + 21) = some (.inl (kC K 0, 4, .inl (u.2 4))) := by
  rw [m_out (by unfold ap25 at h; omega)]; exact mA4
end MT2
set_option maxRecDepth 100000 in
theorem s_X5_takeFrom {K : Kx} (w : Wd) (b b2 sz : Nat) (v u : CV) (E E2 : ME) (hd : ap25 b2 b) : Sp K mX5_takeFrom 1 0 0 [.ref b, .ref b2] (putM K (putM K w b2 (u, E2)) b (v, E)) sz (Qv fun w' sz' => w' = putM K (putM K w b2 (u, E2)) b (u, E) ∧ sz' = sz) := by
  refine Sp.ofN [some (.ref b), some (.ref b2)] rfl rfl rfl (Nat.le_of_ble_eq_true rfl) ?_
  refine N.aload0 dX5_takeFrom_0 ?_
  refine N.aload1 dX5_takeFrom_1 ?_
  refine N.getf dX5_takeFrom_2 flX5_74 (m2O hd) rfl ?_
  refine N.putf dX5_takeFrom_5 flX5_74 mO (Nat.le_of_ble_eq_true rfl) (fun _ h => by cases h; rfl) rfl rfl mP0 ?_
  refine N.aload1 dX5_takeFrom_8 ?_
  refine N.getf dX5_takeFrom_9 flX5_37 (m2O hd) rfl ?_
  refine N.aload0 dX5_takeFrom_12 ?_
  refine N.getf dX5_takeFrom_13 flX5_37 mO rfl ?_
  refine N.sv2 dX5_takeFrom_16 vX5_copied lkX5_352 (s_X5_copied _ (b2 + 17) (b + 17) _ 10 (by decide) _ _ (by unfold ap25 at hd; omega) (m2A0 hd) mA0) rfl (Nat.le_of_ble_eq_true rfl) (Nat.le_of_ble_eq_true rfl) (Nat.zero_le _) (Nat.zero_le _) ?_
  rintro _ _ ⟨rfl, rfl⟩
  refine N.eqW mK0 ?_
  refine N.aload1 dX5_takeFrom_19 ?_
  refine N.getf dX5_takeFrom_20 flX5_40 (m2O hd) rfl ?_
  refine N.aload0 dX5_takeFrom_23 ?_
  refine N.getf dX5_takeFrom_24 flX5_40 mO rfl ?_
  refine N.sv2 dX5_takeFrom_27 vX5_copied lkX5_352 (s_X5_copied _ (b2 + 18) (b + 18) _ 10 (by decide) _ _ (by unfold ap25 at hd; omega) (m2A1 hd) mA1) rfl (Nat.le_of_ble_eq_true rfl) (Nat.le_of_ble_eq_true rfl) (Nat.zero_le _) (Nat.zero_le _) ?_
  rintro _ _ ⟨rfl, rfl⟩
  refine N.eqW mK1 ?_
  refine N.aload1 dX5_takeFrom_30 ?_
  refine N.getf dX5_takeFrom_31 flX5_43 (m2O hd) rfl ?_
  refine N.aload0 dX5_takeFrom_34 ?_
  refine N.getf dX5_takeFrom_35 flX5_43 mO rfl ?_
  refine N.sv2 dX5_takeFrom_38 vX5_copied lkX5_352 (s_X5_copied _ (b2 + 19) (b + 19) _ 10 (by decide) _ _ (by unfold ap25 at hd; omega) (m2A2 hd) mA2) rfl (Nat.le_of_ble_eq_true rfl) (Nat.le_of_ble_eq_true rfl) (Nat.zero_le _) (Nat.zero_le _) ?_
  rintro _ _ ⟨rfl, rfl⟩
  refine N.eqW mK2 ?_
  refine N.aload1 dX5_takeFrom_41 ?_
  refine N.getf dX5_takeFrom_42 flX5_46 (m2O hd) rfl ?_
  refine N.aload0 dX5_takeFrom_45 ?_
  refine N.getf dX5_takeFrom_46 flX5_46 mO rfl ?_
  refine N.sv2 dX5_takeFrom_49 vX5_copied lkX5_352 (s_X5_copied _ (b2 + 20) (b + 20) _ 10 (by decide) _ _ (by unfold ap25 at hd; omega) (m2A3 hd) mA3) rfl (Nat.le_of_ble_eq_true rfl) (Nat.le_of_ble_eq_true rfl) (Nat.zero_le _) (Nat.zero_le _) ?_
  rintro _ _ ⟨rfl, rfl⟩
  refine N.eqW mK3 ?_
  refine N.aload1 dX5_takeFrom_52 ?_
  refine N.getf dX5_takeFrom_53 flX5_49 (m2O hd) rfl ?_
  refine N.aload0 dX5_takeFrom_56 ?_
  refine N.getf dX5_takeFrom_57 flX5_49 mO rfl ?_
  refine N.sv2 dX5_takeFrom_60 vX5_copied lkX5_352 (s_X5_copied _ (b2 + 21) (b + 21) _ 4 (by decide) _ _ (by unfold ap25 at hd; omega) (m2A4 hd) mA4) rfl (Nat.le_of_ble_eq_true rfl) (Nat.le_of_ble_eq_true rfl) (Nat.zero_le _) (Nat.zero_le _) ?_
  rintro _ _ ⟨rfl, rfl⟩
  refine N.eqW mK4 ?_
  refine N.aload0 dX5_takeFrom_63 ?_
  refine N.aload1 dX5_takeFrom_64 ?_
  refine N.getf dX5_takeFrom_65 flX5_116 (m2O hd) rfl ?_
  refine N.putf dX5_takeFrom_68 flX5_116 mO (Nat.le_of_ble_eq_true rfl) (fun _ h => by cases h; rfl) rfl rfl mP1 ?_
  refine N.aload0 dX5_takeFrom_71 ?_
  refine N.aload1 dX5_takeFrom_72 ?_
  refine N.getf dX5_takeFrom_73 flX5_255 (m2O hd) rfl ?_
  refine N.putf dX5_takeFrom_76 flX5_255 mO (Nat.le_of_ble_eq_true rfl) (fun _ h => by cases h; rfl) rfl rfl mP2 ?_
  refine N.aload0 dX5_takeFrom_79 ?_
  refine N.aload1 dX5_takeFrom_80 ?_
  refine N.getf dX5_takeFrom_81 flX5_265 (m2O hd) rfl ?_
  refine N.putf dX5_takeFrom_84 flX5_265 mO (Nat.le_of_ble_eq_true rfl) (fun _ h => by cases h; rfl) rfl rfl mP3 ?_
  refine N.aload0 dX5_takeFrom_87 ?_
  refine N.aload1 dX5_takeFrom_88 ?_
  refine N.getf dX5_takeFrom_89 flX5_52 (m2O hd) rfl ?_
  refine N.putf dX5_takeFrom_92 flX5_52 mO (Nat.le_of_ble_eq_true rfl) (fun _ h => by cases h; rfl) rfl rfl mP4 ?_
  refine N.aload0 dX5_takeFrom_95 ?_
  refine N.aload1 dX5_takeFrom_96 ?_
  refine N.getf dX5_takeFrom_97 flX5_146 (m2O hd) rfl ?_
  refine N.putf dX5_takeFrom_100 flX5_146 mO (Nat.le_of_ble_eq_true rfl) (fun _ h => by cases h; rfl) rfl rfl mP5 ?_
  refine N.aload0 dX5_takeFrom_103 ?_
  refine N.aload1 dX5_takeFrom_104 ?_
  refine N.getf dX5_takeFrom_105 flX5_56 (m2O hd) rfl ?_
  refine N.putf dX5_takeFrom_108 flX5_56 mO (Nat.le_of_ble_eq_true rfl) (fun _ h => by cases h; rfl) rfl rfl mP6 ?_
  refine N.aload0 dX5_takeFrom_111 ?_
  refine N.aload1 dX5_takeFrom_112 ?_
  refine N.getf dX5_takeFrom_113 flX5_59 (m2O hd) rfl ?_
  refine N.putf dX5_takeFrom_116 flX5_59 mO (Nat.le_of_ble_eq_true rfl) (fun _ h => by cases h; rfl) rfl rfl mP7 ?_
  refine N.aload0 dX5_takeFrom_119 ?_
  refine N.aload1 dX5_takeFrom_120 ?_
  refine N.getf dX5_takeFrom_121 flX5_286 (m2O hd) rfl ?_
  refine N.putf dX5_takeFrom_124 flX5_286 mO (Nat.le_of_ble_eq_true rfl) (fun _ h => by cases h; rfl) rfl rfl mP8 ?_
  refine N.aload0 dX5_takeFrom_127 ?_
  refine N.aload1 dX5_takeFrom_128 ?_
  refine N.getf dX5_takeFrom_129 flX5_289 (m2O hd) rfl ?_
  refine N.putf dX5_takeFrom_132 flX5_289 mO (Nat.le_of_ble_eq_true rfl) (fun _ h => by cases h; rfl) rfl rfl mP9 ?_
  refine N.aload0 dX5_takeFrom_135 ?_
  refine N.aload1 dX5_takeFrom_136 ?_
  refine N.getf dX5_takeFrom_137 flX5_296 (m2O hd) rfl ?_
  refine N.putf dX5_takeFrom_140 flX5_296 mO (Nat.le_of_ble_eq_true rfl) (fun _ h => by cases h; rfl) rfl rfl mP10 ?_
  refine N.aload0 dX5_takeFrom_143 ?_
  refine N.aload1 dX5_takeFrom_144 ?_
  refine N.getf dX5_takeFrom_145 flX5_299 (m2O hd) rfl ?_
  refine N.putf dX5_takeFrom_148 flX5_299 mO (Nat.le_of_ble_eq_true rfl) (fun _ h => by cases h; rfl) rfl rfl mP11 ?_
  refine N.aload0 dX5_takeFrom_151 ?_
  refine N.aload1 dX5_takeFrom_152 ?_
  refine N.getf dX5_takeFrom_153 flX5_62 (m2O hd) rfl ?_
  refine N.putf dX5_takeFrom_156 flX5_62 mO (Nat.le_of_ble_eq_true rfl) (fun _ h => by cases h; rfl) rfl rfl mP12 ?_
  refine N.eqW (m_cong (y' := (u, E)) (fun k => ?_)) (N.vret dX5_takeFrom_159 rfl (Nat.zero_le _) (Nat.zero_le _) ⟨rfl, rfl, rfl⟩)
  match k with
  | 0 => rfl
  | 1 => rfl
  | 2 => rfl
  | 3 => rfl
  | 4 => rfl
  | 5 => rfl
  | 6 => rfl
  | 7 => rfl
  | 8 => rfl
  | 9 => rfl
  | 10 => rfl
  | 11 => rfl
  | 12 => rfl
  | 13 => rfl
  | 14 => rfl
  | 15 => rfl
  | 16 => rfl
  | 17 => rfl
  | 18 => rfl
  | 19 => rfl
  | 20 => rfl
  | 21 => rfl
  | 22 => rfl
  | 23 => rfl
  | 24 => rfl
  | n + 25 => rfl
