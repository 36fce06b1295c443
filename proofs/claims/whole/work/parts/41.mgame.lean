variable {G : Nat → Prop}
def gnA (v : CV) : CV := setS (drawV v) 4 (drawF v 3)
def gnB (v : CV) : CV := chM (gnA v) (fmF (gnA v))
def gnTo (c : Nat) (v : CV) : Nat → CV
  | 0 => v
  | k + 1 => (skTo (gnB (gnTo c v k)) c).1
theorem gnA_ok {v : CV} (h : okP v) : okP (gnA v) := okP.set (v := drawV v) (okP.set h (by decide) _) (by decide) _
theorem gnA_l {v : CV} : (gnA v).2 4 = v.2 4 := rfl
theorem gnB_2 {v : CV} : (gnB v).2 = v.2 := rfl
theorem gnTo_ok {c : Nat} {v : CV} (h : okP v) : ∀ k, okP (gnTo c v k) := by
  intro k
  induction k with
  | zero => exact h
  | succ k ih => rw [gnTo]; exact skTo_ok (okP.chm (gnA_ok ih) _) c
theorem gnTo_l {c : Nat} {v : CV} : ∀ k, (gnTo c v k).2 4 = v.2 4 := by
  intro k
  induction k with
  | zero => rfl
  | succ k ih => rw [gnTo, skTo_l, gnB_2, ih]
theorem gnTo_s {c : Nat} {v : CV} {k : Nat} : gnTo c v (k + 1) = (skTo (gnB (gnTo c v k)) c).1 := by rw [gnTo]
theorem gn_f {c : Nat} {v : CV} {k : Nat} (h : ¬ nlF v = 1) : vp_in (fmF (gnA (gnTo c v k))) 4 := fm_in (k := 4) (Nat.le_refl _) (fm_ne fun q => h ((nl_eq (v := gnA (gnTo c v k)) (u := v) (gnA_l.trans (gnTo_l k))).symm.trans q))
set_option maxRecDepth 100000 in
theorem l2_X5_game {K : Kx} (w : Wd) (b sz : Nat) (v : CV) (E : ME) (mc ms : Nat) (h : okP v) (n x i : Int32) (Q : Qx) (u : CV) (hu : (skTo v 20).1 = u) (hK : N K mX5_game 9 mc ms Q 95 [some (.ref b), some (.int n), some (.int x), some (.int i), none] [] (putM K w b (u, E)) sz 0 0) : ∀ nn k, k + nn = 20 → N K mX5_game 9 mc ms Q 77 [some (.ref b), some (.int n), some (.int x), some (.int i), some (.int (nI k))] [] (putM K w b ((skTo v k).1, E)) sz 0 0 := by
  intro nn
  induction nn with
  | zero =>
    intro k hk
    obtain rfl : k = 20 := by omega
    rw [hu]
    refine N.iload4 dX5_game_77 ?_
    refine N.bipush (v := 20) dX5_game_79 (by decide) ?_
    refine N.icmp_ge (tgt := 95) dX5_game_81 (by decide) (fun c81 => ?_) (fun c81 => absurd (by decide) c81)
    exact N.wk (by exact ⟨rfl, rfl, rfl, rfl, trivial⟩) hK
  | succ nn ih =>
    intro k hk
    refine N.iload4 dX5_game_77 ?_
    refine N.bipush (v := 20) dX5_game_79 (by decide) ?_
    refine N.icmp_ge (tgt := 95) dX5_game_81 (by decide) (fun c81 => absurd c81 (nI_ge (a := k) (b := 20) (by omega) (by omega))) (fun c81 => ?_)
    refine N.aload0 dX5_game_84 ?_
    refine N.vi0 dX5_game_85 vX5_secondTruly lkX5_230 (s_X5_secondTruly _ _ _ _ _ (skTo_ok h k)) mO rfl (Nat.le_of_ble_eq_true rfl) (Nat.le_of_ble_eq_true rfl) (Nat.zero_le _) (Nat.zero_le _) ?_
    rintro _ _ _ ⟨rfl, rfl, rfl⟩
    refine N.pop dX5_game_88 rfl ?_
    refine N.iinc4 dX5_game_89 rfl (nI_inc _) ?_
    refine N.goto (tgt := 77) dX5_game_92 (by decide) ?_
    rw [← skTo_s]
    exact ih (k + 1) (by omega)
def gnF (v u : CV) : Int32 := u.1 10 - u.1 11 - (v.1 10 - v.1 11)
set_option maxRecDepth 100000 in
theorem l_X5_game {K : Kx} (w : Wd) (b sz : Nat) (v : CV) (E : ME) (mc ms : Nat) (n : Int32) (h : okP v) (hf : ¬ nlF v = 1) (m : Nat) (hm : m ≤ 20) (hn : n = nI m) (P : Int32 → Wd → Nat → Prop) (hP : P (gnF v (gnTo 20 v m)) (putM K w b (gnTo 20 v m, E)) sz) : ∀ nn k, k + nn = m → N K mX5_game 9 mc ms (Qi P) 51 [some (.ref b), some (.int n), some (.int (v.1 10 - v.1 11)), some (.int (nI k)), none] [] (putM K w b ((gnTo 20 v k), E)) sz 0 0 := by
  intro nn
  induction nn with
  | zero =>
    intro k hk
    obtain rfl : k = m := by omega
    generalize gnTo 20 v k = u at hP ⊢
    refine N.iload3 dX5_game_51 ?_
    refine N.iload1 dX5_game_52 ?_
    refine N.icmp_ge (tgt := 101) dX5_game_53 (by decide) (fun c53 => ?_) (fun c53 => absurd (pl_ge hn (by omega) (by omega)) c53)
    refine N.aload0 dX5_game_101 ?_
    refine N.getf dX5_game_102 flX5_296 mO rfl ?_
    refine N.aload0 dX5_game_105 ?_
    refine N.getf dX5_game_106 flX5_299 mO rfl ?_
    refine N.isub dX5_game_109 ?_
    refine N.iload2 dX5_game_110 ?_
    refine N.isub dX5_game_111 ?_
    exact N.iret dX5_game_112 rfl (Nat.zero_le _) (Nat.zero_le _) ⟨_, rfl, hP⟩
  | succ nn ih =>
    intro k hk
    have hk0 := gnTo_ok (c := 20) h k
    refine N.iload3 dX5_game_51 ?_
    refine N.iload1 dX5_game_52 ?_
    refine N.icmp_ge (tgt := 101) dX5_game_53 (by decide) (fun c53 => absurd c53 (by rw [hn]; exact nI_ge (by omega) (by omega))) (fun c53 => ?_)
    refine N.aload0 dX5_game_56 ?_
    refine N.aload0 dX5_game_57 ?_
    refine N.iconst (v := 3) dX5_game_58 (by decide) ?_
    refine N.vi1 dX5_game_59 vX5_below lkX5_293 (s_X5_below _ _ _ _ _ _ (by decide)) mO rfl (Nat.le_of_ble_eq_true rfl) (Nat.le_of_ble_eq_true rfl) (Nat.zero_le _) (Nat.zero_le _) ?_
    rintro _ _ _ ⟨rfl, rfl, rfl⟩
    refine N.putf dX5_game_62 flX5_52 mO (Nat.le_of_ble_eq_true rfl) (fun _ h => by cases h; rfl) rfl rfl mP4 ?_
    refine N.eqW (w' := putM K w b (gnA (gnTo 20 v k), E)) rfl ?_
    refine N.aload0 dX5_game_65 ?_
    refine N.aload0 dX5_game_66 ?_
    refine N.vi0 dX5_game_67 vX5_freshest lkX5_374 (s_X5_freshest _ _ _ _ _ (gnA_ok hk0)) mO rfl (Nat.le_of_ble_eq_true rfl) (Nat.le_of_ble_eq_true rfl) (Nat.zero_le _) (Nat.zero_le _) ?_
    rintro _ _ _ ⟨rfl, rfl, rfl⟩
    refine N.vi1 dX5_game_70 vX5_changes lkX5_323 (s_X5_changes _ _ _ _ _ _ (gn_f hf) (gnA_ok hk0)) mO rfl (Nat.le_of_ble_eq_true rfl) (Nat.le_of_ble_eq_true rfl) (Nat.zero_le _) (Nat.zero_le _) ?_
    rintro _ _ _ ⟨rfl, rfl, rfl⟩
    refine N.pop dX5_game_73 rfl ?_
    refine N.eqW (w' := putM K w b (gnB (gnTo 20 v k), E)) rfl ?_
    refine N.iconst (v := 0) dX5_game_74 (by decide) ?_
    refine N.istore4 dX5_game_75 rfl ?_
    refine N.wk (by exact ⟨rfl, rfl, rfl, rfl, rfl, trivial⟩) (l2_X5_game w b _ (gnB (gnTo 20 v k)) E _ _ (okP.chm (gnA_ok hk0) _) n _ (nI k) _ _ gnTo_s.symm ?_ 20 0 (by omega))
    refine N.iinc3 dX5_game_95 rfl (nI_inc _) ?_
    refine N.goto (tgt := 51) dX5_game_98 (by decide) ?_
    exact ih (k + 1) (by omega)
def mgame (m : Mst) (n : Int32) : Int32 × Mst := if isInF n 1 20 = 0 then rn m (-2) else if nlF m.1 = 0 then (gnF m.1 (gnTo 20 m.1 n.toNatClampNeg), gnTo 20 m.1 n.toNatClampNeg, m.2) else rn m (-5)
set_option maxRecDepth 100000 in
theorem s_X5_game {K : Kx} (w : Wd) (b sz : Nat) (v : CV) (e : M5) (t : Option Nat) (z : MX) (n : Int32) (ht : tOk G b sz t) (hM : okM (v, e)) : Sp K mX5_game 9 (kc t) (ks t) [.ref b, .int n] (putM K (tw K w t z) b (v, wt e t)) sz (Qi fun r w' sz' => r = (mgame (v, e) n).1 ∧ ∃ t' z', w' = putM K (tw K w t' z') b ((mgame (v, e) n).2.1, wt (mgame (v, e) n).2.2 t') ∧ tOk G b sz' t' ∧ sz ≤ sz') := by
  refine Sp.ofN [some (.ref b), some (.int n), none, none, none] rfl rfl rfl (Nat.le_of_ble_eq_true rfl) ?_
  have h : okP v := hM.1
  refine N.iload1 dX5_game_0 ?_
  refine N.i2l dX5_game_1 ?_
  refine N.lconst (v := 1) dX5_game_2 (by decide) ?_
  refine N.ldc2 dX5_game_3 ctX5_383 ?_
  refine N.si3 dX5_game_6 vX5_in lkX5_77 (s_X5_in _ _ _ _ _) rfl (Nat.le_of_ble_eq_true rfl) (Nat.le_of_ble_eq_true rfl) (Nat.zero_le _) (Nat.zero_le _) ?_
  rintro r1 _ _ ⟨er, rfl, rfl⟩
  obtain rfl := er.trans (inL_i (a := (1)) (b := (20)) rfl rfl)
  refine N.if_ne (tgt := 22) dX5_game_9 (by decide) (fun c9 => ?_) (fun c9 => ?_)
  · refine N.aload0 dX5_game_22 ?_
    refine N.vi0 dX5_game_23 vX5_noLines lkX5_329 (s_X5_noLines _ _ _ _ _) mO rfl (Nat.le_of_ble_eq_true rfl) (Nat.le_of_ble_eq_true rfl) (Nat.zero_le _) (Nat.zero_le _) ?_
    rintro _ _ _ ⟨rfl, rfl, rfl⟩
    refine N.if_eq (tgt := 39) dX5_game_26 (by decide) (fun c26 => ?_) (fun c26 => ?_)
    · obtain ⟨k0, hk0, hk1, hn⟩ := in_n1 (N' := 20) (by decide) c9
      have hcl : n.toNatClampNeg = k0 := by rw [hn, nI_clamp (by omega)]
      refine N.aload0 dX5_game_39 ?_
      refine N.getf dX5_game_40 flX5_296 mO rfl ?_
      refine N.aload0 dX5_game_43 ?_
      refine N.getf dX5_game_44 flX5_299 mO rfl ?_
      refine N.isub dX5_game_47 ?_
      refine N.istore2 dX5_game_48 rfl ?_
      refine N.iconst (v := 0) dX5_game_49 (by decide) ?_
      refine N.istore3 dX5_game_50 rfl ?_
      exact N.wk (by exact ⟨rfl, rfl, rfl, rfl, trivial⟩) (l_X5_game _ b _ v (wt e t) _ _ n h (nl_0 c26) k0 hk0 hn _ (mp_ok ht (by rw [mgame, if_neg c9, if_pos c26, hcl])) k0 0 (by omega))
    · refine N.aload0 dX5_game_29 ?_
      refine N.bipush (v := -5) dX5_game_30 (by decide) ?_
      refine N.vi1 dX5_game_32 vX5_refuse lkX5_89 (s_X5_refuse _ _ _ _ _ _ rfIn5) mO rfl (Nat.le_of_ble_eq_true rfl) (Nat.le_of_ble_eq_true rfl) (Nat.zero_le _) (Nat.zero_le _) ?_
      rintro _ _ _ ⟨rfl, rfl, rfl⟩
      refine N.si1 dX5_game_35 vX5_far lkX5_320 (s_X5_far _ _ _) rfl (Nat.le_of_ble_eq_true rfl) (Nat.le_of_ble_eq_true rfl) (Nat.zero_le _) (Nat.zero_le _) ?_
      rintro _ _ _ ⟨rfl, rfl, rfl⟩
      exact N.iret dX5_game_38 rfl (Nat.zero_le _) (Nat.zero_le _) ⟨_, rfl, (by rw [mgame, if_neg c9, if_neg c26]; exact rnf_ok ht)⟩
  · refine N.aload0 dX5_game_12 ?_
    refine N.bipush (v := -2) dX5_game_13 (by decide) ?_
    refine N.vi1 dX5_game_15 vX5_refuse lkX5_89 (s_X5_refuse _ _ _ _ _ _ rfIn2) mO rfl (Nat.le_of_ble_eq_true rfl) (Nat.le_of_ble_eq_true rfl) (Nat.zero_le _) (Nat.zero_le _) ?_
    rintro _ _ _ ⟨rfl, rfl, rfl⟩
    refine N.si1 dX5_game_18 vX5_far lkX5_320 (s_X5_far _ _ _) rfl (Nat.le_of_ble_eq_true rfl) (Nat.le_of_ble_eq_true rfl) (Nat.zero_le _) (Nat.zero_le _) ?_
    rintro _ _ _ ⟨rfl, rfl, rfl⟩
    exact N.iret dX5_game_21 rfl (Nat.zero_le _) (Nat.zero_le _) ⟨_, rfl, (by rw [mgame, if_pos c9]; exact rnf_ok ht)⟩
