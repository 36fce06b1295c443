variable {G : Nat → Prop}
def sc (E : M2) : M2 := (upd E.1 6 (E.1 6 + 1), E.2)
def raM (f : Nat → Int32) (S : Nat) : Nat → Rd → CV → M2 → RM
  | 0, r, v, E => (0, r, v, E)
  | n + 1, r, v, E => if r.1.2.2 = 0 then (1, r, v, E) else if r.1.2.2 = 3 then (if (stM f S (lk f S r.1.2.1) v E).1 = 0 then (0, (stM f S (lk f S r.1.2.1) v E).2) else raM f S n (stM f S (lk f S r.1.2.1) v E).2.1 (stM f S (lk f S r.1.2.1) v E).2.2.1 (sc (stM f S (lk f S r.1.2.1) v E).2.2.2)) else no r v E
def s1 (E : M2) : M2 := (upd E.1 6 1, E.2)
def rd0 (f : Nat → Int32) (S : Nat) (q : RM) : RM := if q.1 = 0 then (0, q.2) else raM f S 251 q.2.1 q.2.2.1 q.2.2.2
def rdM (f : Nat → Int32) (S : Nat) (v : CV) (E : M2) : RM := rd0 f S (stM f S (lk f S 0) v (s1 E))
abbrev Ok1 (E : M2) (q : RM) : Prop := (q.1 = 0 ∨ q.1 = 1) ∧ kp E q.2.2.2 ∧ okP q.2.2.1
theorem kp_sc {E : M2} : kp E (sc E) := ⟨fun _ _ => rfl, rfl⟩
theorem kp_s1 {E : M2} : kp E (s1 E) := ⟨fun _ _ => rfl, rfl⟩
theorem Ok1.of {E E' : M2} {q : RM} (h : Ok1 E' q) (k : kp E E') : Ok1 E q := ⟨h.1, k.tr h.2.1, h.2.2⟩
theorem ok_ra {f : Nat → Int32} {S : Nat} : ∀ n r v E, I3 S r.1 → okP v → Ok1 E (raM f S n r v E)
  | 0, r, v, E, hr, h => ⟨Or.inl rfl, kp.rfl', h⟩
  | n + 1, r, v, E, hr, h => by
    rw [raM]
    by_cases c1 : r.1.2.2 = 0
    · rw [if_pos c1]; exact ⟨Or.inr rfl, kp.rfl', h⟩
    · rw [if_neg c1]
      by_cases c2 : r.1.2.2 = 3
      · rw [if_pos c2]
        have hq := ok_st (f := f) (v := v) (E := E) (lk_ok (f := f) hr.2) h
        generalize stM f S (lk f S r.1.2.1) v E = q at hq
        by_cases c3 : q.1 = 0
        · rw [if_pos c3]; exact ⟨Or.inl rfl, hq.2⟩
        · rw [if_neg c3]; exact (ok_ra n _ _ _ hq.1.2.1 hq.2.2).of (hq.2.1.tr kp_sc)
      · rw [if_neg c2]; exact ⟨Or.inl rfl, kp_fl, h⟩
theorem ok_rd {f : Nat → Int32} {S : Nat} {v : CV} {E : M2} (h : okP v) : Ok1 E (rdM f S v E) := by
  unfold rdM
  have hq := ok_st (f := f) (v := v) (E := s1 E) (lk_ok (f := f) (Nat.zero_le S)) h
  generalize stM f S (lk f S 0) v (s1 E) = q at hq
  unfold rd0
  by_cases c : q.1 = 0
  · rw [if_pos c]; exact ⟨Or.inl rfl, kp_s1.tr hq.2.1, hq.2.2⟩
  · rw [if_neg c]; exact (ok_ra 251 _ _ _ hq.1.2.1 hq.2.2).of (kp_s1.tr hq.2.1)
set_option maxRecDepth 100000 in
theorem l_X5_readAll {K : Kx} (w : Wd) (b sz : Nat) (c : Cc) (S : Nat) (hS : S ≤ 250) (f : Nat → Int32) (R : RM) : ∀ nn (r : Rd) (v : CV) (E : M2), I3 S r.1 → S - r.1.2.1 < nn → okP v → E.1 0 = nI S → E.2 4 = f → raM f S nn r v E = R → N K mX5_readAll 6 0 0 (Qi fun x' w' sz' => x' = R.1 ∧ w' = putM K w b (R.2.2.1, rdS (em R.2.2.2 c) R.2.1) ∧ sz' = sz) 23 [some (.ref b)] [] (putM K w b (v, rdS (em E c) r)) sz 0 0 := by
  intro nn
  induction nn with
  | zero =>
    intro r v E hr hm h hz hf hR
    exact absurd hm (by omega)
  | succ nn ih =>
    intro r v E hr hm h hz hf hR
    subst hf
    rw [raM] at hR
    refine N.aload0 dX5_readAll_23 ?_
    refine N.getf dX5_readAll_24 flX5_170 mxO rfl ?_
    refine N.if_eq (tgt := 69) dX5_readAll_27 (by decide) (fun c27 => ?_) (fun c27 => ?_)
    · refine N.iconst (v := 1) dX5_readAll_69 (by decide) ?_
      exact N.zret dX5_readAll_70 rfl rfl (Nat.zero_le _) (Nat.zero_le _) ⟨_, rfl, ⟨by rw [← hR, if_pos c27], by rw [← hR, if_pos c27], rfl⟩⟩
    · rw [if_neg c27] at hR
      refine N.aload0 dX5_readAll_30 ?_
      refine N.getf dX5_readAll_31 flX5_170 mxO rfl ?_
      refine N.iconst (v := 3) dX5_readAll_34 (by decide) ?_
      refine N.icmp_eq (tgt := 43) dX5_readAll_35 (by decide) (fun c35 => ?_) (fun c35 => ?_)
      · rw [if_pos c35] at hR
        refine N.aload0 dX5_readAll_43 ?_
        refine N.vv0 dX5_readAll_44 vX5_look lkX5_196 (s_X5_look _ _ _ _ (em E c) S hS hz _ hr.2 _ _ _) mxO rfl (Nat.le_of_ble_eq_true rfl) (Nat.le_of_ble_eq_true rfl) (Nat.zero_le _) (Nat.zero_le _) ?_
        rintro _ _ ⟨rfl, rfl⟩
        have hr1 := lk_ok (f := (E.2 4)) hr.2
        have hl1 := lk_lt (f := (E.2 4)) (S := S) (e := r.1.2.1)
        generalize hlk : lk (E.2 4) S r.1.2.1 = r1 at hr1 hl1 hR ⊢
        refine N.aload0 dX5_readAll_47 ?_
        refine N.vi0 dX5_readAll_48 vX5_statement lkX5_236 (s_X5_statement _ _ _ _ E c S hS hz r1 hr1 h) mxO rfl (Nat.le_of_ble_eq_true rfl) (Nat.le_of_ble_eq_true rfl) (Nat.zero_le _) (Nat.zero_le _) ?_
        rintro _ _ _ ⟨rfl, rfl, rfl⟩
        have hq := ok_st (f := (E.2 4)) (v := v) (E := E) hr1 h
        have hq0 := fun q => st_0 (f := (E.2 4)) (S := S) (r := r1) (v := v) (E := E) q
        generalize hst : stM (E.2 4) S r1 v E = q at hq hq0 hR ⊢
        refine N.if_ne (tgt := 56) dX5_readAll_51 (by decide) (fun c51 => ?_) (fun c51 => ?_)
        · rw [if_neg c51] at hR
          refine N.aload0 dX5_readAll_56 ?_
          refine N.dup dX5_readAll_57 rfl ?_
          refine N.getf dX5_readAll_58 flX5_233 mxO rfl ?_
          refine N.iconst (v := 1) dX5_readAll_61 (by decide) ?_
          refine N.iadd dX5_readAll_62 ?_
          refine N.putf dX5_readAll_63 flX5_233 mxO (Nat.le_of_ble_eq_true rfl) (fun _ h => by cases h; rfl) rfl rfl mxP6 ?_
          refine N.goto (tgt := 23) dX5_readAll_66 (by decide) ?_
          have hne : ¬ r1.1.2.2 = 0 := fun q0 => c51 (hq0 (by rw [q0]; decide))
          have hlt := hl1 hne
          refine ih q.2.1 q.2.2.1 (sc q.2.2.2) hq.1.2.1 (by have := hq.1.2.2; have := hq.1.2.1.2; omega) hq.2.2 ((kp_sc.2.trans hq.2.1.2).trans hz) (hq.2.1.1 4 (by decide)) ?_
          exact hR
        · refine N.iconst (v := 0) dX5_readAll_54 (by decide) ?_
          exact N.zret dX5_readAll_55 rfl rfl (Nat.zero_le _) (Nat.zero_le _) ⟨_, rfl, ⟨by rw [← hR, if_pos c51], by rw [← hR, if_pos c51], rfl⟩⟩
      · refine N.aload0 dX5_readAll_38 ?_
        refine N.vi0 dX5_readAll_39 vX5_wrong lkX5_192 (s_X5_wrong _ _ _ _ E c _) mxO rfl (Nat.le_of_ble_eq_true rfl) (Nat.le_of_ble_eq_true rfl) (Nat.zero_le _) (Nat.zero_le _) ?_
        rintro _ _ _ ⟨rfl, rfl, rfl⟩
        exact N.zret dX5_readAll_42 rfl rfl (Nat.zero_le _) (Nat.zero_le _) ⟨_, rfl, ⟨by rw [← hR, if_neg c35]; rfl, by rw [← hR, if_neg c35]; rfl, rfl⟩⟩
set_option maxRecDepth 100000 in
theorem s_X5_readAll {K : Kx} (w : Wd) (b sz : Nat) (v : CV) (E : M2) (c : Cc) (S : Nat) (hS : S ≤ 250) (hz : E.1 0 = nI S) (h : okP v) : Sp K mX5_readAll 6 0 0 [.ref b] (putM K w b (v, em E c)) sz (Qi fun x' w' sz' => x' = (rdM (E.2 4) S v E).1 ∧ w' = putM K w b ((rdM (E.2 4) S v E).2.2.1, rdS (em (rdM (E.2 4) S v E).2.2.2 c) (rdM (E.2 4) S v E).2.1) ∧ sz' = sz) := by
  refine Sp.ofN [some (.ref b)] rfl rfl rfl (Nat.le_of_ble_eq_true rfl) ?_
  refine N.eqW (w' := putM K w b (v, rdX (em E c) (E.1 1) (E.1 2) (E.1 3) (E.1 4))) (congrArg (fun z_ => putM K w b (v, z_)) rX_self) ?_
  refine N.aload0 dX5_readAll_0 ?_
  refine N.iconst (v := 1) dX5_readAll_1 (by decide) ?_
  refine N.putf dX5_readAll_2 flX5_233 mxO (Nat.le_of_ble_eq_true rfl) (fun _ h => by cases h; rfl) rfl rfl mxP6 ?_
  refine N.aload0 dX5_readAll_5 ?_
  refine N.iconst (v := 0) dX5_readAll_6 (by decide) ?_
  refine N.putf dX5_readAll_7 flX5_161 mxO (Nat.le_of_ble_eq_true rfl) (fun _ h => by cases h; rfl) rfl rfl mxP1 ?_
  refine N.aload0 dX5_readAll_10 ?_
  refine N.vv0 dX5_readAll_11 vX5_look lkX5_196 (s_X5_look _ _ _ _ (em (s1 E) c) S hS hz 0 (Nat.zero_le _) _ _ _) mxO rfl (Nat.le_of_ble_eq_true rfl) (Nat.le_of_ble_eq_true rfl) (Nat.zero_le _) (Nat.zero_le _) ?_
  rintro _ _ ⟨rfl, rfl⟩
  refine N.aload0 dX5_readAll_14 ?_
  refine N.vi0 dX5_readAll_15 vX5_statement lkX5_236 (s_X5_statement _ _ _ _ (s1 E) c S hS hz (lk (E.2 4) S 0) (lk_ok (Nat.zero_le _)) h) mxO rfl (Nat.le_of_ble_eq_true rfl) (Nat.le_of_ble_eq_true rfl) (Nat.zero_le _) (Nat.zero_le _) ?_
  rintro _ _ _ ⟨rfl, rfl, rfl⟩
  have hq := ok_st (f := (E.2 4)) (v := v) (E := s1 E) (lk_ok (f := (E.2 4)) (Nat.zero_le S)) h
  have eR : rdM (E.2 4) S v E = rd0 (E.2 4) S (stM (E.2 4) S (lk (E.2 4) S 0) v (s1 E)) := rfl
  rw [eR]
  change N K mX5_readAll 6 0 0 _ 18 [some (.ref b)] [.int (stM (E.2 4) S (lk (E.2 4) S 0) v (s1 E)).1] (putM K w b ((stM (E.2 4) S (lk (E.2 4) S 0) v (s1 E)).2.2.1, rdS (em (stM (E.2 4) S (lk (E.2 4) S 0) v (s1 E)).2.2.2 c) (stM (E.2 4) S (lk (E.2 4) S 0) v (s1 E)).2.1)) _ 0 0
  generalize stM (E.2 4) S (lk (E.2 4) S 0) v (s1 E) = q at hq ⊢
  refine N.if_ne (tgt := 23) dX5_readAll_18 (by decide) (fun c18 => ?_) (fun c18 => ?_)
  · refine l_X5_readAll w b _ c S hS (E.2 4) _ 251 q.2.1 q.2.2.1 q.2.2.2 hq.1.2.1 (by omega) hq.2.2 (hq.2.1.2.trans hz) (hq.2.1.1 4 (by decide)) ?_
    rw [rd0, if_neg c18]
  · refine N.iconst (v := 0) dX5_readAll_21 (by decide) ?_
    exact N.zret dX5_readAll_22 rfl rfl (Nat.zero_le _) (Nat.zero_le _) ⟨_, rfl, ⟨by rw [rd0, if_pos c18], by rw [rd0, if_pos c18], rfl⟩⟩
def rd1 (A : Nat → Int32) (r : Rd) : Nat → Int32 := upd (upd (upd (upd A 1 (nI r.1.2.1)) 2 r.1.2.2) 3 (nI r.1.1)) 4 r.2
def rkE (R : RM) (e : M5) : M5 := (upd (rd1 R.2.2.2.1 R.2.1) 0 0, R.2.2.2.2, e.2.2)
def rkR (m : Mst) : RM := rdM (m.2.2.1 4) (m.2.1 0).toNatClampNeg m.1 (m.2.1, m.2.2.1)
def mrink (m : Mst) : Int32 × Mst := if (rkR m).1 = 0 then (-20 - (rkE (rkR m) m.2).1 5, m.1, reM (rkE (rkR m) m.2) (-2)) else ((rkE (rkR m) m.2).1 6, (rkR m).2.2.1, rkE (rkR m) m.2)
set_option maxRecDepth 100000 in
set_option maxRecDepth 100000 in
theorem s_X5_rink {K : Kx} (w : Wd) (b sz : Nat) (v : CV) (e : M5) (t : Option Nat) (z : MX) (ht : tOk G b sz t) (hM : okM (v, e)) : Sp K mX5_rink 9 (kc t) (ks t) [.ref b] (putM K (tw K w t z) b (v, wt e t)) sz (Qi fun r w' sz' => r = (mrink (v, e)).1 ∧ ∃ t' z', w' = putM K (tw K w t' z') b ((mrink (v, e)).2.1, wt (mrink (v, e)).2.2 t') ∧ tOk G b sz' t' ∧ sz ≤ sz') := by
  refine Sp.ofN [some (.ref b), none, none] rfl rfl rfl (Nat.le_of_ble_eq_true rfl) ?_
  have h : okP v := hM.1
  obtain ⟨S, hS, hS0⟩ := hM.2.2.2
  refine N.aload0 dX5_rink_0 ?_
  refine N.va0A dX5_rink_1 vX5_fresh lkX5_248 (s_X5_fresh w b _ v e t z ht) mO rfl (Nat.le_of_ble_eq_true rfl) (Nat.le_of_ble_eq_true rfl) (by omega) (by omega) ?_
  rintro q _ sz2 ⟨z2, rfl, hd, hz⟩
  refine N.astore1 dX5_rink_4 rfl ?_
  refine N.aload0 dX5_rink_5 ?_
  refine N.vi0 dX5_rink_6 vX5_readAll lkX5_252 (s_X5_readAll (putM K w q (v, z2)) b _ v (e.1, e.2.1) (e.2.2.1, e.2.2.2.1, e.2.2.2.2, some q) S hS hS0 h) mO rfl (Nat.le_of_ble_eq_true rfl) (Nat.le_of_ble_eq_true rfl) (by omega) (by omega) ?_
  rintro _ _ sz3 ⟨rfl, rfl, rfl⟩
  rw [show rdM (((e.1, e.2.1) : M2).2 4) S v (e.1, e.2.1) = rkR (v, e) by rw [rkR, show ((v, e) : Mst).2.1 0 = nI S from hS0, nI_clamp (by omega)]]
  generalize hq : rkR (v, e) = R
  refine N.istore2 dX5_rink_9 rfl ?_
  refine N.aload0 dX5_rink_10 ?_
  refine N.iconst (v := 0) dX5_rink_11 (by decide) ?_
  refine N.putf dX5_rink_12 flX5_158 mO (Nat.le_of_ble_eq_true rfl) (fun _ h => by cases h; rfl) rfl rfl mG0 ?_
  refine N.eqW (w' := putM K (putM K w q (v, z2)) b (R.2.2.1, wt (rkE R e) (some q))) rfl ?_
  generalize hk : rkE R e = e1
  refine N.iload2 dX5_rink_15 ?_
  refine N.if_ne (tgt := 39) dX5_rink_16 (by decide) (fun c16 => ?_) (fun c16 => ?_)
  · refine N.aload0 dX5_rink_39 ?_
    refine N.getf dX5_rink_40 flX5_233 mO rfl ?_
    exact N.iret dX5_rink_43 rfl (by omega) (by omega) ⟨_, rfl, (mq_ok ht hd hz (by rw [mrink, hq, if_neg c16, hk]))⟩
  · refine N.aload0 dX5_rink_19 ?_
    refine N.aload1 dX5_rink_20 ?_
    refine N.vv1 dX5_rink_21 vX5_takeFrom lkX5_244 (Sp.tkB hd) mO rfl (Nat.le_of_ble_eq_true rfl) (Nat.le_of_ble_eq_true rfl) (by omega) (by omega) ?_
    rintro _ _ ⟨rfl, rfl⟩
    refine N.aload0 dX5_rink_24 ?_
    refine N.bipush (v := -2) dX5_rink_25 (by decide) ?_
    refine N.vi1 dX5_rink_27 vX5_refuse lkX5_89 (s_X5_refuse _ _ _ _ _ _ rfIn2) mO rfl (Nat.le_of_ble_eq_true rfl) (Nat.le_of_ble_eq_true rfl) (by omega) (by omega) ?_
    rintro _ _ _ ⟨rfl, rfl, rfl⟩
    refine N.pop dX5_rink_30 rfl ?_
    refine N.bipush (v := -20) dX5_rink_31 (by decide) ?_
    refine N.aload0 dX5_rink_33 ?_
    refine N.getf dX5_rink_34 flX5_179 mO rfl ?_
    refine N.isub dX5_rink_37 ?_
    exact N.iret dX5_rink_38 rfl (by omega) (by omega) ⟨_, rfl, (mq_ok ht hd hz (e := reM e1 (-2)) (by rw [mrink, hq, if_pos c16, hk]; rfl))⟩
