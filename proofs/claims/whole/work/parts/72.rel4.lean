theorem sec_0 {v : CV} : (secM v).1 0 = v.1 0 := by
  have h1 : ∀ {F A : Int32} {c : CV}, (scU F A c).1 0 = c.1 0 := by
    intro F A c
    rw [← scu_eq]
    unfold scoreV
    split
    · split
      · dsimp only
        unfold upd
        rw [if_neg (by decide), if_neg (by decide)]
        exact dr_hi (by decide)
      · dsimp only
        unfold upd
        rw [if_neg (by decide), if_neg (by decide)]
        exact dr_hi (by decide)
    · exact dr_hi (by decide)
  have h2 : ∀ {c : CV}, (cmV c).1 0 = c.1 0 := by
    intro c
    unfold cmV
    split
    · rfl
    · split <;> rfl
  rw [secM, h1, h2, sm2_eq, sec_lo (by decide), tm_1]
theorem skTo_0 {v : CV} : ∀ k, (skTo v k).1.1 0 = v.1 0 := by
  intro k
  induction k with
  | zero =>
    have e : skTo v 0 = (v, 0) := by rw [skTo]
    rw [e]
  | succ k ih => rw [skTo_s, sec_0, ih]
/-- what the shares leave as it was -/
def mk5 (e e' : M5) : Prop := (∀ i, i ≠ 7 → i ≠ 8 → e'.2.1 i = e.2.1 i) ∧ e'.1 0 = e.1 0 ∧ e'.2.2.1 = e.2.2.1 ∧ e'.2.2.2.2 = e.2.2.2.2
theorem mk5.rfl' {e : M5} : mk5 e e := ⟨fun _ _ _ => rfl, rfl, rfl, rfl⟩
theorem mk5.tr {e e' e2 : M5} (h : mk5 e e') (g : mk5 e' e2) : mk5 e e2 := ⟨fun i a b => (g.1 i a b).trans (h.1 i a b), g.2.1.trans h.2.1, g.2.2.1.trans h.2.2.1, g.2.2.2.trans h.2.2.2⟩
theorem mk_lf1 {e : M5} {l x : Int32} : mk5 e (lf1 e l x) := ⟨fun i a _ => if_neg a, rfl, rfl, rfl⟩
theorem mk_lf3 {e : M5} {g : Int32} : mk5 e (lf3 e g) := ⟨fun i _ b => if_neg b, rfl, rfl, rfl⟩
theorem mk_lf2 {v : CV} {e : M5} : mk5 e (lf2 v e) := by
  unfold lf2
  split
  · exact mk_lf3
  · split
    · exact mk5.rfl'
    · exact mk_lf3
theorem mk_lfE {v : CV} {e : M5} {a : Nat} : mk5 e (lfE v e a) := by
  unfold lfE
  split
  · exact mk_lf1.tr mk_lf2
  · split
    · exact mk_lf1
    · exact mk_lf1.tr mk_lf2
theorem mk_ndTo {F : M5 → Nat → M5} (hF : ∀ e a, mk5 e (F e a)) {l a : Nat} {e : M5} : ∀ k, mk5 e (ndTo F l a e k)
  | 0 => mk5.rfl'
  | k + 1 => by rw [ndTo_s]; exact ((mk_ndTo hF k).tr mk_lf1).tr (hF _ _)
theorem mk_ndE {v : CV} {F : M5 → Nat → M5} (hF : ∀ e a, mk5 e (F e a)) {l : Nat} (e : M5) (a : Nat) : mk5 e (ndE v l F e a) := by
  unfold ndE
  split
  · exact mk_ndTo hF _
  · exact mk_ndTo hF _
theorem mn_keep {v : CV} {e : M5} : mk5 e (mnE v (any0 e)) := by
  have h0 : mk5 e (any0 e) := ⟨fun _ _ _ => rfl, rfl, rfl, rfl⟩
  unfold mnE
  exact h0.tr (mk_ndE (mk_ndE (mk_ndE (fun e a => mk_lfE))) _ _)
theorem mn_rl {x : XV} {m : Mst} (h : Rl x m) {e' : M5} (hk : mk5 m.2 e') : Rl x (m.1, e') := by
  obtain ⟨k1, k2, k3, k4⟩ := hk
  obtain ⟨g1, gI, g3, g4, g5, g6, g7, g8, g9⟩ := h
  refine ⟨g1, gI, fun s hs => ?_, g4, fun s hs => ?_, ?_, ?_, ?_, fun k hk => ?_⟩
  · show Sh1 e'.2.1 e'.2.2.1 m.1 s (x.2.2.1 s)
    have := g3 s hs
    unfold Sh1 at *
    rw [k1 0 (by decide) (by decide), k1 1 (by decide) (by decide), k1 2 (by decide) (by decide), k1 3 (by decide) (by decide), k3]
    exact this
  · show nb (e'.2.1 2 s) 0 40
    rw [k1 2 (by decide) (by decide)]; exact g5 s hs
  · show x.2.1.1 = e'.2.1 4
    rw [k1 4 (by decide) (by decide)]; exact g6
  · show x.2.1.2 0 = e'.1 0
    rw [k2]; exact g7
  · show nb (e'.1 0) 0 250
    rw [k2]; exact g8
  · show x.2.2.2.1 k = e'.2.1 5 (k + 2)
    rw [k1 5 (by decide) (by decide)]; exact g9 k hk
theorem in600 {n : Int32} (c : ¬ isInF n 0 600 = 0) : ∃ k, k ≤ 600 ∧ n = nI k := by
  obtain ⟨k, _, hk, e⟩ := nb_of (a := 0) (b := 600) rfl rfl (by decide) (by decide) c
  exact ⟨k, hk, e⟩
theorem pass_np {v : CV} {n : Int32} : np (passV n v) = np v := np_cg (by rw [passV, come_0.1, tr_1])
theorem R_plof {x : XV} {m : Mst} (h : Rl x m) (q t : Int32) : Rs x m (xplof x q t) (mplof m q t) := by
  unfold xplof mplof
  rw [h.1]
  by_cases c : isPlF m.1 q = 0
  · rw [if_pos c, if_pos c]; exact R_f2 h
  · rw [if_neg c, if_neg c]
    obtain ⟨p, hp, ep⟩ := pl_nb h.2.1 c
    have h10 := h.2.1.nq.1
    have hpw : powF m.1 q = powM m.1 q := by rw [ep]; exact pow_eq h.2.1.ib.2 (by omega)
    rw [hpw]
    by_cases c0 : t = 0
    · rw [if_pos c0, if_pos c0]; exact R_id h rfl
    rw [if_neg c0, if_neg c0]
    by_cases c1 : t = 1
    · rw [if_pos c1, if_pos c1]; exact R_id h rfl
    rw [if_neg c1, if_neg c1]
    by_cases c2 : t = 2
    · rw [if_pos c2, if_pos c2]; exact R_id h rfl
    rw [if_neg c2, if_neg c2]
    by_cases c3 : t = 3
    · rw [if_pos c3, if_pos c3]; exact R_id h rfl
    rw [if_neg c3, if_neg c3]
    by_cases c4 : t = 4
    · rw [if_pos c4, if_pos c4]
      rcases bit01 (m.1.1 1) q with z | z
      · rw [if_pos z]; exact R_id h z
      · rw [if_neg (show ¬ bitF (m.1.1 1) q = 0 by rw [z]; decide)]; exact R_id h z
    rw [if_neg c4, if_neg c4]
    by_cases c5 : t = 5
    · rw [if_pos c5, if_pos c5]
      rcases bit01 (m.1.1 2) q with z | z
      · rw [if_pos z]; exact R_id h z
      · rw [if_neg (show ¬ bitF (m.1.1 2) q = 0 by rw [z]; decide)]; exact R_id h z
    rw [if_neg c5, if_neg c5]
    by_cases c6 : t = 6
    · rw [if_pos c6, if_pos c6]; exact R_id h rfl
    rw [if_neg c6, if_neg c6]
    by_cases c7 : t = 7
    · rw [if_pos c7, if_pos c7]; exact R_id h rfl
    rw [if_neg c7, if_neg c7]
    exact R_f2 h
theorem R_lnof {x : XV} {m : Mst} (h : Rl x m) (l t : Int32) : Rs x m (xlnof x l t) (mlnof m l t) := by
  unfold xlnof mlnof
  rw [h.1]
  by_cases c : isInF l 0 3 = 0
  · rw [if_pos c, if_pos c]; exact R_f2 h
  · rw [if_neg c, if_neg c]
    by_cases c0 : t = 0
    · rw [if_pos c0, if_neg (show ¬ isInF t 0 3 = 0 by rw [c0]; decide), if_pos c0]; exact R_id h rfl
    · by_cases c1 : t = 1
      · rw [if_neg c0, if_pos c1, if_neg (show ¬ isInF t 0 3 = 0 by rw [c1]; decide), if_neg c0, if_pos c1]; exact R_id h tired_eq
      · by_cases c2 : t = 2
        · rw [if_neg c0, if_neg c1, if_pos c2, if_neg (show ¬ isInF t 0 3 = 0 by rw [c2]; decide), if_neg c0, if_neg c1, if_pos c2]; exact R_id h skill_eq
        · by_cases c3 : t = 3
          · rw [if_neg c0, if_neg c1, if_neg c2, if_pos c3, if_neg (show ¬ isInF t 0 3 = 0 by rw [c3]; decide), if_neg c0, if_neg c1, if_neg c2]
            exact R_id h (powA_eq (h.2.1.onl (ln_in c)).ib)
          · rw [if_neg c0, if_neg c1, if_neg c2, if_neg c3, if_pos ?_]
            · exact R_f2 h
            · refine Classical.byContradiction fun q => ?_
              obtain ⟨n, _, hn, e⟩ := nb_of (a := 0) (b := 3) rfl rfl (by decide) (by decide) q
              rcases (show n = 0 ∨ n = 1 ∨ n = 2 ∨ n = 3 by omega) with rfl | rfl | rfl | rfl
              · exact c0 e
              · exact c1 e
              · exact c2 e
              · exact c3 e
theorem R_power {x : XV} {m : Mst} (h : Rl x m) : Rs x m (xpower x) (mpower m) := by
  unfold xpower mpower
  rw [h.1]; exact R_id h (powA_eq h.2.1.ib)
theorem R_odds {x : XV} {m : Mst} (h : Rl x m) (t : Int32) : Rs x m (xodds x t) (modds m t) := by
  unfold xodds modds
  rw [h.1, powA_eq h.2.1.ib]
  by_cases c0 : t = 0
  · rw [if_pos c0, if_pos c0]; exact R_id h rfl
  · rw [if_neg c0, if_neg c0]
    by_cases c1 : t = 1
    · rw [if_pos c1, if_pos c1]; exact R_id h rfl
    · rw [if_neg c1, if_neg c1]; exact R_f2 h
theorem no_l {v : CV} {l : Int32} : (isInF l 0 3 = 0 ∧ hasPlF v l = 0 ∧ noLF l = -2) ∨ (¬ isInF l 0 3 = 0 ∧ v.2 4 l.toNatClampNeg = 0 ∧ hasPlF v l = 0 ∧ noLF l = -5) ∨ (¬ isInF l 0 3 = 0 ∧ ¬ v.2 4 l.toNatClampNeg = 0 ∧ ¬ hasPlF v l = 0) := by
  by_cases c : isInF l 0 3 = 0
  · exact Or.inl ⟨c, by unfold hasPlF; rw [if_pos c], by unfold noLF; rw [if_pos c]⟩
  · by_cases d : v.2 4 l.toNatClampNeg = 0
    · exact Or.inr (Or.inl ⟨c, d, (hp_in c).mpr d, by unfold noLF; rw [if_neg c]⟩)
    · exact Or.inr (Or.inr ⟨c, d, fun q => d ((hp_in c).mp q)⟩)
theorem R_way {x : XV} {m : Mst} (h : Rl x m) (l : Int32) : Rs x m (xway x l) (mway m l) := by
  unfold xway mway
  rw [h.1]
  rcases no_l (v := m.1) (l := l) with ⟨a, b, c⟩ | ⟨a, b, c, d⟩ | ⟨a, b, c⟩
  · rw [if_pos b, c, if_pos a]; exact R_f2 h
  · rw [if_pos c, d, if_neg a, if_pos b]; exact R_f5 h
  · rw [if_neg c, if_neg a, if_neg b]; exact R_id h (way_eq h.2.1.at.2.2.2.2.1)
theorem R_whist {x : XV} {m : Mst} (h : Rl x m) (l : Int32) : Rs x m (xwhist x l) (mwhist m l) := by
  unfold xwhist mwhist
  rw [h.1]
  rcases no_l (v := m.1) (l := l) with ⟨a, b, c⟩ | ⟨a, b, c, d⟩ | ⟨a, b, c⟩
  · rw [if_pos b, c, if_pos a]; exact R_f2 h
  · rw [if_pos c, d, if_neg a, if_pos b]; exact R_f5 h
  · rw [if_neg c, if_neg a, if_neg b]
    have hI := h.2.1.onl (ln_in a)
    exact R_v h hI rfl (powA_eq hI.ib)
theorem R_change {x : XV} {m : Mst} (h : Rl x m) (l : Int32) : Rs x m (xchange x l) (mchange m l) := by
  unfold xchange mchange
  rw [h.1]
  rcases no_l (v := m.1) (l := l) with ⟨a, b, c⟩ | ⟨a, b, c, d⟩ | ⟨a, b, c⟩
  · rw [if_pos b, c, if_pos a]; exact R_f2 h
  · rw [if_pos c, d, if_neg a, if_pos b]; exact R_f5 h
  · have h5 := h.2.1.at.2.2.2.2.1
    rw [if_neg c, if_neg a, if_neg b, chg_eq h5]
    exact R_v h (h.2.1.ch (ln_in a)) rfl (way_eq h5)
theorem R_behind {x : XV} {m : Mst} (h : Rl x m) (n q : Int32) : Rs x m (xbehind x n q) (mbehind m n q) := by
  unfold xbehind mbehind
  rw [h.1]
  by_cases c : isInF n 0 600 = 0
  · rw [if_pos c, if_pos c]; exact R_f2 h
  · obtain ⟨k, hk, rfl⟩ := in600 c
    have e := goV_eq h.2.1 (m := k) (by omega)
    rw [if_neg c, if_neg c, e]
    by_cases c1 : q = -1
    · rw [if_pos c1, if_pos c1]; exact R_id h (powA_eq (h.2.1.pass (by omega)).ib)
    · rw [if_neg c1, if_neg c1]
      by_cases c2 : isPlF m.1 q = 0
      · rw [if_pos c2, if_pos c2]; exact R_f2 h
      · rw [if_neg c2, if_neg c2]; exact R_id h rfl
theorem R_gains {x : XV} {m : Mst} (h : Rl x m) (n : Int32) : Rs x m (xgains x n) (mgains m n) := by
  unfold xgains mgains
  rw [h.1]
  by_cases c : isInF n 0 600 = 0
  · rw [if_pos c, if_pos c]; exact R_g2 h
  · obtain ⟨k, hk, rfl⟩ := in600 c
    rw [if_neg c, if_neg c]; exact R_id h (goG_eq h.2.1 (by omega)).symm
theorem R_trd {x : XV} {m : Mst} (h : Rl x m) (n : Int32) : Rs x m (xtrd x n) (mtrd m n) := by
  unfold xtrd mtrd
  rw [h.1]
  by_cases c : isInF n 0 600 = 0
  · rw [if_pos c, if_pos c]; exact R_f2 h
  · obtain ⟨k, hk, rfl⟩ := in600 c
    rw [if_neg c, if_neg c]
    by_cases c1 : m.1.1 0 = 0
    · rw [if_pos c1, if_pos c1]; exact R_f5 h
    · obtain ⟨h0, e⟩ := h.2.1.nq
      have hP : 0 < np m.1 := Nat.pos_of_ne_zero fun q => c1 (by rw [e, q]; rfl)
      rw [if_neg c1, if_neg c1, goV_eq h.2.1 (by omega)]
      refine R_id h ?_
      rw [trdF_eq (by rw [pass_np]; exact h0) (by rw [pass_np]; exact hP), pass_np]
theorem R_fresh {x : XV} {m : Mst} (h : Rl x m) (l y : Int32) : Rs x m (xfresh x l y) (mfresh m l y) := by
  unfold xfresh mfresh
  rw [h.1]
  by_cases c : isInF l 0 3 = 0
  · rw [if_pos c, if_pos c]; exact R_f2 h
  · rw [if_neg c, if_neg c]
    by_cases c1 : isInF y 0 600 = 0
    · rw [if_pos c1, if_pos c1]; exact R_f2 h
    · rw [if_neg c1, if_neg c1]
      by_cases c2 : m.1.2 4 l.toNatClampNeg = 0
      · rw [if_pos c2, if_pos ((hp_in c).mpr c2)]; exact R_f5 h
      · rw [if_neg c2, if_neg (fun q => c2 ((hp_in c).mp q))]
        exact R_id h (frs_eq 100 0 _ (h.2.1.on' nb00) rfl)
theorem R_third {x : XV} {m : Mst} (h : Rl x m) (n : Int32) : Rs x m (xthird x n) (mthird m n) := by
  unfold xthird mthird
  rw [h.1]
  by_cases c : isInF n 0 600 = 0
  · rw [if_pos c, if_pos c]; exact R_f2 h
  · obtain ⟨k, hk, e⟩ := in600 c
    rw [if_neg c, if_neg c]; exact R_id h (third_eq h.2.1 hk e)
theorem R_thr {x : XV} {m : Mst} (h : Rl x m) (n : Int32) : Rs x m (xthr x n) (mtf m n) := by
  unfold xthr mtf
  rw [h.1]
  by_cases c : isInF n 0 600 = 0
  · rw [if_pos c, if_pos c]; exact R_f2 h
  · obtain ⟨k, hk, rfl⟩ := in600 c
    obtain ⟨a, ha, ea⟩ := goO_n h.2.1 (m := k) (by omega)
    rw [if_neg c, if_neg c, ← goO_eq h.2.1 (by omega), oursV_eq h.2.1 (by omega), goV_eq h.2.1 (by omega), ea]
    exact R_id h (thr_eq (by omega) hk (h.2.1.pass (by omega)) 999 (Nat.le_refl _))
theorem R_five {x : XV} {m : Mst} (h : Rl x m) : Rs x m (xfive x) (mfive m) := by
  unfold xfive mfive
  rw [h.1]
  by_cases c : m.1.1 0 = 0
  · rw [if_pos c, if_pos c]; exact R_f5 h
  · rw [if_neg c, if_neg c]
    obtain ⟨h0, e⟩ := h.2.1.nq
    have m5 := (min5 h0).2
    rw [← e] at m5
    by_cases c5 : 5 ≤ m.1.1 0
    · rw [if_pos c5] at m5 ⊢
      exact R_id h (fiveF_eq h.2.1 c m5)
    · rw [if_neg c5] at m5 ⊢
      exact R_id h (fiveF_eq h.2.1 c m5)
theorem R_two {x : XV} {m : Mst} (h : Rl x m) (l k n : Int32) : Rs x m (xtwo x l k n) (mtwo m l k n) := by
  unfold xtwo mtwo
  rw [h.1]
  by_cases c : isInF l 0 3 = 0
  · rw [if_pos c, if_pos c]; exact R_g2 h
  · rw [if_neg c, if_neg c]
    by_cases c1 : isInF k 0 3 = 0
    · rw [if_pos c1, if_pos c1]; exact R_g2 h
    · rw [if_neg c1, if_neg c1]
      by_cases c2 : isInF n 0 600 = 0
      · rw [if_pos c2, if_pos c2]; exact R_g2 h
      · obtain ⟨z, hz, e⟩ := in600 c2
        rw [if_neg c2, if_neg c2]
        by_cases c3 : m.1.2 4 l.toNatClampNeg = 0
        · rw [if_pos c3, if_pos ((hp_in c).mpr c3)]; exact R_g5 h
        · rw [if_neg c3, if_neg (fun q => c3 ((hp_in c).mp q))]
          by_cases c4 : m.1.2 4 k.toNatClampNeg = 0
          · rw [if_pos c4, if_pos ((hp_in c1).mpr c4)]; exact R_g5 h
          · rw [if_neg c4, if_neg (fun q => c4 ((hp_in c1).mp q))]
            exact R_id h (twoG_eq h.2.1 (ln_in c) (ln_in c1) hz e)
theorem R_shifts {x : XV} {m : Mst} (h : Rl x m) (k n : Int32) : Rs x m (xshifts x k n) (mshifts m k n) := by
  unfold xshifts mshifts
  rw [h.1]
  by_cases c : isInF k 5 99 = 0
  · rw [if_pos c, if_pos c]; exact R_g2 h
  · rw [if_neg c, if_neg c]
    by_cases c2 : isInF n 0 600 = 0
    · rw [if_pos c2, if_pos c2]; exact R_g2 h
    · obtain ⟨z, hz, e⟩ := in600 c2
      obtain ⟨c0, hc0, hc1, hc⟩ := in5_99 c
      rw [if_neg c2, if_neg c2]
      by_cases c3 : nlF m.1 = 0
      · rw [if_pos c3, if_neg (fun q => first_nl.mp q c3)]; exact R_id h (shifts_eq h.2.1 hc0 hc1 hz hc e (nl_0 c3))
      · rw [if_neg c3, if_pos (first_nl.mpr c3)]; exact R_g5 h
theorem R_bsh {x : XV} {m : Mst} (h : Rl x m) (n : Int32) : Rs x m (xbsh x n) (mbsh m n) := by
  unfold xbsh mbsh
  rw [h.1]
  by_cases c2 : isInF n 0 600 = 0
  · rw [if_pos c2, if_pos c2]; exact R_f2 h
  · obtain ⟨z, hz, e⟩ := in600 c2
    rw [if_neg c2, if_neg c2]
    by_cases c3 : nlF m.1 = 0
    · rw [if_pos c3, if_neg (fun q => first_nl.mp q c3)]; exact R_id h (by rw [bsh_eq h.2.1 hz e (nl_0 c3) 95 (Nat.le_refl _)])
    · rw [if_neg c3, if_pos (first_nl.mpr c3)]; exact R_f5 h
theorem R_chnow {x : XV} {m : Mst} (h : Rl x m) (l n : Int32) : Rs x m (xchnow x l n) (mchnow m l n) := by
  unfold xchnow mchnow
  rw [h.1]
  by_cases c : isInF l 0 3 = 0
  · rw [if_pos c, if_pos c]; exact R_g2 h
  · rw [if_neg c, if_neg c]
    by_cases c2 : isInF n 0 600 = 0
    · rw [if_pos c2, if_pos c2]; exact R_g2 h
    · obtain ⟨z, hz, e⟩ := in600 c2
      rw [if_neg c2, if_neg c2]
      by_cases c3 : m.1.2 4 l.toNatClampNeg = 0
      · rw [if_pos c3, if_pos ((hp_in c).mpr c3)]; exact R_g5 h
      · rw [if_neg c3, if_neg (fun q => c3 ((hp_in c).mp q))]
        exact R_id h (chgG_eq h.2.1 (ln_in c) h.2.1.at.2.2.2.1 hz e)
theorem R_where {x : XV} {m : Mst} (h : Rl x m) (l n : Int32) : Rs x m (xwhere x l n) (mwhere m l n) := by
  unfold xwhere mwhere
  rw [h.1]
  by_cases c : isInF l 0 3 = 0
  · rw [if_pos c, if_pos c]; exact R_f2 h
  · rw [if_neg c, if_neg c]
    by_cases c2 : isInF n 0 600 = 0
    · rw [if_pos c2, if_pos c2]; exact R_f2 h
    · obtain ⟨z, hz, e⟩ := in600 c2
      rw [if_neg c2, if_neg c2]
      by_cases c3 : m.1.2 4 l.toNatClampNeg = 0
      · rw [if_pos c3, if_pos ((hp_in c).mpr c3)]; exact R_f5 h
      · rw [if_neg c3, if_neg (fun q => c3 ((hp_in c).mp q))]
        exact R_id h (where_eq h.2.1 (ln_in c) hz e)
theorem R_meets {x : XV} {m : Mst} (h : Rl x m) (l y : Int32) : Rs x m (xmeets x l y) (mmeets m l y) := by
  unfold xmeets mmeets
  rw [h.1]
  by_cases c : isInF l 0 3 = 0
  · rw [if_pos c, if_pos c]; exact R_g2 h
  · rw [if_neg c, if_neg c]
    by_cases c2 : isInF y 1 999 = 0
    · rw [if_pos c2, if_pos c2]; exact R_g2 h
    · rw [if_neg c2, if_neg c2]
      by_cases c3 : m.1.2 4 l.toNatClampNeg = 0
      · rw [if_pos c3, if_pos ((hp_in c).mpr c3)]; exact R_g5 h
      · rw [if_neg c3, if_neg (fun q => c3 ((hp_in c).mp q))]
        exact R_id h (meetG_eq h.2.1 (ln_in c) (nb_of (a := 1) (b := 999) rfl rfl (by decide) (by decide) c2))
theorem R_pull {x : XV} {m : Mst} (h : Rl x m) (n y : Int32) : Rs x m (xpull x n y) (mpull m n y) := by
  unfold xpull mpull
  rw [h.1]
  by_cases c : isInF n 0 600 = 0
  · rw [if_pos c, if_pos c]; exact R_g2 h
  · obtain ⟨z, hz, e⟩ := in600 c
    rw [if_neg c, if_neg c]
    by_cases c2 : isInF y 0 100 = 0
    · rw [if_pos c2, if_pos c2]; exact R_g2 h
    · obtain ⟨p, _, hp, ep⟩ := nb_of (a := 0) (b := 100) rfl rfl (by decide) (by decide) c2
      rw [if_neg c2, if_neg c2]; exact R_id h (pull_eq h.2.1 hz e hp ep)
theorem R_pen {x : XV} {m : Mst} (h : Rl x m) (n : Int32) : Rs x m (xpen x n) (mpen m n) := by
  unfold xpen mpen
  rw [h.1]
  by_cases c : n = -1
  · rw [if_pos c, if_neg (show ¬ isInF n (-1) 600 = 0 by rw [c]; decide), if_pos c]
    by_cases c1 : m.1.1 1 = 0
    · rw [if_pos c1, if_pos c1]; exact R_g5 h
    · rw [if_neg c1, if_neg c1]; exact R_id h (lmF_eq h.2.1)
  · rw [if_neg c, if_neg c]
    by_cases c2 : isInF n 0 600 = 0
    · have c3 : isInF n (-1) 600 = 0 := Classical.byContradiction fun q => by
        obtain ⟨k, hk, e⟩ := inm1 q c
        rw [e] at c2
        unfold isInF at c2
        rw [if_neg (nI_pos (by omega)), if_neg (show ¬ (600 : Int32) < nI k from nI_nlt (a := 600) hk (by decide))] at c2
        exact absurd c2 (by decide)
      rw [if_pos c2, if_pos c3]; exact R_g2 h
    · obtain ⟨k, hk, e⟩ := in600 c2
      have c3 : ¬ isInF n (-1) 600 = 0 := by
        rw [e]
        unfold isInF
        rw [if_neg (show ¬ nI k < -1 from fun q => absurd (Int32.lt_trans q (by decide : (-1 : Int32) < 0)) (nI_pos (by omega))), if_neg (show ¬ (600 : Int32) < nI k from nI_nlt (a := 600) hk (by decide))]
        decide
      rw [if_neg c2, if_neg c3]
      by_cases c1 : m.1.1 1 = 0
      · rw [if_pos c1, if_pos c1]; exact R_g5 h
      · rw [if_neg c1, if_neg c1, lmF_eq h.2.1]
        obtain ⟨p, hp, ep⟩ := wo_on h.2.1 c1
        refine R_id h ?_
        rw [← off_go, ep, e, goG_eq (h.2.1.off hp) (by omega)]
theorem R_min {x : XV} {m : Mst} (h : Rl x m) (l : Int32) : Rs x m (xmin x l) (mmin m l) := by
  unfold xmin mmin mmn2
  rw [h.1]
  have key : Rs x m (if firstLF m.1 = -1 then rg x (-5) else (mnG m.1 l, x)) (if nlF m.1 = 0 then (if l = -1 then ((mnE m.1 (any0 m.2)).1 9, m.1, mnE m.1 (any0 m.2)) else ((mnE m.1 (any0 m.2)).2.1 8 l.toNatClampNeg, m.1, mnE m.1 (any0 m.2))) else rn m (-5)) ∨ (¬ l = -1 ∧ isInF l 0 3 = 0) := by
    by_cases cl : ¬ l = -1 ∧ isInF l 0 3 = 0
    · exact Or.inr cl
    · left
      by_cases c3 : nlF m.1 = 0
      · rw [if_pos c3, if_neg (fun q => first_nl.mp q c3)]
        obtain ⟨e1, e2⟩ := min_eq h.2.1 (nl_0 c3) m.2
        have hk := mn_keep (v := m.1) (e := m.2)
        unfold mnG
        have hRl : Rl x (m.1, mnE m.1 (any0 m.2)) := mn_rl h hk
        by_cases c4 : l = -1
        · rw [if_pos c4, if_pos c4]; exact R_mk e1.symm hRl rfl rfl hk.2.2.2
        · rw [if_neg c4, if_neg c4]
          have c5 : ¬ isInF l 0 3 = 0 := fun q => cl ⟨c4, q⟩
          obtain ⟨j, hj, rfl⟩ := vp4 (ln_in c5)
          refine R_mk ?_ hRl rfl rfl hk.2.2.2
          rw [nI_clamp (by omega), e2 j hj]
      · rw [if_neg c3, if_pos (first_nl.mpr c3)]; exact R_g5 h
  by_cases c : l = -1
  · rw [if_pos c, if_pos c]
    exact key.resolve_right (fun q => q.1 c)
  · rw [if_neg c, if_neg c]
    by_cases c2 : isInF l 0 3 = 0
    · rw [if_pos c2, if_pos c2]; exact R_g2 h
    · rw [if_neg c2, if_neg c2]
      exact key.resolve_right (fun q => c2 q.2)
theorem R_best {x : XV} {m : Mst} (h : Rl x m) (t : Int32) : Rs x m (xbest x t) (mbest m t) := by
  unfold xbest mbest
  rw [h.1]
  by_cases c : isInF t 0 1 = 0
  · rw [if_pos c, if_pos c]; exact R_f2 h
  · rw [if_neg c, if_neg c]
    by_cases c3 : nlF m.1 = 0
    · rw [if_pos c3, if_neg (fun q => first_nl.mp q c3)]
      by_cases c4 : t = 0
      · rw [if_pos c4, if_pos c4]; exact R_id h fresh_eq
      · rw [if_neg c4, if_neg c4]; exact R_id h (strF_eq h.2.1)
    · rw [if_neg c3, if_pos (first_nl.mpr c3)]; exact R_f5 h
theorem R_skate {x : XV} {m : Mst} (h : Rl x m) (n : Int32) : Rs x m (xskate x n) (mskate m n) := by
  unfold xskate mskate
  rw [h.1]
  by_cases c : isInF n 1 300 = 0
  · rw [if_pos c, if_pos c]; exact R_f2 h
  · rw [if_neg c, if_neg c]
    obtain ⟨k, _, hk, rfl⟩ := nb_of (a := 1) (b := 300) rfl rfl (by decide) (by decide) c
    rw [nI_clamp (by omega)]
    obtain ⟨e1, e2⟩ := playTo_eq h.2.1 k
    have e0 := skTo_0 (v := m.1) k
    rw [← e1] at e0 ⊢
    exact R_v h e2 e0 (playF_eq h.2.1 (by omega))
