/-! the tape read, what is kept -/
def pm (v v' : CV) : Prop := ∀ p, ¬ isPlF v p = 0 → ¬ isPlF v' p = 0
theorem pm_e {v v' : CV} (e : v'.1 0 = v.1 0) : pm v v' := fun p q => by unfold isPlF at *; rw [e]; exact q
theorem pm.tr {v v' v2 : CV} (h : pm v v') (g : pm v' v2) : pm v v2 := fun p q => g p (h p q)
theorem pm_add {v : CV} (h : okP v) (c : ¬ 10 ≤ v.1 0) (k s a : Int32) : pm v (addV v k s a) := by
  obtain ⟨P, hP, e⟩ := h
  intro p q
  unfold isPlF at *
  obtain ⟨q1, q2⟩ := isIn_ne q
  obtain ⟨j, hj, rfl⟩ := nI_of q1
  have hle : j < P := by
    rw [e] at q2
    rcases Nat.eq_zero_or_pos P with z | z
    · rw [z] at q2
      exact absurd (Int32.lt_of_lt_of_le (by decide : (nI 0 - 1 : Int32) < 0) (nI_pos' hj)) q2
    · rw [show nI P - 1 = nI (P - 1) from pk_sub (b := 1) z] at q2
      have := Nat.not_lt.mp fun y => q2 (nI_lt y hj)
      omega
  show ¬ isInF (nI j) 0 (v.1 0 + 1 - 1) = 0
  unfold isInF
  rw [if_neg q1, Int32.add_sub_cancel, e, if_neg (nI_nlt (by omega) (by omega))]
  decide
theorem pm_pl {f : Nat → Int32} {S : Nat} {r : Rd} {v : CV} {E : M2} (h : okP v) (c : ¬ 10 ≤ v.1 0) : pm v (pl1 f S (teM f S r v E 0 5)).2.2.1 := by
  have e1 := (te_k (f := f) (S := S) (r := r) (v := v) (E := E) (lo := 0) (hi := 5)).2.1
  generalize teM f S r v E 0 5 = q at e1
  unfold pl1
  split
  · show pm v q.2.2.1
    rw [e1]; exact pm_e rfl
  · have e2 := (nu_k (f := f) (S := S) (r := q.2.1) (v := q.2.2.1) (E := q.2.2.2) (i := 1) (lo := 1) (hi := 99)).2.1
    generalize nuM f S q.2.1 q.2.2.1 q.2.2.2 1 1 99 = q2 at e2
    unfold pl2
    split
    · show pm v q2.2.2.1
      rw [e2, e1]; exact pm_e rfl
    · have e3 := (nu_k (f := f) (S := S) (r := q2.2.1) (v := q2.2.2.1) (E := q2.2.2.2) (i := 2) (lo := 0) (hi := 9)).2.1
      generalize nuM f S q2.2.1 q2.2.2.1 q2.2.2.2 2 0 9 = q3 at e3
      unfold pl3
      split
      · show pm v q3.2.2.1
        rw [e3, e2, e1]; exact pm_e rfl
      · show pm v (addV q3.2.2.1 _ _ _)
        rw [e3, e2, e1]; exact pm_add h c _ _ _
theorem pm_li {f : Nat → Int32} {S : Nat} {r : Rd} {v : CV} {E : M2} : pm v (liM f S r v E).2.2.1 := by
  have e1 := (te_k (f := f) (S := S) (r := r) (v := v) (E := E) (lo := 0) (hi := 3)).2.1
  unfold liM
  generalize teM f S r v E 0 3 = q at e1
  unfold li1
  split
  · show pm v q.2.2.1
    rw [e1]; exact pm_e rfl
  · unfold li2
    split
    · show pm v q.2.2.1
      rw [e1]; exact pm_e rfl
    · show pm v (lnV q.2.2.1 _ _)
      rw [e1]; exact pm_e rfl
theorem pm_sk {f : Nat → Int32} {S : Nat} {r : Rd} {v : CV} {E : M2} : pm v (sk1 (teM f S r v E 1 99)).2.2.1 := by
  have e1 := (te_k (f := f) (S := S) (r := r) (v := v) (E := E) (lo := 1) (hi := 99)).2.1
  generalize teM f S r v E 1 99 = q at e1
  unfold sk1
  split
  · show pm v q.2.2.1
    rw [e1]; exact pm_e rfl
  · show pm v (skTo q.2.2.1 _).1
    rw [e1]; exact pm_e (skTo_0 _)
theorem pm_as {f : Nat → Int32} {S : Nat} {r : Rd} {v : CV} {E : M2} {x : Int32} : pm v (asM f S r v E x).2.2.1 := by
  unfold asM as1
  split
  · split
    · exact pm_e rfl
    · exact pm_e rfl
  · exact pm_e rfl
theorem pm_on {f : Nat → Int32} {S : Nat} {r : Rd} {v : CV} {E : M2} : pm v (on1 f S r v E).2.2.1 := by
  unfold on1
  split
  · split
    · exact pm_e rfl
    · split <;> exact pm_e rfl
  · exact pm_e rfl
theorem pm_sA {f : Nat → Int32} {S : Nat} {r : Rd} {v : CV} {E : M2} : pm v (sAa f S r v E).2.2.1 := by
  unfold sAa
  split
  · unfold sBb
    split
    · unfold sCc
      split
      · unfold sDd
        split
        · unfold sEe
          split
          · unfold sFf
            split
            · exact pm_e rfl
            · exact pm_sk
          · exact pm_as
        · exact pm_as
      · exact pm_as
    · exact pm_on
  · exact pm_li
theorem pm_st {f : Nat → Int32} {S : Nat} {r : Rd} {v : CV} {E : M2} (h : okP v) : pm v (stM f S r v E).2.2.1 := by
  unfold stM
  split
  · exact pm_sA
  · split
    · exact pm_sA
    · rename_i c; exact pm_pl h c
theorem pm_ra {f : Nat → Int32} {S : Nat} : ∀ n r v E, I3 S r.1 → okP v → pm v (raM f S n r v E).2.2.1
  | 0, r, v, E, _, _ => pm_e rfl
  | n + 1, r, v, E, hr, h => by
    rw [raM]
    split
    · exact pm_e rfl
    · split
      · have hq := ok_st (f := f) (v := v) (E := E) (lk_ok (f := f) hr.2) h
        have hp := pm_st (f := f) (S := S) (r := lk f S r.1.2.1) (E := E) h
        generalize stM f S (lk f S r.1.2.1) v E = q at hq hp
        split
        · exact hp
        · exact hp.tr (pm_ra n _ _ _ hq.1.2.1 hq.2.2)
      · exact pm_e rfl
theorem pm_rd {f : Nat → Int32} {S : Nat} {v : CV} {E : M2} (h : okP v) : pm v (rdM f S v E).2.2.1 := by
  unfold rdM
  have hq := ok_st (f := f) (v := v) (E := s1 E) (lk_ok (f := f) (Nat.zero_le S)) h
  have hp := pm_st (f := f) (S := S) (r := lk f S 0) (E := s1 E) h
  generalize stM f S (lk f S 0) v (s1 E) = q at hq hp
  unfold rd0
  split
  · exact hp
  · exact hp.tr (pm_ra 251 _ _ _ hq.1.2.1 hq.2.2)
theorem ont_t {t : TV} {S : Nat} : ∀ n k z v, (rOnt t S n k z v).2.1.1 = t.1
  | 0, _, _, _ => rfl
  | n + 1, k, z, v => by
    rw [rOnt]
    split
    · rfl
    · split
      · rfl
      · split
        · exact ont_t n _ _ _
        · rfl
theorem R_rink {x : XV} {m : Mst} (h : Rl x m) : Rs x m (xrink x) (mrink m) := by
  obtain ⟨g1, gI, g3, g4, g5, g6, g7, ⟨S, _, hS, eS⟩, g9⟩ := id h
  have eX : rnkR x = rOnt x.2.1 S 250 0 (x.2.1.2 1, 0, x.2.1.2 3) m.1 := by unfold rnkR; rw [g7, eS, nI_clamp (by omega), g1]
  have eM : rkR m = rdM x.2.1.1 S m.1 (m.2.1, m.2.2.1) := by
    unfold rkR
    rw [show m.2.1 0 = nI S from eS, nI_clamp (by omega), g6]
  have hF := rd_eq (t := x.2.1) hS gI (E := (m.2.1, m.2.2.1)) (z1 := x.2.1.2 1) (z3 := x.2.1.2 3)
  have hk := (ok_rd (f := x.2.1.1) (S := S) (E := (m.2.1, m.2.2.1)) gI.ok).2.1
  have hp := pm_rd (f := x.2.1.1) (S := S) (E := (m.2.1, m.2.2.1)) gI.ok
  have ht := ont_t (t := x.2.1) (S := S) 250 0 (x.2.1.2 1, 0, x.2.1.2 3) m.1
  unfold xrink mrink
  rw [← eX] at hF ht
  rw [← eM] at hF hk hp
  generalize rnkR x = X at hF ht
  generalize rkR m = R at hF hk hp
  have hR : Rl (setT x (tap0 X.2.1)) (m.1, rkE R m.2) := by
    refine ⟨g1, gI, fun s hs => ?_, g4, fun s hs => ?_, ?_, rfl, nb00, fun k hk' => ?_⟩
    · show Sh1 R.2.2.2.2 m.2.2.2.1 m.1 s (x.2.2.1 s)
      have := g3 s hs
      unfold Sh1 at *
      rw [hk.1 0 (by decide), hk.1 1 (by decide), hk.1 2 (by decide), hk.1 3 (by decide)]
      exact this
    · show nb (R.2.2.2.2 2 s) 0 40
      rw [hk.1 2 (by decide)]; exact g5 s hs
    · show X.2.1.1 = R.2.2.2.2 4
      rw [hk.1 4 (by decide), ht]; exact g6
    · show x.2.2.2.1 k = R.2.2.2.2 5 (k + 2)
      rw [hk.1 5 (by decide)]; exact g9 k hk'
  rcases hF with ⟨a1, a2, a3⟩ | ⟨a1, a2, a3, a4, a5⟩
  · rw [if_pos a1, if_pos a2]
    obtain ⟨b1, b2, b3⟩ := hR.ref (y := -2) (k := 0) (by decide) (by decide) (by decide)
    refine R_mk ?_ b1 (congrFun b2 2) b3 rfl
    show -20 - X.2.1.2 1 = -20 - R.2.2.2.1 5
    rw [a3]
  · rw [if_neg a1, if_neg (show ¬ R.1 = 0 by rw [a2]; decide)]
    rw [a4] at hp
    rw [a4]
    refine R_mk ?_ (hR.v a5 hp) setR_2 rfl rfl
    show X.1 = R.2.2.2.1 6
    rw [a3]
theorem R_image {x : XV} {m : Mst} (h : Rl x m) (k : Option Nat) : Rl (ximage x).2 (m.1, kpE m.2 k) := by
  obtain ⟨g1, gI, g3, g4, g5, g6, g7, g8, g9⟩ := h
  refine ⟨?_, gI, g3, g4, g5, g6, g7, g8, g9⟩
  show (if (0 : Nat) = 2 then x.1 0 else x.1 0) = m.1
  rw [if_neg (by decide)]; exact g1
theorem bkS_at {u : CV} {A : Nat → Nat → Int32} : ∀ k, k < 2 ^ 31 → ∀ i j, bkS u A k i j = if i = 0 ∧ j < k ∧ A 0 j = 2 ∧ ¬ A 3 j < u.1 0 then 0 else A i j
  | 0, _, i, j => by rw [if_neg (fun q => Nat.not_lt_zero _ q.2.1)]; rfl
  | k + 1, hk, i, j => by
    have ih := bkS_at (u := u) (A := A) k (by omega)
    have e0 : bkS u A k 0 k = A 0 k := by rw [ih, if_neg (fun q => Nat.lt_irrefl _ q.2.1)]
    have e3 : bkS u A k 3 k = A 3 k := by rw [ih, if_neg (fun q => absurd q.1 (by decide))]
    rw [bkS, nI_clamp (by omega), e0, e3]
    by_cases c1 : A 0 k = 2
    · rw [if_pos c1]
      by_cases c2 : A 3 k < u.1 0
      · rw [if_pos c2, ih]
        by_cases d : i = 0 ∧ j < k ∧ A 0 j = 2 ∧ ¬ A 3 j < u.1 0
        · rw [if_pos d, if_pos ⟨d.1, by omega, d.2.2⟩]
        · rw [if_neg d, if_neg]
          rintro ⟨q1, q2, q3, q4⟩
          by_cases e : j = k
          · subst e; exact q4 c2
          · exact d ⟨q1, by omega, q3, q4⟩
      · rw [if_neg c2]
        unfold upA
        by_cases i0 : i = 0
        · rw [if_pos i0]
          unfold upd
          by_cases e : j = k
          · rw [if_pos e, e, if_pos ⟨i0, by omega, c1, c2⟩]
          · rw [if_neg e, ih]
            by_cases d : j < k ∧ A 0 j = 2 ∧ ¬ A 3 j < u.1 0
            · rw [if_pos ⟨rfl, d⟩, if_pos ⟨i0, by omega, d.2⟩]
            · rw [if_neg (fun q => d q.2), if_neg (fun q => d ⟨by omega, q.2.2⟩), i0]
        · rw [if_neg i0, ih, if_neg (fun q => i0 q.1), if_neg (fun q => i0 q.1)]
    · rw [if_neg c1, ih]
      by_cases d : i = 0 ∧ j < k ∧ A 0 j = 2 ∧ ¬ A 3 j < u.1 0
      · rw [if_pos d, if_pos ⟨d.1, by omega, d.2.2⟩]
      · rw [if_neg d, if_neg]
        rintro ⟨q1, q2, q3, q4⟩
        by_cases e : j = k
        · subst e; exact c1 q3
        · exact d ⟨q1, by omega, q3, q4⟩
/-- whether a shelf is emptied by back -/
def clr (y : XV) (j : Nat) : Prop := ¬ isPlrF (y.2.2.1 j) = 0 ∧ isPlF (y.1 0) ((y.2.2.1 j).2.1 - 10) = 0
theorem bkTo_at {y : XV} : ∀ k, (bkTo y k).1 = y.1 ∧ (bkTo y k).2.1 = y.2.1 ∧ (bkTo y k).2.2.2 = y.2.2.2 ∧ ∀ j, (j < k → clr y j → (bkTo y k).2.2.1 j = ((y.2.2.1 j).1, -1, (y.2.2.1 j).2.2)) ∧ (¬ (j < k ∧ clr y j) → (bkTo y k).2.2.1 j = y.2.2.1 j)
  | 0 => ⟨rfl, rfl, rfl, fun j => ⟨fun q => absurd q (Nat.not_lt_zero _), fun _ => rfl⟩⟩
  | k + 1 => by
    obtain ⟨i1, i2, i3, i4⟩ := bkTo_at (y := y) k
    have ek : (bkTo y k).2.2.1 k = y.2.2.1 k := (i4 k).2 (fun q => Nat.lt_irrefl _ q.1)
    rw [bkTo, ek, i1]
    by_cases c1 : isPlrF (y.2.2.1 k) = 0
    · rw [if_pos c1]
      refine ⟨i1, i2, i3, fun j => ⟨fun q c => ?_, fun q => ?_⟩⟩
      · by_cases e : j = k
        · subst e; exact absurd c1 c.1
        · exact (i4 j).1 (by omega) c
      · exact (i4 j).2 (fun z => q ⟨by omega, z.2⟩)
    · rw [if_neg c1]
      by_cases c2 : isPlF (y.1 0) ((y.2.2.1 k).2.1 - 10) = 0
      · rw [if_pos c2]
        refine ⟨i1, i2, i3, fun j => ⟨fun q c => ?_, fun q => ?_⟩⟩
        · show (if j = k then _ else (bkTo y k).2.2.1 j) = _
          by_cases e : j = k
          · rw [if_pos e, e]
          · rw [if_neg e]; exact (i4 j).1 (by omega) c
        · show (if j = k then _ else (bkTo y k).2.2.1 j) = _
          by_cases e : j = k
          · subst e; exact absurd ⟨by omega, c1, c2⟩ q
          · rw [if_neg e]; exact (i4 j).2 (fun z => q ⟨by omega, z.2⟩)
      · rw [if_neg c2]
        refine ⟨i1, i2, i3, fun j => ⟨fun q c => ?_, fun q => ?_⟩⟩
        · by_cases e : j = k
          · subst e; exact absurd c.2 c2
          · exact (i4 j).1 (by omega) c
        · exact (i4 j).2 (fun z => q ⟨by omega, z.2⟩)
theorem R_back {x : XV} {m : Mst} (h : Rl x m) (hu : Iv (x.1 2)) : Rl (bkTo (setR x 0 (x.1 2)) 8) (x.1 2, bkE (x.1 2) m.2) ∧ (bkTo (setR x 0 (x.1 2)) 8).1 2 = x.1 2 ∧ (bkTo (setR x 0 (x.1 2)) 8).2.2.2 = x.2.2.2 := by
  obtain ⟨g1, gI, g3, g4, g5, g6, g7, g8, g9⟩ := h
  obtain ⟨b1, b2, b3, b4⟩ := bkTo_at (y := setR x 0 (x.1 2)) 8
  have y0 : (setR x 0 (x.1 2)).1 0 = x.1 2 := by show (if (0 : Nat) = 0 then x.1 2 else x.1 0) = x.1 2; exact if_pos rfl
  have B := bkS_at (u := x.1 2) (A := m.2.2.1) 8 (by decide)
  have Bi : ∀ i, i ≠ 0 → bkS (x.1 2) m.2.2.1 8 i = m.2.2.1 i := fun i hi => funext fun j => by rw [B, if_neg (fun q => hi q.1)]
  obtain ⟨u0, eu⟩ := hu.nq
  rw [bkE]
  generalize bkTo (setR x 0 (x.1 2)) 8 = X at b1 b2 b3 b4 ⊢
  generalize bkS (x.1 2) m.2.2.1 8 = BS at B Bi ⊢
  refine ⟨⟨by rw [b1, y0], hu, fun s hs => ?_, fun s hs => ?_, fun s hs => ?_, ?_, ?_, g8, fun k hk => ?_⟩, ?_, by rw [b3]; rfl⟩
  · show Sh1 BS m.2.2.2.1 (x.1 2) s _
    have sh0 : (setR x 0 (x.1 2)).2.2.1 s = x.2.2.1 s := rfl
    unfold Sh1
    rw [Bi 1 (by decide), Bi 2 (by decide), Bi 3 (by decide), B 0 s]
    rcases sh_row (g3 s hs) with ⟨a, b, c, d, e⟩ | ⟨a, b, c, d, e, f, g⟩ | ⟨a, b, c, d, e, ⟨n, hn0, hn, en⟩, g⟩
    · rw [(b4 s).2 (fun q => q.2.1 c), sh0, if_neg (fun q => absurd (a.symm.trans q.2.2.1) (by decide))]
      exact Or.inl ⟨a, e⟩
    · rw [(b4 s).2 (fun q => q.2.1 c), sh0, if_neg (fun q => absurd (a.symm.trans q.2.2.1) (by decide))]
      exact Or.inr (Or.inl ⟨a, d, e, f, g⟩)
    · have e1 : (x.2.2.1 s).2.1 - 10 = m.2.2.1 3 s := by rw [e, Int32.add_comm, Int32.add_sub_cancel]
      have hiff : isPlF (x.1 2) (m.2.2.1 3 s) = 0 ↔ ¬ m.2.2.1 3 s < (x.1 2).1 0 := by
        rw [en, eu]
        unfold isPlF isInF
        rw [eu, if_neg (nI_pos (by omega))]
        by_cases z : n < np (x.1 2)
        · rw [show nI (np (x.1 2)) - 1 = nI (np (x.1 2) - 1) from pk_sub (b := 1) (by omega), if_neg (nI_nlt (by omega) (by omega))]
          exact ⟨fun q => absurd q (by decide), fun q => absurd (nI_lt z (by omega)) q⟩
        · refine ⟨fun _ => nI_nlt (by omega) (by omega), fun _ => ?_⟩
          rcases Nat.eq_zero_or_pos (np (x.1 2)) with w | w
          · rw [w, if_pos (Int32.lt_of_lt_of_le (by decide : (nI 0 - 1 : Int32) < 0) (nI_pos' (n := n) (by omega)))]
          · rw [show nI (np (x.1 2)) - 1 = nI (np (x.1 2) - 1) from pk_sub (b := 1) w, if_pos (nI_lt (by omega) (by omega))]
      by_cases z : isPlF (x.1 2) (m.2.2.1 3 s) = 0
      · rw [(b4 s).1 hs ⟨c, by rw [y0, sh0, e1]; exact z⟩, if_pos ⟨rfl, hs, a, hiff.mp z⟩]
        exact Or.inl ⟨rfl, rfl⟩
      · rw [(b4 s).2 (fun q => z (by have := q.2.2; rw [y0, sh0, e1] at this; exact this)), sh0, if_neg (fun q => z (hiff.mpr q.2.2.2))]
        exact Or.inr (Or.inr ⟨a, e, ⟨n, hn0, hn, en⟩, z⟩)
  · by_cases z : s < 8 ∧ clr (setR x 0 (x.1 2)) s
    · rw [(b4 s).1 z.1 z.2]; exact g4 s hs
    · rw [(b4 s).2 z]; exact g4 s hs
  · show nb (BS 2 s) 0 40
    rw [Bi 2 (by decide)]; exact g5 s hs
  · rw [b2]
    show x.2.1.1 = BS 4
    rw [Bi 4 (by decide)]; exact g6
  · rw [b2]; exact g7
  · rw [b3]
    show x.2.2.2.1 k = BS 5 (k + 2)
    rw [Bi 5 (by decide)]; exact g9 k hk
  · rw [b1]
    show (if (2 : Nat) = 0 then x.1 2 else x.1 2) = x.1 2
    rw [if_neg (by decide)]
