/-! words of one number -/
theorem bec0 {v : CV} {y : Int32} : becM v 0 y = (upd v.1 4 y, v.2) := by
  unfold becM
  refine Prod.ext (funext fun i => ?_) rfl
  show upd (upd (upd (upd v.1 4 (if (0 : Int32) = 0 then y else v.1 4)) 5 (if (0 : Int32) = 1 then y else v.1 5)) 6 (if (0 : Int32) = 2 then y else v.1 6)) 7 (if (0 : Int32) = 3 then y else v.1 7) i = _
  rw [if_pos rfl, if_neg (by decide), if_neg (by decide), if_neg (by decide)]
  unfold upd
  by_cases i7 : i = 7
  · subst i7; rfl
  · by_cases i6 : i = 6
    · subst i6; rfl
    · by_cases i5 : i = 5
      · subst i5; rfl
      · simp [i7, i6, i5]
theorem bec1 {v : CV} {y : Int32} : becM v 1 y = (upd v.1 5 y, v.2) := by
  unfold becM
  refine Prod.ext (funext fun i => ?_) rfl
  show upd (upd (upd (upd v.1 4 (if (1 : Int32) = 0 then y else v.1 4)) 5 (if (1 : Int32) = 1 then y else v.1 5)) 6 (if (1 : Int32) = 2 then y else v.1 6)) 7 (if (1 : Int32) = 3 then y else v.1 7) i = _
  rw [if_neg (by decide), if_pos rfl, if_neg (by decide), if_neg (by decide)]
  unfold upd
  by_cases i7 : i = 7
  · subst i7; rfl
  · by_cases i6 : i = 6
    · subst i6; rfl
    · by_cases i4 : i = 4
      · subst i4; rfl
      · simp [i7, i6, i4]
theorem bec2 {v : CV} {y : Int32} : becM v 2 y = (upd v.1 6 y, v.2) := by
  unfold becM
  refine Prod.ext (funext fun i => ?_) rfl
  show upd (upd (upd (upd v.1 4 (if (2 : Int32) = 0 then y else v.1 4)) 5 (if (2 : Int32) = 1 then y else v.1 5)) 6 (if (2 : Int32) = 2 then y else v.1 6)) 7 (if (2 : Int32) = 3 then y else v.1 7) i = _
  rw [if_neg (by decide), if_neg (by decide), if_pos rfl, if_neg (by decide)]
  unfold upd
  by_cases i7 : i = 7
  · subst i7; rfl
  · by_cases i5 : i = 5
    · subst i5; rfl
    · by_cases i4 : i = 4
      · subst i4; rfl
      · simp [i7, i5, i4]
theorem bec3 {v : CV} {y : Int32} : becM v 3 y = (upd v.1 7 y, v.2) := by
  unfold becM
  refine Prod.ext (funext fun i => ?_) rfl
  show upd (upd (upd (upd v.1 4 (if (3 : Int32) = 0 then y else v.1 4)) 5 (if (3 : Int32) = 1 then y else v.1 5)) 6 (if (3 : Int32) = 2 then y else v.1 6)) 7 (if (3 : Int32) = 3 then y else v.1 7) i = _
  rw [if_neg (by decide), if_neg (by decide), if_neg (by decide), if_pos rfl]
  unfold upd
  by_cases i6 : i = 6
  · subst i6; rfl
  · by_cases i5 : i = 5
    · subst i5; rfl
    · by_cases i4 : i = 4
      · subst i4; rfl
      · simp [i6, i5, i4]
theorem ask0 {y : Int32} : askM 0 y = isInF y 0 2 := by unfold askM; rw [if_pos rfl]
theorem ask1 {y : Int32} : askM 1 y = isInF y 0 1 := by unfold askM; rw [if_neg (by decide), if_pos rfl]
theorem ask2 {y : Int32} : askM 2 y = 0 ↔ isInF y 1 999 = 0 := by
  unfold askM
  rw [if_neg (by decide), if_neg (by decide), if_neg (by decide), if_pos rfl]
  split
  · rename_i q; exact ⟨fun _ => q, fun _ => rfl⟩
  · rename_i q; exact ⟨fun z => absurd z (by decide), fun z => absurd z q⟩
theorem ask3 {y : Int32} : askM 3 y = isInF y 0 1 := by unfold askM; rw [if_neg (by decide), if_neg (by decide), if_pos rfl]
/-- asks, for a word whose bounds are lo and hi -/
theorem as_eq {f : Nat → Int32} {S : Nat} (hS : S ≤ 250) {s : T3} (h : Tk f S s) {v : CV} {E : M2} {x lo hi : Int32} (h0 : 0 ≤ lo) (hh : hi < 10000) (ha : ∀ y, askM x y = 0 ↔ isInF y lo hi = 0) : (numF f s lo hi = -1 ∧ as1 f S (rOf f S s) v E x = no (rOf f S s) v E) ∨ (¬ numF f s lo hi = -1 ∧ ¬ isInF (numF f s lo hi) lo hi = 0 ∧ as1 f S (rOf f S s) v E x = (1, rOf f S (stepF f S s.2.1), becM v x (numF f s lo hi), E)) := by
  rcases num_iff hS h h0 hh with ⟨h1, h2⟩ | ⟨h1, h2, h3, h4⟩
  · left
    refine ⟨h1, ?_⟩
    unfold as1
    by_cases c : s.2.2 = 2
    · rw [if_pos (show (rOf f S s).1.2.2 = 2 from c)]
      by_cases d : isInF (fgV f S s) lo hi = 0
      · rw [if_pos ((ha (rOf f S s).2).mpr d)]
      · exact absurd ⟨c, d⟩ h2
    · rw [if_neg (show ¬ (rOf f S s).1.2.2 = 2 from c)]
  · right
    refine ⟨h4, by rw [h3]; exact h2, ?_⟩
    unfold as1
    rw [if_pos (show (rOf f S s).1.2.2 = 2 from h1), if_neg (fun q => h2 ((ha (rOf f S s).2).mp q)), h3]
    rfl
theorem on_eq {f : Nat → Int32} {S : Nat} (hS : S ≤ 250) {s : T3} (h : Tk f S s) {v : CV} {E : M2} : (numF f s 0 3 = -1 ∧ on1 f S (rOf f S s) v E = no (rOf f S s) v E) ∨ (¬ numF f s 0 3 = -1 ∧ ¬ isInF (numF f s 0 3) 0 3 = 0 ∧ on1 f S (rOf f S s) v E = if v.2 4 (numF f s 0 3).toNatClampNeg = 0 then no (rOf f S s) v E else (1, rOf f S (stepF f S s.2.1), putOnV v (v.2 4 (numF f s 0 3).toNatClampNeg), E)) := by
  rcases num_iff hS h (lo := 0) (hi := 3) (by decide) (by decide) with ⟨h1, h2⟩ | ⟨h1, h2, h3, h4⟩
  · left
    refine ⟨h1, ?_⟩
    unfold on1
    by_cases c : s.2.2 = 2
    · rw [if_pos (show (rOf f S s).1.2.2 = 2 from c)]
      by_cases d : isInF (fgV f S s) 0 3 = 0
      · rw [if_pos (show isInF (rOf f S s).2 0 3 = 0 from d)]
      · exact absurd ⟨c, d⟩ h2
    · rw [if_neg (show ¬ (rOf f S s).1.2.2 = 2 from c)]
  · right
    refine ⟨h4, by rw [h3]; exact h2, ?_⟩
    unfold on1
    rw [if_pos (show (rOf f S s).1.2.2 = 2 from h1), if_neg (show ¬ isInF (rOf f S s).2 0 3 = 0 from h2), h3]
    rfl
theorem rO_0 {f : Nat → Int32} {S : Nat} {s : T3} {v : CV} : rO2 f S 0 s v = if numF f s 0 3 = -1 then (0, s, v) else if hasPlF v (numF f s 0 3) = 0 then (0, s, v) else (1, stepF f S s.2.1, putOnV v (v.2 4 (numF f s 0 3).toNatClampNeg)) := by
  rw [rO2, show leastsV (0 : Int32).toNatClampNeg = 0 from rfl, show mostsV (0 : Int32).toNatClampNeg = 3 from rfl, rO3, if_pos (rfl : (0 : Int32) = 0)]
theorem rO_1 {f : Nat → Int32} {S : Nat} {s : T3} {v : CV} : rO2 f S 1 s v = if numF f s 0 2 = -1 then (0, s, v) else (1, stepF f S s.2.1, (upd v.1 4 (numF f s 0 2), v.2)) := by
  rw [rO2, show leastsV (1 : Int32).toNatClampNeg = 0 from rfl, show mostsV (1 : Int32).toNatClampNeg = 2 from rfl, rO3, if_neg (show ¬ (1 : Int32) = 0 by decide), if_pos (rfl : (1 : Int32) = 1)]
theorem rO_2 {f : Nat → Int32} {S : Nat} {s : T3} {v : CV} : rO2 f S 2 s v = if numF f s 0 1 = -1 then (0, s, v) else (1, stepF f S s.2.1, (upd v.1 5 (numF f s 0 1), v.2)) := by
  rw [rO2, show leastsV (2 : Int32).toNatClampNeg = 0 from rfl, show mostsV (2 : Int32).toNatClampNeg = 1 from rfl, rO3, if_neg (show ¬ (2 : Int32) = 0 by decide), if_neg (show ¬ (2 : Int32) = 1 by decide), if_pos (rfl : (2 : Int32) = 2)]
theorem rO_3 {f : Nat → Int32} {S : Nat} {s : T3} {v : CV} : rO2 f S 3 s v = if numF f s 1 999 = -1 then (0, s, v) else (1, stepF f S s.2.1, (upd v.1 6 (numF f s 1 999), v.2)) := by
  rw [rO2, show leastsV (3 : Int32).toNatClampNeg = 1 from rfl, show mostsV (3 : Int32).toNatClampNeg = 999 from rfl, rO3, if_neg (show ¬ (3 : Int32) = 0 by decide), if_neg (show ¬ (3 : Int32) = 1 by decide), if_neg (show ¬ (3 : Int32) = 2 by decide), if_pos (rfl : (3 : Int32) = 3)]
theorem rO_4 {f : Nat → Int32} {S : Nat} {s : T3} {v : CV} : rO2 f S 4 s v = if numF f s 1 99 = -1 then (0, s, v) else (1, stepF f S s.2.1, playTo v (numF f s 1 99).toNatClampNeg) := by
  rw [rO2, show leastsV (4 : Int32).toNatClampNeg = 1 from rfl, show mostsV (4 : Int32).toNatClampNeg = 99 from rfl, rO3, if_neg (show ¬ (4 : Int32) = 0 by decide), if_neg (show ¬ (4 : Int32) = 1 by decide), if_neg (show ¬ (4 : Int32) = 2 by decide), if_neg (show ¬ (4 : Int32) = 3 by decide)]
theorem sk_st {f : Nat → Int32} {S : Nat} (hS : S ≤ 250) {s1 : T3} (k1 : Tk f S s1) {v : CV} (h : Iv v) {E : M2} : Sr f S (rO2 f S 4 s1 v) (sk1 (nuM f S (rOf f S s1) v E 0 1 99)) := by
  rw [rO_4]
  rcases nu_eq hS k1 (v := v) (E := E) (i := 0) (lo := 1) (hi := 99) (by decide) (by decide) with ⟨a1, a2⟩ | ⟨_, a3, a1, a2⟩
  · rw [if_pos a1, a2, sk1, if_pos (show (no (rOf f S s1) v E).1 = 0 from rfl)]; exact Sr.no
  · obtain ⟨m, hm1, hm, em⟩ := nb_of (a := 1) (b := 99) rfl rfl (by decide) (by decide) a3
    rw [if_neg a1, a2, sk1, if_neg (show ¬ (1 : Int32) = 0 by decide)]
    dsimp only
    rw [em, show (tl E 0 (nI m)).2 6 0 = nI m from rfl, nI_clamp (by omega)]
    obtain ⟨e1, e2⟩ := playTo_eq h m
    rw [← e1]
    exact Or.inr (Or.inl ⟨rfl, rfl, rfl, rfl, e2, tk_step k1.1.2⟩)
theorem ok_1 {f : Nat → Int32} {S : Nat} {s : T3} (h : Tk f S s) {v : CV} (hv : Iv v) {E : M2} : Sr f S (1, stepF f S s.2.1, v) (1, rOf f S (stepF f S s.2.1), v, E) := Or.inr (Or.inl ⟨rfl, rfl, rfl, rfl, hv, tk_step h.1.2⟩)
theorem isw_len {f : Nat → Int32} {s : T3} {j : Nat} (h : ¬ isWF f s j = 0) : s.2.2 = 1 ∧ nI s.2.1 - nI s.1 = nI (sLen j) ∧ ¬ wdF f s.1 j 0 (sLen j) = 0 := by
  unfold isWF at h
  by_cases c : s.2.2 = 1
  · rw [if_pos c] at h
    by_cases d : nI s.2.1 - nI s.1 = nI (sLen j)
    · rw [if_pos d] at h; exact ⟨c, d, h⟩
    · rw [if_neg d] at h; exact absurd rfl h
  · rw [if_neg c] at h; exact absurd rfl h
theorem isw_o {f : Nat → Int32} {s : T3} (h : ¬ isWF f s 0 = 0) (j : Nat) (hj : ¬ nI (sLen 0) = nI (sLen j)) : isWF f s j = 0 := by
  obtain ⟨c, d, _⟩ := isw_len h
  unfold isWF
  rw [if_pos c, if_neg (fun q => hj (d.symm.trans q))]
theorem isw_5 {f : Nat → Int32} {s : T3} (h : ¬ isWF f s 0 = 0) : isWF f s 5 = 0 := by
  obtain ⟨c, d, e⟩ := isw_len h
  have l0 : sLen 0 = 5 + 1 := rfl
  have l5 : sLen 5 = 5 + 1 := rfl
  unfold isWF
  rw [if_pos c]
  split
  · rw [l0, wdF] at e
    rw [l5, wdF]
    by_cases q : f (nI s.1 + nI 0).toNatClampNeg = chF 0 (nI 0)
    · refine if_neg (fun z => ?_)
      exact absurd (q.symm.trans z) (by decide)
    · rw [if_neg q] at e; exact absurd rfl e
  · rfl
theorem st_eq {f : Nat → Int32} {S : Nat} (hS : S ≤ 250) {s : T3} (hs : I3 S s) {v : CV} (h : Iv v) {E : M2} : Sr f S (rSt f S s v) (stM f S (rOf f S s) v E) := by
  have k1 := tk_step (f := f) hs.2
  have e1 : lk f S (rOf f S s).1.2.1 = rOf f S (stepF f S s.2.1) := rfl
  have key : ∀ (c0 : ¬ s.2.2 = 1 ∨ isWF f s 0 = 0 ∨ 10 ≤ v.1 0), isWF f s 0 = 0 → Sr f S (if isWF f s 1 = 0 then rOne f S s v else rLn f S s v) (sAa f S (rOf f S s) v E) := by
    intro _ _
    unfold sAa
    by_cases c1 : isWF f s 1 = 0
    · rw [if_pos c1, if_pos (show isWF f (rOf f S s).1 1 = 0 from c1)]
      unfold rOne sBb wd1F
      by_cases c2 : isWF f s 2 = 0
      · rw [if_pos c2, if_pos (show isWF f (rOf f S s).1 2 = 0 from c2)]
        unfold sCc
        by_cases c3 : isWF f s 3 = 0
        · rw [if_pos c3, if_pos (show isWF f (rOf f S s).1 3 = 0 from c3)]
          unfold sDd
          by_cases c4 : isWF f s 4 = 0
          · rw [if_pos c4, if_pos (show isWF f (rOf f S s).1 4 = 0 from c4)]
            unfold sEe
            by_cases c5 : isWF f s 5 = 0
            · rw [if_pos c5, if_pos (show isWF f (rOf f S s).1 5 = 0 from c5)]
              unfold sFf
              by_cases c6 : isWF f s 6 = 0
              · rw [if_pos c6, if_pos (show isWF f (rOf f S s).1 6 = 0 from c6), if_pos rfl]; exact Sr.no
              · rw [if_neg c6, if_neg (show ¬ isWF f (rOf f S s).1 6 = 0 from c6), if_neg (by decide), teM, e1]
                exact sk_st hS k1 h
            · rw [if_neg c5, if_neg (show ¬ isWF f (rOf f S s).1 5 = 0 from c5), if_neg (by decide), asM, e1, rO_3]
              rcases as_eq hS k1 (v := v) (E := E) (x := 2) (lo := 1) (hi := 999) (by decide) (by decide) (fun y => ask2) with ⟨a1, a2⟩ | ⟨a1, a3, a2⟩
              · rw [if_pos a1, a2]; exact Sr.no
              · rw [if_neg a1, a2, bec2]; exact ok_1 k1 (h.s6 (nb_of (a := 1) (b := 999) rfl rfl (by decide) (by decide) a3))
          · rw [if_neg c4, if_neg (show ¬ isWF f (rOf f S s).1 4 = 0 from c4), if_neg (by decide), asM, e1, rO_2]
            rcases as_eq hS k1 (v := v) (E := E) (x := 1) (lo := 0) (hi := 1) (by decide) (by decide) (fun y => by rw [ask1]) with ⟨a1, a2⟩ | ⟨a1, a3, a2⟩
            · rw [if_pos a1, a2]; exact Sr.no
            · rw [if_neg a1, a2, bec1]; exact ok_1 k1 (h.s5 (nb_of (a := 0) (b := 1) rfl rfl (by decide) (by decide) a3))
        · rw [if_neg c3, if_neg (show ¬ isWF f (rOf f S s).1 3 = 0 from c3), if_neg (by decide), asM, e1, rO_1]
          rcases as_eq hS k1 (v := v) (E := E) (x := 0) (lo := 0) (hi := 2) (by decide) (by decide) (fun y => by rw [ask0]) with ⟨a1, a2⟩ | ⟨a1, a3, a2⟩
          · rw [if_pos a1, a2]; exact Sr.no
          · rw [if_neg a1, a2, bec0]; exact ok_1 k1 (h.s4 (nb_of (a := 0) (b := 2) rfl rfl (by decide) (by decide) a3))
      · rw [if_neg c2, if_neg (show ¬ isWF f (rOf f S s).1 2 = 0 from c2), if_neg (by decide), e1, rO_0]
        rcases on_eq hS k1 (v := v) (E := E) with ⟨a1, a2⟩ | ⟨a1, a3, a2⟩
        · rw [if_pos a1, a2]; exact Sr.no
        · rw [if_neg a1, a2]
          by_cases d : v.2 4 (numF f (stepF f S s.2.1) 0 3).toNatClampNeg = 0
          · rw [if_pos d, if_pos ((hp_in a3).mpr d)]; exact Sr.no
          · rw [if_neg d, if_neg (fun q => d ((hp_in a3).mp q))]; exact ok_1 k1 (h.onl (ln_in a3))
    · rw [if_neg c1, if_neg (show ¬ isWF f (rOf f S s).1 1 = 0 from c1)]
      exact ln_eq hS hs h
  unfold rSt stM
  by_cases c0 : isWF f s 0 = 0
  · rw [if_pos c0, if_pos (show isWF f (rOf f S s).1 0 = 0 from c0)]
    exact key (Or.inr (Or.inl c0)) c0
  · rw [if_neg c0, if_neg (show ¬ isWF f (rOf f S s).1 0 = 0 from c0)]
    by_cases c : 10 ≤ v.1 0
    · rw [if_pos c]
      have e2 : rPl f S s v = (0, s, v) := by rw [rPl, hasRoomF, if_pos c, if_pos rfl]
      rw [e2]
      rw [sAa, if_pos (show isWF f (rOf f S s).1 1 = 0 from isw_o c0 1 (by decide)), sBb, if_pos (show isWF f (rOf f S s).1 2 = 0 from isw_o c0 2 (by decide)), sCc, if_pos (show isWF f (rOf f S s).1 3 = 0 from isw_o c0 3 (by decide)), sDd, if_pos (show isWF f (rOf f S s).1 4 = 0 from isw_o c0 4 (by decide)), sEe, if_pos (show isWF f (rOf f S s).1 5 = 0 from isw_5 c0), sFf, if_pos (show isWF f (rOf f S s).1 6 = 0 from isw_o c0 6 (by decide))]
      exact Sr.no
    · rw [if_neg c]; exact pl_eq hS hs h c
