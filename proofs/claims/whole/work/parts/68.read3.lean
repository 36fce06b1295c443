/-! all statements -/
theorem nu_6 {f : Nat → Int32} {S : Nat} {r : Rd} {v : CV} {E : M2} {i lo hi : Int32} : (nuM f S r v E i lo hi).2.2.2.1 6 = E.1 6 := by
  unfold nuM
  split
  · split <;> rfl
  · rfl
theorem as_6 {f : Nat → Int32} {S : Nat} {r : Rd} {v : CV} {E : M2} {x : Int32} : (asM f S r v E x).2.2.2.1 6 = E.1 6 := by
  unfold asM as1
  split
  · split <;> rfl
  · rfl
theorem on_6 {f : Nat → Int32} {S : Nat} {r : Rd} {v : CV} {E : M2} : (on1 f S r v E).2.2.2.1 6 = E.1 6 := by
  unfold on1
  split
  · split
    · rfl
    · split <;> rfl
  · rfl
theorem li_6 {f : Nat → Int32} {S : Nat} {r : Rd} {v : CV} {E : M2} : (liM f S r v E).2.2.2.1 6 = E.1 6 := by
  unfold liM
  have h : (teM f S r v E 0 3).2.2.2.1 6 = E.1 6 := nu_6
  generalize teM f S r v E 0 3 = q at h
  unfold li1
  split
  · exact h
  · unfold li2
    split <;> exact h
theorem sk_6 {f : Nat → Int32} {S : Nat} {r : Rd} {v : CV} {E : M2} : (sk1 (teM f S r v E 1 99)).2.2.2.1 6 = E.1 6 := by
  have h : (teM f S r v E 1 99).2.2.2.1 6 = E.1 6 := nu_6
  generalize teM f S r v E 1 99 = q at h
  unfold sk1
  split <;> exact h
theorem pl_6 {f : Nat → Int32} {S : Nat} {r : Rd} {v : CV} {E : M2} : (pl1 f S (teM f S r v E 0 5)).2.2.2.1 6 = E.1 6 := by
  have h : (teM f S r v E 0 5).2.2.2.1 6 = E.1 6 := nu_6
  generalize teM f S r v E 0 5 = q at h
  unfold pl1
  split
  · exact h
  · have h2 : (nuM f S q.2.1 q.2.2.1 q.2.2.2 1 1 99).2.2.2.1 6 = E.1 6 := nu_6.trans h
    generalize nuM f S q.2.1 q.2.2.1 q.2.2.2 1 1 99 = q2 at h2
    unfold pl2
    split
    · exact h2
    · have h3 : (nuM f S q2.2.1 q2.2.2.1 q2.2.2.2 2 0 9).2.2.2.1 6 = E.1 6 := nu_6.trans h2
      generalize nuM f S q2.2.1 q2.2.2.1 q2.2.2.2 2 0 9 = q3 at h3
      unfold pl3
      split <;> exact h3
theorem sA_6 {f : Nat → Int32} {S : Nat} {r : Rd} {v : CV} {E : M2} : (sAa f S r v E).2.2.2.1 6 = E.1 6 := by
  unfold sAa
  split
  · unfold sBb
    split
    · unfold sCc
      split
      · unfold sDd
        split
        · unfold sEe
          split
          · unfold sFf
            split
            · rfl
            · exact sk_6
          · exact as_6
        · exact as_6
      · exact as_6
    · exact on_6
  · exact li_6
theorem st_6 {f : Nat → Int32} {S : Nat} {r : Rd} {v : CV} {E : M2} : (stM f S r v E).2.2.2.1 6 = E.1 6 := by
  unfold stM
  split
  · exact sA_6
  · split
    · exact sA_6
    · exact pl_6
theorem sl_2 : ∀ j, j < 7 → 2 ≤ sLen j := by decide
theorem rst_w {f : Nat → Int32} {S : Nat} {s : T3} {v : CV} (h : (rSt f S s v).1 = 1) : ∃ j, j < 7 ∧ ¬ isWF f s j = 0 := by
  refine Classical.byContradiction fun q => ?_
  have z : ∀ j, j < 7 → isWF f s j = 0 := fun j hj => Classical.byContradiction fun y => q ⟨j, hj, y⟩
  rw [rSt, if_pos (z 0 (by decide)), if_pos (z 1 (by decide)), rOne, wd1F, if_pos (z 2 (by decide)), if_pos (z 3 (by decide)), if_pos (z 4 (by decide)), if_pos (z 5 (by decide)), if_pos (z 6 (by decide)), if_pos rfl] at h
  exact absurd h (show ¬ (0 : Int32) = 1 by decide)
theorem step_at {f : Nat → Int32} {S e : Nat} : e ≤ (stepF f S e).1 := by
  unfold stepF st2
  have h1 := skF_le (f := f) (S - e) e
  split
  · exact h1.1
  · exact h1.1
theorem rst_2 {f : Nat → Int32} {S e : Nat} (hS : S ≤ 250) (he : e ≤ S) {v : CV} (h : (rSt f S (stepF f S e) v).1 = 1) : e + 2 ≤ (stepF f S e).2.1 := by
  obtain ⟨j, hj, hw⟩ := rst_w h
  obtain ⟨_, d, _⟩ := isw_len hw
  have l := wd_len hS (step_ok he) hj d
  have a := step_at (f := f) (S := S) (e := e)
  have b := sl_2 j hj
  omega
def Fr (a : Rf) (b : RM) : Prop := (a.1 = -1 ∧ b.1 = 0 ∧ b.2.2.2.1 5 = a.2.1.2 1) ∨ (¬ a.1 = -1 ∧ b.1 = 1 ∧ b.2.2.2.1 6 = a.1 ∧ b.2.2.1 = a.2.2 ∧ Iv a.2.2)
/-- what follows a statement in the model -/
def aft (f : Nat → Int32) (S nn : Nat) (q : RM) (E' : M2) : RM := if q.1 = 0 then (0, q.2) else raM f S nn q.2.1 q.2.2.1 E'
theorem ont_eq {t : TV} {S : Nat} (hS : S ≤ 250) : ∀ (n k : Nat) (z : Int32 × Nat × Int32) (v : CV) (E E' : M2), n + k = 250 → 2 * k ≤ z.2.1 → z.2.1 ≤ S → Iv v → E'.1 6 = nI (k + 1) → Fr (rOnt t S n k z v) (aft t.1 S (n + 1) (stM t.1 S (lk t.1 S z.2.1) v E) E')
  | 0, k, z, v, E, E', h1, h2, h3, _, _ => absurd h3 (by omega)
  | n + 1, k, z, v, E, E', h1, h2, h3, hv, h6 => by
    have hs := st_eq (f := t.1) hS (step_ok (f := t.1) h3) hv (E := E)
    have hq := ok_st (f := t.1) (v := v) (E := E) (lk_ok (f := t.1) h3) hv.ok
    have hr2 := fun y => rst_2 (f := t.1) hS h3 (v := v) y
    rw [← lk_of] at hs
    rw [rOnt]
    generalize rSt t.1 S (stepF t.1 S z.2.1) v = A at hs hr2
    have hat : (lk t.1 S z.2.1).1.2.1 = (stepF t.1 S z.2.1).2.1 := rfl
    generalize stM t.1 S (lk t.1 S z.2.1) v E = q at hs hq
    unfold aft
    rcases hs with ⟨a1, a2, a3⟩ | ⟨a1, a2, a3, a4, a5, a6⟩ | ⟨a1, a2, a3, a4⟩
    · rw [if_pos a1, if_pos a2]; exact Or.inl ⟨rfl, rfl, a3⟩
    · rw [if_neg (show ¬ A.1 = 0 by rw [a1]; decide), if_neg (show ¬ q.1 = 0 by rw [a2]; decide), a3, a4, raM]
      have hge : (stepF t.1 S z.2.1).2.1 ≤ A.2.1.2.1 := by
        have := hq.1.2.2
        rw [a3, hat] at this
        exact this
      have h22 := hr2 a1
      by_cases d0 : A.2.1.2.2 = 0
      · rw [if_pos d0, if_pos (show (rOf t.1 S A.2.1).1.2.2 = 0 from d0)]
        exact Or.inr ⟨nI_nm1 (by omega), rfl, h6, rfl, a5⟩
      · rw [if_neg d0, if_neg (show ¬ (rOf t.1 S A.2.1).1.2.2 = 0 from d0)]
        by_cases d3 : A.2.1.2.2 = 3
        · rw [if_pos d3, if_pos (show (rOf t.1 S A.2.1).1.2.2 = 3 from d3)]
          have ih := ont_eq (t := t) hS n (k + 1) (nI A.2.1.1, A.2.1.2.1, A.2.1.2.2) A.2.2 E' (sc (stM t.1 S (lk t.1 S A.2.1.2.1) A.2.2 E').2.2.2) (by omega) (by show 2 * (k + 1) ≤ A.2.1.2.1; omega) a6.1.2 a5 (by show (stM t.1 S (lk t.1 S A.2.1.2.1) A.2.2 E').2.2.2.1 6 + 1 = _; rw [st_6, h6, nI_1])
          exact ih
        · rw [if_neg d3, if_neg (show ¬ (rOf t.1 S A.2.1).1.2.2 = 3 from d3)]
          exact Or.inl ⟨rfl, rfl, rfl⟩
    · rw [if_neg (show ¬ A.1 = 0 by rw [a1]; decide), if_neg (show ¬ A.2.1.2.2 = 0 by rw [a2]; decide), if_neg (show ¬ A.2.1.2.2 = 3 by rw [a2]; decide), if_pos a3]
      exact Or.inl ⟨rfl, rfl, a4⟩
theorem rd_eq {t : TV} {S : Nat} (hS : S ≤ 250) {v : CV} (h : Iv v) {E : M2} {z1 z3 : Int32} : Fr (rOnt t S 250 0 (z1, 0, z3) v) (rdM t.1 S v E) := by
  have := ont_eq (t := t) hS 250 0 (z1, 0, z3) v (s1 E) (stM t.1 S (lk t.1 S 0) v (s1 E)).2.2.2 rfl (Nat.le_refl _) (Nat.zero_le _) h (by rw [st_6]; rfl)
  exact this
