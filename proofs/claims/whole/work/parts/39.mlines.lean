variable {G : Nat → Prop}
/-! the lines stay as they are while seconds pass in truth -/
theorem tmTo_l {v : CV} : ∀ k, (tmTo v k).2 4 = v.2 4
  | 0 => rfl
  | k + 1 => tmTo_l k
theorem cm_2 {v : CV} : (cmV v).2 = v.2 := by
  unfold cmV
  split
  · rfl
  · split <;> rfl
theorem scU_2 {F A : Int32} {c : CV} : (scU F A c).2 = c.2 := by
  unfold scU scM
  split
  · rfl
  · split <;> rfl
theorem sm2_2 {u : CV} : (sm2 u).2 = u.2 := rfl
theorem tmV_l {v : CV} : (tmV v).2 4 = v.2 4 := tmTo_l _
theorem secM_l {v : CV} : (secM v).2 4 = v.2 4 := by
  rw [secM, scU_2, cm_2, sm2_2, tmV_l]
theorem skTo_s {v : CV} {k : Nat} : (skTo v (k + 1)).1 = secM (skTo v k).1 := by rw [skTo]
theorem skTo_l {v : CV} : ∀ k, (skTo v k).1.2 4 = v.2 4 := by
  intro k
  induction k with
  | zero => rfl
  | succ k ih => rw [skTo_s, secM_l, ih]
