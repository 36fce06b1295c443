variable {G : Nat → Prop}
theorem fm_mono {v : CV} {k : Nat} (hk : k < 2 ^ 31) (h : ¬ fmTo v k = -1) : ¬ fmTo v (k + 1) = -1 := by
  rw [fmTo]
  split
  · exact h
  · split
    · exact h
    · exact nI_nm1 hk
theorem fm_hit {v : CV} {k : Nat} (hk : k < 2 ^ 31) (h : ¬ v.2 4 k = 0) : ¬ fmTo v (k + 1) = -1 := by
  rw [fmTo, nI_clamp hk, if_neg h]
  split
  · exact nI_nm1 hk
  · split
    · assumption
    · exact nI_nm1 hk
theorem fm_ne {v : CV} (h : ¬ nlF v = 1) : ¬ fmF v = -1 := by
  obtain ⟨i, hi, hz⟩ := nl_ex h
  unfold fmF
  rcases (show i = 0 ∨ i = 1 ∨ i = 2 ∨ i = 3 by omega) with rfl | rfl | rfl | rfl
  · exact fm_mono (k := 3) (by decide) (fm_mono (k := 2) (by decide) (fm_mono (k := 1) (by decide) (fm_hit (k := 0) (by decide) hz)))
  · exact fm_mono (k := 3) (by decide) (fm_mono (k := 2) (by decide) (fm_hit (k := 1) (by decide) hz))
  · exact fm_mono (k := 3) (by decide) (fm_hit (k := 2) (by decide) hz)
  · exact fm_hit (k := 3) (by decide) hz
theorem nl_eq {v u : CV} (e : v.2 4 = u.2 4) : nlF v = nlF u := by unfold nlF; rw [e]
theorem nl_0 {v : CV} (h : nlF v = 0) : ¬ nlF v = 1 := by rw [h]; decide
