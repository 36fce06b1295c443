def gnA (v : CV) : CV := setS (drawV v) 4 (drawF v 3)
def gnB (v : CV) : CV := chM (gnA v) (fmF (gnA v))
def gnTo (c : Nat) (v : CV) : Nat → CV
  | 0 => v
  | k + 1 => (skTo (gnB (gnTo c v k)) c).1
theorem gnA_ok {v : CV} (h : okP v) : okP (gnA v) := okP.set (v := drawV v) (okP.set h (by decide) _) (by decide) _
theorem gnA_l {v : CV} : (gnA v).2 4 = v.2 4 := rfl
theorem gnB_2 {v : CV} : (gnB v).2 = v.2 := rfl
theorem gnTo_ok {c : Nat} {v : CV} (h : okP v) : ∀ k, okP (gnTo c v k) := by
  intro k
  induction k with
  | zero => exact h
  | succ k ih => rw [gnTo]; exact skTo_ok (okP.chm (gnA_ok ih) _) c
theorem gnTo_l {c : Nat} {v : CV} : ∀ k, (gnTo c v k).2 4 = v.2 4 := by
  intro k
  induction k with
  | zero => rfl
  | succ k ih => rw [gnTo, skTo_l, gnB_2, ih]
theorem gnTo_s {c : Nat} {v : CV} {k : Nat} : gnTo c v (k + 1) = (skTo (gnB (gnTo c v k)) c).1 := by rw [gnTo]
theorem gn_f {c : Nat} {v : CV} {k : Nat} (h : ¬ nlF v = 1) : vp_in (fmF (gnA (gnTo c v k))) 4 := fm_in (k := 4) (Nat.le_refl _) (fm_ne fun q => h ((nl_eq (v := gnA (gnTo c v k)) (u := v) (gnA_l.trans (gnTo_l k))).symm.trans q))
