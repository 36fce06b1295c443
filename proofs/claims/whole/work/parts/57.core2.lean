/-! n seconds at once and one by one -/
theorem mx_sub {y k : Nat} (hy : y < 2 ^ 30) (hk : k < 2 ^ 30) : maxF 0 (nI y - nI k) = nI (y - k) := by
  rw [max0]
  by_cases h : k ≤ y
  · rw [pk_sub h]
    by_cases e : y - k = 0
    · rw [e]; exact if_pos (by decide)
    · exact if_neg (nI_nle (by omega) (by omega))
  · have h1 := pk_sneg hk (a := y) (by omega)
    rw [if_pos (Int32.le_of_lt h1), show y - k = 0 by omega]; rfl
theorem mn_100 {y : Nat} (hy : y < 2 ^ 31) : minF 100 (nI y) = nI (min 100 y) := by
  rw [min100]
  by_cases h : 100 ≤ y
  · rw [if_pos (show (100 : Int32) ≤ nI y from nI_le (a := 100) h hy), Nat.min_eq_left h]; rfl
  · rw [if_neg (show ¬ (100 : Int32) ≤ nI y from nI_ge (b := 100) (by omega) (by omega)), Nat.min_eq_right (by omega)]
def rT (k : Int32) : Nat := if k = 1 then 3 else if k = 3 then 3 else 2
def rR (k : Int32) : Nat := if k = 3 then 2 else 1
theorem tires_n (k : Int32) : tiresF k = nI (rT k) ∧ rT k ≤ 3 := by
  unfold tiresF rT
  split
  · exact ⟨rfl, by decide⟩
  · split <;> exact ⟨rfl, by decide⟩
theorem rests_n (k : Int32) : restsF k = nI (rR k) ∧ rR k ≤ 2 := by
  unfold restsF rR
  split <;> exact ⟨rfl, by decide⟩
def tN (v : CV) (k j t : Nat) : Nat := if bitF (v.1 1) (nI j) = 1 then min 100 (t + k * rT (v.2 0 j)) else t - k * rR (v.2 0 j)
theorem tN_le {v : CV} {k j t : Nat} (h : t ≤ 100) : tN v k j t ≤ 100 := by
  unfold tN
  split
  · exact Nat.min_le_left _ _
  · exact Nat.le_trans (Nat.sub_le _ _) h
theorem ti_n {v : CV} {k j t : Nat} (hk : k ≤ 1000) (ht : t ≤ 100) (e : v.2 3 j = nI t) : ti (nI k) v j = nI (tN v k j t) := by
  unfold ti tN
  obtain ⟨e1, h1⟩ := tires_n (v.2 0 j)
  obtain ⟨e2, h2⟩ := rests_n (v.2 0 j)
  have a1 : k * rT (v.2 0 j) ≤ 1000 * 3 := Nat.mul_le_mul hk h1
  have a2 : k * rR (v.2 0 j) ≤ 1000 * 2 := Nat.mul_le_mul hk h2
  rw [e, e1, e2, pk_mul, pk_mul, nI_add, mn_100 (by omega), mx_sub (by omega) (by omega)]
  split <;> rfl
theorem tN_s {v u : CV} {k j t : Nat} (ht : t ≤ 100) (h1 : u.1 1 = v.1 1) (h2 : u.2 0 = v.2 0) : tN u 1 j (tN v k j t) = tN v (k + 1) j t := by
  unfold tN
  rw [h1, h2]
  split
  · rw [Nat.add_mul k 1, Nat.one_mul]; omega
  · rw [Nat.add_mul k 1, Nat.one_mul]; omega
theorem come_at {v : CV} {y k : Nat} (hy : y ≤ 1000) (hk : k ≤ 1000) (e : v.1 3 = nI y) (i : Nat) : (comeV (nI k) v).1 i = if i = 3 then nI (y - k) else if i = 2 then (if y ≤ k then 0 else v.1 2) else v.1 i := by
  unfold comeV
  rw [e, mx_sub (by omega) (by omega)]
  by_cases c : y ≤ k
  · rw [show y - k = 0 by omega, if_pos nI_0, if_pos c]
    show upd (upd v.1 3 (nI 0)) 2 0 i = _
    unfold upd
    by_cases i3 : i = 3
    · subst i3; rfl
    · by_cases i2 : i = 2
      · subst i2; rfl
      · simp [i2, i3]
  · rw [if_neg (nI_ne0 (by omega) (by omega)), if_neg c]
    show upd v.1 3 (nI (y - k)) i = _
    unfold upd
    by_cases i3 : i = 3
    · rw [if_pos i3, if_pos i3]
    · rw [if_neg i3, if_neg i3]
      by_cases i2 : i = 2
      · rw [if_pos i2, i2]
      · rw [if_neg i2]
theorem come_22 {n : Int32} {v : CV} : (comeV n v).2 = v.2 := by
  unfold comeV
  split <;> rfl
theorem come_1 {v : CV} (h : nb (v.1 3) 0 5) (h2 : v.1 3 = 0 ↔ v.1 2 = 0) : comeV 1 v = cmV v := by
  obtain ⟨y, _, hy, e⟩ := h
  refine Prod.ext (funext fun i => ?_) ?_
  · rw [show (1 : Int32) = nI 1 from rfl, come_at (by omega) (by omega) e]
    unfold cmV
    by_cases c : v.1 2 = 0
    · have e3 := h2.mpr c
      have y0 : y = 0 := (nI_eq (by omega) (by omega)).mp (by rw [← e, e3]; rfl)
      subst y0
      rw [if_pos c, if_pos (show 0 ≤ 1 by omega)]
      by_cases i3 : i = 3
      · rw [if_pos i3, i3, e3]; rfl
      · rw [if_neg i3]
        by_cases i2 : i = 2
        · rw [if_pos i2, i2, c]
        · rw [if_neg i2]
    · have y0 : 0 < y := Nat.pos_of_ne_zero fun q => c (h2.mp (by rw [e, q]; rfl))
      rw [if_neg c, e, show nI y - 1 = nI (y - 1) from pk_sub (b := 1) y0]
      by_cases c2 : y ≤ 1
      · rw [if_pos c2, if_pos (show nI (y - 1) = 0 by rw [show y - 1 = 0 by omega]; rfl)]
        show _ = upd (upd v.1 3 (nI (y - 1))) 2 0 i
        unfold upd
        by_cases i3 : i = 3
        · subst i3; rfl
        · by_cases i2 : i = 2
          · subst i2; rfl
          · simp [i2, i3]
      · rw [if_neg c2, if_neg (show ¬ nI (y - 1) = 0 from nI_ne0 (by omega) (by omega))]
        show _ = upd (upd v.1 3 (nI (y - 1))) 2 (v.1 2) i
        unfold upd
        by_cases i3 : i = 3
        · subst i3; rfl
        · by_cases i2 : i = 2
          · subst i2; rfl
          · simp [i2, i3]
  · rw [come_22, cm_2]
/-- Iv, taken apart -/
theorem Iv.at {v : CV} (h : Iv v) : nb (v.1 1) 0 (2 ^ np v - 1) ∧ nb (v.1 2) 0 (2 ^ np v - 1) ∧ (nb (v.1 3) 0 5 ∧ (v.1 3 = 0 ↔ v.1 2 = 0)) ∧ nb (v.1 4) 0 2 ∧ nb (v.1 5) 0 1 ∧ nb (v.1 6) 1 999 ∧ nb (v.1 7) 0 1 ∧ (∀ l, l < 4 → nb (v.2 4 l) 0 (2 ^ np v - 1)) ∧ (∀ p, p < np v → nb (v.2 0 p) 0 5 ∧ nb (v.2 1 p) 1 99 ∧ nb (v.2 2 p) 0 9 ∧ nb (v.2 3 p) 0 100) ∧ (∀ p, p < 10 → bitF (v.1 2) (nI p) = 1 → bitF (v.1 1) (nI p) = 1) := by
  obtain ⟨P, hP, e, h⟩ := h
  rw [np_of e hP]; exact h
theorem Iv.mk {v : CV} (h0 : np v ≤ 10) (h1 : v.1 0 = nI (np v)) (h : nb (v.1 1) 0 (2 ^ np v - 1) ∧ nb (v.1 2) 0 (2 ^ np v - 1) ∧ (nb (v.1 3) 0 5 ∧ (v.1 3 = 0 ↔ v.1 2 = 0)) ∧ nb (v.1 4) 0 2 ∧ nb (v.1 5) 0 1 ∧ nb (v.1 6) 1 999 ∧ nb (v.1 7) 0 1 ∧ (∀ l, l < 4 → nb (v.2 4 l) 0 (2 ^ np v - 1)) ∧ (∀ p, p < np v → nb (v.2 0 p) 0 5 ∧ nb (v.2 1 p) 1 99 ∧ nb (v.2 2 p) 0 9 ∧ nb (v.2 3 p) 0 100) ∧ (∀ p, p < 10 → bitF (v.1 2) (nI p) = 1 → bitF (v.1 1) (nI p) = 1)) : Iv v := ⟨np v, h0, h1, h⟩
theorem pass_1 {v : CV} {y k : Nat} (hy : y ≤ 1000) (hk : k ≤ 1000) (e : v.1 3 = nI y) (i : Nat) : (passV (nI k) v).1 i = if i = 3 then nI (y - k) else if i = 2 then (if y ≤ k then 0 else v.1 2) else v.1 i := by
  rw [passV, come_at hy hk (by rw [tr_1]; exact e), tr_1]
theorem pass_i {n : Int32} {v : CV} {i : Nat} (hi : i ≠ 3) : (passV n v).2 i = v.2 i := by rw [passV, come_22, tr_i hi]
theorem pass_3 {n : Int32} {v : CV} (h : np v ≤ 10) (j : Nat) : (passV n v).2 3 j = if j < np v then ti n v j else v.2 3 j := by rw [passV, come_22, tr_3 h]
theorem nb00 {b : Nat} : nb 0 0 b := ⟨0, Nat.le_refl _, Nat.zero_le _, rfl⟩
theorem Iv.pass {v : CV} (h : Iv v) {k : Nat} (hk : k ≤ 1000) : Iv (passV (nI k) v) := by
  obtain ⟨h0, h00⟩ := h.nq
  obtain ⟨h1, h2, ⟨h3, h3'⟩, h4, h5, h6, h7, h8, h9, h10⟩ := h.at
  obtain ⟨y, _, hy, e⟩ := h3
  have E := pass_1 (k := k) (show y ≤ 1000 by omega) hk e
  have en : CV → Nat := fun _ => 0
  have e0 : (passV (nI k) v).1 0 = v.1 0 := by rw [E]; rfl
  have e1 : (passV (nI k) v).1 1 = v.1 1 := by rw [E]; rfl
  have e2 : (passV (nI k) v).1 2 = if y ≤ k then 0 else v.1 2 := by rw [E]; rfl
  have e3 : (passV (nI k) v).1 3 = nI (y - k) := by rw [E]; rfl
  have e4 : (passV (nI k) v).1 4 = v.1 4 := by rw [E]; rfl
  have e5 : (passV (nI k) v).1 5 = v.1 5 := by rw [E]; rfl
  have e6 : (passV (nI k) v).1 6 = v.1 6 := by rw [E]; rfl
  have e7 : (passV (nI k) v).1 7 = v.1 7 := by rw [E]; rfl
  have enp : np (passV (nI k) v) = np v := by rw [np, np, e0]
  refine Iv.mk (by rw [enp]; exact h0) (by rw [enp, e0]; exact h00) ?_
  rw [enp, e1, e2, e3, e4, e5, e6, e7]
  refine ⟨h1, ?_, ⟨⟨y - k, by omega, by omega, rfl⟩, ?_⟩, h4, h5, h6, h7, fun l hl => ?_, fun p hp => ?_, fun p hp => ?_⟩
  · split
    · exact nb00
    · exact h2
  · by_cases c : y ≤ k
    · rw [if_pos c, show y - k = 0 by omega]; exact ⟨fun _ => rfl, fun _ => rfl⟩
    · rw [if_neg c]
      refine ⟨fun q => absurd q (nI_ne0 (by omega) (by omega)), fun q => ?_⟩
      have := h3'.mpr q
      rw [e] at this
      exact absurd this (nI_ne0 (by omega) (by omega))
  · rw [pass_i (by decide)]; exact h8 l hl
  · rw [pass_i (i := 0) (by decide), pass_i (i := 1) (by decide), pass_i (i := 2) (by decide), pass_3 h0, if_pos hp]
    obtain ⟨a1, a2, a3, t, _, ht, et⟩ := h9 p hp
    exact ⟨a1, a2, a3, tN v k p t, Nat.zero_le _, tN_le ht, ti_n hk ht et⟩
  · by_cases c : y ≤ k
    · rw [if_pos c, bit_0]; intro q; exact absurd q (by decide)
    · rw [if_neg c]; exact h10 p hp
theorem pass_0 {v : CV} (h : Iv v) : passV (nI 0) v = v := by
  obtain ⟨h0, h00⟩ := h.nq
  obtain ⟨h1, h2, ⟨h3, h3'⟩, h4, h5, h6, h7, h8, h9, h10⟩ := h.at
  obtain ⟨y, _, hy, e⟩ := h3
  refine cv_ext (fun i => ?_) (fun i hi => pass_i hi) (fun j => ?_)
  · rw [pass_1 (by omega) (by omega) e]
    by_cases i3 : i = 3
    · rw [if_pos i3, i3, e]; rfl
    · rw [if_neg i3]
      by_cases i2 : i = 2
      · rw [if_pos i2, i2]
        by_cases c : y ≤ 0
        · rw [if_pos c, h3'.mp (by rw [e, show y = 0 by omega]; rfl)]
        · rw [if_neg c]
      · rw [if_neg i2]
  · rw [pass_3 h0]
    by_cases c : j < np v
    · rw [if_pos c]
      obtain ⟨_, _, _, t, _, ht, et⟩ := h9 j c
      rw [ti_n (by omega) ht et, et]
      unfold tN
      rw [Nat.zero_mul, Nat.zero_mul, Nat.add_zero, Nat.sub_zero, Nat.min_eq_right ht]
      split <;> rfl
    · rw [if_neg c]
theorem pass_s {v : CV} (h : Iv v) {k : Nat} (hk : k < 1000) : cmV (tmV (passV (nI k) v)) = passV (nI (k + 1)) v := by
  have hu := h.pass (show k ≤ 1000 by omega)
  obtain ⟨h0, h00⟩ := h.nq
  obtain ⟨g0, g00⟩ := hu.nq
  obtain ⟨_, _, ⟨h3, h3'⟩, _, _, _, _, _, h9, _⟩ := h.at
  obtain ⟨y, _, hy, e⟩ := h3
  obtain ⟨_, _, ⟨g3, g3'⟩, _⟩ := hu.at
  have E := pass_1 (k := k) (show y ≤ 1000 by omega) (by omega) e
  have enp : np (passV (nI k) v) = np v := by rw [np, np, E]; rfl
  have em1 : (tmV (passV (nI k) v)).1 = (passV (nI k) v).1 := by rw [tmV, tmTo_1]
  rw [← come_1 (v := tmV (passV (nI k) v)) (by rw [em1]; exact g3) (by rw [em1]; exact g3'), show (1 : Int32) = nI 1 from rfl]
  refine cv_ext (fun i => ?_) (fun i hi => ?_) (fun j => ?_)
  · rw [come_at (y := y - k) (by omega) (by omega) (by rw [em1, E]; rfl), em1, E, E, pass_1 (k := k + 1) (by omega) (by omega) e]
    rw [if_neg (by decide : ¬ 2 = 3), if_pos (rfl : 2 = 2)]
    by_cases i3 : i = 3
    · rw [if_pos i3, if_pos i3, Nat.sub_sub]
    · rw [if_neg i3, if_neg i3, if_neg i3]
      by_cases i2 : i = 2
      · rw [if_pos i2, if_pos i2]
        by_cases c1 : y ≤ k
        · rw [if_pos c1, if_pos (by omega), if_pos (by omega)]
        · rw [if_neg c1]
          by_cases c2 : y - k ≤ 1
          · rw [if_pos c2, if_pos (by omega)]
          · rw [if_neg c2, if_neg (by omega)]
      · rw [if_neg i2, if_neg i2, if_neg i2]
  · rw [come_22, tmV, tmTo_i hi, pass_i hi, pass_i hi]
  · rw [come_22, tmV, tmTo_3 _ g0, pass_3 h0, enp, pass_3 h0]
    by_cases c : j < np v
    · rw [if_pos c, if_pos c, ← ti_1 (by omega), show (1 : Int32) = nI 1 from rfl]
      obtain ⟨_, _, _, t, _, ht, et⟩ := h9 j c
      rw [ti_n (t := tN v k j t) (by omega) (tN_le ht) (by rw [pass_3 h0, if_pos c]; exact ti_n (by omega) ht et), ti_n (by omega) ht et]
      exact congrArg nI (tN_s ht (by rw [E]; rfl) (pass_i (by decide)))
    · rw [if_neg c, if_neg c, if_neg c]
theorem go_pass {v : CV} (h : Iv v) : ∀ k, k ≤ 1000 → (goM v k).1 = passV (nI k) v
  | 0, _ => (pass_0 h).symm
  | k + 1, hk => by
    rw [goM]
    show cmV (tmV (goM v k).1) = _
    rw [go_pass h k (by omega)]
    exact pass_s h (by omega)
