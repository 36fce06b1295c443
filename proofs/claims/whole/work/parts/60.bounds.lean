/-! how great the numbers may be -/
theorem legs_n {v : CV} {k : Nat} (hk : k < 2 ^ 31) (h1 : nb (v.2 1 k) 1 99) (h3 : nb (v.2 3 k) 0 100) : nb (legsF v (nI k)) 0 99 := by
  obtain ⟨s, _, hs, es⟩ := h1
  obtain ⟨t, _, ht, et⟩ := h3
  unfold legsF
  rw [nI_clamp hk, es, et, show (100 : Int32) = nI 100 from rfl, pk_sub (by omega), pk_mul]
  have a1 : s * (100 - t) ≤ 99 * 100 := Nat.mul_le_mul hs (by omega)
  rw [pk_div (by omega) (by decide) (by decide)]
  refine ⟨_, Nat.zero_le _, ?_, rfl⟩
  exact Nat.le_trans (Nat.div_le_div_right a1) (by decide)
theorem pc_le : ∀ x, x < 1024 → pcN x ≤ 10 := by decide +kernel
theorem powM_n {v : CV} {k : Nat} (hk : k < 10) (hi : nb (v.1 1) 0 1023) (h1 : nb (v.2 1 k) 1 99) (h2 : nb (v.2 2 k) 0 9) (h3 : nb (v.2 3 k) 0 100) : nb (powM v (nI k)) 0 128 := by
  rw [← pow_eq hi hk]
  obtain ⟨q, _, hq, eq⟩ := legs_n (by omega) h1 h3
  obtain ⟨i, _, hi', ei⟩ := hi
  obtain ⟨a, _, ha, ea⟩ := h2
  have e1 : othersF v (nI k) = nI (pcN (i - i / 2 ^ k % 2 * 2 ^ k)) := by
    rw [othersF, ei, ← others_n (by omega) hk, (off_n k hk i (by omega)).1, bits_n (by omega)]
  have hp := pc_le (i - i / 2 ^ k % 2 * 2 ^ k) (by omega)
  unfold powF
  rw [nI_clamp (by omega), eq, ea, e1]
  generalize pcN (i - i / 2 ^ k % 2 * 2 ^ k) = p at hp
  split
  · rw [nI_add]; exact ⟨q + a, Nat.zero_le _, by omega, rfl⟩
  · split
    · rw [show (2 : Int32) = nI 2 from rfl, pk_mul, nI_add]; exact ⟨q + 2 * p, Nat.zero_le _, by omega, rfl⟩
    · exact ⟨q, Nat.zero_le _, by omega, rfl⟩
theorem pwM_n {v : CV} (h : Iv v) : ∀ k, k ≤ np v → ∃ a b : Nat, a ≤ 128 * k ∧ b ≤ 128 * k ∧ pwM v k = (nI a, nI b)
  | 0, _ => ⟨0, 0, by omega, by omega, rfl⟩
  | k + 1, hk => by
    obtain ⟨a, b, ha, hb, e⟩ := pwM_n h k (by omega)
    have h0 := h.nq.1
    obtain ⟨_, h1, h2, h3⟩ := h.at.2.2.2.2.2.2.2.2.1 k (by omega)
    obtain ⟨q, _, hq, eq⟩ := powM_n (by omega) h.ib.2 h1 h2 h3
    rw [pwM, e, eq]
    split
    · split
      · exact ⟨a, b, by omega, by omega, rfl⟩
      · exact ⟨a + q, b, by omega, by omega, by rw [← nI_add]⟩
    · exact ⟨a, b + q, by omega, by omega, by rw [← nI_add]⟩
theorem powA_n {v : CV} (h : Iv v) : nb (powAM v) 0 2000 := by
  obtain ⟨a, b, ha, hb, e⟩ := pwM_n h (np v) (Nat.le_refl _)
  have h0 := h.nq.1
  unfold powAM
  rw [e]
  dsimp only
  rw [show (2 : Int32) = nI 2 from rfl, pk_div (by omega) (by decide) (by decide), nI_add]
  split
  · rw [show (30 : Int32) = nI 30 from rfl, nI_add]; exact ⟨_, Nat.zero_le _, by omega, rfl⟩
  · rw [Int32.add_zero]; exact ⟨_, Nat.zero_le _, by omega, rfl⟩
theorem oddsO_n {v : CV} {p : Int32} (h : nb (v.1 4) 0 2) (hp : nb p 0 2000) : nb (oddsOF v p) 0 4000 := by
  obtain ⟨t, _, ht, et⟩ := h
  obtain ⟨q, _, hq, eq⟩ := hp
  unfold oddsOF
  rw [et, eq, show (2 : Int32) = nI 2 from rfl, show (3 : Int32) = nI 3 from rfl, pk_mul, nI_1, pk_mul]
  have a1 : 2 * q * (t + 1) ≤ 2 * 2000 * 3 := Nat.mul_le_mul (by omega) (by omega)
  rw [pk_div (by omega) (by decide) (by decide)]
  exact ⟨_, Nat.zero_le _, Nat.le_trans (Nat.div_le_div_right a1) (by decide), rfl⟩
/-- odds against, as a number -/
def oaN (k t g : Nat) : Nat := if k = 0 then 5 * (2 * g * (3 - t) / 3) else 2 * g * (3 - t) / 3
theorem oaN_mono {k t g g' : Nat} (h : g ≤ g') : oaN k t g ≤ oaN k t g' := by
  unfold oaN
  have a : 2 * g * (3 - t) / 3 ≤ 2 * g' * (3 - t) / 3 := Nat.div_le_div_right (Nat.mul_le_mul (by omega) (Nat.le_refl _))
  split <;> omega
theorem oaN_le {k t g : Nat} (h : g ≤ 999) : oaN k t g ≤ 9990 := by
  unfold oaN
  have a : 2 * g * (3 - t) / 3 ≤ 2 * 999 * 3 / 3 := Nat.div_le_div_right (Nat.mul_le_mul (by omega) (by omega))
  split <;> omega
theorem oddsA_n {v : CV} {k t g : Nat} (hk : k ≤ 1) (ht : t ≤ 2) (hg : g ≤ 999) (e7 : v.1 7 = nI k) (e4 : v.1 4 = nI t) (e6 : v.1 6 = nI g) : oddsAF v = nI (oaN k t g) := by
  unfold oddsAF oaN
  have a1 : 2 * g * (3 - t) ≤ 2 * 999 * 3 := Nat.mul_le_mul (by omega) (by omega)
  rw [e7, e4, e6, show (2 : Int32) = nI 2 from rfl, show (3 : Int32) = nI 3 from rfl, show (5 : Int32) = nI 5 from rfl, pk_mul, pk_sub (by omega), pk_mul, pk_div (by omega) (by decide) (by decide), pk_mul]
  rcases (show k = 0 ∨ k = 1 by omega) with rfl | rfl
  · rw [if_pos nI_0, if_pos rfl]
  · rw [if_neg (by decide), if_neg (by decide)]
theorem Iv.oa {v : CV} (h : Iv v) : ∃ k t g, k ≤ 1 ∧ t ≤ 2 ∧ 1 ≤ g ∧ g ≤ 999 ∧ v.1 7 = nI k ∧ v.1 4 = nI t ∧ v.1 6 = nI g ∧ oddsAF v = nI (oaN k t g) := by
  obtain ⟨_, _, _, ⟨t, _, ht, et⟩, _, ⟨g, hg1, hg, eg⟩, ⟨k, _, hk, ek⟩, _⟩ := h.at
  exact ⟨k, t, g, hk, ht, hg1, hg, ek, et, eg, oddsA_n hk ht hg ek et eg⟩
theorem ours_n {v : CV} (h : Iv v) : ∀ k, k ≤ 1000 → ∃ a, a ≤ 4000 * k ∧ (goM v k).2.1 = nI a
  | 0, _ => ⟨0, by omega, rfl⟩
  | k + 1, hk => by
    obtain ⟨a, ha, e⟩ := ours_n h k (by omega)
    have hu := (h.pass (show k ≤ 1000 by omega)).tm
    obtain ⟨q, _, hq, eq⟩ := oddsO_n hu.at.2.2.2.1 (powA_n hu)
    refine ⟨a + q, by omega, ?_⟩
    rw [goM]
    show (goM v k).2.1 + oddsOF (tmV (goM v k).1) (powAM (tmV (goM v k).1)) = _
    rw [e, go_pass h k (by omega), eq, nI_add]
theorem goO_n {v : CV} (h : Iv v) {m : Nat} (hm : m ≤ 1000) : ∃ a, a ≤ 4000 * m ∧ goO v (nI m) = nI a := by
  rw [goO, nI_clamp (by omega)]; exact ours_n h m hm
/-- the odds against do not touch what is ours -/
theorem tmTo_cg {u v : CV} (h0 : u.1 1 = v.1 1) (h2 : u.2 = v.2) : ∀ k, (tmTo u k).2 = (tmTo v k).2
  | 0 => h2
  | k + 1 => by
    rw [tmTo, tmTo]
    have ih := tmTo_cg h0 h2 k
    have e : tirM (tmTo u k) k = tirM (tmTo v k) k := by
      unfold tirM
      rw [tmTo_1, tmTo_1, h0, ih]
    show upA (tmTo u k).2 3 _ = upA (tmTo v k).2 3 _
    rw [ih, e]
theorem pwM_cg2 {u v : CV} (h1 : u.1 1 = v.1 1) (h2 : u.1 2 = v.1 2) (h : u.2 = v.2) : ∀ k, pwM u k = pwM v k
  | 0 => rfl
  | k + 1 => by
    have e : powM u (nI k) = powM v (nI k) := by unfold powM legsF; rw [h1, h]
    rw [pwM, pwM, pwM_cg2 h1 h2 h k, h1, h2, e]
/-- alike but for what is theirs -/
def eq6 (u v : CV) : Prop := u.2 = v.2 ∧ ∀ i, i ≠ 6 → u.1 i = v.1 i
theorem eq6.tm {u v : CV} (h : eq6 u v) : eq6 (tmV u) (tmV v) := by
  refine ⟨?_, fun i hi => by rw [tm_1, tm_1]; exact h.2 i hi⟩
  rw [tmV, tmV, np_cg (u := u) (v := v) (h.2 0 (by decide))]
  exact tmTo_cg (h.2 1 (by decide)) h.1 _
theorem eq6.cm {u v : CV} (h : eq6 u v) : eq6 (cmV u) (cmV v) := by
  refine ⟨by rw [cm_2, cm_2]; exact h.1, fun i hi => ?_⟩
  unfold cmV
  rw [h.2 2 (by decide), h.2 3 (by decide)]
  split
  · exact h.2 i hi
  · split
    · show upd (upd u.1 3 _) 2 0 i = upd (upd v.1 3 _) 2 0 i
      unfold upd
      rw [h.2 i hi]
    · show upd (upd u.1 3 _) 2 _ i = upd (upd v.1 3 _) 2 _ i
      unfold upd
      rw [h.2 i hi]
theorem eq6.pow {u v : CV} (h : eq6 u v) : oddsOF u (powAM u) = oddsOF v (powAM v) := by
  unfold oddsOF powAM
  rw [np_cg (u := u) (v := v) (h.2 0 (by decide)), pwM_cg2 (h.2 1 (by decide)) (h.2 2 (by decide)) h.1, h.2 7 (by decide), h.2 4 (by decide)]
theorem eq6.go {u v : CV} (h : eq6 u v) : ∀ k, eq6 (goM u k).1 (goM v k).1 ∧ (goM u k).2.1 = (goM v k).2.1
  | 0 => ⟨h, rfl⟩
  | k + 1 => by
    obtain ⟨h1, h2⟩ := eq6.go h k
    rw [goM, goM]
    exact ⟨h1.tm.cm, by show (goM u k).2.1 + _ = (goM v k).2.1 + _; rw [h2, h1.tm.pow]⟩
