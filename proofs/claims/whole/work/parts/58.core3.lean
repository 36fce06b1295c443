/-! what is gained by seconds -/
theorem come_0 {n : Int32} {v : CV} : (comeV n v).1 0 = v.1 0 ∧ (comeV n v).1 1 = v.1 1 := by
  unfold comeV
  split <;> exact ⟨rfl, rfl⟩
theorem come_cg {n : Int32} {u v : CV} (h : u.1 = v.1) : (comeV n u).1 = (comeV n v).1 := by
  unfold comeV
  rw [h]
  split <;> rfl
theorem tire_1 {n : Int32} {v : CV} : (tireV n v).1 = v.1 := by rw [tireV, tireTo_1]
theorem np_cg {u v : CV} (h : u.1 0 = v.1 0) : np u = np v := by rw [np, np, h]
theorem tire_3 {n : Int32} {v : CV} (h : np v ≤ 10) (j : Nat) : (tireV n v).2 3 j = if j < np v ∧ bitF (v.1 1) (nI j) = 1 then minF 100 (v.2 3 j + n * tiresF (v.2 0 j)) else v.2 3 j := by rw [tireV, tireTo_3 _ h]
theorem tire_i {n : Int32} {v : CV} {i : Nat} (hi : i ≠ 3) : (tireV n v).2 i = v.2 i := by rw [tireV, tireTo_i hi]
theorem ct_s {v : CV} (h : Iv v) {k : Nat} (hk : k < 1000) : comeV 1 (tireV 1 (comeV (nI k) (tireV (nI k) v))) = comeV (nI (k + 1)) (tireV (nI (k + 1)) v) := by
  obtain ⟨h0, h00⟩ := h.nq
  obtain ⟨_, _, ⟨h3, h3'⟩, _, _, _, _, _, h9, _⟩ := h.at
  obtain ⟨y, _, hy, e⟩ := h3
  have e' : ∀ n, (tireV n v).1 3 = nI y := fun n => by rw [tire_1]; exact e
  have E := come_at (v := tireV (nI k) v) (k := k) (show y ≤ 1000 by omega) (by omega) (e' _)
  have enp : np (comeV (nI k) (tireV (nI k) v)) = np v := np_cg (by rw [come_0.1, tire_1])
  have eic : (comeV (nI k) (tireV (nI k) v)).1 1 = v.1 1 := by rw [come_0.2, tire_1]
  refine cv_ext (fun i => ?_) (fun i hi => ?_) (fun j => ?_)
  · rw [show (1 : Int32) = nI 1 from rfl, come_at (y := y - k) (by omega) (by omega) (by rw [tire_1, E]; rfl), tire_1, E, E, come_at (k := k + 1) (by omega) (by omega) (e' _), tire_1, tire_1]
    rw [if_neg (by decide : ¬ 2 = 3), if_pos (rfl : 2 = 2)]
    by_cases i3 : i = 3
    · rw [if_pos i3, if_pos i3, Nat.sub_sub]
    · rw [if_neg i3, if_neg i3, if_neg i3]
      by_cases i2 : i = 2
      · rw [if_pos i2, if_pos i2]
        by_cases c1 : y ≤ k
        · rw [if_pos c1, if_pos (show y - k ≤ 1 by omega), if_pos (show y ≤ k + 1 by omega)]
        · rw [if_neg c1]
          by_cases c2 : y - k ≤ 1
          · rw [if_pos c2, if_pos (show y ≤ k + 1 by omega)]
          · rw [if_neg c2, if_neg (show ¬ y ≤ k + 1 by omega)]
      · rw [if_neg i2, if_neg i2, if_neg i2]
  · rw [come_2, tire_i hi, come_2, tire_i hi, come_2, tire_i hi]
  · rw [come_2, tire_3 (by rw [enp]; exact h0), enp, eic, come_2, tire_3 h0, tire_i (i := 0) (by decide), come_2, tire_3 h0]
    by_cases c : j < np v ∧ bitF (v.1 1) (nI j) = 1
    · rw [if_pos c, if_pos c, if_pos c]
      obtain ⟨_, _, _, t, _, ht, et⟩ := h9 j c.1
      obtain ⟨e1, h1⟩ := tires_n (v.2 0 j)
      have a1 : k * rT (v.2 0 j) ≤ 1000 * 3 := Nat.mul_le_mul (by omega) h1
      have a2 : (k + 1) * rT (v.2 0 j) = k * rT (v.2 0 j) + rT (v.2 0 j) := by rw [Nat.add_mul, Nat.one_mul]
      rw [et, e1, pk_mul, nI_add, mn_100 (by omega), Int32.one_mul, nI_add, mn_100 (by omega), pk_mul, nI_add, mn_100 (by omega), a2]
      exact congrArg nI (by omega)
    · rw [if_neg c, if_neg c, if_neg c]
theorem ct_0 {v : CV} (h : Iv v) : comeV (nI 0) (tireV (nI 0) v) = v := by
  obtain ⟨h0, h00⟩ := h.nq
  obtain ⟨_, _, ⟨h3, h3'⟩, _, _, _, _, _, h9, _⟩ := h.at
  obtain ⟨y, _, hy, e⟩ := h3
  refine cv_ext (fun i => ?_) (fun i hi => by rw [come_2, tire_i hi]) (fun j => ?_)
  · rw [come_at (y := y) (by omega) (by omega) (by rw [tire_1]; exact e), tire_1]
    by_cases i3 : i = 3
    · rw [if_pos i3, i3, e]; rfl
    · rw [if_neg i3]
      by_cases i2 : i = 2
      · rw [if_pos i2, i2]
        by_cases c : y ≤ 0
        · rw [if_pos c, h3'.mp (by rw [e, show y = 0 by omega]; rfl)]
        · rw [if_neg c]
      · rw [if_neg i2]
  · rw [come_2, tire_3 h0]
    by_cases c : j < np v ∧ bitF (v.1 1) (nI j) = 1
    · rw [if_pos c]
      obtain ⟨_, _, _, t, _, ht, et⟩ := h9 j c.1
      obtain ⟨e1, h1⟩ := tires_n (v.2 0 j)
      rw [et, e1, pk_mul, Nat.zero_mul, nI_add, Nat.add_zero, mn_100 (by omega), Nat.min_eq_right ht]
    · rw [if_neg c]
theorem ours_1 {v : CV} (h : Iv v) : ∀ k, k ≤ 1000 → (oursTo v k).1 = comeV (nI k) (tireV (nI k) v)
  | 0, _ => (ct_0 h).symm
  | k + 1, hk => by
    rw [oursTo]
    show comeV 1 (tireV 1 (oursTo v k).1) = _
    rw [ours_1 h k (by omega)]
    exact ct_s h (by omega)
theorem rest_come {n m : Int32} {u : CV} (h : np u ≤ 10) : restV n (comeV m u) = comeV m (restV n u) := by
  have enp : np (comeV m u) = np u := np_cg come_0.1
  refine cv_ext (fun i => ?_) (fun i hi => ?_) (fun j => ?_)
  · rw [restV, restTo_1', come_cg (u := restV n u) (v := u) (by rw [restV, restTo_1'])]
  · rw [restV, restTo_i hi, come_2, come_2, restV, restTo_i hi]
  · rw [come_2, restV, restTo_3 _ (by rw [enp]; exact h), enp, come_0.2, come_2, restV, restTo_3 _ h]
theorem oursV_eq {v : CV} (h : Iv v) {m : Nat} (hm : m ≤ 1000) : oursV v (nI m) = passV (nI m) v := by
  have h0 := h.nq.1
  rw [oursV, nI_clamp (by omega), ours_1 h m hm, rest_come (by rw [np_cg (v := v) (by rw [tire_1])]; exact h0), passV]
theorem powM_cg {a b : CV} {k : Nat} (hk : k < 10) (h1 : a.1 = b.1) (h2 : ∀ i, i ≠ 3 → a.2 i = b.2 i) (h3 : a.2 3 k = b.2 3 k) : powM a (nI k) = powM b (nI k) := by
  unfold powM legsF
  rw [nI_clamp (by omega), h1, h2 0 (by decide), h2 1 (by decide), h2 2 (by decide), h3]
theorem pw_cg {a b : CV} (h1 : a.1 = b.1) (h2 : ∀ i, i ≠ 3 → a.2 i = b.2 i) (n : Nat) (hn : n ≤ 10) (h3 : ∀ j, j < n → bitF (a.1 1) (nI j) = 1 → a.2 3 j = b.2 3 j) (hc : ∀ p, p < 10 → bitF (a.1 2) (nI p) = 1 → bitF (a.1 1) (nI p) = 1) : ∀ k, k ≤ n → pwM a k = pwM b k
  | 0, _ => rfl
  | k + 1, hk => by
    rw [pwM, pwM, pw_cg h1 h2 n hn h3 hc k (by omega), ← h1]
    by_cases c1 : bitF (a.1 2) (nI k) = 0
    · rw [if_pos c1, if_pos c1]
      by_cases c2 : bitF (a.1 1) (nI k) = 0
      · rw [if_pos c2, if_pos c2]
      · rw [if_neg c2, if_neg c2, powM_cg (by omega) h1 h2 (h3 k (by omega) (bit_1.mpr c2))]
    · rw [if_neg c1, if_neg c1, powM_cg (by omega) h1 h2 (h3 k (by omega) (hc k (by omega) (bit_1.mpr c1)))]
theorem powAM_cg {a b : CV} (hn : np a ≤ 10) (h1 : a.1 = b.1) (h2 : ∀ i, i ≠ 3 → a.2 i = b.2 i) (h3 : ∀ j, j < np a → bitF (a.1 1) (nI j) = 1 → a.2 3 j = b.2 3 j) (hc : ∀ p, p < 10 → bitF (a.1 2) (nI p) = 1 → bitF (a.1 1) (nI p) = 1) : powAM a = powAM b := by
  rw [powAM, powAM, ← np_cg (u := a) (v := b) (by rw [h1]), pw_cg h1 h2 _ hn h3 hc _ (Nat.le_refl _), h1]
theorem tm_1 {v : CV} : (tmV v).1 = v.1 := by rw [tmV, tmTo_1]
theorem odds_cg {a b : CV} (h : a.1 = b.1) : oddsAF a = oddsAF b := by unfold oddsAF; rw [h]
theorem go_o {v : CV} (h : Iv v) {k : Nat} (hk : k < 1000) : oddsOF (tmV (passV (nI k) v)) (powAM (tmV (passV (nI k) v))) = oddsOF (tireV 1 (comeV (nI k) (tireV (nI k) v))) (powAll (tireV 1 (comeV (nI k) (tireV (nI k) v)))) := by
  have hu := h.pass (show k ≤ 1000 by omega)
  obtain ⟨h0, h00⟩ := h.nq
  obtain ⟨g0, g00⟩ := hu.nq
  have hc := hu.at.2.2.2.2.2.2.2.2.2
  have e1 : (tmV (passV (nI k) v)).1 = (tireV 1 (comeV (nI k) (tireV (nI k) v))).1 := by
    rw [tm_1, tire_1, passV]
    exact come_cg (by rw [tr_1, tire_1])
  have enp : np (comeV (nI k) (tireV (nI k) v)) = np v := np_cg (by rw [come_0.1, tire_1])
  have enp2 : np (passV (nI k) v) = np v := np_cg (by rw [passV, come_0.1, tr_1])
  have eic : (comeV (nI k) (tireV (nI k) v)).1 1 = v.1 1 := by rw [come_0.2, tire_1]
  have eic2 : (passV (nI k) v).1 1 = v.1 1 := by rw [passV, come_0.2, tr_1]
  have ib : Ib (tireV 1 (comeV (nI k) (tireV (nI k) v))) := by
    have h1 := hu.ib
    refine ⟨?_, ?_⟩
    · obtain ⟨P, hP, e⟩ := h1.1
      exact ⟨P, hP, by rw [← e1, tm_1]; exact e⟩
    · rw [← e1, tm_1]; exact h1.2
  rw [powA_eq ib, powAM_cg (b := tireV 1 (comeV (nI k) (tireV (nI k) v))) (by rw [np_cg (v := passV (nI k) v) (by rw [tm_1])]; exact g0) e1 (fun i hi => ?_) (fun j hj hb => ?_) (by rw [tm_1]; exact hc)]
  · unfold oddsOF; rw [e1]
  · rw [tmV, tmTo_i hi, pass_i hi, tire_i hi, come_2, tire_i hi]
  · rw [np_cg (v := passV (nI k) v) (by rw [tm_1]), enp2] at hj
    rw [tm_1, eic2] at hb
    rw [tmV, tmTo_3 _ g0, enp2, if_pos hj, ← ti_1 (by omega), ti, eic2, if_pos hb, pass_3 h0, if_pos hj, ti, if_pos hb, pass_i (i := 0) (by decide), tire_3 (by rw [enp]; exact h0), enp, eic, if_pos ⟨hj, hb⟩, come_2, tire_3 h0, if_pos ⟨hj, hb⟩, tire_i (i := 0) (by decide)]
theorem go_ours {v : CV} (h : Iv v) : ∀ k, k ≤ 1000 → (goM v k).2.1 = (oursTo v k).2
  | 0, _ => rfl
  | k + 1, hk => by
    rw [goM, oursTo]
    show (goM v k).2.1 + _ = (oursTo v k).2 + _
    rw [go_ours h k (by omega), go_pass h k (by omega), ours_1 h k (by omega), go_o h (by omega)]
theorem pass_oa {v : CV} (h : Iv v) {k : Nat} (hk : k ≤ 1000) : oddsAF (passV (nI k) v) = oddsAF v := by
  obtain ⟨y, _, hy, e⟩ := h.at.2.2.1.1
  have E := pass_1 (k := k) (show y ≤ 1000 by omega) hk e
  unfold oddsAF
  rw [show (passV (nI k) v).1 7 = v.1 7 by rw [E]; rfl, show (passV (nI k) v).1 6 = v.1 6 by rw [E]; rfl, show (passV (nI k) v).1 4 = v.1 4 by rw [E]; rfl]
theorem go_a {v : CV} (h : Iv v) : ∀ k, k ≤ 1000 → (goM v k).2.2 = nI k * oddsAF v
  | 0, _ => (Int32.zero_mul).symm
  | k + 1, hk => by
    rw [goM]
    show (goM v k).2.2 + oddsAF (tmV (goM v k).1) = _
    rw [go_a h k (by omega), go_pass h k (by omega), odds_cg tm_1, pass_oa h (by omega), ← nI_1, Int32.add_mul, Int32.one_mul]
theorem goV_eq {v : CV} (h : Iv v) {m : Nat} (hm : m ≤ 1000) : goV v (nI m) = passV (nI m) v := by rw [goV, nI_clamp (by omega), go_pass h m hm]
theorem goO_eq {v : CV} (h : Iv v) {m : Nat} (hm : m ≤ 1000) : goO v (nI m) = oursF v (nI m) := by rw [goO, oursF, nI_clamp (by omega), go_ours h m hm]
theorem goA_eq {v : CV} (h : Iv v) {m : Nat} (hm : m ≤ 1000) : goA v (nI m) = nI m * oddsAF v := by rw [goA, nI_clamp (by omega), go_a h m hm]
theorem oursA_eq {v : CV} (h : Iv v) {m : Nat} (hm : m ≤ 1000) : oddsAF (oursV v (nI m)) = oddsAF v := by rw [oursV_eq h hm, pass_oa h hm]
theorem goG_eq {v : CV} (h : Iv v) {m : Nat} (hm : m ≤ 1000) : goG v (nI m) = gainsF v (nI m) := by
  rw [goG, gainsF, goO_eq h hm, goA_eq h hm, oursA_eq h hm]
