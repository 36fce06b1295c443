theorem bit_and2 {x y p : Int32} : bitF (x &&& y) p = bitF x p &&& bitF y p := by
  unfold bitF
  rw [show (x &&& y) >>> (p &&& 31) = (x >>> (p &&& 31)) &&& (y >>> (p &&& 31)) from Int32.shiftRight_and]
  generalize x >>> (p &&& 31) = a
  generalize y >>> (p &&& 31) = b
  rw [Int32.and_assoc a b 1, Int32.and_assoc a 1, ← Int32.and_assoc 1 b 1, Int32.and_comm 1 b, Int32.and_assoc b 1 1, Int32.and_self]
theorem Iv.off {v : CV} (h : Iv v) {k : Nat} (hk : k < 10) : Iv (takeOffV v (nI k)) := by
  have e2 := take_off (v := v) (p := nI k)
  obtain ⟨P, hP, e, ⟨i, _, hi, ei⟩, ⟨c, _, hc, ec⟩, ⟨⟨y, _, hy, ey⟩, h3'⟩, h4, h5, h6, h7, h8, h9, h10⟩ := h
  have hp := pow10 hP
  have o1 : (takeOffV v (nI k)).1 1 = offB (v.1 1) (nI k) := e2.2 1 (by decide)
  have o2 : (takeOffV v (nI k)).1 2 = offB (v.1 2) (nI k) := e2.2 2 (by decide)
  have hb : ∀ p, p < 10 → bitF (offB (v.1 2) (nI k)) (nI p) = 1 → bitF (offB (v.1 1) (nI k)) (nI p) = 1 := by
    intro p hp q
    unfold offB at *
    have q1 := bit_and q
    rw [Int32.and_comm] at q
    have q2 := bit_and q
    rw [bit_and2, h10 p hp q1, q2]; decide
  refine ⟨P, hP, (e2.2 0 (by decide)).trans e, ?_, ?_, ?_, ?_, ?_, ?_, ?_, ?_, ?_, ?_⟩
  · rw [o1, ei, (off_n k hk i (by omega)).1]; exact ⟨_, Nat.zero_le _, by omega, rfl⟩
  · rw [o2, ec, (off_n k hk c (by omega)).1]; exact ⟨_, Nat.zero_le _, by omega, rfl⟩
  · rw [o2]
    by_cases z : offB (v.1 2) (nI k) = 0
    · have o3 : (takeOffV v (nI k)).1 3 = 0 := by unfold takeOffV; rw [if_pos z]; rfl
      rw [o3]; exact ⟨nb00, ⟨fun _ => z, fun _ => rfl⟩⟩
    · have o3 : (takeOffV v (nI k)).1 3 = v.1 3 := by unfold takeOffV; rw [if_neg z]; rfl
      rw [o3]
      refine ⟨⟨y, Nat.zero_le _, hy, ey⟩, ⟨fun q => absurd ?_ z, fun q => absurd q z⟩⟩
      rw [h3'.mp q]
      unfold offB
      exact Int32.zero_and
  · rw [e2.2 4 (by decide)]; exact h4
  · rw [e2.2 5 (by decide)]; exact h5
  · rw [e2.2 6 (by decide)]; exact h6
  · rw [e2.2 7 (by decide)]; exact h7
  · rw [e2.1]; exact h8
  · rw [e2.1]; exact h9
  · rw [o1, o2]; exact hb
theorem lmw_eq {v : CV} (h : Iv v) : ∀ k, k ≤ 10 → lmP v k = woTo v k
  | 0, _ => rfl
  | k + 1, hk => by
    have e : lmP v (k + 1) = if bitF (v.1 1) (nI k) = 1 then offerF (lmP v k) (nI k) (powAll (takeOffV v (nI k))) else lmP v k := by unfold lmP; rw [pk_s]
    rw [e, lmw_eq h k (by omega), woTo, powA_eq (h.off (by omega)).ib, off_eq3.pow]
    by_cases c : bitF (v.1 1) (nI k) = 0
    · rw [if_pos c, if_neg (fun q => bit_1.mp q c)]
    · rw [if_neg c, if_pos (bit_1.mpr c)]; rfl
theorem lmF_eq {v : CV} (h : Iv v) : lmF v = woM v := by
  unfold lmF woM
  rw [lmw_eq h _ h.nq.1]
theorem wo_in {v : CV} : ∀ k, k ≤ 10 → (woTo v k).1 = -1 ∨ ∃ p, p < k ∧ (woTo v k).1 = nI p
  | 0, _ => Or.inl rfl
  | k + 1, hk => by
    have ih := wo_in (v := v) k (by omega)
    have ih' : (woTo v k).1 = -1 ∨ ∃ p, p < k + 1 ∧ (woTo v k).1 = nI p := ih.imp id fun ⟨p, h1, h2⟩ => ⟨p, by omega, h2⟩
    rw [woTo]
    split
    · exact ih'
    · split
      · exact Or.inr ⟨k, by omega, rfl⟩
      · split
        · exact ih'
        · exact Or.inr ⟨k, by omega, rfl⟩
theorem wo_ne {v : CV} : ∀ k, k ≤ 10 → ∀ p, p < k → bitF (v.1 1) (nI p) = 1 → ¬ (woTo v k).1 = -1
  | 0, _, p, hp, _ => absurd hp (by omega)
  | k + 1, hk, p, hp, hb => by
    rw [woTo]
    by_cases e : p = k
    · subst e
      rw [if_neg (bit_1.mp hb)]
      split
      · exact nI_nm1 (by omega)
      · split
        · assumption
        · exact nI_nm1 (by omega)
    · have ih := wo_ne (v := v) k (by omega) p (by omega) hb
      split
      · exact ih
      · split
        · exact ih
        · exact nI_nm1 (by omega)
theorem has_bit : ∀ P, P < 11 → ∀ x, 0 < x → x < 1024 → x < 2 ^ P → ∃ p, p < P ∧ x / 2 ^ p % 2 = 1 := by
  intro P hP x h0 h1 h2
  refine Classical.byContradiction fun q => ?_
  have hz : ∀ p, p < P → x / 2 ^ p % 2 = 0 := fun p hp => by
    have := Nat.mod_two_eq_zero_or_one (x / 2 ^ p)
    rcases this with z | z
    · exact z
    · exact absurd ⟨p, hp, z⟩ q
  have : ∀ k, k ≤ P → x % 2 ^ k = 0 := by
    intro k
    induction k with
    | zero => intro _; exact Nat.mod_one x
    | succ k ih =>
      intro hk
      have a := ih (by omega)
      have b := hz k (by omega)
      rw [Nat.pow_succ, Nat.mod_mul, a, b, Nat.mul_zero]
  have a := this P (Nat.le_refl _)
  rw [Nat.mod_eq_of_lt h2] at a
  omega
theorem wo_on {v : CV} (h : Iv v) (c : ¬ v.1 1 = 0) : ∃ p, p < 10 ∧ woM v = nI p := by
  have h0 := h.nq.1
  obtain ⟨i, _, hi, ei⟩ := h.at.1
  have hp := pow10 h0
  have hi0 : 0 < i := Nat.pos_of_ne_zero fun q => c (by rw [ei, q]; rfl)
  have h2 : 0 < 2 ^ np v := Nat.two_pow_pos _
  obtain ⟨p, hp1, hp2⟩ := has_bit (np v) (by omega) i hi0 (by omega) (by omega)
  have hb : bitF (v.1 1) (nI p) = 1 := by rw [ei, bit_n p (by omega) i (by omega), hp2]; rfl
  rcases wo_in (v := v) (np v) h0 with q | ⟨p, h1, e⟩
  · exact absurd q (wo_ne _ h0 p hp1 hb)
  · exact ⟨p, by omega, e⟩
/-! the best five -/
theorem five_eq {v : CV} (h : Iv v) {y : Int32} : ∀ k, k < 2 ^ np v → (pk (fun k => bcF (nI (k + 1)) = y) (fun k => nI (k + 1)) (fun k => powAll (putOnV v (nI (k + 1)))) k = (-1, 0) ∧ fvTo v y k = (0, -1) ∧ ∀ j, j < k → ¬ bcF (nI (j + 1)) = y) ∨ (pk (fun k => bcF (nI (k + 1)) = y) (fun k => nI (k + 1)) (fun k => powAll (putOnV v (nI (k + 1)))) k = fvTo v y k ∧ ¬ (fvTo v y k).1 = -1 ∧ ∃ n, n ≤ 2000 ∧ (fvTo v y k).2 = nI n)
  | 0, _ => Or.inl ⟨rfl, rfl, fun j hj => absurd hj (by omega)⟩
  | k + 1, hk => by
    have h0 := h.nq.1
    have hp := pow10 h0
    have ih := five_eq h (y := y) k (by omega)
    have hon : Iv (putOnV v (nI (k + 1))) := h.on' ⟨k + 1, Nat.zero_le _, by omega, rfl⟩
    obtain ⟨q, _, hq, eq⟩ := powA_n hon
    rw [pk_s, fvTo, fvX, powA_eq hon.ib, bits_bc (show k + 1 < 1024 by omega), eq]
    by_cases c : bcF (nI (k + 1)) = y
    · rw [if_pos c, if_pos c]
      right
      rcases ih with ⟨i1, i2, i3⟩ | ⟨i1, i2, n, hn, i3⟩
      · rw [i1, i2, offer_n, if_neg (show ¬ nI q ≤ -1 from fun z => absurd (Int32.le_trans (nI_pos' (n := q) (by omega)) z) (by decide))]
        exact ⟨rfl, nI_nm1 (by omega), q, hq, rfl⟩
      · rw [i1]
        generalize fvTo v y k = z at i2 i3
        obtain ⟨b, w⟩ := z
        rw [offer_s i2]
        split
        · exact ⟨rfl, i2, n, hn, i3⟩
        · exact ⟨rfl, nI_nm1 (by omega), q, hq, rfl⟩
    · rw [if_neg c, if_neg c]
      rcases ih with ⟨i1, i2, i3⟩ | ⟨i1, i2, n, hn, i3⟩
      · left
        rw [i1, i2, if_pos (show (-1 : Int32) ≤ -1 from by decide)]
        refine ⟨rfl, rfl, fun j hj => ?_⟩
        by_cases e : j = k
        · subst e; exact c
        · exact i3 j (by omega)
      · right
        rw [if_pos (show (-1 : Int32) ≤ (fvTo v y k).2 by rw [i3]; exact Int32.le_trans (by decide) (nI_pos' (n := n) (by omega)))]
        exact ⟨i1, i2, n, hn, i3⟩
theorem bc_full : ∀ P, P < 11 → 0 < P → bcF (nI (2 ^ (min 5 P) - 2 + 1)) = nI (min 5 P) ∧ 2 ^ (min 5 P) - 2 < 2 ^ P - 1 := by decide +kernel
theorem every_e {v : CV} (h : Iv v) : (everyF v).toNatClampNeg = 2 ^ np v - 1 := by
  obtain ⟨h0, e⟩ := h.nq
  have hp := pow10 h0
  rw [everyF, oneS e h0, nI_pred, nI_clamp (by omega)]
theorem min5 {P : Nat} (h : P ≤ 10) : minF 5 (nI P) = nI (min 5 P) ∧ (if (5 : Int32) ≤ nI P then (5 : Int32) else nI P) = nI (min 5 P) := by
  unfold minF
  by_cases c : 5 ≤ P
  · rw [if_neg (show ¬ nI P < 5 from nI_nlt (b := 5) c (by omega)), if_pos (show (5 : Int32) ≤ nI P from nI_le (a := 5) c (by omega)), Nat.min_eq_left c]; exact ⟨rfl, rfl⟩
  · rw [if_pos (show nI P < 5 from nI_lt (b := 5) (by omega) (by omega)), if_neg (show ¬ (5 : Int32) ≤ nI P from nI_ge (b := 5) (by omega) (by omega)), Nat.min_eq_right (by omega)]; exact ⟨rfl, rfl⟩
theorem fiveF_eq {v : CV} (h : Iv v) (c : ¬ v.1 0 = 0) {y : Int32} (hy : y = nI (min 5 (np v))) : fiveF v = (fvTo v y (2 ^ np v - 1)).1 := by
  obtain ⟨h0, e⟩ := h.nq
  have hP : 0 < np v := Nat.pos_of_ne_zero fun q => c (by rw [e, q]; rfl)
  have h2 : 0 < 2 ^ np v := Nat.two_pow_pos _
  unfold fiveF fiveP
  have ey : minF 5 (v.1 0) = y := by rw [hy]; rw [e]; exact (min5 h0).1
  rw [every_e h]
  have ee : (pk (fun k => bcF (nI (k + 1)) = minF 5 (v.1 0)) (fun k => nI (k + 1)) (fun k => powAll (putOnV v (nI (k + 1)))) (2 ^ np v - 1)) = (pk (fun k => bcF (nI (k + 1)) = y) (fun k => nI (k + 1)) (fun k => powAll (putOnV v (nI (k + 1)))) (2 ^ np v - 1)) := by rw [ey]
  rw [ee]
  rcases five_eq h (y := y) (2 ^ np v - 1) (by omega) with ⟨_, _, i3⟩ | ⟨i1, _⟩
  · obtain ⟨b1, b2⟩ := bc_full (np v) (by omega) hP
    exact absurd (b1.trans hy.symm) (i3 _ b2)
  · rw [i1]
/-! rest until fresh; theirs for no loss; the keeper -/
theorem frs_eq {l y : Int32} : ∀ n k u, Iv u → u.1 2 = 0 → frsh l.toNatClampNeg y n k u = frM l y n k u
  | 0, k, u, _, _ => rfl
  | n + 1, k, u, h, h2 => by
    have e : passV 1 u = tmV u := by
      have := pass_s h (k := 0) (by omega)
      rw [pass_0 h] at this
      rw [show (1 : Int32) = nI (0 + 1) from rfl, ← this, cmV, if_pos (by rw [tm_1]; exact h2)]
    rw [frsh, frM, tired_eq, e, frs_eq n (k + 1) (tmV u) h.tm (by rw [tm_1]; exact h2)]
theorem thr_eq {u : CV} {a m : Nat} (ha : a < 2 ^ 29) (hm : m ≤ 600) (h : Iv u) : ∀ k, k ≤ 999 → thr (nI a) (nI m) u k = tfTo u (nI a) (nI m) k
  | 0, _ => rfl
  | k + 1, hk => by
    obtain ⟨q, t, g, hq, ht, _, hg, e7, e4, e6, eo⟩ := (h.s6 (t := nI (k + 1)) ⟨k + 1, by omega, by omega, rfl⟩).oa
    have hb := oaN_le (k := q) (t := t) hg
    have hmb : m * oaN q t g ≤ 600 * 9990 := Nat.mul_le_mul hm hb
    rw [thr, tfTo, thr_eq ha hm h k (by omega), eo, pk_mul]
    by_cases c : a < m * oaN q t g
    · rw [if_pos (nI_lt c (by omega)), if_pos (pk_sneg (by omega) c)]
    · rw [if_neg (nI_nlt (by omega) (by omega)), if_neg (by rw [pk_sub (by omega)]; exact nI_pos (by omega))]
theorem pull_eq {v : CV} (h : Iv v) {n y : Int32} {m p : Nat} (hm : m ≤ 600) (hn : n = nI m) (hp : p ≤ 100) (hy : y = nI p) : pullG v n y = plM v n y := by
  subst hn hy
  have h0 := h.s7 (t := 0) ⟨0, Nat.le_refl _, by omega, rfl⟩
  have h1 := h.s7 (t := 1) ⟨1, by omega, by omega, rfl⟩
  obtain ⟨k, t, g, hk, ht, _, hg, e7, e4, e6, eo⟩ := h.oa
  have o0 : oddsAF (setS v 7 0) = nI (oaN 0 t g) := oddsA_n (by omega) ht hg rfl e4 e6
  have o1 : oddsAF (setS v 7 1) = nI (oaN 1 t g) := oddsA_n (by omega) ht hg rfl e4 e6
  have hb := oaN_le (k := 0) (t := t) hg
  have hle : oaN 1 t g ≤ oaN 0 t g := by unfold oaN; rw [if_pos rfl, if_neg (by decide)]; omega
  have m0 : m * oaN 0 t g ≤ 600 * 9990 := Nat.mul_le_mul hm hb
  have m1 : m * oaN 1 t g ≤ m * oaN 0 t g := Nat.mul_le_mul (Nat.le_refl _) hle
  rw [pullG, plM, goO_eq h0 (by omega), goO_eq h1 (by omega), goA_eq h0 (by omega), goA_eq h1 (by omega), oursA_eq h0 (by omega), oursA_eq h1 (by omega), o0, o1, pk_mul, pk_mul, pk_sub m1]
  generalize hd : m * oaN 0 t g - m * oaN 1 t g = d
  have hdb : p * d ≤ 100 * 5994000 := Nat.mul_le_mul hp (by omega)
  rw [pk_mul, show (100 : Int32) = nI 100 from rfl, pk_div (by omega) (by decide) (by decide), nI_l (by omega), nI_l (by omega), lN_mul, show (100 : Int64) = lN 100 from rfl, pk_lDiv (by omega) (by decide) (by decide), lN_i]
