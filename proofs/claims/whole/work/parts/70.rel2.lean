theorem nr_1 {m : Mst} {s : Int32} (c : isInF s 0 7 = 0) : nrF m.2.2.1 s = -2 ∧ nrM m.2 s = reM m.2 (-2) := by
  unfold nrF nrM
  rw [if_pos c, if_pos c]; exact ⟨rfl, rfl⟩
theorem nr_2 {m : Mst} {s : Int32} (c : ¬ isInF s 0 7 = 0) (h : m.2.2.1 0 s.toNatClampNeg = 2) : nrF m.2.2.1 s = -3 ∧ nrM m.2 s = reM m.2 (-3) := by
  unfold nrF nrM
  rw [if_neg c, if_neg c, if_pos h, if_pos h]; exact ⟨rfl, rfl⟩
theorem nr_3 {m : Mst} {s : Int32} (c : ¬ isInF s 0 7 = 0) (h : m.2.2.1 0 s.toNatClampNeg = 0) : nrF m.2.2.1 s = -4 ∧ nrM m.2 s = reM m.2 (-4) := by
  have h2 : ¬ m.2.2.1 0 s.toNatClampNeg = 2 := by rw [h]; decide
  unfold nrF nrM
  rw [if_neg c, if_neg c, if_neg h2, if_neg h2, if_pos h, if_pos h]; exact ⟨rfl, rfl⟩
theorem nr_4 {m : Mst} {s : Int32} (c : ¬ isInF s 0 7 = 0) (h : m.2.2.1 0 s.toNatClampNeg = 1) : nrF m.2.2.1 s = 0 := by
  unfold nrF
  rw [if_neg c, if_neg (by rw [h]; decide), if_neg (by rw [h]; decide)]
theorem fit_eq {c : Int32} {y : Int64} (h : nb c 0 4) : fitF c y = fitM c y := by
  obtain ⟨n, _, hn, rfl⟩ := h
  unfold fitF fitM
  rcases (show n = 0 ∨ n = 1 ∨ n = 2 ∨ n = 3 ∨ n = 4 by omega) with rfl | rfl | rfl | rfl | rfl
  · rw [if_pos (by decide), if_pos (by decide)]
  · rw [if_neg (by decide), if_pos (by decide), if_neg (by decide), if_pos (by decide)]
  · rw [if_neg (by decide), if_neg (by decide), if_pos (by decide), if_neg (by decide), if_neg (by decide), if_pos (by decide)]
  · rw [if_neg (by decide), if_neg (by decide), if_neg (by decide), if_pos (by decide), if_neg (by decide), if_neg (by decide), if_neg (by decide), if_pos (by decide)]
  · have e0 : ¬ nI 4 = 0 := by decide
    have e1 : ¬ nI 4 = 1 := by decide
    have e2 : ¬ nI 4 = 2 := by decide
    have e3 : ¬ nI 4 = 3 := by decide
    rw [if_neg e0, if_neg e1, if_neg e2, if_neg e3, if_pos (show nI 4 = 4 by decide), if_neg e0, if_neg e1, if_neg e2, if_neg e3]
theorem R_set {x : XV} {m : Mst} (h : Rl x m) (s i : Int32) (y : Int64) : Rs x m (xset x s i y) (mset m s i y) := by
  unfold xset mset
  by_cases c1 : isInF s 0 7 = 0
  · rw [if_pos c1, (nr_1 (m := m) c1).1, if_neg (by decide), (nr_1 c1).2]; exact R_f2 h
  · rw [if_neg c1]
    have hs := sh8 c1
    rcases sh_row (h.2.2.1 _ hs) with ⟨a, b, c, d, e⟩ | ⟨a, b, c, d, e, f, g⟩ | ⟨a, b, c, d, _⟩
    · rw [if_pos b, d, (nr_3 (m := m) c1 a).1, if_neg (by decide), (nr_3 c1 a).2]; exact R_f4 h
    · rw [if_neg b, nr_4 (m := m) c1 a, if_pos rfl, f, d]
      by_cases c2 : isInF i 0 (m.2.2.1 2 s.toNatClampNeg - 1) = 0
      · rw [if_pos c2, if_pos c2]; exact R_f2 h
      · rw [if_neg c2, if_neg c2, fit_eq e, g]
        exact R_mk rfl (h.sh (s := s.toNatClampNeg) (sh := (vp_updL (m.2.2.2.1 s.toNatClampNeg) i.toNatClampNeg (fitM (m.2.2.1 1 s.toNatClampNeg) y), (x.2.2.1 s.toNatClampNeg).2)) (A' := m.2.2.1) (R' := upL m.2.2.2.1 s.toNatClampNeg (vp_updL (m.2.2.2.1 s.toNatClampNeg) i.toNatClampNeg (fitM (m.2.2.1 1 s.toNatClampNeg) y))) (fun _ _ => rfl) (fun _ _ _ => rfl) (fun j hj => if_neg hj) (Or.inr (Or.inl ⟨a, d, e, f, upL_at.symm⟩)) (h.2.2.2.1 _ hs) (h.2.2.2.2.1 _ hs)) rfl rfl rfl
    · rw [if_pos b, d, (nr_2 (m := m) c1 a).1, if_neg (by decide), (nr_2 c1 a).2]; exact R_f3 h
theorem R_elem {x : XV} {m : Mst} (h : Rl x m) (s i : Int32) : Rs x m (xelem x s i) (melem m s i) := by
  unfold xelem melem
  by_cases c1 : isInF s 0 7 = 0
  · rw [if_pos c1, if_pos c1]; exact R_id h rfl
  · rw [if_neg c1, if_neg c1]
    rcases sh_row (h.2.2.1 _ (sh8 c1)) with ⟨a, b, c, d, e⟩ | ⟨a, b, c, d, e, f, g⟩ | ⟨a, b, c, d, _⟩
    · rw [if_pos b, if_neg (by rw [a]; decide)]; exact R_id h rfl
    · rw [if_neg b, if_pos a, f]
      by_cases c2 : isInF i 0 (m.2.2.1 2 s.toNatClampNeg - 1) = 0
      · rw [if_pos c2, if_pos c2]; exact R_id h rfl
      · rw [if_neg c2, if_neg c2, g]; exact R_id h rfl
    · rw [if_pos b, if_neg (by rw [a]; decide)]; exact R_id h rfl
theorem R_holds {x : XV} {m : Mst} (h : Rl x m) (s : Int32) : Rs x m (xholds x s) (mholds m s) := by
  unfold xholds mholds
  by_cases c1 : isInF s 0 7 = 0
  · rw [if_pos c1, if_pos c1]; exact R_id h rfl
  · rw [if_neg c1, if_neg c1]
    rcases sh_row (h.2.2.1 _ (sh8 c1)) with ⟨a, b, c, d, e⟩ | ⟨a, b, c, d, e, f, g⟩ | ⟨a, b, c, d, e, _⟩
    · rw [if_pos a]; exact R_id h e
    · rw [if_neg (by rw [a]; decide), if_pos a]; exact R_id h d
    · rw [if_neg (by rw [a]; decide), if_neg (by rw [a]; decide)]; exact R_id h e
theorem shM_at {A : Nat → Nat → Int32} {s p k : Int32} (i j : Nat) : upA (upA A 0 (upd (A 0) s.toNatClampNeg k)) 3 (upd (A 3) s.toNatClampNeg p) i j = if j = s.toNatClampNeg then (if i = 0 then k else if i = 3 then p else A i j) else A i j := by
  unfold upA upd
  by_cases e : j = s.toNatClampNeg
  · rw [if_pos e]
    by_cases i3 : i = 3
    · subst i3; simp [e]
    · by_cases i0 : i = 0
      · subst i0; simp [e]
      · simp [i0, i3]
  · rw [if_neg e]
    by_cases i3 : i = 3
    · subst i3; simp [e]
    · by_cases i0 : i = 0
      · subst i0; simp [e]
      · simp [i0, i3]
theorem pl_nb {v : CV} (h : Iv v) {p : Int32} (c : ¬ isPlF v p = 0) : ∃ k, k < np v ∧ p = nI k := by
  obtain ⟨h0, e0⟩ := h.nq
  unfold isPlF at c
  obtain ⟨c1, c2⟩ := isIn_ne c
  have hP : 0 < np v := Nat.pos_of_ne_zero fun q => by
    rw [e0, q] at c2
    exact absurd (Int32.le_trans (Int32.not_lt.mp c1) (Int32.not_lt.mp c2)) (by decide)
  obtain ⟨k, _, hk, e⟩ := nb_of (a := 0) (b := np v - 1) rfl (by rw [e0]; exact pk_sub (b := 1) hP) (by decide) (by omega) c
  exact ⟨k, by omega, e⟩
theorem R_show {x : XV} {m : Mst} (h : Rl x m) (s q : Int32) : Rs x m (xshow x s q) (mshow m s q) := by
  unfold xshow mshow
  rw [h.1]
  by_cases c1 : isInF s 0 7 = 0
  · rw [if_pos c1, if_pos c1]; exact R_f2 h
  · rw [if_neg c1, if_neg c1]
    have hs := sh8 c1
    have B0 := fun k => shM_at (A := m.2.2.1) (s := s) (p := q) (k := k)
    by_cases c2 : q = -1
    · rw [if_pos c2, if_pos c2]
      have B := B0 0
      refine R_mk rfl (h.sh (A' := upA (upA m.2.2.1 0 (upd (m.2.2.1 0) s.toNatClampNeg 0)) 3 (upd (m.2.2.1 3) s.toNatClampNeg q)) (R' := m.2.2.2.1) (fun i hi => ?_) (fun i j hj => by rw [B, if_neg hj]) (fun _ _ => rfl) (Or.inl ⟨by rw [B, if_pos rfl, if_pos rfl], rfl⟩) ?_ (by rw [B, if_pos rfl, if_neg (by decide), if_neg (by decide)]; exact h.2.2.2.2.1 _ hs)) rfl rfl rfl
      · funext j
        rw [B]
        split
        · rw [if_neg (by omega), if_neg (by omega)]
        · rfl
      · exact h.2.2.2.1 _ hs
    · rw [if_neg c2, if_neg c2]
      by_cases c3 : isPlF m.1 q = 0
      · rw [if_pos c3, if_pos c3]; exact R_f2 h
      · rw [if_neg c3, if_neg c3]
        have B := B0 2
        obtain ⟨p, hp, ep⟩ := pl_nb h.2.1 c3
        have h10 := h.2.1.nq.1
        have B3 : upA (upA m.2.2.1 0 (upd (m.2.2.1 0) s.toNatClampNeg 2)) 3 (upd (m.2.2.1 3) s.toNatClampNeg q) 3 s.toNatClampNeg = q := by rw [B, if_pos rfl, if_neg (by decide), if_pos rfl]
        refine R_mk rfl (h.sh (A' := upA (upA m.2.2.1 0 (upd (m.2.2.1 0) s.toNatClampNeg 2)) 3 (upd (m.2.2.1 3) s.toNatClampNeg q)) (R' := m.2.2.2.1) (fun i hi => ?_) (fun i j hj => by rw [B, if_neg hj]) (fun _ _ => rfl) (Or.inr (Or.inr ⟨by rw [B, if_pos rfl, if_pos rfl], ?_, ?_, ?_⟩)) ?_ (by rw [B, if_pos rfl, if_neg (by decide), if_neg (by decide)]; exact h.2.2.2.2.1 _ hs)) rfl rfl rfl
        · funext j
          rw [B]
          split
          · rw [if_neg (by omega), if_neg (by omega)]
          · rfl
        · rw [B3]
        · rw [B3]; exact ⟨p, Nat.zero_le _, by omega, ep⟩
        · rw [B3]; exact c3
        · exact h.2.2.2.1 _ hs
theorem R_says {x : XV} {m : Mst} (h : Rl x m) (s k : Int32) : Rs x m (xsays x s k) (msays m s k) := by
  unfold xsays msays
  rw [h.1]
  by_cases c1 : isInF s 0 7 = 0
  · rw [if_pos c1, if_pos c1]; exact R_f2 h
  · rw [if_neg c1, if_neg c1]
    by_cases c2 : isInF k 0 5 = 0
    · rw [if_pos c2, if_pos c2]; exact R_f2 h
    · rw [if_neg c2, if_neg c2]
      rcases sh_row (h.2.2.1 _ (sh8 c1)) with ⟨a, b, c, d, e⟩ | ⟨a, b, c, d, ⟨n, _, hn, en⟩, f, g⟩ | ⟨a, b, c, d, e, _, g⟩
      · rw [if_pos e, if_neg (by rw [a]; decide), if_neg (by rw [a]; decide)]; exact R_f4 h
      · have hpl : isPlF m.1 ((x.2.2.1 s.toNatClampNeg).2.1 - 10) = 0 := by
          rw [d, en]
          unfold isPlF isInF
          rw [if_pos (show nI n - 10 < 0 from pk_sneg (b := 10) (by decide) (by omega))]
        rw [if_neg (show ¬ (x.2.2.1 s.toNatClampNeg).2.1 = -1 by rw [d, en]; exact nI_nm1 (by omega)), if_pos a, if_pos hpl]
        exact R_f3 h
      · obtain ⟨p, hp, ep⟩ := pl_nb h.2.1 g
        have h10 := h.2.1.nq.1
        have e1 : (x.2.2.1 s.toNatClampNeg).2.1 - 10 = m.2.2.1 3 s.toNatClampNeg := by rw [e, Int32.add_comm, Int32.add_sub_cancel]
        rw [if_neg (show ¬ (x.2.2.1 s.toNatClampNeg).2.1 = -1 by rw [e, ep, show (10 : Int32) = nI 10 from rfl, nI_add]; exact nI_nm1 (by omega)), e1, if_neg g, if_neg (show ¬ m.2.2.1 0 s.toNatClampNeg = 1 by rw [a]; decide), if_pos a]
        by_cases c3 : isUnderF (m.1.2 0 (m.2.2.1 3 s.toNatClampNeg).toNatClampNeg) k = 0
        · rw [if_pos c3, if_pos c3]; exact R_f3 h
        · rw [if_neg c3, if_neg c3, ep]
          obtain ⟨i, _, hi, ei⟩ := h.2.1.ib.2
          have hpw := pow_eq (v := m.1) (k := p) h.2.1.ib.2 (by omega)
          have hot : othersF m.1 (nI p) = bitsF (m.1.1 1 &&& notI ((1 : Int32) <<< (nI p &&& 31))) := by
            rw [othersF, ei]; exact (others_n (by omega) (by omega)).symm
          unfold saidF
          rw [hpw, hot]
          obtain ⟨n, _, hn, rfl⟩ := nb_of (a := 0) (b := 5) rfl rfl (by decide) (by decide) c2
          generalize powM m.1 (nI p) = g1
          generalize legsF m.1 (nI p) = g2
          generalize tiresF (m.1.2 0 (nI p).toNatClampNeg) = g3
          generalize bitsF (m.1.1 1 &&& notI ((1 : Int32) <<< (nI p &&& 31))) = g4
          rcases (show n = 0 ∨ n = 1 ∨ n = 2 ∨ n = 3 ∨ n = 4 ∨ n = 5 by omega) with rfl | rfl | rfl | rfl | rfl | rfl
          · rw [if_neg (show ¬ nI 0 = 1 by decide), if_neg (show ¬ nI 0 = 2 by decide), if_neg (show ¬ nI 0 = 3 by decide), if_neg (show ¬ nI 0 = 4 by decide), if_neg (show ¬ nI 0 = 5 by decide), if_pos (show nI 0 = 0 by decide)]
            exact R_id h rfl
          · rw [if_pos (show nI 1 = 1 by decide), if_neg (show ¬ nI 1 = 0 by decide), if_pos (show nI 1 = 1 by decide)]
            exact R_id h rfl
          · rw [if_neg (show ¬ nI 2 = 1 by decide), if_pos (show nI 2 = 2 by decide), if_neg (show ¬ nI 2 = 0 by decide), if_neg (show ¬ nI 2 = 1 by decide), if_pos (show nI 2 = 2 by decide)]
            exact R_id h rfl
          · rw [if_neg (show ¬ nI 3 = 1 by decide), if_neg (show ¬ nI 3 = 2 by decide), if_pos (show nI 3 = 3 by decide), if_neg (show ¬ nI 3 = 0 by decide), if_neg (show ¬ nI 3 = 1 by decide), if_neg (show ¬ nI 3 = 2 by decide), if_pos (show nI 3 = 3 by decide)]
            exact R_id h rfl
          · rw [if_neg (show ¬ nI 4 = 1 by decide), if_neg (show ¬ nI 4 = 2 by decide), if_neg (show ¬ nI 4 = 3 by decide), if_pos (show nI 4 = 4 by decide), if_neg (show ¬ nI 4 = 0 by decide), if_neg (show ¬ nI 4 = 1 by decide), if_neg (show ¬ nI 4 = 2 by decide), if_neg (show ¬ nI 4 = 3 by decide), if_pos (show nI 4 = 4 by decide)]
            rcases bit01 (m.1.1 1) (nI p) with q | q
            · rw [if_pos q]; exact R_id h q
            · rw [if_neg (by rw [q]; decide)]; exact R_id h q
          · rw [if_neg (show ¬ nI 5 = 1 by decide), if_neg (show ¬ nI 5 = 2 by decide), if_neg (show ¬ nI 5 = 3 by decide), if_neg (show ¬ nI 5 = 4 by decide), if_pos (show nI 5 = 5 by decide), if_neg (show ¬ nI 5 = 0 by decide), if_neg (show ¬ nI 5 = 1 by decide), if_neg (show ¬ nI 5 = 2 by decide), if_neg (show ¬ nI 5 = 3 by decide), if_neg (show ¬ nI 5 = 4 by decide), if_pos (show nI 5 = 5 by decide)]
            exact R_id h rfl

