/-! rest, pause, games, what stands -/
theorem rs_n {k : Int32} : ∀ n t, t ≤ n → n ≤ 1000 → rsTo k n (nI t) = nI ((t + rR k - 1) / rR k)
  | 0, t, h, _ => by
    have : t = 0 := by omega
    subst this
    rw [rsTo]
    unfold rR
    split <;> rfl
  | n + 1, t, h, h2 => by
    rw [rsTo]
    by_cases c : t = 0
    · subst c
      rw [if_pos (by decide)]
      unfold rR
      split <;> rfl
    · rw [if_neg (nI_nle (by omega) (by omega))]
      unfold rstM
      by_cases k3 : k = 3
      · have hr : rR k = 2 := by unfold rR; rw [if_pos k3]
        rw [if_pos k3]
        by_cases t2 : t ≤ 2
        · have e : (if nI t - 2 ≤ 0 then (0 : Int32) else nI t - 2) = nI 0 := by
            refine if_pos ?_
            rcases (show t = 1 ∨ t = 2 by omega) with rfl | rfl <;> decide
          rw [e, rs_n n 0 (by omega) (by omega), nI_1, hr]
          exact congrArg nI (by omega)
        · have e : (if nI t - 2 ≤ 0 then (0 : Int32) else nI t - 2) = nI (t - 2) := by
            rw [show nI t - 2 = nI (t - 2) from pk_sub (b := 2) (by omega), if_neg (nI_nle (by omega) (by omega))]
          rw [e, rs_n n (t - 2) (by omega) (by omega), nI_1, hr]
          exact congrArg nI (by omega)
      · have hr : rR k = 1 := by unfold rR; rw [if_neg k3]
        rw [if_neg k3]
        by_cases t2 : t ≤ 1
        · have e : (if nI t - 1 ≤ 0 then (0 : Int32) else nI t - 1) = nI 0 := by
            refine if_pos ?_
            obtain rfl : t = 1 := by omega
            decide
          rw [e, rs_n n 0 (by omega) (by omega), nI_1, hr]
          exact congrArg nI (by omega)
        · have e : (if nI t - 1 ≤ 0 then (0 : Int32) else nI t - 1) = nI (t - 1) := by
            rw [show nI t - 1 = nI (t - 1) from pk_sub (b := 1) (by omega), if_neg (nI_nle (by omega) (by omega))]
          rw [e, rs_n n (t - 1) (by omega) (by omega), nI_1, hr]
          exact congrArg nI (by omega)
theorem R_rests {x : XV} {m : Mst} (h : Rl x m) (q : Int32) : Rs x m (xrests x q) (mrests m q) := by
  unfold xrests mrests
  rw [h.1]
  by_cases c : isPlF m.1 q = 0
  · rw [if_pos c, if_pos c]; exact R_f2 h
  · rw [if_neg c, if_neg c]
    obtain ⟨p, hp, ep⟩ := pl_nb h.2.1 c
    have h10 := h.2.1.nq.1
    refine R_id h ?_
    rw [ep, nI_clamp (by omega)]
    obtain ⟨_, _, _, t, _, ht, et⟩ := h.2.1.at.2.2.2.2.2.2.2.2.1 p hp
    obtain ⟨e2, h2⟩ := rests_n (m.1.2 0 p)
    have hr : 1 ≤ rR (m.1.2 0 p) := by unfold rR; split <;> decide
    rw [et, e2, nI_clamp (by omega), rs_n t t (Nat.le_refl _) (by omega), nI_add, show nI (t + rR (m.1.2 0 p)) - 1 = nI (t + rR (m.1.2 0 p) - 1) from pk_sub (b := 1) (by omega), pk_div (by omega) (by omega) (by omega)]
theorem ps_eq {n : Int32} {k0 : Nat} (hn : n = nI k0) (hk0 : k0 ≤ 100) {v : CV} (h : Iv v) : ∀ k, k ≤ np v → psTo n v k = pzTo n v k ∧ (∀ j, k ≤ j → (pzTo n v k).1.2 3 j = v.2 3 j) ∧ (∀ j, j < k → nb ((pzTo n v k).1.2 3 j) 0 100) ∧ (∀ i, i ≠ 3 → (pzTo n v k).1.2 i = v.2 i)
  | 0, _ => ⟨rfl, fun _ _ => rfl, fun j hj => absurd hj (by omega), fun _ _ => rfl⟩
  | k + 1, hk => by
    have h0 := h.nq.1
    obtain ⟨i1, i2, i3, i4⟩ := ps_eq hn hk0 h k (by omega)
    obtain ⟨_, _, _, t, _, ht, et⟩ := h.at.2.2.2.2.2.2.2.2.1 k (by omega)
    have e3 : (pzTo n v k).1.2 3 k = nI t := by rw [i2 k (Nat.le_refl _)]; exact et
    have ex : maxF 0 (nI t - n) = nI (t - k0) := by rw [hn]; exact mx_sub (by omega) (by omega)
    have ez : (if nI t ≤ n then (0 : Int32) else nI t - n) = nI (t - k0) := by
      rw [hn]
      by_cases c : t ≤ k0
      · rw [if_pos (nI_le c (by omega)), show t - k0 = 0 by omega]; rfl
      · rw [if_neg (nI_ge (by omega) (by omega)), pk_sub (by omega)]
    have e1 : psV n (pzTo n v k).1 k = pz1 n (pzTo n v k).1 k := by
      unfold psV pz1
      rw [nI_clamp (by omega), e3, ex, ez]
    have ep : pzTo n v (k + 1) = (pz1 n (pzTo n v k).1 k, (pzTo n v k).2 + (if (pz1 n (pzTo n v k).1 k).2 3 (nI k).toNatClampNeg ≤ 0 then 0 else 1)) := by rw [pzTo]
    have ev : ∀ j, (pz1 n (pzTo n v k).1 k).2 3 j = if j = k then nI (t - k0) else (pzTo n v k).1.2 3 j := by
      intro j
      unfold pz1
      rw [nI_clamp (by omega), e3, ez]
      rfl
    refine ⟨?_, fun j hj => ?_, fun j hj => ?_, fun i hi => ?_⟩
    · rw [psTo, i1, e1, ep]
      split
      · rw [Int32.add_zero]
      · rfl
    · rw [ep]; show (pz1 n (pzTo n v k).1 k).2 3 j = _; rw [ev, if_neg (by omega)]; exact i2 j (by omega)
    · rw [ep]; show nb ((pz1 n (pzTo n v k).1 k).2 3 j) 0 100; rw [ev]
      by_cases e : j = k
      · rw [if_pos e]; exact ⟨t - k0, Nat.zero_le _, by omega, rfl⟩
      · rw [if_neg e]; exact i3 j (by omega)
    · rw [ep]
      show upA (pzTo n v k).1.2 3 _ i = _
      rw [upA3 hi]; exact i4 i hi
theorem R_pause {x : XV} {m : Mst} (h : Rl x m) (n : Int32) : Rs x m (xpause x n) (mpause m n) := by
  unfold xpause mpause
  rw [h.1]
  by_cases c : isInF n 1 100 = 0
  · rw [if_pos c, if_pos c]; exact R_f2 h
  · rw [if_neg c, if_neg c]
    obtain ⟨k0, _, hk0, ek⟩ := nb_of (a := 1) (b := 100) rfl rfl (by decide) (by decide) c
    obtain ⟨h0, e0⟩ := h.2.1.nq
    obtain ⟨i1, _, i3, i4⟩ := ps_eq ek hk0 h.2.1 (np m.1) (Nat.le_refl _)
    rw [i1]
    have e1 : (pzTo n m.1 (np m.1)).1.1 = m.1.1 := pzTo_1 _
    refine R_v h ?_ (by rw [e1]) rfl
    have H := h.2.1.at
    have enp : np (pzTo n m.1 (np m.1)).1 = np m.1 := np_cg (by rw [e1])
    refine Iv.mk (by rw [enp]; exact h0) (by rw [enp, e1]; exact e0) ?_
    rw [enp, e1]
    obtain ⟨h1, h2, h3, h4, h5, h6, h7, h8, h9, h10⟩ := H
    refine ⟨h1, h2, h3, h4, h5, h6, h7, fun l hl => ?_, fun p hp => ?_, h10⟩
    · rw [i4 4 (by decide)]; exact h8 l hl
    · rw [i4 0 (by decide), i4 1 (by decide), i4 2 (by decide)]
      obtain ⟨a1, a2, a3, _⟩ := h9 p hp
      exact ⟨a1, a2, a3, i3 p hp⟩
theorem draw_3 {v : CV} : nb (drawF v 3) 0 2 := by
  unfold drawF
  have e : ushr (seedF v) 16 = nI ((seedF v).toBitVec.toNat / 2 ^ 16) := by
    unfold ushr
    refine i32_ext ?_
    rw [pk_ushr _ _ 16 (by decide), pk_tn (by have := (seedF v).toBitVec.isLt; omega)]
  have hb : (seedF v).toBitVec.toNat / 2 ^ 16 < 2 ^ 31 := by have := (seedF v).toBitVec.isLt; omega
  rw [e, show (3 : Int32) = nI 3 from rfl, pk_rem hb (by decide) (by decide)]
  exact ⟨_, Nat.zero_le _, by omega, rfl⟩
theorem gm_eq {v : CV} (h : Iv v) (hn : ¬ nlF v = 1) (c : Nat) (hc : c = 20) : ∀ k, gmTo v k = gnTo c v k ∧ Iv (gnTo c v k) ∧ (gnTo c v k).1 0 = v.1 0 := by
  intro k
  induction k with
  | zero => exact ⟨rfl, h, rfl⟩
  | succ k ih =>
    obtain ⟨i1, i2, i3⟩ := ih
    have e1 : gmTo v (k + 1) = playTo (gmB (gmTo v k)) c := by rw [gmTo, hc]
    have hA : Iv (gnA (gnTo c v k)) := (i2.drw).s4 draw_3
    have e2 : gmB (gnTo c v k) = gnB (gnTo c v k) := by
      unfold gmB gnB
      rw [show gmA (gnTo c v k) = gnA (gnTo c v k) from rfl, fresh_eq, chg_eq hA.at.2.2.2.2.1]
    have hB : Iv (gnB (gnTo c v k)) := hA.ch (gn_f hn)
    obtain ⟨p1, p2⟩ := playTo_eq hB c
    rw [gnTo_s, e1, i1, e2, p1]
    rw [p1] at p2
    refine ⟨rfl, p2, ?_⟩
    rw [skTo_0]
    exact i3
theorem R_game {x : XV} {m : Mst} (h : Rl x m) (n : Int32) : Rs x m (xgame x n) (mgame m n) := by
  unfold xgame mgame
  rw [h.1]
  by_cases c : isInF n 1 20 = 0
  · rw [if_pos c, if_pos c]; exact R_g2 h
  · rw [if_neg c, if_neg c]
    by_cases c3 : nlF m.1 = 0
    · rw [if_pos c3, if_neg (fun q => first_nl.mp q c3)]
      obtain ⟨g1, g2, g3⟩ := gm_eq h.2.1 (nl_0 c3) 20 rfl n.toNatClampNeg
      unfold gmF gnF
      rw [g1]
      generalize gnTo 20 m.1 n.toNatClampNeg = u at g2 g3
      exact R_v h g2 g3 rfl
    · rw [if_neg c3, if_pos (first_nl.mpr c3)]; exact R_g5 h
theorem full_eq {x : XV} {m : Mst} (h : Rl x m) : ∀ k, k ≤ 8 → fullTo x k = fsTo m.2.2.1 k
  | 0, _ => rfl
  | k + 1, hk => by
    rw [fullTo, fsTo, full_eq h k (by omega), nI_clamp (by omega)]
    rcases sh_row (h.2.2.1 k (by omega)) with ⟨a, b, c, d, e⟩ | ⟨a, b, c, d, ⟨n, _, hn, en⟩, f, g⟩ | ⟨a, b, c, d, e, ⟨n, _, hn, en⟩, _⟩
    · rw [if_pos e, if_pos a, Int32.add_zero]
    · rw [if_neg (by rw [d, en]; exact nI_nm1 (by omega)), if_neg (show ¬ m.2.2.1 0 k = 0 by rw [a]; decide)]
    · rw [if_neg (by rw [e, en, show (10 : Int32) = nI 10 from rfl, nI_add]; exact nI_nm1 (by omega)), if_neg (show ¬ m.2.2.1 0 k = 0 by rw [a]; decide)]
theorem R_status {x : XV} {m : Mst} (h : Rl x m) (t : Int32) : Rs x m (xstatus x t) (mstatus m t) := by
  unfold xstatus mstatus
  rw [h.1]
  have h3 := h.2.1.at.2.2.1.2
  by_cases c : isInF t 12 16 = 0
  · rw [if_pos c]
    have hsd : sdM m t = (-1, m) := by unfold sdM; rw [if_pos c]
    rw [hsd]
    by_cases c0 : t = 0
    · rw [if_pos c0, if_pos c0]; exact R_id h rfl
    rw [if_neg c0, if_neg c0]
    by_cases c1 : t = 1
    · rw [if_pos c1, if_pos c1]; exact R_id h rfl
    rw [if_neg c1, if_neg c1]
    by_cases c2 : t = 2
    · rw [if_pos c2, if_pos c2]; exact R_id h rfl
    rw [if_neg c2, if_neg c2]
    by_cases c3 : t = 3
    · rw [if_pos c3, if_pos c3]
      by_cases z : m.1.1 2 = 0
      · rw [if_pos z]; exact R_id h (h3.mpr z)
      · rw [if_neg z]; exact R_id h rfl
    rw [if_neg c3, if_neg c3]
    by_cases c4 : t = 4
    · rw [if_pos c4, if_pos c4]; exact R_id h rfl
    rw [if_neg c4, if_neg c4]
    by_cases c5 : t = 5
    · rw [if_pos c5, if_pos c5]; exact R_id h rfl
    rw [if_neg c5, if_neg c5]
    by_cases c6 : t = 6
    · rw [if_pos c6, if_pos c6]; exact R_id h rfl
    rw [if_neg c6, if_neg c6]
    by_cases c7 : t = 7
    · rw [if_pos c7, if_pos c7]; exact R_id h rfl
    rw [if_neg c7, if_neg c7]
    by_cases c8 : t = 8
    · rw [if_pos c8, if_pos c8]; exact R_id h rfl
    rw [if_neg c8, if_neg c8]
    by_cases c9 : t = 9
    · rw [if_pos c9, if_pos c9]; exact R_id h rfl
    rw [if_neg c9, if_neg c9]
    by_cases c10 : t = 10
    · rw [if_pos c10, if_pos c10]; exact R_id h rfl
    rw [if_neg c10, if_neg c10]
    by_cases c11 : t = 11
    · rw [if_pos c11, if_pos c11]; exact R_id h rfl
    rw [if_neg c11, if_neg c11]
    by_cases c12 : t = 12
    · rw [if_pos c12, if_pos c12]; exact R_id h rfl
    rw [if_neg c12, if_neg c12]
    by_cases c13 : t = 13
    · rw [if_pos c13, if_pos c13]; exact R_id h rfl
    rw [if_neg c13, if_neg c13]
    by_cases c14 : t = 14
    · rw [if_pos c14, if_pos c14]; exact R_id h rfl
    rw [if_neg c14, if_neg c14]
    by_cases c15 : t = 15
    · rw [if_pos c15, if_pos c15]; exact R_id h rfl
    rw [if_neg c15, if_neg c15]
    by_cases c16 : t = 16
    · rw [if_pos c16, if_pos c16]; exact R_id h rfl
    rw [if_neg c16, if_neg c16]
    by_cases c17 : t = 17
    · rw [if_pos c17, if_pos c17]; exact R_id h h.2.2.2.2.2.2.1
    rw [if_neg c17, if_neg c17]
    by_cases c18 : t = 18
    · rw [if_pos c18, if_pos c18]; exact R_id h rfl
    rw [if_neg c18, if_neg c18]
    by_cases c19 : t = 19
    · rw [if_pos c19, if_pos c19]; exact R_id h (full_eq h 8 (Nat.le_refl _))
    rw [if_neg c19, if_neg c19]
    exact R_id h rfl
  · rw [if_neg c]
    obtain ⟨n, hn1, hn2, rfl⟩ := nb_of (a := 12) (b := 16) rfl rfl (by decide) (by decide) c
    have e1 : (nI n - 12).toNatClampNeg = n - 12 := by rw [show nI n - 12 = nI (n - 12) from pk_sub (b := 12) (by omega), nI_clamp (by omega)]
    have e2 : (nI n - 10).toNatClampNeg = (n - 12) + 2 := by rw [show nI n - 10 = nI (n - 10) from pk_sub (b := 10) (by omega), nI_clamp (by omega)]; omega
    have hsd : sdM m (nI n) = (m.2.2.1 5 (n - 12 + 2), m) := by unfold sdM; rw [if_neg c, e2]
    have hr := h.2.2.2.2.2.2.2.2 (n - 12) (by omega)
    rw [e1, hsd, hr]
    rcases (show n = 12 ∨ n = 13 ∨ n = 14 ∨ n = 15 ∨ n = 16 by omega) with rfl | rfl | rfl | rfl | rfl
    · rw [if_neg (show ¬ nI 12 = 0 by decide), if_neg (show ¬ nI 12 = 1 by decide), if_neg (show ¬ nI 12 = 2 by decide), if_neg (show ¬ nI 12 = 3 by decide), if_neg (show ¬ nI 12 = 4 by decide), if_neg (show ¬ nI 12 = 5 by decide), if_neg (show ¬ nI 12 = 6 by decide), if_neg (show ¬ nI 12 = 7 by decide), if_neg (show ¬ nI 12 = 8 by decide), if_neg (show ¬ nI 12 = 9 by decide), if_neg (show ¬ nI 12 = 10 by decide), if_neg (show ¬ nI 12 = 11 by decide), if_pos (show nI 12 = 12 by decide)]; exact R_id h rfl
    · rw [if_neg (show ¬ nI 13 = 0 by decide), if_neg (show ¬ nI 13 = 1 by decide), if_neg (show ¬ nI 13 = 2 by decide), if_neg (show ¬ nI 13 = 3 by decide), if_neg (show ¬ nI 13 = 4 by decide), if_neg (show ¬ nI 13 = 5 by decide), if_neg (show ¬ nI 13 = 6 by decide), if_neg (show ¬ nI 13 = 7 by decide), if_neg (show ¬ nI 13 = 8 by decide), if_neg (show ¬ nI 13 = 9 by decide), if_neg (show ¬ nI 13 = 10 by decide), if_neg (show ¬ nI 13 = 11 by decide), if_neg (show ¬ nI 13 = 12 by decide), if_pos (show nI 13 = 13 by decide)]; exact R_id h rfl
    · rw [if_neg (show ¬ nI 14 = 0 by decide), if_neg (show ¬ nI 14 = 1 by decide), if_neg (show ¬ nI 14 = 2 by decide), if_neg (show ¬ nI 14 = 3 by decide), if_neg (show ¬ nI 14 = 4 by decide), if_neg (show ¬ nI 14 = 5 by decide), if_neg (show ¬ nI 14 = 6 by decide), if_neg (show ¬ nI 14 = 7 by decide), if_neg (show ¬ nI 14 = 8 by decide), if_neg (show ¬ nI 14 = 9 by decide), if_neg (show ¬ nI 14 = 10 by decide), if_neg (show ¬ nI 14 = 11 by decide), if_neg (show ¬ nI 14 = 12 by decide), if_neg (show ¬ nI 14 = 13 by decide), if_pos (show nI 14 = 14 by decide)]; exact R_id h rfl
    · rw [if_neg (show ¬ nI 15 = 0 by decide), if_neg (show ¬ nI 15 = 1 by decide), if_neg (show ¬ nI 15 = 2 by decide), if_neg (show ¬ nI 15 = 3 by decide), if_neg (show ¬ nI 15 = 4 by decide), if_neg (show ¬ nI 15 = 5 by decide), if_neg (show ¬ nI 15 = 6 by decide), if_neg (show ¬ nI 15 = 7 by decide), if_neg (show ¬ nI 15 = 8 by decide), if_neg (show ¬ nI 15 = 9 by decide), if_neg (show ¬ nI 15 = 10 by decide), if_neg (show ¬ nI 15 = 11 by decide), if_neg (show ¬ nI 15 = 12 by decide), if_neg (show ¬ nI 15 = 13 by decide), if_neg (show ¬ nI 15 = 14 by decide), if_pos (show nI 15 = 15 by decide)]; exact R_id h rfl
    · rw [if_neg (show ¬ nI 16 = 0 by decide), if_neg (show ¬ nI 16 = 1 by decide), if_neg (show ¬ nI 16 = 2 by decide), if_neg (show ¬ nI 16 = 3 by decide), if_neg (show ¬ nI 16 = 4 by decide), if_neg (show ¬ nI 16 = 5 by decide), if_neg (show ¬ nI 16 = 6 by decide), if_neg (show ¬ nI 16 = 7 by decide), if_neg (show ¬ nI 16 = 8 by decide), if_neg (show ¬ nI 16 = 9 by decide), if_neg (show ¬ nI 16 = 10 by decide), if_neg (show ¬ nI 16 = 11 by decide), if_neg (show ¬ nI 16 = 12 by decide), if_neg (show ¬ nI 16 = 13 by decide), if_neg (show ¬ nI 16 = 14 by decide), if_neg (show ¬ nI 16 = 15 by decide), if_pos (show nI 16 = 16 by decide)]; exact R_id h rfl
