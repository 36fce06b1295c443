theorem hasP_0 {sh : SV} {f n : Int32} (h : n < 0 ∨ f < 0 ∨ sh.2.2 < n ∨ sh.2.2 - n < f) : hasPF sh f n = 0 := by
  unfold hasPF isInF
  by_cases c1 : n < 0
  · rw [if_pos c1]; rfl
  · rw [if_neg c1]
    by_cases c2 : sh.2.2 < n
    · rw [if_pos c2]; rfl
    · rw [if_neg c2, if_neg (by decide)]
      by_cases c3 : f < 0
      · rw [if_pos c3]; rfl
      · rw [if_neg c3]
        have c4 : sh.2.2 - n < f := h.elim (fun q => absurd q c1) (fun q => q.elim (fun q => absurd q c3) (fun q => q.elim (fun q => absurd q c2) id))
        rw [if_pos c4]; rfl
theorem hasP_1 {sh : SV} {f n : Int32} (c1 : ¬ n < 0) (c2 : ¬ f < 0) (c3 : ¬ sh.2.2 < n) (c4 : ¬ sh.2.2 - n < f) : ¬ hasPF sh f n = 0 := by
  unfold hasPF isInF
  rw [if_neg c1, if_neg c3, if_neg (by decide), if_neg c2, if_neg c4, if_neg (by decide)]
  decide
theorem cp1_at {f g : Nat → Int64} {a : Nat} : ∀ k, a + k < 2 ^ 31 → ∀ t, cpM1 f g (nI a) k t = if t < k then f (a + t) else g t
  | 0, _, t => by rw [if_neg (Nat.not_lt_zero _)]; rfl
  | k + 1, h, t => by
    rw [cpM1, nI_clamp (by omega), nI_add, nI_clamp (by omega)]
    by_cases e : t = k
    · subst e; rw [pk_uLs, if_pos (by omega)]
    · rw [pk_uLn e, cp1_at k (by omega)]
      by_cases c : t < k
      · rw [if_pos c, if_pos (by omega)]
      · rw [if_neg c, if_neg (by omega)]
theorem cp2_at {f g : Nat → Int64} {b : Nat} : ∀ k, b + k < 2 ^ 31 → ∀ t, cpM2 f g (nI b) k t = if b ≤ t ∧ t < b + k then g (t - b) else f t
  | 0, _, t => by rw [if_neg (by omega)]; rfl
  | k + 1, h, t => by
    rw [cpM2, nI_clamp (show k < 2 ^ 31 by omega), nI_add, nI_clamp (by omega)]
    by_cases e : t = b + k
    · subst e; rw [pk_uLs, if_pos (by omega), Nat.add_sub_cancel_left]
    · rw [pk_uLn e, cp2_at k (by omega)]
      by_cases c : b ≤ t ∧ t < b + k
      · rw [if_pos c, if_pos (by omega)]
      · rw [if_neg c, if_neg (by omega)]
theorem cpy_eq {f g mv : Nat → Int64} {a b c : Nat} (ha : a + c ≤ 40) (hb : b + c ≤ 40) : va_cpy f g a b c = cpM2 g (cpM1 f mv (nI a) c) (nI b) c := by
  funext t
  rw [cp2_at _ (by omega)]
  by_cases q : b ≤ t ∧ t < b + c
  · rw [if_pos q, cp1_at _ (by omega), if_pos (by omega), pk_cpy_in q.1 q.2]
  · rw [if_neg q, pk_cpy_out (by omega)]
theorem R_copy {x : XV} {m : Mst} (h : Rl x m) (s q i j n : Int32) : Rs x m (xcopy x s q i j n) (mcopy m s q i j n) := by
  unfold xcopy mcopy
  by_cases c1 : isInF s 0 7 = 0
  · rw [if_pos c1, if_pos c1]; exact R_f2 h
  · rw [if_neg c1, if_neg c1]
    by_cases c2 : isInF q 0 7 = 0
    · rw [if_pos c2, if_pos c2]; exact R_f2 h
    · rw [if_neg c2, if_neg c2]
      have hs := sh8 c1
      have hq := sh8 c2
      unfold mcp2
      rcases sh_row (h.2.2.1 _ hs) with ⟨a, b, c, d, e⟩ | ⟨a, b, c, d, e, f, g⟩ | ⟨a, b, c, d, _⟩
      · rw [if_pos b, if_pos c, if_neg (show ¬ m.2.2.1 0 s.toNatClampNeg = 2 by rw [a]; decide)]
        rcases sh_row (h.2.2.1 _ hq) with ⟨a', b', c', d', e'⟩ | ⟨a', b', c', d', e', f', g'⟩ | ⟨a', b', c', d', _⟩
        · rw [if_pos c', if_neg (show ¬ m.2.2.1 0 q.toNatClampNeg = 2 by rw [a']; decide), if_neg (show ¬ m.2.2.1 0 s.toNatClampNeg = 1 by rw [a]; decide), if_pos a]; exact R_f4 h
        · rw [if_pos c', if_neg (show ¬ m.2.2.1 0 q.toNatClampNeg = 2 by rw [a']; decide), if_neg (show ¬ m.2.2.1 0 s.toNatClampNeg = 1 by rw [a]; decide), if_pos a]; exact R_f4 h
        · rw [if_neg c', if_pos a']; exact R_f3 h
      · rw [if_neg b, if_neg (show ¬ m.2.2.1 0 s.toNatClampNeg = 2 by rw [a]; decide)]
        rcases sh_row (h.2.2.1 _ hq) with ⟨a', b', c', d', e'⟩ | ⟨a', b', c', d', e', f', g'⟩ | ⟨a', b', c', d', _⟩
        · rw [if_pos b', if_pos c, if_pos c', if_neg (show ¬ m.2.2.1 0 q.toNatClampNeg = 2 by rw [a']; decide), if_pos a, if_neg (show ¬ m.2.2.1 0 q.toNatClampNeg = 1 by rw [a']; decide), if_neg (show ¬ m.2.2.1 0 s.toNatClampNeg = 0 by rw [a]; decide), if_pos a']; exact R_f4 h
        · rw [if_neg b', if_neg (show ¬ m.2.2.1 0 q.toNatClampNeg = 2 by rw [a']; decide), if_pos a, if_pos a', d, d']
          by_cases c3 : m.2.2.1 1 s.toNatClampNeg = m.2.2.1 1 q.toNatClampNeg
          · rw [if_pos c3, if_pos c3, if_pos c, if_pos c', if_neg (show ¬ m.2.2.1 0 s.toNatClampNeg = 0 by rw [a]; decide), if_neg (show ¬ m.2.2.1 0 q.toNatClampNeg = 0 by rw [a']; decide), ← f, ← f']
            by_cases k1 : n < 0
            · rw [if_pos k1, if_pos (hasP_0 (Or.inl k1))]; exact R_f2 h
            · rw [if_neg k1]
              by_cases k2 : i < 0
              · rw [if_pos k2, if_pos (hasP_0 (Or.inr (Or.inl k2)))]; exact R_f2 h
              · rw [if_neg k2]
                by_cases k3 : j < 0
                · rw [if_pos k3]
                  split
                  · exact R_f2 h
                  · rw [if_pos (hasP_0 (Or.inr (Or.inl k3)))]; exact R_f2 h
                · rw [if_neg k3]
                  by_cases k4 : (x.2.2.1 s.toNatClampNeg).2.2 < n
                  · rw [if_pos k4, if_pos (hasP_0 (Or.inr (Or.inr (Or.inl k4))))]; exact R_f2 h
                  · rw [if_neg k4]
                    by_cases k5 : (x.2.2.1 q.toNatClampNeg).2.2 < n
                    · rw [if_pos k5]
                      split
                      · exact R_f2 h
                      · rw [if_pos (hasP_0 (Or.inr (Or.inr (Or.inl k5))))]; exact R_f2 h
                    · rw [if_neg k5]
                      by_cases k6 : (x.2.2.1 s.toNatClampNeg).2.2 - n < i
                      · rw [if_pos k6, if_pos (hasP_0 (Or.inr (Or.inr (Or.inr k6))))]; exact R_f2 h
                      · rw [if_neg k6, if_neg (hasP_1 k1 k2 k4 k6)]
                        by_cases k7 : j ≤ (x.2.2.1 q.toNatClampNeg).2.2 - n
                        · have k7' := Int32.not_lt.mpr k7
                          rw [if_pos k7, if_neg (hasP_1 k1 k3 k5 k7')]
                          obtain ⟨Z1, hZ1, ez1⟩ := h.2.2.2.1 _ hs
                          obtain ⟨Z2, hZ2, ez2⟩ := h.2.2.2.1 _ hq
                          obtain ⟨a1, m1, ei, en, hle1⟩ := cp_nat ez1 hZ1 k1 k2 k4 k6
                          obtain ⟨a2, m2, ej, en2, hle2⟩ := cp_nat ez2 hZ2 k1 k3 k5 k7'
                          obtain rfl : m1 = m2 := (nI_eq (by omega) (by omega)).mp (en.symm.trans en2)
                          have ec : va_cpy (m.2.2.2.1 s.toNatClampNeg) (m.2.2.2.1 q.toNatClampNeg) a1 a2 m1 = cpM2 (m.2.2.2.1 q.toNatClampNeg) (cpM1 (m.2.2.2.1 s.toNatClampNeg) m.2.2.2.2.1 (nI a1) m1) (nI a2) m1 := cpy_eq (by omega) (by omega)
                          have r1 : n.toNatClampNeg = m1 := by rw [en, nI_clamp (by omega)]
                          have r2 : i.toNatClampNeg = a1 := by rw [ei, nI_clamp (by omega)]
                          have r3 : j.toNatClampNeg = a2 := by rw [ej, nI_clamp (by omega)]
                          rw [r1, r2, r3, mcp3, r1, g, g', ec, ei, ej]
                          generalize hc : cpM2 (m.2.2.2.1 q.toNatClampNeg) (cpM1 (m.2.2.2.1 s.toNatClampNeg) m.2.2.2.2.1 (nI a1) m1) (nI a2) m1 = C
                          exact R_mk rfl (h.sh (s := q.toNatClampNeg) (sh := (C, (x.2.2.1 q.toNatClampNeg).2)) (A' := m.2.2.1) (R' := upL m.2.2.2.1 q.toNatClampNeg C) (fun _ _ => rfl) (fun _ _ _ => rfl) (fun j hj => if_neg hj) (Or.inr (Or.inl ⟨a', d', e', f', upL_at.symm⟩)) (h.2.2.2.1 _ hq) (h.2.2.2.2.1 _ hq)) rfl rfl rfl
                        · rw [if_neg k7, if_pos (hasP_0 (Or.inr (Or.inr (Or.inr (Int32.not_le.mp k7)))))]; exact R_f2 h
          · rw [if_neg c3, if_neg c3, if_pos c, if_pos c']; exact R_f3 h
        · rw [if_pos b', if_pos c, if_neg c', if_pos a']; exact R_f3 h
      · rw [if_pos b, if_neg c, if_pos a]; exact R_f3 h
/-! players, lines, what is asked, the tape -/
theorem room_n {v : CV} (h : Iv v) : hasRoomF v = 0 ↔ v.1 0 = 10 := by
  obtain ⟨h0, e⟩ := h.nq
  unfold hasRoomF
  rw [e]
  by_cases c : 10 ≤ np v
  · rw [if_pos (show (10 : Int32) ≤ nI (np v) from nI_le (a := 10) c (by omega)), show np v = 10 by omega]; exact ⟨fun _ => rfl, fun _ => rfl⟩
  · rw [if_neg (show ¬ (10 : Int32) ≤ nI (np v) from nI_ge (b := 10) (by omega) (by omega))]
    refine ⟨fun q => absurd q (by decide), fun q => absurd ((nI_eq (b := 10) (by omega) (by decide)).mp q) (by omega)⟩
theorem pl_mono {v : CV} (h : Iv v) (c : ¬ 10 ≤ v.1 0) (k s a p : Int32) (hp : ¬ isPlF v p = 0) : ¬ isPlF (addV v k s a) p = 0 := by
  obtain ⟨j, hj, rfl⟩ := pl_nb h hp
  obtain ⟨h0, e⟩ := h.nq
  unfold isPlF isInF
  show ¬ (if nI j < 0 then (0 : Int32) else if v.1 0 + 1 - 1 < nI j then 0 else 1) = 0
  rw [if_neg (nI_pos (by omega)), Int32.add_sub_cancel, e, if_neg (nI_nlt (by omega) (by omega))]
  decide
theorem setR_2 {x : XV} {v : CV} : (setR x 0 v).1 2 = x.1 2 := by
  show (if (2 : Nat) = 0 then v else x.1 2) = x.1 2
  exact if_neg (by decide)
theorem R_player {x : XV} {m : Mst} (h : Rl x m) (k s a : Int32) : Rs x m (xplayer x k s a) (mplayer m k s a) := by
  unfold xplayer mplayer
  rw [h.1]
  by_cases c1 : isInF k 0 5 = 0
  · rw [if_pos c1, if_pos c1]; exact R_f2 h
  · rw [if_neg c1, if_neg c1]
    by_cases c2 : isInF s 1 99 = 0
    · rw [if_pos c2, if_pos c2]; exact R_f2 h
    · rw [if_neg c2, if_neg c2]
      by_cases c3 : isInF a 0 9 = 0
      · rw [if_pos c3, if_pos c3]; exact R_f2 h
      · rw [if_neg c3, if_neg c3]
        have hr := room_n h.2.1
        by_cases c4 : m.1.1 0 = 10
        · rw [if_pos c4, if_pos (hr.mpr c4)]; exact R_f6 h
        · have c5 : ¬ hasRoomF m.1 = 0 := fun q => c4 (hr.mp q)
          have c6 : ¬ 10 ≤ m.1.1 0 := fun q => c5 (by unfold hasRoomF; rw [if_pos q])
          rw [if_neg c4, if_neg c5]
          have n1 := nb_of (a := 0) (b := 5) rfl rfl (by decide) (by decide) c1
          have n2 := nb_of (a := 1) (b := 99) rfl rfl (by decide) (by decide) c2
          have n3 := nb_of (a := 0) (b := 9) rfl rfl (by decide) (by decide) c3
          refine R_mk ?_ (h.v (h.2.1.addP c6 n1 n2 n3) (fun p hp => pl_mono h.2.1 c6 k s a p hp)) setR_2 rfl rfl
          show m.1.1 0 = m.1.1 0 + 1 - 1
          rw [Int32.add_sub_cancel]
theorem Iv.s1 {v : CV} (h : Iv v) {j : Nat} {y : Int32} (hy : nb y 1 99) : Iv (v.1, upA v.2 1 (upd (v.2 1) j y)) := by
  obtain ⟨P, hP, e, h1, h2, h3, h4, h5, h6, h7, h8, h9, h10⟩ := h
  refine ⟨P, hP, e, h1, h2, h3, h4, h5, h6, h7, h8, fun p hp => ?_, h10⟩
  obtain ⟨a1, a2, a3, a4⟩ := h9 p hp
  refine ⟨a1, ?_, a3, a4⟩
  show nb (upd (v.2 1) j y p) 1 99
  unfold upd
  split
  · exact hy
  · exact a2
theorem Iv.s3 {v : CV} (h : Iv v) {j : Nat} {y : Int32} (hy : nb y 0 100) : Iv (v.1, upA v.2 3 (upd (v.2 3) j y)) := by
  obtain ⟨P, hP, e, h1, h2, h3, h4, h5, h6, h7, h8, h9, h10⟩ := h
  refine ⟨P, hP, e, h1, h2, h3, h4, h5, h6, h7, h8, fun p hp => ?_, h10⟩
  obtain ⟨a1, a2, a3, a4⟩ := h9 p hp
  refine ⟨a1, a2, a3, ?_⟩
  show nb (upd (v.2 3) j y p) 0 100
  unfold upd
  split
  · exact hy
  · exact a4
theorem R_tell {x : XV} {m : Mst} (h : Rl x m) (q t y : Int32) : Rs x m (xtell x q t y) (mtell m q t y) := by
  unfold xtell mtell tellB
  rw [h.1]
  by_cases c1 : isPlF m.1 q = 0
  · rw [if_pos c1, if_pos c1]; exact R_f2 h
  · rw [if_neg c1, if_neg c1]
    by_cases c2 : t = 0
    · rw [if_pos c2, if_pos c2]
      by_cases c3 : isInF y 1 99 = 0
      · rw [if_pos c3, if_pos c3, if_neg (by rw [c2]; decide)]; exact R_f2 h
      · rw [if_neg c3, if_neg c3]
        exact R_v h (h.2.1.s1 (nb_of (a := 1) (b := 99) rfl rfl (by decide) (by decide) c3)) rfl rfl
    · rw [if_neg c2, if_neg c2]
      by_cases c3 : t = 1
      · rw [if_pos c3, if_pos c3]
        by_cases c4 : isInF y 0 100 = 0
        · rw [if_pos c4, if_pos c4]; exact R_f2 h
        · rw [if_neg c4, if_neg c4]
          exact R_v h (h.2.1.s3 (nb_of (a := 0) (b := 100) rfl rfl (by decide) (by decide) c4)) rfl rfl
      · rw [if_neg c3, if_neg c3]; exact R_f2 h
theorem shr_n {k P : Nat} (hk : k < 2 ^ 31) (hP : P < 11) : nI k >>> (nI P &&& 31) = nI (k / 2 ^ P) := by
  refine pk_shrN hk _ P ?_
  have : ∀ P, P < 11 → ((nI P &&& 31).toBitVec.smod 32).toNat = P := by decide
  exact this P hP
theorem R_line {x : XV} {m : Mst} (h : Rl x m) (l s : Int32) : Rs x m (xline x l s) (mline m l s) := by
  unfold xline mline
  rw [h.1]
  by_cases c1 : isInF l 0 3 = 0
  · rw [if_pos c1, if_pos c1]; exact R_f2 h
  · rw [if_neg c1, if_neg c1]
    obtain ⟨h0, e⟩ := h.2.1.nq
    have hp10 := pow10 h0
    have h2 : 0 < 2 ^ np m.1 := Nat.two_pow_pos _
    have ee : everyF m.1 = nI (2 ^ np m.1 - 1) := by rw [everyF, oneS e h0, nI_pred]
    by_cases c2 : s < 0
    · rw [if_pos c2, if_pos (by unfold isInF; rw [if_pos c2])]; exact R_f2 h
    · rw [if_neg c2]
      obtain ⟨k, hk, rfl⟩ := nI_of c2
      rw [e, shr_n hk (by omega), ee]
      by_cases c3 : k < 2 ^ np m.1
      · rw [if_pos (show nI (k / 2 ^ np m.1) = 0 by rw [Nat.div_eq_of_lt c3]; rfl), if_neg (show ¬ isInF (nI k) 0 (nI (2 ^ np m.1 - 1)) = 0 by unfold isInF; rw [if_neg c2, if_neg (nI_nlt (by omega) (by omega))]; decide), bits_bc (show k < 1024 by omega)]
        by_cases c4 : bcF (nI k) ≤ 5
        · rw [if_pos c4, if_neg (Int32.not_lt.mpr c4)]
          exact R_v h (h.2.1.lnv (ln_in c1) c3) rfl rfl
        · rw [if_neg c4, if_pos (Int32.not_le.mp c4)]; exact R_f2 h
      · have hd : 0 < k / 2 ^ np m.1 := Nat.div_pos (by omega) h2
        have hd2 : k / 2 ^ np m.1 ≤ k := Nat.div_le_self _ _
        rw [if_neg (show ¬ nI (k / 2 ^ np m.1) = 0 from nI_ne0 hd (by omega)), if_pos (show isInF (nI k) 0 (nI (2 ^ np m.1 - 1)) = 0 by unfold isInF; rw [if_neg c2, if_pos (nI_lt (by omega) (by omega))])]
        exact R_f2 h
theorem R_ask {x : XV} {m : Mst} (h : Rl x m) (t y : Int32) : Rs x m (xask x t y) (mask m t y) := by
  unfold xask mask xask1 xask2 xask3 rS
  rw [h.1]
  by_cases c0 : t = 0
  · subst c0
    rw [if_pos rfl, ask0]
    by_cases d : isInF y 0 2 = 0
    · rw [if_pos d, if_pos d, if_neg (by decide), if_neg (by decide), if_neg (by decide)]; exact R_f2 h
    · rw [if_neg d, if_neg d, if_pos rfl, bec0]
      exact R_v h (h.2.1.s4 (nb_of (a := 0) (b := 2) rfl rfl (by decide) (by decide) d)) rfl rfl
  · rw [if_neg c0]
    by_cases c1 : t = 1
    · subst c1
      rw [if_pos rfl, ask1]
      by_cases d : isInF y 0 1 = 0
      · rw [if_pos d, if_neg (show ¬ (1 : Int32) = 2 by decide), if_neg (show ¬ (1 : Int32) = 3 by decide), if_pos d]; exact R_f2 h
      · rw [if_neg d, if_neg d, if_neg (by decide), if_pos rfl, bec1]
        exact R_v h (h.2.1.s5 (nb_of (a := 0) (b := 1) rfl rfl (by decide) (by decide) d)) rfl rfl
    · rw [if_neg c1]
      by_cases c2 : t = 2
      · subst c2
        rw [if_pos rfl]
        by_cases d : isInF y 1 999 = 0
        · rw [if_pos d, if_pos (ask2.mpr d), if_neg (by decide)]; exact R_f2 h
        · rw [if_neg d, if_neg (fun q => d (ask2.mp q)), if_neg (by decide), if_neg (by decide), if_pos rfl, bec2]
          exact R_v h (h.2.1.s6 (nb_of (a := 1) (b := 999) rfl rfl (by decide) (by decide) d)) rfl rfl
      · rw [if_neg c2]
        by_cases c3 : t = 3
        · subst c3
          rw [if_pos rfl, ask3]
          by_cases d : isInF y 0 1 = 0
          · rw [if_pos d, if_pos d]; exact R_f2 h
          · rw [if_neg d, if_neg d, if_neg (by decide), if_neg (by decide), if_neg (by decide), bec3]
            exact R_v h (h.2.1.s7 (nb_of (a := 0) (b := 1) rfl rfl (by decide) (by decide) d)) rfl rfl
        · rw [if_neg c3, if_pos (show askM t y = 0 by unfold askM; rw [if_neg c0, if_neg c1, if_neg c3, if_neg c2])]
          exact R_f2 h
theorem R_feed {x : XV} {m : Mst} (h : Rl x m) (l : Int32) : Rs x m (xfeed x l) (mfeed m l) := by
  unfold xfeed mfeed
  by_cases c1 : isInF l 0 255 = 0
  · rw [if_pos c1, if_pos c1]; exact R_f2 h
  · rw [if_neg c1, if_neg c1]
    obtain ⟨g1, gI, g3, g4, g5, g6, g7, ⟨n, _, hn, en⟩, g9⟩ := id h
    rw [g7, en]
    by_cases c2 : n = 250
    · rw [if_pos (show nI n = 250 by rw [c2]; rfl), if_neg (show ¬ nI n < 250 by rw [c2]; decide)]; exact R_f6 h
    · rw [if_neg (show ¬ nI n = 250 from fun q => c2 ((nI_eq (b := 250) (by omega) (by decide)).mp q)), if_pos (show nI n < 250 from nI_lt (b := 250) (by omega) (by decide))]
      refine R_mk rfl ⟨g1, gI, g3, g4, g5, ?_, ?_, ?_, g9⟩ rfl rfl rfl
      · show upd x.2.1.1 (x.2.1.2 0).toNatClampNeg l = upd (m.2.2.1 4) (nI n).toNatClampNeg l
        rw [g6, g7, en]
      · show x.2.1.2 0 + 1 = nI n + 1
        rw [g7, en]
      · show nb (nI n + 1) 0 250
        rw [nI_1]; exact ⟨n + 1, Nat.zero_le _, by omega, rfl⟩
theorem R_wipe {x : XV} {m : Mst} (h : Rl x m) : Rs x m (xwipe x) (mwipe m) := by
  unfold xwipe mwipe
  obtain ⟨g1, gI, g3, g4, g5, g6, g7, g8, g9⟩ := h
  exact R_mk g7 ⟨g1, gI, g3, g4, g5, g6, rfl, nb00, g9⟩ rfl rfl rfl
theorem R_seed {x : XV} {m : Mst} (h : Rl x m) (y : Int32) : Rs x m (xseed x y) (mseed m y) := by
  unfold xseed mseed rS
  rw [h.1]
  exact R_v h (h.2.1.cg (u := (upd m.1.1 12 y, m.1.2)) (fun i hi => if_neg (by omega)) rfl) rfl rfl
