/-! what stays within its bounds -/
theorem Iv.cg {u v : CV} (h : Iv v) (h1 : ∀ i, i < 8 → u.1 i = v.1 i) (h2 : u.2 = v.2) : Iv u := by
  unfold Iv at *
  rw [h1 0 (by decide), h1 1 (by decide), h1 2 (by decide), h1 3 (by decide), h1 4 (by decide), h1 5 (by decide), h1 6 (by decide), h1 7 (by decide), h2]
  exact h
theorem Iv.s4 {v : CV} (h : Iv v) {t : Int32} (ht : nb t 0 2) : Iv (setS v 4 t) := by
  obtain ⟨P, hP, e, h1, h2, h3, h4, h5⟩ := h
  exact ⟨P, hP, e, h1, h2, h3, ht, h5⟩
theorem Iv.s5 {v : CV} (h : Iv v) {t : Int32} (ht : nb t 0 1) : Iv (setS v 5 t) := by
  obtain ⟨P, hP, e, h1, h2, h3, h4, h5, h6⟩ := h
  exact ⟨P, hP, e, h1, h2, h3, h4, ht, h6⟩
theorem Iv.s6 {v : CV} (h : Iv v) {t : Int32} (ht : nb t 1 999) : Iv (setS v 6 t) := by
  obtain ⟨P, hP, e, h1, h2, h3, h4, h5, h6, h7⟩ := h
  exact ⟨P, hP, e, h1, h2, h3, h4, h5, ht, h7⟩
theorem Iv.s7 {v : CV} (h : Iv v) {t : Int32} (ht : nb t 0 1) : Iv (setS v 7 t) := by
  obtain ⟨P, hP, e, h1, h2, h3, h4, h5, h6, h7, h8⟩ := h
  exact ⟨P, hP, e, h1, h2, h3, h4, h5, h6, ht, h8⟩
theorem Iv.on' {v : CV} (h : Iv v) {s : Int32} (hs : nb s 0 (2 ^ np v - 1)) : Iv (putOnV v s) := by
  obtain ⟨P, hP, e, h1, h2, h3, h4, h5, h6, h7, h8, h9, h10⟩ := h
  rw [np_of e hP] at hs
  refine ⟨P, hP, e, hs, nb00, ⟨nb00, ⟨fun _ => rfl, fun _ => rfl⟩⟩, h4, h5, h6, h7, h8, h9, fun p _ q => ?_⟩
  have : bitF ((putOnV v s).1 2) (nI p) = 0 := bit_0 _
  rw [this] at q; exact absurd q (by decide)
theorem Iv.ln {v : CV} (h : Iv v) {l : Nat} (hl : l < 4) : nb (v.2 4 l) 0 (2 ^ np v - 1) := h.at.2.2.2.2.2.2.2.1 l hl
theorem Iv.onl {v : CV} (h : Iv v) {l : Int32} (hl : vp_in l 4) : Iv (putOnV v (v.2 4 l.toNatClampNeg)) := by
  obtain ⟨j, hj, rfl⟩ := vp4 hl
  rw [nI_clamp (by omega)]
  exact h.on' (h.ln hj)
theorem i32_ext {x y : Int32} (h : x.toBitVec.toNat = y.toBitVec.toNat) : x = y := Int32.toBitVec_inj.mp (BitVec.eq_of_toNat_eq h)
theorem and_le {a : Nat} (h : a < 2 ^ 31) (y : Int32) : ∃ c, c ≤ a ∧ nI a &&& y = nI c := by
  refine ⟨a &&& y.toBitVec.toNat, Nat.and_le_left, i32_ext ?_⟩
  have hc : a &&& y.toBitVec.toNat ≤ a := Nat.and_le_left
  rw [Int32.toBitVec_and, BitVec.toNat_and, pk_tn (by omega), pk_tn (by omega)]
theorem bit_and {x y p : Int32} (h : bitF (x &&& y) p = 1) : bitF x p = 1 := by
  rcases bit01 x p with c | c
  · exfalso
    unfold bitF at h c
    rw [show (x &&& y) >>> (p &&& 31) = (x >>> (p &&& 31)) &&& (y >>> (p &&& 31)) from Int32.shiftRight_and, Int32.and_assoc, Int32.and_comm (y >>> (p &&& 31)), ← Int32.and_assoc, c, Int32.zero_and] at h
    exact absurd h (by decide)
  · exact c
theorem wm_n {v : CV} {l : Nat} (h : nb (v.1 5) 0 1) : ∀ k, ∃ a b : Nat, a ≤ 5 ∧ b ≤ k ∧ wmTo v l k = nI a - nI b
  | 0 => by
    rw [wmTo]
    by_cases c1 : v.1 5 = 1 <;> by_cases c2 : v.1 4 = 2
    · rw [if_pos c1, if_pos c2]; exact ⟨3, 0, by decide, by decide, by decide⟩
    · rw [if_pos c1, if_neg c2]; exact ⟨5, 0, by decide, by decide, by decide⟩
    · rw [if_neg c1, if_pos c2]; exact ⟨1, 0, by decide, by decide, by decide⟩
    · rw [if_neg c1, if_neg c2]; exact ⟨3, 0, by decide, by decide, by decide⟩
  | k + 1 => by
    obtain ⟨a, b, ha, hb, e⟩ := wm_n (v := v) (l := l) h k
    rw [wmTo, e, Int32.sub_zero]
    have e1 : nI a - nI b - 1 = nI a - nI (b + 1) := by
      rw [← nI_1, Int32.sub_eq_add_neg, Int32.sub_eq_add_neg, Int32.sub_eq_add_neg, Int32.neg_add, Int32.sub_eq_add_neg, Int32.add_assoc]
    split
    · exact ⟨a, b, ha, by omega, rfl⟩
    · split
      · exact ⟨a, b + 1, ha, by omega, e1⟩
      · split
        · exact ⟨a, b + 1, ha, by omega, e1⟩
        · exact ⟨a, b, ha, by omega, rfl⟩
theorem way_n {v : CV} {l : Int32} (h : nb (v.1 5) 0 1) (h0 : np v ≤ 10) : nb (wayM v l) 0 5 ∧ (wayM v l = 0 ↔ v.2 4 l.toNatClampNeg &&& notI (v.1 1) = 0) := by
  unfold wayM
  by_cases c : v.2 4 l.toNatClampNeg &&& notI (v.1 1) = 0
  · rw [if_pos c]; exact ⟨nb00, ⟨fun _ => c, fun _ => rfl⟩⟩
  · rw [if_neg c]
    obtain ⟨a, b, ha, hb, e⟩ := wm_n (l := l.toNatClampNeg) h (np v)
    rw [e]
    by_cases c2 : nI a - nI b ≤ 1
    · rw [if_pos c2]; exact ⟨⟨1, by decide, by decide, rfl⟩, ⟨fun q => absurd q (by decide), fun q => absurd q c⟩⟩
    · rw [if_neg c2]
      have hlt : b < a := Nat.not_le.mp fun q => c2 (by
        rcases Nat.lt_or_eq_of_le q with z | z
        · exact Int32.le_of_lt (Int32.lt_of_lt_of_le (pk_sneg (by omega) z) (by decide))
        · rw [z, pk_sub (Nat.le_refl _), Nat.sub_self]; decide)
      rw [pk_sub (by omega)]
      exact ⟨⟨a - b, by omega, by omega, rfl⟩, ⟨fun q => absurd q (nI_ne0 (by omega) (by omega)), fun q => absurd q c⟩⟩
theorem Iv.ch {v : CV} (h : Iv v) {l : Int32} (hl : vp_in l 4) : Iv (chM v l) := by
  have h0 := h.nq.1
  obtain ⟨w1, w2⟩ := way_n (l := l) h.at.2.2.2.2.1 h0
  obtain ⟨j, hj, rfl⟩ := vp4 hl
  have hln := h.ln hj
  obtain ⟨P, hP, e, h1, h2, h3, h4, h5, h6, h7, h8, h9, h10⟩ := h
  rw [np_of e hP] at hln
  have ecl : (nI j).toNatClampNeg = j := nI_clamp (by omega)
  refine ⟨P, hP, e, ?_, ?_, ⟨w1, ?_⟩, h4, h5, h6, h7, h8, h9, fun p _ q => ?_⟩
  · show nb (v.2 4 (nI j).toNatClampNeg) 0 (2 ^ P - 1)
    rw [ecl]; exact hln
  · show nb (v.2 4 (nI j).toNatClampNeg &&& notI (v.1 1)) 0 (2 ^ P - 1)
    rw [ecl]
    obtain ⟨n, _, hn, en⟩ := hln
    have := pow10 hP
    obtain ⟨c, hc, ec⟩ := and_le (a := n) (by omega) (notI (v.1 1))
    exact ⟨c, Nat.zero_le _, by omega, by rw [en, ec]⟩
  · exact w2
  · exact bit_and q
theorem Iv.tm {v : CV} (h : Iv v) : Iv (tmV v) := by
  obtain ⟨h0, h00⟩ := h.nq
  have H := h.at
  have enp : np (tmV v) = np v := np_cg (by rw [tm_1])
  refine Iv.mk (by rw [enp]; exact h0) (by rw [enp, tm_1]; exact h00) ?_
  rw [enp, tm_1]
  obtain ⟨h1, h2, h3, h4, h5, h6, h7, h8, h9, h10⟩ := H
  refine ⟨h1, h2, h3, h4, h5, h6, h7, fun l hl => ?_, fun p hp => ?_, h10⟩
  · rw [tmV, tmTo_i (by decide)]; exact h8 l hl
  · rw [tmV, tmTo_i (i := 0) (by decide), tmTo_i (i := 1) (by decide), tmTo_i (i := 2) (by decide), tmTo_3 _ h0, if_pos hp, ← ti_1 (by omega)]
    obtain ⟨a1, a2, a3, t, _, ht, et⟩ := h9 p hp
    exact ⟨a1, a2, a3, tN v 1 p t, Nat.zero_le _, tN_le ht, ti_n (k := 1) (by omega) ht et⟩
theorem Iv.come {v : CV} (h : Iv v) : Iv (comeV 1 v) := by
  obtain ⟨h0, h00⟩ := h.nq
  obtain ⟨h1, h2, ⟨⟨y, _, hy, e⟩, h3'⟩, h4, h5, h6, h7, h8, h9, h10⟩ := h.at
  have E := come_at (k := 1) (show y ≤ 1000 by omega) (by omega) e
  rw [show nI 1 = (1 : Int32) from rfl] at E
  have e0 : (comeV 1 v).1 0 = v.1 0 := by rw [E]; rfl
  have e1 : (comeV 1 v).1 1 = v.1 1 := by rw [E]; rfl
  have e2 : (comeV 1 v).1 2 = if y ≤ 1 then 0 else v.1 2 := by rw [E]; rfl
  have e3 : (comeV 1 v).1 3 = nI (y - 1) := by rw [E]; rfl
  have e4 : (comeV 1 v).1 4 = v.1 4 := by rw [E]; rfl
  have e5 : (comeV 1 v).1 5 = v.1 5 := by rw [E]; rfl
  have e6 : (comeV 1 v).1 6 = v.1 6 := by rw [E]; rfl
  have e7 : (comeV 1 v).1 7 = v.1 7 := by rw [E]; rfl
  have enp : np (comeV 1 v) = np v := np_cg e0
  refine Iv.mk (by rw [enp]; exact h0) (by rw [enp, e0]; exact h00) ?_
  rw [enp, e1, e2, e3, e4, e5, e6, e7, come_2]
  refine ⟨h1, ?_, ⟨⟨y - 1, by omega, by omega, rfl⟩, ?_⟩, h4, h5, h6, h7, h8, h9, fun p hp => ?_⟩
  · split
    · exact nb00
    · exact h2
  · by_cases c : y ≤ 1
    · rw [if_pos c, show y - 1 = 0 by omega]; exact ⟨fun _ => rfl, fun _ => rfl⟩
    · rw [if_neg c]
      refine ⟨fun q => absurd q (nI_ne0 (by omega) (by omega)), fun q => ?_⟩
      have := h3'.mpr q
      rw [e] at this
      exact absurd this (nI_ne0 (by omega) (by omega))
  · by_cases c : y ≤ 1
    · rw [if_pos c, bit_0]; intro q; exact absurd q (by decide)
    · rw [if_neg c]; exact h10 p hp
/-! a second in truth -/
theorem sm2_eq {u : CV} : sm2 u = secV u := by
  unfold sm2 secV
  by_cases c : u.1 2 = 0
  · rw [if_pos c, if_pos c, Int32.add_zero]
    refine Prod.ext (funext fun i => ?_) rfl
    show upd (upd u.1 8 (u.1 8 + 1)) 9 (u.1 9) i = upd u.1 8 (u.1 8 + 1) i
    unfold upd
    by_cases i9 : i = 9
    · subst i9; rfl
    · rw [if_neg i9]
  · rw [if_neg c, if_neg c]
theorem sec_lo {u : CV} {i : Nat} (h : i < 8) : (secV u).1 i = u.1 i := by
  unfold secV
  split
  · show upd u.1 8 _ i = _
    exact if_neg (by omega)
  · show upd (upd u.1 8 _) 9 _ i = _
    unfold upd
    rw [if_neg (by omega), if_neg (by omega)]
theorem sec_22 {u : CV} : (secV u).2 = u.2 := by
  unfold secV
  split <;> rfl
theorem Iv.sec {u : CV} (h : Iv u) : Iv (secV u) := h.cg (fun _ hi => sec_lo hi) sec_22
theorem sco_eq {d : CV} {D F A : Int32} : scoreV d D F (F + A) = if F + A ≤ D then d else scM d D F := by
  unfold scoreV
  by_cases h : F + A ≤ D
  · rw [if_pos h, if_neg (Int32.not_lt.mpr h)]
  · rw [if_neg h, if_pos (Int32.not_le.mp h)]
    unfold scM sD sB sA
    by_cases h2 : F ≤ D
    · rw [if_pos h2, if_pos h2]
      refine Prod.ext (funext fun i => ?_) rfl
      show upd (upd d.1 11 (d.1 11 + 1)) 4 1 i = upd (upd (upd d.1 10 (d.1 10 + 0)) 11 (upd d.1 10 (d.1 10 + 0) 11 + 1)) 4 1 i
      unfold upd
      by_cases i4 : i = 4
      · rw [if_pos i4, if_pos i4]
      · rw [if_neg i4, if_neg i4]
        by_cases i11 : i = 11
        · rw [if_pos i11, if_pos i11]; rfl
        · rw [if_neg i11, if_neg i11, Int32.add_zero]
          by_cases i10 : i = 10
          · rw [if_pos i10, i10]
          · rw [if_neg i10]
    · rw [if_neg h2, if_neg h2]
      refine Prod.ext (funext fun i => ?_) rfl
      show upd (upd d.1 10 (d.1 10 + 1)) 4 1 i = upd (upd (upd d.1 10 (d.1 10 + 1)) 11 (upd d.1 10 (d.1 10 + 1) 11 + 0)) 4 1 i
      unfold upd
      by_cases i4 : i = 4
      · rw [if_pos i4, if_pos i4]
      · rw [if_neg i4, if_neg i4]
        by_cases i11 : i = 11
        · rw [if_pos i11, i11, Int32.add_zero]
        · rw [if_neg i11]
theorem scu_eq {c : CV} {F A : Int32} : scoreV (drawV c) (drawF c 50000) F (F + A) = scU F A c := by
  rw [scU]; exact sco_eq
theorem play_eq {v : CV} (h : Iv v) : playV1 v = secM v := by
  have hu := h.tm
  have h3 := hu.sec.at.2.2.1
  unfold playV1 secM
  rw [tm_eq h.nq.1]
  generalize tmV v = u at hu h3
  show scoreV (drawV (comeV 1 (secV u))) (drawF (comeV 1 (secV u)) 50000) (oddsOF u (powAll u)) (oddsOF u (powAll u) + oddsAF u) = _
  rw [powA_eq hu.ib, come_1 h3.1 h3.2, ← sm2_eq]
  exact scu_eq
theorem Iv.drw {v : CV} (h : Iv v) : Iv (drawV v) := h.cg (fun i hi => if_neg (by omega)) rfl
theorem Iv.score {v : CV} (h : Iv v) (dr a b : Int32) : Iv (scoreV v dr a b) := by
  unfold scoreV
  have h1 : nb 1 0 2 := ⟨1, by decide, by decide, rfl⟩
  split
  · split
    · exact (h.cg (u := (upd v.1 11 (v.1 11 + 1), v.2)) (fun i hi => if_neg (by omega)) rfl).s4 h1
    · exact (h.cg (u := (upd v.1 10 (v.1 10 + 1), v.2)) (fun i hi => if_neg (by omega)) rfl).s4 h1
  · exact h
theorem Iv.play {v : CV} (h : Iv v) : Iv (playV1 v) := by
  unfold playV1
  rw [tm_eq h.nq.1]
  exact (h.tm.sec.come.drw).score _ _ _
theorem playTo_eq {v : CV} (h : Iv v) : ∀ k, playTo v k = (skTo v k).1 ∧ Iv (playTo v k) := by
  intro k
  induction k with
  | zero => exact ⟨rfl, h⟩
  | succ k ih =>
    have e : playTo v (k + 1) = playV1 (playTo v k) := by rw [playTo]
    rw [skTo_s, ← ih.1, e]
    exact ⟨play_eq ih.2, ih.2.play⟩
theorem up3a {A : Nat → Int32} {x y : Int32} : upd (upd (upd A 10 x) 11 y) 4 1 10 = x := by
  unfold upd
  rw [if_neg (by decide), if_neg (by decide), if_pos rfl]
theorem up3b {A : Nat → Int32} {x y : Int32} : upd (upd (upd A 10 x) 11 y) 4 1 11 = y := by
  unfold upd
  rw [if_neg (by decide), if_pos rfl]
theorem up3c {A : Nat → Int32} {x : Int32} : upd A 10 x 11 = A 11 := if_neg (by decide)
theorem scM_g {d : CV} {D F : Int32} : (scM d D F).1 10 + (scM d D F).1 11 = d.1 10 + d.1 11 + 1 := by
  unfold scM sD sB sA
  by_cases h : F ≤ D
  · rw [if_pos h]
    dsimp only
    rw [up3a, up3b, up3c, Int32.add_zero, Int32.add_assoc]
  · rw [if_neg h]
    dsimp only
    rw [up3a, up3b, up3c, Int32.add_zero, Int32.add_assoc, Int32.add_comm 1, Int32.add_assoc]
theorem dr_hi {c : CV} {i : Nat} (h : i ≠ 12) : (drawV c).1 i = c.1 i := if_neg h
theorem sg_goal {c d : CV} {D F A : Int32} (h1 : d.1 10 = c.1 10) (h2 : d.1 11 = c.1 11) : (if F + A ≤ D then d else scM d D F).1 10 + (if F + A ≤ D then d else scM d D F).1 11 = c.1 10 + c.1 11 + (if (if F + A ≤ D then (0 : Int32) else 1) = 0 then 0 else 1) := by
  by_cases h : F + A ≤ D
  · rw [if_pos h, if_pos h, if_pos (rfl : (0 : Int32) = 0), Int32.add_zero, h1, h2]
  · rw [if_neg h, if_neg h, if_neg (show ¬ (1 : Int32) = 0 by decide), scM_g, h1, h2]
theorem sc_goal {c : CV} {F A : Int32} : (scU F A c).1 10 + (scU F A c).1 11 = c.1 10 + c.1 11 + (if sgU F A c = 0 then 0 else 1) := by
  rw [scU, sgU]
  exact sg_goal (dr_hi (by decide)) (dr_hi (by decide))
theorem cm_hi {v : CV} : (cmV v).1 10 = v.1 10 ∧ (cmV v).1 11 = v.1 11 := by
  unfold cmV
  split
  · exact ⟨rfl, rfl⟩
  · split <;> exact ⟨rfl, rfl⟩
theorem sec_goal {v : CV} : (secM v).1 10 + (secM v).1 11 = v.1 10 + v.1 11 + (if secG v = 0 then 0 else 1) := by
  rw [secM, secG, sc_goal, cm_hi.1, cm_hi.2]
  have a1 : (sm2 (tmV v)).1 10 = (tmV v).1 10 := by unfold sm2; dsimp only; unfold upd; rw [if_neg (by decide), if_neg (by decide)]
  have a2 : (sm2 (tmV v)).1 11 = (tmV v).1 11 := by unfold sm2; dsimp only; unfold upd; rw [if_neg (by decide), if_neg (by decide)]
  rw [a1, a2, tm_1]
theorem sk_goal {v : CV} : ∀ k, (skTo v k).1.1 10 + (skTo v k).1.1 11 = v.1 10 + v.1 11 + (skTo v k).2 := by
  intro k
  induction k with
  | zero =>
    have e : skTo v 0 = (v, 0) := by rw [skTo]
    rw [e, Int32.add_zero]
  | succ k ih =>
    rw [skTo_s, sec_goal, ih, Int32.add_assoc]
    have e : (skTo v (k + 1)).2 = (skTo v k).2 + (if secG (skTo v k).1 = 0 then 0 else 1) := by rw [skTo]
    rw [e]
theorem playF_eq {v : CV} (h : Iv v) {m : Nat} (hm : m < 2 ^ 31) : playF v (nI m) = (skTo v m).2 := by
  rw [playF, nI_clamp hm, (playTo_eq h m).1, sk_goal, Int32.add_comm (v.1 10 + v.1 11), Int32.add_sub_cancel]
