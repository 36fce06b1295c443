/-! the shares sought level by level are the shares in their order -/
abbrev cM (v : CV) : Nat → Prop := fun k => ¬ mayF v (nI k) 0 4 = 0
abbrev gM (v : CV) : Nat → Int32 := fun k => (gsh v (nI k) 4).2
def Rz (e : M5) (z : Int32 × Int32) : Prop := (e.1 10 = 0 ∧ z = (-1, 0)) ∨ (e.1 10 = 1 ∧ ∃ s, s < 729 ∧ z = (nI s, e.1 9) ∧ ∀ l, l < 4 → e.2.1 8 l = spellsF (nI s) (nI l))
theorem lf1_7 {e : M5} {l : Nat} (hl : l < 2 ^ 31) {x : Int32} (i : Nat) : (lf1 e (nI l) x).2.1 7 i = if i = l then x else e.2.1 7 i := by
  unfold lf1
  show upd (e.2.1 7) (nI l).toNatClampNeg x i = _
  rw [nI_clamp hl]; rfl
theorem Rz.lf1 {e : M5} {z : Int32 × Int32} (h : Rz e z) (l x : Int32) : Rz (lf1 e l x) z := h
theorem lf2_7 {v : CV} {e : M5} : (lf2 v e).2.1 7 = e.2.1 7 := by
  unfold lf2 lf3
  split
  · rfl
  · split <;> rfl
theorem lf2_ok {v : CV} {e : M5} {z : Int32 × Int32} {s : Nat} (hs : s < 729) (hR : Rz e z) (hA : ∀ l, l < 4 → e.2.1 7 l = spellsF (nI s) (nI l)) (hg : spG v e = gM v s) : Rz (lf2 v e) (offerF z (nI s) (gM v s)) := by
  have h3 : Rz (lf3 e (gM v s)) (nI s, gM v s) := by
    right
    unfold lf3
    exact ⟨rfl, s, hs, rfl, hA⟩
  unfold lf2
  rw [hg]
  rcases hR with ⟨h1, rfl⟩ | ⟨h1, s', hs', rfl, h2⟩
  · rw [if_pos h1, offer_n]; exact h3
  · rw [if_neg (by rw [h1]; decide), offer_s (nI_nm1 (by omega))]
    split
    · exact Or.inr ⟨h1, s', hs', rfl, h2⟩
    · exact h3
theorem leaf_ok {v : CV} (h : Iv v) {e : M5} {z : Int32 × Int32} {a0 a1 a2 a : Nat} (hs : a0 + a1 + a2 + a = 8) (hR : Rz e z) (m0 : a0 = 0 ∨ ¬ v.2 4 0 = 0) (m1 : a1 = 0 ∨ ¬ v.2 4 1 = 0) (m2 : a2 = 0 ∨ ¬ v.2 4 2 = 0) (s0 : e.2.1 7 0 = nI a0) (s1 : e.2.1 7 1 = nI a1) (s2 : e.2.1 7 2 = nI a2) : Rz (lfE v e a) (stp (cM v) (gM v) (81 * a0 + 9 * a1 + a2) z) ∧ ∀ i, i < 3 → (lfE v e a).2.1 7 i = e.2.1 7 i := by
  obtain ⟨e0, e1, e2, e3, _⟩ := spl_n (81 * a0 + 9 * a1 + a2) (by omega)
  obtain ⟨d0, d1, d2⟩ := spl_a (a0 := a0) (a1 := a1) (a2 := a2) (by omega) (by omega)
  rw [d0] at e0
  rw [d1] at e1
  rw [d2] at e2
  rw [d0, d1, d2] at e3
  have e3 := e3 (by omega)
  rw [show 8 - a0 - a1 - a2 = a by omega] at e3
  have hmay := may_n (v := v) (a0 := a0) (a1 := a1) (a2 := a2) (by omega) (by omega) (by omega)
  have L := lf1_7 (e := e) (l := 3) (by decide) (x := nI a)
  generalize hs' : 81 * a0 + 9 * a1 + a2 = s at *
  have hs9 : s < 729 := by omega
  have L0 : (lf1 e (nI 3) (nI a)).2.1 7 0 = nI a0 := by rw [L, if_neg (by decide)]; exact s0
  have L1 : (lf1 e (nI 3) (nI a)).2.1 7 1 = nI a1 := by rw [L, if_neg (by decide)]; exact s1
  have L2 : (lf1 e (nI 3) (nI a)).2.1 7 2 = nI a2 := by rw [L, if_neg (by decide)]; exact s2
  have L3 : (lf1 e (nI 3) (nI a)).2.1 7 3 = nI a := by rw [L, if_pos rfl]
  have hA : ∀ l, l < 4 → (lf1 e (nI 3) (nI a)).2.1 7 l = spellsF (nI s) (nI l) := by
    intro l hl
    rcases (show l = 0 ∨ l = 1 ∨ l = 2 ∨ l = 3 by omega) with rfl | rfl | rfl | rfl
    · rw [L0, e0]
    · rw [L1, e1]
    · rw [L2, e2]
    · rw [L3, e3]
  have hg : spG v (lf1 e (nI 3) (nI a)) = gM v s := by
    unfold spG
    rw [show (40 : Int32) = nI 40 from rfl]
    refine congrArg Prod.snd (gs_eq h (s := nI s) 4 (Nat.le_refl _) (fun i hi => ?_)).1.symm
    rcases (show i = 0 ∨ i = 1 ∨ i = 2 ∨ i = 3 by omega) with rfl | rfl | rfl | rfl
    · exact ⟨a0, by omega, e0, L0⟩
    · exact ⟨a1, by omega, e1, L1⟩
    · exact ⟨a2, by omega, e2, L2⟩
    · exact ⟨a, by omega, e3, L3⟩
  have hR1 : Rz (lf1 e (nI 3) (nI a)) z := hR.lf1 _ _
  have hk7 : ∀ i, i < 3 → (lf1 e (nI 3) (nI a)).2.1 7 i = e.2.1 7 i := fun i hi => by rw [L, if_neg (by omega)]
  unfold lfE
  rw [nI_clamp (show 3 < 2 ^ 31 by decide)]
  generalize lf1 e (nI 3) (nI a) = e1 at *
  unfold stp
  by_cases c1 : a = 0
  · rw [if_pos (show nI a ≤ 0 by rw [c1]; decide), if_pos (hmay.mpr ⟨m0, m1, m2, by omega, Or.inl (by omega)⟩)]
    exact ⟨lf2_ok hs9 hR1 hA hg, fun i hi => by rw [lf2_7]; exact hk7 i hi⟩
  · rw [if_neg (show ¬ nI a ≤ 0 from nI_nle (by omega) (by omega))]
    by_cases c2 : v.2 4 3 = 0
    · rw [if_pos c2, if_neg (fun q => (hmay.mp q).2.2.2.2.elim (fun y => c1 (by omega)) (fun y => y c2))]
      exact ⟨hR1, hk7⟩
    · rw [if_neg c2, if_pos (hmay.mpr ⟨m0, m1, m2, by omega, Or.inr c2⟩)]
      exact ⟨lf2_ok hs9 hR1 hA hg, fun i hi => by rw [lf2_7]; exact hk7 i hi⟩
theorem no_may {v : CV} {a0 a1 a2 : Nat} (h0 : a0 ≤ 8) (h1 : a1 ≤ 8) (h2 : a2 ≤ 8) (h : ¬ myP v a0 a1 a2) {s : Nat} (hs : s = 81 * a0 + 9 * a1 + a2) : ¬ cM v s := by
  subst hs
  exact fun q => h ((may_n h0 h1 h2).mp q)
theorem lev2 {v : CV} (h : Iv v) {e : M5} {z : Int32 × Int32} {a0 a1 a : Nat} (hs : a0 + a1 + a = 8) (hR : Rz e z) (m0 : a0 = 0 ∨ ¬ v.2 4 0 = 0) (m1 : a1 = 0 ∨ ¬ v.2 4 1 = 0) (s0 : e.2.1 7 0 = nI a0) (s1 : e.2.1 7 1 = nI a1) : Rz (ndE v 2 (lfE v) e a) (pkf (cM v) (gM v) 9 (81 * a0 + 9 * a1) z) ∧ ∀ i, i < 2 → (ndE v 2 (lfE v) e a).2.1 7 i = e.2.1 7 i := by
  have loop : ∀ k, k ≤ a + 1 → (k ≤ 1 ∨ ¬ v.2 4 2 = 0) → Rz (ndTo (lfE v) 2 a e k) (pkf (cM v) (gM v) k (81 * a0 + 9 * a1) z) ∧ ∀ i, i < 2 → (ndTo (lfE v) 2 a e k).2.1 7 i = e.2.1 7 i := by
    intro k
    induction k with
    | zero => intro _ _; exact ⟨hR, fun _ _ => rfl⟩
    | succ k ih =>
      intro hk hl
      obtain ⟨i1, i2⟩ := ih (by omega) (hl.imp (fun q => by omega) id)
      have L := lf1_7 (e := ndTo (lfE v) 2 a e k) (l := 2) (by decide) (x := nI k)
      obtain ⟨j1, j2⟩ := leaf_ok h (e := lf1 (ndTo (lfE v) 2 a e k) (nI 2) (nI k)) (a0 := a0) (a1 := a1) (a2 := k) (a := a - k) (by omega) (i1.lf1 _ _) m0 m1 (hl.imp (fun q => by omega) id) (by rw [L, if_neg (by decide), i2 0 (by decide)]; exact s0) (by rw [L, if_neg (by decide), i2 1 (by decide)]; exact s1) (by rw [L, if_pos rfl])
      rw [ndTo_s, pkf]
      refine ⟨j1, fun i hi => ?_⟩
      rw [j2 i (by omega), L, if_neg (by omega), i2 i hi]
  have hE : ndE v 2 (lfE v) e a = if v.2 4 2 = 0 then ndTo (lfE v) 2 a e 1 else ndTo (lfE v) 2 a e (a + 1) := by rw [ndE]
  rw [hE]
  by_cases c : v.2 4 2 = 0
  · rw [if_pos c]
    have := loop 1 (by omega) (Or.inl (by omega))
    rw [show 9 = 1 + 8 from rfl, pkf_add 1 8, pkf_skip 8]
    · exact this
    · intro k hk
      exact no_may (a0 := a0) (a1 := a1) (a2 := 1 + k) (by omega) (by omega) (by omega) (fun q => q.2.2.1.elim (fun y => by omega) (fun y => y c)) (by omega)
  · rw [if_neg c]
    have := loop (a + 1) (by omega) (Or.inr c)
    rw [show pkf (cM v) (gM v) 9 (81 * a0 + 9 * a1) z = pkf (cM v) (gM v) ((a + 1) + (8 - a)) (81 * a0 + 9 * a1) z by rw [show (a + 1) + (8 - a) = 9 by omega], pkf_add (a + 1) (8 - a), pkf_skip (8 - a)]
    · exact this
    · intro k hk
      exact no_may (a0 := a0) (a1 := a1) (a2 := a + 1 + k) (by omega) (by omega) (by omega) (fun q => by have := q.2.2.2.1; omega) (by omega)
theorem lev1 {v : CV} (h : Iv v) {e : M5} {z : Int32 × Int32} {a0 a : Nat} (hs : a0 + a = 8) (hR : Rz e z) (m0 : a0 = 0 ∨ ¬ v.2 4 0 = 0) (s0 : e.2.1 7 0 = nI a0) : Rz (ndE v 1 (ndE v 2 (lfE v)) e a) (pkf (cM v) (gM v) 81 (81 * a0) z) ∧ (ndE v 1 (ndE v 2 (lfE v)) e a).2.1 7 0 = e.2.1 7 0 := by
  have loop : ∀ k, k ≤ a + 1 → (k ≤ 1 ∨ ¬ v.2 4 1 = 0) → Rz (ndTo (ndE v 2 (lfE v)) 1 a e k) (pkf (cM v) (gM v) (9 * k) (81 * a0) z) ∧ (ndTo (ndE v 2 (lfE v)) 1 a e k).2.1 7 0 = e.2.1 7 0 := by
    intro k
    induction k with
    | zero => intro _ _; exact ⟨hR, rfl⟩
    | succ k ih =>
      intro hk hl
      obtain ⟨i1, i2⟩ := ih (by omega) (hl.imp (fun q => by omega) id)
      have L := lf1_7 (e := ndTo (ndE v 2 (lfE v)) 1 a e k) (l := 1) (by decide) (x := nI k)
      obtain ⟨j1, j2⟩ := lev2 h (e := lf1 (ndTo (ndE v 2 (lfE v)) 1 a e k) (nI 1) (nI k)) (a0 := a0) (a1 := k) (a := a - k) (by omega) (i1.lf1 _ _) m0 (hl.imp (fun q => by omega) id) (by rw [L, if_neg (by decide), i2]; exact s0) (by rw [L, if_pos rfl])
      rw [ndTo_s, show 9 * (k + 1) = 9 * k + 9 by omega, pkf_add (9 * k) 9]
      refine ⟨j1, ?_⟩
      rw [j2 0 (by decide), L, if_neg (by decide), i2]
  have hE : ndE v 1 (ndE v 2 (lfE v)) e a = if v.2 4 1 = 0 then ndTo (ndE v 2 (lfE v)) 1 a e 1 else ndTo (ndE v 2 (lfE v)) 1 a e (a + 1) := by rw [ndE]
  rw [hE]
  by_cases c : v.2 4 1 = 0
  · rw [if_pos c]
    have := loop 1 (by omega) (Or.inl (by omega))
    rw [show 81 = 9 * 1 + 72 from rfl, pkf_add (9 * 1) 72, pkf_skip 72]
    · exact this
    · intro k hk
      exact no_may (a0 := a0) (a1 := 1 + k / 9) (a2 := k % 9) (by omega) (by omega) (by omega) (fun q => q.2.1.elim (fun y => by omega) (fun y => y c)) (by omega)
  · rw [if_neg c]
    have := loop (a + 1) (by omega) (Or.inr c)
    rw [show pkf (cM v) (gM v) 81 (81 * a0) z = pkf (cM v) (gM v) (9 * (a + 1) + (72 - 9 * a)) (81 * a0) z by rw [show 9 * (a + 1) + (72 - 9 * a) = 81 by omega], pkf_add (9 * (a + 1)) (72 - 9 * a), pkf_skip (72 - 9 * a)]
    · exact this
    · intro k hk
      exact no_may (a0 := a0) (a1 := a + 1 + k / 9) (a2 := k % 9) (by omega) (by omega) (by omega) (fun q => by have := q.2.2.2.1; omega) (by omega)
theorem lev0 {v : CV} (h : Iv v) {e : M5} {z : Int32 × Int32} (hR : Rz e z) : Rz (ndE v 0 (ndE v 1 (ndE v 2 (lfE v))) e 8) (pkf (cM v) (gM v) 729 0 z) := by
  have loop : ∀ k, k ≤ 8 + 1 → (k ≤ 1 ∨ ¬ v.2 4 0 = 0) → Rz (ndTo (ndE v 1 (ndE v 2 (lfE v))) 0 8 e k) (pkf (cM v) (gM v) (81 * k) 0 z) := by
    intro k
    induction k with
    | zero => intro _ _; exact hR
    | succ k ih =>
      intro hk hl
      have i1 := ih (by omega) (hl.imp (fun q => by omega) id)
      have L := lf1_7 (e := ndTo (ndE v 1 (ndE v 2 (lfE v))) 0 8 e k) (l := 0) (by decide) (x := nI k)
      obtain ⟨j1, j2⟩ := lev1 h (e := lf1 (ndTo (ndE v 1 (ndE v 2 (lfE v))) 0 8 e k) (nI 0) (nI k)) (a0 := k) (a := 8 - k) (by omega) (i1.lf1 _ _) (hl.imp (fun q => by omega) id) (by rw [L, if_pos rfl])
      rw [ndTo_s, show 81 * (k + 1) = 81 * k + 81 by omega, pkf_add (81 * k) 81, Nat.zero_add]
      exact j1
  have hE : ndE v 0 (ndE v 1 (ndE v 2 (lfE v))) e 8 = if v.2 4 0 = 0 then ndTo (ndE v 1 (ndE v 2 (lfE v))) 0 8 e 1 else ndTo (ndE v 1 (ndE v 2 (lfE v))) 0 8 e (8 + 1) := by rw [ndE]
  rw [hE]
  by_cases c : v.2 4 0 = 0
  · rw [if_pos c]
    have := loop 1 (by omega) (Or.inl (by omega))
    rw [show 729 = 81 * 1 + 648 from rfl, pkf_add (81 * 1) 648, pkf_skip 648]
    · exact this
    · intro k hk
      exact no_may (a0 := 1 + k / 81) (a1 := k / 9 % 9) (a2 := k % 9) (by omega) (by omega) (by omega) (fun q => q.1.elim (fun y => by omega) (fun y => y c)) (by omega)
  · rw [if_neg c]
    exact loop (8 + 1) (by omega) (Or.inr c)
theorem mn_some {v : CV} (hn : ¬ nlF v = 1) : ∃ k, k < 729 ∧ cM v k := by
  obtain ⟨i, hi, hz⟩ := nl_ex hn
  rcases (show i = 0 ∨ i = 1 ∨ i = 2 ∨ i = 3 by omega) with rfl | rfl | rfl | rfl
  · exact ⟨81 * 8 + 9 * 0 + 0, by decide, (may_n (by decide) (by decide) (by decide)).mpr ⟨Or.inr hz, Or.inl rfl, Or.inl rfl, by decide, Or.inl rfl⟩⟩
  · exact ⟨81 * 0 + 9 * 8 + 0, by decide, (may_n (by decide) (by decide) (by decide)).mpr ⟨Or.inl rfl, Or.inr hz, Or.inl rfl, by decide, Or.inl rfl⟩⟩
  · exact ⟨81 * 0 + 9 * 0 + 8, by decide, (may_n (by decide) (by decide) (by decide)).mpr ⟨Or.inl rfl, Or.inl rfl, Or.inr hz, by decide, Or.inl rfl⟩⟩
  · exact ⟨81 * 0 + 9 * 0 + 0, by decide, (may_n (by decide) (by decide) (by decide)).mpr ⟨Or.inl rfl, Or.inl rfl, Or.inl rfl, by decide, Or.inr hz⟩⟩
theorem min_eq {v : CV} (h : Iv v) (hn : ¬ nlF v = 1) (e : M5) : (mnE v (any0 e)).1 9 = (mnP v 729).2 ∧ ∀ l, l < 4 → (mnE v (any0 e)).2.1 8 l = spellsF (mnP v 729).1 (nI l) := by
  have hR : Rz (any0 e) (-1, 0) := Or.inl ⟨rfl, rfl⟩
  have hq := lev0 h hR
  have hp : mnP v 729 = pkf (cM v) (gM v) 729 0 (-1, 0) := pkf_pk 729
  have hne : ¬ (mnP v 729).1 = -1 := pk_ne 729 (by decide) (mn_some hn)
  rw [← hp] at hq
  rw [mnE]
  generalize ndE v 0 (ndE v 1 (ndE v 2 (lfE v))) (any0 e) 8 = E at hq
  generalize mnP v 729 = z at hq hne
  rcases hq with ⟨_, rfl⟩ | ⟨_, s, hs, rfl, h2⟩
  · exact absurd rfl hne
  · exact ⟨rfl, h2⟩
