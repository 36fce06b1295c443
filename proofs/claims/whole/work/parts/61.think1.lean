/-! thought, alike -/
theorem chgG_eq {v : CV} (h : Iv v) {l n t : Int32} (hl : vp_in l 4) (ht : nb t 0 2) {m : Nat} (hm : m ≤ 600) (hn : n = nI m) : chgG v l n t = cgM v l n t := by
  subst hn
  have h4 := h.s4 ht
  rw [chgG, cgM, chg_eq h4.at.2.2.2.2.1, goG_eq (h4.ch hl) (by omega), goG_eq h4 (by omega)]
theorem meetG_eq {v : CV} (h : Iv v) {l t : Int32} (hl : vp_in l 4) (ht : nb t 1 999) : meetG v l t = mtM v l t := by
  have h6 := (h.s6 ht).onl hl
  rw [meetG, mtM, show (40 : Int32) = nI 40 from rfl]
  exact (goG_eq h6 (by decide)).symm
theorem twoG_eq {v : CV} (h : Iv v) {l k n : Int32} (hl : vp_in l 4) (hk : vp_in k 4) {m : Nat} (hm : m ≤ 600) (hn : n = nI m) : twoG v l k n = twM v l k n := by
  subst hn
  have h1 := h.onl hl
  have h2 := h1.pass (show m ≤ 1000 by omega)
  rw [twoG, twM, goG_eq h1 (by omega), goV_eq h1 (by omega), oursV_eq h1 (by omega), chg_eq h2.at.2.2.2.2.1, goG_eq (h2.ch hk) (by omega)]
theorem offer_n {i x : Int32} : offerF (-1, 0) i x = (i, x) := by unfold offerF; exact if_pos rfl
theorem offer_s {b : Int32} {y i x : Int32} (h : ¬ b = -1) : offerF (b, y) i x = if x ≤ y then (b, y) else (i, x) := by
  unfold offerF
  rw [if_neg h]
theorem pkA_s {i g : Nat → Int32} {k : Nat} : pkA i g (k + 1) = offerF (pkA i g k) (i k) (g k) := by rw [pkA]
/-- the first of the greatest, found with and without a flag -/
theorem th_eq {v : CV} {n : Int32} {g : Nat → Int32} (hg : ∀ k, g k = thG v n k) : ∀ k, k < 2 ^ 30 → pkA nI g (k + 1) = thTo v n (k + 1) ∧ ¬ (pkA nI g (k + 1)).1 = -1
  | 0, _ => by
    rw [pkA_s, pkA, offer_n, thTo, if_pos nI_0, hg]
    exact ⟨rfl, nI_nm1 (by omega)⟩
  | k + 1, hk => by
    obtain ⟨h1, h2⟩ := th_eq hg k (by omega)
    have e : thTo v n (k + 1 + 1) = if nI (k + 1) = 0 then (nI (k + 1), thG v n (k + 1)) else if thG v n (k + 1) ≤ (thTo v n (k + 1)).2 then thTo v n (k + 1) else (nI (k + 1), thG v n (k + 1)) := by rw [thTo]
    rw [pkA_s, e, ← h1, hg, if_neg (nI_ne0 (by omega) (by omega))]
    generalize pkA nI g (k + 1) = z at h2
    obtain ⟨b, y⟩ := z
    rw [offer_s h2]
    split
    · exact ⟨rfl, h2⟩
    · exact ⟨rfl, nI_nm1 (by omega)⟩
theorem wh_eq {v : CV} {l n : Int32} {g : Nat → Int32} (hg : ∀ k, k < 3 → g k = cgM v l n (nI k)) : ∀ k, k < 3 → pkA nI g (k + 1) = whTo v l n (k + 1) ∧ ¬ (pkA nI g (k + 1)).1 = -1
  | 0, _ => by
    rw [pkA_s, pkA, offer_n, whTo, if_pos nI_0, hg 0 (by omega)]
    exact ⟨rfl, nI_nm1 (by omega)⟩
  | k + 1, hk => by
    obtain ⟨h1, h2⟩ := wh_eq hg k (by omega)
    have e : whTo v l n (k + 1 + 1) = if nI (k + 1) = 0 then (nI (k + 1), cgM v l n (nI (k + 1))) else if cgM v l n (nI (k + 1)) ≤ (whTo v l n (k + 1)).2 then whTo v l n (k + 1) else (nI (k + 1), cgM v l n (nI (k + 1))) := by rw [whTo]
    rw [pkA_s, e, ← h1, hg _ (by omega), if_neg (nI_ne0 (by omega) (by omega))]
    generalize pkA nI g (k + 1) = z at h2
    obtain ⟨b, y⟩ := z
    rw [offer_s h2]
    split
    · exact ⟨rfl, h2⟩
    · exact ⟨rfl, nI_nm1 (by omega)⟩
theorem th3 {v : CV} {n : Int32} {g : Nat → Int32} (hg : ∀ k, k < 3 → g k = thG v n k) : ∀ k, k < 3 → pkA nI g (k + 1) = thTo v n (k + 1) ∧ ¬ (pkA nI g (k + 1)).1 = -1
  | 0, _ => by
    rw [pkA_s, pkA, offer_n, thTo, if_pos nI_0, hg 0 (by omega)]
    exact ⟨rfl, nI_nm1 (by omega)⟩
  | k + 1, hk => by
    obtain ⟨h1, h2⟩ := th3 hg k (by omega)
    have e : thTo v n (k + 1 + 1) = if nI (k + 1) = 0 then (nI (k + 1), thG v n (k + 1)) else if thG v n (k + 1) ≤ (thTo v n (k + 1)).2 then thTo v n (k + 1) else (nI (k + 1), thG v n (k + 1)) := by rw [thTo]
    rw [pkA_s, e, ← h1, hg _ (by omega), if_neg (nI_ne0 (by omega) (by omega))]
    generalize pkA nI g (k + 1) = z at h2
    obtain ⟨b, y⟩ := z
    rw [offer_s h2]
    split
    · exact ⟨rfl, h2⟩
    · exact ⟨rfl, nI_nm1 (by omega)⟩
theorem third_eq {v : CV} (h : Iv v) {n : Int32} {m : Nat} (hm : m ≤ 600) (hn : n = nI m) : (thdP v n 3).1 = (thTo v n 3).1 := by
  unfold thdP
  rw [(th3 (v := v) (n := n) (fun k hk => ?_) 2 (by omega)).1]
  subst hn
  exact (goG_eq (h.s4 ⟨k, Nat.zero_le _, by omega, rfl⟩) (by omega)).symm
theorem where_eq {v : CV} (h : Iv v) {l n : Int32} (hl : vp_in l 4) {m : Nat} (hm : m ≤ 600) (hn : n = nI m) : (whrP v l n 3).1 = (whTo v l n 3).1 := by
  unfold whrP
  rw [(wh_eq (v := v) (l := l) (n := n) (fun k hk => ?_) 2 (by omega)).1]
  exact chgG_eq h hl ⟨k, Nat.zero_le _, by omega, rfl⟩ hm hn
theorem trdm_eq {u : CV} : ∀ k, k < 10 → trdP u (k + 1) = (txTo u k, u.2 3 (txTo u k).toNatClampNeg) ∧ ¬ txTo u k = -1
  | 0, _ => by
    unfold trdP
    rw [pkA_s, pkA, offer_n, txTo]
    exact ⟨rfl, by decide⟩
  | k + 1, hk => by
    obtain ⟨h1, h2⟩ := trdm_eq (u := u) k (by omega)
    unfold trdP at *
    rw [pkA_s, h1, offer_s h2, txTo]
    split
    · exact ⟨rfl, h2⟩
    · exact ⟨rfl, nI_nm1 (by omega)⟩
theorem trdF_eq {u : CV} (h : np u ≤ 10) (h0 : 0 < np u) : trdF u = txTo u (np u - 1) := by
  unfold trdF
  obtain ⟨P, hP⟩ : ∃ P, np u = P + 1 := ⟨np u - 1, by omega⟩
  rw [hP, (trdm_eq P (by omega)).1, Nat.add_sub_cancel]
theorem hp_n {v : CV} {k : Nat} (hk : k < 4) : hasPlF v (nI k) = 0 ↔ v.2 4 (nI k).toNatClampNeg = 0 := by
  unfold hasPlF
  rw [if_neg (show ¬ isInF (nI k) 0 3 = 0 by unfold isInF; rw [if_neg (nI_pos (by omega)), if_neg (show ¬ (3 : Int32) < nI k from nI_nlt (a := 3) (b := k) (by omega) (by decide))]; decide)]
  split
  · rename_i q; exact ⟨fun _ => q, fun _ => rfl⟩
  · rename_i q; exact ⟨fun z => absurd z (by decide), fun z => absurd z q⟩
theorem hp_in {v : CV} {l : Int32} (c : ¬ isInF l 0 3 = 0) : hasPlF v l = 0 ↔ v.2 4 l.toNatClampNeg = 0 := by
  unfold hasPlF
  rw [if_neg c]
  split
  · rename_i q; exact ⟨fun _ => q, fun _ => rfl⟩
  · rename_i q; exact ⟨fun z => absurd z (by decide), fun z => absurd z q⟩
theorem pk_s {c : Nat → Prop} [DecidablePred c] {i g : Nat → Int32} {k : Nat} : pk c i g (k + 1) = if c k then offerF (pk c i g k) (i k) (g k) else pk c i g k := by rw [pk]
theorem str_eq {v : CV} (h : Iv v) : ∀ k, k ≤ 4 → (strP v k).1 = sgTo v k ∧ (¬ sgTo v k = -1 → (strP v k).2 = powAM (putOnV v (v.2 4 (sgTo v k).toNatClampNeg))) ∧ (sgTo v k = -1 → strP v k = (-1, 0))
  | 0, _ => ⟨rfl, fun q => absurd rfl q, fun _ => rfl⟩
  | k + 1, hk => by
    obtain ⟨h1, h2, h3⟩ := str_eq h k (by omega)
    have e : strP v (k + 1) = if ¬ hasPlF v (nI k) = 0 then offerF (strP v k) (nI k) (powAll (putOnV v (v.2 4 (nI k).toNatClampNeg))) else strP v k := by unfold strP; rw [pk_s]
    have ep : powAll (putOnV v (v.2 4 (nI k).toNatClampNeg)) = powAM (putOnV v (v.2 4 (nI k).toNatClampNeg)) := powA_eq (h.onl (in4 (by omega))).ib
    rw [e, sgTo, ep]
    by_cases c : v.2 4 (nI k).toNatClampNeg = 0
    · rw [if_neg (fun q => q ((hp_n (by omega)).mpr c)), if_pos c]; exact ⟨h1, h2, h3⟩
    · rw [if_pos (fun q => c ((hp_n (by omega)).mp q)), if_neg c]
      by_cases c2 : sgTo v k = -1
      · rw [if_pos c2, h3 c2, offer_n]
        exact ⟨rfl, fun _ => rfl, fun q => absurd q (nI_nm1 (by omega))⟩
      · rw [if_neg c2]
        have h2' := h2 c2
        generalize strP v k = z at h1 h2'
        obtain ⟨b, y⟩ := z
        dsimp only at h1 h2'
        subst h1 h2'
        rw [offer_s c2]
        split
        · exact ⟨rfl, fun _ => rfl, fun q => absurd q c2⟩
        · exact ⟨rfl, fun _ => rfl, fun q => absurd q (nI_nm1 (by omega))⟩
theorem strF_eq {v : CV} (h : Iv v) : strF v = sgTo v 4 := (str_eq h 4 (Nat.le_refl _)).1
/-! one sent off -/
theorem off_ib {v : CV} (h : Iv v) {k : Nat} (hk : k < 10) : nb (offB (v.1 1) (nI k)) 0 1023 := by
  obtain ⟨n, _, hn, e⟩ := h.ib.2
  rw [e, (off_n k hk n (by omega)).1]
  exact ⟨_, Nat.zero_le _, by omega, rfl⟩
theorem take_off {v : CV} {p : Int32} : (takeOffV v p).2 = v.2 ∧ ∀ i, i ≠ 3 → (takeOffV v p).1 i = (offM v p).1 i := by
  unfold takeOffV offM
  split
  · refine ⟨rfl, fun i hi => ?_⟩
    show upd (upd (upd v.1 1 _) 2 _) 3 0 i = _
    exact if_neg hi
  · exact ⟨rfl, fun i hi => rfl⟩
/-- alike but for the seconds that are left -/
def eq3 (u v : CV) : Prop := u.2 = v.2 ∧ ∀ i, i ≠ 3 → u.1 i = v.1 i
theorem eq3.pow {u v : CV} (h : eq3 u v) : powAM u = powAM v := by
  unfold powAM
  rw [np_cg (u := u) (v := v) (h.2 0 (by decide)), pwM_cg2 (h.2 1 (by decide)) (h.2 2 (by decide)) h.1, h.2 7 (by decide)]
theorem eq3.oo {u v : CV} (h : eq3 u v) : oddsOF u (powAM u) = oddsOF v (powAM v) := by
  unfold oddsOF
  rw [h.pow, h.2 4 (by decide)]
theorem eq3.oa {u v : CV} (h : eq3 u v) : oddsAF u = oddsAF v := by
  unfold oddsAF
  rw [h.2 7 (by decide), h.2 4 (by decide), h.2 6 (by decide)]
theorem eq3.tm {u v : CV} (h : eq3 u v) : eq3 (tmV u) (tmV v) := by
  refine ⟨?_, fun i hi => by rw [tm_1, tm_1]; exact h.2 i hi⟩
  rw [tmV, tmV, np_cg (u := u) (v := v) (h.2 0 (by decide))]
  exact tmTo_cg (h.2 1 (by decide)) h.1 _
theorem eq3.go {u v : CV} (h : eq3 u v) (h0 : v.1 2 = 0) : ∀ k, eq3 (goM u k).1 (goM v k).1 ∧ (goM v k).1.1 2 = 0 ∧ (goM u k).2 = (goM v k).2
  | 0 => ⟨h, h0, rfl⟩
  | k + 1 => by
    obtain ⟨h1, h2, h3⟩ := eq3.go h h0 k
    have c1 : (tmV (goM v k).1).1 2 = 0 := by rw [tm_1]; exact h2
    have c2 : (tmV (goM u k).1).1 2 = 0 := by rw [tm_1, h1.2 2 (by decide)]; exact h2
    rw [goM, goM]
    dsimp only
    rw [show cmV (tmV (goM u k).1) = tmV (goM u k).1 by rw [cmV, if_pos c2], show cmV (tmV (goM v k).1) = tmV (goM v k).1 by rw [cmV, if_pos c1], h3, h1.tm.oo, h1.tm.oa]
    exact ⟨h1.tm, c1, rfl⟩
theorem off_eq3 {v : CV} {p : Int32} : eq3 (takeOffV v p) (offM v p) := ⟨take_off.1, take_off.2⟩
theorem off_go {v : CV} {p n : Int32} : goG (takeOffV v p) n = goG (offM v p) n := by
  by_cases c : offB (v.1 2) p = 0
  · have h := off_eq3.go (v := offM v p) (u := takeOffV v p) (show (offM v p).1 2 = 0 from c) n.toNatClampNeg
    rw [goG, goG, goO, goO, goA, goA, h.2.2]
  · have e : takeOffV v p = offM v p := by unfold takeOffV offM; rw [if_neg c]
    rw [e]
