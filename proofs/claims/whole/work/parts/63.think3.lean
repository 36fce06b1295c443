/-! lines by turns -/
theorem nx4_d : ∀ j, j < 4 → ∀ d, d < 5 → nx4 (nI j) (nI d) = nI ((j + d) % 4) := by decide
theorem hp_c {v : CV} {k : Nat} (hk : k < 4) : hasPlF v (nI k) = 0 ↔ v.2 4 k = 0 := by
  rw [hp_n hk, nI_clamp (by omega)]
theorem next_eq {v : CV} {j : Nat} (hj : j < 4) (hn : ¬ nlF v = 1) : nextLF v (nI j) = nlM v (nI j) := by
  unfold nextLF nlM
  rw [show nx4 (nI j) 1 = nI ((j + 1) % 4) from nx4_d j hj 1 (by decide), show nx4 (nI j) 2 = nI ((j + 2) % 4) from nx4_d j hj 2 (by decide), show nx4 (nI j) 3 = nI ((j + 3) % 4) from nx4_d j hj 3 (by decide), show nx4 (nI j) 4 = nI ((j + 4) % 4) from nx4_d j hj 4 (by decide)]
  have e : ∀ k, k < 4 → nx4 (nI k) 1 = nI ((k + 1) % 4) := fun k hk => nx4_d k hk 1 (by decide)
  have m1 : (j + 1) % 4 < 4 := Nat.mod_lt _ (by decide)
  have m2 : (j + 2) % 4 < 4 := Nat.mod_lt _ (by decide)
  have m3 : (j + 3) % 4 < 4 := Nat.mod_lt _ (by decide)
  have m4 : (j + 4) % 4 < 4 := Nat.mod_lt _ (by decide)
  have s2 : ((j + 1) % 4 + 1) % 4 = (j + 2) % 4 := by omega
  have s3 : ((j + 2) % 4 + 1) % 4 = (j + 3) % 4 := by omega
  have s4 : ((j + 3) % 4 + 1) % 4 = (j + 4) % 4 := by omega
  rw [nxM, nI_clamp (by omega), e _ m1, s2]
  by_cases c1 : v.2 4 ((j + 1) % 4) = 0
  · rw [if_pos ((hp_c m1).mpr c1), if_pos c1, nxM, nI_clamp (by omega), e _ m2, s3]
    by_cases c2 : v.2 4 ((j + 2) % 4) = 0
    · rw [if_pos ((hp_c m2).mpr c2), if_pos c2, nxM, nI_clamp (by omega), e _ m3, s4]
      by_cases c3 : v.2 4 ((j + 3) % 4) = 0
      · rw [if_pos ((hp_c m3).mpr c3), if_pos c3, nxM, nI_clamp (by omega)]
        by_cases c4 : v.2 4 ((j + 4) % 4) = 0
        · obtain ⟨i, hi, hz⟩ := nl_ex hn
          refine absurd ?_ hz
          rcases (show i = (j + 1) % 4 ∨ i = (j + 2) % 4 ∨ i = (j + 3) % 4 ∨ i = (j + 4) % 4 by omega) with q | q | q | q <;> rw [q] <;> assumption
        · rw [if_neg (fun q => c4 ((hp_c m4).mp q)), if_neg c4]
      · rw [if_neg (fun q => c3 ((hp_c m3).mp q)), if_neg c3]
    · rw [if_neg (fun q => c2 ((hp_c m2).mp q)), if_neg c2]
  · rw [if_neg (fun q => c1 ((hp_c m1).mp q)), if_neg c1]
theorem next_cg {u v : CV} {l : Int32} (h : u.2 4 = v.2 4) : nextLF u l = nextLF v l := by
  unfold nextLF hasPlF
  rw [h]
theorem first_nl {v : CV} : firstLF v = -1 ↔ ¬ nlF v = 0 := by
  unfold firstLF nlF
  by_cases c0 : v.2 4 0 = 0
  · rw [if_pos c0, if_pos c0]
    by_cases c1 : v.2 4 1 = 0
    · rw [if_pos c1, if_pos c1]
      by_cases c2 : v.2 4 2 = 0
      · rw [if_pos c2, if_pos c2]
        by_cases c3 : v.2 4 3 = 0
        · rw [if_pos c3, if_pos c3]; decide
        · rw [if_neg c3, if_neg c3]; decide
      · rw [if_neg c2, if_neg c2]; decide
    · rw [if_neg c1, if_neg c1]; decide
  · rw [if_neg c0, if_neg c0]; decide
theorem first_m {v : CV} (hn : ¬ nlF v = 1) : firstLF v = nlM v 3 := by
  rw [show (3 : Int32) = nI 3 from rfl, ← next_eq (by decide) hn]
  unfold firstLF nextLF
  rw [show nx4 (nI 3) 1 = nI 0 from nx4_d 3 (by decide) 1 (by decide), show nx4 (nI 3) 2 = nI 1 from nx4_d 3 (by decide) 2 (by decide), show nx4 (nI 3) 3 = nI 2 from nx4_d 3 (by decide) 3 (by decide), show nx4 (nI 3) 4 = nI 3 from nx4_d 3 (by decide) 4 (by decide)]
  by_cases c0 : v.2 4 0 = 0
  · rw [if_pos c0, if_pos ((hp_c (by decide)).mpr c0)]
    by_cases c1 : v.2 4 1 = 0
    · rw [if_pos c1, if_pos ((hp_c (by decide)).mpr c1)]
      by_cases c2 : v.2 4 2 = 0
      · rw [if_pos c2, if_pos ((hp_c (by decide)).mpr c2)]
        by_cases c3 : v.2 4 3 = 0
        · obtain ⟨i, hi, hz⟩ := nl_ex hn
          refine absurd ?_ hz
          rcases (show i = 0 ∨ i = 1 ∨ i = 2 ∨ i = 3 by omega) with q | q | q | q <;> rw [q] <;> assumption
        · rw [if_neg c3, if_neg (fun q => c3 ((hp_c (by decide)).mp q))]; rfl
      · rw [if_neg c2, if_neg (fun q => c2 ((hp_c (by decide)).mp q))]; rfl
    · rw [if_neg c1, if_neg (fun q => c1 ((hp_c (by decide)).mp q))]; rfl
  · rw [if_neg c0, if_neg (fun q => c0 ((hp_c (by decide)).mp q))]; rfl
theorem shf_done {kk nn : Nat} {g : Nat} {u : CV} {l s : Int32} (h : nn ≤ g) : ∀ f, shf kk nn f g u l s = s
  | 0 => rfl
  | f + 1 => by rw [shf, if_pos h]
theorem shf_eq {v : CV} {kk nn : Nat} (hk : 1 ≤ kk) (hk2 : kk ≤ 600) (hnn : nn ≤ 600) (hnl : ¬ nlF v = 1) : ∀ (f f' g : Nat) (u : CV) (l s : Int32), g < nn → nn - g < f → nn - g ≤ f' → Iv (sfU g u l) → (sfU g u l).2 4 = v.2 4 → vp_in (sfL g u l) 4 → shf kk nn f g u l s = sfR v (nI kk) f' (sfU g u l) (sfL g u l) s (nI (nn - g))
  | 0, _, _, _, _, _, _, h, _, _, _, _ => absurd h (by omega)
  | f + 1, f', g, u, l, s, hg, hf, hf', hI, h4, hl => by
    obtain ⟨f0, rfl⟩ : ∃ f0, f' = f0 + 1 := ⟨f' - 1, by omega⟩
    rw [shf, if_neg (by omega), sfR]
    generalize sfU g u l = u' at hI h4
    generalize sfL g u l = l' at hl
    by_cases c : nn - g ≤ kk
    · rw [shf_done (by omega), Nat.min_eq_right c, if_pos (nI_le c (by omega)), goG_eq hI (by omega)]
    · have hp := hI.pass (show kk ≤ 1000 by omega)
      have hc := hp.ch (l := nlM v l') (nl_vp hl)
      have e4 : (passV (nI kk) u').2 4 = v.2 4 := by rw [pass_i (by decide)]; exact h4
      have enx : nextLF (passV (nI kk) u') l' = nlM v l' := by
        obtain ⟨j, hj, rfl⟩ := vp4 hl
        rw [next_cg (v := v) e4, next_eq hj hnl]
      have eU : sfU (g + kk) (passV (nI kk) u') l' = chM (passV (nI kk) u') (nlM v l') := by
        rw [sfU, if_neg (nI_nle (by omega) (by omega)), enx, chg_eq hp.at.2.2.2.2.1]
      have eL : sfL (g + kk) (passV (nI kk) u') l' = nlM v l' := by rw [sfL, if_neg (nI_nle (by omega) (by omega)), enx]
      rw [Nat.min_eq_left (by omega), oursV_eq hI (by omega), if_neg (fun q => c (nI_le' (by omega) q)), goG_eq hI (by omega), goV_eq hI (by omega), pk_sub (by omega)]
      rw [shf_eq hk hk2 hnn hnl f f0 (g + kk) _ l' _ (by omega) (by omega) (by omega) (by rw [eU]; exact hc) (by rw [eU]; exact e4) (by rw [eL]; exact nl_vp hl), eU, eL, Nat.sub_sub]
theorem goG_0 {v : CV} : goG v (nI 0) = 0 := by
  have e : (nI 0).toNatClampNeg = 0 := nI_clamp (by decide)
  rw [goG, goO, goA, e]
  have e2 : goM v 0 = (v, 0, 0) := by rw [goM]
  rw [e2]; exact Int32.sub_self _
theorem shifts_eq {v : CV} (h : Iv v) {c n : Int32} {kk nn : Nat} (hk : 1 ≤ kk) (hk2 : kk ≤ 600) (hnn : nn ≤ 600) (hc : c = nI kk) (hn : n = nI nn) (hnl : ¬ nlF v = 1) : shfF v c n = sfM v c n := by
  subst hc hn
  have e3 := first_m hnl
  have hv3 : vp_in (nlM v 3) 4 := nl_vp (in4 (k := 3) (by decide))
  rw [shfF, sfM, nI_clamp (by omega), nI_clamp (by omega), e3]
  have hI := h.onl hv3
  by_cases z : nn = 0
  · subst z
    rw [shf_done (Nat.le_refl _), sfR, goG_0, Int32.add_zero]
  · have eU : ∀ u l, sfU 0 u l = u := fun u l => by rw [sfU, if_pos (by decide)]
    have eL : ∀ u l, sfL 0 u l = l := fun u l => by rw [sfL, if_pos (by decide)]
    rw [shf_eq hk hk2 hnn hnl (nn + 1) nn 0 _ _ 0 (by omega) (by omega) (by omega) (by rw [eU]; exact hI) (by rw [eU]; rfl) (by rw [eL]; exact hv3), eU, eL, Nat.sub_zero]
theorem bsh_eq {v : CV} (h : Iv v) {n : Int32} {nn : Nat} (hnn : nn ≤ 600) (hn : n = nI nn) (hnl : ¬ nlF v = 1) : ∀ k, k ≤ 95 → bshP v n k = bsTo v n k
  | 0, _ => rfl
  | k + 1, hk => by
    have ih := bsh_eq h hnn hn hnl k (by omega)
    have e : bshP v n (k + 1) = offerF (bshP v n k) (nI (k + 5)) (shfF v (nI (k + 5)) n) := by unfold bshP; rw [pkA_s]
    rw [e, ih, shifts_eq h (kk := k + 5) (by omega) (by omega) hnn rfl hn hnl, bsTo]
    rfl
/-! whom against whom -/
theorem mt_n {v : CV} (h : Iv v) {l : Int32} (hl : vp_in l 4) : ∃ a k t : Nat, a ≤ 160000 ∧ ∀ g, 1 ≤ g → g ≤ 999 → mtM v l (nI g) = nI a - nI (40 * oaN k t g) := by
  have H : ∀ g, 1 ≤ g → g ≤ 999 → Iv (putOnV (setS v 6 (nI g)) (v.2 4 l.toNatClampNeg)) := fun g h1 h2 => (h.s6 ⟨g, h1, h2, rfl⟩).onl hl
  obtain ⟨a, ha, ea⟩ := goO_n (H 1 (by decide) (by decide)) (m := 40) (by decide)
  obtain ⟨k, t, _, hk, ht, _, _, e7, e4, _, _⟩ := h.oa
  refine ⟨a, k, t, by omega, fun g h1 h2 => ?_⟩
  have e6 : eq6 (putOnV (setS v 6 (nI g)) (v.2 4 l.toNatClampNeg)) (putOnV (setS v 6 (nI 1)) (v.2 4 l.toNatClampNeg)) := by
    refine ⟨rfl, fun i hi => ?_⟩
    show upd (upd (upd (upd v.1 6 _) 1 _) 2 0) 3 0 i = upd (upd (upd (upd v.1 6 _) 1 _) 2 0) 3 0 i
    unfold upd
    simp [hi]
  have eo : goO (putOnV (setS v 6 (nI g)) (v.2 4 l.toNatClampNeg)) (nI 40) = nI a := by
    rw [← ea, goO, goO, (e6.go _).2]
  rw [mtM, show (40 : Int32) = nI 40 from rfl, goG, eo, goA_eq (H g h1 h2) (by decide), oddsA_n (v := putOnV (setS v 6 (nI g)) (v.2 4 l.toNatClampNeg)) (k := k) (t := t) (g := g) hk ht h2 e7 e4 rfl, pk_mul]
theorem mt_anti {v : CV} (h : Iv v) {l : Int32} (hl : vp_in l 4) {g g' : Nat} (h1 : 1 ≤ g) (h2 : g ≤ g') (h3 : g' ≤ 999) : mtM v l (nI g') ≤ mtM v l (nI g) := by
  obtain ⟨a, k, t, ha, e⟩ := mt_n h hl
  have hb := oaN_le (k := k) (t := t) h3
  have hm := oaN_mono (k := k) (t := t) h2
  rw [e g h1 (by omega), e g' (by omega) h3, Int32.le_iff_toInt_le, pk_sub_toInt (by omega) (by omega), pk_sub_toInt (by omega) (by omega)]
  omega
/-- the greatest of the first -/
def gmx (g : Nat → Nat) : Nat → Nat
  | 0 => g 0
  | k + 1 => max (gmx g k) (g (k + 1))
theorem gmx_b {g : Nat → Nat} : ∀ k, (∀ i, i ≤ k → 1 ≤ g i ∧ g i ≤ 999) → 1 ≤ gmx g k ∧ gmx g k ≤ 999
  | 0, h => h 0 (Nat.le_refl _)
  | k + 1, h => by
    have := gmx_b k (fun i hi => h i (by omega))
    have := h (k + 1) (Nat.le_refl _)
    rw [gmx]; omega
theorem ls_eq {v : CV} (h : Iv v) {l : Int32} (hl : vp_in l 4) {f : Nat → Int64} {g : Nat → Nat} : ∀ k, k < 40 → (∀ i, i ≤ k → f i = lN (g i) ∧ 1 ≤ g i ∧ g i ≤ 999) → lsTo v l f k = mtM v l (nI (gmx g k))
  | 0, _, hf => by rw [lsTo, (hf 0 (Nat.le_refl _)).1, lN_i, gmx]
  | k + 1, hk, hf => by
    have ih := ls_eq h hl (f := f) (g := g) k (by omega) (fun i hi => hf i (by omega))
    obtain ⟨b1, b2⟩ := gmx_b (g := g) k (fun i hi => (hf i (by omega)).2)
    obtain ⟨c0, c1, c2⟩ := hf (k + 1) (Nat.le_refl _)
    rw [lsTo, nI_clamp (by omega), ih, c0, lN_i, gmx]
    by_cases c : g (k + 1) ≤ gmx g k
    · rw [if_pos (mt_anti h hl c1 c b2), Nat.max_eq_left c]
    · have a := mt_anti h hl b1 (show gmx g k ≤ g (k + 1) by omega) c2
      rw [Nat.max_eq_right (by omega)]
      split
      · rename_i q; exact Int32.le_antisymm q a
      · rfl
theorem gr_eq {f : Nat → Int64} {g : Nat → Nat} : ∀ k, k < 40 → (∀ i, i ≤ k → f i = lN (g i) ∧ 1 ≤ g i ∧ g i ≤ 999) → grF f (k + 1) = lN (gmx g k)
  | 0, _, hf => by
    obtain ⟨c0, c1, c2⟩ := hf 0 (Nat.le_refl _)
    rw [grF, grF, nI_clamp (by decide), c0, gmx, maxL, show (0 : Int64) = lN 0 from rfl, if_neg (fun q => absurd ((pk_lLT (by omega) (by omega)).mp q) (by omega))]
  | k + 1, hk, hf => by
    have ih := gr_eq (f := f) (g := g) k (by omega) (fun i hi => hf i (by omega))
    obtain ⟨b1, b2⟩ := gmx_b (g := g) k (fun i hi => (hf i (by omega)).2)
    obtain ⟨c0, c1, c2⟩ := hf (k + 1) (Nat.le_refl _)
    rw [grF, ih, nI_clamp (by omega), c0, maxL, gmx]
    by_cases c : g (k + 1) < gmx g k
    · rw [if_pos ((pk_lLT (by omega) (by omega)).mpr c), Nat.max_eq_left (by omega)]
    · rw [if_neg (fun q => c ((pk_lLT (by omega) (by omega)).mp q)), Nat.max_eq_right (by omega)]
theorem mch_eq {v : CV} (h : Iv v) {f : Nat → Int64} {g : Nat → Nat} {c : Nat} (hc : c < 40) (hf : ∀ i, i ≤ c → f i = lN (g i) ∧ 1 ≤ g i ∧ g i ≤ 999) : ∀ k, k ≤ 4 → mchP v (grF f (c + 1)).toInt32 k = mxTo v f c k
  | 0, _ => rfl
  | k + 1, hk => by
    have ih := mch_eq h hc hf k (by omega)
    obtain ⟨b1, b2⟩ := gmx_b (g := g) c (fun i hi => (hf i hi).2)
    have hl : vp_in (nI k) 4 := in4 (by omega)
    have e : mchP v (grF f (c + 1)).toInt32 (k + 1) = if ¬ hasPlF v (nI k) = 0 then offerF (mchP v (grF f (c + 1)).toInt32 k) (nI k) (meetG v (nI k) (grF f (c + 1)).toInt32) else mchP v (grF f (c + 1)).toInt32 k := by unfold mchP; rw [pk_s]
    rw [e, ih, mxTo, ls_eq h hl c hc hf, gr_eq c hc hf, lN_i, meetG_eq h hl ⟨_, b1, b2, rfl⟩]
    by_cases c1 : v.2 4 (nI k).toNatClampNeg = 0
    · rw [if_neg (fun q => q ((hp_n (by omega)).mpr c1)), if_pos c1]
    · rw [if_pos (fun q => c1 ((hp_n (by omega)).mp q)), if_neg c1]; rfl
