/-! the readers, alike -/
def fgK (f : Nat → Int32) (B : Nat) : Nat → Nat → Int32 → Int32
  | 0, _, a => a
  | n + 1, k, a => fgK f B n (k + 1) (if 3 ≤ nI k - nI B then 10000 else a * 10 + f (nI k).toNatClampNeg - 48)
theorem fg_ln {f : Nat → Int32} {B : Nat} : ∀ nn k a, fgR f B nn k a = fgK f B (lnF f 2 nn k - k) k a
  | 0, k, a => by rw [fgR, lnF, Nat.sub_self, fgK]
  | n + 1, k, a => by
    rw [fgR, lnF]
    by_cases c : sortF (f (nI k).toNatClampNeg) = 2
    · rw [if_pos c, if_pos c, fg_ln n (k + 1)]
      have h := lnF_le (f := f) (q := 2) n (k + 1)
      rw [show lnF f 2 n (k + 1) - k = (lnF f 2 n (k + 1) - (k + 1)) + 1 by omega, fgK]
    · rw [if_neg c, if_neg c, Nat.sub_self, fgK]
theorem d3 {k B : Nat} (h : B ≤ k) (hk : k < 2 ^ 31) : 3 ≤ nI k - nI B ↔ B + 3 ≤ k := by
  rw [pk_sub h, show (3 : Int32) = nI 3 from rfl, nI_leI (by omega) (by omega)]
  omega
theorem fgK_s {f : Nat → Int32} {B : Nat} : ∀ n k a, B ≤ k → k + n ≤ B + 3 → k + n < 2 ^ 31 → fgK f B n k a = nmF f n k a
  | 0, k, a, _, _, _ => rfl
  | n + 1, k, a, h1, h2, h3 => by
    rw [fgK, nmF, if_neg (fun q => by have := (d3 h1 (by omega)).mp q; omega), fgK_s n (k + 1) _ (by omega) (by omega) (by omega), Int32.mul_comm a 10]
theorem fgK_b {f : Nat → Int32} {B : Nat} : ∀ n k a, B ≤ k → B + 3 < k + (n + 1) → k + (n + 1) < 2 ^ 31 → fgK f B (n + 1) k a = 10000
  | 0, k, a, h1, h2, h3 => by
    rw [fgK, fgK, if_pos ((d3 h1 (by omega)).mpr (by omega))]
  | n + 1, k, a, h1, h2, h3 => by
    rw [fgK]
    exact fgK_b n (k + 1) _ (by omega) (by omega) (by omega)
def rOf (f : Nat → Int32) (S : Nat) (s : T3) : Rd := (s, fgV f S s)
theorem lk_of {f : Nat → Int32} {S e : Nat} : lk f S e = rOf f S (stepF f S e) := rfl
/-- a token of a number reaches from its start as far as figures go -/
def Tk (f : Nat → Int32) (S : Nat) (s : T3) : Prop := I3 S s ∧ (s.2.2 = 2 → s.2.1 = lnF f 2 (S - s.1) s.1) ∧ (¬ s.2.2 = 0 → s.1 < s.2.1)
theorem tk_step {f : Nat → Int32} {S e : Nat} (h : e ≤ S) : Tk f S (stepF f S e) := by
  refine ⟨step_ok h, ?_⟩
  unfold stepF st2
  have h1 := skF_le (f := f) (S - e) e
  generalize skF f (S - e) e = B at *
  by_cases c : S ≤ B
  · rw [if_pos c]; exact ⟨fun q => absurd q (show ¬ (0 : Int32) = 2 by decide), fun q => absurd rfl q⟩
  · rw [if_neg c]
    dsimp only
    refine ⟨fun q => ?_, fun _ => ?_⟩
    · rw [if_pos (Or.inr q), q, lnF_s (by omega) q]
    · split
      · have h2 := lnF_le (f := f) (q := sortF (f (nI B).toNatClampNeg)) (S - (B + 1)) (B + 1)
        omega
      · omega
theorem num_eq {f : Nat → Int32} {S : Nat} (hS : S ≤ 250) {s : T3} (h : Tk f S s) {lo hi : Int32} (hh : hi < 10000) (c : s.2.2 = 2) : numF f s lo hi = if isInF (fgV f S s) lo hi = 0 then -1 else fgV f S s := by
  obtain ⟨⟨i1, i2⟩, t2, t3⟩ := h
  have e := t2 c
  have hlt := t3 (by rw [c]; decide)
  have eg : fgV f S s = fgK f s.1 (s.2.1 - s.1) s.1 0 := by rw [fgV, if_pos c, fg_ln, ← e]
  rw [numF, if_pos c, eg]
  by_cases d : s.2.1 ≤ s.1 + 3
  · rw [if_pos (show nI s.2.1 - nI s.1 ≤ 3 by rw [pk_sub i1]; exact nI_le (b := 3) (by omega) (by decide)), fgK_s _ _ _ (Nat.le_refl _) (by omega) (by omega)]
  · rw [if_neg (show ¬ nI s.2.1 - nI s.1 ≤ 3 by rw [pk_sub i1]; exact nI_ge (a := 3) (by omega) (by omega))]
    obtain ⟨n, hn⟩ : ∃ n, s.2.1 - s.1 = n + 1 := ⟨s.2.1 - s.1 - 1, by omega⟩
    rw [hn, fgK_b n _ _ (Nat.le_refl _) (by omega) (by omega)]
    refine (if_pos ?_).symm
    unfold isInF
    rw [if_pos hh]
    split <;> rfl
theorem num_n2 {f : Nat → Int32} {s : T3} {lo hi : Int32} (c : ¬ s.2.2 = 2) : numF f s lo hi = -1 := by rw [numF, if_neg c]
theorem in_nm1 {x lo hi : Int32} (h0 : 0 ≤ lo) (h : ¬ isInF x lo hi = 0) : ¬ x = -1 := fun q => by
  subst q
  have := Int32.not_lt.mp (isIn_ne h).1
  exact absurd (Int32.le_trans h0 this) (by decide)
/-- a number that is asked for, on both sides -/
theorem num_iff {f : Nat → Int32} {S : Nat} (hS : S ≤ 250) {s : T3} (h : Tk f S s) {lo hi : Int32} (h0 : 0 ≤ lo) (hh : hi < 10000) : (numF f s lo hi = -1 ∧ ¬ (s.2.2 = 2 ∧ ¬ isInF (fgV f S s) lo hi = 0)) ∨ (s.2.2 = 2 ∧ ¬ isInF (fgV f S s) lo hi = 0 ∧ numF f s lo hi = fgV f S s ∧ ¬ numF f s lo hi = -1) := by
  by_cases c : s.2.2 = 2
  · rw [num_eq hS h hh c]
    by_cases d : isInF (fgV f S s) lo hi = 0
    · rw [if_pos d]; exact Or.inl ⟨rfl, fun q => q.2 d⟩
    · rw [if_neg d]; exact Or.inr ⟨c, d, rfl, in_nm1 h0 d⟩
  · rw [num_n2 c]; exact Or.inl ⟨rfl, fun q => c q.1⟩
theorem nu_eq {f : Nat → Int32} {S : Nat} (hS : S ≤ 250) {s : T3} (h : Tk f S s) {v : CV} {E : M2} {i lo hi : Int32} (h0 : 0 ≤ lo) (hh : hi < 10000) : (numF f s lo hi = -1 ∧ nuM f S (rOf f S s) v E i lo hi = no (rOf f S s) v E) ∨ (s.2.2 = 2 ∧ ¬ isInF (numF f s lo hi) lo hi = 0 ∧ ¬ numF f s lo hi = -1 ∧ nuM f S (rOf f S s) v E i lo hi = (1, rOf f S (stepF f S s.2.1), v, tl E i (numF f s lo hi))) := by
  rcases num_iff hS h h0 hh with ⟨h1, h2⟩ | ⟨h1, h2, h3, h4⟩
  · left
    refine ⟨h1, ?_⟩
    unfold nuM
    by_cases c : s.2.2 = 2
    · rw [if_pos (show (rOf f S s).1.2.2 = 2 from c)]
      by_cases d : isInF (fgV f S s) lo hi = 0
      · rw [if_pos (show isInF (rOf f S s).2 lo hi = 0 from d)]
      · exact absurd ⟨c, d⟩ h2
    · rw [if_neg (show ¬ (rOf f S s).1.2.2 = 2 from c)]
  · right
    refine ⟨h1, by rw [h3]; exact h2, h4, ?_⟩
    unfold nuM
    rw [if_pos (show (rOf f S s).1.2.2 = 2 from h1), if_neg (show ¬ isInF (rOf f S s).2 lo hi = 0 from h2), h3]
    rfl
/-- what a statement comes to on both sides: it fails at one place, or it holds, or a sixth player stands -/
def Sr (f : Nat → Int32) (S : Nat) (a : R3) (b : RM) : Prop := (a.1 = 0 ∧ b.1 = 0 ∧ b.2.2.2.1 5 = nI a.2.1.1) ∨ (a.1 = 1 ∧ b.1 = 1 ∧ b.2.1 = rOf f S a.2.1 ∧ b.2.2.1 = a.2.2 ∧ Iv a.2.2 ∧ Tk f S a.2.1) ∨ (a.1 = 1 ∧ a.2.1.2.2 = 2 ∧ b.1 = 0 ∧ b.2.2.2.1 5 = nI a.2.1.1)
theorem Sr.no {f : Nat → Int32} {S : Nat} {s : T3} {v v' : CV} {E : M2} : Sr f S (0, s, v) (no (rOf f S s) v' E) := Or.inl ⟨rfl, rfl, rfl⟩
theorem nb_of {x lo hi : Int32} {a b : Nat} (ha : lo = nI a) (hb : hi = nI b) (ha2 : a < 2 ^ 31) (hb2 : b < 2 ^ 31) (h : ¬ isInF x lo hi = 0) : nb x a b := by
  subst ha hb
  obtain ⟨h1, h2⟩ := isIn_ne h
  have e1 := Int32.not_lt.mp h1
  have e2 := Int32.not_lt.mp h2
  obtain ⟨m, hm, rfl⟩ := nI_of (x := x) (fun q => absurd (Int32.lt_of_le_of_lt e1 q) (nI_pos ha2))
  exact ⟨m, (nI_leI ha2 hm).mp e1, (nI_leI hm hb2).mp e2, rfl⟩
/-! one more player -/
theorem add_a {v : CV} {P : Nat} (hP : P < 10) (e : v.1 0 = nI P) {k s a : Int32} (i j : Nat) : (addV v k s a).2 i j = if i = 0 ∧ j = P then k else if i = 1 ∧ j = P then s else if i = 2 ∧ j = P then a else if i = 3 ∧ j = P then 0 else v.2 i j := by
  unfold addV
  rw [e, nI_clamp (by omega)]
  show upA (upA (upA (upA v.2 0 _) 1 _) 2 _) 3 _ i j = _
  unfold upA upd
  by_cases i3 : i = 3
  · subst i3; simp
  · by_cases i2 : i = 2
    · subst i2; simp
    · by_cases i1 : i = 1
      · subst i1; simp
      · by_cases i0 : i = 0
        · subst i0; simp
        · simp [i0, i1, i2, i3]
theorem Iv.addP {v : CV} (h : Iv v) (c : ¬ 10 ≤ v.1 0) {k s a : Int32} (hk : nb k 0 5) (hs : nb s 1 99) (ha : nb a 0 9) : Iv (addV v k s a) := by
  obtain ⟨P, hP, e, h1, h2, h3, h4, h5, h6, h7, h8, h9, h10⟩ := h
  have hlt : P < 10 := by
    rw [e] at c
    exact Nat.not_le.mp fun q => c (nI_le (a := 10) q (by omega))
  have A := add_a hlt e (k := k) (s := s) (a := a)
  have hp : 2 ^ P - 1 ≤ 2 ^ (P + 1) - 1 := by rw [Nat.pow_succ]; omega
  refine ⟨P + 1, by omega, ?_, nb_mono h1 hp, nb_mono h2 hp, h3, h4, h5, h6, h7, fun l hl => ?_, fun p hp2 => ?_, h10⟩
  · show v.1 0 + 1 = nI (P + 1)
    rw [e]; exact nI_1 P
  · rw [A]; simp; exact nb_mono (h8 l hl) hp
  · rw [A, A, A, A]
    by_cases q : p = P
    · simp [q]; exact ⟨hk, hs, ha, nb00⟩
    · simp [q]; exact h9 p (by omega)
theorem pl_eq {f : Nat → Int32} {S : Nat} (hS : S ≤ 250) {s : T3} (hs : I3 S s) {v : CV} (h : Iv v) {E : M2} (c : ¬ 10 ≤ v.1 0) : Sr f S (rPl f S s v) (pl1 f S (teM f S (rOf f S s) v E 0 5)) := by
  rw [rPl, hasRoomF, if_neg c, if_neg (by decide), rPl1, teM, lk_of]
  have k1 := tk_step (f := f) hs.2
  show Sr f S _ (pl1 f S (nuM f S (rOf f S (stepF f S s.2.1)) v E 0 0 5))
  generalize stepF f S s.2.1 = s1 at k1
  rcases nu_eq hS k1 (v := v) (E := E) (i := 0) (lo := 0) (hi := 5) (by decide) (by decide) with ⟨a1, a2⟩ | ⟨_, a3, a1, a2⟩
  · rw [if_pos a1, a2, pl1, if_pos (show (no (rOf f S s1) v E).1 = 0 from rfl)]; exact Sr.no
  · rw [if_neg a1, a2, pl1, if_neg (show ¬ (1 : Int32) = 0 by decide), rPl2]
    dsimp only
    have k2 := tk_step (f := f) k1.1.2
    generalize stepF f S s1.2.1 = s2 at k2
    have n0 := nb_of (a := 0) (b := 5) rfl rfl (by decide) (by decide) a3
    generalize numF f s1 0 5 = g0 at n0
    rcases nu_eq hS k2 (v := v) (E := tl E 0 g0) (i := 1) (lo := 1) (hi := 99) (by decide) (by decide) with ⟨b1, b2⟩ | ⟨_, b3, b1, b2⟩
    · rw [if_pos b1, b2, pl2, if_pos (show (no (rOf f S s2) v (tl E 0 g0)).1 = 0 from rfl)]; exact Sr.no
    · rw [if_neg b1, b2, pl2, if_neg (show ¬ (1 : Int32) = 0 by decide), rPl3]
      dsimp only
      have k3 := tk_step (f := f) k2.1.2
      generalize stepF f S s2.2.1 = s3 at k3
      have n1 := nb_of (a := 1) (b := 99) rfl rfl (by decide) (by decide) b3
      generalize numF f s2 1 99 = g1 at n1
      rcases nu_eq hS k3 (v := v) (E := tl (tl E 0 g0) 1 g1) (i := 2) (lo := 0) (hi := 9) (by decide) (by decide) with ⟨d1, d2⟩ | ⟨_, d3, d1, d2⟩
      · rw [if_pos d1, d2, pl3, if_pos (show (no (rOf f S s3) v (tl (tl E 0 g0) 1 g1)).1 = 0 from rfl)]; exact Sr.no
      · rw [if_neg d1, d2, pl3, if_neg (show ¬ (1 : Int32) = 0 by decide)]
        dsimp only
        have n2 := nb_of (a := 0) (b := 9) rfl rfl (by decide) (by decide) d3
        generalize numF f s3 0 9 = g2 at n2
        exact Or.inr (Or.inl ⟨rfl, rfl, rfl, rfl, h.addP c n0 n1 n2, tk_step k3.1.2⟩)
/-! a line -/
theorem or_n : ∀ p, p < 10 → ∀ z, z < 1024 → z / 2 ^ p % 2 = 0 → nI z ||| ((1 : Int32) <<< (nI p &&& 31)) = nI (z + 2 ^ p) ∧ pcN (z + 2 ^ p) = pcN z + 1 := by decide +kernel
theorem or_lt : ∀ P, P < 11 → ∀ p, p < P → ∀ z, z < 2 ^ P → z / 2 ^ p % 2 = 0 → z + 2 ^ p < 2 ^ P := by decide +kernel
/-- how the reading of a line's players ends on both sides -/
def Lr (f : Nat → Int32) (S : Nat) (v : CV) (a : Int32 × T3 × Int32) (b : Int32 × Rd × Int32) : Prop := (a.1 = 0 ∧ b.1 = 0 ∧ b.2.1.1 = a.2.1) ∨ (a.1 = 1 ∧ b.1 = 1 ∧ b.2.1 = rOf f S a.2.1 ∧ Tk f S a.2.1 ∧ ∃ y, 0 < y ∧ y < 2 ^ np v ∧ a.2.2 = nI y ∧ b.2.2 = nI y) ∨ (a.1 = 1 ∧ a.2.1.2.2 = 2 ∧ ¬ a.2.2 = 0 ∧ b.1 = 0 ∧ b.2.1.1 = a.2.1)
theorem li_eq {f : Nat → Int32} {S : Nat} (hS : S ≤ 250) {v : CV} (h : Iv v) : ∀ (n nn : Nat) (s : T3) (z : Nat), Tk f S s → s.2.2 = 2 → z < 2 ^ np v → pcN z + n = 5 → S - s.2.1 < nn → Lr f S v (rLoop f S v n s (nI z)) (liR f S v nn (rOf f S s) (nI z))
  | n, 0, s, z, _, _, _, _, hm => absurd hm (by omega)
  | 0, nn + 1, s, z, hk, hc, hz, hp, hm => by
    have h0 := h.nq.1
    have hp10 := pow10 h0
    have h2 : 0 < 2 ^ np v := Nat.two_pow_pos _
    have e1 : rLoop f S v 0 s (nI z) = (1, s, nI z) := by rw [rLoop]
    have hb : bitsF (nI z) = 5 := by rw [bits_n (by omega), show pcN z = 5 by omega]; rfl
    have hz0 : 0 < z := Nat.pos_of_ne_zero fun q => by rw [q] at hp; exact absurd hp (by decide)
    have e2 : (liR f S v (nn + 1) (rOf f S s) (nI z)).1 = 0 ∧ (liR f S v (nn + 1) (rOf f S s) (nI z)).2.1.1 = s := by
      rw [liR, if_pos (show (rOf f S s).1.2.2 = 2 from hc)]
      split
      · exact ⟨rfl, rfl⟩
      · split
        · first
          | exact ⟨rfl, rfl⟩
          | (rw [if_pos hb]; exact ⟨rfl, rfl⟩)
        · exact ⟨rfl, rfl⟩
    rw [e1]
    exact Or.inr (Or.inr ⟨rfl, hc, nI_ne0 hz0 (by omega), e2⟩)
  | n + 1, nn + 1, s, z, hk, hc, hz, hp, hm => by
    obtain ⟨h0, e0⟩ := h.nq
    have hp10 := pow10 h0
    have h2 : 0 < 2 ^ np v := Nat.two_pow_pos _
    have hhi : v.1 0 - 1 < 10000 := by
      rw [e0]
      rcases Nat.eq_zero_or_pos (np v) with q | q
      · rw [q]; decide
      · rw [show nI (np v) - 1 = nI (np v - 1) from pk_sub (b := 1) q]
        exact nI_lt (b := 10000) (by omega) (by decide)
    rw [rLoop, if_pos hc, liR, if_pos (show (rOf f S s).1.2.2 = 2 from hc)]
    rcases num_iff hS hk (lo := 0) (hi := v.1 0 - 1) (by decide) hhi with ⟨a1, a2⟩ | ⟨_, a2, a3, a1⟩
    · rw [if_pos a1, if_pos (show isPlF v (rOf f S s).2 = 0 from Classical.byContradiction fun q => a2 ⟨hc, q⟩)]
      exact Or.inl ⟨rfl, rfl, rfl⟩
    · rw [if_neg a1, if_neg (show ¬ isPlF v (rOf f S s).2 = 0 from a2), a3]
      have hP : 0 < np v := Nat.pos_of_ne_zero fun q => by
        rw [e0, q] at a2
        obtain ⟨b1, b2⟩ := isIn_ne a2
        exact absurd (Int32.le_trans (Int32.not_lt.mp b1) (Int32.not_lt.mp b2)) (by decide)
      obtain ⟨p, _, hp9, ep⟩ := nb_of (a := 0) (b := np v - 1) rfl (by rw [e0]; exact pk_sub (b := 1) hP) (by decide) (by omega) a2
      have ep' : (rOf f S s).2 = nI p := ep
      rw [ep', ep]
      rcases Nat.mod_two_eq_zero_or_one (z / 2 ^ p) with q | q
      · have hb0 : bitF (nI z) (nI p) = 0 := by rw [bit_n p (by omega) z (by omega), q]; rfl
        have hb5 : ¬ bitsF (nI z) = 5 := by
          rw [bits_n (by omega)]
          intro y
          have := (nI_eq (b := 5) (by have := pc_le z (by omega); omega) (by decide)).mp y
          omega
        obtain ⟨o1, o2⟩ := or_n p (by omega) z (by omega) q
        have o3 := or_lt (np v) (by omega) p (by omega) z hz q
        have hpp : 0 < 2 ^ p := Nat.two_pow_pos _
        rw [if_neg (show ¬ bitF (nI z) (nI p) = 1 by rw [hb0]; decide), if_pos hb0, if_neg hb5, o1]
        have k1 := tk_step (f := f) hk.1.2
        have e1 : lk f S (rOf f S s).1.2.1 = rOf f S (stepF f S s.2.1) := rfl
        rw [e1]
        by_cases d : (stepF f S s.2.1).2.2 = 2
        · rw [if_pos (show (rOf f S (stepF f S s.2.1)).1.2.2 = 2 from d)]
          have hlt : s.2.1 < (stepF f S s.2.1).2.1 := lk_lt (f := f) (S := S) (e := s.2.1) (show ¬ (stepF f S s.2.1).2.2 = 0 by rw [d]; decide)
          exact li_eq hS h n nn (stepF f S s.2.1) (z + 2 ^ p) k1 d o3 (by omega) (by have := k1.1.2; omega)
        · rw [if_neg (show ¬ (rOf f S (stepF f S s.2.1)).1.2.2 = 2 from d)]
          have e2 : rLoop f S v n (stepF f S s.2.1) (nI (z + 2 ^ p)) = (1, stepF f S s.2.1, nI (z + 2 ^ p)) := by
            cases n with
            | zero => rw [rLoop]
            | succ n => rw [rLoop, if_neg d]
          rw [e2]
          exact Or.inr (Or.inl ⟨rfl, rfl, rfl, k1, z + 2 ^ p, by omega, o3, rfl, rfl⟩)
      · have hb1 : bitF (nI z) (nI p) = 1 := by rw [bit_n p (by omega) z (by omega), q]; rfl
        rw [if_pos hb1, if_neg (show ¬ bitF (nI z) (nI p) = 0 by rw [hb1]; decide)]
        exact Or.inl ⟨rfl, rfl, rfl⟩
theorem Iv.lnv {v : CV} (h : Iv v) {l : Int32} (hl : vp_in l 4) {y : Nat} (hy : y < 2 ^ np v) : Iv (lnV v l (nI y)) := by
  obtain ⟨j, hj, rfl⟩ := vp4 hl
  obtain ⟨P, hP, e, h1, h2, h3, h4, h5, h6, h7, h8, h9, h10⟩ := h
  rw [np_of e hP] at hy
  refine ⟨P, hP, e, h1, h2, h3, h4, h5, h6, h7, fun l hl => ?_, h9, h10⟩
  show nb (upd (v.2 4) (nI j).toNatClampNeg (nI y) l) 0 (2 ^ P - 1)
  unfold upd
  split
  · exact ⟨y, Nat.zero_le _, by omega, rfl⟩
  · exact h8 l hl
theorem li2_eq {f : Nat → Int32} {S : Nat} {v : CV} (h : Iv v) {E : M2} {r : Rd} {g0 : Int32} (hg : vp_in g0 4) (et : E.2 6 0 = g0) {a : Int32 × T3 × Int32} {b : Int32 × Rd × Int32} (hL : Lr f S v a b) : Sr f S (rLn2 g0 v a) (li2 (1, r, v, E) b) := by
  have hp10 := pow10 h.nq.1
  unfold rLn2 li2
  rcases hL with ⟨r1, r2, r3⟩ | ⟨r1, r2, r3, r4, y, y0, y1, r5, r6⟩ | ⟨r1, r2, r3, r4, r5⟩
  · rw [if_pos r1, if_pos r2]
    exact Or.inl ⟨rfl, rfl, by show nI _ = nI _; rw [r3]⟩
  · rw [if_neg (show ¬ a.1 = 0 by rw [r1]; decide), if_neg (show ¬ a.2.2 = 0 by rw [r5]; exact nI_ne0 y0 (by omega)), if_neg (show ¬ b.1 = 0 by rw [r2]; decide)]
    dsimp only
    rw [r5, r6, et]
    exact Or.inr (Or.inl ⟨rfl, rfl, r3, rfl, h.lnv hg y1, r4⟩)
  · rw [if_neg (show ¬ a.1 = 0 by rw [r1]; decide), if_neg r3, if_pos r4]
    exact Or.inr (Or.inr ⟨rfl, r2, rfl, by show nI _ = nI _; rw [r5]⟩)
theorem lr_0 {f : Nat → Int32} {S : Nat} (hS : S ≤ 250) {v : CV} (h : Iv v) {s2 : T3} (k2 : Tk f S s2) {E : M2} {r : Rd} {g0 : Int32} (hg : vp_in g0 4) (et : E.2 6 0 = g0) : Sr f S (rLn2 g0 v (rLoop f S v 5 s2 0)) (li2 (1, r, v, E) (liR f S v 251 (rOf f S s2) 0)) := by
  by_cases d : s2.2.2 = 2
  · have h2 : 0 < 2 ^ np v := Nat.two_pow_pos _
    exact li2_eq h hg et (li_eq hS h 5 251 s2 0 k2 d h2 (by decide) (by omega))
  · have e1 : rLoop f S v 5 s2 0 = (1, s2, 0) := by rw [rLoop, if_neg d]
    have e2 : liR f S v 251 (rOf f S s2) 0 = (0, rOf f S s2, 0) := by rw [liR, if_neg (show ¬ (rOf f S s2).1.2.2 = 2 from d)]
    rw [e1, e2, rLn2, if_neg (show ¬ (1 : Int32) = 0 by decide), if_pos (rfl : (0 : Int32) = 0), li2, if_pos (rfl : (0 : Int32) = 0)]
    exact Or.inl ⟨rfl, rfl, rfl⟩
theorem ln_eq {f : Nat → Int32} {S : Nat} (hS : S ≤ 250) {s : T3} (hs : I3 S s) {v : CV} (h : Iv v) {E : M2} : Sr f S (rLn f S s v) (liM f S (rOf f S s) v E) := by
  rw [rLn, rLn1, liM, teM, lk_of]
  have k1 := tk_step (f := f) hs.2
  show Sr f S _ (li1 f S (nuM f S (rOf f S (stepF f S s.2.1)) v E 0 0 3))
  generalize stepF f S s.2.1 = s1 at k1
  rcases nu_eq hS k1 (v := v) (E := E) (i := 0) (lo := 0) (hi := 3) (by decide) (by decide) with ⟨a1, a2⟩ | ⟨_, a3, a1, a2⟩
  · rw [if_pos a1, a2, li1, if_pos (show (no (rOf f S s1) v E).1 = 0 from rfl)]; exact Sr.no
  · rw [if_neg a1, a2, li1, if_neg (show ¬ (1 : Int32) = 0 by decide)]
    dsimp only
    exact lr_0 hS h (tk_step k1.1.2) (ln_in a3) rfl

