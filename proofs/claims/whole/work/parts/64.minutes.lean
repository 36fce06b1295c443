/-! the minutes shared among the lines -/
theorem go_add {u : CV} (a : Nat) : ∀ b, (goM u (a + b)).1 = (goM (goM u a).1 b).1 ∧ (goM u (a + b)).2.1 = (goM u a).2.1 + (goM (goM u a).1 b).2.1 ∧ (goM u (a + b)).2.2 = (goM u a).2.2 + (goM (goM u a).1 b).2.2
  | 0 => by
    have e : goM (goM u a).1 0 = ((goM u a).1, 0, 0) := by rw [goM]
    rw [e, Nat.add_zero]
    exact ⟨rfl, (Int32.add_zero _).symm, (Int32.add_zero _).symm⟩
  | b + 1 => by
    obtain ⟨h1, h2, h3⟩ := go_add a b
    have e1 : goM u (a + (b + 1)) = (cmV (tmV (goM u (a + b)).1), (goM u (a + b)).2.1 + oddsOF (tmV (goM u (a + b)).1) (powAM (tmV (goM u (a + b)).1)), (goM u (a + b)).2.2 + oddsAF (tmV (goM u (a + b)).1)) := by rw [← Nat.add_assoc, goM]
    have e2 : goM (goM u a).1 (b + 1) = (cmV (tmV (goM (goM u a).1 b).1), (goM (goM u a).1 b).2.1 + oddsOF (tmV (goM (goM u a).1 b).1) (powAM (tmV (goM (goM u a).1 b).1)), (goM (goM u a).1 b).2.2 + oddsAF (tmV (goM (goM u a).1 b).1)) := by rw [goM]
    rw [e1, e2, h1, h2, h3]
    exact ⟨rfl, Int32.add_assoc _ _ _, Int32.add_assoc _ _ _⟩
theorem on_same {u : CV} {L : Int32} (h1 : u.1 1 = L) (h2 : u.1 2 = 0) (h3 : u.1 3 = 0) : putOnV u L = u := by
  unfold putOnV
  refine Prod.ext (funext fun i => ?_) rfl
  show upd (upd (upd u.1 1 L) 2 0) 3 0 i = u.1 i
  unfold upd
  by_cases i3 : i = 3
  · rw [if_pos i3, i3, h3]
  · rw [if_neg i3]
    by_cases i2 : i = 2
    · rw [if_pos i2, i2, h2]
    · rw [if_neg i2]
      by_cases i1 : i = 1
      · rw [if_pos i1, i1, h1]
      · rw [if_neg i1]
theorem go_on {u : CV} (hu : Iv u) {L : Int32} (hL : nb L 0 (2 ^ np u - 1)) {k : Nat} (hk : k ≤ 1000) : (goM (putOnV u L) k).1.1 1 = L ∧ (goM (putOnV u L) k).1.1 2 = 0 ∧ (goM (putOnV u L) k).1.1 3 = 0 := by
  have hI := hu.on' hL
  have E := pass_1 (v := putOnV u L) (y := 0) (k := k) (by omega) hk rfl
  rw [go_pass hI k hk]
  refine ⟨?_, ?_, ?_⟩
  · rw [E]; rfl
  · rw [E]
    rw [if_neg (by decide), if_pos rfl, if_pos (Nat.zero_le _)]
  · rw [E]
    rw [if_pos rfl, Nat.zero_sub]; rfl
/-- n spells of one line are one of n times as long -/
theorem sp_eq {l : Int32} (hl : vp_in l 4) {s : CV × Int32} (h : Iv s.1) : ∀ n, n ≤ 8 → spTo l (nI 40) s (n + 1) = ((goM (putOnV s.1 (s.1.2 4 l.toNatClampNeg)) (40 * (n + 1))).1, s.2 + ((goM (putOnV s.1 (s.1.2 4 l.toNatClampNeg)) (40 * (n + 1))).2.1 - (goM (putOnV s.1 (s.1.2 4 l.toNatClampNeg)) (40 * (n + 1))).2.2)) := by
  have hlb : nb (s.1.2 4 l.toNatClampNeg) 0 (2 ^ np s.1 - 1) := by
    obtain ⟨j, hj, rfl⟩ := vp4 hl
    rw [nI_clamp (by omega)]; exact h.ln hj
  intro n
  induction n with
  | zero =>
    intro _
    have e : spTo l (nI 40) s 0 = s := by rw [spTo]
    rw [spTo, e, goV, goG, goO, goA, nI_clamp (by decide)]
  | succ n ih =>
    intro hn
    have ih := ih (by omega)
    have h40 : (nI 40).toNatClampNeg = 40 := nI_clamp (by decide)
    have e0 : spTo l (nI 40) s (n + 1 + 1) = (goV (putOnV (spTo l (nI 40) s (n + 1)).1 ((spTo l (nI 40) s (n + 1)).1.2 4 l.toNatClampNeg)) (nI 40), (spTo l (nI 40) s (n + 1)).2 + goG (putOnV (spTo l (nI 40) s (n + 1)).1 ((spTo l (nI 40) s (n + 1)).1.2 4 l.toNatClampNeg)) (nI 40)) := by rw [spTo]
    rw [e0, ih]
    dsimp only
    have hI := h.on' hlb
    generalize hL : s.1.2 4 l.toNatClampNeg = L at hlb hI
    obtain ⟨g1, g2, g3⟩ := go_on h hlb (k := 40 * (n + 1)) (by omega)
    have g4 : (goM (putOnV s.1 L) (40 * (n + 1))).1.2 4 l.toNatClampNeg = L := by
      rw [go_pass hI _ (by omega), pass_i (by decide)]; exact hL
    rw [g4, on_same g1 g2 g3]
    obtain ⟨a1, a2, a3⟩ := go_add (u := putOnV s.1 L) (40 * (n + 1)) 40
    rw [show 40 * (n + 1 + 1) = 40 * (n + 1) + 40 by omega, a1, a2, a3, goV, goG, goO, goA, h40]
    generalize goM (putOnV s.1 L) (40 * (n + 1)) = A
    generalize goM A.1 40 = B
    refine Prod.ext rfl ?_
    show s.2 + (A.2.1 - A.2.2) + (B.2.1 - B.2.2) = s.2 + (A.2.1 + B.2.1 - (A.2.2 + B.2.2))
    rw [Int32.sub_eq_add_neg, Int32.sub_eq_add_neg, Int32.sub_eq_add_neg, Int32.neg_add, Int32.sub_eq_add_neg]
    ac_rfl
theorem sp_I {l : Int32} (hl : vp_in l 4) {s : CV × Int32} (h : Iv s.1) : ∀ n, n ≤ 9 → Iv (spTo l (nI 40) s n).1
  | 0, _ => by have e : spTo l (nI 40) s 0 = s := by rw [spTo]
               rw [e]; exact h
  | n + 1, hn => by
    rw [sp_eq hl h n (by omega)]
    have := h.onl hl
    dsimp only
    rw [go_pass this _ (by omega)]
    exact this.pass (by omega)
theorem gs_eq {v : CV} (h : Iv v) {s : Int32} {A : Nat → Int32} : ∀ k, k ≤ 4 → (∀ i, i < k → ∃ n, n ≤ 8 ∧ spellsF s (nI i) = nI n ∧ A i = nI n) → gsh v s k = spO v (nI 40) A k ∧ Iv (gsh v s k).1
  | 0, _, _ => ⟨rfl, h⟩
  | k + 1, hk, hA => by
    obtain ⟨ih, hI⟩ := gs_eq h (s := s) (A := A) k (by omega) (fun i hi => hA i (by omega))
    obtain ⟨n, hn, e1, e2⟩ := hA k (by omega)
    have hl : vp_in (nI k) 4 := in4 (by omega)
    have hon := hI.onl hl
    rw [gsh, spO, ← ih, e1, nI_clamp (show k < 2 ^ 31 by omega), e2, nI_clamp (by omega)]
    rw [nI_clamp (show k < 2 ^ 31 by omega)] at hon
    cases n with
    | zero =>
      have e : spTo (nI k) (nI 40) (gsh v s k) 0 = gsh v s k := by rw [spTo]
      rw [if_pos (by decide), e]; exact ⟨rfl, hI⟩
    | succ n =>
      have p := oursV_eq hon (m := 40 * (n + 1)) (by omega)
      have q := goG_eq hon (m := 40 * (n + 1)) (by omega)
      have r := go_pass hon (40 * (n + 1)) (by omega)
      rw [if_neg (nI_nle (by omega) (by omega)), sp_eq hl hI n (by omega), show (40 : Int32) = nI 40 from rfl, pk_mul, Nat.mul_comm (n + 1) 40, nI_clamp (show k < 2 ^ 31 by omega), p, ← q, goG, goO, goA, nI_clamp (show 40 * (n + 1) < 2 ^ 31 by omega), ← r]
      refine ⟨rfl, ?_⟩
      dsimp only
      rw [r]
      exact hon.pass (by omega)
/-! the shares, one by one -/
def stp (c : Nat → Prop) [DecidablePred c] (g : Nat → Int32) (k : Nat) (z : Int32 × Int32) : Int32 × Int32 := if c k then offerF z (nI k) (g k) else z
def pkf (c : Nat → Prop) [DecidablePred c] (g : Nat → Int32) : Nat → Nat → Int32 × Int32 → Int32 × Int32
  | 0, _, z => z
  | n + 1, s, z => stp c g (s + n) (pkf c g n s z)
theorem pkf_pk {c : Nat → Prop} [DecidablePred c] {g : Nat → Int32} : ∀ n, pk c nI g n = pkf c g n 0 (-1, 0)
  | 0 => rfl
  | n + 1 => by rw [pk_s, pkf, stp, pkf_pk n, Nat.zero_add]
theorem pkf_add {c : Nat → Prop} [DecidablePred c] {g : Nat → Int32} {s : Nat} {z : Int32 × Int32} (n : Nat) : ∀ m, pkf c g (n + m) s z = pkf c g m (s + n) (pkf c g n s z)
  | 0 => rfl
  | m + 1 => by rw [← Nat.add_assoc, pkf, pkf, pkf_add n m, Nat.add_assoc]
theorem pkf_skip {c : Nat → Prop} [DecidablePred c] {g : Nat → Int32} {s : Nat} {z : Int32 × Int32} : ∀ n, (∀ k, k < n → ¬ c (s + k)) → pkf c g n s z = z
  | 0, _ => rfl
  | n + 1, h => by rw [pkf, pkf_skip n (fun k hk => h k (by omega)), stp, if_neg (h n (by omega))]
theorem pk_ne {c : Nat → Prop} [DecidablePred c] {g : Nat → Int32} : ∀ n, n < 2 ^ 31 → (∃ k, k < n ∧ c k) → ¬ (pk c nI g n).1 = -1
  | 0, _, ⟨k, hk, _⟩ => absurd hk (by omega)
  | n + 1, hn, ⟨k, hk, hc⟩ => by
    rw [pk_s]
    by_cases e : k = n
    · subst e
      rw [if_pos hc]
      unfold offerF
      split
      · exact nI_nm1 (by omega)
      · split
        · assumption
        · exact nI_nm1 (by omega)
    · have ih := pk_ne (c := c) (g := g) n (by omega) ⟨k, by omega, hc⟩
      split
      · unfold offerF
        rw [if_neg ih]
        split
        · exact ih
        · exact nI_nm1 (by omega)
      · exact ih
theorem spl_n : ∀ s, s < 729 → spellsF (nI s) (nI 0) = nI (s / 81) ∧ spellsF (nI s) (nI 1) = nI (s / 9 % 9) ∧ spellsF (nI s) (nI 2) = nI (s % 9) ∧ (s / 81 + s / 9 % 9 + s % 9 ≤ 8 → spellsF (nI s) (nI 3) = nI (8 - s / 81 - s / 9 % 9 - s % 9)) ∧ (8 < s / 81 + s / 9 % 9 + s % 9 → spellsF (nI s) (nI 3) < 0) := by decide +kernel
theorem spl_a {a0 a1 a2 : Nat} (h1 : a1 ≤ 8) (h2 : a2 ≤ 8) : (81 * a0 + 9 * a1 + a2) / 81 = a0 ∧ (81 * a0 + 9 * a1 + a2) / 9 % 9 = a1 ∧ (81 * a0 + 9 * a1 + a2) % 9 = a2 := by omega
/-- whether a share may be -/
def myP (v : CV) (a0 a1 a2 : Nat) : Prop := (a0 = 0 ∨ ¬ v.2 4 0 = 0) ∧ (a1 = 0 ∨ ¬ v.2 4 1 = 0) ∧ (a2 = 0 ∨ ¬ v.2 4 2 = 0) ∧ a0 + a1 + a2 ≤ 8 ∧ (a0 + a1 + a2 = 8 ∨ ¬ v.2 4 3 = 0)
theorem may_s {v : CV} {s : Int32} {k n a : Nat} (hk : k < 4) (ha : a ≤ 8) (e : spellsF s (nI k) = nI a) : ¬ mayF v s k (n + 1) = 0 ↔ (a = 0 ∨ ¬ v.2 4 k = 0) ∧ ¬ mayF v s (k + 1) n = 0 := by
  rw [mayF, e, if_neg (nI_pos (by omega))]
  by_cases c : a = 0
  · rw [if_pos (by rw [c]; decide)]; exact ⟨fun q => ⟨Or.inl c, q⟩, fun q => q.2⟩
  · rw [if_neg (nI_nle (by omega) (by omega))]
    by_cases d : v.2 4 k = 0
    · rw [if_pos ((hp_c hk).mpr d)]
      exact ⟨fun q => absurd rfl q, fun q => absurd q.1 (fun z => z.elim c (fun y => y d))⟩
    · rw [if_neg (fun q => d ((hp_c hk).mp q))]; exact ⟨fun q => ⟨Or.inr d, q⟩, fun q => q.2⟩
theorem may_n {v : CV} {a0 a1 a2 : Nat} (h0 : a0 ≤ 8) (h1 : a1 ≤ 8) (h2 : a2 ≤ 8) : ¬ mayF v (nI (81 * a0 + 9 * a1 + a2)) 0 4 = 0 ↔ myP v a0 a1 a2 := by
  obtain ⟨e0, e1, e2, e3, e4⟩ := spl_n (81 * a0 + 9 * a1 + a2) (by omega)
  obtain ⟨d0, d1, d2⟩ := spl_a (a0 := a0) h1 h2
  rw [d0] at e0
  rw [d1] at e1
  rw [d2] at e2
  rw [d0, d1, d2] at e3 e4
  rw [may_s (by decide) h0 e0, may_s (by decide) h1 e1, may_s (by decide) h2 e2]
  unfold myP
  by_cases c : a0 + a1 + a2 ≤ 8
  · rw [may_s (by decide) (by omega) (e3 c)]
    have z : ¬ mayF v (nI (81 * a0 + 9 * a1 + a2)) (0 + 1 + 1 + 1 + 1) 0 = 0 := by rw [mayF]; decide
    constructor
    · rintro ⟨q0, q1, q2, q3, _⟩
      exact ⟨q0, q1, q2, c, q3.imp (fun q => by omega) id⟩
    · rintro ⟨q0, q1, q2, _, q3⟩
      exact ⟨q0, q1, q2, q3.imp (fun q => by omega) id, z⟩
  · have z : mayF v (nI (81 * a0 + 9 * a1 + a2)) (0 + 1 + 1 + 1) (0 + 1) = 0 := by rw [mayF, if_pos (e4 (by omega))]
    constructor
    · rintro ⟨q0, q1, q2, q3⟩; exact absurd z q3
    · rintro ⟨q0, q1, q2, q3, _⟩; exact absurd q3 c
