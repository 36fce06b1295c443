/-! class and reference in one relation -/
def Sh1 (A : Nat → Nat → Int32) (R : Nat → Nat → Int64) (v : CV) (s : Nat) (sh : SV) : Prop :=
  (A 0 s = 0 ∧ sh.2.1 = -1) ∨ (A 0 s = 1 ∧ sh.2.1 = A 1 s ∧ nb (A 1 s) 0 4 ∧ sh.2.2 = A 2 s ∧ sh.1 = R s) ∨ (A 0 s = 2 ∧ sh.2.1 = 10 + A 3 s ∧ nb (A 3 s) 0 9 ∧ ¬ isPlF v (A 3 s) = 0)
def Rl (x : XV) (m : Mst) : Prop := x.1 0 = m.1 ∧ Iv m.1 ∧ (∀ s, s < 8 → Sh1 m.2.2.1 m.2.2.2.1 m.1 s (x.2.2.1 s)) ∧ (∀ s, s < 8 → szOk (x.2.2.1 s)) ∧ (∀ s, s < 8 → nb (m.2.2.1 2 s) 0 40) ∧ x.2.1.1 = m.2.2.1 4 ∧ x.2.1.2 0 = m.2.1 0 ∧ nb (m.2.1 0) 0 250 ∧ (∀ k, k < 5 → x.2.2.2.1 k = m.2.2.1 5 (k + 2))
theorem Rl.okM {x : XV} {m : Mst} (h : Rl x m) : okM m := by
  obtain ⟨h1, h2, h3, h4, h5, h6, h7, ⟨n, _, hn, en⟩, h9⟩ := h
  refine ⟨h2.ok, fun s hs => ?_, fun s hs => ?_, n, hn, en⟩
  · obtain ⟨n, _, hn, en⟩ := h5 s hs
    exact ⟨n, hn, en⟩
  · rcases h3 s hs with ⟨a, _⟩ | ⟨a, _⟩ | ⟨a, _, _, b⟩
    · exact ⟨Or.inl a, fun q => absurd (a.symm.trans q) (by decide)⟩
    · exact ⟨Or.inr (Or.inl a), fun q => absurd (a.symm.trans q) (by decide)⟩
    · exact ⟨Or.inr (Or.inr a), fun _ => b⟩
theorem Rl.okX {x : XV} {m : Mst} (h : Rl x m) (h2 : okP (x.1 2)) : okX x := by
  obtain ⟨h1, hI, h3, h4, h5, h6, h7, ⟨n, _, hn, en⟩, h9⟩ := h
  exact ⟨by rw [h1]; exact hI.ok, h2, h4, n, hn, h7.trans en⟩
/-- one step of both: alike answers, related states, what is kept untouched -/
def Rs {α : Type} (x : XV) (m : Mst) (a : α × XV) (b : α × Mst) : Prop := a.1 = b.1 ∧ Rl a.2 b.2 ∧ a.2.1 2 = x.1 2 ∧ a.2.2.2.2.2.2 = x.2.2.2.2.2 ∧ b.2.2.2.2.2.2 = m.2.2.2.2.2
theorem R_mk {α : Type} {x x' : XV} {m m' : Mst} {r r' : α} (e : r = r') (h : Rl x' m') (h2 : x'.1 2 = x.1 2) (h3 : x'.2.2.2.2.2 = x.2.2.2.2.2) (h4 : m'.2.2.2.2.2 = m.2.2.2.2.2) : Rs x m (r, x') (r', m') := ⟨e, h, h2, h3, h4⟩
theorem R_id {α : Type} {x : XV} {m : Mst} (h : Rl x m) {r r' : α} (e : r = r') : Rs x m (r, x) (r', m) := ⟨e, h, rfl, rfl, rfl⟩
theorem Rl.ref {x : XV} {m : Mst} (h : Rl x m) {y : Int32} {k : Nat} (hk : k < 5) (e1 : -2 - y = nI k) (e2 : -y = nI (k + 2)) : Rl (refX x y) (m.1, reM m.2 y) ∧ (refX x y).1 = x.1 ∧ (refX x y).2.2.2.2.2 = x.2.2.2.2.2 := by
  have hi : ¬ isInF (-2 - y) 0 (5 - 1) = 0 := by
    rw [e1]
    unfold isInF
    rw [if_neg (nI_pos (by omega)), if_neg (show ¬ (5 - 1 : Int32) < nI k from nI_nlt (a := 4) (by omega) (by decide))]
    decide
  unfold refX
  rw [if_neg hi, e1, nI_clamp (by omega)]
  obtain ⟨h1, hI, h3, h4, h5, h6, h7, h8, h9⟩ := h
  refine ⟨⟨h1, hI, h3, h4, h5, h6, h7, h8, fun j hj => ?_⟩, rfl, rfl⟩
  show upd x.2.2.2.1 k (x.2.2.2.1 k + 1) j = upd (m.2.2.1 5) (-y).toNatClampNeg (m.2.2.1 5 (-y).toNatClampNeg + 1) (j + 2)
  rw [e2, nI_clamp (by omega)]
  unfold upd
  by_cases q : j = k
  · rw [if_pos q, if_pos (by omega), h9 k hk]
  · rw [if_neg q, if_neg (by omega), h9 j hj]
theorem R_rf {x : XV} {m : Mst} (h : Rl x m) {y : Int32} {k : Nat} (hk : k < 5) (e1 : -2 - y = nI k) (e2 : -y = nI (k + 2)) : Rs x m (rf x y) (rm m y) := by
  obtain ⟨a, b, c⟩ := h.ref hk e1 e2
  exact R_mk rfl a (congrFun b 2) c rfl
theorem R_rg {x : XV} {m : Mst} (h : Rl x m) {y : Int32} {k : Nat} (hk : k < 5) (e1 : -2 - y = nI k) (e2 : -y = nI (k + 2)) : Rs x m (rg x y) (rn m y) := by
  obtain ⟨a, b, c⟩ := h.ref hk e1 e2
  exact R_mk rfl a (congrFun b 2) c rfl
theorem R_f2 {x : XV} {m : Mst} (h : Rl x m) : Rs x m (rf x (-2)) (rm m (-2)) := R_rf h (k := 0) (by decide) (by decide) (by decide)
theorem R_f3 {x : XV} {m : Mst} (h : Rl x m) : Rs x m (rf x (-3)) (rm m (-3)) := R_rf h (k := 1) (by decide) (by decide) (by decide)
theorem R_f4 {x : XV} {m : Mst} (h : Rl x m) : Rs x m (rf x (-4)) (rm m (-4)) := R_rf h (k := 2) (by decide) (by decide) (by decide)
theorem R_f5 {x : XV} {m : Mst} (h : Rl x m) : Rs x m (rf x (-5)) (rm m (-5)) := R_rf h (k := 3) (by decide) (by decide) (by decide)
theorem R_f6 {x : XV} {m : Mst} (h : Rl x m) : Rs x m (rf x (-6)) (rm m (-6)) := R_rf h (k := 4) (by decide) (by decide) (by decide)
theorem R_g2 {x : XV} {m : Mst} (h : Rl x m) : Rs x m (rg x (-2)) (rn m (-2)) := R_rg h (k := 0) (by decide) (by decide) (by decide)
theorem R_g3 {x : XV} {m : Mst} (h : Rl x m) : Rs x m (rg x (-3)) (rn m (-3)) := R_rg h (k := 1) (by decide) (by decide) (by decide)
theorem R_g4 {x : XV} {m : Mst} (h : Rl x m) : Rs x m (rg x (-4)) (rn m (-4)) := R_rg h (k := 2) (by decide) (by decide) (by decide)
theorem R_g5 {x : XV} {m : Mst} (h : Rl x m) : Rs x m (rg x (-5)) (rn m (-5)) := R_rg h (k := 3) (by decide) (by decide) (by decide)
/-- only what stands on the ice changes -/
theorem Rl.v {x : XV} {m : Mst} (h : Rl x m) {v' : CV} (hv : Iv v') (hp : ∀ p, ¬ isPlF m.1 p = 0 → ¬ isPlF v' p = 0) : Rl (setR x 0 v') (v', m.2) := by
  obtain ⟨h1, hI, h3, h4, h5, h6, h7, h8, h9⟩ := h
  refine ⟨show (if (0 : Nat) = 0 then v' else x.1 0) = v' from if_pos rfl, hv, fun s hs => ?_, h4, h5, h6, h7, h8, h9⟩
  rcases h3 s hs with a | a | ⟨a, b, c, d⟩
  · exact Or.inl a
  · exact Or.inr (Or.inl a)
  · exact Or.inr (Or.inr ⟨a, b, c, hp _ d⟩)
theorem R_v {α : Type} {x : XV} {m : Mst} (h : Rl x m) {v' : CV} (hv : Iv v') (e0 : v'.1 0 = m.1.1 0) {r r' : α} (e : r = r') : Rs x m (r, setR x 0 v') (r', v', m.2) := by
  refine ⟨e, h.v hv (fun p q => ?_), ?_, rfl, rfl⟩
  · unfold isPlF at *
    rw [e0]; exact q
  · show (if (2 : Nat) = 0 then v' else x.1 2) = x.1 2
    exact if_neg (by decide)
/-! shelves -/
theorem row_1 {c : Int32} (h : nb c 0 4) : ¬ isInF c 0 4 = 0 := by
  obtain ⟨n, _, hn, rfl⟩ := h
  unfold isInF
  rw [if_neg (nI_pos (by omega)), if_neg (show ¬ (4 : Int32) < nI n from nI_nlt (a := 4) hn (by decide))]
  decide
theorem sh_row {A : Nat → Nat → Int32} {R : Nat → Nat → Int64} {v : CV} {s : Nat} {sh : SV} (h : Sh1 A R v s sh) : (A 0 s = 0 ∧ isRowF sh = 0 ∧ isPlrF sh = 0 ∧ whyF sh = -4 ∧ sh.2.1 = -1) ∨ (A 0 s = 1 ∧ ¬ isRowF sh = 0 ∧ isPlrF sh = 0 ∧ sh.2.1 = A 1 s ∧ nb (A 1 s) 0 4 ∧ sh.2.2 = A 2 s ∧ sh.1 = R s) ∨ (A 0 s = 2 ∧ isRowF sh = 0 ∧ ¬ isPlrF sh = 0 ∧ whyF sh = -3 ∧ sh.2.1 = 10 + A 3 s ∧ nb (A 3 s) 0 9 ∧ ¬ isPlF v (A 3 s) = 0) := by
  rcases h with ⟨a, b⟩ | ⟨a, b, c, d, e⟩ | ⟨a, b, ⟨n, _, hn, en⟩, d⟩
  · left
    have p : isPlrF sh = 0 := by unfold isPlrF; rw [b]; exact if_pos (by decide)
    exact ⟨a, by unfold isRowF; rw [b]; decide, p, by unfold whyF; rw [if_pos p], b⟩
  · right; left
    refine ⟨a, by unfold isRowF; rw [b]; exact row_1 c, ?_, b, c, d, e⟩
    obtain ⟨n, _, hn, en⟩ := c
    unfold isPlrF
    rw [b, en]
    exact if_pos (nI_lt (b := 10) (by omega) (by decide))
  · right; right
    have e10 : sh.2.1 = nI (10 + n) := by rw [b, en, show (10 : Int32) = nI 10 from rfl, nI_add]
    have p : ¬ isPlrF sh = 0 := by
      unfold isPlrF
      rw [e10, if_neg (show ¬ nI (10 + n) < 10 from nI_nlt (b := 10) (by omega) (by omega))]
      decide
    refine ⟨a, ?_, p, by unfold whyF; rw [if_neg p], b, ⟨n, Nat.zero_le _, hn, en⟩, d⟩
    unfold isRowF isInF
    rw [e10, if_neg (nI_pos (by omega)), if_pos (show (4 : Int32) < nI (10 + n) from nI_lt (a := 4) (by omega) (by omega))]
/-- one shelf changes -/
theorem Rl.sh {x : XV} {m : Mst} (h : Rl x m) {s : Nat} {sh : SV} {A' : Nat → Nat → Int32} {R' : Nat → Nat → Int64} (hA : ∀ i, 3 < i → A' i = m.2.2.1 i) (hj : ∀ i j, j ≠ s → A' i j = m.2.2.1 i j) (hR : ∀ j, j ≠ s → R' j = m.2.2.2.1 j) (h1 : Sh1 A' R' m.1 s sh) (hz : szOk sh) (h2 : nb (A' 2 s) 0 40) {mv : Nat → Int64} : Rl (setSh x s sh) (m.1, m.2.1, A', R', mv, m.2.2.2.2.2) := by
  obtain ⟨g1, gI, g3, g4, g5, g6, g7, g8, g9⟩ := h
  refine ⟨g1, gI, fun j hj' => ?_, fun j hj' => ?_, fun j hj' => ?_, ?_, g7, g8, fun k hk => ?_⟩
  · show Sh1 A' R' m.1 j (if j = s then sh else x.2.2.1 j)
    by_cases e : j = s
    · rw [if_pos e, e]; exact h1
    · rw [if_neg e]
      have := g3 j hj'
      unfold Sh1 at *
      rw [hj 0 j e, hj 1 j e, hj 2 j e, hj 3 j e, hR j e]
      exact this
  · show szOk (if j = s then sh else x.2.2.1 j)
    by_cases e : j = s
    · rw [if_pos e]; exact hz
    · rw [if_neg e]; exact g4 j hj'
  · show nb (A' 2 j) 0 40
    by_cases e : j = s
    · rw [e]; exact h2
    · rw [hj 2 j e]; exact g5 j hj'
  · show x.2.1.1 = A' 4
    rw [hA 4 (by decide)]; exact g6
  · show x.2.2.2.1 k = A' 5 (k + 2)
    rw [hA 5 (by decide)]; exact g9 k hk
theorem sh8n {s : Int32} (c : ¬ isInF s 0 7 = 0) : s.toNatClampNeg < 8 := sh8 c
theorem sz_nb {n : Int32} (h : nb n 0 40) {f : Nat → Int64} {c : Int32} : szOk (f, c, n) := by
  obtain ⟨k, _, hk, e⟩ := h
  exact ⟨k, hk, e⟩
theorem rowA_at {A : Nat → Nat → Int32} {s y n : Int32} (i j : Nat) : rowA A s y n i j = if j = s.toNatClampNeg then (if i = 0 then 1 else if i = 1 then y else if i = 2 then n else A i j) else A i j := by
  unfold rowA upA upd
  by_cases e : j = s.toNatClampNeg
  · rw [if_pos e]
    by_cases i2 : i = 2
    · subst i2; simp [e]
    · by_cases i1 : i = 1
      · subst i1; simp [e]
      · by_cases i0 : i = 0
        · subst i0; simp [e]
        · simp [i0, i1, i2]
  · rw [if_neg e]
    by_cases i2 : i = 2
    · subst i2; simp [e]
    · by_cases i1 : i = 1
      · subst i1; simp [e]
      · by_cases i0 : i = 0
        · subst i0; simp [e]
        · simp [i0, i1, i2]
theorem R_row {x : XV} {m : Mst} (h : Rl x m) (s t n : Int32) : Rs x m (xrow x s t n) (mrow m s t n) := by
  unfold xrow mrow
  by_cases c1 : isInF s 0 7 = 0
  · rw [if_pos c1, if_pos c1]; exact R_f2 h
  · rw [if_neg c1, if_neg c1]
    by_cases c2 : isInF t 0 4 = 0
    · rw [if_pos c2, if_pos c2]; exact R_f2 h
    · rw [if_neg c2, if_neg c2]
      by_cases c3 : isInF n 0 40 = 0
      · rw [if_pos c3, if_pos c3]; exact R_f2 h
      · rw [if_neg c3, if_neg c3]
        have n4 := nb_of (a := 0) (b := 4) rfl rfl (by decide) (by decide) c2
        have n40 := nb_of (a := 0) (b := 40) rfl rfl (by decide) (by decide) c3
        have B := rowA_at (A := m.2.2.1) (s := s) (y := t) (n := n)
        show Rs x m (1, setSh x s.toNatClampNeg (fun _ => 0, t, n)) (1, m.1, m.2.1, rowA m.2.2.1 s t n, upL m.2.2.2.1 s.toNatClampNeg (fun _ => 0), m.2.2.2.2)
        refine ⟨rfl, h.sh (fun i hi => ?_) (fun i j hj => ?_) (fun j hj => ?_) (Or.inr (Or.inl ⟨?_, ?_, ?_, ?_, ?_⟩)) (sz_nb n40) ?_, rfl, rfl, rfl⟩
        · funext j
          rw [B]
          by_cases e : j = s.toNatClampNeg
          · rw [if_pos e, if_neg (by omega), if_neg (by omega), if_neg (by omega)]
          · rw [if_neg e]
        · rw [B, if_neg hj]
        · exact if_neg hj
        · rw [B, if_pos rfl, if_pos rfl]
        · rw [B, if_pos rfl, if_neg (by decide), if_pos rfl]
        · rw [B, if_pos rfl, if_neg (by decide), if_pos rfl]; exact n4
        · rw [B, if_pos rfl, if_neg (by decide), if_neg (by decide), if_pos rfl]
        · exact upL_at.symm
        · rw [B, if_pos rfl, if_neg (by decide), if_neg (by decide), if_pos rfl]; exact n40

