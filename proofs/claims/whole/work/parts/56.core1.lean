/-! class and model alike: what stands on the ice -/
def nb (x : Int32) (a b : Nat) : Prop := ∃ n : Nat, a ≤ n ∧ n ≤ b ∧ x = nI n
def Iv (v : CV) : Prop := ∃ P : Nat, P ≤ 10 ∧ v.1 0 = nI P ∧ nb (v.1 1) 0 (2 ^ P - 1) ∧ nb (v.1 2) 0 (2 ^ P - 1) ∧ (nb (v.1 3) 0 5 ∧ (v.1 3 = 0 ↔ v.1 2 = 0)) ∧ nb (v.1 4) 0 2 ∧ nb (v.1 5) 0 1 ∧ nb (v.1 6) 1 999 ∧ nb (v.1 7) 0 1 ∧ (∀ l, l < 4 → nb (v.2 4 l) 0 (2 ^ P - 1)) ∧ (∀ p, p < P → nb (v.2 0 p) 0 5 ∧ nb (v.2 1 p) 1 99 ∧ nb (v.2 2 p) 0 9 ∧ nb (v.2 3 p) 0 100) ∧ (∀ p, p < 10 → bitF (v.1 2) (nI p) = 1 → bitF (v.1 1) (nI p) = 1)
theorem Iv.ok {v : CV} (h : Iv v) : okP v := by
  obtain ⟨P, hP, e, _⟩ := h
  exact ⟨P, hP, e⟩
theorem nb_mono {x : Int32} {a b c : Nat} (h : nb x a b) (hc : b ≤ c) : nb x a c := by
  obtain ⟨n, h1, h2, e⟩ := h
  exact ⟨n, h1, by omega, e⟩
theorem pow10 {P : Nat} (h : P ≤ 10) : 2 ^ P - 1 ≤ 1023 := pow_le h
theorem Iv.nq {v : CV} (h : Iv v) : np v ≤ 10 ∧ v.1 0 = nI (np v) := by
  obtain ⟨P, hP, e, e1⟩ := np_ex h.ok
  rw [e1]; exact ⟨hP, e⟩
/-- what powers need -/
def Ib (v : CV) : Prop := okP v ∧ nb (v.1 1) 0 1023
theorem Iv.ib {v : CV} (h : Iv v) : Ib v := by
  refine ⟨h.ok, ?_⟩
  obtain ⟨P, hP, _, h1, _⟩ := h
  exact nb_mono h1 (pow10 hP)
theorem bit_1 {x p : Int32} : bitF x p = 1 ↔ ¬ bitF x p = 0 := by
  rcases bit01 x p with h | h <;> rw [h] <;> decide
theorem pow_eq {v : CV} {k : Nat} (h : nb (v.1 1) 0 1023) (hk : k < 10) : powF v (nI k) = powM v (nI k) := by
  obtain ⟨n, _, hn, e⟩ := h
  have e1 : bitsF (v.1 1 &&& notI ((1 : Int32) <<< (nI k &&& 31))) = othersF v (nI k) := by
    rw [othersF, e]; exact others_n (by omega) hk
  unfold powF powM
  rw [e1]
  by_cases c1 : v.2 0 (nI k).toNatClampNeg = 2
  · have c5 : ¬ v.2 0 (nI k).toNatClampNeg = 5 := by rw [c1]; decide
    by_cases c2 : 10 ≤ v.2 3 (nI k).toNatClampNeg
    · rw [if_neg (fun q => q.2 c2), if_pos c1, if_pos c2]
    · rw [if_pos ⟨c1, c2⟩, if_pos c1, if_neg c2, if_neg c5]
  · rw [if_neg (fun q => c1 q.1), if_neg c1]
theorem pw_eq {v : CV} (h : nb (v.1 1) 0 1023) : ∀ k, k ≤ 10 → pwTo v k = pwM v k
  | 0, _ => rfl
  | k + 1, hk => by
    rw [pwTo, pwM, pw_eq h k (by omega), pow_eq h (by omega)]
    by_cases c1 : bitF (v.1 2) (nI k) = 0
    · rw [if_pos c1, if_neg (fun q => bit_1.mp q c1)]
      by_cases c2 : bitF (v.1 1) (nI k) = 0
      · rw [if_pos c2, if_neg (fun q => bit_1.mp q c2)]
      · rw [if_neg c2, if_pos (bit_1.mpr c2)]
    · rw [if_neg c1, if_pos (bit_1.mpr c1)]
theorem powA_eq {v : CV} (h : Ib v) : powAll v = powAM v := by
  obtain ⟨P, hP, e, e1⟩ := np_ex h.1
  rw [powAll, powAM, pw_eq h.2 _ (by omega)]
theorem bit_mul (x p y a : Int32) : a + bitF x p * y = if bitF x p = 0 then a + 0 else a + y := by
  rcases bit01 x p with h | h
  · rw [if_pos h, h, Int32.zero_mul]
  · rw [if_neg (by rw [h]; decide), h, Int32.one_mul]
theorem td_eq {v : CV} {l : Nat} : ∀ k, sumTo (fun j => bitF (v.2 4 l) (nI j) * v.2 3 (nI j).toNatClampNeg) k = tdTo v l k
  | 0 => rfl
  | k + 1 => by rw [sumTo, tdTo, td_eq k, bit_mul]
theorem tired_eq {v : CV} {l : Int32} : tiredF v (v.2 4 l.toNatClampNeg) = tdM v l := td_eq _
theorem sk_eq {v : CV} {l : Nat} : ∀ k, sumTo (fun j => bitF (v.2 4 l) (nI j) * v.2 1 (nI j).toNatClampNeg) k = skM v l k
  | 0 => rfl
  | k + 1 => by rw [sumTo, skM, sk_eq k, bit_mul]
theorem skill_eq {v : CV} {l : Int32} : skillF v (v.2 4 l.toNatClampNeg) = skM v l.toNatClampNeg (np v) := sk_eq _
theorem fr_eq {v : CV} : ∀ k, k < 2 ^ 31 → (frTo v k).1 = fmTo v k ∧ (¬ fmTo v k = -1 → (frTo v k).2 = tdM v (fmTo v k))
  | 0, _ => ⟨rfl, fun q => absurd rfl q⟩
  | k + 1, hk => by
    obtain ⟨h1, h2⟩ := fr_eq (v := v) k (by omega)
    rw [frTo, fmTo]
    by_cases c1 : v.2 4 (nI k).toNatClampNeg = 0
    · rw [if_pos c1, if_pos c1]; exact ⟨h1, h2⟩
    · rw [if_neg c1, if_neg c1, h1]
      by_cases c2 : fmTo v k = -1
      · rw [if_pos c2, if_pos c2]; exact ⟨rfl, fun _ => tired_eq⟩
      · rw [if_neg c2, if_neg c2, h2 c2, tired_eq]
        by_cases c3 : tdM v (fmTo v k) ≤ tdM v (nI k)
        · rw [if_pos c3, if_pos c3]; exact ⟨h1, h2⟩
        · rw [if_neg c3, if_neg c3]; exact ⟨rfl, fun _ => rfl⟩
theorem fresh_eq {v : CV} : freshF v = fmF v := (fr_eq 4 (by decide)).1
theorem under4 {k : Int32} : ¬ isUnderF k 4 = 0 ↔ (k = 4 ∨ k = 5) := by
  unfold isUnderF
  rw [if_neg (by decide)]
  by_cases h1 : k = 4
  · rw [if_pos h1]; exact ⟨fun _ => Or.inl h1, fun _ => by decide⟩
  · rw [if_neg h1, if_neg (fun q => absurd q.2 (by decide))]
    by_cases h2 : k = 5
    · rw [if_pos ⟨h2, rfl⟩]; exact ⟨fun _ => Or.inr h2, fun _ => by decide⟩
    · rw [if_neg (fun q => h2 q.1)]; exact ⟨fun q => absurd rfl q, fun q => absurd q (fun z => z.elim h1 h2)⟩
theorem wy_eq {v : CV} {l : Nat} (h : nb (v.1 5) 0 1) : ∀ k, wyTo v l k = wmTo v l k
  | 0 => by
    rw [wyTo, wmTo]
    obtain ⟨n, _, hn, e⟩ := h
    rw [e]
    rcases (show n = 0 ∨ n = 1 by omega) with rfl | rfl <;> rfl
  | k + 1 => by
    rw [wyTo, wmTo, wy_eq h k]
    by_cases c1 : bitF (v.1 1 &&& notI (v.2 4 l)) (nI k) = 0
    · rw [if_pos c1, if_neg (fun q => bit_1.mp q.1 c1), Int32.sub_zero]
    · rw [if_neg c1]
      by_cases c2 : v.2 0 (nI k).toNatClampNeg = 4
      · rw [if_pos c2, if_pos ⟨bit_1.mpr c1, under4.mpr (Or.inl c2)⟩, Int32.sub_eq_add_neg]
      · rw [if_neg c2]
        by_cases c3 : v.2 0 (nI k).toNatClampNeg = 5
        · rw [if_pos c3, if_pos ⟨bit_1.mpr c1, under4.mpr (Or.inr c3)⟩, Int32.sub_eq_add_neg]
        · rw [if_neg c3, if_neg (fun q => (under4.mp q.2).elim c2 c3), Int32.sub_zero]
theorem max1 {y : Int32} : maxF 1 y = if y ≤ 1 then 1 else y := by
  unfold maxF
  by_cases h : y ≤ 1
  · rw [if_pos h, if_neg (Int32.not_lt.mpr h)]
  · rw [if_neg h, if_pos (Int32.not_le.mp h)]
theorem way_eq {v : CV} {l : Int32} (h : nb (v.1 5) 0 1) : wayF v l = wayM v l := by
  unfold wayF wayM
  rw [wy_eq h, max1]
theorem chg_eq {v : CV} {l : Int32} (h : nb (v.1 5) 0 1) : chgV v l = chM v l := by
  unfold chgV chM
  rw [way_eq h]
/-! seconds -/
theorem upA3 {A : Nat → Nat → Int32} {f : Nat → Int32} {i : Nat} (h : i ≠ 3) : upA A 3 f i = A i := if_neg h
theorem upA33 {A : Nat → Nat → Int32} {f : Nat → Int32} : upA A 3 f 3 = f := if_pos rfl
theorem tireTo_i {n : Int32} {v : CV} {i : Nat} (hi : i ≠ 3) : ∀ k, (tireTo n v k).2 i = v.2 i
  | 0 => rfl
  | k + 1 => by
    rw [tireTo]
    split
    · show upA (tireTo n v k).2 3 _ i = v.2 i
      rw [upA3 hi]; exact tireTo_i hi k
    · exact tireTo_i hi k
theorem tireTo_3 {n : Int32} {v : CV} : ∀ k, k ≤ 10 → ∀ j, (tireTo n v k).2 3 j = if j < k ∧ bitF (v.1 1) (nI j) = 1 then minF 100 (v.2 3 j + n * tiresF (v.2 0 j)) else v.2 3 j
  | 0, _, j => by rw [if_neg (fun q => Nat.not_lt_zero _ q.1)]; rfl
  | k + 1, hk, j => by
    have ih := tireTo_3 (n := n) (v := v) k (by omega)
    rw [tireTo, tireTo_1]
    by_cases c : bitF (v.1 1) (nI k) = 1
    · rw [if_pos c]
      dsimp only
      rw [upA33, nI_clamp (by omega), tireTo_i (i := 0) (by decide), ih k, if_neg (fun q => Nat.lt_irrefl _ q.1)]
      unfold upd
      by_cases e : j = k
      · subst e; rw [if_pos rfl, if_pos ⟨by omega, c⟩]
      · rw [if_neg e, ih j]
        by_cases d : j < k ∧ bitF (v.1 1) (nI j) = 1
        · rw [if_pos d, if_pos ⟨by omega, d.2⟩]
        · rw [if_neg d, if_neg (fun q => d ⟨by omega, q.2⟩)]
    · rw [if_neg c, ih j]
      by_cases d : j < k ∧ bitF (v.1 1) (nI j) = 1
      · rw [if_pos d, if_pos ⟨by omega, d.2⟩]
      · rw [if_neg d]
        refine (if_neg fun q => ?_).symm
        by_cases e : j = k
        · subst e; exact c q.2
        · exact d ⟨by omega, q.2⟩
theorem restTo_1' {n : Int32} {v : CV} : ∀ k, (restTo n v k).1 = v.1
  | 0 => rfl
  | k + 1 => by
    rw [restTo]
    split
    · exact restTo_1' k
    · exact restTo_1' k
theorem restTo_i {n : Int32} {v : CV} {i : Nat} (hi : i ≠ 3) : ∀ k, (restTo n v k).2 i = v.2 i
  | 0 => rfl
  | k + 1 => by
    rw [restTo]
    split
    · show upA (restTo n v k).2 3 _ i = v.2 i
      rw [upA3 hi]; exact restTo_i hi k
    · exact restTo_i hi k
theorem restTo_3 {n : Int32} {v : CV} : ∀ k, k ≤ 10 → ∀ j, (restTo n v k).2 3 j = if j < k ∧ bitF (v.1 1) (nI j) = 0 then maxF 0 (v.2 3 j - n * restsF (v.2 0 j)) else v.2 3 j
  | 0, _, j => by rw [if_neg (fun q => Nat.not_lt_zero _ q.1)]; rfl
  | k + 1, hk, j => by
    have ih := restTo_3 (n := n) (v := v) k (by omega)
    rw [restTo, restTo_1']
    by_cases c : bitF (v.1 1) (nI k) = 0
    · rw [if_pos c]
      dsimp only
      rw [upA33, nI_clamp (by omega), restTo_i (i := 0) (by decide), ih k, if_neg (fun q => Nat.lt_irrefl _ q.1)]
      unfold upd
      by_cases e : j = k
      · subst e; rw [if_pos rfl, if_pos ⟨by omega, c⟩]
      · rw [if_neg e, ih j]
        by_cases d : j < k ∧ bitF (v.1 1) (nI j) = 0
        · rw [if_pos d, if_pos ⟨by omega, d.2⟩]
        · rw [if_neg d, if_neg (fun q => d ⟨by omega, q.2⟩)]
    · rw [if_neg c, ih j]
      by_cases d : j < k ∧ bitF (v.1 1) (nI j) = 0
      · rw [if_pos d, if_pos ⟨by omega, d.2⟩]
      · rw [if_neg d]
        refine (if_neg fun q => ?_).symm
        by_cases e : j = k
        · subst e; exact c q.2
        · exact d ⟨by omega, q.2⟩
theorem cv_ext {u v : CV} (h1 : ∀ i, u.1 i = v.1 i) (h2 : ∀ i, i ≠ 3 → u.2 i = v.2 i) (h3 : ∀ j, u.2 3 j = v.2 3 j) : u = v := by
  refine Prod.ext (funext h1) (funext fun i => ?_)
  by_cases e : i = 3
  · subst e; exact funext h3
  · exact h2 i e
/-- how tired one is behind n seconds -/
def ti (n : Int32) (v : CV) (j : Nat) : Int32 := if bitF (v.1 1) (nI j) = 1 then minF 100 (v.2 3 j + n * tiresF (v.2 0 j)) else maxF 0 (v.2 3 j - n * restsF (v.2 0 j))
theorem tr_1 {n : Int32} {v : CV} : (restV n (tireV n v)).1 = v.1 := by rw [restV, restTo_1', tireV, tireTo_1]
theorem tr_i {n : Int32} {v : CV} {i : Nat} (hi : i ≠ 3) : (restV n (tireV n v)).2 i = v.2 i := by rw [restV, restTo_i hi, tireV, tireTo_i hi]
theorem tr_3 {n : Int32} {v : CV} (h : np v ≤ 10) (j : Nat) : (restV n (tireV n v)).2 3 j = if j < np v then ti n v j else v.2 3 j := by
  have e : np (tireV n v) = np v := by rw [np, np, tireV, tireTo_1]
  rw [restV, e, restTo_3 _ h, tireV, tireTo_1, tireTo_i (i := 0) (by decide), tireTo_3 _ h]
  unfold ti
  by_cases c1 : j < np v
  · rw [if_pos c1]
    rcases bit01 (v.1 1) (nI j) with c2 | c2
    · rw [if_pos ⟨c1, c2⟩, if_neg (fun q => bit_1.mp q.2 c2), if_neg (fun q => bit_1.mp q c2)]
    · rw [if_neg (fun q => bit_1.mp c2 q.2), if_pos ⟨c1, c2⟩, if_pos c2]
  · rw [if_neg c1, if_neg (fun q => c1 q.1), if_neg (fun q => c1 q.1)]
theorem min100 {y : Int32} : minF 100 y = if 100 ≤ y then 100 else y := by
  unfold minF
  by_cases h : 100 ≤ y
  · rw [if_pos h, if_neg (Int32.not_lt.mpr h)]
  · rw [if_neg h, if_pos (Int32.not_le.mp h)]
theorem max0 {y : Int32} : maxF 0 y = if y ≤ 0 then 0 else y := by
  unfold maxF
  by_cases h : y ≤ 0
  · rw [if_pos h, if_neg (Int32.not_lt.mpr h)]
  · rw [if_neg h, if_pos (Int32.not_le.mp h)]
theorem ti_1 {v : CV} {j : Nat} (hj : j < 2 ^ 31) : ti 1 v j = tirM v j := by
  unfold ti tirM
  rw [nI_clamp hj, min100, max0, Int32.one_mul, Int32.one_mul]
  rcases bit01 (v.1 1) (nI j) with c | c
  · rw [if_pos c, if_neg (fun q => bit_1.mp q c)]
    unfold rstM restsF
    by_cases k3 : v.2 0 j = 3
    · rw [if_pos k3, if_pos k3]
    · rw [if_neg k3, if_neg k3]
  · rw [if_neg (bit_1.mp c), if_pos c]
theorem tm_eq {v : CV} (h : np v ≤ 10) : restV 1 (tireV 1 v) = tmV v := by
  refine cv_ext (fun i => ?_) (fun i hi => ?_) (fun j => ?_)
  · rw [tr_1, tmV, tmTo_1]
  · rw [tr_i hi, tmV, tmTo_i hi]
  · rw [tr_3 h, tmV, tmTo_3 _ h]
    by_cases c : j < np v
    · rw [if_pos c, if_pos c, ti_1 (by omega)]
    · rw [if_neg c, if_neg c]
