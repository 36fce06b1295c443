variable {G : Nat → Prop}
/-! the model's reader -/
def rdX (E : ME) (a k f g : Int32) : ME := (upd (upd (upd (upd E.1 1 a) 2 k) 3 f) 4 g, E.2)
abbrev mxF (b : Nat) (v : CV) (E : ME) (a k f g : Int32) : List Value := [.ref (b + 1), .ref (b + 2), .ref (b + 3), .ref (b + 4), .ref (b + 13), .ref (b + 14), .ref (b + 15), .int (E.1 0), .ref (b + 16), .int (v.1 0), .ref (b + 17), .ref (b + 18), .ref (b + 19), .ref (b + 20), .ref (b + 21), .int (v.1 1), .int (v.1 2), .int (v.1 3), .int (v.1 4), .int (v.1 5), .int (v.1 6), .int (v.1 7), .int (v.1 8), .int (v.1 9), .int (v.1 10), .int (v.1 11), .int (v.1 12), va_rf E.2.2.2.2.1, va_rf E.2.2.2.2.2, .int a, .int k, .int f, .int g, .int (E.1 5), .ref (b + 22), .int (E.1 6), .int (E.1 7), .int (E.1 8), .ref (b + 23), .ref (b + 24), .int (E.1 9), .int (E.1 10)]
theorem rX1 {E : ME} {a k f g y : Int32} : (upd (rdX E a k f g).1 1 y, (rdX E a k f g).2) = rdX E y k f g := by
  unfold rdX
  refine Prod.ext (funext fun q => ?_) rfl
  show upd (upd (upd (upd (upd E.1 1 a) 2 k) 3 f) 4 g) 1 y q = upd (upd (upd (upd E.1 1 y) 2 k) 3 f) 4 g q
  unfold upd
  by_cases h1 : q = 1
  · subst h1; rfl
  · simp [h1]
theorem rX2 {E : ME} {a k f g y : Int32} : (upd (rdX E a k f g).1 2 y, (rdX E a k f g).2) = rdX E a y f g := by
  unfold rdX
  refine Prod.ext (funext fun q => ?_) rfl
  show upd (upd (upd (upd (upd E.1 1 a) 2 k) 3 f) 4 g) 2 y q = upd (upd (upd (upd E.1 1 a) 2 y) 3 f) 4 g q
  unfold upd
  by_cases h1 : q = 2
  · subst h1; rfl
  · simp [h1]
theorem rX3 {E : ME} {a k f g y : Int32} : (upd (rdX E a k f g).1 3 y, (rdX E a k f g).2) = rdX E a k y g := by
  unfold rdX
  refine Prod.ext (funext fun q => ?_) rfl
  show upd (upd (upd (upd (upd E.1 1 a) 2 k) 3 f) 4 g) 3 y q = upd (upd (upd (upd E.1 1 a) 2 k) 3 y) 4 g q
  unfold upd
  by_cases h1 : q = 3
  · subst h1; rfl
  · simp [h1]
theorem rX4 {E : ME} {a k f g y : Int32} : (upd (rdX E a k f g).1 4 y, (rdX E a k f g).2) = rdX E a k f y := by
  unfold rdX
  refine Prod.ext (funext fun q => ?_) rfl
  show upd (upd (upd (upd (upd E.1 1 a) 2 k) 3 f) 4 g) 4 y q = upd (upd (upd (upd E.1 1 a) 2 k) 3 f) 4 y q
  unfold upd
  by_cases h1 : q = 4
  · subst h1; rfl
  · simp [h1]
theorem rX0 {E : ME} {a k f g y : Int32} : (upd (rdX E a k f g).1 0 y, (rdX E a k f g).2) = rdX (upd E.1 0 y, E.2) a k f g := by
  unfold rdX
  refine Prod.ext (funext fun q => ?_) rfl
  show upd (upd (upd (upd (upd E.1 1 a) 2 k) 3 f) 4 g) 0 y q = upd (upd (upd (upd (upd E.1 0 y) 1 a) 2 k) 3 f) 4 g q
  unfold upd
  by_cases h1 : q = 0
  · subst h1; rfl
  · simp [h1]
theorem rX5 {E : ME} {a k f g y : Int32} : (upd (rdX E a k f g).1 5 y, (rdX E a k f g).2) = rdX (upd E.1 5 y, E.2) a k f g := by
  unfold rdX
  refine Prod.ext (funext fun q => ?_) rfl
  show upd (upd (upd (upd (upd E.1 1 a) 2 k) 3 f) 4 g) 5 y q = upd (upd (upd (upd (upd E.1 5 y) 1 a) 2 k) 3 f) 4 g q
  unfold upd
  by_cases h1 : q = 5
  · subst h1; rfl
  · simp [h1]
theorem rX6 {E : ME} {a k f g y : Int32} : (upd (rdX E a k f g).1 6 y, (rdX E a k f g).2) = rdX (upd E.1 6 y, E.2) a k f g := by
  unfold rdX
  refine Prod.ext (funext fun q => ?_) rfl
  show upd (upd (upd (upd (upd E.1 1 a) 2 k) 3 f) 4 g) 6 y q = upd (upd (upd (upd (upd E.1 6 y) 1 a) 2 k) 3 f) 4 g q
  unfold upd
  by_cases h1 : q = 6
  · subst h1; rfl
  · simp [h1]
theorem rX_self {E : ME} : E = rdX E (E.1 1) (E.1 2) (E.1 3) (E.1 4) := by
  unfold rdX
  refine Prod.ext (funext fun q => ?_) rfl
  show E.1 q = upd (upd (upd (upd E.1 1 (E.1 1)) 2 (E.1 2)) 3 (E.1 3)) 4 (E.1 4) q
  unfold upd
  by_cases h1 : q = 1
  · subst h1; rfl
  · by_cases h2 : q = 2
    · subst h2; rfl
    · by_cases h3 : q = 3
      · subst h3; rfl
      · by_cases h4 : q = 4
        · subst h4; rfl
        · simp [h1, h2, h3, h4]
section RX
variable {K : Kx} {w : Wd} {b : Nat} {v : CV} {E : ME} {a k f g y : Int32}
theorem mxO : putM K w b (v, rdX E a k f g) b = some (.inr (5, mxF b v E a k f g)) := mO
theorem mxP1 : upW (putM K w b (v, rdX E a k f g)) b (.inr (5, (mxF b v E a k f g).set 29 (.int y))) = putM K w b (v, rdX E y k f g) := mG1.trans (congrArg (fun z => putM K w b (v, z)) rX1)
theorem mxP2 : upW (putM K w b (v, rdX E a k f g)) b (.inr (5, (mxF b v E a k f g).set 30 (.int y))) = putM K w b (v, rdX E a y f g) := mG2.trans (congrArg (fun z => putM K w b (v, z)) rX2)
theorem mxP3 : upW (putM K w b (v, rdX E a k f g)) b (.inr (5, (mxF b v E a k f g).set 31 (.int y))) = putM K w b (v, rdX E a k y g) := mG3.trans (congrArg (fun z => putM K w b (v, z)) rX3)
theorem mxP4 : upW (putM K w b (v, rdX E a k f g)) b (.inr (5, (mxF b v E a k f g).set 32 (.int y))) = putM K w b (v, rdX E a k f y) := mG4.trans (congrArg (fun z => putM K w b (v, z)) rX4)
theorem mxP0 : upW (putM K w b (v, rdX E a k f g)) b (.inr (5, (mxF b v E a k f g).set 7 (.int y))) = putM K w b (v, rdX (upd E.1 0 y, E.2) a k f g) := mG0.trans (congrArg (fun z => putM K w b (v, z)) rX0)
theorem mxP5 : upW (putM K w b (v, rdX E a k f g)) b (.inr (5, (mxF b v E a k f g).set 33 (.int y))) = putM K w b (v, rdX (upd E.1 5 y, E.2) a k f g) := mG5.trans (congrArg (fun z => putM K w b (v, z)) rX5)
theorem mxP6 : upW (putM K w b (v, rdX E a k f g)) b (.inr (5, (mxF b v E a k f g).set 35 (.int y))) = putM K w b (v, rdX (upd E.1 6 y, E.2) a k f g) := mG6.trans (congrArg (fun z => putM K w b (v, z)) rX6)
theorem mxT : putM K w b (v, rdX E a k f g) (b + 15) = some (.inl (kC K 0, 250, .inl (E.2.1 4))) := mH4
theorem mxD : putM K w b (v, rdX E a k f g) (b + 22) = some (.inl (kC K 0, 3, .inl (E.2.1 6))) := mH6
theorem mxDK {h : Nat → Int32} : upW (putM K w b (v, rdX E a k f g)) (b + 22) (.inl (kC K 0, 3, .inl h)) = putM K w b (v, rdX (E.1, upA E.2.1 6 h, E.2.2) a k f g) := mHK6
end RX
def letF (x : Int32) : Int32 := if x < 97 then 0 else if 122 < x then 0 else 1
def digF (x : Int32) : Int32 := if x < 48 then 0 else if 57 < x then 0 else 1
theorem let_1 {x : Int32} : letF x = 0 ↔ ¬ sortF x = 1 := by
  unfold letF sortF
  by_cases h1 : x < 97 <;> by_cases h2 : 122 < x <;> by_cases h3 : x < 48 <;> by_cases h4 : 57 < x <;> by_cases h5 : x = 59 <;> simp [h1, h2, h3, h4, h5]
theorem dig_2 {x : Int32} (h : letF x = 0) : digF x = 0 ↔ ¬ sortF x = 2 := by
  unfold letF at h
  unfold digF sortF
  by_cases h1 : x < 97 <;> by_cases h2 : 122 < x <;> by_cases h3 : x < 48 <;> by_cases h4 : 57 < x <;> by_cases h5 : x = 59 <;> first | (exfalso; simp [h1, h2, h3, h4, h5] at h; done) | (simp [h1, h2, h3, h4, h5]; done)
theorem dig_let {x : Int32} (h : ¬ digF x = 0) : letF x = 0 := by
  unfold digF at h
  unfold letF
  by_cases h3 : x < 48
  · rw [if_pos h3] at h; exact absurd rfl h
  · by_cases h4 : 57 < x
    · rw [if_neg h3, if_pos h4] at h; exact absurd rfl h
    · refine if_pos ?_
      have h5 := Int32.not_lt.mp h4
      exact Int32.lt_of_le_of_lt h5 (by decide)
theorem sort_dig {x : Int32} : digF x = 0 ↔ ¬ sortF x = 2 := by
  by_cases h : letF x = 0
  · exact dig_2 h
  · constructor
    · intro _ q
      have : sortF x = 1 := Classical.byContradiction fun z => h (let_1.mpr z)
      rw [this] at q; exact absurd q (by decide)
    · intro _
      exact Classical.byContradiction fun z => h (dig_let z)
/-- what the figures of a number spell -/
def fgR (f : Nat → Int32) (B : Nat) : Nat → Nat → Int32 → Int32
  | 0, _, a => a
  | n + 1, k, a => if sortF (f (nI k).toNatClampNeg) = 2 then fgR f B n (k + 1) (if 3 ≤ nI k - nI B then 10000 else a * 10 + f (nI k).toNatClampNeg - 48) else a
def fgV (f : Nat → Int32) (S : Nat) (s : T3) : Int32 := if s.2.2 = 2 then fgR f s.1 (S - s.1) s.1 0 else 0
abbrev Rd : Type := T3 × Int32
def lk (f : Nat → Int32) (S e : Nat) : Rd := (stepF f S e, fgV f S (stepF f S e))
abbrev rdS (E : ME) (r : Rd) : ME := rdX E (nI r.1.2.1) r.1.2.2 (nI r.1.1) r.2
theorem lk_ok {f : Nat → Int32} {S e : Nat} (h : e ≤ S) : I3 S (lk f S e).1 := step_ok h
set_option maxRecDepth 100000 in
theorem s_X5_isLetter {K : Kx} (x : Int32) (w : Wd) (sz : Nat) : Sp K mX5_isLetter 0 0 0 [.int x] w sz (Qi fun r w' sz' => r = letF x ∧ w' = w ∧ sz' = sz) := by
  refine Sp.ofN [some (.int x)] rfl rfl rfl (Nat.le_of_ble_eq_true rfl) ?_
  refine N.iload0 dX5_isLetter_0 ?_
  refine N.bipush (v := 97) dX5_isLetter_1 (by decide) ?_
  refine N.icmp_lt (tgt := 16) dX5_isLetter_3 (by decide) (fun c3 => ?_) (fun c3 => ?_)
  · refine N.iconst (v := 0) dX5_isLetter_16 (by decide) ?_
    exact N.zret dX5_isLetter_17 rfl rfl (Nat.zero_le _) (Nat.zero_le _) ⟨_, rfl, ⟨(by first | (simp only [letF, c3, ↓reduceIte]; done) | (simp_all [letF]; done)), rfl, rfl⟩⟩
  · refine N.iload0 dX5_isLetter_6 ?_
    refine N.bipush (v := 122) dX5_isLetter_7 (by decide) ?_
    refine N.icmp_gt (tgt := 16) dX5_isLetter_9 (by decide) (fun c9 => ?_) (fun c9 => ?_)
    · refine N.iconst (v := 0) dX5_isLetter_16 (by decide) ?_
      exact N.zret dX5_isLetter_17 rfl rfl (Nat.zero_le _) (Nat.zero_le _) ⟨_, rfl, ⟨(by first | (simp only [letF, c3, c9, ↓reduceIte]; done) | (simp_all [letF]; done)), rfl, rfl⟩⟩
    · refine N.iconst (v := 1) dX5_isLetter_12 (by decide) ?_
      refine N.goto (tgt := 17) dX5_isLetter_13 (by decide) ?_
      exact N.zret dX5_isLetter_17 rfl rfl (Nat.zero_le _) (Nat.zero_le _) ⟨_, rfl, ⟨(by first | (simp only [letF, c3, c9, ↓reduceIte]; done) | (simp_all [letF]; done)), rfl, rfl⟩⟩
set_option maxRecDepth 100000 in
theorem s_X5_isDigit {K : Kx} (x : Int32) (w : Wd) (sz : Nat) : Sp K mX5_isDigit 0 0 0 [.int x] w sz (Qi fun r w' sz' => r = digF x ∧ w' = w ∧ sz' = sz) := by
  refine Sp.ofN [some (.int x)] rfl rfl rfl (Nat.le_of_ble_eq_true rfl) ?_
  refine N.iload0 dX5_isDigit_0 ?_
  refine N.bipush (v := 48) dX5_isDigit_1 (by decide) ?_
  refine N.icmp_lt (tgt := 16) dX5_isDigit_3 (by decide) (fun c3 => ?_) (fun c3 => ?_)
  · refine N.iconst (v := 0) dX5_isDigit_16 (by decide) ?_
    exact N.zret dX5_isDigit_17 rfl rfl (Nat.zero_le _) (Nat.zero_le _) ⟨_, rfl, ⟨(by first | (simp only [digF, c3, ↓reduceIte]; done) | (simp_all [digF]; done)), rfl, rfl⟩⟩
  · refine N.iload0 dX5_isDigit_6 ?_
    refine N.bipush (v := 57) dX5_isDigit_7 (by decide) ?_
    refine N.icmp_gt (tgt := 16) dX5_isDigit_9 (by decide) (fun c9 => ?_) (fun c9 => ?_)
    · refine N.iconst (v := 0) dX5_isDigit_16 (by decide) ?_
      exact N.zret dX5_isDigit_17 rfl rfl (Nat.zero_le _) (Nat.zero_le _) ⟨_, rfl, ⟨(by first | (simp only [digF, c3, c9, ↓reduceIte]; done) | (simp_all [digF]; done)), rfl, rfl⟩⟩
    · refine N.iconst (v := 1) dX5_isDigit_12 (by decide) ?_
      refine N.goto (tgt := 17) dX5_isDigit_13 (by decide) ?_
      exact N.zret dX5_isDigit_17 rfl rfl (Nat.zero_le _) (Nat.zero_le _) ⟨_, rfl, ⟨(by first | (simp only [digF, c3, c9, ↓reduceIte]; done) | (simp_all [digF]; done)), rfl, rfl⟩⟩
set_option maxRecDepth 100000 in
theorem l3_X5_look {K : Kx} (w : Wd) (b sz : Nat) (v : CV) (E : ME) (S : Nat) (hS : S ≤ 250) (hz : E.1 0 = nI S) (B : Nat) (R : Rd) : ∀ nn k (g : Int32), k + nn = S → B ≤ k → ((B, lnF (E.2.1 4) 2 nn k, 2), fgR (E.2.1 4) B nn k g) = R → N K mX5_look 1 0 0 (Qv fun w' sz' => w' = putM K w b (v, rdS E R) ∧ sz' = sz) 149 [some (.ref b)] [] (putM K w b (v, rdX E (nI k) 2 (nI B) g)) sz 0 0 := by
  intro nn
  induction nn with
  | zero =>
    intro k g hk hB hR
    obtain rfl : k = S := by omega
    refine N.aload0 dX5_look_149 ?_
    refine N.getf dX5_look_150 flX5_161 mxO rfl ?_
    refine N.aload0 dX5_look_153 ?_
    refine N.getf dX5_look_154 flX5_158 mxO rfl ?_
    refine N.icmp_ge (tgt := 264) dX5_look_157 (by decide) (fun c157 => ?_) (fun c157 => absurd (by rw [hz]; exact nI_le (Nat.le_refl _) (by omega)) c157)
    exact N.vret dX5_look_264 rfl (Nat.zero_le _) (Nat.zero_le _) ⟨rfl, ⟨by rw [← hR]; rfl, rfl⟩⟩
  | succ nn ih =>
    intro k g hk hB hR
    refine N.aload0 dX5_look_149 ?_
    refine N.getf dX5_look_150 flX5_161 mxO rfl ?_
    refine N.aload0 dX5_look_153 ?_
    refine N.getf dX5_look_154 flX5_158 mxO rfl ?_
    refine N.icmp_ge (tgt := 264) dX5_look_157 (by decide) (fun c157 => absurd c157 (by rw [hz]; exact nI_ge (by omega) (by omega))) (fun c157 => ?_)
    refine N.aload0 dX5_look_160 ?_
    refine N.getf dX5_look_161 flX5_31 mxO rfl ?_
    refine N.aload0 dX5_look_164 ?_
    refine N.getf dX5_look_165 flX5_161 mxO rfl ?_
    refine N.iald dX5_look_168 mxT (in250 (by omega)) ?_
    refine N.si1 dX5_look_169 vX5_isDigit lkX5_176 (s_X5_isDigit _ _ _) rfl (Nat.le_of_ble_eq_true rfl) (Nat.le_of_ble_eq_true rfl) (Nat.zero_le _) (Nat.zero_le _) ?_
    rintro _ _ _ ⟨rfl, rfl, rfl⟩
    refine N.if_eq (tgt := 264) dX5_look_172 (by decide) (fun c172 => ?_) (fun c172 => ?_)
    · exact N.vret dX5_look_264 rfl (Nat.zero_le _) (Nat.zero_le _) ⟨rfl, ⟨by rw [← hR, lnF, fgR, if_neg (sort_dig.mp c172), if_neg (sort_dig.mp c172)], rfl⟩⟩
    · refine N.aload0 dX5_look_175 ?_
      refine N.aload0 dX5_look_176 ?_
      refine N.getf dX5_look_177 flX5_161 mxO rfl ?_
      refine N.aload0 dX5_look_180 ?_
      refine N.getf dX5_look_181 flX5_164 mxO rfl ?_
      refine N.isub dX5_look_184 ?_
      refine N.iconst (v := 3) dX5_look_185 (by decide) ?_
      refine N.icmp_ge (tgt := 212) dX5_look_186 (by decide) (fun c186 => ?_) (fun c186 => ?_)
      · refine N.sipush (v := 10000) dX5_look_212 (by decide) ?_
        refine N.putf dX5_look_215 flX5_167 mxO (Nat.le_of_ble_eq_true rfl) (fun _ h => by cases h; rfl) rfl rfl mxP4 ?_
        refine N.aload0 dX5_look_218 ?_
        refine N.dup dX5_look_219 rfl ?_
        refine N.getf dX5_look_220 flX5_161 mxO rfl ?_
        refine N.iconst (v := 1) dX5_look_223 (by decide) ?_
        refine N.iadd dX5_look_224 ?_
        refine N.putf dX5_look_225 flX5_161 mxO (Nat.le_of_ble_eq_true rfl) (fun _ h => by cases h; rfl) rfl rfl mxP1 ?_
        refine N.goto (tgt := 149) dX5_look_228 (by decide) ?_
        have cS : sortF ((E.2.1 4) (nI k).toNatClampNeg) = 2 := Classical.byContradiction fun q => c172 (sort_dig.mpr q)
        rw [show nI k + 1 = nI (k + 1) from nI_1 k]
        exact ih (k + 1) _ (by omega) (by omega) (by rw [← hR, lnF, fgR, if_pos cS, if_pos cS, if_pos c186])
      · refine N.aload0 dX5_look_189 ?_
        refine N.getf dX5_look_190 flX5_167 mxO rfl ?_
        refine N.bipush (v := 10) dX5_look_193 (by decide) ?_
        refine N.imul dX5_look_195 ?_
        refine N.aload0 dX5_look_196 ?_
        refine N.getf dX5_look_197 flX5_31 mxO rfl ?_
        refine N.aload0 dX5_look_200 ?_
        refine N.getf dX5_look_201 flX5_161 mxO rfl ?_
        refine N.iald dX5_look_204 mxT (in250 (by omega)) ?_
        refine N.iadd dX5_look_205 ?_
        refine N.bipush (v := 48) dX5_look_206 (by decide) ?_
        refine N.isub dX5_look_208 ?_
        refine N.goto (tgt := 215) dX5_look_209 (by decide) ?_
        refine N.putf dX5_look_215 flX5_167 mxO (Nat.le_of_ble_eq_true rfl) (fun _ h => by cases h; rfl) rfl rfl mxP4 ?_
        refine N.aload0 dX5_look_218 ?_
        refine N.dup dX5_look_219 rfl ?_
        refine N.getf dX5_look_220 flX5_161 mxO rfl ?_
        refine N.iconst (v := 1) dX5_look_223 (by decide) ?_
        refine N.iadd dX5_look_224 ?_
        refine N.putf dX5_look_225 flX5_161 mxO (Nat.le_of_ble_eq_true rfl) (fun _ h => by cases h; rfl) rfl rfl mxP1 ?_
        refine N.goto (tgt := 149) dX5_look_228 (by decide) ?_
        have cS : sortF ((E.2.1 4) (nI k).toNatClampNeg) = 2 := Classical.byContradiction fun q => c172 (sort_dig.mpr q)
        rw [show nI k + 1 = nI (k + 1) from nI_1 k]
        exact ih (k + 1) _ (by omega) (by omega) (by rw [← hR, lnF, fgR, if_pos cS, if_pos cS, if_neg c186])
set_option maxRecDepth 100000 in
theorem l2_X5_look {K : Kx} (w : Wd) (b sz : Nat) (v : CV) (E : ME) (S : Nat) (hS : S ≤ 250) (hz : E.1 0 = nI S) (B : Nat) (R : Rd) : ∀ nn k, k + nn = S → ((B, lnF (E.2.1 4) 1 nn k, 1), 0) = R → N K mX5_look 1 0 0 (Qv fun w' sz' => w' = putM K w b (v, rdS E R) ∧ sz' = sz) 90 [some (.ref b)] [] (putM K w b (v, rdX E (nI k) 1 (nI B) 0)) sz 0 0 := by
  intro nn
  induction nn with
  | zero =>
    intro k hk hR
    obtain rfl : k = S := by omega
    refine N.aload0 dX5_look_90 ?_
    refine N.getf dX5_look_91 flX5_161 mxO rfl ?_
    refine N.aload0 dX5_look_94 ?_
    refine N.getf dX5_look_95 flX5_158 mxO rfl ?_
    refine N.icmp_ge (tgt := 264) dX5_look_98 (by decide) (fun c98 => ?_) (fun c98 => absurd (by rw [hz]; exact nI_le (Nat.le_refl _) (by omega)) c98)
    exact N.vret dX5_look_264 rfl (Nat.zero_le _) (Nat.zero_le _) ⟨rfl, ⟨by rw [← hR]; rfl, rfl⟩⟩
  | succ nn ih =>
    intro k hk hR
    refine N.aload0 dX5_look_90 ?_
    refine N.getf dX5_look_91 flX5_161 mxO rfl ?_
    refine N.aload0 dX5_look_94 ?_
    refine N.getf dX5_look_95 flX5_158 mxO rfl ?_
    refine N.icmp_ge (tgt := 264) dX5_look_98 (by decide) (fun c98 => absurd c98 (by rw [hz]; exact nI_ge (by omega) (by omega))) (fun c98 => ?_)
    refine N.aload0 dX5_look_101 ?_
    refine N.getf dX5_look_102 flX5_31 mxO rfl ?_
    refine N.aload0 dX5_look_105 ?_
    refine N.getf dX5_look_106 flX5_161 mxO rfl ?_
    refine N.iald dX5_look_109 mxT (in250 (by omega)) ?_
    refine N.si1 dX5_look_110 vX5_isLetter lkX5_173 (s_X5_isLetter _ _ _) rfl (Nat.le_of_ble_eq_true rfl) (Nat.le_of_ble_eq_true rfl) (Nat.zero_le _) (Nat.zero_le _) ?_
    rintro _ _ _ ⟨rfl, rfl, rfl⟩
    refine N.if_eq (tgt := 264) dX5_look_113 (by decide) (fun c113 => ?_) (fun c113 => ?_)
    · exact N.vret dX5_look_264 rfl (Nat.zero_le _) (Nat.zero_le _) ⟨rfl, ⟨by rw [← hR, lnF, if_neg (let_1.mp c113)], rfl⟩⟩
    · refine N.aload0 dX5_look_116 ?_
      refine N.dup dX5_look_117 rfl ?_
      refine N.getf dX5_look_118 flX5_161 mxO rfl ?_
      refine N.iconst (v := 1) dX5_look_121 (by decide) ?_
      refine N.iadd dX5_look_122 ?_
      refine N.putf dX5_look_123 flX5_161 mxO (Nat.le_of_ble_eq_true rfl) (fun _ h => by cases h; rfl) rfl rfl mxP1 ?_
      refine N.goto (tgt := 90) dX5_look_126 (by decide) ?_
      have cS : sortF ((E.2.1 4) (nI k).toNatClampNeg) = 1 := Classical.byContradiction fun q => c113 (let_1.mpr q)
      rw [show nI k + 1 = nI (k + 1) from nI_1 k]
      exact ih (k + 1) (by omega) (by rw [← hR, lnF, if_pos cS])
theorem sort_o {x : Int32} (h1 : letF x = 0) (h2 : digF x = 0) : sortF x = if x = 59 then 3 else 4 := by
  unfold letF at h1
  unfold digF at h2
  unfold sortF
  by_cases a1 : x < 97 <;> by_cases a2 : 122 < x <;> by_cases a3 : x < 48 <;> by_cases a4 : 57 < x <;> by_cases a5 : x = 59 <;> simp_all
theorem lnF_s {f : Nat → Int32} {q : Int32} {S B : Nat} (h : B < S) (c : sortF (f (nI B).toNatClampNeg) = q) : lnF f q (S - B) B = lnF f q (S - (B + 1)) (B + 1) := by
  rw [show S - B = (S - (B + 1)) + 1 by omega, lnF, if_pos c]
theorem st2_w {f : Nat → Int32} {S B : Nat} (h : B < S) (c : sortF (f (nI B).toNatClampNeg) = 1) : ((B, lnF f 1 (S - B) B, 1), 0) = ((st2 f S B, fgV f S (st2 f S B)) : Rd) := by
  have e : st2 f S B = (B, lnF f 1 (S - B) B, 1) := by rw [st2, if_neg (by omega), if_pos (Or.inl c), c, lnF_s h c]
  rw [e, fgV, if_neg (show ¬ (1 : Int32) = 2 by decide)]
theorem st2_n {f : Nat → Int32} {S B : Nat} (h : B < S) (c : sortF (f (nI B).toNatClampNeg) = 2) : ((B, lnF f 2 (S - B) B, 2), fgR f B (S - B) B 0) = ((st2 f S B, fgV f S (st2 f S B)) : Rd) := by
  have e : st2 f S B = (B, lnF f 2 (S - B) B, 2) := by rw [st2, if_neg (by omega), if_pos (Or.inr c), c, lnF_s h c]
  rw [e, fgV, if_pos rfl]
theorem st2_o {f : Nat → Int32} {S B : Nat} {q : Int32} (h : B < S) (c : sortF (f (nI B).toNatClampNeg) = q) (h1 : ¬ q = 1) (h2 : ¬ q = 2) : ((B, B + 1, q), 0) = ((st2 f S B, fgV f S (st2 f S B)) : Rd) := by
  have e : st2 f S B = (B, B + 1, q) := by rw [st2, if_neg (by omega), c, if_neg (fun z => z.elim h1 h2)]
  rw [e, fgV, if_neg h2]
theorem st2_e {f : Nat → Int32} {S B : Nat} (h : S ≤ B) : ((B, B, 0), 0) = ((st2 f S B, fgV f S (st2 f S B)) : Rd) := by
  have e : st2 f S B = (B, B, 0) := by rw [st2, if_pos h]
  rw [e, fgV, if_neg (show ¬ (0 : Int32) = 2 by decide)]
set_option maxRecDepth 100000 in
theorem l1_X5_look {K : Kx} (w : Wd) (b sz : Nat) (v : CV) (E : ME) (S : Nat) (hS : S ≤ 250) (hz : E.1 0 = nI S) (B : Nat) (hB : B ≤ S) (k f g : Int32) (R : Rd) (hR : (st2 (E.2.1 4) S B, fgV (E.2.1 4) S (st2 (E.2.1 4) S B)) = R) : N K mX5_look 1 0 0 (Qv fun w' sz' => w' = putM K w b (v, rdS E R) ∧ sz' = sz) 38 [some (.ref b)] [] (putM K w b (v, rdX E (nI B) k f g)) sz 0 0 := by
  refine N.aload0 dX5_look_38 ?_
  refine N.aload0 dX5_look_39 ?_
  refine N.getf dX5_look_40 flX5_161 mxO rfl ?_
  refine N.putf dX5_look_43 flX5_164 mxO (Nat.le_of_ble_eq_true rfl) (fun _ h => by cases h; rfl) rfl rfl mxP3 ?_
  refine N.aload0 dX5_look_46 ?_
  refine N.iconst (v := 0) dX5_look_47 (by decide) ?_
  refine N.putf dX5_look_48 flX5_167 mxO (Nat.le_of_ble_eq_true rfl) (fun _ h => by cases h; rfl) rfl rfl mxP4 ?_
  refine N.aload0 dX5_look_51 ?_
  refine N.getf dX5_look_52 flX5_161 mxO rfl ?_
  refine N.aload0 dX5_look_55 ?_
  refine N.getf dX5_look_56 flX5_158 mxO rfl ?_
  refine N.icmp_ne (tgt := 70) dX5_look_59 (by decide) (fun c59 => ?_) (fun c59 => ?_)
  · have hlt : B < S := Nat.lt_of_le_of_ne hB (fun q => c59 (by rw [q]; exact hz.symm))
    refine N.aload0 dX5_look_70 ?_
    refine N.getf dX5_look_71 flX5_31 mxO rfl ?_
    refine N.aload0 dX5_look_74 ?_
    refine N.getf dX5_look_75 flX5_161 mxO rfl ?_
    refine N.iald dX5_look_78 mxT (in250 (by omega)) ?_
    refine N.si1 dX5_look_79 vX5_isLetter lkX5_173 (s_X5_isLetter _ _ _) rfl (Nat.le_of_ble_eq_true rfl) (Nat.le_of_ble_eq_true rfl) (Nat.zero_le _) (Nat.zero_le _) ?_
    rintro _ _ _ ⟨rfl, rfl, rfl⟩
    refine N.if_eq (tgt := 129) dX5_look_82 (by decide) (fun c82 => ?_) (fun c82 => ?_)
    · refine N.aload0 dX5_look_129 ?_
      refine N.getf dX5_look_130 flX5_31 mxO rfl ?_
      refine N.aload0 dX5_look_133 ?_
      refine N.getf dX5_look_134 flX5_161 mxO rfl ?_
      refine N.iald dX5_look_137 mxT (in250 (by omega)) ?_
      refine N.si1 dX5_look_138 vX5_isDigit lkX5_176 (s_X5_isDigit _ _ _) rfl (Nat.le_of_ble_eq_true rfl) (Nat.le_of_ble_eq_true rfl) (Nat.zero_le _) (Nat.zero_le _) ?_
      rintro _ _ _ ⟨rfl, rfl, rfl⟩
      refine N.if_eq (tgt := 231) dX5_look_141 (by decide) (fun c141 => ?_) (fun c141 => ?_)
      · refine N.aload0 dX5_look_231 ?_
        refine N.aload0 dX5_look_232 ?_
        refine N.getf dX5_look_233 flX5_31 mxO rfl ?_
        refine N.aload0 dX5_look_236 ?_
        refine N.getf dX5_look_237 flX5_161 mxO rfl ?_
        refine N.iald dX5_look_240 mxT (in250 (by omega)) ?_
        refine N.bipush (v := 59) dX5_look_241 (by decide) ?_
        refine N.icmp_ne (tgt := 250) dX5_look_243 (by decide) (fun c243 => ?_) (fun c243 => ?_)
        · refine N.iconst (v := 4) dX5_look_250 (by decide) ?_
          refine N.putf dX5_look_251 flX5_170 mxO (Nat.le_of_ble_eq_true rfl) (fun _ h => by cases h; rfl) rfl rfl mxP2 ?_
          refine N.aload0 dX5_look_254 ?_
          refine N.dup dX5_look_255 rfl ?_
          refine N.getf dX5_look_256 flX5_161 mxO rfl ?_
          refine N.iconst (v := 1) dX5_look_259 (by decide) ?_
          refine N.iadd dX5_look_260 ?_
          refine N.putf dX5_look_261 flX5_161 mxO (Nat.le_of_ble_eq_true rfl) (fun _ h => by cases h; rfl) rfl rfl mxP1 ?_
          exact N.vret dX5_look_264 rfl (Nat.zero_le _) (Nat.zero_le _) ⟨rfl, ⟨by rw [← hR, ← st2_o (q := 4) (by omega) (by rw [sort_o c82 c141, if_neg c243]) (by decide) (by decide), show nI B + 1 = nI (B + 1) from nI_1 B], rfl⟩⟩
        · refine N.iconst (v := 3) dX5_look_246 (by decide) ?_
          refine N.goto (tgt := 251) dX5_look_247 (by decide) ?_
          refine N.putf dX5_look_251 flX5_170 mxO (Nat.le_of_ble_eq_true rfl) (fun _ h => by cases h; rfl) rfl rfl mxP2 ?_
          refine N.aload0 dX5_look_254 ?_
          refine N.dup dX5_look_255 rfl ?_
          refine N.getf dX5_look_256 flX5_161 mxO rfl ?_
          refine N.iconst (v := 1) dX5_look_259 (by decide) ?_
          refine N.iadd dX5_look_260 ?_
          refine N.putf dX5_look_261 flX5_161 mxO (Nat.le_of_ble_eq_true rfl) (fun _ h => by cases h; rfl) rfl rfl mxP1 ?_
          exact N.vret dX5_look_264 rfl (Nat.zero_le _) (Nat.zero_le _) ⟨rfl, ⟨by rw [← hR, ← st2_o (q := 3) (by omega) (by rw [sort_o c82 c141, if_pos c243]) (by decide) (by decide), show nI B + 1 = nI (B + 1) from nI_1 B], rfl⟩⟩
      · refine N.aload0 dX5_look_144 ?_
        refine N.iconst (v := 2) dX5_look_145 (by decide) ?_
        refine N.putf dX5_look_146 flX5_170 mxO (Nat.le_of_ble_eq_true rfl) (fun _ h => by cases h; rfl) rfl rfl mxP2 ?_
        have cS : sortF ((E.2.1 4) (nI B).toNatClampNeg) = 2 := Classical.byContradiction fun q => c141 (sort_dig.mpr q)
        exact l3_X5_look w b _ v E S hS hz B R (S - B) B 0 (by omega) (Nat.le_refl _) (by rw [← hR, st2_n hlt cS])
    · refine N.aload0 dX5_look_85 ?_
      refine N.iconst (v := 1) dX5_look_86 (by decide) ?_
      refine N.putf dX5_look_87 flX5_170 mxO (Nat.le_of_ble_eq_true rfl) (fun _ h => by cases h; rfl) rfl rfl mxP2 ?_
      have cS : sortF ((E.2.1 4) (nI B).toNatClampNeg) = 1 := Classical.byContradiction fun q => c82 (let_1.mpr q)
      exact l2_X5_look w b _ v E S hS hz B R (S - B) B (by omega) (by rw [← hR, st2_w hlt cS])
  · have hBS : B = S := (nI_eq (by omega) (by omega)).mp (show nI B = nI S by rw [← hz]; exact c59)
    refine N.aload0 dX5_look_62 ?_
    refine N.iconst (v := 0) dX5_look_63 (by decide) ?_
    refine N.putf dX5_look_64 flX5_170 mxO (Nat.le_of_ble_eq_true rfl) (fun _ h => by cases h; rfl) rfl rfl mxP2 ?_
    refine N.goto (tgt := 264) dX5_look_67 (by decide) ?_
    exact N.vret dX5_look_264 rfl (Nat.zero_le _) (Nat.zero_le _) ⟨rfl, ⟨by rw [← hR, ← st2_e (Nat.le_of_eq hBS.symm)], rfl⟩⟩
set_option maxRecDepth 100000 in
theorem l_X5_look {K : Kx} (w : Wd) (b sz : Nat) (v : CV) (E : ME) (S : Nat) (hS : S ≤ 250) (hz : E.1 0 = nI S) (k0 f g : Int32) (R : Rd) : ∀ nn k, k + nn = S → (st2 (E.2.1 4) S (skF (E.2.1 4) nn k), fgV (E.2.1 4) S (st2 (E.2.1 4) S (skF (E.2.1 4) nn k))) = R → N K mX5_look 1 0 0 (Qv fun w' sz' => w' = putM K w b (v, rdS E R) ∧ sz' = sz) 0 [some (.ref b)] [] (putM K w b (v, rdX E (nI k) k0 f g)) sz 0 0 := by
  intro nn
  induction nn with
  | zero =>
    intro k hk hR
    obtain rfl : k = S := by omega
    refine N.aload0 dX5_look_0 ?_
    refine N.getf dX5_look_1 flX5_161 mxO rfl ?_
    refine N.aload0 dX5_look_4 ?_
    refine N.getf dX5_look_5 flX5_158 mxO rfl ?_
    refine N.icmp_ge (tgt := 38) dX5_look_8 (by decide) (fun c8 => ?_) (fun c8 => absurd (by rw [hz]; exact nI_le (Nat.le_refl _) (by omega)) c8)
    exact l1_X5_look w b _ v E k hS hz k (Nat.le_refl _) _ _ _ R hR
  | succ nn ih =>
    intro k hk hR
    refine N.aload0 dX5_look_0 ?_
    refine N.getf dX5_look_1 flX5_161 mxO rfl ?_
    refine N.aload0 dX5_look_4 ?_
    refine N.getf dX5_look_5 flX5_158 mxO rfl ?_
    refine N.icmp_ge (tgt := 38) dX5_look_8 (by decide) (fun c8 => absurd c8 (by rw [hz]; exact nI_ge (by omega) (by omega))) (fun c8 => ?_)
    refine N.aload0 dX5_look_11 ?_
    refine N.getf dX5_look_12 flX5_31 mxO rfl ?_
    refine N.aload0 dX5_look_15 ?_
    refine N.getf dX5_look_16 flX5_161 mxO rfl ?_
    refine N.iald dX5_look_19 mxT (in250 (by omega)) ?_
    refine N.bipush (v := 32) dX5_look_20 (by decide) ?_
    refine N.icmp_ne (tgt := 38) dX5_look_22 (by decide) (fun c22 => ?_) (fun c22 => ?_)
    · rw [skF, if_neg c22] at hR
      exact l1_X5_look w b _ v E S hS hz k (by omega) _ _ _ R hR
    · refine N.aload0 dX5_look_25 ?_
      refine N.dup dX5_look_26 rfl ?_
      refine N.getf dX5_look_27 flX5_161 mxO rfl ?_
      refine N.iconst (v := 1) dX5_look_30 (by decide) ?_
      refine N.iadd dX5_look_31 ?_
      refine N.putf dX5_look_32 flX5_161 mxO (Nat.le_of_ble_eq_true rfl) (fun _ h => by cases h; rfl) rfl rfl mxP1 ?_
      refine N.goto (tgt := 0) dX5_look_35 (by decide) ?_
      rw [skF, if_pos c22] at hR
      rw [show nI k + 1 = nI (k + 1) from nI_1 k]
      exact ih (k + 1) (by omega) hR
set_option maxRecDepth 100000 in
theorem s_X5_look {K : Kx} (w : Wd) (b sz : Nat) (v : CV) (E : ME) (S : Nat) (hS : S ≤ 250) (hz : E.1 0 = nI S) (e : Nat) (he : e ≤ S) (k0 f g : Int32) : Sp K mX5_look 1 0 0 [.ref b] (putM K w b (v, rdX E (nI e) k0 f g)) sz (Qv fun w' sz' => w' = putM K w b (v, rdS E (lk (E.2.1 4) S e)) ∧ sz' = sz) := by
  refine Sp.ofN [some (.ref b)] rfl rfl rfl (Nat.le_of_ble_eq_true rfl) ?_
  exact l_X5_look w b _ v E S hS hz k0 f g _ (S - e) e (by omega) rfl
