/-! the tape and its reader -/
def cT (t : TV) (s e k : Int32) : TV := (t.1, upd (upd (upd t.2 1 s) 2 e) 3 k)
theorem cT1 {t : TV} {s e k y : Int32} : ((cT t s e k).1, upd (cT t s e k).2 1 y) = cT t y e k := by
  unfold cT
  refine Prod.ext rfl (funext fun q => ?_)
  show upd (upd (upd (upd t.2 1 s) 2 e) 3 k) 1 y q = upd (upd (upd t.2 1 y) 2 e) 3 k q
  unfold upd
  by_cases h1 : q = 1
  · subst h1; rfl
  · simp [h1]
theorem cT2 {t : TV} {s e k y : Int32} : ((cT t s e k).1, upd (cT t s e k).2 2 y) = cT t s y k := by
  unfold cT
  refine Prod.ext rfl (funext fun q => ?_)
  show upd (upd (upd (upd t.2 1 s) 2 e) 3 k) 2 y q = upd (upd (upd t.2 1 s) 2 y) 3 k q
  unfold upd
  by_cases h1 : q = 2
  · subst h1; rfl
  · simp [h1]
theorem cT3 {t : TV} {s e k y : Int32} : ((cT t s e k).1, upd (cT t s e k).2 3 y) = cT t s e y := by
  unfold cT
  refine Prod.ext rfl (funext fun q => ?_)
  show upd (upd (upd (upd t.2 1 s) 2 e) 3 k) 3 y q = upd (upd (upd t.2 1 s) 2 e) 3 y q
  unfold upd
  by_cases h1 : q = 3
  · subst h1; rfl
  · simp [h1]
theorem cT_self {t : TV} : t = cT t (t.2 1) (t.2 2) (t.2 3) := by
  unfold cT
  refine Prod.ext rfl (funext fun q => ?_)
  show t.2 q = upd (upd (upd t.2 1 (t.2 1)) 2 (t.2 2)) 3 (t.2 3) q
  unfold upd
  by_cases h1 : q = 1
  · subst h1; rfl
  · by_cases h2 : q = 2
    · subst h2; rfl
    · by_cases h3 : q = 3
      · subst h3; rfl
      · simp [h1, h2, h3]
section TL
variable {K : Kx} {w : Wd} {b : Nat} {t : TV} {s e k y : Int32}
abbrev zF (b : Nat) (t : TV) (s e k : Int32) : List Value := [.ref (b + 1), .int (t.2 0), .int s, .int e, .int k]
theorem zO : putT K w b (cT t s e k) b = some (.inr (3, zF b t s e k)) := taO
theorem zA : putT K w b (cT t s e k) (b + 1) = some (.inl (kC K 0, 250, .inl t.1)) := taA
theorem zP1 : upW (putT K w b (cT t s e k)) b (.inr (3, (zF b t s e k).set 2 (.int y))) = putT K w b (cT t y e k) := taP1.trans (congrArg (putT K w b) cT1)
theorem zP2 : upW (putT K w b (cT t s e k)) b (.inr (3, (zF b t s e k).set 3 (.int y))) = putT K w b (cT t s y k) := taP2.trans (congrArg (putT K w b) cT2)
theorem zP3 : upW (putT K w b (cT t s e k)) b (.inr (3, (zF b t s e k).set 4 (.int y))) = putT K w b (cT t s e y) := taP3.trans (congrArg (putT K w b) cT3)
end TL
def appV (t : TV) (l : Int32) : TV := (upd t.1 (t.2 0).toNatClampNeg l, upd t.2 0 (t.2 0 + 1))
def sortF (l : Int32) : Int32 := if l < 97 then (if l < 48 then (if l = 59 then 3 else 4) else if 57 < l then (if l = 59 then 3 else 4) else 2) else if 122 < l then (if l < 48 then (if l = 59 then 3 else 4) else if 57 < l then (if l = 59 then 3 else 4) else 2) else 1
def skF (f : Nat → Int32) : Nat → Nat → Nat
  | 0, k => k
  | n + 1, k => if f (nI k).toNatClampNeg = 32 then skF f n (k + 1) else k
def lnF (f : Nat → Int32) (q : Int32) : Nat → Nat → Nat
  | 0, k => k
  | n + 1, k => if sortF (f (nI k).toNatClampNeg) = q then lnF f q n (k + 1) else k
abbrev T3 : Type := Nat × Nat × Int32
def st2 (f : Nat → Int32) (S B : Nat) : T3 := if S ≤ B then (B, B, 0) else (B, if sortF (f (nI B).toNatClampNeg) = 1 ∨ sortF (f (nI B).toNatClampNeg) = 2 then lnF f (sortF (f (nI B).toNatClampNeg)) (S - (B + 1)) (B + 1) else B + 1, sortF (f (nI B).toNatClampNeg))
def stepF (f : Nat → Int32) (S E : Nat) : T3 := st2 f S (skF f (S - E) E)
theorem skF_le {f : Nat → Int32} : ∀ n k, k ≤ skF f n k ∧ skF f n k ≤ k + n
  | 0, k => ⟨Nat.le_refl _, Nat.le_refl _⟩
  | n + 1, k => by
    rw [skF]
    split
    · have := skF_le (f := f) n (k + 1); omega
    · omega
theorem lnF_le {f : Nat → Int32} {q : Int32} : ∀ n k, k ≤ lnF f q n k ∧ lnF f q n k ≤ k + n
  | 0, k => ⟨Nat.le_refl _, Nat.le_refl _⟩
  | n + 1, k => by
    rw [lnF]
    split
    · have := lnF_le (f := f) (q := q) n (k + 1); omega
    · omega
def I3 (S : Nat) (s : T3) : Prop := s.1 ≤ s.2.1 ∧ s.2.1 ≤ S
theorem step_ok {f : Nat → Int32} {S E : Nat} (h : E ≤ S) : I3 S (stepF f S E) := by
  unfold stepF st2 I3
  have h1 := skF_le (f := f) (S - E) E
  generalize skF f (S - E) E = B at *
  split
  · exact ⟨Nat.le_refl _, by show B ≤ S; omega⟩
  · dsimp only
    split
    · have h2 := lnF_le (f := f) (q := sortF (f (nI B).toNatClampNeg)) (S - (B + 1)) (B + 1)
      omega
    · omega
theorem in250 {k : Nat} (h : k < 250) : vp_in (nI k) 250 := vp_in_nI h (by omega)
abbrev putZ (K : Kx) (w : Wd) (b : Nat) (t : TV) (s : T3) : Wd := putT K w b (cT t (nI s.1) (nI s.2.1) s.2.2)
set_option maxRecDepth 100000 in
theorem s_X3_append {K : Kx} (w : Wd) (b sz : Nat) (t : TV) (l : Int32) (hp : ¬ 250 ≤ t.2 0) (hi : vp_in (t.2 0) 250) : Sp K mX3_append 0 0 0 [.ref b, .int l] (putT K w b t) sz (Qi fun r w' sz' => r = t.2 0 + 1 ∧ w' = putT K w b (appV t l) ∧ sz' = sz) := by
  refine Sp.ofN [some (.ref b), some (.int l)] rfl rfl rfl (Nat.le_of_ble_eq_true rfl) ?_
  refine N.aload0 dX3_append_0 ?_
  refine N.getf dX3_append_1 flX3_15 taO rfl ?_
  refine N.sipush (v := 250) dX3_append_4 (by decide) ?_
  refine N.icmp_ge (tgt := 27) dX3_append_7 (by decide) (fun c7 => absurd c7 hp) (fun c7 => ?_)
  refine N.aload0 dX3_append_10 ?_
  refine N.getf dX3_append_11 flX3_9 taO rfl ?_
  refine N.aload0 dX3_append_14 ?_
  refine N.dup dX3_append_15 rfl ?_
  refine N.getf dX3_append_16 flX3_15 taO rfl ?_
  refine N.dup_x1 dX3_append_19 rfl rfl ?_
  refine N.iconst (v := 1) dX3_append_20 (by decide) ?_
  refine N.iadd dX3_append_21 ?_
  refine N.putf dX3_append_22 flX3_15 taO (Nat.le_of_ble_eq_true rfl) (fun _ h => by cases h; rfl) rfl rfl taP0 ?_
  refine N.iload1 dX3_append_25 ?_
  refine N.iast dX3_append_26 taA hi taS ?_
  refine N.aload0 dX3_append_27 ?_
  refine N.getf dX3_append_28 flX3_15 taO rfl ?_
  exact N.iret dX3_append_31 rfl (Nat.zero_le _) (Nat.zero_le _) ⟨_, rfl, ⟨rfl, rfl, rfl⟩⟩

set_option maxRecDepth 100000 in
theorem s_X3_sortOf {K : Kx} (l : Int32) (w : Wd) (sz : Nat) : Sp K mX3_sortOf 0 0 0 [.int l] w sz (Qi fun r w' sz' => r = sortF l ∧ w' = w ∧ sz' = sz) := by
  refine Sp.ofN [some (.int l)] rfl rfl rfl (Nat.le_of_ble_eq_true rfl) ?_
  refine N.iload0 dX3_sortOf_0 ?_
  refine N.bipush (v := 97) dX3_sortOf_1 (by decide) ?_
  refine N.icmp_lt (tgt := 14) dX3_sortOf_3 (by decide) (fun c3 => ?_) (fun c3 => ?_)
  · refine N.iload0 dX3_sortOf_14 ?_
    refine N.bipush (v := 48) dX3_sortOf_15 (by decide) ?_
    refine N.icmp_lt (tgt := 28) dX3_sortOf_17 (by decide) (fun c17 => ?_) (fun c17 => ?_)
    · refine N.iload0 dX3_sortOf_28 ?_
      refine N.bipush (v := 59) dX3_sortOf_29 (by decide) ?_
      refine N.icmp_ne (tgt := 38) dX3_sortOf_31 (by decide) (fun c31 => ?_) (fun c31 => ?_)
      · refine N.iconst (v := 4) dX3_sortOf_38 (by decide) ?_
        exact N.iret dX3_sortOf_39 rfl (Nat.zero_le _) (Nat.zero_le _) ⟨_, rfl, ⟨(by first | (simp only [sortF, c3, c17, c31, ↓reduceIte]; done) | (simp_all [sortF]; done)), rfl, rfl⟩⟩
      · refine N.iconst (v := 3) dX3_sortOf_34 (by decide) ?_
        refine N.goto (tgt := 39) dX3_sortOf_35 (by decide) ?_
        exact N.iret dX3_sortOf_39 rfl (Nat.zero_le _) (Nat.zero_le _) ⟨_, rfl, ⟨(by first | (simp only [sortF, c3, c17, c31, ↓reduceIte]; done) | (simp_all [sortF]; done)), rfl, rfl⟩⟩
    · refine N.iload0 dX3_sortOf_20 ?_
      refine N.bipush (v := 57) dX3_sortOf_21 (by decide) ?_
      refine N.icmp_gt (tgt := 28) dX3_sortOf_23 (by decide) (fun c23 => ?_) (fun c23 => ?_)
      · refine N.iload0 dX3_sortOf_28 ?_
        refine N.bipush (v := 59) dX3_sortOf_29 (by decide) ?_
        refine N.icmp_ne (tgt := 38) dX3_sortOf_31 (by decide) (fun c31 => ?_) (fun c31 => ?_)
        · refine N.iconst (v := 4) dX3_sortOf_38 (by decide) ?_
          exact N.iret dX3_sortOf_39 rfl (Nat.zero_le _) (Nat.zero_le _) ⟨_, rfl, ⟨(by first | (simp only [sortF, c3, c17, c23, c31, ↓reduceIte]; done) | (simp_all [sortF]; done)), rfl, rfl⟩⟩
        · refine N.iconst (v := 3) dX3_sortOf_34 (by decide) ?_
          refine N.goto (tgt := 39) dX3_sortOf_35 (by decide) ?_
          exact N.iret dX3_sortOf_39 rfl (Nat.zero_le _) (Nat.zero_le _) ⟨_, rfl, ⟨(by first | (simp only [sortF, c3, c17, c23, c31, ↓reduceIte]; done) | (simp_all [sortF]; done)), rfl, rfl⟩⟩
      · refine N.iconst (v := 2) dX3_sortOf_26 (by decide) ?_
        exact N.iret dX3_sortOf_27 rfl (Nat.zero_le _) (Nat.zero_le _) ⟨_, rfl, ⟨(by first | (simp only [sortF, c3, c17, c23, ↓reduceIte]; done) | (simp_all [sortF]; done)), rfl, rfl⟩⟩
  · refine N.iload0 dX3_sortOf_6 ?_
    refine N.bipush (v := 122) dX3_sortOf_7 (by decide) ?_
    refine N.icmp_gt (tgt := 14) dX3_sortOf_9 (by decide) (fun c9 => ?_) (fun c9 => ?_)
    · refine N.iload0 dX3_sortOf_14 ?_
      refine N.bipush (v := 48) dX3_sortOf_15 (by decide) ?_
      refine N.icmp_lt (tgt := 28) dX3_sortOf_17 (by decide) (fun c17 => ?_) (fun c17 => ?_)
      · refine N.iload0 dX3_sortOf_28 ?_
        refine N.bipush (v := 59) dX3_sortOf_29 (by decide) ?_
        refine N.icmp_ne (tgt := 38) dX3_sortOf_31 (by decide) (fun c31 => ?_) (fun c31 => ?_)
        · refine N.iconst (v := 4) dX3_sortOf_38 (by decide) ?_
          exact N.iret dX3_sortOf_39 rfl (Nat.zero_le _) (Nat.zero_le _) ⟨_, rfl, ⟨(by first | (simp only [sortF, c3, c9, c17, c31, ↓reduceIte]; done) | (simp_all [sortF]; done)), rfl, rfl⟩⟩
        · refine N.iconst (v := 3) dX3_sortOf_34 (by decide) ?_
          refine N.goto (tgt := 39) dX3_sortOf_35 (by decide) ?_
          exact N.iret dX3_sortOf_39 rfl (Nat.zero_le _) (Nat.zero_le _) ⟨_, rfl, ⟨(by first | (simp only [sortF, c3, c9, c17, c31, ↓reduceIte]; done) | (simp_all [sortF]; done)), rfl, rfl⟩⟩
      · refine N.iload0 dX3_sortOf_20 ?_
        refine N.bipush (v := 57) dX3_sortOf_21 (by decide) ?_
        refine N.icmp_gt (tgt := 28) dX3_sortOf_23 (by decide) (fun c23 => ?_) (fun c23 => ?_)
        · refine N.iload0 dX3_sortOf_28 ?_
          refine N.bipush (v := 59) dX3_sortOf_29 (by decide) ?_
          refine N.icmp_ne (tgt := 38) dX3_sortOf_31 (by decide) (fun c31 => ?_) (fun c31 => ?_)
          · refine N.iconst (v := 4) dX3_sortOf_38 (by decide) ?_
            exact N.iret dX3_sortOf_39 rfl (Nat.zero_le _) (Nat.zero_le _) ⟨_, rfl, ⟨(by first | (simp only [sortF, c3, c9, c17, c23, c31, ↓reduceIte]; done) | (simp_all [sortF]; done)), rfl, rfl⟩⟩
          · refine N.iconst (v := 3) dX3_sortOf_34 (by decide) ?_
            refine N.goto (tgt := 39) dX3_sortOf_35 (by decide) ?_
            exact N.iret dX3_sortOf_39 rfl (Nat.zero_le _) (Nat.zero_le _) ⟨_, rfl, ⟨(by first | (simp only [sortF, c3, c9, c17, c23, c31, ↓reduceIte]; done) | (simp_all [sortF]; done)), rfl, rfl⟩⟩
        · refine N.iconst (v := 2) dX3_sortOf_26 (by decide) ?_
          exact N.iret dX3_sortOf_27 rfl (Nat.zero_le _) (Nat.zero_le _) ⟨_, rfl, ⟨(by first | (simp only [sortF, c3, c9, c17, c23, ↓reduceIte]; done) | (simp_all [sortF]; done)), rfl, rfl⟩⟩
    · refine N.iconst (v := 1) dX3_sortOf_12 (by decide) ?_
      exact N.iret dX3_sortOf_13 rfl (Nat.zero_le _) (Nat.zero_le _) ⟨_, rfl, ⟨(by first | (simp only [sortF, c3, c9, ↓reduceIte]; done) | (simp_all [sortF]; done)), rfl, rfl⟩⟩
set_option maxRecDepth 100000 in
theorem l2_X3_step {K : Kx} (w : Wd) (b sz : Nat) (t : TV) (S : Nat) (hS : S ≤ 250) (hz : t.2 0 = nI S) (B : Nat) (q : Int32) (R : T3) : ∀ nn k, k + nn = S → (B, lnF t.1 q nn k, q) = R → N K mX3_step 1 0 0 (Qv fun w' sz' => w' = putZ K w b t R ∧ sz' = sz) 119 [some (.ref b), some (.int 1)] [] (putT K w b (cT t (nI B) (nI k) q)) sz 0 0 := by
  intro nn
  induction nn with
  | zero =>
    intro k hk hR
    obtain rfl : k = S := by omega
    refine N.iload1 dX3_step_119 ?_
    refine N.if_eq (tgt := 166) dX3_step_120 (by decide) (fun c120 => absurd c120 (by decide)) (fun c120 => ?_)
    refine N.aload0 dX3_step_123 ?_
    refine N.getf dX3_step_124 flX3_22 zO rfl ?_
    refine N.aload0 dX3_step_127 ?_
    refine N.getf dX3_step_128 flX3_15 zO rfl ?_
    refine N.icmp_ge (tgt := 166) dX3_step_131 (by decide) (fun c131 => ?_) (fun c131 => absurd (by rw [hz]; exact nI_le (Nat.le_refl _) (by omega)) c131)
    exact N.vret dX3_step_166 rfl (Nat.zero_le _) (Nat.zero_le _) ⟨rfl, ⟨by rw [← hR]; rfl, rfl⟩⟩
  | succ nn ih =>
    intro k hk hR
    refine N.iload1 dX3_step_119 ?_
    refine N.if_eq (tgt := 166) dX3_step_120 (by decide) (fun c120 => absurd c120 (by decide)) (fun c120 => ?_)
    refine N.aload0 dX3_step_123 ?_
    refine N.getf dX3_step_124 flX3_22 zO rfl ?_
    refine N.aload0 dX3_step_127 ?_
    refine N.getf dX3_step_128 flX3_15 zO rfl ?_
    refine N.icmp_ge (tgt := 166) dX3_step_131 (by decide) (fun c131 => absurd c131 (by rw [hz]; exact nI_ge (by omega) (by omega))) (fun c131 => ?_)
    refine N.aload0 dX3_step_134 ?_
    refine N.getf dX3_step_135 flX3_9 zO rfl ?_
    refine N.aload0 dX3_step_138 ?_
    refine N.getf dX3_step_139 flX3_22 zO rfl ?_
    refine N.iald dX3_step_142 zA (in250 (by omega)) ?_
    refine N.si1 dX3_step_143 vX3_sortOf lkX3_49 (s_X3_sortOf _ _ _) rfl (Nat.le_of_ble_eq_true rfl) (Nat.le_of_ble_eq_true rfl) (Nat.zero_le _) (Nat.zero_le _) ?_
    rintro _ _ _ ⟨rfl, rfl, rfl⟩
    refine N.aload0 dX3_step_146 ?_
    refine N.getf dX3_step_147 flX3_25 zO rfl ?_
    refine N.icmp_ne (tgt := 166) dX3_step_150 (by decide) (fun c150 => ?_) (fun c150 => ?_)
    · exact N.vret dX3_step_166 rfl (Nat.zero_le _) (Nat.zero_le _) ⟨rfl, ⟨by rw [← hR, lnF, if_neg c150], rfl⟩⟩
    · refine N.aload0 dX3_step_153 ?_
      refine N.dup dX3_step_154 rfl ?_
      refine N.getf dX3_step_155 flX3_22 zO rfl ?_
      refine N.iconst (v := 1) dX3_step_158 (by decide) ?_
      refine N.iadd dX3_step_159 ?_
      refine N.putf dX3_step_160 flX3_22 zO (Nat.le_of_ble_eq_true rfl) (fun _ h => by cases h; rfl) rfl rfl zP2 ?_
      refine N.goto (tgt := 119) dX3_step_163 (by decide) ?_
      rw [show nI k + 1 = nI (k + 1) from nI_1 k]
      exact ih (k + 1) (by omega) (by rw [← hR, lnF, if_pos c150])
set_option maxRecDepth 100000 in
theorem l1_X3_step {K : Kx} (w : Wd) (b sz : Nat) (t : TV) (S : Nat) (hS : S ≤ 250) (hz : t.2 0 = nI S) (B : Nat) (hB : B ≤ S) (e k : Int32) (R : T3) (hR : st2 t.1 S B = R) : N K mX3_step 1 0 0 (Qv fun w' sz' => w' = putZ K w b t R ∧ sz' = sz) 46 [some (.ref b), none] [] (putT K w b (cT t (nI B) e k)) sz 0 0 := by
  refine N.aload0 dX3_step_46 ?_
  refine N.aload0 dX3_step_47 ?_
  refine N.getf dX3_step_48 flX3_19 zO rfl ?_
  refine N.putf dX3_step_51 flX3_22 zO (Nat.le_of_ble_eq_true rfl) (fun _ h => by cases h; rfl) rfl rfl zP2 ?_
  refine N.aload0 dX3_step_54 ?_
  refine N.getf dX3_step_55 flX3_19 zO rfl ?_
  refine N.aload0 dX3_step_58 ?_
  refine N.getf dX3_step_59 flX3_15 zO rfl ?_
  refine N.icmp_lt (tgt := 71) dX3_step_62 (by decide) (fun c62 => ?_) (fun c62 => ?_)
  · have cB : ¬ S ≤ B := fun q => absurd (show nI B < t.2 0 from c62) (by rw [hz]; exact nI_nlt q (by omega))
    refine N.aload0 dX3_step_71 ?_
    refine N.aload0 dX3_step_72 ?_
    refine N.getf dX3_step_73 flX3_9 zO rfl ?_
    refine N.aload0 dX3_step_76 ?_
    refine N.getf dX3_step_77 flX3_19 zO rfl ?_
    refine N.iald dX3_step_80 zA (in250 (by omega)) ?_
    refine N.si1 dX3_step_81 vX3_sortOf lkX3_49 (s_X3_sortOf _ _ _) rfl (Nat.le_of_ble_eq_true rfl) (Nat.le_of_ble_eq_true rfl) (Nat.zero_le _) (Nat.zero_le _) ?_
    rintro _ _ _ ⟨rfl, rfl, rfl⟩
    refine N.putf dX3_step_84 flX3_25 zO (Nat.le_of_ble_eq_true rfl) (fun _ h => by cases h; rfl) rfl rfl zP3 ?_
    refine N.aload0 dX3_step_87 ?_
    refine N.dup dX3_step_88 rfl ?_
    refine N.getf dX3_step_89 flX3_22 zO rfl ?_
    refine N.iconst (v := 1) dX3_step_92 (by decide) ?_
    refine N.iadd dX3_step_93 ?_
    refine N.putf dX3_step_94 flX3_22 zO (Nat.le_of_ble_eq_true rfl) (fun _ h => by cases h; rfl) rfl rfl zP2 ?_
    refine N.aload0 dX3_step_97 ?_
    refine N.getf dX3_step_98 flX3_25 zO rfl ?_
    refine N.iconst (v := 1) dX3_step_101 (by decide) ?_
    refine N.icmp_eq (tgt := 113) dX3_step_102 (by decide) (fun c102 => ?_) (fun c102 => ?_)
    · refine N.iconst (v := 1) dX3_step_113 (by decide) ?_
      refine N.goto (tgt := 118) dX3_step_114 (by decide) ?_
      refine N.istore1 dX3_step_118 rfl ?_
      rw [show nI B + 1 = nI (B + 1) from nI_1 B]
      exact l2_X3_step w b _ t S hS hz B _ R (S - (B + 1)) (B + 1) (by omega) (by rw [← hR, st2, if_neg cB, if_pos (Or.inl c102)])
    · refine N.aload0 dX3_step_105 ?_
      refine N.getf dX3_step_106 flX3_25 zO rfl ?_
      refine N.iconst (v := 2) dX3_step_109 (by decide) ?_
      refine N.icmp_ne (tgt := 117) dX3_step_110 (by decide) (fun c110 => ?_) (fun c110 => ?_)
      · refine N.iconst (v := 0) dX3_step_117 (by decide) ?_
        refine N.istore1 dX3_step_118 rfl ?_
        rw [show nI B + 1 = nI (B + 1) from nI_1 B]
        refine N.iload1 dX3_step_119 ?_
        refine N.if_eq (tgt := 166) dX3_step_120 (by decide) (fun c120 => ?_) (fun c120 => absurd (by decide) c120)
        exact N.vret dX3_step_166 rfl (Nat.zero_le _) (Nat.zero_le _) ⟨rfl, by rw [← hR, st2, if_neg cB, if_neg (fun q => q.elim c102 c110)], rfl⟩
      · refine N.iconst (v := 1) dX3_step_113 (by decide) ?_
        refine N.goto (tgt := 118) dX3_step_114 (by decide) ?_
        refine N.istore1 dX3_step_118 rfl ?_
        rw [show nI B + 1 = nI (B + 1) from nI_1 B]
        exact l2_X3_step w b _ t S hS hz B _ R (S - (B + 1)) (B + 1) (by omega) (by rw [← hR, st2, if_neg cB, if_pos (Or.inr c110)])
  · refine N.aload0 dX3_step_65 ?_
    refine N.iconst (v := 0) dX3_step_66 (by decide) ?_
    refine N.putf dX3_step_67 flX3_25 zO (Nat.le_of_ble_eq_true rfl) (fun _ h => by cases h; rfl) rfl rfl zP3 ?_
    exact N.vret dX3_step_70 rfl (Nat.zero_le _) (Nat.zero_le _) ⟨rfl, ⟨by rw [← hR, st2, if_pos (Nat.not_lt.mp fun q => c62 (show nI B < t.2 0 by rw [hz]; exact nI_lt q (by omega)))], rfl⟩⟩
set_option maxRecDepth 100000 in
theorem l_X3_step {K : Kx} (w : Wd) (b sz : Nat) (t : TV) (S : Nat) (hS : S ≤ 250) (hz : t.2 0 = nI S) (e k0 : Int32) (R : T3) : ∀ nn k, k + nn = S → st2 t.1 S (skF t.1 nn k) = R → N K mX3_step 1 0 0 (Qv fun w' sz' => w' = putZ K w b t R ∧ sz' = sz) 8 [some (.ref b), none] [] (putT K w b (cT t (nI k) e k0)) sz 0 0 := by
  intro nn
  induction nn with
  | zero =>
    intro k hk hR
    obtain rfl : k = S := by omega
    refine N.aload0 dX3_step_8 ?_
    refine N.getf dX3_step_9 flX3_19 zO rfl ?_
    refine N.aload0 dX3_step_12 ?_
    refine N.getf dX3_step_13 flX3_15 zO rfl ?_
    refine N.icmp_ge (tgt := 46) dX3_step_16 (by decide) (fun c16 => ?_) (fun c16 => absurd (by rw [hz]; exact nI_le (Nat.le_refl _) (by omega)) c16)
    exact l1_X3_step w b _ t k hS hz k (Nat.le_refl _) _ _ R hR
  | succ nn ih =>
    intro k hk hR
    refine N.aload0 dX3_step_8 ?_
    refine N.getf dX3_step_9 flX3_19 zO rfl ?_
    refine N.aload0 dX3_step_12 ?_
    refine N.getf dX3_step_13 flX3_15 zO rfl ?_
    refine N.icmp_ge (tgt := 46) dX3_step_16 (by decide) (fun c16 => absurd c16 (by rw [hz]; exact nI_ge (by omega) (by omega))) (fun c16 => ?_)
    refine N.aload0 dX3_step_19 ?_
    refine N.getf dX3_step_20 flX3_9 zO rfl ?_
    refine N.aload0 dX3_step_23 ?_
    refine N.getf dX3_step_24 flX3_19 zO rfl ?_
    refine N.iald dX3_step_27 zA (in250 (by omega)) ?_
    refine N.bipush (v := 32) dX3_step_28 (by decide) ?_
    refine N.icmp_ne (tgt := 46) dX3_step_30 (by decide) (fun c30 => ?_) (fun c30 => ?_)
    · exact l1_X3_step w b _ t S hS hz k (by omega) _ _ R (by rw [← hR, skF, if_neg c30])
    · refine N.aload0 dX3_step_33 ?_
      refine N.dup dX3_step_34 rfl ?_
      refine N.getf dX3_step_35 flX3_19 zO rfl ?_
      refine N.iconst (v := 1) dX3_step_38 (by decide) ?_
      refine N.iadd dX3_step_39 ?_
      refine N.putf dX3_step_40 flX3_19 zO (Nat.le_of_ble_eq_true rfl) (fun _ h => by cases h; rfl) rfl rfl zP1 ?_
      refine N.goto (tgt := 8) dX3_step_43 (by decide) ?_
      rw [show nI k + 1 = nI (k + 1) from nI_1 k]
      exact ih (k + 1) (by omega) (by rw [← hR, skF, if_pos c30])
set_option maxRecDepth 100000 in
theorem s_X3_step {K : Kx} (w : Wd) (b sz : Nat) (t : TV) (S : Nat) (hS : S ≤ 250) (hz : t.2 0 = nI S) (E : Nat) (hE : E ≤ S) (s0 k0 : Int32) : Sp K mX3_step 1 0 0 [.ref b] (putT K w b (cT t s0 (nI E) k0)) sz (Qv fun w' sz' => w' = putZ K w b t (stepF t.1 S E) ∧ sz' = sz) := by
  refine Sp.ofN [some (.ref b), none] rfl rfl rfl (Nat.le_of_ble_eq_true rfl) ?_
  refine N.aload0 dX3_step_0 ?_
  refine N.aload0 dX3_step_1 ?_
  refine N.getf dX3_step_2 flX3_22 zO rfl ?_
  refine N.putf dX3_step_5 flX3_19 zO (Nat.le_of_ble_eq_true rfl) (fun _ h => by cases h; rfl) rfl rfl zP1 ?_
  exact l_X3_step w b _ t S hS hz _ _ _ (S - E) E (by omega) rfl
def nmF (f : Nat → Int32) : Nat → Nat → Int32 → Int32
  | 0, _, v => v
  | n + 1, i, v => nmF f n (i + 1) (10 * v + f (nI i).toNatClampNeg - 48)
def numF (f : Nat → Int32) (s : T3) (lo hi : Int32) : Int32 := if s.2.2 = 2 then (if nI s.2.1 - nI s.1 ≤ 3 then (if isInF (nmF f (s.2.1 - s.1) s.1 0) lo hi = 0 then -1 else nmF f (s.2.1 - s.1) s.1 0) else -1) else -1
set_option maxRecDepth 100000 in
theorem l_X3_numberIn {K : Kx} (w : Wd) (b sz : Nat) (t : TV) (S : Nat) (hS : S ≤ 250) (hz : t.2 0 = nI S) (s : T3) (hs : I3 S s) (lo hi R : Int32) : ∀ nn k (v : Int32), k + nn = s.2.1 → (if isInF (nmF t.1 nn k v) lo hi = 0 then -1 else nmF t.1 nn k v) = R → N K mX3_numberIn 1 0 0 (Qi fun r w' sz' => r = R ∧ w' = putZ K w b t s ∧ sz' = sz) 31 [some (.ref b), some (.int lo), some (.int hi), some (.int v), some (.int (nI k))] [] (putZ K w b t s) sz 0 0 := by
  obtain ⟨hs1, hs2⟩ := hs
  intro nn
  induction nn with
  | zero =>
    intro k v hk hR
    obtain rfl : k = s.2.1 := by omega
    refine N.iload4 dX3_numberIn_31 ?_
    refine N.aload0 dX3_numberIn_33 ?_
    refine N.getf dX3_numberIn_34 flX3_22 zO rfl ?_
    refine N.icmp_ge (tgt := 62) dX3_numberIn_37 (by decide) (fun c37 => ?_) (fun c37 => absurd (nI_le (Nat.le_refl _) (by omega)) c37)
    refine N.iload3 dX3_numberIn_62 ?_
    refine N.iload1 dX3_numberIn_63 ?_
    refine N.iload2 dX3_numberIn_64 ?_
    refine N.si3 dX3_numberIn_65 vX4_isIn lkX3_63 (s_X4_isIn _ _ _ _ _) rfl (Nat.le_of_ble_eq_true rfl) (Nat.le_of_ble_eq_true rfl) (Nat.zero_le _) (Nat.zero_le _) ?_
    rintro _ _ _ ⟨rfl, rfl, rfl⟩
    refine N.if_eq (tgt := 75) dX3_numberIn_68 (by decide) (fun c68 => ?_) (fun c68 => ?_)
    · refine N.iconst (v := -1) dX3_numberIn_75 (by decide) ?_
      exact N.iret dX3_numberIn_76 rfl (Nat.zero_le _) (Nat.zero_le _) ⟨_, rfl, ⟨by rw [← hR, nmF, if_pos c68], rfl, rfl⟩⟩
    · refine N.iload3 dX3_numberIn_71 ?_
      refine N.goto (tgt := 76) dX3_numberIn_72 (by decide) ?_
      exact N.iret dX3_numberIn_76 rfl (Nat.zero_le _) (Nat.zero_le _) ⟨_, rfl, ⟨by rw [← hR, nmF, if_neg c68], rfl, rfl⟩⟩
  | succ nn ih =>
    intro k v hk hR
    refine N.iload4 dX3_numberIn_31 ?_
    refine N.aload0 dX3_numberIn_33 ?_
    refine N.getf dX3_numberIn_34 flX3_22 zO rfl ?_
    refine N.icmp_ge (tgt := 62) dX3_numberIn_37 (by decide) (fun c37 => absurd c37 (nI_ge (by omega) (by omega))) (fun c37 => ?_)
    refine N.bipush (v := 10) dX3_numberIn_40 (by decide) ?_
    refine N.iload3 dX3_numberIn_42 ?_
    refine N.imul dX3_numberIn_43 ?_
    refine N.aload0 dX3_numberIn_44 ?_
    refine N.getf dX3_numberIn_45 flX3_9 zO rfl ?_
    refine N.iload4 dX3_numberIn_48 ?_
    refine N.iald dX3_numberIn_50 zA (in250 (by omega)) ?_
    refine N.iadd dX3_numberIn_51 ?_
    refine N.bipush (v := 48) dX3_numberIn_52 (by decide) ?_
    refine N.isub dX3_numberIn_54 ?_
    refine N.istore3 dX3_numberIn_55 rfl ?_
    refine N.iinc4 dX3_numberIn_56 rfl (nI_inc _) ?_
    refine N.goto (tgt := 31) dX3_numberIn_59 (by decide) ?_
    exact ih (k + 1) _ (by omega) hR
set_option maxRecDepth 100000 in
theorem s_X3_numberIn {K : Kx} (w : Wd) (b sz : Nat) (t : TV) (S : Nat) (hS : S ≤ 250) (hz : t.2 0 = nI S) (s : T3) (hs : I3 S s) (lo hi : Int32) : Sp K mX3_numberIn 1 0 0 [.ref b, .int lo, .int hi] (putZ K w b t s) sz (Qi fun r w' sz' => r = numF t.1 s lo hi ∧ w' = putZ K w b t s ∧ sz' = sz) := by
  refine Sp.ofN [some (.ref b), some (.int lo), some (.int hi), none, none] rfl rfl rfl (Nat.le_of_ble_eq_true rfl) ?_
  refine N.aload0 dX3_numberIn_0 ?_
  refine N.getf dX3_numberIn_1 flX3_25 zO rfl ?_
  refine N.iconst (v := 2) dX3_numberIn_4 (by decide) ?_
  refine N.icmp_ne (tgt := 21) dX3_numberIn_5 (by decide) (fun c5 => ?_) (fun c5 => ?_)
  · refine N.iconst (v := -1) dX3_numberIn_21 (by decide) ?_
    exact N.iret dX3_numberIn_22 rfl (Nat.zero_le _) (Nat.zero_le _) ⟨_, rfl, ⟨by rw [numF, if_neg c5], rfl, rfl⟩⟩
  · refine N.aload0 dX3_numberIn_8 ?_
    refine N.getf dX3_numberIn_9 flX3_22 zO rfl ?_
    refine N.aload0 dX3_numberIn_12 ?_
    refine N.getf dX3_numberIn_13 flX3_19 zO rfl ?_
    refine N.isub dX3_numberIn_16 ?_
    refine N.iconst (v := 3) dX3_numberIn_17 (by decide) ?_
    refine N.icmp_le (tgt := 23) dX3_numberIn_18 (by decide) (fun c18 => ?_) (fun c18 => ?_)
    · refine N.iconst (v := 0) dX3_numberIn_23 (by decide) ?_
      refine N.istore3 dX3_numberIn_24 rfl ?_
      refine N.aload0 dX3_numberIn_25 ?_
      refine N.getf dX3_numberIn_26 flX3_19 zO rfl ?_
      refine N.istore4 dX3_numberIn_29 rfl ?_
      exact l_X3_numberIn w b _ t S hS hz s hs lo hi _ (s.2.1 - s.1) s.1 0 (by have := hs.1; omega) (by rw [numF, if_pos c5, if_pos c18])
    · refine N.iconst (v := -1) dX3_numberIn_21 (by decide) ?_
      exact N.iret dX3_numberIn_22 rfl (Nat.zero_le _) (Nat.zero_le _) ⟨_, rfl, ⟨by rw [numF, if_pos c5, if_neg c18], rfl, rfl⟩⟩
set_option maxRecDepth 100000 in
theorem s_X3_nextNumberIn {K : Kx} (w : Wd) (b sz : Nat) (t : TV) (S : Nat) (hS : S ≤ 250) (hz : t.2 0 = nI S) (E : Nat) (hE : E ≤ S) (s0 k0 lo hi : Int32) : Sp K mX3_nextNumberIn 2 0 0 [.ref b, .int lo, .int hi] (putT K w b (cT t s0 (nI E) k0)) sz (Qi fun r w' sz' => r = numF t.1 (stepF t.1 S E) lo hi ∧ w' = putZ K w b t (stepF t.1 S E) ∧ sz' = sz) := by
  refine Sp.ofN [some (.ref b), some (.int lo), some (.int hi)] rfl rfl rfl (Nat.le_of_ble_eq_true rfl) ?_
  refine N.aload0 dX3_nextNumberIn_0 ?_
  refine N.vv0 dX3_nextNumberIn_1 vX3_step lkX3_28 (s_X3_step _ _ _ _ S hS hz E hE _ _) zO rfl (Nat.le_of_ble_eq_true rfl) (Nat.le_of_ble_eq_true rfl) (Nat.zero_le _) (Nat.zero_le _) ?_
  rintro _ _ ⟨rfl, rfl⟩
  refine N.aload0 dX3_nextNumberIn_4 ?_
  refine N.iload1 dX3_nextNumberIn_5 ?_
  refine N.iload2 dX3_nextNumberIn_6 ?_
  refine N.vi2 dX3_nextNumberIn_7 vX3_numberIn lkX3_67 (s_X3_numberIn _ _ _ _ S hS hz _ (step_ok hE) _ _) zO rfl (Nat.le_of_ble_eq_true rfl) (Nat.le_of_ble_eq_true rfl) (Nat.zero_le _) (Nat.zero_le _) ?_
  rintro _ _ _ ⟨rfl, rfl, rfl⟩
  exact N.iret dX3_nextNumberIn_10 rfl (Nat.zero_le _) (Nat.zero_le _) ⟨_, rfl, ⟨rfl, rfl, rfl⟩⟩
def wdF (f : Nat → Int32) (B j : Nat) : Nat → Nat → Int32
  | _, 0 => 1
  | i, n + 1 => if f (nI B + nI i).toNatClampNeg = chF j (nI i) then wdF f B j (i + 1) n else 0
def isWF (f : Nat → Int32) (s : T3) (j : Nat) : Int32 := if s.2.2 = 1 then (if nI s.2.1 - nI s.1 = nI (sLen j) then wdF f s.1 j 0 (sLen j) else 0) else 0
set_option maxRecDepth 100000 in
theorem l_X3_isWord {K : Kx} (w : Wd) (b sz : Nat) (t : TV) (S : Nat) (hS : S ≤ 250) (hz : t.2 0 = nI S) (s : T3) (hs : I3 S s) (j : Nat) (hj : j < 7) (hl : s.2.1 - s.1 = sLen j) (R : Int32) : ∀ nn k, k + nn = sLen j → wdF t.1 s.1 j k nn = R → N K mX3_isWord 4 0 0 (Qi fun r w' sz' => r = R ∧ w' = putZ K w b t s ∧ sz' = sz) 28 [some (.ref b), some (.ref (kA K j)), some (.int (nI k))] [] (putZ K w b t s) sz 0 0 := by
  have h7 := sLen7 j hj
  obtain ⟨hs1, hs2⟩ := hs
  intro nn
  induction nn with
  | zero =>
    intro k hk hR
    obtain rfl : k = sLen j := by omega
    refine N.iload2 dX3_isWord_28 ?_
    refine N.aload1 dX3_isWord_29 ?_
    refine N.callT dX3_isWord_30 t_length tkX3_length (s_J0_length_8abf5 _ _ _ hj) hj rfl rfl (Nat.le_of_ble_eq_true rfl) (Nat.le_of_ble_eq_true rfl) (Nat.zero_le _) (Nat.zero_le _) ?_
    rintro _ _ _ ⟨_, rfl, rfl, rfl, rfl⟩
    simp only [Option.toList, List.singleton_append]
    refine N.icmp_ge (tgt := 63) dX3_isWord_33 (by decide) (fun c33 => ?_) (fun c33 => absurd (nI_le (Nat.le_refl _) (by omega)) c33)
    refine N.iconst (v := 1) dX3_isWord_63 (by decide) ?_
    exact N.zret dX3_isWord_64 rfl rfl (Nat.zero_le _) (Nat.zero_le _) ⟨_, rfl, ⟨hR, rfl, rfl⟩⟩
  | succ nn ih =>
    intro k hk hR
    refine N.iload2 dX3_isWord_28 ?_
    refine N.aload1 dX3_isWord_29 ?_
    refine N.callT dX3_isWord_30 t_length tkX3_length (s_J0_length_8abf5 _ _ _ hj) hj rfl rfl (Nat.le_of_ble_eq_true rfl) (Nat.le_of_ble_eq_true rfl) (Nat.zero_le _) (Nat.zero_le _) ?_
    rintro _ _ _ ⟨_, rfl, rfl, rfl, rfl⟩
    simp only [Option.toList, List.singleton_append]
    refine N.icmp_ge (tgt := 63) dX3_isWord_33 (by decide) (fun c33 => absurd c33 (nI_ge (by omega) (by omega))) (fun c33 => ?_)
    refine N.aload0 dX3_isWord_36 ?_
    refine N.getf dX3_isWord_37 flX3_9 zO rfl ?_
    refine N.aload0 dX3_isWord_40 ?_
    refine N.getf dX3_isWord_41 flX3_19 zO rfl ?_
    refine N.iload2 dX3_isWord_44 ?_
    refine N.iadd dX3_isWord_45 ?_
    refine N.iald dX3_isWord_46 zA (by rw [nI_add]; exact in250 (by omega)) ?_
    refine N.aload1 dX3_isWord_47 ?_
    refine N.iload2 dX3_isWord_48 ?_
    refine N.callT dX3_isWord_49 t_charAt tkX3_charAt (s_J0_charAt_5068e _ _ _ hj _ (vp_in_nI (n := k) (by omega) (by omega))) hj rfl rfl (Nat.le_of_ble_eq_true rfl) (Nat.le_of_ble_eq_true rfl) (Nat.zero_le _) (Nat.zero_le _) ?_
    rintro _ _ _ ⟨_, rfl, rfl, rfl, rfl⟩
    simp only [Option.toList, List.singleton_append]
    refine N.icmp_eq (tgt := 57) dX3_isWord_52 (by decide) (fun c52 => ?_) (fun c52 => ?_)
    · refine N.iinc2 dX3_isWord_57 rfl (nI_inc _) ?_
      refine N.goto (tgt := 28) dX3_isWord_60 (by decide) ?_
      exact ih (k + 1) (by omega) (by rw [← hR, wdF, if_pos c52])
    · refine N.iconst (v := 0) dX3_isWord_55 (by decide) ?_
      exact N.zret dX3_isWord_56 rfl rfl (Nat.zero_le _) (Nat.zero_le _) ⟨_, rfl, ⟨by rw [← hR, wdF, if_neg c52], rfl, rfl⟩⟩
theorem wd_len {S : Nat} {s : T3} (hS : S ≤ 250) (hs : I3 S s) {j : Nat} (hj : j < 7) (h : nI s.2.1 - nI s.1 = nI (sLen j)) : s.2.1 - s.1 = sLen j := by
  have h7 := sLen7 j hj
  obtain ⟨hs1, hs2⟩ := hs
  rw [nI_sub hs1] at h
  exact (nI_eq (by omega) (by omega)).mp h
set_option maxRecDepth 100000 in
theorem s_X3_isWord {K : Kx} (w : Wd) (b sz : Nat) (t : TV) (S : Nat) (hS : S ≤ 250) (hz : t.2 0 = nI S) (s : T3) (hs : I3 S s) (j : Nat) (hj : j < 7) : Sp K mX3_isWord 4 0 0 [.ref b, .ref (kA K j)] (putZ K w b t s) sz (Qi fun r w' sz' => r = isWF t.1 s j ∧ w' = putZ K w b t s ∧ sz' = sz) := by
  refine Sp.ofN [some (.ref b), some (.ref (kA K j)), none] rfl rfl rfl (Nat.le_of_ble_eq_true rfl) ?_
  refine N.aload0 dX3_isWord_0 ?_
  refine N.getf dX3_isWord_1 flX3_25 zO rfl ?_
  refine N.iconst (v := 1) dX3_isWord_4 (by decide) ?_
  refine N.icmp_ne (tgt := 24) dX3_isWord_5 (by decide) (fun c5 => ?_) (fun c5 => ?_)
  · refine N.iconst (v := 0) dX3_isWord_24 (by decide) ?_
    exact N.zret dX3_isWord_25 rfl rfl (Nat.zero_le _) (Nat.zero_le _) ⟨_, rfl, ⟨by rw [isWF, if_neg c5], rfl, rfl⟩⟩
  · refine N.aload0 dX3_isWord_8 ?_
    refine N.getf dX3_isWord_9 flX3_22 zO rfl ?_
    refine N.aload0 dX3_isWord_12 ?_
    refine N.getf dX3_isWord_13 flX3_19 zO rfl ?_
    refine N.isub dX3_isWord_16 ?_
    refine N.aload1 dX3_isWord_17 ?_
    refine N.callT dX3_isWord_18 t_length tkX3_length (s_J0_length_8abf5 _ _ _ hj) hj rfl rfl (Nat.le_of_ble_eq_true rfl) (Nat.le_of_ble_eq_true rfl) (Nat.zero_le _) (Nat.zero_le _) ?_
    rintro _ _ _ ⟨_, rfl, rfl, rfl, rfl⟩
    simp only [Option.toList, List.singleton_append]
    refine N.icmp_eq (tgt := 26) dX3_isWord_21 (by decide) (fun c21 => ?_) (fun c21 => ?_)
    · refine N.iconst (v := 0) dX3_isWord_26 (by decide) ?_
      refine N.istore2 dX3_isWord_27 rfl ?_
      exact l_X3_isWord w b _ t S hS hz s hs j hj (wd_len hS hs hj c21) _ (sLen j) 0 (by omega) (by rw [isWF, if_pos c5, if_pos c21])
    · refine N.iconst (v := 0) dX3_isWord_24 (by decide) ?_
      exact N.zret dX3_isWord_25 rfl rfl (Nat.zero_le _) (Nat.zero_le _) ⟨_, rfl, ⟨by rw [isWF, if_pos c5, if_neg c21], rfl, rfl⟩⟩
def wd1F (f : Nat → Int32) (s : T3) : Int32 := if isWF f s 2 = 0 then (if isWF f s 3 = 0 then (if isWF f s 4 = 0 then (if isWF f s 5 = 0 then (if isWF f s 6 = 0 then -1 else 4) else 3) else 2) else 1) else 0
set_option maxRecDepth 100000 in
theorem s_X3_wordOfOneNumber {K : Kx} (w : Wd) (b sz : Nat) (t : TV) (S : Nat) (hS : S ≤ 250) (hz : t.2 0 = nI S) (s : T3) (hs : I3 S s) : Sp K mX3_wordOfOneNumber 5 0 0 [.ref b] (putZ K w b t s) sz (Qi fun r w' sz' => r = wd1F t.1 s ∧ w' = putZ K w b t s ∧ sz' = sz) := by
  refine Sp.ofN [some (.ref b)] rfl rfl rfl (Nat.le_of_ble_eq_true rfl) ?_
  refine N.aload0 dX3_wordOfOneNumber_0 ?_
  refine N.ldcS (j := 2) (tx := "on") dX3_wordOfOneNumber_1 rfl ?_
  refine N.vi1 dX3_wordOfOneNumber_3 vX3_isWord lkX3_33 (s_X3_isWord _ _ _ _ S hS hz _ hs 2 (by decide)) zO rfl (Nat.le_of_ble_eq_true rfl) (Nat.le_of_ble_eq_true rfl) (Nat.zero_le _) (Nat.zero_le _) ?_
  rintro _ _ _ ⟨rfl, rfl, rfl⟩
  refine N.if_eq (tgt := 11) dX3_wordOfOneNumber_6 (by decide) (fun c6 => ?_) (fun c6 => ?_)
  · refine N.aload0 dX3_wordOfOneNumber_11 ?_
    refine N.ldcS (j := 3) (tx := "third") dX3_wordOfOneNumber_12 rfl ?_
    refine N.vi1 dX3_wordOfOneNumber_14 vX3_isWord lkX3_33 (s_X3_isWord _ _ _ _ S hS hz _ hs 3 (by decide)) zO rfl (Nat.le_of_ble_eq_true rfl) (Nat.le_of_ble_eq_true rfl) (Nat.zero_le _) (Nat.zero_le _) ?_
    rintro _ _ _ ⟨rfl, rfl, rfl⟩
    refine N.if_eq (tgt := 22) dX3_wordOfOneNumber_17 (by decide) (fun c17 => ?_) (fun c17 => ?_)
    · refine N.aload0 dX3_wordOfOneNumber_22 ?_
      refine N.ldcS (j := 4) (tx := "half") dX3_wordOfOneNumber_23 rfl ?_
      refine N.vi1 dX3_wordOfOneNumber_25 vX3_isWord lkX3_33 (s_X3_isWord _ _ _ _ S hS hz _ hs 4 (by decide)) zO rfl (Nat.le_of_ble_eq_true rfl) (Nat.le_of_ble_eq_true rfl) (Nat.zero_le _) (Nat.zero_le _) ?_
      rintro _ _ _ ⟨rfl, rfl, rfl⟩
      refine N.if_eq (tgt := 33) dX3_wordOfOneNumber_28 (by decide) (fun c28 => ?_) (fun c28 => ?_)
      · refine N.aload0 dX3_wordOfOneNumber_33 ?_
        refine N.ldcS (j := 5) (tx := "theirs") dX3_wordOfOneNumber_34 rfl ?_
        refine N.vi1 dX3_wordOfOneNumber_36 vX3_isWord lkX3_33 (s_X3_isWord _ _ _ _ S hS hz _ hs 5 (by decide)) zO rfl (Nat.le_of_ble_eq_true rfl) (Nat.le_of_ble_eq_true rfl) (Nat.zero_le _) (Nat.zero_le _) ?_
        rintro _ _ _ ⟨rfl, rfl, rfl⟩
        refine N.if_eq (tgt := 44) dX3_wordOfOneNumber_39 (by decide) (fun c39 => ?_) (fun c39 => ?_)
        · refine N.aload0 dX3_wordOfOneNumber_44 ?_
          refine N.ldcS (j := 6) (tx := "skate") dX3_wordOfOneNumber_45 rfl ?_
          refine N.vi1 dX3_wordOfOneNumber_47 vX3_isWord lkX3_33 (s_X3_isWord _ _ _ _ S hS hz _ hs 6 (by decide)) zO rfl (Nat.le_of_ble_eq_true rfl) (Nat.le_of_ble_eq_true rfl) (Nat.zero_le _) (Nat.zero_le _) ?_
          rintro _ _ _ ⟨rfl, rfl, rfl⟩
          refine N.if_eq (tgt := 57) dX3_wordOfOneNumber_50 (by decide) (fun c50 => ?_) (fun c50 => ?_)
          · refine N.iconst (v := -1) dX3_wordOfOneNumber_57 (by decide) ?_
            exact N.iret dX3_wordOfOneNumber_58 rfl (Nat.zero_le _) (Nat.zero_le _) ⟨_, rfl, ⟨by rw [wd1F, if_pos c6, if_pos c17, if_pos c28, if_pos c39, if_pos c50], rfl, rfl⟩⟩
          · refine N.iconst (v := 4) dX3_wordOfOneNumber_53 (by decide) ?_
            refine N.goto (tgt := 58) dX3_wordOfOneNumber_54 (by decide) ?_
            exact N.iret dX3_wordOfOneNumber_58 rfl (Nat.zero_le _) (Nat.zero_le _) ⟨_, rfl, ⟨by rw [wd1F, if_pos c6, if_pos c17, if_pos c28, if_pos c39, if_neg c50], rfl, rfl⟩⟩
        · refine N.iconst (v := 3) dX3_wordOfOneNumber_42 (by decide) ?_
          exact N.iret dX3_wordOfOneNumber_43 rfl (Nat.zero_le _) (Nat.zero_le _) ⟨_, rfl, ⟨by rw [wd1F, if_pos c6, if_pos c17, if_pos c28, if_neg c39], rfl, rfl⟩⟩
      · refine N.iconst (v := 2) dX3_wordOfOneNumber_31 (by decide) ?_
        exact N.iret dX3_wordOfOneNumber_32 rfl (Nat.zero_le _) (Nat.zero_le _) ⟨_, rfl, ⟨by rw [wd1F, if_pos c6, if_pos c17, if_neg c28], rfl, rfl⟩⟩
    · refine N.iconst (v := 1) dX3_wordOfOneNumber_20 (by decide) ?_
      exact N.iret dX3_wordOfOneNumber_21 rfl (Nat.zero_le _) (Nat.zero_le _) ⟨_, rfl, ⟨by rw [wd1F, if_pos c6, if_neg c17], rfl, rfl⟩⟩
  · refine N.iconst (v := 0) dX3_wordOfOneNumber_9 (by decide) ?_
    exact N.iret dX3_wordOfOneNumber_10 rfl (Nat.zero_le _) (Nat.zero_le _) ⟨_, rfl, ⟨by rw [wd1F, if_neg c6], rfl, rfl⟩⟩
