variable {G : Nat → Prop}
abbrev M2 : Type := (Nat → Int32) × (Nat → Nat → Int32)
abbrev Cc : Type := (Nat → Nat → Int64) × (Nat → Int64) × Option Nat × Option Nat
abbrev em (A : M2) (c : Cc) : ME := (A.1, A.2, c)
abbrev RM : Type := Int32 × Rd × CV × M2
def fl (E : M2) (r : Rd) : M2 := (upd E.1 5 (nI r.1.1), E.2)
def tl (E : M2) (i x : Int32) : M2 := (E.1, upA E.2 6 (upd (E.2 6) i.toNatClampNeg x))
def no (r : Rd) (v : CV) (E : M2) : RM := (0, r, v, fl E r)
def nuM (f : Nat → Int32) (S : Nat) (r : Rd) (v : CV) (E : M2) (i lo hi : Int32) : RM := if r.1.2.2 = 2 then (if isInF r.2 lo hi = 0 then no r v E else (1, lk f S r.1.2.1, v, tl E i r.2)) else no r v E
def teM (f : Nat → Int32) (S : Nat) (r : Rd) (v : CV) (E : M2) (lo hi : Int32) : RM := nuM f S (lk f S r.1.2.1) v E 0 lo hi
def as1 (f : Nat → Int32) (S : Nat) (r : Rd) (v : CV) (E : M2) (x : Int32) : RM := if r.1.2.2 = 2 then (if askM x r.2 = 0 then no r v E else (1, lk f S r.1.2.1, becM v x r.2, E)) else no r v E
def asM (f : Nat → Int32) (S : Nat) (r : Rd) (v : CV) (E : M2) (x : Int32) : RM := as1 f S (lk f S r.1.2.1) v E x
abbrev OkR (S : Nat) (r : Rd) (q : RM) : Prop := (q.1 = 0 ∨ q.1 = 1) ∧ I3 S q.2.1.1 ∧ r.1.2.1 ≤ q.2.1.1.2.1
theorem lk_le {f : Nat → Int32} {S e : Nat} : e ≤ (lk f S e).1.2.1 := by
  show e ≤ (stepF f S e).2.1
  unfold stepF st2
  have h1 := skF_le (f := f) (S - e) e
  generalize skF f (S - e) e = B at *
  split
  · show e ≤ B; omega
  · dsimp only
    split
    · have h2 := lnF_le (f := f) (q := sortF (f (nI B).toNatClampNeg)) (S - (B + 1)) (B + 1)
      omega
    · omega
theorem lk_lt {f : Nat → Int32} {S e : Nat} (h : ¬ (lk f S e).1.2.2 = 0) : e < (lk f S e).1.2.1 := by
  show e < (stepF f S e).2.1
  have h' : ¬ (stepF f S e).2.2 = 0 := h
  unfold stepF st2 at h' ⊢
  have h1 := skF_le (f := f) (S - e) e
  generalize skF f (S - e) e = B at *
  by_cases c : S ≤ B
  · rw [if_pos c] at h'; exact absurd rfl h'
  · rw [if_neg c]
    dsimp only
    split
    · have h2 := lnF_le (f := f) (q := sortF (f (nI B).toNatClampNeg)) (S - (B + 1)) (B + 1)
      omega
    · omega
theorem ok_no {S : Nat} {r : Rd} {v : CV} {E : M2} (h : I3 S r.1) : OkR S r (no r v E) := ⟨Or.inl rfl, h, Nat.le_refl _⟩
theorem ok_nu {f : Nat → Int32} {S : Nat} {r : Rd} {v : CV} {E : M2} {i lo hi : Int32} (h : I3 S r.1) : OkR S r (nuM f S r v E i lo hi) := by
  unfold nuM
  split
  · split
    · exact ok_no h
    · exact ⟨Or.inr rfl, lk_ok h.2, lk_le⟩
  · exact ok_no h
theorem OkR.le {S : Nat} {r r' : Rd} {q : RM} (h : OkR S r' q) (h2 : r.1.2.1 ≤ r'.1.2.1) : OkR S r q := ⟨h.1, h.2.1, Nat.le_trans h2 h.2.2⟩
theorem ok_te {f : Nat → Int32} {S : Nat} {r : Rd} {v : CV} {E : M2} {lo hi : Int32} (h : I3 S r.1) : OkR S r (teM f S r v E lo hi) := (ok_nu (lk_ok h.2)).le lk_le
theorem ok_as1 {f : Nat → Int32} {S : Nat} {r : Rd} {v : CV} {E : M2} {x : Int32} (h : I3 S r.1) : OkR S r (as1 f S r v E x) := by
  unfold as1
  split
  · split
    · exact ok_no h
    · exact ⟨Or.inr rfl, lk_ok h.2, lk_le⟩
  · exact ok_no h
theorem ok_as {f : Nat → Int32} {S : Nat} {r : Rd} {v : CV} {E : M2} {x : Int32} (h : I3 S r.1) : OkR S r (asM f S r v E x) := (ok_as1 (lk_ok h.2)).le lk_le
set_option maxRecDepth 100000 in
theorem s_X5_wrong {K : Kx} (w : Wd) (b sz : Nat) (v : CV) (E : M2) (c : Cc) (r : Rd) : Sp K mX5_wrong 0 0 0 [.ref b] (putM K w b (v, rdS (em E c) r)) sz (Qi fun x' w' sz' => x' = 0 ∧ w' = putM K w b (v, rdS (em (fl E r) c) r) ∧ sz' = sz) := by
  refine Sp.ofN [some (.ref b)] rfl rfl rfl (Nat.le_of_ble_eq_true rfl) ?_
  refine N.aload0 dX5_wrong_0 ?_
  refine N.aload0 dX5_wrong_1 ?_
  refine N.getf dX5_wrong_2 flX5_164 mxO rfl ?_
  refine N.putf dX5_wrong_5 flX5_179 mxO (Nat.le_of_ble_eq_true rfl) (fun _ h => by cases h; rfl) rfl rfl mxP5 ?_
  refine N.iconst (v := 0) dX5_wrong_8 (by decide) ?_
  exact N.zret dX5_wrong_9 rfl rfl (Nat.zero_le _) (Nat.zero_le _) ⟨_, rfl, ⟨rfl, rfl, rfl⟩⟩
set_option maxRecDepth 100000 in
theorem l_X5_isWord {K : Kx} (w : Wd) (b sz : Nat) (v : CV) (E : M2) (c : Cc) (S : Nat) (hS : S ≤ 250) (hz : E.1 0 = nI S) (r : Rd) (hr : I3 S r.1) (j : Nat) (hj : j < 7) (hl : r.1.2.1 - r.1.1 = sLen j) (R : Int32) : ∀ nn k, k + nn = sLen j → wdF (E.2 4) r.1.1 j k nn = R → N K mX5_isWord 4 0 0 (Qi fun x' w' sz' => x' = R ∧ w' = (putM K w b (v, rdS (em E c) r)) ∧ sz' = sz) 28 [some (.ref b), some (.ref (kA K j)), some (.int (nI k))] [] (putM K w b (v, rdS (em E c) r)) sz 0 0 := by
  have h7 := sLen7 j hj
  obtain ⟨hs1, hs2⟩ := hr
  intro nn
  induction nn with
  | zero =>
    intro k hk hR
    obtain rfl : k = sLen j := by omega
    refine N.iload2 dX5_isWord_28 ?_
    refine N.aload1 dX5_isWord_29 ?_
    refine N.callT dX5_isWord_30 t_length tkX5_182 (s_J0_length_8abf5 _ _ _ hj) hj rfl rfl (Nat.le_of_ble_eq_true rfl) (Nat.le_of_ble_eq_true rfl) (Nat.zero_le _) (Nat.zero_le _) ?_
    rintro _ _ _ ⟨_, rfl, rfl, rfl, rfl⟩
    simp only [Option.toList, List.singleton_append]
    refine N.icmp_ge (tgt := 63) dX5_isWord_33 (by decide) (fun c33 => ?_) (fun c33 => absurd (nI_le (Nat.le_refl _) (by omega)) c33)
    refine N.iconst (v := 1) dX5_isWord_63 (by decide) ?_
    exact N.zret dX5_isWord_64 rfl rfl (Nat.zero_le _) (Nat.zero_le _) ⟨_, rfl, ⟨hR, rfl, rfl⟩⟩
  | succ nn ih =>
    intro k hk hR
    refine N.iload2 dX5_isWord_28 ?_
    refine N.aload1 dX5_isWord_29 ?_
    refine N.callT dX5_isWord_30 t_length tkX5_182 (s_J0_length_8abf5 _ _ _ hj) hj rfl rfl (Nat.le_of_ble_eq_true rfl) (Nat.le_of_ble_eq_true rfl) (Nat.zero_le _) (Nat.zero_le _) ?_
    rintro _ _ _ ⟨_, rfl, rfl, rfl, rfl⟩
    simp only [Option.toList, List.singleton_append]
    refine N.icmp_ge (tgt := 63) dX5_isWord_33 (by decide) (fun c33 => absurd c33 (nI_ge (by omega) (by omega))) (fun c33 => ?_)
    refine N.aload0 dX5_isWord_36 ?_
    refine N.getf dX5_isWord_37 flX5_31 mxO rfl ?_
    refine N.aload0 dX5_isWord_40 ?_
    refine N.getf dX5_isWord_41 flX5_164 mxO rfl ?_
    refine N.iload2 dX5_isWord_44 ?_
    refine N.iadd dX5_isWord_45 ?_
    refine N.iald dX5_isWord_46 mxT (by rw [nI_add]; exact in250 (by omega)) ?_
    refine N.aload1 dX5_isWord_47 ?_
    refine N.iload2 dX5_isWord_48 ?_
    refine N.callT dX5_isWord_49 t_charAt tkX5_188 (s_J0_charAt_5068e _ _ _ hj _ (vp_in_nI (n := k) (by omega) (by omega))) hj rfl rfl (Nat.le_of_ble_eq_true rfl) (Nat.le_of_ble_eq_true rfl) (Nat.zero_le _) (Nat.zero_le _) ?_
    rintro _ _ _ ⟨_, rfl, rfl, rfl, rfl⟩
    simp only [Option.toList, List.singleton_append]
    refine N.icmp_eq (tgt := 57) dX5_isWord_52 (by decide) (fun c52 => ?_) (fun c52 => ?_)
    · refine N.iinc2 dX5_isWord_57 rfl (nI_inc _) ?_
      refine N.goto (tgt := 28) dX5_isWord_60 (by decide) ?_
      exact ih (k + 1) (by omega) (by rw [← hR, wdF, if_pos c52])
    · refine N.iconst (v := 0) dX5_isWord_55 (by decide) ?_
      exact N.zret dX5_isWord_56 rfl rfl (Nat.zero_le _) (Nat.zero_le _) ⟨_, rfl, ⟨by rw [← hR, wdF, if_neg c52], rfl, rfl⟩⟩
set_option maxRecDepth 100000 in
theorem s_X5_isWord {K : Kx} (w : Wd) (b sz : Nat) (v : CV) (E : M2) (c : Cc) (S : Nat) (hS : S ≤ 250) (hz : E.1 0 = nI S) (r : Rd) (hr : I3 S r.1) (j : Nat) (hj : j < 7) : Sp K mX5_isWord 4 0 0 [.ref b, .ref (kA K j)] (putM K w b (v, rdS (em E c) r)) sz (Qi fun x' w' sz' => x' = isWF (E.2 4) r.1 j ∧ w' = (putM K w b (v, rdS (em E c) r)) ∧ sz' = sz) := by
  refine Sp.ofN [some (.ref b), some (.ref (kA K j)), none] rfl rfl rfl (Nat.le_of_ble_eq_true rfl) ?_
  refine N.aload0 dX5_isWord_0 ?_
  refine N.getf dX5_isWord_1 flX5_170 mxO rfl ?_
  refine N.iconst (v := 1) dX5_isWord_4 (by decide) ?_
  refine N.icmp_ne (tgt := 24) dX5_isWord_5 (by decide) (fun c5 => ?_) (fun c5 => ?_)
  · refine N.iconst (v := 0) dX5_isWord_24 (by decide) ?_
    exact N.zret dX5_isWord_25 rfl rfl (Nat.zero_le _) (Nat.zero_le _) ⟨_, rfl, ⟨by rw [isWF, if_neg c5], rfl, rfl⟩⟩
  · refine N.aload0 dX5_isWord_8 ?_
    refine N.getf dX5_isWord_9 flX5_161 mxO rfl ?_
    refine N.aload0 dX5_isWord_12 ?_
    refine N.getf dX5_isWord_13 flX5_164 mxO rfl ?_
    refine N.isub dX5_isWord_16 ?_
    refine N.aload1 dX5_isWord_17 ?_
    refine N.callT dX5_isWord_18 t_length tkX5_182 (s_J0_length_8abf5 _ _ _ hj) hj rfl rfl (Nat.le_of_ble_eq_true rfl) (Nat.le_of_ble_eq_true rfl) (Nat.zero_le _) (Nat.zero_le _) ?_
    rintro _ _ _ ⟨_, rfl, rfl, rfl, rfl⟩
    simp only [Option.toList, List.singleton_append]
    refine N.icmp_eq (tgt := 26) dX5_isWord_21 (by decide) (fun c21 => ?_) (fun c21 => ?_)
    · refine N.iconst (v := 0) dX5_isWord_26 (by decide) ?_
      refine N.istore2 dX5_isWord_27 rfl ?_
      exact l_X5_isWord w b _ v E c S hS hz r hr j hj (wd_len hS hr hj c21) _ (sLen j) 0 (by omega) (by rw [isWF, if_pos c5, if_pos c21])
    · refine N.iconst (v := 0) dX5_isWord_24 (by decide) ?_
      exact N.zret dX5_isWord_25 rfl rfl (Nat.zero_le _) (Nat.zero_le _) ⟨_, rfl, ⟨by rw [isWF, if_pos c5, if_neg c21], rfl, rfl⟩⟩
set_option maxRecDepth 100000 in
theorem s_X5_number {K : Kx} (w : Wd) (b sz : Nat) (v : CV) (E : M2) (c : Cc) (S : Nat) (hS : S ≤ 250) (hz : E.1 0 = nI S) (r : Rd) (hr : I3 S r.1) (i lo hi : Int32) (hi3 : vp_in i 3) : Sp K mX5_number 2 0 0 [.ref b, .int i, .int lo, .int hi] (putM K w b (v, rdS (em E c) r)) sz (Qi fun x' w' sz' => x' = (nuM (E.2 4) S r v E i lo hi).1 ∧ w' = putM K w b ((nuM (E.2 4) S r v E i lo hi).2.2.1, rdS (em (nuM (E.2 4) S r v E i lo hi).2.2.2 c) (nuM (E.2 4) S r v E i lo hi).2.1) ∧ sz' = sz) := by
  refine Sp.ofN [some (.ref b), some (.int i), some (.int lo), some (.int hi)] rfl rfl rfl (Nat.le_of_ble_eq_true rfl) ?_
  refine N.aload0 dX5_number_0 ?_
  refine N.getf dX5_number_1 flX5_170 mxO rfl ?_
  refine N.iconst (v := 2) dX5_number_4 (by decide) ?_
  refine N.icmp_ne (tgt := 23) dX5_number_5 (by decide) (fun c5 => ?_) (fun c5 => ?_)
  · refine N.aload0 dX5_number_23 ?_
    refine N.vi0 dX5_number_24 vX5_wrong lkX5_192 (s_X5_wrong _ _ _ _ E c _) mxO rfl (Nat.le_of_ble_eq_true rfl) (Nat.le_of_ble_eq_true rfl) (Nat.zero_le _) (Nat.zero_le _) ?_
    rintro _ _ _ ⟨rfl, rfl, rfl⟩
    exact N.zret dX5_number_27 rfl rfl (Nat.zero_le _) (Nat.zero_le _) ⟨_, rfl, ⟨by rw [nuM, if_neg c5]; try rfl, by rw [nuM, if_neg c5]; try rfl, rfl⟩⟩
  · refine N.aload0 dX5_number_8 ?_
    refine N.getf dX5_number_9 flX5_167 mxO rfl ?_
    refine N.i2l dX5_number_12 ?_
    refine N.iload2 dX5_number_13 ?_
    refine N.i2l dX5_number_14 ?_
    refine N.iload3 dX5_number_15 ?_
    refine N.i2l dX5_number_16 ?_
    refine N.si3 dX5_number_17 vX5_in lkX5_77 (s_X5_in _ _ _ _ _) rfl (Nat.le_of_ble_eq_true rfl) (Nat.le_of_ble_eq_true rfl) (Nat.zero_le _) (Nat.zero_le _) ?_
    rintro r1 _ _ ⟨er, rfl, rfl⟩
    obtain rfl := er.trans (inL_i rfl rfl)
    refine N.if_ne (tgt := 28) dX5_number_20 (by decide) (fun c20 => ?_) (fun c20 => ?_)
    · refine N.aload0 dX5_number_28 ?_
      refine N.getf dX5_number_29 flX5_65 mxO rfl ?_
      refine N.iload1 dX5_number_32 ?_
      refine N.aload0 dX5_number_33 ?_
      refine N.getf dX5_number_34 flX5_167 mxO rfl ?_
      refine N.iast dX5_number_37 mxD hi3 mxDK ?_
      refine N.aload0 dX5_number_38 ?_
      refine N.vv0 dX5_number_39 vX5_look lkX5_196 (s_X5_look _ _ _ _ (em (tl E i r.2) c) S hS hz _ hr.2 _ _ _) mxO rfl (Nat.le_of_ble_eq_true rfl) (Nat.le_of_ble_eq_true rfl) (Nat.zero_le _) (Nat.zero_le _) ?_
      rintro _ _ ⟨rfl, rfl⟩
      refine N.iconst (v := 1) dX5_number_42 (by decide) ?_
      exact N.zret dX5_number_43 rfl rfl (Nat.zero_le _) (Nat.zero_le _) ⟨_, rfl, ⟨by rw [nuM, if_pos c5, if_neg c20]; try rfl, by rw [nuM, if_pos c5, if_neg c20]; try rfl, rfl⟩⟩
    · refine N.aload0 dX5_number_23 ?_
      refine N.vi0 dX5_number_24 vX5_wrong lkX5_192 (s_X5_wrong _ _ _ _ E c _) mxO rfl (Nat.le_of_ble_eq_true rfl) (Nat.le_of_ble_eq_true rfl) (Nat.zero_le _) (Nat.zero_le _) ?_
      rintro _ _ _ ⟨rfl, rfl, rfl⟩
      exact N.zret dX5_number_27 rfl rfl (Nat.zero_le _) (Nat.zero_le _) ⟨_, rfl, ⟨by rw [nuM, if_pos c5, if_pos c20]; try rfl, by rw [nuM, if_pos c5, if_pos c20]; try rfl, rfl⟩⟩
set_option maxRecDepth 100000 in
theorem s_X5_tells {K : Kx} (w : Wd) (b sz : Nat) (v : CV) (E : M2) (c : Cc) (S : Nat) (hS : S ≤ 250) (hz : E.1 0 = nI S) (r : Rd) (hr : I3 S r.1) (lo hi : Int32) : Sp K mX5_tells 3 0 0 [.ref b, .int lo, .int hi] (putM K w b (v, rdS (em E c) r)) sz (Qi fun x' w' sz' => x' = (teM (E.2 4) S r v E lo hi).1 ∧ w' = putM K w b ((teM (E.2 4) S r v E lo hi).2.2.1, rdS (em (teM (E.2 4) S r v E lo hi).2.2.2 c) (teM (E.2 4) S r v E lo hi).2.1) ∧ sz' = sz) := by
  refine Sp.ofN [some (.ref b), some (.int lo), some (.int hi)] rfl rfl rfl (Nat.le_of_ble_eq_true rfl) ?_
  refine N.aload0 dX5_tells_0 ?_
  refine N.vv0 dX5_tells_1 vX5_look lkX5_196 (s_X5_look _ _ _ _ (em E c) S hS hz _ hr.2 _ _ _) mxO rfl (Nat.le_of_ble_eq_true rfl) (Nat.le_of_ble_eq_true rfl) (Nat.zero_le _) (Nat.zero_le _) ?_
  rintro _ _ ⟨rfl, rfl⟩
  refine N.aload0 dX5_tells_4 ?_
  refine N.iconst (v := 0) dX5_tells_5 (by decide) ?_
  refine N.iload1 dX5_tells_6 ?_
  refine N.iload2 dX5_tells_7 ?_
  refine N.vi3 dX5_tells_8 vX5_number lkX5_199 (s_X5_number _ _ _ _ E c S hS hz (lk (E.2 4) S r.1.2.1) (lk_ok hr.2) _ _ _ (vp_in_nI (n := 0) (by decide) (by decide))) mxO rfl (Nat.le_of_ble_eq_true rfl) (Nat.le_of_ble_eq_true rfl) (Nat.zero_le _) (Nat.zero_le _) ?_
  rintro _ _ _ ⟨rfl, rfl, rfl⟩
  exact N.zret dX5_tells_11 rfl (nar01 (ok_nu (lk_ok hr.2)).1) (Nat.zero_le _) (Nat.zero_le _) ⟨_, rfl, ⟨rfl, rfl, rfl⟩⟩
set_option maxRecDepth 100000 in
theorem s_X5_asks {K : Kx} (w : Wd) (b sz : Nat) (v : CV) (E : M2) (c : Cc) (S : Nat) (hS : S ≤ 250) (hz : E.1 0 = nI S) (r : Rd) (hr : I3 S r.1) (x : Int32) : Sp K mX5_asks 2 0 0 [.ref b, .int x] (putM K w b (v, rdS (em E c) r)) sz (Qi fun x' w' sz' => x' = (asM (E.2 4) S r v E x).1 ∧ w' = putM K w b ((asM (E.2 4) S r v E x).2.2.1, rdS (em (asM (E.2 4) S r v E x).2.2.2 c) (asM (E.2 4) S r v E x).2.1) ∧ sz' = sz) := by
  refine Sp.ofN [some (.ref b), some (.int x)] rfl rfl rfl (Nat.le_of_ble_eq_true rfl) ?_
  refine N.aload0 dX5_asks_0 ?_
  refine N.vv0 dX5_asks_1 vX5_look lkX5_196 (s_X5_look _ _ _ _ (em E c) S hS hz _ hr.2 _ _ _) mxO rfl (Nat.le_of_ble_eq_true rfl) (Nat.le_of_ble_eq_true rfl) (Nat.zero_le _) (Nat.zero_le _) ?_
  rintro _ _ ⟨rfl, rfl⟩
  have hr1 := lk_ok (f := (E.2 4)) hr.2
  generalize hlk : lk (E.2 4) S r.1.2.1 = r1 at hr1 ⊢
  refine N.aload0 dX5_asks_4 ?_
  refine N.getf dX5_asks_5 flX5_170 mxO rfl ?_
  refine N.iconst (v := 2) dX5_asks_8 (by decide) ?_
  refine N.icmp_ne (tgt := 23) dX5_asks_9 (by decide) (fun c9 => ?_) (fun c9 => ?_)
  · refine N.aload0 dX5_asks_23 ?_
    refine N.vi0 dX5_asks_24 vX5_wrong lkX5_192 (s_X5_wrong _ _ _ _ E c _) mxO rfl (Nat.le_of_ble_eq_true rfl) (Nat.le_of_ble_eq_true rfl) (Nat.zero_le _) (Nat.zero_le _) ?_
    rintro _ _ _ ⟨rfl, rfl, rfl⟩
    exact N.zret dX5_asks_27 rfl rfl (Nat.zero_le _) (Nat.zero_le _) ⟨_, rfl, ⟨by rw [asM, hlk, as1, if_neg c9]; try rfl, by rw [asM, hlk, as1, if_neg c9]; try rfl, rfl⟩⟩
  · refine N.iload1 dX5_asks_12 ?_
    refine N.aload0 dX5_asks_13 ?_
    refine N.getf dX5_asks_14 flX5_167 mxO rfl ?_
    refine N.si2 dX5_asks_17 vX5_mayAsk lkX5_149 (s_X5_mayAsk _ _ _ _) rfl (Nat.le_of_ble_eq_true rfl) (Nat.le_of_ble_eq_true rfl) (Nat.zero_le _) (Nat.zero_le _) ?_
    rintro _ _ _ ⟨rfl, rfl, rfl⟩
    refine N.if_ne (tgt := 28) dX5_asks_20 (by decide) (fun c20 => ?_) (fun c20 => ?_)
    · refine N.aload0 dX5_asks_28 ?_
      refine N.iload1 dX5_asks_29 ?_
      refine N.aload0 dX5_asks_30 ?_
      refine N.getf dX5_asks_31 flX5_167 mxO rfl ?_
      refine N.vv2 dX5_asks_34 vX5_becomes lkX5_152 (s_X5_becomes _ _ _ _ _ _ _) mxO rfl (Nat.le_of_ble_eq_true rfl) (Nat.le_of_ble_eq_true rfl) (Nat.zero_le _) (Nat.zero_le _) ?_
      rintro _ _ ⟨rfl, rfl⟩
      refine N.aload0 dX5_asks_37 ?_
      refine N.vv0 dX5_asks_38 vX5_look lkX5_196 (s_X5_look _ _ _ _ (em E c) S hS hz _ hr1.2 _ _ _) mxO rfl (Nat.le_of_ble_eq_true rfl) (Nat.le_of_ble_eq_true rfl) (Nat.zero_le _) (Nat.zero_le _) ?_
      rintro _ _ ⟨rfl, rfl⟩
      refine N.iconst (v := 1) dX5_asks_41 (by decide) ?_
      exact N.zret dX5_asks_42 rfl rfl (Nat.zero_le _) (Nat.zero_le _) ⟨_, rfl, ⟨by rw [asM, hlk, as1, if_pos c9, if_neg c20]; try rfl, by rw [asM, hlk, as1, if_pos c9, if_neg c20]; try rfl, rfl⟩⟩
    · refine N.aload0 dX5_asks_23 ?_
      refine N.vi0 dX5_asks_24 vX5_wrong lkX5_192 (s_X5_wrong _ _ _ _ E c _) mxO rfl (Nat.le_of_ble_eq_true rfl) (Nat.le_of_ble_eq_true rfl) (Nat.zero_le _) (Nat.zero_le _) ?_
      rintro _ _ _ ⟨rfl, rfl, rfl⟩
      exact N.zret dX5_asks_27 rfl rfl (Nat.zero_le _) (Nat.zero_le _) ⟨_, rfl, ⟨by rw [asM, hlk, as1, if_pos c9, if_pos c20]; try rfl, by rw [asM, hlk, as1, if_pos c9, if_pos c20]; try rfl, rfl⟩⟩
