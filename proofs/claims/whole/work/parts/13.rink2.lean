/-! Rink: the loops -/
def wk : List (Option Value) → List (Option Value) → Prop
  | [], [] => True
  | none :: t, _ :: t' => wk t t'
  | some a :: t, x :: t' => x = some a ∧ wk t t'
  | _, _ => False
theorem wk_get : ∀ (L' L : List (Option Value)), wk L' L → L'.length = L.length ∧ ∀ (i : Nat) (v : Value), L'[i]? = some (some v) → L[i]? = some (some v)
  | [], [], _ => ⟨rfl, fun i v h => by simp at h⟩
  | [], x :: t, h => h.elim
  | none :: t, [], h => h.elim
  | none :: t, x :: t', h => by
    obtain ⟨h1, h2⟩ := wk_get t t' h
    refine ⟨by simp [h1], fun i v hi => ?_⟩
    cases i with
    | zero => simp at hi
    | succ i => simpa using h2 i v (by simpa using hi)
  | some a :: t, [], h => h.elim
  | some a :: t, x :: t', h => by
    obtain ⟨h0, h⟩ := h
    obtain ⟨h1, h2⟩ := wk_get t t' h
    refine ⟨by simp [h1], fun i v hi => ?_⟩
    cases i with
    | zero => simp at hi; simp [h0, hi]
    | succ i => simpa using h2 i v (by simpa using hi)
section WK
variable {K : Kx} {M : Md} {d mc ms : Nat} {Q : Qx} {pc : Nat} {L : List (Option Value)} {st : List Value} {w : Wd} {sz cc ss : Nat}
/-- less need be known of the locals -/
theorem N.wk {L' : List (Option Value)} (h : wk L' L) (k : N K M d mc ms Q pc L' st w sz cc ss) : N K M d mc ms Q pc L st w sz cc ss := by
  intro p e s m args below meth c H locs ls C hW hF hL hl
  obtain ⟨h1, h2⟩ := wk_get L' L h
  refine k p e s m args below meth c H locs ls C hW hF (h1.trans hL) (lv_mono hl fun q hq => ?_)
  obtain ⟨i, e1, e2⟩ := lpr_of _ _ _ hq
  have := lpr_mem L 0 i q.2 (h2 i q.2 e2)
  rw [show q = (0 + i, q.2) from Prod.ext e1 rfl]
  exact this
/-- another picture of the same heap -/
theorem N.hw {w' : Wd} (h : ∀ H, HW K w sz H → HW K w' sz H) (k : N K M d mc ms Q pc L st w' sz cc ss) : N K M d mc ms Q pc L st w sz cc ss := by
  intro p e s m args below meth c H locs ls C hW hF hL hl
  exact k p e s m args below meth c H locs ls C (h H hW) hF hL hl
end WK
theorem dec1 (x : Int32) : x + Int32.ofInt (-1) = x + (-1) := rfl
theorem tireTo_1 (n : Int32) (v : CV) : ∀ k, (tireTo n v k).1 = v.1
  | 0 => rfl
  | k + 1 => by
    rw [tireTo]
    split
    · exact tireTo_1 n v k
    · exact tireTo_1 n v k
theorem restTo_1 (n : Int32) (v : CV) : ∀ k, (restTo n v k).1 = v.1
  | 0 => rfl
  | k + 1 => by
    rw [restTo]
    split
    · exact restTo_1 n v k
    · exact restTo_1 n v k
theorem tireV_1 (n : Int32) (v : CV) : (tireV n v).1 = v.1 := tireTo_1 n v _
theorem restV_1 (n : Int32) (v : CV) : (restV n v).1 = v.1 := restTo_1 n v _
theorem comeV_0 (n : Int32) (v : CV) : (comeV n v).1 0 = v.1 0 := by
  unfold comeV
  split <;> simp [upd]
theorem okP.tire {v : CV} (h : okP v) (n : Int32) : okP (tireV n v) := by unfold okP; rw [tireV_1]; exact h
theorem okP.rest {v : CV} (h : okP v) (n : Int32) : okP (restV n v) := by unfold okP; rw [restV_1]; exact h
theorem okP.come {v : CV} (h : okP v) (n : Int32) : okP (comeV n v) := by unfold okP; rw [comeV_0]; exact h
theorem okP.ours {v : CV} (h : okP v) : ∀ k, okP (oursTo v k).1
  | 0 => h
  | k + 1 => ((okP.ours h k).tire 1).come 1
theorem okP.sec {v : CV} (h : okP v) : okP (secV v) := by
  unfold okP secV
  split <;> simpa [upd, okP] using h
theorem okP.draw {v : CV} (h : okP v) : okP (drawV v) := by
  unfold okP drawV
  simpa [upd, okP] using h
theorem okP.score {v : CV} (h : okP v) (a b c : Int32) : okP (scoreV v a b c) := by
  unfold okP scoreV
  split
  · split <;> simpa [upd, okP] using h
  · exact h
theorem okP.play1 {v : CV} (h : okP v) : okP (playV1 v) := ((((h.tire 1).rest 1).sec.come 1).draw).score _ _ _
theorem okP.play {v : CV} (h : okP v) : ∀ k, okP (playTo v k)
  | 0 => h
  | k + 1 => (okP.play h k).play1
set_option maxRecDepth 100000 in
theorem l_X1_tiredTogether {K : Kx} (w : Wd) (b sz : Nat) (v : CV) (set : Int32)   (P : Nat) (hP : v.1 0 = nI P) (hP10 : P ≤ 10) : ∀ nn k, k + nn = P → N K mX1_tiredTogether 1 0 0 (Qi fun r w' sz' => r = (tiredF v set) ∧ w' = putR K w b v ∧ sz' = sz) 4 [some (.ref b), some (.int set), some (.int (sumTo (fun j => bitF set (nI j) * v.2 3 (nI j).toNatClampNeg) k)), some (.int (nI k))] [] (putR K w b v) sz 0 0 := by
  intro nn
  induction nn with
  | zero =>
    intro k hk
    have hnp := np_of hP hP10
    obtain rfl : k = P := by omega
    refine N.iload3 dX1_tiredTogether_4 ?_
    refine N.aload0 dX1_tiredTogether_5 ?_
    refine N.getf dX1_tiredTogether_6 flX1_27 rO rfl ?_
    refine N.icmp_ge (tgt := 33) dX1_tiredTogether_9 (by decide) (fun c9 => ?_) (fun c9 => absurd (pl_ge (hP) (by omega) (by omega)) c9)
    refine N.iload2 dX1_tiredTogether_33 ?_
    exact N.iret dX1_tiredTogether_34 rfl (Nat.zero_le _) (Nat.zero_le _) ⟨_, rfl, ⟨by unfold tiredF; rw [hnp], rfl, rfl⟩⟩
  | succ nn ih =>
    intro k hk
    have hk10 : k < 10 := by omega
    refine N.iload3 dX1_tiredTogether_4 ?_
    refine N.aload0 dX1_tiredTogether_5 ?_
    refine N.getf dX1_tiredTogether_6 flX1_27 rO rfl ?_
    refine N.icmp_ge (tgt := 33) dX1_tiredTogether_9 (by decide) (fun c9 => absurd c9 (pl_nge (hP) (by omega) hP10)) (fun c9 => ?_)
    refine N.iload2 dX1_tiredTogether_12 ?_
    refine N.iload1 dX1_tiredTogether_13 ?_
    refine N.iload3 dX1_tiredTogether_14 ?_
    refine N.si2 dX1_tiredTogether_15 vX4_bit lkX1_92 (s_X4_bit _ _ _ _) rfl (Nat.le_of_ble_eq_true rfl) (Nat.le_of_ble_eq_true rfl) (Nat.zero_le _) (Nat.zero_le _) ?_
    rintro _ _ _ ⟨rfl, rfl, rfl⟩
    refine N.aload0 dX1_tiredTogether_18 ?_
    refine N.getf dX1_tiredTogether_19 flX1_21 rO rfl ?_
    refine N.iload3 dX1_tiredTogether_22 ?_
    refine N.iald dX1_tiredTogether_23 rA3 (in10 hk10) ?_
    refine N.imul dX1_tiredTogether_24 ?_
    refine N.iadd dX1_tiredTogether_25 ?_
    refine N.istore2 dX1_tiredTogether_26 rfl ?_
    refine N.iinc3 dX1_tiredTogether_27 rfl (nI_inc k) ?_
    refine N.goto (tgt := 4) dX1_tiredTogether_30 (by decide) ?_
    exact N.wk (by simp [wk, sumTo]) (ih (k + 1) (by omega))
set_option maxRecDepth 100000 in
theorem s_X1_tiredTogether {K : Kx} (w : Wd) (b sz : Nat) (v : CV) (set : Int32)  (h : okP v) : Sp K mX1_tiredTogether 1 0 0 [.ref b, .int set] (putR K w b v) sz (Qi fun r w' sz' => r = (tiredF v set) ∧ w' = putR K w b v ∧ sz' = sz) := by
  refine Sp.ofN [some (.ref b), some (.int set), none, none] rfl rfl rfl (Nat.le_of_ble_eq_true rfl) ?_
  obtain ⟨P, hP10, hP⟩ := h
  refine N.iconst (v := 0) dX1_tiredTogether_0 (by decide) ?_
  refine N.istore2 dX1_tiredTogether_1 rfl ?_
  refine N.iconst (v := 0) dX1_tiredTogether_2 (by decide) ?_
  refine N.istore3 dX1_tiredTogether_3 rfl ?_
  exact N.wk (by simp [wk, nI_0, sumTo, pwTo]) (l_X1_tiredTogether w b sz v set   P hP hP10 P 0 (by omega))
set_option maxRecDepth 100000 in
theorem l_X1_skillTogether {K : Kx} (w : Wd) (b sz : Nat) (v : CV) (set : Int32)   (P : Nat) (hP : v.1 0 = nI P) (hP10 : P ≤ 10) : ∀ nn k, k + nn = P → N K mX1_skillTogether 1 0 0 (Qi fun r w' sz' => r = (skillF v set) ∧ w' = putR K w b v ∧ sz' = sz) 4 [some (.ref b), some (.int set), some (.int (sumTo (fun j => bitF set (nI j) * v.2 1 (nI j).toNatClampNeg) k)), some (.int (nI k))] [] (putR K w b v) sz 0 0 := by
  intro nn
  induction nn with
  | zero =>
    intro k hk
    have hnp := np_of hP hP10
    obtain rfl : k = P := by omega
    refine N.iload3 dX1_skillTogether_4 ?_
    refine N.aload0 dX1_skillTogether_5 ?_
    refine N.getf dX1_skillTogether_6 flX1_27 rO rfl ?_
    refine N.icmp_ge (tgt := 33) dX1_skillTogether_9 (by decide) (fun c9 => ?_) (fun c9 => absurd (pl_ge (hP) (by omega) (by omega)) c9)
    refine N.iload2 dX1_skillTogether_33 ?_
    exact N.iret dX1_skillTogether_34 rfl (Nat.zero_le _) (Nat.zero_le _) ⟨_, rfl, ⟨by unfold skillF; rw [hnp], rfl, rfl⟩⟩
  | succ nn ih =>
    intro k hk
    have hk10 : k < 10 := by omega
    refine N.iload3 dX1_skillTogether_4 ?_
    refine N.aload0 dX1_skillTogether_5 ?_
    refine N.getf dX1_skillTogether_6 flX1_27 rO rfl ?_
    refine N.icmp_ge (tgt := 33) dX1_skillTogether_9 (by decide) (fun c9 => absurd c9 (pl_nge (hP) (by omega) hP10)) (fun c9 => ?_)
    refine N.iload2 dX1_skillTogether_12 ?_
    refine N.iload1 dX1_skillTogether_13 ?_
    refine N.iload3 dX1_skillTogether_14 ?_
    refine N.si2 dX1_skillTogether_15 vX4_bit lkX1_92 (s_X4_bit _ _ _ _) rfl (Nat.le_of_ble_eq_true rfl) (Nat.le_of_ble_eq_true rfl) (Nat.zero_le _) (Nat.zero_le _) ?_
    rintro _ _ _ ⟨rfl, rfl, rfl⟩
    refine N.aload0 dX1_skillTogether_18 ?_
    refine N.getf dX1_skillTogether_19 flX1_15 rO rfl ?_
    refine N.iload3 dX1_skillTogether_22 ?_
    refine N.iald dX1_skillTogether_23 rA1 (in10 hk10) ?_
    refine N.imul dX1_skillTogether_24 ?_
    refine N.iadd dX1_skillTogether_25 ?_
    refine N.istore2 dX1_skillTogether_26 rfl ?_
    refine N.iinc3 dX1_skillTogether_27 rfl (nI_inc k) ?_
    refine N.goto (tgt := 4) dX1_skillTogether_30 (by decide) ?_
    exact N.wk (by simp [wk, sumTo]) (ih (k + 1) (by omega))
set_option maxRecDepth 100000 in
theorem s_X1_skillTogether {K : Kx} (w : Wd) (b sz : Nat) (v : CV) (set : Int32)  (h : okP v) : Sp K mX1_skillTogether 1 0 0 [.ref b, .int set] (putR K w b v) sz (Qi fun r w' sz' => r = (skillF v set) ∧ w' = putR K w b v ∧ sz' = sz) := by
  refine Sp.ofN [some (.ref b), some (.int set), none, none] rfl rfl rfl (Nat.le_of_ble_eq_true rfl) ?_
  obtain ⟨P, hP10, hP⟩ := h
  refine N.iconst (v := 0) dX1_skillTogether_0 (by decide) ?_
  refine N.istore2 dX1_skillTogether_1 rfl ?_
  refine N.iconst (v := 0) dX1_skillTogether_2 (by decide) ?_
  refine N.istore3 dX1_skillTogether_3 rfl ?_
  exact N.wk (by simp [wk, nI_0, sumTo, pwTo]) (l_X1_skillTogether w b sz v set   P hP hP10 P 0 (by omega))
set_option maxRecDepth 100000 in
theorem l_X1_powerOfAll {K : Kx} (w : Wd) (b sz : Nat) (v : CV)   (P : Nat) (hP : v.1 0 = nI P) (hP10 : P ≤ 10) : ∀ nn k, k + nn = P → N K mX1_powerOfAll 3 0 0 (Qi fun r w' sz' => r = (powAll v) ∧ w' = putR K w b v ∧ sz' = sz) 6 [some (.ref b), some (.int (pwTo v k).1), some (.int (pwTo v k).2), some (.int (nI k))] [] (putR K w b v) sz 0 0 := by
  intro nn
  induction nn with
  | zero =>
    intro k hk
    have hnp := np_of hP hP10
    obtain rfl : k = P := by omega
    refine N.iload3 dX1_powerOfAll_6 ?_
    refine N.aload0 dX1_powerOfAll_7 ?_
    refine N.getf dX1_powerOfAll_8 flX1_27 rO rfl ?_
    refine N.icmp_ge (tgt := 63) dX1_powerOfAll_11 (by decide) (fun c11 => ?_) (fun c11 => absurd (pl_ge (hP) (by omega) (by omega)) c11)
    refine N.iload1 dX1_powerOfAll_63 ?_
    refine N.iload2 dX1_powerOfAll_64 ?_
    refine N.iconst (v := 2) dX1_powerOfAll_65 (by decide) ?_
    refine N.idiv dX1_powerOfAll_66 (by decide) ?_
    refine N.iadd dX1_powerOfAll_67 ?_
    refine N.aload0 dX1_powerOfAll_68 ?_
    refine N.getf dX1_powerOfAll_69 flX1_49 rO rfl ?_
    refine N.if_ne (tgt := 80) dX1_powerOfAll_72 (by decide) (fun c72 => ?_) (fun c72 => ?_)
    · refine N.iconst (v := 0) dX1_powerOfAll_80 (by decide) ?_
      refine N.iadd dX1_powerOfAll_81 ?_
      exact N.iret dX1_powerOfAll_82 rfl (Nat.zero_le _) (Nat.zero_le _) ⟨_, rfl, ⟨by unfold powAll; rw [hnp]; first | rw [if_pos c72] | rw [if_neg c72], rfl, rfl⟩⟩
    · refine N.bipush (v := 30) dX1_powerOfAll_75 (by decide) ?_
      refine N.goto (tgt := 81) dX1_powerOfAll_77 (by decide) ?_
      refine N.iadd dX1_powerOfAll_81 ?_
      exact N.iret dX1_powerOfAll_82 rfl (Nat.zero_le _) (Nat.zero_le _) ⟨_, rfl, ⟨by unfold powAll; rw [hnp]; first | rw [if_pos c72] | rw [if_neg c72], rfl, rfl⟩⟩
  | succ nn ih =>
    intro k hk
    have hk10 : k < 10 := by omega
    refine N.iload3 dX1_powerOfAll_6 ?_
    refine N.aload0 dX1_powerOfAll_7 ?_
    refine N.getf dX1_powerOfAll_8 flX1_27 rO rfl ?_
    refine N.icmp_ge (tgt := 63) dX1_powerOfAll_11 (by decide) (fun c11 => absurd c11 (pl_nge (hP) (by omega) hP10)) (fun c11 => ?_)
    refine N.aload0 dX1_powerOfAll_14 ?_
    refine N.getf dX1_powerOfAll_15 flX1_34 rO rfl ?_
    refine N.iload3 dX1_powerOfAll_18 ?_
    refine N.si2 dX1_powerOfAll_19 vX4_bit lkX1_92 (s_X4_bit _ _ _ _) rfl (Nat.le_of_ble_eq_true rfl) (Nat.le_of_ble_eq_true rfl) (Nat.zero_le _) (Nat.zero_le _) ?_
    rintro _ _ _ ⟨rfl, rfl, rfl⟩
    refine N.iconst (v := 1) dX1_powerOfAll_22 (by decide) ?_
    refine N.icmp_ne (tgt := 37) dX1_powerOfAll_23 (by decide) (fun c23 => ?_) (fun c23 => ?_)
    · refine N.aload0 dX1_powerOfAll_37 ?_
      refine N.getf dX1_powerOfAll_38 flX1_31 rO rfl ?_
      refine N.iload3 dX1_powerOfAll_41 ?_
      refine N.si2 dX1_powerOfAll_42 vX4_bit lkX1_92 (s_X4_bit _ _ _ _) rfl (Nat.le_of_ble_eq_true rfl) (Nat.le_of_ble_eq_true rfl) (Nat.zero_le _) (Nat.zero_le _) ?_
      rintro _ _ _ ⟨rfl, rfl, rfl⟩
      refine N.iconst (v := 1) dX1_powerOfAll_45 (by decide) ?_
      refine N.icmp_ne (tgt := 57) dX1_powerOfAll_46 (by decide) (fun c46 => ?_) (fun c46 => ?_)
      · refine N.iinc3 dX1_powerOfAll_57 rfl (nI_inc k) ?_
        refine N.goto (tgt := 6) dX1_powerOfAll_60 (by decide) ?_
        exact N.wk (by first | (rw [pwTo, if_pos c23]; exact ⟨rfl, rfl, rfl, rfl, trivial⟩) | (rw [pwTo, if_neg c23, if_pos c46]; exact ⟨rfl, rfl, rfl, rfl, trivial⟩) | (rw [pwTo, if_neg c23, if_neg c46]; exact ⟨rfl, rfl, rfl, rfl, trivial⟩)) (ih (k + 1) (by omega))
      · refine N.iload1 dX1_powerOfAll_49 ?_
        refine N.aload0 dX1_powerOfAll_50 ?_
        refine N.iload3 dX1_powerOfAll_51 ?_
        refine N.vi1 dX1_powerOfAll_52 vX1_powerOf lkX1_110 (s_X1_powerOf _ _ _ _ _ (in10 hk10)) rO rfl (Nat.le_of_ble_eq_true rfl) (Nat.le_of_ble_eq_true rfl) (Nat.zero_le _) (Nat.zero_le _) ?_
        rintro _ _ _ ⟨rfl, rfl, rfl⟩
        refine N.iadd dX1_powerOfAll_55 ?_
        refine N.istore1 dX1_powerOfAll_56 rfl ?_
        refine N.iinc3 dX1_powerOfAll_57 rfl (nI_inc k) ?_
        refine N.goto (tgt := 6) dX1_powerOfAll_60 (by decide) ?_
        exact N.wk (by first | (rw [pwTo, if_pos c23]; exact ⟨rfl, rfl, rfl, rfl, trivial⟩) | (rw [pwTo, if_neg c23, if_pos c46]; exact ⟨rfl, rfl, rfl, rfl, trivial⟩) | (rw [pwTo, if_neg c23, if_neg c46]; exact ⟨rfl, rfl, rfl, rfl, trivial⟩)) (ih (k + 1) (by omega))
    · refine N.iload2 dX1_powerOfAll_26 ?_
      refine N.aload0 dX1_powerOfAll_27 ?_
      refine N.iload3 dX1_powerOfAll_28 ?_
      refine N.vi1 dX1_powerOfAll_29 vX1_powerOf lkX1_110 (s_X1_powerOf _ _ _ _ _ (in10 hk10)) rO rfl (Nat.le_of_ble_eq_true rfl) (Nat.le_of_ble_eq_true rfl) (Nat.zero_le _) (Nat.zero_le _) ?_
      rintro _ _ _ ⟨rfl, rfl, rfl⟩
      refine N.iadd dX1_powerOfAll_32 ?_
      refine N.istore2 dX1_powerOfAll_33 rfl ?_
      refine N.goto (tgt := 57) dX1_powerOfAll_34 (by decide) ?_
      refine N.iinc3 dX1_powerOfAll_57 rfl (nI_inc k) ?_
      refine N.goto (tgt := 6) dX1_powerOfAll_60 (by decide) ?_
      exact N.wk (by first | (rw [pwTo, if_pos c23]; exact ⟨rfl, rfl, rfl, rfl, trivial⟩) | (rw [pwTo, if_neg c23, if_pos c46]; exact ⟨rfl, rfl, rfl, rfl, trivial⟩) | (rw [pwTo, if_neg c23, if_neg c46]; exact ⟨rfl, rfl, rfl, rfl, trivial⟩)) (ih (k + 1) (by omega))
set_option maxRecDepth 100000 in
theorem s_X1_powerOfAll {K : Kx} (w : Wd) (b sz : Nat) (v : CV)  (h : okP v) : Sp K mX1_powerOfAll 3 0 0 [.ref b] (putR K w b v) sz (Qi fun r w' sz' => r = (powAll v) ∧ w' = putR K w b v ∧ sz' = sz) := by
  refine Sp.ofN [some (.ref b), none, none, none] rfl rfl rfl (Nat.le_of_ble_eq_true rfl) ?_
  obtain ⟨P, hP10, hP⟩ := h
  refine N.iconst (v := 0) dX1_powerOfAll_0 (by decide) ?_
  refine N.istore1 dX1_powerOfAll_1 rfl ?_
  refine N.iconst (v := 0) dX1_powerOfAll_2 (by decide) ?_
  refine N.istore2 dX1_powerOfAll_3 rfl ?_
  refine N.iconst (v := 0) dX1_powerOfAll_4 (by decide) ?_
  refine N.istore3 dX1_powerOfAll_5 rfl ?_
  exact N.wk (by simp [wk, nI_0, sumTo, pwTo]) (l_X1_powerOfAll w b sz v    P hP hP10 P 0 (by omega))
set_option maxRecDepth 100000 in
theorem l_X1_wayTo {K : Kx} (w : Wd) (b sz : Nat) (v : CV) (l : Int32) (hp : vp_in l 4) (hne : ¬ v.2 4 l.toNatClampNeg &&& notI (v.1 1) = 0) (P : Nat) (hP : v.1 0 = nI P) (hP10 : P ≤ 10) : ∀ nn k, k + nn = P → N K mX1_wayTo 2 0 0 (Qi fun r w' sz' => r = (wayF v l) ∧ w' = putR K w b v ∧ sz' = sz) 46 [some (.ref b), some (.int l), some (.int (v.2 4 l.toNatClampNeg)), some (.int (wyTo v l.toNatClampNeg k)), some (.int (nI k))] [] (putR K w b v) sz 0 0 := by
  intro nn
  induction nn with
  | zero =>
    intro k hk
    have hnp := np_of hP hP10
    obtain rfl : k = P := by omega
    refine N.iload4 dX1_wayTo_46 ?_
    refine N.aload0 dX1_wayTo_48 ?_
    refine N.getf dX1_wayTo_49 flX1_27 rO rfl ?_
    refine N.icmp_ge (tgt := 95) dX1_wayTo_52 (by decide) (fun c52 => ?_) (fun c52 => absurd (pl_ge (hP) (by omega) (by omega)) c52)
    refine N.iconst (v := 1) dX1_wayTo_95 (by decide) ?_
    refine N.iload3 dX1_wayTo_96 ?_
    refine N.mmax dX1_wayTo_97 mkX1_117 (Nat.le_of_ble_eq_true rfl) (Nat.le_of_ble_eq_true rfl) (Nat.zero_le _) (Nat.zero_le _) ?_
    exact N.iret dX1_wayTo_100 rfl (Nat.zero_le _) (Nat.zero_le _) ⟨_, rfl, ⟨by unfold wayF; rw [if_neg hne, hnp], rfl, rfl⟩⟩
  | succ nn ih =>
    intro k hk
    have hk10 : k < 10 := by omega
    refine N.iload4 dX1_wayTo_46 ?_
    refine N.aload0 dX1_wayTo_48 ?_
    refine N.getf dX1_wayTo_49 flX1_27 rO rfl ?_
    refine N.icmp_ge (tgt := 95) dX1_wayTo_52 (by decide) (fun c52 => absurd c52 (pl_nge (hP) (by omega) hP10)) (fun c52 => ?_)
    refine N.aload0 dX1_wayTo_55 ?_
    refine N.getf dX1_wayTo_56 flX1_31 rO rfl ?_
    refine N.iload2 dX1_wayTo_59 ?_
    refine N.iconst (v := -1) dX1_wayTo_60 (by decide) ?_
    refine N.ixor dX1_wayTo_61 ?_
    refine N.iand dX1_wayTo_62 ?_
    refine N.iload4 dX1_wayTo_63 ?_
    refine N.si2 dX1_wayTo_65 vX4_bit lkX1_92 (s_X4_bit _ _ _ _) rfl (Nat.le_of_ble_eq_true rfl) (Nat.le_of_ble_eq_true rfl) (Nat.zero_le _) (Nat.zero_le _) ?_
    rintro _ _ _ ⟨rfl, rfl, rfl⟩
    refine N.iconst (v := 1) dX1_wayTo_68 (by decide) ?_
    refine N.icmp_ne (tgt := 89) dX1_wayTo_69 (by decide) (fun c69 => ?_) (fun c69 => ?_)
    · refine N.iinc4 dX1_wayTo_89 rfl (nI_inc k) ?_
      refine N.goto (tgt := 46) dX1_wayTo_92 (by decide) ?_
      exact N.wk (by rw [wyTo, if_neg (fun q => c69 q.1)]; exact ⟨rfl, rfl, rfl, rfl, rfl, trivial⟩) (ih (k + 1) (by omega))
    · refine N.aload0 dX1_wayTo_72 ?_
      refine N.getf dX1_wayTo_73 flX1_9 rO rfl ?_
      refine N.iload4 dX1_wayTo_76 ?_
      refine N.iald dX1_wayTo_78 rA0 (in10 hk10) ?_
      refine N.iconst (v := 4) dX1_wayTo_79 (by decide) ?_
      refine N.si2 dX1_wayTo_80 vX4_isUnder lkX1_113 (s_X4_isUnder _ _ _ _) rfl (Nat.le_of_ble_eq_true rfl) (Nat.le_of_ble_eq_true rfl) (Nat.zero_le _) (Nat.zero_le _) ?_
      rintro _ _ _ ⟨rfl, rfl, rfl⟩
      refine N.if_eq (tgt := 89) dX1_wayTo_83 (by decide) (fun c83 => ?_) (fun c83 => ?_)
      · refine N.iinc4 dX1_wayTo_89 rfl (nI_inc k) ?_
        refine N.goto (tgt := 46) dX1_wayTo_92 (by decide) ?_
        exact N.wk (by rw [wyTo, if_neg (fun q => q.2 c83)]; exact ⟨rfl, rfl, rfl, rfl, rfl, trivial⟩) (ih (k + 1) (by omega))
      · refine N.iinc3 dX1_wayTo_86 rfl (dec1 _) ?_
        refine N.iinc4 dX1_wayTo_89 rfl (nI_inc k) ?_
        refine N.goto (tgt := 46) dX1_wayTo_92 (by decide) ?_
        exact N.wk (by rw [wyTo, if_pos ⟨c69, c83⟩]; exact ⟨rfl, rfl, rfl, rfl, rfl, trivial⟩) (ih (k + 1) (by omega))
set_option maxRecDepth 100000 in
theorem s_X1_wayTo {K : Kx} (w : Wd) (b sz : Nat) (v : CV) (l : Int32) (hp : vp_in l 4) (h : okP v) : Sp K mX1_wayTo 2 0 0 [.ref b, .int l] (putR K w b v) sz (Qi fun r w' sz' => r = (wayF v l) ∧ w' = putR K w b v ∧ sz' = sz) := by
  refine Sp.ofN [some (.ref b), some (.int l), none, none, none] rfl rfl rfl (Nat.le_of_ble_eq_true rfl) ?_
  obtain ⟨P, hP10, hP⟩ := h
  refine N.aload0 dX1_wayTo_0 ?_
  refine N.getf dX1_wayTo_1 flX1_24 rO rfl ?_
  refine N.iload1 dX1_wayTo_4 ?_
  refine N.iald dX1_wayTo_5 rA4 hp ?_
  refine N.istore2 dX1_wayTo_6 rfl ?_
  refine N.iload2 dX1_wayTo_7 ?_
  refine N.aload0 dX1_wayTo_8 ?_
  refine N.getf dX1_wayTo_9 flX1_31 rO rfl ?_
  refine N.iconst (v := -1) dX1_wayTo_12 (by decide) ?_
  refine N.ixor dX1_wayTo_13 ?_
  refine N.iand dX1_wayTo_14 ?_
  refine N.if_ne (tgt := 20) dX1_wayTo_15 (by decide) (fun c15 => ?_) (fun c15 => ?_)
  · refine N.iconst (v := 3) dX1_wayTo_20 (by decide) ?_
    refine N.iconst (v := 2) dX1_wayTo_21 (by decide) ?_
    refine N.aload0 dX1_wayTo_22 ?_
    refine N.getf dX1_wayTo_23 flX1_43 rO rfl ?_
    refine N.imul dX1_wayTo_26 ?_
    refine N.iadd dX1_wayTo_27 ?_
    refine N.aload0 dX1_wayTo_28 ?_
    refine N.getf dX1_wayTo_29 flX1_40 rO rfl ?_
    refine N.iconst (v := 2) dX1_wayTo_32 (by decide) ?_
    refine N.icmp_ne (tgt := 40) dX1_wayTo_33 (by decide) (fun c33 => ?_) (fun c33 => ?_)
    · refine N.iconst (v := 0) dX1_wayTo_40 (by decide) ?_
      refine N.isub dX1_wayTo_41 ?_
      refine N.istore3 dX1_wayTo_42 rfl ?_
      refine N.iconst (v := 0) dX1_wayTo_43 (by decide) ?_
      refine N.istore4 dX1_wayTo_44 rfl ?_
      exact N.wk (by simp [wk, nI_0, wyTo, c33]) (l_X1_wayTo w b sz v l hp c15 P hP hP10 P 0 (by omega))
    · refine N.iconst (v := 2) dX1_wayTo_36 (by decide) ?_
      refine N.goto (tgt := 41) dX1_wayTo_37 (by decide) ?_
      refine N.isub dX1_wayTo_41 ?_
      refine N.istore3 dX1_wayTo_42 rfl ?_
      refine N.iconst (v := 0) dX1_wayTo_43 (by decide) ?_
      refine N.istore4 dX1_wayTo_44 rfl ?_
      exact N.wk (by simp [wk, nI_0, wyTo, c33]) (l_X1_wayTo w b sz v l hp c15 P hP hP10 P 0 (by omega))
  · refine N.iconst (v := 0) dX1_wayTo_18 (by decide) ?_
    exact N.iret dX1_wayTo_19 rfl (Nat.zero_le _) (Nat.zero_le _) ⟨_, rfl, ⟨by unfold wayF; rw [if_pos (show v.2 4 l.toNatClampNeg &&& notI (v.1 1) = 0 from c15)], rfl, rfl⟩⟩
set_option maxRecDepth 100000 in
theorem s_X1_beginChange {K : Kx} (w : Wd) (b sz : Nat) (v : CV) (l : Int32) (hp : vp_in l 4) (h : okP v) : Sp K mX1_beginChange 3 0 0 [.ref b, .int l] (putR K w b v) sz (Qi fun r w' sz' => r = (wayF v l) ∧ w' = putR K w b (chgV v l) ∧ sz' = sz) := by
  refine Sp.ofN [some (.ref b), some (.int l), none] rfl rfl rfl (Nat.le_of_ble_eq_true rfl) ?_
  refine N.aload0 dX1_beginChange_0 ?_
  refine N.iload1 dX1_beginChange_1 ?_
  refine N.vi1 dX1_beginChange_2 vX1_wayTo lkX1_122 (s_X1_wayTo _ _ _ _ _ hp h) rO rfl (Nat.le_of_ble_eq_true rfl) (Nat.le_of_ble_eq_true rfl) (Nat.zero_le _) (Nat.zero_le _) ?_
  rintro _ _ _ ⟨rfl, rfl, rfl⟩
  refine N.istore2 dX1_beginChange_5 rfl ?_
  refine N.aload0 dX1_beginChange_6 ?_
  refine N.aload0 dX1_beginChange_7 ?_
  refine N.getf dX1_beginChange_8 flX1_24 rO rfl ?_
  refine N.iload1 dX1_beginChange_11 ?_
  refine N.iald dX1_beginChange_12 rA4 hp ?_
  refine N.aload0 dX1_beginChange_13 ?_
  refine N.getf dX1_beginChange_14 flX1_31 rO rfl ?_
  refine N.iconst (v := -1) dX1_beginChange_17 (by decide) ?_
  refine N.ixor dX1_beginChange_18 ?_
  refine N.iand dX1_beginChange_19 ?_
  refine N.putf dX1_beginChange_20 flX1_34 rO (Nat.le_of_ble_eq_true rfl) (fun _ h => by cases h; rfl) rfl rfl rP2 ?_
  refine N.aload0 dX1_beginChange_23 ?_
  refine N.iload2 dX1_beginChange_24 ?_
  refine N.putf dX1_beginChange_25 flX1_37 rO (Nat.le_of_ble_eq_true rfl) (fun _ h => by cases h; rfl) rfl rfl rP3 ?_
  refine N.aload0 dX1_beginChange_28 ?_
  refine N.aload0 dX1_beginChange_29 ?_
  refine N.getf dX1_beginChange_30 flX1_24 rO rfl ?_
  refine N.iload1 dX1_beginChange_33 ?_
  refine N.iald dX1_beginChange_34 rA4 hp ?_
  refine N.putf dX1_beginChange_35 flX1_31 rO (Nat.le_of_ble_eq_true rfl) (fun _ h => by cases h; rfl) rfl rfl rP1 ?_
  refine N.iload2 dX1_beginChange_38 ?_
  exact N.iret dX1_beginChange_39 rfl (Nat.zero_le _) (Nat.zero_le _) ⟨_, rfl, ⟨rfl, rfl, rfl⟩⟩
set_option maxRecDepth 100000 in
theorem l_X1_tireIce {K : Kx} (w : Wd) (b sz : Nat) (v : CV) (n : Int32)   (P : Nat) (hP : v.1 0 = nI P) (hP10 : P ≤ 10) : ∀ nn k, k + nn = P → N K mX1_tireIce 1 0 0 (Qv fun w' sz' => w' = putR K w b (tireV n v) ∧ sz' = sz) 2 [some (.ref b), some (.int n), some (.int (nI k))] [] (putR K w b (tireTo n v k)) sz 0 0 := by
  intro nn
  induction nn with
  | zero =>
    intro k hk
    have hnp := np_of hP hP10
    obtain rfl : k = P := by omega
    refine N.iload2 dX1_tireIce_2 ?_
    refine N.aload0 dX1_tireIce_3 ?_
    refine N.getf dX1_tireIce_4 flX1_27 rO rfl ?_
    refine N.icmp_ge (tgt := 57) dX1_tireIce_7 (by decide) (fun c7 => ?_) (fun c7 => absurd (pl_ge (by rw [tireTo_1]; exact hP) (by omega) (by omega)) c7)
    exact N.vret dX1_tireIce_57 rfl (Nat.zero_le _) (Nat.zero_le _) ⟨rfl, ⟨by unfold tireV; rw [hnp], rfl⟩⟩
  | succ nn ih =>
    intro k hk
    have hk10 : k < 10 := by omega
    refine N.iload2 dX1_tireIce_2 ?_
    refine N.aload0 dX1_tireIce_3 ?_
    refine N.getf dX1_tireIce_4 flX1_27 rO rfl ?_
    refine N.icmp_ge (tgt := 57) dX1_tireIce_7 (by decide) (fun c7 => absurd c7 (pl_nge (by rw [tireTo_1]; exact hP) (by omega) hP10)) (fun c7 => ?_)
    refine N.aload0 dX1_tireIce_10 ?_
    refine N.getf dX1_tireIce_11 flX1_31 rO rfl ?_
    refine N.iload2 dX1_tireIce_14 ?_
    refine N.si2 dX1_tireIce_15 vX4_bit lkX1_92 (s_X4_bit _ _ _ _) rfl (Nat.le_of_ble_eq_true rfl) (Nat.le_of_ble_eq_true rfl) (Nat.zero_le _) (Nat.zero_le _) ?_
    rintro _ _ _ ⟨rfl, rfl, rfl⟩
    refine N.iconst (v := 1) dX1_tireIce_18 (by decide) ?_
    refine N.icmp_ne (tgt := 51) dX1_tireIce_19 (by decide) (fun c19 => ?_) (fun c19 => ?_)
    · refine N.iinc2 dX1_tireIce_51 rfl (nI_inc k) ?_
      refine N.goto (tgt := 2) dX1_tireIce_54 (by decide) ?_
      exact N.eqW (by first | rw [tireTo, if_pos c19] | rw [tireTo, if_neg c19]) (ih (k + 1) (by omega))
    · refine N.aload0 dX1_tireIce_22 ?_
      refine N.getf dX1_tireIce_23 flX1_21 rO rfl ?_
      refine N.iload2 dX1_tireIce_26 ?_
      refine N.bipush (v := 100) dX1_tireIce_27 (by decide) ?_
      refine N.aload0 dX1_tireIce_29 ?_
      refine N.getf dX1_tireIce_30 flX1_21 rO rfl ?_
      refine N.iload2 dX1_tireIce_33 ?_
      refine N.iald dX1_tireIce_34 rA3 (in10 hk10) ?_
      refine N.iload1 dX1_tireIce_35 ?_
      refine N.aload0 dX1_tireIce_36 ?_
      refine N.getf dX1_tireIce_37 flX1_9 rO rfl ?_
      refine N.iload2 dX1_tireIce_40 ?_
      refine N.iald dX1_tireIce_41 rA0 (in10 hk10) ?_
      refine N.si1 dX1_tireIce_42 vX4_tiresBy lkX1_107 (s_X4_tiresBy _ _ _) rfl (Nat.le_of_ble_eq_true rfl) (Nat.le_of_ble_eq_true rfl) (Nat.zero_le _) (Nat.zero_le _) ?_
      rintro _ _ _ ⟨rfl, rfl, rfl⟩
      refine N.imul dX1_tireIce_45 ?_
      refine N.iadd dX1_tireIce_46 ?_
      refine N.mmin dX1_tireIce_47 mkX1_125 (Nat.le_of_ble_eq_true rfl) (Nat.le_of_ble_eq_true rfl) (Nat.zero_le _) (Nat.zero_le _) ?_
      refine N.iast dX1_tireIce_50 rA3 (in10 hk10) rS3 ?_
      refine N.iinc2 dX1_tireIce_51 rfl (nI_inc k) ?_
      refine N.goto (tgt := 2) dX1_tireIce_54 (by decide) ?_
      exact N.eqW (by first | rw [tireTo, if_pos c19] | rw [tireTo, if_neg c19]) (ih (k + 1) (by omega))
set_option maxRecDepth 100000 in
theorem s_X1_tireIce {K : Kx} (w : Wd) (b sz : Nat) (v : CV) (n : Int32)  (h : okP v) : Sp K mX1_tireIce 1 0 0 [.ref b, .int n] (putR K w b v) sz (Qv fun w' sz' => w' = putR K w b (tireV n v) ∧ sz' = sz) := by
  refine Sp.ofN [some (.ref b), some (.int n), none] rfl rfl rfl (Nat.le_of_ble_eq_true rfl) ?_
  obtain ⟨P, hP10, hP⟩ := h
  refine N.iconst (v := 0) dX1_tireIce_0 (by decide) ?_
  refine N.istore2 dX1_tireIce_1 rfl ?_
  exact N.wk (by simp [wk, nI_0, sumTo, pwTo]) (l_X1_tireIce w b sz v n   P hP hP10 P 0 (by omega))
set_option maxRecDepth 100000 in
theorem l_X1_restBench {K : Kx} (w : Wd) (b sz : Nat) (v : CV) (n : Int32)   (P : Nat) (hP : v.1 0 = nI P) (hP10 : P ≤ 10) : ∀ nn k, k + nn = P → N K mX1_restBench 1 0 0 (Qv fun w' sz' => w' = putR K w b (restV n v) ∧ sz' = sz) 2 [some (.ref b), some (.int n), some (.int (nI k))] [] (putR K w b (restTo n v k)) sz 0 0 := by
  intro nn
  induction nn with
  | zero =>
    intro k hk
    have hnp := np_of hP hP10
    obtain rfl : k = P := by omega
    refine N.iload2 dX1_restBench_2 ?_
    refine N.aload0 dX1_restBench_3 ?_
    refine N.getf dX1_restBench_4 flX1_27 rO rfl ?_
    refine N.icmp_ge (tgt := 55) dX1_restBench_7 (by decide) (fun c7 => ?_) (fun c7 => absurd (pl_ge (by rw [restTo_1]; exact hP) (by omega) (by omega)) c7)
    exact N.vret dX1_restBench_55 rfl (Nat.zero_le _) (Nat.zero_le _) ⟨rfl, ⟨by unfold restV; rw [hnp], rfl⟩⟩
  | succ nn ih =>
    intro k hk
    have hk10 : k < 10 := by omega
    refine N.iload2 dX1_restBench_2 ?_
    refine N.aload0 dX1_restBench_3 ?_
    refine N.getf dX1_restBench_4 flX1_27 rO rfl ?_
    refine N.icmp_ge (tgt := 55) dX1_restBench_7 (by decide) (fun c7 => absurd c7 (pl_nge (by rw [restTo_1]; exact hP) (by omega) hP10)) (fun c7 => ?_)
    refine N.aload0 dX1_restBench_10 ?_
    refine N.getf dX1_restBench_11 flX1_31 rO rfl ?_
    refine N.iload2 dX1_restBench_14 ?_
    refine N.si2 dX1_restBench_15 vX4_bit lkX1_92 (s_X4_bit _ _ _ _) rfl (Nat.le_of_ble_eq_true rfl) (Nat.le_of_ble_eq_true rfl) (Nat.zero_le _) (Nat.zero_le _) ?_
    rintro _ _ _ ⟨rfl, rfl, rfl⟩
    refine N.if_ne (tgt := 49) dX1_restBench_18 (by decide) (fun c18 => ?_) (fun c18 => ?_)
    · refine N.iinc2 dX1_restBench_49 rfl (nI_inc k) ?_
      refine N.goto (tgt := 2) dX1_restBench_52 (by decide) ?_
      exact N.eqW (by first | rw [restTo, if_pos c18] | rw [restTo, if_neg c18]) (ih (k + 1) (by omega))
    · refine N.aload0 dX1_restBench_21 ?_
      refine N.getf dX1_restBench_22 flX1_21 rO rfl ?_
      refine N.iload2 dX1_restBench_25 ?_
      refine N.iconst (v := 0) dX1_restBench_26 (by decide) ?_
      refine N.aload0 dX1_restBench_27 ?_
      refine N.getf dX1_restBench_28 flX1_21 rO rfl ?_
      refine N.iload2 dX1_restBench_31 ?_
      refine N.iald dX1_restBench_32 rA3 (in10 hk10) ?_
      refine N.iload1 dX1_restBench_33 ?_
      refine N.aload0 dX1_restBench_34 ?_
      refine N.getf dX1_restBench_35 flX1_9 rO rfl ?_
      refine N.iload2 dX1_restBench_38 ?_
      refine N.iald dX1_restBench_39 rA0 (in10 hk10) ?_
      refine N.si1 dX1_restBench_40 vX4_restsBy lkX1_128 (s_X4_restsBy _ _ _) rfl (Nat.le_of_ble_eq_true rfl) (Nat.le_of_ble_eq_true rfl) (Nat.zero_le _) (Nat.zero_le _) ?_
      rintro _ _ _ ⟨rfl, rfl, rfl⟩
      refine N.imul dX1_restBench_43 ?_
      refine N.isub dX1_restBench_44 ?_
      refine N.mmax dX1_restBench_45 mkX1_117 (Nat.le_of_ble_eq_true rfl) (Nat.le_of_ble_eq_true rfl) (Nat.zero_le _) (Nat.zero_le _) ?_
      refine N.iast dX1_restBench_48 rA3 (in10 hk10) rS3 ?_
      refine N.iinc2 dX1_restBench_49 rfl (nI_inc k) ?_
      refine N.goto (tgt := 2) dX1_restBench_52 (by decide) ?_
      exact N.eqW (by first | rw [restTo, if_pos c18] | rw [restTo, if_neg c18]) (ih (k + 1) (by omega))
set_option maxRecDepth 100000 in
theorem s_X1_restBench {K : Kx} (w : Wd) (b sz : Nat) (v : CV) (n : Int32)  (h : okP v) : Sp K mX1_restBench 1 0 0 [.ref b, .int n] (putR K w b v) sz (Qv fun w' sz' => w' = putR K w b (restV n v) ∧ sz' = sz) := by
  refine Sp.ofN [some (.ref b), some (.int n), none] rfl rfl rfl (Nat.le_of_ble_eq_true rfl) ?_
  obtain ⟨P, hP10, hP⟩ := h
  refine N.iconst (v := 0) dX1_restBench_0 (by decide) ?_
  refine N.istore2 dX1_restBench_1 rfl ?_
  exact N.wk (by simp [wk, nI_0, sumTo, pwTo]) (l_X1_restBench w b sz v n   P hP hP10 P 0 (by omega))
set_option maxRecDepth 100000 in
theorem s_X1_passSeconds {K : Kx} (w : Wd) (b sz : Nat) (v : CV) (n : Int32) (h : okP v) : Sp K mX1_passSeconds 2 0 0 [.ref b, .int n] (putR K w b v) sz (Qv fun w' sz' => w' = putR K w b (passV n v) ∧ sz' = sz) := by
  refine Sp.ofN [some (.ref b), some (.int n)] rfl rfl rfl (Nat.le_of_ble_eq_true rfl) ?_
  refine N.aload0 dX1_passSeconds_0 ?_
  refine N.iload1 dX1_passSeconds_1 ?_
  refine N.vv1 dX1_passSeconds_2 vX1_tireIce lkX1_131 (s_X1_tireIce _ _ _ _ _ h) rO rfl (Nat.le_of_ble_eq_true rfl) (Nat.le_of_ble_eq_true rfl) (Nat.zero_le _) (Nat.zero_le _) ?_
  rintro _ _ ⟨rfl, rfl⟩
  refine N.aload0 dX1_passSeconds_5 ?_
  refine N.iload1 dX1_passSeconds_6 ?_
  refine N.vv1 dX1_passSeconds_7 vX1_restBench lkX1_135 (s_X1_restBench _ _ _ _ _ (h.tire n)) rO rfl (Nat.le_of_ble_eq_true rfl) (Nat.le_of_ble_eq_true rfl) (Nat.zero_le _) (Nat.zero_le _) ?_
  rintro _ _ ⟨rfl, rfl⟩
  refine N.aload0 dX1_passSeconds_10 ?_
  refine N.iload1 dX1_passSeconds_11 ?_
  refine N.vv1 dX1_passSeconds_12 vX1_comeNearer lkX1_138 (s_X1_comeNearer _ _ _ _ _) rO rfl (Nat.le_of_ble_eq_true rfl) (Nat.le_of_ble_eq_true rfl) (Nat.zero_le _) (Nat.zero_le _) ?_
  rintro _ _ ⟨rfl, rfl⟩
  exact N.vret dX1_passSeconds_15 rfl (Nat.zero_le _) (Nat.zero_le _) ⟨rfl, ⟨rfl, rfl⟩⟩
