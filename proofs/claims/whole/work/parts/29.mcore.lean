/-! the model's leaves and its core -/
theorem inL_i {x a b : Int32} {A B : Int64} (ha : a.toInt64 = A) (hb : b.toInt64 = B) : inL x.toInt64 A B = isInF x a b := by
  subst ha hb
  unfold inL isInF
  by_cases h1 : x < a
  · rw [if_pos h1, if_pos ((lg_cmp_lt _ _).mpr (i64_lt.mpr h1))]
  · rw [if_neg h1, if_neg (fun q => h1 (i64_lt.mp ((lg_cmp_lt _ _).mp q)))]
    by_cases h2 : b < x
    · rw [if_pos h2, if_pos ((lg_cmp_gt _ _).mpr (i64_lt.mpr h2))]
    · rw [if_neg h2, if_neg (fun q => h2 (i64_lt.mp ((lg_cmp_gt _ _).mp q)))]
theorem inL_nar (v a b : Int64) : narrow .boolean (.int (inL v a b)) = .int (inL v a b) := by
  unfold inL
  split
  · rfl
  · split <;> rfl
theorem bit01 (x p : Int32) : bitF x p = 0 ∨ bitF x p = 1 := by
  unfold bitF
  generalize x >>> (p &&& 31) = y
  obtain ⟨j, hj, e⟩ := pk_andE y (m := 1) 1 (by decide)
  rw [e]
  rcases (show j = 0 ∨ j = 1 by omega) with rfl | rfl
  · exact Or.inl rfl
  · exact Or.inr rfl
theorem bit_ne {x p : Int32} : ¬ bitF x p = 0 ↔ bitF x p = 1 := by
  rcases bit01 x p with h | h <;> rw [h] <;> decide
def bitsTo : Nat → Int32 → Int32
  | 0, _ => 0
  | n + 1, x => if x = 0 then 0 else bitsTo n (x &&& (x - 1)) + 1
theorem bitsS {x : Int32} {q : Nat} (h : ¬ x = 0) : bitsTo (q + 1) x = bitsTo q (x &&& (x - 1)) + 1 := if_neg h
def uN (x : Int32) : Nat := x.toUInt32.toNat
def bitsF (x : Int32) : Int32 := bitsTo (2 ^ 32) x
theorem uN_0 {x : Int32} (h : ¬ x = 0) : 0 < uN x := by
  rcases Nat.eq_zero_or_pos (uN x) with q | q
  · refine absurd ?_ h
    have : x.toUInt32 = 0 := UInt32.toNat_inj.mp q
    have h2 := congrArg UInt32.toInt32 this
    simpa using h2
  · exact q
theorem uN_lt {x : Int32} (h : ¬ x = 0) : uN (x &&& (x - 1)) < uN x := by
  have h0 := uN_0 h
  have e : uN (x - 1) = uN x - 1 := by
    unfold uN at *
    rw [Int32.toUInt32_sub, UInt32.toNat_sub_of_le]
    · rfl
    · rw [UInt32.le_iff_toNat_le]
      show 1 ≤ _
      omega
  have : uN (x &&& (x - 1)) ≤ uN (x - 1) := by
    unfold uN
    rw [Int32.toUInt32_and, UInt32.toNat_and]
    exact Nat.and_le_right
  omega
theorem uN_32 (x : Int32) : uN x < 2 ^ 32 := x.toUInt32.toNat_lt
set_option maxRecDepth 100000 in
theorem s_X5_in {K : Kx} (v a b : Int64) (w : Wd) (sz : Nat) : Sp K mX5_in 0 0 0 [.long v, .long a, .long b] w sz (Qi fun r w' sz' => r = inL v a b ∧ w' = w ∧ sz' = sz) := by
  refine Sp.ofN [some (.long v), none, some (.long a), none, some (.long b), none] rfl rfl rfl (Nat.le_of_ble_eq_true rfl) ?_
  refine N.lload0 dX5_in_0 ?_
  refine N.lload2 dX5_in_1 ?_
  refine N.lcmp dX5_in_2 ?_
  refine N.if_lt (tgt := 17) dX5_in_3 (by decide) (fun c3 => ?_) (fun c3 => ?_)
  · refine N.iconst (v := 0) dX5_in_17 (by decide) ?_
    exact N.zret dX5_in_18 rfl rfl (Nat.zero_le _) (Nat.zero_le _) ⟨_, rfl, ⟨(by first | (simp only [inL, c3, ↓reduceIte]; done) | (simp_all [inL]; done)), rfl, rfl⟩⟩
  · refine N.lload0 dX5_in_6 ?_
    refine N.lload4 dX5_in_7 ?_
    refine N.lcmp dX5_in_9 ?_
    refine N.if_gt (tgt := 17) dX5_in_10 (by decide) (fun c10 => ?_) (fun c10 => ?_)
    · refine N.iconst (v := 0) dX5_in_17 (by decide) ?_
      exact N.zret dX5_in_18 rfl rfl (Nat.zero_le _) (Nat.zero_le _) ⟨_, rfl, ⟨(by first | (simp only [inL, c3, c10, ↓reduceIte]; done) | (simp_all [inL]; done)), rfl, rfl⟩⟩
    · refine N.iconst (v := 1) dX5_in_13 (by decide) ?_
      refine N.goto (tgt := 18) dX5_in_14 (by decide) ?_
      exact N.zret dX5_in_18 rfl rfl (Nat.zero_le _) (Nat.zero_le _) ⟨_, rfl, ⟨(by first | (simp only [inL, c3, c10, ↓reduceIte]; done) | (simp_all [inL]; done)), rfl, rfl⟩⟩
set_option maxRecDepth 100000 in
theorem s_X5_has {K : Kx} (x p : Int32) (w : Wd) (sz : Nat) : Sp K mX5_has 0 0 0 [.int x, .int p] w sz (Qi fun r w' sz' => r = bitF x p ∧ w' = w ∧ sz' = sz) := by
  refine Sp.ofN [some (.int x), some (.int p)] rfl rfl rfl (Nat.le_of_ble_eq_true rfl) ?_
  refine N.iload0 dX5_has_0 ?_
  refine N.iload1 dX5_has_1 ?_
  refine N.ishr dX5_has_2 ?_
  refine N.iconst (v := 1) dX5_has_3 (by decide) ?_
  refine N.iand dX5_has_4 ?_
  refine N.if_eq (tgt := 12) dX5_has_5 (by decide) (fun c5 => ?_) (fun c5 => ?_)
  · refine N.iconst (v := 0) dX5_has_12 (by decide) ?_
    exact N.zret dX5_has_13 rfl rfl (Nat.zero_le _) (Nat.zero_le _) ⟨_, rfl, ⟨(by exact (show bitF x p = 0 from c5).symm), rfl, rfl⟩⟩
  · refine N.iconst (v := 1) dX5_has_8 (by decide) ?_
    refine N.goto (tgt := 13) dX5_has_9 (by decide) ?_
    exact N.zret dX5_has_13 rfl rfl (Nat.zero_le _) (Nat.zero_le _) ⟨_, rfl, ⟨(by exact (bit_ne.mp (show ¬ bitF x p = 0 from c5)).symm), rfl, rfl⟩⟩
set_option maxRecDepth 100000 in
theorem l_X5_bits {K : Kx} (w : Wd) (sz : Nat) (s0 R : Int32) : ∀ nn (x c : Int32), uN x ≤ nn → (∀ q, nn ≤ q → c + bitsTo (q + 1) x = R) → N K mX5_bits 0 0 0 (Qi fun r w' sz' => r = R ∧ w' = w ∧ sz' = sz) 4 [some (.int s0), some (.int c), some (.int x)] [] w sz 0 0 := by
  intro nn
  induction nn with
  | zero =>
    intro x c hx hR
    have hx0 : x = 0 := by
      by_cases q : x = 0
      · exact q
      · exact absurd (uN_0 q) (by omega)
    refine N.iload2 dX5_bits_4 ?_
    refine N.if_eq (tgt := 20) dX5_bits_5 (by decide) (fun c5 => ?_) (fun c5 => absurd hx0 c5)
    refine N.iload1 dX5_bits_20 ?_
    exact N.iret dX5_bits_21 rfl (Nat.zero_le _) (Nat.zero_le _) ⟨_, rfl, ⟨(by rw [← hR 0 (Nat.le_refl _), bitsTo, if_pos hx0, Int32.add_zero]), rfl, rfl⟩⟩
  | succ nn ih =>
    intro x c hx hR
    refine N.iload2 dX5_bits_4 ?_
    refine N.if_eq (tgt := 20) dX5_bits_5 (by decide) (fun c5 => ?_) (fun c5 => ?_)
    · refine N.iload1 dX5_bits_20 ?_
      exact N.iret dX5_bits_21 rfl (Nat.zero_le _) (Nat.zero_le _) ⟨_, rfl, ⟨(by rw [← hR _ (Nat.le_refl _), bitsTo, if_pos c5, Int32.add_zero]), rfl, rfl⟩⟩
    · refine N.iinc1 dX5_bits_8 rfl rfl ?_
      refine N.iload2 dX5_bits_11 ?_
      refine N.iload2 dX5_bits_12 ?_
      refine N.iconst (v := 1) dX5_bits_13 (by decide) ?_
      refine N.isub dX5_bits_14 ?_
      refine N.iand dX5_bits_15 ?_
      refine N.istore2 dX5_bits_16 rfl ?_
      refine N.goto (tgt := 4) dX5_bits_17 (by decide) ?_
      exact ih _ _ (by have := uN_lt c5; omega) (fun q hq => by rw [← hR (q + 1) (by omega), bitsS c5]; show c + 1 + _ = _; rw [Int32.add_assoc, Int32.add_comm 1])
theorem bits_more : ∀ {n m : Nat} {x : Int32}, uN x < n → uN x < m → bitsTo n x = bitsTo m x
  | 0, _, _, h, _ => absurd h (by omega)
  | _, 0, _, _, h => absurd h (by omega)
  | n + 1, m + 1, x, h1, h2 => by
    rw [bitsTo, bitsTo]
    by_cases c : x = 0
    · rw [if_pos c, if_pos c]
    · rw [if_neg c, if_neg c, bits_more (n := n) (m := m) (by have := uN_lt c; omega) (by have := uN_lt c; omega)]
set_option maxRecDepth 100000 in
theorem s_X5_bits {K : Kx} (x : Int32) (w : Wd) (sz : Nat) : Sp K mX5_bits 0 0 0 [.int x] w sz (Qi fun r w' sz' => r = bitsF x ∧ w' = w ∧ sz' = sz) := by
  refine Sp.ofN [some (.int x), none, none] rfl rfl rfl (Nat.le_of_ble_eq_true rfl) ?_
  refine N.iconst (v := 0) dX5_bits_0 (by decide) ?_
  refine N.istore1 dX5_bits_1 rfl ?_
  refine N.iload0 dX5_bits_2 ?_
  refine N.istore2 dX5_bits_3 rfl ?_
  exact l_X5_bits w sz x _ (2 ^ 32 - 1) x 0 (by have := uN_32 x; omega) (fun q hq => by rw [Int32.zero_add]; exact bits_more (by have := uN_32 x; omega) (by have := uN_32 x; omega))

set_option maxRecDepth 100000 in
theorem s_X5_isPlayer {K : Kx} (w : Wd) (b sz : Nat) (v : CV) (E : ME) (p : Int32)  : Sp K mX5_isPlayer 1 0 0 [.ref b, .int p] (putM K w b (v, E)) sz (Qi fun r w' sz' => r = (isPlF v p) ∧ w' = putM K w b (v, E) ∧ sz' = sz) := by
  refine Sp.ofN [some (.ref b), some (.int p)] rfl rfl rfl (Nat.le_of_ble_eq_true rfl) ?_
  refine N.iload1 dX5_isPlayer_0 ?_
  refine N.i2l dX5_isPlayer_1 ?_
  refine N.lconst (v := 0) dX5_isPlayer_2 (by decide) ?_
  refine N.aload0 dX5_isPlayer_3 ?_
  refine N.getf dX5_isPlayer_4 flX5_74 mO rfl ?_
  refine N.iconst (v := 1) dX5_isPlayer_7 (by decide) ?_
  refine N.isub dX5_isPlayer_8 ?_
  refine N.i2l dX5_isPlayer_9 ?_
  refine N.si3 dX5_isPlayer_10 vX5_in lkX5_77 (s_X5_in _ _ _ _ _) rfl (Nat.le_of_ble_eq_true rfl) (Nat.le_of_ble_eq_true rfl) (Nat.zero_le _) (Nat.zero_le _) ?_
  rintro r1 _ _ ⟨er, rfl, rfl⟩
  obtain rfl := er.trans (inL_i (a := (0)) (b := _) rfl rfl)
  exact N.zret dX5_isPlayer_13 rfl (isIn_nar _ _ _) (Nat.zero_le _) (Nat.zero_le _) ⟨_, rfl, ⟨rfl, rfl, rfl⟩⟩
set_option maxRecDepth 100000 in
theorem s_X5_legs {K : Kx} (w : Wd) (b sz : Nat) (v : CV) (E : ME) (p : Int32) (hp : vp_in p 10) : Sp K mX5_legs 0 0 0 [.ref b, .int p] (putM K w b (v, E)) sz (Qi fun r w' sz' => r = (legsF v p) ∧ w' = putM K w b (v, E) ∧ sz' = sz) := by
  refine Sp.ofN [some (.ref b), some (.int p)] rfl rfl rfl (Nat.le_of_ble_eq_true rfl) ?_
  refine N.aload0 dX5_legs_0 ?_
  refine N.getf dX5_legs_1 flX5_40 mO rfl ?_
  refine N.iload1 dX5_legs_4 ?_
  refine N.iald dX5_legs_5 mA1 hp ?_
  refine N.bipush (v := 100) dX5_legs_6 (by decide) ?_
  refine N.aload0 dX5_legs_8 ?_
  refine N.getf dX5_legs_9 flX5_46 mO rfl ?_
  refine N.iload1 dX5_legs_12 ?_
  refine N.iald dX5_legs_13 mA3 hp ?_
  refine N.isub dX5_legs_14 ?_
  refine N.imul dX5_legs_15 ?_
  refine N.bipush (v := 100) dX5_legs_16 (by decide) ?_
  refine N.idiv dX5_legs_18 (by decide) ?_
  exact N.iret dX5_legs_19 rfl (Nat.zero_le _) (Nat.zero_le _) ⟨_, rfl, ⟨rfl, rfl, rfl⟩⟩
set_option maxRecDepth 100000 in
theorem s_X5_tires {K : Kx} (w : Wd) (b sz : Nat) (v : CV) (E : ME) (p : Int32) (hp : vp_in p 10) : Sp K mX5_tires 0 0 0 [.ref b, .int p] (putM K w b (v, E)) sz (Qi fun r w' sz' => r = (tiresF (v.2 0 p.toNatClampNeg)) ∧ w' = putM K w b (v, E) ∧ sz' = sz) := by
  refine Sp.ofN [some (.ref b), some (.int p)] rfl rfl rfl (Nat.le_of_ble_eq_true rfl) ?_
  refine N.aload0 dX5_tires_0 ?_
  refine N.getf dX5_tires_1 flX5_37 mO rfl ?_
  refine N.iload1 dX5_tires_4 ?_
  refine N.iald dX5_tires_5 mA0 hp ?_
  refine N.iconst (v := 1) dX5_tires_6 (by decide) ?_
  refine N.icmp_eq (tgt := 20) dX5_tires_7 (by decide) (fun c7 => ?_) (fun c7 => ?_)
  · refine N.iconst (v := 3) dX5_tires_20 (by decide) ?_
    refine N.goto (tgt := 25) dX5_tires_21 (by decide) ?_
    exact N.iret dX5_tires_25 rfl (Nat.zero_le _) (Nat.zero_le _) ⟨_, rfl, ⟨(by first | (simp only [tiresF, c7, ↓reduceIte]; done) | (simp_all [tiresF]; done)), rfl, rfl⟩⟩
  · refine N.aload0 dX5_tires_10 ?_
    refine N.getf dX5_tires_11 flX5_37 mO rfl ?_
    refine N.iload1 dX5_tires_14 ?_
    refine N.iald dX5_tires_15 mA0 hp ?_
    refine N.iconst (v := 3) dX5_tires_16 (by decide) ?_
    refine N.icmp_ne (tgt := 24) dX5_tires_17 (by decide) (fun c17 => ?_) (fun c17 => ?_)
    · refine N.iconst (v := 2) dX5_tires_24 (by decide) ?_
      exact N.iret dX5_tires_25 rfl (Nat.zero_le _) (Nat.zero_le _) ⟨_, rfl, ⟨(by first | (simp only [tiresF, c7, c17, ↓reduceIte]; done) | (simp_all [tiresF]; done)), rfl, rfl⟩⟩
    · refine N.iconst (v := 3) dX5_tires_20 (by decide) ?_
      refine N.goto (tgt := 25) dX5_tires_21 (by decide) ?_
      exact N.iret dX5_tires_25 rfl (Nat.zero_le _) (Nat.zero_le _) ⟨_, rfl, ⟨(by first | (simp only [tiresF, c7, c17, ↓reduceIte]; done) | (simp_all [tiresF]; done)), rfl, rfl⟩⟩
def rstM (k y : Int32) : Int32 := if k = 3 then (if y - 2 ≤ 0 then 0 else y - 2) else (if y - 1 ≤ 0 then 0 else y - 1)
def powM (v : CV) (p : Int32) : Int32 := if v.2 0 p.toNatClampNeg = 2 then (if 10 ≤ v.2 3 p.toNatClampNeg then (if v.2 0 p.toNatClampNeg = 5 then legsF v p + 2 * bitsF (v.1 1 &&& notI ((1 : Int32) <<< (p &&& 31))) else legsF v p) else (if v.2 0 p.toNatClampNeg = 5 then legsF v p + v.2 2 p.toNatClampNeg + 2 * bitsF (v.1 1 &&& notI ((1 : Int32) <<< (p &&& 31))) else legsF v p + v.2 2 p.toNatClampNeg)) else (if v.2 0 p.toNatClampNeg = 5 then legsF v p + 2 * bitsF (v.1 1 &&& notI ((1 : Int32) <<< (p &&& 31))) else legsF v p)
def pwM (v : CV) : Nat → Int32 × Int32
  | 0 => (0, 0)
  | k + 1 => if bitF (v.1 2) (nI k) = 0 then (if bitF (v.1 1) (nI k) = 0 then pwM v k else ((pwM v k).1 + powM v (nI k), (pwM v k).2)) else ((pwM v k).1, (pwM v k).2 + powM v (nI k))
def powAM (v : CV) : Int32 := (pwM v (np v)).1 + (pwM v (np v)).2 / 2 + (if v.1 7 = 0 then 30 else 0)
set_option maxRecDepth 100000 in
theorem s_X5_rested {K : Kx} (w : Wd) (b sz : Nat) (v : CV) (E : ME) (p y : Int32) (hp : vp_in p 10) : Sp K mX5_rested 0 0 0 [.ref b, .int p, .int y] (putM K w b (v, E)) sz (Qi fun r w' sz' => r = (rstM (v.2 0 p.toNatClampNeg) y) ∧ w' = putM K w b (v, E) ∧ sz' = sz) := by
  refine Sp.ofN [some (.ref b), some (.int p), some (.int y), none] rfl rfl rfl (Nat.le_of_ble_eq_true rfl) ?_
  refine N.iload2 dX5_rested_0 ?_
  refine N.aload0 dX5_rested_1 ?_
  refine N.getf dX5_rested_2 flX5_37 mO rfl ?_
  refine N.iload1 dX5_rested_5 ?_
  refine N.iald dX5_rested_6 mA0 hp ?_
  refine N.iconst (v := 3) dX5_rested_7 (by decide) ?_
  refine N.icmp_ne (tgt := 15) dX5_rested_8 (by decide) (fun c8 => ?_) (fun c8 => ?_)
  · refine N.iconst (v := 1) dX5_rested_15 (by decide) ?_
    refine N.isub dX5_rested_16 ?_
    refine N.istore3 dX5_rested_17 rfl ?_
    refine N.iload3 dX5_rested_18 ?_
    refine N.if_le (tgt := 26) dX5_rested_19 (by decide) (fun c19 => ?_) (fun c19 => ?_)
    · refine N.iconst (v := 0) dX5_rested_26 (by decide) ?_
      exact N.iret dX5_rested_27 rfl (Nat.zero_le _) (Nat.zero_le _) ⟨_, rfl, (by rw [rstM, if_neg c8, if_pos c19]; exact ⟨rfl, rfl, rfl⟩)⟩
    · refine N.iload3 dX5_rested_22 ?_
      refine N.goto (tgt := 27) dX5_rested_23 (by decide) ?_
      exact N.iret dX5_rested_27 rfl (Nat.zero_le _) (Nat.zero_le _) ⟨_, rfl, (by rw [rstM, if_neg c8, if_neg c19]; exact ⟨rfl, rfl, rfl⟩)⟩
  · refine N.iconst (v := 2) dX5_rested_11 (by decide) ?_
    refine N.goto (tgt := 16) dX5_rested_12 (by decide) ?_
    refine N.isub dX5_rested_16 ?_
    refine N.istore3 dX5_rested_17 rfl ?_
    refine N.iload3 dX5_rested_18 ?_
    refine N.if_le (tgt := 26) dX5_rested_19 (by decide) (fun c19 => ?_) (fun c19 => ?_)
    · refine N.iconst (v := 0) dX5_rested_26 (by decide) ?_
      exact N.iret dX5_rested_27 rfl (Nat.zero_le _) (Nat.zero_le _) ⟨_, rfl, (by rw [rstM, if_pos c8, if_pos c19]; exact ⟨rfl, rfl, rfl⟩)⟩
    · refine N.iload3 dX5_rested_22 ?_
      refine N.goto (tgt := 27) dX5_rested_23 (by decide) ?_
      exact N.iret dX5_rested_27 rfl (Nat.zero_le _) (Nat.zero_le _) ⟨_, rfl, (by rw [rstM, if_pos c8, if_neg c19]; exact ⟨rfl, rfl, rfl⟩)⟩
set_option maxRecDepth 100000 in
theorem s_X5_powerOf {K : Kx} (w : Wd) (b sz : Nat) (v : CV) (E : ME) (p : Int32) (hp : vp_in p 10) : Sp K mX5_powerOf 1 0 0 [.ref b, .int p] (putM K w b (v, E)) sz (Qi fun r w' sz' => r = (powM v p) ∧ w' = putM K w b (v, E) ∧ sz' = sz) := by
  refine Sp.ofN [some (.ref b), some (.int p), none] rfl rfl rfl (Nat.le_of_ble_eq_true rfl) ?_
  refine N.aload0 dX5_powerOf_0 ?_
  refine N.iload1 dX5_powerOf_1 ?_
  refine N.vi1 dX5_powerOf_2 vX5_legs lkX5_110 (s_X5_legs _ _ _ _ _ _ hp) mO rfl (Nat.le_of_ble_eq_true rfl) (Nat.le_of_ble_eq_true rfl) (Nat.zero_le _) (Nat.zero_le _) ?_
  rintro _ _ _ ⟨rfl, rfl, rfl⟩
  refine N.istore2 dX5_powerOf_5 rfl ?_
  refine N.aload0 dX5_powerOf_6 ?_
  refine N.getf dX5_powerOf_7 flX5_37 mO rfl ?_
  refine N.iload1 dX5_powerOf_10 ?_
  refine N.iald dX5_powerOf_11 mA0 hp ?_
  refine N.iconst (v := 2) dX5_powerOf_12 (by decide) ?_
  refine N.icmp_ne (tgt := 36) dX5_powerOf_13 (by decide) (fun c13 => ?_) (fun c13 => ?_)
  · refine N.aload0 dX5_powerOf_36 ?_
    refine N.getf dX5_powerOf_37 flX5_37 mO rfl ?_
    refine N.iload1 dX5_powerOf_40 ?_
    refine N.iald dX5_powerOf_41 mA0 hp ?_
    refine N.iconst (v := 5) dX5_powerOf_42 (by decide) ?_
    refine N.icmp_ne (tgt := 66) dX5_powerOf_43 (by decide) (fun c43 => ?_) (fun c43 => ?_)
    · refine N.iload2 dX5_powerOf_66 ?_
      exact N.iret dX5_powerOf_67 rfl (Nat.zero_le _) (Nat.zero_le _) ⟨_, rfl, (by rw [powM, if_neg c13, if_neg c43]; exact ⟨rfl, rfl, rfl⟩)⟩
    · refine N.iload2 dX5_powerOf_46 ?_
      refine N.iconst (v := 2) dX5_powerOf_47 (by decide) ?_
      refine N.aload0 dX5_powerOf_48 ?_
      refine N.getf dX5_powerOf_49 flX5_116 mO rfl ?_
      refine N.iconst (v := 1) dX5_powerOf_52 (by decide) ?_
      refine N.iload1 dX5_powerOf_53 ?_
      refine N.ishl dX5_powerOf_54 ?_
      refine N.iconst (v := -1) dX5_powerOf_55 (by decide) ?_
      refine N.ixor dX5_powerOf_56 ?_
      refine N.iand dX5_powerOf_57 ?_
      refine N.si1 dX5_powerOf_58 vX5_bits lkX5_122 (s_X5_bits _ _ _) rfl (Nat.le_of_ble_eq_true rfl) (Nat.le_of_ble_eq_true rfl) (Nat.zero_le _) (Nat.zero_le _) ?_
      rintro _ _ _ ⟨rfl, rfl, rfl⟩
      refine N.imul dX5_powerOf_61 ?_
      refine N.iadd dX5_powerOf_62 ?_
      refine N.goto (tgt := 67) dX5_powerOf_63 (by decide) ?_
      exact N.iret dX5_powerOf_67 rfl (Nat.zero_le _) (Nat.zero_le _) ⟨_, rfl, (by rw [powM, if_neg c13, if_pos c43]; exact ⟨rfl, rfl, rfl⟩)⟩
  · refine N.aload0 dX5_powerOf_16 ?_
    refine N.getf dX5_powerOf_17 flX5_46 mO rfl ?_
    refine N.iload1 dX5_powerOf_20 ?_
    refine N.iald dX5_powerOf_21 mA3 hp ?_
    refine N.bipush (v := 10) dX5_powerOf_22 (by decide) ?_
    refine N.icmp_ge (tgt := 36) dX5_powerOf_24 (by decide) (fun c24 => ?_) (fun c24 => ?_)
    · refine N.aload0 dX5_powerOf_36 ?_
      refine N.getf dX5_powerOf_37 flX5_37 mO rfl ?_
      refine N.iload1 dX5_powerOf_40 ?_
      refine N.iald dX5_powerOf_41 mA0 hp ?_
      refine N.iconst (v := 5) dX5_powerOf_42 (by decide) ?_
      refine N.icmp_ne (tgt := 66) dX5_powerOf_43 (by decide) (fun c43 => ?_) (fun c43 => ?_)
      · refine N.iload2 dX5_powerOf_66 ?_
        exact N.iret dX5_powerOf_67 rfl (Nat.zero_le _) (Nat.zero_le _) ⟨_, rfl, (by rw [powM, if_pos c13, if_pos c24, if_neg c43]; exact ⟨rfl, rfl, rfl⟩)⟩
      · refine N.iload2 dX5_powerOf_46 ?_
        refine N.iconst (v := 2) dX5_powerOf_47 (by decide) ?_
        refine N.aload0 dX5_powerOf_48 ?_
        refine N.getf dX5_powerOf_49 flX5_116 mO rfl ?_
        refine N.iconst (v := 1) dX5_powerOf_52 (by decide) ?_
        refine N.iload1 dX5_powerOf_53 ?_
        refine N.ishl dX5_powerOf_54 ?_
        refine N.iconst (v := -1) dX5_powerOf_55 (by decide) ?_
        refine N.ixor dX5_powerOf_56 ?_
        refine N.iand dX5_powerOf_57 ?_
        refine N.si1 dX5_powerOf_58 vX5_bits lkX5_122 (s_X5_bits _ _ _) rfl (Nat.le_of_ble_eq_true rfl) (Nat.le_of_ble_eq_true rfl) (Nat.zero_le _) (Nat.zero_le _) ?_
        rintro _ _ _ ⟨rfl, rfl, rfl⟩
        refine N.imul dX5_powerOf_61 ?_
        refine N.iadd dX5_powerOf_62 ?_
        refine N.goto (tgt := 67) dX5_powerOf_63 (by decide) ?_
        exact N.iret dX5_powerOf_67 rfl (Nat.zero_le _) (Nat.zero_le _) ⟨_, rfl, (by rw [powM, if_pos c13, if_pos c24, if_pos c43]; exact ⟨rfl, rfl, rfl⟩)⟩
    · refine N.iload2 dX5_powerOf_27 ?_
      refine N.aload0 dX5_powerOf_28 ?_
      refine N.getf dX5_powerOf_29 flX5_43 mO rfl ?_
      refine N.iload1 dX5_powerOf_32 ?_
      refine N.iald dX5_powerOf_33 mA2 hp ?_
      refine N.iadd dX5_powerOf_34 ?_
      refine N.istore2 dX5_powerOf_35 rfl ?_
      refine N.aload0 dX5_powerOf_36 ?_
      refine N.getf dX5_powerOf_37 flX5_37 mO rfl ?_
      refine N.iload1 dX5_powerOf_40 ?_
      refine N.iald dX5_powerOf_41 mA0 hp ?_
      refine N.iconst (v := 5) dX5_powerOf_42 (by decide) ?_
      refine N.icmp_ne (tgt := 66) dX5_powerOf_43 (by decide) (fun c43 => ?_) (fun c43 => ?_)
      · refine N.iload2 dX5_powerOf_66 ?_
        exact N.iret dX5_powerOf_67 rfl (Nat.zero_le _) (Nat.zero_le _) ⟨_, rfl, (by rw [powM, if_pos c13, if_neg c24, if_neg c43]; exact ⟨rfl, rfl, rfl⟩)⟩
      · refine N.iload2 dX5_powerOf_46 ?_
        refine N.iconst (v := 2) dX5_powerOf_47 (by decide) ?_
        refine N.aload0 dX5_powerOf_48 ?_
        refine N.getf dX5_powerOf_49 flX5_116 mO rfl ?_
        refine N.iconst (v := 1) dX5_powerOf_52 (by decide) ?_
        refine N.iload1 dX5_powerOf_53 ?_
        refine N.ishl dX5_powerOf_54 ?_
        refine N.iconst (v := -1) dX5_powerOf_55 (by decide) ?_
        refine N.ixor dX5_powerOf_56 ?_
        refine N.iand dX5_powerOf_57 ?_
        refine N.si1 dX5_powerOf_58 vX5_bits lkX5_122 (s_X5_bits _ _ _) rfl (Nat.le_of_ble_eq_true rfl) (Nat.le_of_ble_eq_true rfl) (Nat.zero_le _) (Nat.zero_le _) ?_
        rintro _ _ _ ⟨rfl, rfl, rfl⟩
        refine N.imul dX5_powerOf_61 ?_
        refine N.iadd dX5_powerOf_62 ?_
        refine N.goto (tgt := 67) dX5_powerOf_63 (by decide) ?_
        exact N.iret dX5_powerOf_67 rfl (Nat.zero_le _) (Nat.zero_le _) ⟨_, rfl, (by rw [powM, if_pos c13, if_neg c24, if_pos c43]; exact ⟨rfl, rfl, rfl⟩)⟩
set_option maxRecDepth 100000 in
theorem l_X5_powerNow {K : Kx} (w : Wd) (b sz : Nat) (v : CV) (E : ME)   (P : Nat) (hP : P ≤ 10) (e : v.1 0 = nI P) : ∀ nn k, k + nn = P → N K mX5_powerNow 2 0 0 (Qi fun r w' sz' => r = (powAM v) ∧ w' = putM K w b (v, E) ∧ sz' = sz) 6 [some (.ref b), some (.int (pwM v k).1), some (.int (pwM v k).2), some (.int (nI k))] [] (putM K w b (v, E)) sz 0 0 := by
  have hnp := np_of e hP
  intro nn
  induction nn with
  | zero =>
    intro k hk
    obtain rfl : k = P := by omega
    refine N.iload3 dX5_powerNow_6 ?_
    refine N.aload0 dX5_powerNow_7 ?_
    refine N.getf dX5_powerNow_8 flX5_74 mO rfl ?_
    refine N.icmp_ge (tgt := 61) dX5_powerNow_11 (by decide) (fun c11 => ?_) (fun c11 => absurd (pl_ge (e) (by omega) (by omega)) c11)
    refine N.iload1 dX5_powerNow_61 ?_
    refine N.iload2 dX5_powerNow_62 ?_
    refine N.iconst (v := 2) dX5_powerNow_63 (by decide) ?_
    refine N.idiv dX5_powerNow_64 (by decide) ?_
    refine N.iadd dX5_powerNow_65 ?_
    refine N.aload0 dX5_powerNow_66 ?_
    refine N.getf dX5_powerNow_67 flX5_59 mO rfl ?_
    refine N.if_ne (tgt := 78) dX5_powerNow_70 (by decide) (fun c70 => ?_) (fun c70 => ?_)
    · refine N.iconst (v := 0) dX5_powerNow_78 (by decide) ?_
      refine N.iadd dX5_powerNow_79 ?_
      exact N.iret dX5_powerNow_80 rfl (Nat.zero_le _) (Nat.zero_le _) ⟨_, rfl, ⟨by rw [powAM, hnp, if_neg c70], rfl, rfl⟩⟩
    · refine N.bipush (v := 30) dX5_powerNow_73 (by decide) ?_
      refine N.goto (tgt := 79) dX5_powerNow_75 (by decide) ?_
      refine N.iadd dX5_powerNow_79 ?_
      exact N.iret dX5_powerNow_80 rfl (Nat.zero_le _) (Nat.zero_le _) ⟨_, rfl, ⟨by rw [powAM, hnp, if_pos c70], rfl, rfl⟩⟩
  | succ nn ih =>
    intro k hk
    have hp : vp_in (nI k) 10 := in10 (by omega)
    refine N.iload3 dX5_powerNow_6 ?_
    refine N.aload0 dX5_powerNow_7 ?_
    refine N.getf dX5_powerNow_8 flX5_74 mO rfl ?_
    refine N.icmp_ge (tgt := 61) dX5_powerNow_11 (by decide) (fun c11 => absurd c11 (pl_nge (e) (by omega) (by omega))) (fun c11 => ?_)
    refine N.aload0 dX5_powerNow_14 ?_
    refine N.getf dX5_powerNow_15 flX5_255 mO rfl ?_
    refine N.iload3 dX5_powerNow_18 ?_
    refine N.si2 dX5_powerNow_19 vX5_has lkX5_119 (s_X5_has _ _ _ _) rfl (Nat.le_of_ble_eq_true rfl) (Nat.le_of_ble_eq_true rfl) (Nat.zero_le _) (Nat.zero_le _) ?_
    rintro _ _ _ ⟨rfl, rfl, rfl⟩
    refine N.if_eq (tgt := 36) dX5_powerNow_22 (by decide) (fun c22 => ?_) (fun c22 => ?_)
    · refine N.aload0 dX5_powerNow_36 ?_
      refine N.getf dX5_powerNow_37 flX5_116 mO rfl ?_
      refine N.iload3 dX5_powerNow_40 ?_
      refine N.si2 dX5_powerNow_41 vX5_has lkX5_119 (s_X5_has _ _ _ _) rfl (Nat.le_of_ble_eq_true rfl) (Nat.le_of_ble_eq_true rfl) (Nat.zero_le _) (Nat.zero_le _) ?_
      rintro _ _ _ ⟨rfl, rfl, rfl⟩
      refine N.if_eq (tgt := 55) dX5_powerNow_44 (by decide) (fun c44 => ?_) (fun c44 => ?_)
      · refine N.iinc3 dX5_powerNow_55 rfl (nI_inc k) ?_
        refine N.goto (tgt := 6) dX5_powerNow_58 (by decide) ?_
        exact N.wk (by rw [pwM, if_pos c22, if_pos c44]; exact ⟨rfl, rfl, rfl, rfl, trivial⟩) (ih (k + 1) (by omega))
      · refine N.iload1 dX5_powerNow_47 ?_
        refine N.aload0 dX5_powerNow_48 ?_
        refine N.iload3 dX5_powerNow_49 ?_
        refine N.vi1 dX5_powerNow_50 vX5_powerOf lkX5_113 (s_X5_powerOf _ _ _ _ _ _ hp) mO rfl (Nat.le_of_ble_eq_true rfl) (Nat.le_of_ble_eq_true rfl) (Nat.zero_le _) (Nat.zero_le _) ?_
        rintro _ _ _ ⟨rfl, rfl, rfl⟩
        refine N.iadd dX5_powerNow_53 ?_
        refine N.istore1 dX5_powerNow_54 rfl ?_
        refine N.iinc3 dX5_powerNow_55 rfl (nI_inc k) ?_
        refine N.goto (tgt := 6) dX5_powerNow_58 (by decide) ?_
        exact N.wk (by rw [pwM, if_pos c22, if_neg c44]; exact ⟨rfl, rfl, rfl, rfl, trivial⟩) (ih (k + 1) (by omega))
    · refine N.iload2 dX5_powerNow_25 ?_
      refine N.aload0 dX5_powerNow_26 ?_
      refine N.iload3 dX5_powerNow_27 ?_
      refine N.vi1 dX5_powerNow_28 vX5_powerOf lkX5_113 (s_X5_powerOf _ _ _ _ _ _ hp) mO rfl (Nat.le_of_ble_eq_true rfl) (Nat.le_of_ble_eq_true rfl) (Nat.zero_le _) (Nat.zero_le _) ?_
      rintro _ _ _ ⟨rfl, rfl, rfl⟩
      refine N.iadd dX5_powerNow_31 ?_
      refine N.istore2 dX5_powerNow_32 rfl ?_
      refine N.goto (tgt := 55) dX5_powerNow_33 (by decide) ?_
      refine N.iinc3 dX5_powerNow_55 rfl (nI_inc k) ?_
      refine N.goto (tgt := 6) dX5_powerNow_58 (by decide) ?_
      exact N.wk (by rw [pwM, if_neg c22]; exact ⟨rfl, rfl, rfl, rfl, trivial⟩) (ih (k + 1) (by omega))
set_option maxRecDepth 100000 in
theorem s_X5_powerNow {K : Kx} (w : Wd) (b sz : Nat) (v : CV) (E : ME) (h : okP v)  : Sp K mX5_powerNow 2 0 0 [.ref b] (putM K w b (v, E)) sz (Qi fun r w' sz' => r = (powAM v) ∧ w' = putM K w b (v, E) ∧ sz' = sz) := by
  refine Sp.ofN [some (.ref b), none, none, none] rfl rfl rfl (Nat.le_of_ble_eq_true rfl) ?_
  refine N.iconst (v := 0) dX5_powerNow_0 (by decide) ?_
  refine N.istore1 dX5_powerNow_1 rfl ?_
  refine N.iconst (v := 0) dX5_powerNow_2 (by decide) ?_
  refine N.istore2 dX5_powerNow_3 rfl ?_
  refine N.iconst (v := 0) dX5_powerNow_4 (by decide) ?_
  refine N.istore3 dX5_powerNow_5 rfl ?_
  obtain ⟨P, hP, e⟩ := h
  exact N.wk (by exact ⟨rfl, rfl, rfl, rfl, trivial⟩) (l_X5_powerNow w b _ v E   P hP e P 0 (by omega))
set_option maxRecDepth 100000 in
theorem s_X5_oddsOurs {K : Kx} (w : Wd) (b sz : Nat) (v : CV) (E : ME) (h : okP v) : Sp K mX5_oddsOurs 3 0 0 [.ref b] (putM K w b (v, E)) sz (Qi fun r w' sz' => r = (oddsOF v (powAM v)) ∧ w' = putM K w b (v, E) ∧ sz' = sz) := by
  refine Sp.ofN [some (.ref b)] rfl rfl rfl (Nat.le_of_ble_eq_true rfl) ?_
  refine N.iconst (v := 2) dX5_oddsOurs_0 (by decide) ?_
  refine N.aload0 dX5_oddsOurs_1 ?_
  refine N.vi0 dX5_oddsOurs_2 vX5_powerNow lkX5_258 (s_X5_powerNow _ _ _ _ _ h) mO rfl (Nat.le_of_ble_eq_true rfl) (Nat.le_of_ble_eq_true rfl) (Nat.zero_le _) (Nat.zero_le _) ?_
  rintro _ _ _ ⟨rfl, rfl, rfl⟩
  refine N.imul dX5_oddsOurs_5 ?_
  refine N.aload0 dX5_oddsOurs_6 ?_
  refine N.getf dX5_oddsOurs_7 flX5_52 mO rfl ?_
  refine N.iconst (v := 1) dX5_oddsOurs_10 (by decide) ?_
  refine N.iadd dX5_oddsOurs_11 ?_
  refine N.imul dX5_oddsOurs_12 ?_
  refine N.iconst (v := 3) dX5_oddsOurs_13 (by decide) ?_
  refine N.idiv dX5_oddsOurs_14 (by decide) ?_
  exact N.iret dX5_oddsOurs_15 rfl (Nat.zero_le _) (Nat.zero_le _) ⟨_, rfl, ⟨rfl, rfl, rfl⟩⟩
set_option maxRecDepth 100000 in
theorem s_X5_oddsAgainst {K : Kx} (w : Wd) (b sz : Nat) (v : CV) (E : ME)  : Sp K mX5_oddsAgainst 0 0 0 [.ref b] (putM K w b (v, E)) sz (Qi fun r w' sz' => r = (oddsAF v) ∧ w' = putM K w b (v, E) ∧ sz' = sz) := by
  refine Sp.ofN [some (.ref b), none] rfl rfl rfl (Nat.le_of_ble_eq_true rfl) ?_
  refine N.iconst (v := 2) dX5_oddsAgainst_0 (by decide) ?_
  refine N.aload0 dX5_oddsAgainst_1 ?_
  refine N.getf dX5_oddsAgainst_2 flX5_56 mO rfl ?_
  refine N.imul dX5_oddsAgainst_5 ?_
  refine N.iconst (v := 3) dX5_oddsAgainst_6 (by decide) ?_
  refine N.aload0 dX5_oddsAgainst_7 ?_
  refine N.getf dX5_oddsAgainst_8 flX5_52 mO rfl ?_
  refine N.isub dX5_oddsAgainst_11 ?_
  refine N.imul dX5_oddsAgainst_12 ?_
  refine N.iconst (v := 3) dX5_oddsAgainst_13 (by decide) ?_
  refine N.idiv dX5_oddsAgainst_14 (by decide) ?_
  refine N.istore1 dX5_oddsAgainst_15 rfl ?_
  refine N.aload0 dX5_oddsAgainst_16 ?_
  refine N.getf dX5_oddsAgainst_17 flX5_59 mO rfl ?_
  refine N.if_ne (tgt := 29) dX5_oddsAgainst_20 (by decide) (fun c20 => ?_) (fun c20 => ?_)
  · refine N.iload1 dX5_oddsAgainst_29 ?_
    exact N.iret dX5_oddsAgainst_30 rfl (Nat.zero_le _) (Nat.zero_le _) ⟨_, rfl, ⟨(by first | (simp only [oddsAF, c20, ↓reduceIte]; done) | (simp_all [oddsAF]; done)), rfl, rfl⟩⟩
  · refine N.iconst (v := 5) dX5_oddsAgainst_23 (by decide) ?_
    refine N.iload1 dX5_oddsAgainst_24 ?_
    refine N.imul dX5_oddsAgainst_25 ?_
    refine N.goto (tgt := 30) dX5_oddsAgainst_26 (by decide) ?_
    exact N.iret dX5_oddsAgainst_30 rfl (Nat.zero_le _) (Nat.zero_le _) ⟨_, rfl, ⟨(by first | (simp only [oddsAF, c20, ↓reduceIte]; done) | (simp_all [oddsAF]; done)), rfl, rfl⟩⟩
def tirM (v : CV) (k : Nat) : Int32 := if bitF (v.1 1) (nI k) = 0 then rstM (v.2 0 (nI k).toNatClampNeg) (v.2 3 (nI k).toNatClampNeg) else if 100 ≤ v.2 3 (nI k).toNatClampNeg + tiresF (v.2 0 (nI k).toNatClampNeg) then 100 else v.2 3 (nI k).toNatClampNeg + tiresF (v.2 0 (nI k).toNatClampNeg)
def tmTo (v : CV) : Nat → CV
  | 0 => v
  | k + 1 => ((tmTo v k).1, upA (tmTo v k).2 3 (upd ((tmTo v k).2 3) (nI k).toNatClampNeg (tirM (tmTo v k) k)))
def tmV (v : CV) : CV := tmTo v (np v)
theorem tmTo_1 {v : CV} : ∀ k, (tmTo v k).1 = v.1
  | 0 => rfl
  | k + 1 => tmTo_1 k
theorem okP.tm {v : CV} (h : okP v) : okP (tmV v) := by
  unfold okP tmV at *
  rw [tmTo_1]; exact h
def cmV (v : CV) : CV := if v.1 2 = 0 then v else if v.1 3 - 1 = 0 then (upd (upd v.1 3 (v.1 3 - 1)) 2 0, v.2) else (upd (upd v.1 3 (v.1 3 - 1)) 2 (v.1 2), v.2)
theorem okP.cm {v : CV} (h : okP v) : okP (cmV v) := by
  unfold okP cmV at *
  split
  · exact h
  · split <;> simpa [upd] using h
set_option maxRecDepth 100000 in
theorem l_X5_tire {K : Kx} (w : Wd) (b sz : Nat) (v : CV) (E : ME)   (P : Nat) (hP : P ≤ 10) (e : v.1 0 = nI P) : ∀ nn k, k + nn = P → N K mX5_tire 1 0 0 (Qv fun w' sz' => w' = putM K w b (tmV v, E) ∧ sz' = sz) 2 [some (.ref b), some (.int (nI k)), none] [] (putM K w b (tmTo v k, E)) sz 0 0 := by
  have hnp := np_of e hP
  intro nn
  induction nn with
  | zero =>
    intro k hk
    obtain rfl : k = P := by omega
    refine N.iload1 dX5_tire_2 ?_
    refine N.aload0 dX5_tire_3 ?_
    refine N.getf dX5_tire_4 flX5_74 mO rfl ?_
    refine N.icmp_ge (tgt := 78) dX5_tire_7 (by decide) (fun c7 => ?_) (fun c7 => absurd (pl_ge (show (tmTo v k).1 0 = nI _ by rw [tmTo_1]; exact e) (by omega) (by omega)) c7)
    exact N.vret dX5_tire_78 rfl (Nat.zero_le _) (Nat.zero_le _) ⟨rfl, ⟨by rw [tmV, hnp], rfl⟩⟩
  | succ nn ih =>
    intro k hk
    have hp : vp_in (nI k) 10 := in10 (by omega)
    refine N.iload1 dX5_tire_2 ?_
    refine N.aload0 dX5_tire_3 ?_
    refine N.getf dX5_tire_4 flX5_74 mO rfl ?_
    refine N.icmp_ge (tgt := 78) dX5_tire_7 (by decide) (fun c7 => absurd c7 (pl_nge (show (tmTo v k).1 0 = nI _ by rw [tmTo_1]; exact e) (by omega) (by omega))) (fun c7 => ?_)
    refine N.aload0 dX5_tire_10 ?_
    refine N.getf dX5_tire_11 flX5_116 mO rfl ?_
    refine N.iload1 dX5_tire_14 ?_
    refine N.si2 dX5_tire_15 vX5_has lkX5_119 (s_X5_has _ _ _ _) rfl (Nat.le_of_ble_eq_true rfl) (Nat.le_of_ble_eq_true rfl) (Nat.zero_le _) (Nat.zero_le _) ?_
    rintro _ _ _ ⟨rfl, rfl, rfl⟩
    refine N.if_eq (tgt := 55) dX5_tire_18 (by decide) (fun c18 => ?_) (fun c18 => ?_)
    · refine N.aload0 dX5_tire_55 ?_
      refine N.getf dX5_tire_56 flX5_46 mO rfl ?_
      refine N.iload1 dX5_tire_59 ?_
      refine N.aload0 dX5_tire_60 ?_
      refine N.iload1 dX5_tire_61 ?_
      refine N.aload0 dX5_tire_62 ?_
      refine N.getf dX5_tire_63 flX5_46 mO rfl ?_
      refine N.iload1 dX5_tire_66 ?_
      refine N.iald dX5_tire_67 mA3 hp ?_
      refine N.vi2 dX5_tire_68 vX5_rested lkX5_261 (s_X5_rested _ _ _ _ _ _ _ hp) mO rfl (Nat.le_of_ble_eq_true rfl) (Nat.le_of_ble_eq_true rfl) (Nat.zero_le _) (Nat.zero_le _) ?_
      rintro _ _ _ ⟨rfl, rfl, rfl⟩
      refine N.iast dX5_tire_71 mA3 hp mK3 ?_
      refine N.iinc1 dX5_tire_72 rfl (nI_inc k) ?_
      refine N.goto (tgt := 2) dX5_tire_75 (by decide) ?_
      exact N.eqW (w' := putM K w b (tmTo v (k + 1), E)) (by rw [tmTo, tirM, if_pos c18]) (N.wk (by exact ⟨rfl, rfl, trivial⟩) (ih (k + 1) (by omega)))
    · refine N.aload0 dX5_tire_21 ?_
      refine N.getf dX5_tire_22 flX5_46 mO rfl ?_
      refine N.iload1 dX5_tire_25 ?_
      refine N.iald dX5_tire_26 mA3 hp ?_
      refine N.aload0 dX5_tire_27 ?_
      refine N.iload1 dX5_tire_28 ?_
      refine N.vi1 dX5_tire_29 vX5_tires lkX5_125 (s_X5_tires _ _ _ _ _ _ hp) mO rfl (Nat.le_of_ble_eq_true rfl) (Nat.le_of_ble_eq_true rfl) (Nat.zero_le _) (Nat.zero_le _) ?_
      rintro _ _ _ ⟨rfl, rfl, rfl⟩
      refine N.iadd dX5_tire_32 ?_
      refine N.istore2 dX5_tire_33 rfl ?_
      refine N.aload0 dX5_tire_34 ?_
      refine N.getf dX5_tire_35 flX5_46 mO rfl ?_
      refine N.iload1 dX5_tire_38 ?_
      refine N.iload2 dX5_tire_39 ?_
      refine N.bipush (v := 100) dX5_tire_40 (by decide) ?_
      refine N.icmp_ge (tgt := 49) dX5_tire_42 (by decide) (fun c42 => ?_) (fun c42 => ?_)
      · refine N.bipush (v := 100) dX5_tire_49 (by decide) ?_
        refine N.iast dX5_tire_51 mA3 hp mK3 ?_
        refine N.goto (tgt := 72) dX5_tire_52 (by decide) ?_
        refine N.iinc1 dX5_tire_72 rfl (nI_inc k) ?_
        refine N.goto (tgt := 2) dX5_tire_75 (by decide) ?_
        exact N.eqW (w' := putM K w b (tmTo v (k + 1), E)) (by rw [tmTo, tirM, if_neg c18, if_pos c42]) (N.wk (by exact ⟨rfl, rfl, trivial⟩) (ih (k + 1) (by omega)))
      · refine N.iload2 dX5_tire_45 ?_
        refine N.goto (tgt := 51) dX5_tire_46 (by decide) ?_
        refine N.iast dX5_tire_51 mA3 hp mK3 ?_
        refine N.goto (tgt := 72) dX5_tire_52 (by decide) ?_
        refine N.iinc1 dX5_tire_72 rfl (nI_inc k) ?_
        refine N.goto (tgt := 2) dX5_tire_75 (by decide) ?_
        exact N.eqW (w' := putM K w b (tmTo v (k + 1), E)) (by rw [tmTo, tirM, if_neg c18, if_neg c42]) (N.wk (by exact ⟨rfl, rfl, trivial⟩) (ih (k + 1) (by omega)))
set_option maxRecDepth 100000 in
theorem s_X5_tire {K : Kx} (w : Wd) (b sz : Nat) (v : CV) (E : ME) (h : okP v)  : Sp K mX5_tire 1 0 0 [.ref b] (putM K w b (v, E)) sz (Qv fun w' sz' => w' = putM K w b (tmV v, E) ∧ sz' = sz) := by
  refine Sp.ofN [some (.ref b), none, none] rfl rfl rfl (Nat.le_of_ble_eq_true rfl) ?_
  refine N.iconst (v := 0) dX5_tire_0 (by decide) ?_
  refine N.istore1 dX5_tire_1 rfl ?_
  obtain ⟨P, hP, e⟩ := h
  exact N.wk (by exact ⟨rfl, rfl, trivial⟩) (l_X5_tire w b _ v E   P hP e P 0 (by omega))
set_option maxRecDepth 100000 in
theorem s_X5_come {K : Kx} (w : Wd) (b sz : Nat) (v : CV) (E : ME)  : Sp K mX5_come 0 0 0 [.ref b] (putM K w b (v, E)) sz (Qv fun w' sz' => w' = putM K w b (cmV v, E) ∧ sz' = sz) := by
  refine Sp.ofN [some (.ref b)] rfl rfl rfl (Nat.le_of_ble_eq_true rfl) ?_
  refine N.aload0 dX5_come_0 ?_
  refine N.getf dX5_come_1 flX5_255 mO rfl ?_
  refine N.if_eq (tgt := 36) dX5_come_4 (by decide) (fun c4 => ?_) (fun c4 => ?_)
  · exact N.vret dX5_come_36 rfl (Nat.zero_le _) (Nat.zero_le _) ⟨rfl, ⟨(by rw [cmV, if_pos c4]), rfl⟩⟩
  · refine N.aload0 dX5_come_7 ?_
    refine N.dup dX5_come_8 rfl ?_
    refine N.getf dX5_come_9 flX5_265 mO rfl ?_
    refine N.iconst (v := 1) dX5_come_12 (by decide) ?_
    refine N.isub dX5_come_13 ?_
    refine N.putf dX5_come_14 flX5_265 mO (Nat.le_of_ble_eq_true rfl) (fun _ h => by cases h; rfl) rfl rfl mP3 ?_
    refine N.aload0 dX5_come_17 ?_
    refine N.aload0 dX5_come_18 ?_
    refine N.getf dX5_come_19 flX5_265 mO rfl ?_
    refine N.if_ne (tgt := 29) dX5_come_22 (by decide) (fun c22 => ?_) (fun c22 => ?_)
    · refine N.aload0 dX5_come_29 ?_
      refine N.getf dX5_come_30 flX5_255 mO rfl ?_
      refine N.putf dX5_come_33 flX5_255 mO (Nat.le_of_ble_eq_true rfl) (fun _ h => by cases h; rfl) rfl rfl mP2 ?_
      exact N.vret dX5_come_36 rfl (Nat.zero_le _) (Nat.zero_le _) ⟨rfl, ⟨(by rw [cmV, if_neg c4, if_neg (show ¬ v.1 3 - 1 = 0 from c22)]; try rfl), rfl⟩⟩
    · refine N.iconst (v := 0) dX5_come_25 (by decide) ?_
      refine N.goto (tgt := 33) dX5_come_26 (by decide) ?_
      refine N.putf dX5_come_33 flX5_255 mO (Nat.le_of_ble_eq_true rfl) (fun _ h => by cases h; rfl) rfl rfl mP2 ?_
      exact N.vret dX5_come_36 rfl (Nat.zero_le _) (Nat.zero_le _) ⟨rfl, ⟨(by rw [cmV, if_neg c4, if_pos (show  v.1 3 - 1 = 0 from c22)]; try rfl), rfl⟩⟩
set_option maxRecDepth 100000 in
theorem s_X5_below {K : Kx} (w : Wd) (b sz : Nat) (v : CV) (E : ME) (n : Int32) (hn0 : ¬ n = 0) : Sp K mX5_below 0 0 0 [.ref b, .int n] (putM K w b (v, E)) sz (Qi fun r w' sz' => r = (drawF v n) ∧ w' = putM K w b (drawV v, E) ∧ sz' = sz) := by
  refine Sp.ofN [some (.ref b), some (.int n)] rfl rfl rfl (Nat.le_of_ble_eq_true rfl) ?_
  refine N.aload0 dX5_below_0 ?_
  refine N.aload0 dX5_below_1 ?_
  refine N.getf dX5_below_2 flX5_62 mO rfl ?_
  refine N.ldcw dX5_below_5 ctX5_380 ?_
  refine N.imul dX5_below_8 ?_
  refine N.sipush (v := 12345) dX5_below_9 (by decide) ?_
  refine N.iadd dX5_below_12 ?_
  refine N.putf dX5_below_13 flX5_62 mO (Nat.le_of_ble_eq_true rfl) (fun _ h => by cases h; rfl) rfl rfl mP12 ?_
  refine N.aload0 dX5_below_16 ?_
  refine N.getf dX5_below_17 flX5_62 mO rfl ?_
  refine N.bipush (v := 16) dX5_below_20 (by decide) ?_
  refine N.iushr dX5_below_22 ?_
  refine N.iload1 dX5_below_23 ?_
  refine N.irem dX5_below_24 hn0 ?_
  exact N.iret dX5_below_25 rfl (Nat.zero_le _) (Nat.zero_le _) ⟨_, rfl, ⟨rfl, rfl, rfl⟩⟩
set_option maxRecDepth 100000 in
theorem s_X5_stand {K : Kx} (w : Wd) (b sz : Nat) (v : CV) (E : ME) (s : Int32)  : Sp K mX5_stand 0 0 0 [.ref b, .int s] (putM K w b (v, E)) sz (Qv fun w' sz' => w' = putM K w b (putOnV v s, E) ∧ sz' = sz) := by
  refine Sp.ofN [some (.ref b), some (.int s)] rfl rfl rfl (Nat.le_of_ble_eq_true rfl) ?_
  refine N.aload0 dX5_stand_0 ?_
  refine N.iload1 dX5_stand_1 ?_
  refine N.putf dX5_stand_2 flX5_116 mO (Nat.le_of_ble_eq_true rfl) (fun _ h => by cases h; rfl) rfl rfl mP1 ?_
  refine N.aload0 dX5_stand_5 ?_
  refine N.iconst (v := 0) dX5_stand_6 (by decide) ?_
  refine N.putf dX5_stand_7 flX5_255 mO (Nat.le_of_ble_eq_true rfl) (fun _ h => by cases h; rfl) rfl rfl mP2 ?_
  refine N.aload0 dX5_stand_10 ?_
  refine N.iconst (v := 0) dX5_stand_11 (by decide) ?_
  refine N.putf dX5_stand_12 flX5_265 mO (Nat.le_of_ble_eq_true rfl) (fun _ h => by cases h; rfl) rfl rfl mP3 ?_
  exact N.vret dX5_stand_15 rfl (Nat.zero_le _) (Nat.zero_le _) ⟨rfl, ⟨rfl, rfl⟩⟩
set_option maxRecDepth 100000 in
theorem s_X5_whistles {K : Kx} (w : Wd) (b sz : Nat) (v : CV) (E : ME) (l : Int32) (hl : vp_in l 4) : Sp K mX5_whistles 1 0 0 [.ref b, .int l] (putM K w b (v, E)) sz (Qv fun w' sz' => w' = putM K w b (putOnV v (v.2 4 l.toNatClampNeg), E) ∧ sz' = sz) := by
  refine Sp.ofN [some (.ref b), some (.int l)] rfl rfl rfl (Nat.le_of_ble_eq_true rfl) ?_
  refine N.aload0 dX5_whistles_0 ?_
  refine N.aload0 dX5_whistles_1 ?_
  refine N.getf dX5_whistles_2 flX5_49 mO rfl ?_
  refine N.iload1 dX5_whistles_5 ?_
  refine N.iald dX5_whistles_6 mA4 hl ?_
  refine N.vv1 dX5_whistles_7 vX5_stand lkX5_305 (s_X5_stand _ _ _ _ _ _) mO rfl (Nat.le_of_ble_eq_true rfl) (Nat.le_of_ble_eq_true rfl) (Nat.zero_le _) (Nat.zero_le _) ?_
  rintro _ _ ⟨rfl, rfl⟩
  exact N.vret dX5_whistles_10 rfl (Nat.zero_le _) (Nat.zero_le _) ⟨rfl, ⟨rfl, rfl⟩⟩
def offM (v : CV) (p : Int32) : CV := (upd (upd v.1 1 (offB (v.1 1) p)) 2 (offB (v.1 2) p), v.2)
set_option maxRecDepth 100000 in
theorem s_X5_sendOff {K : Kx} (w : Wd) (b sz : Nat) (v : CV) (E : ME) (p : Int32)  : Sp K mX5_sendOff 0 0 0 [.ref b, .int p] (putM K w b (v, E)) sz (Qv fun w' sz' => w' = putM K w b (offM v p, E) ∧ sz' = sz) := by
  refine Sp.ofN [some (.ref b), some (.int p)] rfl rfl rfl (Nat.le_of_ble_eq_true rfl) ?_
  refine N.aload0 dX5_sendOff_0 ?_
  refine N.dup dX5_sendOff_1 rfl ?_
  refine N.getf dX5_sendOff_2 flX5_116 mO rfl ?_
  refine N.iconst (v := 1) dX5_sendOff_5 (by decide) ?_
  refine N.iload1 dX5_sendOff_6 ?_
  refine N.ishl dX5_sendOff_7 ?_
  refine N.iconst (v := -1) dX5_sendOff_8 (by decide) ?_
  refine N.ixor dX5_sendOff_9 ?_
  refine N.iand dX5_sendOff_10 ?_
  refine N.putf dX5_sendOff_11 flX5_116 mO (Nat.le_of_ble_eq_true rfl) (fun _ h => by cases h; rfl) rfl rfl mP1 ?_
  refine N.aload0 dX5_sendOff_14 ?_
  refine N.dup dX5_sendOff_15 rfl ?_
  refine N.getf dX5_sendOff_16 flX5_255 mO rfl ?_
  refine N.iconst (v := 1) dX5_sendOff_19 (by decide) ?_
  refine N.iload1 dX5_sendOff_20 ?_
  refine N.ishl dX5_sendOff_21 ?_
  refine N.iconst (v := -1) dX5_sendOff_22 (by decide) ?_
  refine N.ixor dX5_sendOff_23 ?_
  refine N.iand dX5_sendOff_24 ?_
  refine N.putf dX5_sendOff_25 flX5_255 mO (Nat.le_of_ble_eq_true rfl) (fun _ h => by cases h; rfl) rfl rfl mP2 ?_
  exact N.vret dX5_sendOff_28 rfl (Nat.zero_le _) (Nat.zero_le _) ⟨rfl, ⟨rfl, rfl⟩⟩
def wmTo (v : CV) (l : Nat) : Nat → Int32
  | 0 => 3 + (if v.1 5 = 1 then 2 else 0) - (if v.1 4 = 2 then 2 else 0)
  | k + 1 => if bitF (v.1 1 &&& notI (v.2 4 l)) (nI k) = 0 then wmTo v l k - 0 else if v.2 0 (nI k).toNatClampNeg = 4 then wmTo v l k - 1 else if v.2 0 (nI k).toNatClampNeg = 5 then wmTo v l k - 1 else wmTo v l k - 0
def wayM (v : CV) (l : Int32) : Int32 := if v.2 4 l.toNatClampNeg &&& notI (v.1 1) = 0 then 0 else if wmTo v l.toNatClampNeg (np v) ≤ 1 then 1 else wmTo v l.toNatClampNeg (np v)
def chM (v : CV) (l : Int32) : CV := (upd (upd (upd v.1 2 (v.2 4 l.toNatClampNeg &&& notI (v.1 1))) 3 (wayM v l)) 1 (v.2 4 l.toNatClampNeg), v.2)
theorem okP.chm {v : CV} (h : okP v) (l : Int32) : okP (chM v l) := by
  unfold okP chM at *
  simpa [upd] using h
set_option maxRecDepth 100000 in
theorem l_X5_wayTo {K : Kx} (w : Wd) (b sz : Nat) (v : CV) (E : ME) (l : Int32) (hl : vp_in l 4) (hc : ¬ v.2 4 l.toNatClampNeg &&& notI (v.1 1) = 0) (P : Nat) (hP : P ≤ 10) (e : v.1 0 = nI P) : ∀ nn k, k + nn = P → N K mX5_wayTo 1 0 0 (Qi fun r w' sz' => r = (wayM v l) ∧ w' = putM K w b (v, E) ∧ sz' = sz) 50 [some (.ref b), some (.int l), some (.int (wmTo v l.toNatClampNeg k)), some (.int (nI k)), none] [] (putM K w b (v, E)) sz 0 0 := by
  have hnp := np_of e hP
  intro nn
  induction nn with
  | zero =>
    intro k hk
    obtain rfl : k = P := by omega
    refine N.iload3 dX5_wayTo_50 ?_
    refine N.aload0 dX5_wayTo_51 ?_
    refine N.getf dX5_wayTo_52 flX5_74 mO rfl ?_
    refine N.icmp_ge (tgt := 116) dX5_wayTo_55 (by decide) (fun c55 => ?_) (fun c55 => absurd (pl_ge e (by omega) (by omega)) c55)
    refine N.iload2 dX5_wayTo_116 ?_
    refine N.iconst (v := 1) dX5_wayTo_117 (by decide) ?_
    refine N.icmp_le (tgt := 125) dX5_wayTo_118 (by decide) (fun c118 => ?_) (fun c118 => ?_)
    · refine N.iconst (v := 1) dX5_wayTo_125 (by decide) ?_
      exact N.iret dX5_wayTo_126 rfl (Nat.zero_le _) (Nat.zero_le _) ⟨_, rfl, ⟨by rw [wayM, if_neg hc, hnp, if_pos c118], rfl, rfl⟩⟩
    · refine N.iload2 dX5_wayTo_121 ?_
      refine N.goto (tgt := 126) dX5_wayTo_122 (by decide) ?_
      exact N.iret dX5_wayTo_126 rfl (Nat.zero_le _) (Nat.zero_le _) ⟨_, rfl, ⟨by rw [wayM, if_neg hc, hnp, if_neg c118], rfl, rfl⟩⟩
  | succ nn ih =>
    intro k hk
    have hp : vp_in (nI k) 10 := in10 (by omega)
    refine N.iload3 dX5_wayTo_50 ?_
    refine N.aload0 dX5_wayTo_51 ?_
    refine N.getf dX5_wayTo_52 flX5_74 mO rfl ?_
    refine N.icmp_ge (tgt := 116) dX5_wayTo_55 (by decide) (fun c55 => absurd c55 (pl_nge e (by omega) (by omega))) (fun c55 => ?_)
    refine N.aload0 dX5_wayTo_58 ?_
    refine N.getf dX5_wayTo_59 flX5_116 mO rfl ?_
    refine N.aload0 dX5_wayTo_62 ?_
    refine N.getf dX5_wayTo_63 flX5_49 mO rfl ?_
    refine N.iload1 dX5_wayTo_66 ?_
    refine N.iald dX5_wayTo_67 mA4 hl ?_
    refine N.iconst (v := -1) dX5_wayTo_68 (by decide) ?_
    refine N.ixor dX5_wayTo_69 ?_
    refine N.iand dX5_wayTo_70 ?_
    refine N.iload3 dX5_wayTo_71 ?_
    refine N.si2 dX5_wayTo_72 vX5_has lkX5_119 (s_X5_has _ _ _ _) rfl (Nat.le_of_ble_eq_true rfl) (Nat.le_of_ble_eq_true rfl) (Nat.zero_le _) (Nat.zero_le _) ?_
    rintro _ _ _ ⟨rfl, rfl, rfl⟩
    refine N.istore4 dX5_wayTo_75 rfl ?_
    refine N.iload2 dX5_wayTo_77 ?_
    refine N.iload4 dX5_wayTo_78 ?_
    refine N.if_eq (tgt := 107) dX5_wayTo_80 (by decide) (fun c80 => ?_) (fun c80 => ?_)
    · refine N.iconst (v := 0) dX5_wayTo_107 (by decide) ?_
      refine N.isub dX5_wayTo_108 ?_
      refine N.istore2 dX5_wayTo_109 rfl ?_
      refine N.iinc3 dX5_wayTo_110 rfl (nI_inc k) ?_
      refine N.goto (tgt := 50) dX5_wayTo_113 (by decide) ?_
      exact N.wk (by rw [wmTo, if_pos (show bitF (v.1 1 &&& notI (v.2 4 l.toNatClampNeg)) (nI k) = 0 from c80)]; exact ⟨rfl, rfl, rfl, rfl, trivial⟩) (ih (k + 1) (by omega))
    · refine N.aload0 dX5_wayTo_83 ?_
      refine N.getf dX5_wayTo_84 flX5_37 mO rfl ?_
      refine N.iload3 dX5_wayTo_87 ?_
      refine N.iald dX5_wayTo_88 mA0 hp ?_
      refine N.iconst (v := 4) dX5_wayTo_89 (by decide) ?_
      refine N.icmp_eq (tgt := 103) dX5_wayTo_90 (by decide) (fun c90 => ?_) (fun c90 => ?_)
      · refine N.iconst (v := 1) dX5_wayTo_103 (by decide) ?_
        refine N.goto (tgt := 108) dX5_wayTo_104 (by decide) ?_
        refine N.isub dX5_wayTo_108 ?_
        refine N.istore2 dX5_wayTo_109 rfl ?_
        refine N.iinc3 dX5_wayTo_110 rfl (nI_inc k) ?_
        refine N.goto (tgt := 50) dX5_wayTo_113 (by decide) ?_
        exact N.wk (by rw [wmTo, if_neg (show ¬ bitF (v.1 1 &&& notI (v.2 4 l.toNatClampNeg)) (nI k) = 0 from c80), if_pos c90]; exact ⟨rfl, rfl, rfl, rfl, trivial⟩) (ih (k + 1) (by omega))
      · refine N.aload0 dX5_wayTo_93 ?_
        refine N.getf dX5_wayTo_94 flX5_37 mO rfl ?_
        refine N.iload3 dX5_wayTo_97 ?_
        refine N.iald dX5_wayTo_98 mA0 hp ?_
        refine N.iconst (v := 5) dX5_wayTo_99 (by decide) ?_
        refine N.icmp_ne (tgt := 107) dX5_wayTo_100 (by decide) (fun c100 => ?_) (fun c100 => ?_)
        · refine N.iconst (v := 0) dX5_wayTo_107 (by decide) ?_
          refine N.isub dX5_wayTo_108 ?_
          refine N.istore2 dX5_wayTo_109 rfl ?_
          refine N.iinc3 dX5_wayTo_110 rfl (nI_inc k) ?_
          refine N.goto (tgt := 50) dX5_wayTo_113 (by decide) ?_
          exact N.wk (by rw [wmTo, if_neg (show ¬ bitF (v.1 1 &&& notI (v.2 4 l.toNatClampNeg)) (nI k) = 0 from c80), if_neg c90, if_neg c100]; exact ⟨rfl, rfl, rfl, rfl, trivial⟩) (ih (k + 1) (by omega))
        · refine N.iconst (v := 1) dX5_wayTo_103 (by decide) ?_
          refine N.goto (tgt := 108) dX5_wayTo_104 (by decide) ?_
          refine N.isub dX5_wayTo_108 ?_
          refine N.istore2 dX5_wayTo_109 rfl ?_
          refine N.iinc3 dX5_wayTo_110 rfl (nI_inc k) ?_
          refine N.goto (tgt := 50) dX5_wayTo_113 (by decide) ?_
          exact N.wk (by rw [wmTo, if_neg (show ¬ bitF (v.1 1 &&& notI (v.2 4 l.toNatClampNeg)) (nI k) = 0 from c80), if_neg c90, if_pos c100]; exact ⟨rfl, rfl, rfl, rfl, trivial⟩) (ih (k + 1) (by omega))
set_option maxRecDepth 100000 in
theorem s_X5_wayTo {K : Kx} (w : Wd) (b sz : Nat) (v : CV) (E : ME) (l : Int32) (hl : vp_in l 4) (h : okP v) : Sp K mX5_wayTo 1 0 0 [.ref b, .int l] (putM K w b (v, E)) sz (Qi fun r w' sz' => r = (wayM v l) ∧ w' = putM K w b (v, E) ∧ sz' = sz) := by
  refine Sp.ofN [some (.ref b), some (.int l), none, none, none] rfl rfl rfl (Nat.le_of_ble_eq_true rfl) ?_
  refine N.aload0 dX5_wayTo_0 ?_
  refine N.getf dX5_wayTo_1 flX5_49 mO rfl ?_
  refine N.iload1 dX5_wayTo_4 ?_
  refine N.iald dX5_wayTo_5 mA4 hl ?_
  refine N.aload0 dX5_wayTo_6 ?_
  refine N.getf dX5_wayTo_7 flX5_116 mO rfl ?_
  refine N.iconst (v := -1) dX5_wayTo_10 (by decide) ?_
  refine N.ixor dX5_wayTo_11 ?_
  refine N.iand dX5_wayTo_12 ?_
  refine N.if_ne (tgt := 18) dX5_wayTo_13 (by decide) (fun c13 => ?_) (fun c13 => ?_)
  · refine N.iconst (v := 3) dX5_wayTo_18 (by decide) ?_
    refine N.aload0 dX5_wayTo_19 ?_
    refine N.getf dX5_wayTo_20 flX5_146 mO rfl ?_
    refine N.iconst (v := 1) dX5_wayTo_23 (by decide) ?_
    refine N.icmp_ne (tgt := 31) dX5_wayTo_24 (by decide) (fun c24 => ?_) (fun c24 => ?_)
    · refine N.iconst (v := 0) dX5_wayTo_31 (by decide) ?_
      refine N.iadd dX5_wayTo_32 ?_
      refine N.aload0 dX5_wayTo_33 ?_
      refine N.getf dX5_wayTo_34 flX5_52 mO rfl ?_
      refine N.iconst (v := 2) dX5_wayTo_37 (by decide) ?_
      refine N.icmp_ne (tgt := 45) dX5_wayTo_38 (by decide) (fun c38 => ?_) (fun c38 => ?_)
      · refine N.iconst (v := 0) dX5_wayTo_45 (by decide) ?_
        refine N.isub dX5_wayTo_46 ?_
        refine N.istore2 dX5_wayTo_47 rfl ?_
        refine N.iconst (v := 0) dX5_wayTo_48 (by decide) ?_
        refine N.istore3 dX5_wayTo_49 rfl ?_
        obtain ⟨P, hP, e⟩ := h
        exact N.wk (by rw [wmTo, if_neg c24, if_neg c38]; exact ⟨rfl, rfl, rfl, rfl, trivial⟩) (l_X5_wayTo w b _ v E l hl c13 P hP e P 0 (by omega))
      · refine N.iconst (v := 2) dX5_wayTo_41 (by decide) ?_
        refine N.goto (tgt := 46) dX5_wayTo_42 (by decide) ?_
        refine N.isub dX5_wayTo_46 ?_
        refine N.istore2 dX5_wayTo_47 rfl ?_
        refine N.iconst (v := 0) dX5_wayTo_48 (by decide) ?_
        refine N.istore3 dX5_wayTo_49 rfl ?_
        obtain ⟨P, hP, e⟩ := h
        exact N.wk (by rw [wmTo, if_neg c24, if_pos c38]; exact ⟨rfl, rfl, rfl, rfl, trivial⟩) (l_X5_wayTo w b _ v E l hl c13 P hP e P 0 (by omega))
    · refine N.iconst (v := 2) dX5_wayTo_27 (by decide) ?_
      refine N.goto (tgt := 32) dX5_wayTo_28 (by decide) ?_
      refine N.iadd dX5_wayTo_32 ?_
      refine N.aload0 dX5_wayTo_33 ?_
      refine N.getf dX5_wayTo_34 flX5_52 mO rfl ?_
      refine N.iconst (v := 2) dX5_wayTo_37 (by decide) ?_
      refine N.icmp_ne (tgt := 45) dX5_wayTo_38 (by decide) (fun c38 => ?_) (fun c38 => ?_)
      · refine N.iconst (v := 0) dX5_wayTo_45 (by decide) ?_
        refine N.isub dX5_wayTo_46 ?_
        refine N.istore2 dX5_wayTo_47 rfl ?_
        refine N.iconst (v := 0) dX5_wayTo_48 (by decide) ?_
        refine N.istore3 dX5_wayTo_49 rfl ?_
        obtain ⟨P, hP, e⟩ := h
        exact N.wk (by rw [wmTo, if_pos c24, if_neg c38]; exact ⟨rfl, rfl, rfl, rfl, trivial⟩) (l_X5_wayTo w b _ v E l hl c13 P hP e P 0 (by omega))
      · refine N.iconst (v := 2) dX5_wayTo_41 (by decide) ?_
        refine N.goto (tgt := 46) dX5_wayTo_42 (by decide) ?_
        refine N.isub dX5_wayTo_46 ?_
        refine N.istore2 dX5_wayTo_47 rfl ?_
        refine N.iconst (v := 0) dX5_wayTo_48 (by decide) ?_
        refine N.istore3 dX5_wayTo_49 rfl ?_
        obtain ⟨P, hP, e⟩ := h
        exact N.wk (by rw [wmTo, if_pos c24, if_pos c38]; exact ⟨rfl, rfl, rfl, rfl, trivial⟩) (l_X5_wayTo w b _ v E l hl c13 P hP e P 0 (by omega))
  · refine N.iconst (v := 0) dX5_wayTo_16 (by decide) ?_
    exact N.iret dX5_wayTo_17 rfl (Nat.zero_le _) (Nat.zero_le _) ⟨_, rfl, ⟨by rw [wayM, if_pos (show v.2 4 l.toNatClampNeg &&& notI (v.1 1) = 0 from c13)], rfl, rfl⟩⟩
set_option maxRecDepth 100000 in
theorem s_X5_changes {K : Kx} (w : Wd) (b sz : Nat) (v : CV) (E : ME) (l : Int32) (hl : vp_in l 4) (h : okP v) : Sp K mX5_changes 2 0 0 [.ref b, .int l] (putM K w b (v, E)) sz (Qi fun r w' sz' => r = (wayM v l) ∧ w' = putM K w b (chM v l, E) ∧ sz' = sz) := by
  refine Sp.ofN [some (.ref b), some (.int l), none] rfl rfl rfl (Nat.le_of_ble_eq_true rfl) ?_
  refine N.aload0 dX5_changes_0 ?_
  refine N.iload1 dX5_changes_1 ?_
  refine N.vi1 dX5_changes_2 vX5_wayTo lkX5_302 (s_X5_wayTo _ _ _ _ _ _ hl h) mO rfl (Nat.le_of_ble_eq_true rfl) (Nat.le_of_ble_eq_true rfl) (Nat.zero_le _) (Nat.zero_le _) ?_
  rintro _ _ _ ⟨rfl, rfl, rfl⟩
  refine N.istore2 dX5_changes_5 rfl ?_
  refine N.aload0 dX5_changes_6 ?_
  refine N.aload0 dX5_changes_7 ?_
  refine N.getf dX5_changes_8 flX5_49 mO rfl ?_
  refine N.iload1 dX5_changes_11 ?_
  refine N.iald dX5_changes_12 mA4 hl ?_
  refine N.aload0 dX5_changes_13 ?_
  refine N.getf dX5_changes_14 flX5_116 mO rfl ?_
  refine N.iconst (v := -1) dX5_changes_17 (by decide) ?_
  refine N.ixor dX5_changes_18 ?_
  refine N.iand dX5_changes_19 ?_
  refine N.putf dX5_changes_20 flX5_255 mO (Nat.le_of_ble_eq_true rfl) (fun _ h => by cases h; rfl) rfl rfl mP2 ?_
  refine N.aload0 dX5_changes_23 ?_
  refine N.iload2 dX5_changes_24 ?_
  refine N.putf dX5_changes_25 flX5_265 mO (Nat.le_of_ble_eq_true rfl) (fun _ h => by cases h; rfl) rfl rfl mP3 ?_
  refine N.aload0 dX5_changes_28 ?_
  refine N.aload0 dX5_changes_29 ?_
  refine N.getf dX5_changes_30 flX5_49 mO rfl ?_
  refine N.iload1 dX5_changes_33 ?_
  refine N.iald dX5_changes_34 mA4 hl ?_
  refine N.putf dX5_changes_35 flX5_116 mO (Nat.le_of_ble_eq_true rfl) (fun _ h => by cases h; rfl) rfl rfl mP1 ?_
  refine N.iload2 dX5_changes_38 ?_
  exact N.iret dX5_changes_39 rfl (Nat.zero_le _) (Nat.zero_le _) ⟨_, rfl, ⟨rfl, rfl, rfl⟩⟩
def tdTo (v : CV) (l : Nat) : Nat → Int32
  | 0 => 0
  | k + 1 => if bitF (v.2 4 l) (nI k) = 0 then tdTo v l k + 0 else tdTo v l k + v.2 3 (nI k).toNatClampNeg
def tdM (v : CV) (l : Int32) : Int32 := tdTo v l.toNatClampNeg (np v)
set_option maxRecDepth 100000 in
theorem l_X5_tiredOf {K : Kx} (w : Wd) (b sz : Nat) (v : CV) (E : ME) (l : Int32) (hl : vp_in l 4) (P : Nat) (hP : P ≤ 10) (e : v.1 0 = nI P) : ∀ nn k, k + nn = P → N K mX5_tiredOf 1 0 0 (Qi fun r w' sz' => r = (tdM v l) ∧ w' = putM K w b (v, E) ∧ sz' = sz) 4 [some (.ref b), some (.int l), some (.int (tdTo v l.toNatClampNeg k)), some (.int (nI k))] [] (putM K w b (v, E)) sz 0 0 := by
  have hnp := np_of e hP
  intro nn
  induction nn with
  | zero =>
    intro k hk
    obtain rfl : k = P := by omega
    refine N.iload3 dX5_tiredOf_4 ?_
    refine N.aload0 dX5_tiredOf_5 ?_
    refine N.getf dX5_tiredOf_6 flX5_74 mO rfl ?_
    refine N.icmp_ge (tgt := 44) dX5_tiredOf_9 (by decide) (fun c9 => ?_) (fun c9 => absurd (pl_ge (e) (by omega) (by omega)) c9)
    refine N.iload2 dX5_tiredOf_44 ?_
    exact N.iret dX5_tiredOf_45 rfl (Nat.zero_le _) (Nat.zero_le _) ⟨_, rfl, ⟨by rw [tdM, hnp], rfl, rfl⟩⟩
  | succ nn ih =>
    intro k hk
    have hp : vp_in (nI k) 10 := in10 (by omega)
    refine N.iload3 dX5_tiredOf_4 ?_
    refine N.aload0 dX5_tiredOf_5 ?_
    refine N.getf dX5_tiredOf_6 flX5_74 mO rfl ?_
    refine N.icmp_ge (tgt := 44) dX5_tiredOf_9 (by decide) (fun c9 => absurd c9 (pl_nge (e) (by omega) (by omega))) (fun c9 => ?_)
    refine N.iload2 dX5_tiredOf_12 ?_
    refine N.aload0 dX5_tiredOf_13 ?_
    refine N.getf dX5_tiredOf_14 flX5_49 mO rfl ?_
    refine N.iload1 dX5_tiredOf_17 ?_
    refine N.iald dX5_tiredOf_18 mA4 hl ?_
    refine N.iload3 dX5_tiredOf_19 ?_
    refine N.si2 dX5_tiredOf_20 vX5_has lkX5_119 (s_X5_has _ _ _ _) rfl (Nat.le_of_ble_eq_true rfl) (Nat.le_of_ble_eq_true rfl) (Nat.zero_le _) (Nat.zero_le _) ?_
    rintro _ _ _ ⟨rfl, rfl, rfl⟩
    refine N.if_eq (tgt := 35) dX5_tiredOf_23 (by decide) (fun c23 => ?_) (fun c23 => ?_)
    · refine N.iconst (v := 0) dX5_tiredOf_35 (by decide) ?_
      refine N.iadd dX5_tiredOf_36 ?_
      refine N.istore2 dX5_tiredOf_37 rfl ?_
      refine N.iinc3 dX5_tiredOf_38 rfl (nI_inc k) ?_
      refine N.goto (tgt := 4) dX5_tiredOf_41 (by decide) ?_
      exact N.wk (by rw [tdTo, if_pos c23]; exact ⟨rfl, rfl, rfl, rfl, trivial⟩) (ih (k + 1) (by omega))
    · refine N.aload0 dX5_tiredOf_26 ?_
      refine N.getf dX5_tiredOf_27 flX5_46 mO rfl ?_
      refine N.iload3 dX5_tiredOf_30 ?_
      refine N.iald dX5_tiredOf_31 mA3 hp ?_
      refine N.goto (tgt := 36) dX5_tiredOf_32 (by decide) ?_
      refine N.iadd dX5_tiredOf_36 ?_
      refine N.istore2 dX5_tiredOf_37 rfl ?_
      refine N.iinc3 dX5_tiredOf_38 rfl (nI_inc k) ?_
      refine N.goto (tgt := 4) dX5_tiredOf_41 (by decide) ?_
      exact N.wk (by rw [tdTo, if_neg c23]; exact ⟨rfl, rfl, rfl, rfl, trivial⟩) (ih (k + 1) (by omega))
set_option maxRecDepth 100000 in
theorem s_X5_tiredOf {K : Kx} (w : Wd) (b sz : Nat) (v : CV) (E : ME) (l : Int32) (h : okP v) (hl : vp_in l 4) : Sp K mX5_tiredOf 1 0 0 [.ref b, .int l] (putM K w b (v, E)) sz (Qi fun r w' sz' => r = (tdM v l) ∧ w' = putM K w b (v, E) ∧ sz' = sz) := by
  refine Sp.ofN [some (.ref b), some (.int l), none, none] rfl rfl rfl (Nat.le_of_ble_eq_true rfl) ?_
  refine N.iconst (v := 0) dX5_tiredOf_0 (by decide) ?_
  refine N.istore2 dX5_tiredOf_1 rfl ?_
  refine N.iconst (v := 0) dX5_tiredOf_2 (by decide) ?_
  refine N.istore3 dX5_tiredOf_3 rfl ?_
  obtain ⟨P, hP, e⟩ := h
  exact N.wk (by exact ⟨rfl, rfl, rfl, rfl, trivial⟩) (l_X5_tiredOf w b _ v E l hl P hP e P 0 (by omega))
def nlF (v : CV) : Int32 := if v.2 4 0 = 0 then (if v.2 4 1 = 0 then (if v.2 4 2 = 0 then (if v.2 4 3 = 0 then 1 else 0) else 0) else 0) else 0
set_option maxRecDepth 100000 in
theorem s_X5_noLines {K : Kx} (w : Wd) (b sz : Nat) (v : CV) (E : ME)  : Sp K mX5_noLines 0 0 0 [.ref b] (putM K w b (v, E)) sz (Qi fun r w' sz' => r = (nlF v) ∧ w' = putM K w b (v, E) ∧ sz' = sz) := by
  refine Sp.ofN [some (.ref b), none] rfl rfl rfl (Nat.le_of_ble_eq_true rfl) ?_
  refine N.iconst (v := 0) dX5_noLines_0 (by decide) ?_
  refine N.istore1 dX5_noLines_1 rfl ?_
  refine N.iload1 dX5_noLines_2 ?_
  refine N.iconst (v := 4) dX5_noLines_3 (by decide) ?_
  refine N.icmp_ge (tgt := 24) dX5_noLines_4 (by decide) (fun c4 => absurd c4 (by decide)) (fun c4 => ?_)
  refine N.aload0 dX5_noLines_7 ?_
  refine N.getf dX5_noLines_8 flX5_49 mO rfl ?_
  refine N.iload1 dX5_noLines_11 ?_
  refine N.iald dX5_noLines_12 mA4 (vp_in_nI (n := 0) (by decide) (by decide)) ?_
  refine N.if_eq (tgt := 18) dX5_noLines_13 (by decide) (fun c13 => ?_) (fun c13 => ?_)
  · refine N.iinc1 (v := 1) dX5_noLines_18 rfl (by decide) ?_
    refine N.goto (tgt := 2) dX5_noLines_21 (by decide) ?_
    refine N.iload1 dX5_noLines_2 ?_
    refine N.iconst (v := 4) dX5_noLines_3 (by decide) ?_
    refine N.icmp_ge (tgt := 24) dX5_noLines_4 (by decide) (fun c4 => absurd c4 (by decide)) (fun c4 => ?_)
    refine N.aload0 dX5_noLines_7 ?_
    refine N.getf dX5_noLines_8 flX5_49 mO rfl ?_
    refine N.iload1 dX5_noLines_11 ?_
    refine N.iald dX5_noLines_12 mA4 (vp_in_nI (n := 1) (by decide) (by decide)) ?_
    refine N.if_eq (tgt := 18) dX5_noLines_13 (by decide) (fun c13 => ?_) (fun c13 => ?_)
    · refine N.iinc1 (v := 2) dX5_noLines_18 rfl (by decide) ?_
      refine N.goto (tgt := 2) dX5_noLines_21 (by decide) ?_
      refine N.iload1 dX5_noLines_2 ?_
      refine N.iconst (v := 4) dX5_noLines_3 (by decide) ?_
      refine N.icmp_ge (tgt := 24) dX5_noLines_4 (by decide) (fun c4 => absurd c4 (by decide)) (fun c4 => ?_)
      refine N.aload0 dX5_noLines_7 ?_
      refine N.getf dX5_noLines_8 flX5_49 mO rfl ?_
      refine N.iload1 dX5_noLines_11 ?_
      refine N.iald dX5_noLines_12 mA4 (vp_in_nI (n := 2) (by decide) (by decide)) ?_
      refine N.if_eq (tgt := 18) dX5_noLines_13 (by decide) (fun c13 => ?_) (fun c13 => ?_)
      · refine N.iinc1 (v := 3) dX5_noLines_18 rfl (by decide) ?_
        refine N.goto (tgt := 2) dX5_noLines_21 (by decide) ?_
        refine N.iload1 dX5_noLines_2 ?_
        refine N.iconst (v := 4) dX5_noLines_3 (by decide) ?_
        refine N.icmp_ge (tgt := 24) dX5_noLines_4 (by decide) (fun c4 => absurd c4 (by decide)) (fun c4 => ?_)
        refine N.aload0 dX5_noLines_7 ?_
        refine N.getf dX5_noLines_8 flX5_49 mO rfl ?_
        refine N.iload1 dX5_noLines_11 ?_
        refine N.iald dX5_noLines_12 mA4 (vp_in_nI (n := 3) (by decide) (by decide)) ?_
        refine N.if_eq (tgt := 18) dX5_noLines_13 (by decide) (fun c13 => ?_) (fun c13 => ?_)
        · refine N.iinc1 (v := 4) dX5_noLines_18 rfl (by decide) ?_
          refine N.goto (tgt := 2) dX5_noLines_21 (by decide) ?_
          refine N.iload1 dX5_noLines_2 ?_
          refine N.iconst (v := 4) dX5_noLines_3 (by decide) ?_
          refine N.icmp_ge (tgt := 24) dX5_noLines_4 (by decide) (fun c4 => ?_) (fun c4 => absurd (by decide) c4)
          refine N.iconst (v := 1) dX5_noLines_24 (by decide) ?_
          exact N.zret dX5_noLines_25 rfl rfl (Nat.zero_le _) (Nat.zero_le _) ⟨_, rfl, ⟨(by first | (simp only [nlF, c13, c13, c13, c13, ↓reduceIte]; done) | (simp_all [nlF]; done)), rfl, rfl⟩⟩
        · refine N.iconst (v := 0) dX5_noLines_16 (by decide) ?_
          exact N.zret dX5_noLines_17 rfl rfl (Nat.zero_le _) (Nat.zero_le _) ⟨_, rfl, ⟨(by first | (simp only [nlF, c13, c13, c13, c13, ↓reduceIte]; done) | (simp_all [nlF]; done)), rfl, rfl⟩⟩
      · refine N.iconst (v := 0) dX5_noLines_16 (by decide) ?_
        exact N.zret dX5_noLines_17 rfl rfl (Nat.zero_le _) (Nat.zero_le _) ⟨_, rfl, ⟨(by first | (simp only [nlF, c13, c13, c13, ↓reduceIte]; done) | (simp_all [nlF]; done)), rfl, rfl⟩⟩
    · refine N.iconst (v := 0) dX5_noLines_16 (by decide) ?_
      exact N.zret dX5_noLines_17 rfl rfl (Nat.zero_le _) (Nat.zero_le _) ⟨_, rfl, ⟨(by first | (simp only [nlF, c13, c13, ↓reduceIte]; done) | (simp_all [nlF]; done)), rfl, rfl⟩⟩
  · refine N.iconst (v := 0) dX5_noLines_16 (by decide) ?_
    exact N.zret dX5_noLines_17 rfl rfl (Nat.zero_le _) (Nat.zero_le _) ⟨_, rfl, ⟨(by first | (simp only [nlF, c13, ↓reduceIte]; done) | (simp_all [nlF]; done)), rfl, rfl⟩⟩
